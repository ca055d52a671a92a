section
-- ===== PART A: goes FIRST, ahead of the names: the tables' words, and 'selects' of the private methods out of them =====
/-- a private method of a class that the tables say can be made, by its rows of tables_1 -/
def lw_okq (q : MethodName × Nat) : Prop := (q.1.cls ≠ "java/lang/invoke/MethodHandle" ∧ q.1.cls ≠ "java/lang/invoke/VarHandle") ∧ Cond.instantiable q.1.cls q.2 ∈ tables_1 ∧ Cond.privateMethod q.1 ∈ tables_1 ∧ Cond.instanceMethod q.1 ∈ tables_1
theorem lw_p0 : lw_okq (⟨"MarkedProof$SheetReader", "addWord", "(JI)V"⟩, 1) := ⟨⟨by decide +kernel, by decide +kernel⟩, List.mem_of_getElem? (i := 188) (by decide +kernel), List.mem_of_getElem? (i := 401) (by decide +kernel), List.mem_of_getElem? (i := 402) (by decide +kernel)⟩
theorem lw_p1 : lw_okq (⟨"MarkedProof", "settle", "()V"⟩, 12) := ⟨⟨by decide +kernel, by decide +kernel⟩, List.mem_of_getElem? (i := 25) (by decide +kernel), List.mem_of_getElem? (i := 527) (by decide +kernel), List.mem_of_getElem? (i := 528) (by decide +kernel)⟩
theorem lw_p2 : lw_okq (⟨"MarkedProof$Pile", "markAt", "(I)LMarkedProof$Mark;"⟩, 6) := ⟨⟨by decide +kernel, by decide +kernel⟩, List.mem_of_getElem? (i := 86) (by decide +kernel), List.mem_of_getElem? (i := 539) (by decide +kernel), List.mem_of_getElem? (i := 540) (by decide +kernel)⟩
theorem lw_p3 : lw_okq (⟨"MarkedProof$Pile", "firstDoneThatMeets", "(LMarkedProof$Mark;)I"⟩, 6) := ⟨⟨by decide +kernel, by decide +kernel⟩, List.mem_of_getElem? (i := 86) (by decide +kernel), List.mem_of_getElem? (i := 555) (by decide +kernel), List.mem_of_getElem? (i := 556) (by decide +kernel)⟩
theorem lw_p4 : lw_okq (⟨"MarkedProof$Mark", "fitsInside", "(II)Z"⟩, 13) := ⟨⟨by decide +kernel, by decide +kernel⟩, List.mem_of_getElem? (i := 93) (by decide +kernel), List.mem_of_getElem? (i := 567) (by decide +kernel), List.mem_of_getElem? (i := 568) (by decide +kernel)⟩
theorem lw_p5 : lw_okq (⟨"MarkedProof$Pile", "listDone", "()V"⟩, 6) := ⟨⟨by decide +kernel, by decide +kernel⟩, List.mem_of_getElem? (i := 86) (by decide +kernel), List.mem_of_getElem? (i := 575) (by decide +kernel), List.mem_of_getElem? (i := 576) (by decide +kernel)⟩
theorem lw_p6 : lw_okq (⟨"MarkedProof$Setter", "setGap", "(II)V"⟩, 5) := ⟨⟨by decide +kernel, by decide +kernel⟩, List.mem_of_getElem? (i := 229) (by decide +kernel), List.mem_of_getElem? (i := 593) (by decide +kernel), List.mem_of_getElem? (i := 594) (by decide +kernel)⟩
theorem lw_p7 : lw_okq (⟨"MarkedProof$Setter", "takenAt", "(I)LMarkedProof$Mark;"⟩, 5) := ⟨⟨by decide +kernel, by decide +kernel⟩, List.mem_of_getElem? (i := 229) (by decide +kernel), List.mem_of_getElem? (i := 597) (by decide +kernel), List.mem_of_getElem? (i := 598) (by decide +kernel)⟩
theorem lw_p8 : lw_okq (⟨"MarkedProof$Setter", "isOpen", "(I)Z"⟩, 5) := ⟨⟨by decide +kernel, by decide +kernel⟩, List.mem_of_getElem? (i := 229) (by decide +kernel), List.mem_of_getElem? (i := 601) (by decide +kernel), List.mem_of_getElem? (i := 602) (by decide +kernel)⟩
theorem lw_p9 : lw_okq (⟨"MarkedProof$Setter", "mind", "(IZ)V"⟩, 5) := ⟨⟨by decide +kernel, by decide +kernel⟩, List.mem_of_getElem? (i := 229) (by decide +kernel), List.mem_of_getElem? (i := 606) (by decide +kernel), List.mem_of_getElem? (i := 607) (by decide +kernel)⟩
theorem lw_p10 : lw_okq (⟨"MarkedProof$Setter", "setRow", "(III)V"⟩, 5) := ⟨⟨by decide +kernel, by decide +kernel⟩, List.mem_of_getElem? (i := 229) (by decide +kernel), List.mem_of_getElem? (i := 610) (by decide +kernel), List.mem_of_getElem? (i := 611) (by decide +kernel)⟩
theorem lw_p11 : lw_okq (⟨"MarkedProof$Setter", "setPiece", "(II)I"⟩, 5) := ⟨⟨by decide +kernel, by decide +kernel⟩, List.mem_of_getElem? (i := 229) (by decide +kernel), List.mem_of_getElem? (i := 614) (by decide +kernel), List.mem_of_getElem? (i := 615) (by decide +kernel)⟩
theorem lw_p12 : lw_okq (⟨"MarkedProof$Setter", "outermostAt", "(I)I"⟩, 5) := ⟨⟨by decide +kernel, by decide +kernel⟩, List.mem_of_getElem? (i := 229) (by decide +kernel), List.mem_of_getElem? (i := 618) (by decide +kernel), List.mem_of_getElem? (i := 619) (by decide +kernel)⟩
theorem lw_p13 : lw_okq (⟨"MarkedProof$MarkReader", "readToken", "()V"⟩, 7) := ⟨⟨by decide +kernel, by decide +kernel⟩, List.mem_of_getElem? (i := 201) (by decide +kernel), List.mem_of_getElem? (i := 638) (by decide +kernel), List.mem_of_getElem? (i := 639) (by decide +kernel)⟩
theorem lw_p14 : lw_okq (⟨"MarkedProof$MarkReader", "skipBlanks", "()V"⟩, 7) := ⟨⟨by decide +kernel, by decide +kernel⟩, List.mem_of_getElem? (i := 201) (by decide +kernel), List.mem_of_getElem? (i := 642) (by decide +kernel), List.mem_of_getElem? (i := 643) (by decide +kernel)⟩
theorem lw_p15 : lw_okq (⟨"MarkedProof$MarkReader", "readLine", "()Z"⟩, 7) := ⟨⟨by decide +kernel, by decide +kernel⟩, List.mem_of_getElem? (i := 201) (by decide +kernel), List.mem_of_getElem? (i := 653) (by decide +kernel), List.mem_of_getElem? (i := 654) (by decide +kernel)⟩
def lw_privs_1 : List (MethodName × Nat) := [(⟨"MarkedProof$SheetReader", "addWord", "(JI)V"⟩, 1), (⟨"MarkedProof", "settle", "()V"⟩, 12), (⟨"MarkedProof$Pile", "markAt", "(I)LMarkedProof$Mark;"⟩, 6), (⟨"MarkedProof$Pile", "firstDoneThatMeets", "(LMarkedProof$Mark;)I"⟩, 6), (⟨"MarkedProof$Mark", "fitsInside", "(II)Z"⟩, 13), (⟨"MarkedProof$Pile", "listDone", "()V"⟩, 6), (⟨"MarkedProof$Setter", "setGap", "(II)V"⟩, 5), (⟨"MarkedProof$Setter", "takenAt", "(I)LMarkedProof$Mark;"⟩, 5), (⟨"MarkedProof$Setter", "isOpen", "(I)Z"⟩, 5), (⟨"MarkedProof$Setter", "mind", "(IZ)V"⟩, 5), (⟨"MarkedProof$Setter", "setRow", "(III)V"⟩, 5), (⟨"MarkedProof$Setter", "setPiece", "(II)I"⟩, 5), (⟨"MarkedProof$Setter", "outermostAt", "(I)I"⟩, 5), (⟨"MarkedProof$MarkReader", "readToken", "()V"⟩, 7), (⟨"MarkedProof$MarkReader", "skipBlanks", "()V"⟩, 7), (⟨"MarkedProof$MarkReader", "readLine", "()Z"⟩, 7)]
theorem lw_r1 : ∀ q ∈ lw_privs_1, lw_okq q := List.forall_mem_cons.mpr ⟨lw_p0, List.forall_mem_cons.mpr ⟨lw_p1, List.forall_mem_cons.mpr ⟨lw_p2, List.forall_mem_cons.mpr ⟨lw_p3, List.forall_mem_cons.mpr ⟨lw_p4, List.forall_mem_cons.mpr ⟨lw_p5, List.forall_mem_cons.mpr ⟨lw_p6, List.forall_mem_cons.mpr ⟨lw_p7, List.forall_mem_cons.mpr ⟨lw_p8, List.forall_mem_cons.mpr ⟨lw_p9, List.forall_mem_cons.mpr ⟨lw_p10, List.forall_mem_cons.mpr ⟨lw_p11, List.forall_mem_cons.mpr ⟨lw_p12, List.forall_mem_cons.mpr ⟨lw_p13, List.forall_mem_cons.mpr ⟨lw_p14, List.forall_mem_cons.mpr ⟨lw_p15, fun _ h => absurd h List.not_mem_nil⟩⟩⟩⟩⟩⟩⟩⟩⟩⟩⟩⟩⟩⟩⟩⟩
theorem lw_p16 : lw_okq (⟨"MarkedProof$MarkReader", "handNamed", "()I"⟩, 7) := ⟨⟨by decide +kernel, by decide +kernel⟩, List.mem_of_getElem? (i := 201) (by decide +kernel), List.mem_of_getElem? (i := 657) (by decide +kernel), List.mem_of_getElem? (i := 658) (by decide +kernel)⟩
theorem lw_p17 : lw_okq (⟨"MarkedProof$MarkReader", "isToken", "(Ljava/lang/String;)Z"⟩, 7) := ⟨⟨by decide +kernel, by decide +kernel⟩, List.mem_of_getElem? (i := 201) (by decide +kernel), List.mem_of_getElem? (i := 662) (by decide +kernel), List.mem_of_getElem? (i := 663) (by decide +kernel)⟩
theorem lw_p18 : lw_okq (⟨"MarkedProof$MarkReader", "refuse", "(I)Z"⟩, 7) := ⟨⟨by decide +kernel, by decide +kernel⟩, List.mem_of_getElem? (i := 201) (by decide +kernel), List.mem_of_getElem? (i := 689) (by decide +kernel), List.mem_of_getElem? (i := 690) (by decide +kernel)⟩
theorem lw_p19 : lw_okq (⟨"MarkedProof$MarkReader", "kindNamed", "()I"⟩, 7) := ⟨⟨by decide +kernel, by decide +kernel⟩, List.mem_of_getElem? (i := 201) (by decide +kernel), List.mem_of_getElem? (i := 704) (by decide +kernel), List.mem_of_getElem? (i := 705) (by decide +kernel)⟩
theorem lw_p20 : lw_okq (⟨"MarkedProof$MarkReader", "readNumbers", "(LMarkedProof$Mark;)Z"⟩, 7) := ⟨⟨by decide +kernel, by decide +kernel⟩, List.mem_of_getElem? (i := 201) (by decide +kernel), List.mem_of_getElem? (i := 714) (by decide +kernel), List.mem_of_getElem? (i := 715) (by decide +kernel)⟩
theorem lw_p21 : lw_okq (⟨"MarkedProof$MarkReader", "numberRead", "()I"⟩, 7) := ⟨⟨by decide +kernel, by decide +kernel⟩, List.mem_of_getElem? (i := 201) (by decide +kernel), List.mem_of_getElem? (i := 720) (by decide +kernel), List.mem_of_getElem? (i := 721) (by decide +kernel)⟩
theorem lw_p22 : lw_okq (⟨"MarkedProof$MarkReader", "mayBegin", "(LMarkedProof$Mark;I)Z"⟩, 7) := ⟨⟨by decide +kernel, by decide +kernel⟩, List.mem_of_getElem? (i := 201) (by decide +kernel), List.mem_of_getElem? (i := 728) (by decide +kernel), List.mem_of_getElem? (i := 729) (by decide +kernel)⟩
theorem lw_p23 : lw_okq (⟨"MarkedProof$MarkReader", "mayBeginMove", "(IIII)Z"⟩, 7) := ⟨⟨by decide +kernel, by decide +kernel⟩, List.mem_of_getElem? (i := 201) (by decide +kernel), List.mem_of_getElem? (i := 733) (by decide +kernel), List.mem_of_getElem? (i := 734) (by decide +kernel)⟩
theorem lw_p24 : lw_okq (⟨"MarkedProof$MarkReader", "readWords", "(LMarkedProof$Mark;)Z"⟩, 7) := ⟨⟨by decide +kernel, by decide +kernel⟩, List.mem_of_getElem? (i := 201) (by decide +kernel), List.mem_of_getElem? (i := 746) (by decide +kernel), List.mem_of_getElem? (i := 747) (by decide +kernel)⟩
theorem lw_p25 : lw_okq (⟨"MarkedProof$MarkReader", "readWord", "(LMarkedProof$Mark;)Z"⟩, 7) := ⟨⟨by decide +kernel, by decide +kernel⟩, List.mem_of_getElem? (i := 201) (by decide +kernel), List.mem_of_getElem? (i := 750) (by decide +kernel), List.mem_of_getElem? (i := 751) (by decide +kernel)⟩
theorem lw_p26 : lw_okq (⟨"MarkedProof", "sheetOf", "(I)LMarkedProof$Sheet;"⟩, 12) := ⟨⟨by decide +kernel, by decide +kernel⟩, List.mem_of_getElem? (i := 25) (by decide +kernel), List.mem_of_getElem? (i := 774) (by decide +kernel), List.mem_of_getElem? (i := 775) (by decide +kernel)⟩
theorem lw_p27 : lw_okq (⟨"MarkedProof$Mark", "causer", "()I"⟩, 13) := ⟨⟨by decide +kernel, by decide +kernel⟩, List.mem_of_getElem? (i := 93) (by decide +kernel), List.mem_of_getElem? (i := 788) (by decide +kernel), List.mem_of_getElem? (i := 789) (by decide +kernel)⟩
theorem lw_p28 : lw_okq (⟨"MarkedProof$Holding", "distanceFor", "(I)I"⟩, 12) := ⟨⟨by decide +kernel, by decide +kernel⟩, List.mem_of_getElem? (i := 263) (by decide +kernel), List.mem_of_getElem? (i := 840) (by decide +kernel), List.mem_of_getElem? (i := 841) (by decide +kernel)⟩
theorem lw_p29 : lw_okq (⟨"MarkedProof$Ruler", "fillRow", "(IJLMarkedProof$Sheet;II)I"⟩, 1) := ⟨⟨by decide +kernel, by decide +kernel⟩, List.mem_of_getElem? (i := 253) (by decide +kernel), List.mem_of_getElem? (i := 855) (by decide +kernel), List.mem_of_getElem? (i := 856) (by decide +kernel)⟩
theorem lw_p30 : lw_okq (⟨"MarkedProof$Holding", "listMissed", "(LMarkedProof$Pile;)V"⟩, 12) := ⟨⟨by decide +kernel, by decide +kernel⟩, List.mem_of_getElem? (i := 263) (by decide +kernel), List.mem_of_getElem? (i := 860) (by decide +kernel), List.mem_of_getElem? (i := 861) (by decide +kernel)⟩
theorem lw_p31 : lw_okq (⟨"MarkedProof$Holding", "listChanges", "(LMarkedProof$Sheet;LMarkedProof$Ruler;)V"⟩, 12) := ⟨⟨by decide +kernel, by decide +kernel⟩, List.mem_of_getElem? (i := 263) (by decide +kernel), List.mem_of_getElem? (i := 865) (by decide +kernel), List.mem_of_getElem? (i := 866) (by decide +kernel)⟩
def lw_privs_2 : List (MethodName × Nat) := [(⟨"MarkedProof$MarkReader", "handNamed", "()I"⟩, 7), (⟨"MarkedProof$MarkReader", "isToken", "(Ljava/lang/String;)Z"⟩, 7), (⟨"MarkedProof$MarkReader", "refuse", "(I)Z"⟩, 7), (⟨"MarkedProof$MarkReader", "kindNamed", "()I"⟩, 7), (⟨"MarkedProof$MarkReader", "readNumbers", "(LMarkedProof$Mark;)Z"⟩, 7), (⟨"MarkedProof$MarkReader", "numberRead", "()I"⟩, 7), (⟨"MarkedProof$MarkReader", "mayBegin", "(LMarkedProof$Mark;I)Z"⟩, 7), (⟨"MarkedProof$MarkReader", "mayBeginMove", "(IIII)Z"⟩, 7), (⟨"MarkedProof$MarkReader", "readWords", "(LMarkedProof$Mark;)Z"⟩, 7), (⟨"MarkedProof$MarkReader", "readWord", "(LMarkedProof$Mark;)Z"⟩, 7), (⟨"MarkedProof", "sheetOf", "(I)LMarkedProof$Sheet;"⟩, 12), (⟨"MarkedProof$Mark", "causer", "()I"⟩, 13), (⟨"MarkedProof$Holding", "distanceFor", "(I)I"⟩, 12), (⟨"MarkedProof$Ruler", "fillRow", "(IJLMarkedProof$Sheet;II)I"⟩, 1), (⟨"MarkedProof$Holding", "listMissed", "(LMarkedProof$Pile;)V"⟩, 12), (⟨"MarkedProof$Holding", "listChanges", "(LMarkedProof$Sheet;LMarkedProof$Ruler;)V"⟩, 12)]
theorem lw_r2 : ∀ q ∈ lw_privs_2, lw_okq q := List.forall_mem_cons.mpr ⟨lw_p16, List.forall_mem_cons.mpr ⟨lw_p17, List.forall_mem_cons.mpr ⟨lw_p18, List.forall_mem_cons.mpr ⟨lw_p19, List.forall_mem_cons.mpr ⟨lw_p20, List.forall_mem_cons.mpr ⟨lw_p21, List.forall_mem_cons.mpr ⟨lw_p22, List.forall_mem_cons.mpr ⟨lw_p23, List.forall_mem_cons.mpr ⟨lw_p24, List.forall_mem_cons.mpr ⟨lw_p25, List.forall_mem_cons.mpr ⟨lw_p26, List.forall_mem_cons.mpr ⟨lw_p27, List.forall_mem_cons.mpr ⟨lw_p28, List.forall_mem_cons.mpr ⟨lw_p29, List.forall_mem_cons.mpr ⟨lw_p30, List.forall_mem_cons.mpr ⟨lw_p31, fun _ h => absurd h List.not_mem_nil⟩⟩⟩⟩⟩⟩⟩⟩⟩⟩⟩⟩⟩⟩⟩⟩
theorem lw_p32 : lw_okq (⟨"MarkedProof$Holding", "note", "(III)V"⟩, 12) := ⟨⟨by decide +kernel, by decide +kernel⟩, List.mem_of_getElem? (i := 263) (by decide +kernel), List.mem_of_getElem? (i := 870) (by decide +kernel), List.mem_of_getElem? (i := 871) (by decide +kernel)⟩
theorem lw_p33 : lw_okq (⟨"MarkedProof$Holding", "tellMissed", "(I)I"⟩, 12) := ⟨⟨by decide +kernel, by decide +kernel⟩, List.mem_of_getElem? (i := 263) (by decide +kernel), List.mem_of_getElem? (i := 882) (by decide +kernel), List.mem_of_getElem? (i := 883) (by decide +kernel)⟩
theorem lw_p34 : lw_okq (⟨"MarkedProof$Bill", "priceOf", "(I)I"⟩, 1) := ⟨⟨by decide +kernel, by decide +kernel⟩, List.mem_of_getElem? (i := 310) (by decide +kernel), List.mem_of_getElem? (i := 916) (by decide +kernel), List.mem_of_getElem? (i := 917) (by decide +kernel)⟩
theorem lw_p35 : lw_okq (⟨"MarkedProof", "sizeOf", "(I)I"⟩, 12) := ⟨⟨by decide +kernel, by decide +kernel⟩, List.mem_of_getElem? (i := 25) (by decide +kernel), List.mem_of_getElem? (i := 934) (by decide +kernel), List.mem_of_getElem? (i := 935) (by decide +kernel)⟩
theorem lw_p36 : lw_okq (⟨"java/lang/Throwable", "fillInStackTrace", "(I)Ljava/lang/Throwable;"⟩, 6) := ⟨⟨by decide +kernel, by decide +kernel⟩, List.mem_of_getElem? (i := 982) (by decide +kernel), List.mem_of_getElem? (i := 980) (by decide +kernel), List.mem_of_getElem? (i := 981) (by decide +kernel)⟩
theorem lw_p37 : lw_okq (⟨"MarkedProofModel", "lay", "(I)V"⟩, 43) := ⟨⟨by decide +kernel, by decide +kernel⟩, List.mem_of_getElem? (i := 942) (by decide +kernel), List.mem_of_getElem? (i := 1142) (by decide +kernel), List.mem_of_getElem? (i := 1143) (by decide +kernel)⟩
theorem lw_p38 : lw_okq (⟨"MarkedProofModel", "begin", "()V"⟩, 43) := ⟨⟨by decide +kernel, by decide +kernel⟩, List.mem_of_getElem? (i := 942) (by decide +kernel), List.mem_of_getElem? (i := 1157) (by decide +kernel), List.mem_of_getElem? (i := 1158) (by decide +kernel)⟩
theorem lw_p39 : lw_okq (⟨"MarkedProofModel", "readProof", "(I)I"⟩, 43) := ⟨⟨by decide +kernel, by decide +kernel⟩, List.mem_of_getElem? (i := 942) (by decide +kernel), List.mem_of_getElem? (i := 1161) (by decide +kernel), List.mem_of_getElem? (i := 1162) (by decide +kernel)⟩
theorem lw_p40 : lw_okq (⟨"MarkedProofModel", "byteAt", "(I)I"⟩, 43) := ⟨⟨by decide +kernel, by decide +kernel⟩, List.mem_of_getElem? (i := 942) (by decide +kernel), List.mem_of_getElem? (i := 1165) (by decide +kernel), List.mem_of_getElem? (i := 1166) (by decide +kernel)⟩
theorem lw_p41 : lw_okq (⟨"MarkedProofModel", "wrong", "(II)LMarkedProofModel$Stop;"⟩, 43) := ⟨⟨by decide +kernel, by decide +kernel⟩, List.mem_of_getElem? (i := 942) (by decide +kernel), List.mem_of_getElem? (i := 1181) (by decide +kernel), List.mem_of_getElem? (i := 1182) (by decide +kernel)⟩
theorem lw_p42 : lw_okq (⟨"MarkedProofModel", "scan", "()V"⟩, 43) := ⟨⟨by decide +kernel, by decide +kernel⟩, List.mem_of_getElem? (i := 942) (by decide +kernel), List.mem_of_getElem? (i := 1193) (by decide +kernel), List.mem_of_getElem? (i := 1194) (by decide +kernel)⟩
theorem lw_p43 : lw_okq (⟨"MarkedProofModel", "readLine", "(I)V"⟩, 43) := ⟨⟨by decide +kernel, by decide +kernel⟩, List.mem_of_getElem? (i := 942) (by decide +kernel), List.mem_of_getElem? (i := 1197) (by decide +kernel), List.mem_of_getElem? (i := 1198) (by decide +kernel)⟩
theorem lw_p44 : lw_okq (⟨"MarkedProofModel", "is", "(Ljava/lang/String;)Z"⟩, 43) := ⟨⟨by decide +kernel, by decide +kernel⟩, List.mem_of_getElem? (i := 942) (by decide +kernel), List.mem_of_getElem? (i := 1202) (by decide +kernel), List.mem_of_getElem? (i := 1203) (by decide +kernel)⟩
theorem lw_p45 : lw_okq (⟨"MarkedProofModel", "number", "(II)I"⟩, 43) := ⟨⟨by decide +kernel, by decide +kernel⟩, List.mem_of_getElem? (i := 942) (by decide +kernel), List.mem_of_getElem? (i := 1217) (by decide +kernel), List.mem_of_getElem? (i := 1218) (by decide +kernel)⟩
theorem lw_p46 : lw_okq (⟨"MarkedProofModel", "readMove", "(I)V"⟩, 43) := ⟨⟨by decide +kernel, by decide +kernel⟩, List.mem_of_getElem? (i := 942) (by decide +kernel), List.mem_of_getElem? (i := 1221) (by decide +kernel), List.mem_of_getElem? (i := 1222) (by decide +kernel)⟩
theorem lw_p47 : lw_okq (⟨"MarkedProofModel", "readWords", "(I)V"⟩, 43) := ⟨⟨by decide +kernel, by decide +kernel⟩, List.mem_of_getElem? (i := 942) (by decide +kernel), List.mem_of_getElem? (i := 1225) (by decide +kernel), List.mem_of_getElem? (i := 1226) (by decide +kernel)⟩
def lw_privs_3 : List (MethodName × Nat) := [(⟨"MarkedProof$Holding", "note", "(III)V"⟩, 12), (⟨"MarkedProof$Holding", "tellMissed", "(I)I"⟩, 12), (⟨"MarkedProof$Bill", "priceOf", "(I)I"⟩, 1), (⟨"MarkedProof", "sizeOf", "(I)I"⟩, 12), (⟨"java/lang/Throwable", "fillInStackTrace", "(I)Ljava/lang/Throwable;"⟩, 6), (⟨"MarkedProofModel", "lay", "(I)V"⟩, 43), (⟨"MarkedProofModel", "begin", "()V"⟩, 43), (⟨"MarkedProofModel", "readProof", "(I)I"⟩, 43), (⟨"MarkedProofModel", "byteAt", "(I)I"⟩, 43), (⟨"MarkedProofModel", "wrong", "(II)LMarkedProofModel$Stop;"⟩, 43), (⟨"MarkedProofModel", "scan", "()V"⟩, 43), (⟨"MarkedProofModel", "readLine", "(I)V"⟩, 43), (⟨"MarkedProofModel", "is", "(Ljava/lang/String;)Z"⟩, 43), (⟨"MarkedProofModel", "number", "(II)I"⟩, 43), (⟨"MarkedProofModel", "readMove", "(I)V"⟩, 43), (⟨"MarkedProofModel", "readWords", "(I)V"⟩, 43)]
theorem lw_r3 : ∀ q ∈ lw_privs_3, lw_okq q := List.forall_mem_cons.mpr ⟨lw_p32, List.forall_mem_cons.mpr ⟨lw_p33, List.forall_mem_cons.mpr ⟨lw_p34, List.forall_mem_cons.mpr ⟨lw_p35, List.forall_mem_cons.mpr ⟨lw_p36, List.forall_mem_cons.mpr ⟨lw_p37, List.forall_mem_cons.mpr ⟨lw_p38, List.forall_mem_cons.mpr ⟨lw_p39, List.forall_mem_cons.mpr ⟨lw_p40, List.forall_mem_cons.mpr ⟨lw_p41, List.forall_mem_cons.mpr ⟨lw_p42, List.forall_mem_cons.mpr ⟨lw_p43, List.forall_mem_cons.mpr ⟨lw_p44, List.forall_mem_cons.mpr ⟨lw_p45, List.forall_mem_cons.mpr ⟨lw_p46, List.forall_mem_cons.mpr ⟨lw_p47, fun _ h => absurd h List.not_mem_nil⟩⟩⟩⟩⟩⟩⟩⟩⟩⟩⟩⟩⟩⟩⟩⟩
theorem lw_p48 : lw_okq (⟨"MarkedProofModel", "isMark", "(I)Z"⟩, 43) := ⟨⟨by decide +kernel, by decide +kernel⟩, List.mem_of_getElem? (i := 942) (by decide +kernel), List.mem_of_getElem? (i := 1239) (by decide +kernel), List.mem_of_getElem? (i := 1240) (by decide +kernel)⟩
theorem lw_p49 : lw_okq (⟨"MarkedProofModel", "doMeet", "(II)Z"⟩, 43) := ⟨⟨by decide +kernel, by decide +kernel⟩, List.mem_of_getElem? (i := 942) (by decide +kernel), List.mem_of_getElem? (i := 1243) (by decide +kernel), List.mem_of_getElem? (i := 1244) (by decide +kernel)⟩
theorem lw_p50 : lw_okq (⟨"MarkedProofModel", "isWithin", "(II)Z"⟩, 43) := ⟨⟨by decide +kernel, by decide +kernel⟩, List.mem_of_getElem? (i := 942) (by decide +kernel), List.mem_of_getElem? (i := 1247) (by decide +kernel), List.mem_of_getElem? (i := 1248) (by decide +kernel)⟩
theorem lw_p51 : lw_okq (⟨"MarkedProofModel", "isInside", "(III)Z"⟩, 43) := ⟨⟨by decide +kernel, by decide +kernel⟩, List.mem_of_getElem? (i := 942) (by decide +kernel), List.mem_of_getElem? (i := 1251) (by decide +kernel), List.mem_of_getElem? (i := 1252) (by decide +kernel)⟩
theorem lw_p52 : lw_okq (⟨"MarkedProofModel", "hasRow", "(I)Z"⟩, 43) := ⟨⟨by decide +kernel, by decide +kernel⟩, List.mem_of_getElem? (i := 942) (by decide +kernel), List.mem_of_getElem? (i := 1255) (by decide +kernel), List.mem_of_getElem? (i := 1256) (by decide +kernel)⟩
theorem lw_p53 : lw_okq (⟨"MarkedProofModel", "rowEnd", "(I)I"⟩, 43) := ⟨⟨by decide +kernel, by decide +kernel⟩, List.mem_of_getElem? (i := 942) (by decide +kernel), List.mem_of_getElem? (i := 1259) (by decide +kernel), List.mem_of_getElem? (i := 1260) (by decide +kernel)⟩
theorem lw_p54 : lw_okq (⟨"MarkedProofModel", "gapOf", "(I)I"⟩, 43) := ⟨⟨by decide +kernel, by decide +kernel⟩, List.mem_of_getElem? (i := 942) (by decide +kernel), List.mem_of_getElem? (i := 1263) (by decide +kernel), List.mem_of_getElem? (i := 1264) (by decide +kernel)⟩
theorem lw_p55 : lw_okq (⟨"MarkedProofModel", "isCut", "(II)Z"⟩, 43) := ⟨⟨by decide +kernel, by decide +kernel⟩, List.mem_of_getElem? (i := 942) (by decide +kernel), List.mem_of_getElem? (i := 1267) (by decide +kernel), List.mem_of_getElem? (i := 1268) (by decide +kernel)⟩
theorem lw_p56 : lw_okq (⟨"MarkedProofModel", "judge", "()V"⟩, 43) := ⟨⟨by decide +kernel, by decide +kernel⟩, List.mem_of_getElem? (i := 942) (by decide +kernel), List.mem_of_getElem? (i := 1281) (by decide +kernel), List.mem_of_getElem? (i := 1282) (by decide +kernel)⟩
theorem lw_p57 : lw_okq (⟨"MarkedProofModel", "judgeOne", "(I)V"⟩, 43) := ⟨⟨by decide +kernel, by decide +kernel⟩, List.mem_of_getElem? (i := 942) (by decide +kernel), List.mem_of_getElem? (i := 1285) (by decide +kernel), List.mem_of_getElem? (i := 1286) (by decide +kernel)⟩
theorem lw_p58 : lw_okq (⟨"MarkedProofModel", "wordsOf", "(I)I"⟩, 43) := ⟨⟨by decide +kernel, by decide +kernel⟩, List.mem_of_getElem? (i := 942) (by decide +kernel), List.mem_of_getElem? (i := 1305) (by decide +kernel), List.mem_of_getElem? (i := 1306) (by decide +kernel)⟩
theorem lw_p59 : lw_okq (⟨"MarkedProofModel", "make", "(I)V"⟩, 43) := ⟨⟨by decide +kernel, by decide +kernel⟩, List.mem_of_getElem? (i := 942) (by decide +kernel), List.mem_of_getElem? (i := 1309) (by decide +kernel), List.mem_of_getElem? (i := 1310) (by decide +kernel)⟩
theorem lw_p60 : lw_okq (⟨"MarkedProofModel", "use", "(I)V"⟩, 43) := ⟨⟨by decide +kernel, by decide +kernel⟩, List.mem_of_getElem? (i := 942) (by decide +kernel), List.mem_of_getElem? (i := 1313) (by decide +kernel), List.mem_of_getElem? (i := 1314) (by decide +kernel)⟩
theorem lw_p61 : lw_okq (⟨"MarkedProofModel", "layGap", "(I)V"⟩, 43) := ⟨⟨by decide +kernel, by decide +kernel⟩, List.mem_of_getElem? (i := 942) (by decide +kernel), List.mem_of_getElem? (i := 1317) (by decide +kernel), List.mem_of_getElem? (i := 1318) (by decide +kernel)⟩
theorem lw_p62 : lw_okq (⟨"MarkedProofModel", "putWords", "(I)V"⟩, 43) := ⟨⟨by decide +kernel, by decide +kernel⟩, List.mem_of_getElem? (i := 942) (by decide +kernel), List.mem_of_getElem? (i := 1321) (by decide +kernel), List.mem_of_getElem? (i := 1322) (by decide +kernel)⟩
theorem lw_p63 : lw_okq (⟨"MarkedProofModel", "put", "(J)V"⟩, 43) := ⟨⟨by decide +kernel, by decide +kernel⟩, List.mem_of_getElem? (i := 942) (by decide +kernel), List.mem_of_getElem? (i := 1325) (by decide +kernel), List.mem_of_getElem? (i := 1326) (by decide +kernel)⟩
def lw_privs_4 : List (MethodName × Nat) := [(⟨"MarkedProofModel", "isMark", "(I)Z"⟩, 43), (⟨"MarkedProofModel", "doMeet", "(II)Z"⟩, 43), (⟨"MarkedProofModel", "isWithin", "(II)Z"⟩, 43), (⟨"MarkedProofModel", "isInside", "(III)Z"⟩, 43), (⟨"MarkedProofModel", "hasRow", "(I)Z"⟩, 43), (⟨"MarkedProofModel", "rowEnd", "(I)I"⟩, 43), (⟨"MarkedProofModel", "gapOf", "(I)I"⟩, 43), (⟨"MarkedProofModel", "isCut", "(II)Z"⟩, 43), (⟨"MarkedProofModel", "judge", "()V"⟩, 43), (⟨"MarkedProofModel", "judgeOne", "(I)V"⟩, 43), (⟨"MarkedProofModel", "wordsOf", "(I)I"⟩, 43), (⟨"MarkedProofModel", "make", "(I)V"⟩, 43), (⟨"MarkedProofModel", "use", "(I)V"⟩, 43), (⟨"MarkedProofModel", "layGap", "(I)V"⟩, 43), (⟨"MarkedProofModel", "putWords", "(I)V"⟩, 43), (⟨"MarkedProofModel", "put", "(J)V"⟩, 43)]
theorem lw_r4 : ∀ q ∈ lw_privs_4, lw_okq q := List.forall_mem_cons.mpr ⟨lw_p48, List.forall_mem_cons.mpr ⟨lw_p49, List.forall_mem_cons.mpr ⟨lw_p50, List.forall_mem_cons.mpr ⟨lw_p51, List.forall_mem_cons.mpr ⟨lw_p52, List.forall_mem_cons.mpr ⟨lw_p53, List.forall_mem_cons.mpr ⟨lw_p54, List.forall_mem_cons.mpr ⟨lw_p55, List.forall_mem_cons.mpr ⟨lw_p56, List.forall_mem_cons.mpr ⟨lw_p57, List.forall_mem_cons.mpr ⟨lw_p58, List.forall_mem_cons.mpr ⟨lw_p59, List.forall_mem_cons.mpr ⟨lw_p60, List.forall_mem_cons.mpr ⟨lw_p61, List.forall_mem_cons.mpr ⟨lw_p62, List.forall_mem_cons.mpr ⟨lw_p63, fun _ h => absurd h List.not_mem_nil⟩⟩⟩⟩⟩⟩⟩⟩⟩⟩⟩⟩⟩⟩⟩⟩
theorem lw_p64 : lw_okq (⟨"MarkedProofModel", "layRow", "(III)V"⟩, 43) := ⟨⟨by decide +kernel, by decide +kernel⟩, List.mem_of_getElem? (i := 942) (by decide +kernel), List.mem_of_getElem? (i := 1329) (by decide +kernel), List.mem_of_getElem? (i := 1330) (by decide +kernel)⟩
theorem lw_p65 : lw_okq (⟨"MarkedProofModel", "innermost", "(IZ)I"⟩, 43) := ⟨⟨by decide +kernel, by decide +kernel⟩, List.mem_of_getElem? (i := 942) (by decide +kernel), List.mem_of_getElem? (i := 1333) (by decide +kernel), List.mem_of_getElem? (i := 1334) (by decide +kernel)⟩
theorem lw_p66 : lw_okq (⟨"MarkedProofModel", "turnAt", "(III)I"⟩, 43) := ⟨⟨by decide +kernel, by decide +kernel⟩, List.mem_of_getElem? (i := 942) (by decide +kernel), List.mem_of_getElem? (i := 1337) (by decide +kernel), List.mem_of_getElem? (i := 1338) (by decide +kernel)⟩
theorem lw_p67 : lw_okq (⟨"MarkedProofModel", "moveOf", "(I)I"⟩, 43) := ⟨⟨by decide +kernel, by decide +kernel⟩, List.mem_of_getElem? (i := 942) (by decide +kernel), List.mem_of_getElem? (i := 1341) (by decide +kernel), List.mem_of_getElem? (i := 1342) (by decide +kernel)⟩
theorem lw_p68 : lw_okq (⟨"MarkedProofModel", "layWord", "(II)V"⟩, 43) := ⟨⟨by decide +kernel, by decide +kernel⟩, List.mem_of_getElem? (i := 942) (by decide +kernel), List.mem_of_getElem? (i := 1345) (by decide +kernel), List.mem_of_getElem? (i := 1346) (by decide +kernel)⟩
theorem lw_p69 : lw_okq (⟨"MarkedProofModel", "wordAt", "(II)J"⟩, 43) := ⟨⟨by decide +kernel, by decide +kernel⟩, List.mem_of_getElem? (i := 942) (by decide +kernel), List.mem_of_getElem? (i := 1349) (by decide +kernel), List.mem_of_getElem? (i := 1350) (by decide +kernel)⟩
theorem lw_p70 : lw_okq (⟨"MarkedProofModel", "apart", "(IIII)I"⟩, 43) := ⟨⟨by decide +kernel, by decide +kernel⟩, List.mem_of_getElem? (i := 942) (by decide +kernel), List.mem_of_getElem? (i := 1357) (by decide +kernel), List.mem_of_getElem? (i := 1358) (by decide +kernel)⟩
theorem lw_p71 : lw_okq (⟨"MarkedProofModel", "trace", "()V"⟩, 43) := ⟨⟨by decide +kernel, by decide +kernel⟩, List.mem_of_getElem? (i := 942) (by decide +kernel), List.mem_of_getElem? (i := 1376) (by decide +kernel), List.mem_of_getElem? (i := 1377) (by decide +kernel)⟩
def lw_privs_5 : List (MethodName × Nat) := [(⟨"MarkedProofModel", "layRow", "(III)V"⟩, 43), (⟨"MarkedProofModel", "innermost", "(IZ)I"⟩, 43), (⟨"MarkedProofModel", "turnAt", "(III)I"⟩, 43), (⟨"MarkedProofModel", "moveOf", "(I)I"⟩, 43), (⟨"MarkedProofModel", "layWord", "(II)V"⟩, 43), (⟨"MarkedProofModel", "wordAt", "(II)J"⟩, 43), (⟨"MarkedProofModel", "apart", "(IIII)I"⟩, 43), (⟨"MarkedProofModel", "trace", "()V"⟩, 43)]
theorem lw_r5 : ∀ q ∈ lw_privs_5, lw_okq q := List.forall_mem_cons.mpr ⟨lw_p64, List.forall_mem_cons.mpr ⟨lw_p65, List.forall_mem_cons.mpr ⟨lw_p66, List.forall_mem_cons.mpr ⟨lw_p67, List.forall_mem_cons.mpr ⟨lw_p68, List.forall_mem_cons.mpr ⟨lw_p69, List.forall_mem_cons.mpr ⟨lw_p70, List.forall_mem_cons.mpr ⟨lw_p71, fun _ h => absurd h List.not_mem_nil⟩⟩⟩⟩⟩⟩⟩⟩
def lw_privs : List (MethodName × Nat) := lw_privs_1 ++ (lw_privs_2 ++ (lw_privs_3 ++ (lw_privs_4 ++ (lw_privs_5))))
def lw_tbl : List Cond := k2_sels lw_privs ++ tables_1
theorem lw_privs_ok : ∀ q ∈ lw_privs, lw_okq q := by
  show ∀ q ∈ lw_privs_1 ++ (lw_privs_2 ++ (lw_privs_3 ++ (lw_privs_4 ++ (lw_privs_5)))), lw_okq q
  exact List.forall_mem_append.mpr ⟨lw_r1, List.forall_mem_append.mpr ⟨lw_r2, List.forall_mem_append.mpr ⟨lw_r3, List.forall_mem_append.mpr ⟨lw_r4, lw_r5⟩⟩⟩⟩
end
section
def RX0 : String := "MarkedProof$Bill"
def TX0 : u_T := fun k => match k with
  | _ => ("MarkedProof$Bill", "prices", "[I", true)
def tyX0 : Nat → FieldType := fun k => match k with
  | _ => .array .int
abbrev wsX00 : List Cond := u_ws RX0 TX0 1
theorem nmX0 : ∀ a, a < 1 → ∀ b, b < 1 → a ≠ b → (TX0 a).2.1 ≠ (TX0 b).2.1 := by decide +kernel
theorem tyX0_ok : ∀ k, k < 1 → parseFieldDescriptor (TX0 k).2.2.1 = some (tyX0 k) := by decide +kernel
abbrev cX0_init : ByteArray := prog_2_method_1_code
def yX0_init : MethodName := ⟨RX0, "<init>", "()V"⟩
abbrev cX0_setPrice : ByteArray := prog_2_method_2_code
def yX0_setPrice : MethodName := ⟨RX0, "setPrice", "(II)I"⟩
abbrev cX0_priceOf : ByteArray := prog_2_method_3_code
def yX0_priceOf : MethodName := ⟨RX0, "priceOf", "(I)I"⟩
abbrev cX0_sum : ByteArray := prog_2_method_4_code
def yX0_sum : MethodName := ⟨RX0, "sum", "(LMarkedProof$Pile;Z)I"⟩
def RX1 : String := "MarkedProof$Fault"
def TX1 : u_T := fun k => match k with
  | 0 => ("MarkedProof$Fault", "kind", "I", false)
  | _ => ("MarkedProof$Fault", "place", "I", false)
def tyX1 : Nat → FieldType := fun k => match k with
  | 0 => .int
  | _ => .int
abbrev wsX10 : List Cond := u_ws RX1 TX1 2
theorem nmX1 : ∀ a, a < 2 → ∀ b, b < 2 → a ≠ b → (TX1 a).2.1 ≠ (TX1 b).2.1 := by decide +kernel
theorem tyX1_ok : ∀ k, k < 2 → parseFieldDescriptor (TX1 k).2.2.1 = some (tyX1 k) := by decide +kernel
abbrev cX1_init : ByteArray := prog_3_method_1_code
def yX1_init : MethodName := ⟨RX1, "<init>", "()V"⟩
abbrev cX1_clear : ByteArray := prog_3_method_2_code
def yX1_clear : MethodName := ⟨RX1, "clear", "()V"⟩
abbrev cX1_tellOf : ByteArray := prog_3_method_3_code
def yX1_tellOf : MethodName := ⟨RX1, "tellOf", "(II)Z"⟩
def RX2 : String := "MarkedProof$Holding"
def TX2 : u_T := fun k => match k with
  | 0 => ("MarkedProof$Holding", "asked", "LMarkedProof$Sheet;", true)
  | 1 => ("MarkedProof$Holding", "missed", "[I", true)
  | 2 => ("MarkedProof$Holding", "changeKinds", "[I", true)
  | 3 => ("MarkedProof$Holding", "askedPlaces", "[I", true)
  | 4 => ("MarkedProof$Holding", "revisePlaces", "[I", true)
  | 5 => ("MarkedProof$Holding", "changeCost", "I", false)
  | 6 => ("MarkedProof$Holding", "missCost", "I", false)
  | 7 => ("MarkedProof$Holding", "isHeld", "Z", false)
  | 8 => ("MarkedProof$Holding", "set", "I", false)
  | 9 => ("MarkedProof$Holding", "missedCount", "I", false)
  | 10 => ("MarkedProof$Holding", "leastApart", "I", false)
  | _ => ("MarkedProof$Holding", "changeCount", "I", false)
def tyX2 : Nat → FieldType := fun k => match k with
  | 0 => .object "MarkedProof$Sheet"
  | 1 => .array .int
  | 2 => .array .int
  | 3 => .array .int
  | 4 => .array .int
  | 5 => .int
  | 6 => .int
  | 7 => .boolean
  | 8 => .int
  | 9 => .int
  | 10 => .int
  | _ => .int
abbrev wsX20 : List Cond := u_ws RX2 TX2 12
theorem nmX2 : ∀ a, a < 12 → ∀ b, b < 12 → a ≠ b → (TX2 a).2.1 ≠ (TX2 b).2.1 := by decide +kernel
theorem tyX2_ok : ∀ k, k < 12 → parseFieldDescriptor (TX2 k).2.2.1 = some (tyX2 k) := by decide +kernel
abbrev cX2_init : ByteArray := prog_4_method_1_code
def yX2_init : MethodName := ⟨RX2, "<init>", "()V"⟩
abbrev cX2_weigh : ByteArray := prog_4_method_2_code
def yX2_weigh : MethodName := ⟨RX2, "weigh", "(LMarkedProof$Pile;LMarkedProof$Sheet;LMarkedProof$Sheet;LMarkedProof$Setter;LMarkedProof$Ruler;)I"⟩
abbrev cX2_distanceFor : ByteArray := prog_4_method_3_code
def yX2_distanceFor : MethodName := ⟨RX2, "distanceFor", "(I)I"⟩
abbrev cX2_listMissed : ByteArray := prog_4_method_4_code
def yX2_listMissed : MethodName := ⟨RX2, "listMissed", "(LMarkedProof$Pile;)V"⟩
abbrev cX2_listChanges : ByteArray := prog_4_method_5_code
def yX2_listChanges : MethodName := ⟨RX2, "listChanges", "(LMarkedProof$Sheet;LMarkedProof$Ruler;)V"⟩
abbrev cX2_note : ByteArray := prog_4_method_6_code
def yX2_note : MethodName := ⟨RX2, "note", "(III)V"⟩
abbrev cX2_tell : ByteArray := prog_4_method_7_code
def yX2_tell : MethodName := ⟨RX2, "tell", "(I)I"⟩
abbrev cX2_tellMissed : ByteArray := prog_4_method_8_code
def yX2_tellMissed : MethodName := ⟨RX2, "tellMissed", "(I)I"⟩
abbrev cX2_tellChange : ByteArray := prog_4_method_9_code
def yX2_tellChange : MethodName := ⟨RX2, "tellChange", "(II)I"⟩
def RX3 : String := "MarkedProof$Mark"
def TX3 : u_T := fun k => match k with
  | 0 => ("MarkedProof$Mark", "numbers", "[I", true)
  | 1 => ("MarkedProof$Mark", "words", "LMarkedProof$Sheet;", true)
  | 2 => ("MarkedProof$Mark", "kind", "I", false)
  | 3 => ("MarkedProof$Mark", "hand", "I", false)
  | 4 => ("MarkedProof$Mark", "from", "I", false)
  | 5 => ("MarkedProof$Mark", "upTo", "I", false)
  | 6 => ("MarkedProof$Mark", "gap", "I", false)
  | 7 => ("MarkedProof$Mark", "waits", "Z", false)
  | 8 => ("MarkedProof$Mark", "isVoid", "Z", false)
  | 9 => ("MarkedProof$Mark", "isError", "Z", false)
  | 10 => ("MarkedProof$Mark", "voidBy", "I", false)
  | 11 => ("MarkedProof$Mark", "status", "I", false)
  | _ => ("MarkedProof$Mark", "overruledBy", "I", false)
def tyX3 : Nat → FieldType := fun k => match k with
  | 0 => .array .int
  | 1 => .object "MarkedProof$Sheet"
  | 2 => .int
  | 3 => .int
  | 4 => .int
  | 5 => .int
  | 6 => .int
  | 7 => .boolean
  | 8 => .boolean
  | 9 => .boolean
  | 10 => .int
  | 11 => .int
  | _ => .int
abbrev wsX30 : List Cond := u_ws RX3 TX3 13
theorem nmX3 : ∀ a, a < 13 → ∀ b, b < 13 → a ≠ b → (TX3 a).2.1 ≠ (TX3 b).2.1 := by decide +kernel
theorem tyX3_ok : ∀ k, k < 13 → parseFieldDescriptor (TX3 k).2.2.1 = some (tyX3 k) := by decide +kernel
abbrev cX3_init : ByteArray := prog_5_method_1_code
def yX3_init : MethodName := ⟨RX3, "<init>", "()V"⟩
abbrev cX3_clear : ByteArray := prog_5_method_2_code
def yX3_clear : MethodName := ⟨RX3, "clear", "()V"⟩
abbrev cX3_number : ByteArray := prog_5_method_3_code
def yX3_number : MethodName := ⟨RX3, "number", "(I)I"⟩
abbrev cX3_setNumber : ByteArray := prog_5_method_4_code
def yX3_setNumber : MethodName := ⟨RX3, "setNumber", "(II)V"⟩
abbrev cX3_place : ByteArray := prog_5_method_5_code
def yX3_place : MethodName := ⟨RX3, "place", "()V"⟩
abbrev cX3_fitsInside : ByteArray := prog_5_method_6_code
def yX3_fitsInside : MethodName := ⟨RX3, "fitsInside", "(II)Z"⟩
abbrev cX3_isWithin : ByteArray := prog_5_method_7_code
def yX3_isWithin : MethodName := ⟨RX3, "isWithin", "(LMarkedProof$Mark;)Z"⟩
abbrev cX3_meets : ByteArray := prog_5_method_8_code
def yX3_meets : MethodName := ⟨RX3, "meets", "(LMarkedProof$Mark;)Z"⟩
abbrev cX3_voidByStet : ByteArray := prog_5_method_9_code
def yX3_voidByStet : MethodName := ⟨RX3, "voidByStet", "(I)V"⟩
abbrev cX3_asks : ByteArray := prog_5_method_10_code
def yX3_asks : MethodName := ⟨RX3, "asks", "()Z"⟩
abbrev cX3_undecidedStatus : ByteArray := prog_5_method_11_code
def yX3_undecidedStatus : MethodName := ⟨RX3, "undecidedStatus", "()I"⟩
abbrev cX3_tell : ByteArray := prog_5_method_12_code
def yX3_tell : MethodName := ⟨RX3, "tell", "(I)I"⟩
abbrev cX3_causer : ByteArray := prog_5_method_13_code
def yX3_causer : MethodName := ⟨RX3, "causer", "()I"⟩
abbrev cX3_tellWord : ByteArray := prog_5_method_14_code
def yX3_tellWord : MethodName := ⟨RX3, "tellWord", "(I)I"⟩
def RX4 : String := "MarkedProof$MarkReader"
def TX4 : u_T := fun k => match k with
  | 0 => ("MarkedProof$MarkReader", "tape", "LMarkedProof$Tape;", false)
  | 1 => ("MarkedProof$MarkReader", "pile", "LMarkedProof$Pile;", false)
  | 2 => ("MarkedProof$MarkReader", "fault", "LMarkedProof$Fault;", false)
  | 3 => ("MarkedProof$MarkReader", "proofSize", "I", false)
  | 4 => ("MarkedProof$MarkReader", "at", "I", false)
  | 5 => ("MarkedProof$MarkReader", "start", "I", false)
  | _ => ("MarkedProof$MarkReader", "sort", "I", false)
def tyX4 : Nat → FieldType := fun k => match k with
  | 0 => .object "MarkedProof$Tape"
  | 1 => .object "MarkedProof$Pile"
  | 2 => .object "MarkedProof$Fault"
  | 3 => .int
  | 4 => .int
  | 5 => .int
  | _ => .int
abbrev wsX40 : List Cond := u_ws RX4 TX4 7
theorem nmX4 : ∀ a, a < 7 → ∀ b, b < 7 → a ≠ b → (TX4 a).2.1 ≠ (TX4 b).2.1 := by decide +kernel
theorem tyX4_ok : ∀ k, k < 7 → parseFieldDescriptor (TX4 k).2.2.1 = some (tyX4 k) := by decide +kernel
abbrev cX4_init : ByteArray := prog_6_method_1_code
def yX4_init : MethodName := ⟨RX4, "<init>", "()V"⟩
abbrev cX4_readMarks : ByteArray := prog_6_method_2_code
def yX4_readMarks : MethodName := ⟨RX4, "readMarks", "(LMarkedProof$Tape;LMarkedProof$Pile;ILMarkedProof$Fault;)Z"⟩
abbrev cX4_readLine : ByteArray := prog_6_method_3_code
def yX4_readLine : MethodName := ⟨RX4, "readLine", "()Z"⟩
abbrev cX4_handNamed : ByteArray := prog_6_method_4_code
def yX4_handNamed : MethodName := ⟨RX4, "handNamed", "()I"⟩
abbrev cX4_kindNamed : ByteArray := prog_6_method_5_code
def yX4_kindNamed : MethodName := ⟨RX4, "kindNamed", "()I"⟩
abbrev cX4_readNumbers : ByteArray := prog_6_method_6_code
def yX4_readNumbers : MethodName := ⟨RX4, "readNumbers", "(LMarkedProof$Mark;)Z"⟩
abbrev cX4_numberRead : ByteArray := prog_6_method_7_code
def yX4_numberRead : MethodName := ⟨RX4, "numberRead", "()I"⟩
abbrev cX4_mayBegin : ByteArray := prog_6_method_8_code
def yX4_mayBegin : MethodName := ⟨RX4, "mayBegin", "(LMarkedProof$Mark;I)Z"⟩
abbrev cX4_mayBeginMove : ByteArray := prog_6_method_9_code
def yX4_mayBeginMove : MethodName := ⟨RX4, "mayBeginMove", "(IIII)Z"⟩
abbrev cX4_readWords : ByteArray := prog_6_method_10_code
def yX4_readWords : MethodName := ⟨RX4, "readWords", "(LMarkedProof$Mark;)Z"⟩
abbrev cX4_readWord : ByteArray := prog_6_method_11_code
def yX4_readWord : MethodName := ⟨RX4, "readWord", "(LMarkedProof$Mark;)Z"⟩
abbrev cX4_skipBlanks : ByteArray := prog_6_method_12_code
def yX4_skipBlanks : MethodName := ⟨RX4, "skipBlanks", "()V"⟩
abbrev cX4_readToken : ByteArray := prog_6_method_13_code
def yX4_readToken : MethodName := ⟨RX4, "readToken", "()V"⟩
abbrev cX4_sortOf : ByteArray := prog_6_method_14_code
def yX4_sortOf : MethodName := ⟨RX4, "sortOf", "(I)I"⟩
abbrev cX4_isToken : ByteArray := prog_6_method_15_code
def yX4_isToken : MethodName := ⟨RX4, "isToken", "(Ljava/lang/String;)Z"⟩
abbrev cX4_refuse : ByteArray := prog_6_method_16_code
def yX4_refuse : MethodName := ⟨RX4, "refuse", "(I)Z"⟩
def RX5 : String := "MarkedProof$Pile"
def TX5 : u_T := fun k => match k with
  | 0 => ("MarkedProof$Pile", "marks", "[LMarkedProof$Mark;", true)
  | 1 => ("MarkedProof$Pile", "ranks", "[I", true)
  | 2 => ("MarkedProof$Pile", "done", "[I", true)
  | 3 => ("MarkedProof$Pile", "size", "I", false)
  | 4 => ("MarkedProof$Pile", "coming", "I", false)
  | _ => ("MarkedProof$Pile", "doneCount", "I", false)
def tyX5 : Nat → FieldType := fun k => match k with
  | 0 => .array (.object "MarkedProof$Mark")
  | 1 => .array .int
  | 2 => .array .int
  | 3 => .int
  | 4 => .int
  | _ => .int
abbrev wsX50 : List Cond := u_ws RX5 TX5 6
theorem nmX5 : ∀ a, a < 6 → ∀ b, b < 6 → a ≠ b → (TX5 a).2.1 ≠ (TX5 b).2.1 := by decide +kernel
theorem tyX5_ok : ∀ k, k < 6 → parseFieldDescriptor (TX5 k).2.2.1 = some (tyX5 k) := by decide +kernel
abbrev cX5_init : ByteArray := prog_7_method_1_code
def yX5_init : MethodName := ⟨RX5, "<init>", "()V"⟩
abbrev cX5_clear : ByteArray := prog_7_method_2_code
def yX5_clear : MethodName := ⟨RX5, "clear", "()V"⟩
abbrev cX5_rankOf : ByteArray := prog_7_method_3_code
def yX5_rankOf : MethodName := ⟨RX5, "rankOf", "(I)I"⟩
abbrev cX5_markAt : ByteArray := prog_7_method_4_code
def yX5_markAt : MethodName := ⟨RX5, "markAt", "(I)LMarkedProof$Mark;"⟩
abbrev cX5_find : ByteArray := prog_7_method_5_code
def yX5_find : MethodName := ⟨RX5, "find", "(I)LMarkedProof$Mark;"⟩
abbrev cX5_findNoStet : ByteArray := prog_7_method_6_code
def yX5_findNoStet : MethodName := ⟨RX5, "findNoStet", "(I)LMarkedProof$Mark;"⟩
abbrev cX5_blank : ByteArray := prog_7_method_7_code
def yX5_blank : MethodName := ⟨RX5, "blank", "()LMarkedProof$Mark;"⟩
abbrev cX5_canBeStet : ByteArray := prog_7_method_8_code
def yX5_canBeStet : MethodName := ⟨RX5, "canBeStet", "(I)Z"⟩
abbrev cX5_accept : ByteArray := prog_7_method_9_code
def yX5_accept : MethodName := ⟨RX5, "accept", "()I"⟩
abbrev cX5_decide : ByteArray := prog_7_method_10_code
def yX5_decide : MethodName := ⟨RX5, "decide", "()V"⟩
abbrev cX5_firstDoneThatMeets : ByteArray := prog_7_method_11_code
def yX5_firstDoneThatMeets : MethodName := ⟨RX5, "firstDoneThatMeets", "(LMarkedProof$Mark;)I"⟩
abbrev cX5_listDone : ByteArray := prog_7_method_12_code
def yX5_listDone : MethodName := ⟨RX5, "listDone", "()V"⟩
abbrev cX5_doneNumber : ByteArray := prog_7_method_13_code
def yX5_doneNumber : MethodName := ⟨RX5, "doneNumber", "(I)I"⟩
abbrev cX5_tally : ByteArray := prog_7_method_14_code
def yX5_tally : MethodName := ⟨RX5, "tally", "(I)I"⟩
def RX6 : String := "MarkedProof$Ruler"
def TX6 : u_T := fun k => match k with
  | _ => ("MarkedProof$Ruler", "row", "[I", true)
def tyX6 : Nat → FieldType := fun k => match k with
  | _ => .array .int
abbrev wsX60 : List Cond := u_ws RX6 TX6 1
theorem nmX6 : ∀ a, a < 1 → ∀ b, b < 1 → a ≠ b → (TX6 a).2.1 ≠ (TX6 b).2.1 := by decide +kernel
theorem tyX6_ok : ∀ k, k < 1 → parseFieldDescriptor (TX6 k).2.2.1 = some (tyX6 k) := by decide +kernel
abbrev cX6_init : ByteArray := prog_8_method_1_code
def yX6_init : MethodName := ⟨RX6, "<init>", "()V"⟩
abbrev cX6_measure : ByteArray := prog_8_method_2_code
def yX6_measure : MethodName := ⟨RX6, "measure", "(LMarkedProof$Sheet;ILMarkedProof$Sheet;II)I"⟩
abbrev cX6_fillRow : ByteArray := prog_8_method_3_code
def yX6_fillRow : MethodName := ⟨RX6, "fillRow", "(IJLMarkedProof$Sheet;II)I"⟩
def RX7 : String := "MarkedProof$Setter"
def TX7 : u_T := fun k => match k with
  | 0 => ("MarkedProof$Setter", "taken", "[LMarkedProof$Mark;", true)
  | 1 => ("MarkedProof$Setter", "open", "[Z", true)
  | 2 => ("MarkedProof$Setter", "takenCount", "I", false)
  | 3 => ("MarkedProof$Setter", "proof", "LMarkedProof$Sheet;", false)
  | _ => ("MarkedProof$Setter", "into", "LMarkedProof$Sheet;", false)
def tyX7 : Nat → FieldType := fun k => match k with
  | 0 => .array (.object "MarkedProof$Mark")
  | 1 => .array .boolean
  | 2 => .int
  | 3 => .object "MarkedProof$Sheet"
  | _ => .object "MarkedProof$Sheet"
abbrev wsX70 : List Cond := u_ws RX7 TX7 5
theorem nmX7 : ∀ a, a < 5 → ∀ b, b < 5 → a ≠ b → (TX7 a).2.1 ≠ (TX7 b).2.1 := by decide +kernel
theorem tyX7_ok : ∀ k, k < 5 → parseFieldDescriptor (TX7 k).2.2.1 = some (tyX7 k) := by decide +kernel
abbrev cX7_init : ByteArray := prog_9_method_1_code
def yX7_init : MethodName := ⟨RX7, "<init>", "()V"⟩
abbrev cX7_takeDone : ByteArray := prog_9_method_2_code
def yX7_takeDone : MethodName := ⟨RX7, "takeDone", "(LMarkedProof$Pile;I)V"⟩
abbrev cX7_make : ByteArray := prog_9_method_3_code
def yX7_make : MethodName := ⟨RX7, "make", "(LMarkedProof$Sheet;LMarkedProof$Sheet;)V"⟩
abbrev cX7_setRow : ByteArray := prog_9_method_4_code
def yX7_setRow : MethodName := ⟨RX7, "setRow", "(III)V"⟩
abbrev cX7_setGap : ByteArray := prog_9_method_5_code
def yX7_setGap : MethodName := ⟨RX7, "setGap", "(II)V"⟩
abbrev cX7_setPiece : ByteArray := prog_9_method_6_code
def yX7_setPiece : MethodName := ⟨RX7, "setPiece", "(II)I"⟩
abbrev cX7_outermostAt : ByteArray := prog_9_method_7_code
def yX7_outermostAt : MethodName := ⟨RX7, "outermostAt", "(I)I"⟩
abbrev cX7_takenAt : ByteArray := prog_9_method_8_code
def yX7_takenAt : MethodName := ⟨RX7, "takenAt", "(I)LMarkedProof$Mark;"⟩
abbrev cX7_isOpen : ByteArray := prog_9_method_9_code
def yX7_isOpen : MethodName := ⟨RX7, "isOpen", "(I)Z"⟩
abbrev cX7_mind : ByteArray := prog_9_method_10_code
def yX7_mind : MethodName := ⟨RX7, "mind", "(IZ)V"⟩
def RX8 : String := "MarkedProof$Sheet"
def TX8 : u_T := fun k => match k with
  | 0 => ("MarkedProof$Sheet", "words", "[J", true)
  | _ => ("MarkedProof$Sheet", "size", "I", false)
def tyX8 : Nat → FieldType := fun k => match k with
  | 0 => .array .long
  | _ => .int
abbrev wsX80 : List Cond := u_ws RX8 TX8 2
theorem nmX8 : ∀ a, a < 2 → ∀ b, b < 2 → a ≠ b → (TX8 a).2.1 ≠ (TX8 b).2.1 := by decide +kernel
theorem tyX8_ok : ∀ k, k < 2 → parseFieldDescriptor (TX8 k).2.2.1 = some (tyX8 k) := by decide +kernel
abbrev cX8_init : ByteArray := prog_10_method_1_code
def yX8_init : MethodName := ⟨RX8, "<init>", "(I)V"⟩
abbrev cX8_clear : ByteArray := prog_10_method_2_code
def yX8_clear : MethodName := ⟨RX8, "clear", "()V"⟩
abbrev cX8_add : ByteArray := prog_10_method_3_code
def yX8_add : MethodName := ⟨RX8, "add", "(J)V"⟩
abbrev cX8_addAll : ByteArray := prog_10_method_4_code
def yX8_addAll : MethodName := ⟨RX8, "addAll", "(LMarkedProof$Sheet;)V"⟩
abbrev cX8_copyFrom : ByteArray := prog_10_method_5_code
def yX8_copyFrom : MethodName := ⟨RX8, "copyFrom", "(LMarkedProof$Sheet;)V"⟩
abbrev cX8_wordAt : ByteArray := prog_10_method_6_code
def yX8_wordAt : MethodName := ⟨RX8, "wordAt", "(I)J"⟩
def RX9 : String := "MarkedProof$SheetReader"
def TX9 : u_T := fun k => match k with
  | _ => ("MarkedProof$SheetReader", "sheet", "LMarkedProof$Sheet;", true)
def tyX9 : Nat → FieldType := fun k => match k with
  | _ => .object "MarkedProof$Sheet"
abbrev wsX90 : List Cond := u_ws RX9 TX9 1
theorem nmX9 : ∀ a, a < 1 → ∀ b, b < 1 → a ≠ b → (TX9 a).2.1 ≠ (TX9 b).2.1 := by decide +kernel
theorem tyX9_ok : ∀ k, k < 1 → parseFieldDescriptor (TX9 k).2.2.1 = some (tyX9 k) := by decide +kernel
abbrev cX9_init : ByteArray := prog_11_method_1_code
def yX9_init : MethodName := ⟨RX9, "<init>", "()V"⟩
abbrev cX9_readProof : ByteArray := prog_11_method_2_code
def yX9_readProof : MethodName := ⟨RX9, "readProof", "(LMarkedProof$Tape;ILMarkedProof$Fault;)Z"⟩
abbrev cX9_addWord : ByteArray := prog_11_method_3_code
def yX9_addWord : MethodName := ⟨RX9, "addWord", "(JI)V"⟩
def RX10 : String := "MarkedProof$Tape"
def TX10 : u_T := fun k => match k with
  | 0 => ("MarkedProof$Tape", "bytes", "[B", true)
  | _ => ("MarkedProof$Tape", "size", "I", false)
def tyX10 : Nat → FieldType := fun k => match k with
  | 0 => .array .byte
  | _ => .int
abbrev wsX100 : List Cond := u_ws RX10 TX10 2
theorem nmX10 : ∀ a, a < 2 → ∀ b, b < 2 → a ≠ b → (TX10 a).2.1 ≠ (TX10 b).2.1 := by decide +kernel
theorem tyX10_ok : ∀ k, k < 2 → parseFieldDescriptor (TX10 k).2.2.1 = some (tyX10 k) := by decide +kernel
abbrev cX10_init : ByteArray := prog_12_method_1_code
def yX10_init : MethodName := ⟨RX10, "<init>", "()V"⟩
abbrev cX10_addFour : ByteArray := prog_12_method_2_code
def yX10_addFour : MethodName := ⟨RX10, "addFour", "(I)V"⟩
abbrev cX10_byteAt : ByteArray := prog_12_method_3_code
def yX10_byteAt : MethodName := ⟨RX10, "byteAt", "(I)I"⟩
def RX11 : String := "MarkedProof"
def TX11 : u_T := fun k => match k with
  | 0 => ("MarkedProof", "tape", "LMarkedProof$Tape;", true)
  | 1 => ("MarkedProof", "latest", "LMarkedProof$Fault;", true)
  | 2 => ("MarkedProof", "proof", "LMarkedProof$Sheet;", true)
  | 3 => ("MarkedProof", "revise", "LMarkedProof$Sheet;", true)
  | 4 => ("MarkedProof", "text", "LMarkedProof$Sheet;", true)
  | 5 => ("MarkedProof", "pile", "LMarkedProof$Pile;", true)
  | 6 => ("MarkedProof", "sheetReader", "LMarkedProof$SheetReader;", true)
  | 7 => ("MarkedProof", "markReader", "LMarkedProof$MarkReader;", true)
  | 8 => ("MarkedProof", "setter", "LMarkedProof$Setter;", true)
  | 9 => ("MarkedProof", "ruler", "LMarkedProof$Ruler;", true)
  | 10 => ("MarkedProof", "holding", "LMarkedProof$Holding;", true)
  | _ => ("MarkedProof", "bill", "LMarkedProof$Bill;", true)
def tyX11 : Nat → FieldType := fun k => match k with
  | 0 => .object "MarkedProof$Tape"
  | 1 => .object "MarkedProof$Fault"
  | 2 => .object "MarkedProof$Sheet"
  | 3 => .object "MarkedProof$Sheet"
  | 4 => .object "MarkedProof$Sheet"
  | 5 => .object "MarkedProof$Pile"
  | 6 => .object "MarkedProof$SheetReader"
  | 7 => .object "MarkedProof$MarkReader"
  | 8 => .object "MarkedProof$Setter"
  | 9 => .object "MarkedProof$Ruler"
  | 10 => .object "MarkedProof$Holding"
  | _ => .object "MarkedProof$Bill"
abbrev wsX110 : List Cond := u_ws RX11 TX11 12
theorem nmX11 : ∀ a, a < 12 → ∀ b, b < 12 → a ≠ b → (TX11 a).2.1 ≠ (TX11 b).2.1 := by decide +kernel
theorem tyX11_ok : ∀ k, k < 12 → parseFieldDescriptor (TX11 k).2.2.1 = some (tyX11 k) := by decide +kernel
abbrev cX11_init : ByteArray := prog_1_method_1_code
def yX11_init : MethodName := ⟨RX11, "<init>", "()V"⟩
abbrev cX11_feed : ByteArray := prog_1_method_2_code
def yX11_feed : MethodName := ⟨RX11, "feed", "(IIIII)I"⟩
abbrev cX11_end : ByteArray := prog_1_method_3_code
def yX11_end : MethodName := ⟨RX11, "end", "(I)I"⟩
abbrev cX11_first : ByteArray := prog_1_method_4_code
def yX11_first : MethodName := ⟨RX11, "first", "()I"⟩
abbrev cX11_second : ByteArray := prog_1_method_5_code
def yX11_second : MethodName := ⟨RX11, "second", "()I"⟩
abbrev cX11_marks : ByteArray := prog_1_method_6_code
def yX11_marks : MethodName := ⟨RX11, "marks", "()I"⟩
abbrev cX11_fault : ByteArray := prog_1_method_7_code
def yX11_fault : MethodName := ⟨RX11, "fault", "(I)I"⟩
abbrev cX11_word : ByteArray := prog_1_method_8_code
def yX11_word : MethodName := ⟨RX11, "word", "(II)J"⟩
abbrev cX11_mark : ByteArray := prog_1_method_9_code
def yX11_mark : MethodName := ⟨RX11, "mark", "(II)I"⟩
abbrev cX11_answer : ByteArray := prog_1_method_10_code
def yX11_answer : MethodName := ⟨RX11, "answer", "(IZ)I"⟩
abbrev cX11_rank : ByteArray := prog_1_method_11_code
def yX11_rank : MethodName := ⟨RX11, "rank", "(II)I"⟩
abbrev cX11_meet : ByteArray := prog_1_method_12_code
def yX11_meet : MethodName := ⟨RX11, "meet", "(II)I"⟩
abbrev cX11_within : ByteArray := prog_1_method_13_code
def yX11_within : MethodName := ⟨RX11, "within", "(II)I"⟩
abbrev cX11_costs : ByteArray := prog_1_method_14_code
def yX11_costs : MethodName := ⟨RX11, "costs", "(II)I"⟩
abbrev cX11_hold : ByteArray := prog_1_method_15_code
def yX11_hold : MethodName := ⟨RX11, "hold", "()I"⟩
abbrev cX11_held : ByteArray := prog_1_method_16_code
def yX11_held : MethodName := ⟨RX11, "held", "(I)I"⟩
abbrev cX11_unasked : ByteArray := prog_1_method_17_code
def yX11_unasked : MethodName := ⟨RX11, "unasked", "(II)I"⟩
abbrev cX11_distance : ByteArray := prog_1_method_18_code
def yX11_distance : MethodName := ⟨RX11, "distance", "(II)I"⟩
abbrev cX11_next : ByteArray := prog_1_method_19_code
def yX11_next : MethodName := ⟨RX11, "next", "()I"⟩
abbrev cX11_error : ByteArray := prog_1_method_20_code
def yX11_error : MethodName := ⟨RX11, "error", "(IZ)I"⟩
abbrev cX11_price : ByteArray := prog_1_method_21_code
def yX11_price : MethodName := ⟨RX11, "price", "(II)I"⟩
abbrev cX11_pays : ByteArray := prog_1_method_22_code
def yX11_pays : MethodName := ⟨RX11, "pays", "(I)I"⟩
abbrev cX11_count : ByteArray := prog_1_method_23_code
def yX11_count : MethodName := ⟨RX11, "count", "(I)I"⟩
abbrev cX11_sheetOf : ByteArray := prog_1_method_24_code
def yX11_sheetOf : MethodName := ⟨RX11, "sheetOf", "(I)LMarkedProof$Sheet;"⟩
abbrev cX11_sizeOf : ByteArray := prog_1_method_25_code
def yX11_sizeOf : MethodName := ⟨RX11, "sizeOf", "(I)I"⟩
abbrev cX11_settle : ByteArray := prog_1_method_26_code
def yX11_settle : MethodName := ⟨RX11, "settle", "()V"⟩
abbrev cX11_isBlank : ByteArray := prog_1_method_27_code
def yX11_isBlank : MethodName := ⟨RX11, "isBlank", "(I)Z"⟩
abbrev cX11_isSmall : ByteArray := prog_1_method_28_code
def yX11_isSmall : MethodName := ⟨RX11, "isSmall", "(I)Z"⟩
abbrev cX11_isDigit : ByteArray := prog_1_method_29_code
def yX11_isDigit : MethodName := ⟨RX11, "isDigit", "(I)Z"⟩
abbrev cX11_isOfWord : ByteArray := prog_1_method_30_code
def yX11_isOfWord : MethodName := ⟨RX11, "isOfWord", "(I)Z"⟩
def RX12 : String := "MarkedProofModel$Stop"
def TX12 : u_T := fun k => match k with
  | 0 => ("java/lang/Throwable", "cause", "Ljava/lang/Throwable;", false)
  | 1 => ("java/lang/Throwable", "stackTrace", "[Ljava/lang/StackTraceElement;", false)
  | 2 => ("java/lang/Throwable", "suppressedExceptions", "Ljava/util/List;", false)
  | 3 => ("java/lang/Throwable", "detailMessage", "Ljava/lang/String;", false)
  | 4 => ("java/lang/Throwable", "backtrace", "Ljava/lang/Object;", false)
  | _ => ("java/lang/Throwable", "depth", "I", false)
def tyX12 : Nat → FieldType := fun k => match k with
  | 0 => .object "java/lang/Throwable"
  | 1 => .array (.object "java/lang/StackTraceElement")
  | 2 => .object "java/util/List"
  | 3 => .object "java/lang/String"
  | 4 => .object "java/lang/Object"
  | _ => .int
abbrev wsX120 : List Cond := u_ws RX12 TX12 6
theorem nmX12 : ∀ a, a < 6 → ∀ b, b < 6 → a ≠ b → (TX12 a).2.1 ≠ (TX12 b).2.1 := by decide +kernel
theorem tyX12_ok : ∀ k, k < 6 → parseFieldDescriptor (TX12 k).2.2.1 = some (tyX12 k) := by decide +kernel
abbrev cX12_init : ByteArray := prog_15_method_1_code
def yX12_init : MethodName := ⟨RX12, "<init>", "()V"⟩
def RX13 : String := "MarkedProofModel"
def TX13 : u_T := fun k => match k with
  | 0 => ("MarkedProofModel", "first", "[J", true)
  | 1 => ("MarkedProofModel", "second", "[J", true)
  | 2 => ("MarkedProofModel", "made", "[J", true)
  | 3 => ("MarkedProofModel", "firstMany", "I", false)
  | 4 => ("MarkedProofModel", "secondMany", "I", false)
  | 5 => ("MarkedProofModel", "madeMany", "I", false)
  | 6 => ("MarkedProofModel", "stop", "LMarkedProofModel$Stop;", true)
  | 7 => ("MarkedProofModel", "tape", "[B", true)
  | 8 => ("MarkedProofModel", "taped", "I", false)
  | 9 => ("MarkedProofModel", "size", "I", false)
  | 10 => ("MarkedProofModel", "from", "I", false)
  | 11 => ("MarkedProofModel", "behind", "I", false)
  | 12 => ("MarkedProofModel", "hand", "I", false)
  | 13 => ("MarkedProofModel", "value", "I", false)
  | 14 => ("MarkedProofModel", "fault", "I", false)
  | 15 => ("MarkedProofModel", "faultAt", "I", false)
  | 16 => ("MarkedProofModel", "read", "[J", true)
  | 17 => ("MarkedProofModel", "kind", "[I", true)
  | 18 => ("MarkedProofModel", "by", "[I", true)
  | 19 => ("MarkedProofModel", "one", "[I", true)
  | 20 => ("MarkedProofModel", "two", "[I", true)
  | 21 => ("MarkedProofModel", "three", "[I", true)
  | 22 => ("MarkedProofModel", "words", "[I", true)
  | 23 => ("MarkedProofModel", "answered", "[I", true)
  | 24 => ("MarkedProofModel", "word", "[J", true)
  | 25 => ("MarkedProofModel", "asks", "[Z", true)
  | 26 => ("MarkedProofModel", "isError", "[Z", true)
  | 27 => ("MarkedProofModel", "many", "I", false)
  | 28 => ("MarkedProofModel", "rank", "[I", true)
  | 29 => ("MarkedProofModel", "price", "[I", true)
  | 30 => ("MarkedProofModel", "cost", "[I", true)
  | 31 => ("MarkedProofModel", "state", "[I", true)
  | 32 => ("MarkedProofModel", "over", "[I", true)
  | 33 => ("MarkedProofModel", "used", "[Z", true)
  | 34 => ("MarkedProofModel", "far", "[I", true)
  | 35 => ("MarkedProofModel", "heldSet", "I", false)
  | 36 => ("MarkedProofModel", "missedMany", "I", false)
  | 37 => ("MarkedProofModel", "unaskedMany", "I", false)
  | 38 => ("MarkedProofModel", "hasHeld", "Z", false)
  | 39 => ("MarkedProofModel", "missed", "[I", true)
  | 40 => ("MarkedProofModel", "how", "[I", true)
  | 41 => ("MarkedProofModel", "here", "[I", true)
  | _ => ("MarkedProofModel", "there", "[I", true)
def tyX13 : Nat → FieldType := fun k => match k with
  | 0 => .array .long
  | 1 => .array .long
  | 2 => .array .long
  | 3 => .int
  | 4 => .int
  | 5 => .int
  | 6 => .object "MarkedProofModel$Stop"
  | 7 => .array .byte
  | 8 => .int
  | 9 => .int
  | 10 => .int
  | 11 => .int
  | 12 => .int
  | 13 => .int
  | 14 => .int
  | 15 => .int
  | 16 => .array .long
  | 17 => .array .int
  | 18 => .array .int
  | 19 => .array .int
  | 20 => .array .int
  | 21 => .array .int
  | 22 => .array .int
  | 23 => .array .int
  | 24 => .array .long
  | 25 => .array .boolean
  | 26 => .array .boolean
  | 27 => .int
  | 28 => .array .int
  | 29 => .array .int
  | 30 => .array .int
  | 31 => .array .int
  | 32 => .array .int
  | 33 => .array .boolean
  | 34 => .array .int
  | 35 => .int
  | 36 => .int
  | 37 => .int
  | 38 => .boolean
  | 39 => .array .int
  | 40 => .array .int
  | 41 => .array .int
  | _ => .array .int
abbrev wsX130 : List Cond := u_ws RX13 TX13 43
theorem nmX13 : ∀ a, a < 43 → ∀ b, b < 43 → a ≠ b → (TX13 a).2.1 ≠ (TX13 b).2.1 := by decide +kernel
theorem tyX13_ok : ∀ k, k < 43 → parseFieldDescriptor (TX13 k).2.2.1 = some (tyX13 k) := by decide +kernel
abbrev cX13_in : ByteArray := prog_14_method_1_code
def yX13_in : MethodName := ⟨RX13, "in", "(JJJ)Z"⟩
abbrev cX13_wrong : ByteArray := prog_14_method_2_code
def yX13_wrong : MethodName := ⟨RX13, "wrong", "(II)LMarkedProofModel$Stop;"⟩
abbrev cX13_byteAt : ByteArray := prog_14_method_3_code
def yX13_byteAt : MethodName := ⟨RX13, "byteAt", "(I)I"⟩
abbrev cX13_isBlank : ByteArray := prog_14_method_4_code
def yX13_isBlank : MethodName := ⟨RX13, "isBlank", "(I)Z"⟩
abbrev cX13_isSmall : ByteArray := prog_14_method_5_code
def yX13_isSmall : MethodName := ⟨RX13, "isSmall", "(I)Z"⟩
abbrev cX13_isDigit : ByteArray := prog_14_method_6_code
def yX13_isDigit : MethodName := ⟨RX13, "isDigit", "(I)Z"⟩
abbrev cX13_isOfWord : ByteArray := prog_14_method_7_code
def yX13_isOfWord : MethodName := ⟨RX13, "isOfWord", "(I)Z"⟩
abbrev cX13_begin : ByteArray := prog_14_method_8_code
def yX13_begin : MethodName := ⟨RX13, "begin", "()V"⟩
abbrev cX13_readProof : ByteArray := prog_14_method_9_code
def yX13_readProof : MethodName := ⟨RX13, "readProof", "(I)I"⟩
abbrev cX13_init : ByteArray := prog_14_method_10_code
def yX13_init : MethodName := ⟨RX13, "<init>", "()V"⟩
abbrev cX13_feed : ByteArray := prog_14_method_11_code
def yX13_feed : MethodName := ⟨RX13, "feed", "(IIIII)I"⟩
abbrev cX13_lay : ByteArray := prog_14_method_12_code
def yX13_lay : MethodName := ⟨RX13, "lay", "(I)V"⟩
abbrev cX13_end : ByteArray := prog_14_method_13_code
def yX13_end : MethodName := ⟨RX13, "end", "(I)I"⟩
abbrev cX13_first : ByteArray := prog_14_method_14_code
def yX13_first : MethodName := ⟨RX13, "first", "()I"⟩
abbrev cX13_second : ByteArray := prog_14_method_15_code
def yX13_second : MethodName := ⟨RX13, "second", "()I"⟩
abbrev cX13_scan : ByteArray := prog_14_method_16_code
def yX13_scan : MethodName := ⟨RX13, "scan", "()V"⟩
abbrev cX13_is : ByteArray := prog_14_method_17_code
def yX13_is : MethodName := ⟨RX13, "is", "(Ljava/lang/String;)Z"⟩
abbrev cX13_number : ByteArray := prog_14_method_18_code
def yX13_number : MethodName := ⟨RX13, "number", "(II)I"⟩
abbrev cX13_readLine : ByteArray := prog_14_method_19_code
def yX13_readLine : MethodName := ⟨RX13, "readLine", "(I)V"⟩
abbrev cX13_readMove : ByteArray := prog_14_method_20_code
def yX13_readMove : MethodName := ⟨RX13, "readMove", "(I)V"⟩
abbrev cX13_readWords : ByteArray := prog_14_method_21_code
def yX13_readWords : MethodName := ⟨RX13, "readWords", "(I)V"⟩
abbrev cX13_marks : ByteArray := prog_14_method_22_code
def yX13_marks : MethodName := ⟨RX13, "marks", "()I"⟩
abbrev cX13_fault : ByteArray := prog_14_method_23_code
def yX13_fault : MethodName := ⟨RX13, "fault", "(I)I"⟩
abbrev cX13_isMark : ByteArray := prog_14_method_24_code
def yX13_isMark : MethodName := ⟨RX13, "isMark", "(I)Z"⟩
abbrev cX13_hasRow : ByteArray := prog_14_method_25_code
def yX13_hasRow : MethodName := ⟨RX13, "hasRow", "(I)Z"⟩
abbrev cX13_rowEnd : ByteArray := prog_14_method_26_code
def yX13_rowEnd : MethodName := ⟨RX13, "rowEnd", "(I)I"⟩
abbrev cX13_gapOf : ByteArray := prog_14_method_27_code
def yX13_gapOf : MethodName := ⟨RX13, "gapOf", "(I)I"⟩
abbrev cX13_isInside : ByteArray := prog_14_method_28_code
def yX13_isInside : MethodName := ⟨RX13, "isInside", "(III)Z"⟩
abbrev cX13_isWithin : ByteArray := prog_14_method_29_code
def yX13_isWithin : MethodName := ⟨RX13, "isWithin", "(II)Z"⟩
abbrev cX13_doMeet : ByteArray := prog_14_method_30_code
def yX13_doMeet : MethodName := ⟨RX13, "doMeet", "(II)Z"⟩
abbrev cX13_isCut : ByteArray := prog_14_method_31_code
def yX13_isCut : MethodName := ⟨RX13, "isCut", "(II)Z"⟩
abbrev cX13_meet : ByteArray := prog_14_method_32_code
def yX13_meet : MethodName := ⟨RX13, "meet", "(II)I"⟩
abbrev cX13_within : ByteArray := prog_14_method_33_code
def yX13_within : MethodName := ⟨RX13, "within", "(II)I"⟩
abbrev cX13_judge : ByteArray := prog_14_method_34_code
def yX13_judge : MethodName := ⟨RX13, "judge", "()V"⟩
abbrev cX13_judgeOne : ByteArray := prog_14_method_35_code
def yX13_judgeOne : MethodName := ⟨RX13, "judgeOne", "(I)V"⟩
abbrev cX13_mark : ByteArray := prog_14_method_36_code
def yX13_mark : MethodName := ⟨RX13, "mark", "(II)I"⟩
abbrev cX13_answer : ByteArray := prog_14_method_37_code
def yX13_answer : MethodName := ⟨RX13, "answer", "(IZ)I"⟩
abbrev cX13_rank : ByteArray := prog_14_method_38_code
def yX13_rank : MethodName := ⟨RX13, "rank", "(II)I"⟩
abbrev cX13_use : ByteArray := prog_14_method_39_code
def yX13_use : MethodName := ⟨RX13, "use", "(I)V"⟩
abbrev cX13_innermost : ByteArray := prog_14_method_40_code
def yX13_innermost : MethodName := ⟨RX13, "innermost", "(IZ)I"⟩
abbrev cX13_moveOf : ByteArray := prog_14_method_41_code
def yX13_moveOf : MethodName := ⟨RX13, "moveOf", "(I)I"⟩
abbrev cX13_put : ByteArray := prog_14_method_42_code
def yX13_put : MethodName := ⟨RX13, "put", "(J)V"⟩
abbrev cX13_putWords : ByteArray := prog_14_method_43_code
def yX13_putWords : MethodName := ⟨RX13, "putWords", "(I)V"⟩
abbrev cX13_layGap : ByteArray := prog_14_method_44_code
def yX13_layGap : MethodName := ⟨RX13, "layGap", "(I)V"⟩
abbrev cX13_turnAt : ByteArray := prog_14_method_45_code
def yX13_turnAt : MethodName := ⟨RX13, "turnAt", "(III)I"⟩
abbrev cX13_layRow : ByteArray := prog_14_method_46_code
def yX13_layRow : MethodName := ⟨RX13, "layRow", "(III)V"⟩
abbrev cX13_layWord : ByteArray := prog_14_method_47_code
def yX13_layWord : MethodName := ⟨RX13, "layWord", "(II)V"⟩
abbrev cX13_make : ByteArray := prog_14_method_48_code
def yX13_make : MethodName := ⟨RX13, "make", "(I)V"⟩
abbrev cX13_isText : ByteArray := prog_14_method_49_code
def yX13_isText : MethodName := ⟨RX13, "isText", "(I)Z"⟩
abbrev cX13_wordsOf : ByteArray := prog_14_method_50_code
def yX13_wordsOf : MethodName := ⟨RX13, "wordsOf", "(I)I"⟩
abbrev cX13_wordAt : ByteArray := prog_14_method_51_code
def yX13_wordAt : MethodName := ⟨RX13, "wordAt", "(II)J"⟩
abbrev cX13_word : ByteArray := prog_14_method_52_code
def yX13_word : MethodName := ⟨RX13, "word", "(II)J"⟩
abbrev cX13_at : ByteArray := prog_14_method_53_code
def yX13_at : MethodName := ⟨RX13, "at", "(II)I"⟩
abbrev cX13_apart : ByteArray := prog_14_method_54_code
def yX13_apart : MethodName := ⟨RX13, "apart", "(IIII)I"⟩
abbrev cX13_distance : ByteArray := prog_14_method_55_code
def yX13_distance : MethodName := ⟨RX13, "distance", "(II)I"⟩
abbrev cX13_costs : ByteArray := prog_14_method_56_code
def yX13_costs : MethodName := ⟨RX13, "costs", "(II)I"⟩
abbrev cX13_bits : ByteArray := prog_14_method_57_code
def yX13_bits : MethodName := ⟨RX13, "bits", "(I)I"⟩
abbrev cX13_hold : ByteArray := prog_14_method_58_code
def yX13_hold : MethodName := ⟨RX13, "hold", "()I"⟩
abbrev cX13_trace : ByteArray := prog_14_method_59_code
def yX13_trace : MethodName := ⟨RX13, "trace", "()V"⟩
abbrev cX13_held : ByteArray := prog_14_method_60_code
def yX13_held : MethodName := ⟨RX13, "held", "(I)I"⟩
abbrev cX13_unasked : ByteArray := prog_14_method_61_code
def yX13_unasked : MethodName := ⟨RX13, "unasked", "(II)I"⟩
abbrev cX13_next : ByteArray := prog_14_method_62_code
def yX13_next : MethodName := ⟨RX13, "next", "()I"⟩
abbrev cX13_error : ByteArray := prog_14_method_63_code
def yX13_error : MethodName := ⟨RX13, "error", "(IZ)I"⟩
abbrev cX13_price : ByteArray := prog_14_method_64_code
def yX13_price : MethodName := ⟨RX13, "price", "(II)I"⟩
abbrev cX13_pays : ByteArray := prog_14_method_65_code
def yX13_pays : MethodName := ⟨RX13, "pays", "(I)I"⟩
abbrev cX13_count : ByteArray := prog_14_method_66_code
def yX13_count : MethodName := ⟨RX13, "count", "(I)I"⟩
def RJ11 : String := "java/lang/Character"
def TJ11 : u_T := fun k => match k with
  | _ => ("", "", "", false)
def tyJ11 : Nat → FieldType := fun k => match k with
  | _ => .int
abbrev wsJ110 : List Cond := u_ws RJ11 TJ11 0
theorem nmJ11 : ∀ a, a < 0 → ∀ b, b < 0 → a ≠ b → (TJ11 a).2.1 ≠ (TJ11 b).2.1 := by decide +kernel
theorem tyJ11_ok : ∀ k, k < 0 → parseFieldDescriptor (TJ11 k).2.2.1 = some (tyJ11 k) := by decide +kernel
abbrev cJ11_isValidCodePoint_9a6ad : ByteArray := prog_16_method_11_code
def yJ11_isValidCodePoint_9a6ad : MethodName := ⟨RJ11, "isValidCodePoint", "(I)Z"⟩
abbrev cJ11_highSurrogate_5068e : ByteArray := prog_16_method_28_code
def yJ11_highSurrogate_5068e : MethodName := ⟨RJ11, "highSurrogate", "(I)C"⟩
abbrev cJ11_lowSurrogate_5068e : ByteArray := prog_16_method_29_code
def yJ11_lowSurrogate_5068e : MethodName := ⟨RJ11, "lowSurrogate", "(I)C"⟩
def RJx8e188 : String := "java/lang/Cloneable"
def TJx8e188 : u_T := fun k => match k with
  | _ => ("", "", "", false)
def tyJx8e188 : Nat → FieldType := fun k => match k with
  | _ => .int
abbrev wsJx8e1880 : List Cond := u_ws RJx8e188 TJx8e188 0
theorem nmJx8e188 : ∀ a, a < 0 → ∀ b, b < 0 → a ≠ b → (TJx8e188 a).2.1 ≠ (TJx8e188 b).2.1 := by decide +kernel
theorem tyJx8e188_ok : ∀ k, k < 0 → parseFieldDescriptor (TJx8e188 k).2.2.1 = some (tyJx8e188 k) := by decide +kernel
def RJ6 : String := "java/lang/Integer"
def TJ6 : u_T := fun k => match k with
  | _ => ("", "", "", false)
def tyJ6 : Nat → FieldType := fun k => match k with
  | _ => .int
abbrev wsJ60 : List Cond := u_ws RJ6 TJ6 0
theorem nmJ6 : ∀ a, a < 0 → ∀ b, b < 0 → a ≠ b → (TJ6 a).2.1 ≠ (TJ6 b).2.1 := by decide +kernel
theorem tyJ6_ok : ∀ k, k < 0 → parseFieldDescriptor (TJ6 k).2.2.1 = some (tyJ6 k) := by decide +kernel
abbrev cJ6_bitCount_0f7a4 : ByteArray := prog_19_method_49_code
def yJ6_bitCount_0f7a4 : MethodName := ⟨RJ6, "bitCount", "(I)I"⟩
def RJ9 : String := "java/lang/Math"
def TJ9 : u_T := fun k => match k with
  | _ => ("", "", "", false)
def tyJ9 : Nat → FieldType := fun k => match k with
  | _ => .int
abbrev wsJ90 : List Cond := u_ws RJ9 TJ9 0
theorem nmJ9 : ∀ a, a < 0 → ∀ b, b < 0 → a ≠ b → (TJ9 a).2.1 ≠ (TJ9 b).2.1 := by decide +kernel
theorem tyJ9_ok : ∀ k, k < 0 → parseFieldDescriptor (TJ9 k).2.2.1 = some (tyJ9 k) := by decide +kernel
abbrev cJ9_abs_0f7a4 : ByteArray := prog_20_method_59_code
def yJ9_abs_0f7a4 : MethodName := ⟨RJ9, "abs", "(I)I"⟩
abbrev cJ9_max_7cf53 : ByteArray := prog_20_method_65_code
def yJ9_max_7cf53 : MethodName := ⟨RJ9, "max", "(II)I"⟩
abbrev cJ9_min_7cf53 : ByteArray := prog_20_method_69_code
def yJ9_min_7cf53 : MethodName := ⟨RJ9, "min", "(II)I"⟩
def RJ0 : String := "java/lang/String"
def TJ0 : u_T := fun k => match k with
  | _ => ("", "", "", false)
def tyJ0 : Nat → FieldType := fun k => match k with
  | _ => .int
abbrev wsJ00 : List Cond := u_ws RJ0 TJ0 0
theorem nmJ0 : ∀ a, a < 0 → ∀ b, b < 0 → a ≠ b → (TJ0 a).2.1 ≠ (TJ0 b).2.1 := by decide +kernel
theorem tyJ0_ok : ∀ k, k < 0 → parseFieldDescriptor (TJ0 k).2.2.1 = some (tyJ0 k) := by decide +kernel
abbrev cJ0_length_8abf5 : ByteArray := prog_21_method_54_code
def yJ0_length_8abf5 : MethodName := ⟨RJ0, "length", "()I"⟩
abbrev cJ0_charAt_5068e : ByteArray := prog_21_method_56_code
def yJ0_charAt_5068e : MethodName := ⟨RJ0, "charAt", "(I)C"⟩
abbrev cJ0_indexOf_0f7a4 : ByteArray := prog_21_method_79_code
def yJ0_indexOf_0f7a4 : MethodName := ⟨RJ0, "indexOf", "(I)I"⟩
abbrev cJ0_indexOf_7cf53 : ByteArray := prog_21_method_80_code
def yJ0_indexOf_7cf53 : MethodName := ⟨RJ0, "indexOf", "(II)I"⟩
abbrev cJ0_coder_7d493 : ByteArray := prog_21_method_152_code
def yJ0_coder_7d493 : MethodName := ⟨RJ0, "coder", "()B"⟩
abbrev cJ0_isLatin1_aae02 : ByteArray := prog_21_method_154_code
def yJ0_isLatin1_aae02 : MethodName := ⟨RJ0, "isLatin1", "()Z"⟩
abbrev cJ0_checkIndex_df160 : ByteArray := prog_21_method_155_code
def yJ0_checkIndex_df160 : MethodName := ⟨RJ0, "checkIndex", "(II)V"⟩
abbrev cJ0_checkBoundsBeginEnd_23922 : ByteArray := prog_21_method_158_code
def yJ0_checkBoundsBeginEnd_23922 : MethodName := ⟨RJ0, "checkBoundsBeginEnd", "(III)V"⟩
def RJ1 : String := "java/lang/StringLatin1"
def TJ1 : u_T := fun k => match k with
  | _ => ("", "", "", false)
def tyJ1 : Nat → FieldType := fun k => match k with
  | _ => .int
abbrev wsJ10 : List Cond := u_ws RJ1 TJ1 0
theorem nmJ1 : ∀ a, a < 0 → ∀ b, b < 0 → a ≠ b → (TJ1 a).2.1 ≠ (TJ1 b).2.1 := by decide +kernel
theorem tyJ1_ok : ∀ k, k < 0 → parseFieldDescriptor (TJ1 k).2.2.1 = some (tyJ1 k) := by decide +kernel
abbrev cJ1_charAt_3b067 : ByteArray := prog_22_method_2_code
def yJ1_charAt_3b067 : MethodName := ⟨RJ1, "charAt", "([BI)C"⟩
abbrev cJ1_canEncode_9a6ad : ByteArray := prog_22_method_4_code
def yJ1_canEncode_9a6ad : MethodName := ⟨RJ1, "canEncode", "(I)Z"⟩
abbrev cJ1_indexOf_4cfef : ByteArray := prog_22_method_22_code
def yJ1_indexOf_4cfef : MethodName := ⟨RJ1, "indexOf", "([BIII)I"⟩
abbrev cJ1_indexOfChar_4cfef : ByteArray := prog_22_method_23_code
def yJ1_indexOfChar_4cfef : MethodName := ⟨RJ1, "indexOfChar", "([BIII)I"⟩
def RJ2 : String := "java/lang/StringUTF16"
def TJ2 : u_T := fun k => match k with
  | _ => ("", "", "", false)
def tyJ2 : Nat → FieldType := fun k => match k with
  | _ => .int
abbrev wsJ20 : List Cond := u_ws RJ2 TJ2 0
theorem nmJ2 : ∀ a, a < 0 → ∀ b, b < 0 → a ≠ b → (TJ2 a).2.1 ≠ (TJ2 b).2.1 := by decide +kernel
theorem tyJ2_ok : ∀ k, k < 0 → parseFieldDescriptor (TJ2 k).2.2.1 = some (tyJ2 k) := by decide +kernel
abbrev cJ2_getChar_3b067 : ByteArray := prog_23_method_5_code
def yJ2_getChar_3b067 : MethodName := ⟨RJ2, "getChar", "([BI)C"⟩
abbrev cJ2_length_9d52b : ByteArray := prog_23_method_6_code
def yJ2_length_9d52b : MethodName := ⟨RJ2, "length", "([B)I"⟩
abbrev cJ2_indexOf_4cfef : ByteArray := prog_23_method_40_code
def yJ2_indexOf_4cfef : MethodName := ⟨RJ2, "indexOf", "([BIII)I"⟩
abbrev cJ2_indexOfChar_4cfef : ByteArray := prog_23_method_47_code
def yJ2_indexOfChar_4cfef : MethodName := ⟨RJ2, "indexOfChar", "([BIII)I"⟩
abbrev cJ2_indexOfCharUnsafe_4cfef : ByteArray := prog_23_method_48_code
def yJ2_indexOfCharUnsafe_4cfef : MethodName := ⟨RJ2, "indexOfCharUnsafe", "([BIII)I"⟩
abbrev cJ2_indexOfSupplementary_4cfef : ByteArray := prog_23_method_49_code
def yJ2_indexOfSupplementary_4cfef : MethodName := ⟨RJ2, "indexOfSupplementary", "([BIII)I"⟩
abbrev cJ2_charAt_3b067 : ByteArray := prog_23_method_83_code
def yJ2_charAt_3b067 : MethodName := ⟨RJ2, "charAt", "([BI)C"⟩
abbrev cJ2_checkIndex_2214a : ByteArray := prog_23_method_91_code
def yJ2_checkIndex_2214a : MethodName := ⟨RJ2, "checkIndex", "(I[B)V"⟩
abbrev cJ2_checkBoundsBeginEnd_d044e : ByteArray := prog_23_method_93_code
def yJ2_checkBoundsBeginEnd_d044e : MethodName := ⟨RJ2, "checkBoundsBeginEnd", "(II[B)V"⟩
def RJ3 : String := "jdk/internal/util/Preconditions"
def TJ3 : u_T := fun k => match k with
  | _ => ("", "", "", false)
def tyJ3 : Nat → FieldType := fun k => match k with
  | _ => .int
abbrev wsJ30 : List Cond := u_ws RJ3 TJ3 0
theorem nmJ3 : ∀ a, a < 0 → ∀ b, b < 0 → a ≠ b → (TJ3 a).2.1 ≠ (TJ3 b).2.1 := by decide +kernel
theorem tyJ3_ok : ∀ k, k < 0 → parseFieldDescriptor (TJ3 k).2.2.1 = some (tyJ3 k) := by decide +kernel
abbrev cJ3_checkIndex_8e157 : ByteArray := prog_25_method_11_code
def yJ3_checkIndex_8e157 : MethodName := ⟨RJ3, "checkIndex", "(IILjava/util/function/BiFunction;)I"⟩
abbrev cJ3_checkFromToIndex_8c36e : ByteArray := prog_25_method_12_code
def yJ3_checkFromToIndex_8c36e : MethodName := ⟨RJ3, "checkFromToIndex", "(IIILjava/util/function/BiFunction;)I"⟩
def RL : String := "MarkedProofLaw"
abbrev cL_law : ByteArray := code
def yL_law : MethodName := ⟨RL, "law", "([I)Z"⟩
abbrev vwCl : List vw_C := [(RX0, TX0, 1), (RX1, TX1, 2), (RX2, TX2, 12), (RX3, TX3, 13), (RX4, TX4, 7), (RX5, TX5, 6), (RX6, TX6, 1), (RX7, TX7, 5), (RX8, TX8, 2), (RX9, TX9, 1), (RX10, TX10, 2), (RX11, TX11, 12), (RX12, TX12, 6), (RX13, TX13, 43)]
end
section
theorem dX0_init_0 : decode cX0_init 0 = .ok (.aload_n 0, 1) := by decide +kernel
theorem dX0_init_1 : decode cX0_init 1 = .ok (.invokespecial 3, 3) := by decide +kernel
theorem dX0_init_4 : decode cX0_init 4 = .ok (.aload_n 0, 1) := by decide +kernel
theorem dX0_init_5 : decode cX0_init 5 = .ok (.getstatic 9, 3) := by decide +kernel
theorem dX0_init_8 : decode cX0_init 8 = .ok (.invokevirtual 13, 3) := by decide +kernel
theorem dX0_init_11 : decode cX0_init 11 = .ok (.checkcast 14, 3) := by decide +kernel
theorem dX0_init_14 : decode cX0_init 14 = .ok (.putfield 18, 3) := by decide +kernel
theorem dX0_init_17 : decode cX0_init 17 = .ok (.return_, 1) := by decide +kernel
theorem dX0_setPrice_0 : decode cX0_setPrice 0 = .ok (.aload_n 0, 1) := by decide +kernel
theorem dX0_setPrice_1 : decode cX0_setPrice 1 = .ok (.iload_n 1, 1) := by decide +kernel
theorem dX0_setPrice_2 : decode cX0_setPrice 2 = .ok (.invokevirtual 23, 3) := by decide +kernel
theorem dX0_setPrice_5 : decode cX0_setPrice 5 = .ok (.istore_n 3, 1) := by decide +kernel
theorem dX0_setPrice_6 : decode cX0_setPrice 6 = .ok (.iload_n 1, 1) := by decide +kernel
theorem dX0_setPrice_7 : decode cX0_setPrice 7 = .ok (.ifCond .lt 19, 3) := by decide +kernel
theorem dX0_setPrice_10 : decode cX0_setPrice 10 = .ok (.iload_n 1, 1) := by decide +kernel
theorem dX0_setPrice_11 : decode cX0_setPrice 11 = .ok (.aload_n 0, 1) := by decide +kernel
theorem dX0_setPrice_12 : decode cX0_setPrice 12 = .ok (.getfield 18, 3) := by decide +kernel
theorem dX0_setPrice_15 : decode cX0_setPrice 15 = .ok (.arraylength, 1) := by decide +kernel
theorem dX0_setPrice_16 : decode cX0_setPrice 16 = .ok (.if_icmp .ge 10, 3) := by decide +kernel
theorem dX0_setPrice_19 : decode cX0_setPrice 19 = .ok (.aload_n 0, 1) := by decide +kernel
theorem dX0_setPrice_20 : decode cX0_setPrice 20 = .ok (.getfield 18, 3) := by decide +kernel
theorem dX0_setPrice_23 : decode cX0_setPrice 23 = .ok (.iload_n 1, 1) := by decide +kernel
theorem dX0_setPrice_24 : decode cX0_setPrice 24 = .ok (.iload_n 2, 1) := by decide +kernel
theorem dX0_setPrice_25 : decode cX0_setPrice 25 = .ok (.iastore, 1) := by decide +kernel
theorem dX0_setPrice_26 : decode cX0_setPrice 26 = .ok (.iload_n 3, 1) := by decide +kernel
theorem dX0_setPrice_27 : decode cX0_setPrice 27 = .ok (.ireturn, 1) := by decide +kernel
theorem dX0_priceOf_0 : decode cX0_priceOf 0 = .ok (.iload_n 1, 1) := by decide +kernel
theorem dX0_priceOf_1 : decode cX0_priceOf 1 = .ok (.ifCond .lt 12, 3) := by decide +kernel
theorem dX0_priceOf_4 : decode cX0_priceOf 4 = .ok (.iload_n 1, 1) := by decide +kernel
theorem dX0_priceOf_5 : decode cX0_priceOf 5 = .ok (.aload_n 0, 1) := by decide +kernel
theorem dX0_priceOf_6 : decode cX0_priceOf 6 = .ok (.getfield 18, 3) := by decide +kernel
theorem dX0_priceOf_9 : decode cX0_priceOf 9 = .ok (.arraylength, 1) := by decide +kernel
theorem dX0_priceOf_10 : decode cX0_priceOf 10 = .ok (.if_icmp .lt 7, 3) := by decide +kernel
theorem dX0_priceOf_13 : decode cX0_priceOf 13 = .ok (.iconst 0, 1) := by decide +kernel
theorem dX0_priceOf_14 : decode cX0_priceOf 14 = .ok (.goto 9, 3) := by decide +kernel
theorem dX0_priceOf_17 : decode cX0_priceOf 17 = .ok (.aload_n 0, 1) := by decide +kernel
theorem dX0_priceOf_18 : decode cX0_priceOf 18 = .ok (.getfield 18, 3) := by decide +kernel
theorem dX0_priceOf_21 : decode cX0_priceOf 21 = .ok (.iload_n 1, 1) := by decide +kernel
theorem dX0_priceOf_22 : decode cX0_priceOf 22 = .ok (.iaload, 1) := by decide +kernel
theorem dX0_priceOf_23 : decode cX0_priceOf 23 = .ok (.ireturn, 1) := by decide +kernel
theorem dX0_sum_0 : decode cX0_sum 0 = .ok (.iconst 0, 1) := by decide +kernel
theorem dX0_sum_1 : decode cX0_sum 1 = .ok (.istore_n 3, 1) := by decide +kernel
theorem dX0_sum_2 : decode cX0_sum 2 = .ok (.iconst 0, 1) := by decide +kernel
theorem dX0_sum_3 : decode cX0_sum 3 = .ok (.istore 4, 2) := by decide +kernel
theorem dX0_sum_5 : decode cX0_sum 5 = .ok (.iload 4, 2) := by decide +kernel
theorem dX0_sum_7 : decode cX0_sum 7 = .ok (.aload_n 1, 1) := by decide +kernel
theorem dX0_sum_8 : decode cX0_sum 8 = .ok (.getfield 27, 3) := by decide +kernel
theorem dX0_sum_11 : decode cX0_sum 11 = .ok (.if_icmp .ge 64, 3) := by decide +kernel
theorem dX0_sum_14 : decode cX0_sum 14 = .ok (.aload_n 1, 1) := by decide +kernel
theorem dX0_sum_15 : decode cX0_sum 15 = .ok (.aload_n 1, 1) := by decide +kernel
theorem dX0_sum_16 : decode cX0_sum 16 = .ok (.iload 4, 2) := by decide +kernel
theorem dX0_sum_18 : decode cX0_sum 18 = .ok (.invokevirtual 33, 3) := by decide +kernel
theorem dX0_sum_21 : decode cX0_sum 21 = .ok (.invokevirtual 36, 3) := by decide +kernel
theorem dX0_sum_24 : decode cX0_sum 24 = .ok (.astore 5, 2) := by decide +kernel
theorem dX0_sum_26 : decode cX0_sum 26 = .ok (.aload 5, 2) := by decide +kernel
theorem dX0_sum_28 : decode cX0_sum 28 = .ok (.ifnull 41, 3) := by decide +kernel
theorem dX0_sum_31 : decode cX0_sum 31 = .ok (.aload 5, 2) := by decide +kernel
theorem dX0_sum_33 : decode cX0_sum 33 = .ok (.getfield 40, 3) := by decide +kernel
theorem dX0_sum_36 : decode cX0_sum 36 = .ok (.iconst 2, 1) := by decide +kernel
theorem dX0_sum_37 : decode cX0_sum 37 = .ok (.if_icmp .eq 11, 3) := by decide +kernel
theorem dX0_sum_40 : decode cX0_sum 40 = .ok (.aload 5, 2) := by decide +kernel
theorem dX0_sum_42 : decode cX0_sum 42 = .ok (.getfield 45, 3) := by decide +kernel
theorem dX0_sum_45 : decode cX0_sum 45 = .ok (.ifCond .eq 7, 3) := by decide +kernel
theorem dX0_sum_48 : decode cX0_sum 48 = .ok (.iconst 1, 1) := by decide +kernel
theorem dX0_sum_49 : decode cX0_sum 49 = .ok (.goto 4, 3) := by decide +kernel
theorem dX0_sum_52 : decode cX0_sum 52 = .ok (.iconst 0, 1) := by decide +kernel
theorem dX0_sum_53 : decode cX0_sum 53 = .ok (.iload_n 2, 1) := by decide +kernel
theorem dX0_sum_54 : decode cX0_sum 54 = .ok (.if_icmp .ne 15, 3) := by decide +kernel
theorem dX0_sum_57 : decode cX0_sum 57 = .ok (.iload_n 3, 1) := by decide +kernel
theorem dX0_sum_58 : decode cX0_sum 58 = .ok (.aload_n 0, 1) := by decide +kernel
theorem dX0_sum_59 : decode cX0_sum 59 = .ok (.aload 5, 2) := by decide +kernel
theorem dX0_sum_61 : decode cX0_sum 61 = .ok (.getfield 49, 3) := by decide +kernel
theorem dX0_sum_64 : decode cX0_sum 64 = .ok (.invokevirtual 23, 3) := by decide +kernel
theorem dX0_sum_67 : decode cX0_sum 67 = .ok (.iadd, 1) := by decide +kernel
theorem dX0_sum_68 : decode cX0_sum 68 = .ok (.istore_n 3, 1) := by decide +kernel
theorem dX0_sum_69 : decode cX0_sum 69 = .ok (.iinc 4 1, 3) := by decide +kernel
theorem dX0_sum_72 : decode cX0_sum 72 = .ok (.goto (-67), 3) := by decide +kernel
theorem dX0_sum_75 : decode cX0_sum 75 = .ok (.iload_n 3, 1) := by decide +kernel
theorem dX0_sum_76 : decode cX0_sum 76 = .ok (.ireturn, 1) := by decide +kernel
theorem dX1_init_0 : decode cX1_init 0 = .ok (.aload_n 0, 1) := by decide +kernel
theorem dX1_init_1 : decode cX1_init 1 = .ok (.invokespecial 3, 3) := by decide +kernel
theorem dX1_init_4 : decode cX1_init 4 = .ok (.aload_n 0, 1) := by decide +kernel
theorem dX1_init_5 : decode cX1_init 5 = .ok (.iconst 0, 1) := by decide +kernel
theorem dX1_init_6 : decode cX1_init 6 = .ok (.putfield 9, 3) := by decide +kernel
theorem dX1_init_9 : decode cX1_init 9 = .ok (.aload_n 0, 1) := by decide +kernel
theorem dX1_init_10 : decode cX1_init 10 = .ok (.iconst (-1), 1) := by decide +kernel
theorem dX1_init_11 : decode cX1_init 11 = .ok (.putfield 15, 3) := by decide +kernel
theorem dX1_init_14 : decode cX1_init 14 = .ok (.return_, 1) := by decide +kernel
theorem dX1_clear_0 : decode cX1_clear 0 = .ok (.aload_n 0, 1) := by decide +kernel
theorem dX1_clear_1 : decode cX1_clear 1 = .ok (.iconst 0, 1) := by decide +kernel
theorem dX1_clear_2 : decode cX1_clear 2 = .ok (.putfield 9, 3) := by decide +kernel
theorem dX1_clear_5 : decode cX1_clear 5 = .ok (.aload_n 0, 1) := by decide +kernel
theorem dX1_clear_6 : decode cX1_clear 6 = .ok (.iconst (-1), 1) := by decide +kernel
theorem dX1_clear_7 : decode cX1_clear 7 = .ok (.putfield 15, 3) := by decide +kernel
theorem dX1_clear_10 : decode cX1_clear 10 = .ok (.return_, 1) := by decide +kernel
theorem dX1_tellOf_0 : decode cX1_tellOf 0 = .ok (.aload_n 0, 1) := by decide +kernel
theorem dX1_tellOf_1 : decode cX1_tellOf 1 = .ok (.iload_n 1, 1) := by decide +kernel
theorem dX1_tellOf_2 : decode cX1_tellOf 2 = .ok (.putfield 9, 3) := by decide +kernel
theorem dX1_tellOf_5 : decode cX1_tellOf 5 = .ok (.aload_n 0, 1) := by decide +kernel
theorem dX1_tellOf_6 : decode cX1_tellOf 6 = .ok (.iload_n 2, 1) := by decide +kernel
theorem dX1_tellOf_7 : decode cX1_tellOf 7 = .ok (.putfield 15, 3) := by decide +kernel
theorem dX1_tellOf_10 : decode cX1_tellOf 10 = .ok (.iconst 0, 1) := by decide +kernel
theorem dX1_tellOf_11 : decode cX1_tellOf 11 = .ok (.ireturn, 1) := by decide +kernel
theorem dX2_init_0 : decode cX2_init 0 = .ok (.aload_n 0, 1) := by decide +kernel
theorem dX2_init_1 : decode cX2_init 1 = .ok (.invokespecial 3, 3) := by decide +kernel
theorem dX2_init_4 : decode cX2_init 4 = .ok (.aload_n 0, 1) := by decide +kernel
theorem dX2_init_5 : decode cX2_init 5 = .ok (.new 9, 3) := by decide +kernel
theorem dX2_init_8 : decode cX2_init 8 = .ok (.dup, 1) := by decide +kernel
theorem dX2_init_9 : decode cX2_init 9 = .ok (.bipush 108, 2) := by decide +kernel
theorem dX2_init_11 : decode cX2_init 11 = .ok (.invokespecial 11, 3) := by decide +kernel
theorem dX2_init_14 : decode cX2_init 14 = .ok (.putfield 14, 3) := by decide +kernel
theorem dX2_init_17 : decode cX2_init 17 = .ok (.aload_n 0, 1) := by decide +kernel
theorem dX2_init_18 : decode cX2_init 18 = .ok (.bipush 8, 2) := by decide +kernel
theorem dX2_init_20 : decode cX2_init 20 = .ok (.newarray .int, 2) := by decide +kernel
theorem dX2_init_22 : decode cX2_init 22 = .ok (.putfield 20, 3) := by decide +kernel
theorem dX2_init_25 : decode cX2_init 25 = .ok (.aload_n 0, 1) := by decide +kernel
theorem dX2_init_26 : decode cX2_init 26 = .ok (.sipush 150, 3) := by decide +kernel
theorem dX2_init_29 : decode cX2_init 29 = .ok (.newarray .int, 2) := by decide +kernel
theorem dX2_init_31 : decode cX2_init 31 = .ok (.putfield 24, 3) := by decide +kernel
theorem dX2_init_34 : decode cX2_init 34 = .ok (.aload_n 0, 1) := by decide +kernel
theorem dX2_init_35 : decode cX2_init 35 = .ok (.sipush 150, 3) := by decide +kernel
theorem dX2_init_38 : decode cX2_init 38 = .ok (.newarray .int, 2) := by decide +kernel
theorem dX2_init_40 : decode cX2_init 40 = .ok (.putfield 27, 3) := by decide +kernel
theorem dX2_init_43 : decode cX2_init 43 = .ok (.aload_n 0, 1) := by decide +kernel
theorem dX2_init_44 : decode cX2_init 44 = .ok (.sipush 150, 3) := by decide +kernel
theorem dX2_init_47 : decode cX2_init 47 = .ok (.newarray .int, 2) := by decide +kernel
theorem dX2_init_49 : decode cX2_init 49 = .ok (.putfield 30, 3) := by decide +kernel
theorem dX2_init_52 : decode cX2_init 52 = .ok (.aload_n 0, 1) := by decide +kernel
theorem dX2_init_53 : decode cX2_init 53 = .ok (.iconst 2, 1) := by decide +kernel
theorem dX2_init_54 : decode cX2_init 54 = .ok (.putfield 33, 3) := by decide +kernel
theorem dX2_init_57 : decode cX2_init 57 = .ok (.aload_n 0, 1) := by decide +kernel
theorem dX2_init_58 : decode cX2_init 58 = .ok (.iconst 3, 1) := by decide +kernel
theorem dX2_init_59 : decode cX2_init 59 = .ok (.putfield 37, 3) := by decide +kernel
theorem dX2_init_62 : decode cX2_init 62 = .ok (.return_, 1) := by decide +kernel
theorem dX2_weigh_0 : decode cX2_weigh 0 = .ok (.ldc 40, 2) := by decide +kernel
theorem dX2_weigh_2 : decode cX2_weigh 2 = .ok (.istore 6, 2) := by decide +kernel
theorem dX2_weigh_4 : decode cX2_weigh 4 = .ok (.iconst 0, 1) := by decide +kernel
theorem dX2_weigh_5 : decode cX2_weigh 5 = .ok (.istore 7, 2) := by decide +kernel
theorem dX2_weigh_7 : decode cX2_weigh 7 = .ok (.iconst 1, 1) := by decide +kernel
theorem dX2_weigh_8 : decode cX2_weigh 8 = .ok (.aload_n 1, 1) := by decide +kernel
theorem dX2_weigh_9 : decode cX2_weigh 9 = .ok (.getfield 41, 3) := by decide +kernel
theorem dX2_weigh_12 : decode cX2_weigh 12 = .ok (.bipush 8, 2) := by decide +kernel
theorem dX2_weigh_14 : decode cX2_weigh 14 = .ok (.invokestatic 46, 3) := by decide +kernel
theorem dX2_weigh_17 : decode cX2_weigh 17 = .ok (.ishl, 1) := by decide +kernel
theorem dX2_weigh_18 : decode cX2_weigh 18 = .ok (.istore 8, 2) := by decide +kernel
theorem dX2_weigh_20 : decode cX2_weigh 20 = .ok (.iconst 0, 1) := by decide +kernel
theorem dX2_weigh_21 : decode cX2_weigh 21 = .ok (.istore 9, 2) := by decide +kernel
theorem dX2_weigh_23 : decode cX2_weigh 23 = .ok (.iload 9, 2) := by decide +kernel
theorem dX2_weigh_25 : decode cX2_weigh 25 = .ok (.iload 8, 2) := by decide +kernel
theorem dX2_weigh_27 : decode cX2_weigh 27 = .ok (.if_icmp .ge 139, 3) := by decide +kernel
theorem dX2_weigh_30 : decode cX2_weigh 30 = .ok (.iload 9, 2) := by decide +kernel
theorem dX2_weigh_32 : decode cX2_weigh 32 = .ok (.invokestatic 52, 3) := by decide +kernel
theorem dX2_weigh_35 : decode cX2_weigh 35 = .ok (.istore 10, 2) := by decide +kernel
theorem dX2_weigh_37 : decode cX2_weigh 37 = .ok (.aload_n 0, 1) := by decide +kernel
theorem dX2_weigh_38 : decode cX2_weigh 38 = .ok (.iload 6, 2) := by decide +kernel
theorem dX2_weigh_40 : decode cX2_weigh 40 = .ok (.iload 10, 2) := by decide +kernel
theorem dX2_weigh_42 : decode cX2_weigh 42 = .ok (.aload_n 0, 1) := by decide +kernel
theorem dX2_weigh_43 : decode cX2_weigh 43 = .ok (.getfield 37, 3) := by decide +kernel
theorem dX2_weigh_46 : decode cX2_weigh 46 = .ok (.imul, 1) := by decide +kernel
theorem dX2_weigh_47 : decode cX2_weigh 47 = .ok (.isub, 1) := by decide +kernel
theorem dX2_weigh_48 : decode cX2_weigh 48 = .ok (.invokevirtual 58, 3) := by decide +kernel
theorem dX2_weigh_51 : decode cX2_weigh 51 = .ok (.istore 11, 2) := by decide +kernel
theorem dX2_weigh_53 : decode cX2_weigh 53 = .ok (.iload 11, 2) := by decide +kernel
theorem dX2_weigh_55 : decode cX2_weigh 55 = .ok (.ifCond .ge 6, 3) := by decide +kernel
theorem dX2_weigh_58 : decode cX2_weigh 58 = .ok (.goto 102, 3) := by decide +kernel
theorem dX2_weigh_61 : decode cX2_weigh 61 = .ok (.aload 4, 2) := by decide +kernel
theorem dX2_weigh_63 : decode cX2_weigh 63 = .ok (.aload_n 1, 1) := by decide +kernel
theorem dX2_weigh_64 : decode cX2_weigh 64 = .ok (.iload 9, 2) := by decide +kernel
theorem dX2_weigh_66 : decode cX2_weigh 66 = .ok (.invokevirtual 61, 3) := by decide +kernel
theorem dX2_weigh_69 : decode cX2_weigh 69 = .ok (.aload 4, 2) := by decide +kernel
theorem dX2_weigh_71 : decode cX2_weigh 71 = .ok (.aload_n 2, 1) := by decide +kernel
theorem dX2_weigh_72 : decode cX2_weigh 72 = .ok (.aload_n 0, 1) := by decide +kernel
theorem dX2_weigh_73 : decode cX2_weigh 73 = .ok (.getfield 14, 3) := by decide +kernel
theorem dX2_weigh_76 : decode cX2_weigh 76 = .ok (.invokevirtual 67, 3) := by decide +kernel
theorem dX2_weigh_79 : decode cX2_weigh 79 = .ok (.aload 5, 2) := by decide +kernel
theorem dX2_weigh_81 : decode cX2_weigh 81 = .ok (.aload_n 0, 1) := by decide +kernel
theorem dX2_weigh_82 : decode cX2_weigh 82 = .ok (.getfield 14, 3) := by decide +kernel
theorem dX2_weigh_85 : decode cX2_weigh 85 = .ok (.iconst 0, 1) := by decide +kernel
theorem dX2_weigh_86 : decode cX2_weigh 86 = .ok (.aload_n 3, 1) := by decide +kernel
theorem dX2_weigh_87 : decode cX2_weigh 87 = .ok (.iconst 0, 1) := by decide +kernel
theorem dX2_weigh_88 : decode cX2_weigh 88 = .ok (.iload 11, 2) := by decide +kernel
theorem dX2_weigh_90 : decode cX2_weigh 90 = .ok (.invokevirtual 71, 3) := by decide +kernel
theorem dX2_weigh_93 : decode cX2_weigh 93 = .ok (.istore 12, 2) := by decide +kernel
theorem dX2_weigh_95 : decode cX2_weigh 95 = .ok (.iload 12, 2) := by decide +kernel
theorem dX2_weigh_97 : decode cX2_weigh 97 = .ok (.aload_n 0, 1) := by decide +kernel
theorem dX2_weigh_98 : decode cX2_weigh 98 = .ok (.getfield 33, 3) := by decide +kernel
theorem dX2_weigh_101 : decode cX2_weigh 101 = .ok (.imul, 1) := by decide +kernel
theorem dX2_weigh_102 : decode cX2_weigh 102 = .ok (.iload 10, 2) := by decide +kernel
theorem dX2_weigh_104 : decode cX2_weigh 104 = .ok (.aload_n 0, 1) := by decide +kernel
theorem dX2_weigh_105 : decode cX2_weigh 105 = .ok (.getfield 37, 3) := by decide +kernel
theorem dX2_weigh_108 : decode cX2_weigh 108 = .ok (.imul, 1) := by decide +kernel
theorem dX2_weigh_109 : decode cX2_weigh 109 = .ok (.iadd, 1) := by decide +kernel
theorem dX2_weigh_110 : decode cX2_weigh 110 = .ok (.istore 13, 2) := by decide +kernel
theorem dX2_weigh_112 : decode cX2_weigh 112 = .ok (.iload 12, 2) := by decide +kernel
theorem dX2_weigh_114 : decode cX2_weigh 114 = .ok (.iload 11, 2) := by decide +kernel
theorem dX2_weigh_116 : decode cX2_weigh 116 = .ok (.if_icmp .gt 44, 3) := by decide +kernel
theorem dX2_weigh_119 : decode cX2_weigh 119 = .ok (.iload 13, 2) := by decide +kernel
theorem dX2_weigh_121 : decode cX2_weigh 121 = .ok (.iload 6, 2) := by decide +kernel
theorem dX2_weigh_123 : decode cX2_weigh 123 = .ok (.if_icmp .lt 17, 3) := by decide +kernel
theorem dX2_weigh_126 : decode cX2_weigh 126 = .ok (.iload 13, 2) := by decide +kernel
theorem dX2_weigh_128 : decode cX2_weigh 128 = .ok (.iload 6, 2) := by decide +kernel
theorem dX2_weigh_130 : decode cX2_weigh 130 = .ok (.if_icmp .ne 30, 3) := by decide +kernel
theorem dX2_weigh_133 : decode cX2_weigh 133 = .ok (.iload 10, 2) := by decide +kernel
theorem dX2_weigh_135 : decode cX2_weigh 135 = .ok (.iload 7, 2) := by decide +kernel
theorem dX2_weigh_137 : decode cX2_weigh 137 = .ok (.if_icmp .ge 23, 3) := by decide +kernel
theorem dX2_weigh_140 : decode cX2_weigh 140 = .ok (.iload 13, 2) := by decide +kernel
theorem dX2_weigh_142 : decode cX2_weigh 142 = .ok (.istore 6, 2) := by decide +kernel
theorem dX2_weigh_144 : decode cX2_weigh 144 = .ok (.iload 10, 2) := by decide +kernel
theorem dX2_weigh_146 : decode cX2_weigh 146 = .ok (.istore 7, 2) := by decide +kernel
theorem dX2_weigh_148 : decode cX2_weigh 148 = .ok (.aload_n 0, 1) := by decide +kernel
theorem dX2_weigh_149 : decode cX2_weigh 149 = .ok (.iload 9, 2) := by decide +kernel
theorem dX2_weigh_151 : decode cX2_weigh 151 = .ok (.putfield 77, 3) := by decide +kernel
theorem dX2_weigh_154 : decode cX2_weigh 154 = .ok (.aload_n 0, 1) := by decide +kernel
theorem dX2_weigh_155 : decode cX2_weigh 155 = .ok (.iload 12, 2) := by decide +kernel
theorem dX2_weigh_157 : decode cX2_weigh 157 = .ok (.putfield 80, 3) := by decide +kernel
theorem dX2_weigh_160 : decode cX2_weigh 160 = .ok (.iinc 9 1, 3) := by decide +kernel
theorem dX2_weigh_163 : decode cX2_weigh 163 = .ok (.goto (-140), 3) := by decide +kernel
theorem dX2_weigh_166 : decode cX2_weigh 166 = .ok (.aload_n 0, 1) := by decide +kernel
theorem dX2_weigh_167 : decode cX2_weigh 167 = .ok (.iconst 1, 1) := by decide +kernel
theorem dX2_weigh_168 : decode cX2_weigh 168 = .ok (.putfield 83, 3) := by decide +kernel
theorem dX2_weigh_171 : decode cX2_weigh 171 = .ok (.aload_n 0, 1) := by decide +kernel
theorem dX2_weigh_172 : decode cX2_weigh 172 = .ok (.aload_n 1, 1) := by decide +kernel
theorem dX2_weigh_173 : decode cX2_weigh 173 = .ok (.invokevirtual 87, 3) := by decide +kernel
theorem dX2_weigh_176 : decode cX2_weigh 176 = .ok (.aload 4, 2) := by decide +kernel
theorem dX2_weigh_178 : decode cX2_weigh 178 = .ok (.aload_n 1, 1) := by decide +kernel
theorem dX2_weigh_179 : decode cX2_weigh 179 = .ok (.aload_n 0, 1) := by decide +kernel
theorem dX2_weigh_180 : decode cX2_weigh 180 = .ok (.getfield 77, 3) := by decide +kernel
theorem dX2_weigh_183 : decode cX2_weigh 183 = .ok (.invokevirtual 61, 3) := by decide +kernel
theorem dX2_weigh_186 : decode cX2_weigh 186 = .ok (.aload 4, 2) := by decide +kernel
theorem dX2_weigh_188 : decode cX2_weigh 188 = .ok (.aload_n 2, 1) := by decide +kernel
theorem dX2_weigh_189 : decode cX2_weigh 189 = .ok (.aload_n 0, 1) := by decide +kernel
theorem dX2_weigh_190 : decode cX2_weigh 190 = .ok (.getfield 14, 3) := by decide +kernel
theorem dX2_weigh_193 : decode cX2_weigh 193 = .ok (.invokevirtual 67, 3) := by decide +kernel
theorem dX2_weigh_196 : decode cX2_weigh 196 = .ok (.aload_n 0, 1) := by decide +kernel
theorem dX2_weigh_197 : decode cX2_weigh 197 = .ok (.aload_n 3, 1) := by decide +kernel
theorem dX2_weigh_198 : decode cX2_weigh 198 = .ok (.aload 5, 2) := by decide +kernel
theorem dX2_weigh_200 : decode cX2_weigh 200 = .ok (.invokevirtual 91, 3) := by decide +kernel
theorem dX2_weigh_203 : decode cX2_weigh 203 = .ok (.iload 6, 2) := by decide +kernel
theorem dX2_weigh_205 : decode cX2_weigh 205 = .ok (.ireturn, 1) := by decide +kernel
theorem dX2_distanceFor_0 : decode cX2_distanceFor 0 = .ok (.iload_n 1, 1) := by decide +kernel
theorem dX2_distanceFor_1 : decode cX2_distanceFor 1 = .ok (.ifCond .lt 11, 3) := by decide +kernel
theorem dX2_distanceFor_4 : decode cX2_distanceFor 4 = .ok (.aload_n 0, 1) := by decide +kernel
theorem dX2_distanceFor_5 : decode cX2_distanceFor 5 = .ok (.getfield 33, 3) := by decide +kernel
theorem dX2_distanceFor_8 : decode cX2_distanceFor 8 = .ok (.iconst 1, 1) := by decide +kernel
theorem dX2_distanceFor_9 : decode cX2_distanceFor 9 = .ok (.if_icmp .ge 5, 3) := by decide +kernel
theorem dX2_distanceFor_12 : decode cX2_distanceFor 12 = .ok (.iconst (-1), 1) := by decide +kernel
theorem dX2_distanceFor_13 : decode cX2_distanceFor 13 = .ok (.ireturn, 1) := by decide +kernel
theorem dX2_distanceFor_14 : decode cX2_distanceFor 14 = .ok (.sipush 300, 3) := by decide +kernel
theorem dX2_distanceFor_17 : decode cX2_distanceFor 17 = .ok (.iload_n 1, 1) := by decide +kernel
theorem dX2_distanceFor_18 : decode cX2_distanceFor 18 = .ok (.aload_n 0, 1) := by decide +kernel
theorem dX2_distanceFor_19 : decode cX2_distanceFor 19 = .ok (.getfield 33, 3) := by decide +kernel
theorem dX2_distanceFor_22 : decode cX2_distanceFor 22 = .ok (.idiv, 1) := by decide +kernel
theorem dX2_distanceFor_23 : decode cX2_distanceFor 23 = .ok (.invokestatic 46, 3) := by decide +kernel
theorem dX2_distanceFor_26 : decode cX2_distanceFor 26 = .ok (.ireturn, 1) := by decide +kernel
theorem dX2_listMissed_0 : decode cX2_listMissed 0 = .ok (.aload_n 0, 1) := by decide +kernel
theorem dX2_listMissed_1 : decode cX2_listMissed 1 = .ok (.iconst 0, 1) := by decide +kernel
theorem dX2_listMissed_2 : decode cX2_listMissed 2 = .ok (.putfield 95, 3) := by decide +kernel
theorem dX2_listMissed_5 : decode cX2_listMissed 5 = .ok (.iconst 0, 1) := by decide +kernel
theorem dX2_listMissed_6 : decode cX2_listMissed 6 = .ok (.istore_n 2, 1) := by decide +kernel
theorem dX2_listMissed_7 : decode cX2_listMissed 7 = .ok (.iload_n 2, 1) := by decide +kernel
theorem dX2_listMissed_8 : decode cX2_listMissed 8 = .ok (.bipush 8, 2) := by decide +kernel
theorem dX2_listMissed_10 : decode cX2_listMissed 10 = .ok (.if_icmp .ge 57, 3) := by decide +kernel
theorem dX2_listMissed_13 : decode cX2_listMissed 13 = .ok (.aload_n 0, 1) := by decide +kernel
theorem dX2_listMissed_14 : decode cX2_listMissed 14 = .ok (.getfield 77, 3) := by decide +kernel
theorem dX2_listMissed_17 : decode cX2_listMissed 17 = .ok (.iload_n 2, 1) := by decide +kernel
theorem dX2_listMissed_18 : decode cX2_listMissed 18 = .ok (.ishr, 1) := by decide +kernel
theorem dX2_listMissed_19 : decode cX2_listMissed 19 = .ok (.iconst 1, 1) := by decide +kernel
theorem dX2_listMissed_20 : decode cX2_listMissed 20 = .ok (.iand, 1) := by decide +kernel
theorem dX2_listMissed_21 : decode cX2_listMissed 21 = .ok (.iconst 1, 1) := by decide +kernel
theorem dX2_listMissed_22 : decode cX2_listMissed 22 = .ok (.if_icmp .ne 39, 3) := by decide +kernel
theorem dX2_listMissed_25 : decode cX2_listMissed 25 = .ok (.aload_n 0, 1) := by decide +kernel
theorem dX2_listMissed_26 : decode cX2_listMissed 26 = .ok (.getfield 95, 3) := by decide +kernel
theorem dX2_listMissed_29 : decode cX2_listMissed 29 = .ok (.aload_n 0, 1) := by decide +kernel
theorem dX2_listMissed_30 : decode cX2_listMissed 30 = .ok (.getfield 20, 3) := by decide +kernel
theorem dX2_listMissed_33 : decode cX2_listMissed 33 = .ok (.arraylength, 1) := by decide +kernel
theorem dX2_listMissed_34 : decode cX2_listMissed 34 = .ok (.if_icmp .ge 27, 3) := by decide +kernel
theorem dX2_listMissed_37 : decode cX2_listMissed 37 = .ok (.aload_n 0, 1) := by decide +kernel
theorem dX2_listMissed_38 : decode cX2_listMissed 38 = .ok (.getfield 20, 3) := by decide +kernel
theorem dX2_listMissed_41 : decode cX2_listMissed 41 = .ok (.aload_n 0, 1) := by decide +kernel
theorem dX2_listMissed_42 : decode cX2_listMissed 42 = .ok (.getfield 95, 3) := by decide +kernel
theorem dX2_listMissed_45 : decode cX2_listMissed 45 = .ok (.aload_n 1, 1) := by decide +kernel
theorem dX2_listMissed_46 : decode cX2_listMissed 46 = .ok (.iload_n 2, 1) := by decide +kernel
theorem dX2_listMissed_47 : decode cX2_listMissed 47 = .ok (.invokevirtual 98, 3) := by decide +kernel
theorem dX2_listMissed_50 : decode cX2_listMissed 50 = .ok (.iastore, 1) := by decide +kernel
theorem dX2_listMissed_51 : decode cX2_listMissed 51 = .ok (.aload_n 0, 1) := by decide +kernel
theorem dX2_listMissed_52 : decode cX2_listMissed 52 = .ok (.dup, 1) := by decide +kernel
theorem dX2_listMissed_53 : decode cX2_listMissed 53 = .ok (.getfield 95, 3) := by decide +kernel
theorem dX2_listMissed_56 : decode cX2_listMissed 56 = .ok (.iconst 1, 1) := by decide +kernel
theorem dX2_listMissed_57 : decode cX2_listMissed 57 = .ok (.iadd, 1) := by decide +kernel
theorem dX2_listMissed_58 : decode cX2_listMissed 58 = .ok (.putfield 95, 3) := by decide +kernel
theorem dX2_listMissed_61 : decode cX2_listMissed 61 = .ok (.iinc 2 1, 3) := by decide +kernel
theorem dX2_listMissed_64 : decode cX2_listMissed 64 = .ok (.goto (-57), 3) := by decide +kernel
theorem dX2_listMissed_67 : decode cX2_listMissed 67 = .ok (.return_, 1) := by decide +kernel
theorem dX2_listChanges_0 : decode cX2_listChanges 0 = .ok (.aload_n 0, 1) := by decide +kernel
theorem dX2_listChanges_1 : decode cX2_listChanges 1 = .ok (.iconst 0, 1) := by decide +kernel
theorem dX2_listChanges_2 : decode cX2_listChanges 2 = .ok (.putfield 101, 3) := by decide +kernel
theorem dX2_listChanges_5 : decode cX2_listChanges 5 = .ok (.iconst 0, 1) := by decide +kernel
theorem dX2_listChanges_6 : decode cX2_listChanges 6 = .ok (.istore_n 3, 1) := by decide +kernel
theorem dX2_listChanges_7 : decode cX2_listChanges 7 = .ok (.iconst 0, 1) := by decide +kernel
theorem dX2_listChanges_8 : decode cX2_listChanges 8 = .ok (.istore 4, 2) := by decide +kernel
theorem dX2_listChanges_10 : decode cX2_listChanges 10 = .ok (.aload_n 0, 1) := by decide +kernel
theorem dX2_listChanges_11 : decode cX2_listChanges 11 = .ok (.getfield 80, 3) := by decide +kernel
theorem dX2_listChanges_14 : decode cX2_listChanges 14 = .ok (.istore 5, 2) := by decide +kernel
theorem dX2_listChanges_16 : decode cX2_listChanges 16 = .ok (.aload_n 0, 1) := by decide +kernel
theorem dX2_listChanges_17 : decode cX2_listChanges 17 = .ok (.getfield 14, 3) := by decide +kernel
theorem dX2_listChanges_20 : decode cX2_listChanges 20 = .ok (.getfield 104, 3) := by decide +kernel
theorem dX2_listChanges_23 : decode cX2_listChanges 23 = .ok (.aload_n 1, 1) := by decide +kernel
theorem dX2_listChanges_24 : decode cX2_listChanges 24 = .ok (.getfield 104, 3) := by decide +kernel
theorem dX2_listChanges_27 : decode cX2_listChanges 27 = .ok (.iadd, 1) := by decide +kernel
theorem dX2_listChanges_28 : decode cX2_listChanges 28 = .ok (.istore 6, 2) := by decide +kernel
theorem dX2_listChanges_30 : decode cX2_listChanges 30 = .ok (.iconst 0, 1) := by decide +kernel
theorem dX2_listChanges_31 : decode cX2_listChanges 31 = .ok (.istore 7, 2) := by decide +kernel
theorem dX2_listChanges_33 : decode cX2_listChanges 33 = .ok (.iload 7, 2) := by decide +kernel
theorem dX2_listChanges_35 : decode cX2_listChanges 35 = .ok (.iload 6, 2) := by decide +kernel
theorem dX2_listChanges_37 : decode cX2_listChanges 37 = .ok (.if_icmp .ge 193, 3) := by decide +kernel
theorem dX2_listChanges_40 : decode cX2_listChanges 40 = .ok (.iload_n 3, 1) := by decide +kernel
theorem dX2_listChanges_41 : decode cX2_listChanges 41 = .ok (.aload_n 0, 1) := by decide +kernel
theorem dX2_listChanges_42 : decode cX2_listChanges 42 = .ok (.getfield 14, 3) := by decide +kernel
theorem dX2_listChanges_45 : decode cX2_listChanges 45 = .ok (.getfield 104, 3) := by decide +kernel
theorem dX2_listChanges_48 : decode cX2_listChanges 48 = .ok (.if_icmp .lt 12, 3) := by decide +kernel
theorem dX2_listChanges_51 : decode cX2_listChanges 51 = .ok (.iload 4, 2) := by decide +kernel
theorem dX2_listChanges_53 : decode cX2_listChanges 53 = .ok (.aload_n 1, 1) := by decide +kernel
theorem dX2_listChanges_54 : decode cX2_listChanges 54 = .ok (.getfield 104, 3) := by decide +kernel
theorem dX2_listChanges_57 : decode cX2_listChanges 57 = .ok (.if_icmp .ge 173, 3) := by decide +kernel
theorem dX2_listChanges_60 : decode cX2_listChanges 60 = .ok (.iload_n 3, 1) := by decide +kernel
theorem dX2_listChanges_61 : decode cX2_listChanges 61 = .ok (.aload_n 0, 1) := by decide +kernel
theorem dX2_listChanges_62 : decode cX2_listChanges 62 = .ok (.getfield 14, 3) := by decide +kernel
theorem dX2_listChanges_65 : decode cX2_listChanges 65 = .ok (.getfield 104, 3) := by decide +kernel
theorem dX2_listChanges_68 : decode cX2_listChanges 68 = .ok (.if_icmp .ge 16, 3) := by decide +kernel
theorem dX2_listChanges_71 : decode cX2_listChanges 71 = .ok (.iload 4, 2) := by decide +kernel
theorem dX2_listChanges_73 : decode cX2_listChanges 73 = .ok (.aload_n 1, 1) := by decide +kernel
theorem dX2_listChanges_74 : decode cX2_listChanges 74 = .ok (.getfield 104, 3) := by decide +kernel
theorem dX2_listChanges_77 : decode cX2_listChanges 77 = .ok (.if_icmp .ge 7, 3) := by decide +kernel
theorem dX2_listChanges_80 : decode cX2_listChanges 80 = .ok (.iconst 1, 1) := by decide +kernel
theorem dX2_listChanges_81 : decode cX2_listChanges 81 = .ok (.goto 4, 3) := by decide +kernel
theorem dX2_listChanges_84 : decode cX2_listChanges 84 = .ok (.iconst 0, 1) := by decide +kernel
theorem dX2_listChanges_85 : decode cX2_listChanges 85 = .ok (.istore 8, 2) := by decide +kernel
theorem dX2_listChanges_87 : decode cX2_listChanges 87 = .ok (.iload 8, 2) := by decide +kernel
theorem dX2_listChanges_89 : decode cX2_listChanges 89 = .ok (.ifCond .eq 30, 3) := by decide +kernel
theorem dX2_listChanges_92 : decode cX2_listChanges 92 = .ok (.aload_n 0, 1) := by decide +kernel
theorem dX2_listChanges_93 : decode cX2_listChanges 93 = .ok (.getfield 14, 3) := by decide +kernel
theorem dX2_listChanges_96 : decode cX2_listChanges 96 = .ok (.iload_n 3, 1) := by decide +kernel
theorem dX2_listChanges_97 : decode cX2_listChanges 97 = .ok (.invokevirtual 107, 3) := by decide +kernel
theorem dX2_listChanges_100 : decode cX2_listChanges 100 = .ok (.aload_n 1, 1) := by decide +kernel
theorem dX2_listChanges_101 : decode cX2_listChanges 101 = .ok (.iload 4, 2) := by decide +kernel
theorem dX2_listChanges_103 : decode cX2_listChanges 103 = .ok (.invokevirtual 107, 3) := by decide +kernel
theorem dX2_listChanges_106 : decode cX2_listChanges 106 = .ok (.lcmp, 1) := by decide +kernel
theorem dX2_listChanges_107 : decode cX2_listChanges 107 = .ok (.ifCond .ne 12, 3) := by decide +kernel
theorem dX2_listChanges_110 : decode cX2_listChanges 110 = .ok (.iinc 3 1, 3) := by decide +kernel
theorem dX2_listChanges_113 : decode cX2_listChanges 113 = .ok (.iinc 4 1, 3) := by decide +kernel
theorem dX2_listChanges_116 : decode cX2_listChanges 116 = .ok (.goto 108, 3) := by decide +kernel
theorem dX2_listChanges_119 : decode cX2_listChanges 119 = .ok (.iinc 5 (-1), 3) := by decide +kernel
theorem dX2_listChanges_122 : decode cX2_listChanges 122 = .ok (.iload 8, 2) := by decide +kernel
theorem dX2_listChanges_124 : decode cX2_listChanges 124 = .ok (.ifCond .eq 43, 3) := by decide +kernel
theorem dX2_listChanges_127 : decode cX2_listChanges 127 = .ok (.aload_n 2, 1) := by decide +kernel
theorem dX2_listChanges_128 : decode cX2_listChanges 128 = .ok (.aload_n 0, 1) := by decide +kernel
theorem dX2_listChanges_129 : decode cX2_listChanges 129 = .ok (.getfield 14, 3) := by decide +kernel
theorem dX2_listChanges_132 : decode cX2_listChanges 132 = .ok (.iload_n 3, 1) := by decide +kernel
theorem dX2_listChanges_133 : decode cX2_listChanges 133 = .ok (.iconst 1, 1) := by decide +kernel
theorem dX2_listChanges_134 : decode cX2_listChanges 134 = .ok (.iadd, 1) := by decide +kernel
theorem dX2_listChanges_135 : decode cX2_listChanges 135 = .ok (.aload_n 1, 1) := by decide +kernel
theorem dX2_listChanges_136 : decode cX2_listChanges 136 = .ok (.iload 4, 2) := by decide +kernel
theorem dX2_listChanges_138 : decode cX2_listChanges 138 = .ok (.iconst 1, 1) := by decide +kernel
theorem dX2_listChanges_139 : decode cX2_listChanges 139 = .ok (.iadd, 1) := by decide +kernel
theorem dX2_listChanges_140 : decode cX2_listChanges 140 = .ok (.iload 5, 2) := by decide +kernel
theorem dX2_listChanges_142 : decode cX2_listChanges 142 = .ok (.invokevirtual 71, 3) := by decide +kernel
theorem dX2_listChanges_145 : decode cX2_listChanges 145 = .ok (.iload 5, 2) := by decide +kernel
theorem dX2_listChanges_147 : decode cX2_listChanges 147 = .ok (.if_icmp .gt 20, 3) := by decide +kernel
theorem dX2_listChanges_150 : decode cX2_listChanges 150 = .ok (.aload_n 0, 1) := by decide +kernel
theorem dX2_listChanges_151 : decode cX2_listChanges 151 = .ok (.iconst 0, 1) := by decide +kernel
theorem dX2_listChanges_152 : decode cX2_listChanges 152 = .ok (.iload_n 3, 1) := by decide +kernel
theorem dX2_listChanges_153 : decode cX2_listChanges 153 = .ok (.iload 4, 2) := by decide +kernel
theorem dX2_listChanges_155 : decode cX2_listChanges 155 = .ok (.invokevirtual 111, 3) := by decide +kernel
theorem dX2_listChanges_158 : decode cX2_listChanges 158 = .ok (.iinc 3 1, 3) := by decide +kernel
theorem dX2_listChanges_161 : decode cX2_listChanges 161 = .ok (.iinc 4 1, 3) := by decide +kernel
theorem dX2_listChanges_164 : decode cX2_listChanges 164 = .ok (.goto 60, 3) := by decide +kernel
theorem dX2_listChanges_167 : decode cX2_listChanges 167 = .ok (.iload_n 3, 1) := by decide +kernel
theorem dX2_listChanges_168 : decode cX2_listChanges 168 = .ok (.aload_n 0, 1) := by decide +kernel
theorem dX2_listChanges_169 : decode cX2_listChanges 169 = .ok (.getfield 14, 3) := by decide +kernel
theorem dX2_listChanges_172 : decode cX2_listChanges 172 = .ok (.getfield 104, 3) := by decide +kernel
theorem dX2_listChanges_175 : decode cX2_listChanges 175 = .ok (.if_icmp .ge 38, 3) := by decide +kernel
theorem dX2_listChanges_178 : decode cX2_listChanges 178 = .ok (.aload_n 2, 1) := by decide +kernel
theorem dX2_listChanges_179 : decode cX2_listChanges 179 = .ok (.aload_n 0, 1) := by decide +kernel
theorem dX2_listChanges_180 : decode cX2_listChanges 180 = .ok (.getfield 14, 3) := by decide +kernel
theorem dX2_listChanges_183 : decode cX2_listChanges 183 = .ok (.iload_n 3, 1) := by decide +kernel
theorem dX2_listChanges_184 : decode cX2_listChanges 184 = .ok (.iconst 1, 1) := by decide +kernel
theorem dX2_listChanges_185 : decode cX2_listChanges 185 = .ok (.iadd, 1) := by decide +kernel
theorem dX2_listChanges_186 : decode cX2_listChanges 186 = .ok (.aload_n 1, 1) := by decide +kernel
theorem dX2_listChanges_187 : decode cX2_listChanges 187 = .ok (.iload 4, 2) := by decide +kernel
theorem dX2_listChanges_189 : decode cX2_listChanges 189 = .ok (.iload 5, 2) := by decide +kernel
theorem dX2_listChanges_191 : decode cX2_listChanges 191 = .ok (.invokevirtual 71, 3) := by decide +kernel
theorem dX2_listChanges_194 : decode cX2_listChanges 194 = .ok (.iload 5, 2) := by decide +kernel
theorem dX2_listChanges_196 : decode cX2_listChanges 196 = .ok (.if_icmp .gt 17, 3) := by decide +kernel
theorem dX2_listChanges_199 : decode cX2_listChanges 199 = .ok (.aload_n 0, 1) := by decide +kernel
theorem dX2_listChanges_200 : decode cX2_listChanges 200 = .ok (.iconst 1, 1) := by decide +kernel
theorem dX2_listChanges_201 : decode cX2_listChanges 201 = .ok (.iload_n 3, 1) := by decide +kernel
theorem dX2_listChanges_202 : decode cX2_listChanges 202 = .ok (.iload 4, 2) := by decide +kernel
theorem dX2_listChanges_204 : decode cX2_listChanges 204 = .ok (.invokevirtual 111, 3) := by decide +kernel
theorem dX2_listChanges_207 : decode cX2_listChanges 207 = .ok (.iinc 3 1, 3) := by decide +kernel
theorem dX2_listChanges_210 : decode cX2_listChanges 210 = .ok (.goto 14, 3) := by decide +kernel
theorem dX2_listChanges_213 : decode cX2_listChanges 213 = .ok (.aload_n 0, 1) := by decide +kernel
theorem dX2_listChanges_214 : decode cX2_listChanges 214 = .ok (.iconst 2, 1) := by decide +kernel
theorem dX2_listChanges_215 : decode cX2_listChanges 215 = .ok (.iload_n 3, 1) := by decide +kernel
theorem dX2_listChanges_216 : decode cX2_listChanges 216 = .ok (.iload 4, 2) := by decide +kernel
theorem dX2_listChanges_218 : decode cX2_listChanges 218 = .ok (.invokevirtual 111, 3) := by decide +kernel
theorem dX2_listChanges_221 : decode cX2_listChanges 221 = .ok (.iinc 4 1, 3) := by decide +kernel
theorem dX2_listChanges_224 : decode cX2_listChanges 224 = .ok (.iinc 7 1, 3) := by decide +kernel
theorem dX2_listChanges_227 : decode cX2_listChanges 227 = .ok (.goto (-194), 3) := by decide +kernel
theorem dX2_listChanges_230 : decode cX2_listChanges 230 = .ok (.return_, 1) := by decide +kernel
theorem dX2_note_0 : decode cX2_note 0 = .ok (.aload_n 0, 1) := by decide +kernel
theorem dX2_note_1 : decode cX2_note 1 = .ok (.getfield 101, 3) := by decide +kernel
theorem dX2_note_4 : decode cX2_note 4 = .ok (.ifCond .lt 53, 3) := by decide +kernel
theorem dX2_note_7 : decode cX2_note 7 = .ok (.aload_n 0, 1) := by decide +kernel
theorem dX2_note_8 : decode cX2_note 8 = .ok (.getfield 101, 3) := by decide +kernel
theorem dX2_note_11 : decode cX2_note 11 = .ok (.sipush 150, 3) := by decide +kernel
theorem dX2_note_14 : decode cX2_note 14 = .ok (.if_icmp .ge 43, 3) := by decide +kernel
theorem dX2_note_17 : decode cX2_note 17 = .ok (.aload_n 0, 1) := by decide +kernel
theorem dX2_note_18 : decode cX2_note 18 = .ok (.getfield 24, 3) := by decide +kernel
theorem dX2_note_21 : decode cX2_note 21 = .ok (.aload_n 0, 1) := by decide +kernel
theorem dX2_note_22 : decode cX2_note 22 = .ok (.getfield 101, 3) := by decide +kernel
theorem dX2_note_25 : decode cX2_note 25 = .ok (.iload_n 1, 1) := by decide +kernel
theorem dX2_note_26 : decode cX2_note 26 = .ok (.iastore, 1) := by decide +kernel
theorem dX2_note_27 : decode cX2_note 27 = .ok (.aload_n 0, 1) := by decide +kernel
theorem dX2_note_28 : decode cX2_note 28 = .ok (.getfield 27, 3) := by decide +kernel
theorem dX2_note_31 : decode cX2_note 31 = .ok (.aload_n 0, 1) := by decide +kernel
theorem dX2_note_32 : decode cX2_note 32 = .ok (.getfield 101, 3) := by decide +kernel
theorem dX2_note_35 : decode cX2_note 35 = .ok (.iload_n 2, 1) := by decide +kernel
theorem dX2_note_36 : decode cX2_note 36 = .ok (.iastore, 1) := by decide +kernel
theorem dX2_note_37 : decode cX2_note 37 = .ok (.aload_n 0, 1) := by decide +kernel
theorem dX2_note_38 : decode cX2_note 38 = .ok (.getfield 30, 3) := by decide +kernel
theorem dX2_note_41 : decode cX2_note 41 = .ok (.aload_n 0, 1) := by decide +kernel
theorem dX2_note_42 : decode cX2_note 42 = .ok (.getfield 101, 3) := by decide +kernel
theorem dX2_note_45 : decode cX2_note 45 = .ok (.iload_n 3, 1) := by decide +kernel
theorem dX2_note_46 : decode cX2_note 46 = .ok (.iastore, 1) := by decide +kernel
theorem dX2_note_47 : decode cX2_note 47 = .ok (.aload_n 0, 1) := by decide +kernel
theorem dX2_note_48 : decode cX2_note 48 = .ok (.dup, 1) := by decide +kernel
theorem dX2_note_49 : decode cX2_note 49 = .ok (.getfield 101, 3) := by decide +kernel
theorem dX2_note_52 : decode cX2_note 52 = .ok (.iconst 1, 1) := by decide +kernel
theorem dX2_note_53 : decode cX2_note 53 = .ok (.iadd, 1) := by decide +kernel
theorem dX2_note_54 : decode cX2_note 54 = .ok (.putfield 101, 3) := by decide +kernel
theorem dX2_note_57 : decode cX2_note 57 = .ok (.return_, 1) := by decide +kernel
theorem dX2_tell_0 : decode cX2_tell 0 = .ok (.aload_n 0, 1) := by decide +kernel
theorem dX2_tell_1 : decode cX2_tell 1 = .ok (.getfield 83, 3) := by decide +kernel
theorem dX2_tell_4 : decode cX2_tell 4 = .ok (.ifCond .ne 5, 3) := by decide +kernel
theorem dX2_tell_7 : decode cX2_tell 7 = .ok (.iconst (-1), 1) := by decide +kernel
theorem dX2_tell_8 : decode cX2_tell 8 = .ok (.ireturn, 1) := by decide +kernel
theorem dX2_tell_9 : decode cX2_tell 9 = .ok (.iload_n 1, 1) := by decide +kernel
theorem dX2_tell_10 : decode cX2_tell 10 = .ok (.tableswitch 41 0 2 #[26, 31, 36], 26) := by decide +kernel
theorem dX2_tell_36 : decode cX2_tell 36 = .ok (.aload_n 0, 1) := by decide +kernel
theorem dX2_tell_37 : decode cX2_tell 37 = .ok (.getfield 77, 3) := by decide +kernel
theorem dX2_tell_40 : decode cX2_tell 40 = .ok (.ireturn, 1) := by decide +kernel
theorem dX2_tell_41 : decode cX2_tell 41 = .ok (.aload_n 0, 1) := by decide +kernel
theorem dX2_tell_42 : decode cX2_tell 42 = .ok (.getfield 95, 3) := by decide +kernel
theorem dX2_tell_45 : decode cX2_tell 45 = .ok (.ireturn, 1) := by decide +kernel
theorem dX2_tell_46 : decode cX2_tell 46 = .ok (.aload_n 0, 1) := by decide +kernel
theorem dX2_tell_47 : decode cX2_tell 47 = .ok (.getfield 80, 3) := by decide +kernel
theorem dX2_tell_50 : decode cX2_tell 50 = .ok (.ireturn, 1) := by decide +kernel
theorem dX2_tell_51 : decode cX2_tell 51 = .ok (.aload_n 0, 1) := by decide +kernel
theorem dX2_tell_52 : decode cX2_tell 52 = .ok (.iload_n 1, 1) := by decide +kernel
theorem dX2_tell_53 : decode cX2_tell 53 = .ok (.invokevirtual 115, 3) := by decide +kernel
theorem dX2_tell_56 : decode cX2_tell 56 = .ok (.ireturn, 1) := by decide +kernel
theorem dX2_tellMissed_0 : decode cX2_tellMissed 0 = .ok (.iload_n 1, 1) := by decide +kernel
theorem dX2_tellMissed_1 : decode cX2_tellMissed 1 = .ok (.bipush 10, 2) := by decide +kernel
theorem dX2_tellMissed_3 : decode cX2_tellMissed 3 = .ok (.if_icmp .ge 5, 3) := by decide +kernel
theorem dX2_tellMissed_6 : decode cX2_tellMissed 6 = .ok (.iconst (-1), 1) := by decide +kernel
theorem dX2_tellMissed_7 : decode cX2_tellMissed 7 = .ok (.ireturn, 1) := by decide +kernel
theorem dX2_tellMissed_8 : decode cX2_tellMissed 8 = .ok (.iload_n 1, 1) := by decide +kernel
theorem dX2_tellMissed_9 : decode cX2_tellMissed 9 = .ok (.bipush 10, 2) := by decide +kernel
theorem dX2_tellMissed_11 : decode cX2_tellMissed 11 = .ok (.isub, 1) := by decide +kernel
theorem dX2_tellMissed_12 : decode cX2_tellMissed 12 = .ok (.istore_n 2, 1) := by decide +kernel
theorem dX2_tellMissed_13 : decode cX2_tellMissed 13 = .ok (.iload_n 2, 1) := by decide +kernel
theorem dX2_tellMissed_14 : decode cX2_tellMissed 14 = .ok (.aload_n 0, 1) := by decide +kernel
theorem dX2_tellMissed_15 : decode cX2_tellMissed 15 = .ok (.getfield 95, 3) := by decide +kernel
theorem dX2_tellMissed_18 : decode cX2_tellMissed 18 = .ok (.if_icmp .ge 12, 3) := by decide +kernel
theorem dX2_tellMissed_21 : decode cX2_tellMissed 21 = .ok (.iload_n 2, 1) := by decide +kernel
theorem dX2_tellMissed_22 : decode cX2_tellMissed 22 = .ok (.aload_n 0, 1) := by decide +kernel
theorem dX2_tellMissed_23 : decode cX2_tellMissed 23 = .ok (.getfield 20, 3) := by decide +kernel
theorem dX2_tellMissed_26 : decode cX2_tellMissed 26 = .ok (.arraylength, 1) := by decide +kernel
theorem dX2_tellMissed_27 : decode cX2_tellMissed 27 = .ok (.if_icmp .lt 7, 3) := by decide +kernel
theorem dX2_tellMissed_30 : decode cX2_tellMissed 30 = .ok (.iconst (-1), 1) := by decide +kernel
theorem dX2_tellMissed_31 : decode cX2_tellMissed 31 = .ok (.goto 9, 3) := by decide +kernel
theorem dX2_tellMissed_34 : decode cX2_tellMissed 34 = .ok (.aload_n 0, 1) := by decide +kernel
theorem dX2_tellMissed_35 : decode cX2_tellMissed 35 = .ok (.getfield 20, 3) := by decide +kernel
theorem dX2_tellMissed_38 : decode cX2_tellMissed 38 = .ok (.iload_n 2, 1) := by decide +kernel
theorem dX2_tellMissed_39 : decode cX2_tellMissed 39 = .ok (.iaload, 1) := by decide +kernel
theorem dX2_tellMissed_40 : decode cX2_tellMissed 40 = .ok (.ireturn, 1) := by decide +kernel
theorem dX2_tellChange_0 : decode cX2_tellChange 0 = .ok (.iload_n 1, 1) := by decide +kernel
theorem dX2_tellChange_1 : decode cX2_tellChange 1 = .ok (.ifCond .lt 18, 3) := by decide +kernel
theorem dX2_tellChange_4 : decode cX2_tellChange 4 = .ok (.iload_n 1, 1) := by decide +kernel
theorem dX2_tellChange_5 : decode cX2_tellChange 5 = .ok (.aload_n 0, 1) := by decide +kernel
theorem dX2_tellChange_6 : decode cX2_tellChange 6 = .ok (.getfield 101, 3) := by decide +kernel
theorem dX2_tellChange_9 : decode cX2_tellChange 9 = .ok (.if_icmp .ge 10, 3) := by decide +kernel
theorem dX2_tellChange_12 : decode cX2_tellChange 12 = .ok (.iload_n 1, 1) := by decide +kernel
theorem dX2_tellChange_13 : decode cX2_tellChange 13 = .ok (.sipush 150, 3) := by decide +kernel
theorem dX2_tellChange_16 : decode cX2_tellChange 16 = .ok (.if_icmp .lt 5, 3) := by decide +kernel
theorem dX2_tellChange_19 : decode cX2_tellChange 19 = .ok (.iconst (-1), 1) := by decide +kernel
theorem dX2_tellChange_20 : decode cX2_tellChange 20 = .ok (.ireturn, 1) := by decide +kernel
theorem dX2_tellChange_21 : decode cX2_tellChange 21 = .ok (.iload_n 2, 1) := by decide +kernel
theorem dX2_tellChange_22 : decode cX2_tellChange 22 = .ok (.tableswitch 47 0 2 #[26, 33, 40], 26) := by decide +kernel
theorem dX2_tellChange_48 : decode cX2_tellChange 48 = .ok (.aload_n 0, 1) := by decide +kernel
theorem dX2_tellChange_49 : decode cX2_tellChange 49 = .ok (.getfield 24, 3) := by decide +kernel
theorem dX2_tellChange_52 : decode cX2_tellChange 52 = .ok (.iload_n 1, 1) := by decide +kernel
theorem dX2_tellChange_53 : decode cX2_tellChange 53 = .ok (.iaload, 1) := by decide +kernel
theorem dX2_tellChange_54 : decode cX2_tellChange 54 = .ok (.ireturn, 1) := by decide +kernel
theorem dX2_tellChange_55 : decode cX2_tellChange 55 = .ok (.aload_n 0, 1) := by decide +kernel
theorem dX2_tellChange_56 : decode cX2_tellChange 56 = .ok (.getfield 27, 3) := by decide +kernel
theorem dX2_tellChange_59 : decode cX2_tellChange 59 = .ok (.iload_n 1, 1) := by decide +kernel
theorem dX2_tellChange_60 : decode cX2_tellChange 60 = .ok (.iaload, 1) := by decide +kernel
theorem dX2_tellChange_61 : decode cX2_tellChange 61 = .ok (.ireturn, 1) := by decide +kernel
theorem dX2_tellChange_62 : decode cX2_tellChange 62 = .ok (.aload_n 0, 1) := by decide +kernel
theorem dX2_tellChange_63 : decode cX2_tellChange 63 = .ok (.getfield 30, 3) := by decide +kernel
theorem dX2_tellChange_66 : decode cX2_tellChange 66 = .ok (.iload_n 1, 1) := by decide +kernel
theorem dX2_tellChange_67 : decode cX2_tellChange 67 = .ok (.iaload, 1) := by decide +kernel
theorem dX2_tellChange_68 : decode cX2_tellChange 68 = .ok (.ireturn, 1) := by decide +kernel
theorem dX2_tellChange_69 : decode cX2_tellChange 69 = .ok (.iconst (-1), 1) := by decide +kernel
theorem dX2_tellChange_70 : decode cX2_tellChange 70 = .ok (.ireturn, 1) := by decide +kernel
theorem dX3_init_0 : decode cX3_init 0 = .ok (.aload_n 0, 1) := by decide +kernel
theorem dX3_init_1 : decode cX3_init 1 = .ok (.invokespecial 3, 3) := by decide +kernel
theorem dX3_init_4 : decode cX3_init 4 = .ok (.aload_n 0, 1) := by decide +kernel
theorem dX3_init_5 : decode cX3_init 5 = .ok (.iconst 3, 1) := by decide +kernel
theorem dX3_init_6 : decode cX3_init 6 = .ok (.newarray .int, 2) := by decide +kernel
theorem dX3_init_8 : decode cX3_init 8 = .ok (.putfield 9, 3) := by decide +kernel
theorem dX3_init_11 : decode cX3_init 11 = .ok (.aload_n 0, 1) := by decide +kernel
theorem dX3_init_12 : decode cX3_init 12 = .ok (.new 15, 3) := by decide +kernel
theorem dX3_init_15 : decode cX3_init 15 = .ok (.dup, 1) := by decide +kernel
theorem dX3_init_16 : decode cX3_init 16 = .ok (.bipush 6, 2) := by decide +kernel
theorem dX3_init_18 : decode cX3_init 18 = .ok (.invokespecial 17, 3) := by decide +kernel
theorem dX3_init_21 : decode cX3_init 21 = .ok (.putfield 20, 3) := by decide +kernel
theorem dX3_init_24 : decode cX3_init 24 = .ok (.return_, 1) := by decide +kernel
theorem dX3_clear_0 : decode cX3_clear 0 = .ok (.iconst 0, 1) := by decide +kernel
theorem dX3_clear_1 : decode cX3_clear 1 = .ok (.istore_n 1, 1) := by decide +kernel
theorem dX3_clear_2 : decode cX3_clear 2 = .ok (.iload_n 1, 1) := by decide +kernel
theorem dX3_clear_3 : decode cX3_clear 3 = .ok (.aload_n 0, 1) := by decide +kernel
theorem dX3_clear_4 : decode cX3_clear 4 = .ok (.getfield 9, 3) := by decide +kernel
theorem dX3_clear_7 : decode cX3_clear 7 = .ok (.arraylength, 1) := by decide +kernel
theorem dX3_clear_8 : decode cX3_clear 8 = .ok (.if_icmp .ge 16, 3) := by decide +kernel
theorem dX3_clear_11 : decode cX3_clear 11 = .ok (.aload_n 0, 1) := by decide +kernel
theorem dX3_clear_12 : decode cX3_clear 12 = .ok (.getfield 9, 3) := by decide +kernel
theorem dX3_clear_15 : decode cX3_clear 15 = .ok (.iload_n 1, 1) := by decide +kernel
theorem dX3_clear_16 : decode cX3_clear 16 = .ok (.iconst (-1), 1) := by decide +kernel
theorem dX3_clear_17 : decode cX3_clear 17 = .ok (.iastore, 1) := by decide +kernel
theorem dX3_clear_18 : decode cX3_clear 18 = .ok (.iinc 1 1, 3) := by decide +kernel
theorem dX3_clear_21 : decode cX3_clear 21 = .ok (.goto (-19), 3) := by decide +kernel
theorem dX3_clear_24 : decode cX3_clear 24 = .ok (.aload_n 0, 1) := by decide +kernel
theorem dX3_clear_25 : decode cX3_clear 25 = .ok (.getfield 20, 3) := by decide +kernel
theorem dX3_clear_28 : decode cX3_clear 28 = .ok (.invokevirtual 24, 3) := by decide +kernel
theorem dX3_clear_31 : decode cX3_clear 31 = .ok (.aload_n 0, 1) := by decide +kernel
theorem dX3_clear_32 : decode cX3_clear 32 = .ok (.iconst 0, 1) := by decide +kernel
theorem dX3_clear_33 : decode cX3_clear 33 = .ok (.putfield 27, 3) := by decide +kernel
theorem dX3_clear_36 : decode cX3_clear 36 = .ok (.aload_n 0, 1) := by decide +kernel
theorem dX3_clear_37 : decode cX3_clear 37 = .ok (.iconst 0, 1) := by decide +kernel
theorem dX3_clear_38 : decode cX3_clear 38 = .ok (.putfield 31, 3) := by decide +kernel
theorem dX3_clear_41 : decode cX3_clear 41 = .ok (.aload_n 0, 1) := by decide +kernel
theorem dX3_clear_42 : decode cX3_clear 42 = .ok (.iconst 0, 1) := by decide +kernel
theorem dX3_clear_43 : decode cX3_clear 43 = .ok (.putfield 34, 3) := by decide +kernel
theorem dX3_clear_46 : decode cX3_clear 46 = .ok (.aload_n 0, 1) := by decide +kernel
theorem dX3_clear_47 : decode cX3_clear 47 = .ok (.iconst 0, 1) := by decide +kernel
theorem dX3_clear_48 : decode cX3_clear 48 = .ok (.putfield 38, 3) := by decide +kernel
theorem dX3_clear_51 : decode cX3_clear 51 = .ok (.aload_n 0, 1) := by decide +kernel
theorem dX3_clear_52 : decode cX3_clear 52 = .ok (.iconst 0, 1) := by decide +kernel
theorem dX3_clear_53 : decode cX3_clear 53 = .ok (.putfield 41, 3) := by decide +kernel
theorem dX3_clear_56 : decode cX3_clear 56 = .ok (.aload_n 0, 1) := by decide +kernel
theorem dX3_clear_57 : decode cX3_clear 57 = .ok (.iconst (-1), 1) := by decide +kernel
theorem dX3_clear_58 : decode cX3_clear 58 = .ok (.putfield 44, 3) := by decide +kernel
theorem dX3_clear_61 : decode cX3_clear 61 = .ok (.aload_n 0, 1) := by decide +kernel
theorem dX3_clear_62 : decode cX3_clear 62 = .ok (.iconst 0, 1) := by decide +kernel
theorem dX3_clear_63 : decode cX3_clear 63 = .ok (.putfield 47, 3) := by decide +kernel
theorem dX3_clear_66 : decode cX3_clear 66 = .ok (.aload_n 0, 1) := by decide +kernel
theorem dX3_clear_67 : decode cX3_clear 67 = .ok (.iconst (-1), 1) := by decide +kernel
theorem dX3_clear_68 : decode cX3_clear 68 = .ok (.putfield 50, 3) := by decide +kernel
theorem dX3_clear_71 : decode cX3_clear 71 = .ok (.return_, 1) := by decide +kernel
theorem dX3_number_0 : decode cX3_number 0 = .ok (.iload_n 1, 1) := by decide +kernel
theorem dX3_number_1 : decode cX3_number 1 = .ok (.ifCond .lt 12, 3) := by decide +kernel
theorem dX3_number_4 : decode cX3_number 4 = .ok (.iload_n 1, 1) := by decide +kernel
theorem dX3_number_5 : decode cX3_number 5 = .ok (.aload_n 0, 1) := by decide +kernel
theorem dX3_number_6 : decode cX3_number 6 = .ok (.getfield 9, 3) := by decide +kernel
theorem dX3_number_9 : decode cX3_number 9 = .ok (.arraylength, 1) := by decide +kernel
theorem dX3_number_10 : decode cX3_number 10 = .ok (.if_icmp .lt 7, 3) := by decide +kernel
theorem dX3_number_13 : decode cX3_number 13 = .ok (.iconst (-1), 1) := by decide +kernel
theorem dX3_number_14 : decode cX3_number 14 = .ok (.goto 9, 3) := by decide +kernel
theorem dX3_number_17 : decode cX3_number 17 = .ok (.aload_n 0, 1) := by decide +kernel
theorem dX3_number_18 : decode cX3_number 18 = .ok (.getfield 9, 3) := by decide +kernel
theorem dX3_number_21 : decode cX3_number 21 = .ok (.iload_n 1, 1) := by decide +kernel
theorem dX3_number_22 : decode cX3_number 22 = .ok (.iaload, 1) := by decide +kernel
theorem dX3_number_23 : decode cX3_number 23 = .ok (.ireturn, 1) := by decide +kernel
theorem dX3_setNumber_0 : decode cX3_setNumber 0 = .ok (.iload_n 1, 1) := by decide +kernel
theorem dX3_setNumber_1 : decode cX3_setNumber 1 = .ok (.ifCond .lt 19, 3) := by decide +kernel
theorem dX3_setNumber_4 : decode cX3_setNumber 4 = .ok (.iload_n 1, 1) := by decide +kernel
theorem dX3_setNumber_5 : decode cX3_setNumber 5 = .ok (.aload_n 0, 1) := by decide +kernel
theorem dX3_setNumber_6 : decode cX3_setNumber 6 = .ok (.getfield 9, 3) := by decide +kernel
theorem dX3_setNumber_9 : decode cX3_setNumber 9 = .ok (.arraylength, 1) := by decide +kernel
theorem dX3_setNumber_10 : decode cX3_setNumber 10 = .ok (.if_icmp .ge 10, 3) := by decide +kernel
theorem dX3_setNumber_13 : decode cX3_setNumber 13 = .ok (.aload_n 0, 1) := by decide +kernel
theorem dX3_setNumber_14 : decode cX3_setNumber 14 = .ok (.getfield 9, 3) := by decide +kernel
theorem dX3_setNumber_17 : decode cX3_setNumber 17 = .ok (.iload_n 1, 1) := by decide +kernel
theorem dX3_setNumber_18 : decode cX3_setNumber 18 = .ok (.iload_n 2, 1) := by decide +kernel
theorem dX3_setNumber_19 : decode cX3_setNumber 19 = .ok (.iastore, 1) := by decide +kernel
theorem dX3_setNumber_20 : decode cX3_setNumber 20 = .ok (.return_, 1) := by decide +kernel
theorem dX3_place_0 : decode cX3_place 0 = .ok (.aload_n 0, 1) := by decide +kernel
theorem dX3_place_1 : decode cX3_place 1 = .ok (.getfield 27, 3) := by decide +kernel
theorem dX3_place_4 : decode cX3_place 4 = .ok (.iconst 1, 1) := by decide +kernel
theorem dX3_place_5 : decode cX3_place 5 = .ok (.if_icmp .eq 15, 3) := by decide +kernel
theorem dX3_place_8 : decode cX3_place 8 = .ok (.aload_n 0, 1) := by decide +kernel
theorem dX3_place_9 : decode cX3_place 9 = .ok (.getfield 27, 3) := by decide +kernel
theorem dX3_place_12 : decode cX3_place 12 = .ok (.iconst 5, 1) := by decide +kernel
theorem dX3_place_13 : decode cX3_place 13 = .ok (.if_icmp .eq 7, 3) := by decide +kernel
theorem dX3_place_16 : decode cX3_place 16 = .ok (.iconst 1, 1) := by decide +kernel
theorem dX3_place_17 : decode cX3_place 17 = .ok (.goto 4, 3) := by decide +kernel
theorem dX3_place_20 : decode cX3_place 20 = .ok (.iconst 0, 1) := by decide +kernel
theorem dX3_place_21 : decode cX3_place 21 = .ok (.istore_n 1, 1) := by decide +kernel
theorem dX3_place_22 : decode cX3_place 22 = .ok (.aload_n 0, 1) := by decide +kernel
theorem dX3_place_23 : decode cX3_place 23 = .ok (.iload_n 1, 1) := by decide +kernel
theorem dX3_place_24 : decode cX3_place 24 = .ok (.ifCond .eq 11, 3) := by decide +kernel
theorem dX3_place_27 : decode cX3_place 27 = .ok (.aload_n 0, 1) := by decide +kernel
theorem dX3_place_28 : decode cX3_place 28 = .ok (.iconst 0, 1) := by decide +kernel
theorem dX3_place_29 : decode cX3_place 29 = .ok (.invokevirtual 53, 3) := by decide +kernel
theorem dX3_place_32 : decode cX3_place 32 = .ok (.goto 4, 3) := by decide +kernel
theorem dX3_place_35 : decode cX3_place 35 = .ok (.iconst 0, 1) := by decide +kernel
theorem dX3_place_36 : decode cX3_place 36 = .ok (.putfield 57, 3) := by decide +kernel
theorem dX3_place_39 : decode cX3_place 39 = .ok (.aload_n 0, 1) := by decide +kernel
theorem dX3_place_40 : decode cX3_place 40 = .ok (.iload_n 1, 1) := by decide +kernel
theorem dX3_place_41 : decode cX3_place 41 = .ok (.ifCond .eq 23, 3) := by decide +kernel
theorem dX3_place_44 : decode cX3_place 44 = .ok (.aload_n 0, 1) := by decide +kernel
theorem dX3_place_45 : decode cX3_place 45 = .ok (.aload_n 0, 1) := by decide +kernel
theorem dX3_place_46 : decode cX3_place 46 = .ok (.getfield 27, 3) := by decide +kernel
theorem dX3_place_49 : decode cX3_place 49 = .ok (.iconst 3, 1) := by decide +kernel
theorem dX3_place_50 : decode cX3_place 50 = .ok (.if_icmp .ne 7, 3) := by decide +kernel
theorem dX3_place_53 : decode cX3_place 53 = .ok (.iconst 2, 1) := by decide +kernel
theorem dX3_place_54 : decode cX3_place 54 = .ok (.goto 4, 3) := by decide +kernel
theorem dX3_place_57 : decode cX3_place 57 = .ok (.iconst 1, 1) := by decide +kernel
theorem dX3_place_58 : decode cX3_place 58 = .ok (.invokevirtual 53, 3) := by decide +kernel
theorem dX3_place_61 : decode cX3_place 61 = .ok (.goto 4, 3) := by decide +kernel
theorem dX3_place_64 : decode cX3_place 64 = .ok (.iconst (-1), 1) := by decide +kernel
theorem dX3_place_65 : decode cX3_place 65 = .ok (.putfield 60, 3) := by decide +kernel
theorem dX3_place_68 : decode cX3_place 68 = .ok (.aload_n 0, 1) := by decide +kernel
theorem dX3_place_69 : decode cX3_place 69 = .ok (.iconst (-1), 1) := by decide +kernel
theorem dX3_place_70 : decode cX3_place 70 = .ok (.putfield 63, 3) := by decide +kernel
theorem dX3_place_73 : decode cX3_place 73 = .ok (.aload_n 0, 1) := by decide +kernel
theorem dX3_place_74 : decode cX3_place 74 = .ok (.getfield 27, 3) := by decide +kernel
theorem dX3_place_77 : decode cX3_place 77 = .ok (.iconst 1, 1) := by decide +kernel
theorem dX3_place_78 : decode cX3_place 78 = .ok (.if_icmp .eq 11, 3) := by decide +kernel
theorem dX3_place_81 : decode cX3_place 81 = .ok (.aload_n 0, 1) := by decide +kernel
theorem dX3_place_82 : decode cX3_place 82 = .ok (.getfield 27, 3) := by decide +kernel
theorem dX3_place_85 : decode cX3_place 85 = .ok (.iconst 4, 1) := by decide +kernel
theorem dX3_place_86 : decode cX3_place 86 = .ok (.if_icmp .ne 24, 3) := by decide +kernel
theorem dX3_place_89 : decode cX3_place 89 = .ok (.aload_n 0, 1) := by decide +kernel
theorem dX3_place_90 : decode cX3_place 90 = .ok (.aload_n 0, 1) := by decide +kernel
theorem dX3_place_91 : decode cX3_place 91 = .ok (.aload_n 0, 1) := by decide +kernel
theorem dX3_place_92 : decode cX3_place 92 = .ok (.getfield 27, 3) := by decide +kernel
theorem dX3_place_95 : decode cX3_place 95 = .ok (.iconst 1, 1) := by decide +kernel
theorem dX3_place_96 : decode cX3_place 96 = .ok (.if_icmp .ne 7, 3) := by decide +kernel
theorem dX3_place_99 : decode cX3_place 99 = .ok (.iconst 0, 1) := by decide +kernel
theorem dX3_place_100 : decode cX3_place 100 = .ok (.goto 4, 3) := by decide +kernel
theorem dX3_place_103 : decode cX3_place 103 = .ok (.iconst 2, 1) := by decide +kernel
theorem dX3_place_104 : decode cX3_place 104 = .ok (.invokevirtual 53, 3) := by decide +kernel
theorem dX3_place_107 : decode cX3_place 107 = .ok (.putfield 63, 3) := by decide +kernel
theorem dX3_place_110 : decode cX3_place 110 = .ok (.return_, 1) := by decide +kernel
theorem dX3_fitsInside_0 : decode cX3_fitsInside 0 = .ok (.aload_n 0, 1) := by decide +kernel
theorem dX3_fitsInside_1 : decode cX3_fitsInside 1 = .ok (.getfield 63, 3) := by decide +kernel
theorem dX3_fitsInside_4 : decode cX3_fitsInside 4 = .ok (.iconst (-1), 1) := by decide +kernel
theorem dX3_fitsInside_5 : decode cX3_fitsInside 5 = .ok (.if_icmp .eq 21, 3) := by decide +kernel
theorem dX3_fitsInside_8 : decode cX3_fitsInside 8 = .ok (.aload_n 0, 1) := by decide +kernel
theorem dX3_fitsInside_9 : decode cX3_fitsInside 9 = .ok (.getfield 63, 3) := by decide +kernel
theorem dX3_fitsInside_12 : decode cX3_fitsInside 12 = .ok (.iload_n 1, 1) := by decide +kernel
theorem dX3_fitsInside_13 : decode cX3_fitsInside 13 = .ok (.if_icmp .le 11, 3) := by decide +kernel
theorem dX3_fitsInside_16 : decode cX3_fitsInside 16 = .ok (.aload_n 0, 1) := by decide +kernel
theorem dX3_fitsInside_17 : decode cX3_fitsInside 17 = .ok (.getfield 63, 3) := by decide +kernel
theorem dX3_fitsInside_20 : decode cX3_fitsInside 20 = .ok (.iload_n 2, 1) := by decide +kernel
theorem dX3_fitsInside_21 : decode cX3_fitsInside 21 = .ok (.if_icmp .le 5, 3) := by decide +kernel
theorem dX3_fitsInside_24 : decode cX3_fitsInside 24 = .ok (.iconst 0, 1) := by decide +kernel
theorem dX3_fitsInside_25 : decode cX3_fitsInside 25 = .ok (.ireturn, 1) := by decide +kernel
theorem dX3_fitsInside_26 : decode cX3_fitsInside 26 = .ok (.aload_n 0, 1) := by decide +kernel
theorem dX3_fitsInside_27 : decode cX3_fitsInside 27 = .ok (.getfield 60, 3) := by decide +kernel
theorem dX3_fitsInside_30 : decode cX3_fitsInside 30 = .ok (.aload_n 0, 1) := by decide +kernel
theorem dX3_fitsInside_31 : decode cX3_fitsInside 31 = .ok (.getfield 57, 3) := by decide +kernel
theorem dX3_fitsInside_34 : decode cX3_fitsInside 34 = .ok (.if_icmp .lt 19, 3) := by decide +kernel
theorem dX3_fitsInside_37 : decode cX3_fitsInside 37 = .ok (.aload_n 0, 1) := by decide +kernel
theorem dX3_fitsInside_38 : decode cX3_fitsInside 38 = .ok (.getfield 57, 3) := by decide +kernel
theorem dX3_fitsInside_41 : decode cX3_fitsInside 41 = .ok (.iload_n 1, 1) := by decide +kernel
theorem dX3_fitsInside_42 : decode cX3_fitsInside 42 = .ok (.if_icmp .lt 15, 3) := by decide +kernel
theorem dX3_fitsInside_45 : decode cX3_fitsInside 45 = .ok (.aload_n 0, 1) := by decide +kernel
theorem dX3_fitsInside_46 : decode cX3_fitsInside 46 = .ok (.getfield 60, 3) := by decide +kernel
theorem dX3_fitsInside_49 : decode cX3_fitsInside 49 = .ok (.iload_n 2, 1) := by decide +kernel
theorem dX3_fitsInside_50 : decode cX3_fitsInside 50 = .ok (.if_icmp .gt 7, 3) := by decide +kernel
theorem dX3_fitsInside_53 : decode cX3_fitsInside 53 = .ok (.iconst 1, 1) := by decide +kernel
theorem dX3_fitsInside_54 : decode cX3_fitsInside 54 = .ok (.goto 4, 3) := by decide +kernel
theorem dX3_fitsInside_57 : decode cX3_fitsInside 57 = .ok (.iconst 0, 1) := by decide +kernel
theorem dX3_fitsInside_58 : decode cX3_fitsInside 58 = .ok (.ireturn, 1) := by decide +kernel
theorem dX3_isWithin_0 : decode cX3_isWithin 0 = .ok (.aload_n 1, 1) := by decide +kernel
theorem dX3_isWithin_1 : decode cX3_isWithin 1 = .ok (.getfield 27, 3) := by decide +kernel
theorem dX3_isWithin_4 : decode cX3_isWithin 4 = .ok (.iconst 4, 1) := by decide +kernel
theorem dX3_isWithin_5 : decode cX3_isWithin 5 = .ok (.if_icmp .ne 16, 3) := by decide +kernel
theorem dX3_isWithin_8 : decode cX3_isWithin 8 = .ok (.aload_n 0, 1) := by decide +kernel
theorem dX3_isWithin_9 : decode cX3_isWithin 9 = .ok (.aload_n 1, 1) := by decide +kernel
theorem dX3_isWithin_10 : decode cX3_isWithin 10 = .ok (.getfield 57, 3) := by decide +kernel
theorem dX3_isWithin_13 : decode cX3_isWithin 13 = .ok (.aload_n 1, 1) := by decide +kernel
theorem dX3_isWithin_14 : decode cX3_isWithin 14 = .ok (.getfield 60, 3) := by decide +kernel
theorem dX3_isWithin_17 : decode cX3_isWithin 17 = .ok (.invokevirtual 66, 3) := by decide +kernel
theorem dX3_isWithin_20 : decode cX3_isWithin 20 = .ok (.ireturn, 1) := by decide +kernel
theorem dX3_isWithin_21 : decode cX3_isWithin 21 = .ok (.aload_n 1, 1) := by decide +kernel
theorem dX3_isWithin_22 : decode cX3_isWithin 22 = .ok (.getfield 27, 3) := by decide +kernel
theorem dX3_isWithin_25 : decode cX3_isWithin 25 = .ok (.iconst 3, 1) := by decide +kernel
theorem dX3_isWithin_26 : decode cX3_isWithin 26 = .ok (.if_icmp .eq 5, 3) := by decide +kernel
theorem dX3_isWithin_29 : decode cX3_isWithin 29 = .ok (.iconst 0, 1) := by decide +kernel
theorem dX3_isWithin_30 : decode cX3_isWithin 30 = .ok (.ireturn, 1) := by decide +kernel
theorem dX3_isWithin_31 : decode cX3_isWithin 31 = .ok (.aload_n 1, 1) := by decide +kernel
theorem dX3_isWithin_32 : decode cX3_isWithin 32 = .ok (.iconst 1, 1) := by decide +kernel
theorem dX3_isWithin_33 : decode cX3_isWithin 33 = .ok (.invokevirtual 53, 3) := by decide +kernel
theorem dX3_isWithin_36 : decode cX3_isWithin 36 = .ok (.istore_n 2, 1) := by decide +kernel
theorem dX3_isWithin_37 : decode cX3_isWithin 37 = .ok (.aload_n 0, 1) := by decide +kernel
theorem dX3_isWithin_38 : decode cX3_isWithin 38 = .ok (.aload_n 1, 1) := by decide +kernel
theorem dX3_isWithin_39 : decode cX3_isWithin 39 = .ok (.getfield 57, 3) := by decide +kernel
theorem dX3_isWithin_42 : decode cX3_isWithin 42 = .ok (.iload_n 2, 1) := by decide +kernel
theorem dX3_isWithin_43 : decode cX3_isWithin 43 = .ok (.iconst 1, 1) := by decide +kernel
theorem dX3_isWithin_44 : decode cX3_isWithin 44 = .ok (.isub, 1) := by decide +kernel
theorem dX3_isWithin_45 : decode cX3_isWithin 45 = .ok (.invokevirtual 66, 3) := by decide +kernel
theorem dX3_isWithin_48 : decode cX3_isWithin 48 = .ok (.ifCond .ne 15, 3) := by decide +kernel
theorem dX3_isWithin_51 : decode cX3_isWithin 51 = .ok (.aload_n 0, 1) := by decide +kernel
theorem dX3_isWithin_52 : decode cX3_isWithin 52 = .ok (.iload_n 2, 1) := by decide +kernel
theorem dX3_isWithin_53 : decode cX3_isWithin 53 = .ok (.aload_n 1, 1) := by decide +kernel
theorem dX3_isWithin_54 : decode cX3_isWithin 54 = .ok (.getfield 60, 3) := by decide +kernel
theorem dX3_isWithin_57 : decode cX3_isWithin 57 = .ok (.invokevirtual 66, 3) := by decide +kernel
theorem dX3_isWithin_60 : decode cX3_isWithin 60 = .ok (.ifCond .eq 7, 3) := by decide +kernel
theorem dX3_isWithin_63 : decode cX3_isWithin 63 = .ok (.iconst 1, 1) := by decide +kernel
theorem dX3_isWithin_64 : decode cX3_isWithin 64 = .ok (.goto 4, 3) := by decide +kernel
theorem dX3_isWithin_67 : decode cX3_isWithin 67 = .ok (.iconst 0, 1) := by decide +kernel
theorem dX3_isWithin_68 : decode cX3_isWithin 68 = .ok (.ireturn, 1) := by decide +kernel
theorem dX3_meets_0 : decode cX3_meets 0 = .ok (.aload_n 0, 1) := by decide +kernel
theorem dX3_meets_1 : decode cX3_meets 1 = .ok (.aload_n 1, 1) := by decide +kernel
theorem dX3_meets_2 : decode cX3_meets 2 = .ok (.invokevirtual 70, 3) := by decide +kernel
theorem dX3_meets_5 : decode cX3_meets 5 = .ok (.ifCond .ne 11, 3) := by decide +kernel
theorem dX3_meets_8 : decode cX3_meets 8 = .ok (.aload_n 1, 1) := by decide +kernel
theorem dX3_meets_9 : decode cX3_meets 9 = .ok (.aload_n 0, 1) := by decide +kernel
theorem dX3_meets_10 : decode cX3_meets 10 = .ok (.invokevirtual 70, 3) := by decide +kernel
theorem dX3_meets_13 : decode cX3_meets 13 = .ok (.ifCond .eq 5, 3) := by decide +kernel
theorem dX3_meets_16 : decode cX3_meets 16 = .ok (.iconst 0, 1) := by decide +kernel
theorem dX3_meets_17 : decode cX3_meets 17 = .ok (.ireturn, 1) := by decide +kernel
theorem dX3_meets_18 : decode cX3_meets 18 = .ok (.aload_n 0, 1) := by decide +kernel
theorem dX3_meets_19 : decode cX3_meets 19 = .ok (.getfield 57, 3) := by decide +kernel
theorem dX3_meets_22 : decode cX3_meets 22 = .ok (.aload_n 1, 1) := by decide +kernel
theorem dX3_meets_23 : decode cX3_meets 23 = .ok (.getfield 60, 3) := by decide +kernel
theorem dX3_meets_26 : decode cX3_meets 26 = .ok (.if_icmp .gt 14, 3) := by decide +kernel
theorem dX3_meets_29 : decode cX3_meets 29 = .ok (.aload_n 1, 1) := by decide +kernel
theorem dX3_meets_30 : decode cX3_meets 30 = .ok (.getfield 57, 3) := by decide +kernel
theorem dX3_meets_33 : decode cX3_meets 33 = .ok (.aload_n 0, 1) := by decide +kernel
theorem dX3_meets_34 : decode cX3_meets 34 = .ok (.getfield 60, 3) := by decide +kernel
theorem dX3_meets_37 : decode cX3_meets 37 = .ok (.if_icmp .le 47, 3) := by decide +kernel
theorem dX3_meets_40 : decode cX3_meets 40 = .ok (.aload_n 0, 1) := by decide +kernel
theorem dX3_meets_41 : decode cX3_meets 41 = .ok (.getfield 63, 3) := by decide +kernel
theorem dX3_meets_44 : decode cX3_meets 44 = .ok (.aload_n 1, 1) := by decide +kernel
theorem dX3_meets_45 : decode cX3_meets 45 = .ok (.getfield 57, 3) := by decide +kernel
theorem dX3_meets_48 : decode cX3_meets 48 = .ok (.if_icmp .le 14, 3) := by decide +kernel
theorem dX3_meets_51 : decode cX3_meets 51 = .ok (.aload_n 0, 1) := by decide +kernel
theorem dX3_meets_52 : decode cX3_meets 52 = .ok (.getfield 63, 3) := by decide +kernel
theorem dX3_meets_55 : decode cX3_meets 55 = .ok (.aload_n 1, 1) := by decide +kernel
theorem dX3_meets_56 : decode cX3_meets 56 = .ok (.getfield 60, 3) := by decide +kernel
theorem dX3_meets_59 : decode cX3_meets 59 = .ok (.if_icmp .le 25, 3) := by decide +kernel
theorem dX3_meets_62 : decode cX3_meets 62 = .ok (.aload_n 1, 1) := by decide +kernel
theorem dX3_meets_63 : decode cX3_meets 63 = .ok (.getfield 63, 3) := by decide +kernel
theorem dX3_meets_66 : decode cX3_meets 66 = .ok (.aload_n 0, 1) := by decide +kernel
theorem dX3_meets_67 : decode cX3_meets 67 = .ok (.getfield 57, 3) := by decide +kernel
theorem dX3_meets_70 : decode cX3_meets 70 = .ok (.if_icmp .le 18, 3) := by decide +kernel
theorem dX3_meets_73 : decode cX3_meets 73 = .ok (.aload_n 1, 1) := by decide +kernel
theorem dX3_meets_74 : decode cX3_meets 74 = .ok (.getfield 63, 3) := by decide +kernel
theorem dX3_meets_77 : decode cX3_meets 77 = .ok (.aload_n 0, 1) := by decide +kernel
theorem dX3_meets_78 : decode cX3_meets 78 = .ok (.getfield 60, 3) := by decide +kernel
theorem dX3_meets_81 : decode cX3_meets 81 = .ok (.if_icmp .gt 7, 3) := by decide +kernel
theorem dX3_meets_84 : decode cX3_meets 84 = .ok (.iconst 1, 1) := by decide +kernel
theorem dX3_meets_85 : decode cX3_meets 85 = .ok (.goto 4, 3) := by decide +kernel
theorem dX3_meets_88 : decode cX3_meets 88 = .ok (.iconst 0, 1) := by decide +kernel
theorem dX3_meets_89 : decode cX3_meets 89 = .ok (.ireturn, 1) := by decide +kernel
theorem dX3_voidByStet_0 : decode cX3_voidByStet 0 = .ok (.aload_n 0, 1) := by decide +kernel
theorem dX3_voidByStet_1 : decode cX3_voidByStet 1 = .ok (.getfield 38, 3) := by decide +kernel
theorem dX3_voidByStet_4 : decode cX3_voidByStet 4 = .ok (.ifCond .ne 13, 3) := by decide +kernel
theorem dX3_voidByStet_7 : decode cX3_voidByStet 7 = .ok (.aload_n 0, 1) := by decide +kernel
theorem dX3_voidByStet_8 : decode cX3_voidByStet 8 = .ok (.iconst 1, 1) := by decide +kernel
theorem dX3_voidByStet_9 : decode cX3_voidByStet 9 = .ok (.putfield 38, 3) := by decide +kernel
theorem dX3_voidByStet_12 : decode cX3_voidByStet 12 = .ok (.aload_n 0, 1) := by decide +kernel
theorem dX3_voidByStet_13 : decode cX3_voidByStet 13 = .ok (.iload_n 1, 1) := by decide +kernel
theorem dX3_voidByStet_14 : decode cX3_voidByStet 14 = .ok (.putfield 44, 3) := by decide +kernel
theorem dX3_voidByStet_17 : decode cX3_voidByStet 17 = .ok (.return_, 1) := by decide +kernel
theorem dX3_asks_0 : decode cX3_asks 0 = .ok (.aload_n 0, 1) := by decide +kernel
theorem dX3_asks_1 : decode cX3_asks 1 = .ok (.getfield 27, 3) := by decide +kernel
theorem dX3_asks_4 : decode cX3_asks 4 = .ok (.iconst 5, 1) := by decide +kernel
theorem dX3_asks_5 : decode cX3_asks 5 = .ok (.if_icmp .eq 21, 3) := by decide +kernel
theorem dX3_asks_8 : decode cX3_asks 8 = .ok (.aload_n 0, 1) := by decide +kernel
theorem dX3_asks_9 : decode cX3_asks 9 = .ok (.getfield 38, 3) := by decide +kernel
theorem dX3_asks_12 : decode cX3_asks 12 = .ok (.ifCond .ne 14, 3) := by decide +kernel
theorem dX3_asks_15 : decode cX3_asks 15 = .ok (.aload_n 0, 1) := by decide +kernel
theorem dX3_asks_16 : decode cX3_asks 16 = .ok (.getfield 34, 3) := by decide +kernel
theorem dX3_asks_19 : decode cX3_asks 19 = .ok (.ifCond .ne 7, 3) := by decide +kernel
theorem dX3_asks_22 : decode cX3_asks 22 = .ok (.iconst 1, 1) := by decide +kernel
theorem dX3_asks_23 : decode cX3_asks 23 = .ok (.goto 4, 3) := by decide +kernel
theorem dX3_asks_26 : decode cX3_asks 26 = .ok (.iconst 0, 1) := by decide +kernel
theorem dX3_asks_27 : decode cX3_asks 27 = .ok (.ireturn, 1) := by decide +kernel
theorem dX3_undecidedStatus_0 : decode cX3_undecidedStatus 0 = .ok (.aload_n 0, 1) := by decide +kernel
theorem dX3_undecidedStatus_1 : decode cX3_undecidedStatus 1 = .ok (.getfield 27, 3) := by decide +kernel
theorem dX3_undecidedStatus_4 : decode cX3_undecidedStatus 4 = .ok (.iconst 5, 1) := by decide +kernel
theorem dX3_undecidedStatus_5 : decode cX3_undecidedStatus 5 = .ok (.if_icmp .ne 5, 3) := by decide +kernel
theorem dX3_undecidedStatus_8 : decode cX3_undecidedStatus 8 = .ok (.iconst 4, 1) := by decide +kernel
theorem dX3_undecidedStatus_9 : decode cX3_undecidedStatus 9 = .ok (.ireturn, 1) := by decide +kernel
theorem dX3_undecidedStatus_10 : decode cX3_undecidedStatus 10 = .ok (.aload_n 0, 1) := by decide +kernel
theorem dX3_undecidedStatus_11 : decode cX3_undecidedStatus 11 = .ok (.getfield 38, 3) := by decide +kernel
theorem dX3_undecidedStatus_14 : decode cX3_undecidedStatus 14 = .ok (.ifCond .eq 5, 3) := by decide +kernel
theorem dX3_undecidedStatus_17 : decode cX3_undecidedStatus 17 = .ok (.iconst 2, 1) := by decide +kernel
theorem dX3_undecidedStatus_18 : decode cX3_undecidedStatus 18 = .ok (.ireturn, 1) := by decide +kernel
theorem dX3_undecidedStatus_19 : decode cX3_undecidedStatus 19 = .ok (.aload_n 0, 1) := by decide +kernel
theorem dX3_undecidedStatus_20 : decode cX3_undecidedStatus 20 = .ok (.getfield 34, 3) := by decide +kernel
theorem dX3_undecidedStatus_23 : decode cX3_undecidedStatus 23 = .ok (.ifCond .eq 7, 3) := by decide +kernel
theorem dX3_undecidedStatus_26 : decode cX3_undecidedStatus 26 = .ok (.iconst 3, 1) := by decide +kernel
theorem dX3_undecidedStatus_27 : decode cX3_undecidedStatus 27 = .ok (.goto 4, 3) := by decide +kernel
theorem dX3_undecidedStatus_30 : decode cX3_undecidedStatus 30 = .ok (.iconst 1, 1) := by decide +kernel
theorem dX3_undecidedStatus_31 : decode cX3_undecidedStatus 31 = .ok (.ireturn, 1) := by decide +kernel
theorem dX3_tell_0 : decode cX3_tell 0 = .ok (.iload_n 1, 1) := by decide +kernel
theorem dX3_tell_1 : decode cX3_tell 1 = .ok (.tableswitch 100 0 8 #[51, 56, 61, 61, 61, 69, 77, 82, 87], 51) := by decide +kernel
theorem dX3_tell_52 : decode cX3_tell 52 = .ok (.aload_n 0, 1) := by decide +kernel
theorem dX3_tell_53 : decode cX3_tell 53 = .ok (.getfield 27, 3) := by decide +kernel
theorem dX3_tell_56 : decode cX3_tell 56 = .ok (.ireturn, 1) := by decide +kernel
theorem dX3_tell_57 : decode cX3_tell 57 = .ok (.aload_n 0, 1) := by decide +kernel
theorem dX3_tell_58 : decode cX3_tell 58 = .ok (.getfield 31, 3) := by decide +kernel
theorem dX3_tell_61 : decode cX3_tell 61 = .ok (.ireturn, 1) := by decide +kernel
theorem dX3_tell_62 : decode cX3_tell 62 = .ok (.aload_n 0, 1) := by decide +kernel
theorem dX3_tell_63 : decode cX3_tell 63 = .ok (.iload_n 1, 1) := by decide +kernel
theorem dX3_tell_64 : decode cX3_tell 64 = .ok (.iconst 2, 1) := by decide +kernel
theorem dX3_tell_65 : decode cX3_tell 65 = .ok (.isub, 1) := by decide +kernel
theorem dX3_tell_66 : decode cX3_tell 66 = .ok (.invokevirtual 53, 3) := by decide +kernel
theorem dX3_tell_69 : decode cX3_tell 69 = .ok (.ireturn, 1) := by decide +kernel
theorem dX3_tell_70 : decode cX3_tell 70 = .ok (.aload_n 0, 1) := by decide +kernel
theorem dX3_tell_71 : decode cX3_tell 71 = .ok (.getfield 20, 3) := by decide +kernel
theorem dX3_tell_74 : decode cX3_tell 74 = .ok (.getfield 74, 3) := by decide +kernel
theorem dX3_tell_77 : decode cX3_tell 77 = .ok (.ireturn, 1) := by decide +kernel
theorem dX3_tell_78 : decode cX3_tell 78 = .ok (.aload_n 0, 1) := by decide +kernel
theorem dX3_tell_79 : decode cX3_tell 79 = .ok (.getfield 47, 3) := by decide +kernel
theorem dX3_tell_82 : decode cX3_tell 82 = .ok (.ireturn, 1) := by decide +kernel
theorem dX3_tell_83 : decode cX3_tell 83 = .ok (.aload_n 0, 1) := by decide +kernel
theorem dX3_tell_84 : decode cX3_tell 84 = .ok (.invokevirtual 77, 3) := by decide +kernel
theorem dX3_tell_87 : decode cX3_tell 87 = .ok (.ireturn, 1) := by decide +kernel
theorem dX3_tell_88 : decode cX3_tell 88 = .ok (.aload_n 0, 1) := by decide +kernel
theorem dX3_tell_89 : decode cX3_tell 89 = .ok (.getfield 41, 3) := by decide +kernel
theorem dX3_tell_92 : decode cX3_tell 92 = .ok (.ifCond .eq 7, 3) := by decide +kernel
theorem dX3_tell_95 : decode cX3_tell 95 = .ok (.iconst 1, 1) := by decide +kernel
theorem dX3_tell_96 : decode cX3_tell 96 = .ok (.goto 4, 3) := by decide +kernel
theorem dX3_tell_99 : decode cX3_tell 99 = .ok (.iconst 0, 1) := by decide +kernel
theorem dX3_tell_100 : decode cX3_tell 100 = .ok (.ireturn, 1) := by decide +kernel
theorem dX3_tell_101 : decode cX3_tell 101 = .ok (.bipush (-9), 2) := by decide +kernel
theorem dX3_tell_103 : decode cX3_tell 103 = .ok (.ireturn, 1) := by decide +kernel
theorem dX3_causer_0 : decode cX3_causer 0 = .ok (.aload_n 0, 1) := by decide +kernel
theorem dX3_causer_1 : decode cX3_causer 1 = .ok (.getfield 47, 3) := by decide +kernel
theorem dX3_causer_4 : decode cX3_causer 4 = .ok (.iconst 1, 1) := by decide +kernel
theorem dX3_causer_5 : decode cX3_causer 5 = .ok (.if_icmp .ne 8, 3) := by decide +kernel
theorem dX3_causer_8 : decode cX3_causer 8 = .ok (.aload_n 0, 1) := by decide +kernel
theorem dX3_causer_9 : decode cX3_causer 9 = .ok (.getfield 50, 3) := by decide +kernel
theorem dX3_causer_12 : decode cX3_causer 12 = .ok (.ireturn, 1) := by decide +kernel
theorem dX3_causer_13 : decode cX3_causer 13 = .ok (.aload_n 0, 1) := by decide +kernel
theorem dX3_causer_14 : decode cX3_causer 14 = .ok (.getfield 47, 3) := by decide +kernel
theorem dX3_causer_17 : decode cX3_causer 17 = .ok (.iconst 2, 1) := by decide +kernel
theorem dX3_causer_18 : decode cX3_causer 18 = .ok (.if_icmp .ne 10, 3) := by decide +kernel
theorem dX3_causer_21 : decode cX3_causer 21 = .ok (.aload_n 0, 1) := by decide +kernel
theorem dX3_causer_22 : decode cX3_causer 22 = .ok (.getfield 44, 3) := by decide +kernel
theorem dX3_causer_25 : decode cX3_causer 25 = .ok (.goto 4, 3) := by decide +kernel
theorem dX3_causer_28 : decode cX3_causer 28 = .ok (.iconst (-1), 1) := by decide +kernel
theorem dX3_causer_29 : decode cX3_causer 29 = .ok (.ireturn, 1) := by decide +kernel
theorem dX3_tellWord_0 : decode cX3_tellWord 0 = .ok (.iload_n 1, 1) := by decide +kernel
theorem dX3_tellWord_1 : decode cX3_tellWord 1 = .ok (.ifCond .lt 14, 3) := by decide +kernel
theorem dX3_tellWord_4 : decode cX3_tellWord 4 = .ok (.iload_n 1, 1) := by decide +kernel
theorem dX3_tellWord_5 : decode cX3_tellWord 5 = .ok (.aload_n 0, 1) := by decide +kernel
theorem dX3_tellWord_6 : decode cX3_tellWord 6 = .ok (.getfield 20, 3) := by decide +kernel
theorem dX3_tellWord_9 : decode cX3_tellWord 9 = .ok (.getfield 74, 3) := by decide +kernel
theorem dX3_tellWord_12 : decode cX3_tellWord 12 = .ok (.if_icmp .lt 8, 3) := by decide +kernel
theorem dX3_tellWord_15 : decode cX3_tellWord 15 = .ok (.bipush (-9), 2) := by decide +kernel
theorem dX3_tellWord_17 : decode cX3_tellWord 17 = .ok (.goto 12, 3) := by decide +kernel
theorem dX3_tellWord_20 : decode cX3_tellWord 20 = .ok (.aload_n 0, 1) := by decide +kernel
theorem dX3_tellWord_21 : decode cX3_tellWord 21 = .ok (.getfield 20, 3) := by decide +kernel
theorem dX3_tellWord_24 : decode cX3_tellWord 24 = .ok (.iload_n 1, 1) := by decide +kernel
theorem dX3_tellWord_25 : decode cX3_tellWord 25 = .ok (.invokevirtual 81, 3) := by decide +kernel
theorem dX3_tellWord_28 : decode cX3_tellWord 28 = .ok (.l2i, 1) := by decide +kernel
theorem dX3_tellWord_29 : decode cX3_tellWord 29 = .ok (.ireturn, 1) := by decide +kernel
theorem dX4_init_0 : decode cX4_init 0 = .ok (.aload_n 0, 1) := by decide +kernel
theorem dX4_init_1 : decode cX4_init 1 = .ok (.invokespecial 3, 3) := by decide +kernel
theorem dX4_init_4 : decode cX4_init 4 = .ok (.return_, 1) := by decide +kernel
theorem dX4_readMarks_0 : decode cX4_readMarks 0 = .ok (.aload_n 0, 1) := by decide +kernel
theorem dX4_readMarks_1 : decode cX4_readMarks 1 = .ok (.aload_n 1, 1) := by decide +kernel
theorem dX4_readMarks_2 : decode cX4_readMarks 2 = .ok (.putfield 9, 3) := by decide +kernel
theorem dX4_readMarks_5 : decode cX4_readMarks 5 = .ok (.aload_n 0, 1) := by decide +kernel
theorem dX4_readMarks_6 : decode cX4_readMarks 6 = .ok (.aload_n 2, 1) := by decide +kernel
theorem dX4_readMarks_7 : decode cX4_readMarks 7 = .ok (.putfield 15, 3) := by decide +kernel
theorem dX4_readMarks_10 : decode cX4_readMarks 10 = .ok (.aload_n 0, 1) := by decide +kernel
theorem dX4_readMarks_11 : decode cX4_readMarks 11 = .ok (.aload 4, 2) := by decide +kernel
theorem dX4_readMarks_13 : decode cX4_readMarks 13 = .ok (.putfield 19, 3) := by decide +kernel
theorem dX4_readMarks_16 : decode cX4_readMarks 16 = .ok (.aload_n 0, 1) := by decide +kernel
theorem dX4_readMarks_17 : decode cX4_readMarks 17 = .ok (.iload_n 3, 1) := by decide +kernel
theorem dX4_readMarks_18 : decode cX4_readMarks 18 = .ok (.putfield 23, 3) := by decide +kernel
theorem dX4_readMarks_21 : decode cX4_readMarks 21 = .ok (.aload_n 0, 1) := by decide +kernel
theorem dX4_readMarks_22 : decode cX4_readMarks 22 = .ok (.iconst 0, 1) := by decide +kernel
theorem dX4_readMarks_23 : decode cX4_readMarks 23 = .ok (.putfield 27, 3) := by decide +kernel
theorem dX4_readMarks_26 : decode cX4_readMarks 26 = .ok (.aload_n 0, 1) := by decide +kernel
theorem dX4_readMarks_27 : decode cX4_readMarks 27 = .ok (.getfield 19, 3) := by decide +kernel
theorem dX4_readMarks_30 : decode cX4_readMarks 30 = .ok (.invokevirtual 30, 3) := by decide +kernel
theorem dX4_readMarks_33 : decode cX4_readMarks 33 = .ok (.aload_n 0, 1) := by decide +kernel
theorem dX4_readMarks_34 : decode cX4_readMarks 34 = .ok (.getfield 15, 3) := by decide +kernel
end
section
theorem dX4_readMarks_37 : decode cX4_readMarks 37 = .ok (.iconst 0, 1) := by decide +kernel
theorem dX4_readMarks_38 : decode cX4_readMarks 38 = .ok (.putfield 35, 3) := by decide +kernel
theorem dX4_readMarks_41 : decode cX4_readMarks 41 = .ok (.iconst 0, 1) := by decide +kernel
theorem dX4_readMarks_42 : decode cX4_readMarks 42 = .ok (.istore 5, 2) := by decide +kernel
theorem dX4_readMarks_44 : decode cX4_readMarks 44 = .ok (.iload 5, 2) := by decide +kernel
theorem dX4_readMarks_46 : decode cX4_readMarks 46 = .ok (.bipush 40, 2) := by decide +kernel
theorem dX4_readMarks_48 : decode cX4_readMarks 48 = .ok (.if_icmp .gt 51, 3) := by decide +kernel
theorem dX4_readMarks_51 : decode cX4_readMarks 51 = .ok (.aload_n 0, 1) := by decide +kernel
theorem dX4_readMarks_52 : decode cX4_readMarks 52 = .ok (.invokevirtual 40, 3) := by decide +kernel
theorem dX4_readMarks_55 : decode cX4_readMarks 55 = .ok (.aload_n 0, 1) := by decide +kernel
theorem dX4_readMarks_56 : decode cX4_readMarks 56 = .ok (.getfield 43, 3) := by decide +kernel
theorem dX4_readMarks_59 : decode cX4_readMarks 59 = .ok (.aload_n 0, 1) := by decide +kernel
theorem dX4_readMarks_60 : decode cX4_readMarks 60 = .ok (.getfield 9, 3) := by decide +kernel
theorem dX4_readMarks_63 : decode cX4_readMarks 63 = .ok (.getfield 46, 3) := by decide +kernel
theorem dX4_readMarks_66 : decode cX4_readMarks 66 = .ok (.if_icmp .lt 5, 3) := by decide +kernel
theorem dX4_readMarks_69 : decode cX4_readMarks 69 = .ok (.iconst 1, 1) := by decide +kernel
theorem dX4_readMarks_70 : decode cX4_readMarks 70 = .ok (.ireturn, 1) := by decide +kernel
theorem dX4_readMarks_71 : decode cX4_readMarks 71 = .ok (.aload_n 0, 1) := by decide +kernel
theorem dX4_readMarks_72 : decode cX4_readMarks 72 = .ok (.invokevirtual 51, 3) := by decide +kernel
theorem dX4_readMarks_75 : decode cX4_readMarks 75 = .ok (.ifCond .ne 5, 3) := by decide +kernel
theorem dX4_readMarks_78 : decode cX4_readMarks 78 = .ok (.iconst 0, 1) := by decide +kernel
theorem dX4_readMarks_79 : decode cX4_readMarks 79 = .ok (.ireturn, 1) := by decide +kernel
theorem dX4_readMarks_80 : decode cX4_readMarks 80 = .ok (.aload_n 0, 1) := by decide +kernel
theorem dX4_readMarks_81 : decode cX4_readMarks 81 = .ok (.getfield 15, 3) := by decide +kernel
theorem dX4_readMarks_84 : decode cX4_readMarks 84 = .ok (.dup, 1) := by decide +kernel
theorem dX4_readMarks_85 : decode cX4_readMarks 85 = .ok (.getfield 35, 3) := by decide +kernel
theorem dX4_readMarks_88 : decode cX4_readMarks 88 = .ok (.iconst 1, 1) := by decide +kernel
theorem dX4_readMarks_89 : decode cX4_readMarks 89 = .ok (.iadd, 1) := by decide +kernel
theorem dX4_readMarks_90 : decode cX4_readMarks 90 = .ok (.putfield 35, 3) := by decide +kernel
theorem dX4_readMarks_93 : decode cX4_readMarks 93 = .ok (.iinc 5 1, 3) := by decide +kernel
theorem dX4_readMarks_96 : decode cX4_readMarks 96 = .ok (.goto (-52), 3) := by decide +kernel
theorem dX4_readMarks_99 : decode cX4_readMarks 99 = .ok (.iconst 0, 1) := by decide +kernel
theorem dX4_readMarks_100 : decode cX4_readMarks 100 = .ok (.ireturn, 1) := by decide +kernel
theorem dX4_readLine_0 : decode cX4_readLine 0 = .ok (.aload_n 0, 1) := by decide +kernel
theorem dX4_readLine_1 : decode cX4_readLine 1 = .ok (.invokevirtual 55, 3) := by decide +kernel
theorem dX4_readLine_4 : decode cX4_readLine 4 = .ok (.istore_n 1, 1) := by decide +kernel
theorem dX4_readLine_5 : decode cX4_readLine 5 = .ok (.iload_n 1, 1) := by decide +kernel
theorem dX4_readLine_6 : decode cX4_readLine 6 = .ok (.iconst (-1), 1) := by decide +kernel
theorem dX4_readLine_7 : decode cX4_readLine 7 = .ok (.if_icmp .ne 9, 3) := by decide +kernel
theorem dX4_readLine_10 : decode cX4_readLine 10 = .ok (.aload_n 0, 1) := by decide +kernel
theorem dX4_readLine_11 : decode cX4_readLine 11 = .ok (.iconst 1, 1) := by decide +kernel
theorem dX4_readLine_12 : decode cX4_readLine 12 = .ok (.invokevirtual 59, 3) := by decide +kernel
theorem dX4_readLine_15 : decode cX4_readLine 15 = .ok (.ireturn, 1) := by decide +kernel
theorem dX4_readLine_16 : decode cX4_readLine 16 = .ok (.aload_n 0, 1) := by decide +kernel
theorem dX4_readLine_17 : decode cX4_readLine 17 = .ok (.getfield 15, 3) := by decide +kernel
theorem dX4_readLine_20 : decode cX4_readLine 20 = .ok (.invokevirtual 63, 3) := by decide +kernel
theorem dX4_readLine_23 : decode cX4_readLine 23 = .ok (.astore_n 2, 1) := by decide +kernel
theorem dX4_readLine_24 : decode cX4_readLine 24 = .ok (.aload_n 2, 1) := by decide +kernel
theorem dX4_readLine_25 : decode cX4_readLine 25 = .ok (.ifnonnull 9, 3) := by decide +kernel
theorem dX4_readLine_28 : decode cX4_readLine 28 = .ok (.aload_n 0, 1) := by decide +kernel
theorem dX4_readLine_29 : decode cX4_readLine 29 = .ok (.iconst 3, 1) := by decide +kernel
theorem dX4_readLine_30 : decode cX4_readLine 30 = .ok (.invokevirtual 59, 3) := by decide +kernel
theorem dX4_readLine_33 : decode cX4_readLine 33 = .ok (.ireturn, 1) := by decide +kernel
theorem dX4_readLine_34 : decode cX4_readLine 34 = .ok (.aload_n 2, 1) := by decide +kernel
theorem dX4_readLine_35 : decode cX4_readLine 35 = .ok (.iload_n 1, 1) := by decide +kernel
theorem dX4_readLine_36 : decode cX4_readLine 36 = .ok (.putfield 67, 3) := by decide +kernel
theorem dX4_readLine_39 : decode cX4_readLine 39 = .ok (.aload_n 0, 1) := by decide +kernel
theorem dX4_readLine_40 : decode cX4_readLine 40 = .ok (.invokevirtual 40, 3) := by decide +kernel
theorem dX4_readLine_43 : decode cX4_readLine 43 = .ok (.aload_n 0, 1) := by decide +kernel
theorem dX4_readLine_44 : decode cX4_readLine 44 = .ok (.ldc 72, 2) := by decide +kernel
theorem dX4_readLine_46 : decode cX4_readLine 46 = .ok (.invokevirtual 74, 3) := by decide +kernel
theorem dX4_readLine_49 : decode cX4_readLine 49 = .ok (.ifCond .eq 12, 3) := by decide +kernel
theorem dX4_readLine_52 : decode cX4_readLine 52 = .ok (.aload_n 2, 1) := by decide +kernel
theorem dX4_readLine_53 : decode cX4_readLine 53 = .ok (.iconst 1, 1) := by decide +kernel
theorem dX4_readLine_54 : decode cX4_readLine 54 = .ok (.putfield 78, 3) := by decide +kernel
theorem dX4_readLine_57 : decode cX4_readLine 57 = .ok (.aload_n 0, 1) := by decide +kernel
theorem dX4_readLine_58 : decode cX4_readLine 58 = .ok (.invokevirtual 40, 3) := by decide +kernel
theorem dX4_readLine_61 : decode cX4_readLine 61 = .ok (.aload_n 2, 1) := by decide +kernel
theorem dX4_readLine_62 : decode cX4_readLine 62 = .ok (.aload_n 0, 1) := by decide +kernel
theorem dX4_readLine_63 : decode cX4_readLine 63 = .ok (.invokevirtual 82, 3) := by decide +kernel
theorem dX4_readLine_66 : decode cX4_readLine 66 = .ok (.putfield 85, 3) := by decide +kernel
theorem dX4_readLine_69 : decode cX4_readLine 69 = .ok (.aload_n 2, 1) := by decide +kernel
theorem dX4_readLine_70 : decode cX4_readLine 70 = .ok (.getfield 85, 3) := by decide +kernel
theorem dX4_readLine_73 : decode cX4_readLine 73 = .ok (.iconst (-1), 1) := by decide +kernel
theorem dX4_readLine_74 : decode cX4_readLine 74 = .ok (.if_icmp .eq 18, 3) := by decide +kernel
theorem dX4_readLine_77 : decode cX4_readLine 77 = .ok (.aload_n 2, 1) := by decide +kernel
theorem dX4_readLine_78 : decode cX4_readLine 78 = .ok (.getfield 78, 3) := by decide +kernel
theorem dX4_readLine_81 : decode cX4_readLine 81 = .ok (.ifCond .eq 17, 3) := by decide +kernel
theorem dX4_readLine_84 : decode cX4_readLine 84 = .ok (.aload_n 2, 1) := by decide +kernel
theorem dX4_readLine_85 : decode cX4_readLine 85 = .ok (.getfield 85, 3) := by decide +kernel
theorem dX4_readLine_88 : decode cX4_readLine 88 = .ok (.iconst 5, 1) := by decide +kernel
theorem dX4_readLine_89 : decode cX4_readLine 89 = .ok (.if_icmp .ne 9, 3) := by decide +kernel
theorem dX4_readLine_92 : decode cX4_readLine 92 = .ok (.aload_n 0, 1) := by decide +kernel
theorem dX4_readLine_93 : decode cX4_readLine 93 = .ok (.iconst 1, 1) := by decide +kernel
theorem dX4_readLine_94 : decode cX4_readLine 94 = .ok (.invokevirtual 59, 3) := by decide +kernel
theorem dX4_readLine_97 : decode cX4_readLine 97 = .ok (.ireturn, 1) := by decide +kernel
theorem dX4_readLine_98 : decode cX4_readLine 98 = .ok (.aload_n 0, 1) := by decide +kernel
theorem dX4_readLine_99 : decode cX4_readLine 99 = .ok (.aload_n 2, 1) := by decide +kernel
theorem dX4_readLine_100 : decode cX4_readLine 100 = .ok (.invokevirtual 88, 3) := by decide +kernel
theorem dX4_readLine_103 : decode cX4_readLine 103 = .ok (.ifCond .ne 5, 3) := by decide +kernel
theorem dX4_readLine_106 : decode cX4_readLine 106 = .ok (.iconst 0, 1) := by decide +kernel
theorem dX4_readLine_107 : decode cX4_readLine 107 = .ok (.ireturn, 1) := by decide +kernel
theorem dX4_readLine_108 : decode cX4_readLine 108 = .ok (.aload_n 2, 1) := by decide +kernel
theorem dX4_readLine_109 : decode cX4_readLine 109 = .ok (.invokevirtual 92, 3) := by decide +kernel
theorem dX4_readLine_112 : decode cX4_readLine 112 = .ok (.aload_n 0, 1) := by decide +kernel
theorem dX4_readLine_113 : decode cX4_readLine 113 = .ok (.invokevirtual 40, 3) := by decide +kernel
theorem dX4_readLine_116 : decode cX4_readLine 116 = .ok (.aload_n 2, 1) := by decide +kernel
theorem dX4_readLine_117 : decode cX4_readLine 117 = .ok (.getfield 85, 3) := by decide +kernel
theorem dX4_readLine_120 : decode cX4_readLine 120 = .ok (.iconst 1, 1) := by decide +kernel
theorem dX4_readLine_121 : decode cX4_readLine 121 = .ok (.if_icmp .eq 11, 3) := by decide +kernel
theorem dX4_readLine_124 : decode cX4_readLine 124 = .ok (.aload_n 2, 1) := by decide +kernel
theorem dX4_readLine_125 : decode cX4_readLine 125 = .ok (.getfield 85, 3) := by decide +kernel
theorem dX4_readLine_128 : decode cX4_readLine 128 = .ok (.iconst 2, 1) := by decide +kernel
theorem dX4_readLine_129 : decode cX4_readLine 129 = .ok (.if_icmp .ne 26, 3) := by decide +kernel
theorem dX4_readLine_132 : decode cX4_readLine 132 = .ok (.aload_n 0, 1) := by decide +kernel
theorem dX4_readLine_133 : decode cX4_readLine 133 = .ok (.ldc 95, 2) := by decide +kernel
theorem dX4_readLine_135 : decode cX4_readLine 135 = .ok (.invokevirtual 74, 3) := by decide +kernel
theorem dX4_readLine_138 : decode cX4_readLine 138 = .ok (.ifCond .eq 11, 3) := by decide +kernel
theorem dX4_readLine_141 : decode cX4_readLine 141 = .ok (.aload_n 0, 1) := by decide +kernel
theorem dX4_readLine_142 : decode cX4_readLine 142 = .ok (.aload_n 2, 1) := by decide +kernel
theorem dX4_readLine_143 : decode cX4_readLine 143 = .ok (.invokevirtual 97, 3) := by decide +kernel
theorem dX4_readLine_146 : decode cX4_readLine 146 = .ok (.goto 8, 3) := by decide +kernel
theorem dX4_readLine_149 : decode cX4_readLine 149 = .ok (.aload_n 0, 1) := by decide +kernel
theorem dX4_readLine_150 : decode cX4_readLine 150 = .ok (.iconst 1, 1) := by decide +kernel
theorem dX4_readLine_151 : decode cX4_readLine 151 = .ok (.invokevirtual 59, 3) := by decide +kernel
theorem dX4_readLine_154 : decode cX4_readLine 154 = .ok (.ireturn, 1) := by decide +kernel
theorem dX4_readLine_155 : decode cX4_readLine 155 = .ok (.aload_n 0, 1) := by decide +kernel
theorem dX4_readLine_156 : decode cX4_readLine 156 = .ok (.ldc 100, 2) := by decide +kernel
theorem dX4_readLine_158 : decode cX4_readLine 158 = .ok (.invokevirtual 74, 3) := by decide +kernel
theorem dX4_readLine_161 : decode cX4_readLine 161 = .ok (.ifCond .ne 11, 3) := by decide +kernel
theorem dX4_readLine_164 : decode cX4_readLine 164 = .ok (.aload_n 0, 1) := by decide +kernel
theorem dX4_readLine_165 : decode cX4_readLine 165 = .ok (.iconst 1, 1) := by decide +kernel
theorem dX4_readLine_166 : decode cX4_readLine 166 = .ok (.invokevirtual 59, 3) := by decide +kernel
theorem dX4_readLine_169 : decode cX4_readLine 169 = .ok (.ifCond .eq 7, 3) := by decide +kernel
theorem dX4_readLine_172 : decode cX4_readLine 172 = .ok (.iconst 1, 1) := by decide +kernel
theorem dX4_readLine_173 : decode cX4_readLine 173 = .ok (.goto 4, 3) := by decide +kernel
theorem dX4_readLine_176 : decode cX4_readLine 176 = .ok (.iconst 0, 1) := by decide +kernel
theorem dX4_readLine_177 : decode cX4_readLine 177 = .ok (.ireturn, 1) := by decide +kernel
theorem dX4_handNamed_0 : decode cX4_handNamed 0 = .ok (.aload_n 0, 1) := by decide +kernel
theorem dX4_handNamed_1 : decode cX4_handNamed 1 = .ok (.ldc 102, 2) := by decide +kernel
theorem dX4_handNamed_3 : decode cX4_handNamed 3 = .ok (.invokevirtual 74, 3) := by decide +kernel
theorem dX4_handNamed_6 : decode cX4_handNamed 6 = .ok (.ifCond .eq 5, 3) := by decide +kernel
theorem dX4_handNamed_9 : decode cX4_handNamed 9 = .ok (.iconst 0, 1) := by decide +kernel
theorem dX4_handNamed_10 : decode cX4_handNamed 10 = .ok (.ireturn, 1) := by decide +kernel
theorem dX4_handNamed_11 : decode cX4_handNamed 11 = .ok (.aload_n 0, 1) := by decide +kernel
theorem dX4_handNamed_12 : decode cX4_handNamed 12 = .ok (.ldc 104, 2) := by decide +kernel
theorem dX4_handNamed_14 : decode cX4_handNamed 14 = .ok (.invokevirtual 74, 3) := by decide +kernel
theorem dX4_handNamed_17 : decode cX4_handNamed 17 = .ok (.ifCond .eq 5, 3) := by decide +kernel
theorem dX4_handNamed_20 : decode cX4_handNamed 20 = .ok (.iconst 1, 1) := by decide +kernel
theorem dX4_handNamed_21 : decode cX4_handNamed 21 = .ok (.ireturn, 1) := by decide +kernel
theorem dX4_handNamed_22 : decode cX4_handNamed 22 = .ok (.aload_n 0, 1) := by decide +kernel
theorem dX4_handNamed_23 : decode cX4_handNamed 23 = .ok (.ldc 106, 2) := by decide +kernel
theorem dX4_handNamed_25 : decode cX4_handNamed 25 = .ok (.invokevirtual 74, 3) := by decide +kernel
theorem dX4_handNamed_28 : decode cX4_handNamed 28 = .ok (.ifCond .eq 7, 3) := by decide +kernel
theorem dX4_handNamed_31 : decode cX4_handNamed 31 = .ok (.iconst 2, 1) := by decide +kernel
theorem dX4_handNamed_32 : decode cX4_handNamed 32 = .ok (.goto 4, 3) := by decide +kernel
theorem dX4_handNamed_35 : decode cX4_handNamed 35 = .ok (.iconst (-1), 1) := by decide +kernel
theorem dX4_handNamed_36 : decode cX4_handNamed 36 = .ok (.ireturn, 1) := by decide +kernel
theorem dX4_kindNamed_0 : decode cX4_kindNamed 0 = .ok (.aload_n 0, 1) := by decide +kernel
theorem dX4_kindNamed_1 : decode cX4_kindNamed 1 = .ok (.ldc 108, 2) := by decide +kernel
theorem dX4_kindNamed_3 : decode cX4_kindNamed 3 = .ok (.invokevirtual 74, 3) := by decide +kernel
theorem dX4_kindNamed_6 : decode cX4_kindNamed 6 = .ok (.ifCond .eq 5, 3) := by decide +kernel
theorem dX4_kindNamed_9 : decode cX4_kindNamed 9 = .ok (.iconst 0, 1) := by decide +kernel
theorem dX4_kindNamed_10 : decode cX4_kindNamed 10 = .ok (.ireturn, 1) := by decide +kernel
theorem dX4_kindNamed_11 : decode cX4_kindNamed 11 = .ok (.aload_n 0, 1) := by decide +kernel
theorem dX4_kindNamed_12 : decode cX4_kindNamed 12 = .ok (.ldc 110, 2) := by decide +kernel
theorem dX4_kindNamed_14 : decode cX4_kindNamed 14 = .ok (.invokevirtual 74, 3) := by decide +kernel
theorem dX4_kindNamed_17 : decode cX4_kindNamed 17 = .ok (.ifCond .eq 5, 3) := by decide +kernel
theorem dX4_kindNamed_20 : decode cX4_kindNamed 20 = .ok (.iconst 1, 1) := by decide +kernel
theorem dX4_kindNamed_21 : decode cX4_kindNamed 21 = .ok (.ireturn, 1) := by decide +kernel
theorem dX4_kindNamed_22 : decode cX4_kindNamed 22 = .ok (.aload_n 0, 1) := by decide +kernel
theorem dX4_kindNamed_23 : decode cX4_kindNamed 23 = .ok (.ldc 112, 2) := by decide +kernel
theorem dX4_kindNamed_25 : decode cX4_kindNamed 25 = .ok (.invokevirtual 74, 3) := by decide +kernel
theorem dX4_kindNamed_28 : decode cX4_kindNamed 28 = .ok (.ifCond .eq 5, 3) := by decide +kernel
theorem dX4_kindNamed_31 : decode cX4_kindNamed 31 = .ok (.iconst 2, 1) := by decide +kernel
theorem dX4_kindNamed_32 : decode cX4_kindNamed 32 = .ok (.ireturn, 1) := by decide +kernel
theorem dX4_kindNamed_33 : decode cX4_kindNamed 33 = .ok (.aload_n 0, 1) := by decide +kernel
theorem dX4_kindNamed_34 : decode cX4_kindNamed 34 = .ok (.ldc 114, 2) := by decide +kernel
theorem dX4_kindNamed_36 : decode cX4_kindNamed 36 = .ok (.invokevirtual 74, 3) := by decide +kernel
theorem dX4_kindNamed_39 : decode cX4_kindNamed 39 = .ok (.ifCond .eq 5, 3) := by decide +kernel
theorem dX4_kindNamed_42 : decode cX4_kindNamed 42 = .ok (.iconst 3, 1) := by decide +kernel
theorem dX4_kindNamed_43 : decode cX4_kindNamed 43 = .ok (.ireturn, 1) := by decide +kernel
theorem dX4_kindNamed_44 : decode cX4_kindNamed 44 = .ok (.aload_n 0, 1) := by decide +kernel
theorem dX4_kindNamed_45 : decode cX4_kindNamed 45 = .ok (.ldc 116, 2) := by decide +kernel
theorem dX4_kindNamed_47 : decode cX4_kindNamed 47 = .ok (.invokevirtual 74, 3) := by decide +kernel
theorem dX4_kindNamed_50 : decode cX4_kindNamed 50 = .ok (.ifCond .eq 5, 3) := by decide +kernel
theorem dX4_kindNamed_53 : decode cX4_kindNamed 53 = .ok (.iconst 4, 1) := by decide +kernel
theorem dX4_kindNamed_54 : decode cX4_kindNamed 54 = .ok (.ireturn, 1) := by decide +kernel
theorem dX4_kindNamed_55 : decode cX4_kindNamed 55 = .ok (.aload_n 0, 1) := by decide +kernel
theorem dX4_kindNamed_56 : decode cX4_kindNamed 56 = .ok (.ldc 118, 2) := by decide +kernel
theorem dX4_kindNamed_58 : decode cX4_kindNamed 58 = .ok (.invokevirtual 74, 3) := by decide +kernel
theorem dX4_kindNamed_61 : decode cX4_kindNamed 61 = .ok (.ifCond .eq 7, 3) := by decide +kernel
theorem dX4_kindNamed_64 : decode cX4_kindNamed 64 = .ok (.iconst 5, 1) := by decide +kernel
theorem dX4_kindNamed_65 : decode cX4_kindNamed 65 = .ok (.goto 4, 3) := by decide +kernel
theorem dX4_kindNamed_68 : decode cX4_kindNamed 68 = .ok (.iconst (-1), 1) := by decide +kernel
theorem dX4_kindNamed_69 : decode cX4_kindNamed 69 = .ok (.ireturn, 1) := by decide +kernel
theorem dX4_readNumbers_0 : decode cX4_readNumbers 0 = .ok (.aload_n 1, 1) := by decide +kernel
theorem dX4_readNumbers_1 : decode cX4_readNumbers 1 = .ok (.getfield 85, 3) := by decide +kernel
theorem dX4_readNumbers_4 : decode cX4_readNumbers 4 = .ok (.ifCond .lt 14, 3) := by decide +kernel
theorem dX4_readNumbers_7 : decode cX4_readNumbers 7 = .ok (.aload_n 1, 1) := by decide +kernel
theorem dX4_readNumbers_8 : decode cX4_readNumbers 8 = .ok (.getfield 85, 3) := by decide +kernel
theorem dX4_readNumbers_11 : decode cX4_readNumbers 11 = .ok (.getstatic 120, 3) := by decide +kernel
theorem dX4_readNumbers_14 : decode cX4_readNumbers 14 = .ok (.arraylength, 1) := by decide +kernel
theorem dX4_readNumbers_15 : decode cX4_readNumbers 15 = .ok (.if_icmp .lt 7, 3) := by decide +kernel
theorem dX4_readNumbers_18 : decode cX4_readNumbers 18 = .ok (.iconst 0, 1) := by decide +kernel
theorem dX4_readNumbers_19 : decode cX4_readNumbers 19 = .ok (.goto 11, 3) := by decide +kernel
theorem dX4_readNumbers_22 : decode cX4_readNumbers 22 = .ok (.getstatic 120, 3) := by decide +kernel
theorem dX4_readNumbers_25 : decode cX4_readNumbers 25 = .ok (.aload_n 1, 1) := by decide +kernel
theorem dX4_readNumbers_26 : decode cX4_readNumbers 26 = .ok (.getfield 85, 3) := by decide +kernel
theorem dX4_readNumbers_29 : decode cX4_readNumbers 29 = .ok (.iaload, 1) := by decide +kernel
theorem dX4_readNumbers_30 : decode cX4_readNumbers 30 = .ok (.istore_n 2, 1) := by decide +kernel
theorem dX4_readNumbers_31 : decode cX4_readNumbers 31 = .ok (.iconst 0, 1) := by decide +kernel
theorem dX4_readNumbers_32 : decode cX4_readNumbers 32 = .ok (.istore_n 3, 1) := by decide +kernel
theorem dX4_readNumbers_33 : decode cX4_readNumbers 33 = .ok (.iload_n 3, 1) := by decide +kernel
theorem dX4_readNumbers_34 : decode cX4_readNumbers 34 = .ok (.iload_n 2, 1) := by decide +kernel
theorem dX4_readNumbers_35 : decode cX4_readNumbers 35 = .ok (.if_icmp .ge 64, 3) := by decide +kernel
theorem dX4_readNumbers_38 : decode cX4_readNumbers 38 = .ok (.aload_n 0, 1) := by decide +kernel
theorem dX4_readNumbers_39 : decode cX4_readNumbers 39 = .ok (.invokevirtual 40, 3) := by decide +kernel
theorem dX4_readNumbers_42 : decode cX4_readNumbers 42 = .ok (.aload_n 0, 1) := by decide +kernel
theorem dX4_readNumbers_43 : decode cX4_readNumbers 43 = .ok (.getfield 124, 3) := by decide +kernel
theorem dX4_readNumbers_46 : decode cX4_readNumbers 46 = .ok (.iconst 2, 1) := by decide +kernel
theorem dX4_readNumbers_47 : decode cX4_readNumbers 47 = .ok (.if_icmp .ne 16, 3) := by decide +kernel
theorem dX4_readNumbers_50 : decode cX4_readNumbers 50 = .ok (.aload_n 0, 1) := by decide +kernel
theorem dX4_readNumbers_51 : decode cX4_readNumbers 51 = .ok (.getfield 27, 3) := by decide +kernel
theorem dX4_readNumbers_54 : decode cX4_readNumbers 54 = .ok (.aload_n 0, 1) := by decide +kernel
theorem dX4_readNumbers_55 : decode cX4_readNumbers 55 = .ok (.getfield 43, 3) := by decide +kernel
theorem dX4_readNumbers_58 : decode cX4_readNumbers 58 = .ok (.isub, 1) := by decide +kernel
theorem dX4_readNumbers_59 : decode cX4_readNumbers 59 = .ok (.iconst 3, 1) := by decide +kernel
theorem dX4_readNumbers_60 : decode cX4_readNumbers 60 = .ok (.if_icmp .le 9, 3) := by decide +kernel
theorem dX4_readNumbers_63 : decode cX4_readNumbers 63 = .ok (.aload_n 0, 1) := by decide +kernel
theorem dX4_readNumbers_64 : decode cX4_readNumbers 64 = .ok (.iconst 1, 1) := by decide +kernel
theorem dX4_readNumbers_65 : decode cX4_readNumbers 65 = .ok (.invokevirtual 59, 3) := by decide +kernel
theorem dX4_readNumbers_68 : decode cX4_readNumbers 68 = .ok (.ireturn, 1) := by decide +kernel
theorem dX4_readNumbers_69 : decode cX4_readNumbers 69 = .ok (.aload_n 1, 1) := by decide +kernel
theorem dX4_readNumbers_70 : decode cX4_readNumbers 70 = .ok (.iload_n 3, 1) := by decide +kernel
theorem dX4_readNumbers_71 : decode cX4_readNumbers 71 = .ok (.aload_n 0, 1) := by decide +kernel
theorem dX4_readNumbers_72 : decode cX4_readNumbers 72 = .ok (.invokevirtual 127, 3) := by decide +kernel
theorem dX4_readNumbers_75 : decode cX4_readNumbers 75 = .ok (.invokevirtual 130, 3) := by decide +kernel
theorem dX4_readNumbers_78 : decode cX4_readNumbers 78 = .ok (.aload_n 0, 1) := by decide +kernel
theorem dX4_readNumbers_79 : decode cX4_readNumbers 79 = .ok (.aload_n 1, 1) := by decide +kernel
theorem dX4_readNumbers_80 : decode cX4_readNumbers 80 = .ok (.iload_n 3, 1) := by decide +kernel
theorem dX4_readNumbers_81 : decode cX4_readNumbers 81 = .ok (.invokevirtual 134, 3) := by decide +kernel
theorem dX4_readNumbers_84 : decode cX4_readNumbers 84 = .ok (.ifCond .ne 9, 3) := by decide +kernel
theorem dX4_readNumbers_87 : decode cX4_readNumbers 87 = .ok (.aload_n 0, 1) := by decide +kernel
theorem dX4_readNumbers_88 : decode cX4_readNumbers 88 = .ok (.iconst 2, 1) := by decide +kernel
theorem dX4_readNumbers_89 : decode cX4_readNumbers 89 = .ok (.invokevirtual 59, 3) := by decide +kernel
theorem dX4_readNumbers_92 : decode cX4_readNumbers 92 = .ok (.ireturn, 1) := by decide +kernel
theorem dX4_readNumbers_93 : decode cX4_readNumbers 93 = .ok (.iinc 3 1, 3) := by decide +kernel
theorem dX4_readNumbers_96 : decode cX4_readNumbers 96 = .ok (.goto (-63), 3) := by decide +kernel
theorem dX4_readNumbers_99 : decode cX4_readNumbers 99 = .ok (.iconst 1, 1) := by decide +kernel
theorem dX4_readNumbers_100 : decode cX4_readNumbers 100 = .ok (.ireturn, 1) := by decide +kernel
theorem dX4_numberRead_0 : decode cX4_numberRead 0 = .ok (.iconst 0, 1) := by decide +kernel
theorem dX4_numberRead_1 : decode cX4_numberRead 1 = .ok (.istore_n 1, 1) := by decide +kernel
theorem dX4_numberRead_2 : decode cX4_numberRead 2 = .ok (.aload_n 0, 1) := by decide +kernel
theorem dX4_numberRead_3 : decode cX4_numberRead 3 = .ok (.getfield 43, 3) := by decide +kernel
theorem dX4_numberRead_6 : decode cX4_numberRead 6 = .ok (.istore_n 2, 1) := by decide +kernel
theorem dX4_numberRead_7 : decode cX4_numberRead 7 = .ok (.iload_n 2, 1) := by decide +kernel
theorem dX4_numberRead_8 : decode cX4_numberRead 8 = .ok (.aload_n 0, 1) := by decide +kernel
theorem dX4_numberRead_9 : decode cX4_numberRead 9 = .ok (.getfield 27, 3) := by decide +kernel
theorem dX4_numberRead_12 : decode cX4_numberRead 12 = .ok (.if_icmp .ge 26, 3) := by decide +kernel
theorem dX4_numberRead_15 : decode cX4_numberRead 15 = .ok (.iload_n 1, 1) := by decide +kernel
theorem dX4_numberRead_16 : decode cX4_numberRead 16 = .ok (.bipush 10, 2) := by decide +kernel
theorem dX4_numberRead_18 : decode cX4_numberRead 18 = .ok (.imul, 1) := by decide +kernel
theorem dX4_numberRead_19 : decode cX4_numberRead 19 = .ok (.aload_n 0, 1) := by decide +kernel
theorem dX4_numberRead_20 : decode cX4_numberRead 20 = .ok (.getfield 9, 3) := by decide +kernel
theorem dX4_numberRead_23 : decode cX4_numberRead 23 = .ok (.iload_n 2, 1) := by decide +kernel
theorem dX4_numberRead_24 : decode cX4_numberRead 24 = .ok (.invokevirtual 138, 3) := by decide +kernel
theorem dX4_numberRead_27 : decode cX4_numberRead 27 = .ok (.iadd, 1) := by decide +kernel
theorem dX4_numberRead_28 : decode cX4_numberRead 28 = .ok (.bipush 48, 2) := by decide +kernel
theorem dX4_numberRead_30 : decode cX4_numberRead 30 = .ok (.isub, 1) := by decide +kernel
theorem dX4_numberRead_31 : decode cX4_numberRead 31 = .ok (.istore_n 1, 1) := by decide +kernel
theorem dX4_numberRead_32 : decode cX4_numberRead 32 = .ok (.iinc 2 1, 3) := by decide +kernel
theorem dX4_numberRead_35 : decode cX4_numberRead 35 = .ok (.goto (-28), 3) := by decide +kernel
theorem dX4_numberRead_38 : decode cX4_numberRead 38 = .ok (.iload_n 1, 1) := by decide +kernel
theorem dX4_numberRead_39 : decode cX4_numberRead 39 = .ok (.ireturn, 1) := by decide +kernel
theorem dX4_mayBegin_0 : decode cX4_mayBegin 0 = .ok (.aload_n 1, 1) := by decide +kernel
theorem dX4_mayBegin_1 : decode cX4_mayBegin 1 = .ok (.iconst 0, 1) := by decide +kernel
theorem dX4_mayBegin_2 : decode cX4_mayBegin 2 = .ok (.invokevirtual 142, 3) := by decide +kernel
theorem dX4_mayBegin_5 : decode cX4_mayBegin 5 = .ok (.istore_n 3, 1) := by decide +kernel
theorem dX4_mayBegin_6 : decode cX4_mayBegin 6 = .ok (.aload_n 1, 1) := by decide +kernel
theorem dX4_mayBegin_7 : decode cX4_mayBegin 7 = .ok (.iconst 1, 1) := by decide +kernel
theorem dX4_mayBegin_8 : decode cX4_mayBegin 8 = .ok (.invokevirtual 142, 3) := by decide +kernel
theorem dX4_mayBegin_11 : decode cX4_mayBegin 11 = .ok (.istore 4, 2) := by decide +kernel
theorem dX4_mayBegin_13 : decode cX4_mayBegin 13 = .ok (.aload_n 1, 1) := by decide +kernel
theorem dX4_mayBegin_14 : decode cX4_mayBegin 14 = .ok (.iconst 2, 1) := by decide +kernel
theorem dX4_mayBegin_15 : decode cX4_mayBegin 15 = .ok (.invokevirtual 142, 3) := by decide +kernel
theorem dX4_mayBegin_18 : decode cX4_mayBegin 18 = .ok (.istore 5, 2) := by decide +kernel
theorem dX4_mayBegin_20 : decode cX4_mayBegin 20 = .ok (.aload_n 1, 1) := by decide +kernel
theorem dX4_mayBegin_21 : decode cX4_mayBegin 21 = .ok (.getfield 85, 3) := by decide +kernel
theorem dX4_mayBegin_24 : decode cX4_mayBegin 24 = .ok (.tableswitch 172 0 4 #[36, 77, 36, 91, 161], 36) := by decide +kernel
theorem dX4_mayBegin_60 : decode cX4_mayBegin 60 = .ok (.iload_n 2, 1) := by decide +kernel
theorem dX4_mayBegin_61 : decode cX4_mayBegin 61 = .ok (.ifCond .ne 19, 3) := by decide +kernel
theorem dX4_mayBegin_64 : decode cX4_mayBegin 64 = .ok (.iload_n 3, 1) := by decide +kernel
theorem dX4_mayBegin_65 : decode cX4_mayBegin 65 = .ok (.aload_n 0, 1) := by decide +kernel
theorem dX4_mayBegin_66 : decode cX4_mayBegin 66 = .ok (.getfield 23, 3) := by decide +kernel
theorem dX4_mayBegin_69 : decode cX4_mayBegin 69 = .ok (.if_icmp .ge 7, 3) := by decide +kernel
theorem dX4_mayBegin_72 : decode cX4_mayBegin 72 = .ok (.iconst 1, 1) := by decide +kernel
theorem dX4_mayBegin_73 : decode cX4_mayBegin 73 = .ok (.goto 27, 3) := by decide +kernel
theorem dX4_mayBegin_76 : decode cX4_mayBegin 76 = .ok (.iconst 0, 1) := by decide +kernel
theorem dX4_mayBegin_77 : decode cX4_mayBegin 77 = .ok (.goto 23, 3) := by decide +kernel
theorem dX4_mayBegin_80 : decode cX4_mayBegin 80 = .ok (.iload_n 3, 1) := by decide +kernel
theorem dX4_mayBegin_81 : decode cX4_mayBegin 81 = .ok (.iload 4, 2) := by decide +kernel
theorem dX4_mayBegin_83 : decode cX4_mayBegin 83 = .ok (.if_icmp .gt 16, 3) := by decide +kernel
theorem dX4_mayBegin_86 : decode cX4_mayBegin 86 = .ok (.iload 4, 2) := by decide +kernel
theorem dX4_mayBegin_88 : decode cX4_mayBegin 88 = .ok (.aload_n 0, 1) := by decide +kernel
theorem dX4_mayBegin_89 : decode cX4_mayBegin 89 = .ok (.getfield 23, 3) := by decide +kernel
theorem dX4_mayBegin_92 : decode cX4_mayBegin 92 = .ok (.if_icmp .ge 7, 3) := by decide +kernel
theorem dX4_mayBegin_95 : decode cX4_mayBegin 95 = .ok (.iconst 1, 1) := by decide +kernel
theorem dX4_mayBegin_96 : decode cX4_mayBegin 96 = .ok (.goto 4, 3) := by decide +kernel
theorem dX4_mayBegin_99 : decode cX4_mayBegin 99 = .ok (.iconst 0, 1) := by decide +kernel
theorem dX4_mayBegin_100 : decode cX4_mayBegin 100 = .ok (.ireturn, 1) := by decide +kernel
theorem dX4_mayBegin_101 : decode cX4_mayBegin 101 = .ok (.iload_n 3, 1) := by decide +kernel
theorem dX4_mayBegin_102 : decode cX4_mayBegin 102 = .ok (.aload_n 0, 1) := by decide +kernel
theorem dX4_mayBegin_103 : decode cX4_mayBegin 103 = .ok (.getfield 23, 3) := by decide +kernel
theorem dX4_mayBegin_106 : decode cX4_mayBegin 106 = .ok (.if_icmp .gt 7, 3) := by decide +kernel
theorem dX4_mayBegin_109 : decode cX4_mayBegin 109 = .ok (.iconst 1, 1) := by decide +kernel
theorem dX4_mayBegin_110 : decode cX4_mayBegin 110 = .ok (.goto 4, 3) := by decide +kernel
theorem dX4_mayBegin_113 : decode cX4_mayBegin 113 = .ok (.iconst 0, 1) := by decide +kernel
theorem dX4_mayBegin_114 : decode cX4_mayBegin 114 = .ok (.ireturn, 1) := by decide +kernel
theorem dX4_mayBegin_115 : decode cX4_mayBegin 115 = .ok (.iload_n 2, 1) := by decide +kernel
theorem dX4_mayBegin_116 : decode cX4_mayBegin 116 = .ok (.ifCond .ne 19, 3) := by decide +kernel
theorem dX4_mayBegin_119 : decode cX4_mayBegin 119 = .ok (.iload_n 3, 1) := by decide +kernel
theorem dX4_mayBegin_120 : decode cX4_mayBegin 120 = .ok (.iconst 1, 1) := by decide +kernel
theorem dX4_mayBegin_121 : decode cX4_mayBegin 121 = .ok (.iadd, 1) := by decide +kernel
theorem dX4_mayBegin_122 : decode cX4_mayBegin 122 = .ok (.aload_n 0, 1) := by decide +kernel
theorem dX4_mayBegin_123 : decode cX4_mayBegin 123 = .ok (.getfield 23, 3) := by decide +kernel
theorem dX4_mayBegin_126 : decode cX4_mayBegin 126 = .ok (.if_icmp .ge 7, 3) := by decide +kernel
theorem dX4_mayBegin_129 : decode cX4_mayBegin 129 = .ok (.iconst 1, 1) := by decide +kernel
theorem dX4_mayBegin_130 : decode cX4_mayBegin 130 = .ok (.goto 4, 3) := by decide +kernel
theorem dX4_mayBegin_133 : decode cX4_mayBegin 133 = .ok (.iconst 0, 1) := by decide +kernel
theorem dX4_mayBegin_134 : decode cX4_mayBegin 134 = .ok (.ireturn, 1) := by decide +kernel
theorem dX4_mayBegin_135 : decode cX4_mayBegin 135 = .ok (.iload_n 2, 1) := by decide +kernel
theorem dX4_mayBegin_136 : decode cX4_mayBegin 136 = .ok (.iconst 1, 1) := by decide +kernel
theorem dX4_mayBegin_137 : decode cX4_mayBegin 137 = .ok (.if_icmp .ne 26, 3) := by decide +kernel
theorem dX4_mayBegin_140 : decode cX4_mayBegin 140 = .ok (.iload_n 3, 1) := by decide +kernel
theorem dX4_mayBegin_141 : decode cX4_mayBegin 141 = .ok (.iload 4, 2) := by decide +kernel
theorem dX4_mayBegin_143 : decode cX4_mayBegin 143 = .ok (.if_icmp .ge 16, 3) := by decide +kernel
theorem dX4_mayBegin_146 : decode cX4_mayBegin 146 = .ok (.iload 4, 2) := by decide +kernel
theorem dX4_mayBegin_148 : decode cX4_mayBegin 148 = .ok (.aload_n 0, 1) := by decide +kernel
theorem dX4_mayBegin_149 : decode cX4_mayBegin 149 = .ok (.getfield 23, 3) := by decide +kernel
theorem dX4_mayBegin_152 : decode cX4_mayBegin 152 = .ok (.if_icmp .ge 7, 3) := by decide +kernel
theorem dX4_mayBegin_155 : decode cX4_mayBegin 155 = .ok (.iconst 1, 1) := by decide +kernel
theorem dX4_mayBegin_156 : decode cX4_mayBegin 156 = .ok (.goto 28, 3) := by decide +kernel
theorem dX4_mayBegin_159 : decode cX4_mayBegin 159 = .ok (.iconst 0, 1) := by decide +kernel
theorem dX4_mayBegin_160 : decode cX4_mayBegin 160 = .ok (.goto 24, 3) := by decide +kernel
theorem dX4_mayBegin_163 : decode cX4_mayBegin 163 = .ok (.iload 4, 2) := by decide +kernel
theorem dX4_mayBegin_165 : decode cX4_mayBegin 165 = .ok (.iload 5, 2) := by decide +kernel
theorem dX4_mayBegin_167 : decode cX4_mayBegin 167 = .ok (.if_icmp .gt 16, 3) := by decide +kernel
theorem dX4_mayBegin_170 : decode cX4_mayBegin 170 = .ok (.iload 5, 2) := by decide +kernel
theorem dX4_mayBegin_172 : decode cX4_mayBegin 172 = .ok (.aload_n 0, 1) := by decide +kernel
theorem dX4_mayBegin_173 : decode cX4_mayBegin 173 = .ok (.getfield 23, 3) := by decide +kernel
theorem dX4_mayBegin_176 : decode cX4_mayBegin 176 = .ok (.if_icmp .ge 7, 3) := by decide +kernel
theorem dX4_mayBegin_179 : decode cX4_mayBegin 179 = .ok (.iconst 1, 1) := by decide +kernel
theorem dX4_mayBegin_180 : decode cX4_mayBegin 180 = .ok (.goto 4, 3) := by decide +kernel
theorem dX4_mayBegin_183 : decode cX4_mayBegin 183 = .ok (.iconst 0, 1) := by decide +kernel
theorem dX4_mayBegin_184 : decode cX4_mayBegin 184 = .ok (.ireturn, 1) := by decide +kernel
theorem dX4_mayBegin_185 : decode cX4_mayBegin 185 = .ok (.aload_n 0, 1) := by decide +kernel
theorem dX4_mayBegin_186 : decode cX4_mayBegin 186 = .ok (.iload_n 3, 1) := by decide +kernel
theorem dX4_mayBegin_187 : decode cX4_mayBegin 187 = .ok (.iload 4, 2) := by decide +kernel
theorem dX4_mayBegin_189 : decode cX4_mayBegin 189 = .ok (.iload 5, 2) := by decide +kernel
theorem dX4_mayBegin_191 : decode cX4_mayBegin 191 = .ok (.iload_n 2, 1) := by decide +kernel
theorem dX4_mayBegin_192 : decode cX4_mayBegin 192 = .ok (.invokevirtual 145, 3) := by decide +kernel
theorem dX4_mayBegin_195 : decode cX4_mayBegin 195 = .ok (.ireturn, 1) := by decide +kernel
theorem dX4_mayBegin_196 : decode cX4_mayBegin 196 = .ok (.aload_n 0, 1) := by decide +kernel
theorem dX4_mayBegin_197 : decode cX4_mayBegin 197 = .ok (.getfield 15, 3) := by decide +kernel
theorem dX4_mayBegin_200 : decode cX4_mayBegin 200 = .ok (.iload_n 3, 1) := by decide +kernel
theorem dX4_mayBegin_201 : decode cX4_mayBegin 201 = .ok (.invokevirtual 149, 3) := by decide +kernel
theorem dX4_mayBegin_204 : decode cX4_mayBegin 204 = .ok (.ireturn, 1) := by decide +kernel
theorem dX4_mayBeginMove_0 : decode cX4_mayBeginMove 0 = .ok (.iload 4, 2) := by decide +kernel
theorem dX4_mayBeginMove_2 : decode cX4_mayBeginMove 2 = .ok (.ifCond .ne 29, 3) := by decide +kernel
theorem dX4_mayBeginMove_5 : decode cX4_mayBeginMove 5 = .ok (.iload_n 1, 1) := by decide +kernel
theorem dX4_mayBeginMove_6 : decode cX4_mayBeginMove 6 = .ok (.aload_n 0, 1) := by decide +kernel
theorem dX4_mayBeginMove_7 : decode cX4_mayBeginMove 7 = .ok (.getfield 23, 3) := by decide +kernel
theorem dX4_mayBeginMove_10 : decode cX4_mayBeginMove 10 = .ok (.if_icmp .ge 19, 3) := by decide +kernel
theorem dX4_mayBeginMove_13 : decode cX4_mayBeginMove 13 = .ok (.iload_n 1, 1) := by decide +kernel
theorem dX4_mayBeginMove_14 : decode cX4_mayBeginMove 14 = .ok (.ifCond .gt 11, 3) := by decide +kernel
theorem dX4_mayBeginMove_17 : decode cX4_mayBeginMove 17 = .ok (.aload_n 0, 1) := by decide +kernel
theorem dX4_mayBeginMove_18 : decode cX4_mayBeginMove 18 = .ok (.getfield 23, 3) := by decide +kernel
theorem dX4_mayBeginMove_21 : decode cX4_mayBeginMove 21 = .ok (.iconst 1, 1) := by decide +kernel
theorem dX4_mayBeginMove_22 : decode cX4_mayBeginMove 22 = .ok (.if_icmp .le 7, 3) := by decide +kernel
theorem dX4_mayBeginMove_25 : decode cX4_mayBeginMove 25 = .ok (.iconst 1, 1) := by decide +kernel
theorem dX4_mayBeginMove_26 : decode cX4_mayBeginMove 26 = .ok (.goto 4, 3) := by decide +kernel
theorem dX4_mayBeginMove_29 : decode cX4_mayBeginMove 29 = .ok (.iconst 0, 1) := by decide +kernel
theorem dX4_mayBeginMove_30 : decode cX4_mayBeginMove 30 = .ok (.ireturn, 1) := by decide +kernel
theorem dX4_mayBeginMove_31 : decode cX4_mayBeginMove 31 = .ok (.iload 4, 2) := by decide +kernel
theorem dX4_mayBeginMove_33 : decode cX4_mayBeginMove 33 = .ok (.iconst 1, 1) := by decide +kernel
theorem dX4_mayBeginMove_34 : decode cX4_mayBeginMove 34 = .ok (.if_icmp .ne 36, 3) := by decide +kernel
theorem dX4_mayBeginMove_37 : decode cX4_mayBeginMove 37 = .ok (.iload_n 1, 1) := by decide +kernel
theorem dX4_mayBeginMove_38 : decode cX4_mayBeginMove 38 = .ok (.iload_n 2, 1) := by decide +kernel
theorem dX4_mayBeginMove_39 : decode cX4_mayBeginMove 39 = .ok (.if_icmp .gt 29, 3) := by decide +kernel
theorem dX4_mayBeginMove_42 : decode cX4_mayBeginMove 42 = .ok (.iload_n 2, 1) := by decide +kernel
theorem dX4_mayBeginMove_43 : decode cX4_mayBeginMove 43 = .ok (.aload_n 0, 1) := by decide +kernel
theorem dX4_mayBeginMove_44 : decode cX4_mayBeginMove 44 = .ok (.getfield 23, 3) := by decide +kernel
theorem dX4_mayBeginMove_47 : decode cX4_mayBeginMove 47 = .ok (.if_icmp .ge 21, 3) := by decide +kernel
theorem dX4_mayBeginMove_50 : decode cX4_mayBeginMove 50 = .ok (.iload_n 1, 1) := by decide +kernel
theorem dX4_mayBeginMove_51 : decode cX4_mayBeginMove 51 = .ok (.ifCond .gt 13, 3) := by decide +kernel
theorem dX4_mayBeginMove_54 : decode cX4_mayBeginMove 54 = .ok (.iload_n 2, 1) := by decide +kernel
theorem dX4_mayBeginMove_55 : decode cX4_mayBeginMove 55 = .ok (.iconst 1, 1) := by decide +kernel
theorem dX4_mayBeginMove_56 : decode cX4_mayBeginMove 56 = .ok (.iadd, 1) := by decide +kernel
theorem dX4_mayBeginMove_57 : decode cX4_mayBeginMove 57 = .ok (.aload_n 0, 1) := by decide +kernel
theorem dX4_mayBeginMove_58 : decode cX4_mayBeginMove 58 = .ok (.getfield 23, 3) := by decide +kernel
theorem dX4_mayBeginMove_61 : decode cX4_mayBeginMove 61 = .ok (.if_icmp .ge 7, 3) := by decide +kernel
theorem dX4_mayBeginMove_64 : decode cX4_mayBeginMove 64 = .ok (.iconst 1, 1) := by decide +kernel
theorem dX4_mayBeginMove_65 : decode cX4_mayBeginMove 65 = .ok (.goto 4, 3) := by decide +kernel
theorem dX4_mayBeginMove_68 : decode cX4_mayBeginMove 68 = .ok (.iconst 0, 1) := by decide +kernel
theorem dX4_mayBeginMove_69 : decode cX4_mayBeginMove 69 = .ok (.ireturn, 1) := by decide +kernel
theorem dX4_mayBeginMove_70 : decode cX4_mayBeginMove 70 = .ok (.iload_n 3, 1) := by decide +kernel
theorem dX4_mayBeginMove_71 : decode cX4_mayBeginMove 71 = .ok (.iload_n 1, 1) := by decide +kernel
theorem dX4_mayBeginMove_72 : decode cX4_mayBeginMove 72 = .ok (.if_icmp .lt 18, 3) := by decide +kernel
theorem dX4_mayBeginMove_75 : decode cX4_mayBeginMove 75 = .ok (.iload_n 3, 1) := by decide +kernel
theorem dX4_mayBeginMove_76 : decode cX4_mayBeginMove 76 = .ok (.iload_n 2, 1) := by decide +kernel
theorem dX4_mayBeginMove_77 : decode cX4_mayBeginMove 77 = .ok (.iconst 1, 1) := by decide +kernel
theorem dX4_mayBeginMove_78 : decode cX4_mayBeginMove 78 = .ok (.iadd, 1) := by decide +kernel
theorem dX4_mayBeginMove_79 : decode cX4_mayBeginMove 79 = .ok (.if_icmp .le 15, 3) := by decide +kernel
theorem dX4_mayBeginMove_82 : decode cX4_mayBeginMove 82 = .ok (.iload_n 3, 1) := by decide +kernel
theorem dX4_mayBeginMove_83 : decode cX4_mayBeginMove 83 = .ok (.aload_n 0, 1) := by decide +kernel
theorem dX4_mayBeginMove_84 : decode cX4_mayBeginMove 84 = .ok (.getfield 23, 3) := by decide +kernel
theorem dX4_mayBeginMove_87 : decode cX4_mayBeginMove 87 = .ok (.if_icmp .gt 7, 3) := by decide +kernel
theorem dX4_mayBeginMove_90 : decode cX4_mayBeginMove 90 = .ok (.iconst 1, 1) := by decide +kernel
theorem dX4_mayBeginMove_91 : decode cX4_mayBeginMove 91 = .ok (.goto 4, 3) := by decide +kernel
theorem dX4_mayBeginMove_94 : decode cX4_mayBeginMove 94 = .ok (.iconst 0, 1) := by decide +kernel
theorem dX4_mayBeginMove_95 : decode cX4_mayBeginMove 95 = .ok (.ireturn, 1) := by decide +kernel
theorem dX4_readWords_0 : decode cX4_readWords 0 = .ok (.iconst 0, 1) := by decide +kernel
theorem dX4_readWords_1 : decode cX4_readWords 1 = .ok (.istore_n 2, 1) := by decide +kernel
theorem dX4_readWords_2 : decode cX4_readWords 2 = .ok (.iload_n 2, 1) := by decide +kernel
theorem dX4_readWords_3 : decode cX4_readWords 3 = .ok (.bipush 7, 2) := by decide +kernel
theorem dX4_readWords_5 : decode cX4_readWords 5 = .ok (.if_icmp .gt 82, 3) := by decide +kernel
theorem dX4_readWords_8 : decode cX4_readWords 8 = .ok (.aload_n 0, 1) := by decide +kernel
theorem dX4_readWords_9 : decode cX4_readWords 9 = .ok (.invokevirtual 152, 3) := by decide +kernel
theorem dX4_readWords_12 : decode cX4_readWords 12 = .ok (.aload_n 0, 1) := by decide +kernel
theorem dX4_readWords_13 : decode cX4_readWords 13 = .ok (.aload_n 0, 1) := by decide +kernel
theorem dX4_readWords_14 : decode cX4_readWords 14 = .ok (.getfield 27, 3) := by decide +kernel
theorem dX4_readWords_17 : decode cX4_readWords 17 = .ok (.putfield 43, 3) := by decide +kernel
theorem dX4_readWords_20 : decode cX4_readWords 20 = .ok (.aload_n 0, 1) := by decide +kernel
theorem dX4_readWords_21 : decode cX4_readWords 21 = .ok (.getfield 9, 3) := by decide +kernel
theorem dX4_readWords_24 : decode cX4_readWords 24 = .ok (.aload_n 0, 1) := by decide +kernel
theorem dX4_readWords_25 : decode cX4_readWords 25 = .ok (.getfield 27, 3) := by decide +kernel
theorem dX4_readWords_28 : decode cX4_readWords 28 = .ok (.invokevirtual 138, 3) := by decide +kernel
theorem dX4_readWords_31 : decode cX4_readWords 31 = .ok (.istore_n 3, 1) := by decide +kernel
theorem dX4_readWords_32 : decode cX4_readWords 32 = .ok (.iload_n 3, 1) := by decide +kernel
theorem dX4_readWords_33 : decode cX4_readWords 33 = .ok (.iconst (-1), 1) := by decide +kernel
theorem dX4_readWords_34 : decode cX4_readWords 34 = .ok (.if_icmp .eq 13, 3) := by decide +kernel
theorem dX4_readWords_37 : decode cX4_readWords 37 = .ok (.iload_n 3, 1) := by decide +kernel
theorem dX4_readWords_38 : decode cX4_readWords 38 = .ok (.bipush 59, 2) := by decide +kernel
theorem dX4_readWords_40 : decode cX4_readWords 40 = .ok (.if_icmp .ne 13, 3) := by decide +kernel
theorem dX4_readWords_43 : decode cX4_readWords 43 = .ok (.iload_n 2, 1) := by decide +kernel
theorem dX4_readWords_44 : decode cX4_readWords 44 = .ok (.ifCond .ne 9, 3) := by decide +kernel
theorem dX4_readWords_47 : decode cX4_readWords 47 = .ok (.aload_n 0, 1) := by decide +kernel
theorem dX4_readWords_48 : decode cX4_readWords 48 = .ok (.iconst 1, 1) := by decide +kernel
theorem dX4_readWords_49 : decode cX4_readWords 49 = .ok (.invokevirtual 59, 3) := by decide +kernel
theorem dX4_readWords_52 : decode cX4_readWords 52 = .ok (.ireturn, 1) := by decide +kernel
theorem dX4_readWords_53 : decode cX4_readWords 53 = .ok (.iload_n 3, 1) := by decide +kernel
theorem dX4_readWords_54 : decode cX4_readWords 54 = .ok (.bipush 59, 2) := by decide +kernel
theorem dX4_readWords_56 : decode cX4_readWords 56 = .ok (.if_icmp .ne 15, 3) := by decide +kernel
theorem dX4_readWords_59 : decode cX4_readWords 59 = .ok (.aload_n 0, 1) := by decide +kernel
theorem dX4_readWords_60 : decode cX4_readWords 60 = .ok (.dup, 1) := by decide +kernel
theorem dX4_readWords_61 : decode cX4_readWords 61 = .ok (.getfield 27, 3) := by decide +kernel
theorem dX4_readWords_64 : decode cX4_readWords 64 = .ok (.iconst 1, 1) := by decide +kernel
theorem dX4_readWords_65 : decode cX4_readWords 65 = .ok (.iadd, 1) := by decide +kernel
theorem dX4_readWords_66 : decode cX4_readWords 66 = .ok (.putfield 27, 3) := by decide +kernel
theorem dX4_readWords_69 : decode cX4_readWords 69 = .ok (.iconst 1, 1) := by decide +kernel
theorem dX4_readWords_70 : decode cX4_readWords 70 = .ok (.ireturn, 1) := by decide +kernel
theorem dX4_readWords_71 : decode cX4_readWords 71 = .ok (.aload_n 0, 1) := by decide +kernel
theorem dX4_readWords_72 : decode cX4_readWords 72 = .ok (.aload_n 1, 1) := by decide +kernel
theorem dX4_readWords_73 : decode cX4_readWords 73 = .ok (.invokevirtual 155, 3) := by decide +kernel
theorem dX4_readWords_76 : decode cX4_readWords 76 = .ok (.ifCond .ne 5, 3) := by decide +kernel
theorem dX4_readWords_79 : decode cX4_readWords 79 = .ok (.iconst 0, 1) := by decide +kernel
theorem dX4_readWords_80 : decode cX4_readWords 80 = .ok (.ireturn, 1) := by decide +kernel
theorem dX4_readWords_81 : decode cX4_readWords 81 = .ok (.iinc 2 1, 3) := by decide +kernel
theorem dX4_readWords_84 : decode cX4_readWords 84 = .ok (.goto (-82), 3) := by decide +kernel
theorem dX4_readWords_87 : decode cX4_readWords 87 = .ok (.iconst 0, 1) := by decide +kernel
theorem dX4_readWords_88 : decode cX4_readWords 88 = .ok (.ireturn, 1) := by decide +kernel
theorem dX4_readWord_0 : decode cX4_readWord 0 = .ok (.lconst 0, 1) := by decide +kernel
theorem dX4_readWord_1 : decode cX4_readWord 1 = .ok (.lstore_n 2, 1) := by decide +kernel
theorem dX4_readWord_2 : decode cX4_readWord 2 = .ok (.iconst 1, 1) := by decide +kernel
theorem dX4_readWord_3 : decode cX4_readWord 3 = .ok (.istore 4, 2) := by decide +kernel
theorem dX4_readWord_5 : decode cX4_readWord 5 = .ok (.aload_n 0, 1) := by decide +kernel
theorem dX4_readWord_6 : decode cX4_readWord 6 = .ok (.getfield 43, 3) := by decide +kernel
theorem dX4_readWord_9 : decode cX4_readWord 9 = .ok (.istore 5, 2) := by decide +kernel
theorem dX4_readWord_11 : decode cX4_readWord 11 = .ok (.iload 5, 2) := by decide +kernel
theorem dX4_readWord_13 : decode cX4_readWord 13 = .ok (.aload_n 0, 1) := by decide +kernel
theorem dX4_readWord_14 : decode cX4_readWord 14 = .ok (.getfield 9, 3) := by decide +kernel
theorem dX4_readWord_17 : decode cX4_readWord 17 = .ok (.getfield 46, 3) := by decide +kernel
theorem dX4_readWord_20 : decode cX4_readWord 20 = .ok (.if_icmp .ge 75, 3) := by decide +kernel
theorem dX4_readWord_23 : decode cX4_readWord 23 = .ok (.aload_n 0, 1) := by decide +kernel
theorem dX4_readWord_24 : decode cX4_readWord 24 = .ok (.getfield 9, 3) := by decide +kernel
theorem dX4_readWord_27 : decode cX4_readWord 27 = .ok (.iload 5, 2) := by decide +kernel
theorem dX4_readWord_29 : decode cX4_readWord 29 = .ok (.invokevirtual 138, 3) := by decide +kernel
theorem dX4_readWord_32 : decode cX4_readWord 32 = .ok (.istore 6, 2) := by decide +kernel
theorem dX4_readWord_34 : decode cX4_readWord 34 = .ok (.iload 6, 2) := by decide +kernel
theorem dX4_readWord_36 : decode cX4_readWord 36 = .ok (.invokestatic 158, 3) := by decide +kernel
theorem dX4_readWord_39 : decode cX4_readWord 39 = .ok (.ifCond .ne 56, 3) := by decide +kernel
theorem dX4_readWord_42 : decode cX4_readWord 42 = .ok (.iload 6, 2) := by decide +kernel
theorem dX4_readWord_44 : decode cX4_readWord 44 = .ok (.bipush 59, 2) := by decide +kernel
theorem dX4_readWord_46 : decode cX4_readWord 46 = .ok (.if_icmp .ne 6, 3) := by decide +kernel
theorem dX4_readWord_49 : decode cX4_readWord 49 = .ok (.goto 46, 3) := by decide +kernel
theorem dX4_readWord_52 : decode cX4_readWord 52 = .ok (.iload 4, 2) := by decide +kernel
theorem dX4_readWord_54 : decode cX4_readWord 54 = .ok (.ifCond .eq 15, 3) := by decide +kernel
theorem dX4_readWord_57 : decode cX4_readWord 57 = .ok (.iload 6, 2) := by decide +kernel
theorem dX4_readWord_59 : decode cX4_readWord 59 = .ok (.invokestatic 161, 3) := by decide +kernel
theorem dX4_readWord_62 : decode cX4_readWord 62 = .ok (.ifCond .eq 7, 3) := by decide +kernel
theorem dX4_readWord_65 : decode cX4_readWord 65 = .ok (.iconst 1, 1) := by decide +kernel
theorem dX4_readWord_66 : decode cX4_readWord 66 = .ok (.goto 4, 3) := by decide +kernel
theorem dX4_readWord_69 : decode cX4_readWord 69 = .ok (.iconst 0, 1) := by decide +kernel
theorem dX4_readWord_70 : decode cX4_readWord 70 = .ok (.istore 4, 2) := by decide +kernel
theorem dX4_readWord_72 : decode cX4_readWord 72 = .ok (.lload_n 2, 1) := by decide +kernel
theorem dX4_readWord_73 : decode cX4_readWord 73 = .ok (.bipush 8, 2) := by decide +kernel
theorem dX4_readWord_75 : decode cX4_readWord 75 = .ok (.lshl, 1) := by decide +kernel
theorem dX4_readWord_76 : decode cX4_readWord 76 = .ok (.iload 6, 2) := by decide +kernel
theorem dX4_readWord_78 : decode cX4_readWord 78 = .ok (.i2l, 1) := by decide +kernel
theorem dX4_readWord_79 : decode cX4_readWord 79 = .ok (.lor, 1) := by decide +kernel
theorem dX4_readWord_80 : decode cX4_readWord 80 = .ok (.lstore_n 2, 1) := by decide +kernel
theorem dX4_readWord_81 : decode cX4_readWord 81 = .ok (.aload_n 0, 1) := by decide +kernel
theorem dX4_readWord_82 : decode cX4_readWord 82 = .ok (.iload 5, 2) := by decide +kernel
theorem dX4_readWord_84 : decode cX4_readWord 84 = .ok (.iconst 1, 1) := by decide +kernel
theorem dX4_readWord_85 : decode cX4_readWord 85 = .ok (.iadd, 1) := by decide +kernel
theorem dX4_readWord_86 : decode cX4_readWord 86 = .ok (.putfield 27, 3) := by decide +kernel
theorem dX4_readWord_89 : decode cX4_readWord 89 = .ok (.iinc 5 1, 3) := by decide +kernel
theorem dX4_readWord_92 : decode cX4_readWord 92 = .ok (.goto (-81), 3) := by decide +kernel
theorem dX4_readWord_95 : decode cX4_readWord 95 = .ok (.iload 4, 2) := by decide +kernel
theorem dX4_readWord_97 : decode cX4_readWord 97 = .ok (.ifCond .eq 17, 3) := by decide +kernel
theorem dX4_readWord_100 : decode cX4_readWord 100 = .ok (.aload_n 0, 1) := by decide +kernel
theorem dX4_readWord_101 : decode cX4_readWord 101 = .ok (.getfield 27, 3) := by decide +kernel
theorem dX4_readWord_104 : decode cX4_readWord 104 = .ok (.aload_n 0, 1) := by decide +kernel
theorem dX4_readWord_105 : decode cX4_readWord 105 = .ok (.getfield 43, 3) := by decide +kernel
theorem dX4_readWord_108 : decode cX4_readWord 108 = .ok (.isub, 1) := by decide +kernel
theorem dX4_readWord_109 : decode cX4_readWord 109 = .ok (.bipush 8, 2) := by decide +kernel
theorem dX4_readWord_111 : decode cX4_readWord 111 = .ok (.if_icmp .le 9, 3) := by decide +kernel
theorem dX4_readWord_114 : decode cX4_readWord 114 = .ok (.aload_n 0, 1) := by decide +kernel
theorem dX4_readWord_115 : decode cX4_readWord 115 = .ok (.iconst 1, 1) := by decide +kernel
theorem dX4_readWord_116 : decode cX4_readWord 116 = .ok (.invokevirtual 59, 3) := by decide +kernel
theorem dX4_readWord_119 : decode cX4_readWord 119 = .ok (.ireturn, 1) := by decide +kernel
theorem dX4_readWord_120 : decode cX4_readWord 120 = .ok (.aload_n 1, 1) := by decide +kernel
theorem dX4_readWord_121 : decode cX4_readWord 121 = .ok (.getfield 164, 3) := by decide +kernel
theorem dX4_readWord_124 : decode cX4_readWord 124 = .ok (.getfield 168, 3) := by decide +kernel
theorem dX4_readWord_127 : decode cX4_readWord 127 = .ok (.bipush 6, 2) := by decide +kernel
theorem dX4_readWord_129 : decode cX4_readWord 129 = .ok (.if_icmp .lt 9, 3) := by decide +kernel
theorem dX4_readWord_132 : decode cX4_readWord 132 = .ok (.aload_n 0, 1) := by decide +kernel
theorem dX4_readWord_133 : decode cX4_readWord 133 = .ok (.iconst 3, 1) := by decide +kernel
theorem dX4_readWord_134 : decode cX4_readWord 134 = .ok (.invokevirtual 59, 3) := by decide +kernel
theorem dX4_readWord_137 : decode cX4_readWord 137 = .ok (.ireturn, 1) := by decide +kernel
theorem dX4_readWord_138 : decode cX4_readWord 138 = .ok (.aload_n 1, 1) := by decide +kernel
theorem dX4_readWord_139 : decode cX4_readWord 139 = .ok (.getfield 164, 3) := by decide +kernel
theorem dX4_readWord_142 : decode cX4_readWord 142 = .ok (.lload_n 2, 1) := by decide +kernel
theorem dX4_readWord_143 : decode cX4_readWord 143 = .ok (.invokevirtual 171, 3) := by decide +kernel
theorem dX4_readWord_146 : decode cX4_readWord 146 = .ok (.iconst 1, 1) := by decide +kernel
theorem dX4_readWord_147 : decode cX4_readWord 147 = .ok (.ireturn, 1) := by decide +kernel
theorem dX4_skipBlanks_0 : decode cX4_skipBlanks 0 = .ok (.aload_n 0, 1) := by decide +kernel
theorem dX4_skipBlanks_1 : decode cX4_skipBlanks 1 = .ok (.getfield 27, 3) := by decide +kernel
theorem dX4_skipBlanks_4 : decode cX4_skipBlanks 4 = .ok (.istore_n 1, 1) := by decide +kernel
theorem dX4_skipBlanks_5 : decode cX4_skipBlanks 5 = .ok (.iload_n 1, 1) := by decide +kernel
theorem dX4_skipBlanks_6 : decode cX4_skipBlanks 6 = .ok (.aload_n 0, 1) := by decide +kernel
theorem dX4_skipBlanks_7 : decode cX4_skipBlanks 7 = .ok (.getfield 9, 3) := by decide +kernel
theorem dX4_skipBlanks_10 : decode cX4_skipBlanks 10 = .ok (.getfield 46, 3) := by decide +kernel
theorem dX4_skipBlanks_13 : decode cX4_skipBlanks 13 = .ok (.if_icmp .ge 30, 3) := by decide +kernel
theorem dX4_skipBlanks_16 : decode cX4_skipBlanks 16 = .ok (.aload_n 0, 1) := by decide +kernel
theorem dX4_skipBlanks_17 : decode cX4_skipBlanks 17 = .ok (.getfield 9, 3) := by decide +kernel
theorem dX4_skipBlanks_20 : decode cX4_skipBlanks 20 = .ok (.iload_n 1, 1) := by decide +kernel
theorem dX4_skipBlanks_21 : decode cX4_skipBlanks 21 = .ok (.invokevirtual 138, 3) := by decide +kernel
theorem dX4_skipBlanks_24 : decode cX4_skipBlanks 24 = .ok (.invokestatic 158, 3) := by decide +kernel
theorem dX4_skipBlanks_27 : decode cX4_skipBlanks 27 = .ok (.ifCond .eq 16, 3) := by decide +kernel
theorem dX4_skipBlanks_30 : decode cX4_skipBlanks 30 = .ok (.aload_n 0, 1) := by decide +kernel
theorem dX4_skipBlanks_31 : decode cX4_skipBlanks 31 = .ok (.iload_n 1, 1) := by decide +kernel
theorem dX4_skipBlanks_32 : decode cX4_skipBlanks 32 = .ok (.iconst 1, 1) := by decide +kernel
theorem dX4_skipBlanks_33 : decode cX4_skipBlanks 33 = .ok (.iadd, 1) := by decide +kernel
theorem dX4_skipBlanks_34 : decode cX4_skipBlanks 34 = .ok (.putfield 27, 3) := by decide +kernel
theorem dX4_skipBlanks_37 : decode cX4_skipBlanks 37 = .ok (.iinc 1 1, 3) := by decide +kernel
theorem dX4_skipBlanks_40 : decode cX4_skipBlanks 40 = .ok (.goto (-35), 3) := by decide +kernel
theorem dX4_skipBlanks_43 : decode cX4_skipBlanks 43 = .ok (.return_, 1) := by decide +kernel
theorem dX4_readToken_0 : decode cX4_readToken 0 = .ok (.aload_n 0, 1) := by decide +kernel
theorem dX4_readToken_1 : decode cX4_readToken 1 = .ok (.invokevirtual 152, 3) := by decide +kernel
theorem dX4_readToken_4 : decode cX4_readToken 4 = .ok (.aload_n 0, 1) := by decide +kernel
theorem dX4_readToken_5 : decode cX4_readToken 5 = .ok (.aload_n 0, 1) := by decide +kernel
theorem dX4_readToken_6 : decode cX4_readToken 6 = .ok (.getfield 27, 3) := by decide +kernel
theorem dX4_readToken_9 : decode cX4_readToken 9 = .ok (.putfield 43, 3) := by decide +kernel
theorem dX4_readToken_12 : decode cX4_readToken 12 = .ok (.aload_n 0, 1) := by decide +kernel
theorem dX4_readToken_13 : decode cX4_readToken 13 = .ok (.aload_n 0, 1) := by decide +kernel
theorem dX4_readToken_14 : decode cX4_readToken 14 = .ok (.getfield 9, 3) := by decide +kernel
theorem dX4_readToken_17 : decode cX4_readToken 17 = .ok (.aload_n 0, 1) := by decide +kernel
theorem dX4_readToken_18 : decode cX4_readToken 18 = .ok (.getfield 27, 3) := by decide +kernel
theorem dX4_readToken_21 : decode cX4_readToken 21 = .ok (.invokevirtual 138, 3) := by decide +kernel
theorem dX4_readToken_24 : decode cX4_readToken 24 = .ok (.invokestatic 175, 3) := by decide +kernel
theorem dX4_readToken_27 : decode cX4_readToken 27 = .ok (.putfield 124, 3) := by decide +kernel
theorem dX4_readToken_30 : decode cX4_readToken 30 = .ok (.aload_n 0, 1) := by decide +kernel
theorem dX4_readToken_31 : decode cX4_readToken 31 = .ok (.getfield 27, 3) := by decide +kernel
theorem dX4_readToken_34 : decode cX4_readToken 34 = .ok (.aload_n 0, 1) := by decide +kernel
theorem dX4_readToken_35 : decode cX4_readToken 35 = .ok (.getfield 9, 3) := by decide +kernel
theorem dX4_readToken_38 : decode cX4_readToken 38 = .ok (.getfield 46, 3) := by decide +kernel
theorem dX4_readToken_41 : decode cX4_readToken 41 = .ok (.if_icmp .ge 13, 3) := by decide +kernel
theorem dX4_readToken_44 : decode cX4_readToken 44 = .ok (.aload_n 0, 1) := by decide +kernel
theorem dX4_readToken_45 : decode cX4_readToken 45 = .ok (.dup, 1) := by decide +kernel
theorem dX4_readToken_46 : decode cX4_readToken 46 = .ok (.getfield 27, 3) := by decide +kernel
theorem dX4_readToken_49 : decode cX4_readToken 49 = .ok (.iconst 1, 1) := by decide +kernel
theorem dX4_readToken_50 : decode cX4_readToken 50 = .ok (.iadd, 1) := by decide +kernel
theorem dX4_readToken_51 : decode cX4_readToken 51 = .ok (.putfield 27, 3) := by decide +kernel
theorem dX4_readToken_54 : decode cX4_readToken 54 = .ok (.aload_n 0, 1) := by decide +kernel
theorem dX4_readToken_55 : decode cX4_readToken 55 = .ok (.getfield 124, 3) := by decide +kernel
theorem dX4_readToken_58 : decode cX4_readToken 58 = .ok (.ifCond .ne 4, 3) := by decide +kernel
theorem dX4_readToken_61 : decode cX4_readToken 61 = .ok (.return_, 1) := by decide +kernel
theorem dX4_readToken_62 : decode cX4_readToken 62 = .ok (.aload_n 0, 1) := by decide +kernel
theorem dX4_readToken_63 : decode cX4_readToken 63 = .ok (.getfield 27, 3) := by decide +kernel
theorem dX4_readToken_66 : decode cX4_readToken 66 = .ok (.istore_n 1, 1) := by decide +kernel
theorem dX4_readToken_67 : decode cX4_readToken 67 = .ok (.iload_n 1, 1) := by decide +kernel
theorem dX4_readToken_68 : decode cX4_readToken 68 = .ok (.aload_n 0, 1) := by decide +kernel
theorem dX4_readToken_69 : decode cX4_readToken 69 = .ok (.getfield 9, 3) := by decide +kernel
theorem dX4_readToken_72 : decode cX4_readToken 72 = .ok (.getfield 46, 3) := by decide +kernel
theorem dX4_readToken_75 : decode cX4_readToken 75 = .ok (.if_icmp .ge 34, 3) := by decide +kernel
theorem dX4_readToken_78 : decode cX4_readToken 78 = .ok (.aload_n 0, 1) := by decide +kernel
theorem dX4_readToken_79 : decode cX4_readToken 79 = .ok (.getfield 9, 3) := by decide +kernel
theorem dX4_readToken_82 : decode cX4_readToken 82 = .ok (.iload_n 1, 1) := by decide +kernel
theorem dX4_readToken_83 : decode cX4_readToken 83 = .ok (.invokevirtual 138, 3) := by decide +kernel
theorem dX4_readToken_86 : decode cX4_readToken 86 = .ok (.invokestatic 175, 3) := by decide +kernel
theorem dX4_readToken_89 : decode cX4_readToken 89 = .ok (.aload_n 0, 1) := by decide +kernel
theorem dX4_readToken_90 : decode cX4_readToken 90 = .ok (.getfield 124, 3) := by decide +kernel
theorem dX4_readToken_93 : decode cX4_readToken 93 = .ok (.if_icmp .ne 16, 3) := by decide +kernel
theorem dX4_readToken_96 : decode cX4_readToken 96 = .ok (.aload_n 0, 1) := by decide +kernel
theorem dX4_readToken_97 : decode cX4_readToken 97 = .ok (.iload_n 1, 1) := by decide +kernel
theorem dX4_readToken_98 : decode cX4_readToken 98 = .ok (.iconst 1, 1) := by decide +kernel
theorem dX4_readToken_99 : decode cX4_readToken 99 = .ok (.iadd, 1) := by decide +kernel
theorem dX4_readToken_100 : decode cX4_readToken 100 = .ok (.putfield 27, 3) := by decide +kernel
theorem dX4_readToken_103 : decode cX4_readToken 103 = .ok (.iinc 1 1, 3) := by decide +kernel
theorem dX4_readToken_106 : decode cX4_readToken 106 = .ok (.goto (-39), 3) := by decide +kernel
theorem dX4_readToken_109 : decode cX4_readToken 109 = .ok (.return_, 1) := by decide +kernel
theorem dX4_sortOf_0 : decode cX4_sortOf 0 = .ok (.iload_n 0, 1) := by decide +kernel
theorem dX4_sortOf_1 : decode cX4_sortOf 1 = .ok (.invokestatic 178, 3) := by decide +kernel
theorem dX4_sortOf_4 : decode cX4_sortOf 4 = .ok (.ifCond .eq 5, 3) := by decide +kernel
theorem dX4_sortOf_7 : decode cX4_sortOf 7 = .ok (.iconst 1, 1) := by decide +kernel
theorem dX4_sortOf_8 : decode cX4_sortOf 8 = .ok (.ireturn, 1) := by decide +kernel
theorem dX4_sortOf_9 : decode cX4_sortOf 9 = .ok (.iload_n 0, 1) := by decide +kernel
theorem dX4_sortOf_10 : decode cX4_sortOf 10 = .ok (.invokestatic 181, 3) := by decide +kernel
theorem dX4_sortOf_13 : decode cX4_sortOf 13 = .ok (.ifCond .eq 5, 3) := by decide +kernel
theorem dX4_sortOf_16 : decode cX4_sortOf 16 = .ok (.iconst 2, 1) := by decide +kernel
theorem dX4_sortOf_17 : decode cX4_sortOf 17 = .ok (.ireturn, 1) := by decide +kernel
theorem dX4_sortOf_18 : decode cX4_sortOf 18 = .ok (.iconst 0, 1) := by decide +kernel
theorem dX4_sortOf_19 : decode cX4_sortOf 19 = .ok (.ireturn, 1) := by decide +kernel
theorem dX4_isToken_0 : decode cX4_isToken 0 = .ok (.aload_n 0, 1) := by decide +kernel
theorem dX4_isToken_1 : decode cX4_isToken 1 = .ok (.getfield 27, 3) := by decide +kernel
theorem dX4_isToken_4 : decode cX4_isToken 4 = .ok (.aload_n 0, 1) := by decide +kernel
theorem dX4_isToken_5 : decode cX4_isToken 5 = .ok (.getfield 43, 3) := by decide +kernel
theorem dX4_isToken_8 : decode cX4_isToken 8 = .ok (.isub, 1) := by decide +kernel
theorem dX4_isToken_9 : decode cX4_isToken 9 = .ok (.aload_n 1, 1) := by decide +kernel
theorem dX4_isToken_10 : decode cX4_isToken 10 = .ok (.invokevirtual 184, 3) := by decide +kernel
theorem dX4_isToken_13 : decode cX4_isToken 13 = .ok (.if_icmp .eq 5, 3) := by decide +kernel
theorem dX4_isToken_16 : decode cX4_isToken 16 = .ok (.iconst 0, 1) := by decide +kernel
theorem dX4_isToken_17 : decode cX4_isToken 17 = .ok (.ireturn, 1) := by decide +kernel
theorem dX4_isToken_18 : decode cX4_isToken 18 = .ok (.iconst 0, 1) := by decide +kernel
theorem dX4_isToken_19 : decode cX4_isToken 19 = .ok (.istore_n 2, 1) := by decide +kernel
theorem dX4_isToken_20 : decode cX4_isToken 20 = .ok (.iload_n 2, 1) := by decide +kernel
theorem dX4_isToken_21 : decode cX4_isToken 21 = .ok (.aload_n 1, 1) := by decide +kernel
theorem dX4_isToken_22 : decode cX4_isToken 22 = .ok (.invokevirtual 184, 3) := by decide +kernel
theorem dX4_isToken_25 : decode cX4_isToken 25 = .ok (.if_icmp .ge 32, 3) := by decide +kernel
theorem dX4_isToken_28 : decode cX4_isToken 28 = .ok (.aload_n 0, 1) := by decide +kernel
theorem dX4_isToken_29 : decode cX4_isToken 29 = .ok (.getfield 9, 3) := by decide +kernel
theorem dX4_isToken_32 : decode cX4_isToken 32 = .ok (.aload_n 0, 1) := by decide +kernel
theorem dX4_isToken_33 : decode cX4_isToken 33 = .ok (.getfield 43, 3) := by decide +kernel
theorem dX4_isToken_36 : decode cX4_isToken 36 = .ok (.iload_n 2, 1) := by decide +kernel
theorem dX4_isToken_37 : decode cX4_isToken 37 = .ok (.iadd, 1) := by decide +kernel
theorem dX4_isToken_38 : decode cX4_isToken 38 = .ok (.invokevirtual 138, 3) := by decide +kernel
theorem dX4_isToken_41 : decode cX4_isToken 41 = .ok (.aload_n 1, 1) := by decide +kernel
theorem dX4_isToken_42 : decode cX4_isToken 42 = .ok (.iload_n 2, 1) := by decide +kernel
theorem dX4_isToken_43 : decode cX4_isToken 43 = .ok (.invokevirtual 189, 3) := by decide +kernel
theorem dX4_isToken_46 : decode cX4_isToken 46 = .ok (.if_icmp .eq 5, 3) := by decide +kernel
theorem dX4_isToken_49 : decode cX4_isToken 49 = .ok (.iconst 0, 1) := by decide +kernel
theorem dX4_isToken_50 : decode cX4_isToken 50 = .ok (.ireturn, 1) := by decide +kernel
theorem dX4_isToken_51 : decode cX4_isToken 51 = .ok (.iinc 2 1, 3) := by decide +kernel
theorem dX4_isToken_54 : decode cX4_isToken 54 = .ok (.goto (-34), 3) := by decide +kernel
theorem dX4_isToken_57 : decode cX4_isToken 57 = .ok (.iconst 1, 1) := by decide +kernel
theorem dX4_isToken_58 : decode cX4_isToken 58 = .ok (.ireturn, 1) := by decide +kernel
theorem dX4_refuse_0 : decode cX4_refuse 0 = .ok (.aload_n 0, 1) := by decide +kernel
theorem dX4_refuse_1 : decode cX4_refuse 1 = .ok (.getfield 19, 3) := by decide +kernel
theorem dX4_refuse_4 : decode cX4_refuse 4 = .ok (.iload_n 1, 1) := by decide +kernel
theorem dX4_refuse_5 : decode cX4_refuse 5 = .ok (.aload_n 0, 1) := by decide +kernel
theorem dX4_refuse_6 : decode cX4_refuse 6 = .ok (.getfield 43, 3) := by decide +kernel
theorem dX4_refuse_9 : decode cX4_refuse 9 = .ok (.invokevirtual 193, 3) := by decide +kernel
theorem dX4_refuse_12 : decode cX4_refuse 12 = .ok (.ireturn, 1) := by decide +kernel
theorem dX5_init_0 : decode cX5_init 0 = .ok (.aload_n 0, 1) := by decide +kernel
theorem dX5_init_1 : decode cX5_init 1 = .ok (.invokespecial 3, 3) := by decide +kernel
theorem dX5_init_4 : decode cX5_init 4 = .ok (.aload_n 0, 1) := by decide +kernel
theorem dX5_init_5 : decode cX5_init 5 = .ok (.bipush 40, 2) := by decide +kernel
theorem dX5_init_7 : decode cX5_init 7 = .ok (.anewarray 9, 3) := by decide +kernel
theorem dX5_init_10 : decode cX5_init 10 = .ok (.putfield 11, 3) := by decide +kernel
theorem dX5_init_13 : decode cX5_init 13 = .ok (.aload_n 0, 1) := by decide +kernel
theorem dX5_init_14 : decode cX5_init 14 = .ok (.iconst 3, 1) := by decide +kernel
theorem dX5_init_15 : decode cX5_init 15 = .ok (.newarray .int, 2) := by decide +kernel
theorem dX5_init_17 : decode cX5_init 17 = .ok (.putfield 17, 3) := by decide +kernel
theorem dX5_init_20 : decode cX5_init 20 = .ok (.aload_n 0, 1) := by decide +kernel
theorem dX5_init_21 : decode cX5_init 21 = .ok (.bipush 40, 2) := by decide +kernel
theorem dX5_init_23 : decode cX5_init 23 = .ok (.newarray .int, 2) := by decide +kernel
theorem dX5_init_25 : decode cX5_init 25 = .ok (.putfield 21, 3) := by decide +kernel
theorem dX5_init_28 : decode cX5_init 28 = .ok (.iconst 0, 1) := by decide +kernel
theorem dX5_init_29 : decode cX5_init 29 = .ok (.istore_n 1, 1) := by decide +kernel
theorem dX5_init_30 : decode cX5_init 30 = .ok (.iload_n 1, 1) := by decide +kernel
theorem dX5_init_31 : decode cX5_init 31 = .ok (.bipush 40, 2) := by decide +kernel
theorem dX5_init_33 : decode cX5_init 33 = .ok (.if_icmp .ge 22, 3) := by decide +kernel
theorem dX5_init_36 : decode cX5_init 36 = .ok (.aload_n 0, 1) := by decide +kernel
theorem dX5_init_37 : decode cX5_init 37 = .ok (.getfield 11, 3) := by decide +kernel
theorem dX5_init_40 : decode cX5_init 40 = .ok (.iload_n 1, 1) := by decide +kernel
theorem dX5_init_41 : decode cX5_init 41 = .ok (.new 9, 3) := by decide +kernel
theorem dX5_init_44 : decode cX5_init 44 = .ok (.dup, 1) := by decide +kernel
theorem dX5_init_45 : decode cX5_init 45 = .ok (.invokespecial 24, 3) := by decide +kernel
theorem dX5_init_48 : decode cX5_init 48 = .ok (.aastore, 1) := by decide +kernel
theorem dX5_init_49 : decode cX5_init 49 = .ok (.iinc 1 1, 3) := by decide +kernel
theorem dX5_init_52 : decode cX5_init 52 = .ok (.goto (-22), 3) := by decide +kernel
theorem dX5_init_55 : decode cX5_init 55 = .ok (.iconst 0, 1) := by decide +kernel
theorem dX5_init_56 : decode cX5_init 56 = .ok (.istore_n 1, 1) := by decide +kernel
theorem dX5_init_57 : decode cX5_init 57 = .ok (.iload_n 1, 1) := by decide +kernel
theorem dX5_init_58 : decode cX5_init 58 = .ok (.iconst 3, 1) := by decide +kernel
theorem dX5_init_59 : decode cX5_init 59 = .ok (.if_icmp .ge 16, 3) := by decide +kernel
theorem dX5_init_62 : decode cX5_init 62 = .ok (.aload_n 0, 1) := by decide +kernel
theorem dX5_init_63 : decode cX5_init 63 = .ok (.getfield 17, 3) := by decide +kernel
theorem dX5_init_66 : decode cX5_init 66 = .ok (.iload_n 1, 1) := by decide +kernel
theorem dX5_init_67 : decode cX5_init 67 = .ok (.iload_n 1, 1) := by decide +kernel
theorem dX5_init_68 : decode cX5_init 68 = .ok (.iastore, 1) := by decide +kernel
theorem dX5_init_69 : decode cX5_init 69 = .ok (.iinc 1 1, 3) := by decide +kernel
theorem dX5_init_72 : decode cX5_init 72 = .ok (.goto (-15), 3) := by decide +kernel
theorem dX5_init_75 : decode cX5_init 75 = .ok (.return_, 1) := by decide +kernel
theorem dX5_clear_0 : decode cX5_clear 0 = .ok (.aload_n 0, 1) := by decide +kernel
theorem dX5_clear_1 : decode cX5_clear 1 = .ok (.iconst 0, 1) := by decide +kernel
theorem dX5_clear_2 : decode cX5_clear 2 = .ok (.putfield 25, 3) := by decide +kernel
theorem dX5_clear_5 : decode cX5_clear 5 = .ok (.aload_n 0, 1) := by decide +kernel
theorem dX5_clear_6 : decode cX5_clear 6 = .ok (.iconst 0, 1) := by decide +kernel
theorem dX5_clear_7 : decode cX5_clear 7 = .ok (.putfield 29, 3) := by decide +kernel
theorem dX5_clear_10 : decode cX5_clear 10 = .ok (.aload_n 0, 1) := by decide +kernel
theorem dX5_clear_11 : decode cX5_clear 11 = .ok (.iconst 0, 1) := by decide +kernel
theorem dX5_clear_12 : decode cX5_clear 12 = .ok (.putfield 32, 3) := by decide +kernel
theorem dX5_clear_15 : decode cX5_clear 15 = .ok (.return_, 1) := by decide +kernel
theorem dX5_rankOf_0 : decode cX5_rankOf 0 = .ok (.iload_n 1, 1) := by decide +kernel
theorem dX5_rankOf_1 : decode cX5_rankOf 1 = .ok (.ifCond .lt 12, 3) := by decide +kernel
theorem dX5_rankOf_4 : decode cX5_rankOf 4 = .ok (.iload_n 1, 1) := by decide +kernel
theorem dX5_rankOf_5 : decode cX5_rankOf 5 = .ok (.aload_n 0, 1) := by decide +kernel
theorem dX5_rankOf_6 : decode cX5_rankOf 6 = .ok (.getfield 17, 3) := by decide +kernel
theorem dX5_rankOf_9 : decode cX5_rankOf 9 = .ok (.arraylength, 1) := by decide +kernel
theorem dX5_rankOf_10 : decode cX5_rankOf 10 = .ok (.if_icmp .lt 7, 3) := by decide +kernel
theorem dX5_rankOf_13 : decode cX5_rankOf 13 = .ok (.iconst (-1), 1) := by decide +kernel
theorem dX5_rankOf_14 : decode cX5_rankOf 14 = .ok (.goto 9, 3) := by decide +kernel
theorem dX5_rankOf_17 : decode cX5_rankOf 17 = .ok (.aload_n 0, 1) := by decide +kernel
theorem dX5_rankOf_18 : decode cX5_rankOf 18 = .ok (.getfield 17, 3) := by decide +kernel
theorem dX5_rankOf_21 : decode cX5_rankOf 21 = .ok (.iload_n 1, 1) := by decide +kernel
theorem dX5_rankOf_22 : decode cX5_rankOf 22 = .ok (.iaload, 1) := by decide +kernel
theorem dX5_rankOf_23 : decode cX5_rankOf 23 = .ok (.ireturn, 1) := by decide +kernel
theorem dX5_markAt_0 : decode cX5_markAt 0 = .ok (.iload_n 1, 1) := by decide +kernel
theorem dX5_markAt_1 : decode cX5_markAt 1 = .ok (.ifCond .lt 12, 3) := by decide +kernel
theorem dX5_markAt_4 : decode cX5_markAt 4 = .ok (.iload_n 1, 1) := by decide +kernel
theorem dX5_markAt_5 : decode cX5_markAt 5 = .ok (.aload_n 0, 1) := by decide +kernel
theorem dX5_markAt_6 : decode cX5_markAt 6 = .ok (.getfield 11, 3) := by decide +kernel
theorem dX5_markAt_9 : decode cX5_markAt 9 = .ok (.arraylength, 1) := by decide +kernel
theorem dX5_markAt_10 : decode cX5_markAt 10 = .ok (.if_icmp .lt 7, 3) := by decide +kernel
theorem dX5_markAt_13 : decode cX5_markAt 13 = .ok (.aconst_null, 1) := by decide +kernel
theorem dX5_markAt_14 : decode cX5_markAt 14 = .ok (.goto 9, 3) := by decide +kernel
theorem dX5_markAt_17 : decode cX5_markAt 17 = .ok (.aload_n 0, 1) := by decide +kernel
theorem dX5_markAt_18 : decode cX5_markAt 18 = .ok (.getfield 11, 3) := by decide +kernel
theorem dX5_markAt_21 : decode cX5_markAt 21 = .ok (.iload_n 1, 1) := by decide +kernel
theorem dX5_markAt_22 : decode cX5_markAt 22 = .ok (.aaload, 1) := by decide +kernel
theorem dX5_markAt_23 : decode cX5_markAt 23 = .ok (.areturn, 1) := by decide +kernel
theorem dX5_find_0 : decode cX5_find 0 = .ok (.iload_n 1, 1) := by decide +kernel
theorem dX5_find_1 : decode cX5_find 1 = .ok (.aload_n 0, 1) := by decide +kernel
theorem dX5_find_2 : decode cX5_find 2 = .ok (.getfield 25, 3) := by decide +kernel
theorem dX5_find_5 : decode cX5_find 5 = .ok (.if_icmp .lt 7, 3) := by decide +kernel
theorem dX5_find_8 : decode cX5_find 8 = .ok (.aconst_null, 1) := by decide +kernel
theorem dX5_find_9 : decode cX5_find 9 = .ok (.goto 8, 3) := by decide +kernel
theorem dX5_find_12 : decode cX5_find 12 = .ok (.aload_n 0, 1) := by decide +kernel
theorem dX5_find_13 : decode cX5_find 13 = .ok (.iload_n 1, 1) := by decide +kernel
theorem dX5_find_14 : decode cX5_find 14 = .ok (.invokevirtual 35, 3) := by decide +kernel
theorem dX5_find_17 : decode cX5_find 17 = .ok (.areturn, 1) := by decide +kernel
theorem dX5_findNoStet_0 : decode cX5_findNoStet 0 = .ok (.aload_n 0, 1) := by decide +kernel
theorem dX5_findNoStet_1 : decode cX5_findNoStet 1 = .ok (.iload_n 1, 1) := by decide +kernel
theorem dX5_findNoStet_2 : decode cX5_findNoStet 2 = .ok (.invokevirtual 39, 3) := by decide +kernel
theorem dX5_findNoStet_5 : decode cX5_findNoStet 5 = .ok (.astore_n 2, 1) := by decide +kernel
theorem dX5_findNoStet_6 : decode cX5_findNoStet 6 = .ok (.aload_n 2, 1) := by decide +kernel
theorem dX5_findNoStet_7 : decode cX5_findNoStet 7 = .ok (.ifnull 11, 3) := by decide +kernel
theorem dX5_findNoStet_10 : decode cX5_findNoStet 10 = .ok (.aload_n 2, 1) := by decide +kernel
theorem dX5_findNoStet_11 : decode cX5_findNoStet 11 = .ok (.getfield 42, 3) := by decide +kernel
theorem dX5_findNoStet_14 : decode cX5_findNoStet 14 = .ok (.iconst 5, 1) := by decide +kernel
theorem dX5_findNoStet_15 : decode cX5_findNoStet 15 = .ok (.if_icmp .ne 7, 3) := by decide +kernel
theorem dX5_findNoStet_18 : decode cX5_findNoStet 18 = .ok (.aconst_null, 1) := by decide +kernel
theorem dX5_findNoStet_19 : decode cX5_findNoStet 19 = .ok (.goto 4, 3) := by decide +kernel
theorem dX5_findNoStet_22 : decode cX5_findNoStet 22 = .ok (.aload_n 2, 1) := by decide +kernel
theorem dX5_findNoStet_23 : decode cX5_findNoStet 23 = .ok (.areturn, 1) := by decide +kernel
theorem dX5_blank_0 : decode cX5_blank 0 = .ok (.aload_n 0, 1) := by decide +kernel
theorem dX5_blank_1 : decode cX5_blank 1 = .ok (.aload_n 0, 1) := by decide +kernel
theorem dX5_blank_2 : decode cX5_blank 2 = .ok (.getfield 25, 3) := by decide +kernel
theorem dX5_blank_5 : decode cX5_blank 5 = .ok (.aload_n 0, 1) := by decide +kernel
theorem dX5_blank_6 : decode cX5_blank 6 = .ok (.getfield 29, 3) := by decide +kernel
theorem dX5_blank_9 : decode cX5_blank 9 = .ok (.iadd, 1) := by decide +kernel
theorem dX5_blank_10 : decode cX5_blank 10 = .ok (.invokevirtual 35, 3) := by decide +kernel
theorem dX5_blank_13 : decode cX5_blank 13 = .ok (.astore_n 1, 1) := by decide +kernel
theorem dX5_blank_14 : decode cX5_blank 14 = .ok (.aload_n 1, 1) := by decide +kernel
theorem dX5_blank_15 : decode cX5_blank 15 = .ok (.ifnull 7, 3) := by decide +kernel
theorem dX5_blank_18 : decode cX5_blank 18 = .ok (.aload_n 1, 1) := by decide +kernel
theorem dX5_blank_19 : decode cX5_blank 19 = .ok (.invokevirtual 45, 3) := by decide +kernel
theorem dX5_blank_22 : decode cX5_blank 22 = .ok (.aload_n 1, 1) := by decide +kernel
theorem dX5_blank_23 : decode cX5_blank 23 = .ok (.areturn, 1) := by decide +kernel
theorem dX5_canBeStet_0 : decode cX5_canBeStet 0 = .ok (.iload_n 1, 1) := by decide +kernel
theorem dX5_canBeStet_1 : decode cX5_canBeStet 1 = .ok (.aload_n 0, 1) := by decide +kernel
theorem dX5_canBeStet_2 : decode cX5_canBeStet 2 = .ok (.getfield 25, 3) := by decide +kernel
theorem dX5_canBeStet_5 : decode cX5_canBeStet 5 = .ok (.aload_n 0, 1) := by decide +kernel
theorem dX5_canBeStet_6 : decode cX5_canBeStet 6 = .ok (.getfield 29, 3) := by decide +kernel
theorem dX5_canBeStet_9 : decode cX5_canBeStet 9 = .ok (.iadd, 1) := by decide +kernel
theorem dX5_canBeStet_10 : decode cX5_canBeStet 10 = .ok (.if_icmp .lt 7, 3) := by decide +kernel
theorem dX5_canBeStet_13 : decode cX5_canBeStet 13 = .ok (.aconst_null, 1) := by decide +kernel
theorem dX5_canBeStet_14 : decode cX5_canBeStet 14 = .ok (.goto 8, 3) := by decide +kernel
theorem dX5_canBeStet_17 : decode cX5_canBeStet 17 = .ok (.aload_n 0, 1) := by decide +kernel
theorem dX5_canBeStet_18 : decode cX5_canBeStet 18 = .ok (.iload_n 1, 1) := by decide +kernel
theorem dX5_canBeStet_19 : decode cX5_canBeStet 19 = .ok (.invokevirtual 35, 3) := by decide +kernel
theorem dX5_canBeStet_22 : decode cX5_canBeStet 22 = .ok (.astore_n 2, 1) := by decide +kernel
theorem dX5_canBeStet_23 : decode cX5_canBeStet 23 = .ok (.aload_n 2, 1) := by decide +kernel
theorem dX5_canBeStet_24 : decode cX5_canBeStet 24 = .ok (.ifnull 15, 3) := by decide +kernel
theorem dX5_canBeStet_27 : decode cX5_canBeStet 27 = .ok (.aload_n 2, 1) := by decide +kernel
theorem dX5_canBeStet_28 : decode cX5_canBeStet 28 = .ok (.getfield 42, 3) := by decide +kernel
theorem dX5_canBeStet_31 : decode cX5_canBeStet 31 = .ok (.iconst 5, 1) := by decide +kernel
theorem dX5_canBeStet_32 : decode cX5_canBeStet 32 = .ok (.if_icmp .eq 7, 3) := by decide +kernel
theorem dX5_canBeStet_35 : decode cX5_canBeStet 35 = .ok (.iconst 1, 1) := by decide +kernel
theorem dX5_canBeStet_36 : decode cX5_canBeStet 36 = .ok (.goto 4, 3) := by decide +kernel
theorem dX5_canBeStet_39 : decode cX5_canBeStet 39 = .ok (.iconst 0, 1) := by decide +kernel
theorem dX5_canBeStet_40 : decode cX5_canBeStet 40 = .ok (.ireturn, 1) := by decide +kernel
theorem dX5_accept_0 : decode cX5_accept 0 = .ok (.aload_n 0, 1) := by decide +kernel
theorem dX5_accept_1 : decode cX5_accept 1 = .ok (.getfield 29, 3) := by decide +kernel
theorem dX5_accept_4 : decode cX5_accept 4 = .ok (.istore_n 1, 1) := by decide +kernel
theorem dX5_accept_5 : decode cX5_accept 5 = .ok (.aload_n 0, 1) := by decide +kernel
theorem dX5_accept_6 : decode cX5_accept 6 = .ok (.dup, 1) := by decide +kernel
theorem dX5_accept_7 : decode cX5_accept 7 = .ok (.getfield 25, 3) := by decide +kernel
theorem dX5_accept_10 : decode cX5_accept 10 = .ok (.aload_n 0, 1) := by decide +kernel
theorem dX5_accept_11 : decode cX5_accept 11 = .ok (.getfield 29, 3) := by decide +kernel
theorem dX5_accept_14 : decode cX5_accept 14 = .ok (.iadd, 1) := by decide +kernel
theorem dX5_accept_15 : decode cX5_accept 15 = .ok (.putfield 25, 3) := by decide +kernel
theorem dX5_accept_18 : decode cX5_accept 18 = .ok (.aload_n 0, 1) := by decide +kernel
theorem dX5_accept_19 : decode cX5_accept 19 = .ok (.iconst 0, 1) := by decide +kernel
theorem dX5_accept_20 : decode cX5_accept 20 = .ok (.putfield 29, 3) := by decide +kernel
theorem dX5_accept_23 : decode cX5_accept 23 = .ok (.aload_n 0, 1) := by decide +kernel
theorem dX5_accept_24 : decode cX5_accept 24 = .ok (.getfield 25, 3) := by decide +kernel
theorem dX5_accept_27 : decode cX5_accept 27 = .ok (.iload_n 1, 1) := by decide +kernel
theorem dX5_accept_28 : decode cX5_accept 28 = .ok (.isub, 1) := by decide +kernel
theorem dX5_accept_29 : decode cX5_accept 29 = .ok (.istore_n 2, 1) := by decide +kernel
theorem dX5_accept_30 : decode cX5_accept 30 = .ok (.iload_n 2, 1) := by decide +kernel
theorem dX5_accept_31 : decode cX5_accept 31 = .ok (.aload_n 0, 1) := by decide +kernel
theorem dX5_accept_32 : decode cX5_accept 32 = .ok (.getfield 25, 3) := by decide +kernel
theorem dX5_accept_35 : decode cX5_accept 35 = .ok (.if_icmp .ge 52, 3) := by decide +kernel
theorem dX5_accept_38 : decode cX5_accept 38 = .ok (.aload_n 0, 1) := by decide +kernel
theorem dX5_accept_39 : decode cX5_accept 39 = .ok (.iload_n 2, 1) := by decide +kernel
theorem dX5_accept_40 : decode cX5_accept 40 = .ok (.invokevirtual 39, 3) := by decide +kernel
theorem dX5_accept_43 : decode cX5_accept 43 = .ok (.astore_n 3, 1) := by decide +kernel
theorem dX5_accept_44 : decode cX5_accept 44 = .ok (.aload_n 3, 1) := by decide +kernel
theorem dX5_accept_45 : decode cX5_accept 45 = .ok (.ifnull 36, 3) := by decide +kernel
theorem dX5_accept_48 : decode cX5_accept 48 = .ok (.aload_n 3, 1) := by decide +kernel
theorem dX5_accept_49 : decode cX5_accept 49 = .ok (.getfield 42, 3) := by decide +kernel
theorem dX5_accept_52 : decode cX5_accept 52 = .ok (.iconst 5, 1) := by decide +kernel
theorem dX5_accept_53 : decode cX5_accept 53 = .ok (.if_icmp .eq 6, 3) := by decide +kernel
theorem dX5_accept_56 : decode cX5_accept 56 = .ok (.goto 25, 3) := by decide +kernel
theorem dX5_accept_59 : decode cX5_accept 59 = .ok (.aload_n 0, 1) := by decide +kernel
theorem dX5_accept_60 : decode cX5_accept 60 = .ok (.aload_n 3, 1) := by decide +kernel
theorem dX5_accept_61 : decode cX5_accept 61 = .ok (.iconst 0, 1) := by decide +kernel
theorem dX5_accept_62 : decode cX5_accept 62 = .ok (.invokevirtual 48, 3) := by decide +kernel
theorem dX5_accept_65 : decode cX5_accept 65 = .ok (.invokevirtual 39, 3) := by decide +kernel
theorem dX5_accept_68 : decode cX5_accept 68 = .ok (.astore 4, 2) := by decide +kernel
theorem dX5_accept_70 : decode cX5_accept 70 = .ok (.aload 4, 2) := by decide +kernel
theorem dX5_accept_72 : decode cX5_accept 72 = .ok (.ifnull 9, 3) := by decide +kernel
theorem dX5_accept_75 : decode cX5_accept 75 = .ok (.aload 4, 2) := by decide +kernel
theorem dX5_accept_77 : decode cX5_accept 77 = .ok (.iload_n 2, 1) := by decide +kernel
theorem dX5_accept_78 : decode cX5_accept 78 = .ok (.invokevirtual 52, 3) := by decide +kernel
theorem dX5_accept_81 : decode cX5_accept 81 = .ok (.iinc 2 1, 3) := by decide +kernel
theorem dX5_accept_84 : decode cX5_accept 84 = .ok (.goto (-54), 3) := by decide +kernel
theorem dX5_accept_87 : decode cX5_accept 87 = .ok (.iload_n 1, 1) := by decide +kernel
theorem dX5_accept_88 : decode cX5_accept 88 = .ok (.ireturn, 1) := by decide +kernel
theorem dX5_decide_0 : decode cX5_decide 0 = .ok (.iconst 0, 1) := by decide +kernel
theorem dX5_decide_1 : decode cX5_decide 1 = .ok (.istore_n 1, 1) := by decide +kernel
theorem dX5_decide_2 : decode cX5_decide 2 = .ok (.iload_n 1, 1) := by decide +kernel
theorem dX5_decide_3 : decode cX5_decide 3 = .ok (.aload_n 0, 1) := by decide +kernel
theorem dX5_decide_4 : decode cX5_decide 4 = .ok (.getfield 25, 3) := by decide +kernel
theorem dX5_decide_7 : decode cX5_decide 7 = .ok (.if_icmp .ge 32, 3) := by decide +kernel
theorem dX5_decide_10 : decode cX5_decide 10 = .ok (.aload_n 0, 1) := by decide +kernel
theorem dX5_decide_11 : decode cX5_decide 11 = .ok (.iload_n 1, 1) := by decide +kernel
theorem dX5_decide_12 : decode cX5_decide 12 = .ok (.invokevirtual 39, 3) := by decide +kernel
theorem dX5_decide_15 : decode cX5_decide 15 = .ok (.astore_n 2, 1) := by decide +kernel
theorem dX5_decide_16 : decode cX5_decide 16 = .ok (.aload_n 2, 1) := by decide +kernel
theorem dX5_decide_17 : decode cX5_decide 17 = .ok (.ifnull 16, 3) := by decide +kernel
theorem dX5_decide_20 : decode cX5_decide 20 = .ok (.aload_n 2, 1) := by decide +kernel
theorem dX5_decide_21 : decode cX5_decide 21 = .ok (.iconst (-1), 1) := by decide +kernel
theorem dX5_decide_22 : decode cX5_decide 22 = .ok (.putfield 56, 3) := by decide +kernel
theorem dX5_decide_25 : decode cX5_decide 25 = .ok (.aload_n 2, 1) := by decide +kernel
theorem dX5_decide_26 : decode cX5_decide 26 = .ok (.aload_n 2, 1) := by decide +kernel
theorem dX5_decide_27 : decode cX5_decide 27 = .ok (.invokevirtual 59, 3) := by decide +kernel
theorem dX5_decide_30 : decode cX5_decide 30 = .ok (.putfield 63, 3) := by decide +kernel
theorem dX5_decide_33 : decode cX5_decide 33 = .ok (.iinc 1 1, 3) := by decide +kernel
theorem dX5_decide_36 : decode cX5_decide 36 = .ok (.goto (-34), 3) := by decide +kernel
theorem dX5_decide_39 : decode cX5_decide 39 = .ok (.iconst 0, 1) := by decide +kernel
theorem dX5_decide_40 : decode cX5_decide 40 = .ok (.istore_n 1, 1) := by decide +kernel
theorem dX5_decide_41 : decode cX5_decide 41 = .ok (.iload_n 1, 1) := by decide +kernel
theorem dX5_decide_42 : decode cX5_decide 42 = .ok (.bipush 9, 2) := by decide +kernel
theorem dX5_decide_44 : decode cX5_decide 44 = .ok (.if_icmp .gt 80, 3) := by decide +kernel
theorem dX5_decide_47 : decode cX5_decide 47 = .ok (.iconst 0, 1) := by decide +kernel
theorem dX5_decide_48 : decode cX5_decide 48 = .ok (.istore_n 2, 1) := by decide +kernel
theorem dX5_decide_49 : decode cX5_decide 49 = .ok (.iload_n 2, 1) := by decide +kernel
theorem dX5_decide_50 : decode cX5_decide 50 = .ok (.aload_n 0, 1) := by decide +kernel
theorem dX5_decide_51 : decode cX5_decide 51 = .ok (.getfield 25, 3) := by decide +kernel
theorem dX5_decide_54 : decode cX5_decide 54 = .ok (.if_icmp .ge 64, 3) := by decide +kernel
theorem dX5_decide_57 : decode cX5_decide 57 = .ok (.aload_n 0, 1) := by decide +kernel
theorem dX5_decide_58 : decode cX5_decide 58 = .ok (.iload_n 2, 1) := by decide +kernel
theorem dX5_decide_59 : decode cX5_decide 59 = .ok (.invokevirtual 39, 3) := by decide +kernel
theorem dX5_decide_62 : decode cX5_decide 62 = .ok (.astore_n 3, 1) := by decide +kernel
theorem dX5_decide_63 : decode cX5_decide 63 = .ok (.aload_n 3, 1) := by decide +kernel
theorem dX5_decide_64 : decode cX5_decide 64 = .ok (.ifnull 48, 3) := by decide +kernel
theorem dX5_decide_67 : decode cX5_decide 67 = .ok (.aload_n 3, 1) := by decide +kernel
theorem dX5_decide_68 : decode cX5_decide 68 = .ok (.invokevirtual 66, 3) := by decide +kernel
theorem dX5_decide_71 : decode cX5_decide 71 = .ok (.ifCond .eq 41, 3) := by decide +kernel
theorem dX5_decide_74 : decode cX5_decide 74 = .ok (.aload_n 0, 1) := by decide +kernel
theorem dX5_decide_75 : decode cX5_decide 75 = .ok (.aload_n 3, 1) := by decide +kernel
theorem dX5_decide_76 : decode cX5_decide 76 = .ok (.getfield 70, 3) := by decide +kernel
theorem dX5_decide_79 : decode cX5_decide 79 = .ok (.invokevirtual 73, 3) := by decide +kernel
theorem dX5_decide_82 : decode cX5_decide 82 = .ok (.iload_n 1, 1) := by decide +kernel
theorem dX5_decide_83 : decode cX5_decide 83 = .ok (.if_icmp .ne 29, 3) := by decide +kernel
end
section
theorem dX5_decide_86 : decode cX5_decide 86 = .ok (.aload_n 3, 1) := by decide +kernel
theorem dX5_decide_87 : decode cX5_decide 87 = .ok (.aload_n 0, 1) := by decide +kernel
theorem dX5_decide_88 : decode cX5_decide 88 = .ok (.aload_n 3, 1) := by decide +kernel
theorem dX5_decide_89 : decode cX5_decide 89 = .ok (.invokevirtual 76, 3) := by decide +kernel
theorem dX5_decide_92 : decode cX5_decide 92 = .ok (.putfield 56, 3) := by decide +kernel
theorem dX5_decide_95 : decode cX5_decide 95 = .ok (.aload_n 3, 1) := by decide +kernel
theorem dX5_decide_96 : decode cX5_decide 96 = .ok (.aload_n 3, 1) := by decide +kernel
theorem dX5_decide_97 : decode cX5_decide 97 = .ok (.getfield 56, 3) := by decide +kernel
theorem dX5_decide_100 : decode cX5_decide 100 = .ok (.iconst (-1), 1) := by decide +kernel
theorem dX5_decide_101 : decode cX5_decide 101 = .ok (.if_icmp .ne 7, 3) := by decide +kernel
theorem dX5_decide_104 : decode cX5_decide 104 = .ok (.iconst 0, 1) := by decide +kernel
theorem dX5_decide_105 : decode cX5_decide 105 = .ok (.goto 4, 3) := by decide +kernel
theorem dX5_decide_108 : decode cX5_decide 108 = .ok (.iconst 1, 1) := by decide +kernel
theorem dX5_decide_109 : decode cX5_decide 109 = .ok (.putfield 63, 3) := by decide +kernel
theorem dX5_decide_112 : decode cX5_decide 112 = .ok (.iinc 2 1, 3) := by decide +kernel
theorem dX5_decide_115 : decode cX5_decide 115 = .ok (.goto (-66), 3) := by decide +kernel
theorem dX5_decide_118 : decode cX5_decide 118 = .ok (.iinc 1 1, 3) := by decide +kernel
theorem dX5_decide_121 : decode cX5_decide 121 = .ok (.goto (-80), 3) := by decide +kernel
theorem dX5_decide_124 : decode cX5_decide 124 = .ok (.aload_n 0, 1) := by decide +kernel
theorem dX5_decide_125 : decode cX5_decide 125 = .ok (.invokevirtual 80, 3) := by decide +kernel
theorem dX5_decide_128 : decode cX5_decide 128 = .ok (.return_, 1) := by decide +kernel
theorem dX5_firstDoneThatMeets_0 : decode cX5_firstDoneThatMeets 0 = .ok (.iconst 0, 1) := by decide +kernel
theorem dX5_firstDoneThatMeets_1 : decode cX5_firstDoneThatMeets 1 = .ok (.istore_n 2, 1) := by decide +kernel
theorem dX5_firstDoneThatMeets_2 : decode cX5_firstDoneThatMeets 2 = .ok (.iload_n 2, 1) := by decide +kernel
theorem dX5_firstDoneThatMeets_3 : decode cX5_firstDoneThatMeets 3 = .ok (.aload_n 0, 1) := by decide +kernel
theorem dX5_firstDoneThatMeets_4 : decode cX5_firstDoneThatMeets 4 = .ok (.getfield 25, 3) := by decide +kernel
theorem dX5_firstDoneThatMeets_7 : decode cX5_firstDoneThatMeets 7 = .ok (.if_icmp .ge 41, 3) := by decide +kernel
theorem dX5_firstDoneThatMeets_10 : decode cX5_firstDoneThatMeets 10 = .ok (.aload_n 0, 1) := by decide +kernel
theorem dX5_firstDoneThatMeets_11 : decode cX5_firstDoneThatMeets 11 = .ok (.iload_n 2, 1) := by decide +kernel
theorem dX5_firstDoneThatMeets_12 : decode cX5_firstDoneThatMeets 12 = .ok (.invokevirtual 39, 3) := by decide +kernel
theorem dX5_firstDoneThatMeets_15 : decode cX5_firstDoneThatMeets 15 = .ok (.astore_n 3, 1) := by decide +kernel
theorem dX5_firstDoneThatMeets_16 : decode cX5_firstDoneThatMeets 16 = .ok (.aload_n 3, 1) := by decide +kernel
theorem dX5_firstDoneThatMeets_17 : decode cX5_firstDoneThatMeets 17 = .ok (.ifnull 25, 3) := by decide +kernel
theorem dX5_firstDoneThatMeets_20 : decode cX5_firstDoneThatMeets 20 = .ok (.aload_n 3, 1) := by decide +kernel
theorem dX5_firstDoneThatMeets_21 : decode cX5_firstDoneThatMeets 21 = .ok (.aload_n 1, 1) := by decide +kernel
theorem dX5_firstDoneThatMeets_22 : decode cX5_firstDoneThatMeets 22 = .ok (.if_acmp .eq 20, 3) := by decide +kernel
theorem dX5_firstDoneThatMeets_25 : decode cX5_firstDoneThatMeets 25 = .ok (.aload_n 3, 1) := by decide +kernel
theorem dX5_firstDoneThatMeets_26 : decode cX5_firstDoneThatMeets 26 = .ok (.getfield 63, 3) := by decide +kernel
theorem dX5_firstDoneThatMeets_29 : decode cX5_firstDoneThatMeets 29 = .ok (.ifCond .ne 13, 3) := by decide +kernel
theorem dX5_firstDoneThatMeets_32 : decode cX5_firstDoneThatMeets 32 = .ok (.aload_n 1, 1) := by decide +kernel
theorem dX5_firstDoneThatMeets_33 : decode cX5_firstDoneThatMeets 33 = .ok (.aload_n 3, 1) := by decide +kernel
theorem dX5_firstDoneThatMeets_34 : decode cX5_firstDoneThatMeets 34 = .ok (.invokevirtual 83, 3) := by decide +kernel
theorem dX5_firstDoneThatMeets_37 : decode cX5_firstDoneThatMeets 37 = .ok (.ifCond .eq 5, 3) := by decide +kernel
theorem dX5_firstDoneThatMeets_40 : decode cX5_firstDoneThatMeets 40 = .ok (.iload_n 2, 1) := by decide +kernel
theorem dX5_firstDoneThatMeets_41 : decode cX5_firstDoneThatMeets 41 = .ok (.ireturn, 1) := by decide +kernel
theorem dX5_firstDoneThatMeets_42 : decode cX5_firstDoneThatMeets 42 = .ok (.iinc 2 1, 3) := by decide +kernel
theorem dX5_firstDoneThatMeets_45 : decode cX5_firstDoneThatMeets 45 = .ok (.goto (-43), 3) := by decide +kernel
theorem dX5_firstDoneThatMeets_48 : decode cX5_firstDoneThatMeets 48 = .ok (.iconst (-1), 1) := by decide +kernel
theorem dX5_firstDoneThatMeets_49 : decode cX5_firstDoneThatMeets 49 = .ok (.ireturn, 1) := by decide +kernel
theorem dX5_listDone_0 : decode cX5_listDone 0 = .ok (.aload_n 0, 1) := by decide +kernel
theorem dX5_listDone_1 : decode cX5_listDone 1 = .ok (.iconst 0, 1) := by decide +kernel
theorem dX5_listDone_2 : decode cX5_listDone 2 = .ok (.putfield 32, 3) := by decide +kernel
theorem dX5_listDone_5 : decode cX5_listDone 5 = .ok (.iconst 0, 1) := by decide +kernel
theorem dX5_listDone_6 : decode cX5_listDone 6 = .ok (.istore_n 1, 1) := by decide +kernel
theorem dX5_listDone_7 : decode cX5_listDone 7 = .ok (.iload_n 1, 1) := by decide +kernel
theorem dX5_listDone_8 : decode cX5_listDone 8 = .ok (.aload_n 0, 1) := by decide +kernel
theorem dX5_listDone_9 : decode cX5_listDone 9 = .ok (.getfield 25, 3) := by decide +kernel
theorem dX5_listDone_12 : decode cX5_listDone 12 = .ok (.if_icmp .ge 58, 3) := by decide +kernel
theorem dX5_listDone_15 : decode cX5_listDone 15 = .ok (.aload_n 0, 1) := by decide +kernel
theorem dX5_listDone_16 : decode cX5_listDone 16 = .ok (.iload_n 1, 1) := by decide +kernel
theorem dX5_listDone_17 : decode cX5_listDone 17 = .ok (.invokevirtual 39, 3) := by decide +kernel
theorem dX5_listDone_20 : decode cX5_listDone 20 = .ok (.astore_n 2, 1) := by decide +kernel
theorem dX5_listDone_21 : decode cX5_listDone 21 = .ok (.aload_n 2, 1) := by decide +kernel
theorem dX5_listDone_22 : decode cX5_listDone 22 = .ok (.ifnull 42, 3) := by decide +kernel
theorem dX5_listDone_25 : decode cX5_listDone 25 = .ok (.aload_n 2, 1) := by decide +kernel
theorem dX5_listDone_26 : decode cX5_listDone 26 = .ok (.getfield 63, 3) := by decide +kernel
theorem dX5_listDone_29 : decode cX5_listDone 29 = .ok (.ifCond .ne 35, 3) := by decide +kernel
theorem dX5_listDone_32 : decode cX5_listDone 32 = .ok (.aload_n 0, 1) := by decide +kernel
theorem dX5_listDone_33 : decode cX5_listDone 33 = .ok (.getfield 32, 3) := by decide +kernel
theorem dX5_listDone_36 : decode cX5_listDone 36 = .ok (.aload_n 0, 1) := by decide +kernel
theorem dX5_listDone_37 : decode cX5_listDone 37 = .ok (.getfield 21, 3) := by decide +kernel
theorem dX5_listDone_40 : decode cX5_listDone 40 = .ok (.arraylength, 1) := by decide +kernel
theorem dX5_listDone_41 : decode cX5_listDone 41 = .ok (.if_icmp .ge 23, 3) := by decide +kernel
theorem dX5_listDone_44 : decode cX5_listDone 44 = .ok (.aload_n 0, 1) := by decide +kernel
theorem dX5_listDone_45 : decode cX5_listDone 45 = .ok (.getfield 21, 3) := by decide +kernel
theorem dX5_listDone_48 : decode cX5_listDone 48 = .ok (.aload_n 0, 1) := by decide +kernel
theorem dX5_listDone_49 : decode cX5_listDone 49 = .ok (.getfield 32, 3) := by decide +kernel
theorem dX5_listDone_52 : decode cX5_listDone 52 = .ok (.iload_n 1, 1) := by decide +kernel
theorem dX5_listDone_53 : decode cX5_listDone 53 = .ok (.iastore, 1) := by decide +kernel
theorem dX5_listDone_54 : decode cX5_listDone 54 = .ok (.aload_n 0, 1) := by decide +kernel
theorem dX5_listDone_55 : decode cX5_listDone 55 = .ok (.dup, 1) := by decide +kernel
theorem dX5_listDone_56 : decode cX5_listDone 56 = .ok (.getfield 32, 3) := by decide +kernel
theorem dX5_listDone_59 : decode cX5_listDone 59 = .ok (.iconst 1, 1) := by decide +kernel
theorem dX5_listDone_60 : decode cX5_listDone 60 = .ok (.iadd, 1) := by decide +kernel
theorem dX5_listDone_61 : decode cX5_listDone 61 = .ok (.putfield 32, 3) := by decide +kernel
theorem dX5_listDone_64 : decode cX5_listDone 64 = .ok (.iinc 1 1, 3) := by decide +kernel
theorem dX5_listDone_67 : decode cX5_listDone 67 = .ok (.goto (-60), 3) := by decide +kernel
theorem dX5_listDone_70 : decode cX5_listDone 70 = .ok (.return_, 1) := by decide +kernel
theorem dX5_doneNumber_0 : decode cX5_doneNumber 0 = .ok (.iload_n 1, 1) := by decide +kernel
theorem dX5_doneNumber_1 : decode cX5_doneNumber 1 = .ok (.ifCond .lt 20, 3) := by decide +kernel
theorem dX5_doneNumber_4 : decode cX5_doneNumber 4 = .ok (.iload_n 1, 1) := by decide +kernel
theorem dX5_doneNumber_5 : decode cX5_doneNumber 5 = .ok (.aload_n 0, 1) := by decide +kernel
theorem dX5_doneNumber_6 : decode cX5_doneNumber 6 = .ok (.getfield 32, 3) := by decide +kernel
theorem dX5_doneNumber_9 : decode cX5_doneNumber 9 = .ok (.if_icmp .ge 12, 3) := by decide +kernel
theorem dX5_doneNumber_12 : decode cX5_doneNumber 12 = .ok (.iload_n 1, 1) := by decide +kernel
theorem dX5_doneNumber_13 : decode cX5_doneNumber 13 = .ok (.aload_n 0, 1) := by decide +kernel
theorem dX5_doneNumber_14 : decode cX5_doneNumber 14 = .ok (.getfield 21, 3) := by decide +kernel
theorem dX5_doneNumber_17 : decode cX5_doneNumber 17 = .ok (.arraylength, 1) := by decide +kernel
theorem dX5_doneNumber_18 : decode cX5_doneNumber 18 = .ok (.if_icmp .lt 7, 3) := by decide +kernel
theorem dX5_doneNumber_21 : decode cX5_doneNumber 21 = .ok (.iconst (-1), 1) := by decide +kernel
theorem dX5_doneNumber_22 : decode cX5_doneNumber 22 = .ok (.goto 9, 3) := by decide +kernel
theorem dX5_doneNumber_25 : decode cX5_doneNumber 25 = .ok (.aload_n 0, 1) := by decide +kernel
theorem dX5_doneNumber_26 : decode cX5_doneNumber 26 = .ok (.getfield 21, 3) := by decide +kernel
theorem dX5_doneNumber_29 : decode cX5_doneNumber 29 = .ok (.iload_n 1, 1) := by decide +kernel
theorem dX5_doneNumber_30 : decode cX5_doneNumber 30 = .ok (.iaload, 1) := by decide +kernel
theorem dX5_doneNumber_31 : decode cX5_doneNumber 31 = .ok (.ireturn, 1) := by decide +kernel
theorem dX5_tally_0 : decode cX5_tally 0 = .ok (.iconst 0, 1) := by decide +kernel
theorem dX5_tally_1 : decode cX5_tally 1 = .ok (.istore_n 2, 1) := by decide +kernel
theorem dX5_tally_2 : decode cX5_tally 2 = .ok (.iconst 0, 1) := by decide +kernel
theorem dX5_tally_3 : decode cX5_tally 3 = .ok (.istore_n 3, 1) := by decide +kernel
theorem dX5_tally_4 : decode cX5_tally 4 = .ok (.iload_n 3, 1) := by decide +kernel
theorem dX5_tally_5 : decode cX5_tally 5 = .ok (.aload_n 0, 1) := by decide +kernel
theorem dX5_tally_6 : decode cX5_tally 6 = .ok (.getfield 25, 3) := by decide +kernel
theorem dX5_tally_9 : decode cX5_tally 9 = .ok (.if_icmp .ge 33, 3) := by decide +kernel
theorem dX5_tally_12 : decode cX5_tally 12 = .ok (.aload_n 0, 1) := by decide +kernel
theorem dX5_tally_13 : decode cX5_tally 13 = .ok (.iload_n 3, 1) := by decide +kernel
theorem dX5_tally_14 : decode cX5_tally 14 = .ok (.invokevirtual 39, 3) := by decide +kernel
theorem dX5_tally_17 : decode cX5_tally 17 = .ok (.astore 4, 2) := by decide +kernel
theorem dX5_tally_19 : decode cX5_tally 19 = .ok (.aload 4, 2) := by decide +kernel
theorem dX5_tally_21 : decode cX5_tally 21 = .ok (.ifnull 15, 3) := by decide +kernel
theorem dX5_tally_24 : decode cX5_tally 24 = .ok (.aload 4, 2) := by decide +kernel
theorem dX5_tally_26 : decode cX5_tally 26 = .ok (.getfield 63, 3) := by decide +kernel
theorem dX5_tally_29 : decode cX5_tally 29 = .ok (.iload_n 1, 1) := by decide +kernel
theorem dX5_tally_30 : decode cX5_tally 30 = .ok (.if_icmp .ne 6, 3) := by decide +kernel
theorem dX5_tally_33 : decode cX5_tally 33 = .ok (.iinc 2 1, 3) := by decide +kernel
theorem dX5_tally_36 : decode cX5_tally 36 = .ok (.iinc 3 1, 3) := by decide +kernel
theorem dX5_tally_39 : decode cX5_tally 39 = .ok (.goto (-35), 3) := by decide +kernel
theorem dX5_tally_42 : decode cX5_tally 42 = .ok (.iload_n 2, 1) := by decide +kernel
theorem dX5_tally_43 : decode cX5_tally 43 = .ok (.ireturn, 1) := by decide +kernel
theorem dX6_init_0 : decode cX6_init 0 = .ok (.aload_n 0, 1) := by decide +kernel
theorem dX6_init_1 : decode cX6_init 1 = .ok (.invokespecial 3, 3) := by decide +kernel
theorem dX6_init_4 : decode cX6_init 4 = .ok (.aload_n 0, 1) := by decide +kernel
theorem dX6_init_5 : decode cX6_init 5 = .ok (.sipush 301, 3) := by decide +kernel
theorem dX6_init_8 : decode cX6_init 8 = .ok (.newarray .int, 2) := by decide +kernel
theorem dX6_init_10 : decode cX6_init 10 = .ok (.putfield 9, 3) := by decide +kernel
theorem dX6_init_13 : decode cX6_init 13 = .ok (.return_, 1) := by decide +kernel
theorem dX6_measure_0 : decode cX6_measure 0 = .ok (.iconst 0, 1) := by decide +kernel
theorem dX6_measure_1 : decode cX6_measure 1 = .ok (.aload_n 1, 1) := by decide +kernel
theorem dX6_measure_2 : decode cX6_measure 2 = .ok (.getfield 15, 3) := by decide +kernel
theorem dX6_measure_5 : decode cX6_measure 5 = .ok (.iload_n 2, 1) := by decide +kernel
theorem dX6_measure_6 : decode cX6_measure 6 = .ok (.isub, 1) := by decide +kernel
theorem dX6_measure_7 : decode cX6_measure 7 = .ok (.invokestatic 21, 3) := by decide +kernel
theorem dX6_measure_10 : decode cX6_measure 10 = .ok (.istore 6, 2) := by decide +kernel
theorem dX6_measure_12 : decode cX6_measure 12 = .ok (.iconst 0, 1) := by decide +kernel
theorem dX6_measure_13 : decode cX6_measure 13 = .ok (.aload_n 3, 1) := by decide +kernel
theorem dX6_measure_14 : decode cX6_measure 14 = .ok (.getfield 15, 3) := by decide +kernel
theorem dX6_measure_17 : decode cX6_measure 17 = .ok (.iload 4, 2) := by decide +kernel
theorem dX6_measure_19 : decode cX6_measure 19 = .ok (.isub, 1) := by decide +kernel
theorem dX6_measure_20 : decode cX6_measure 20 = .ok (.invokestatic 21, 3) := by decide +kernel
theorem dX6_measure_23 : decode cX6_measure 23 = .ok (.istore 7, 2) := by decide +kernel
theorem dX6_measure_25 : decode cX6_measure 25 = .ok (.iload 5, 2) := by decide +kernel
theorem dX6_measure_27 : decode cX6_measure 27 = .ok (.iconst 1, 1) := by decide +kernel
theorem dX6_measure_28 : decode cX6_measure 28 = .ok (.iadd, 1) := by decide +kernel
theorem dX6_measure_29 : decode cX6_measure 29 = .ok (.istore 8, 2) := by decide +kernel
theorem dX6_measure_31 : decode cX6_measure 31 = .ok (.iload 6, 2) := by decide +kernel
theorem dX6_measure_33 : decode cX6_measure 33 = .ok (.iload 7, 2) := by decide +kernel
theorem dX6_measure_35 : decode cX6_measure 35 = .ok (.isub, 1) := by decide +kernel
theorem dX6_measure_36 : decode cX6_measure 36 = .ok (.invokestatic 27, 3) := by decide +kernel
theorem dX6_measure_39 : decode cX6_measure 39 = .ok (.iload 5, 2) := by decide +kernel
theorem dX6_measure_41 : decode cX6_measure 41 = .ok (.if_icmp .gt 13, 3) := by decide +kernel
theorem dX6_measure_44 : decode cX6_measure 44 = .ok (.iload 7, 2) := by decide +kernel
theorem dX6_measure_46 : decode cX6_measure 46 = .ok (.aload_n 0, 1) := by decide +kernel
theorem dX6_measure_47 : decode cX6_measure 47 = .ok (.getfield 9, 3) := by decide +kernel
theorem dX6_measure_50 : decode cX6_measure 50 = .ok (.arraylength, 1) := by decide +kernel
theorem dX6_measure_51 : decode cX6_measure 51 = .ok (.if_icmp .lt 6, 3) := by decide +kernel
theorem dX6_measure_54 : decode cX6_measure 54 = .ok (.iload 8, 2) := by decide +kernel
theorem dX6_measure_56 : decode cX6_measure 56 = .ok (.ireturn, 1) := by decide +kernel
theorem dX6_measure_57 : decode cX6_measure 57 = .ok (.iconst 0, 1) := by decide +kernel
theorem dX6_measure_58 : decode cX6_measure 58 = .ok (.istore 9, 2) := by decide +kernel
theorem dX6_measure_60 : decode cX6_measure 60 = .ok (.iload 9, 2) := by decide +kernel
theorem dX6_measure_62 : decode cX6_measure 62 = .ok (.iload 7, 2) := by decide +kernel
theorem dX6_measure_64 : decode cX6_measure 64 = .ok (.if_icmp .gt 18, 3) := by decide +kernel
theorem dX6_measure_67 : decode cX6_measure 67 = .ok (.aload_n 0, 1) := by decide +kernel
theorem dX6_measure_68 : decode cX6_measure 68 = .ok (.getfield 9, 3) := by decide +kernel
theorem dX6_measure_71 : decode cX6_measure 71 = .ok (.iload 9, 2) := by decide +kernel
theorem dX6_measure_73 : decode cX6_measure 73 = .ok (.iload 9, 2) := by decide +kernel
theorem dX6_measure_75 : decode cX6_measure 75 = .ok (.iastore, 1) := by decide +kernel
theorem dX6_measure_76 : decode cX6_measure 76 = .ok (.iinc 9 1, 3) := by decide +kernel
theorem dX6_measure_79 : decode cX6_measure 79 = .ok (.goto (-19), 3) := by decide +kernel
theorem dX6_measure_82 : decode cX6_measure 82 = .ok (.iconst 1, 1) := by decide +kernel
theorem dX6_measure_83 : decode cX6_measure 83 = .ok (.istore 9, 2) := by decide +kernel
theorem dX6_measure_85 : decode cX6_measure 85 = .ok (.iload 9, 2) := by decide +kernel
theorem dX6_measure_87 : decode cX6_measure 87 = .ok (.iload 6, 2) := by decide +kernel
theorem dX6_measure_89 : decode cX6_measure 89 = .ok (.if_icmp .gt 38, 3) := by decide +kernel
theorem dX6_measure_92 : decode cX6_measure 92 = .ok (.aload_n 0, 1) := by decide +kernel
theorem dX6_measure_93 : decode cX6_measure 93 = .ok (.iload 9, 2) := by decide +kernel
theorem dX6_measure_95 : decode cX6_measure 95 = .ok (.aload_n 1, 1) := by decide +kernel
theorem dX6_measure_96 : decode cX6_measure 96 = .ok (.iload_n 2, 1) := by decide +kernel
theorem dX6_measure_97 : decode cX6_measure 97 = .ok (.iload 9, 2) := by decide +kernel
theorem dX6_measure_99 : decode cX6_measure 99 = .ok (.iadd, 1) := by decide +kernel
theorem dX6_measure_100 : decode cX6_measure 100 = .ok (.iconst 1, 1) := by decide +kernel
theorem dX6_measure_101 : decode cX6_measure 101 = .ok (.isub, 1) := by decide +kernel
theorem dX6_measure_102 : decode cX6_measure 102 = .ok (.invokevirtual 31, 3) := by decide +kernel
theorem dX6_measure_105 : decode cX6_measure 105 = .ok (.aload_n 3, 1) := by decide +kernel
theorem dX6_measure_106 : decode cX6_measure 106 = .ok (.iload 4, 2) := by decide +kernel
theorem dX6_measure_108 : decode cX6_measure 108 = .ok (.iload 5, 2) := by decide +kernel
theorem dX6_measure_110 : decode cX6_measure 110 = .ok (.invokevirtual 35, 3) := by decide +kernel
theorem dX6_measure_113 : decode cX6_measure 113 = .ok (.iload 5, 2) := by decide +kernel
theorem dX6_measure_115 : decode cX6_measure 115 = .ok (.if_icmp .le 6, 3) := by decide +kernel
theorem dX6_measure_118 : decode cX6_measure 118 = .ok (.iload 8, 2) := by decide +kernel
theorem dX6_measure_120 : decode cX6_measure 120 = .ok (.ireturn, 1) := by decide +kernel
theorem dX6_measure_121 : decode cX6_measure 121 = .ok (.iinc 9 1, 3) := by decide +kernel
theorem dX6_measure_124 : decode cX6_measure 124 = .ok (.goto (-39), 3) := by decide +kernel
theorem dX6_measure_127 : decode cX6_measure 127 = .ok (.aload_n 0, 1) := by decide +kernel
theorem dX6_measure_128 : decode cX6_measure 128 = .ok (.getfield 9, 3) := by decide +kernel
theorem dX6_measure_131 : decode cX6_measure 131 = .ok (.iload 7, 2) := by decide +kernel
theorem dX6_measure_133 : decode cX6_measure 133 = .ok (.iaload, 1) := by decide +kernel
theorem dX6_measure_134 : decode cX6_measure 134 = .ok (.iload 8, 2) := by decide +kernel
theorem dX6_measure_136 : decode cX6_measure 136 = .ok (.invokestatic 39, 3) := by decide +kernel
theorem dX6_measure_139 : decode cX6_measure 139 = .ok (.ireturn, 1) := by decide +kernel
theorem dX6_fillRow_0 : decode cX6_fillRow 0 = .ok (.iconst 1, 1) := by decide +kernel
theorem dX6_fillRow_1 : decode cX6_fillRow 1 = .ok (.iload_n 1, 1) := by decide +kernel
theorem dX6_fillRow_2 : decode cX6_fillRow 2 = .ok (.iload 6, 2) := by decide +kernel
theorem dX6_fillRow_4 : decode cX6_fillRow 4 = .ok (.isub, 1) := by decide +kernel
theorem dX6_fillRow_5 : decode cX6_fillRow 5 = .ok (.invokestatic 21, 3) := by decide +kernel
theorem dX6_fillRow_8 : decode cX6_fillRow 8 = .ok (.istore 7, 2) := by decide +kernel
theorem dX6_fillRow_10 : decode cX6_fillRow 10 = .ok (.aload 4, 2) := by decide +kernel
theorem dX6_fillRow_12 : decode cX6_fillRow 12 = .ok (.getfield 15, 3) := by decide +kernel
theorem dX6_fillRow_15 : decode cX6_fillRow 15 = .ok (.iload 5, 2) := by decide +kernel
theorem dX6_fillRow_17 : decode cX6_fillRow 17 = .ok (.isub, 1) := by decide +kernel
theorem dX6_fillRow_18 : decode cX6_fillRow 18 = .ok (.iload_n 1, 1) := by decide +kernel
theorem dX6_fillRow_19 : decode cX6_fillRow 19 = .ok (.iload 6, 2) := by decide +kernel
theorem dX6_fillRow_21 : decode cX6_fillRow 21 = .ok (.iadd, 1) := by decide +kernel
theorem dX6_fillRow_22 : decode cX6_fillRow 22 = .ok (.invokestatic 39, 3) := by decide +kernel
theorem dX6_fillRow_25 : decode cX6_fillRow 25 = .ok (.istore 8, 2) := by decide +kernel
theorem dX6_fillRow_27 : decode cX6_fillRow 27 = .ok (.iload 7, 2) := by decide +kernel
theorem dX6_fillRow_29 : decode cX6_fillRow 29 = .ok (.aload_n 0, 1) := by decide +kernel
theorem dX6_fillRow_30 : decode cX6_fillRow 30 = .ok (.getfield 9, 3) := by decide +kernel
theorem dX6_fillRow_33 : decode cX6_fillRow 33 = .ok (.arraylength, 1) := by decide +kernel
theorem dX6_fillRow_34 : decode cX6_fillRow 34 = .ok (.if_icmp .ge 13, 3) := by decide +kernel
theorem dX6_fillRow_37 : decode cX6_fillRow 37 = .ok (.iload 8, 2) := by decide +kernel
theorem dX6_fillRow_39 : decode cX6_fillRow 39 = .ok (.aload_n 0, 1) := by decide +kernel
theorem dX6_fillRow_40 : decode cX6_fillRow 40 = .ok (.getfield 9, 3) := by decide +kernel
theorem dX6_fillRow_43 : decode cX6_fillRow 43 = .ok (.arraylength, 1) := by decide +kernel
theorem dX6_fillRow_44 : decode cX6_fillRow 44 = .ok (.if_icmp .lt 8, 3) := by decide +kernel
theorem dX6_fillRow_47 : decode cX6_fillRow 47 = .ok (.iload 6, 2) := by decide +kernel
theorem dX6_fillRow_49 : decode cX6_fillRow 49 = .ok (.iconst 1, 1) := by decide +kernel
theorem dX6_fillRow_50 : decode cX6_fillRow 50 = .ok (.iadd, 1) := by decide +kernel
theorem dX6_fillRow_51 : decode cX6_fillRow 51 = .ok (.ireturn, 1) := by decide +kernel
theorem dX6_fillRow_52 : decode cX6_fillRow 52 = .ok (.aload_n 0, 1) := by decide +kernel
theorem dX6_fillRow_53 : decode cX6_fillRow 53 = .ok (.getfield 9, 3) := by decide +kernel
theorem dX6_fillRow_56 : decode cX6_fillRow 56 = .ok (.iload 7, 2) := by decide +kernel
theorem dX6_fillRow_58 : decode cX6_fillRow 58 = .ok (.iconst 1, 1) := by decide +kernel
theorem dX6_fillRow_59 : decode cX6_fillRow 59 = .ok (.isub, 1) := by decide +kernel
theorem dX6_fillRow_60 : decode cX6_fillRow 60 = .ok (.iaload, 1) := by decide +kernel
theorem dX6_fillRow_61 : decode cX6_fillRow 61 = .ok (.istore 9, 2) := by decide +kernel
theorem dX6_fillRow_63 : decode cX6_fillRow 63 = .ok (.aload_n 0, 1) := by decide +kernel
theorem dX6_fillRow_64 : decode cX6_fillRow 64 = .ok (.getfield 9, 3) := by decide +kernel
theorem dX6_fillRow_67 : decode cX6_fillRow 67 = .ok (.iload 7, 2) := by decide +kernel
theorem dX6_fillRow_69 : decode cX6_fillRow 69 = .ok (.iconst 1, 1) := by decide +kernel
theorem dX6_fillRow_70 : decode cX6_fillRow 70 = .ok (.isub, 1) := by decide +kernel
theorem dX6_fillRow_71 : decode cX6_fillRow 71 = .ok (.iload 7, 2) := by decide +kernel
theorem dX6_fillRow_73 : decode cX6_fillRow 73 = .ok (.iconst 1, 1) := by decide +kernel
theorem dX6_fillRow_74 : decode cX6_fillRow 74 = .ok (.if_icmp .ne 7, 3) := by decide +kernel
theorem dX6_fillRow_77 : decode cX6_fillRow 77 = .ok (.iload_n 1, 1) := by decide +kernel
theorem dX6_fillRow_78 : decode cX6_fillRow 78 = .ok (.goto 7, 3) := by decide +kernel
theorem dX6_fillRow_81 : decode cX6_fillRow 81 = .ok (.iload 6, 2) := by decide +kernel
theorem dX6_fillRow_83 : decode cX6_fillRow 83 = .ok (.iconst 1, 1) := by decide +kernel
theorem dX6_fillRow_84 : decode cX6_fillRow 84 = .ok (.iadd, 1) := by decide +kernel
theorem dX6_fillRow_85 : decode cX6_fillRow 85 = .ok (.iastore, 1) := by decide +kernel
theorem dX6_fillRow_86 : decode cX6_fillRow 86 = .ok (.aload_n 0, 1) := by decide +kernel
theorem dX6_fillRow_87 : decode cX6_fillRow 87 = .ok (.getfield 9, 3) := by decide +kernel
theorem dX6_fillRow_90 : decode cX6_fillRow 90 = .ok (.iload 7, 2) := by decide +kernel
theorem dX6_fillRow_92 : decode cX6_fillRow 92 = .ok (.iconst 1, 1) := by decide +kernel
theorem dX6_fillRow_93 : decode cX6_fillRow 93 = .ok (.isub, 1) := by decide +kernel
theorem dX6_fillRow_94 : decode cX6_fillRow 94 = .ok (.iaload, 1) := by decide +kernel
theorem dX6_fillRow_95 : decode cX6_fillRow 95 = .ok (.istore 10, 2) := by decide +kernel
theorem dX6_fillRow_97 : decode cX6_fillRow 97 = .ok (.iload 7, 2) := by decide +kernel
theorem dX6_fillRow_99 : decode cX6_fillRow 99 = .ok (.istore 11, 2) := by decide +kernel
theorem dX6_fillRow_101 : decode cX6_fillRow 101 = .ok (.iload 11, 2) := by decide +kernel
theorem dX6_fillRow_103 : decode cX6_fillRow 103 = .ok (.iload 8, 2) := by decide +kernel
theorem dX6_fillRow_105 : decode cX6_fillRow 105 = .ok (.if_icmp .gt 93, 3) := by decide +kernel
theorem dX6_fillRow_108 : decode cX6_fillRow 108 = .ok (.aload_n 0, 1) := by decide +kernel
theorem dX6_fillRow_109 : decode cX6_fillRow 109 = .ok (.getfield 9, 3) := by decide +kernel
theorem dX6_fillRow_112 : decode cX6_fillRow 112 = .ok (.iload 11, 2) := by decide +kernel
theorem dX6_fillRow_114 : decode cX6_fillRow 114 = .ok (.iaload, 1) := by decide +kernel
theorem dX6_fillRow_115 : decode cX6_fillRow 115 = .ok (.istore 12, 2) := by decide +kernel
theorem dX6_fillRow_117 : decode cX6_fillRow 117 = .ok (.aload 4, 2) := by decide +kernel
theorem dX6_fillRow_119 : decode cX6_fillRow 119 = .ok (.iload 5, 2) := by decide +kernel
theorem dX6_fillRow_121 : decode cX6_fillRow 121 = .ok (.iload 11, 2) := by decide +kernel
theorem dX6_fillRow_123 : decode cX6_fillRow 123 = .ok (.iadd, 1) := by decide +kernel
theorem dX6_fillRow_124 : decode cX6_fillRow 124 = .ok (.iconst 1, 1) := by decide +kernel
theorem dX6_fillRow_125 : decode cX6_fillRow 125 = .ok (.isub, 1) := by decide +kernel
theorem dX6_fillRow_126 : decode cX6_fillRow 126 = .ok (.invokevirtual 31, 3) := by decide +kernel
theorem dX6_fillRow_129 : decode cX6_fillRow 129 = .ok (.lload_n 2, 1) := by decide +kernel
theorem dX6_fillRow_130 : decode cX6_fillRow 130 = .ok (.lcmp, 1) := by decide +kernel
theorem dX6_fillRow_131 : decode cX6_fillRow 131 = .ok (.ifCond .ne 15, 3) := by decide +kernel
theorem dX6_fillRow_134 : decode cX6_fillRow 134 = .ok (.aload_n 0, 1) := by decide +kernel
theorem dX6_fillRow_135 : decode cX6_fillRow 135 = .ok (.getfield 9, 3) := by decide +kernel
theorem dX6_fillRow_138 : decode cX6_fillRow 138 = .ok (.iload 11, 2) := by decide +kernel
theorem dX6_fillRow_140 : decode cX6_fillRow 140 = .ok (.iload 9, 2) := by decide +kernel
theorem dX6_fillRow_142 : decode cX6_fillRow 142 = .ok (.iastore, 1) := by decide +kernel
theorem dX6_fillRow_143 : decode cX6_fillRow 143 = .ok (.goto 31, 3) := by decide +kernel
theorem dX6_fillRow_146 : decode cX6_fillRow 146 = .ok (.aload_n 0, 1) := by decide +kernel
theorem dX6_fillRow_147 : decode cX6_fillRow 147 = .ok (.getfield 9, 3) := by decide +kernel
theorem dX6_fillRow_150 : decode cX6_fillRow 150 = .ok (.iload 11, 2) := by decide +kernel
theorem dX6_fillRow_152 : decode cX6_fillRow 152 = .ok (.iconst 1, 1) := by decide +kernel
theorem dX6_fillRow_153 : decode cX6_fillRow 153 = .ok (.iload 9, 2) := by decide +kernel
theorem dX6_fillRow_155 : decode cX6_fillRow 155 = .ok (.iload 12, 2) := by decide +kernel
theorem dX6_fillRow_157 : decode cX6_fillRow 157 = .ok (.aload_n 0, 1) := by decide +kernel
theorem dX6_fillRow_158 : decode cX6_fillRow 158 = .ok (.getfield 9, 3) := by decide +kernel
theorem dX6_fillRow_161 : decode cX6_fillRow 161 = .ok (.iload 11, 2) := by decide +kernel
theorem dX6_fillRow_163 : decode cX6_fillRow 163 = .ok (.iconst 1, 1) := by decide +kernel
theorem dX6_fillRow_164 : decode cX6_fillRow 164 = .ok (.isub, 1) := by decide +kernel
theorem dX6_fillRow_165 : decode cX6_fillRow 165 = .ok (.iaload, 1) := by decide +kernel
theorem dX6_fillRow_166 : decode cX6_fillRow 166 = .ok (.invokestatic 39, 3) := by decide +kernel
theorem dX6_fillRow_169 : decode cX6_fillRow 169 = .ok (.invokestatic 39, 3) := by decide +kernel
theorem dX6_fillRow_172 : decode cX6_fillRow 172 = .ok (.iadd, 1) := by decide +kernel
theorem dX6_fillRow_173 : decode cX6_fillRow 173 = .ok (.iastore, 1) := by decide +kernel
theorem dX6_fillRow_174 : decode cX6_fillRow 174 = .ok (.iload 12, 2) := by decide +kernel
theorem dX6_fillRow_176 : decode cX6_fillRow 176 = .ok (.istore 9, 2) := by decide +kernel
theorem dX6_fillRow_178 : decode cX6_fillRow 178 = .ok (.iload 10, 2) := by decide +kernel
theorem dX6_fillRow_180 : decode cX6_fillRow 180 = .ok (.aload_n 0, 1) := by decide +kernel
theorem dX6_fillRow_181 : decode cX6_fillRow 181 = .ok (.getfield 9, 3) := by decide +kernel
theorem dX6_fillRow_184 : decode cX6_fillRow 184 = .ok (.iload 11, 2) := by decide +kernel
theorem dX6_fillRow_186 : decode cX6_fillRow 186 = .ok (.iaload, 1) := by decide +kernel
theorem dX6_fillRow_187 : decode cX6_fillRow 187 = .ok (.invokestatic 39, 3) := by decide +kernel
theorem dX6_fillRow_190 : decode cX6_fillRow 190 = .ok (.istore 10, 2) := by decide +kernel
theorem dX6_fillRow_192 : decode cX6_fillRow 192 = .ok (.iinc 11 1, 3) := by decide +kernel
theorem dX6_fillRow_195 : decode cX6_fillRow 195 = .ok (.goto (-94), 3) := by decide +kernel
theorem dX6_fillRow_198 : decode cX6_fillRow 198 = .ok (.iload 10, 2) := by decide +kernel
theorem dX6_fillRow_200 : decode cX6_fillRow 200 = .ok (.ireturn, 1) := by decide +kernel
theorem dX7_init_0 : decode cX7_init 0 = .ok (.aload_n 0, 1) := by decide +kernel
theorem dX7_init_1 : decode cX7_init 1 = .ok (.invokespecial 3, 3) := by decide +kernel
theorem dX7_init_4 : decode cX7_init 4 = .ok (.aload_n 0, 1) := by decide +kernel
theorem dX7_init_5 : decode cX7_init 5 = .ok (.bipush 40, 2) := by decide +kernel
theorem dX7_init_7 : decode cX7_init 7 = .ok (.anewarray 9, 3) := by decide +kernel
theorem dX7_init_10 : decode cX7_init 10 = .ok (.putfield 11, 3) := by decide +kernel
theorem dX7_init_13 : decode cX7_init 13 = .ok (.aload_n 0, 1) := by decide +kernel
theorem dX7_init_14 : decode cX7_init 14 = .ok (.bipush 40, 2) := by decide +kernel
theorem dX7_init_16 : decode cX7_init 16 = .ok (.newarray .boolean, 2) := by decide +kernel
theorem dX7_init_18 : decode cX7_init 18 = .ok (.putfield 17, 3) := by decide +kernel
theorem dX7_init_21 : decode cX7_init 21 = .ok (.return_, 1) := by decide +kernel
theorem dX7_takeDone_0 : decode cX7_takeDone 0 = .ok (.aload_n 0, 1) := by decide +kernel
theorem dX7_takeDone_1 : decode cX7_takeDone 1 = .ok (.iconst 0, 1) := by decide +kernel
theorem dX7_takeDone_2 : decode cX7_takeDone 2 = .ok (.putfield 21, 3) := by decide +kernel
theorem dX7_takeDone_5 : decode cX7_takeDone 5 = .ok (.iconst 0, 1) := by decide +kernel
theorem dX7_takeDone_6 : decode cX7_takeDone 6 = .ok (.istore_n 3, 1) := by decide +kernel
theorem dX7_takeDone_7 : decode cX7_takeDone 7 = .ok (.iload_n 3, 1) := by decide +kernel
theorem dX7_takeDone_8 : decode cX7_takeDone 8 = .ok (.aload_n 1, 1) := by decide +kernel
theorem dX7_takeDone_9 : decode cX7_takeDone 9 = .ok (.getfield 25, 3) := by decide +kernel
theorem dX7_takeDone_12 : decode cX7_takeDone 12 = .ok (.if_icmp .ge 95, 3) := by decide +kernel
theorem dX7_takeDone_15 : decode cX7_takeDone 15 = .ok (.iload_n 3, 1) := by decide +kernel
theorem dX7_takeDone_16 : decode cX7_takeDone 16 = .ok (.bipush 8, 2) := by decide +kernel
theorem dX7_takeDone_18 : decode cX7_takeDone 18 = .ok (.if_icmp .ge 16, 3) := by decide +kernel
theorem dX7_takeDone_21 : decode cX7_takeDone 21 = .ok (.iload_n 2, 1) := by decide +kernel
theorem dX7_takeDone_22 : decode cX7_takeDone 22 = .ok (.iload_n 3, 1) := by decide +kernel
theorem dX7_takeDone_23 : decode cX7_takeDone 23 = .ok (.ishr, 1) := by decide +kernel
theorem dX7_takeDone_24 : decode cX7_takeDone 24 = .ok (.iconst 1, 1) := by decide +kernel
theorem dX7_takeDone_25 : decode cX7_takeDone 25 = .ok (.iand, 1) := by decide +kernel
theorem dX7_takeDone_26 : decode cX7_takeDone 26 = .ok (.iconst 1, 1) := by decide +kernel
theorem dX7_takeDone_27 : decode cX7_takeDone 27 = .ok (.if_icmp .ne 7, 3) := by decide +kernel
theorem dX7_takeDone_30 : decode cX7_takeDone 30 = .ok (.iconst 1, 1) := by decide +kernel
theorem dX7_takeDone_31 : decode cX7_takeDone 31 = .ok (.goto 4, 3) := by decide +kernel
theorem dX7_takeDone_34 : decode cX7_takeDone 34 = .ok (.iconst 0, 1) := by decide +kernel
theorem dX7_takeDone_35 : decode cX7_takeDone 35 = .ok (.istore 4, 2) := by decide +kernel
theorem dX7_takeDone_37 : decode cX7_takeDone 37 = .ok (.aload_n 1, 1) := by decide +kernel
theorem dX7_takeDone_38 : decode cX7_takeDone 38 = .ok (.aload_n 1, 1) := by decide +kernel
theorem dX7_takeDone_39 : decode cX7_takeDone 39 = .ok (.iload_n 3, 1) := by decide +kernel
theorem dX7_takeDone_40 : decode cX7_takeDone 40 = .ok (.invokevirtual 30, 3) := by decide +kernel
theorem dX7_takeDone_43 : decode cX7_takeDone 43 = .ok (.invokevirtual 34, 3) := by decide +kernel
theorem dX7_takeDone_46 : decode cX7_takeDone 46 = .ok (.astore 5, 2) := by decide +kernel
theorem dX7_takeDone_48 : decode cX7_takeDone 48 = .ok (.iload 4, 2) := by decide +kernel
theorem dX7_takeDone_50 : decode cX7_takeDone 50 = .ok (.ifCond .ne 51, 3) := by decide +kernel
theorem dX7_takeDone_53 : decode cX7_takeDone 53 = .ok (.aload 5, 2) := by decide +kernel
theorem dX7_takeDone_55 : decode cX7_takeDone 55 = .ok (.ifnull 46, 3) := by decide +kernel
theorem dX7_takeDone_58 : decode cX7_takeDone 58 = .ok (.aload_n 0, 1) := by decide +kernel
theorem dX7_takeDone_59 : decode cX7_takeDone 59 = .ok (.getfield 21, 3) := by decide +kernel
theorem dX7_takeDone_62 : decode cX7_takeDone 62 = .ok (.aload_n 0, 1) := by decide +kernel
theorem dX7_takeDone_63 : decode cX7_takeDone 63 = .ok (.getfield 11, 3) := by decide +kernel
theorem dX7_takeDone_66 : decode cX7_takeDone 66 = .ok (.arraylength, 1) := by decide +kernel
theorem dX7_takeDone_67 : decode cX7_takeDone 67 = .ok (.if_icmp .ge 34, 3) := by decide +kernel
theorem dX7_takeDone_70 : decode cX7_takeDone 70 = .ok (.aload_n 0, 1) := by decide +kernel
theorem dX7_takeDone_71 : decode cX7_takeDone 71 = .ok (.getfield 11, 3) := by decide +kernel
theorem dX7_takeDone_74 : decode cX7_takeDone 74 = .ok (.aload_n 0, 1) := by decide +kernel
theorem dX7_takeDone_75 : decode cX7_takeDone 75 = .ok (.getfield 21, 3) := by decide +kernel
theorem dX7_takeDone_78 : decode cX7_takeDone 78 = .ok (.aload 5, 2) := by decide +kernel
theorem dX7_takeDone_80 : decode cX7_takeDone 80 = .ok (.aastore, 1) := by decide +kernel
theorem dX7_takeDone_81 : decode cX7_takeDone 81 = .ok (.aload_n 0, 1) := by decide +kernel
theorem dX7_takeDone_82 : decode cX7_takeDone 82 = .ok (.getfield 17, 3) := by decide +kernel
theorem dX7_takeDone_85 : decode cX7_takeDone 85 = .ok (.aload_n 0, 1) := by decide +kernel
theorem dX7_takeDone_86 : decode cX7_takeDone 86 = .ok (.getfield 21, 3) := by decide +kernel
theorem dX7_takeDone_89 : decode cX7_takeDone 89 = .ok (.iconst 0, 1) := by decide +kernel
theorem dX7_takeDone_90 : decode cX7_takeDone 90 = .ok (.bastore, 1) := by decide +kernel
theorem dX7_takeDone_91 : decode cX7_takeDone 91 = .ok (.aload_n 0, 1) := by decide +kernel
theorem dX7_takeDone_92 : decode cX7_takeDone 92 = .ok (.dup, 1) := by decide +kernel
theorem dX7_takeDone_93 : decode cX7_takeDone 93 = .ok (.getfield 21, 3) := by decide +kernel
theorem dX7_takeDone_96 : decode cX7_takeDone 96 = .ok (.iconst 1, 1) := by decide +kernel
theorem dX7_takeDone_97 : decode cX7_takeDone 97 = .ok (.iadd, 1) := by decide +kernel
theorem dX7_takeDone_98 : decode cX7_takeDone 98 = .ok (.putfield 21, 3) := by decide +kernel
theorem dX7_takeDone_101 : decode cX7_takeDone 101 = .ok (.iinc 3 1, 3) := by decide +kernel
theorem dX7_takeDone_104 : decode cX7_takeDone 104 = .ok (.goto (-97), 3) := by decide +kernel
theorem dX7_takeDone_107 : decode cX7_takeDone 107 = .ok (.return_, 1) := by decide +kernel
theorem dX7_make_0 : decode cX7_make 0 = .ok (.aload_n 0, 1) := by decide +kernel
theorem dX7_make_1 : decode cX7_make 1 = .ok (.aload_n 1, 1) := by decide +kernel
theorem dX7_make_2 : decode cX7_make 2 = .ok (.putfield 38, 3) := by decide +kernel
theorem dX7_make_5 : decode cX7_make 5 = .ok (.aload_n 0, 1) := by decide +kernel
theorem dX7_make_6 : decode cX7_make 6 = .ok (.aload_n 2, 1) := by decide +kernel
theorem dX7_make_7 : decode cX7_make 7 = .ok (.putfield 42, 3) := by decide +kernel
theorem dX7_make_10 : decode cX7_make 10 = .ok (.aload_n 0, 1) := by decide +kernel
theorem dX7_make_11 : decode cX7_make 11 = .ok (.getfield 42, 3) := by decide +kernel
theorem dX7_make_14 : decode cX7_make 14 = .ok (.invokevirtual 45, 3) := by decide +kernel
theorem dX7_make_17 : decode cX7_make 17 = .ok (.aload_n 0, 1) := by decide +kernel
theorem dX7_make_18 : decode cX7_make 18 = .ok (.getfield 38, 3) := by decide +kernel
theorem dX7_make_21 : decode cX7_make 21 = .ok (.getfield 50, 3) := by decide +kernel
theorem dX7_make_24 : decode cX7_make 24 = .ok (.istore_n 3, 1) := by decide +kernel
theorem dX7_make_25 : decode cX7_make 25 = .ok (.iload_n 3, 1) := by decide +kernel
theorem dX7_make_26 : decode cX7_make 26 = .ok (.ifCond .le 18, 3) := by decide +kernel
theorem dX7_make_29 : decode cX7_make 29 = .ok (.aload_n 0, 1) := by decide +kernel
theorem dX7_make_30 : decode cX7_make 30 = .ok (.iconst 0, 1) := by decide +kernel
theorem dX7_make_31 : decode cX7_make 31 = .ok (.iconst 0, 1) := by decide +kernel
theorem dX7_make_32 : decode cX7_make 32 = .ok (.invokevirtual 53, 3) := by decide +kernel
theorem dX7_make_35 : decode cX7_make 35 = .ok (.aload_n 0, 1) := by decide +kernel
theorem dX7_make_36 : decode cX7_make 36 = .ok (.iconst 0, 1) := by decide +kernel
theorem dX7_make_37 : decode cX7_make 37 = .ok (.iload_n 3, 1) := by decide +kernel
theorem dX7_make_38 : decode cX7_make 38 = .ok (.iconst 1, 1) := by decide +kernel
theorem dX7_make_39 : decode cX7_make 39 = .ok (.isub, 1) := by decide +kernel
theorem dX7_make_40 : decode cX7_make 40 = .ok (.iconst 0, 1) := by decide +kernel
theorem dX7_make_41 : decode cX7_make 41 = .ok (.invokevirtual 57, 3) := by decide +kernel
theorem dX7_make_44 : decode cX7_make 44 = .ok (.aload_n 0, 1) := by decide +kernel
theorem dX7_make_45 : decode cX7_make 45 = .ok (.iload_n 3, 1) := by decide +kernel
theorem dX7_make_46 : decode cX7_make 46 = .ok (.iconst 0, 1) := by decide +kernel
theorem dX7_make_47 : decode cX7_make 47 = .ok (.invokevirtual 53, 3) := by decide +kernel
theorem dX7_make_50 : decode cX7_make 50 = .ok (.return_, 1) := by decide +kernel
theorem dX7_setRow_0 : decode cX7_setRow 0 = .ok (.iload_n 3, 1) := by decide +kernel
theorem dX7_setRow_1 : decode cX7_setRow 1 = .ok (.bipush 40, 2) := by decide +kernel
theorem dX7_setRow_3 : decode cX7_setRow 3 = .ok (.if_icmp .le 4, 3) := by decide +kernel
theorem dX7_setRow_6 : decode cX7_setRow 6 = .ok (.return_, 1) := by decide +kernel
theorem dX7_setRow_7 : decode cX7_setRow 7 = .ok (.iload_n 1, 1) := by decide +kernel
theorem dX7_setRow_8 : decode cX7_setRow 8 = .ok (.istore 4, 2) := by decide +kernel
theorem dX7_setRow_10 : decode cX7_setRow 10 = .ok (.iload_n 1, 1) := by decide +kernel
theorem dX7_setRow_11 : decode cX7_setRow 11 = .ok (.istore 5, 2) := by decide +kernel
theorem dX7_setRow_13 : decode cX7_setRow 13 = .ok (.iload 5, 2) := by decide +kernel
theorem dX7_setRow_15 : decode cX7_setRow 15 = .ok (.iload_n 2, 1) := by decide +kernel
theorem dX7_setRow_16 : decode cX7_setRow 16 = .ok (.if_icmp .gt 41, 3) := by decide +kernel
theorem dX7_setRow_19 : decode cX7_setRow 19 = .ok (.iload 5, 2) := by decide +kernel
theorem dX7_setRow_21 : decode cX7_setRow 21 = .ok (.iload 4, 2) := by decide +kernel
theorem dX7_setRow_23 : decode cX7_setRow 23 = .ok (.if_icmp .ge 6, 3) := by decide +kernel
theorem dX7_setRow_26 : decode cX7_setRow 26 = .ok (.goto 25, 3) := by decide +kernel
theorem dX7_setRow_29 : decode cX7_setRow 29 = .ok (.iload 5, 2) := by decide +kernel
theorem dX7_setRow_31 : decode cX7_setRow 31 = .ok (.iload_n 1, 1) := by decide +kernel
theorem dX7_setRow_32 : decode cX7_setRow 32 = .ok (.if_icmp .le 10, 3) := by decide +kernel
theorem dX7_setRow_35 : decode cX7_setRow 35 = .ok (.aload_n 0, 1) := by decide +kernel
theorem dX7_setRow_36 : decode cX7_setRow 36 = .ok (.iload 5, 2) := by decide +kernel
theorem dX7_setRow_38 : decode cX7_setRow 38 = .ok (.iload_n 3, 1) := by decide +kernel
theorem dX7_setRow_39 : decode cX7_setRow 39 = .ok (.invokevirtual 53, 3) := by decide +kernel
theorem dX7_setRow_42 : decode cX7_setRow 42 = .ok (.aload_n 0, 1) := by decide +kernel
theorem dX7_setRow_43 : decode cX7_setRow 43 = .ok (.iload 5, 2) := by decide +kernel
theorem dX7_setRow_45 : decode cX7_setRow 45 = .ok (.iload_n 3, 1) := by decide +kernel
theorem dX7_setRow_46 : decode cX7_setRow 46 = .ok (.invokevirtual 61, 3) := by decide +kernel
theorem dX7_setRow_49 : decode cX7_setRow 49 = .ok (.istore 4, 2) := by decide +kernel
theorem dX7_setRow_51 : decode cX7_setRow 51 = .ok (.iinc 5 1, 3) := by decide +kernel
theorem dX7_setRow_54 : decode cX7_setRow 54 = .ok (.goto (-41), 3) := by decide +kernel
theorem dX7_setRow_57 : decode cX7_setRow 57 = .ok (.return_, 1) := by decide +kernel
theorem dX7_setGap_0 : decode cX7_setGap 0 = .ok (.iconst 0, 1) := by decide +kernel
theorem dX7_setGap_1 : decode cX7_setGap 1 = .ok (.istore_n 3, 1) := by decide +kernel
theorem dX7_setGap_2 : decode cX7_setGap 2 = .ok (.iload_n 3, 1) := by decide +kernel
theorem dX7_setGap_3 : decode cX7_setGap 3 = .ok (.aload_n 0, 1) := by decide +kernel
theorem dX7_setGap_4 : decode cX7_setGap 4 = .ok (.getfield 21, 3) := by decide +kernel
theorem dX7_setGap_7 : decode cX7_setGap 7 = .ok (.if_icmp .ge 94, 3) := by decide +kernel
theorem dX7_setGap_10 : decode cX7_setGap 10 = .ok (.aload_n 0, 1) := by decide +kernel
theorem dX7_setGap_11 : decode cX7_setGap 11 = .ok (.iload_n 3, 1) := by decide +kernel
theorem dX7_setGap_12 : decode cX7_setGap 12 = .ok (.invokevirtual 65, 3) := by decide +kernel
theorem dX7_setGap_15 : decode cX7_setGap 15 = .ok (.astore 4, 2) := by decide +kernel
theorem dX7_setGap_17 : decode cX7_setGap 17 = .ok (.aload 4, 2) := by decide +kernel
theorem dX7_setGap_19 : decode cX7_setGap 19 = .ok (.ifnull 76, 3) := by decide +kernel
theorem dX7_setGap_22 : decode cX7_setGap 22 = .ok (.aload 4, 2) := by decide +kernel
theorem dX7_setGap_24 : decode cX7_setGap 24 = .ok (.getfield 68, 3) := by decide +kernel
theorem dX7_setGap_27 : decode cX7_setGap 27 = .ok (.iload_n 1, 1) := by decide +kernel
theorem dX7_setGap_28 : decode cX7_setGap 28 = .ok (.if_icmp .ne 67, 3) := by decide +kernel
theorem dX7_setGap_31 : decode cX7_setGap 31 = .ok (.aload_n 0, 1) := by decide +kernel
theorem dX7_setGap_32 : decode cX7_setGap 32 = .ok (.iload_n 3, 1) := by decide +kernel
theorem dX7_setGap_33 : decode cX7_setGap 33 = .ok (.invokevirtual 71, 3) := by decide +kernel
theorem dX7_setGap_36 : decode cX7_setGap 36 = .ok (.ifCond .eq 6, 3) := by decide +kernel
theorem dX7_setGap_39 : decode cX7_setGap 39 = .ok (.goto 56, 3) := by decide +kernel
theorem dX7_setGap_42 : decode cX7_setGap 42 = .ok (.aload 4, 2) := by decide +kernel
theorem dX7_setGap_44 : decode cX7_setGap 44 = .ok (.getfield 75, 3) := by decide +kernel
theorem dX7_setGap_47 : decode cX7_setGap 47 = .ok (.iconst 1, 1) := by decide +kernel
theorem dX7_setGap_48 : decode cX7_setGap 48 = .ok (.if_icmp .ne 18, 3) := by decide +kernel
theorem dX7_setGap_51 : decode cX7_setGap 51 = .ok (.aload_n 0, 1) := by decide +kernel
theorem dX7_setGap_52 : decode cX7_setGap 52 = .ok (.getfield 42, 3) := by decide +kernel
theorem dX7_setGap_55 : decode cX7_setGap 55 = .ok (.aload 4, 2) := by decide +kernel
theorem dX7_setGap_57 : decode cX7_setGap 57 = .ok (.getfield 78, 3) := by decide +kernel
theorem dX7_setGap_60 : decode cX7_setGap 60 = .ok (.invokevirtual 81, 3) := by decide +kernel
theorem dX7_setGap_63 : decode cX7_setGap 63 = .ok (.goto 32, 3) := by decide +kernel
theorem dX7_setGap_66 : decode cX7_setGap 66 = .ok (.aload_n 0, 1) := by decide +kernel
theorem dX7_setGap_67 : decode cX7_setGap 67 = .ok (.iload_n 3, 1) := by decide +kernel
theorem dX7_setGap_68 : decode cX7_setGap 68 = .ok (.iconst 1, 1) := by decide +kernel
theorem dX7_setGap_69 : decode cX7_setGap 69 = .ok (.invokevirtual 85, 3) := by decide +kernel
theorem dX7_setGap_72 : decode cX7_setGap 72 = .ok (.aload_n 0, 1) := by decide +kernel
theorem dX7_setGap_73 : decode cX7_setGap 73 = .ok (.aload 4, 2) := by decide +kernel
theorem dX7_setGap_75 : decode cX7_setGap 75 = .ok (.getfield 89, 3) := by decide +kernel
theorem dX7_setGap_78 : decode cX7_setGap 78 = .ok (.aload 4, 2) := by decide +kernel
theorem dX7_setGap_80 : decode cX7_setGap 80 = .ok (.getfield 92, 3) := by decide +kernel
theorem dX7_setGap_83 : decode cX7_setGap 83 = .ok (.iload_n 2, 1) := by decide +kernel
theorem dX7_setGap_84 : decode cX7_setGap 84 = .ok (.iconst 1, 1) := by decide +kernel
theorem dX7_setGap_85 : decode cX7_setGap 85 = .ok (.iadd, 1) := by decide +kernel
theorem dX7_setGap_86 : decode cX7_setGap 86 = .ok (.invokevirtual 57, 3) := by decide +kernel
theorem dX7_setGap_89 : decode cX7_setGap 89 = .ok (.aload_n 0, 1) := by decide +kernel
theorem dX7_setGap_90 : decode cX7_setGap 90 = .ok (.iload_n 3, 1) := by decide +kernel
theorem dX7_setGap_91 : decode cX7_setGap 91 = .ok (.iconst 0, 1) := by decide +kernel
theorem dX7_setGap_92 : decode cX7_setGap 92 = .ok (.invokevirtual 85, 3) := by decide +kernel
theorem dX7_setGap_95 : decode cX7_setGap 95 = .ok (.iinc 3 1, 3) := by decide +kernel
theorem dX7_setGap_98 : decode cX7_setGap 98 = .ok (.goto (-96), 3) := by decide +kernel
theorem dX7_setGap_101 : decode cX7_setGap 101 = .ok (.return_, 1) := by decide +kernel
theorem dX7_setPiece_0 : decode cX7_setPiece 0 = .ok (.aload_n 0, 1) := by decide +kernel
theorem dX7_setPiece_1 : decode cX7_setPiece 1 = .ok (.iload_n 1, 1) := by decide +kernel
theorem dX7_setPiece_2 : decode cX7_setPiece 2 = .ok (.invokevirtual 95, 3) := by decide +kernel
theorem dX7_setPiece_5 : decode cX7_setPiece 5 = .ok (.istore_n 3, 1) := by decide +kernel
theorem dX7_setPiece_6 : decode cX7_setPiece 6 = .ok (.aload_n 0, 1) := by decide +kernel
theorem dX7_setPiece_7 : decode cX7_setPiece 7 = .ok (.iload_n 3, 1) := by decide +kernel
theorem dX7_setPiece_8 : decode cX7_setPiece 8 = .ok (.invokevirtual 65, 3) := by decide +kernel
theorem dX7_setPiece_11 : decode cX7_setPiece 11 = .ok (.astore 4, 2) := by decide +kernel
theorem dX7_setPiece_13 : decode cX7_setPiece 13 = .ok (.aload 4, 2) := by decide +kernel
theorem dX7_setPiece_15 : decode cX7_setPiece 15 = .ok (.ifnonnull 22, 3) := by decide +kernel
theorem dX7_setPiece_18 : decode cX7_setPiece 18 = .ok (.aload_n 0, 1) := by decide +kernel
theorem dX7_setPiece_19 : decode cX7_setPiece 19 = .ok (.getfield 42, 3) := by decide +kernel
theorem dX7_setPiece_22 : decode cX7_setPiece 22 = .ok (.aload_n 0, 1) := by decide +kernel
theorem dX7_setPiece_23 : decode cX7_setPiece 23 = .ok (.getfield 38, 3) := by decide +kernel
theorem dX7_setPiece_26 : decode cX7_setPiece 26 = .ok (.iload_n 1, 1) := by decide +kernel
theorem dX7_setPiece_27 : decode cX7_setPiece 27 = .ok (.invokevirtual 98, 3) := by decide +kernel
theorem dX7_setPiece_30 : decode cX7_setPiece 30 = .ok (.invokevirtual 102, 3) := by decide +kernel
theorem dX7_setPiece_33 : decode cX7_setPiece 33 = .ok (.iload_n 1, 1) := by decide +kernel
theorem dX7_setPiece_34 : decode cX7_setPiece 34 = .ok (.iconst 1, 1) := by decide +kernel
theorem dX7_setPiece_35 : decode cX7_setPiece 35 = .ok (.iadd, 1) := by decide +kernel
theorem dX7_setPiece_36 : decode cX7_setPiece 36 = .ok (.ireturn, 1) := by decide +kernel
theorem dX7_setPiece_37 : decode cX7_setPiece 37 = .ok (.aload 4, 2) := by decide +kernel
theorem dX7_setPiece_39 : decode cX7_setPiece 39 = .ok (.getfield 75, 3) := by decide +kernel
theorem dX7_setPiece_42 : decode cX7_setPiece 42 = .ok (.iconst 2, 1) := by decide +kernel
theorem dX7_setPiece_43 : decode cX7_setPiece 43 = .ok (.if_icmp .ne 15, 3) := by decide +kernel
theorem dX7_setPiece_46 : decode cX7_setPiece 46 = .ok (.aload_n 0, 1) := by decide +kernel
theorem dX7_setPiece_47 : decode cX7_setPiece 47 = .ok (.getfield 42, 3) := by decide +kernel
theorem dX7_setPiece_50 : decode cX7_setPiece 50 = .ok (.aload 4, 2) := by decide +kernel
theorem dX7_setPiece_52 : decode cX7_setPiece 52 = .ok (.getfield 78, 3) := by decide +kernel
theorem dX7_setPiece_55 : decode cX7_setPiece 55 = .ok (.invokevirtual 81, 3) := by decide +kernel
theorem dX7_setPiece_58 : decode cX7_setPiece 58 = .ok (.aload 4, 2) := by decide +kernel
theorem dX7_setPiece_60 : decode cX7_setPiece 60 = .ok (.getfield 75, 3) := by decide +kernel
theorem dX7_setPiece_63 : decode cX7_setPiece 63 = .ok (.iconst 3, 1) := by decide +kernel
theorem dX7_setPiece_64 : decode cX7_setPiece 64 = .ok (.if_icmp .ne 53, 3) := by decide +kernel
theorem dX7_setPiece_67 : decode cX7_setPiece 67 = .ok (.aload_n 0, 1) := by decide +kernel
theorem dX7_setPiece_68 : decode cX7_setPiece 68 = .ok (.iload_n 3, 1) := by decide +kernel
theorem dX7_setPiece_69 : decode cX7_setPiece 69 = .ok (.iconst 1, 1) := by decide +kernel
theorem dX7_setPiece_70 : decode cX7_setPiece 70 = .ok (.invokevirtual 85, 3) := by decide +kernel
theorem dX7_setPiece_73 : decode cX7_setPiece 73 = .ok (.aload_n 0, 1) := by decide +kernel
theorem dX7_setPiece_74 : decode cX7_setPiece 74 = .ok (.aload 4, 2) := by decide +kernel
theorem dX7_setPiece_76 : decode cX7_setPiece 76 = .ok (.iconst 1, 1) := by decide +kernel
theorem dX7_setPiece_77 : decode cX7_setPiece 77 = .ok (.invokevirtual 106, 3) := by decide +kernel
theorem dX7_setPiece_80 : decode cX7_setPiece 80 = .ok (.aload 4, 2) := by decide +kernel
theorem dX7_setPiece_82 : decode cX7_setPiece 82 = .ok (.getfield 92, 3) := by decide +kernel
theorem dX7_setPiece_85 : decode cX7_setPiece 85 = .ok (.iload_n 2, 1) := by decide +kernel
theorem dX7_setPiece_86 : decode cX7_setPiece 86 = .ok (.iconst 1, 1) := by decide +kernel
theorem dX7_setPiece_87 : decode cX7_setPiece 87 = .ok (.iadd, 1) := by decide +kernel
theorem dX7_setPiece_88 : decode cX7_setPiece 88 = .ok (.invokevirtual 57, 3) := by decide +kernel
theorem dX7_setPiece_91 : decode cX7_setPiece 91 = .ok (.aload_n 0, 1) := by decide +kernel
theorem dX7_setPiece_92 : decode cX7_setPiece 92 = .ok (.aload 4, 2) := by decide +kernel
theorem dX7_setPiece_94 : decode cX7_setPiece 94 = .ok (.getfield 89, 3) := by decide +kernel
theorem dX7_setPiece_97 : decode cX7_setPiece 97 = .ok (.aload 4, 2) := by decide +kernel
theorem dX7_setPiece_99 : decode cX7_setPiece 99 = .ok (.iconst 1, 1) := by decide +kernel
theorem dX7_setPiece_100 : decode cX7_setPiece 100 = .ok (.invokevirtual 106, 3) := by decide +kernel
theorem dX7_setPiece_103 : decode cX7_setPiece 103 = .ok (.iconst 1, 1) := by decide +kernel
theorem dX7_setPiece_104 : decode cX7_setPiece 104 = .ok (.isub, 1) := by decide +kernel
theorem dX7_setPiece_105 : decode cX7_setPiece 105 = .ok (.iload_n 2, 1) := by decide +kernel
theorem dX7_setPiece_106 : decode cX7_setPiece 106 = .ok (.iconst 1, 1) := by decide +kernel
theorem dX7_setPiece_107 : decode cX7_setPiece 107 = .ok (.iadd, 1) := by decide +kernel
theorem dX7_setPiece_108 : decode cX7_setPiece 108 = .ok (.invokevirtual 57, 3) := by decide +kernel
theorem dX7_setPiece_111 : decode cX7_setPiece 111 = .ok (.aload_n 0, 1) := by decide +kernel
theorem dX7_setPiece_112 : decode cX7_setPiece 112 = .ok (.iload_n 3, 1) := by decide +kernel
theorem dX7_setPiece_113 : decode cX7_setPiece 113 = .ok (.iconst 0, 1) := by decide +kernel
theorem dX7_setPiece_114 : decode cX7_setPiece 114 = .ok (.invokevirtual 85, 3) := by decide +kernel
theorem dX7_setPiece_117 : decode cX7_setPiece 117 = .ok (.aload 4, 2) := by decide +kernel
theorem dX7_setPiece_119 : decode cX7_setPiece 119 = .ok (.getfield 92, 3) := by decide +kernel
theorem dX7_setPiece_122 : decode cX7_setPiece 122 = .ok (.iconst 1, 1) := by decide +kernel
theorem dX7_setPiece_123 : decode cX7_setPiece 123 = .ok (.iadd, 1) := by decide +kernel
theorem dX7_setPiece_124 : decode cX7_setPiece 124 = .ok (.ireturn, 1) := by decide +kernel
theorem dX7_outermostAt_0 : decode cX7_outermostAt 0 = .ok (.iconst (-1), 1) := by decide +kernel
theorem dX7_outermostAt_1 : decode cX7_outermostAt 1 = .ok (.istore_n 2, 1) := by decide +kernel
theorem dX7_outermostAt_2 : decode cX7_outermostAt 2 = .ok (.iconst (-1), 1) := by decide +kernel
theorem dX7_outermostAt_3 : decode cX7_outermostAt 3 = .ok (.istore_n 3, 1) := by decide +kernel
theorem dX7_outermostAt_4 : decode cX7_outermostAt 4 = .ok (.iconst 0, 1) := by decide +kernel
theorem dX7_outermostAt_5 : decode cX7_outermostAt 5 = .ok (.istore 4, 2) := by decide +kernel
theorem dX7_outermostAt_7 : decode cX7_outermostAt 7 = .ok (.iload 4, 2) := by decide +kernel
theorem dX7_outermostAt_9 : decode cX7_outermostAt 9 = .ok (.aload_n 0, 1) := by decide +kernel
theorem dX7_outermostAt_10 : decode cX7_outermostAt 10 = .ok (.getfield 21, 3) := by decide +kernel
theorem dX7_outermostAt_13 : decode cX7_outermostAt 13 = .ok (.if_icmp .ge 88, 3) := by decide +kernel
theorem dX7_outermostAt_16 : decode cX7_outermostAt 16 = .ok (.aload_n 0, 1) := by decide +kernel
theorem dX7_outermostAt_17 : decode cX7_outermostAt 17 = .ok (.iload 4, 2) := by decide +kernel
theorem dX7_outermostAt_19 : decode cX7_outermostAt 19 = .ok (.invokevirtual 65, 3) := by decide +kernel
theorem dX7_outermostAt_22 : decode cX7_outermostAt 22 = .ok (.astore 5, 2) := by decide +kernel
theorem dX7_outermostAt_24 : decode cX7_outermostAt 24 = .ok (.aload 5, 2) := by decide +kernel
theorem dX7_outermostAt_26 : decode cX7_outermostAt 26 = .ok (.ifnull 69, 3) := by decide +kernel
theorem dX7_outermostAt_29 : decode cX7_outermostAt 29 = .ok (.aload_n 0, 1) := by decide +kernel
theorem dX7_outermostAt_30 : decode cX7_outermostAt 30 = .ok (.iload 4, 2) := by decide +kernel
theorem dX7_outermostAt_32 : decode cX7_outermostAt 32 = .ok (.invokevirtual 71, 3) := by decide +kernel
theorem dX7_outermostAt_35 : decode cX7_outermostAt 35 = .ok (.ifCond .ne 60, 3) := by decide +kernel
theorem dX7_outermostAt_38 : decode cX7_outermostAt 38 = .ok (.aload 5, 2) := by decide +kernel
theorem dX7_outermostAt_40 : decode cX7_outermostAt 40 = .ok (.getfield 75, 3) := by decide +kernel
theorem dX7_outermostAt_43 : decode cX7_outermostAt 43 = .ok (.iconst 1, 1) := by decide +kernel
theorem dX7_outermostAt_44 : decode cX7_outermostAt 44 = .ok (.if_icmp .eq 51, 3) := by decide +kernel
theorem dX7_outermostAt_47 : decode cX7_outermostAt 47 = .ok (.aload 5, 2) := by decide +kernel
theorem dX7_outermostAt_49 : decode cX7_outermostAt 49 = .ok (.getfield 89, 3) := by decide +kernel
theorem dX7_outermostAt_52 : decode cX7_outermostAt 52 = .ok (.iload_n 1, 1) := by decide +kernel
theorem dX7_outermostAt_53 : decode cX7_outermostAt 53 = .ok (.if_icmp .eq 6, 3) := by decide +kernel
theorem dX7_outermostAt_56 : decode cX7_outermostAt 56 = .ok (.goto 39, 3) := by decide +kernel
theorem dX7_outermostAt_59 : decode cX7_outermostAt 59 = .ok (.aload 5, 2) := by decide +kernel
theorem dX7_outermostAt_61 : decode cX7_outermostAt 61 = .ok (.getfield 92, 3) := by decide +kernel
theorem dX7_outermostAt_64 : decode cX7_outermostAt 64 = .ok (.iload_n 3, 1) := by decide +kernel
theorem dX7_outermostAt_65 : decode cX7_outermostAt 65 = .ok (.if_icmp .gt 21, 3) := by decide +kernel
theorem dX7_outermostAt_68 : decode cX7_outermostAt 68 = .ok (.aload 5, 2) := by decide +kernel
theorem dX7_outermostAt_70 : decode cX7_outermostAt 70 = .ok (.getfield 92, 3) := by decide +kernel
theorem dX7_outermostAt_73 : decode cX7_outermostAt 73 = .ok (.iload_n 3, 1) := by decide +kernel
theorem dX7_outermostAt_74 : decode cX7_outermostAt 74 = .ok (.if_icmp .ne 21, 3) := by decide +kernel
theorem dX7_outermostAt_77 : decode cX7_outermostAt 77 = .ok (.aload 5, 2) := by decide +kernel
theorem dX7_outermostAt_79 : decode cX7_outermostAt 79 = .ok (.getfield 75, 3) := by decide +kernel
theorem dX7_outermostAt_82 : decode cX7_outermostAt 82 = .ok (.iconst 4, 1) := by decide +kernel
theorem dX7_outermostAt_83 : decode cX7_outermostAt 83 = .ok (.if_icmp .ne 12, 3) := by decide +kernel
theorem dX7_outermostAt_86 : decode cX7_outermostAt 86 = .ok (.iload 4, 2) := by decide +kernel
theorem dX7_outermostAt_88 : decode cX7_outermostAt 88 = .ok (.istore_n 2, 1) := by decide +kernel
theorem dX7_outermostAt_89 : decode cX7_outermostAt 89 = .ok (.aload 5, 2) := by decide +kernel
theorem dX7_outermostAt_91 : decode cX7_outermostAt 91 = .ok (.getfield 92, 3) := by decide +kernel
theorem dX7_outermostAt_94 : decode cX7_outermostAt 94 = .ok (.istore_n 3, 1) := by decide +kernel
theorem dX7_outermostAt_95 : decode cX7_outermostAt 95 = .ok (.iinc 4 1, 3) := by decide +kernel
theorem dX7_outermostAt_98 : decode cX7_outermostAt 98 = .ok (.goto (-91), 3) := by decide +kernel
theorem dX7_outermostAt_101 : decode cX7_outermostAt 101 = .ok (.iload_n 2, 1) := by decide +kernel
theorem dX7_outermostAt_102 : decode cX7_outermostAt 102 = .ok (.ireturn, 1) := by decide +kernel
theorem dX7_takenAt_0 : decode cX7_takenAt 0 = .ok (.iload_n 1, 1) := by decide +kernel
theorem dX7_takenAt_1 : decode cX7_takenAt 1 = .ok (.ifCond .lt 20, 3) := by decide +kernel
theorem dX7_takenAt_4 : decode cX7_takenAt 4 = .ok (.iload_n 1, 1) := by decide +kernel
theorem dX7_takenAt_5 : decode cX7_takenAt 5 = .ok (.aload_n 0, 1) := by decide +kernel
theorem dX7_takenAt_6 : decode cX7_takenAt 6 = .ok (.getfield 21, 3) := by decide +kernel
theorem dX7_takenAt_9 : decode cX7_takenAt 9 = .ok (.if_icmp .ge 12, 3) := by decide +kernel
theorem dX7_takenAt_12 : decode cX7_takenAt 12 = .ok (.iload_n 1, 1) := by decide +kernel
theorem dX7_takenAt_13 : decode cX7_takenAt 13 = .ok (.aload_n 0, 1) := by decide +kernel
theorem dX7_takenAt_14 : decode cX7_takenAt 14 = .ok (.getfield 11, 3) := by decide +kernel
theorem dX7_takenAt_17 : decode cX7_takenAt 17 = .ok (.arraylength, 1) := by decide +kernel
theorem dX7_takenAt_18 : decode cX7_takenAt 18 = .ok (.if_icmp .lt 7, 3) := by decide +kernel
theorem dX7_takenAt_21 : decode cX7_takenAt 21 = .ok (.aconst_null, 1) := by decide +kernel
theorem dX7_takenAt_22 : decode cX7_takenAt 22 = .ok (.goto 9, 3) := by decide +kernel
theorem dX7_takenAt_25 : decode cX7_takenAt 25 = .ok (.aload_n 0, 1) := by decide +kernel
theorem dX7_takenAt_26 : decode cX7_takenAt 26 = .ok (.getfield 11, 3) := by decide +kernel
theorem dX7_takenAt_29 : decode cX7_takenAt 29 = .ok (.iload_n 1, 1) := by decide +kernel
theorem dX7_takenAt_30 : decode cX7_takenAt 30 = .ok (.aaload, 1) := by decide +kernel
theorem dX7_takenAt_31 : decode cX7_takenAt 31 = .ok (.areturn, 1) := by decide +kernel
theorem dX7_isOpen_0 : decode cX7_isOpen 0 = .ok (.iload_n 1, 1) := by decide +kernel
theorem dX7_isOpen_1 : decode cX7_isOpen 1 = .ok (.ifCond .lt 25, 3) := by decide +kernel
theorem dX7_isOpen_4 : decode cX7_isOpen 4 = .ok (.iload_n 1, 1) := by decide +kernel
theorem dX7_isOpen_5 : decode cX7_isOpen 5 = .ok (.aload_n 0, 1) := by decide +kernel
theorem dX7_isOpen_6 : decode cX7_isOpen 6 = .ok (.getfield 17, 3) := by decide +kernel
theorem dX7_isOpen_9 : decode cX7_isOpen 9 = .ok (.arraylength, 1) := by decide +kernel
theorem dX7_isOpen_10 : decode cX7_isOpen 10 = .ok (.if_icmp .ge 16, 3) := by decide +kernel
theorem dX7_isOpen_13 : decode cX7_isOpen 13 = .ok (.aload_n 0, 1) := by decide +kernel
theorem dX7_isOpen_14 : decode cX7_isOpen 14 = .ok (.getfield 17, 3) := by decide +kernel
theorem dX7_isOpen_17 : decode cX7_isOpen 17 = .ok (.iload_n 1, 1) := by decide +kernel
theorem dX7_isOpen_18 : decode cX7_isOpen 18 = .ok (.baload, 1) := by decide +kernel
theorem dX7_isOpen_19 : decode cX7_isOpen 19 = .ok (.ifCond .eq 7, 3) := by decide +kernel
theorem dX7_isOpen_22 : decode cX7_isOpen 22 = .ok (.iconst 1, 1) := by decide +kernel
theorem dX7_isOpen_23 : decode cX7_isOpen 23 = .ok (.goto 4, 3) := by decide +kernel
theorem dX7_isOpen_26 : decode cX7_isOpen 26 = .ok (.iconst 0, 1) := by decide +kernel
theorem dX7_isOpen_27 : decode cX7_isOpen 27 = .ok (.ireturn, 1) := by decide +kernel
theorem dX7_mind_0 : decode cX7_mind 0 = .ok (.iload_n 1, 1) := by decide +kernel
theorem dX7_mind_1 : decode cX7_mind 1 = .ok (.ifCond .lt 19, 3) := by decide +kernel
theorem dX7_mind_4 : decode cX7_mind 4 = .ok (.iload_n 1, 1) := by decide +kernel
theorem dX7_mind_5 : decode cX7_mind 5 = .ok (.aload_n 0, 1) := by decide +kernel
theorem dX7_mind_6 : decode cX7_mind 6 = .ok (.getfield 17, 3) := by decide +kernel
theorem dX7_mind_9 : decode cX7_mind 9 = .ok (.arraylength, 1) := by decide +kernel
theorem dX7_mind_10 : decode cX7_mind 10 = .ok (.if_icmp .ge 10, 3) := by decide +kernel
theorem dX7_mind_13 : decode cX7_mind 13 = .ok (.aload_n 0, 1) := by decide +kernel
theorem dX7_mind_14 : decode cX7_mind 14 = .ok (.getfield 17, 3) := by decide +kernel
theorem dX7_mind_17 : decode cX7_mind 17 = .ok (.iload_n 1, 1) := by decide +kernel
theorem dX7_mind_18 : decode cX7_mind 18 = .ok (.iload_n 2, 1) := by decide +kernel
theorem dX7_mind_19 : decode cX7_mind 19 = .ok (.bastore, 1) := by decide +kernel
theorem dX7_mind_20 : decode cX7_mind 20 = .ok (.return_, 1) := by decide +kernel
theorem dX8_init_0 : decode cX8_init 0 = .ok (.aload_n 0, 1) := by decide +kernel
theorem dX8_init_1 : decode cX8_init 1 = .ok (.invokespecial 1, 3) := by decide +kernel
theorem dX8_init_4 : decode cX8_init 4 = .ok (.aload_n 0, 1) := by decide +kernel
theorem dX8_init_5 : decode cX8_init 5 = .ok (.iload_n 1, 1) := by decide +kernel
theorem dX8_init_6 : decode cX8_init 6 = .ok (.ifCond .ge 7, 3) := by decide +kernel
theorem dX8_init_9 : decode cX8_init 9 = .ok (.iconst 0, 1) := by decide +kernel
theorem dX8_init_10 : decode cX8_init 10 = .ok (.goto 4, 3) := by decide +kernel
theorem dX8_init_13 : decode cX8_init 13 = .ok (.iload_n 1, 1) := by decide +kernel
theorem dX8_init_14 : decode cX8_init 14 = .ok (.newarray .long, 2) := by decide +kernel
theorem dX8_init_16 : decode cX8_init 16 = .ok (.putfield 7, 3) := by decide +kernel
theorem dX8_init_19 : decode cX8_init 19 = .ok (.return_, 1) := by decide +kernel
theorem dX8_clear_0 : decode cX8_clear 0 = .ok (.aload_n 0, 1) := by decide +kernel
theorem dX8_clear_1 : decode cX8_clear 1 = .ok (.iconst 0, 1) := by decide +kernel
theorem dX8_clear_2 : decode cX8_clear 2 = .ok (.putfield 13, 3) := by decide +kernel
theorem dX8_clear_5 : decode cX8_clear 5 = .ok (.return_, 1) := by decide +kernel
theorem dX8_add_0 : decode cX8_add 0 = .ok (.aload_n 0, 1) := by decide +kernel
theorem dX8_add_1 : decode cX8_add 1 = .ok (.getfield 13, 3) := by decide +kernel
theorem dX8_add_4 : decode cX8_add 4 = .ok (.ifCond .lt 35, 3) := by decide +kernel
theorem dX8_add_7 : decode cX8_add 7 = .ok (.aload_n 0, 1) := by decide +kernel
theorem dX8_add_8 : decode cX8_add 8 = .ok (.getfield 13, 3) := by decide +kernel
theorem dX8_add_11 : decode cX8_add 11 = .ok (.aload_n 0, 1) := by decide +kernel
theorem dX8_add_12 : decode cX8_add 12 = .ok (.getfield 7, 3) := by decide +kernel
theorem dX8_add_15 : decode cX8_add 15 = .ok (.arraylength, 1) := by decide +kernel
theorem dX8_add_16 : decode cX8_add 16 = .ok (.if_icmp .ge 23, 3) := by decide +kernel
theorem dX8_add_19 : decode cX8_add 19 = .ok (.aload_n 0, 1) := by decide +kernel
theorem dX8_add_20 : decode cX8_add 20 = .ok (.getfield 7, 3) := by decide +kernel
theorem dX8_add_23 : decode cX8_add 23 = .ok (.aload_n 0, 1) := by decide +kernel
theorem dX8_add_24 : decode cX8_add 24 = .ok (.getfield 13, 3) := by decide +kernel
theorem dX8_add_27 : decode cX8_add 27 = .ok (.lload_n 1, 1) := by decide +kernel
theorem dX8_add_28 : decode cX8_add 28 = .ok (.lastore, 1) := by decide +kernel
theorem dX8_add_29 : decode cX8_add 29 = .ok (.aload_n 0, 1) := by decide +kernel
theorem dX8_add_30 : decode cX8_add 30 = .ok (.dup, 1) := by decide +kernel
theorem dX8_add_31 : decode cX8_add 31 = .ok (.getfield 13, 3) := by decide +kernel
theorem dX8_add_34 : decode cX8_add 34 = .ok (.iconst 1, 1) := by decide +kernel
theorem dX8_add_35 : decode cX8_add 35 = .ok (.iadd, 1) := by decide +kernel
theorem dX8_add_36 : decode cX8_add 36 = .ok (.putfield 13, 3) := by decide +kernel
theorem dX8_add_39 : decode cX8_add 39 = .ok (.return_, 1) := by decide +kernel
theorem dX8_addAll_0 : decode cX8_addAll 0 = .ok (.iconst 0, 1) := by decide +kernel
theorem dX8_addAll_1 : decode cX8_addAll 1 = .ok (.istore_n 2, 1) := by decide +kernel
theorem dX8_addAll_2 : decode cX8_addAll 2 = .ok (.iload_n 2, 1) := by decide +kernel
theorem dX8_addAll_3 : decode cX8_addAll 3 = .ok (.aload_n 1, 1) := by decide +kernel
theorem dX8_addAll_4 : decode cX8_addAll 4 = .ok (.getfield 13, 3) := by decide +kernel
theorem dX8_addAll_7 : decode cX8_addAll 7 = .ok (.if_icmp .ge 18, 3) := by decide +kernel
theorem dX8_addAll_10 : decode cX8_addAll 10 = .ok (.aload_n 0, 1) := by decide +kernel
theorem dX8_addAll_11 : decode cX8_addAll 11 = .ok (.aload_n 1, 1) := by decide +kernel
theorem dX8_addAll_12 : decode cX8_addAll 12 = .ok (.iload_n 2, 1) := by decide +kernel
theorem dX8_addAll_13 : decode cX8_addAll 13 = .ok (.invokevirtual 17, 3) := by decide +kernel
theorem dX8_addAll_16 : decode cX8_addAll 16 = .ok (.invokevirtual 21, 3) := by decide +kernel
theorem dX8_addAll_19 : decode cX8_addAll 19 = .ok (.iinc 2 1, 3) := by decide +kernel
theorem dX8_addAll_22 : decode cX8_addAll 22 = .ok (.goto (-20), 3) := by decide +kernel
theorem dX8_addAll_25 : decode cX8_addAll 25 = .ok (.return_, 1) := by decide +kernel
theorem dX8_copyFrom_0 : decode cX8_copyFrom 0 = .ok (.aload_n 0, 1) := by decide +kernel
theorem dX8_copyFrom_1 : decode cX8_copyFrom 1 = .ok (.invokevirtual 25, 3) := by decide +kernel
theorem dX8_copyFrom_4 : decode cX8_copyFrom 4 = .ok (.aload_n 0, 1) := by decide +kernel
theorem dX8_copyFrom_5 : decode cX8_copyFrom 5 = .ok (.aload_n 1, 1) := by decide +kernel
theorem dX8_copyFrom_6 : decode cX8_copyFrom 6 = .ok (.invokevirtual 28, 3) := by decide +kernel
theorem dX8_copyFrom_9 : decode cX8_copyFrom 9 = .ok (.return_, 1) := by decide +kernel
theorem dX8_wordAt_0 : decode cX8_wordAt 0 = .ok (.iload_n 1, 1) := by decide +kernel
theorem dX8_wordAt_1 : decode cX8_wordAt 1 = .ok (.ifCond .lt 20, 3) := by decide +kernel
theorem dX8_wordAt_4 : decode cX8_wordAt 4 = .ok (.iload_n 1, 1) := by decide +kernel
theorem dX8_wordAt_5 : decode cX8_wordAt 5 = .ok (.aload_n 0, 1) := by decide +kernel
theorem dX8_wordAt_6 : decode cX8_wordAt 6 = .ok (.getfield 13, 3) := by decide +kernel
theorem dX8_wordAt_9 : decode cX8_wordAt 9 = .ok (.if_icmp .ge 12, 3) := by decide +kernel
theorem dX8_wordAt_12 : decode cX8_wordAt 12 = .ok (.iload_n 1, 1) := by decide +kernel
theorem dX8_wordAt_13 : decode cX8_wordAt 13 = .ok (.aload_n 0, 1) := by decide +kernel
theorem dX8_wordAt_14 : decode cX8_wordAt 14 = .ok (.getfield 7, 3) := by decide +kernel
theorem dX8_wordAt_17 : decode cX8_wordAt 17 = .ok (.arraylength, 1) := by decide +kernel
theorem dX8_wordAt_18 : decode cX8_wordAt 18 = .ok (.if_icmp .lt 7, 3) := by decide +kernel
theorem dX8_wordAt_21 : decode cX8_wordAt 21 = .ok (.lconst 0, 1) := by decide +kernel
theorem dX8_wordAt_22 : decode cX8_wordAt 22 = .ok (.goto 9, 3) := by decide +kernel
theorem dX8_wordAt_25 : decode cX8_wordAt 25 = .ok (.aload_n 0, 1) := by decide +kernel
theorem dX8_wordAt_26 : decode cX8_wordAt 26 = .ok (.getfield 7, 3) := by decide +kernel
theorem dX8_wordAt_29 : decode cX8_wordAt 29 = .ok (.iload_n 1, 1) := by decide +kernel
theorem dX8_wordAt_30 : decode cX8_wordAt 30 = .ok (.laload, 1) := by decide +kernel
theorem dX8_wordAt_31 : decode cX8_wordAt 31 = .ok (.lreturn, 1) := by decide +kernel
theorem dX9_init_0 : decode cX9_init 0 = .ok (.aload_n 0, 1) := by decide +kernel
theorem dX9_init_1 : decode cX9_init 1 = .ok (.invokespecial 3, 3) := by decide +kernel
theorem dX9_init_4 : decode cX9_init 4 = .ok (.aload_n 0, 1) := by decide +kernel
theorem dX9_init_5 : decode cX9_init 5 = .ok (.new 9, 3) := by decide +kernel
theorem dX9_init_8 : decode cX9_init 8 = .ok (.dup, 1) := by decide +kernel
theorem dX9_init_9 : decode cX9_init 9 = .ok (.sipush 150, 3) := by decide +kernel
theorem dX9_init_12 : decode cX9_init 12 = .ok (.invokespecial 11, 3) := by decide +kernel
theorem dX9_init_15 : decode cX9_init 15 = .ok (.putfield 14, 3) := by decide +kernel
theorem dX9_init_18 : decode cX9_init 18 = .ok (.return_, 1) := by decide +kernel
theorem dX9_readProof_0 : decode cX9_readProof 0 = .ok (.aload_n 0, 1) := by decide +kernel
theorem dX9_readProof_1 : decode cX9_readProof 1 = .ok (.getfield 14, 3) := by decide +kernel
theorem dX9_readProof_4 : decode cX9_readProof 4 = .ok (.invokevirtual 20, 3) := by decide +kernel
theorem dX9_readProof_7 : decode cX9_readProof 7 = .ok (.aload_n 3, 1) := by decide +kernel
theorem dX9_readProof_8 : decode cX9_readProof 8 = .ok (.invokevirtual 23, 3) := by decide +kernel
theorem dX9_readProof_11 : decode cX9_readProof 11 = .ok (.lconst 0, 1) := by decide +kernel
theorem dX9_readProof_12 : decode cX9_readProof 12 = .ok (.lstore 4, 2) := by decide +kernel
theorem dX9_readProof_14 : decode cX9_readProof 14 = .ok (.iconst 0, 1) := by decide +kernel
theorem dX9_readProof_15 : decode cX9_readProof 15 = .ok (.istore 6, 2) := by decide +kernel
theorem dX9_readProof_17 : decode cX9_readProof 17 = .ok (.iconst 0, 1) := by decide +kernel
theorem dX9_readProof_18 : decode cX9_readProof 18 = .ok (.istore 7, 2) := by decide +kernel
theorem dX9_readProof_20 : decode cX9_readProof 20 = .ok (.iload 7, 2) := by decide +kernel
theorem dX9_readProof_22 : decode cX9_readProof 22 = .ok (.aload_n 1, 1) := by decide +kernel
theorem dX9_readProof_23 : decode cX9_readProof 23 = .ok (.getfield 26, 3) := by decide +kernel
theorem dX9_readProof_26 : decode cX9_readProof 26 = .ok (.if_icmp .ge 103, 3) := by decide +kernel
theorem dX9_readProof_29 : decode cX9_readProof 29 = .ok (.aload_n 1, 1) := by decide +kernel
theorem dX9_readProof_30 : decode cX9_readProof 30 = .ok (.iload 7, 2) := by decide +kernel
theorem dX9_readProof_32 : decode cX9_readProof 32 = .ok (.invokevirtual 32, 3) := by decide +kernel
theorem dX9_readProof_35 : decode cX9_readProof 35 = .ok (.istore 8, 2) := by decide +kernel
theorem dX9_readProof_37 : decode cX9_readProof 37 = .ok (.iload 8, 2) := by decide +kernel
theorem dX9_readProof_39 : decode cX9_readProof 39 = .ok (.invokestatic 36, 3) := by decide +kernel
theorem dX9_readProof_42 : decode cX9_readProof 42 = .ok (.ifCond .eq 20, 3) := by decide +kernel
theorem dX9_readProof_45 : decode cX9_readProof 45 = .ok (.aload_n 0, 1) := by decide +kernel
theorem dX9_readProof_46 : decode cX9_readProof 46 = .ok (.lload 4, 2) := by decide +kernel
theorem dX9_readProof_48 : decode cX9_readProof 48 = .ok (.iload 6, 2) := by decide +kernel
theorem dX9_readProof_50 : decode cX9_readProof 50 = .ok (.invokevirtual 40, 3) := by decide +kernel
theorem dX9_readProof_53 : decode cX9_readProof 53 = .ok (.lconst 0, 1) := by decide +kernel
theorem dX9_readProof_54 : decode cX9_readProof 54 = .ok (.lstore 4, 2) := by decide +kernel
theorem dX9_readProof_56 : decode cX9_readProof 56 = .ok (.iconst 0, 1) := by decide +kernel
theorem dX9_readProof_57 : decode cX9_readProof 57 = .ok (.istore 6, 2) := by decide +kernel
theorem dX9_readProof_59 : decode cX9_readProof 59 = .ok (.goto 64, 3) := by decide +kernel
theorem dX9_readProof_62 : decode cX9_readProof 62 = .ok (.iload 8, 2) := by decide +kernel
theorem dX9_readProof_64 : decode cX9_readProof 64 = .ok (.invokestatic 44, 3) := by decide +kernel
theorem dX9_readProof_67 : decode cX9_readProof 67 = .ok (.ifCond .eq 10, 3) := by decide +kernel
theorem dX9_readProof_70 : decode cX9_readProof 70 = .ok (.iload 6, 2) := by decide +kernel
theorem dX9_readProof_72 : decode cX9_readProof 72 = .ok (.bipush 8, 2) := by decide +kernel
theorem dX9_readProof_74 : decode cX9_readProof 74 = .ok (.if_icmp .ne 11, 3) := by decide +kernel
theorem dX9_readProof_77 : decode cX9_readProof 77 = .ok (.aload_n 3, 1) := by decide +kernel
theorem dX9_readProof_78 : decode cX9_readProof 78 = .ok (.iconst 1, 1) := by decide +kernel
theorem dX9_readProof_79 : decode cX9_readProof 79 = .ok (.iload 7, 2) := by decide +kernel
theorem dX9_readProof_81 : decode cX9_readProof 81 = .ok (.invokevirtual 47, 3) := by decide +kernel
theorem dX9_readProof_84 : decode cX9_readProof 84 = .ok (.ireturn, 1) := by decide +kernel
theorem dX9_readProof_85 : decode cX9_readProof 85 = .ok (.iload 6, 2) := by decide +kernel
theorem dX9_readProof_87 : decode cX9_readProof 87 = .ok (.ifCond .ne 22, 3) := by decide +kernel
theorem dX9_readProof_90 : decode cX9_readProof 90 = .ok (.aload_n 0, 1) := by decide +kernel
theorem dX9_readProof_91 : decode cX9_readProof 91 = .ok (.getfield 14, 3) := by decide +kernel
theorem dX9_readProof_94 : decode cX9_readProof 94 = .ok (.getfield 51, 3) := by decide +kernel
theorem dX9_readProof_97 : decode cX9_readProof 97 = .ok (.iload_n 2, 1) := by decide +kernel
theorem dX9_readProof_98 : decode cX9_readProof 98 = .ok (.if_icmp .lt 11, 3) := by decide +kernel
theorem dX9_readProof_101 : decode cX9_readProof 101 = .ok (.aload_n 3, 1) := by decide +kernel
theorem dX9_readProof_102 : decode cX9_readProof 102 = .ok (.iconst 3, 1) := by decide +kernel
theorem dX9_readProof_103 : decode cX9_readProof 103 = .ok (.iload 7, 2) := by decide +kernel
theorem dX9_readProof_105 : decode cX9_readProof 105 = .ok (.invokevirtual 47, 3) := by decide +kernel
theorem dX9_readProof_108 : decode cX9_readProof 108 = .ok (.ireturn, 1) := by decide +kernel
theorem dX9_readProof_109 : decode cX9_readProof 109 = .ok (.lload 4, 2) := by decide +kernel
theorem dX9_readProof_111 : decode cX9_readProof 111 = .ok (.bipush 8, 2) := by decide +kernel
theorem dX9_readProof_113 : decode cX9_readProof 113 = .ok (.lshl, 1) := by decide +kernel
theorem dX9_readProof_114 : decode cX9_readProof 114 = .ok (.iload 8, 2) := by decide +kernel
theorem dX9_readProof_116 : decode cX9_readProof 116 = .ok (.i2l, 1) := by decide +kernel
theorem dX9_readProof_117 : decode cX9_readProof 117 = .ok (.lor, 1) := by decide +kernel
theorem dX9_readProof_118 : decode cX9_readProof 118 = .ok (.lstore 4, 2) := by decide +kernel
theorem dX9_readProof_120 : decode cX9_readProof 120 = .ok (.iinc 6 1, 3) := by decide +kernel
theorem dX9_readProof_123 : decode cX9_readProof 123 = .ok (.iinc 7 1, 3) := by decide +kernel
theorem dX9_readProof_126 : decode cX9_readProof 126 = .ok (.goto (-106), 3) := by decide +kernel
theorem dX9_readProof_129 : decode cX9_readProof 129 = .ok (.aload_n 0, 1) := by decide +kernel
theorem dX9_readProof_130 : decode cX9_readProof 130 = .ok (.lload 4, 2) := by decide +kernel
theorem dX9_readProof_132 : decode cX9_readProof 132 = .ok (.iload 6, 2) := by decide +kernel
theorem dX9_readProof_134 : decode cX9_readProof 134 = .ok (.invokevirtual 40, 3) := by decide +kernel
theorem dX9_readProof_137 : decode cX9_readProof 137 = .ok (.iconst 1, 1) := by decide +kernel
theorem dX9_readProof_138 : decode cX9_readProof 138 = .ok (.ireturn, 1) := by decide +kernel
theorem dX9_addWord_0 : decode cX9_addWord 0 = .ok (.iload_n 3, 1) := by decide +kernel
theorem dX9_addWord_1 : decode cX9_addWord 1 = .ok (.ifCond .le 11, 3) := by decide +kernel
theorem dX9_addWord_4 : decode cX9_addWord 4 = .ok (.aload_n 0, 1) := by decide +kernel
theorem dX9_addWord_5 : decode cX9_addWord 5 = .ok (.getfield 14, 3) := by decide +kernel
theorem dX9_addWord_8 : decode cX9_addWord 8 = .ok (.lload_n 1, 1) := by decide +kernel
theorem dX9_addWord_9 : decode cX9_addWord 9 = .ok (.invokevirtual 52, 3) := by decide +kernel
theorem dX9_addWord_12 : decode cX9_addWord 12 = .ok (.return_, 1) := by decide +kernel
theorem dX10_init_0 : decode cX10_init 0 = .ok (.aload_n 0, 1) := by decide +kernel
theorem dX10_init_1 : decode cX10_init 1 = .ok (.invokespecial 3, 3) := by decide +kernel
theorem dX10_init_4 : decode cX10_init 4 = .ok (.aload_n 0, 1) := by decide +kernel
theorem dX10_init_5 : decode cX10_init 5 = .ok (.sipush 2000, 3) := by decide +kernel
theorem dX10_init_8 : decode cX10_init 8 = .ok (.newarray .byte, 2) := by decide +kernel
theorem dX10_init_10 : decode cX10_init 10 = .ok (.putfield 9, 3) := by decide +kernel
theorem dX10_init_13 : decode cX10_init 13 = .ok (.return_, 1) := by decide +kernel
theorem dX10_addFour_0 : decode cX10_addFour 0 = .ok (.bipush 24, 2) := by decide +kernel
theorem dX10_addFour_2 : decode cX10_addFour 2 = .ok (.istore_n 2, 1) := by decide +kernel
theorem dX10_addFour_3 : decode cX10_addFour 3 = .ok (.iload_n 2, 1) := by decide +kernel
theorem dX10_addFour_4 : decode cX10_addFour 4 = .ok (.ifCond .lt 51, 3) := by decide +kernel
theorem dX10_addFour_7 : decode cX10_addFour 7 = .ok (.aload_n 0, 1) := by decide +kernel
theorem dX10_addFour_8 : decode cX10_addFour 8 = .ok (.getfield 15, 3) := by decide +kernel
theorem dX10_addFour_11 : decode cX10_addFour 11 = .ok (.ifCond .lt 38, 3) := by decide +kernel
theorem dX10_addFour_14 : decode cX10_addFour 14 = .ok (.aload_n 0, 1) := by decide +kernel
theorem dX10_addFour_15 : decode cX10_addFour 15 = .ok (.getfield 15, 3) := by decide +kernel
theorem dX10_addFour_18 : decode cX10_addFour 18 = .ok (.aload_n 0, 1) := by decide +kernel
theorem dX10_addFour_19 : decode cX10_addFour 19 = .ok (.getfield 9, 3) := by decide +kernel
theorem dX10_addFour_22 : decode cX10_addFour 22 = .ok (.arraylength, 1) := by decide +kernel
theorem dX10_addFour_23 : decode cX10_addFour 23 = .ok (.if_icmp .ge 26, 3) := by decide +kernel
theorem dX10_addFour_26 : decode cX10_addFour 26 = .ok (.aload_n 0, 1) := by decide +kernel
theorem dX10_addFour_27 : decode cX10_addFour 27 = .ok (.getfield 9, 3) := by decide +kernel
theorem dX10_addFour_30 : decode cX10_addFour 30 = .ok (.aload_n 0, 1) := by decide +kernel
theorem dX10_addFour_31 : decode cX10_addFour 31 = .ok (.getfield 15, 3) := by decide +kernel
theorem dX10_addFour_34 : decode cX10_addFour 34 = .ok (.iload_n 1, 1) := by decide +kernel
theorem dX10_addFour_35 : decode cX10_addFour 35 = .ok (.iload_n 2, 1) := by decide +kernel
theorem dX10_addFour_36 : decode cX10_addFour 36 = .ok (.iushr, 1) := by decide +kernel
theorem dX10_addFour_37 : decode cX10_addFour 37 = .ok (.i2b, 1) := by decide +kernel
theorem dX10_addFour_38 : decode cX10_addFour 38 = .ok (.bastore, 1) := by decide +kernel
theorem dX10_addFour_39 : decode cX10_addFour 39 = .ok (.aload_n 0, 1) := by decide +kernel
theorem dX10_addFour_40 : decode cX10_addFour 40 = .ok (.dup, 1) := by decide +kernel
theorem dX10_addFour_41 : decode cX10_addFour 41 = .ok (.getfield 15, 3) := by decide +kernel
theorem dX10_addFour_44 : decode cX10_addFour 44 = .ok (.iconst 1, 1) := by decide +kernel
theorem dX10_addFour_45 : decode cX10_addFour 45 = .ok (.iadd, 1) := by decide +kernel
theorem dX10_addFour_46 : decode cX10_addFour 46 = .ok (.putfield 15, 3) := by decide +kernel
theorem dX10_addFour_49 : decode cX10_addFour 49 = .ok (.iinc 2 (-8), 3) := by decide +kernel
theorem dX10_addFour_52 : decode cX10_addFour 52 = .ok (.goto (-49), 3) := by decide +kernel
theorem dX10_addFour_55 : decode cX10_addFour 55 = .ok (.return_, 1) := by decide +kernel
theorem dX10_byteAt_0 : decode cX10_byteAt 0 = .ok (.iload_n 1, 1) := by decide +kernel
theorem dX10_byteAt_1 : decode cX10_byteAt 1 = .ok (.ifCond .lt 20, 3) := by decide +kernel
theorem dX10_byteAt_4 : decode cX10_byteAt 4 = .ok (.iload_n 1, 1) := by decide +kernel
theorem dX10_byteAt_5 : decode cX10_byteAt 5 = .ok (.aload_n 0, 1) := by decide +kernel
theorem dX10_byteAt_6 : decode cX10_byteAt 6 = .ok (.getfield 15, 3) := by decide +kernel
theorem dX10_byteAt_9 : decode cX10_byteAt 9 = .ok (.if_icmp .ge 12, 3) := by decide +kernel
theorem dX10_byteAt_12 : decode cX10_byteAt 12 = .ok (.iload_n 1, 1) := by decide +kernel
theorem dX10_byteAt_13 : decode cX10_byteAt 13 = .ok (.aload_n 0, 1) := by decide +kernel
theorem dX10_byteAt_14 : decode cX10_byteAt 14 = .ok (.getfield 9, 3) := by decide +kernel
theorem dX10_byteAt_17 : decode cX10_byteAt 17 = .ok (.arraylength, 1) := by decide +kernel
theorem dX10_byteAt_18 : decode cX10_byteAt 18 = .ok (.if_icmp .lt 7, 3) := by decide +kernel
theorem dX10_byteAt_21 : decode cX10_byteAt 21 = .ok (.iconst (-1), 1) := by decide +kernel
theorem dX10_byteAt_22 : decode cX10_byteAt 22 = .ok (.goto 13, 3) := by decide +kernel
theorem dX10_byteAt_25 : decode cX10_byteAt 25 = .ok (.aload_n 0, 1) := by decide +kernel
theorem dX10_byteAt_26 : decode cX10_byteAt 26 = .ok (.getfield 9, 3) := by decide +kernel
theorem dX10_byteAt_29 : decode cX10_byteAt 29 = .ok (.iload_n 1, 1) := by decide +kernel
theorem dX10_byteAt_30 : decode cX10_byteAt 30 = .ok (.baload, 1) := by decide +kernel
theorem dX10_byteAt_31 : decode cX10_byteAt 31 = .ok (.sipush 255, 3) := by decide +kernel
theorem dX10_byteAt_34 : decode cX10_byteAt 34 = .ok (.iand, 1) := by decide +kernel
theorem dX10_byteAt_35 : decode cX10_byteAt 35 = .ok (.ireturn, 1) := by decide +kernel
theorem dX11_init_0 : decode cX11_init 0 = .ok (.aload_n 0, 1) := by decide +kernel
theorem dX11_init_1 : decode cX11_init 1 = .ok (.invokespecial 3, 3) := by decide +kernel
theorem dX11_init_4 : decode cX11_init 4 = .ok (.aload_n 0, 1) := by decide +kernel
theorem dX11_init_5 : decode cX11_init 5 = .ok (.new 9, 3) := by decide +kernel
theorem dX11_init_8 : decode cX11_init 8 = .ok (.dup, 1) := by decide +kernel
theorem dX11_init_9 : decode cX11_init 9 = .ok (.invokespecial 11, 3) := by decide +kernel
theorem dX11_init_12 : decode cX11_init 12 = .ok (.putfield 12, 3) := by decide +kernel
theorem dX11_init_15 : decode cX11_init 15 = .ok (.aload_n 0, 1) := by decide +kernel
theorem dX11_init_16 : decode cX11_init 16 = .ok (.new 16, 3) := by decide +kernel
theorem dX11_init_19 : decode cX11_init 19 = .ok (.dup, 1) := by decide +kernel
end
section
theorem dX11_init_20 : decode cX11_init 20 = .ok (.invokespecial 18, 3) := by decide +kernel
theorem dX11_init_23 : decode cX11_init 23 = .ok (.putfield 19, 3) := by decide +kernel
theorem dX11_init_26 : decode cX11_init 26 = .ok (.aload_n 0, 1) := by decide +kernel
theorem dX11_init_27 : decode cX11_init 27 = .ok (.new 23, 3) := by decide +kernel
theorem dX11_init_30 : decode cX11_init 30 = .ok (.dup, 1) := by decide +kernel
theorem dX11_init_31 : decode cX11_init 31 = .ok (.bipush 60, 2) := by decide +kernel
theorem dX11_init_33 : decode cX11_init 33 = .ok (.invokespecial 25, 3) := by decide +kernel
theorem dX11_init_36 : decode cX11_init 36 = .ok (.putfield 28, 3) := by decide +kernel
theorem dX11_init_39 : decode cX11_init 39 = .ok (.aload_n 0, 1) := by decide +kernel
theorem dX11_init_40 : decode cX11_init 40 = .ok (.new 23, 3) := by decide +kernel
theorem dX11_init_43 : decode cX11_init 43 = .ok (.dup, 1) := by decide +kernel
theorem dX11_init_44 : decode cX11_init 44 = .ok (.sipush 150, 3) := by decide +kernel
theorem dX11_init_47 : decode cX11_init 47 = .ok (.invokespecial 25, 3) := by decide +kernel
theorem dX11_init_50 : decode cX11_init 50 = .ok (.putfield 32, 3) := by decide +kernel
theorem dX11_init_53 : decode cX11_init 53 = .ok (.aload_n 0, 1) := by decide +kernel
theorem dX11_init_54 : decode cX11_init 54 = .ok (.new 23, 3) := by decide +kernel
theorem dX11_init_57 : decode cX11_init 57 = .ok (.dup, 1) := by decide +kernel
theorem dX11_init_58 : decode cX11_init 58 = .ok (.sipush 300, 3) := by decide +kernel
theorem dX11_init_61 : decode cX11_init 61 = .ok (.invokespecial 25, 3) := by decide +kernel
theorem dX11_init_64 : decode cX11_init 64 = .ok (.putfield 35, 3) := by decide +kernel
theorem dX11_init_67 : decode cX11_init 67 = .ok (.aload_n 0, 1) := by decide +kernel
theorem dX11_init_68 : decode cX11_init 68 = .ok (.new 38, 3) := by decide +kernel
theorem dX11_init_71 : decode cX11_init 71 = .ok (.dup, 1) := by decide +kernel
theorem dX11_init_72 : decode cX11_init 72 = .ok (.invokespecial 40, 3) := by decide +kernel
theorem dX11_init_75 : decode cX11_init 75 = .ok (.putfield 41, 3) := by decide +kernel
theorem dX11_init_78 : decode cX11_init 78 = .ok (.aload_n 0, 1) := by decide +kernel
theorem dX11_init_79 : decode cX11_init 79 = .ok (.new 45, 3) := by decide +kernel
theorem dX11_init_82 : decode cX11_init 82 = .ok (.dup, 1) := by decide +kernel
theorem dX11_init_83 : decode cX11_init 83 = .ok (.invokespecial 47, 3) := by decide +kernel
theorem dX11_init_86 : decode cX11_init 86 = .ok (.putfield 48, 3) := by decide +kernel
theorem dX11_init_89 : decode cX11_init 89 = .ok (.aload_n 0, 1) := by decide +kernel
theorem dX11_init_90 : decode cX11_init 90 = .ok (.new 52, 3) := by decide +kernel
theorem dX11_init_93 : decode cX11_init 93 = .ok (.dup, 1) := by decide +kernel
theorem dX11_init_94 : decode cX11_init 94 = .ok (.invokespecial 54, 3) := by decide +kernel
theorem dX11_init_97 : decode cX11_init 97 = .ok (.putfield 55, 3) := by decide +kernel
theorem dX11_init_100 : decode cX11_init 100 = .ok (.aload_n 0, 1) := by decide +kernel
theorem dX11_init_101 : decode cX11_init 101 = .ok (.new 59, 3) := by decide +kernel
theorem dX11_init_104 : decode cX11_init 104 = .ok (.dup, 1) := by decide +kernel
theorem dX11_init_105 : decode cX11_init 105 = .ok (.invokespecial 61, 3) := by decide +kernel
theorem dX11_init_108 : decode cX11_init 108 = .ok (.putfield 62, 3) := by decide +kernel
theorem dX11_init_111 : decode cX11_init 111 = .ok (.aload_n 0, 1) := by decide +kernel
theorem dX11_init_112 : decode cX11_init 112 = .ok (.new 66, 3) := by decide +kernel
theorem dX11_init_115 : decode cX11_init 115 = .ok (.dup, 1) := by decide +kernel
theorem dX11_init_116 : decode cX11_init 116 = .ok (.invokespecial 68, 3) := by decide +kernel
theorem dX11_init_119 : decode cX11_init 119 = .ok (.putfield 69, 3) := by decide +kernel
theorem dX11_init_122 : decode cX11_init 122 = .ok (.aload_n 0, 1) := by decide +kernel
theorem dX11_init_123 : decode cX11_init 123 = .ok (.new 73, 3) := by decide +kernel
theorem dX11_init_126 : decode cX11_init 126 = .ok (.dup, 1) := by decide +kernel
theorem dX11_init_127 : decode cX11_init 127 = .ok (.invokespecial 75, 3) := by decide +kernel
theorem dX11_init_130 : decode cX11_init 130 = .ok (.putfield 76, 3) := by decide +kernel
theorem dX11_init_133 : decode cX11_init 133 = .ok (.aload_n 0, 1) := by decide +kernel
theorem dX11_init_134 : decode cX11_init 134 = .ok (.new 80, 3) := by decide +kernel
theorem dX11_init_137 : decode cX11_init 137 = .ok (.dup, 1) := by decide +kernel
theorem dX11_init_138 : decode cX11_init 138 = .ok (.invokespecial 82, 3) := by decide +kernel
theorem dX11_init_141 : decode cX11_init 141 = .ok (.putfield 83, 3) := by decide +kernel
theorem dX11_init_144 : decode cX11_init 144 = .ok (.return_, 1) := by decide +kernel
theorem dX11_feed_0 : decode cX11_feed 0 = .ok (.aload_n 0, 1) := by decide +kernel
theorem dX11_feed_1 : decode cX11_feed 1 = .ok (.getfield 12, 3) := by decide +kernel
theorem dX11_feed_4 : decode cX11_feed 4 = .ok (.getfield 87, 3) := by decide +kernel
theorem dX11_feed_7 : decode cX11_feed 7 = .ok (.bipush 20, 2) := by decide +kernel
theorem dX11_feed_9 : decode cX11_feed 9 = .ok (.iadd, 1) := by decide +kernel
theorem dX11_feed_10 : decode cX11_feed 10 = .ok (.sipush 2000, 3) := by decide +kernel
theorem dX11_feed_13 : decode cX11_feed 13 = .ok (.if_icmp .le 6, 3) := by decide +kernel
theorem dX11_feed_16 : decode cX11_feed 16 = .ok (.bipush (-3), 2) := by decide +kernel
theorem dX11_feed_18 : decode cX11_feed 18 = .ok (.ireturn, 1) := by decide +kernel
theorem dX11_feed_19 : decode cX11_feed 19 = .ok (.aload_n 0, 1) := by decide +kernel
theorem dX11_feed_20 : decode cX11_feed 20 = .ok (.getfield 12, 3) := by decide +kernel
theorem dX11_feed_23 : decode cX11_feed 23 = .ok (.iload_n 1, 1) := by decide +kernel
theorem dX11_feed_24 : decode cX11_feed 24 = .ok (.invokevirtual 91, 3) := by decide +kernel
theorem dX11_feed_27 : decode cX11_feed 27 = .ok (.aload_n 0, 1) := by decide +kernel
theorem dX11_feed_28 : decode cX11_feed 28 = .ok (.getfield 12, 3) := by decide +kernel
theorem dX11_feed_31 : decode cX11_feed 31 = .ok (.iload_n 2, 1) := by decide +kernel
theorem dX11_feed_32 : decode cX11_feed 32 = .ok (.invokevirtual 91, 3) := by decide +kernel
theorem dX11_feed_35 : decode cX11_feed 35 = .ok (.aload_n 0, 1) := by decide +kernel
theorem dX11_feed_36 : decode cX11_feed 36 = .ok (.getfield 12, 3) := by decide +kernel
theorem dX11_feed_39 : decode cX11_feed 39 = .ok (.iload_n 3, 1) := by decide +kernel
theorem dX11_feed_40 : decode cX11_feed 40 = .ok (.invokevirtual 91, 3) := by decide +kernel
theorem dX11_feed_43 : decode cX11_feed 43 = .ok (.aload_n 0, 1) := by decide +kernel
theorem dX11_feed_44 : decode cX11_feed 44 = .ok (.getfield 12, 3) := by decide +kernel
theorem dX11_feed_47 : decode cX11_feed 47 = .ok (.iload 4, 2) := by decide +kernel
theorem dX11_feed_49 : decode cX11_feed 49 = .ok (.invokevirtual 91, 3) := by decide +kernel
theorem dX11_feed_52 : decode cX11_feed 52 = .ok (.aload_n 0, 1) := by decide +kernel
theorem dX11_feed_53 : decode cX11_feed 53 = .ok (.getfield 12, 3) := by decide +kernel
theorem dX11_feed_56 : decode cX11_feed 56 = .ok (.iload 5, 2) := by decide +kernel
theorem dX11_feed_58 : decode cX11_feed 58 = .ok (.invokevirtual 91, 3) := by decide +kernel
theorem dX11_feed_61 : decode cX11_feed 61 = .ok (.aload_n 0, 1) := by decide +kernel
theorem dX11_feed_62 : decode cX11_feed 62 = .ok (.getfield 12, 3) := by decide +kernel
theorem dX11_feed_65 : decode cX11_feed 65 = .ok (.getfield 87, 3) := by decide +kernel
theorem dX11_feed_68 : decode cX11_feed 68 = .ok (.ireturn, 1) := by decide +kernel
theorem dX11_end_0 : decode cX11_end 0 = .ok (.iload_n 1, 1) := by decide +kernel
theorem dX11_end_1 : decode cX11_end 1 = .ok (.ifCond .lt 14, 3) := by decide +kernel
theorem dX11_end_4 : decode cX11_end 4 = .ok (.iload_n 1, 1) := by decide +kernel
theorem dX11_end_5 : decode cX11_end 5 = .ok (.aload_n 0, 1) := by decide +kernel
theorem dX11_end_6 : decode cX11_end 6 = .ok (.getfield 12, 3) := by decide +kernel
theorem dX11_end_9 : decode cX11_end 9 = .ok (.getfield 87, 3) := by decide +kernel
theorem dX11_end_12 : decode cX11_end 12 = .ok (.if_icmp .le 5, 3) := by decide +kernel
theorem dX11_end_15 : decode cX11_end 15 = .ok (.iconst (-1), 1) := by decide +kernel
theorem dX11_end_16 : decode cX11_end 16 = .ok (.ireturn, 1) := by decide +kernel
theorem dX11_end_17 : decode cX11_end 17 = .ok (.aload_n 0, 1) := by decide +kernel
theorem dX11_end_18 : decode cX11_end 18 = .ok (.getfield 12, 3) := by decide +kernel
theorem dX11_end_21 : decode cX11_end 21 = .ok (.iload_n 1, 1) := by decide +kernel
theorem dX11_end_22 : decode cX11_end 22 = .ok (.putfield 87, 3) := by decide +kernel
theorem dX11_end_25 : decode cX11_end 25 = .ok (.iload_n 1, 1) := by decide +kernel
theorem dX11_end_26 : decode cX11_end 26 = .ok (.ireturn, 1) := by decide +kernel
theorem dX11_first_0 : decode cX11_first 0 = .ok (.aload_n 0, 1) := by decide +kernel
theorem dX11_first_1 : decode cX11_first 1 = .ok (.getfield 48, 3) := by decide +kernel
theorem dX11_first_4 : decode cX11_first 4 = .ok (.aload_n 0, 1) := by decide +kernel
theorem dX11_first_5 : decode cX11_first 5 = .ok (.getfield 12, 3) := by decide +kernel
theorem dX11_first_8 : decode cX11_first 8 = .ok (.bipush 60, 2) := by decide +kernel
theorem dX11_first_10 : decode cX11_first 10 = .ok (.aload_n 0, 1) := by decide +kernel
theorem dX11_first_11 : decode cX11_first 11 = .ok (.getfield 19, 3) := by decide +kernel
theorem dX11_first_14 : decode cX11_first 14 = .ok (.invokevirtual 94, 3) := by decide +kernel
theorem dX11_first_17 : decode cX11_first 17 = .ok (.istore_n 1, 1) := by decide +kernel
theorem dX11_first_18 : decode cX11_first 18 = .ok (.aload_n 0, 1) := by decide +kernel
theorem dX11_first_19 : decode cX11_first 19 = .ok (.getfield 12, 3) := by decide +kernel
theorem dX11_first_22 : decode cX11_first 22 = .ok (.iconst 0, 1) := by decide +kernel
theorem dX11_first_23 : decode cX11_first 23 = .ok (.putfield 87, 3) := by decide +kernel
theorem dX11_first_26 : decode cX11_first 26 = .ok (.iload_n 1, 1) := by decide +kernel
theorem dX11_first_27 : decode cX11_first 27 = .ok (.ifCond .ne 5, 3) := by decide +kernel
theorem dX11_first_30 : decode cX11_first 30 = .ok (.iconst (-1), 1) := by decide +kernel
theorem dX11_first_31 : decode cX11_first 31 = .ok (.ireturn, 1) := by decide +kernel
theorem dX11_first_32 : decode cX11_first 32 = .ok (.aload_n 0, 1) := by decide +kernel
theorem dX11_first_33 : decode cX11_first 33 = .ok (.getfield 28, 3) := by decide +kernel
theorem dX11_first_36 : decode cX11_first 36 = .ok (.aload_n 0, 1) := by decide +kernel
theorem dX11_first_37 : decode cX11_first 37 = .ok (.getfield 48, 3) := by decide +kernel
theorem dX11_first_40 : decode cX11_first 40 = .ok (.getfield 98, 3) := by decide +kernel
theorem dX11_first_43 : decode cX11_first 43 = .ok (.invokevirtual 101, 3) := by decide +kernel
theorem dX11_first_46 : decode cX11_first 46 = .ok (.aload_n 0, 1) := by decide +kernel
theorem dX11_first_47 : decode cX11_first 47 = .ok (.getfield 41, 3) := by decide +kernel
theorem dX11_first_50 : decode cX11_first 50 = .ok (.invokevirtual 105, 3) := by decide +kernel
theorem dX11_first_53 : decode cX11_first 53 = .ok (.aload_n 0, 1) := by decide +kernel
theorem dX11_first_54 : decode cX11_first 54 = .ok (.invokevirtual 108, 3) := by decide +kernel
theorem dX11_first_57 : decode cX11_first 57 = .ok (.aload_n 0, 1) := by decide +kernel
theorem dX11_first_58 : decode cX11_first 58 = .ok (.getfield 28, 3) := by decide +kernel
theorem dX11_first_61 : decode cX11_first 61 = .ok (.getfield 111, 3) := by decide +kernel
theorem dX11_first_64 : decode cX11_first 64 = .ok (.ireturn, 1) := by decide +kernel
theorem dX11_second_0 : decode cX11_second 0 = .ok (.aload_n 0, 1) := by decide +kernel
theorem dX11_second_1 : decode cX11_second 1 = .ok (.getfield 48, 3) := by decide +kernel
theorem dX11_second_4 : decode cX11_second 4 = .ok (.aload_n 0, 1) := by decide +kernel
theorem dX11_second_5 : decode cX11_second 5 = .ok (.getfield 12, 3) := by decide +kernel
theorem dX11_second_8 : decode cX11_second 8 = .ok (.sipush 150, 3) := by decide +kernel
theorem dX11_second_11 : decode cX11_second 11 = .ok (.aload_n 0, 1) := by decide +kernel
theorem dX11_second_12 : decode cX11_second 12 = .ok (.getfield 19, 3) := by decide +kernel
theorem dX11_second_15 : decode cX11_second 15 = .ok (.invokevirtual 94, 3) := by decide +kernel
theorem dX11_second_18 : decode cX11_second 18 = .ok (.istore_n 1, 1) := by decide +kernel
theorem dX11_second_19 : decode cX11_second 19 = .ok (.aload_n 0, 1) := by decide +kernel
theorem dX11_second_20 : decode cX11_second 20 = .ok (.getfield 12, 3) := by decide +kernel
theorem dX11_second_23 : decode cX11_second 23 = .ok (.iconst 0, 1) := by decide +kernel
theorem dX11_second_24 : decode cX11_second 24 = .ok (.putfield 87, 3) := by decide +kernel
theorem dX11_second_27 : decode cX11_second 27 = .ok (.iload_n 1, 1) := by decide +kernel
theorem dX11_second_28 : decode cX11_second 28 = .ok (.ifCond .ne 5, 3) := by decide +kernel
theorem dX11_second_31 : decode cX11_second 31 = .ok (.iconst (-1), 1) := by decide +kernel
theorem dX11_second_32 : decode cX11_second 32 = .ok (.ireturn, 1) := by decide +kernel
theorem dX11_second_33 : decode cX11_second 33 = .ok (.aload_n 0, 1) := by decide +kernel
theorem dX11_second_34 : decode cX11_second 34 = .ok (.getfield 32, 3) := by decide +kernel
theorem dX11_second_37 : decode cX11_second 37 = .ok (.aload_n 0, 1) := by decide +kernel
theorem dX11_second_38 : decode cX11_second 38 = .ok (.getfield 48, 3) := by decide +kernel
theorem dX11_second_41 : decode cX11_second 41 = .ok (.getfield 98, 3) := by decide +kernel
theorem dX11_second_44 : decode cX11_second 44 = .ok (.invokevirtual 101, 3) := by decide +kernel
theorem dX11_second_47 : decode cX11_second 47 = .ok (.aload_n 0, 1) := by decide +kernel
theorem dX11_second_48 : decode cX11_second 48 = .ok (.getfield 32, 3) := by decide +kernel
theorem dX11_second_51 : decode cX11_second 51 = .ok (.getfield 111, 3) := by decide +kernel
theorem dX11_second_54 : decode cX11_second 54 = .ok (.ireturn, 1) := by decide +kernel
theorem dX11_marks_0 : decode cX11_marks 0 = .ok (.aload_n 0, 1) := by decide +kernel
theorem dX11_marks_1 : decode cX11_marks 1 = .ok (.getfield 55, 3) := by decide +kernel
theorem dX11_marks_4 : decode cX11_marks 4 = .ok (.aload_n 0, 1) := by decide +kernel
theorem dX11_marks_5 : decode cX11_marks 5 = .ok (.getfield 12, 3) := by decide +kernel
theorem dX11_marks_8 : decode cX11_marks 8 = .ok (.aload_n 0, 1) := by decide +kernel
theorem dX11_marks_9 : decode cX11_marks 9 = .ok (.getfield 41, 3) := by decide +kernel
theorem dX11_marks_12 : decode cX11_marks 12 = .ok (.aload_n 0, 1) := by decide +kernel
theorem dX11_marks_13 : decode cX11_marks 13 = .ok (.getfield 28, 3) := by decide +kernel
theorem dX11_marks_16 : decode cX11_marks 16 = .ok (.getfield 111, 3) := by decide +kernel
theorem dX11_marks_19 : decode cX11_marks 19 = .ok (.aload_n 0, 1) := by decide +kernel
theorem dX11_marks_20 : decode cX11_marks 20 = .ok (.getfield 19, 3) := by decide +kernel
theorem dX11_marks_23 : decode cX11_marks 23 = .ok (.invokevirtual 112, 3) := by decide +kernel
theorem dX11_marks_26 : decode cX11_marks 26 = .ok (.istore_n 1, 1) := by decide +kernel
theorem dX11_marks_27 : decode cX11_marks 27 = .ok (.aload_n 0, 1) := by decide +kernel
theorem dX11_marks_28 : decode cX11_marks 28 = .ok (.getfield 12, 3) := by decide +kernel
theorem dX11_marks_31 : decode cX11_marks 31 = .ok (.iconst 0, 1) := by decide +kernel
theorem dX11_marks_32 : decode cX11_marks 32 = .ok (.putfield 87, 3) := by decide +kernel
theorem dX11_marks_35 : decode cX11_marks 35 = .ok (.iload_n 1, 1) := by decide +kernel
theorem dX11_marks_36 : decode cX11_marks 36 = .ok (.ifCond .ne 5, 3) := by decide +kernel
theorem dX11_marks_39 : decode cX11_marks 39 = .ok (.iconst (-1), 1) := by decide +kernel
theorem dX11_marks_40 : decode cX11_marks 40 = .ok (.ireturn, 1) := by decide +kernel
theorem dX11_marks_41 : decode cX11_marks 41 = .ok (.aload_n 0, 1) := by decide +kernel
theorem dX11_marks_42 : decode cX11_marks 42 = .ok (.getfield 41, 3) := by decide +kernel
theorem dX11_marks_45 : decode cX11_marks 45 = .ok (.invokevirtual 116, 3) := by decide +kernel
theorem dX11_marks_48 : decode cX11_marks 48 = .ok (.istore_n 2, 1) := by decide +kernel
theorem dX11_marks_49 : decode cX11_marks 49 = .ok (.aload_n 0, 1) := by decide +kernel
theorem dX11_marks_50 : decode cX11_marks 50 = .ok (.invokevirtual 108, 3) := by decide +kernel
theorem dX11_marks_53 : decode cX11_marks 53 = .ok (.iload_n 2, 1) := by decide +kernel
theorem dX11_marks_54 : decode cX11_marks 54 = .ok (.ireturn, 1) := by decide +kernel
theorem dX11_fault_0 : decode cX11_fault 0 = .ok (.iload_n 1, 1) := by decide +kernel
theorem dX11_fault_1 : decode cX11_fault 1 = .ok (.ifCond .ne 11, 3) := by decide +kernel
theorem dX11_fault_4 : decode cX11_fault 4 = .ok (.aload_n 0, 1) := by decide +kernel
theorem dX11_fault_5 : decode cX11_fault 5 = .ok (.getfield 19, 3) := by decide +kernel
theorem dX11_fault_8 : decode cX11_fault 8 = .ok (.getfield 120, 3) := by decide +kernel
theorem dX11_fault_11 : decode cX11_fault 11 = .ok (.ireturn, 1) := by decide +kernel
theorem dX11_fault_12 : decode cX11_fault 12 = .ok (.iload_n 1, 1) := by decide +kernel
theorem dX11_fault_13 : decode cX11_fault 13 = .ok (.iconst 1, 1) := by decide +kernel
theorem dX11_fault_14 : decode cX11_fault 14 = .ok (.if_icmp .ne 13, 3) := by decide +kernel
theorem dX11_fault_17 : decode cX11_fault 17 = .ok (.aload_n 0, 1) := by decide +kernel
theorem dX11_fault_18 : decode cX11_fault 18 = .ok (.getfield 19, 3) := by decide +kernel
theorem dX11_fault_21 : decode cX11_fault 21 = .ok (.getfield 123, 3) := by decide +kernel
theorem dX11_fault_24 : decode cX11_fault 24 = .ok (.goto 4, 3) := by decide +kernel
theorem dX11_fault_27 : decode cX11_fault 27 = .ok (.iconst (-1), 1) := by decide +kernel
theorem dX11_fault_28 : decode cX11_fault 28 = .ok (.ireturn, 1) := by decide +kernel
theorem dX11_word_0 : decode cX11_word 0 = .ok (.aload_n 0, 1) := by decide +kernel
theorem dX11_word_1 : decode cX11_word 1 = .ok (.iload_n 1, 1) := by decide +kernel
theorem dX11_word_2 : decode cX11_word 2 = .ok (.invokevirtual 126, 3) := by decide +kernel
theorem dX11_word_5 : decode cX11_word 5 = .ok (.astore_n 3, 1) := by decide +kernel
theorem dX11_word_6 : decode cX11_word 6 = .ok (.aload_n 3, 1) := by decide +kernel
theorem dX11_word_7 : decode cX11_word 7 = .ok (.ifnonnull 7, 3) := by decide +kernel
theorem dX11_word_10 : decode cX11_word 10 = .ok (.lconst 0, 1) := by decide +kernel
theorem dX11_word_11 : decode cX11_word 11 = .ok (.goto 8, 3) := by decide +kernel
theorem dX11_word_14 : decode cX11_word 14 = .ok (.aload_n 3, 1) := by decide +kernel
theorem dX11_word_15 : decode cX11_word 15 = .ok (.iload_n 2, 1) := by decide +kernel
theorem dX11_word_16 : decode cX11_word 16 = .ok (.invokevirtual 130, 3) := by decide +kernel
theorem dX11_word_19 : decode cX11_word 19 = .ok (.lreturn, 1) := by decide +kernel
theorem dX11_mark_0 : decode cX11_mark 0 = .ok (.aload_n 0, 1) := by decide +kernel
theorem dX11_mark_1 : decode cX11_mark 1 = .ok (.getfield 41, 3) := by decide +kernel
theorem dX11_mark_4 : decode cX11_mark 4 = .ok (.iload_n 1, 1) := by decide +kernel
theorem dX11_mark_5 : decode cX11_mark 5 = .ok (.invokevirtual 134, 3) := by decide +kernel
theorem dX11_mark_8 : decode cX11_mark 8 = .ok (.astore_n 3, 1) := by decide +kernel
theorem dX11_mark_9 : decode cX11_mark 9 = .ok (.aload_n 3, 1) := by decide +kernel
theorem dX11_mark_10 : decode cX11_mark 10 = .ok (.ifnonnull 6, 3) := by decide +kernel
theorem dX11_mark_13 : decode cX11_mark 13 = .ok (.bipush (-9), 2) := by decide +kernel
theorem dX11_mark_15 : decode cX11_mark 15 = .ok (.ireturn, 1) := by decide +kernel
theorem dX11_mark_16 : decode cX11_mark 16 = .ok (.iload_n 2, 1) := by decide +kernel
theorem dX11_mark_17 : decode cX11_mark 17 = .ok (.bipush 10, 2) := by decide +kernel
theorem dX11_mark_19 : decode cX11_mark 19 = .ok (.if_icmp .ge 11, 3) := by decide +kernel
theorem dX11_mark_22 : decode cX11_mark 22 = .ok (.aload_n 3, 1) := by decide +kernel
theorem dX11_mark_23 : decode cX11_mark 23 = .ok (.iload_n 2, 1) := by decide +kernel
theorem dX11_mark_24 : decode cX11_mark 24 = .ok (.invokevirtual 138, 3) := by decide +kernel
theorem dX11_mark_27 : decode cX11_mark 27 = .ok (.goto 11, 3) := by decide +kernel
theorem dX11_mark_30 : decode cX11_mark 30 = .ok (.aload_n 3, 1) := by decide +kernel
theorem dX11_mark_31 : decode cX11_mark 31 = .ok (.iload_n 2, 1) := by decide +kernel
theorem dX11_mark_32 : decode cX11_mark 32 = .ok (.bipush 10, 2) := by decide +kernel
theorem dX11_mark_34 : decode cX11_mark 34 = .ok (.isub, 1) := by decide +kernel
theorem dX11_mark_35 : decode cX11_mark 35 = .ok (.invokevirtual 144, 3) := by decide +kernel
theorem dX11_mark_38 : decode cX11_mark 38 = .ok (.ireturn, 1) := by decide +kernel
theorem dX11_answer_0 : decode cX11_answer 0 = .ok (.aload_n 0, 1) := by decide +kernel
theorem dX11_answer_1 : decode cX11_answer 1 = .ok (.getfield 41, 3) := by decide +kernel
theorem dX11_answer_4 : decode cX11_answer 4 = .ok (.iload_n 1, 1) := by decide +kernel
theorem dX11_answer_5 : decode cX11_answer 5 = .ok (.invokevirtual 134, 3) := by decide +kernel
theorem dX11_answer_8 : decode cX11_answer 8 = .ok (.astore_n 3, 1) := by decide +kernel
theorem dX11_answer_9 : decode cX11_answer 9 = .ok (.aload_n 3, 1) := by decide +kernel
theorem dX11_answer_10 : decode cX11_answer 10 = .ok (.ifnonnull 6, 3) := by decide +kernel
theorem dX11_answer_13 : decode cX11_answer 13 = .ok (.bipush (-2), 2) := by decide +kernel
theorem dX11_answer_15 : decode cX11_answer 15 = .ok (.ireturn, 1) := by decide +kernel
theorem dX11_answer_16 : decode cX11_answer 16 = .ok (.aload_n 3, 1) := by decide +kernel
theorem dX11_answer_17 : decode cX11_answer 17 = .ok (.getfield 147, 3) := by decide +kernel
theorem dX11_answer_20 : decode cX11_answer 20 = .ok (.iconst 3, 1) := by decide +kernel
theorem dX11_answer_21 : decode cX11_answer 21 = .ok (.if_icmp .eq 6, 3) := by decide +kernel
theorem dX11_answer_24 : decode cX11_answer 24 = .ok (.bipush (-4), 2) := by decide +kernel
theorem dX11_answer_26 : decode cX11_answer 26 = .ok (.ireturn, 1) := by decide +kernel
theorem dX11_answer_27 : decode cX11_answer 27 = .ok (.aload_n 3, 1) := by decide +kernel
theorem dX11_answer_28 : decode cX11_answer 28 = .ok (.iconst 0, 1) := by decide +kernel
theorem dX11_answer_29 : decode cX11_answer 29 = .ok (.putfield 150, 3) := by decide +kernel
theorem dX11_answer_32 : decode cX11_answer 32 = .ok (.aload_n 3, 1) := by decide +kernel
theorem dX11_answer_33 : decode cX11_answer 33 = .ok (.iload_n 2, 1) := by decide +kernel
theorem dX11_answer_34 : decode cX11_answer 34 = .ok (.ifCond .ne 7, 3) := by decide +kernel
theorem dX11_answer_37 : decode cX11_answer 37 = .ok (.iconst 1, 1) := by decide +kernel
theorem dX11_answer_38 : decode cX11_answer 38 = .ok (.goto 4, 3) := by decide +kernel
theorem dX11_answer_41 : decode cX11_answer 41 = .ok (.iconst 0, 1) := by decide +kernel
theorem dX11_answer_42 : decode cX11_answer 42 = .ok (.putfield 154, 3) := by decide +kernel
theorem dX11_answer_45 : decode cX11_answer 45 = .ok (.aload_n 0, 1) := by decide +kernel
theorem dX11_answer_46 : decode cX11_answer 46 = .ok (.invokevirtual 108, 3) := by decide +kernel
theorem dX11_answer_49 : decode cX11_answer 49 = .ok (.iconst 1, 1) := by decide +kernel
theorem dX11_answer_50 : decode cX11_answer 50 = .ok (.ireturn, 1) := by decide +kernel
theorem dX11_rank_0 : decode cX11_rank 0 = .ok (.iload_n 1, 1) := by decide +kernel
theorem dX11_rank_1 : decode cX11_rank 1 = .ok (.ifCond .lt 18, 3) := by decide +kernel
theorem dX11_rank_4 : decode cX11_rank 4 = .ok (.iload_n 1, 1) := by decide +kernel
theorem dX11_rank_5 : decode cX11_rank 5 = .ok (.iconst 3, 1) := by decide +kernel
theorem dX11_rank_6 : decode cX11_rank 6 = .ok (.if_icmp .ge 13, 3) := by decide +kernel
theorem dX11_rank_9 : decode cX11_rank 9 = .ok (.iload_n 2, 1) := by decide +kernel
theorem dX11_rank_10 : decode cX11_rank 10 = .ok (.ifCond .lt 9, 3) := by decide +kernel
theorem dX11_rank_13 : decode cX11_rank 13 = .ok (.iload_n 2, 1) := by decide +kernel
theorem dX11_rank_14 : decode cX11_rank 14 = .ok (.bipush 9, 2) := by decide +kernel
theorem dX11_rank_16 : decode cX11_rank 16 = .ok (.if_icmp .le 6, 3) := by decide +kernel
theorem dX11_rank_19 : decode cX11_rank 19 = .ok (.bipush (-2), 2) := by decide +kernel
theorem dX11_rank_21 : decode cX11_rank 21 = .ok (.ireturn, 1) := by decide +kernel
theorem dX11_rank_22 : decode cX11_rank 22 = .ok (.aload_n 0, 1) := by decide +kernel
theorem dX11_rank_23 : decode cX11_rank 23 = .ok (.getfield 41, 3) := by decide +kernel
theorem dX11_rank_26 : decode cX11_rank 26 = .ok (.iload_n 1, 1) := by decide +kernel
theorem dX11_rank_27 : decode cX11_rank 27 = .ok (.invokevirtual 157, 3) := by decide +kernel
theorem dX11_rank_30 : decode cX11_rank 30 = .ok (.istore_n 3, 1) := by decide +kernel
theorem dX11_rank_31 : decode cX11_rank 31 = .ok (.aload_n 0, 1) := by decide +kernel
theorem dX11_rank_32 : decode cX11_rank 32 = .ok (.getfield 41, 3) := by decide +kernel
theorem dX11_rank_35 : decode cX11_rank 35 = .ok (.getfield 160, 3) := by decide +kernel
theorem dX11_rank_38 : decode cX11_rank 38 = .ok (.iload_n 1, 1) := by decide +kernel
theorem dX11_rank_39 : decode cX11_rank 39 = .ok (.iload_n 2, 1) := by decide +kernel
theorem dX11_rank_40 : decode cX11_rank 40 = .ok (.iastore, 1) := by decide +kernel
theorem dX11_rank_41 : decode cX11_rank 41 = .ok (.aload_n 0, 1) := by decide +kernel
theorem dX11_rank_42 : decode cX11_rank 42 = .ok (.invokevirtual 108, 3) := by decide +kernel
theorem dX11_rank_45 : decode cX11_rank 45 = .ok (.iload_n 3, 1) := by decide +kernel
theorem dX11_rank_46 : decode cX11_rank 46 = .ok (.ireturn, 1) := by decide +kernel
theorem dX11_meet_0 : decode cX11_meet 0 = .ok (.aload_n 0, 1) := by decide +kernel
theorem dX11_meet_1 : decode cX11_meet 1 = .ok (.getfield 41, 3) := by decide +kernel
theorem dX11_meet_4 : decode cX11_meet 4 = .ok (.iload_n 1, 1) := by decide +kernel
theorem dX11_meet_5 : decode cX11_meet 5 = .ok (.invokevirtual 164, 3) := by decide +kernel
theorem dX11_meet_8 : decode cX11_meet 8 = .ok (.astore_n 3, 1) := by decide +kernel
theorem dX11_meet_9 : decode cX11_meet 9 = .ok (.aload_n 0, 1) := by decide +kernel
theorem dX11_meet_10 : decode cX11_meet 10 = .ok (.getfield 41, 3) := by decide +kernel
theorem dX11_meet_13 : decode cX11_meet 13 = .ok (.iload_n 2, 1) := by decide +kernel
theorem dX11_meet_14 : decode cX11_meet 14 = .ok (.invokevirtual 164, 3) := by decide +kernel
theorem dX11_meet_17 : decode cX11_meet 17 = .ok (.astore 4, 2) := by decide +kernel
theorem dX11_meet_19 : decode cX11_meet 19 = .ok (.aload_n 3, 1) := by decide +kernel
theorem dX11_meet_20 : decode cX11_meet 20 = .ok (.ifnull 13, 3) := by decide +kernel
theorem dX11_meet_23 : decode cX11_meet 23 = .ok (.aload 4, 2) := by decide +kernel
theorem dX11_meet_25 : decode cX11_meet 25 = .ok (.ifnull 8, 3) := by decide +kernel
theorem dX11_meet_28 : decode cX11_meet 28 = .ok (.iload_n 1, 1) := by decide +kernel
theorem dX11_meet_29 : decode cX11_meet 29 = .ok (.iload_n 2, 1) := by decide +kernel
theorem dX11_meet_30 : decode cX11_meet 30 = .ok (.if_icmp .ne 6, 3) := by decide +kernel
theorem dX11_meet_33 : decode cX11_meet 33 = .ok (.bipush (-2), 2) := by decide +kernel
theorem dX11_meet_35 : decode cX11_meet 35 = .ok (.ireturn, 1) := by decide +kernel
theorem dX11_meet_36 : decode cX11_meet 36 = .ok (.aload_n 3, 1) := by decide +kernel
theorem dX11_meet_37 : decode cX11_meet 37 = .ok (.aload 4, 2) := by decide +kernel
theorem dX11_meet_39 : decode cX11_meet 39 = .ok (.invokevirtual 167, 3) := by decide +kernel
theorem dX11_meet_42 : decode cX11_meet 42 = .ok (.ifCond .eq 7, 3) := by decide +kernel
theorem dX11_meet_45 : decode cX11_meet 45 = .ok (.iconst 1, 1) := by decide +kernel
theorem dX11_meet_46 : decode cX11_meet 46 = .ok (.goto 4, 3) := by decide +kernel
theorem dX11_meet_49 : decode cX11_meet 49 = .ok (.iconst 0, 1) := by decide +kernel
theorem dX11_meet_50 : decode cX11_meet 50 = .ok (.ireturn, 1) := by decide +kernel
theorem dX11_within_0 : decode cX11_within 0 = .ok (.aload_n 0, 1) := by decide +kernel
theorem dX11_within_1 : decode cX11_within 1 = .ok (.getfield 41, 3) := by decide +kernel
theorem dX11_within_4 : decode cX11_within 4 = .ok (.iload_n 1, 1) := by decide +kernel
theorem dX11_within_5 : decode cX11_within 5 = .ok (.invokevirtual 164, 3) := by decide +kernel
theorem dX11_within_8 : decode cX11_within 8 = .ok (.astore_n 3, 1) := by decide +kernel
theorem dX11_within_9 : decode cX11_within 9 = .ok (.aload_n 0, 1) := by decide +kernel
theorem dX11_within_10 : decode cX11_within 10 = .ok (.getfield 41, 3) := by decide +kernel
theorem dX11_within_13 : decode cX11_within 13 = .ok (.iload_n 2, 1) := by decide +kernel
theorem dX11_within_14 : decode cX11_within 14 = .ok (.invokevirtual 164, 3) := by decide +kernel
theorem dX11_within_17 : decode cX11_within 17 = .ok (.astore 4, 2) := by decide +kernel
theorem dX11_within_19 : decode cX11_within 19 = .ok (.aload_n 3, 1) := by decide +kernel
theorem dX11_within_20 : decode cX11_within 20 = .ok (.ifnull 13, 3) := by decide +kernel
theorem dX11_within_23 : decode cX11_within 23 = .ok (.aload 4, 2) := by decide +kernel
theorem dX11_within_25 : decode cX11_within 25 = .ok (.ifnull 8, 3) := by decide +kernel
theorem dX11_within_28 : decode cX11_within 28 = .ok (.iload_n 1, 1) := by decide +kernel
theorem dX11_within_29 : decode cX11_within 29 = .ok (.iload_n 2, 1) := by decide +kernel
theorem dX11_within_30 : decode cX11_within 30 = .ok (.if_icmp .ne 6, 3) := by decide +kernel
theorem dX11_within_33 : decode cX11_within 33 = .ok (.bipush (-2), 2) := by decide +kernel
theorem dX11_within_35 : decode cX11_within 35 = .ok (.ireturn, 1) := by decide +kernel
theorem dX11_within_36 : decode cX11_within 36 = .ok (.aload_n 3, 1) := by decide +kernel
theorem dX11_within_37 : decode cX11_within 37 = .ok (.aload 4, 2) := by decide +kernel
theorem dX11_within_39 : decode cX11_within 39 = .ok (.invokevirtual 171, 3) := by decide +kernel
theorem dX11_within_42 : decode cX11_within 42 = .ok (.ifCond .eq 7, 3) := by decide +kernel
theorem dX11_within_45 : decode cX11_within 45 = .ok (.iconst 1, 1) := by decide +kernel
theorem dX11_within_46 : decode cX11_within 46 = .ok (.goto 4, 3) := by decide +kernel
theorem dX11_within_49 : decode cX11_within 49 = .ok (.iconst 0, 1) := by decide +kernel
theorem dX11_within_50 : decode cX11_within 50 = .ok (.ireturn, 1) := by decide +kernel
theorem dX11_costs_0 : decode cX11_costs 0 = .ok (.iload_n 1, 1) := by decide +kernel
theorem dX11_costs_1 : decode cX11_costs 1 = .ok (.iconst 1, 1) := by decide +kernel
theorem dX11_costs_2 : decode cX11_costs 2 = .ok (.if_icmp .lt 20, 3) := by decide +kernel
theorem dX11_costs_5 : decode cX11_costs 5 = .ok (.iload_n 1, 1) := by decide +kernel
theorem dX11_costs_6 : decode cX11_costs 6 = .ok (.bipush 9, 2) := by decide +kernel
theorem dX11_costs_8 : decode cX11_costs 8 = .ok (.if_icmp .gt 14, 3) := by decide +kernel
theorem dX11_costs_11 : decode cX11_costs 11 = .ok (.iload_n 2, 1) := by decide +kernel
theorem dX11_costs_12 : decode cX11_costs 12 = .ok (.iconst 1, 1) := by decide +kernel
theorem dX11_costs_13 : decode cX11_costs 13 = .ok (.if_icmp .lt 9, 3) := by decide +kernel
theorem dX11_costs_16 : decode cX11_costs 16 = .ok (.iload_n 2, 1) := by decide +kernel
theorem dX11_costs_17 : decode cX11_costs 17 = .ok (.bipush 9, 2) := by decide +kernel
theorem dX11_costs_19 : decode cX11_costs 19 = .ok (.if_icmp .le 6, 3) := by decide +kernel
theorem dX11_costs_22 : decode cX11_costs 22 = .ok (.bipush (-2), 2) := by decide +kernel
theorem dX11_costs_24 : decode cX11_costs 24 = .ok (.ireturn, 1) := by decide +kernel
theorem dX11_costs_25 : decode cX11_costs 25 = .ok (.aload_n 0, 1) := by decide +kernel
theorem dX11_costs_26 : decode cX11_costs 26 = .ok (.getfield 76, 3) := by decide +kernel
theorem dX11_costs_29 : decode cX11_costs 29 = .ok (.iload_n 1, 1) := by decide +kernel
theorem dX11_costs_30 : decode cX11_costs 30 = .ok (.putfield 174, 3) := by decide +kernel
theorem dX11_costs_33 : decode cX11_costs 33 = .ok (.aload_n 0, 1) := by decide +kernel
theorem dX11_costs_34 : decode cX11_costs 34 = .ok (.getfield 76, 3) := by decide +kernel
theorem dX11_costs_37 : decode cX11_costs 37 = .ok (.iload_n 2, 1) := by decide +kernel
theorem dX11_costs_38 : decode cX11_costs 38 = .ok (.putfield 177, 3) := by decide +kernel
theorem dX11_costs_41 : decode cX11_costs 41 = .ok (.iconst 1, 1) := by decide +kernel
theorem dX11_costs_42 : decode cX11_costs 42 = .ok (.ireturn, 1) := by decide +kernel
theorem dX11_hold_0 : decode cX11_hold 0 = .ok (.aload_n 0, 1) := by decide +kernel
theorem dX11_hold_1 : decode cX11_hold 1 = .ok (.getfield 41, 3) := by decide +kernel
theorem dX11_hold_4 : decode cX11_hold 4 = .ok (.getfield 180, 3) := by decide +kernel
theorem dX11_hold_7 : decode cX11_hold 7 = .ok (.bipush 8, 2) := by decide +kernel
theorem dX11_hold_9 : decode cX11_hold 9 = .ok (.if_icmp .le 6, 3) := by decide +kernel
theorem dX11_hold_12 : decode cX11_hold 12 = .ok (.bipush (-3), 2) := by decide +kernel
theorem dX11_hold_14 : decode cX11_hold 14 = .ok (.ireturn, 1) := by decide +kernel
theorem dX11_hold_15 : decode cX11_hold 15 = .ok (.aload_n 0, 1) := by decide +kernel
theorem dX11_hold_16 : decode cX11_hold 16 = .ok (.getfield 76, 3) := by decide +kernel
theorem dX11_hold_19 : decode cX11_hold 19 = .ok (.aload_n 0, 1) := by decide +kernel
theorem dX11_hold_20 : decode cX11_hold 20 = .ok (.getfield 41, 3) := by decide +kernel
theorem dX11_hold_23 : decode cX11_hold 23 = .ok (.aload_n 0, 1) := by decide +kernel
theorem dX11_hold_24 : decode cX11_hold 24 = .ok (.getfield 28, 3) := by decide +kernel
theorem dX11_hold_27 : decode cX11_hold 27 = .ok (.aload_n 0, 1) := by decide +kernel
theorem dX11_hold_28 : decode cX11_hold 28 = .ok (.getfield 32, 3) := by decide +kernel
theorem dX11_hold_31 : decode cX11_hold 31 = .ok (.aload_n 0, 1) := by decide +kernel
theorem dX11_hold_32 : decode cX11_hold 32 = .ok (.getfield 62, 3) := by decide +kernel
theorem dX11_hold_35 : decode cX11_hold 35 = .ok (.aload_n 0, 1) := by decide +kernel
theorem dX11_hold_36 : decode cX11_hold 36 = .ok (.getfield 69, 3) := by decide +kernel
theorem dX11_hold_39 : decode cX11_hold 39 = .ok (.invokevirtual 183, 3) := by decide +kernel
theorem dX11_hold_42 : decode cX11_hold 42 = .ok (.ireturn, 1) := by decide +kernel
theorem dX11_held_0 : decode cX11_held 0 = .ok (.aload_n 0, 1) := by decide +kernel
theorem dX11_held_1 : decode cX11_held 1 = .ok (.getfield 76, 3) := by decide +kernel
theorem dX11_held_4 : decode cX11_held 4 = .ok (.iload_n 1, 1) := by decide +kernel
theorem dX11_held_5 : decode cX11_held 5 = .ok (.invokevirtual 187, 3) := by decide +kernel
theorem dX11_held_8 : decode cX11_held 8 = .ok (.ireturn, 1) := by decide +kernel
theorem dX11_unasked_0 : decode cX11_unasked 0 = .ok (.aload_n 0, 1) := by decide +kernel
theorem dX11_unasked_1 : decode cX11_unasked 1 = .ok (.getfield 76, 3) := by decide +kernel
theorem dX11_unasked_4 : decode cX11_unasked 4 = .ok (.iload_n 1, 1) := by decide +kernel
theorem dX11_unasked_5 : decode cX11_unasked 5 = .ok (.iload_n 2, 1) := by decide +kernel
theorem dX11_unasked_6 : decode cX11_unasked 6 = .ok (.invokevirtual 188, 3) := by decide +kernel
theorem dX11_unasked_9 : decode cX11_unasked 9 = .ok (.ireturn, 1) := by decide +kernel
theorem dX11_distance_0 : decode cX11_distance 0 = .ok (.aload_n 0, 1) := by decide +kernel
theorem dX11_distance_1 : decode cX11_distance 1 = .ok (.iload_n 1, 1) := by decide +kernel
theorem dX11_distance_2 : decode cX11_distance 2 = .ok (.invokevirtual 126, 3) := by decide +kernel
theorem dX11_distance_5 : decode cX11_distance 5 = .ok (.astore_n 3, 1) := by decide +kernel
theorem dX11_distance_6 : decode cX11_distance 6 = .ok (.aload_n 0, 1) := by decide +kernel
theorem dX11_distance_7 : decode cX11_distance 7 = .ok (.iload_n 2, 1) := by decide +kernel
theorem dX11_distance_8 : decode cX11_distance 8 = .ok (.invokevirtual 126, 3) := by decide +kernel
theorem dX11_distance_11 : decode cX11_distance 11 = .ok (.astore 4, 2) := by decide +kernel
theorem dX11_distance_13 : decode cX11_distance 13 = .ok (.aload_n 3, 1) := by decide +kernel
theorem dX11_distance_14 : decode cX11_distance 14 = .ok (.ifnull 8, 3) := by decide +kernel
theorem dX11_distance_17 : decode cX11_distance 17 = .ok (.aload 4, 2) := by decide +kernel
theorem dX11_distance_19 : decode cX11_distance 19 = .ok (.ifnonnull 6, 3) := by decide +kernel
theorem dX11_distance_22 : decode cX11_distance 22 = .ok (.bipush (-2), 2) := by decide +kernel
theorem dX11_distance_24 : decode cX11_distance 24 = .ok (.ireturn, 1) := by decide +kernel
theorem dX11_distance_25 : decode cX11_distance 25 = .ok (.aload_n 0, 1) := by decide +kernel
theorem dX11_distance_26 : decode cX11_distance 26 = .ok (.getfield 69, 3) := by decide +kernel
theorem dX11_distance_29 : decode cX11_distance 29 = .ok (.aload_n 3, 1) := by decide +kernel
theorem dX11_distance_30 : decode cX11_distance 30 = .ok (.iconst 0, 1) := by decide +kernel
theorem dX11_distance_31 : decode cX11_distance 31 = .ok (.aload 4, 2) := by decide +kernel
theorem dX11_distance_33 : decode cX11_distance 33 = .ok (.iconst 0, 1) := by decide +kernel
theorem dX11_distance_34 : decode cX11_distance 34 = .ok (.sipush 300, 3) := by decide +kernel
theorem dX11_distance_37 : decode cX11_distance 37 = .ok (.invokevirtual 192, 3) := by decide +kernel
theorem dX11_distance_40 : decode cX11_distance 40 = .ok (.ireturn, 1) := by decide +kernel
theorem dX11_next_0 : decode cX11_next 0 = .ok (.aload_n 0, 1) := by decide +kernel
theorem dX11_next_1 : decode cX11_next 1 = .ok (.getfield 32, 3) := by decide +kernel
theorem dX11_next_4 : decode cX11_next 4 = .ok (.getfield 111, 3) := by decide +kernel
theorem dX11_next_7 : decode cX11_next 7 = .ok (.ifCond .eq 15, 3) := by decide +kernel
theorem dX11_next_10 : decode cX11_next 10 = .ok (.aload_n 0, 1) := by decide +kernel
theorem dX11_next_11 : decode cX11_next 11 = .ok (.getfield 32, 3) := by decide +kernel
theorem dX11_next_14 : decode cX11_next 14 = .ok (.getfield 111, 3) := by decide +kernel
theorem dX11_next_17 : decode cX11_next 17 = .ok (.bipush 60, 2) := by decide +kernel
theorem dX11_next_19 : decode cX11_next 19 = .ok (.if_icmp .le 6, 3) := by decide +kernel
theorem dX11_next_22 : decode cX11_next 22 = .ok (.bipush (-4), 2) := by decide +kernel
theorem dX11_next_24 : decode cX11_next 24 = .ok (.ireturn, 1) := by decide +kernel
theorem dX11_next_25 : decode cX11_next 25 = .ok (.aload_n 0, 1) := by decide +kernel
theorem dX11_next_26 : decode cX11_next 26 = .ok (.getfield 28, 3) := by decide +kernel
theorem dX11_next_29 : decode cX11_next 29 = .ok (.aload_n 0, 1) := by decide +kernel
theorem dX11_next_30 : decode cX11_next 30 = .ok (.getfield 32, 3) := by decide +kernel
theorem dX11_next_33 : decode cX11_next 33 = .ok (.invokevirtual 101, 3) := by decide +kernel
theorem dX11_next_36 : decode cX11_next 36 = .ok (.aload_n 0, 1) := by decide +kernel
theorem dX11_next_37 : decode cX11_next 37 = .ok (.getfield 32, 3) := by decide +kernel
theorem dX11_next_40 : decode cX11_next 40 = .ok (.invokevirtual 196, 3) := by decide +kernel
theorem dX11_next_43 : decode cX11_next 43 = .ok (.aload_n 0, 1) := by decide +kernel
theorem dX11_next_44 : decode cX11_next 44 = .ok (.getfield 41, 3) := by decide +kernel
theorem dX11_next_47 : decode cX11_next 47 = .ok (.invokevirtual 105, 3) := by decide +kernel
theorem dX11_next_50 : decode cX11_next 50 = .ok (.aload_n 0, 1) := by decide +kernel
theorem dX11_next_51 : decode cX11_next 51 = .ok (.invokevirtual 108, 3) := by decide +kernel
theorem dX11_next_54 : decode cX11_next 54 = .ok (.aload_n 0, 1) := by decide +kernel
theorem dX11_next_55 : decode cX11_next 55 = .ok (.getfield 28, 3) := by decide +kernel
theorem dX11_next_58 : decode cX11_next 58 = .ok (.getfield 111, 3) := by decide +kernel
theorem dX11_next_61 : decode cX11_next 61 = .ok (.ireturn, 1) := by decide +kernel
theorem dX11_error_0 : decode cX11_error 0 = .ok (.aload_n 0, 1) := by decide +kernel
theorem dX11_error_1 : decode cX11_error 1 = .ok (.getfield 41, 3) := by decide +kernel
theorem dX11_error_4 : decode cX11_error 4 = .ok (.iload_n 1, 1) := by decide +kernel
theorem dX11_error_5 : decode cX11_error 5 = .ok (.invokevirtual 164, 3) := by decide +kernel
theorem dX11_error_8 : decode cX11_error 8 = .ok (.astore_n 3, 1) := by decide +kernel
theorem dX11_error_9 : decode cX11_error 9 = .ok (.aload_n 3, 1) := by decide +kernel
theorem dX11_error_10 : decode cX11_error 10 = .ok (.ifnonnull 6, 3) := by decide +kernel
theorem dX11_error_13 : decode cX11_error 13 = .ok (.bipush (-2), 2) := by decide +kernel
theorem dX11_error_15 : decode cX11_error 15 = .ok (.ireturn, 1) := by decide +kernel
theorem dX11_error_16 : decode cX11_error 16 = .ok (.aload_n 3, 1) := by decide +kernel
theorem dX11_error_17 : decode cX11_error 17 = .ok (.getfield 197, 3) := by decide +kernel
theorem dX11_error_20 : decode cX11_error 20 = .ok (.istore 4, 2) := by decide +kernel
theorem dX11_error_22 : decode cX11_error 22 = .ok (.aload_n 3, 1) := by decide +kernel
theorem dX11_error_23 : decode cX11_error 23 = .ok (.iload_n 2, 1) := by decide +kernel
theorem dX11_error_24 : decode cX11_error 24 = .ok (.putfield 197, 3) := by decide +kernel
theorem dX11_error_27 : decode cX11_error 27 = .ok (.iload 4, 2) := by decide +kernel
theorem dX11_error_29 : decode cX11_error 29 = .ok (.iload_n 2, 1) := by decide +kernel
theorem dX11_error_30 : decode cX11_error 30 = .ok (.if_icmp .ne 7, 3) := by decide +kernel
theorem dX11_error_33 : decode cX11_error 33 = .ok (.iconst 0, 1) := by decide +kernel
theorem dX11_error_34 : decode cX11_error 34 = .ok (.goto 4, 3) := by decide +kernel
theorem dX11_error_37 : decode cX11_error 37 = .ok (.iconst 1, 1) := by decide +kernel
theorem dX11_error_38 : decode cX11_error 38 = .ok (.ireturn, 1) := by decide +kernel
theorem dX11_price_0 : decode cX11_price 0 = .ok (.iload_n 1, 1) := by decide +kernel
theorem dX11_price_1 : decode cX11_price 1 = .ok (.ifCond .lt 19, 3) := by decide +kernel
theorem dX11_price_4 : decode cX11_price 4 = .ok (.iload_n 1, 1) := by decide +kernel
theorem dX11_price_5 : decode cX11_price 5 = .ok (.iconst 5, 1) := by decide +kernel
theorem dX11_price_6 : decode cX11_price 6 = .ok (.if_icmp .ge 14, 3) := by decide +kernel
theorem dX11_price_9 : decode cX11_price 9 = .ok (.iload_n 2, 1) := by decide +kernel
theorem dX11_price_10 : decode cX11_price 10 = .ok (.ifCond .lt 10, 3) := by decide +kernel
theorem dX11_price_13 : decode cX11_price 13 = .ok (.iload_n 2, 1) := by decide +kernel
theorem dX11_price_14 : decode cX11_price 14 = .ok (.sipush 999, 3) := by decide +kernel
theorem dX11_price_17 : decode cX11_price 17 = .ok (.if_icmp .le 6, 3) := by decide +kernel
theorem dX11_price_20 : decode cX11_price 20 = .ok (.bipush (-2), 2) := by decide +kernel
theorem dX11_price_22 : decode cX11_price 22 = .ok (.ireturn, 1) := by decide +kernel
theorem dX11_price_23 : decode cX11_price 23 = .ok (.aload_n 0, 1) := by decide +kernel
theorem dX11_price_24 : decode cX11_price 24 = .ok (.getfield 83, 3) := by decide +kernel
theorem dX11_price_27 : decode cX11_price 27 = .ok (.iload_n 1, 1) := by decide +kernel
theorem dX11_price_28 : decode cX11_price 28 = .ok (.iload_n 2, 1) := by decide +kernel
theorem dX11_price_29 : decode cX11_price 29 = .ok (.invokevirtual 200, 3) := by decide +kernel
theorem dX11_price_32 : decode cX11_price 32 = .ok (.ireturn, 1) := by decide +kernel
theorem dX11_pays_0 : decode cX11_pays 0 = .ok (.iload_n 1, 1) := by decide +kernel
theorem dX11_pays_1 : decode cX11_pays 1 = .ok (.ifCond .eq 11, 3) := by decide +kernel
theorem dX11_pays_4 : decode cX11_pays 4 = .ok (.iload_n 1, 1) := by decide +kernel
theorem dX11_pays_5 : decode cX11_pays 5 = .ok (.iconst 1, 1) := by decide +kernel
theorem dX11_pays_6 : decode cX11_pays 6 = .ok (.if_icmp .eq 6, 3) := by decide +kernel
theorem dX11_pays_9 : decode cX11_pays 9 = .ok (.bipush (-2), 2) := by decide +kernel
theorem dX11_pays_11 : decode cX11_pays 11 = .ok (.ireturn, 1) := by decide +kernel
theorem dX11_pays_12 : decode cX11_pays 12 = .ok (.aload_n 0, 1) := by decide +kernel
theorem dX11_pays_13 : decode cX11_pays 13 = .ok (.getfield 83, 3) := by decide +kernel
theorem dX11_pays_16 : decode cX11_pays 16 = .ok (.aload_n 0, 1) := by decide +kernel
theorem dX11_pays_17 : decode cX11_pays 17 = .ok (.getfield 41, 3) := by decide +kernel
theorem dX11_pays_20 : decode cX11_pays 20 = .ok (.iload_n 1, 1) := by decide +kernel
theorem dX11_pays_21 : decode cX11_pays 21 = .ok (.iconst 1, 1) := by decide +kernel
theorem dX11_pays_22 : decode cX11_pays 22 = .ok (.if_icmp .ne 7, 3) := by decide +kernel
theorem dX11_pays_25 : decode cX11_pays 25 = .ok (.iconst 1, 1) := by decide +kernel
theorem dX11_pays_26 : decode cX11_pays 26 = .ok (.goto 4, 3) := by decide +kernel
theorem dX11_pays_29 : decode cX11_pays 29 = .ok (.iconst 0, 1) := by decide +kernel
theorem dX11_pays_30 : decode cX11_pays 30 = .ok (.invokevirtual 203, 3) := by decide +kernel
theorem dX11_pays_33 : decode cX11_pays 33 = .ok (.ireturn, 1) := by decide +kernel
theorem dX11_count_0 : decode cX11_count 0 = .ok (.iload_n 1, 1) := by decide +kernel
theorem dX11_count_1 : decode cX11_count 1 = .ok (.tableswitch 155 0 12 #[67, 67, 67, 73, 81, 99, 108, 117, 126, 135, 143, 143, 143], 67) := by decide +kernel
theorem dX11_count_68 : decode cX11_count 68 = .ok (.aload_n 0, 1) := by decide +kernel
theorem dX11_count_69 : decode cX11_count 69 = .ok (.iload_n 1, 1) := by decide +kernel
theorem dX11_count_70 : decode cX11_count 70 = .ok (.invokevirtual 207, 3) := by decide +kernel
theorem dX11_count_73 : decode cX11_count 73 = .ok (.ireturn, 1) := by decide +kernel
theorem dX11_count_74 : decode cX11_count 74 = .ok (.aload_n 0, 1) := by decide +kernel
theorem dX11_count_75 : decode cX11_count 75 = .ok (.getfield 41, 3) := by decide +kernel
theorem dX11_count_78 : decode cX11_count 78 = .ok (.getfield 210, 3) := by decide +kernel
theorem dX11_count_81 : decode cX11_count 81 = .ok (.ireturn, 1) := by decide +kernel
theorem dX11_count_82 : decode cX11_count 82 = .ok (.aload_n 0, 1) := by decide +kernel
theorem dX11_count_83 : decode cX11_count 83 = .ok (.getfield 41, 3) := by decide +kernel
theorem dX11_count_86 : decode cX11_count 86 = .ok (.iconst 0, 1) := by decide +kernel
theorem dX11_count_87 : decode cX11_count 87 = .ok (.invokevirtual 211, 3) := by decide +kernel
theorem dX11_count_90 : decode cX11_count 90 = .ok (.aload_n 0, 1) := by decide +kernel
theorem dX11_count_91 : decode cX11_count 91 = .ok (.getfield 41, 3) := by decide +kernel
theorem dX11_count_94 : decode cX11_count 94 = .ok (.iconst 1, 1) := by decide +kernel
theorem dX11_count_95 : decode cX11_count 95 = .ok (.invokevirtual 211, 3) := by decide +kernel
theorem dX11_count_98 : decode cX11_count 98 = .ok (.iadd, 1) := by decide +kernel
theorem dX11_count_99 : decode cX11_count 99 = .ok (.ireturn, 1) := by decide +kernel
theorem dX11_count_100 : decode cX11_count 100 = .ok (.aload_n 0, 1) := by decide +kernel
theorem dX11_count_101 : decode cX11_count 101 = .ok (.getfield 41, 3) := by decide +kernel
theorem dX11_count_104 : decode cX11_count 104 = .ok (.iconst 0, 1) := by decide +kernel
theorem dX11_count_105 : decode cX11_count 105 = .ok (.invokevirtual 211, 3) := by decide +kernel
theorem dX11_count_108 : decode cX11_count 108 = .ok (.ireturn, 1) := by decide +kernel
theorem dX11_count_109 : decode cX11_count 109 = .ok (.aload_n 0, 1) := by decide +kernel
theorem dX11_count_110 : decode cX11_count 110 = .ok (.getfield 41, 3) := by decide +kernel
theorem dX11_count_113 : decode cX11_count 113 = .ok (.iconst 1, 1) := by decide +kernel
theorem dX11_count_114 : decode cX11_count 114 = .ok (.invokevirtual 211, 3) := by decide +kernel
theorem dX11_count_117 : decode cX11_count 117 = .ok (.ireturn, 1) := by decide +kernel
theorem dX11_count_118 : decode cX11_count 118 = .ok (.aload_n 0, 1) := by decide +kernel
theorem dX11_count_119 : decode cX11_count 119 = .ok (.getfield 41, 3) := by decide +kernel
theorem dX11_count_122 : decode cX11_count 122 = .ok (.iconst 2, 1) := by decide +kernel
theorem dX11_count_123 : decode cX11_count 123 = .ok (.invokevirtual 211, 3) := by decide +kernel
theorem dX11_count_126 : decode cX11_count 126 = .ok (.ireturn, 1) := by decide +kernel
theorem dX11_count_127 : decode cX11_count 127 = .ok (.aload_n 0, 1) := by decide +kernel
theorem dX11_count_128 : decode cX11_count 128 = .ok (.getfield 41, 3) := by decide +kernel
theorem dX11_count_131 : decode cX11_count 131 = .ok (.iconst 3, 1) := by decide +kernel
theorem dX11_count_132 : decode cX11_count 132 = .ok (.invokevirtual 211, 3) := by decide +kernel
theorem dX11_count_135 : decode cX11_count 135 = .ok (.ireturn, 1) := by decide +kernel
theorem dX11_count_136 : decode cX11_count 136 = .ok (.aload_n 0, 1) := by decide +kernel
theorem dX11_count_137 : decode cX11_count 137 = .ok (.getfield 12, 3) := by decide +kernel
theorem dX11_count_140 : decode cX11_count 140 = .ok (.getfield 87, 3) := by decide +kernel
theorem dX11_count_143 : decode cX11_count 143 = .ok (.ireturn, 1) := by decide +kernel
theorem dX11_count_144 : decode cX11_count 144 = .ok (.aload_n 0, 1) := by decide +kernel
theorem dX11_count_145 : decode cX11_count 145 = .ok (.getfield 41, 3) := by decide +kernel
theorem dX11_count_148 : decode cX11_count 148 = .ok (.iload_n 1, 1) := by decide +kernel
theorem dX11_count_149 : decode cX11_count 149 = .ok (.bipush 10, 2) := by decide +kernel
theorem dX11_count_151 : decode cX11_count 151 = .ok (.isub, 1) := by decide +kernel
theorem dX11_count_152 : decode cX11_count 152 = .ok (.invokevirtual 157, 3) := by decide +kernel
theorem dX11_count_155 : decode cX11_count 155 = .ok (.ireturn, 1) := by decide +kernel
theorem dX11_count_156 : decode cX11_count 156 = .ok (.iconst (-1), 1) := by decide +kernel
theorem dX11_count_157 : decode cX11_count 157 = .ok (.ireturn, 1) := by decide +kernel
theorem dX11_sheetOf_0 : decode cX11_sheetOf 0 = .ok (.iload_n 1, 1) := by decide +kernel
theorem dX11_sheetOf_1 : decode cX11_sheetOf 1 = .ok (.tableswitch 42 0 2 #[27, 32, 37], 27) := by decide +kernel
theorem dX11_sheetOf_28 : decode cX11_sheetOf 28 = .ok (.aload_n 0, 1) := by decide +kernel
theorem dX11_sheetOf_29 : decode cX11_sheetOf 29 = .ok (.getfield 28, 3) := by decide +kernel
theorem dX11_sheetOf_32 : decode cX11_sheetOf 32 = .ok (.areturn, 1) := by decide +kernel
theorem dX11_sheetOf_33 : decode cX11_sheetOf 33 = .ok (.aload_n 0, 1) := by decide +kernel
theorem dX11_sheetOf_34 : decode cX11_sheetOf 34 = .ok (.getfield 32, 3) := by decide +kernel
theorem dX11_sheetOf_37 : decode cX11_sheetOf 37 = .ok (.areturn, 1) := by decide +kernel
theorem dX11_sheetOf_38 : decode cX11_sheetOf 38 = .ok (.aload_n 0, 1) := by decide +kernel
theorem dX11_sheetOf_39 : decode cX11_sheetOf 39 = .ok (.getfield 35, 3) := by decide +kernel
theorem dX11_sheetOf_42 : decode cX11_sheetOf 42 = .ok (.areturn, 1) := by decide +kernel
theorem dX11_sheetOf_43 : decode cX11_sheetOf 43 = .ok (.aconst_null, 1) := by decide +kernel
theorem dX11_sheetOf_44 : decode cX11_sheetOf 44 = .ok (.areturn, 1) := by decide +kernel
theorem dX11_sizeOf_0 : decode cX11_sizeOf 0 = .ok (.aload_n 0, 1) := by decide +kernel
theorem dX11_sizeOf_1 : decode cX11_sizeOf 1 = .ok (.iload_n 1, 1) := by decide +kernel
theorem dX11_sizeOf_2 : decode cX11_sizeOf 2 = .ok (.invokevirtual 126, 3) := by decide +kernel
theorem dX11_sizeOf_5 : decode cX11_sizeOf 5 = .ok (.astore_n 2, 1) := by decide +kernel
theorem dX11_sizeOf_6 : decode cX11_sizeOf 6 = .ok (.aload_n 2, 1) := by decide +kernel
theorem dX11_sizeOf_7 : decode cX11_sizeOf 7 = .ok (.ifnonnull 7, 3) := by decide +kernel
theorem dX11_sizeOf_10 : decode cX11_sizeOf 10 = .ok (.iconst (-1), 1) := by decide +kernel
theorem dX11_sizeOf_11 : decode cX11_sizeOf 11 = .ok (.goto 7, 3) := by decide +kernel
theorem dX11_sizeOf_14 : decode cX11_sizeOf 14 = .ok (.aload_n 2, 1) := by decide +kernel
theorem dX11_sizeOf_15 : decode cX11_sizeOf 15 = .ok (.getfield 111, 3) := by decide +kernel
theorem dX11_sizeOf_18 : decode cX11_sizeOf 18 = .ok (.ireturn, 1) := by decide +kernel
theorem dX11_settle_0 : decode cX11_settle 0 = .ok (.aload_n 0, 1) := by decide +kernel
theorem dX11_settle_1 : decode cX11_settle 1 = .ok (.getfield 41, 3) := by decide +kernel
theorem dX11_settle_4 : decode cX11_settle 4 = .ok (.invokevirtual 214, 3) := by decide +kernel
theorem dX11_settle_7 : decode cX11_settle 7 = .ok (.aload_n 0, 1) := by decide +kernel
theorem dX11_settle_8 : decode cX11_settle 8 = .ok (.getfield 62, 3) := by decide +kernel
theorem dX11_settle_11 : decode cX11_settle 11 = .ok (.aload_n 0, 1) := by decide +kernel
theorem dX11_settle_12 : decode cX11_settle 12 = .ok (.getfield 41, 3) := by decide +kernel
theorem dX11_settle_15 : decode cX11_settle 15 = .ok (.iconst 0, 1) := by decide +kernel
theorem dX11_settle_16 : decode cX11_settle 16 = .ok (.invokevirtual 217, 3) := by decide +kernel
theorem dX11_settle_19 : decode cX11_settle 19 = .ok (.aload_n 0, 1) := by decide +kernel
theorem dX11_settle_20 : decode cX11_settle 20 = .ok (.getfield 62, 3) := by decide +kernel
theorem dX11_settle_23 : decode cX11_settle 23 = .ok (.aload_n 0, 1) := by decide +kernel
theorem dX11_settle_24 : decode cX11_settle 24 = .ok (.getfield 28, 3) := by decide +kernel
theorem dX11_settle_27 : decode cX11_settle 27 = .ok (.aload_n 0, 1) := by decide +kernel
theorem dX11_settle_28 : decode cX11_settle 28 = .ok (.getfield 35, 3) := by decide +kernel
theorem dX11_settle_31 : decode cX11_settle 31 = .ok (.invokevirtual 221, 3) := by decide +kernel
theorem dX11_settle_34 : decode cX11_settle 34 = .ok (.return_, 1) := by decide +kernel
theorem dX11_isBlank_0 : decode cX11_isBlank 0 = .ok (.iload_n 0, 1) := by decide +kernel
theorem dX11_isBlank_1 : decode cX11_isBlank 1 = .ok (.bipush 32, 2) := by decide +kernel
theorem dX11_isBlank_3 : decode cX11_isBlank 3 = .ok (.if_icmp .eq 9, 3) := by decide +kernel
theorem dX11_isBlank_6 : decode cX11_isBlank 6 = .ok (.iload_n 0, 1) := by decide +kernel
theorem dX11_isBlank_7 : decode cX11_isBlank 7 = .ok (.bipush 10, 2) := by decide +kernel
theorem dX11_isBlank_9 : decode cX11_isBlank 9 = .ok (.if_icmp .ne 7, 3) := by decide +kernel
theorem dX11_isBlank_12 : decode cX11_isBlank 12 = .ok (.iconst 1, 1) := by decide +kernel
theorem dX11_isBlank_13 : decode cX11_isBlank 13 = .ok (.goto 4, 3) := by decide +kernel
theorem dX11_isBlank_16 : decode cX11_isBlank 16 = .ok (.iconst 0, 1) := by decide +kernel
theorem dX11_isBlank_17 : decode cX11_isBlank 17 = .ok (.ireturn, 1) := by decide +kernel
theorem dX11_isSmall_0 : decode cX11_isSmall 0 = .ok (.iload_n 0, 1) := by decide +kernel
theorem dX11_isSmall_1 : decode cX11_isSmall 1 = .ok (.bipush 97, 2) := by decide +kernel
theorem dX11_isSmall_3 : decode cX11_isSmall 3 = .ok (.if_icmp .lt 13, 3) := by decide +kernel
theorem dX11_isSmall_6 : decode cX11_isSmall 6 = .ok (.iload_n 0, 1) := by decide +kernel
theorem dX11_isSmall_7 : decode cX11_isSmall 7 = .ok (.bipush 122, 2) := by decide +kernel
theorem dX11_isSmall_9 : decode cX11_isSmall 9 = .ok (.if_icmp .gt 7, 3) := by decide +kernel
theorem dX11_isSmall_12 : decode cX11_isSmall 12 = .ok (.iconst 1, 1) := by decide +kernel
theorem dX11_isSmall_13 : decode cX11_isSmall 13 = .ok (.goto 4, 3) := by decide +kernel
theorem dX11_isSmall_16 : decode cX11_isSmall 16 = .ok (.iconst 0, 1) := by decide +kernel
theorem dX11_isSmall_17 : decode cX11_isSmall 17 = .ok (.ireturn, 1) := by decide +kernel
theorem dX11_isDigit_0 : decode cX11_isDigit 0 = .ok (.iload_n 0, 1) := by decide +kernel
theorem dX11_isDigit_1 : decode cX11_isDigit 1 = .ok (.bipush 48, 2) := by decide +kernel
theorem dX11_isDigit_3 : decode cX11_isDigit 3 = .ok (.if_icmp .lt 13, 3) := by decide +kernel
theorem dX11_isDigit_6 : decode cX11_isDigit 6 = .ok (.iload_n 0, 1) := by decide +kernel
theorem dX11_isDigit_7 : decode cX11_isDigit 7 = .ok (.bipush 57, 2) := by decide +kernel
theorem dX11_isDigit_9 : decode cX11_isDigit 9 = .ok (.if_icmp .gt 7, 3) := by decide +kernel
theorem dX11_isDigit_12 : decode cX11_isDigit 12 = .ok (.iconst 1, 1) := by decide +kernel
theorem dX11_isDigit_13 : decode cX11_isDigit 13 = .ok (.goto 4, 3) := by decide +kernel
theorem dX11_isDigit_16 : decode cX11_isDigit 16 = .ok (.iconst 0, 1) := by decide +kernel
theorem dX11_isDigit_17 : decode cX11_isDigit 17 = .ok (.ireturn, 1) := by decide +kernel
theorem dX11_isOfWord_0 : decode cX11_isOfWord 0 = .ok (.iload_n 0, 1) := by decide +kernel
theorem dX11_isOfWord_1 : decode cX11_isOfWord 1 = .ok (.invokestatic 225, 3) := by decide +kernel
theorem dX11_isOfWord_4 : decode cX11_isOfWord 4 = .ok (.ifCond .ne 22, 3) := by decide +kernel
theorem dX11_isOfWord_7 : decode cX11_isOfWord 7 = .ok (.iload_n 0, 1) := by decide +kernel
theorem dX11_isOfWord_8 : decode cX11_isOfWord 8 = .ok (.invokestatic 229, 3) := by decide +kernel
theorem dX11_isOfWord_11 : decode cX11_isOfWord 11 = .ok (.ifCond .ne 15, 3) := by decide +kernel
theorem dX11_isOfWord_14 : decode cX11_isOfWord 14 = .ok (.iload_n 0, 1) := by decide +kernel
theorem dX11_isOfWord_15 : decode cX11_isOfWord 15 = .ok (.bipush 65, 2) := by decide +kernel
theorem dX11_isOfWord_17 : decode cX11_isOfWord 17 = .ok (.if_icmp .lt 11, 3) := by decide +kernel
theorem dX11_isOfWord_20 : decode cX11_isOfWord 20 = .ok (.iload_n 0, 1) := by decide +kernel
theorem dX11_isOfWord_21 : decode cX11_isOfWord 21 = .ok (.bipush 90, 2) := by decide +kernel
theorem dX11_isOfWord_23 : decode cX11_isOfWord 23 = .ok (.if_icmp .gt 5, 3) := by decide +kernel
theorem dX11_isOfWord_26 : decode cX11_isOfWord 26 = .ok (.iconst 1, 1) := by decide +kernel
theorem dX11_isOfWord_27 : decode cX11_isOfWord 27 = .ok (.ireturn, 1) := by decide +kernel
theorem dX11_isOfWord_28 : decode cX11_isOfWord 28 = .ok (.iload_n 0, 1) := by decide +kernel
theorem dX11_isOfWord_29 : decode cX11_isOfWord 29 = .ok (.ifCond .le 24, 3) := by decide +kernel
theorem dX11_isOfWord_32 : decode cX11_isOfWord 32 = .ok (.iload_n 0, 1) := by decide +kernel
theorem dX11_isOfWord_33 : decode cX11_isOfWord 33 = .ok (.sipush 128, 3) := by decide +kernel
theorem dX11_isOfWord_36 : decode cX11_isOfWord 36 = .ok (.if_icmp .ge 17, 3) := by decide +kernel
theorem dX11_isOfWord_39 : decode cX11_isOfWord 39 = .ok (.ldc 232, 2) := by decide +kernel
theorem dX11_isOfWord_41 : decode cX11_isOfWord 41 = .ok (.iload_n 0, 1) := by decide +kernel
theorem dX11_isOfWord_42 : decode cX11_isOfWord 42 = .ok (.i2c, 1) := by decide +kernel
theorem dX11_isOfWord_43 : decode cX11_isOfWord 43 = .ok (.invokevirtual 234, 3) := by decide +kernel
theorem dX11_isOfWord_46 : decode cX11_isOfWord 46 = .ok (.ifCond .lt 7, 3) := by decide +kernel
theorem dX11_isOfWord_49 : decode cX11_isOfWord 49 = .ok (.iconst 1, 1) := by decide +kernel
theorem dX11_isOfWord_50 : decode cX11_isOfWord 50 = .ok (.goto 4, 3) := by decide +kernel
theorem dX11_isOfWord_53 : decode cX11_isOfWord 53 = .ok (.iconst 0, 1) := by decide +kernel
theorem dX11_isOfWord_54 : decode cX11_isOfWord 54 = .ok (.ireturn, 1) := by decide +kernel
theorem dX12_init_0 : decode cX12_init 0 = .ok (.aload_n 0, 1) := by decide +kernel
theorem dX12_init_1 : decode cX12_init 1 = .ok (.aconst_null, 1) := by decide +kernel
theorem dX12_init_2 : decode cX12_init 2 = .ok (.aconst_null, 1) := by decide +kernel
theorem dX12_init_3 : decode cX12_init 3 = .ok (.iconst 0, 1) := by decide +kernel
theorem dX12_init_4 : decode cX12_init 4 = .ok (.iconst 0, 1) := by decide +kernel
theorem dX12_init_5 : decode cX12_init 5 = .ok (.invokespecial 1, 3) := by decide +kernel
theorem dX12_init_8 : decode cX12_init 8 = .ok (.return_, 1) := by decide +kernel
theorem dX13_in_0 : decode cX13_in 0 = .ok (.lload_n 0, 1) := by decide +kernel
theorem dX13_in_1 : decode cX13_in 1 = .ok (.lload_n 2, 1) := by decide +kernel
theorem dX13_in_2 : decode cX13_in 2 = .ok (.lcmp, 1) := by decide +kernel
theorem dX13_in_3 : decode cX13_in 3 = .ok (.ifCond .lt 14, 3) := by decide +kernel
theorem dX13_in_6 : decode cX13_in 6 = .ok (.lload_n 0, 1) := by decide +kernel
theorem dX13_in_7 : decode cX13_in 7 = .ok (.lload 4, 2) := by decide +kernel
theorem dX13_in_9 : decode cX13_in 9 = .ok (.lcmp, 1) := by decide +kernel
theorem dX13_in_10 : decode cX13_in 10 = .ok (.ifCond .gt 7, 3) := by decide +kernel
theorem dX13_in_13 : decode cX13_in 13 = .ok (.iconst 1, 1) := by decide +kernel
theorem dX13_in_14 : decode cX13_in 14 = .ok (.goto 4, 3) := by decide +kernel
theorem dX13_in_17 : decode cX13_in 17 = .ok (.iconst 0, 1) := by decide +kernel
theorem dX13_in_18 : decode cX13_in 18 = .ok (.ireturn, 1) := by decide +kernel
theorem dX13_wrong_0 : decode cX13_wrong 0 = .ok (.aload_n 0, 1) := by decide +kernel
theorem dX13_wrong_1 : decode cX13_wrong 1 = .ok (.iload_n 1, 1) := by decide +kernel
theorem dX13_wrong_2 : decode cX13_wrong 2 = .ok (.putfield 1, 3) := by decide +kernel
theorem dX13_wrong_5 : decode cX13_wrong 5 = .ok (.aload_n 0, 1) := by decide +kernel
theorem dX13_wrong_6 : decode cX13_wrong 6 = .ok (.iload_n 2, 1) := by decide +kernel
theorem dX13_wrong_7 : decode cX13_wrong 7 = .ok (.putfield 7, 3) := by decide +kernel
theorem dX13_wrong_10 : decode cX13_wrong 10 = .ok (.aload_n 0, 1) := by decide +kernel
theorem dX13_wrong_11 : decode cX13_wrong 11 = .ok (.getfield 10, 3) := by decide +kernel
theorem dX13_wrong_14 : decode cX13_wrong 14 = .ok (.areturn, 1) := by decide +kernel
theorem dX13_byteAt_0 : decode cX13_byteAt 0 = .ok (.iload_n 1, 1) := by decide +kernel
theorem dX13_byteAt_1 : decode cX13_byteAt 1 = .ok (.aload_n 0, 1) := by decide +kernel
theorem dX13_byteAt_2 : decode cX13_byteAt 2 = .ok (.getfield 14, 3) := by decide +kernel
theorem dX13_byteAt_5 : decode cX13_byteAt 5 = .ok (.if_icmp .ge 16, 3) := by decide +kernel
theorem dX13_byteAt_8 : decode cX13_byteAt 8 = .ok (.aload_n 0, 1) := by decide +kernel
theorem dX13_byteAt_9 : decode cX13_byteAt 9 = .ok (.getfield 17, 3) := by decide +kernel
theorem dX13_byteAt_12 : decode cX13_byteAt 12 = .ok (.iload_n 1, 1) := by decide +kernel
theorem dX13_byteAt_13 : decode cX13_byteAt 13 = .ok (.baload, 1) := by decide +kernel
theorem dX13_byteAt_14 : decode cX13_byteAt 14 = .ok (.sipush 255, 3) := by decide +kernel
theorem dX13_byteAt_17 : decode cX13_byteAt 17 = .ok (.iand, 1) := by decide +kernel
theorem dX13_byteAt_18 : decode cX13_byteAt 18 = .ok (.goto 4, 3) := by decide +kernel
theorem dX13_byteAt_21 : decode cX13_byteAt 21 = .ok (.iconst 0, 1) := by decide +kernel
theorem dX13_byteAt_22 : decode cX13_byteAt 22 = .ok (.ireturn, 1) := by decide +kernel
theorem dX13_isBlank_0 : decode cX13_isBlank 0 = .ok (.iload_n 0, 1) := by decide +kernel
theorem dX13_isBlank_1 : decode cX13_isBlank 1 = .ok (.bipush 32, 2) := by decide +kernel
theorem dX13_isBlank_3 : decode cX13_isBlank 3 = .ok (.if_icmp .eq 9, 3) := by decide +kernel
theorem dX13_isBlank_6 : decode cX13_isBlank 6 = .ok (.iload_n 0, 1) := by decide +kernel
theorem dX13_isBlank_7 : decode cX13_isBlank 7 = .ok (.bipush 10, 2) := by decide +kernel
theorem dX13_isBlank_9 : decode cX13_isBlank 9 = .ok (.if_icmp .ne 7, 3) := by decide +kernel
theorem dX13_isBlank_12 : decode cX13_isBlank 12 = .ok (.iconst 1, 1) := by decide +kernel
theorem dX13_isBlank_13 : decode cX13_isBlank 13 = .ok (.goto 4, 3) := by decide +kernel
theorem dX13_isBlank_16 : decode cX13_isBlank 16 = .ok (.iconst 0, 1) := by decide +kernel
theorem dX13_isBlank_17 : decode cX13_isBlank 17 = .ok (.ireturn, 1) := by decide +kernel
theorem dX13_isSmall_0 : decode cX13_isSmall 0 = .ok (.iload_n 0, 1) := by decide +kernel
theorem dX13_isSmall_1 : decode cX13_isSmall 1 = .ok (.bipush 97, 2) := by decide +kernel
theorem dX13_isSmall_3 : decode cX13_isSmall 3 = .ok (.if_icmp .lt 13, 3) := by decide +kernel
theorem dX13_isSmall_6 : decode cX13_isSmall 6 = .ok (.iload_n 0, 1) := by decide +kernel
theorem dX13_isSmall_7 : decode cX13_isSmall 7 = .ok (.bipush 122, 2) := by decide +kernel
theorem dX13_isSmall_9 : decode cX13_isSmall 9 = .ok (.if_icmp .gt 7, 3) := by decide +kernel
theorem dX13_isSmall_12 : decode cX13_isSmall 12 = .ok (.iconst 1, 1) := by decide +kernel
theorem dX13_isSmall_13 : decode cX13_isSmall 13 = .ok (.goto 4, 3) := by decide +kernel
theorem dX13_isSmall_16 : decode cX13_isSmall 16 = .ok (.iconst 0, 1) := by decide +kernel
theorem dX13_isSmall_17 : decode cX13_isSmall 17 = .ok (.ireturn, 1) := by decide +kernel
theorem dX13_isDigit_0 : decode cX13_isDigit 0 = .ok (.iload_n 0, 1) := by decide +kernel
theorem dX13_isDigit_1 : decode cX13_isDigit 1 = .ok (.bipush 48, 2) := by decide +kernel
theorem dX13_isDigit_3 : decode cX13_isDigit 3 = .ok (.if_icmp .lt 13, 3) := by decide +kernel
theorem dX13_isDigit_6 : decode cX13_isDigit 6 = .ok (.iload_n 0, 1) := by decide +kernel
theorem dX13_isDigit_7 : decode cX13_isDigit 7 = .ok (.bipush 57, 2) := by decide +kernel
theorem dX13_isDigit_9 : decode cX13_isDigit 9 = .ok (.if_icmp .gt 7, 3) := by decide +kernel
theorem dX13_isDigit_12 : decode cX13_isDigit 12 = .ok (.iconst 1, 1) := by decide +kernel
theorem dX13_isDigit_13 : decode cX13_isDigit 13 = .ok (.goto 4, 3) := by decide +kernel
theorem dX13_isDigit_16 : decode cX13_isDigit 16 = .ok (.iconst 0, 1) := by decide +kernel
theorem dX13_isDigit_17 : decode cX13_isDigit 17 = .ok (.ireturn, 1) := by decide +kernel
theorem dX13_isOfWord_0 : decode cX13_isOfWord 0 = .ok (.iload_n 0, 1) := by decide +kernel
theorem dX13_isOfWord_1 : decode cX13_isOfWord 1 = .ok (.invokestatic 21, 3) := by decide +kernel
theorem dX13_isOfWord_4 : decode cX13_isOfWord 4 = .ok (.ifCond .ne 70, 3) := by decide +kernel
theorem dX13_isOfWord_7 : decode cX13_isOfWord 7 = .ok (.iload_n 0, 1) := by decide +kernel
theorem dX13_isOfWord_8 : decode cX13_isOfWord 8 = .ok (.invokestatic 25, 3) := by decide +kernel
theorem dX13_isOfWord_11 : decode cX13_isOfWord 11 = .ok (.ifCond .ne 63, 3) := by decide +kernel
theorem dX13_isOfWord_14 : decode cX13_isOfWord 14 = .ok (.iload_n 0, 1) := by decide +kernel
theorem dX13_isOfWord_15 : decode cX13_isOfWord 15 = .ok (.bipush 65, 2) := by decide +kernel
theorem dX13_isOfWord_17 : decode cX13_isOfWord 17 = .ok (.if_icmp .lt 9, 3) := by decide +kernel
theorem dX13_isOfWord_20 : decode cX13_isOfWord 20 = .ok (.iload_n 0, 1) := by decide +kernel
theorem dX13_isOfWord_21 : decode cX13_isOfWord 21 = .ok (.bipush 90, 2) := by decide +kernel
theorem dX13_isOfWord_23 : decode cX13_isOfWord 23 = .ok (.if_icmp .le 51, 3) := by decide +kernel
theorem dX13_isOfWord_26 : decode cX13_isOfWord 26 = .ok (.iload_n 0, 1) := by decide +kernel
theorem dX13_isOfWord_27 : decode cX13_isOfWord 27 = .ok (.bipush 46, 2) := by decide +kernel
theorem dX13_isOfWord_29 : decode cX13_isOfWord 29 = .ok (.if_icmp .eq 45, 3) := by decide +kernel
theorem dX13_isOfWord_32 : decode cX13_isOfWord 32 = .ok (.iload_n 0, 1) := by decide +kernel
theorem dX13_isOfWord_33 : decode cX13_isOfWord 33 = .ok (.bipush 44, 2) := by decide +kernel
theorem dX13_isOfWord_35 : decode cX13_isOfWord 35 = .ok (.if_icmp .eq 39, 3) := by decide +kernel
theorem dX13_isOfWord_38 : decode cX13_isOfWord 38 = .ok (.iload_n 0, 1) := by decide +kernel
theorem dX13_isOfWord_39 : decode cX13_isOfWord 39 = .ok (.bipush 39, 2) := by decide +kernel
theorem dX13_isOfWord_41 : decode cX13_isOfWord 41 = .ok (.if_icmp .eq 33, 3) := by decide +kernel
theorem dX13_isOfWord_44 : decode cX13_isOfWord 44 = .ok (.iload_n 0, 1) := by decide +kernel
theorem dX13_isOfWord_45 : decode cX13_isOfWord 45 = .ok (.bipush 33, 2) := by decide +kernel
theorem dX13_isOfWord_47 : decode cX13_isOfWord 47 = .ok (.if_icmp .eq 27, 3) := by decide +kernel
theorem dX13_isOfWord_50 : decode cX13_isOfWord 50 = .ok (.iload_n 0, 1) := by decide +kernel
theorem dX13_isOfWord_51 : decode cX13_isOfWord 51 = .ok (.bipush 63, 2) := by decide +kernel
theorem dX13_isOfWord_53 : decode cX13_isOfWord 53 = .ok (.if_icmp .eq 21, 3) := by decide +kernel
theorem dX13_isOfWord_56 : decode cX13_isOfWord 56 = .ok (.iload_n 0, 1) := by decide +kernel
theorem dX13_isOfWord_57 : decode cX13_isOfWord 57 = .ok (.bipush 59, 2) := by decide +kernel
theorem dX13_isOfWord_59 : decode cX13_isOfWord 59 = .ok (.if_icmp .eq 15, 3) := by decide +kernel
theorem dX13_isOfWord_62 : decode cX13_isOfWord 62 = .ok (.iload_n 0, 1) := by decide +kernel
theorem dX13_isOfWord_63 : decode cX13_isOfWord 63 = .ok (.bipush 58, 2) := by decide +kernel
theorem dX13_isOfWord_65 : decode cX13_isOfWord 65 = .ok (.if_icmp .eq 9, 3) := by decide +kernel
theorem dX13_isOfWord_68 : decode cX13_isOfWord 68 = .ok (.iload_n 0, 1) := by decide +kernel
theorem dX13_isOfWord_69 : decode cX13_isOfWord 69 = .ok (.bipush 45, 2) := by decide +kernel
theorem dX13_isOfWord_71 : decode cX13_isOfWord 71 = .ok (.if_icmp .ne 7, 3) := by decide +kernel
theorem dX13_isOfWord_74 : decode cX13_isOfWord 74 = .ok (.iconst 1, 1) := by decide +kernel
theorem dX13_isOfWord_75 : decode cX13_isOfWord 75 = .ok (.goto 4, 3) := by decide +kernel
theorem dX13_isOfWord_78 : decode cX13_isOfWord 78 = .ok (.iconst 0, 1) := by decide +kernel
theorem dX13_isOfWord_79 : decode cX13_isOfWord 79 = .ok (.ireturn, 1) := by decide +kernel
theorem dX13_begin_0 : decode cX13_begin 0 = .ok (.aload_n 0, 1) := by decide +kernel
theorem dX13_begin_1 : decode cX13_begin 1 = .ok (.aload_n 0, 1) := by decide +kernel
theorem dX13_begin_2 : decode cX13_begin 2 = .ok (.getfield 28, 3) := by decide +kernel
theorem dX13_begin_5 : decode cX13_begin 5 = .ok (.putfield 14, 3) := by decide +kernel
theorem dX13_begin_8 : decode cX13_begin 8 = .ok (.aload_n 0, 1) := by decide +kernel
theorem dX13_begin_9 : decode cX13_begin 9 = .ok (.iconst 0, 1) := by decide +kernel
theorem dX13_begin_10 : decode cX13_begin 10 = .ok (.putfield 28, 3) := by decide +kernel
theorem dX13_begin_13 : decode cX13_begin 13 = .ok (.aload_n 0, 1) := by decide +kernel
theorem dX13_begin_14 : decode cX13_begin 14 = .ok (.iconst 0, 1) := by decide +kernel
theorem dX13_begin_15 : decode cX13_begin 15 = .ok (.putfield 31, 3) := by decide +kernel
theorem dX13_begin_18 : decode cX13_begin 18 = .ok (.aload_n 0, 1) := by decide +kernel
theorem dX13_begin_19 : decode cX13_begin 19 = .ok (.iconst 0, 1) := by decide +kernel
theorem dX13_begin_20 : decode cX13_begin 20 = .ok (.putfield 1, 3) := by decide +kernel
theorem dX13_begin_23 : decode cX13_begin 23 = .ok (.aload_n 0, 1) := by decide +kernel
theorem dX13_begin_24 : decode cX13_begin 24 = .ok (.iconst (-1), 1) := by decide +kernel
theorem dX13_begin_25 : decode cX13_begin 25 = .ok (.putfield 7, 3) := by decide +kernel
theorem dX13_begin_28 : decode cX13_begin 28 = .ok (.return_, 1) := by decide +kernel
theorem dX13_readProof_0 : decode cX13_readProof 0 = .ok (.iconst 0, 1) := by decide +kernel
theorem dX13_readProof_1 : decode cX13_readProof 1 = .ok (.istore_n 2, 1) := by decide +kernel
theorem dX13_readProof_2 : decode cX13_readProof 2 = .ok (.iconst 0, 1) := by decide +kernel
theorem dX13_readProof_3 : decode cX13_readProof 3 = .ok (.istore_n 3, 1) := by decide +kernel
theorem dX13_readProof_4 : decode cX13_readProof 4 = .ok (.iconst 0, 1) := by decide +kernel
theorem dX13_readProof_5 : decode cX13_readProof 5 = .ok (.istore 4, 2) := by decide +kernel
theorem dX13_readProof_7 : decode cX13_readProof 7 = .ok (.iload 4, 2) := by decide +kernel
theorem dX13_readProof_9 : decode cX13_readProof 9 = .ok (.aload_n 0, 1) := by decide +kernel
theorem dX13_readProof_10 : decode cX13_readProof 10 = .ok (.getfield 14, 3) := by decide +kernel
theorem dX13_readProof_13 : decode cX13_readProof 13 = .ok (.if_icmp .ge 105, 3) := by decide +kernel
theorem dX13_readProof_16 : decode cX13_readProof 16 = .ok (.aload_n 0, 1) := by decide +kernel
theorem dX13_readProof_17 : decode cX13_readProof 17 = .ok (.iload 4, 2) := by decide +kernel
theorem dX13_readProof_19 : decode cX13_readProof 19 = .ok (.invokevirtual 34, 3) := by decide +kernel
theorem dX13_readProof_22 : decode cX13_readProof 22 = .ok (.istore 5, 2) := by decide +kernel
theorem dX13_readProof_24 : decode cX13_readProof 24 = .ok (.iload 5, 2) := by decide +kernel
theorem dX13_readProof_26 : decode cX13_readProof 26 = .ok (.invokestatic 38, 3) := by decide +kernel
theorem dX13_readProof_29 : decode cX13_readProof 29 = .ok (.ifCond .eq 8, 3) := by decide +kernel
theorem dX13_readProof_32 : decode cX13_readProof 32 = .ok (.iconst 0, 1) := by decide +kernel
theorem dX13_readProof_33 : decode cX13_readProof 33 = .ok (.istore_n 3, 1) := by decide +kernel
theorem dX13_readProof_34 : decode cX13_readProof 34 = .ok (.goto 78, 3) := by decide +kernel
theorem dX13_readProof_37 : decode cX13_readProof 37 = .ok (.iload 5, 2) := by decide +kernel
theorem dX13_readProof_39 : decode cX13_readProof 39 = .ok (.invokestatic 41, 3) := by decide +kernel
theorem dX13_readProof_42 : decode cX13_readProof 42 = .ok (.ifCond .eq 9, 3) := by decide +kernel
theorem dX13_readProof_45 : decode cX13_readProof 45 = .ok (.iload_n 3, 1) := by decide +kernel
theorem dX13_readProof_46 : decode cX13_readProof 46 = .ok (.bipush 8, 2) := by decide +kernel
theorem dX13_readProof_48 : decode cX13_readProof 48 = .ok (.if_icmp .ne 11, 3) := by decide +kernel
theorem dX13_readProof_51 : decode cX13_readProof 51 = .ok (.aload_n 0, 1) := by decide +kernel
theorem dX13_readProof_52 : decode cX13_readProof 52 = .ok (.iconst 1, 1) := by decide +kernel
theorem dX13_readProof_53 : decode cX13_readProof 53 = .ok (.iload 4, 2) := by decide +kernel
theorem dX13_readProof_55 : decode cX13_readProof 55 = .ok (.invokevirtual 44, 3) := by decide +kernel
theorem dX13_readProof_58 : decode cX13_readProof 58 = .ok (.athrow, 1) := by decide +kernel
theorem dX13_readProof_59 : decode cX13_readProof 59 = .ok (.iload_n 3, 1) := by decide +kernel
theorem dX13_readProof_60 : decode cX13_readProof 60 = .ok (.ifCond .ne 26, 3) := by decide +kernel
theorem dX13_readProof_63 : decode cX13_readProof 63 = .ok (.iload_n 2, 1) := by decide +kernel
theorem dX13_readProof_64 : decode cX13_readProof 64 = .ok (.iload_n 1, 1) := by decide +kernel
theorem dX13_readProof_65 : decode cX13_readProof 65 = .ok (.if_icmp .ne 11, 3) := by decide +kernel
theorem dX13_readProof_68 : decode cX13_readProof 68 = .ok (.aload_n 0, 1) := by decide +kernel
theorem dX13_readProof_69 : decode cX13_readProof 69 = .ok (.iconst 3, 1) := by decide +kernel
theorem dX13_readProof_70 : decode cX13_readProof 70 = .ok (.iload 4, 2) := by decide +kernel
theorem dX13_readProof_72 : decode cX13_readProof 72 = .ok (.invokevirtual 44, 3) := by decide +kernel
theorem dX13_readProof_75 : decode cX13_readProof 75 = .ok (.athrow, 1) := by decide +kernel
theorem dX13_readProof_76 : decode cX13_readProof 76 = .ok (.aload_n 0, 1) := by decide +kernel
theorem dX13_readProof_77 : decode cX13_readProof 77 = .ok (.getfield 48, 3) := by decide +kernel
theorem dX13_readProof_80 : decode cX13_readProof 80 = .ok (.iload_n 2, 1) := by decide +kernel
theorem dX13_readProof_81 : decode cX13_readProof 81 = .ok (.lconst 0, 1) := by decide +kernel
theorem dX13_readProof_82 : decode cX13_readProof 82 = .ok (.lastore, 1) := by decide +kernel
theorem dX13_readProof_83 : decode cX13_readProof 83 = .ok (.iinc 2 1, 3) := by decide +kernel
theorem dX13_readProof_86 : decode cX13_readProof 86 = .ok (.aload_n 0, 1) := by decide +kernel
theorem dX13_readProof_87 : decode cX13_readProof 87 = .ok (.getfield 48, 3) := by decide +kernel
theorem dX13_readProof_90 : decode cX13_readProof 90 = .ok (.iload_n 2, 1) := by decide +kernel
theorem dX13_readProof_91 : decode cX13_readProof 91 = .ok (.iconst 1, 1) := by decide +kernel
theorem dX13_readProof_92 : decode cX13_readProof 92 = .ok (.isub, 1) := by decide +kernel
theorem dX13_readProof_93 : decode cX13_readProof 93 = .ok (.aload_n 0, 1) := by decide +kernel
theorem dX13_readProof_94 : decode cX13_readProof 94 = .ok (.getfield 48, 3) := by decide +kernel
theorem dX13_readProof_97 : decode cX13_readProof 97 = .ok (.iload_n 2, 1) := by decide +kernel
theorem dX13_readProof_98 : decode cX13_readProof 98 = .ok (.iconst 1, 1) := by decide +kernel
theorem dX13_readProof_99 : decode cX13_readProof 99 = .ok (.isub, 1) := by decide +kernel
theorem dX13_readProof_100 : decode cX13_readProof 100 = .ok (.laload, 1) := by decide +kernel
theorem dX13_readProof_101 : decode cX13_readProof 101 = .ok (.bipush 8, 2) := by decide +kernel
theorem dX13_readProof_103 : decode cX13_readProof 103 = .ok (.lshl, 1) := by decide +kernel
theorem dX13_readProof_104 : decode cX13_readProof 104 = .ok (.iload 5, 2) := by decide +kernel
theorem dX13_readProof_106 : decode cX13_readProof 106 = .ok (.i2l, 1) := by decide +kernel
theorem dX13_readProof_107 : decode cX13_readProof 107 = .ok (.lor, 1) := by decide +kernel
theorem dX13_readProof_108 : decode cX13_readProof 108 = .ok (.lastore, 1) := by decide +kernel
theorem dX13_readProof_109 : decode cX13_readProof 109 = .ok (.iinc 3 1, 3) := by decide +kernel
theorem dX13_readProof_112 : decode cX13_readProof 112 = .ok (.iinc 4 1, 3) := by decide +kernel
theorem dX13_readProof_115 : decode cX13_readProof 115 = .ok (.goto (-108), 3) := by decide +kernel
theorem dX13_readProof_118 : decode cX13_readProof 118 = .ok (.iload_n 2, 1) := by decide +kernel
theorem dX13_readProof_119 : decode cX13_readProof 119 = .ok (.ireturn, 1) := by decide +kernel
theorem dX13_init_0 : decode cX13_init 0 = .ok (.aload_n 0, 1) := by decide +kernel
theorem dX13_init_1 : decode cX13_init 1 = .ok (.invokespecial 52, 3) := by decide +kernel
theorem dX13_init_4 : decode cX13_init 4 = .ok (.aload_n 0, 1) := by decide +kernel
theorem dX13_init_5 : decode cX13_init 5 = .ok (.bipush 60, 2) := by decide +kernel
theorem dX13_init_7 : decode cX13_init 7 = .ok (.newarray .long, 2) := by decide +kernel
theorem dX13_init_9 : decode cX13_init 9 = .ok (.putfield 58, 3) := by decide +kernel
theorem dX13_init_12 : decode cX13_init 12 = .ok (.aload_n 0, 1) := by decide +kernel
theorem dX13_init_13 : decode cX13_init 13 = .ok (.sipush 150, 3) := by decide +kernel
theorem dX13_init_16 : decode cX13_init 16 = .ok (.newarray .long, 2) := by decide +kernel
theorem dX13_init_18 : decode cX13_init 18 = .ok (.putfield 61, 3) := by decide +kernel
theorem dX13_init_21 : decode cX13_init 21 = .ok (.aload_n 0, 1) := by decide +kernel
theorem dX13_init_22 : decode cX13_init 22 = .ok (.sipush 320, 3) := by decide +kernel
theorem dX13_init_25 : decode cX13_init 25 = .ok (.newarray .long, 2) := by decide +kernel
theorem dX13_init_27 : decode cX13_init 27 = .ok (.putfield 64, 3) := by decide +kernel
theorem dX13_init_30 : decode cX13_init 30 = .ok (.aload_n 0, 1) := by decide +kernel
theorem dX13_init_31 : decode cX13_init 31 = .ok (.new 67, 3) := by decide +kernel
theorem dX13_init_34 : decode cX13_init 34 = .ok (.dup, 1) := by decide +kernel
theorem dX13_init_35 : decode cX13_init 35 = .ok (.invokespecial 69, 3) := by decide +kernel
theorem dX13_init_38 : decode cX13_init 38 = .ok (.putfield 10, 3) := by decide +kernel
theorem dX13_init_41 : decode cX13_init 41 = .ok (.aload_n 0, 1) := by decide +kernel
theorem dX13_init_42 : decode cX13_init 42 = .ok (.sipush 2000, 3) := by decide +kernel
theorem dX13_init_45 : decode cX13_init 45 = .ok (.newarray .byte, 2) := by decide +kernel
theorem dX13_init_47 : decode cX13_init 47 = .ok (.putfield 17, 3) := by decide +kernel
theorem dX13_init_50 : decode cX13_init 50 = .ok (.aload_n 0, 1) := by decide +kernel
theorem dX13_init_51 : decode cX13_init 51 = .ok (.iconst (-1), 1) := by decide +kernel
theorem dX13_init_52 : decode cX13_init 52 = .ok (.putfield 7, 3) := by decide +kernel
theorem dX13_init_55 : decode cX13_init 55 = .ok (.aload_n 0, 1) := by decide +kernel
theorem dX13_init_56 : decode cX13_init 56 = .ok (.sipush 150, 3) := by decide +kernel
theorem dX13_init_59 : decode cX13_init 59 = .ok (.newarray .long, 2) := by decide +kernel
theorem dX13_init_61 : decode cX13_init 61 = .ok (.putfield 48, 3) := by decide +kernel
theorem dX13_init_64 : decode cX13_init 64 = .ok (.aload_n 0, 1) := by decide +kernel
theorem dX13_init_65 : decode cX13_init 65 = .ok (.bipush 41, 2) := by decide +kernel
theorem dX13_init_67 : decode cX13_init 67 = .ok (.newarray .int, 2) := by decide +kernel
theorem dX13_init_69 : decode cX13_init 69 = .ok (.putfield 70, 3) := by decide +kernel
end
section
theorem dX13_init_72 : decode cX13_init 72 = .ok (.aload_n 0, 1) := by decide +kernel
theorem dX13_init_73 : decode cX13_init 73 = .ok (.bipush 41, 2) := by decide +kernel
theorem dX13_init_75 : decode cX13_init 75 = .ok (.newarray .int, 2) := by decide +kernel
theorem dX13_init_77 : decode cX13_init 77 = .ok (.putfield 74, 3) := by decide +kernel
theorem dX13_init_80 : decode cX13_init 80 = .ok (.aload_n 0, 1) := by decide +kernel
theorem dX13_init_81 : decode cX13_init 81 = .ok (.bipush 41, 2) := by decide +kernel
theorem dX13_init_83 : decode cX13_init 83 = .ok (.newarray .int, 2) := by decide +kernel
theorem dX13_init_85 : decode cX13_init 85 = .ok (.putfield 77, 3) := by decide +kernel
theorem dX13_init_88 : decode cX13_init 88 = .ok (.aload_n 0, 1) := by decide +kernel
theorem dX13_init_89 : decode cX13_init 89 = .ok (.bipush 41, 2) := by decide +kernel
theorem dX13_init_91 : decode cX13_init 91 = .ok (.newarray .int, 2) := by decide +kernel
theorem dX13_init_93 : decode cX13_init 93 = .ok (.putfield 80, 3) := by decide +kernel
theorem dX13_init_96 : decode cX13_init 96 = .ok (.aload_n 0, 1) := by decide +kernel
theorem dX13_init_97 : decode cX13_init 97 = .ok (.bipush 41, 2) := by decide +kernel
theorem dX13_init_99 : decode cX13_init 99 = .ok (.newarray .int, 2) := by decide +kernel
theorem dX13_init_101 : decode cX13_init 101 = .ok (.putfield 83, 3) := by decide +kernel
theorem dX13_init_104 : decode cX13_init 104 = .ok (.aload_n 0, 1) := by decide +kernel
theorem dX13_init_105 : decode cX13_init 105 = .ok (.bipush 41, 2) := by decide +kernel
theorem dX13_init_107 : decode cX13_init 107 = .ok (.newarray .int, 2) := by decide +kernel
theorem dX13_init_109 : decode cX13_init 109 = .ok (.putfield 86, 3) := by decide +kernel
theorem dX13_init_112 : decode cX13_init 112 = .ok (.aload_n 0, 1) := by decide +kernel
theorem dX13_init_113 : decode cX13_init 113 = .ok (.bipush 41, 2) := by decide +kernel
theorem dX13_init_115 : decode cX13_init 115 = .ok (.newarray .int, 2) := by decide +kernel
theorem dX13_init_117 : decode cX13_init 117 = .ok (.putfield 89, 3) := by decide +kernel
theorem dX13_init_120 : decode cX13_init 120 = .ok (.aload_n 0, 1) := by decide +kernel
theorem dX13_init_121 : decode cX13_init 121 = .ok (.sipush 246, 3) := by decide +kernel
theorem dX13_init_124 : decode cX13_init 124 = .ok (.newarray .long, 2) := by decide +kernel
theorem dX13_init_126 : decode cX13_init 126 = .ok (.putfield 92, 3) := by decide +kernel
theorem dX13_init_129 : decode cX13_init 129 = .ok (.aload_n 0, 1) := by decide +kernel
theorem dX13_init_130 : decode cX13_init 130 = .ok (.bipush 41, 2) := by decide +kernel
theorem dX13_init_132 : decode cX13_init 132 = .ok (.newarray .boolean, 2) := by decide +kernel
theorem dX13_init_134 : decode cX13_init 134 = .ok (.putfield 95, 3) := by decide +kernel
theorem dX13_init_137 : decode cX13_init 137 = .ok (.aload_n 0, 1) := by decide +kernel
theorem dX13_init_138 : decode cX13_init 138 = .ok (.bipush 41, 2) := by decide +kernel
theorem dX13_init_140 : decode cX13_init 140 = .ok (.newarray .boolean, 2) := by decide +kernel
theorem dX13_init_142 : decode cX13_init 142 = .ok (.putfield 99, 3) := by decide +kernel
theorem dX13_init_145 : decode cX13_init 145 = .ok (.aload_n 0, 1) := by decide +kernel
theorem dX13_init_146 : decode cX13_init 146 = .ok (.iconst 3, 1) := by decide +kernel
theorem dX13_init_147 : decode cX13_init 147 = .ok (.newarray .int, 2) := by decide +kernel
theorem dX13_init_149 : decode cX13_init 149 = .ok (.dup, 1) := by decide +kernel
theorem dX13_init_150 : decode cX13_init 150 = .ok (.iconst 0, 1) := by decide +kernel
theorem dX13_init_151 : decode cX13_init 151 = .ok (.iconst 0, 1) := by decide +kernel
theorem dX13_init_152 : decode cX13_init 152 = .ok (.iastore, 1) := by decide +kernel
theorem dX13_init_153 : decode cX13_init 153 = .ok (.dup, 1) := by decide +kernel
theorem dX13_init_154 : decode cX13_init 154 = .ok (.iconst 1, 1) := by decide +kernel
theorem dX13_init_155 : decode cX13_init 155 = .ok (.iconst 1, 1) := by decide +kernel
theorem dX13_init_156 : decode cX13_init 156 = .ok (.iastore, 1) := by decide +kernel
theorem dX13_init_157 : decode cX13_init 157 = .ok (.dup, 1) := by decide +kernel
theorem dX13_init_158 : decode cX13_init 158 = .ok (.iconst 2, 1) := by decide +kernel
theorem dX13_init_159 : decode cX13_init 159 = .ok (.iconst 2, 1) := by decide +kernel
theorem dX13_init_160 : decode cX13_init 160 = .ok (.iastore, 1) := by decide +kernel
theorem dX13_init_161 : decode cX13_init 161 = .ok (.putfield 102, 3) := by decide +kernel
theorem dX13_init_164 : decode cX13_init 164 = .ok (.aload_n 0, 1) := by decide +kernel
theorem dX13_init_165 : decode cX13_init 165 = .ok (.iconst 5, 1) := by decide +kernel
theorem dX13_init_166 : decode cX13_init 166 = .ok (.newarray .int, 2) := by decide +kernel
theorem dX13_init_168 : decode cX13_init 168 = .ok (.dup, 1) := by decide +kernel
theorem dX13_init_169 : decode cX13_init 169 = .ok (.iconst 0, 1) := by decide +kernel
theorem dX13_init_170 : decode cX13_init 170 = .ok (.iconst 5, 1) := by decide +kernel
theorem dX13_init_171 : decode cX13_init 171 = .ok (.iastore, 1) := by decide +kernel
theorem dX13_init_172 : decode cX13_init 172 = .ok (.dup, 1) := by decide +kernel
theorem dX13_init_173 : decode cX13_init 173 = .ok (.iconst 1, 1) := by decide +kernel
theorem dX13_init_174 : decode cX13_init 174 = .ok (.bipush 10, 2) := by decide +kernel
theorem dX13_init_176 : decode cX13_init 176 = .ok (.iastore, 1) := by decide +kernel
theorem dX13_init_177 : decode cX13_init 177 = .ok (.dup, 1) := by decide +kernel
theorem dX13_init_178 : decode cX13_init 178 = .ok (.iconst 2, 1) := by decide +kernel
theorem dX13_init_179 : decode cX13_init 179 = .ok (.bipush 10, 2) := by decide +kernel
theorem dX13_init_181 : decode cX13_init 181 = .ok (.iastore, 1) := by decide +kernel
theorem dX13_init_182 : decode cX13_init 182 = .ok (.dup, 1) := by decide +kernel
theorem dX13_init_183 : decode cX13_init 183 = .ok (.iconst 3, 1) := by decide +kernel
theorem dX13_init_184 : decode cX13_init 184 = .ok (.bipush 8, 2) := by decide +kernel
theorem dX13_init_186 : decode cX13_init 186 = .ok (.iastore, 1) := by decide +kernel
theorem dX13_init_187 : decode cX13_init 187 = .ok (.dup, 1) := by decide +kernel
theorem dX13_init_188 : decode cX13_init 188 = .ok (.iconst 4, 1) := by decide +kernel
theorem dX13_init_189 : decode cX13_init 189 = .ok (.bipush 12, 2) := by decide +kernel
theorem dX13_init_191 : decode cX13_init 191 = .ok (.iastore, 1) := by decide +kernel
theorem dX13_init_192 : decode cX13_init 192 = .ok (.putfield 105, 3) := by decide +kernel
theorem dX13_init_195 : decode cX13_init 195 = .ok (.aload_n 0, 1) := by decide +kernel
theorem dX13_init_196 : decode cX13_init 196 = .ok (.iconst 2, 1) := by decide +kernel
theorem dX13_init_197 : decode cX13_init 197 = .ok (.newarray .int, 2) := by decide +kernel
theorem dX13_init_199 : decode cX13_init 199 = .ok (.dup, 1) := by decide +kernel
theorem dX13_init_200 : decode cX13_init 200 = .ok (.iconst 0, 1) := by decide +kernel
theorem dX13_init_201 : decode cX13_init 201 = .ok (.iconst 2, 1) := by decide +kernel
theorem dX13_init_202 : decode cX13_init 202 = .ok (.iastore, 1) := by decide +kernel
theorem dX13_init_203 : decode cX13_init 203 = .ok (.dup, 1) := by decide +kernel
theorem dX13_init_204 : decode cX13_init 204 = .ok (.iconst 1, 1) := by decide +kernel
theorem dX13_init_205 : decode cX13_init 205 = .ok (.iconst 3, 1) := by decide +kernel
theorem dX13_init_206 : decode cX13_init 206 = .ok (.iastore, 1) := by decide +kernel
theorem dX13_init_207 : decode cX13_init 207 = .ok (.putfield 108, 3) := by decide +kernel
theorem dX13_init_210 : decode cX13_init 210 = .ok (.aload_n 0, 1) := by decide +kernel
theorem dX13_init_211 : decode cX13_init 211 = .ok (.bipush 40, 2) := by decide +kernel
theorem dX13_init_213 : decode cX13_init 213 = .ok (.newarray .int, 2) := by decide +kernel
theorem dX13_init_215 : decode cX13_init 215 = .ok (.putfield 111, 3) := by decide +kernel
theorem dX13_init_218 : decode cX13_init 218 = .ok (.aload_n 0, 1) := by decide +kernel
theorem dX13_init_219 : decode cX13_init 219 = .ok (.bipush 40, 2) := by decide +kernel
theorem dX13_init_221 : decode cX13_init 221 = .ok (.newarray .int, 2) := by decide +kernel
theorem dX13_init_223 : decode cX13_init 223 = .ok (.putfield 114, 3) := by decide +kernel
theorem dX13_init_226 : decode cX13_init 226 = .ok (.aload_n 0, 1) := by decide +kernel
theorem dX13_init_227 : decode cX13_init 227 = .ok (.bipush 40, 2) := by decide +kernel
theorem dX13_init_229 : decode cX13_init 229 = .ok (.newarray .boolean, 2) := by decide +kernel
theorem dX13_init_231 : decode cX13_init 231 = .ok (.putfield 117, 3) := by decide +kernel
theorem dX13_init_234 : decode cX13_init 234 = .ok (.aload_n 0, 1) := by decide +kernel
theorem dX13_init_235 : decode cX13_init 235 = .ok (.ldc 120, 2) := by decide +kernel
theorem dX13_init_237 : decode cX13_init 237 = .ok (.newarray .int, 2) := by decide +kernel
theorem dX13_init_239 : decode cX13_init 239 = .ok (.putfield 121, 3) := by decide +kernel
theorem dX13_init_242 : decode cX13_init 242 = .ok (.aload_n 0, 1) := by decide +kernel
theorem dX13_init_243 : decode cX13_init 243 = .ok (.bipush 8, 2) := by decide +kernel
theorem dX13_init_245 : decode cX13_init 245 = .ok (.newarray .int, 2) := by decide +kernel
theorem dX13_init_247 : decode cX13_init 247 = .ok (.putfield 124, 3) := by decide +kernel
theorem dX13_init_250 : decode cX13_init 250 = .ok (.aload_n 0, 1) := by decide +kernel
theorem dX13_init_251 : decode cX13_init 251 = .ok (.sipush 470, 3) := by decide +kernel
theorem dX13_init_254 : decode cX13_init 254 = .ok (.newarray .int, 2) := by decide +kernel
theorem dX13_init_256 : decode cX13_init 256 = .ok (.putfield 127, 3) := by decide +kernel
theorem dX13_init_259 : decode cX13_init 259 = .ok (.aload_n 0, 1) := by decide +kernel
theorem dX13_init_260 : decode cX13_init 260 = .ok (.sipush 470, 3) := by decide +kernel
theorem dX13_init_263 : decode cX13_init 263 = .ok (.newarray .int, 2) := by decide +kernel
theorem dX13_init_265 : decode cX13_init 265 = .ok (.putfield 130, 3) := by decide +kernel
theorem dX13_init_268 : decode cX13_init 268 = .ok (.aload_n 0, 1) := by decide +kernel
theorem dX13_init_269 : decode cX13_init 269 = .ok (.sipush 470, 3) := by decide +kernel
theorem dX13_init_272 : decode cX13_init 272 = .ok (.newarray .int, 2) := by decide +kernel
theorem dX13_init_274 : decode cX13_init 274 = .ok (.putfield 133, 3) := by decide +kernel
theorem dX13_init_277 : decode cX13_init 277 = .ok (.return_, 1) := by decide +kernel
theorem dX13_feed_0 : decode cX13_feed 0 = .ok (.aload_n 0, 1) := by decide +kernel
theorem dX13_feed_1 : decode cX13_feed 1 = .ok (.getfield 28, 3) := by decide +kernel
theorem dX13_feed_4 : decode cX13_feed 4 = .ok (.bipush 20, 2) := by decide +kernel
theorem dX13_feed_6 : decode cX13_feed 6 = .ok (.iadd, 1) := by decide +kernel
theorem dX13_feed_7 : decode cX13_feed 7 = .ok (.sipush 2000, 3) := by decide +kernel
theorem dX13_feed_10 : decode cX13_feed 10 = .ok (.if_icmp .le 6, 3) := by decide +kernel
theorem dX13_feed_13 : decode cX13_feed 13 = .ok (.bipush (-3), 2) := by decide +kernel
theorem dX13_feed_15 : decode cX13_feed 15 = .ok (.ireturn, 1) := by decide +kernel
theorem dX13_feed_16 : decode cX13_feed 16 = .ok (.aload_n 0, 1) := by decide +kernel
theorem dX13_feed_17 : decode cX13_feed 17 = .ok (.iload_n 1, 1) := by decide +kernel
theorem dX13_feed_18 : decode cX13_feed 18 = .ok (.invokevirtual 136, 3) := by decide +kernel
theorem dX13_feed_21 : decode cX13_feed 21 = .ok (.aload_n 0, 1) := by decide +kernel
theorem dX13_feed_22 : decode cX13_feed 22 = .ok (.iload_n 2, 1) := by decide +kernel
theorem dX13_feed_23 : decode cX13_feed 23 = .ok (.invokevirtual 136, 3) := by decide +kernel
theorem dX13_feed_26 : decode cX13_feed 26 = .ok (.aload_n 0, 1) := by decide +kernel
theorem dX13_feed_27 : decode cX13_feed 27 = .ok (.iload_n 3, 1) := by decide +kernel
theorem dX13_feed_28 : decode cX13_feed 28 = .ok (.invokevirtual 136, 3) := by decide +kernel
theorem dX13_feed_31 : decode cX13_feed 31 = .ok (.aload_n 0, 1) := by decide +kernel
theorem dX13_feed_32 : decode cX13_feed 32 = .ok (.iload 4, 2) := by decide +kernel
theorem dX13_feed_34 : decode cX13_feed 34 = .ok (.invokevirtual 136, 3) := by decide +kernel
theorem dX13_feed_37 : decode cX13_feed 37 = .ok (.aload_n 0, 1) := by decide +kernel
theorem dX13_feed_38 : decode cX13_feed 38 = .ok (.iload 5, 2) := by decide +kernel
theorem dX13_feed_40 : decode cX13_feed 40 = .ok (.invokevirtual 136, 3) := by decide +kernel
theorem dX13_feed_43 : decode cX13_feed 43 = .ok (.aload_n 0, 1) := by decide +kernel
theorem dX13_feed_44 : decode cX13_feed 44 = .ok (.getfield 28, 3) := by decide +kernel
theorem dX13_feed_47 : decode cX13_feed 47 = .ok (.ireturn, 1) := by decide +kernel
theorem dX13_lay_0 : decode cX13_lay 0 = .ok (.bipush 24, 2) := by decide +kernel
theorem dX13_lay_2 : decode cX13_lay 2 = .ok (.istore_n 2, 1) := by decide +kernel
theorem dX13_lay_3 : decode cX13_lay 3 = .ok (.iload_n 2, 1) := by decide +kernel
theorem dX13_lay_4 : decode cX13_lay 4 = .ok (.ifCond .lt 32, 3) := by decide +kernel
theorem dX13_lay_7 : decode cX13_lay 7 = .ok (.aload_n 0, 1) := by decide +kernel
theorem dX13_lay_8 : decode cX13_lay 8 = .ok (.getfield 17, 3) := by decide +kernel
theorem dX13_lay_11 : decode cX13_lay 11 = .ok (.aload_n 0, 1) := by decide +kernel
theorem dX13_lay_12 : decode cX13_lay 12 = .ok (.getfield 28, 3) := by decide +kernel
theorem dX13_lay_15 : decode cX13_lay 15 = .ok (.iload_n 1, 1) := by decide +kernel
theorem dX13_lay_16 : decode cX13_lay 16 = .ok (.iload_n 2, 1) := by decide +kernel
theorem dX13_lay_17 : decode cX13_lay 17 = .ok (.ishr, 1) := by decide +kernel
theorem dX13_lay_18 : decode cX13_lay 18 = .ok (.i2b, 1) := by decide +kernel
theorem dX13_lay_19 : decode cX13_lay 19 = .ok (.bastore, 1) := by decide +kernel
theorem dX13_lay_20 : decode cX13_lay 20 = .ok (.aload_n 0, 1) := by decide +kernel
theorem dX13_lay_21 : decode cX13_lay 21 = .ok (.dup, 1) := by decide +kernel
theorem dX13_lay_22 : decode cX13_lay 22 = .ok (.getfield 28, 3) := by decide +kernel
theorem dX13_lay_25 : decode cX13_lay 25 = .ok (.iconst 1, 1) := by decide +kernel
theorem dX13_lay_26 : decode cX13_lay 26 = .ok (.iadd, 1) := by decide +kernel
theorem dX13_lay_27 : decode cX13_lay 27 = .ok (.putfield 28, 3) := by decide +kernel
theorem dX13_lay_30 : decode cX13_lay 30 = .ok (.iinc 2 (-8), 3) := by decide +kernel
theorem dX13_lay_33 : decode cX13_lay 33 = .ok (.goto (-30), 3) := by decide +kernel
theorem dX13_lay_36 : decode cX13_lay 36 = .ok (.return_, 1) := by decide +kernel
theorem dX13_end_0 : decode cX13_end 0 = .ok (.iload_n 1, 1) := by decide +kernel
theorem dX13_end_1 : decode cX13_end 1 = .ok (.i2l, 1) := by decide +kernel
theorem dX13_end_2 : decode cX13_end 2 = .ok (.lconst 0, 1) := by decide +kernel
theorem dX13_end_3 : decode cX13_end 3 = .ok (.aload_n 0, 1) := by decide +kernel
theorem dX13_end_4 : decode cX13_end 4 = .ok (.getfield 28, 3) := by decide +kernel
theorem dX13_end_7 : decode cX13_end 7 = .ok (.i2l, 1) := by decide +kernel
theorem dX13_end_8 : decode cX13_end 8 = .ok (.invokestatic 140, 3) := by decide +kernel
theorem dX13_end_11 : decode cX13_end 11 = .ok (.ifCond .ne 5, 3) := by decide +kernel
theorem dX13_end_14 : decode cX13_end 14 = .ok (.iconst (-1), 1) := by decide +kernel
theorem dX13_end_15 : decode cX13_end 15 = .ok (.ireturn, 1) := by decide +kernel
theorem dX13_end_16 : decode cX13_end 16 = .ok (.aload_n 0, 1) := by decide +kernel
theorem dX13_end_17 : decode cX13_end 17 = .ok (.iload_n 1, 1) := by decide +kernel
theorem dX13_end_18 : decode cX13_end 18 = .ok (.putfield 28, 3) := by decide +kernel
theorem dX13_end_21 : decode cX13_end 21 = .ok (.iload_n 1, 1) := by decide +kernel
theorem dX13_end_22 : decode cX13_end 22 = .ok (.ireturn, 1) := by decide +kernel
theorem dX13_first_0 : decode cX13_first 0 = .ok (.aload_n 0, 1) := by decide +kernel
theorem dX13_first_1 : decode cX13_first 1 = .ok (.invokevirtual 144, 3) := by decide +kernel
theorem dX13_first_4 : decode cX13_first 4 = .ok (.aload_n 0, 1) := by decide +kernel
theorem dX13_first_5 : decode cX13_first 5 = .ok (.bipush 60, 2) := by decide +kernel
theorem dX13_first_7 : decode cX13_first 7 = .ok (.invokevirtual 147, 3) := by decide +kernel
theorem dX13_first_10 : decode cX13_first 10 = .ok (.istore_n 1, 1) := by decide +kernel
theorem dX13_first_11 : decode cX13_first 11 = .ok (.goto 6, 3) := by decide +kernel
theorem dX13_first_14 : decode cX13_first 14 = .ok (.astore_n 2, 1) := by decide +kernel
theorem dX13_first_15 : decode cX13_first 15 = .ok (.iconst (-1), 1) := by decide +kernel
theorem dX13_first_16 : decode cX13_first 16 = .ok (.ireturn, 1) := by decide +kernel
theorem dX13_first_17 : decode cX13_first 17 = .ok (.iconst 0, 1) := by decide +kernel
theorem dX13_first_18 : decode cX13_first 18 = .ok (.istore_n 2, 1) := by decide +kernel
theorem dX13_first_19 : decode cX13_first 19 = .ok (.iload_n 2, 1) := by decide +kernel
theorem dX13_first_20 : decode cX13_first 20 = .ok (.iload_n 1, 1) := by decide +kernel
theorem dX13_first_21 : decode cX13_first 21 = .ok (.if_icmp .ge 21, 3) := by decide +kernel
theorem dX13_first_24 : decode cX13_first 24 = .ok (.aload_n 0, 1) := by decide +kernel
theorem dX13_first_25 : decode cX13_first 25 = .ok (.getfield 58, 3) := by decide +kernel
theorem dX13_first_28 : decode cX13_first 28 = .ok (.iload_n 2, 1) := by decide +kernel
theorem dX13_first_29 : decode cX13_first 29 = .ok (.aload_n 0, 1) := by decide +kernel
theorem dX13_first_30 : decode cX13_first 30 = .ok (.getfield 48, 3) := by decide +kernel
theorem dX13_first_33 : decode cX13_first 33 = .ok (.iload_n 2, 1) := by decide +kernel
theorem dX13_first_34 : decode cX13_first 34 = .ok (.laload, 1) := by decide +kernel
theorem dX13_first_35 : decode cX13_first 35 = .ok (.lastore, 1) := by decide +kernel
theorem dX13_first_36 : decode cX13_first 36 = .ok (.iinc 2 1, 3) := by decide +kernel
theorem dX13_first_39 : decode cX13_first 39 = .ok (.goto (-20), 3) := by decide +kernel
theorem dX13_first_42 : decode cX13_first 42 = .ok (.aload_n 0, 1) := by decide +kernel
theorem dX13_first_43 : decode cX13_first 43 = .ok (.iload_n 1, 1) := by decide +kernel
theorem dX13_first_44 : decode cX13_first 44 = .ok (.putfield 150, 3) := by decide +kernel
theorem dX13_first_47 : decode cX13_first 47 = .ok (.aload_n 0, 1) := by decide +kernel
theorem dX13_first_48 : decode cX13_first 48 = .ok (.iconst 0, 1) := by decide +kernel
theorem dX13_first_49 : decode cX13_first 49 = .ok (.putfield 153, 3) := by decide +kernel
theorem dX13_first_52 : decode cX13_first 52 = .ok (.iload_n 1, 1) := by decide +kernel
theorem dX13_first_53 : decode cX13_first 53 = .ok (.ireturn, 1) := by decide +kernel
theorem dX13_second_0 : decode cX13_second 0 = .ok (.aload_n 0, 1) := by decide +kernel
theorem dX13_second_1 : decode cX13_second 1 = .ok (.invokevirtual 144, 3) := by decide +kernel
theorem dX13_second_4 : decode cX13_second 4 = .ok (.aload_n 0, 1) := by decide +kernel
theorem dX13_second_5 : decode cX13_second 5 = .ok (.sipush 150, 3) := by decide +kernel
theorem dX13_second_8 : decode cX13_second 8 = .ok (.invokevirtual 147, 3) := by decide +kernel
theorem dX13_second_11 : decode cX13_second 11 = .ok (.istore_n 1, 1) := by decide +kernel
theorem dX13_second_12 : decode cX13_second 12 = .ok (.goto 6, 3) := by decide +kernel
theorem dX13_second_15 : decode cX13_second 15 = .ok (.astore_n 2, 1) := by decide +kernel
theorem dX13_second_16 : decode cX13_second 16 = .ok (.iconst (-1), 1) := by decide +kernel
theorem dX13_second_17 : decode cX13_second 17 = .ok (.ireturn, 1) := by decide +kernel
theorem dX13_second_18 : decode cX13_second 18 = .ok (.iconst 0, 1) := by decide +kernel
theorem dX13_second_19 : decode cX13_second 19 = .ok (.istore_n 2, 1) := by decide +kernel
theorem dX13_second_20 : decode cX13_second 20 = .ok (.iload_n 2, 1) := by decide +kernel
theorem dX13_second_21 : decode cX13_second 21 = .ok (.iload_n 1, 1) := by decide +kernel
theorem dX13_second_22 : decode cX13_second 22 = .ok (.if_icmp .ge 21, 3) := by decide +kernel
theorem dX13_second_25 : decode cX13_second 25 = .ok (.aload_n 0, 1) := by decide +kernel
theorem dX13_second_26 : decode cX13_second 26 = .ok (.getfield 61, 3) := by decide +kernel
theorem dX13_second_29 : decode cX13_second 29 = .ok (.iload_n 2, 1) := by decide +kernel
theorem dX13_second_30 : decode cX13_second 30 = .ok (.aload_n 0, 1) := by decide +kernel
theorem dX13_second_31 : decode cX13_second 31 = .ok (.getfield 48, 3) := by decide +kernel
theorem dX13_second_34 : decode cX13_second 34 = .ok (.iload_n 2, 1) := by decide +kernel
theorem dX13_second_35 : decode cX13_second 35 = .ok (.laload, 1) := by decide +kernel
theorem dX13_second_36 : decode cX13_second 36 = .ok (.lastore, 1) := by decide +kernel
theorem dX13_second_37 : decode cX13_second 37 = .ok (.iinc 2 1, 3) := by decide +kernel
theorem dX13_second_40 : decode cX13_second 40 = .ok (.goto (-20), 3) := by decide +kernel
theorem dX13_second_43 : decode cX13_second 43 = .ok (.aload_n 0, 1) := by decide +kernel
theorem dX13_second_44 : decode cX13_second 44 = .ok (.iload_n 1, 1) := by decide +kernel
theorem dX13_second_45 : decode cX13_second 45 = .ok (.putfield 156, 3) := by decide +kernel
theorem dX13_second_48 : decode cX13_second 48 = .ok (.iload_n 1, 1) := by decide +kernel
theorem dX13_second_49 : decode cX13_second 49 = .ok (.ireturn, 1) := by decide +kernel
theorem dX13_scan_0 : decode cX13_scan 0 = .ok (.aload_n 0, 1) := by decide +kernel
theorem dX13_scan_1 : decode cX13_scan 1 = .ok (.getfield 31, 3) := by decide +kernel
theorem dX13_scan_4 : decode cX13_scan 4 = .ok (.aload_n 0, 1) := by decide +kernel
theorem dX13_scan_5 : decode cX13_scan 5 = .ok (.getfield 14, 3) := by decide +kernel
theorem dX13_scan_8 : decode cX13_scan 8 = .ok (.if_icmp .ge 30, 3) := by decide +kernel
theorem dX13_scan_11 : decode cX13_scan 11 = .ok (.aload_n 0, 1) := by decide +kernel
theorem dX13_scan_12 : decode cX13_scan 12 = .ok (.aload_n 0, 1) := by decide +kernel
theorem dX13_scan_13 : decode cX13_scan 13 = .ok (.getfield 31, 3) := by decide +kernel
theorem dX13_scan_16 : decode cX13_scan 16 = .ok (.invokevirtual 34, 3) := by decide +kernel
theorem dX13_scan_19 : decode cX13_scan 19 = .ok (.invokestatic 38, 3) := by decide +kernel
theorem dX13_scan_22 : decode cX13_scan 22 = .ok (.ifCond .eq 16, 3) := by decide +kernel
theorem dX13_scan_25 : decode cX13_scan 25 = .ok (.aload_n 0, 1) := by decide +kernel
theorem dX13_scan_26 : decode cX13_scan 26 = .ok (.dup, 1) := by decide +kernel
theorem dX13_scan_27 : decode cX13_scan 27 = .ok (.getfield 31, 3) := by decide +kernel
theorem dX13_scan_30 : decode cX13_scan 30 = .ok (.iconst 1, 1) := by decide +kernel
theorem dX13_scan_31 : decode cX13_scan 31 = .ok (.iadd, 1) := by decide +kernel
theorem dX13_scan_32 : decode cX13_scan 32 = .ok (.putfield 31, 3) := by decide +kernel
theorem dX13_scan_35 : decode cX13_scan 35 = .ok (.goto (-35), 3) := by decide +kernel
theorem dX13_scan_38 : decode cX13_scan 38 = .ok (.aload_n 0, 1) := by decide +kernel
theorem dX13_scan_39 : decode cX13_scan 39 = .ok (.aload_n 0, 1) := by decide +kernel
theorem dX13_scan_40 : decode cX13_scan 40 = .ok (.getfield 31, 3) := by decide +kernel
theorem dX13_scan_43 : decode cX13_scan 43 = .ok (.putfield 159, 3) := by decide +kernel
theorem dX13_scan_46 : decode cX13_scan 46 = .ok (.aload_n 0, 1) := by decide +kernel
theorem dX13_scan_47 : decode cX13_scan 47 = .ok (.aload_n 0, 1) := by decide +kernel
theorem dX13_scan_48 : decode cX13_scan 48 = .ok (.getfield 159, 3) := by decide +kernel
theorem dX13_scan_51 : decode cX13_scan 51 = .ok (.invokevirtual 34, 3) := by decide +kernel
theorem dX13_scan_54 : decode cX13_scan 54 = .ok (.istore_n 1, 1) := by decide +kernel
theorem dX13_scan_55 : decode cX13_scan 55 = .ok (.aload_n 0, 1) := by decide +kernel
theorem dX13_scan_56 : decode cX13_scan 56 = .ok (.getfield 159, 3) := by decide +kernel
theorem dX13_scan_59 : decode cX13_scan 59 = .ok (.aload_n 0, 1) := by decide +kernel
theorem dX13_scan_60 : decode cX13_scan 60 = .ok (.getfield 14, 3) := by decide +kernel
theorem dX13_scan_63 : decode cX13_scan 63 = .ok (.if_icmp .ne 11, 3) := by decide +kernel
theorem dX13_scan_66 : decode cX13_scan 66 = .ok (.aload_n 0, 1) := by decide +kernel
theorem dX13_scan_67 : decode cX13_scan 67 = .ok (.iconst 0, 1) := by decide +kernel
theorem dX13_scan_68 : decode cX13_scan 68 = .ok (.putfield 162, 3) := by decide +kernel
theorem dX13_scan_71 : decode cX13_scan 71 = .ok (.goto 182, 3) := by decide +kernel
theorem dX13_scan_74 : decode cX13_scan 74 = .ok (.iload_n 1, 1) := by decide +kernel
theorem dX13_scan_75 : decode cX13_scan 75 = .ok (.invokestatic 21, 3) := by decide +kernel
theorem dX13_scan_78 : decode cX13_scan 78 = .ok (.ifCond .eq 38, 3) := by decide +kernel
theorem dX13_scan_81 : decode cX13_scan 81 = .ok (.aload_n 0, 1) := by decide +kernel
theorem dX13_scan_82 : decode cX13_scan 82 = .ok (.aload_n 0, 1) := by decide +kernel
theorem dX13_scan_83 : decode cX13_scan 83 = .ok (.getfield 31, 3) := by decide +kernel
theorem dX13_scan_86 : decode cX13_scan 86 = .ok (.invokevirtual 34, 3) := by decide +kernel
theorem dX13_scan_89 : decode cX13_scan 89 = .ok (.invokestatic 21, 3) := by decide +kernel
theorem dX13_scan_92 : decode cX13_scan 92 = .ok (.ifCond .eq 16, 3) := by decide +kernel
theorem dX13_scan_95 : decode cX13_scan 95 = .ok (.aload_n 0, 1) := by decide +kernel
theorem dX13_scan_96 : decode cX13_scan 96 = .ok (.dup, 1) := by decide +kernel
theorem dX13_scan_97 : decode cX13_scan 97 = .ok (.getfield 31, 3) := by decide +kernel
theorem dX13_scan_100 : decode cX13_scan 100 = .ok (.iconst 1, 1) := by decide +kernel
theorem dX13_scan_101 : decode cX13_scan 101 = .ok (.iadd, 1) := by decide +kernel
theorem dX13_scan_102 : decode cX13_scan 102 = .ok (.putfield 31, 3) := by decide +kernel
theorem dX13_scan_105 : decode cX13_scan 105 = .ok (.goto (-24), 3) := by decide +kernel
theorem dX13_scan_108 : decode cX13_scan 108 = .ok (.aload_n 0, 1) := by decide +kernel
theorem dX13_scan_109 : decode cX13_scan 109 = .ok (.iconst 1, 1) := by decide +kernel
theorem dX13_scan_110 : decode cX13_scan 110 = .ok (.putfield 162, 3) := by decide +kernel
theorem dX13_scan_113 : decode cX13_scan 113 = .ok (.goto 140, 3) := by decide +kernel
theorem dX13_scan_116 : decode cX13_scan 116 = .ok (.iload_n 1, 1) := by decide +kernel
theorem dX13_scan_117 : decode cX13_scan 117 = .ok (.invokestatic 25, 3) := by decide +kernel
theorem dX13_scan_120 : decode cX13_scan 120 = .ok (.ifCond .eq 96, 3) := by decide +kernel
theorem dX13_scan_123 : decode cX13_scan 123 = .ok (.aload_n 0, 1) := by decide +kernel
theorem dX13_scan_124 : decode cX13_scan 124 = .ok (.iconst 0, 1) := by decide +kernel
theorem dX13_scan_125 : decode cX13_scan 125 = .ok (.putfield 165, 3) := by decide +kernel
theorem dX13_scan_128 : decode cX13_scan 128 = .ok (.aload_n 0, 1) := by decide +kernel
theorem dX13_scan_129 : decode cX13_scan 129 = .ok (.aload_n 0, 1) := by decide +kernel
theorem dX13_scan_130 : decode cX13_scan 130 = .ok (.getfield 31, 3) := by decide +kernel
theorem dX13_scan_133 : decode cX13_scan 133 = .ok (.invokevirtual 34, 3) := by decide +kernel
theorem dX13_scan_136 : decode cX13_scan 136 = .ok (.invokestatic 25, 3) := by decide +kernel
theorem dX13_scan_139 : decode cX13_scan 139 = .ok (.ifCond .eq 52, 3) := by decide +kernel
theorem dX13_scan_142 : decode cX13_scan 142 = .ok (.aload_n 0, 1) := by decide +kernel
theorem dX13_scan_143 : decode cX13_scan 143 = .ok (.getfield 31, 3) := by decide +kernel
theorem dX13_scan_146 : decode cX13_scan 146 = .ok (.aload_n 0, 1) := by decide +kernel
theorem dX13_scan_147 : decode cX13_scan 147 = .ok (.getfield 159, 3) := by decide +kernel
theorem dX13_scan_150 : decode cX13_scan 150 = .ok (.isub, 1) := by decide +kernel
theorem dX13_scan_151 : decode cX13_scan 151 = .ok (.iconst 3, 1) := by decide +kernel
theorem dX13_scan_152 : decode cX13_scan 152 = .ok (.if_icmp .ge 26, 3) := by decide +kernel
theorem dX13_scan_155 : decode cX13_scan 155 = .ok (.aload_n 0, 1) := by decide +kernel
theorem dX13_scan_156 : decode cX13_scan 156 = .ok (.bipush 10, 2) := by decide +kernel
theorem dX13_scan_158 : decode cX13_scan 158 = .ok (.aload_n 0, 1) := by decide +kernel
theorem dX13_scan_159 : decode cX13_scan 159 = .ok (.getfield 165, 3) := by decide +kernel
theorem dX13_scan_162 : decode cX13_scan 162 = .ok (.imul, 1) := by decide +kernel
theorem dX13_scan_163 : decode cX13_scan 163 = .ok (.aload_n 0, 1) := by decide +kernel
theorem dX13_scan_164 : decode cX13_scan 164 = .ok (.aload_n 0, 1) := by decide +kernel
theorem dX13_scan_165 : decode cX13_scan 165 = .ok (.getfield 31, 3) := by decide +kernel
theorem dX13_scan_168 : decode cX13_scan 168 = .ok (.invokevirtual 34, 3) := by decide +kernel
theorem dX13_scan_171 : decode cX13_scan 171 = .ok (.iadd, 1) := by decide +kernel
theorem dX13_scan_172 : decode cX13_scan 172 = .ok (.bipush 48, 2) := by decide +kernel
theorem dX13_scan_174 : decode cX13_scan 174 = .ok (.isub, 1) := by decide +kernel
theorem dX13_scan_175 : decode cX13_scan 175 = .ok (.putfield 165, 3) := by decide +kernel
theorem dX13_scan_178 : decode cX13_scan 178 = .ok (.aload_n 0, 1) := by decide +kernel
theorem dX13_scan_179 : decode cX13_scan 179 = .ok (.dup, 1) := by decide +kernel
theorem dX13_scan_180 : decode cX13_scan 180 = .ok (.getfield 31, 3) := by decide +kernel
theorem dX13_scan_183 : decode cX13_scan 183 = .ok (.iconst 1, 1) := by decide +kernel
theorem dX13_scan_184 : decode cX13_scan 184 = .ok (.iadd, 1) := by decide +kernel
theorem dX13_scan_185 : decode cX13_scan 185 = .ok (.putfield 31, 3) := by decide +kernel
theorem dX13_scan_188 : decode cX13_scan 188 = .ok (.goto (-60), 3) := by decide +kernel
theorem dX13_scan_191 : decode cX13_scan 191 = .ok (.aload_n 0, 1) := by decide +kernel
theorem dX13_scan_192 : decode cX13_scan 192 = .ok (.aload_n 0, 1) := by decide +kernel
theorem dX13_scan_193 : decode cX13_scan 193 = .ok (.getfield 31, 3) := by decide +kernel
theorem dX13_scan_196 : decode cX13_scan 196 = .ok (.aload_n 0, 1) := by decide +kernel
theorem dX13_scan_197 : decode cX13_scan 197 = .ok (.getfield 159, 3) := by decide +kernel
theorem dX13_scan_200 : decode cX13_scan 200 = .ok (.isub, 1) := by decide +kernel
theorem dX13_scan_201 : decode cX13_scan 201 = .ok (.iconst 3, 1) := by decide +kernel
theorem dX13_scan_202 : decode cX13_scan 202 = .ok (.if_icmp .le 7, 3) := by decide +kernel
theorem dX13_scan_205 : decode cX13_scan 205 = .ok (.iconst 4, 1) := by decide +kernel
theorem dX13_scan_206 : decode cX13_scan 206 = .ok (.goto 4, 3) := by decide +kernel
theorem dX13_scan_209 : decode cX13_scan 209 = .ok (.iconst 2, 1) := by decide +kernel
theorem dX13_scan_210 : decode cX13_scan 210 = .ok (.putfield 162, 3) := by decide +kernel
theorem dX13_scan_213 : decode cX13_scan 213 = .ok (.goto 40, 3) := by decide +kernel
theorem dX13_scan_216 : decode cX13_scan 216 = .ok (.aload_n 0, 1) := by decide +kernel
theorem dX13_scan_217 : decode cX13_scan 217 = .ok (.iload_n 1, 1) := by decide +kernel
theorem dX13_scan_218 : decode cX13_scan 218 = .ok (.bipush 63, 2) := by decide +kernel
theorem dX13_scan_220 : decode cX13_scan 220 = .ok (.if_icmp .eq 15, 3) := by decide +kernel
theorem dX13_scan_223 : decode cX13_scan 223 = .ok (.iload_n 1, 1) := by decide +kernel
theorem dX13_scan_224 : decode cX13_scan 224 = .ok (.bipush 61, 2) := by decide +kernel
theorem dX13_scan_226 : decode cX13_scan 226 = .ok (.if_icmp .eq 9, 3) := by decide +kernel
theorem dX13_scan_229 : decode cX13_scan 229 = .ok (.iload_n 1, 1) := by decide +kernel
theorem dX13_scan_230 : decode cX13_scan 230 = .ok (.bipush 59, 2) := by decide +kernel
theorem dX13_scan_232 : decode cX13_scan 232 = .ok (.if_icmp .ne 7, 3) := by decide +kernel
theorem dX13_scan_235 : decode cX13_scan 235 = .ok (.iconst 3, 1) := by decide +kernel
theorem dX13_scan_236 : decode cX13_scan 236 = .ok (.goto 4, 3) := by decide +kernel
theorem dX13_scan_239 : decode cX13_scan 239 = .ok (.iconst 4, 1) := by decide +kernel
theorem dX13_scan_240 : decode cX13_scan 240 = .ok (.putfield 162, 3) := by decide +kernel
theorem dX13_scan_243 : decode cX13_scan 243 = .ok (.aload_n 0, 1) := by decide +kernel
theorem dX13_scan_244 : decode cX13_scan 244 = .ok (.dup, 1) := by decide +kernel
theorem dX13_scan_245 : decode cX13_scan 245 = .ok (.getfield 31, 3) := by decide +kernel
theorem dX13_scan_248 : decode cX13_scan 248 = .ok (.iconst 1, 1) := by decide +kernel
theorem dX13_scan_249 : decode cX13_scan 249 = .ok (.iadd, 1) := by decide +kernel
theorem dX13_scan_250 : decode cX13_scan 250 = .ok (.putfield 31, 3) := by decide +kernel
theorem dX13_scan_253 : decode cX13_scan 253 = .ok (.return_, 1) := by decide +kernel
theorem dX13_is_0 : decode cX13_is 0 = .ok (.aload_n 0, 1) := by decide +kernel
theorem dX13_is_1 : decode cX13_is 1 = .ok (.getfield 162, 3) := by decide +kernel
theorem dX13_is_4 : decode cX13_is 4 = .ok (.iconst 1, 1) := by decide +kernel
theorem dX13_is_5 : decode cX13_is 5 = .ok (.if_icmp .eq 11, 3) := by decide +kernel
theorem dX13_is_8 : decode cX13_is 8 = .ok (.aload_n 0, 1) := by decide +kernel
theorem dX13_is_9 : decode cX13_is 9 = .ok (.getfield 162, 3) := by decide +kernel
theorem dX13_is_12 : decode cX13_is 12 = .ok (.iconst 3, 1) := by decide +kernel
theorem dX13_is_13 : decode cX13_is 13 = .ok (.if_icmp .ne 23, 3) := by decide +kernel
theorem dX13_is_16 : decode cX13_is 16 = .ok (.aload_n 0, 1) := by decide +kernel
theorem dX13_is_17 : decode cX13_is 17 = .ok (.getfield 31, 3) := by decide +kernel
theorem dX13_is_20 : decode cX13_is 20 = .ok (.aload_n 0, 1) := by decide +kernel
theorem dX13_is_21 : decode cX13_is 21 = .ok (.getfield 159, 3) := by decide +kernel
theorem dX13_is_24 : decode cX13_is 24 = .ok (.isub, 1) := by decide +kernel
theorem dX13_is_25 : decode cX13_is 25 = .ok (.aload_n 1, 1) := by decide +kernel
theorem dX13_is_26 : decode cX13_is 26 = .ok (.invokevirtual 168, 3) := by decide +kernel
theorem dX13_is_29 : decode cX13_is 29 = .ok (.if_icmp .ne 7, 3) := by decide +kernel
theorem dX13_is_32 : decode cX13_is 32 = .ok (.iconst 1, 1) := by decide +kernel
theorem dX13_is_33 : decode cX13_is 33 = .ok (.goto 4, 3) := by decide +kernel
theorem dX13_is_36 : decode cX13_is 36 = .ok (.iconst 0, 1) := by decide +kernel
theorem dX13_is_37 : decode cX13_is 37 = .ok (.istore_n 2, 1) := by decide +kernel
theorem dX13_is_38 : decode cX13_is 38 = .ok (.iconst 0, 1) := by decide +kernel
theorem dX13_is_39 : decode cX13_is 39 = .ok (.istore_n 3, 1) := by decide +kernel
theorem dX13_is_40 : decode cX13_is 40 = .ok (.iload_n 3, 1) := by decide +kernel
theorem dX13_is_41 : decode cX13_is 41 = .ok (.aload_n 1, 1) := by decide +kernel
theorem dX13_is_42 : decode cX13_is 42 = .ok (.invokevirtual 168, 3) := by decide +kernel
theorem dX13_is_45 : decode cX13_is 45 = .ok (.if_icmp .ge 38, 3) := by decide +kernel
theorem dX13_is_48 : decode cX13_is 48 = .ok (.iload_n 2, 1) := by decide +kernel
theorem dX13_is_49 : decode cX13_is 49 = .ok (.ifCond .eq 34, 3) := by decide +kernel
theorem dX13_is_52 : decode cX13_is 52 = .ok (.aload_n 0, 1) := by decide +kernel
theorem dX13_is_53 : decode cX13_is 53 = .ok (.getfield 17, 3) := by decide +kernel
theorem dX13_is_56 : decode cX13_is 56 = .ok (.aload_n 0, 1) := by decide +kernel
theorem dX13_is_57 : decode cX13_is 57 = .ok (.getfield 159, 3) := by decide +kernel
theorem dX13_is_60 : decode cX13_is 60 = .ok (.iload_n 3, 1) := by decide +kernel
theorem dX13_is_61 : decode cX13_is 61 = .ok (.iadd, 1) := by decide +kernel
theorem dX13_is_62 : decode cX13_is 62 = .ok (.baload, 1) := by decide +kernel
theorem dX13_is_63 : decode cX13_is 63 = .ok (.aload_n 1, 1) := by decide +kernel
theorem dX13_is_64 : decode cX13_is 64 = .ok (.iload_n 3, 1) := by decide +kernel
theorem dX13_is_65 : decode cX13_is 65 = .ok (.invokevirtual 174, 3) := by decide +kernel
theorem dX13_is_68 : decode cX13_is 68 = .ok (.if_icmp .ne 7, 3) := by decide +kernel
theorem dX13_is_71 : decode cX13_is 71 = .ok (.iconst 1, 1) := by decide +kernel
theorem dX13_is_72 : decode cX13_is 72 = .ok (.goto 4, 3) := by decide +kernel
theorem dX13_is_75 : decode cX13_is 75 = .ok (.iconst 0, 1) := by decide +kernel
theorem dX13_is_76 : decode cX13_is 76 = .ok (.istore_n 2, 1) := by decide +kernel
theorem dX13_is_77 : decode cX13_is 77 = .ok (.iinc 3 1, 3) := by decide +kernel
theorem dX13_is_80 : decode cX13_is 80 = .ok (.goto (-40), 3) := by decide +kernel
theorem dX13_is_83 : decode cX13_is 83 = .ok (.iload_n 2, 1) := by decide +kernel
theorem dX13_is_84 : decode cX13_is 84 = .ok (.ireturn, 1) := by decide +kernel
theorem dX13_number_0 : decode cX13_number 0 = .ok (.aload_n 0, 1) := by decide +kernel
theorem dX13_number_1 : decode cX13_number 1 = .ok (.getfield 162, 3) := by decide +kernel
theorem dX13_number_4 : decode cX13_number 4 = .ok (.iconst 2, 1) := by decide +kernel
theorem dX13_number_5 : decode cX13_number 5 = .ok (.if_icmp .eq 13, 3) := by decide +kernel
theorem dX13_number_8 : decode cX13_number 8 = .ok (.aload_n 0, 1) := by decide +kernel
theorem dX13_number_9 : decode cX13_number 9 = .ok (.iconst 1, 1) := by decide +kernel
theorem dX13_number_10 : decode cX13_number 10 = .ok (.aload_n 0, 1) := by decide +kernel
theorem dX13_number_11 : decode cX13_number 11 = .ok (.getfield 159, 3) := by decide +kernel
theorem dX13_number_14 : decode cX13_number 14 = .ok (.invokevirtual 44, 3) := by decide +kernel
theorem dX13_number_17 : decode cX13_number 17 = .ok (.athrow, 1) := by decide +kernel
theorem dX13_number_18 : decode cX13_number 18 = .ok (.aload_n 0, 1) := by decide +kernel
theorem dX13_number_19 : decode cX13_number 19 = .ok (.getfield 165, 3) := by decide +kernel
theorem dX13_number_22 : decode cX13_number 22 = .ok (.i2l, 1) := by decide +kernel
theorem dX13_number_23 : decode cX13_number 23 = .ok (.iload_n 1, 1) := by decide +kernel
theorem dX13_number_24 : decode cX13_number 24 = .ok (.i2l, 1) := by decide +kernel
theorem dX13_number_25 : decode cX13_number 25 = .ok (.iload_n 2, 1) := by decide +kernel
theorem dX13_number_26 : decode cX13_number 26 = .ok (.i2l, 1) := by decide +kernel
theorem dX13_number_27 : decode cX13_number 27 = .ok (.invokestatic 140, 3) := by decide +kernel
theorem dX13_number_30 : decode cX13_number 30 = .ok (.ifCond .ne 13, 3) := by decide +kernel
theorem dX13_number_33 : decode cX13_number 33 = .ok (.aload_n 0, 1) := by decide +kernel
theorem dX13_number_34 : decode cX13_number 34 = .ok (.iconst 2, 1) := by decide +kernel
theorem dX13_number_35 : decode cX13_number 35 = .ok (.aload_n 0, 1) := by decide +kernel
theorem dX13_number_36 : decode cX13_number 36 = .ok (.getfield 159, 3) := by decide +kernel
theorem dX13_number_39 : decode cX13_number 39 = .ok (.invokevirtual 44, 3) := by decide +kernel
theorem dX13_number_42 : decode cX13_number 42 = .ok (.athrow, 1) := by decide +kernel
theorem dX13_number_43 : decode cX13_number 43 = .ok (.aload_n 0, 1) := by decide +kernel
theorem dX13_number_44 : decode cX13_number 44 = .ok (.getfield 165, 3) := by decide +kernel
theorem dX13_number_47 : decode cX13_number 47 = .ok (.istore_n 3, 1) := by decide +kernel
theorem dX13_number_48 : decode cX13_number 48 = .ok (.aload_n 0, 1) := by decide +kernel
theorem dX13_number_49 : decode cX13_number 49 = .ok (.invokevirtual 178, 3) := by decide +kernel
theorem dX13_number_52 : decode cX13_number 52 = .ok (.iload_n 3, 1) := by decide +kernel
theorem dX13_number_53 : decode cX13_number 53 = .ok (.ireturn, 1) := by decide +kernel
theorem dX13_readLine_0 : decode cX13_readLine 0 = .ok (.aload_n 0, 1) := by decide +kernel
theorem dX13_readLine_1 : decode cX13_readLine 1 = .ok (.ldc 181, 2) := by decide +kernel
theorem dX13_readLine_3 : decode cX13_readLine 3 = .ok (.invokevirtual 183, 3) := by decide +kernel
theorem dX13_readLine_6 : decode cX13_readLine 6 = .ok (.ifCond .eq 7, 3) := by decide +kernel
theorem dX13_readLine_9 : decode cX13_readLine 9 = .ok (.iconst 0, 1) := by decide +kernel
theorem dX13_readLine_10 : decode cX13_readLine 10 = .ok (.goto 30, 3) := by decide +kernel
theorem dX13_readLine_13 : decode cX13_readLine 13 = .ok (.aload_n 0, 1) := by decide +kernel
theorem dX13_readLine_14 : decode cX13_readLine 14 = .ok (.ldc 187, 2) := by decide +kernel
theorem dX13_readLine_16 : decode cX13_readLine 16 = .ok (.invokevirtual 183, 3) := by decide +kernel
theorem dX13_readLine_19 : decode cX13_readLine 19 = .ok (.ifCond .eq 7, 3) := by decide +kernel
theorem dX13_readLine_22 : decode cX13_readLine 22 = .ok (.iconst 1, 1) := by decide +kernel
theorem dX13_readLine_23 : decode cX13_readLine 23 = .ok (.goto 17, 3) := by decide +kernel
theorem dX13_readLine_26 : decode cX13_readLine 26 = .ok (.aload_n 0, 1) := by decide +kernel
theorem dX13_readLine_27 : decode cX13_readLine 27 = .ok (.ldc 189, 2) := by decide +kernel
theorem dX13_readLine_29 : decode cX13_readLine 29 = .ok (.invokevirtual 183, 3) := by decide +kernel
theorem dX13_readLine_32 : decode cX13_readLine 32 = .ok (.ifCond .eq 7, 3) := by decide +kernel
theorem dX13_readLine_35 : decode cX13_readLine 35 = .ok (.iconst 2, 1) := by decide +kernel
theorem dX13_readLine_36 : decode cX13_readLine 36 = .ok (.goto 4, 3) := by decide +kernel
theorem dX13_readLine_39 : decode cX13_readLine 39 = .ok (.iconst (-1), 1) := by decide +kernel
theorem dX13_readLine_40 : decode cX13_readLine 40 = .ok (.istore_n 2, 1) := by decide +kernel
theorem dX13_readLine_41 : decode cX13_readLine 41 = .ok (.iload_n 2, 1) := by decide +kernel
theorem dX13_readLine_42 : decode cX13_readLine 42 = .ok (.iconst (-1), 1) := by decide +kernel
theorem dX13_readLine_43 : decode cX13_readLine 43 = .ok (.if_icmp .ne 13, 3) := by decide +kernel
theorem dX13_readLine_46 : decode cX13_readLine 46 = .ok (.aload_n 0, 1) := by decide +kernel
theorem dX13_readLine_47 : decode cX13_readLine 47 = .ok (.iconst 1, 1) := by decide +kernel
theorem dX13_readLine_48 : decode cX13_readLine 48 = .ok (.aload_n 0, 1) := by decide +kernel
theorem dX13_readLine_49 : decode cX13_readLine 49 = .ok (.getfield 159, 3) := by decide +kernel
theorem dX13_readLine_52 : decode cX13_readLine 52 = .ok (.invokevirtual 44, 3) := by decide +kernel
theorem dX13_readLine_55 : decode cX13_readLine 55 = .ok (.athrow, 1) := by decide +kernel
theorem dX13_readLine_56 : decode cX13_readLine 56 = .ok (.iload_n 1, 1) := by decide +kernel
theorem dX13_readLine_57 : decode cX13_readLine 57 = .ok (.bipush 40, 2) := by decide +kernel
theorem dX13_readLine_59 : decode cX13_readLine 59 = .ok (.if_icmp .ne 13, 3) := by decide +kernel
theorem dX13_readLine_62 : decode cX13_readLine 62 = .ok (.aload_n 0, 1) := by decide +kernel
theorem dX13_readLine_63 : decode cX13_readLine 63 = .ok (.iconst 3, 1) := by decide +kernel
theorem dX13_readLine_64 : decode cX13_readLine 64 = .ok (.aload_n 0, 1) := by decide +kernel
theorem dX13_readLine_65 : decode cX13_readLine 65 = .ok (.getfield 159, 3) := by decide +kernel
theorem dX13_readLine_68 : decode cX13_readLine 68 = .ok (.invokevirtual 44, 3) := by decide +kernel
theorem dX13_readLine_71 : decode cX13_readLine 71 = .ok (.athrow, 1) := by decide +kernel
theorem dX13_readLine_72 : decode cX13_readLine 72 = .ok (.aload_n 0, 1) := by decide +kernel
theorem dX13_readLine_73 : decode cX13_readLine 73 = .ok (.getfield 74, 3) := by decide +kernel
theorem dX13_readLine_76 : decode cX13_readLine 76 = .ok (.iload_n 1, 1) := by decide +kernel
theorem dX13_readLine_77 : decode cX13_readLine 77 = .ok (.iload_n 2, 1) := by decide +kernel
theorem dX13_readLine_78 : decode cX13_readLine 78 = .ok (.iastore, 1) := by decide +kernel
theorem dX13_readLine_79 : decode cX13_readLine 79 = .ok (.aload_n 0, 1) := by decide +kernel
theorem dX13_readLine_80 : decode cX13_readLine 80 = .ok (.getfield 77, 3) := by decide +kernel
theorem dX13_readLine_83 : decode cX13_readLine 83 = .ok (.iload_n 1, 1) := by decide +kernel
theorem dX13_readLine_84 : decode cX13_readLine 84 = .ok (.iconst (-1), 1) := by decide +kernel
theorem dX13_readLine_85 : decode cX13_readLine 85 = .ok (.iastore, 1) := by decide +kernel
theorem dX13_readLine_86 : decode cX13_readLine 86 = .ok (.aload_n 0, 1) := by decide +kernel
theorem dX13_readLine_87 : decode cX13_readLine 87 = .ok (.getfield 80, 3) := by decide +kernel
theorem dX13_readLine_90 : decode cX13_readLine 90 = .ok (.iload_n 1, 1) := by decide +kernel
theorem dX13_readLine_91 : decode cX13_readLine 91 = .ok (.iconst (-1), 1) := by decide +kernel
theorem dX13_readLine_92 : decode cX13_readLine 92 = .ok (.iastore, 1) := by decide +kernel
theorem dX13_readLine_93 : decode cX13_readLine 93 = .ok (.aload_n 0, 1) := by decide +kernel
theorem dX13_readLine_94 : decode cX13_readLine 94 = .ok (.getfield 83, 3) := by decide +kernel
theorem dX13_readLine_97 : decode cX13_readLine 97 = .ok (.iload_n 1, 1) := by decide +kernel
theorem dX13_readLine_98 : decode cX13_readLine 98 = .ok (.iconst (-1), 1) := by decide +kernel
theorem dX13_readLine_99 : decode cX13_readLine 99 = .ok (.iastore, 1) := by decide +kernel
theorem dX13_readLine_100 : decode cX13_readLine 100 = .ok (.aload_n 0, 1) := by decide +kernel
theorem dX13_readLine_101 : decode cX13_readLine 101 = .ok (.getfield 86, 3) := by decide +kernel
theorem dX13_readLine_104 : decode cX13_readLine 104 = .ok (.iload_n 1, 1) := by decide +kernel
theorem dX13_readLine_105 : decode cX13_readLine 105 = .ok (.iconst 0, 1) := by decide +kernel
theorem dX13_readLine_106 : decode cX13_readLine 106 = .ok (.iastore, 1) := by decide +kernel
theorem dX13_readLine_107 : decode cX13_readLine 107 = .ok (.aload_n 0, 1) := by decide +kernel
theorem dX13_readLine_108 : decode cX13_readLine 108 = .ok (.getfield 89, 3) := by decide +kernel
theorem dX13_readLine_111 : decode cX13_readLine 111 = .ok (.iload_n 1, 1) := by decide +kernel
theorem dX13_readLine_112 : decode cX13_readLine 112 = .ok (.iconst 0, 1) := by decide +kernel
theorem dX13_readLine_113 : decode cX13_readLine 113 = .ok (.iastore, 1) := by decide +kernel
theorem dX13_readLine_114 : decode cX13_readLine 114 = .ok (.aload_n 0, 1) := by decide +kernel
theorem dX13_readLine_115 : decode cX13_readLine 115 = .ok (.getfield 99, 3) := by decide +kernel
theorem dX13_readLine_118 : decode cX13_readLine 118 = .ok (.iload_n 1, 1) := by decide +kernel
theorem dX13_readLine_119 : decode cX13_readLine 119 = .ok (.iconst 0, 1) := by decide +kernel
theorem dX13_readLine_120 : decode cX13_readLine 120 = .ok (.bastore, 1) := by decide +kernel
theorem dX13_readLine_121 : decode cX13_readLine 121 = .ok (.aload_n 0, 1) := by decide +kernel
theorem dX13_readLine_122 : decode cX13_readLine 122 = .ok (.invokevirtual 178, 3) := by decide +kernel
theorem dX13_readLine_125 : decode cX13_readLine 125 = .ok (.aload_n 0, 1) := by decide +kernel
theorem dX13_readLine_126 : decode cX13_readLine 126 = .ok (.getfield 95, 3) := by decide +kernel
theorem dX13_readLine_129 : decode cX13_readLine 129 = .ok (.iload_n 1, 1) := by decide +kernel
theorem dX13_readLine_130 : decode cX13_readLine 130 = .ok (.aload_n 0, 1) := by decide +kernel
theorem dX13_readLine_131 : decode cX13_readLine 131 = .ok (.ldc 191, 2) := by decide +kernel
theorem dX13_readLine_133 : decode cX13_readLine 133 = .ok (.invokevirtual 183, 3) := by decide +kernel
theorem dX13_readLine_136 : decode cX13_readLine 136 = .ok (.bastore, 1) := by decide +kernel
theorem dX13_readLine_137 : decode cX13_readLine 137 = .ok (.aload_n 0, 1) := by decide +kernel
theorem dX13_readLine_138 : decode cX13_readLine 138 = .ok (.getfield 95, 3) := by decide +kernel
theorem dX13_readLine_141 : decode cX13_readLine 141 = .ok (.iload_n 1, 1) := by decide +kernel
theorem dX13_readLine_142 : decode cX13_readLine 142 = .ok (.baload, 1) := by decide +kernel
theorem dX13_readLine_143 : decode cX13_readLine 143 = .ok (.ifCond .eq 7, 3) := by decide +kernel
theorem dX13_readLine_146 : decode cX13_readLine 146 = .ok (.aload_n 0, 1) := by decide +kernel
theorem dX13_readLine_147 : decode cX13_readLine 147 = .ok (.invokevirtual 178, 3) := by decide +kernel
theorem dX13_readLine_150 : decode cX13_readLine 150 = .ok (.aload_n 0, 1) := by decide +kernel
theorem dX13_readLine_151 : decode cX13_readLine 151 = .ok (.getfield 150, 3) := by decide +kernel
theorem dX13_readLine_154 : decode cX13_readLine 154 = .ok (.iconst 1, 1) := by decide +kernel
theorem dX13_readLine_155 : decode cX13_readLine 155 = .ok (.isub, 1) := by decide +kernel
theorem dX13_readLine_156 : decode cX13_readLine 156 = .ok (.istore_n 3, 1) := by decide +kernel
theorem dX13_readLine_157 : decode cX13_readLine 157 = .ok (.aload_n 0, 1) := by decide +kernel
theorem dX13_readLine_158 : decode cX13_readLine 158 = .ok (.getfield 70, 3) := by decide +kernel
theorem dX13_readLine_161 : decode cX13_readLine 161 = .ok (.iload_n 1, 1) := by decide +kernel
theorem dX13_readLine_162 : decode cX13_readLine 162 = .ok (.aload_n 0, 1) := by decide +kernel
theorem dX13_readLine_163 : decode cX13_readLine 163 = .ok (.ldc 193, 2) := by decide +kernel
theorem dX13_readLine_165 : decode cX13_readLine 165 = .ok (.invokevirtual 183, 3) := by decide +kernel
theorem dX13_readLine_168 : decode cX13_readLine 168 = .ok (.ifCond .eq 7, 3) := by decide +kernel
theorem dX13_readLine_171 : decode cX13_readLine 171 = .ok (.iconst 0, 1) := by decide +kernel
theorem dX13_readLine_172 : decode cX13_readLine 172 = .ok (.goto 78, 3) := by decide +kernel
theorem dX13_readLine_175 : decode cX13_readLine 175 = .ok (.aload_n 0, 1) := by decide +kernel
theorem dX13_readLine_176 : decode cX13_readLine 176 = .ok (.ldc 195, 2) := by decide +kernel
theorem dX13_readLine_178 : decode cX13_readLine 178 = .ok (.invokevirtual 183, 3) := by decide +kernel
theorem dX13_readLine_181 : decode cX13_readLine 181 = .ok (.ifCond .eq 7, 3) := by decide +kernel
theorem dX13_readLine_184 : decode cX13_readLine 184 = .ok (.iconst 1, 1) := by decide +kernel
theorem dX13_readLine_185 : decode cX13_readLine 185 = .ok (.goto 65, 3) := by decide +kernel
theorem dX13_readLine_188 : decode cX13_readLine 188 = .ok (.aload_n 0, 1) := by decide +kernel
theorem dX13_readLine_189 : decode cX13_readLine 189 = .ok (.ldc 197, 2) := by decide +kernel
theorem dX13_readLine_191 : decode cX13_readLine 191 = .ok (.invokevirtual 183, 3) := by decide +kernel
theorem dX13_readLine_194 : decode cX13_readLine 194 = .ok (.ifCond .eq 7, 3) := by decide +kernel
theorem dX13_readLine_197 : decode cX13_readLine 197 = .ok (.iconst 2, 1) := by decide +kernel
theorem dX13_readLine_198 : decode cX13_readLine 198 = .ok (.goto 52, 3) := by decide +kernel
theorem dX13_readLine_201 : decode cX13_readLine 201 = .ok (.aload_n 0, 1) := by decide +kernel
theorem dX13_readLine_202 : decode cX13_readLine 202 = .ok (.ldc 199, 2) := by decide +kernel
theorem dX13_readLine_204 : decode cX13_readLine 204 = .ok (.invokevirtual 183, 3) := by decide +kernel
theorem dX13_readLine_207 : decode cX13_readLine 207 = .ok (.ifCond .eq 7, 3) := by decide +kernel
theorem dX13_readLine_210 : decode cX13_readLine 210 = .ok (.iconst 3, 1) := by decide +kernel
theorem dX13_readLine_211 : decode cX13_readLine 211 = .ok (.goto 39, 3) := by decide +kernel
theorem dX13_readLine_214 : decode cX13_readLine 214 = .ok (.aload_n 0, 1) := by decide +kernel
theorem dX13_readLine_215 : decode cX13_readLine 215 = .ok (.ldc 201, 2) := by decide +kernel
theorem dX13_readLine_217 : decode cX13_readLine 217 = .ok (.invokevirtual 183, 3) := by decide +kernel
theorem dX13_readLine_220 : decode cX13_readLine 220 = .ok (.ifCond .eq 7, 3) := by decide +kernel
theorem dX13_readLine_223 : decode cX13_readLine 223 = .ok (.iconst 4, 1) := by decide +kernel
theorem dX13_readLine_224 : decode cX13_readLine 224 = .ok (.goto 26, 3) := by decide +kernel
theorem dX13_readLine_227 : decode cX13_readLine 227 = .ok (.aload_n 0, 1) := by decide +kernel
theorem dX13_readLine_228 : decode cX13_readLine 228 = .ok (.ldc 203, 2) := by decide +kernel
theorem dX13_readLine_230 : decode cX13_readLine 230 = .ok (.invokevirtual 183, 3) := by decide +kernel
theorem dX13_readLine_233 : decode cX13_readLine 233 = .ok (.ifCond .eq 16, 3) := by decide +kernel
theorem dX13_readLine_236 : decode cX13_readLine 236 = .ok (.aload_n 0, 1) := by decide +kernel
theorem dX13_readLine_237 : decode cX13_readLine 237 = .ok (.getfield 95, 3) := by decide +kernel
theorem dX13_readLine_240 : decode cX13_readLine 240 = .ok (.iload_n 1, 1) := by decide +kernel
theorem dX13_readLine_241 : decode cX13_readLine 241 = .ok (.baload, 1) := by decide +kernel
theorem dX13_readLine_242 : decode cX13_readLine 242 = .ok (.ifCond .ne 7, 3) := by decide +kernel
theorem dX13_readLine_245 : decode cX13_readLine 245 = .ok (.iconst 5, 1) := by decide +kernel
theorem dX13_readLine_246 : decode cX13_readLine 246 = .ok (.goto 4, 3) := by decide +kernel
theorem dX13_readLine_249 : decode cX13_readLine 249 = .ok (.iconst (-1), 1) := by decide +kernel
theorem dX13_readLine_250 : decode cX13_readLine 250 = .ok (.iastore, 1) := by decide +kernel
theorem dX13_readLine_251 : decode cX13_readLine 251 = .ok (.aload_n 0, 1) := by decide +kernel
theorem dX13_readLine_252 : decode cX13_readLine 252 = .ok (.getfield 70, 3) := by decide +kernel
theorem dX13_readLine_255 : decode cX13_readLine 255 = .ok (.iload_n 1, 1) := by decide +kernel
theorem dX13_readLine_256 : decode cX13_readLine 256 = .ok (.iaload, 1) := by decide +kernel
theorem dX13_readLine_257 : decode cX13_readLine 257 = .ok (.iconst (-1), 1) := by decide +kernel
theorem dX13_readLine_258 : decode cX13_readLine 258 = .ok (.if_icmp .ne 13, 3) := by decide +kernel
theorem dX13_readLine_261 : decode cX13_readLine 261 = .ok (.aload_n 0, 1) := by decide +kernel
theorem dX13_readLine_262 : decode cX13_readLine 262 = .ok (.iconst 1, 1) := by decide +kernel
theorem dX13_readLine_263 : decode cX13_readLine 263 = .ok (.aload_n 0, 1) := by decide +kernel
theorem dX13_readLine_264 : decode cX13_readLine 264 = .ok (.getfield 159, 3) := by decide +kernel
theorem dX13_readLine_267 : decode cX13_readLine 267 = .ok (.invokevirtual 44, 3) := by decide +kernel
theorem dX13_readLine_270 : decode cX13_readLine 270 = .ok (.athrow, 1) := by decide +kernel
theorem dX13_readLine_271 : decode cX13_readLine 271 = .ok (.aload_n 0, 1) := by decide +kernel
theorem dX13_readLine_272 : decode cX13_readLine 272 = .ok (.invokevirtual 178, 3) := by decide +kernel
theorem dX13_readLine_275 : decode cX13_readLine 275 = .ok (.aload_n 0, 1) := by decide +kernel
theorem dX13_readLine_276 : decode cX13_readLine 276 = .ok (.getfield 70, 3) := by decide +kernel
theorem dX13_readLine_279 : decode cX13_readLine 279 = .ok (.iload_n 1, 1) := by decide +kernel
theorem dX13_readLine_280 : decode cX13_readLine 280 = .ok (.iaload, 1) := by decide +kernel
theorem dX13_readLine_281 : decode cX13_readLine 281 = .ok (.tableswitch 146 0 4 #[35, 67, 35, 85, 138], 35) := by decide +kernel
theorem dX13_readLine_316 : decode cX13_readLine 316 = .ok (.aload_n 0, 1) := by decide +kernel
theorem dX13_readLine_317 : decode cX13_readLine 317 = .ok (.getfield 77, 3) := by decide +kernel
theorem dX13_readLine_320 : decode cX13_readLine 320 = .ok (.iload_n 1, 1) := by decide +kernel
theorem dX13_readLine_321 : decode cX13_readLine 321 = .ok (.aload_n 0, 1) := by decide +kernel
theorem dX13_readLine_322 : decode cX13_readLine 322 = .ok (.iconst 0, 1) := by decide +kernel
theorem dX13_readLine_323 : decode cX13_readLine 323 = .ok (.iload_n 3, 1) := by decide +kernel
theorem dX13_readLine_324 : decode cX13_readLine 324 = .ok (.invokevirtual 205, 3) := by decide +kernel
theorem dX13_readLine_327 : decode cX13_readLine 327 = .ok (.iastore, 1) := by decide +kernel
theorem dX13_readLine_328 : decode cX13_readLine 328 = .ok (.aload_n 0, 1) := by decide +kernel
theorem dX13_readLine_329 : decode cX13_readLine 329 = .ok (.getfield 80, 3) := by decide +kernel
theorem dX13_readLine_332 : decode cX13_readLine 332 = .ok (.iload_n 1, 1) := by decide +kernel
theorem dX13_readLine_333 : decode cX13_readLine 333 = .ok (.aload_n 0, 1) := by decide +kernel
theorem dX13_readLine_334 : decode cX13_readLine 334 = .ok (.aload_n 0, 1) := by decide +kernel
theorem dX13_readLine_335 : decode cX13_readLine 335 = .ok (.getfield 77, 3) := by decide +kernel
theorem dX13_readLine_338 : decode cX13_readLine 338 = .ok (.iload_n 1, 1) := by decide +kernel
theorem dX13_readLine_339 : decode cX13_readLine 339 = .ok (.iaload, 1) := by decide +kernel
theorem dX13_readLine_340 : decode cX13_readLine 340 = .ok (.iload_n 3, 1) := by decide +kernel
theorem dX13_readLine_341 : decode cX13_readLine 341 = .ok (.invokevirtual 205, 3) := by decide +kernel
theorem dX13_readLine_344 : decode cX13_readLine 344 = .ok (.iastore, 1) := by decide +kernel
theorem dX13_readLine_345 : decode cX13_readLine 345 = .ok (.goto 135, 3) := by decide +kernel
theorem dX13_readLine_348 : decode cX13_readLine 348 = .ok (.aload_n 0, 1) := by decide +kernel
theorem dX13_readLine_349 : decode cX13_readLine 349 = .ok (.getfield 77, 3) := by decide +kernel
theorem dX13_readLine_352 : decode cX13_readLine 352 = .ok (.iload_n 1, 1) := by decide +kernel
theorem dX13_readLine_353 : decode cX13_readLine 353 = .ok (.aload_n 0, 1) := by decide +kernel
theorem dX13_readLine_354 : decode cX13_readLine 354 = .ok (.iconst 0, 1) := by decide +kernel
theorem dX13_readLine_355 : decode cX13_readLine 355 = .ok (.aload_n 0, 1) := by decide +kernel
theorem dX13_readLine_356 : decode cX13_readLine 356 = .ok (.getfield 150, 3) := by decide +kernel
theorem dX13_readLine_359 : decode cX13_readLine 359 = .ok (.invokevirtual 205, 3) := by decide +kernel
theorem dX13_readLine_362 : decode cX13_readLine 362 = .ok (.iastore, 1) := by decide +kernel
theorem dX13_readLine_363 : decode cX13_readLine 363 = .ok (.goto 117, 3) := by decide +kernel
theorem dX13_readLine_366 : decode cX13_readLine 366 = .ok (.aload_n 0, 1) := by decide +kernel
theorem dX13_readLine_367 : decode cX13_readLine 367 = .ok (.getfield 77, 3) := by decide +kernel
theorem dX13_readLine_370 : decode cX13_readLine 370 = .ok (.iload_n 1, 1) := by decide +kernel
theorem dX13_readLine_371 : decode cX13_readLine 371 = .ok (.aload_n 0, 1) := by decide +kernel
theorem dX13_readLine_372 : decode cX13_readLine 372 = .ok (.iconst 0, 1) := by decide +kernel
theorem dX13_readLine_373 : decode cX13_readLine 373 = .ok (.iload_n 3, 1) := by decide +kernel
theorem dX13_readLine_374 : decode cX13_readLine 374 = .ok (.iconst 1, 1) := by decide +kernel
theorem dX13_readLine_375 : decode cX13_readLine 375 = .ok (.isub, 1) := by decide +kernel
theorem dX13_readLine_376 : decode cX13_readLine 376 = .ok (.invokevirtual 205, 3) := by decide +kernel
theorem dX13_readLine_379 : decode cX13_readLine 379 = .ok (.iastore, 1) := by decide +kernel
theorem dX13_readLine_380 : decode cX13_readLine 380 = .ok (.aload_n 0, 1) := by decide +kernel
theorem dX13_readLine_381 : decode cX13_readLine 381 = .ok (.getfield 80, 3) := by decide +kernel
theorem dX13_readLine_384 : decode cX13_readLine 384 = .ok (.iload_n 1, 1) := by decide +kernel
theorem dX13_readLine_385 : decode cX13_readLine 385 = .ok (.aload_n 0, 1) := by decide +kernel
theorem dX13_readLine_386 : decode cX13_readLine 386 = .ok (.aload_n 0, 1) := by decide +kernel
theorem dX13_readLine_387 : decode cX13_readLine 387 = .ok (.getfield 77, 3) := by decide +kernel
theorem dX13_readLine_390 : decode cX13_readLine 390 = .ok (.iload_n 1, 1) := by decide +kernel
theorem dX13_readLine_391 : decode cX13_readLine 391 = .ok (.iaload, 1) := by decide +kernel
theorem dX13_readLine_392 : decode cX13_readLine 392 = .ok (.iconst 1, 1) := by decide +kernel
theorem dX13_readLine_393 : decode cX13_readLine 393 = .ok (.iadd, 1) := by decide +kernel
theorem dX13_readLine_394 : decode cX13_readLine 394 = .ok (.iload_n 3, 1) := by decide +kernel
theorem dX13_readLine_395 : decode cX13_readLine 395 = .ok (.invokevirtual 205, 3) := by decide +kernel
theorem dX13_readLine_398 : decode cX13_readLine 398 = .ok (.iastore, 1) := by decide +kernel
theorem dX13_readLine_399 : decode cX13_readLine 399 = .ok (.aload_n 0, 1) := by decide +kernel
theorem dX13_readLine_400 : decode cX13_readLine 400 = .ok (.getfield 83, 3) := by decide +kernel
theorem dX13_readLine_403 : decode cX13_readLine 403 = .ok (.iload_n 1, 1) := by decide +kernel
theorem dX13_readLine_404 : decode cX13_readLine 404 = .ok (.aload_n 0, 1) := by decide +kernel
theorem dX13_readLine_405 : decode cX13_readLine 405 = .ok (.aload_n 0, 1) := by decide +kernel
theorem dX13_readLine_406 : decode cX13_readLine 406 = .ok (.getfield 80, 3) := by decide +kernel
theorem dX13_readLine_409 : decode cX13_readLine 409 = .ok (.iload_n 1, 1) := by decide +kernel
theorem dX13_readLine_410 : decode cX13_readLine 410 = .ok (.iaload, 1) := by decide +kernel
theorem dX13_readLine_411 : decode cX13_readLine 411 = .ok (.iload_n 3, 1) := by decide +kernel
theorem dX13_readLine_412 : decode cX13_readLine 412 = .ok (.invokevirtual 205, 3) := by decide +kernel
theorem dX13_readLine_415 : decode cX13_readLine 415 = .ok (.iastore, 1) := by decide +kernel
theorem dX13_readLine_416 : decode cX13_readLine 416 = .ok (.goto 64, 3) := by decide +kernel
theorem dX13_readLine_419 : decode cX13_readLine 419 = .ok (.aload_n 0, 1) := by decide +kernel
theorem dX13_readLine_420 : decode cX13_readLine 420 = .ok (.iload_n 1, 1) := by decide +kernel
theorem dX13_readLine_421 : decode cX13_readLine 421 = .ok (.invokevirtual 209, 3) := by decide +kernel
theorem dX13_readLine_424 : decode cX13_readLine 424 = .ok (.goto 56, 3) := by decide +kernel
theorem dX13_readLine_427 : decode cX13_readLine 427 = .ok (.aload_n 0, 1) := by decide +kernel
theorem dX13_readLine_428 : decode cX13_readLine 428 = .ok (.getfield 162, 3) := by decide +kernel
theorem dX13_readLine_431 : decode cX13_readLine 431 = .ok (.iconst 2, 1) := by decide +kernel
theorem dX13_readLine_432 : decode cX13_readLine 432 = .ok (.if_icmp .ne 34, 3) := by decide +kernel
theorem dX13_readLine_435 : decode cX13_readLine 435 = .ok (.aload_n 0, 1) := by decide +kernel
theorem dX13_readLine_436 : decode cX13_readLine 436 = .ok (.getfield 165, 3) := by decide +kernel
theorem dX13_readLine_439 : decode cX13_readLine 439 = .ok (.iload_n 1, 1) := by decide +kernel
theorem dX13_readLine_440 : decode cX13_readLine 440 = .ok (.if_icmp .ge 16, 3) := by decide +kernel
theorem dX13_readLine_443 : decode cX13_readLine 443 = .ok (.aload_n 0, 1) := by decide +kernel
theorem dX13_readLine_444 : decode cX13_readLine 444 = .ok (.getfield 70, 3) := by decide +kernel
theorem dX13_readLine_447 : decode cX13_readLine 447 = .ok (.aload_n 0, 1) := by decide +kernel
theorem dX13_readLine_448 : decode cX13_readLine 448 = .ok (.getfield 165, 3) := by decide +kernel
theorem dX13_readLine_451 : decode cX13_readLine 451 = .ok (.iaload, 1) := by decide +kernel
theorem dX13_readLine_452 : decode cX13_readLine 452 = .ok (.iconst 5, 1) := by decide +kernel
theorem dX13_readLine_453 : decode cX13_readLine 453 = .ok (.if_icmp .ne 13, 3) := by decide +kernel
theorem dX13_readLine_456 : decode cX13_readLine 456 = .ok (.aload_n 0, 1) := by decide +kernel
theorem dX13_readLine_457 : decode cX13_readLine 457 = .ok (.iconst 2, 1) := by decide +kernel
theorem dX13_readLine_458 : decode cX13_readLine 458 = .ok (.aload_n 0, 1) := by decide +kernel
theorem dX13_readLine_459 : decode cX13_readLine 459 = .ok (.getfield 159, 3) := by decide +kernel
theorem dX13_readLine_462 : decode cX13_readLine 462 = .ok (.invokevirtual 44, 3) := by decide +kernel
theorem dX13_readLine_465 : decode cX13_readLine 465 = .ok (.athrow, 1) := by decide +kernel
theorem dX13_readLine_466 : decode cX13_readLine 466 = .ok (.aload_n 0, 1) := by decide +kernel
theorem dX13_readLine_467 : decode cX13_readLine 467 = .ok (.getfield 77, 3) := by decide +kernel
theorem dX13_readLine_470 : decode cX13_readLine 470 = .ok (.iload_n 1, 1) := by decide +kernel
theorem dX13_readLine_471 : decode cX13_readLine 471 = .ok (.aload_n 0, 1) := by decide +kernel
theorem dX13_readLine_472 : decode cX13_readLine 472 = .ok (.iconst 0, 1) := by decide +kernel
theorem dX13_readLine_473 : decode cX13_readLine 473 = .ok (.iload_n 1, 1) := by decide +kernel
theorem dX13_readLine_474 : decode cX13_readLine 474 = .ok (.iconst 1, 1) := by decide +kernel
theorem dX13_readLine_475 : decode cX13_readLine 475 = .ok (.isub, 1) := by decide +kernel
theorem dX13_readLine_476 : decode cX13_readLine 476 = .ok (.invokevirtual 205, 3) := by decide +kernel
theorem dX13_readLine_479 : decode cX13_readLine 479 = .ok (.iastore, 1) := by decide +kernel
theorem dX13_readLine_480 : decode cX13_readLine 480 = .ok (.aload_n 0, 1) := by decide +kernel
theorem dX13_readLine_481 : decode cX13_readLine 481 = .ok (.getfield 70, 3) := by decide +kernel
theorem dX13_readLine_484 : decode cX13_readLine 484 = .ok (.iload_n 1, 1) := by decide +kernel
theorem dX13_readLine_485 : decode cX13_readLine 485 = .ok (.iaload, 1) := by decide +kernel
theorem dX13_readLine_486 : decode cX13_readLine 486 = .ok (.iconst 1, 1) := by decide +kernel
theorem dX13_readLine_487 : decode cX13_readLine 487 = .ok (.if_icmp .eq 13, 3) := by decide +kernel
theorem dX13_readLine_490 : decode cX13_readLine 490 = .ok (.aload_n 0, 1) := by decide +kernel
theorem dX13_readLine_491 : decode cX13_readLine 491 = .ok (.getfield 70, 3) := by decide +kernel
theorem dX13_readLine_494 : decode cX13_readLine 494 = .ok (.iload_n 1, 1) := by decide +kernel
theorem dX13_readLine_495 : decode cX13_readLine 495 = .ok (.iaload, 1) := by decide +kernel
theorem dX13_readLine_496 : decode cX13_readLine 496 = .ok (.iconst 2, 1) := by decide +kernel
theorem dX13_readLine_497 : decode cX13_readLine 497 = .ok (.if_icmp .ne 8, 3) := by decide +kernel
theorem dX13_readLine_500 : decode cX13_readLine 500 = .ok (.aload_n 0, 1) := by decide +kernel
theorem dX13_readLine_501 : decode cX13_readLine 501 = .ok (.iload_n 1, 1) := by decide +kernel
theorem dX13_readLine_502 : decode cX13_readLine 502 = .ok (.invokevirtual 212, 3) := by decide +kernel
theorem dX13_readLine_505 : decode cX13_readLine 505 = .ok (.aload_n 0, 1) := by decide +kernel
theorem dX13_readLine_506 : decode cX13_readLine 506 = .ok (.ldc 215, 2) := by decide +kernel
theorem dX13_readLine_508 : decode cX13_readLine 508 = .ok (.invokevirtual 183, 3) := by decide +kernel
theorem dX13_readLine_511 : decode cX13_readLine 511 = .ok (.ifCond .ne 13, 3) := by decide +kernel
theorem dX13_readLine_514 : decode cX13_readLine 514 = .ok (.aload_n 0, 1) := by decide +kernel
theorem dX13_readLine_515 : decode cX13_readLine 515 = .ok (.iconst 1, 1) := by decide +kernel
theorem dX13_readLine_516 : decode cX13_readLine 516 = .ok (.aload_n 0, 1) := by decide +kernel
theorem dX13_readLine_517 : decode cX13_readLine 517 = .ok (.getfield 159, 3) := by decide +kernel
theorem dX13_readLine_520 : decode cX13_readLine 520 = .ok (.invokevirtual 44, 3) := by decide +kernel
theorem dX13_readLine_523 : decode cX13_readLine 523 = .ok (.athrow, 1) := by decide +kernel
theorem dX13_readLine_524 : decode cX13_readLine 524 = .ok (.aload_n 0, 1) := by decide +kernel
theorem dX13_readLine_525 : decode cX13_readLine 525 = .ok (.invokevirtual 178, 3) := by decide +kernel
theorem dX13_readLine_528 : decode cX13_readLine 528 = .ok (.return_, 1) := by decide +kernel
theorem dX13_readMove_0 : decode cX13_readMove 0 = .ok (.aload_n 0, 1) := by decide +kernel
theorem dX13_readMove_1 : decode cX13_readMove 1 = .ok (.getfield 150, 3) := by decide +kernel
theorem dX13_readMove_4 : decode cX13_readMove 4 = .ok (.iconst 1, 1) := by decide +kernel
theorem dX13_readMove_5 : decode cX13_readMove 5 = .ok (.isub, 1) := by decide +kernel
theorem dX13_readMove_6 : decode cX13_readMove 6 = .ok (.istore_n 2, 1) := by decide +kernel
theorem dX13_readMove_7 : decode cX13_readMove 7 = .ok (.aload_n 0, 1) := by decide +kernel
theorem dX13_readMove_8 : decode cX13_readMove 8 = .ok (.getfield 77, 3) := by decide +kernel
theorem dX13_readMove_11 : decode cX13_readMove 11 = .ok (.iload_n 1, 1) := by decide +kernel
theorem dX13_readMove_12 : decode cX13_readMove 12 = .ok (.aload_n 0, 1) := by decide +kernel
theorem dX13_readMove_13 : decode cX13_readMove 13 = .ok (.iload_n 2, 1) := by decide +kernel
theorem dX13_readMove_14 : decode cX13_readMove 14 = .ok (.iconst 1, 1) := by decide +kernel
theorem dX13_readMove_15 : decode cX13_readMove 15 = .ok (.if_icmp .ge 7, 3) := by decide +kernel
theorem dX13_readMove_18 : decode cX13_readMove 18 = .ok (.iconst 1, 1) := by decide +kernel
theorem dX13_readMove_19 : decode cX13_readMove 19 = .ok (.goto 4, 3) := by decide +kernel
theorem dX13_readMove_22 : decode cX13_readMove 22 = .ok (.iconst 0, 1) := by decide +kernel
theorem dX13_readMove_23 : decode cX13_readMove 23 = .ok (.iload_n 2, 1) := by decide +kernel
theorem dX13_readMove_24 : decode cX13_readMove 24 = .ok (.invokevirtual 205, 3) := by decide +kernel
theorem dX13_readMove_27 : decode cX13_readMove 27 = .ok (.iastore, 1) := by decide +kernel
theorem dX13_readMove_28 : decode cX13_readMove 28 = .ok (.aload_n 0, 1) := by decide +kernel
theorem dX13_readMove_29 : decode cX13_readMove 29 = .ok (.getfield 80, 3) := by decide +kernel
theorem dX13_readMove_32 : decode cX13_readMove 32 = .ok (.iload_n 1, 1) := by decide +kernel
theorem dX13_readMove_33 : decode cX13_readMove 33 = .ok (.aload_n 0, 1) := by decide +kernel
theorem dX13_readMove_34 : decode cX13_readMove 34 = .ok (.aload_n 0, 1) := by decide +kernel
theorem dX13_readMove_35 : decode cX13_readMove 35 = .ok (.getfield 77, 3) := by decide +kernel
theorem dX13_readMove_38 : decode cX13_readMove 38 = .ok (.iload_n 1, 1) := by decide +kernel
theorem dX13_readMove_39 : decode cX13_readMove 39 = .ok (.iaload, 1) := by decide +kernel
theorem dX13_readMove_40 : decode cX13_readMove 40 = .ok (.aload_n 0, 1) := by decide +kernel
theorem dX13_readMove_41 : decode cX13_readMove 41 = .ok (.getfield 77, 3) := by decide +kernel
theorem dX13_readMove_44 : decode cX13_readMove 44 = .ok (.iload_n 1, 1) := by decide +kernel
theorem dX13_readMove_45 : decode cX13_readMove 45 = .ok (.iaload, 1) := by decide +kernel
theorem dX13_readMove_46 : decode cX13_readMove 46 = .ok (.ifCond .ne 9, 3) := by decide +kernel
theorem dX13_readMove_49 : decode cX13_readMove 49 = .ok (.iload_n 2, 1) := by decide +kernel
theorem dX13_readMove_50 : decode cX13_readMove 50 = .ok (.iconst 1, 1) := by decide +kernel
theorem dX13_readMove_51 : decode cX13_readMove 51 = .ok (.isub, 1) := by decide +kernel
theorem dX13_readMove_52 : decode cX13_readMove 52 = .ok (.goto 4, 3) := by decide +kernel
theorem dX13_readMove_55 : decode cX13_readMove 55 = .ok (.iload_n 2, 1) := by decide +kernel
theorem dX13_readMove_56 : decode cX13_readMove 56 = .ok (.invokevirtual 205, 3) := by decide +kernel
theorem dX13_readMove_59 : decode cX13_readMove 59 = .ok (.iastore, 1) := by decide +kernel
theorem dX13_readMove_60 : decode cX13_readMove 60 = .ok (.aload_n 0, 1) := by decide +kernel
theorem dX13_readMove_61 : decode cX13_readMove 61 = .ok (.getfield 162, 3) := by decide +kernel
theorem dX13_readMove_64 : decode cX13_readMove 64 = .ok (.iconst 2, 1) := by decide +kernel
theorem dX13_readMove_65 : decode cX13_readMove 65 = .ok (.if_icmp .ne 40, 3) := by decide +kernel
theorem dX13_readMove_68 : decode cX13_readMove 68 = .ok (.aload_n 0, 1) := by decide +kernel
theorem dX13_readMove_69 : decode cX13_readMove 69 = .ok (.getfield 165, 3) := by decide +kernel
theorem dX13_readMove_72 : decode cX13_readMove 72 = .ok (.i2l, 1) := by decide +kernel
theorem dX13_readMove_73 : decode cX13_readMove 73 = .ok (.aload_n 0, 1) := by decide +kernel
theorem dX13_readMove_74 : decode cX13_readMove 74 = .ok (.getfield 77, 3) := by decide +kernel
theorem dX13_readMove_77 : decode cX13_readMove 77 = .ok (.iload_n 1, 1) := by decide +kernel
theorem dX13_readMove_78 : decode cX13_readMove 78 = .ok (.iaload, 1) := by decide +kernel
theorem dX13_readMove_79 : decode cX13_readMove 79 = .ok (.i2l, 1) := by decide +kernel
theorem dX13_readMove_80 : decode cX13_readMove 80 = .ok (.aload_n 0, 1) := by decide +kernel
theorem dX13_readMove_81 : decode cX13_readMove 81 = .ok (.getfield 80, 3) := by decide +kernel
theorem dX13_readMove_84 : decode cX13_readMove 84 = .ok (.iload_n 1, 1) := by decide +kernel
theorem dX13_readMove_85 : decode cX13_readMove 85 = .ok (.iaload, 1) := by decide +kernel
theorem dX13_readMove_86 : decode cX13_readMove 86 = .ok (.i2l, 1) := by decide +kernel
theorem dX13_readMove_87 : decode cX13_readMove 87 = .ok (.lconst 1, 1) := by decide +kernel
theorem dX13_readMove_88 : decode cX13_readMove 88 = .ok (.ladd, 1) := by decide +kernel
theorem dX13_readMove_89 : decode cX13_readMove 89 = .ok (.invokestatic 140, 3) := by decide +kernel
theorem dX13_readMove_92 : decode cX13_readMove 92 = .ok (.ifCond .eq 13, 3) := by decide +kernel
theorem dX13_readMove_95 : decode cX13_readMove 95 = .ok (.aload_n 0, 1) := by decide +kernel
theorem dX13_readMove_96 : decode cX13_readMove 96 = .ok (.iconst 2, 1) := by decide +kernel
theorem dX13_readMove_97 : decode cX13_readMove 97 = .ok (.aload_n 0, 1) := by decide +kernel
theorem dX13_readMove_98 : decode cX13_readMove 98 = .ok (.getfield 159, 3) := by decide +kernel
theorem dX13_readMove_101 : decode cX13_readMove 101 = .ok (.invokevirtual 44, 3) := by decide +kernel
theorem dX13_readMove_104 : decode cX13_readMove 104 = .ok (.athrow, 1) := by decide +kernel
theorem dX13_readMove_105 : decode cX13_readMove 105 = .ok (.aload_n 0, 1) := by decide +kernel
theorem dX13_readMove_106 : decode cX13_readMove 106 = .ok (.getfield 83, 3) := by decide +kernel
theorem dX13_readMove_109 : decode cX13_readMove 109 = .ok (.iload_n 1, 1) := by decide +kernel
theorem dX13_readMove_110 : decode cX13_readMove 110 = .ok (.aload_n 0, 1) := by decide +kernel
theorem dX13_readMove_111 : decode cX13_readMove 111 = .ok (.iconst 0, 1) := by decide +kernel
theorem dX13_readMove_112 : decode cX13_readMove 112 = .ok (.aload_n 0, 1) := by decide +kernel
theorem dX13_readMove_113 : decode cX13_readMove 113 = .ok (.getfield 150, 3) := by decide +kernel
theorem dX13_readMove_116 : decode cX13_readMove 116 = .ok (.invokevirtual 205, 3) := by decide +kernel
theorem dX13_readMove_119 : decode cX13_readMove 119 = .ok (.iastore, 1) := by decide +kernel
theorem dX13_readMove_120 : decode cX13_readMove 120 = .ok (.return_, 1) := by decide +kernel
theorem dX13_readWords_0 : decode cX13_readWords 0 = .ok (.aload_n 0, 1) := by decide +kernel
theorem dX13_readWords_1 : decode cX13_readWords 1 = .ok (.ldc 217, 2) := by decide +kernel
theorem dX13_readWords_3 : decode cX13_readWords 3 = .ok (.invokevirtual 183, 3) := by decide +kernel
theorem dX13_readWords_6 : decode cX13_readWords 6 = .ok (.ifCond .ne 13, 3) := by decide +kernel
theorem dX13_readWords_9 : decode cX13_readWords 9 = .ok (.aload_n 0, 1) := by decide +kernel
theorem dX13_readWords_10 : decode cX13_readWords 10 = .ok (.iconst 1, 1) := by decide +kernel
theorem dX13_readWords_11 : decode cX13_readWords 11 = .ok (.aload_n 0, 1) := by decide +kernel
theorem dX13_readWords_12 : decode cX13_readWords 12 = .ok (.getfield 159, 3) := by decide +kernel
theorem dX13_readWords_15 : decode cX13_readWords 15 = .ok (.invokevirtual 44, 3) := by decide +kernel
theorem dX13_readWords_18 : decode cX13_readWords 18 = .ok (.athrow, 1) := by decide +kernel
theorem dX13_readWords_19 : decode cX13_readWords 19 = .ok (.aload_n 0, 1) := by decide +kernel
theorem dX13_readWords_20 : decode cX13_readWords 20 = .ok (.getfield 31, 3) := by decide +kernel
theorem dX13_readWords_23 : decode cX13_readWords 23 = .ok (.aload_n 0, 1) := by decide +kernel
theorem dX13_readWords_24 : decode cX13_readWords 24 = .ok (.getfield 14, 3) := by decide +kernel
theorem dX13_readWords_27 : decode cX13_readWords 27 = .ok (.if_icmp .ge 30, 3) := by decide +kernel
theorem dX13_readWords_30 : decode cX13_readWords 30 = .ok (.aload_n 0, 1) := by decide +kernel
theorem dX13_readWords_31 : decode cX13_readWords 31 = .ok (.aload_n 0, 1) := by decide +kernel
theorem dX13_readWords_32 : decode cX13_readWords 32 = .ok (.getfield 31, 3) := by decide +kernel
theorem dX13_readWords_35 : decode cX13_readWords 35 = .ok (.invokevirtual 34, 3) := by decide +kernel
theorem dX13_readWords_38 : decode cX13_readWords 38 = .ok (.invokestatic 38, 3) := by decide +kernel
theorem dX13_readWords_41 : decode cX13_readWords 41 = .ok (.ifCond .eq 16, 3) := by decide +kernel
theorem dX13_readWords_44 : decode cX13_readWords 44 = .ok (.aload_n 0, 1) := by decide +kernel
theorem dX13_readWords_45 : decode cX13_readWords 45 = .ok (.dup, 1) := by decide +kernel
theorem dX13_readWords_46 : decode cX13_readWords 46 = .ok (.getfield 31, 3) := by decide +kernel
theorem dX13_readWords_49 : decode cX13_readWords 49 = .ok (.iconst 1, 1) := by decide +kernel
theorem dX13_readWords_50 : decode cX13_readWords 50 = .ok (.iadd, 1) := by decide +kernel
theorem dX13_readWords_51 : decode cX13_readWords 51 = .ok (.putfield 31, 3) := by decide +kernel
theorem dX13_readWords_54 : decode cX13_readWords 54 = .ok (.goto (-35), 3) := by decide +kernel
theorem dX13_readWords_57 : decode cX13_readWords 57 = .ok (.aload_n 0, 1) := by decide +kernel
theorem dX13_readWords_58 : decode cX13_readWords 58 = .ok (.aload_n 0, 1) := by decide +kernel
theorem dX13_readWords_59 : decode cX13_readWords 59 = .ok (.getfield 31, 3) := by decide +kernel
theorem dX13_readWords_62 : decode cX13_readWords 62 = .ok (.putfield 159, 3) := by decide +kernel
theorem dX13_readWords_65 : decode cX13_readWords 65 = .ok (.aload_n 0, 1) := by decide +kernel
theorem dX13_readWords_66 : decode cX13_readWords 66 = .ok (.getfield 31, 3) := by decide +kernel
theorem dX13_readWords_69 : decode cX13_readWords 69 = .ok (.aload_n 0, 1) := by decide +kernel
theorem dX13_readWords_70 : decode cX13_readWords 70 = .ok (.getfield 14, 3) := by decide +kernel
theorem dX13_readWords_73 : decode cX13_readWords 73 = .ok (.if_icmp .eq 196, 3) := by decide +kernel
theorem dX13_readWords_76 : decode cX13_readWords 76 = .ok (.aload_n 0, 1) := by decide +kernel
theorem dX13_readWords_77 : decode cX13_readWords 77 = .ok (.aload_n 0, 1) := by decide +kernel
theorem dX13_readWords_78 : decode cX13_readWords 78 = .ok (.getfield 31, 3) := by decide +kernel
theorem dX13_readWords_81 : decode cX13_readWords 81 = .ok (.invokevirtual 34, 3) := by decide +kernel
theorem dX13_readWords_84 : decode cX13_readWords 84 = .ok (.bipush 59, 2) := by decide +kernel
theorem dX13_readWords_86 : decode cX13_readWords 86 = .ok (.if_icmp .ne 6, 3) := by decide +kernel
theorem dX13_readWords_89 : decode cX13_readWords 89 = .ok (.goto 180, 3) := by decide +kernel
theorem dX13_readWords_92 : decode cX13_readWords 92 = .ok (.iconst 1, 1) := by decide +kernel
theorem dX13_readWords_93 : decode cX13_readWords 93 = .ok (.istore_n 2, 1) := by decide +kernel
theorem dX13_readWords_94 : decode cX13_readWords 94 = .ok (.lconst 0, 1) := by decide +kernel
theorem dX13_readWords_95 : decode cX13_readWords 95 = .ok (.lstore_n 3, 1) := by decide +kernel
theorem dX13_readWords_96 : decode cX13_readWords 96 = .ok (.aload_n 0, 1) := by decide +kernel
theorem dX13_readWords_97 : decode cX13_readWords 97 = .ok (.getfield 31, 3) := by decide +kernel
theorem dX13_readWords_100 : decode cX13_readWords 100 = .ok (.aload_n 0, 1) := by decide +kernel
theorem dX13_readWords_101 : decode cX13_readWords 101 = .ok (.getfield 14, 3) := by decide +kernel
theorem dX13_readWords_104 : decode cX13_readWords 104 = .ok (.if_icmp .ge 100, 3) := by decide +kernel
theorem dX13_readWords_107 : decode cX13_readWords 107 = .ok (.aload_n 0, 1) := by decide +kernel
theorem dX13_readWords_108 : decode cX13_readWords 108 = .ok (.aload_n 0, 1) := by decide +kernel
theorem dX13_readWords_109 : decode cX13_readWords 109 = .ok (.getfield 31, 3) := by decide +kernel
theorem dX13_readWords_112 : decode cX13_readWords 112 = .ok (.invokevirtual 34, 3) := by decide +kernel
theorem dX13_readWords_115 : decode cX13_readWords 115 = .ok (.invokestatic 38, 3) := by decide +kernel
theorem dX13_readWords_118 : decode cX13_readWords 118 = .ok (.ifCond .ne 86, 3) := by decide +kernel
theorem dX13_readWords_121 : decode cX13_readWords 121 = .ok (.aload_n 0, 1) := by decide +kernel
theorem dX13_readWords_122 : decode cX13_readWords 122 = .ok (.aload_n 0, 1) := by decide +kernel
theorem dX13_readWords_123 : decode cX13_readWords 123 = .ok (.getfield 31, 3) := by decide +kernel
theorem dX13_readWords_126 : decode cX13_readWords 126 = .ok (.invokevirtual 34, 3) := by decide +kernel
theorem dX13_readWords_129 : decode cX13_readWords 129 = .ok (.bipush 59, 2) := by decide +kernel
theorem dX13_readWords_131 : decode cX13_readWords 131 = .ok (.if_icmp .eq 73, 3) := by decide +kernel
theorem dX13_readWords_134 : decode cX13_readWords 134 = .ok (.iload_n 2, 1) := by decide +kernel
theorem dX13_readWords_135 : decode cX13_readWords 135 = .ok (.ifCond .eq 35, 3) := by decide +kernel
theorem dX13_readWords_138 : decode cX13_readWords 138 = .ok (.aload_n 0, 1) := by decide +kernel
theorem dX13_readWords_139 : decode cX13_readWords 139 = .ok (.aload_n 0, 1) := by decide +kernel
theorem dX13_readWords_140 : decode cX13_readWords 140 = .ok (.getfield 31, 3) := by decide +kernel
theorem dX13_readWords_143 : decode cX13_readWords 143 = .ok (.invokevirtual 34, 3) := by decide +kernel
theorem dX13_readWords_146 : decode cX13_readWords 146 = .ok (.invokestatic 41, 3) := by decide +kernel
theorem dX13_readWords_149 : decode cX13_readWords 149 = .ok (.ifCond .eq 21, 3) := by decide +kernel
theorem dX13_readWords_152 : decode cX13_readWords 152 = .ok (.aload_n 0, 1) := by decide +kernel
theorem dX13_readWords_153 : decode cX13_readWords 153 = .ok (.getfield 31, 3) := by decide +kernel
theorem dX13_readWords_156 : decode cX13_readWords 156 = .ok (.aload_n 0, 1) := by decide +kernel
theorem dX13_readWords_157 : decode cX13_readWords 157 = .ok (.getfield 159, 3) := by decide +kernel
theorem dX13_readWords_160 : decode cX13_readWords 160 = .ok (.isub, 1) := by decide +kernel
theorem dX13_readWords_161 : decode cX13_readWords 161 = .ok (.bipush 8, 2) := by decide +kernel
theorem dX13_readWords_163 : decode cX13_readWords 163 = .ok (.if_icmp .ge 7, 3) := by decide +kernel
theorem dX13_readWords_166 : decode cX13_readWords 166 = .ok (.iconst 1, 1) := by decide +kernel
theorem dX13_readWords_167 : decode cX13_readWords 167 = .ok (.goto 4, 3) := by decide +kernel
theorem dX13_readWords_170 : decode cX13_readWords 170 = .ok (.iconst 0, 1) := by decide +kernel
end
section
theorem dX13_readWords_171 : decode cX13_readWords 171 = .ok (.istore_n 2, 1) := by decide +kernel
theorem dX13_readWords_172 : decode cX13_readWords 172 = .ok (.iload_n 2, 1) := by decide +kernel
theorem dX13_readWords_173 : decode cX13_readWords 173 = .ok (.ifCond .eq 18, 3) := by decide +kernel
theorem dX13_readWords_176 : decode cX13_readWords 176 = .ok (.lload_n 3, 1) := by decide +kernel
theorem dX13_readWords_177 : decode cX13_readWords 177 = .ok (.bipush 8, 2) := by decide +kernel
theorem dX13_readWords_179 : decode cX13_readWords 179 = .ok (.lshl, 1) := by decide +kernel
theorem dX13_readWords_180 : decode cX13_readWords 180 = .ok (.aload_n 0, 1) := by decide +kernel
theorem dX13_readWords_181 : decode cX13_readWords 181 = .ok (.aload_n 0, 1) := by decide +kernel
theorem dX13_readWords_182 : decode cX13_readWords 182 = .ok (.getfield 31, 3) := by decide +kernel
theorem dX13_readWords_185 : decode cX13_readWords 185 = .ok (.invokevirtual 34, 3) := by decide +kernel
theorem dX13_readWords_188 : decode cX13_readWords 188 = .ok (.i2l, 1) := by decide +kernel
theorem dX13_readWords_189 : decode cX13_readWords 189 = .ok (.lor, 1) := by decide +kernel
theorem dX13_readWords_190 : decode cX13_readWords 190 = .ok (.lstore_n 3, 1) := by decide +kernel
theorem dX13_readWords_191 : decode cX13_readWords 191 = .ok (.aload_n 0, 1) := by decide +kernel
theorem dX13_readWords_192 : decode cX13_readWords 192 = .ok (.dup, 1) := by decide +kernel
theorem dX13_readWords_193 : decode cX13_readWords 193 = .ok (.getfield 31, 3) := by decide +kernel
theorem dX13_readWords_196 : decode cX13_readWords 196 = .ok (.iconst 1, 1) := by decide +kernel
theorem dX13_readWords_197 : decode cX13_readWords 197 = .ok (.iadd, 1) := by decide +kernel
theorem dX13_readWords_198 : decode cX13_readWords 198 = .ok (.putfield 31, 3) := by decide +kernel
theorem dX13_readWords_201 : decode cX13_readWords 201 = .ok (.goto (-105), 3) := by decide +kernel
theorem dX13_readWords_204 : decode cX13_readWords 204 = .ok (.iload_n 2, 1) := by decide +kernel
theorem dX13_readWords_205 : decode cX13_readWords 205 = .ok (.ifCond .ne 13, 3) := by decide +kernel
theorem dX13_readWords_208 : decode cX13_readWords 208 = .ok (.aload_n 0, 1) := by decide +kernel
theorem dX13_readWords_209 : decode cX13_readWords 209 = .ok (.iconst 1, 1) := by decide +kernel
theorem dX13_readWords_210 : decode cX13_readWords 210 = .ok (.aload_n 0, 1) := by decide +kernel
theorem dX13_readWords_211 : decode cX13_readWords 211 = .ok (.getfield 159, 3) := by decide +kernel
theorem dX13_readWords_214 : decode cX13_readWords 214 = .ok (.invokevirtual 44, 3) := by decide +kernel
theorem dX13_readWords_217 : decode cX13_readWords 217 = .ok (.athrow, 1) := by decide +kernel
theorem dX13_readWords_218 : decode cX13_readWords 218 = .ok (.aload_n 0, 1) := by decide +kernel
theorem dX13_readWords_219 : decode cX13_readWords 219 = .ok (.getfield 86, 3) := by decide +kernel
theorem dX13_readWords_222 : decode cX13_readWords 222 = .ok (.iload_n 1, 1) := by decide +kernel
theorem dX13_readWords_223 : decode cX13_readWords 223 = .ok (.iaload, 1) := by decide +kernel
theorem dX13_readWords_224 : decode cX13_readWords 224 = .ok (.bipush 6, 2) := by decide +kernel
theorem dX13_readWords_226 : decode cX13_readWords 226 = .ok (.if_icmp .ne 13, 3) := by decide +kernel
theorem dX13_readWords_229 : decode cX13_readWords 229 = .ok (.aload_n 0, 1) := by decide +kernel
theorem dX13_readWords_230 : decode cX13_readWords 230 = .ok (.iconst 3, 1) := by decide +kernel
theorem dX13_readWords_231 : decode cX13_readWords 231 = .ok (.aload_n 0, 1) := by decide +kernel
theorem dX13_readWords_232 : decode cX13_readWords 232 = .ok (.getfield 159, 3) := by decide +kernel
theorem dX13_readWords_235 : decode cX13_readWords 235 = .ok (.invokevirtual 44, 3) := by decide +kernel
theorem dX13_readWords_238 : decode cX13_readWords 238 = .ok (.athrow, 1) := by decide +kernel
theorem dX13_readWords_239 : decode cX13_readWords 239 = .ok (.aload_n 0, 1) := by decide +kernel
theorem dX13_readWords_240 : decode cX13_readWords 240 = .ok (.getfield 92, 3) := by decide +kernel
theorem dX13_readWords_243 : decode cX13_readWords 243 = .ok (.bipush 6, 2) := by decide +kernel
theorem dX13_readWords_245 : decode cX13_readWords 245 = .ok (.iload_n 1, 1) := by decide +kernel
theorem dX13_readWords_246 : decode cX13_readWords 246 = .ok (.imul, 1) := by decide +kernel
theorem dX13_readWords_247 : decode cX13_readWords 247 = .ok (.aload_n 0, 1) := by decide +kernel
theorem dX13_readWords_248 : decode cX13_readWords 248 = .ok (.getfield 86, 3) := by decide +kernel
theorem dX13_readWords_251 : decode cX13_readWords 251 = .ok (.iload_n 1, 1) := by decide +kernel
theorem dX13_readWords_252 : decode cX13_readWords 252 = .ok (.iaload, 1) := by decide +kernel
theorem dX13_readWords_253 : decode cX13_readWords 253 = .ok (.iadd, 1) := by decide +kernel
theorem dX13_readWords_254 : decode cX13_readWords 254 = .ok (.lload_n 3, 1) := by decide +kernel
theorem dX13_readWords_255 : decode cX13_readWords 255 = .ok (.lastore, 1) := by decide +kernel
theorem dX13_readWords_256 : decode cX13_readWords 256 = .ok (.aload_n 0, 1) := by decide +kernel
theorem dX13_readWords_257 : decode cX13_readWords 257 = .ok (.getfield 86, 3) := by decide +kernel
theorem dX13_readWords_260 : decode cX13_readWords 260 = .ok (.iload_n 1, 1) := by decide +kernel
theorem dX13_readWords_261 : decode cX13_readWords 261 = .ok (.dup2, 1) := by decide +kernel
theorem dX13_readWords_262 : decode cX13_readWords 262 = .ok (.iaload, 1) := by decide +kernel
theorem dX13_readWords_263 : decode cX13_readWords 263 = .ok (.iconst 1, 1) := by decide +kernel
theorem dX13_readWords_264 : decode cX13_readWords 264 = .ok (.iadd, 1) := by decide +kernel
theorem dX13_readWords_265 : decode cX13_readWords 265 = .ok (.iastore, 1) := by decide +kernel
theorem dX13_readWords_266 : decode cX13_readWords 266 = .ok (.goto (-247), 3) := by decide +kernel
theorem dX13_readWords_269 : decode cX13_readWords 269 = .ok (.aload_n 0, 1) := by decide +kernel
theorem dX13_readWords_270 : decode cX13_readWords 270 = .ok (.getfield 86, 3) := by decide +kernel
theorem dX13_readWords_273 : decode cX13_readWords 273 = .ok (.iload_n 1, 1) := by decide +kernel
theorem dX13_readWords_274 : decode cX13_readWords 274 = .ok (.iaload, 1) := by decide +kernel
theorem dX13_readWords_275 : decode cX13_readWords 275 = .ok (.ifCond .ne 13, 3) := by decide +kernel
theorem dX13_readWords_278 : decode cX13_readWords 278 = .ok (.aload_n 0, 1) := by decide +kernel
theorem dX13_readWords_279 : decode cX13_readWords 279 = .ok (.iconst 1, 1) := by decide +kernel
theorem dX13_readWords_280 : decode cX13_readWords 280 = .ok (.aload_n 0, 1) := by decide +kernel
theorem dX13_readWords_281 : decode cX13_readWords 281 = .ok (.getfield 159, 3) := by decide +kernel
theorem dX13_readWords_284 : decode cX13_readWords 284 = .ok (.invokevirtual 44, 3) := by decide +kernel
theorem dX13_readWords_287 : decode cX13_readWords 287 = .ok (.athrow, 1) := by decide +kernel
theorem dX13_readWords_288 : decode cX13_readWords 288 = .ok (.aload_n 0, 1) := by decide +kernel
theorem dX13_readWords_289 : decode cX13_readWords 289 = .ok (.invokevirtual 178, 3) := by decide +kernel
theorem dX13_readWords_292 : decode cX13_readWords 292 = .ok (.return_, 1) := by decide +kernel
theorem dX13_marks_0 : decode cX13_marks 0 = .ok (.aload_n 0, 1) := by decide +kernel
theorem dX13_marks_1 : decode cX13_marks 1 = .ok (.invokevirtual 144, 3) := by decide +kernel
theorem dX13_marks_4 : decode cX13_marks 4 = .ok (.aload_n 0, 1) := by decide +kernel
theorem dX13_marks_5 : decode cX13_marks 5 = .ok (.getfield 153, 3) := by decide +kernel
theorem dX13_marks_8 : decode cX13_marks 8 = .ok (.istore_n 1, 1) := by decide +kernel
theorem dX13_marks_9 : decode cX13_marks 9 = .ok (.aload_n 0, 1) := by decide +kernel
theorem dX13_marks_10 : decode cX13_marks 10 = .ok (.invokevirtual 178, 3) := by decide +kernel
theorem dX13_marks_13 : decode cX13_marks 13 = .ok (.aload_n 0, 1) := by decide +kernel
theorem dX13_marks_14 : decode cX13_marks 14 = .ok (.getfield 162, 3) := by decide +kernel
theorem dX13_marks_17 : decode cX13_marks 17 = .ok (.ifCond .eq 14, 3) := by decide +kernel
theorem dX13_marks_20 : decode cX13_marks 20 = .ok (.aload_n 0, 1) := by decide +kernel
theorem dX13_marks_21 : decode cX13_marks 21 = .ok (.iload_n 1, 1) := by decide +kernel
theorem dX13_marks_22 : decode cX13_marks 22 = .ok (.invokevirtual 219, 3) := by decide +kernel
theorem dX13_marks_25 : decode cX13_marks 25 = .ok (.iinc 1 1, 3) := by decide +kernel
theorem dX13_marks_28 : decode cX13_marks 28 = .ok (.goto (-15), 3) := by decide +kernel
theorem dX13_marks_31 : decode cX13_marks 31 = .ok (.goto 6, 3) := by decide +kernel
theorem dX13_marks_34 : decode cX13_marks 34 = .ok (.astore_n 2, 1) := by decide +kernel
theorem dX13_marks_35 : decode cX13_marks 35 = .ok (.iconst (-1), 1) := by decide +kernel
theorem dX13_marks_36 : decode cX13_marks 36 = .ok (.ireturn, 1) := by decide +kernel
theorem dX13_marks_37 : decode cX13_marks 37 = .ok (.iload_n 1, 1) := by decide +kernel
theorem dX13_marks_38 : decode cX13_marks 38 = .ok (.aload_n 0, 1) := by decide +kernel
theorem dX13_marks_39 : decode cX13_marks 39 = .ok (.getfield 153, 3) := by decide +kernel
theorem dX13_marks_42 : decode cX13_marks 42 = .ok (.isub, 1) := by decide +kernel
theorem dX13_marks_43 : decode cX13_marks 43 = .ok (.istore_n 2, 1) := by decide +kernel
theorem dX13_marks_44 : decode cX13_marks 44 = .ok (.aload_n 0, 1) := by decide +kernel
theorem dX13_marks_45 : decode cX13_marks 45 = .ok (.iload_n 1, 1) := by decide +kernel
theorem dX13_marks_46 : decode cX13_marks 46 = .ok (.putfield 153, 3) := by decide +kernel
theorem dX13_marks_49 : decode cX13_marks 49 = .ok (.iload_n 2, 1) := by decide +kernel
theorem dX13_marks_50 : decode cX13_marks 50 = .ok (.ireturn, 1) := by decide +kernel
theorem dX13_fault_0 : decode cX13_fault 0 = .ok (.iload_n 1, 1) := by decide +kernel
theorem dX13_fault_1 : decode cX13_fault 1 = .ok (.ifCond .ne 10, 3) := by decide +kernel
theorem dX13_fault_4 : decode cX13_fault 4 = .ok (.aload_n 0, 1) := by decide +kernel
theorem dX13_fault_5 : decode cX13_fault 5 = .ok (.getfield 1, 3) := by decide +kernel
theorem dX13_fault_8 : decode cX13_fault 8 = .ok (.goto 16, 3) := by decide +kernel
theorem dX13_fault_11 : decode cX13_fault 11 = .ok (.iload_n 1, 1) := by decide +kernel
theorem dX13_fault_12 : decode cX13_fault 12 = .ok (.iconst 1, 1) := by decide +kernel
theorem dX13_fault_13 : decode cX13_fault 13 = .ok (.if_icmp .ne 10, 3) := by decide +kernel
theorem dX13_fault_16 : decode cX13_fault 16 = .ok (.aload_n 0, 1) := by decide +kernel
theorem dX13_fault_17 : decode cX13_fault 17 = .ok (.getfield 7, 3) := by decide +kernel
theorem dX13_fault_20 : decode cX13_fault 20 = .ok (.goto 4, 3) := by decide +kernel
theorem dX13_fault_23 : decode cX13_fault 23 = .ok (.iconst (-1), 1) := by decide +kernel
theorem dX13_fault_24 : decode cX13_fault 24 = .ok (.ireturn, 1) := by decide +kernel
theorem dX13_isMark_0 : decode cX13_isMark 0 = .ok (.iload_n 1, 1) := by decide +kernel
theorem dX13_isMark_1 : decode cX13_isMark 1 = .ok (.i2l, 1) := by decide +kernel
theorem dX13_isMark_2 : decode cX13_isMark 2 = .ok (.lconst 0, 1) := by decide +kernel
theorem dX13_isMark_3 : decode cX13_isMark 3 = .ok (.aload_n 0, 1) := by decide +kernel
theorem dX13_isMark_4 : decode cX13_isMark 4 = .ok (.getfield 153, 3) := by decide +kernel
theorem dX13_isMark_7 : decode cX13_isMark 7 = .ok (.i2l, 1) := by decide +kernel
theorem dX13_isMark_8 : decode cX13_isMark 8 = .ok (.lconst 1, 1) := by decide +kernel
theorem dX13_isMark_9 : decode cX13_isMark 9 = .ok (.lsub, 1) := by decide +kernel
theorem dX13_isMark_10 : decode cX13_isMark 10 = .ok (.invokestatic 140, 3) := by decide +kernel
theorem dX13_isMark_13 : decode cX13_isMark 13 = .ok (.ireturn, 1) := by decide +kernel
theorem dX13_hasRow_0 : decode cX13_hasRow 0 = .ok (.aload_n 0, 1) := by decide +kernel
theorem dX13_hasRow_1 : decode cX13_hasRow 1 = .ok (.getfield 70, 3) := by decide +kernel
theorem dX13_hasRow_4 : decode cX13_hasRow 4 = .ok (.iload_n 1, 1) := by decide +kernel
theorem dX13_hasRow_5 : decode cX13_hasRow 5 = .ok (.iaload, 1) := by decide +kernel
theorem dX13_hasRow_6 : decode cX13_hasRow 6 = .ok (.iconst 1, 1) := by decide +kernel
theorem dX13_hasRow_7 : decode cX13_hasRow 7 = .ok (.if_icmp .eq 7, 3) := by decide +kernel
theorem dX13_hasRow_10 : decode cX13_hasRow 10 = .ok (.iconst 1, 1) := by decide +kernel
theorem dX13_hasRow_11 : decode cX13_hasRow 11 = .ok (.goto 4, 3) := by decide +kernel
theorem dX13_hasRow_14 : decode cX13_hasRow 14 = .ok (.iconst 0, 1) := by decide +kernel
theorem dX13_hasRow_15 : decode cX13_hasRow 15 = .ok (.ireturn, 1) := by decide +kernel
theorem dX13_rowEnd_0 : decode cX13_rowEnd 0 = .ok (.aload_n 0, 1) := by decide +kernel
theorem dX13_rowEnd_1 : decode cX13_rowEnd 1 = .ok (.getfield 70, 3) := by decide +kernel
theorem dX13_rowEnd_4 : decode cX13_rowEnd 4 = .ok (.iload_n 1, 1) := by decide +kernel
theorem dX13_rowEnd_5 : decode cX13_rowEnd 5 = .ok (.iaload, 1) := by decide +kernel
theorem dX13_rowEnd_6 : decode cX13_rowEnd 6 = .ok (.iconst 3, 1) := by decide +kernel
theorem dX13_rowEnd_7 : decode cX13_rowEnd 7 = .ok (.if_icmp .ne 12, 3) := by decide +kernel
theorem dX13_rowEnd_10 : decode cX13_rowEnd 10 = .ok (.aload_n 0, 1) := by decide +kernel
theorem dX13_rowEnd_11 : decode cX13_rowEnd 11 = .ok (.getfield 83, 3) := by decide +kernel
theorem dX13_rowEnd_14 : decode cX13_rowEnd 14 = .ok (.iload_n 1, 1) := by decide +kernel
theorem dX13_rowEnd_15 : decode cX13_rowEnd 15 = .ok (.iaload, 1) := by decide +kernel
theorem dX13_rowEnd_16 : decode cX13_rowEnd 16 = .ok (.goto 9, 3) := by decide +kernel
theorem dX13_rowEnd_19 : decode cX13_rowEnd 19 = .ok (.aload_n 0, 1) := by decide +kernel
theorem dX13_rowEnd_20 : decode cX13_rowEnd 20 = .ok (.getfield 80, 3) := by decide +kernel
theorem dX13_rowEnd_23 : decode cX13_rowEnd 23 = .ok (.iload_n 1, 1) := by decide +kernel
theorem dX13_rowEnd_24 : decode cX13_rowEnd 24 = .ok (.iaload, 1) := by decide +kernel
theorem dX13_rowEnd_25 : decode cX13_rowEnd 25 = .ok (.ireturn, 1) := by decide +kernel
theorem dX13_gapOf_0 : decode cX13_gapOf 0 = .ok (.aload_n 0, 1) := by decide +kernel
theorem dX13_gapOf_1 : decode cX13_gapOf 1 = .ok (.getfield 70, 3) := by decide +kernel
theorem dX13_gapOf_4 : decode cX13_gapOf 4 = .ok (.iload_n 1, 1) := by decide +kernel
theorem dX13_gapOf_5 : decode cX13_gapOf 5 = .ok (.iaload, 1) := by decide +kernel
theorem dX13_gapOf_6 : decode cX13_gapOf 6 = .ok (.iconst 1, 1) := by decide +kernel
theorem dX13_gapOf_7 : decode cX13_gapOf 7 = .ok (.if_icmp .ne 12, 3) := by decide +kernel
theorem dX13_gapOf_10 : decode cX13_gapOf 10 = .ok (.aload_n 0, 1) := by decide +kernel
theorem dX13_gapOf_11 : decode cX13_gapOf 11 = .ok (.getfield 77, 3) := by decide +kernel
theorem dX13_gapOf_14 : decode cX13_gapOf 14 = .ok (.iload_n 1, 1) := by decide +kernel
theorem dX13_gapOf_15 : decode cX13_gapOf 15 = .ok (.iaload, 1) := by decide +kernel
theorem dX13_gapOf_16 : decode cX13_gapOf 16 = .ok (.goto 23, 3) := by decide +kernel
theorem dX13_gapOf_19 : decode cX13_gapOf 19 = .ok (.aload_n 0, 1) := by decide +kernel
theorem dX13_gapOf_20 : decode cX13_gapOf 20 = .ok (.getfield 70, 3) := by decide +kernel
theorem dX13_gapOf_23 : decode cX13_gapOf 23 = .ok (.iload_n 1, 1) := by decide +kernel
theorem dX13_gapOf_24 : decode cX13_gapOf 24 = .ok (.iaload, 1) := by decide +kernel
theorem dX13_gapOf_25 : decode cX13_gapOf 25 = .ok (.iconst 4, 1) := by decide +kernel
theorem dX13_gapOf_26 : decode cX13_gapOf 26 = .ok (.if_icmp .ne 12, 3) := by decide +kernel
theorem dX13_gapOf_29 : decode cX13_gapOf 29 = .ok (.aload_n 0, 1) := by decide +kernel
theorem dX13_gapOf_30 : decode cX13_gapOf 30 = .ok (.getfield 83, 3) := by decide +kernel
theorem dX13_gapOf_33 : decode cX13_gapOf 33 = .ok (.iload_n 1, 1) := by decide +kernel
theorem dX13_gapOf_34 : decode cX13_gapOf 34 = .ok (.iaload, 1) := by decide +kernel
theorem dX13_gapOf_35 : decode cX13_gapOf 35 = .ok (.goto 4, 3) := by decide +kernel
theorem dX13_gapOf_38 : decode cX13_gapOf 38 = .ok (.iconst (-1), 1) := by decide +kernel
theorem dX13_gapOf_39 : decode cX13_gapOf 39 = .ok (.ireturn, 1) := by decide +kernel
theorem dX13_isInside_0 : decode cX13_isInside 0 = .ok (.aload_n 0, 1) := by decide +kernel
theorem dX13_isInside_1 : decode cX13_isInside 1 = .ok (.iload_n 1, 1) := by decide +kernel
theorem dX13_isInside_2 : decode cX13_isInside 2 = .ok (.invokevirtual 222, 3) := by decide +kernel
theorem dX13_isInside_5 : decode cX13_isInside 5 = .ok (.ifCond .eq 24, 3) := by decide +kernel
theorem dX13_isInside_8 : decode cX13_isInside 8 = .ok (.aload_n 0, 1) := by decide +kernel
theorem dX13_isInside_9 : decode cX13_isInside 9 = .ok (.getfield 77, 3) := by decide +kernel
theorem dX13_isInside_12 : decode cX13_isInside 12 = .ok (.iload_n 1, 1) := by decide +kernel
theorem dX13_isInside_13 : decode cX13_isInside 13 = .ok (.iaload, 1) := by decide +kernel
theorem dX13_isInside_14 : decode cX13_isInside 14 = .ok (.iload_n 2, 1) := by decide +kernel
theorem dX13_isInside_15 : decode cX13_isInside 15 = .ok (.if_icmp .lt 12, 3) := by decide +kernel
theorem dX13_isInside_18 : decode cX13_isInside 18 = .ok (.aload_n 0, 1) := by decide +kernel
theorem dX13_isInside_19 : decode cX13_isInside 19 = .ok (.iload_n 1, 1) := by decide +kernel
theorem dX13_isInside_20 : decode cX13_isInside 20 = .ok (.invokevirtual 225, 3) := by decide +kernel
theorem dX13_isInside_23 : decode cX13_isInside 23 = .ok (.iload_n 3, 1) := by decide +kernel
theorem dX13_isInside_24 : decode cX13_isInside 24 = .ok (.if_icmp .le 5, 3) := by decide +kernel
theorem dX13_isInside_27 : decode cX13_isInside 27 = .ok (.iconst 0, 1) := by decide +kernel
theorem dX13_isInside_28 : decode cX13_isInside 28 = .ok (.ireturn, 1) := by decide +kernel
theorem dX13_isInside_29 : decode cX13_isInside 29 = .ok (.aload_n 0, 1) := by decide +kernel
theorem dX13_isInside_30 : decode cX13_isInside 30 = .ok (.iload_n 1, 1) := by decide +kernel
theorem dX13_isInside_31 : decode cX13_isInside 31 = .ok (.invokevirtual 228, 3) := by decide +kernel
theorem dX13_isInside_34 : decode cX13_isInside 34 = .ok (.iconst (-1), 1) := by decide +kernel
theorem dX13_isInside_35 : decode cX13_isInside 35 = .ok (.if_icmp .eq 21, 3) := by decide +kernel
theorem dX13_isInside_38 : decode cX13_isInside 38 = .ok (.aload_n 0, 1) := by decide +kernel
theorem dX13_isInside_39 : decode cX13_isInside 39 = .ok (.iload_n 1, 1) := by decide +kernel
theorem dX13_isInside_40 : decode cX13_isInside 40 = .ok (.invokevirtual 228, 3) := by decide +kernel
theorem dX13_isInside_43 : decode cX13_isInside 43 = .ok (.iload_n 2, 1) := by decide +kernel
theorem dX13_isInside_44 : decode cX13_isInside 44 = .ok (.if_icmp .le 16, 3) := by decide +kernel
theorem dX13_isInside_47 : decode cX13_isInside 47 = .ok (.aload_n 0, 1) := by decide +kernel
theorem dX13_isInside_48 : decode cX13_isInside 48 = .ok (.iload_n 1, 1) := by decide +kernel
theorem dX13_isInside_49 : decode cX13_isInside 49 = .ok (.invokevirtual 228, 3) := by decide +kernel
theorem dX13_isInside_52 : decode cX13_isInside 52 = .ok (.iload_n 3, 1) := by decide +kernel
theorem dX13_isInside_53 : decode cX13_isInside 53 = .ok (.if_icmp .gt 7, 3) := by decide +kernel
theorem dX13_isInside_56 : decode cX13_isInside 56 = .ok (.iconst 1, 1) := by decide +kernel
theorem dX13_isInside_57 : decode cX13_isInside 57 = .ok (.goto 4, 3) := by decide +kernel
theorem dX13_isInside_60 : decode cX13_isInside 60 = .ok (.iconst 0, 1) := by decide +kernel
theorem dX13_isInside_61 : decode cX13_isInside 61 = .ok (.ireturn, 1) := by decide +kernel
theorem dX13_isWithin_0 : decode cX13_isWithin 0 = .ok (.aload_n 0, 1) := by decide +kernel
theorem dX13_isWithin_1 : decode cX13_isWithin 1 = .ok (.getfield 70, 3) := by decide +kernel
theorem dX13_isWithin_4 : decode cX13_isWithin 4 = .ok (.iload_n 2, 1) := by decide +kernel
theorem dX13_isWithin_5 : decode cX13_isWithin 5 = .ok (.iaload, 1) := by decide +kernel
theorem dX13_isWithin_6 : decode cX13_isWithin 6 = .ok (.iconst 4, 1) := by decide +kernel
theorem dX13_isWithin_7 : decode cX13_isWithin 7 = .ok (.if_icmp .ne 21, 3) := by decide +kernel
theorem dX13_isWithin_10 : decode cX13_isWithin 10 = .ok (.aload_n 0, 1) := by decide +kernel
theorem dX13_isWithin_11 : decode cX13_isWithin 11 = .ok (.iload_n 1, 1) := by decide +kernel
theorem dX13_isWithin_12 : decode cX13_isWithin 12 = .ok (.aload_n 0, 1) := by decide +kernel
theorem dX13_isWithin_13 : decode cX13_isWithin 13 = .ok (.getfield 77, 3) := by decide +kernel
theorem dX13_isWithin_16 : decode cX13_isWithin 16 = .ok (.iload_n 2, 1) := by decide +kernel
theorem dX13_isWithin_17 : decode cX13_isWithin 17 = .ok (.iaload, 1) := by decide +kernel
theorem dX13_isWithin_18 : decode cX13_isWithin 18 = .ok (.aload_n 0, 1) := by decide +kernel
theorem dX13_isWithin_19 : decode cX13_isWithin 19 = .ok (.getfield 80, 3) := by decide +kernel
theorem dX13_isWithin_22 : decode cX13_isWithin 22 = .ok (.iload_n 2, 1) := by decide +kernel
theorem dX13_isWithin_23 : decode cX13_isWithin 23 = .ok (.iaload, 1) := by decide +kernel
theorem dX13_isWithin_24 : decode cX13_isWithin 24 = .ok (.invokevirtual 231, 3) := by decide +kernel
theorem dX13_isWithin_27 : decode cX13_isWithin 27 = .ok (.ireturn, 1) := by decide +kernel
theorem dX13_isWithin_28 : decode cX13_isWithin 28 = .ok (.aload_n 0, 1) := by decide +kernel
theorem dX13_isWithin_29 : decode cX13_isWithin 29 = .ok (.getfield 70, 3) := by decide +kernel
theorem dX13_isWithin_32 : decode cX13_isWithin 32 = .ok (.iload_n 2, 1) := by decide +kernel
theorem dX13_isWithin_33 : decode cX13_isWithin 33 = .ok (.iaload, 1) := by decide +kernel
theorem dX13_isWithin_34 : decode cX13_isWithin 34 = .ok (.iconst 3, 1) := by decide +kernel
theorem dX13_isWithin_35 : decode cX13_isWithin 35 = .ok (.if_icmp .ne 49, 3) := by decide +kernel
theorem dX13_isWithin_38 : decode cX13_isWithin 38 = .ok (.aload_n 0, 1) := by decide +kernel
theorem dX13_isWithin_39 : decode cX13_isWithin 39 = .ok (.iload_n 1, 1) := by decide +kernel
theorem dX13_isWithin_40 : decode cX13_isWithin 40 = .ok (.aload_n 0, 1) := by decide +kernel
theorem dX13_isWithin_41 : decode cX13_isWithin 41 = .ok (.getfield 77, 3) := by decide +kernel
theorem dX13_isWithin_44 : decode cX13_isWithin 44 = .ok (.iload_n 2, 1) := by decide +kernel
theorem dX13_isWithin_45 : decode cX13_isWithin 45 = .ok (.iaload, 1) := by decide +kernel
theorem dX13_isWithin_46 : decode cX13_isWithin 46 = .ok (.aload_n 0, 1) := by decide +kernel
theorem dX13_isWithin_47 : decode cX13_isWithin 47 = .ok (.getfield 80, 3) := by decide +kernel
theorem dX13_isWithin_50 : decode cX13_isWithin 50 = .ok (.iload_n 2, 1) := by decide +kernel
theorem dX13_isWithin_51 : decode cX13_isWithin 51 = .ok (.iaload, 1) := by decide +kernel
theorem dX13_isWithin_52 : decode cX13_isWithin 52 = .ok (.iconst 1, 1) := by decide +kernel
theorem dX13_isWithin_53 : decode cX13_isWithin 53 = .ok (.isub, 1) := by decide +kernel
theorem dX13_isWithin_54 : decode cX13_isWithin 54 = .ok (.invokevirtual 231, 3) := by decide +kernel
theorem dX13_isWithin_57 : decode cX13_isWithin 57 = .ok (.ifCond .ne 23, 3) := by decide +kernel
theorem dX13_isWithin_60 : decode cX13_isWithin 60 = .ok (.aload_n 0, 1) := by decide +kernel
theorem dX13_isWithin_61 : decode cX13_isWithin 61 = .ok (.iload_n 1, 1) := by decide +kernel
theorem dX13_isWithin_62 : decode cX13_isWithin 62 = .ok (.aload_n 0, 1) := by decide +kernel
theorem dX13_isWithin_63 : decode cX13_isWithin 63 = .ok (.getfield 80, 3) := by decide +kernel
theorem dX13_isWithin_66 : decode cX13_isWithin 66 = .ok (.iload_n 2, 1) := by decide +kernel
theorem dX13_isWithin_67 : decode cX13_isWithin 67 = .ok (.iaload, 1) := by decide +kernel
theorem dX13_isWithin_68 : decode cX13_isWithin 68 = .ok (.aload_n 0, 1) := by decide +kernel
theorem dX13_isWithin_69 : decode cX13_isWithin 69 = .ok (.getfield 83, 3) := by decide +kernel
theorem dX13_isWithin_72 : decode cX13_isWithin 72 = .ok (.iload_n 2, 1) := by decide +kernel
theorem dX13_isWithin_73 : decode cX13_isWithin 73 = .ok (.iaload, 1) := by decide +kernel
theorem dX13_isWithin_74 : decode cX13_isWithin 74 = .ok (.invokevirtual 231, 3) := by decide +kernel
theorem dX13_isWithin_77 : decode cX13_isWithin 77 = .ok (.ifCond .eq 7, 3) := by decide +kernel
theorem dX13_isWithin_80 : decode cX13_isWithin 80 = .ok (.iconst 1, 1) := by decide +kernel
theorem dX13_isWithin_81 : decode cX13_isWithin 81 = .ok (.goto 4, 3) := by decide +kernel
theorem dX13_isWithin_84 : decode cX13_isWithin 84 = .ok (.iconst 0, 1) := by decide +kernel
theorem dX13_isWithin_85 : decode cX13_isWithin 85 = .ok (.ireturn, 1) := by decide +kernel
theorem dX13_doMeet_0 : decode cX13_doMeet 0 = .ok (.aload_n 0, 1) := by decide +kernel
theorem dX13_doMeet_1 : decode cX13_doMeet 1 = .ok (.iload_n 1, 1) := by decide +kernel
theorem dX13_doMeet_2 : decode cX13_doMeet 2 = .ok (.iload_n 2, 1) := by decide +kernel
theorem dX13_doMeet_3 : decode cX13_doMeet 3 = .ok (.invokevirtual 235, 3) := by decide +kernel
theorem dX13_doMeet_6 : decode cX13_doMeet 6 = .ok (.ifCond .ne 12, 3) := by decide +kernel
theorem dX13_doMeet_9 : decode cX13_doMeet 9 = .ok (.aload_n 0, 1) := by decide +kernel
theorem dX13_doMeet_10 : decode cX13_doMeet 10 = .ok (.iload_n 2, 1) := by decide +kernel
theorem dX13_doMeet_11 : decode cX13_doMeet 11 = .ok (.iload_n 1, 1) := by decide +kernel
theorem dX13_doMeet_12 : decode cX13_doMeet 12 = .ok (.invokevirtual 235, 3) := by decide +kernel
theorem dX13_doMeet_15 : decode cX13_doMeet 15 = .ok (.ifCond .eq 5, 3) := by decide +kernel
theorem dX13_doMeet_18 : decode cX13_doMeet 18 = .ok (.iconst 0, 1) := by decide +kernel
theorem dX13_doMeet_19 : decode cX13_doMeet 19 = .ok (.ireturn, 1) := by decide +kernel
theorem dX13_doMeet_20 : decode cX13_doMeet 20 = .ok (.aload_n 0, 1) := by decide +kernel
theorem dX13_doMeet_21 : decode cX13_doMeet 21 = .ok (.iload_n 1, 1) := by decide +kernel
theorem dX13_doMeet_22 : decode cX13_doMeet 22 = .ok (.invokevirtual 222, 3) := by decide +kernel
theorem dX13_doMeet_25 : decode cX13_doMeet 25 = .ok (.ifCond .eq 41, 3) := by decide +kernel
theorem dX13_doMeet_28 : decode cX13_doMeet 28 = .ok (.aload_n 0, 1) := by decide +kernel
theorem dX13_doMeet_29 : decode cX13_doMeet 29 = .ok (.iload_n 2, 1) := by decide +kernel
theorem dX13_doMeet_30 : decode cX13_doMeet 30 = .ok (.invokevirtual 222, 3) := by decide +kernel
theorem dX13_doMeet_33 : decode cX13_doMeet 33 = .ok (.ifCond .eq 33, 3) := by decide +kernel
theorem dX13_doMeet_36 : decode cX13_doMeet 36 = .ok (.aload_n 0, 1) := by decide +kernel
theorem dX13_doMeet_37 : decode cX13_doMeet 37 = .ok (.getfield 77, 3) := by decide +kernel
theorem dX13_doMeet_40 : decode cX13_doMeet 40 = .ok (.iload_n 1, 1) := by decide +kernel
theorem dX13_doMeet_41 : decode cX13_doMeet 41 = .ok (.iaload, 1) := by decide +kernel
theorem dX13_doMeet_42 : decode cX13_doMeet 42 = .ok (.aload_n 0, 1) := by decide +kernel
theorem dX13_doMeet_43 : decode cX13_doMeet 43 = .ok (.iload_n 2, 1) := by decide +kernel
theorem dX13_doMeet_44 : decode cX13_doMeet 44 = .ok (.invokevirtual 225, 3) := by decide +kernel
theorem dX13_doMeet_47 : decode cX13_doMeet 47 = .ok (.if_icmp .gt 19, 3) := by decide +kernel
theorem dX13_doMeet_50 : decode cX13_doMeet 50 = .ok (.aload_n 0, 1) := by decide +kernel
theorem dX13_doMeet_51 : decode cX13_doMeet 51 = .ok (.getfield 77, 3) := by decide +kernel
theorem dX13_doMeet_54 : decode cX13_doMeet 54 = .ok (.iload_n 2, 1) := by decide +kernel
theorem dX13_doMeet_55 : decode cX13_doMeet 55 = .ok (.iaload, 1) := by decide +kernel
theorem dX13_doMeet_56 : decode cX13_doMeet 56 = .ok (.aload_n 0, 1) := by decide +kernel
theorem dX13_doMeet_57 : decode cX13_doMeet 57 = .ok (.iload_n 1, 1) := by decide +kernel
theorem dX13_doMeet_58 : decode cX13_doMeet 58 = .ok (.invokevirtual 225, 3) := by decide +kernel
theorem dX13_doMeet_61 : decode cX13_doMeet 61 = .ok (.if_icmp .gt 5, 3) := by decide +kernel
theorem dX13_doMeet_64 : decode cX13_doMeet 64 = .ok (.iconst 1, 1) := by decide +kernel
theorem dX13_doMeet_65 : decode cX13_doMeet 65 = .ok (.ireturn, 1) := by decide +kernel
theorem dX13_doMeet_66 : decode cX13_doMeet 66 = .ok (.aload_n 0, 1) := by decide +kernel
theorem dX13_doMeet_67 : decode cX13_doMeet 67 = .ok (.iload_n 1, 1) := by decide +kernel
theorem dX13_doMeet_68 : decode cX13_doMeet 68 = .ok (.iload_n 2, 1) := by decide +kernel
theorem dX13_doMeet_69 : decode cX13_doMeet 69 = .ok (.invokevirtual 239, 3) := by decide +kernel
theorem dX13_doMeet_72 : decode cX13_doMeet 72 = .ok (.ifCond .ne 12, 3) := by decide +kernel
theorem dX13_doMeet_75 : decode cX13_doMeet 75 = .ok (.aload_n 0, 1) := by decide +kernel
theorem dX13_doMeet_76 : decode cX13_doMeet 76 = .ok (.iload_n 2, 1) := by decide +kernel
theorem dX13_doMeet_77 : decode cX13_doMeet 77 = .ok (.iload_n 1, 1) := by decide +kernel
theorem dX13_doMeet_78 : decode cX13_doMeet 78 = .ok (.invokevirtual 239, 3) := by decide +kernel
theorem dX13_doMeet_81 : decode cX13_doMeet 81 = .ok (.ifCond .eq 7, 3) := by decide +kernel
theorem dX13_doMeet_84 : decode cX13_doMeet 84 = .ok (.iconst 1, 1) := by decide +kernel
theorem dX13_doMeet_85 : decode cX13_doMeet 85 = .ok (.goto 4, 3) := by decide +kernel
theorem dX13_doMeet_88 : decode cX13_doMeet 88 = .ok (.iconst 0, 1) := by decide +kernel
theorem dX13_doMeet_89 : decode cX13_doMeet 89 = .ok (.ireturn, 1) := by decide +kernel
theorem dX13_isCut_0 : decode cX13_isCut 0 = .ok (.aload_n 0, 1) := by decide +kernel
theorem dX13_isCut_1 : decode cX13_isCut 1 = .ok (.iload_n 1, 1) := by decide +kernel
theorem dX13_isCut_2 : decode cX13_isCut 2 = .ok (.invokevirtual 228, 3) := by decide +kernel
theorem dX13_isCut_5 : decode cX13_isCut 5 = .ok (.iconst (-1), 1) := by decide +kernel
theorem dX13_isCut_6 : decode cX13_isCut 6 = .ok (.if_icmp .eq 42, 3) := by decide +kernel
theorem dX13_isCut_9 : decode cX13_isCut 9 = .ok (.aload_n 0, 1) := by decide +kernel
theorem dX13_isCut_10 : decode cX13_isCut 10 = .ok (.iload_n 2, 1) := by decide +kernel
theorem dX13_isCut_11 : decode cX13_isCut 11 = .ok (.invokevirtual 222, 3) := by decide +kernel
theorem dX13_isCut_14 : decode cX13_isCut 14 = .ok (.ifCond .eq 34, 3) := by decide +kernel
theorem dX13_isCut_17 : decode cX13_isCut 17 = .ok (.aload_n 0, 1) := by decide +kernel
theorem dX13_isCut_18 : decode cX13_isCut 18 = .ok (.iload_n 1, 1) := by decide +kernel
theorem dX13_isCut_19 : decode cX13_isCut 19 = .ok (.invokevirtual 228, 3) := by decide +kernel
theorem dX13_isCut_22 : decode cX13_isCut 22 = .ok (.aload_n 0, 1) := by decide +kernel
theorem dX13_isCut_23 : decode cX13_isCut 23 = .ok (.getfield 77, 3) := by decide +kernel
theorem dX13_isCut_26 : decode cX13_isCut 26 = .ok (.iload_n 2, 1) := by decide +kernel
theorem dX13_isCut_27 : decode cX13_isCut 27 = .ok (.iaload, 1) := by decide +kernel
theorem dX13_isCut_28 : decode cX13_isCut 28 = .ok (.if_icmp .le 20, 3) := by decide +kernel
theorem dX13_isCut_31 : decode cX13_isCut 31 = .ok (.aload_n 0, 1) := by decide +kernel
theorem dX13_isCut_32 : decode cX13_isCut 32 = .ok (.iload_n 1, 1) := by decide +kernel
theorem dX13_isCut_33 : decode cX13_isCut 33 = .ok (.invokevirtual 228, 3) := by decide +kernel
theorem dX13_isCut_36 : decode cX13_isCut 36 = .ok (.aload_n 0, 1) := by decide +kernel
theorem dX13_isCut_37 : decode cX13_isCut 37 = .ok (.iload_n 2, 1) := by decide +kernel
theorem dX13_isCut_38 : decode cX13_isCut 38 = .ok (.invokevirtual 225, 3) := by decide +kernel
theorem dX13_isCut_41 : decode cX13_isCut 41 = .ok (.if_icmp .gt 7, 3) := by decide +kernel
theorem dX13_isCut_44 : decode cX13_isCut 44 = .ok (.iconst 1, 1) := by decide +kernel
theorem dX13_isCut_45 : decode cX13_isCut 45 = .ok (.goto 4, 3) := by decide +kernel
theorem dX13_isCut_48 : decode cX13_isCut 48 = .ok (.iconst 0, 1) := by decide +kernel
theorem dX13_isCut_49 : decode cX13_isCut 49 = .ok (.ireturn, 1) := by decide +kernel
theorem dX13_meet_0 : decode cX13_meet 0 = .ok (.aload_n 0, 1) := by decide +kernel
theorem dX13_meet_1 : decode cX13_meet 1 = .ok (.iload_n 1, 1) := by decide +kernel
theorem dX13_meet_2 : decode cX13_meet 2 = .ok (.invokevirtual 242, 3) := by decide +kernel
theorem dX13_meet_5 : decode cX13_meet 5 = .ok (.ifCond .eq 36, 3) := by decide +kernel
theorem dX13_meet_8 : decode cX13_meet 8 = .ok (.aload_n 0, 1) := by decide +kernel
theorem dX13_meet_9 : decode cX13_meet 9 = .ok (.iload_n 2, 1) := by decide +kernel
theorem dX13_meet_10 : decode cX13_meet 10 = .ok (.invokevirtual 242, 3) := by decide +kernel
theorem dX13_meet_13 : decode cX13_meet 13 = .ok (.ifCond .eq 28, 3) := by decide +kernel
theorem dX13_meet_16 : decode cX13_meet 16 = .ok (.iload_n 1, 1) := by decide +kernel
theorem dX13_meet_17 : decode cX13_meet 17 = .ok (.iload_n 2, 1) := by decide +kernel
theorem dX13_meet_18 : decode cX13_meet 18 = .ok (.if_icmp .eq 23, 3) := by decide +kernel
theorem dX13_meet_21 : decode cX13_meet 21 = .ok (.aload_n 0, 1) := by decide +kernel
theorem dX13_meet_22 : decode cX13_meet 22 = .ok (.getfield 70, 3) := by decide +kernel
theorem dX13_meet_25 : decode cX13_meet 25 = .ok (.iload_n 1, 1) := by decide +kernel
theorem dX13_meet_26 : decode cX13_meet 26 = .ok (.iaload, 1) := by decide +kernel
theorem dX13_meet_27 : decode cX13_meet 27 = .ok (.iconst 5, 1) := by decide +kernel
theorem dX13_meet_28 : decode cX13_meet 28 = .ok (.if_icmp .eq 13, 3) := by decide +kernel
theorem dX13_meet_31 : decode cX13_meet 31 = .ok (.aload_n 0, 1) := by decide +kernel
theorem dX13_meet_32 : decode cX13_meet 32 = .ok (.getfield 70, 3) := by decide +kernel
theorem dX13_meet_35 : decode cX13_meet 35 = .ok (.iload_n 2, 1) := by decide +kernel
theorem dX13_meet_36 : decode cX13_meet 36 = .ok (.iaload, 1) := by decide +kernel
theorem dX13_meet_37 : decode cX13_meet 37 = .ok (.iconst 5, 1) := by decide +kernel
theorem dX13_meet_38 : decode cX13_meet 38 = .ok (.if_icmp .ne 8, 3) := by decide +kernel
theorem dX13_meet_41 : decode cX13_meet 41 = .ok (.bipush (-2), 2) := by decide +kernel
theorem dX13_meet_43 : decode cX13_meet 43 = .ok (.goto 17, 3) := by decide +kernel
theorem dX13_meet_46 : decode cX13_meet 46 = .ok (.aload_n 0, 1) := by decide +kernel
theorem dX13_meet_47 : decode cX13_meet 47 = .ok (.iload_n 1, 1) := by decide +kernel
theorem dX13_meet_48 : decode cX13_meet 48 = .ok (.iload_n 2, 1) := by decide +kernel
theorem dX13_meet_49 : decode cX13_meet 49 = .ok (.invokevirtual 245, 3) := by decide +kernel
theorem dX13_meet_52 : decode cX13_meet 52 = .ok (.ifCond .eq 7, 3) := by decide +kernel
theorem dX13_meet_55 : decode cX13_meet 55 = .ok (.iconst 1, 1) := by decide +kernel
theorem dX13_meet_56 : decode cX13_meet 56 = .ok (.goto 4, 3) := by decide +kernel
theorem dX13_meet_59 : decode cX13_meet 59 = .ok (.iconst 0, 1) := by decide +kernel
theorem dX13_meet_60 : decode cX13_meet 60 = .ok (.ireturn, 1) := by decide +kernel
theorem dX13_within_0 : decode cX13_within 0 = .ok (.aload_n 0, 1) := by decide +kernel
theorem dX13_within_1 : decode cX13_within 1 = .ok (.iload_n 1, 1) := by decide +kernel
theorem dX13_within_2 : decode cX13_within 2 = .ok (.invokevirtual 242, 3) := by decide +kernel
theorem dX13_within_5 : decode cX13_within 5 = .ok (.ifCond .eq 36, 3) := by decide +kernel
theorem dX13_within_8 : decode cX13_within 8 = .ok (.aload_n 0, 1) := by decide +kernel
theorem dX13_within_9 : decode cX13_within 9 = .ok (.iload_n 2, 1) := by decide +kernel
theorem dX13_within_10 : decode cX13_within 10 = .ok (.invokevirtual 242, 3) := by decide +kernel
theorem dX13_within_13 : decode cX13_within 13 = .ok (.ifCond .eq 28, 3) := by decide +kernel
theorem dX13_within_16 : decode cX13_within 16 = .ok (.iload_n 1, 1) := by decide +kernel
theorem dX13_within_17 : decode cX13_within 17 = .ok (.iload_n 2, 1) := by decide +kernel
theorem dX13_within_18 : decode cX13_within 18 = .ok (.if_icmp .eq 23, 3) := by decide +kernel
theorem dX13_within_21 : decode cX13_within 21 = .ok (.aload_n 0, 1) := by decide +kernel
theorem dX13_within_22 : decode cX13_within 22 = .ok (.getfield 70, 3) := by decide +kernel
theorem dX13_within_25 : decode cX13_within 25 = .ok (.iload_n 1, 1) := by decide +kernel
theorem dX13_within_26 : decode cX13_within 26 = .ok (.iaload, 1) := by decide +kernel
theorem dX13_within_27 : decode cX13_within 27 = .ok (.iconst 5, 1) := by decide +kernel
theorem dX13_within_28 : decode cX13_within 28 = .ok (.if_icmp .eq 13, 3) := by decide +kernel
theorem dX13_within_31 : decode cX13_within 31 = .ok (.aload_n 0, 1) := by decide +kernel
theorem dX13_within_32 : decode cX13_within 32 = .ok (.getfield 70, 3) := by decide +kernel
theorem dX13_within_35 : decode cX13_within 35 = .ok (.iload_n 2, 1) := by decide +kernel
theorem dX13_within_36 : decode cX13_within 36 = .ok (.iaload, 1) := by decide +kernel
theorem dX13_within_37 : decode cX13_within 37 = .ok (.iconst 5, 1) := by decide +kernel
theorem dX13_within_38 : decode cX13_within 38 = .ok (.if_icmp .ne 8, 3) := by decide +kernel
theorem dX13_within_41 : decode cX13_within 41 = .ok (.bipush (-2), 2) := by decide +kernel
theorem dX13_within_43 : decode cX13_within 43 = .ok (.goto 17, 3) := by decide +kernel
theorem dX13_within_46 : decode cX13_within 46 = .ok (.aload_n 0, 1) := by decide +kernel
theorem dX13_within_47 : decode cX13_within 47 = .ok (.iload_n 1, 1) := by decide +kernel
theorem dX13_within_48 : decode cX13_within 48 = .ok (.iload_n 2, 1) := by decide +kernel
theorem dX13_within_49 : decode cX13_within 49 = .ok (.invokevirtual 235, 3) := by decide +kernel
theorem dX13_within_52 : decode cX13_within 52 = .ok (.ifCond .eq 7, 3) := by decide +kernel
theorem dX13_within_55 : decode cX13_within 55 = .ok (.iconst 1, 1) := by decide +kernel
theorem dX13_within_56 : decode cX13_within 56 = .ok (.goto 4, 3) := by decide +kernel
theorem dX13_within_59 : decode cX13_within 59 = .ok (.iconst 0, 1) := by decide +kernel
theorem dX13_within_60 : decode cX13_within 60 = .ok (.ireturn, 1) := by decide +kernel
theorem dX13_judge_0 : decode cX13_judge 0 = .ok (.iconst 0, 1) := by decide +kernel
theorem dX13_judge_1 : decode cX13_judge 1 = .ok (.istore_n 1, 1) := by decide +kernel
theorem dX13_judge_2 : decode cX13_judge 2 = .ok (.iload_n 1, 1) := by decide +kernel
theorem dX13_judge_3 : decode cX13_judge 3 = .ok (.aload_n 0, 1) := by decide +kernel
theorem dX13_judge_4 : decode cX13_judge 4 = .ok (.getfield 153, 3) := by decide +kernel
theorem dX13_judge_7 : decode cX13_judge 7 = .ok (.if_icmp .ge 137, 3) := by decide +kernel
theorem dX13_judge_10 : decode cX13_judge 10 = .ok (.aload_n 0, 1) := by decide +kernel
theorem dX13_judge_11 : decode cX13_judge 11 = .ok (.getfield 114, 3) := by decide +kernel
theorem dX13_judge_14 : decode cX13_judge 14 = .ok (.iload_n 1, 1) := by decide +kernel
theorem dX13_judge_15 : decode cX13_judge 15 = .ok (.iconst (-1), 1) := by decide +kernel
theorem dX13_judge_16 : decode cX13_judge 16 = .ok (.iastore, 1) := by decide +kernel
theorem dX13_judge_17 : decode cX13_judge 17 = .ok (.aload_n 0, 1) := by decide +kernel
theorem dX13_judge_18 : decode cX13_judge 18 = .ok (.getfield 153, 3) := by decide +kernel
theorem dX13_judge_21 : decode cX13_judge 21 = .ok (.iconst 1, 1) := by decide +kernel
theorem dX13_judge_22 : decode cX13_judge 22 = .ok (.isub, 1) := by decide +kernel
theorem dX13_judge_23 : decode cX13_judge 23 = .ok (.istore_n 2, 1) := by decide +kernel
theorem dX13_judge_24 : decode cX13_judge 24 = .ok (.iload_n 2, 1) := by decide +kernel
theorem dX13_judge_25 : decode cX13_judge 25 = .ok (.iload_n 1, 1) := by decide +kernel
theorem dX13_judge_26 : decode cX13_judge 26 = .ok (.if_icmp .le 36, 3) := by decide +kernel
theorem dX13_judge_29 : decode cX13_judge 29 = .ok (.aload_n 0, 1) := by decide +kernel
theorem dX13_judge_30 : decode cX13_judge 30 = .ok (.getfield 70, 3) := by decide +kernel
theorem dX13_judge_33 : decode cX13_judge 33 = .ok (.iload_n 2, 1) := by decide +kernel
theorem dX13_judge_34 : decode cX13_judge 34 = .ok (.iaload, 1) := by decide +kernel
theorem dX13_judge_35 : decode cX13_judge 35 = .ok (.iconst 5, 1) := by decide +kernel
theorem dX13_judge_36 : decode cX13_judge 36 = .ok (.if_icmp .ne 20, 3) := by decide +kernel
theorem dX13_judge_39 : decode cX13_judge 39 = .ok (.aload_n 0, 1) := by decide +kernel
theorem dX13_judge_40 : decode cX13_judge 40 = .ok (.getfield 77, 3) := by decide +kernel
theorem dX13_judge_43 : decode cX13_judge 43 = .ok (.iload_n 2, 1) := by decide +kernel
theorem dX13_judge_44 : decode cX13_judge 44 = .ok (.iaload, 1) := by decide +kernel
theorem dX13_judge_45 : decode cX13_judge 45 = .ok (.iload_n 1, 1) := by decide +kernel
theorem dX13_judge_46 : decode cX13_judge 46 = .ok (.if_icmp .ne 10, 3) := by decide +kernel
theorem dX13_judge_49 : decode cX13_judge 49 = .ok (.aload_n 0, 1) := by decide +kernel
theorem dX13_judge_50 : decode cX13_judge 50 = .ok (.getfield 114, 3) := by decide +kernel
theorem dX13_judge_53 : decode cX13_judge 53 = .ok (.iload_n 1, 1) := by decide +kernel
theorem dX13_judge_54 : decode cX13_judge 54 = .ok (.iload_n 2, 1) := by decide +kernel
theorem dX13_judge_55 : decode cX13_judge 55 = .ok (.iastore, 1) := by decide +kernel
theorem dX13_judge_56 : decode cX13_judge 56 = .ok (.iinc 2 (-1), 3) := by decide +kernel
theorem dX13_judge_59 : decode cX13_judge 59 = .ok (.goto (-35), 3) := by decide +kernel
theorem dX13_judge_62 : decode cX13_judge 62 = .ok (.aload_n 0, 1) := by decide +kernel
theorem dX13_judge_63 : decode cX13_judge 63 = .ok (.getfield 111, 3) := by decide +kernel
theorem dX13_judge_66 : decode cX13_judge 66 = .ok (.iload_n 1, 1) := by decide +kernel
theorem dX13_judge_67 : decode cX13_judge 67 = .ok (.aload_n 0, 1) := by decide +kernel
theorem dX13_judge_68 : decode cX13_judge 68 = .ok (.getfield 70, 3) := by decide +kernel
theorem dX13_judge_71 : decode cX13_judge 71 = .ok (.iload_n 1, 1) := by decide +kernel
theorem dX13_judge_72 : decode cX13_judge 72 = .ok (.iaload, 1) := by decide +kernel
theorem dX13_judge_73 : decode cX13_judge 73 = .ok (.iconst 5, 1) := by decide +kernel
theorem dX13_judge_74 : decode cX13_judge 74 = .ok (.if_icmp .ne 7, 3) := by decide +kernel
theorem dX13_judge_77 : decode cX13_judge 77 = .ok (.iconst 4, 1) := by decide +kernel
theorem dX13_judge_78 : decode cX13_judge 78 = .ok (.goto 59, 3) := by decide +kernel
theorem dX13_judge_81 : decode cX13_judge 81 = .ok (.aload_n 0, 1) := by decide +kernel
theorem dX13_judge_82 : decode cX13_judge 82 = .ok (.getfield 114, 3) := by decide +kernel
theorem dX13_judge_85 : decode cX13_judge 85 = .ok (.iload_n 1, 1) := by decide +kernel
theorem dX13_judge_86 : decode cX13_judge 86 = .ok (.iaload, 1) := by decide +kernel
theorem dX13_judge_87 : decode cX13_judge 87 = .ok (.iconst (-1), 1) := by decide +kernel
theorem dX13_judge_88 : decode cX13_judge 88 = .ok (.if_icmp .ne 22, 3) := by decide +kernel
theorem dX13_judge_91 : decode cX13_judge 91 = .ok (.aload_n 0, 1) := by decide +kernel
theorem dX13_judge_92 : decode cX13_judge 92 = .ok (.getfield 95, 3) := by decide +kernel
theorem dX13_judge_95 : decode cX13_judge 95 = .ok (.iload_n 1, 1) := by decide +kernel
theorem dX13_judge_96 : decode cX13_judge 96 = .ok (.baload, 1) := by decide +kernel
theorem dX13_judge_97 : decode cX13_judge 97 = .ok (.ifCond .eq 17, 3) := by decide +kernel
theorem dX13_judge_100 : decode cX13_judge 100 = .ok (.aload_n 0, 1) := by decide +kernel
theorem dX13_judge_101 : decode cX13_judge 101 = .ok (.getfield 89, 3) := by decide +kernel
theorem dX13_judge_104 : decode cX13_judge 104 = .ok (.iload_n 1, 1) := by decide +kernel
theorem dX13_judge_105 : decode cX13_judge 105 = .ok (.iaload, 1) := by decide +kernel
theorem dX13_judge_106 : decode cX13_judge 106 = .ok (.iconst 2, 1) := by decide +kernel
theorem dX13_judge_107 : decode cX13_judge 107 = .ok (.if_icmp .ne 7, 3) := by decide +kernel
theorem dX13_judge_110 : decode cX13_judge 110 = .ok (.iconst 2, 1) := by decide +kernel
theorem dX13_judge_111 : decode cX13_judge 111 = .ok (.goto 26, 3) := by decide +kernel
theorem dX13_judge_114 : decode cX13_judge 114 = .ok (.aload_n 0, 1) := by decide +kernel
theorem dX13_judge_115 : decode cX13_judge 115 = .ok (.getfield 95, 3) := by decide +kernel
theorem dX13_judge_118 : decode cX13_judge 118 = .ok (.iload_n 1, 1) := by decide +kernel
theorem dX13_judge_119 : decode cX13_judge 119 = .ok (.baload, 1) := by decide +kernel
theorem dX13_judge_120 : decode cX13_judge 120 = .ok (.ifCond .eq 16, 3) := by decide +kernel
theorem dX13_judge_123 : decode cX13_judge 123 = .ok (.aload_n 0, 1) := by decide +kernel
theorem dX13_judge_124 : decode cX13_judge 124 = .ok (.getfield 89, 3) := by decide +kernel
theorem dX13_judge_127 : decode cX13_judge 127 = .ok (.iload_n 1, 1) := by decide +kernel
theorem dX13_judge_128 : decode cX13_judge 128 = .ok (.iaload, 1) := by decide +kernel
theorem dX13_judge_129 : decode cX13_judge 129 = .ok (.ifCond .ne 7, 3) := by decide +kernel
theorem dX13_judge_132 : decode cX13_judge 132 = .ok (.iconst 3, 1) := by decide +kernel
theorem dX13_judge_133 : decode cX13_judge 133 = .ok (.goto 4, 3) := by decide +kernel
theorem dX13_judge_136 : decode cX13_judge 136 = .ok (.iconst 1, 1) := by decide +kernel
theorem dX13_judge_137 : decode cX13_judge 137 = .ok (.iastore, 1) := by decide +kernel
theorem dX13_judge_138 : decode cX13_judge 138 = .ok (.iinc 1 1, 3) := by decide +kernel
theorem dX13_judge_141 : decode cX13_judge 141 = .ok (.goto (-139), 3) := by decide +kernel
theorem dX13_judge_144 : decode cX13_judge 144 = .ok (.iconst 0, 1) := by decide +kernel
theorem dX13_judge_145 : decode cX13_judge 145 = .ok (.istore_n 1, 1) := by decide +kernel
theorem dX13_judge_146 : decode cX13_judge 146 = .ok (.iload_n 1, 1) := by decide +kernel
theorem dX13_judge_147 : decode cX13_judge 147 = .ok (.bipush 10, 2) := by decide +kernel
theorem dX13_judge_149 : decode cX13_judge 149 = .ok (.if_icmp .ge 55, 3) := by decide +kernel
theorem dX13_judge_152 : decode cX13_judge 152 = .ok (.iconst 0, 1) := by decide +kernel
theorem dX13_judge_153 : decode cX13_judge 153 = .ok (.istore_n 2, 1) := by decide +kernel
theorem dX13_judge_154 : decode cX13_judge 154 = .ok (.iload_n 2, 1) := by decide +kernel
theorem dX13_judge_155 : decode cX13_judge 155 = .ok (.aload_n 0, 1) := by decide +kernel
theorem dX13_judge_156 : decode cX13_judge 156 = .ok (.getfield 153, 3) := by decide +kernel
theorem dX13_judge_159 : decode cX13_judge 159 = .ok (.if_icmp .ge 39, 3) := by decide +kernel
theorem dX13_judge_162 : decode cX13_judge 162 = .ok (.aload_n 0, 1) := by decide +kernel
theorem dX13_judge_163 : decode cX13_judge 163 = .ok (.getfield 111, 3) := by decide +kernel
theorem dX13_judge_166 : decode cX13_judge 166 = .ok (.iload_n 2, 1) := by decide +kernel
theorem dX13_judge_167 : decode cX13_judge 167 = .ok (.iaload, 1) := by decide +kernel
theorem dX13_judge_168 : decode cX13_judge 168 = .ok (.iconst 1, 1) := by decide +kernel
theorem dX13_judge_169 : decode cX13_judge 169 = .ok (.if_icmp .ne 23, 3) := by decide +kernel
theorem dX13_judge_172 : decode cX13_judge 172 = .ok (.aload_n 0, 1) := by decide +kernel
theorem dX13_judge_173 : decode cX13_judge 173 = .ok (.getfield 102, 3) := by decide +kernel
theorem dX13_judge_176 : decode cX13_judge 176 = .ok (.aload_n 0, 1) := by decide +kernel
theorem dX13_judge_177 : decode cX13_judge 177 = .ok (.getfield 74, 3) := by decide +kernel
theorem dX13_judge_180 : decode cX13_judge 180 = .ok (.iload_n 2, 1) := by decide +kernel
theorem dX13_judge_181 : decode cX13_judge 181 = .ok (.iaload, 1) := by decide +kernel
theorem dX13_judge_182 : decode cX13_judge 182 = .ok (.iaload, 1) := by decide +kernel
theorem dX13_judge_183 : decode cX13_judge 183 = .ok (.iload_n 1, 1) := by decide +kernel
theorem dX13_judge_184 : decode cX13_judge 184 = .ok (.if_icmp .ne 8, 3) := by decide +kernel
theorem dX13_judge_187 : decode cX13_judge 187 = .ok (.aload_n 0, 1) := by decide +kernel
theorem dX13_judge_188 : decode cX13_judge 188 = .ok (.iload_n 2, 1) := by decide +kernel
theorem dX13_judge_189 : decode cX13_judge 189 = .ok (.invokevirtual 248, 3) := by decide +kernel
theorem dX13_judge_192 : decode cX13_judge 192 = .ok (.iinc 2 1, 3) := by decide +kernel
theorem dX13_judge_195 : decode cX13_judge 195 = .ok (.goto (-41), 3) := by decide +kernel
theorem dX13_judge_198 : decode cX13_judge 198 = .ok (.iinc 1 1, 3) := by decide +kernel
theorem dX13_judge_201 : decode cX13_judge 201 = .ok (.goto (-55), 3) := by decide +kernel
theorem dX13_judge_204 : decode cX13_judge 204 = .ok (.return_, 1) := by decide +kernel
theorem dX13_judgeOne_0 : decode cX13_judgeOne 0 = .ok (.iconst 0, 1) := by decide +kernel
theorem dX13_judgeOne_1 : decode cX13_judgeOne 1 = .ok (.istore_n 2, 1) := by decide +kernel
theorem dX13_judgeOne_2 : decode cX13_judgeOne 2 = .ok (.iload_n 2, 1) := by decide +kernel
theorem dX13_judgeOne_3 : decode cX13_judgeOne 3 = .ok (.aload_n 0, 1) := by decide +kernel
theorem dX13_judgeOne_4 : decode cX13_judgeOne 4 = .ok (.getfield 153, 3) := by decide +kernel
theorem dX13_judgeOne_7 : decode cX13_judgeOne 7 = .ok (.if_icmp .ge 44, 3) := by decide +kernel
theorem dX13_judgeOne_10 : decode cX13_judgeOne 10 = .ok (.aload_n 0, 1) := by decide +kernel
theorem dX13_judgeOne_11 : decode cX13_judgeOne 11 = .ok (.getfield 114, 3) := by decide +kernel
theorem dX13_judgeOne_14 : decode cX13_judgeOne 14 = .ok (.iload_n 1, 1) := by decide +kernel
theorem dX13_judgeOne_15 : decode cX13_judgeOne 15 = .ok (.iaload, 1) := by decide +kernel
theorem dX13_judgeOne_16 : decode cX13_judgeOne 16 = .ok (.iconst (-1), 1) := by decide +kernel
theorem dX13_judgeOne_17 : decode cX13_judgeOne 17 = .ok (.if_icmp .ne 34, 3) := by decide +kernel
theorem dX13_judgeOne_20 : decode cX13_judgeOne 20 = .ok (.aload_n 0, 1) := by decide +kernel
theorem dX13_judgeOne_21 : decode cX13_judgeOne 21 = .ok (.getfield 111, 3) := by decide +kernel
theorem dX13_judgeOne_24 : decode cX13_judgeOne 24 = .ok (.iload_n 2, 1) := by decide +kernel
theorem dX13_judgeOne_25 : decode cX13_judgeOne 25 = .ok (.iaload, 1) := by decide +kernel
theorem dX13_judgeOne_26 : decode cX13_judgeOne 26 = .ok (.ifCond .ne 19, 3) := by decide +kernel
theorem dX13_judgeOne_29 : decode cX13_judgeOne 29 = .ok (.aload_n 0, 1) := by decide +kernel
theorem dX13_judgeOne_30 : decode cX13_judgeOne 30 = .ok (.iload_n 1, 1) := by decide +kernel
theorem dX13_judgeOne_31 : decode cX13_judgeOne 31 = .ok (.iload_n 2, 1) := by decide +kernel
theorem dX13_judgeOne_32 : decode cX13_judgeOne 32 = .ok (.invokevirtual 245, 3) := by decide +kernel
theorem dX13_judgeOne_35 : decode cX13_judgeOne 35 = .ok (.ifCond .eq 10, 3) := by decide +kernel
theorem dX13_judgeOne_38 : decode cX13_judgeOne 38 = .ok (.aload_n 0, 1) := by decide +kernel
theorem dX13_judgeOne_39 : decode cX13_judgeOne 39 = .ok (.getfield 114, 3) := by decide +kernel
theorem dX13_judgeOne_42 : decode cX13_judgeOne 42 = .ok (.iload_n 1, 1) := by decide +kernel
theorem dX13_judgeOne_43 : decode cX13_judgeOne 43 = .ok (.iload_n 2, 1) := by decide +kernel
theorem dX13_judgeOne_44 : decode cX13_judgeOne 44 = .ok (.iastore, 1) := by decide +kernel
theorem dX13_judgeOne_45 : decode cX13_judgeOne 45 = .ok (.iinc 2 1, 3) := by decide +kernel
theorem dX13_judgeOne_48 : decode cX13_judgeOne 48 = .ok (.goto (-46), 3) := by decide +kernel
theorem dX13_judgeOne_51 : decode cX13_judgeOne 51 = .ok (.aload_n 0, 1) := by decide +kernel
theorem dX13_judgeOne_52 : decode cX13_judgeOne 52 = .ok (.getfield 114, 3) := by decide +kernel
theorem dX13_judgeOne_55 : decode cX13_judgeOne 55 = .ok (.iload_n 1, 1) := by decide +kernel
theorem dX13_judgeOne_56 : decode cX13_judgeOne 56 = .ok (.iaload, 1) := by decide +kernel
theorem dX13_judgeOne_57 : decode cX13_judgeOne 57 = .ok (.iconst (-1), 1) := by decide +kernel
theorem dX13_judgeOne_58 : decode cX13_judgeOne 58 = .ok (.if_icmp .ne 10, 3) := by decide +kernel
theorem dX13_judgeOne_61 : decode cX13_judgeOne 61 = .ok (.aload_n 0, 1) := by decide +kernel
theorem dX13_judgeOne_62 : decode cX13_judgeOne 62 = .ok (.getfield 111, 3) := by decide +kernel
theorem dX13_judgeOne_65 : decode cX13_judgeOne 65 = .ok (.iload_n 1, 1) := by decide +kernel
theorem dX13_judgeOne_66 : decode cX13_judgeOne 66 = .ok (.iconst 0, 1) := by decide +kernel
theorem dX13_judgeOne_67 : decode cX13_judgeOne 67 = .ok (.iastore, 1) := by decide +kernel
theorem dX13_judgeOne_68 : decode cX13_judgeOne 68 = .ok (.return_, 1) := by decide +kernel
theorem dX13_mark_0 : decode cX13_mark 0 = .ok (.aload_n 0, 1) := by decide +kernel
theorem dX13_mark_1 : decode cX13_mark 1 = .ok (.iload_n 1, 1) := by decide +kernel
theorem dX13_mark_2 : decode cX13_mark 2 = .ok (.invokevirtual 242, 3) := by decide +kernel
theorem dX13_mark_5 : decode cX13_mark 5 = .ok (.ifCond .ne 6, 3) := by decide +kernel
theorem dX13_mark_8 : decode cX13_mark 8 = .ok (.bipush (-9), 2) := by decide +kernel
theorem dX13_mark_10 : decode cX13_mark 10 = .ok (.ireturn, 1) := by decide +kernel
theorem dX13_mark_11 : decode cX13_mark 11 = .ok (.iload_n 2, 1) := by decide +kernel
theorem dX13_mark_12 : decode cX13_mark 12 = .ok (.i2l, 1) := by decide +kernel
theorem dX13_mark_13 : decode cX13_mark 13 = .ok (.ldc2_w 251, 3) := by decide +kernel
theorem dX13_mark_16 : decode cX13_mark 16 = .ok (.ldc2_w 253, 3) := by decide +kernel
theorem dX13_mark_19 : decode cX13_mark 19 = .ok (.aload_n 0, 1) := by decide +kernel
theorem dX13_mark_20 : decode cX13_mark 20 = .ok (.getfield 86, 3) := by decide +kernel
theorem dX13_mark_23 : decode cX13_mark 23 = .ok (.iload_n 1, 1) := by decide +kernel
theorem dX13_mark_24 : decode cX13_mark 24 = .ok (.iaload, 1) := by decide +kernel
theorem dX13_mark_25 : decode cX13_mark 25 = .ok (.i2l, 1) := by decide +kernel
theorem dX13_mark_26 : decode cX13_mark 26 = .ok (.ladd, 1) := by decide +kernel
theorem dX13_mark_27 : decode cX13_mark 27 = .ok (.invokestatic 140, 3) := by decide +kernel
theorem dX13_mark_30 : decode cX13_mark 30 = .ok (.ifCond .eq 19, 3) := by decide +kernel
theorem dX13_mark_33 : decode cX13_mark 33 = .ok (.aload_n 0, 1) := by decide +kernel
theorem dX13_mark_34 : decode cX13_mark 34 = .ok (.getfield 92, 3) := by decide +kernel
theorem dX13_mark_37 : decode cX13_mark 37 = .ok (.bipush 6, 2) := by decide +kernel
theorem dX13_mark_39 : decode cX13_mark 39 = .ok (.iload_n 1, 1) := by decide +kernel
theorem dX13_mark_40 : decode cX13_mark 40 = .ok (.imul, 1) := by decide +kernel
theorem dX13_mark_41 : decode cX13_mark 41 = .ok (.iload_n 2, 1) := by decide +kernel
theorem dX13_mark_42 : decode cX13_mark 42 = .ok (.iadd, 1) := by decide +kernel
theorem dX13_mark_43 : decode cX13_mark 43 = .ok (.bipush 10, 2) := by decide +kernel
theorem dX13_mark_45 : decode cX13_mark 45 = .ok (.isub, 1) := by decide +kernel
theorem dX13_mark_46 : decode cX13_mark 46 = .ok (.laload, 1) := by decide +kernel
theorem dX13_mark_47 : decode cX13_mark 47 = .ok (.l2i, 1) := by decide +kernel
theorem dX13_mark_48 : decode cX13_mark 48 = .ok (.ireturn, 1) := by decide +kernel
theorem dX13_mark_49 : decode cX13_mark 49 = .ok (.aload_n 0, 1) := by decide +kernel
theorem dX13_mark_50 : decode cX13_mark 50 = .ok (.invokevirtual 255, 3) := by decide +kernel
theorem dX13_mark_53 : decode cX13_mark 53 = .ok (.iload_n 2, 1) := by decide +kernel
theorem dX13_mark_54 : decode cX13_mark 54 = .ok (.tableswitch 121 0 8 #[50, 57, 64, 71, 78, 85, 92, 99, 106], 50) := by decide +kernel
theorem dX13_mark_104 : decode cX13_mark 104 = .ok (.aload_n 0, 1) := by decide +kernel
theorem dX13_mark_105 : decode cX13_mark 105 = .ok (.getfield 70, 3) := by decide +kernel
theorem dX13_mark_108 : decode cX13_mark 108 = .ok (.iload_n 1, 1) := by decide +kernel
theorem dX13_mark_109 : decode cX13_mark 109 = .ok (.iaload, 1) := by decide +kernel
theorem dX13_mark_110 : decode cX13_mark 110 = .ok (.ireturn, 1) := by decide +kernel
theorem dX13_mark_111 : decode cX13_mark 111 = .ok (.aload_n 0, 1) := by decide +kernel
theorem dX13_mark_112 : decode cX13_mark 112 = .ok (.getfield 74, 3) := by decide +kernel
theorem dX13_mark_115 : decode cX13_mark 115 = .ok (.iload_n 1, 1) := by decide +kernel
theorem dX13_mark_116 : decode cX13_mark 116 = .ok (.iaload, 1) := by decide +kernel
theorem dX13_mark_117 : decode cX13_mark 117 = .ok (.ireturn, 1) := by decide +kernel
theorem dX13_mark_118 : decode cX13_mark 118 = .ok (.aload_n 0, 1) := by decide +kernel
theorem dX13_mark_119 : decode cX13_mark 119 = .ok (.getfield 77, 3) := by decide +kernel
theorem dX13_mark_122 : decode cX13_mark 122 = .ok (.iload_n 1, 1) := by decide +kernel
theorem dX13_mark_123 : decode cX13_mark 123 = .ok (.iaload, 1) := by decide +kernel
theorem dX13_mark_124 : decode cX13_mark 124 = .ok (.ireturn, 1) := by decide +kernel
theorem dX13_mark_125 : decode cX13_mark 125 = .ok (.aload_n 0, 1) := by decide +kernel
theorem dX13_mark_126 : decode cX13_mark 126 = .ok (.getfield 80, 3) := by decide +kernel
theorem dX13_mark_129 : decode cX13_mark 129 = .ok (.iload_n 1, 1) := by decide +kernel
theorem dX13_mark_130 : decode cX13_mark 130 = .ok (.iaload, 1) := by decide +kernel
theorem dX13_mark_131 : decode cX13_mark 131 = .ok (.ireturn, 1) := by decide +kernel
theorem dX13_mark_132 : decode cX13_mark 132 = .ok (.aload_n 0, 1) := by decide +kernel
theorem dX13_mark_133 : decode cX13_mark 133 = .ok (.getfield 83, 3) := by decide +kernel
theorem dX13_mark_136 : decode cX13_mark 136 = .ok (.iload_n 1, 1) := by decide +kernel
theorem dX13_mark_137 : decode cX13_mark 137 = .ok (.iaload, 1) := by decide +kernel
theorem dX13_mark_138 : decode cX13_mark 138 = .ok (.ireturn, 1) := by decide +kernel
theorem dX13_mark_139 : decode cX13_mark 139 = .ok (.aload_n 0, 1) := by decide +kernel
theorem dX13_mark_140 : decode cX13_mark 140 = .ok (.getfield 86, 3) := by decide +kernel
theorem dX13_mark_143 : decode cX13_mark 143 = .ok (.iload_n 1, 1) := by decide +kernel
theorem dX13_mark_144 : decode cX13_mark 144 = .ok (.iaload, 1) := by decide +kernel
theorem dX13_mark_145 : decode cX13_mark 145 = .ok (.ireturn, 1) := by decide +kernel
theorem dX13_mark_146 : decode cX13_mark 146 = .ok (.aload_n 0, 1) := by decide +kernel
theorem dX13_mark_147 : decode cX13_mark 147 = .ok (.getfield 111, 3) := by decide +kernel
theorem dX13_mark_150 : decode cX13_mark 150 = .ok (.iload_n 1, 1) := by decide +kernel
theorem dX13_mark_151 : decode cX13_mark 151 = .ok (.iaload, 1) := by decide +kernel
theorem dX13_mark_152 : decode cX13_mark 152 = .ok (.ireturn, 1) := by decide +kernel
theorem dX13_mark_153 : decode cX13_mark 153 = .ok (.aload_n 0, 1) := by decide +kernel
theorem dX13_mark_154 : decode cX13_mark 154 = .ok (.getfield 114, 3) := by decide +kernel
theorem dX13_mark_157 : decode cX13_mark 157 = .ok (.iload_n 1, 1) := by decide +kernel
theorem dX13_mark_158 : decode cX13_mark 158 = .ok (.iaload, 1) := by decide +kernel
theorem dX13_mark_159 : decode cX13_mark 159 = .ok (.ireturn, 1) := by decide +kernel
theorem dX13_mark_160 : decode cX13_mark 160 = .ok (.aload_n 0, 1) := by decide +kernel
theorem dX13_mark_161 : decode cX13_mark 161 = .ok (.getfield 99, 3) := by decide +kernel
theorem dX13_mark_164 : decode cX13_mark 164 = .ok (.iload_n 1, 1) := by decide +kernel
theorem dX13_mark_165 : decode cX13_mark 165 = .ok (.baload, 1) := by decide +kernel
theorem dX13_mark_166 : decode cX13_mark 166 = .ok (.ifCond .eq 7, 3) := by decide +kernel
theorem dX13_mark_169 : decode cX13_mark 169 = .ok (.iconst 1, 1) := by decide +kernel
theorem dX13_mark_170 : decode cX13_mark 170 = .ok (.goto 4, 3) := by decide +kernel
theorem dX13_mark_173 : decode cX13_mark 173 = .ok (.iconst 0, 1) := by decide +kernel
theorem dX13_mark_174 : decode cX13_mark 174 = .ok (.ireturn, 1) := by decide +kernel
theorem dX13_mark_175 : decode cX13_mark 175 = .ok (.bipush (-9), 2) := by decide +kernel
theorem dX13_mark_177 : decode cX13_mark 177 = .ok (.ireturn, 1) := by decide +kernel
theorem dX13_answer_0 : decode cX13_answer 0 = .ok (.aload_n 0, 1) := by decide +kernel
theorem dX13_answer_1 : decode cX13_answer 1 = .ok (.iload_n 1, 1) := by decide +kernel
theorem dX13_answer_2 : decode cX13_answer 2 = .ok (.invokevirtual 242, 3) := by decide +kernel
theorem dX13_answer_5 : decode cX13_answer 5 = .ok (.ifCond .ne 6, 3) := by decide +kernel
theorem dX13_answer_8 : decode cX13_answer 8 = .ok (.bipush (-2), 2) := by decide +kernel
theorem dX13_answer_10 : decode cX13_answer 10 = .ok (.ireturn, 1) := by decide +kernel
theorem dX13_answer_11 : decode cX13_answer 11 = .ok (.aload_n 0, 1) := by decide +kernel
theorem dX13_answer_12 : decode cX13_answer 12 = .ok (.invokevirtual 255, 3) := by decide +kernel
theorem dX13_answer_15 : decode cX13_answer 15 = .ok (.aload_n 0, 1) := by decide +kernel
theorem dX13_answer_16 : decode cX13_answer 16 = .ok (.getfield 111, 3) := by decide +kernel
theorem dX13_answer_19 : decode cX13_answer 19 = .ok (.iload_n 1, 1) := by decide +kernel
theorem dX13_answer_20 : decode cX13_answer 20 = .ok (.iaload, 1) := by decide +kernel
theorem dX13_answer_21 : decode cX13_answer 21 = .ok (.iconst 3, 1) := by decide +kernel
theorem dX13_answer_22 : decode cX13_answer 22 = .ok (.if_icmp .eq 6, 3) := by decide +kernel
theorem dX13_answer_25 : decode cX13_answer 25 = .ok (.bipush (-4), 2) := by decide +kernel
theorem dX13_answer_27 : decode cX13_answer 27 = .ok (.ireturn, 1) := by decide +kernel
theorem dX13_answer_28 : decode cX13_answer 28 = .ok (.aload_n 0, 1) := by decide +kernel
theorem dX13_answer_29 : decode cX13_answer 29 = .ok (.getfield 89, 3) := by decide +kernel
theorem dX13_answer_32 : decode cX13_answer 32 = .ok (.iload_n 1, 1) := by decide +kernel
theorem dX13_answer_33 : decode cX13_answer 33 = .ok (.iload_n 2, 1) := by decide +kernel
theorem dX13_answer_34 : decode cX13_answer 34 = .ok (.ifCond .eq 7, 3) := by decide +kernel
theorem dX13_answer_37 : decode cX13_answer 37 = .ok (.iconst 1, 1) := by decide +kernel
theorem dX13_answer_38 : decode cX13_answer 38 = .ok (.goto 4, 3) := by decide +kernel
theorem dX13_answer_41 : decode cX13_answer 41 = .ok (.iconst 2, 1) := by decide +kernel
theorem dX13_answer_42 : decode cX13_answer 42 = .ok (.iastore, 1) := by decide +kernel
theorem dX13_answer_43 : decode cX13_answer 43 = .ok (.iconst 1, 1) := by decide +kernel
theorem dX13_answer_44 : decode cX13_answer 44 = .ok (.ireturn, 1) := by decide +kernel
theorem dX13_rank_0 : decode cX13_rank 0 = .ok (.iload_n 1, 1) := by decide +kernel
theorem dX13_rank_1 : decode cX13_rank 1 = .ok (.i2l, 1) := by decide +kernel
theorem dX13_rank_2 : decode cX13_rank 2 = .ok (.lconst 0, 1) := by decide +kernel
theorem dX13_rank_3 : decode cX13_rank 3 = .ok (.ldc2_w 258, 3) := by decide +kernel
theorem dX13_rank_6 : decode cX13_rank 6 = .ok (.invokestatic 140, 3) := by decide +kernel
theorem dX13_rank_9 : decode cX13_rank 9 = .ok (.ifCond .eq 15, 3) := by decide +kernel
theorem dX13_rank_12 : decode cX13_rank 12 = .ok (.iload_n 2, 1) := by decide +kernel
theorem dX13_rank_13 : decode cX13_rank 13 = .ok (.i2l, 1) := by decide +kernel
theorem dX13_rank_14 : decode cX13_rank 14 = .ok (.lconst 0, 1) := by decide +kernel
theorem dX13_rank_15 : decode cX13_rank 15 = .ok (.ldc2_w 253, 3) := by decide +kernel
theorem dX13_rank_18 : decode cX13_rank 18 = .ok (.invokestatic 140, 3) := by decide +kernel
theorem dX13_rank_21 : decode cX13_rank 21 = .ok (.ifCond .ne 6, 3) := by decide +kernel
theorem dX13_rank_24 : decode cX13_rank 24 = .ok (.bipush (-2), 2) := by decide +kernel
theorem dX13_rank_26 : decode cX13_rank 26 = .ok (.ireturn, 1) := by decide +kernel
theorem dX13_rank_27 : decode cX13_rank 27 = .ok (.aload_n 0, 1) := by decide +kernel
theorem dX13_rank_28 : decode cX13_rank 28 = .ok (.getfield 102, 3) := by decide +kernel
theorem dX13_rank_31 : decode cX13_rank 31 = .ok (.iload_n 1, 1) := by decide +kernel
theorem dX13_rank_32 : decode cX13_rank 32 = .ok (.iaload, 1) := by decide +kernel
theorem dX13_rank_33 : decode cX13_rank 33 = .ok (.istore_n 3, 1) := by decide +kernel
theorem dX13_rank_34 : decode cX13_rank 34 = .ok (.aload_n 0, 1) := by decide +kernel
theorem dX13_rank_35 : decode cX13_rank 35 = .ok (.getfield 102, 3) := by decide +kernel
theorem dX13_rank_38 : decode cX13_rank 38 = .ok (.iload_n 1, 1) := by decide +kernel
theorem dX13_rank_39 : decode cX13_rank 39 = .ok (.iload_n 2, 1) := by decide +kernel
theorem dX13_rank_40 : decode cX13_rank 40 = .ok (.iastore, 1) := by decide +kernel
theorem dX13_rank_41 : decode cX13_rank 41 = .ok (.iload_n 3, 1) := by decide +kernel
theorem dX13_rank_42 : decode cX13_rank 42 = .ok (.ireturn, 1) := by decide +kernel
theorem dX13_use_0 : decode cX13_use 0 = .ok (.aload_n 0, 1) := by decide +kernel
theorem dX13_use_1 : decode cX13_use 1 = .ok (.invokevirtual 255, 3) := by decide +kernel
theorem dX13_use_4 : decode cX13_use 4 = .ok (.iconst 0, 1) := by decide +kernel
theorem dX13_use_5 : decode cX13_use 5 = .ok (.istore_n 2, 1) := by decide +kernel
theorem dX13_use_6 : decode cX13_use 6 = .ok (.iconst 0, 1) := by decide +kernel
theorem dX13_use_7 : decode cX13_use 7 = .ok (.istore_n 3, 1) := by decide +kernel
theorem dX13_use_8 : decode cX13_use 8 = .ok (.iload_n 3, 1) := by decide +kernel
theorem dX13_use_9 : decode cX13_use 9 = .ok (.aload_n 0, 1) := by decide +kernel
theorem dX13_use_10 : decode cX13_use 10 = .ok (.getfield 153, 3) := by decide +kernel
theorem dX13_use_13 : decode cX13_use 13 = .ok (.if_icmp .ge 66, 3) := by decide +kernel
theorem dX13_use_16 : decode cX13_use 16 = .ok (.aload_n 0, 1) := by decide +kernel
theorem dX13_use_17 : decode cX13_use 17 = .ok (.getfield 117, 3) := by decide +kernel
theorem dX13_use_20 : decode cX13_use 20 = .ok (.iload_n 3, 1) := by decide +kernel
theorem dX13_use_21 : decode cX13_use 21 = .ok (.aload_n 0, 1) := by decide +kernel
theorem dX13_use_22 : decode cX13_use 22 = .ok (.getfield 111, 3) := by decide +kernel
theorem dX13_use_25 : decode cX13_use 25 = .ok (.iload_n 3, 1) := by decide +kernel
theorem dX13_use_26 : decode cX13_use 26 = .ok (.iaload, 1) := by decide +kernel
theorem dX13_use_27 : decode cX13_use 27 = .ok (.ifCond .ne 7, 3) := by decide +kernel
theorem dX13_use_30 : decode cX13_use 30 = .ok (.iconst 1, 1) := by decide +kernel
theorem dX13_use_31 : decode cX13_use 31 = .ok (.goto 4, 3) := by decide +kernel
theorem dX13_use_34 : decode cX13_use 34 = .ok (.iconst 0, 1) := by decide +kernel
theorem dX13_use_35 : decode cX13_use 35 = .ok (.bastore, 1) := by decide +kernel
theorem dX13_use_36 : decode cX13_use 36 = .ok (.aload_n 0, 1) := by decide +kernel
theorem dX13_use_37 : decode cX13_use 37 = .ok (.getfield 117, 3) := by decide +kernel
theorem dX13_use_40 : decode cX13_use 40 = .ok (.iload_n 3, 1) := by decide +kernel
theorem dX13_use_41 : decode cX13_use 41 = .ok (.baload, 1) := by decide +kernel
theorem dX13_use_42 : decode cX13_use 42 = .ok (.ifCond .ne 6, 3) := by decide +kernel
theorem dX13_use_45 : decode cX13_use 45 = .ok (.goto 28, 3) := by decide +kernel
theorem dX13_use_48 : decode cX13_use 48 = .ok (.iload_n 2, 1) := by decide +kernel
theorem dX13_use_49 : decode cX13_use 49 = .ok (.bipush 31, 2) := by decide +kernel
theorem dX13_use_51 : decode cX13_use 51 = .ok (.if_icmp .ge 19, 3) := by decide +kernel
theorem dX13_use_54 : decode cX13_use 54 = .ok (.iload_n 1, 1) := by decide +kernel
theorem dX13_use_55 : decode cX13_use 55 = .ok (.iload_n 2, 1) := by decide +kernel
theorem dX13_use_56 : decode cX13_use 56 = .ok (.ishr, 1) := by decide +kernel
theorem dX13_use_57 : decode cX13_use 57 = .ok (.iconst 1, 1) := by decide +kernel
theorem dX13_use_58 : decode cX13_use 58 = .ok (.iand, 1) := by decide +kernel
theorem dX13_use_59 : decode cX13_use 59 = .ok (.iconst 1, 1) := by decide +kernel
theorem dX13_use_60 : decode cX13_use 60 = .ok (.if_icmp .ne 10, 3) := by decide +kernel
theorem dX13_use_63 : decode cX13_use 63 = .ok (.aload_n 0, 1) := by decide +kernel
theorem dX13_use_64 : decode cX13_use 64 = .ok (.getfield 117, 3) := by decide +kernel
theorem dX13_use_67 : decode cX13_use 67 = .ok (.iload_n 3, 1) := by decide +kernel
theorem dX13_use_68 : decode cX13_use 68 = .ok (.iconst 0, 1) := by decide +kernel
theorem dX13_use_69 : decode cX13_use 69 = .ok (.bastore, 1) := by decide +kernel
theorem dX13_use_70 : decode cX13_use 70 = .ok (.iinc 2 1, 3) := by decide +kernel
theorem dX13_use_73 : decode cX13_use 73 = .ok (.iinc 3 1, 3) := by decide +kernel
theorem dX13_use_76 : decode cX13_use 76 = .ok (.goto (-68), 3) := by decide +kernel
theorem dX13_use_79 : decode cX13_use 79 = .ok (.return_, 1) := by decide +kernel
theorem dX13_innermost_0 : decode cX13_innermost 0 = .ok (.iconst (-1), 1) := by decide +kernel
theorem dX13_innermost_1 : decode cX13_innermost 1 = .ok (.istore_n 3, 1) := by decide +kernel
theorem dX13_innermost_2 : decode cX13_innermost 2 = .ok (.iconst 0, 1) := by decide +kernel
theorem dX13_innermost_3 : decode cX13_innermost 3 = .ok (.istore 4, 2) := by decide +kernel
theorem dX13_innermost_5 : decode cX13_innermost 5 = .ok (.iload 4, 2) := by decide +kernel
theorem dX13_innermost_7 : decode cX13_innermost 7 = .ok (.aload_n 0, 1) := by decide +kernel
theorem dX13_innermost_8 : decode cX13_innermost 8 = .ok (.getfield 153, 3) := by decide +kernel
theorem dX13_innermost_11 : decode cX13_innermost 11 = .ok (.if_icmp .ge 106, 3) := by decide +kernel
theorem dX13_innermost_14 : decode cX13_innermost 14 = .ok (.aload_n 0, 1) := by decide +kernel
theorem dX13_innermost_15 : decode cX13_innermost 15 = .ok (.getfield 117, 3) := by decide +kernel
theorem dX13_innermost_18 : decode cX13_innermost 18 = .ok (.iload 4, 2) := by decide +kernel
theorem dX13_innermost_20 : decode cX13_innermost 20 = .ok (.baload, 1) := by decide +kernel
theorem dX13_innermost_21 : decode cX13_innermost 21 = .ok (.ifCond .eq 90, 3) := by decide +kernel
theorem dX13_innermost_24 : decode cX13_innermost 24 = .ok (.aload_n 0, 1) := by decide +kernel
theorem dX13_innermost_25 : decode cX13_innermost 25 = .ok (.getfield 70, 3) := by decide +kernel
theorem dX13_innermost_28 : decode cX13_innermost 28 = .ok (.iload 4, 2) := by decide +kernel
theorem dX13_innermost_30 : decode cX13_innermost 30 = .ok (.iaload, 1) := by decide +kernel
theorem dX13_innermost_31 : decode cX13_innermost 31 = .ok (.iconst 4, 1) := by decide +kernel
theorem dX13_innermost_32 : decode cX13_innermost 32 = .ok (.if_icmp .ne 79, 3) := by decide +kernel
theorem dX13_innermost_35 : decode cX13_innermost 35 = .ok (.iload_n 1, 1) := by decide +kernel
theorem dX13_innermost_36 : decode cX13_innermost 36 = .ok (.i2l, 1) := by decide +kernel
theorem dX13_innermost_37 : decode cX13_innermost 37 = .ok (.aload_n 0, 1) := by decide +kernel
theorem dX13_innermost_38 : decode cX13_innermost 38 = .ok (.getfield 77, 3) := by decide +kernel
theorem dX13_innermost_41 : decode cX13_innermost 41 = .ok (.iload 4, 2) := by decide +kernel
theorem dX13_innermost_43 : decode cX13_innermost 43 = .ok (.iaload, 1) := by decide +kernel
theorem dX13_innermost_44 : decode cX13_innermost 44 = .ok (.i2l, 1) := by decide +kernel
theorem dX13_innermost_45 : decode cX13_innermost 45 = .ok (.iload_n 2, 1) := by decide +kernel
theorem dX13_innermost_46 : decode cX13_innermost 46 = .ok (.ifCond .eq 7, 3) := by decide +kernel
theorem dX13_innermost_49 : decode cX13_innermost 49 = .ok (.lconst 1, 1) := by decide +kernel
theorem dX13_innermost_50 : decode cX13_innermost 50 = .ok (.goto 4, 3) := by decide +kernel
theorem dX13_innermost_53 : decode cX13_innermost 53 = .ok (.lconst 0, 1) := by decide +kernel
theorem dX13_innermost_54 : decode cX13_innermost 54 = .ok (.ladd, 1) := by decide +kernel
theorem dX13_innermost_55 : decode cX13_innermost 55 = .ok (.aload_n 0, 1) := by decide +kernel
theorem dX13_innermost_56 : decode cX13_innermost 56 = .ok (.getfield 80, 3) := by decide +kernel
theorem dX13_innermost_59 : decode cX13_innermost 59 = .ok (.iload 4, 2) := by decide +kernel
theorem dX13_innermost_61 : decode cX13_innermost 61 = .ok (.iaload, 1) := by decide +kernel
theorem dX13_innermost_62 : decode cX13_innermost 62 = .ok (.i2l, 1) := by decide +kernel
theorem dX13_innermost_63 : decode cX13_innermost 63 = .ok (.invokestatic 140, 3) := by decide +kernel
theorem dX13_innermost_66 : decode cX13_innermost 66 = .ok (.ifCond .ne 6, 3) := by decide +kernel
theorem dX13_innermost_69 : decode cX13_innermost 69 = .ok (.goto 42, 3) := by decide +kernel
theorem dX13_innermost_72 : decode cX13_innermost 72 = .ok (.iload_n 3, 1) := by decide +kernel
theorem dX13_innermost_73 : decode cX13_innermost 73 = .ok (.iconst (-1), 1) := by decide +kernel
theorem dX13_innermost_74 : decode cX13_innermost 74 = .ok (.if_icmp .eq 34, 3) := by decide +kernel
theorem dX13_innermost_77 : decode cX13_innermost 77 = .ok (.aload_n 0, 1) := by decide +kernel
theorem dX13_innermost_78 : decode cX13_innermost 78 = .ok (.getfield 80, 3) := by decide +kernel
theorem dX13_innermost_81 : decode cX13_innermost 81 = .ok (.iload 4, 2) := by decide +kernel
theorem dX13_innermost_83 : decode cX13_innermost 83 = .ok (.iaload, 1) := by decide +kernel
theorem dX13_innermost_84 : decode cX13_innermost 84 = .ok (.aload_n 0, 1) := by decide +kernel
theorem dX13_innermost_85 : decode cX13_innermost 85 = .ok (.getfield 77, 3) := by decide +kernel
theorem dX13_innermost_88 : decode cX13_innermost 88 = .ok (.iload 4, 2) := by decide +kernel
theorem dX13_innermost_90 : decode cX13_innermost 90 = .ok (.iaload, 1) := by decide +kernel
theorem dX13_innermost_91 : decode cX13_innermost 91 = .ok (.isub, 1) := by decide +kernel
theorem dX13_innermost_92 : decode cX13_innermost 92 = .ok (.aload_n 0, 1) := by decide +kernel
theorem dX13_innermost_93 : decode cX13_innermost 93 = .ok (.getfield 80, 3) := by decide +kernel
theorem dX13_innermost_96 : decode cX13_innermost 96 = .ok (.iload_n 3, 1) := by decide +kernel
theorem dX13_innermost_97 : decode cX13_innermost 97 = .ok (.iaload, 1) := by decide +kernel
theorem dX13_innermost_98 : decode cX13_innermost 98 = .ok (.aload_n 0, 1) := by decide +kernel
theorem dX13_innermost_99 : decode cX13_innermost 99 = .ok (.getfield 77, 3) := by decide +kernel
theorem dX13_innermost_102 : decode cX13_innermost 102 = .ok (.iload_n 3, 1) := by decide +kernel
theorem dX13_innermost_103 : decode cX13_innermost 103 = .ok (.iaload, 1) := by decide +kernel
theorem dX13_innermost_104 : decode cX13_innermost 104 = .ok (.isub, 1) := by decide +kernel
theorem dX13_innermost_105 : decode cX13_innermost 105 = .ok (.if_icmp .ge 6, 3) := by decide +kernel
theorem dX13_innermost_108 : decode cX13_innermost 108 = .ok (.iload 4, 2) := by decide +kernel
theorem dX13_innermost_110 : decode cX13_innermost 110 = .ok (.istore_n 3, 1) := by decide +kernel
theorem dX13_innermost_111 : decode cX13_innermost 111 = .ok (.iinc 4 1, 3) := by decide +kernel
theorem dX13_innermost_114 : decode cX13_innermost 114 = .ok (.goto (-109), 3) := by decide +kernel
theorem dX13_innermost_117 : decode cX13_innermost 117 = .ok (.iload_n 3, 1) := by decide +kernel
theorem dX13_innermost_118 : decode cX13_innermost 118 = .ok (.ireturn, 1) := by decide +kernel
theorem dX13_moveOf_0 : decode cX13_moveOf 0 = .ok (.iconst (-1), 1) := by decide +kernel
theorem dX13_moveOf_1 : decode cX13_moveOf 1 = .ok (.istore_n 2, 1) := by decide +kernel
theorem dX13_moveOf_2 : decode cX13_moveOf 2 = .ok (.iconst 0, 1) := by decide +kernel
theorem dX13_moveOf_3 : decode cX13_moveOf 3 = .ok (.istore_n 3, 1) := by decide +kernel
theorem dX13_moveOf_4 : decode cX13_moveOf 4 = .ok (.iload_n 3, 1) := by decide +kernel
theorem dX13_moveOf_5 : decode cX13_moveOf 5 = .ok (.aload_n 0, 1) := by decide +kernel
theorem dX13_moveOf_6 : decode cX13_moveOf 6 = .ok (.getfield 153, 3) := by decide +kernel
theorem dX13_moveOf_9 : decode cX13_moveOf 9 = .ok (.if_icmp .ge 97, 3) := by decide +kernel
theorem dX13_moveOf_12 : decode cX13_moveOf 12 = .ok (.aload_n 0, 1) := by decide +kernel
theorem dX13_moveOf_13 : decode cX13_moveOf 13 = .ok (.getfield 117, 3) := by decide +kernel
theorem dX13_moveOf_16 : decode cX13_moveOf 16 = .ok (.iload_n 3, 1) := by decide +kernel
theorem dX13_moveOf_17 : decode cX13_moveOf 17 = .ok (.baload, 1) := by decide +kernel
theorem dX13_moveOf_18 : decode cX13_moveOf 18 = .ok (.ifCond .eq 82, 3) := by decide +kernel
theorem dX13_moveOf_21 : decode cX13_moveOf 21 = .ok (.aload_n 0, 1) := by decide +kernel
theorem dX13_moveOf_22 : decode cX13_moveOf 22 = .ok (.getfield 70, 3) := by decide +kernel
theorem dX13_moveOf_25 : decode cX13_moveOf 25 = .ok (.iload_n 3, 1) := by decide +kernel
theorem dX13_moveOf_26 : decode cX13_moveOf 26 = .ok (.iaload, 1) := by decide +kernel
theorem dX13_moveOf_27 : decode cX13_moveOf 27 = .ok (.iconst 4, 1) := by decide +kernel
theorem dX13_moveOf_28 : decode cX13_moveOf 28 = .ok (.if_icmp .ne 72, 3) := by decide +kernel
theorem dX13_moveOf_31 : decode cX13_moveOf 31 = .ok (.aload_n 0, 1) := by decide +kernel
theorem dX13_moveOf_32 : decode cX13_moveOf 32 = .ok (.getfield 77, 3) := by decide +kernel
theorem dX13_moveOf_35 : decode cX13_moveOf 35 = .ok (.iload_n 1, 1) := by decide +kernel
theorem dX13_moveOf_36 : decode cX13_moveOf 36 = .ok (.iaload, 1) := by decide +kernel
theorem dX13_moveOf_37 : decode cX13_moveOf 37 = .ok (.aload_n 0, 1) := by decide +kernel
theorem dX13_moveOf_38 : decode cX13_moveOf 38 = .ok (.getfield 77, 3) := by decide +kernel
theorem dX13_moveOf_41 : decode cX13_moveOf 41 = .ok (.iload_n 3, 1) := by decide +kernel
theorem dX13_moveOf_42 : decode cX13_moveOf 42 = .ok (.iaload, 1) := by decide +kernel
theorem dX13_moveOf_43 : decode cX13_moveOf 43 = .ok (.if_icmp .lt 57, 3) := by decide +kernel
theorem dX13_moveOf_46 : decode cX13_moveOf 46 = .ok (.aload_n 0, 1) := by decide +kernel
theorem dX13_moveOf_47 : decode cX13_moveOf 47 = .ok (.getfield 83, 3) := by decide +kernel
theorem dX13_moveOf_50 : decode cX13_moveOf 50 = .ok (.iload_n 1, 1) := by decide +kernel
theorem dX13_moveOf_51 : decode cX13_moveOf 51 = .ok (.iaload, 1) := by decide +kernel
theorem dX13_moveOf_52 : decode cX13_moveOf 52 = .ok (.aload_n 0, 1) := by decide +kernel
theorem dX13_moveOf_53 : decode cX13_moveOf 53 = .ok (.getfield 80, 3) := by decide +kernel
theorem dX13_moveOf_56 : decode cX13_moveOf 56 = .ok (.iload_n 3, 1) := by decide +kernel
theorem dX13_moveOf_57 : decode cX13_moveOf 57 = .ok (.iaload, 1) := by decide +kernel
theorem dX13_moveOf_58 : decode cX13_moveOf 58 = .ok (.if_icmp .le 6, 3) := by decide +kernel
theorem dX13_moveOf_61 : decode cX13_moveOf 61 = .ok (.goto 39, 3) := by decide +kernel
theorem dX13_moveOf_64 : decode cX13_moveOf 64 = .ok (.iload_n 2, 1) := by decide +kernel
theorem dX13_moveOf_65 : decode cX13_moveOf 65 = .ok (.iconst (-1), 1) := by decide +kernel
theorem dX13_moveOf_66 : decode cX13_moveOf 66 = .ok (.if_icmp .eq 32, 3) := by decide +kernel
theorem dX13_moveOf_69 : decode cX13_moveOf 69 = .ok (.aload_n 0, 1) := by decide +kernel
theorem dX13_moveOf_70 : decode cX13_moveOf 70 = .ok (.getfield 80, 3) := by decide +kernel
theorem dX13_moveOf_73 : decode cX13_moveOf 73 = .ok (.iload_n 3, 1) := by decide +kernel
theorem dX13_moveOf_74 : decode cX13_moveOf 74 = .ok (.iaload, 1) := by decide +kernel
theorem dX13_moveOf_75 : decode cX13_moveOf 75 = .ok (.aload_n 0, 1) := by decide +kernel
theorem dX13_moveOf_76 : decode cX13_moveOf 76 = .ok (.getfield 77, 3) := by decide +kernel
theorem dX13_moveOf_79 : decode cX13_moveOf 79 = .ok (.iload_n 3, 1) := by decide +kernel
theorem dX13_moveOf_80 : decode cX13_moveOf 80 = .ok (.iaload, 1) := by decide +kernel
theorem dX13_moveOf_81 : decode cX13_moveOf 81 = .ok (.isub, 1) := by decide +kernel
theorem dX13_moveOf_82 : decode cX13_moveOf 82 = .ok (.aload_n 0, 1) := by decide +kernel
theorem dX13_moveOf_83 : decode cX13_moveOf 83 = .ok (.getfield 80, 3) := by decide +kernel
theorem dX13_moveOf_86 : decode cX13_moveOf 86 = .ok (.iload_n 2, 1) := by decide +kernel
theorem dX13_moveOf_87 : decode cX13_moveOf 87 = .ok (.iaload, 1) := by decide +kernel
theorem dX13_moveOf_88 : decode cX13_moveOf 88 = .ok (.aload_n 0, 1) := by decide +kernel
theorem dX13_moveOf_89 : decode cX13_moveOf 89 = .ok (.getfield 77, 3) := by decide +kernel
theorem dX13_moveOf_92 : decode cX13_moveOf 92 = .ok (.iload_n 2, 1) := by decide +kernel
theorem dX13_moveOf_93 : decode cX13_moveOf 93 = .ok (.iaload, 1) := by decide +kernel
theorem dX13_moveOf_94 : decode cX13_moveOf 94 = .ok (.isub, 1) := by decide +kernel
theorem dX13_moveOf_95 : decode cX13_moveOf 95 = .ok (.if_icmp .ge 5, 3) := by decide +kernel
theorem dX13_moveOf_98 : decode cX13_moveOf 98 = .ok (.iload_n 3, 1) := by decide +kernel
theorem dX13_moveOf_99 : decode cX13_moveOf 99 = .ok (.istore_n 2, 1) := by decide +kernel
theorem dX13_moveOf_100 : decode cX13_moveOf 100 = .ok (.iinc 3 1, 3) := by decide +kernel
theorem dX13_moveOf_103 : decode cX13_moveOf 103 = .ok (.goto (-99), 3) := by decide +kernel
theorem dX13_moveOf_106 : decode cX13_moveOf 106 = .ok (.iload_n 2, 1) := by decide +kernel
theorem dX13_moveOf_107 : decode cX13_moveOf 107 = .ok (.ireturn, 1) := by decide +kernel
theorem dX13_put_0 : decode cX13_put 0 = .ok (.aload_n 0, 1) := by decide +kernel
theorem dX13_put_1 : decode cX13_put 1 = .ok (.getfield 64, 3) := by decide +kernel
theorem dX13_put_4 : decode cX13_put 4 = .ok (.aload_n 0, 1) := by decide +kernel
theorem dX13_put_5 : decode cX13_put 5 = .ok (.getfield 260, 3) := by decide +kernel
theorem dX13_put_8 : decode cX13_put 8 = .ok (.lload_n 1, 1) := by decide +kernel
theorem dX13_put_9 : decode cX13_put 9 = .ok (.lastore, 1) := by decide +kernel
theorem dX13_put_10 : decode cX13_put 10 = .ok (.aload_n 0, 1) := by decide +kernel
end
section
theorem dX13_put_11 : decode cX13_put 11 = .ok (.dup, 1) := by decide +kernel
theorem dX13_put_12 : decode cX13_put 12 = .ok (.getfield 260, 3) := by decide +kernel
theorem dX13_put_15 : decode cX13_put 15 = .ok (.iconst 1, 1) := by decide +kernel
theorem dX13_put_16 : decode cX13_put 16 = .ok (.iadd, 1) := by decide +kernel
theorem dX13_put_17 : decode cX13_put 17 = .ok (.putfield 260, 3) := by decide +kernel
theorem dX13_put_20 : decode cX13_put 20 = .ok (.return_, 1) := by decide +kernel
theorem dX13_putWords_0 : decode cX13_putWords 0 = .ok (.iconst 0, 1) := by decide +kernel
theorem dX13_putWords_1 : decode cX13_putWords 1 = .ok (.istore_n 2, 1) := by decide +kernel
theorem dX13_putWords_2 : decode cX13_putWords 2 = .ok (.iload_n 2, 1) := by decide +kernel
theorem dX13_putWords_3 : decode cX13_putWords 3 = .ok (.aload_n 0, 1) := by decide +kernel
theorem dX13_putWords_4 : decode cX13_putWords 4 = .ok (.getfield 86, 3) := by decide +kernel
theorem dX13_putWords_7 : decode cX13_putWords 7 = .ok (.iload_n 1, 1) := by decide +kernel
theorem dX13_putWords_8 : decode cX13_putWords 8 = .ok (.iaload, 1) := by decide +kernel
theorem dX13_putWords_9 : decode cX13_putWords 9 = .ok (.if_icmp .ge 24, 3) := by decide +kernel
theorem dX13_putWords_12 : decode cX13_putWords 12 = .ok (.aload_n 0, 1) := by decide +kernel
theorem dX13_putWords_13 : decode cX13_putWords 13 = .ok (.aload_n 0, 1) := by decide +kernel
theorem dX13_putWords_14 : decode cX13_putWords 14 = .ok (.getfield 92, 3) := by decide +kernel
theorem dX13_putWords_17 : decode cX13_putWords 17 = .ok (.bipush 6, 2) := by decide +kernel
theorem dX13_putWords_19 : decode cX13_putWords 19 = .ok (.iload_n 1, 1) := by decide +kernel
theorem dX13_putWords_20 : decode cX13_putWords 20 = .ok (.imul, 1) := by decide +kernel
theorem dX13_putWords_21 : decode cX13_putWords 21 = .ok (.iload_n 2, 1) := by decide +kernel
theorem dX13_putWords_22 : decode cX13_putWords 22 = .ok (.iadd, 1) := by decide +kernel
theorem dX13_putWords_23 : decode cX13_putWords 23 = .ok (.laload, 1) := by decide +kernel
theorem dX13_putWords_24 : decode cX13_putWords 24 = .ok (.invokevirtual 263, 3) := by decide +kernel
theorem dX13_putWords_27 : decode cX13_putWords 27 = .ok (.iinc 2 1, 3) := by decide +kernel
theorem dX13_putWords_30 : decode cX13_putWords 30 = .ok (.goto (-28), 3) := by decide +kernel
theorem dX13_putWords_33 : decode cX13_putWords 33 = .ok (.return_, 1) := by decide +kernel
theorem dX13_layGap_0 : decode cX13_layGap 0 = .ok (.iconst 0, 1) := by decide +kernel
theorem dX13_layGap_1 : decode cX13_layGap 1 = .ok (.istore_n 2, 1) := by decide +kernel
theorem dX13_layGap_2 : decode cX13_layGap 2 = .ok (.iload_n 2, 1) := by decide +kernel
theorem dX13_layGap_3 : decode cX13_layGap 3 = .ok (.aload_n 0, 1) := by decide +kernel
theorem dX13_layGap_4 : decode cX13_layGap 4 = .ok (.getfield 153, 3) := by decide +kernel
theorem dX13_layGap_7 : decode cX13_layGap 7 = .ok (.if_icmp .ge 65, 3) := by decide +kernel
theorem dX13_layGap_10 : decode cX13_layGap 10 = .ok (.aload_n 0, 1) := by decide +kernel
theorem dX13_layGap_11 : decode cX13_layGap 11 = .ok (.getfield 117, 3) := by decide +kernel
theorem dX13_layGap_14 : decode cX13_layGap 14 = .ok (.iload_n 2, 1) := by decide +kernel
theorem dX13_layGap_15 : decode cX13_layGap 15 = .ok (.baload, 1) := by decide +kernel
theorem dX13_layGap_16 : decode cX13_layGap 16 = .ok (.ifCond .eq 50, 3) := by decide +kernel
theorem dX13_layGap_19 : decode cX13_layGap 19 = .ok (.aload_n 0, 1) := by decide +kernel
theorem dX13_layGap_20 : decode cX13_layGap 20 = .ok (.iload_n 2, 1) := by decide +kernel
theorem dX13_layGap_21 : decode cX13_layGap 21 = .ok (.invokevirtual 228, 3) := by decide +kernel
theorem dX13_layGap_24 : decode cX13_layGap 24 = .ok (.iload_n 1, 1) := by decide +kernel
theorem dX13_layGap_25 : decode cX13_layGap 25 = .ok (.if_icmp .eq 6, 3) := by decide +kernel
theorem dX13_layGap_28 : decode cX13_layGap 28 = .ok (.goto 38, 3) := by decide +kernel
theorem dX13_layGap_31 : decode cX13_layGap 31 = .ok (.aload_n 0, 1) := by decide +kernel
theorem dX13_layGap_32 : decode cX13_layGap 32 = .ok (.getfield 70, 3) := by decide +kernel
theorem dX13_layGap_35 : decode cX13_layGap 35 = .ok (.iload_n 2, 1) := by decide +kernel
theorem dX13_layGap_36 : decode cX13_layGap 36 = .ok (.iaload, 1) := by decide +kernel
theorem dX13_layGap_37 : decode cX13_layGap 37 = .ok (.iconst 1, 1) := by decide +kernel
theorem dX13_layGap_38 : decode cX13_layGap 38 = .ok (.if_icmp .ne 11, 3) := by decide +kernel
theorem dX13_layGap_41 : decode cX13_layGap 41 = .ok (.aload_n 0, 1) := by decide +kernel
theorem dX13_layGap_42 : decode cX13_layGap 42 = .ok (.iload_n 2, 1) := by decide +kernel
theorem dX13_layGap_43 : decode cX13_layGap 43 = .ok (.invokevirtual 266, 3) := by decide +kernel
theorem dX13_layGap_46 : decode cX13_layGap 46 = .ok (.goto 20, 3) := by decide +kernel
theorem dX13_layGap_49 : decode cX13_layGap 49 = .ok (.aload_n 0, 1) := by decide +kernel
theorem dX13_layGap_50 : decode cX13_layGap 50 = .ok (.aload_n 0, 1) := by decide +kernel
theorem dX13_layGap_51 : decode cX13_layGap 51 = .ok (.getfield 77, 3) := by decide +kernel
theorem dX13_layGap_54 : decode cX13_layGap 54 = .ok (.iload_n 2, 1) := by decide +kernel
theorem dX13_layGap_55 : decode cX13_layGap 55 = .ok (.iaload, 1) := by decide +kernel
theorem dX13_layGap_56 : decode cX13_layGap 56 = .ok (.aload_n 0, 1) := by decide +kernel
theorem dX13_layGap_57 : decode cX13_layGap 57 = .ok (.getfield 80, 3) := by decide +kernel
theorem dX13_layGap_60 : decode cX13_layGap 60 = .ok (.iload_n 2, 1) := by decide +kernel
theorem dX13_layGap_61 : decode cX13_layGap 61 = .ok (.iaload, 1) := by decide +kernel
theorem dX13_layGap_62 : decode cX13_layGap 62 = .ok (.iload_n 2, 1) := by decide +kernel
theorem dX13_layGap_63 : decode cX13_layGap 63 = .ok (.invokevirtual 269, 3) := by decide +kernel
theorem dX13_layGap_66 : decode cX13_layGap 66 = .ok (.iinc 2 1, 3) := by decide +kernel
theorem dX13_layGap_69 : decode cX13_layGap 69 = .ok (.goto (-67), 3) := by decide +kernel
theorem dX13_layGap_72 : decode cX13_layGap 72 = .ok (.return_, 1) := by decide +kernel
theorem dX13_turnAt_0 : decode cX13_turnAt 0 = .ok (.iconst (-1), 1) := by decide +kernel
theorem dX13_turnAt_1 : decode cX13_turnAt 1 = .ok (.istore 4, 2) := by decide +kernel
theorem dX13_turnAt_3 : decode cX13_turnAt 3 = .ok (.iconst 0, 1) := by decide +kernel
theorem dX13_turnAt_4 : decode cX13_turnAt 4 = .ok (.istore 5, 2) := by decide +kernel
theorem dX13_turnAt_6 : decode cX13_turnAt 6 = .ok (.iload 5, 2) := by decide +kernel
theorem dX13_turnAt_8 : decode cX13_turnAt 8 = .ok (.aload_n 0, 1) := by decide +kernel
theorem dX13_turnAt_9 : decode cX13_turnAt 9 = .ok (.getfield 153, 3) := by decide +kernel
theorem dX13_turnAt_12 : decode cX13_turnAt 12 = .ok (.if_icmp .ge 92, 3) := by decide +kernel
theorem dX13_turnAt_15 : decode cX13_turnAt 15 = .ok (.aload_n 0, 1) := by decide +kernel
theorem dX13_turnAt_16 : decode cX13_turnAt 16 = .ok (.getfield 117, 3) := by decide +kernel
theorem dX13_turnAt_19 : decode cX13_turnAt 19 = .ok (.iload 5, 2) := by decide +kernel
theorem dX13_turnAt_21 : decode cX13_turnAt 21 = .ok (.baload, 1) := by decide +kernel
theorem dX13_turnAt_22 : decode cX13_turnAt 22 = .ok (.ifCond .eq 76, 3) := by decide +kernel
theorem dX13_turnAt_25 : decode cX13_turnAt 25 = .ok (.aload_n 0, 1) := by decide +kernel
theorem dX13_turnAt_26 : decode cX13_turnAt 26 = .ok (.getfield 70, 3) := by decide +kernel
theorem dX13_turnAt_29 : decode cX13_turnAt 29 = .ok (.iload 5, 2) := by decide +kernel
theorem dX13_turnAt_31 : decode cX13_turnAt 31 = .ok (.iaload, 1) := by decide +kernel
theorem dX13_turnAt_32 : decode cX13_turnAt 32 = .ok (.iconst 3, 1) := by decide +kernel
theorem dX13_turnAt_33 : decode cX13_turnAt 33 = .ok (.if_icmp .ne 65, 3) := by decide +kernel
theorem dX13_turnAt_36 : decode cX13_turnAt 36 = .ok (.aload_n 0, 1) := by decide +kernel
theorem dX13_turnAt_37 : decode cX13_turnAt 37 = .ok (.getfield 77, 3) := by decide +kernel
theorem dX13_turnAt_40 : decode cX13_turnAt 40 = .ok (.iload 5, 2) := by decide +kernel
theorem dX13_turnAt_42 : decode cX13_turnAt 42 = .ok (.iaload, 1) := by decide +kernel
theorem dX13_turnAt_43 : decode cX13_turnAt 43 = .ok (.iload_n 1, 1) := by decide +kernel
theorem dX13_turnAt_44 : decode cX13_turnAt 44 = .ok (.if_icmp .ne 54, 3) := by decide +kernel
theorem dX13_turnAt_47 : decode cX13_turnAt 47 = .ok (.aload_n 0, 1) := by decide +kernel
theorem dX13_turnAt_48 : decode cX13_turnAt 48 = .ok (.getfield 83, 3) := by decide +kernel
theorem dX13_turnAt_51 : decode cX13_turnAt 51 = .ok (.iload 5, 2) := by decide +kernel
theorem dX13_turnAt_53 : decode cX13_turnAt 53 = .ok (.iaload, 1) := by decide +kernel
theorem dX13_turnAt_54 : decode cX13_turnAt 54 = .ok (.iload_n 2, 1) := by decide +kernel
theorem dX13_turnAt_55 : decode cX13_turnAt 55 = .ok (.if_icmp .gt 43, 3) := by decide +kernel
theorem dX13_turnAt_58 : decode cX13_turnAt 58 = .ok (.aload_n 0, 1) := by decide +kernel
theorem dX13_turnAt_59 : decode cX13_turnAt 59 = .ok (.iload 5, 2) := by decide +kernel
theorem dX13_turnAt_61 : decode cX13_turnAt 61 = .ok (.invokevirtual 273, 3) := by decide +kernel
theorem dX13_turnAt_64 : decode cX13_turnAt 64 = .ok (.iload_n 3, 1) := by decide +kernel
theorem dX13_turnAt_65 : decode cX13_turnAt 65 = .ok (.if_icmp .eq 6, 3) := by decide +kernel
theorem dX13_turnAt_68 : decode cX13_turnAt 68 = .ok (.goto 30, 3) := by decide +kernel
theorem dX13_turnAt_71 : decode cX13_turnAt 71 = .ok (.iload 4, 2) := by decide +kernel
theorem dX13_turnAt_73 : decode cX13_turnAt 73 = .ok (.iconst (-1), 1) := by decide +kernel
theorem dX13_turnAt_74 : decode cX13_turnAt 74 = .ok (.if_icmp .eq 20, 3) := by decide +kernel
theorem dX13_turnAt_77 : decode cX13_turnAt 77 = .ok (.aload_n 0, 1) := by decide +kernel
theorem dX13_turnAt_78 : decode cX13_turnAt 78 = .ok (.getfield 83, 3) := by decide +kernel
theorem dX13_turnAt_81 : decode cX13_turnAt 81 = .ok (.iload 5, 2) := by decide +kernel
theorem dX13_turnAt_83 : decode cX13_turnAt 83 = .ok (.iaload, 1) := by decide +kernel
theorem dX13_turnAt_84 : decode cX13_turnAt 84 = .ok (.aload_n 0, 1) := by decide +kernel
theorem dX13_turnAt_85 : decode cX13_turnAt 85 = .ok (.getfield 83, 3) := by decide +kernel
theorem dX13_turnAt_88 : decode cX13_turnAt 88 = .ok (.iload 4, 2) := by decide +kernel
theorem dX13_turnAt_90 : decode cX13_turnAt 90 = .ok (.iaload, 1) := by decide +kernel
theorem dX13_turnAt_91 : decode cX13_turnAt 91 = .ok (.if_icmp .le 7, 3) := by decide +kernel
theorem dX13_turnAt_94 : decode cX13_turnAt 94 = .ok (.iload 5, 2) := by decide +kernel
theorem dX13_turnAt_96 : decode cX13_turnAt 96 = .ok (.istore 4, 2) := by decide +kernel
theorem dX13_turnAt_98 : decode cX13_turnAt 98 = .ok (.iinc 5 1, 3) := by decide +kernel
theorem dX13_turnAt_101 : decode cX13_turnAt 101 = .ok (.goto (-95), 3) := by decide +kernel
theorem dX13_turnAt_104 : decode cX13_turnAt 104 = .ok (.iload 4, 2) := by decide +kernel
theorem dX13_turnAt_106 : decode cX13_turnAt 106 = .ok (.ireturn, 1) := by decide +kernel
theorem dX13_layRow_0 : decode cX13_layRow 0 = .ok (.iload_n 1, 1) := by decide +kernel
theorem dX13_layRow_1 : decode cX13_layRow 1 = .ok (.istore 4, 2) := by decide +kernel
theorem dX13_layRow_3 : decode cX13_layRow 3 = .ok (.iload 4, 2) := by decide +kernel
theorem dX13_layRow_5 : decode cX13_layRow 5 = .ok (.iload_n 2, 1) := by decide +kernel
theorem dX13_layRow_6 : decode cX13_layRow 6 = .ok (.if_icmp .gt 109, 3) := by decide +kernel
theorem dX13_layRow_9 : decode cX13_layRow 9 = .ok (.iload 4, 2) := by decide +kernel
theorem dX13_layRow_11 : decode cX13_layRow 11 = .ok (.iload_n 1, 1) := by decide +kernel
theorem dX13_layRow_12 : decode cX13_layRow 12 = .ok (.if_icmp .le 20, 3) := by decide +kernel
theorem dX13_layRow_15 : decode cX13_layRow 15 = .ok (.aload_n 0, 1) := by decide +kernel
theorem dX13_layRow_16 : decode cX13_layRow 16 = .ok (.iload 4, 2) := by decide +kernel
theorem dX13_layRow_18 : decode cX13_layRow 18 = .ok (.iconst 1, 1) := by decide +kernel
theorem dX13_layRow_19 : decode cX13_layRow 19 = .ok (.invokevirtual 276, 3) := by decide +kernel
theorem dX13_layRow_22 : decode cX13_layRow 22 = .ok (.iload_n 3, 1) := by decide +kernel
theorem dX13_layRow_23 : decode cX13_layRow 23 = .ok (.if_icmp .ne 9, 3) := by decide +kernel
theorem dX13_layRow_26 : decode cX13_layRow 26 = .ok (.aload_n 0, 1) := by decide +kernel
theorem dX13_layRow_27 : decode cX13_layRow 27 = .ok (.iload 4, 2) := by decide +kernel
theorem dX13_layRow_29 : decode cX13_layRow 29 = .ok (.invokevirtual 280, 3) := by decide +kernel
theorem dX13_layRow_32 : decode cX13_layRow 32 = .ok (.aload_n 0, 1) := by decide +kernel
theorem dX13_layRow_33 : decode cX13_layRow 33 = .ok (.iload 4, 2) := by decide +kernel
theorem dX13_layRow_35 : decode cX13_layRow 35 = .ok (.iload_n 2, 1) := by decide +kernel
theorem dX13_layRow_36 : decode cX13_layRow 36 = .ok (.iload_n 3, 1) := by decide +kernel
theorem dX13_layRow_37 : decode cX13_layRow 37 = .ok (.invokevirtual 283, 3) := by decide +kernel
theorem dX13_layRow_40 : decode cX13_layRow 40 = .ok (.istore 5, 2) := by decide +kernel
theorem dX13_layRow_42 : decode cX13_layRow 42 = .ok (.iload 5, 2) := by decide +kernel
theorem dX13_layRow_44 : decode cX13_layRow 44 = .ok (.iconst (-1), 1) := by decide +kernel
theorem dX13_layRow_45 : decode cX13_layRow 45 = .ok (.if_icmp .ne 16, 3) := by decide +kernel
theorem dX13_layRow_48 : decode cX13_layRow 48 = .ok (.aload_n 0, 1) := by decide +kernel
theorem dX13_layRow_49 : decode cX13_layRow 49 = .ok (.iload 4, 2) := by decide +kernel
theorem dX13_layRow_51 : decode cX13_layRow 51 = .ok (.iload_n 3, 1) := by decide +kernel
theorem dX13_layRow_52 : decode cX13_layRow 52 = .ok (.invokevirtual 287, 3) := by decide +kernel
theorem dX13_layRow_55 : decode cX13_layRow 55 = .ok (.iinc 4 1, 3) := by decide +kernel
theorem dX13_layRow_58 : decode cX13_layRow 58 = .ok (.goto (-55), 3) := by decide +kernel
theorem dX13_layRow_61 : decode cX13_layRow 61 = .ok (.aload_n 0, 1) := by decide +kernel
theorem dX13_layRow_62 : decode cX13_layRow 62 = .ok (.aload_n 0, 1) := by decide +kernel
theorem dX13_layRow_63 : decode cX13_layRow 63 = .ok (.getfield 80, 3) := by decide +kernel
theorem dX13_layRow_66 : decode cX13_layRow 66 = .ok (.iload 5, 2) := by decide +kernel
theorem dX13_layRow_68 : decode cX13_layRow 68 = .ok (.iaload, 1) := by decide +kernel
theorem dX13_layRow_69 : decode cX13_layRow 69 = .ok (.aload_n 0, 1) := by decide +kernel
theorem dX13_layRow_70 : decode cX13_layRow 70 = .ok (.getfield 83, 3) := by decide +kernel
theorem dX13_layRow_73 : decode cX13_layRow 73 = .ok (.iload 5, 2) := by decide +kernel
theorem dX13_layRow_75 : decode cX13_layRow 75 = .ok (.iaload, 1) := by decide +kernel
theorem dX13_layRow_76 : decode cX13_layRow 76 = .ok (.iload_n 3, 1) := by decide +kernel
theorem dX13_layRow_77 : decode cX13_layRow 77 = .ok (.invokevirtual 269, 3) := by decide +kernel
theorem dX13_layRow_80 : decode cX13_layRow 80 = .ok (.aload_n 0, 1) := by decide +kernel
theorem dX13_layRow_81 : decode cX13_layRow 81 = .ok (.aload_n 0, 1) := by decide +kernel
theorem dX13_layRow_82 : decode cX13_layRow 82 = .ok (.getfield 77, 3) := by decide +kernel
theorem dX13_layRow_85 : decode cX13_layRow 85 = .ok (.iload 5, 2) := by decide +kernel
theorem dX13_layRow_87 : decode cX13_layRow 87 = .ok (.iaload, 1) := by decide +kernel
theorem dX13_layRow_88 : decode cX13_layRow 88 = .ok (.aload_n 0, 1) := by decide +kernel
theorem dX13_layRow_89 : decode cX13_layRow 89 = .ok (.getfield 80, 3) := by decide +kernel
theorem dX13_layRow_92 : decode cX13_layRow 92 = .ok (.iload 5, 2) := by decide +kernel
theorem dX13_layRow_94 : decode cX13_layRow 94 = .ok (.iaload, 1) := by decide +kernel
theorem dX13_layRow_95 : decode cX13_layRow 95 = .ok (.iconst 1, 1) := by decide +kernel
theorem dX13_layRow_96 : decode cX13_layRow 96 = .ok (.isub, 1) := by decide +kernel
theorem dX13_layRow_97 : decode cX13_layRow 97 = .ok (.iload_n 3, 1) := by decide +kernel
theorem dX13_layRow_98 : decode cX13_layRow 98 = .ok (.invokevirtual 269, 3) := by decide +kernel
theorem dX13_layRow_101 : decode cX13_layRow 101 = .ok (.aload_n 0, 1) := by decide +kernel
theorem dX13_layRow_102 : decode cX13_layRow 102 = .ok (.getfield 83, 3) := by decide +kernel
theorem dX13_layRow_105 : decode cX13_layRow 105 = .ok (.iload 5, 2) := by decide +kernel
theorem dX13_layRow_107 : decode cX13_layRow 107 = .ok (.iaload, 1) := by decide +kernel
theorem dX13_layRow_108 : decode cX13_layRow 108 = .ok (.iconst 1, 1) := by decide +kernel
theorem dX13_layRow_109 : decode cX13_layRow 109 = .ok (.iadd, 1) := by decide +kernel
theorem dX13_layRow_110 : decode cX13_layRow 110 = .ok (.istore 4, 2) := by decide +kernel
theorem dX13_layRow_112 : decode cX13_layRow 112 = .ok (.goto (-109), 3) := by decide +kernel
theorem dX13_layRow_115 : decode cX13_layRow 115 = .ok (.return_, 1) := by decide +kernel
theorem dX13_layWord_0 : decode cX13_layWord 0 = .ok (.aload_n 0, 1) := by decide +kernel
theorem dX13_layWord_1 : decode cX13_layWord 1 = .ok (.iload_n 1, 1) := by decide +kernel
theorem dX13_layWord_2 : decode cX13_layWord 2 = .ok (.iconst 0, 1) := by decide +kernel
theorem dX13_layWord_3 : decode cX13_layWord 3 = .ok (.invokevirtual 276, 3) := by decide +kernel
theorem dX13_layWord_6 : decode cX13_layWord 6 = .ok (.iload_n 2, 1) := by decide +kernel
theorem dX13_layWord_7 : decode cX13_layWord 7 = .ok (.if_icmp .eq 4, 3) := by decide +kernel
theorem dX13_layWord_10 : decode cX13_layWord 10 = .ok (.return_, 1) := by decide +kernel
theorem dX13_layWord_11 : decode cX13_layWord 11 = .ok (.iconst 0, 1) := by decide +kernel
theorem dX13_layWord_12 : decode cX13_layWord 12 = .ok (.istore_n 3, 1) := by decide +kernel
theorem dX13_layWord_13 : decode cX13_layWord 13 = .ok (.iload_n 3, 1) := by decide +kernel
theorem dX13_layWord_14 : decode cX13_layWord 14 = .ok (.aload_n 0, 1) := by decide +kernel
theorem dX13_layWord_15 : decode cX13_layWord 15 = .ok (.getfield 153, 3) := by decide +kernel
theorem dX13_layWord_18 : decode cX13_layWord 18 = .ok (.if_icmp .ge 88, 3) := by decide +kernel
theorem dX13_layWord_21 : decode cX13_layWord 21 = .ok (.aload_n 0, 1) := by decide +kernel
theorem dX13_layWord_22 : decode cX13_layWord 22 = .ok (.getfield 117, 3) := by decide +kernel
theorem dX13_layWord_25 : decode cX13_layWord 25 = .ok (.iload_n 3, 1) := by decide +kernel
theorem dX13_layWord_26 : decode cX13_layWord 26 = .ok (.baload, 1) := by decide +kernel
theorem dX13_layWord_27 : decode cX13_layWord 27 = .ok (.ifCond .eq 73, 3) := by decide +kernel
theorem dX13_layWord_30 : decode cX13_layWord 30 = .ok (.aload_n 0, 1) := by decide +kernel
theorem dX13_layWord_31 : decode cX13_layWord 31 = .ok (.getfield 70, 3) := by decide +kernel
theorem dX13_layWord_34 : decode cX13_layWord 34 = .ok (.iload_n 3, 1) := by decide +kernel
theorem dX13_layWord_35 : decode cX13_layWord 35 = .ok (.iaload, 1) := by decide +kernel
theorem dX13_layWord_36 : decode cX13_layWord 36 = .ok (.ifCond .eq 13, 3) := by decide +kernel
theorem dX13_layWord_39 : decode cX13_layWord 39 = .ok (.aload_n 0, 1) := by decide +kernel
theorem dX13_layWord_40 : decode cX13_layWord 40 = .ok (.getfield 70, 3) := by decide +kernel
theorem dX13_layWord_43 : decode cX13_layWord 43 = .ok (.iload_n 3, 1) := by decide +kernel
theorem dX13_layWord_44 : decode cX13_layWord 44 = .ok (.iaload, 1) := by decide +kernel
theorem dX13_layWord_45 : decode cX13_layWord 45 = .ok (.iconst 2, 1) := by decide +kernel
theorem dX13_layWord_46 : decode cX13_layWord 46 = .ok (.if_icmp .ne 54, 3) := by decide +kernel
theorem dX13_layWord_49 : decode cX13_layWord 49 = .ok (.iload_n 1, 1) := by decide +kernel
theorem dX13_layWord_50 : decode cX13_layWord 50 = .ok (.i2l, 1) := by decide +kernel
theorem dX13_layWord_51 : decode cX13_layWord 51 = .ok (.aload_n 0, 1) := by decide +kernel
theorem dX13_layWord_52 : decode cX13_layWord 52 = .ok (.getfield 77, 3) := by decide +kernel
theorem dX13_layWord_55 : decode cX13_layWord 55 = .ok (.iload_n 3, 1) := by decide +kernel
theorem dX13_layWord_56 : decode cX13_layWord 56 = .ok (.iaload, 1) := by decide +kernel
theorem dX13_layWord_57 : decode cX13_layWord 57 = .ok (.i2l, 1) := by decide +kernel
theorem dX13_layWord_58 : decode cX13_layWord 58 = .ok (.aload_n 0, 1) := by decide +kernel
theorem dX13_layWord_59 : decode cX13_layWord 59 = .ok (.getfield 80, 3) := by decide +kernel
theorem dX13_layWord_62 : decode cX13_layWord 62 = .ok (.iload_n 3, 1) := by decide +kernel
theorem dX13_layWord_63 : decode cX13_layWord 63 = .ok (.iaload, 1) := by decide +kernel
theorem dX13_layWord_64 : decode cX13_layWord 64 = .ok (.i2l, 1) := by decide +kernel
theorem dX13_layWord_65 : decode cX13_layWord 65 = .ok (.invokestatic 140, 3) := by decide +kernel
theorem dX13_layWord_68 : decode cX13_layWord 68 = .ok (.ifCond .ne 6, 3) := by decide +kernel
theorem dX13_layWord_71 : decode cX13_layWord 71 = .ok (.goto 29, 3) := by decide +kernel
theorem dX13_layWord_74 : decode cX13_layWord 74 = .ok (.aload_n 0, 1) := by decide +kernel
theorem dX13_layWord_75 : decode cX13_layWord 75 = .ok (.getfield 70, 3) := by decide +kernel
theorem dX13_layWord_78 : decode cX13_layWord 78 = .ok (.iload_n 3, 1) := by decide +kernel
theorem dX13_layWord_79 : decode cX13_layWord 79 = .ok (.iaload, 1) := by decide +kernel
theorem dX13_layWord_80 : decode cX13_layWord 80 = .ok (.iconst 2, 1) := by decide +kernel
theorem dX13_layWord_81 : decode cX13_layWord 81 = .ok (.if_icmp .ne 18, 3) := by decide +kernel
theorem dX13_layWord_84 : decode cX13_layWord 84 = .ok (.iload_n 1, 1) := by decide +kernel
theorem dX13_layWord_85 : decode cX13_layWord 85 = .ok (.aload_n 0, 1) := by decide +kernel
theorem dX13_layWord_86 : decode cX13_layWord 86 = .ok (.getfield 77, 3) := by decide +kernel
theorem dX13_layWord_89 : decode cX13_layWord 89 = .ok (.iload_n 3, 1) := by decide +kernel
theorem dX13_layWord_90 : decode cX13_layWord 90 = .ok (.iaload, 1) := by decide +kernel
theorem dX13_layWord_91 : decode cX13_layWord 91 = .ok (.if_icmp .ne 8, 3) := by decide +kernel
theorem dX13_layWord_94 : decode cX13_layWord 94 = .ok (.aload_n 0, 1) := by decide +kernel
theorem dX13_layWord_95 : decode cX13_layWord 95 = .ok (.iload_n 3, 1) := by decide +kernel
theorem dX13_layWord_96 : decode cX13_layWord 96 = .ok (.invokevirtual 266, 3) := by decide +kernel
theorem dX13_layWord_99 : decode cX13_layWord 99 = .ok (.return_, 1) := by decide +kernel
theorem dX13_layWord_100 : decode cX13_layWord 100 = .ok (.iinc 3 1, 3) := by decide +kernel
theorem dX13_layWord_103 : decode cX13_layWord 103 = .ok (.goto (-90), 3) := by decide +kernel
theorem dX13_layWord_106 : decode cX13_layWord 106 = .ok (.aload_n 0, 1) := by decide +kernel
theorem dX13_layWord_107 : decode cX13_layWord 107 = .ok (.aload_n 0, 1) := by decide +kernel
theorem dX13_layWord_108 : decode cX13_layWord 108 = .ok (.getfield 58, 3) := by decide +kernel
theorem dX13_layWord_111 : decode cX13_layWord 111 = .ok (.iload_n 1, 1) := by decide +kernel
theorem dX13_layWord_112 : decode cX13_layWord 112 = .ok (.laload, 1) := by decide +kernel
theorem dX13_layWord_113 : decode cX13_layWord 113 = .ok (.invokevirtual 263, 3) := by decide +kernel
theorem dX13_layWord_116 : decode cX13_layWord 116 = .ok (.return_, 1) := by decide +kernel
theorem dX13_make_0 : decode cX13_make 0 = .ok (.aload_n 0, 1) := by decide +kernel
theorem dX13_make_1 : decode cX13_make 1 = .ok (.iload_n 1, 1) := by decide +kernel
theorem dX13_make_2 : decode cX13_make 2 = .ok (.invokevirtual 291, 3) := by decide +kernel
theorem dX13_make_5 : decode cX13_make 5 = .ok (.aload_n 0, 1) := by decide +kernel
theorem dX13_make_6 : decode cX13_make 6 = .ok (.iconst 0, 1) := by decide +kernel
theorem dX13_make_7 : decode cX13_make 7 = .ok (.putfield 260, 3) := by decide +kernel
theorem dX13_make_10 : decode cX13_make 10 = .ok (.aload_n 0, 1) := by decide +kernel
theorem dX13_make_11 : decode cX13_make 11 = .ok (.getfield 150, 3) := by decide +kernel
theorem dX13_make_14 : decode cX13_make 14 = .ok (.ifCond .ne 9, 3) := by decide +kernel
theorem dX13_make_17 : decode cX13_make 17 = .ok (.aload_n 0, 1) := by decide +kernel
theorem dX13_make_18 : decode cX13_make 18 = .ok (.iconst 0, 1) := by decide +kernel
theorem dX13_make_19 : decode cX13_make 19 = .ok (.invokevirtual 280, 3) := by decide +kernel
theorem dX13_make_22 : decode cX13_make 22 = .ok (.return_, 1) := by decide +kernel
theorem dX13_make_23 : decode cX13_make 23 = .ok (.aload_n 0, 1) := by decide +kernel
theorem dX13_make_24 : decode cX13_make 24 = .ok (.iconst 0, 1) := by decide +kernel
theorem dX13_make_25 : decode cX13_make 25 = .ok (.invokevirtual 280, 3) := by decide +kernel
theorem dX13_make_28 : decode cX13_make 28 = .ok (.aload_n 0, 1) := by decide +kernel
theorem dX13_make_29 : decode cX13_make 29 = .ok (.iconst 0, 1) := by decide +kernel
theorem dX13_make_30 : decode cX13_make 30 = .ok (.aload_n 0, 1) := by decide +kernel
theorem dX13_make_31 : decode cX13_make 31 = .ok (.getfield 150, 3) := by decide +kernel
theorem dX13_make_34 : decode cX13_make 34 = .ok (.iconst 1, 1) := by decide +kernel
theorem dX13_make_35 : decode cX13_make 35 = .ok (.isub, 1) := by decide +kernel
theorem dX13_make_36 : decode cX13_make 36 = .ok (.iconst (-1), 1) := by decide +kernel
theorem dX13_make_37 : decode cX13_make 37 = .ok (.invokevirtual 269, 3) := by decide +kernel
theorem dX13_make_40 : decode cX13_make 40 = .ok (.aload_n 0, 1) := by decide +kernel
theorem dX13_make_41 : decode cX13_make 41 = .ok (.aload_n 0, 1) := by decide +kernel
theorem dX13_make_42 : decode cX13_make 42 = .ok (.getfield 150, 3) := by decide +kernel
theorem dX13_make_45 : decode cX13_make 45 = .ok (.invokevirtual 280, 3) := by decide +kernel
theorem dX13_make_48 : decode cX13_make 48 = .ok (.return_, 1) := by decide +kernel
theorem dX13_isText_0 : decode cX13_isText 0 = .ok (.iload_n 0, 1) := by decide +kernel
theorem dX13_isText_1 : decode cX13_isText 1 = .ok (.i2l, 1) := by decide +kernel
theorem dX13_isText_2 : decode cX13_isText 2 = .ok (.lconst 0, 1) := by decide +kernel
theorem dX13_isText_3 : decode cX13_isText 3 = .ok (.ldc2_w 258, 3) := by decide +kernel
theorem dX13_isText_6 : decode cX13_isText 6 = .ok (.invokestatic 140, 3) := by decide +kernel
theorem dX13_isText_9 : decode cX13_isText 9 = .ok (.ireturn, 1) := by decide +kernel
theorem dX13_wordsOf_0 : decode cX13_wordsOf 0 = .ok (.iload_n 1, 1) := by decide +kernel
theorem dX13_wordsOf_1 : decode cX13_wordsOf 1 = .ok (.iconst 2, 1) := by decide +kernel
theorem dX13_wordsOf_2 : decode cX13_wordsOf 2 = .ok (.if_icmp .ne 8, 3) := by decide +kernel
theorem dX13_wordsOf_5 : decode cX13_wordsOf 5 = .ok (.aload_n 0, 1) := by decide +kernel
theorem dX13_wordsOf_6 : decode cX13_wordsOf 6 = .ok (.iconst 0, 1) := by decide +kernel
theorem dX13_wordsOf_7 : decode cX13_wordsOf 7 = .ok (.invokevirtual 294, 3) := by decide +kernel
theorem dX13_wordsOf_10 : decode cX13_wordsOf 10 = .ok (.iload_n 1, 1) := by decide +kernel
theorem dX13_wordsOf_11 : decode cX13_wordsOf 11 = .ok (.ifCond .ne 10, 3) := by decide +kernel
theorem dX13_wordsOf_14 : decode cX13_wordsOf 14 = .ok (.aload_n 0, 1) := by decide +kernel
theorem dX13_wordsOf_15 : decode cX13_wordsOf 15 = .ok (.getfield 150, 3) := by decide +kernel
theorem dX13_wordsOf_18 : decode cX13_wordsOf 18 = .ok (.goto 19, 3) := by decide +kernel
theorem dX13_wordsOf_21 : decode cX13_wordsOf 21 = .ok (.iload_n 1, 1) := by decide +kernel
theorem dX13_wordsOf_22 : decode cX13_wordsOf 22 = .ok (.iconst 1, 1) := by decide +kernel
theorem dX13_wordsOf_23 : decode cX13_wordsOf 23 = .ok (.if_icmp .ne 10, 3) := by decide +kernel
theorem dX13_wordsOf_26 : decode cX13_wordsOf 26 = .ok (.aload_n 0, 1) := by decide +kernel
theorem dX13_wordsOf_27 : decode cX13_wordsOf 27 = .ok (.getfield 156, 3) := by decide +kernel
theorem dX13_wordsOf_30 : decode cX13_wordsOf 30 = .ok (.goto 7, 3) := by decide +kernel
theorem dX13_wordsOf_33 : decode cX13_wordsOf 33 = .ok (.aload_n 0, 1) := by decide +kernel
theorem dX13_wordsOf_34 : decode cX13_wordsOf 34 = .ok (.getfield 260, 3) := by decide +kernel
theorem dX13_wordsOf_37 : decode cX13_wordsOf 37 = .ok (.ireturn, 1) := by decide +kernel
theorem dX13_wordAt_0 : decode cX13_wordAt 0 = .ok (.iload_n 1, 1) := by decide +kernel
theorem dX13_wordAt_1 : decode cX13_wordAt 1 = .ok (.ifCond .ne 12, 3) := by decide +kernel
theorem dX13_wordAt_4 : decode cX13_wordAt 4 = .ok (.aload_n 0, 1) := by decide +kernel
theorem dX13_wordAt_5 : decode cX13_wordAt 5 = .ok (.getfield 58, 3) := by decide +kernel
theorem dX13_wordAt_8 : decode cX13_wordAt 8 = .ok (.iload_n 2, 1) := by decide +kernel
theorem dX13_wordAt_9 : decode cX13_wordAt 9 = .ok (.laload, 1) := by decide +kernel
theorem dX13_wordAt_10 : decode cX13_wordAt 10 = .ok (.goto 23, 3) := by decide +kernel
theorem dX13_wordAt_13 : decode cX13_wordAt 13 = .ok (.iload_n 1, 1) := by decide +kernel
theorem dX13_wordAt_14 : decode cX13_wordAt 14 = .ok (.iconst 1, 1) := by decide +kernel
theorem dX13_wordAt_15 : decode cX13_wordAt 15 = .ok (.if_icmp .ne 12, 3) := by decide +kernel
theorem dX13_wordAt_18 : decode cX13_wordAt 18 = .ok (.aload_n 0, 1) := by decide +kernel
theorem dX13_wordAt_19 : decode cX13_wordAt 19 = .ok (.getfield 61, 3) := by decide +kernel
theorem dX13_wordAt_22 : decode cX13_wordAt 22 = .ok (.iload_n 2, 1) := by decide +kernel
theorem dX13_wordAt_23 : decode cX13_wordAt 23 = .ok (.laload, 1) := by decide +kernel
theorem dX13_wordAt_24 : decode cX13_wordAt 24 = .ok (.goto 9, 3) := by decide +kernel
theorem dX13_wordAt_27 : decode cX13_wordAt 27 = .ok (.aload_n 0, 1) := by decide +kernel
theorem dX13_wordAt_28 : decode cX13_wordAt 28 = .ok (.getfield 64, 3) := by decide +kernel
theorem dX13_wordAt_31 : decode cX13_wordAt 31 = .ok (.iload_n 2, 1) := by decide +kernel
theorem dX13_wordAt_32 : decode cX13_wordAt 32 = .ok (.laload, 1) := by decide +kernel
theorem dX13_wordAt_33 : decode cX13_wordAt 33 = .ok (.lreturn, 1) := by decide +kernel
theorem dX13_word_0 : decode cX13_word 0 = .ok (.iload_n 1, 1) := by decide +kernel
theorem dX13_word_1 : decode cX13_word 1 = .ok (.invokestatic 297, 3) := by decide +kernel
theorem dX13_word_4 : decode cX13_word 4 = .ok (.ifCond .eq 29, 3) := by decide +kernel
theorem dX13_word_7 : decode cX13_word 7 = .ok (.iload_n 2, 1) := by decide +kernel
theorem dX13_word_8 : decode cX13_word 8 = .ok (.i2l, 1) := by decide +kernel
theorem dX13_word_9 : decode cX13_word 9 = .ok (.lconst 0, 1) := by decide +kernel
theorem dX13_word_10 : decode cX13_word 10 = .ok (.aload_n 0, 1) := by decide +kernel
theorem dX13_word_11 : decode cX13_word 11 = .ok (.iload_n 1, 1) := by decide +kernel
theorem dX13_word_12 : decode cX13_word 12 = .ok (.invokevirtual 300, 3) := by decide +kernel
theorem dX13_word_15 : decode cX13_word 15 = .ok (.i2l, 1) := by decide +kernel
theorem dX13_word_16 : decode cX13_word 16 = .ok (.lconst 1, 1) := by decide +kernel
theorem dX13_word_17 : decode cX13_word 17 = .ok (.lsub, 1) := by decide +kernel
theorem dX13_word_18 : decode cX13_word 18 = .ok (.invokestatic 140, 3) := by decide +kernel
theorem dX13_word_21 : decode cX13_word 21 = .ok (.ifCond .eq 12, 3) := by decide +kernel
theorem dX13_word_24 : decode cX13_word 24 = .ok (.aload_n 0, 1) := by decide +kernel
theorem dX13_word_25 : decode cX13_word 25 = .ok (.iload_n 1, 1) := by decide +kernel
theorem dX13_word_26 : decode cX13_word 26 = .ok (.iload_n 2, 1) := by decide +kernel
theorem dX13_word_27 : decode cX13_word 27 = .ok (.invokevirtual 303, 3) := by decide +kernel
theorem dX13_word_30 : decode cX13_word 30 = .ok (.goto 4, 3) := by decide +kernel
theorem dX13_word_33 : decode cX13_word 33 = .ok (.lconst 0, 1) := by decide +kernel
theorem dX13_word_34 : decode cX13_word 34 = .ok (.lreturn, 1) := by decide +kernel
theorem dX13_at_0 : decode cX13_at 0 = .ok (.sipush 321, 3) := by decide +kernel
theorem dX13_at_3 : decode cX13_at 3 = .ok (.iload_n 0, 1) := by decide +kernel
theorem dX13_at_4 : decode cX13_at 4 = .ok (.imul, 1) := by decide +kernel
theorem dX13_at_5 : decode cX13_at 5 = .ok (.iload_n 1, 1) := by decide +kernel
theorem dX13_at_6 : decode cX13_at 6 = .ok (.iadd, 1) := by decide +kernel
theorem dX13_at_7 : decode cX13_at 7 = .ok (.ireturn, 1) := by decide +kernel
theorem dX13_apart_0 : decode cX13_apart 0 = .ok (.iload_n 2, 1) := by decide +kernel
theorem dX13_apart_1 : decode cX13_apart 1 = .ok (.istore 5, 2) := by decide +kernel
theorem dX13_apart_3 : decode cX13_apart 3 = .ok (.iload 5, 2) := by decide +kernel
theorem dX13_apart_5 : decode cX13_apart 5 = .ok (.ifCond .lt 161, 3) := by decide +kernel
theorem dX13_apart_8 : decode cX13_apart 8 = .ok (.iload 4, 2) := by decide +kernel
theorem dX13_apart_10 : decode cX13_apart 10 = .ok (.istore 6, 2) := by decide +kernel
theorem dX13_apart_12 : decode cX13_apart 12 = .ok (.iload 6, 2) := by decide +kernel
theorem dX13_apart_14 : decode cX13_apart 14 = .ok (.ifCond .lt 146, 3) := by decide +kernel
theorem dX13_apart_17 : decode cX13_apart 17 = .ok (.iload 5, 2) := by decide +kernel
theorem dX13_apart_19 : decode cX13_apart 19 = .ok (.iload_n 2, 1) := by decide +kernel
theorem dX13_apart_20 : decode cX13_apart 20 = .ok (.if_icmp .ne 11, 3) := by decide +kernel
theorem dX13_apart_23 : decode cX13_apart 23 = .ok (.iload 4, 2) := by decide +kernel
theorem dX13_apart_25 : decode cX13_apart 25 = .ok (.iload 6, 2) := by decide +kernel
theorem dX13_apart_27 : decode cX13_apart 27 = .ok (.isub, 1) := by decide +kernel
theorem dX13_apart_28 : decode cX13_apart 28 = .ok (.goto 57, 3) := by decide +kernel
theorem dX13_apart_31 : decode cX13_apart 31 = .ok (.iload 6, 2) := by decide +kernel
theorem dX13_apart_33 : decode cX13_apart 33 = .ok (.iload 4, 2) := by decide +kernel
theorem dX13_apart_35 : decode cX13_apart 35 = .ok (.if_icmp .ne 10, 3) := by decide +kernel
theorem dX13_apart_38 : decode cX13_apart 38 = .ok (.iload_n 2, 1) := by decide +kernel
theorem dX13_apart_39 : decode cX13_apart 39 = .ok (.iload 5, 2) := by decide +kernel
theorem dX13_apart_41 : decode cX13_apart 41 = .ok (.isub, 1) := by decide +kernel
theorem dX13_apart_42 : decode cX13_apart 42 = .ok (.goto 43, 3) := by decide +kernel
theorem dX13_apart_45 : decode cX13_apart 45 = .ok (.aload_n 0, 1) := by decide +kernel
theorem dX13_apart_46 : decode cX13_apart 46 = .ok (.getfield 121, 3) := by decide +kernel
theorem dX13_apart_49 : decode cX13_apart 49 = .ok (.iload 5, 2) := by decide +kernel
theorem dX13_apart_51 : decode cX13_apart 51 = .ok (.iconst 1, 1) := by decide +kernel
theorem dX13_apart_52 : decode cX13_apart 52 = .ok (.iadd, 1) := by decide +kernel
theorem dX13_apart_53 : decode cX13_apart 53 = .ok (.iload 6, 2) := by decide +kernel
theorem dX13_apart_55 : decode cX13_apart 55 = .ok (.iconst 1, 1) := by decide +kernel
theorem dX13_apart_56 : decode cX13_apart 56 = .ok (.iadd, 1) := by decide +kernel
theorem dX13_apart_57 : decode cX13_apart 57 = .ok (.invokestatic 307, 3) := by decide +kernel
theorem dX13_apart_60 : decode cX13_apart 60 = .ok (.iaload, 1) := by decide +kernel
theorem dX13_apart_61 : decode cX13_apart 61 = .ok (.aload_n 0, 1) := by decide +kernel
theorem dX13_apart_62 : decode cX13_apart 62 = .ok (.iload_n 1, 1) := by decide +kernel
theorem dX13_apart_63 : decode cX13_apart 63 = .ok (.iload 5, 2) := by decide +kernel
theorem dX13_apart_65 : decode cX13_apart 65 = .ok (.invokevirtual 303, 3) := by decide +kernel
theorem dX13_apart_68 : decode cX13_apart 68 = .ok (.aload_n 0, 1) := by decide +kernel
theorem dX13_apart_69 : decode cX13_apart 69 = .ok (.iload_n 3, 1) := by decide +kernel
theorem dX13_apart_70 : decode cX13_apart 70 = .ok (.iload 6, 2) := by decide +kernel
theorem dX13_apart_72 : decode cX13_apart 72 = .ok (.invokevirtual 303, 3) := by decide +kernel
theorem dX13_apart_75 : decode cX13_apart 75 = .ok (.lcmp, 1) := by decide +kernel
theorem dX13_apart_76 : decode cX13_apart 76 = .ok (.ifCond .ne 7, 3) := by decide +kernel
theorem dX13_apart_79 : decode cX13_apart 79 = .ok (.iconst 0, 1) := by decide +kernel
theorem dX13_apart_80 : decode cX13_apart 80 = .ok (.goto 4, 3) := by decide +kernel
theorem dX13_apart_83 : decode cX13_apart 83 = .ok (.iconst 1, 1) := by decide +kernel
theorem dX13_apart_84 : decode cX13_apart 84 = .ok (.iadd, 1) := by decide +kernel
theorem dX13_apart_85 : decode cX13_apart 85 = .ok (.istore 7, 2) := by decide +kernel
theorem dX13_apart_87 : decode cX13_apart 87 = .ok (.iload 5, 2) := by decide +kernel
theorem dX13_apart_89 : decode cX13_apart 89 = .ok (.iload_n 2, 1) := by decide +kernel
theorem dX13_apart_90 : decode cX13_apart 90 = .ok (.if_icmp .ge 50, 3) := by decide +kernel
theorem dX13_apart_93 : decode cX13_apart 93 = .ok (.iload 6, 2) := by decide +kernel
theorem dX13_apart_95 : decode cX13_apart 95 = .ok (.iload 4, 2) := by decide +kernel
theorem dX13_apart_97 : decode cX13_apart 97 = .ok (.if_icmp .ge 43, 3) := by decide +kernel
theorem dX13_apart_100 : decode cX13_apart 100 = .ok (.iload 7, 2) := by decide +kernel
theorem dX13_apart_102 : decode cX13_apart 102 = .ok (.iconst 1, 1) := by decide +kernel
theorem dX13_apart_103 : decode cX13_apart 103 = .ok (.aload_n 0, 1) := by decide +kernel
theorem dX13_apart_104 : decode cX13_apart 104 = .ok (.getfield 121, 3) := by decide +kernel
theorem dX13_apart_107 : decode cX13_apart 107 = .ok (.iload 5, 2) := by decide +kernel
theorem dX13_apart_109 : decode cX13_apart 109 = .ok (.iconst 1, 1) := by decide +kernel
theorem dX13_apart_110 : decode cX13_apart 110 = .ok (.iadd, 1) := by decide +kernel
theorem dX13_apart_111 : decode cX13_apart 111 = .ok (.iload 6, 2) := by decide +kernel
theorem dX13_apart_113 : decode cX13_apart 113 = .ok (.invokestatic 307, 3) := by decide +kernel
theorem dX13_apart_116 : decode cX13_apart 116 = .ok (.iaload, 1) := by decide +kernel
theorem dX13_apart_117 : decode cX13_apart 117 = .ok (.aload_n 0, 1) := by decide +kernel
theorem dX13_apart_118 : decode cX13_apart 118 = .ok (.getfield 121, 3) := by decide +kernel
theorem dX13_apart_121 : decode cX13_apart 121 = .ok (.iload 5, 2) := by decide +kernel
theorem dX13_apart_123 : decode cX13_apart 123 = .ok (.iload 6, 2) := by decide +kernel
theorem dX13_apart_125 : decode cX13_apart 125 = .ok (.iconst 1, 1) := by decide +kernel
theorem dX13_apart_126 : decode cX13_apart 126 = .ok (.iadd, 1) := by decide +kernel
theorem dX13_apart_127 : decode cX13_apart 127 = .ok (.invokestatic 307, 3) := by decide +kernel
theorem dX13_apart_130 : decode cX13_apart 130 = .ok (.iaload, 1) := by decide +kernel
theorem dX13_apart_131 : decode cX13_apart 131 = .ok (.invokestatic 310, 3) := by decide +kernel
theorem dX13_apart_134 : decode cX13_apart 134 = .ok (.iadd, 1) := by decide +kernel
theorem dX13_apart_135 : decode cX13_apart 135 = .ok (.invokestatic 310, 3) := by decide +kernel
theorem dX13_apart_138 : decode cX13_apart 138 = .ok (.istore 7, 2) := by decide +kernel
theorem dX13_apart_140 : decode cX13_apart 140 = .ok (.aload_n 0, 1) := by decide +kernel
theorem dX13_apart_141 : decode cX13_apart 141 = .ok (.getfield 121, 3) := by decide +kernel
theorem dX13_apart_144 : decode cX13_apart 144 = .ok (.iload 5, 2) := by decide +kernel
theorem dX13_apart_146 : decode cX13_apart 146 = .ok (.iload 6, 2) := by decide +kernel
theorem dX13_apart_148 : decode cX13_apart 148 = .ok (.invokestatic 307, 3) := by decide +kernel
theorem dX13_apart_151 : decode cX13_apart 151 = .ok (.iload 7, 2) := by decide +kernel
theorem dX13_apart_153 : decode cX13_apart 153 = .ok (.iastore, 1) := by decide +kernel
theorem dX13_apart_154 : decode cX13_apart 154 = .ok (.iinc 6 (-1), 3) := by decide +kernel
theorem dX13_apart_157 : decode cX13_apart 157 = .ok (.goto (-145), 3) := by decide +kernel
theorem dX13_apart_160 : decode cX13_apart 160 = .ok (.iinc 5 (-1), 3) := by decide +kernel
theorem dX13_apart_163 : decode cX13_apart 163 = .ok (.goto (-160), 3) := by decide +kernel
theorem dX13_apart_166 : decode cX13_apart 166 = .ok (.aload_n 0, 1) := by decide +kernel
theorem dX13_apart_167 : decode cX13_apart 167 = .ok (.getfield 121, 3) := by decide +kernel
theorem dX13_apart_170 : decode cX13_apart 170 = .ok (.iconst 0, 1) := by decide +kernel
theorem dX13_apart_171 : decode cX13_apart 171 = .ok (.iaload, 1) := by decide +kernel
theorem dX13_apart_172 : decode cX13_apart 172 = .ok (.ireturn, 1) := by decide +kernel
theorem dX13_distance_0 : decode cX13_distance 0 = .ok (.iload_n 1, 1) := by decide +kernel
theorem dX13_distance_1 : decode cX13_distance 1 = .ok (.invokestatic 297, 3) := by decide +kernel
theorem dX13_distance_4 : decode cX13_distance 4 = .ok (.ifCond .eq 10, 3) := by decide +kernel
theorem dX13_distance_7 : decode cX13_distance 7 = .ok (.iload_n 2, 1) := by decide +kernel
theorem dX13_distance_8 : decode cX13_distance 8 = .ok (.invokestatic 297, 3) := by decide +kernel
theorem dX13_distance_11 : decode cX13_distance 11 = .ok (.ifCond .ne 6, 3) := by decide +kernel
theorem dX13_distance_14 : decode cX13_distance 14 = .ok (.bipush (-2), 2) := by decide +kernel
theorem dX13_distance_16 : decode cX13_distance 16 = .ok (.ireturn, 1) := by decide +kernel
theorem dX13_distance_17 : decode cX13_distance 17 = .ok (.aload_n 0, 1) := by decide +kernel
theorem dX13_distance_18 : decode cX13_distance 18 = .ok (.iload_n 1, 1) := by decide +kernel
theorem dX13_distance_19 : decode cX13_distance 19 = .ok (.invokevirtual 300, 3) := by decide +kernel
theorem dX13_distance_22 : decode cX13_distance 22 = .ok (.istore_n 3, 1) := by decide +kernel
theorem dX13_distance_23 : decode cX13_distance 23 = .ok (.aload_n 0, 1) := by decide +kernel
theorem dX13_distance_24 : decode cX13_distance 24 = .ok (.iload_n 2, 1) := by decide +kernel
theorem dX13_distance_25 : decode cX13_distance 25 = .ok (.invokevirtual 300, 3) := by decide +kernel
theorem dX13_distance_28 : decode cX13_distance 28 = .ok (.istore 4, 2) := by decide +kernel
theorem dX13_distance_30 : decode cX13_distance 30 = .ok (.aload_n 0, 1) := by decide +kernel
theorem dX13_distance_31 : decode cX13_distance 31 = .ok (.iload_n 1, 1) := by decide +kernel
theorem dX13_distance_32 : decode cX13_distance 32 = .ok (.iload_n 3, 1) := by decide +kernel
theorem dX13_distance_33 : decode cX13_distance 33 = .ok (.iload_n 2, 1) := by decide +kernel
theorem dX13_distance_34 : decode cX13_distance 34 = .ok (.iload 4, 2) := by decide +kernel
theorem dX13_distance_36 : decode cX13_distance 36 = .ok (.invokevirtual 315, 3) := by decide +kernel
theorem dX13_distance_39 : decode cX13_distance 39 = .ok (.ireturn, 1) := by decide +kernel
theorem dX13_costs_0 : decode cX13_costs 0 = .ok (.iload_n 1, 1) := by decide +kernel
theorem dX13_costs_1 : decode cX13_costs 1 = .ok (.i2l, 1) := by decide +kernel
theorem dX13_costs_2 : decode cX13_costs 2 = .ok (.lconst 1, 1) := by decide +kernel
theorem dX13_costs_3 : decode cX13_costs 3 = .ok (.ldc2_w 253, 3) := by decide +kernel
theorem dX13_costs_6 : decode cX13_costs 6 = .ok (.invokestatic 140, 3) := by decide +kernel
theorem dX13_costs_9 : decode cX13_costs 9 = .ok (.ifCond .eq 15, 3) := by decide +kernel
theorem dX13_costs_12 : decode cX13_costs 12 = .ok (.iload_n 2, 1) := by decide +kernel
theorem dX13_costs_13 : decode cX13_costs 13 = .ok (.i2l, 1) := by decide +kernel
theorem dX13_costs_14 : decode cX13_costs 14 = .ok (.lconst 1, 1) := by decide +kernel
theorem dX13_costs_15 : decode cX13_costs 15 = .ok (.ldc2_w 253, 3) := by decide +kernel
theorem dX13_costs_18 : decode cX13_costs 18 = .ok (.invokestatic 140, 3) := by decide +kernel
theorem dX13_costs_21 : decode cX13_costs 21 = .ok (.ifCond .ne 6, 3) := by decide +kernel
theorem dX13_costs_24 : decode cX13_costs 24 = .ok (.bipush (-2), 2) := by decide +kernel
theorem dX13_costs_26 : decode cX13_costs 26 = .ok (.ireturn, 1) := by decide +kernel
theorem dX13_costs_27 : decode cX13_costs 27 = .ok (.aload_n 0, 1) := by decide +kernel
theorem dX13_costs_28 : decode cX13_costs 28 = .ok (.getfield 108, 3) := by decide +kernel
theorem dX13_costs_31 : decode cX13_costs 31 = .ok (.iconst 0, 1) := by decide +kernel
theorem dX13_costs_32 : decode cX13_costs 32 = .ok (.iload_n 1, 1) := by decide +kernel
theorem dX13_costs_33 : decode cX13_costs 33 = .ok (.iastore, 1) := by decide +kernel
theorem dX13_costs_34 : decode cX13_costs 34 = .ok (.aload_n 0, 1) := by decide +kernel
theorem dX13_costs_35 : decode cX13_costs 35 = .ok (.getfield 108, 3) := by decide +kernel
theorem dX13_costs_38 : decode cX13_costs 38 = .ok (.iconst 1, 1) := by decide +kernel
theorem dX13_costs_39 : decode cX13_costs 39 = .ok (.iload_n 2, 1) := by decide +kernel
theorem dX13_costs_40 : decode cX13_costs 40 = .ok (.iastore, 1) := by decide +kernel
theorem dX13_costs_41 : decode cX13_costs 41 = .ok (.iconst 1, 1) := by decide +kernel
theorem dX13_costs_42 : decode cX13_costs 42 = .ok (.ireturn, 1) := by decide +kernel
theorem dX13_bits_0 : decode cX13_bits 0 = .ok (.iconst 0, 1) := by decide +kernel
theorem dX13_bits_1 : decode cX13_bits 1 = .ok (.istore_n 1, 1) := by decide +kernel
theorem dX13_bits_2 : decode cX13_bits 2 = .ok (.iconst 0, 1) := by decide +kernel
theorem dX13_bits_3 : decode cX13_bits 3 = .ok (.istore_n 2, 1) := by decide +kernel
theorem dX13_bits_4 : decode cX13_bits 4 = .ok (.iload_n 2, 1) := by decide +kernel
theorem dX13_bits_5 : decode cX13_bits 5 = .ok (.bipush 31, 2) := by decide +kernel
theorem dX13_bits_7 : decode cX13_bits 7 = .ok (.if_icmp .ge 17, 3) := by decide +kernel
theorem dX13_bits_10 : decode cX13_bits 10 = .ok (.iload_n 1, 1) := by decide +kernel
theorem dX13_bits_11 : decode cX13_bits 11 = .ok (.iload_n 0, 1) := by decide +kernel
theorem dX13_bits_12 : decode cX13_bits 12 = .ok (.iload_n 2, 1) := by decide +kernel
theorem dX13_bits_13 : decode cX13_bits 13 = .ok (.ishr, 1) := by decide +kernel
theorem dX13_bits_14 : decode cX13_bits 14 = .ok (.iconst 1, 1) := by decide +kernel
theorem dX13_bits_15 : decode cX13_bits 15 = .ok (.iand, 1) := by decide +kernel
theorem dX13_bits_16 : decode cX13_bits 16 = .ok (.iadd, 1) := by decide +kernel
theorem dX13_bits_17 : decode cX13_bits 17 = .ok (.istore_n 1, 1) := by decide +kernel
theorem dX13_bits_18 : decode cX13_bits 18 = .ok (.iinc 2 1, 3) := by decide +kernel
theorem dX13_bits_21 : decode cX13_bits 21 = .ok (.goto (-17), 3) := by decide +kernel
theorem dX13_bits_24 : decode cX13_bits 24 = .ok (.iload_n 1, 1) := by decide +kernel
theorem dX13_bits_25 : decode cX13_bits 25 = .ok (.ireturn, 1) := by decide +kernel
theorem dX13_hold_0 : decode cX13_hold 0 = .ok (.aload_n 0, 1) := by decide +kernel
theorem dX13_hold_1 : decode cX13_hold 1 = .ok (.invokevirtual 255, 3) := by decide +kernel
theorem dX13_hold_4 : decode cX13_hold 4 = .ok (.iconst 0, 1) := by decide +kernel
theorem dX13_hold_5 : decode cX13_hold 5 = .ok (.istore_n 1, 1) := by decide +kernel
theorem dX13_hold_6 : decode cX13_hold 6 = .ok (.iconst 0, 1) := by decide +kernel
theorem dX13_hold_7 : decode cX13_hold 7 = .ok (.istore_n 2, 1) := by decide +kernel
theorem dX13_hold_8 : decode cX13_hold 8 = .ok (.iload_n 2, 1) := by decide +kernel
theorem dX13_hold_9 : decode cX13_hold 9 = .ok (.aload_n 0, 1) := by decide +kernel
theorem dX13_hold_10 : decode cX13_hold 10 = .ok (.getfield 153, 3) := by decide +kernel
theorem dX13_hold_13 : decode cX13_hold 13 = .ok (.if_icmp .ge 26, 3) := by decide +kernel
theorem dX13_hold_16 : decode cX13_hold 16 = .ok (.iload_n 1, 1) := by decide +kernel
theorem dX13_hold_17 : decode cX13_hold 17 = .ok (.aload_n 0, 1) := by decide +kernel
theorem dX13_hold_18 : decode cX13_hold 18 = .ok (.getfield 111, 3) := by decide +kernel
theorem dX13_hold_21 : decode cX13_hold 21 = .ok (.iload_n 2, 1) := by decide +kernel
theorem dX13_hold_22 : decode cX13_hold 22 = .ok (.iaload, 1) := by decide +kernel
theorem dX13_hold_23 : decode cX13_hold 23 = .ok (.ifCond .ne 7, 3) := by decide +kernel
theorem dX13_hold_26 : decode cX13_hold 26 = .ok (.iconst 1, 1) := by decide +kernel
theorem dX13_hold_27 : decode cX13_hold 27 = .ok (.goto 4, 3) := by decide +kernel
theorem dX13_hold_30 : decode cX13_hold 30 = .ok (.iconst 0, 1) := by decide +kernel
theorem dX13_hold_31 : decode cX13_hold 31 = .ok (.iadd, 1) := by decide +kernel
theorem dX13_hold_32 : decode cX13_hold 32 = .ok (.istore_n 1, 1) := by decide +kernel
theorem dX13_hold_33 : decode cX13_hold 33 = .ok (.iinc 2 1, 3) := by decide +kernel
theorem dX13_hold_36 : decode cX13_hold 36 = .ok (.goto (-28), 3) := by decide +kernel
theorem dX13_hold_39 : decode cX13_hold 39 = .ok (.iload_n 1, 1) := by decide +kernel
theorem dX13_hold_40 : decode cX13_hold 40 = .ok (.bipush 8, 2) := by decide +kernel
theorem dX13_hold_42 : decode cX13_hold 42 = .ok (.if_icmp .le 6, 3) := by decide +kernel
theorem dX13_hold_45 : decode cX13_hold 45 = .ok (.bipush (-3), 2) := by decide +kernel
theorem dX13_hold_47 : decode cX13_hold 47 = .ok (.ireturn, 1) := by decide +kernel
theorem dX13_hold_48 : decode cX13_hold 48 = .ok (.iconst (-1), 1) := by decide +kernel
theorem dX13_hold_49 : decode cX13_hold 49 = .ok (.istore_n 2, 1) := by decide +kernel
theorem dX13_hold_50 : decode cX13_hold 50 = .ok (.iconst 0, 1) := by decide +kernel
theorem dX13_hold_51 : decode cX13_hold 51 = .ok (.istore_n 3, 1) := by decide +kernel
theorem dX13_hold_52 : decode cX13_hold 52 = .ok (.iconst 0, 1) := by decide +kernel
theorem dX13_hold_53 : decode cX13_hold 53 = .ok (.istore 4, 2) := by decide +kernel
theorem dX13_hold_55 : decode cX13_hold 55 = .ok (.iload 4, 2) := by decide +kernel
theorem dX13_hold_57 : decode cX13_hold 57 = .ok (.iconst 1, 1) := by decide +kernel
theorem dX13_hold_58 : decode cX13_hold 58 = .ok (.iload_n 1, 1) := by decide +kernel
theorem dX13_hold_59 : decode cX13_hold 59 = .ok (.ishl, 1) := by decide +kernel
theorem dX13_hold_60 : decode cX13_hold 60 = .ok (.if_icmp .ge 101, 3) := by decide +kernel
theorem dX13_hold_63 : decode cX13_hold 63 = .ok (.aload_n 0, 1) := by decide +kernel
theorem dX13_hold_64 : decode cX13_hold 64 = .ok (.iload 4, 2) := by decide +kernel
theorem dX13_hold_66 : decode cX13_hold 66 = .ok (.invokevirtual 294, 3) := by decide +kernel
theorem dX13_hold_69 : decode cX13_hold 69 = .ok (.aload_n 0, 1) := by decide +kernel
theorem dX13_hold_70 : decode cX13_hold 70 = .ok (.getfield 108, 3) := by decide +kernel
theorem dX13_hold_73 : decode cX13_hold 73 = .ok (.iconst 0, 1) := by decide +kernel
theorem dX13_hold_74 : decode cX13_hold 74 = .ok (.iaload, 1) := by decide +kernel
theorem dX13_hold_75 : decode cX13_hold 75 = .ok (.aload_n 0, 1) := by decide +kernel
theorem dX13_hold_76 : decode cX13_hold 76 = .ok (.iconst 2, 1) := by decide +kernel
theorem dX13_hold_77 : decode cX13_hold 77 = .ok (.aload_n 0, 1) := by decide +kernel
theorem dX13_hold_78 : decode cX13_hold 78 = .ok (.getfield 260, 3) := by decide +kernel
theorem dX13_hold_81 : decode cX13_hold 81 = .ok (.iconst 1, 1) := by decide +kernel
theorem dX13_hold_82 : decode cX13_hold 82 = .ok (.aload_n 0, 1) := by decide +kernel
theorem dX13_hold_83 : decode cX13_hold 83 = .ok (.getfield 156, 3) := by decide +kernel
theorem dX13_hold_86 : decode cX13_hold 86 = .ok (.invokevirtual 315, 3) := by decide +kernel
theorem dX13_hold_89 : decode cX13_hold 89 = .ok (.imul, 1) := by decide +kernel
theorem dX13_hold_90 : decode cX13_hold 90 = .ok (.aload_n 0, 1) := by decide +kernel
theorem dX13_hold_91 : decode cX13_hold 91 = .ok (.getfield 108, 3) := by decide +kernel
theorem dX13_hold_94 : decode cX13_hold 94 = .ok (.iconst 1, 1) := by decide +kernel
theorem dX13_hold_95 : decode cX13_hold 95 = .ok (.iaload, 1) := by decide +kernel
theorem dX13_hold_96 : decode cX13_hold 96 = .ok (.iload 4, 2) := by decide +kernel
theorem dX13_hold_98 : decode cX13_hold 98 = .ok (.invokestatic 319, 3) := by decide +kernel
theorem dX13_hold_101 : decode cX13_hold 101 = .ok (.imul, 1) := by decide +kernel
theorem dX13_hold_102 : decode cX13_hold 102 = .ok (.iadd, 1) := by decide +kernel
theorem dX13_hold_103 : decode cX13_hold 103 = .ok (.istore 5, 2) := by decide +kernel
theorem dX13_hold_105 : decode cX13_hold 105 = .ok (.iload_n 2, 1) := by decide +kernel
theorem dX13_hold_106 : decode cX13_hold 106 = .ok (.iconst (-1), 1) := by decide +kernel
theorem dX13_hold_107 : decode cX13_hold 107 = .ok (.if_icmp .eq 27, 3) := by decide +kernel
theorem dX13_hold_110 : decode cX13_hold 110 = .ok (.iload 5, 2) := by decide +kernel
theorem dX13_hold_112 : decode cX13_hold 112 = .ok (.iload_n 3, 1) := by decide +kernel
theorem dX13_hold_113 : decode cX13_hold 113 = .ok (.if_icmp .lt 21, 3) := by decide +kernel
theorem dX13_hold_116 : decode cX13_hold 116 = .ok (.iload 5, 2) := by decide +kernel
theorem dX13_hold_118 : decode cX13_hold 118 = .ok (.iload_n 3, 1) := by decide +kernel
theorem dX13_hold_119 : decode cX13_hold 119 = .ok (.if_icmp .ne 19, 3) := by decide +kernel
theorem dX13_hold_122 : decode cX13_hold 122 = .ok (.iload 4, 2) := by decide +kernel
theorem dX13_hold_124 : decode cX13_hold 124 = .ok (.invokestatic 319, 3) := by decide +kernel
theorem dX13_hold_127 : decode cX13_hold 127 = .ok (.iload_n 2, 1) := by decide +kernel
theorem dX13_hold_128 : decode cX13_hold 128 = .ok (.invokestatic 319, 3) := by decide +kernel
theorem dX13_hold_131 : decode cX13_hold 131 = .ok (.if_icmp .ge 7, 3) := by decide +kernel
theorem dX13_hold_134 : decode cX13_hold 134 = .ok (.iconst 1, 1) := by decide +kernel
theorem dX13_hold_135 : decode cX13_hold 135 = .ok (.goto 4, 3) := by decide +kernel
theorem dX13_hold_138 : decode cX13_hold 138 = .ok (.iconst 0, 1) := by decide +kernel
theorem dX13_hold_139 : decode cX13_hold 139 = .ok (.istore 6, 2) := by decide +kernel
theorem dX13_hold_141 : decode cX13_hold 141 = .ok (.iload 6, 2) := by decide +kernel
theorem dX13_hold_143 : decode cX13_hold 143 = .ok (.ifCond .ne 6, 3) := by decide +kernel
theorem dX13_hold_146 : decode cX13_hold 146 = .ok (.goto 9, 3) := by decide +kernel
theorem dX13_hold_149 : decode cX13_hold 149 = .ok (.iload 4, 2) := by decide +kernel
theorem dX13_hold_151 : decode cX13_hold 151 = .ok (.istore_n 2, 1) := by decide +kernel
theorem dX13_hold_152 : decode cX13_hold 152 = .ok (.iload 5, 2) := by decide +kernel
theorem dX13_hold_154 : decode cX13_hold 154 = .ok (.istore_n 3, 1) := by decide +kernel
theorem dX13_hold_155 : decode cX13_hold 155 = .ok (.iinc 4 1, 3) := by decide +kernel
theorem dX13_hold_158 : decode cX13_hold 158 = .ok (.goto (-103), 3) := by decide +kernel
theorem dX13_hold_161 : decode cX13_hold 161 = .ok (.aload_n 0, 1) := by decide +kernel
theorem dX13_hold_162 : decode cX13_hold 162 = .ok (.iconst 1, 1) := by decide +kernel
theorem dX13_hold_163 : decode cX13_hold 163 = .ok (.putfield 322, 3) := by decide +kernel
theorem dX13_hold_166 : decode cX13_hold 166 = .ok (.aload_n 0, 1) := by decide +kernel
theorem dX13_hold_167 : decode cX13_hold 167 = .ok (.iload_n 2, 1) := by decide +kernel
theorem dX13_hold_168 : decode cX13_hold 168 = .ok (.putfield 326, 3) := by decide +kernel
theorem dX13_hold_171 : decode cX13_hold 171 = .ok (.aload_n 0, 1) := by decide +kernel
theorem dX13_hold_172 : decode cX13_hold 172 = .ok (.iconst 0, 1) := by decide +kernel
theorem dX13_hold_173 : decode cX13_hold 173 = .ok (.putfield 329, 3) := by decide +kernel
theorem dX13_hold_176 : decode cX13_hold 176 = .ok (.iconst 0, 1) := by decide +kernel
theorem dX13_hold_177 : decode cX13_hold 177 = .ok (.istore 4, 2) := by decide +kernel
theorem dX13_hold_179 : decode cX13_hold 179 = .ok (.iconst 0, 1) := by decide +kernel
theorem dX13_hold_180 : decode cX13_hold 180 = .ok (.istore 5, 2) := by decide +kernel
theorem dX13_hold_182 : decode cX13_hold 182 = .ok (.iload 5, 2) := by decide +kernel
theorem dX13_hold_184 : decode cX13_hold 184 = .ok (.aload_n 0, 1) := by decide +kernel
theorem dX13_hold_185 : decode cX13_hold 185 = .ok (.getfield 153, 3) := by decide +kernel
theorem dX13_hold_188 : decode cX13_hold 188 = .ok (.if_icmp .ge 56, 3) := by decide +kernel
theorem dX13_hold_191 : decode cX13_hold 191 = .ok (.aload_n 0, 1) := by decide +kernel
theorem dX13_hold_192 : decode cX13_hold 192 = .ok (.getfield 111, 3) := by decide +kernel
theorem dX13_hold_195 : decode cX13_hold 195 = .ok (.iload 5, 2) := by decide +kernel
theorem dX13_hold_197 : decode cX13_hold 197 = .ok (.iaload, 1) := by decide +kernel
theorem dX13_hold_198 : decode cX13_hold 198 = .ok (.ifCond .eq 6, 3) := by decide +kernel
theorem dX13_hold_201 : decode cX13_hold 201 = .ok (.goto 37, 3) := by decide +kernel
theorem dX13_hold_204 : decode cX13_hold 204 = .ok (.iload_n 2, 1) := by decide +kernel
theorem dX13_hold_205 : decode cX13_hold 205 = .ok (.iload 4, 2) := by decide +kernel
theorem dX13_hold_207 : decode cX13_hold 207 = .ok (.ishr, 1) := by decide +kernel
theorem dX13_hold_208 : decode cX13_hold 208 = .ok (.iconst 1, 1) := by decide +kernel
theorem dX13_hold_209 : decode cX13_hold 209 = .ok (.iand, 1) := by decide +kernel
theorem dX13_hold_210 : decode cX13_hold 210 = .ok (.iconst 1, 1) := by decide +kernel
theorem dX13_hold_211 : decode cX13_hold 211 = .ok (.if_icmp .ne 24, 3) := by decide +kernel
theorem dX13_hold_214 : decode cX13_hold 214 = .ok (.aload_n 0, 1) := by decide +kernel
theorem dX13_hold_215 : decode cX13_hold 215 = .ok (.getfield 124, 3) := by decide +kernel
theorem dX13_hold_218 : decode cX13_hold 218 = .ok (.aload_n 0, 1) := by decide +kernel
theorem dX13_hold_219 : decode cX13_hold 219 = .ok (.getfield 329, 3) := by decide +kernel
theorem dX13_hold_222 : decode cX13_hold 222 = .ok (.iload 5, 2) := by decide +kernel
theorem dX13_hold_224 : decode cX13_hold 224 = .ok (.iastore, 1) := by decide +kernel
theorem dX13_hold_225 : decode cX13_hold 225 = .ok (.aload_n 0, 1) := by decide +kernel
theorem dX13_hold_226 : decode cX13_hold 226 = .ok (.dup, 1) := by decide +kernel
theorem dX13_hold_227 : decode cX13_hold 227 = .ok (.getfield 329, 3) := by decide +kernel
theorem dX13_hold_230 : decode cX13_hold 230 = .ok (.iconst 1, 1) := by decide +kernel
theorem dX13_hold_231 : decode cX13_hold 231 = .ok (.iadd, 1) := by decide +kernel
theorem dX13_hold_232 : decode cX13_hold 232 = .ok (.putfield 329, 3) := by decide +kernel
theorem dX13_hold_235 : decode cX13_hold 235 = .ok (.iinc 4 1, 3) := by decide +kernel
theorem dX13_hold_238 : decode cX13_hold 238 = .ok (.iinc 5 1, 3) := by decide +kernel
theorem dX13_hold_241 : decode cX13_hold 241 = .ok (.goto (-59), 3) := by decide +kernel
theorem dX13_hold_244 : decode cX13_hold 244 = .ok (.aload_n 0, 1) := by decide +kernel
theorem dX13_hold_245 : decode cX13_hold 245 = .ok (.iload_n 2, 1) := by decide +kernel
theorem dX13_hold_246 : decode cX13_hold 246 = .ok (.invokevirtual 294, 3) := by decide +kernel
theorem dX13_hold_249 : decode cX13_hold 249 = .ok (.aload_n 0, 1) := by decide +kernel
theorem dX13_hold_250 : decode cX13_hold 250 = .ok (.invokevirtual 332, 3) := by decide +kernel
theorem dX13_hold_253 : decode cX13_hold 253 = .ok (.iload_n 3, 1) := by decide +kernel
theorem dX13_hold_254 : decode cX13_hold 254 = .ok (.ireturn, 1) := by decide +kernel
theorem dX13_trace_0 : decode cX13_trace 0 = .ok (.aload_n 0, 1) := by decide +kernel
theorem dX13_trace_1 : decode cX13_trace 1 = .ok (.iconst 2, 1) := by decide +kernel
theorem dX13_trace_2 : decode cX13_trace 2 = .ok (.aload_n 0, 1) := by decide +kernel
theorem dX13_trace_3 : decode cX13_trace 3 = .ok (.getfield 260, 3) := by decide +kernel
theorem dX13_trace_6 : decode cX13_trace 6 = .ok (.iconst 1, 1) := by decide +kernel
theorem dX13_trace_7 : decode cX13_trace 7 = .ok (.aload_n 0, 1) := by decide +kernel
theorem dX13_trace_8 : decode cX13_trace 8 = .ok (.getfield 156, 3) := by decide +kernel
theorem dX13_trace_11 : decode cX13_trace 11 = .ok (.invokevirtual 315, 3) := by decide +kernel
theorem dX13_trace_14 : decode cX13_trace 14 = .ok (.istore_n 1, 1) := by decide +kernel
theorem dX13_trace_15 : decode cX13_trace 15 = .ok (.aload_n 0, 1) := by decide +kernel
theorem dX13_trace_16 : decode cX13_trace 16 = .ok (.iconst 0, 1) := by decide +kernel
theorem dX13_trace_17 : decode cX13_trace 17 = .ok (.putfield 335, 3) := by decide +kernel
theorem dX13_trace_20 : decode cX13_trace 20 = .ok (.iconst 0, 1) := by decide +kernel
theorem dX13_trace_21 : decode cX13_trace 21 = .ok (.istore_n 2, 1) := by decide +kernel
theorem dX13_trace_22 : decode cX13_trace 22 = .ok (.iconst 0, 1) := by decide +kernel
theorem dX13_trace_23 : decode cX13_trace 23 = .ok (.istore_n 3, 1) := by decide +kernel
theorem dX13_trace_24 : decode cX13_trace 24 = .ok (.iload_n 1, 1) := by decide +kernel
theorem dX13_trace_25 : decode cX13_trace 25 = .ok (.ifCond .le 238, 3) := by decide +kernel
theorem dX13_trace_28 : decode cX13_trace 28 = .ok (.iload_n 2, 1) := by decide +kernel
theorem dX13_trace_29 : decode cX13_trace 29 = .ok (.aload_n 0, 1) := by decide +kernel
theorem dX13_trace_30 : decode cX13_trace 30 = .ok (.getfield 260, 3) := by decide +kernel
theorem dX13_trace_33 : decode cX13_trace 33 = .ok (.if_icmp .ge 54, 3) := by decide +kernel
theorem dX13_trace_36 : decode cX13_trace 36 = .ok (.iload_n 3, 1) := by decide +kernel
theorem dX13_trace_37 : decode cX13_trace 37 = .ok (.aload_n 0, 1) := by decide +kernel
theorem dX13_trace_38 : decode cX13_trace 38 = .ok (.getfield 156, 3) := by decide +kernel
theorem dX13_trace_41 : decode cX13_trace 41 = .ok (.if_icmp .ge 46, 3) := by decide +kernel
theorem dX13_trace_44 : decode cX13_trace 44 = .ok (.aload_n 0, 1) := by decide +kernel
theorem dX13_trace_45 : decode cX13_trace 45 = .ok (.getfield 64, 3) := by decide +kernel
theorem dX13_trace_48 : decode cX13_trace 48 = .ok (.iload_n 2, 1) := by decide +kernel
theorem dX13_trace_49 : decode cX13_trace 49 = .ok (.laload, 1) := by decide +kernel
theorem dX13_trace_50 : decode cX13_trace 50 = .ok (.aload_n 0, 1) := by decide +kernel
theorem dX13_trace_51 : decode cX13_trace 51 = .ok (.getfield 61, 3) := by decide +kernel
theorem dX13_trace_54 : decode cX13_trace 54 = .ok (.iload_n 3, 1) := by decide +kernel
theorem dX13_trace_55 : decode cX13_trace 55 = .ok (.laload, 1) := by decide +kernel
theorem dX13_trace_56 : decode cX13_trace 56 = .ok (.lcmp, 1) := by decide +kernel
theorem dX13_trace_57 : decode cX13_trace 57 = .ok (.ifCond .ne 30, 3) := by decide +kernel
theorem dX13_trace_60 : decode cX13_trace 60 = .ok (.aload_n 0, 1) := by decide +kernel
theorem dX13_trace_61 : decode cX13_trace 61 = .ok (.getfield 121, 3) := by decide +kernel
theorem dX13_trace_64 : decode cX13_trace 64 = .ok (.iload_n 2, 1) := by decide +kernel
theorem dX13_trace_65 : decode cX13_trace 65 = .ok (.iconst 1, 1) := by decide +kernel
theorem dX13_trace_66 : decode cX13_trace 66 = .ok (.iadd, 1) := by decide +kernel
theorem dX13_trace_67 : decode cX13_trace 67 = .ok (.iload_n 3, 1) := by decide +kernel
theorem dX13_trace_68 : decode cX13_trace 68 = .ok (.iconst 1, 1) := by decide +kernel
theorem dX13_trace_69 : decode cX13_trace 69 = .ok (.iadd, 1) := by decide +kernel
theorem dX13_trace_70 : decode cX13_trace 70 = .ok (.invokestatic 307, 3) := by decide +kernel
theorem dX13_trace_73 : decode cX13_trace 73 = .ok (.iaload, 1) := by decide +kernel
theorem dX13_trace_74 : decode cX13_trace 74 = .ok (.iload_n 1, 1) := by decide +kernel
theorem dX13_trace_75 : decode cX13_trace 75 = .ok (.if_icmp .ne 12, 3) := by decide +kernel
theorem dX13_trace_78 : decode cX13_trace 78 = .ok (.iinc 2 1, 3) := by decide +kernel
theorem dX13_trace_81 : decode cX13_trace 81 = .ok (.iinc 3 1, 3) := by decide +kernel
theorem dX13_trace_84 : decode cX13_trace 84 = .ok (.goto (-60), 3) := by decide +kernel
theorem dX13_trace_87 : decode cX13_trace 87 = .ok (.iload_n 2, 1) := by decide +kernel
theorem dX13_trace_88 : decode cX13_trace 88 = .ok (.aload_n 0, 1) := by decide +kernel
theorem dX13_trace_89 : decode cX13_trace 89 = .ok (.getfield 260, 3) := by decide +kernel
theorem dX13_trace_92 : decode cX13_trace 92 = .ok (.if_icmp .ge 35, 3) := by decide +kernel
theorem dX13_trace_95 : decode cX13_trace 95 = .ok (.iload_n 3, 1) := by decide +kernel
theorem dX13_trace_96 : decode cX13_trace 96 = .ok (.aload_n 0, 1) := by decide +kernel
theorem dX13_trace_97 : decode cX13_trace 97 = .ok (.getfield 156, 3) := by decide +kernel
theorem dX13_trace_100 : decode cX13_trace 100 = .ok (.if_icmp .ge 27, 3) := by decide +kernel
theorem dX13_trace_103 : decode cX13_trace 103 = .ok (.aload_n 0, 1) := by decide +kernel
theorem dX13_trace_104 : decode cX13_trace 104 = .ok (.getfield 121, 3) := by decide +kernel
theorem dX13_trace_107 : decode cX13_trace 107 = .ok (.iload_n 2, 1) := by decide +kernel
theorem dX13_trace_108 : decode cX13_trace 108 = .ok (.iconst 1, 1) := by decide +kernel
theorem dX13_trace_109 : decode cX13_trace 109 = .ok (.iadd, 1) := by decide +kernel
theorem dX13_trace_110 : decode cX13_trace 110 = .ok (.iload_n 3, 1) := by decide +kernel
theorem dX13_trace_111 : decode cX13_trace 111 = .ok (.iconst 1, 1) := by decide +kernel
theorem dX13_trace_112 : decode cX13_trace 112 = .ok (.iadd, 1) := by decide +kernel
theorem dX13_trace_113 : decode cX13_trace 113 = .ok (.invokestatic 307, 3) := by decide +kernel
theorem dX13_trace_116 : decode cX13_trace 116 = .ok (.iaload, 1) := by decide +kernel
theorem dX13_trace_117 : decode cX13_trace 117 = .ok (.iload_n 1, 1) := by decide +kernel
theorem dX13_trace_118 : decode cX13_trace 118 = .ok (.iconst 1, 1) := by decide +kernel
theorem dX13_trace_119 : decode cX13_trace 119 = .ok (.isub, 1) := by decide +kernel
theorem dX13_trace_120 : decode cX13_trace 120 = .ok (.if_icmp .ne 7, 3) := by decide +kernel
theorem dX13_trace_123 : decode cX13_trace 123 = .ok (.iconst 1, 1) := by decide +kernel
theorem dX13_trace_124 : decode cX13_trace 124 = .ok (.goto 4, 3) := by decide +kernel
theorem dX13_trace_127 : decode cX13_trace 127 = .ok (.iconst 0, 1) := by decide +kernel
theorem dX13_trace_128 : decode cX13_trace 128 = .ok (.istore 4, 2) := by decide +kernel
theorem dX13_trace_130 : decode cX13_trace 130 = .ok (.iload 4, 2) := by decide +kernel
theorem dX13_trace_132 : decode cX13_trace 132 = .ok (.ifCond .ne 33, 3) := by decide +kernel
theorem dX13_trace_135 : decode cX13_trace 135 = .ok (.iload_n 2, 1) := by decide +kernel
theorem dX13_trace_136 : decode cX13_trace 136 = .ok (.aload_n 0, 1) := by decide +kernel
theorem dX13_trace_137 : decode cX13_trace 137 = .ok (.getfield 260, 3) := by decide +kernel
theorem dX13_trace_140 : decode cX13_trace 140 = .ok (.if_icmp .ge 25, 3) := by decide +kernel
theorem dX13_trace_143 : decode cX13_trace 143 = .ok (.aload_n 0, 1) := by decide +kernel
theorem dX13_trace_144 : decode cX13_trace 144 = .ok (.getfield 121, 3) := by decide +kernel
theorem dX13_trace_147 : decode cX13_trace 147 = .ok (.iload_n 2, 1) := by decide +kernel
theorem dX13_trace_148 : decode cX13_trace 148 = .ok (.iconst 1, 1) := by decide +kernel
theorem dX13_trace_149 : decode cX13_trace 149 = .ok (.iadd, 1) := by decide +kernel
theorem dX13_trace_150 : decode cX13_trace 150 = .ok (.iload_n 3, 1) := by decide +kernel
theorem dX13_trace_151 : decode cX13_trace 151 = .ok (.invokestatic 307, 3) := by decide +kernel
theorem dX13_trace_154 : decode cX13_trace 154 = .ok (.iaload, 1) := by decide +kernel
theorem dX13_trace_155 : decode cX13_trace 155 = .ok (.iload_n 1, 1) := by decide +kernel
theorem dX13_trace_156 : decode cX13_trace 156 = .ok (.iconst 1, 1) := by decide +kernel
theorem dX13_trace_157 : decode cX13_trace 157 = .ok (.isub, 1) := by decide +kernel
theorem dX13_trace_158 : decode cX13_trace 158 = .ok (.if_icmp .ne 7, 3) := by decide +kernel
theorem dX13_trace_161 : decode cX13_trace 161 = .ok (.iconst 1, 1) := by decide +kernel
theorem dX13_trace_162 : decode cX13_trace 162 = .ok (.goto 4, 3) := by decide +kernel
theorem dX13_trace_165 : decode cX13_trace 165 = .ok (.iconst 0, 1) := by decide +kernel
theorem dX13_trace_166 : decode cX13_trace 166 = .ok (.istore 5, 2) := by decide +kernel
theorem dX13_trace_168 : decode cX13_trace 168 = .ok (.aload_n 0, 1) := by decide +kernel
theorem dX13_trace_169 : decode cX13_trace 169 = .ok (.getfield 127, 3) := by decide +kernel
theorem dX13_trace_172 : decode cX13_trace 172 = .ok (.aload_n 0, 1) := by decide +kernel
theorem dX13_trace_173 : decode cX13_trace 173 = .ok (.getfield 335, 3) := by decide +kernel
theorem dX13_trace_176 : decode cX13_trace 176 = .ok (.iload 4, 2) := by decide +kernel
theorem dX13_trace_178 : decode cX13_trace 178 = .ok (.ifCond .eq 7, 3) := by decide +kernel
theorem dX13_trace_181 : decode cX13_trace 181 = .ok (.iconst 0, 1) := by decide +kernel
theorem dX13_trace_182 : decode cX13_trace 182 = .ok (.goto 13, 3) := by decide +kernel
theorem dX13_trace_185 : decode cX13_trace 185 = .ok (.iload 5, 2) := by decide +kernel
theorem dX13_trace_187 : decode cX13_trace 187 = .ok (.ifCond .eq 7, 3) := by decide +kernel
theorem dX13_trace_190 : decode cX13_trace 190 = .ok (.iconst 1, 1) := by decide +kernel
theorem dX13_trace_191 : decode cX13_trace 191 = .ok (.goto 4, 3) := by decide +kernel
theorem dX13_trace_194 : decode cX13_trace 194 = .ok (.iconst 2, 1) := by decide +kernel
theorem dX13_trace_195 : decode cX13_trace 195 = .ok (.iastore, 1) := by decide +kernel
theorem dX13_trace_196 : decode cX13_trace 196 = .ok (.aload_n 0, 1) := by decide +kernel
theorem dX13_trace_197 : decode cX13_trace 197 = .ok (.getfield 130, 3) := by decide +kernel
theorem dX13_trace_200 : decode cX13_trace 200 = .ok (.aload_n 0, 1) := by decide +kernel
theorem dX13_trace_201 : decode cX13_trace 201 = .ok (.getfield 335, 3) := by decide +kernel
theorem dX13_trace_204 : decode cX13_trace 204 = .ok (.iload_n 2, 1) := by decide +kernel
theorem dX13_trace_205 : decode cX13_trace 205 = .ok (.iastore, 1) := by decide +kernel
theorem dX13_trace_206 : decode cX13_trace 206 = .ok (.aload_n 0, 1) := by decide +kernel
theorem dX13_trace_207 : decode cX13_trace 207 = .ok (.getfield 133, 3) := by decide +kernel
theorem dX13_trace_210 : decode cX13_trace 210 = .ok (.aload_n 0, 1) := by decide +kernel
theorem dX13_trace_211 : decode cX13_trace 211 = .ok (.getfield 335, 3) := by decide +kernel
theorem dX13_trace_214 : decode cX13_trace 214 = .ok (.iload_n 3, 1) := by decide +kernel
theorem dX13_trace_215 : decode cX13_trace 215 = .ok (.iastore, 1) := by decide +kernel
theorem dX13_trace_216 : decode cX13_trace 216 = .ok (.aload_n 0, 1) := by decide +kernel
theorem dX13_trace_217 : decode cX13_trace 217 = .ok (.dup, 1) := by decide +kernel
theorem dX13_trace_218 : decode cX13_trace 218 = .ok (.getfield 335, 3) := by decide +kernel
theorem dX13_trace_221 : decode cX13_trace 221 = .ok (.iconst 1, 1) := by decide +kernel
theorem dX13_trace_222 : decode cX13_trace 222 = .ok (.iadd, 1) := by decide +kernel
theorem dX13_trace_223 : decode cX13_trace 223 = .ok (.putfield 335, 3) := by decide +kernel
theorem dX13_trace_226 : decode cX13_trace 226 = .ok (.iinc 1 (-1), 3) := by decide +kernel
theorem dX13_trace_229 : decode cX13_trace 229 = .ok (.iload_n 2, 1) := by decide +kernel
theorem dX13_trace_230 : decode cX13_trace 230 = .ok (.iload 4, 2) := by decide +kernel
theorem dX13_trace_232 : decode cX13_trace 232 = .ok (.ifCond .ne 8, 3) := by decide +kernel
theorem dX13_trace_235 : decode cX13_trace 235 = .ok (.iload 5, 2) := by decide +kernel
theorem dX13_trace_237 : decode cX13_trace 237 = .ok (.ifCond .eq 7, 3) := by decide +kernel
theorem dX13_trace_240 : decode cX13_trace 240 = .ok (.iconst 1, 1) := by decide +kernel
theorem dX13_trace_241 : decode cX13_trace 241 = .ok (.goto 4, 3) := by decide +kernel
theorem dX13_trace_244 : decode cX13_trace 244 = .ok (.iconst 0, 1) := by decide +kernel
theorem dX13_trace_245 : decode cX13_trace 245 = .ok (.iadd, 1) := by decide +kernel
theorem dX13_trace_246 : decode cX13_trace 246 = .ok (.istore_n 2, 1) := by decide +kernel
theorem dX13_trace_247 : decode cX13_trace 247 = .ok (.iload_n 3, 1) := by decide +kernel
theorem dX13_trace_248 : decode cX13_trace 248 = .ok (.iload 5, 2) := by decide +kernel
theorem dX13_trace_250 : decode cX13_trace 250 = .ok (.ifCond .eq 7, 3) := by decide +kernel
theorem dX13_trace_253 : decode cX13_trace 253 = .ok (.iconst 0, 1) := by decide +kernel
theorem dX13_trace_254 : decode cX13_trace 254 = .ok (.goto 4, 3) := by decide +kernel
theorem dX13_trace_257 : decode cX13_trace 257 = .ok (.iconst 1, 1) := by decide +kernel
theorem dX13_trace_258 : decode cX13_trace 258 = .ok (.iadd, 1) := by decide +kernel
theorem dX13_trace_259 : decode cX13_trace 259 = .ok (.istore_n 3, 1) := by decide +kernel
theorem dX13_trace_260 : decode cX13_trace 260 = .ok (.goto (-236), 3) := by decide +kernel
theorem dX13_trace_263 : decode cX13_trace 263 = .ok (.return_, 1) := by decide +kernel
theorem dX13_held_0 : decode cX13_held 0 = .ok (.aload_n 0, 1) := by decide +kernel
theorem dX13_held_1 : decode cX13_held 1 = .ok (.getfield 322, 3) := by decide +kernel
theorem dX13_held_4 : decode cX13_held 4 = .ok (.ifCond .ne 5, 3) := by decide +kernel
theorem dX13_held_7 : decode cX13_held 7 = .ok (.iconst (-1), 1) := by decide +kernel
theorem dX13_held_8 : decode cX13_held 8 = .ok (.ireturn, 1) := by decide +kernel
theorem dX13_held_9 : decode cX13_held 9 = .ok (.iload_n 1, 1) := by decide +kernel
theorem dX13_held_10 : decode cX13_held 10 = .ok (.i2l, 1) := by decide +kernel
theorem dX13_held_11 : decode cX13_held 11 = .ok (.ldc2_w 251, 3) := by decide +kernel
theorem dX13_held_14 : decode cX13_held 14 = .ok (.ldc2_w 253, 3) := by decide +kernel
theorem dX13_held_17 : decode cX13_held 17 = .ok (.aload_n 0, 1) := by decide +kernel
theorem dX13_held_18 : decode cX13_held 18 = .ok (.getfield 329, 3) := by decide +kernel
theorem dX13_held_21 : decode cX13_held 21 = .ok (.i2l, 1) := by decide +kernel
theorem dX13_held_22 : decode cX13_held 22 = .ok (.ladd, 1) := by decide +kernel
theorem dX13_held_23 : decode cX13_held 23 = .ok (.invokestatic 140, 3) := by decide +kernel
theorem dX13_held_26 : decode cX13_held 26 = .ok (.ifCond .eq 13, 3) := by decide +kernel
theorem dX13_held_29 : decode cX13_held 29 = .ok (.aload_n 0, 1) := by decide +kernel
theorem dX13_held_30 : decode cX13_held 30 = .ok (.getfield 124, 3) := by decide +kernel
theorem dX13_held_33 : decode cX13_held 33 = .ok (.iload_n 1, 1) := by decide +kernel
theorem dX13_held_34 : decode cX13_held 34 = .ok (.bipush 10, 2) := by decide +kernel
theorem dX13_held_36 : decode cX13_held 36 = .ok (.isub, 1) := by decide +kernel
theorem dX13_held_37 : decode cX13_held 37 = .ok (.iaload, 1) := by decide +kernel
theorem dX13_held_38 : decode cX13_held 38 = .ok (.ireturn, 1) := by decide +kernel
theorem dX13_held_39 : decode cX13_held 39 = .ok (.iload_n 1, 1) := by decide +kernel
theorem dX13_held_40 : decode cX13_held 40 = .ok (.ifCond .ne 10, 3) := by decide +kernel
theorem dX13_held_43 : decode cX13_held 43 = .ok (.aload_n 0, 1) := by decide +kernel
theorem dX13_held_44 : decode cX13_held 44 = .ok (.getfield 326, 3) := by decide +kernel
theorem dX13_held_47 : decode cX13_held 47 = .ok (.goto 28, 3) := by decide +kernel
theorem dX13_held_50 : decode cX13_held 50 = .ok (.iload_n 1, 1) := by decide +kernel
theorem dX13_held_51 : decode cX13_held 51 = .ok (.iconst 1, 1) := by decide +kernel
theorem dX13_held_52 : decode cX13_held 52 = .ok (.if_icmp .ne 10, 3) := by decide +kernel
theorem dX13_held_55 : decode cX13_held 55 = .ok (.aload_n 0, 1) := by decide +kernel
theorem dX13_held_56 : decode cX13_held 56 = .ok (.getfield 329, 3) := by decide +kernel
theorem dX13_held_59 : decode cX13_held 59 = .ok (.goto 16, 3) := by decide +kernel
theorem dX13_held_62 : decode cX13_held 62 = .ok (.iload_n 1, 1) := by decide +kernel
theorem dX13_held_63 : decode cX13_held 63 = .ok (.iconst 2, 1) := by decide +kernel
theorem dX13_held_64 : decode cX13_held 64 = .ok (.if_icmp .ne 10, 3) := by decide +kernel
theorem dX13_held_67 : decode cX13_held 67 = .ok (.aload_n 0, 1) := by decide +kernel
theorem dX13_held_68 : decode cX13_held 68 = .ok (.getfield 335, 3) := by decide +kernel
theorem dX13_held_71 : decode cX13_held 71 = .ok (.goto 4, 3) := by decide +kernel
theorem dX13_held_74 : decode cX13_held 74 = .ok (.iconst (-1), 1) := by decide +kernel
theorem dX13_held_75 : decode cX13_held 75 = .ok (.ireturn, 1) := by decide +kernel
theorem dX13_unasked_0 : decode cX13_unasked 0 = .ok (.iload_n 1, 1) := by decide +kernel
theorem dX13_unasked_1 : decode cX13_unasked 1 = .ok (.i2l, 1) := by decide +kernel
theorem dX13_unasked_2 : decode cX13_unasked 2 = .ok (.lconst 0, 1) := by decide +kernel
theorem dX13_unasked_3 : decode cX13_unasked 3 = .ok (.aload_n 0, 1) := by decide +kernel
theorem dX13_unasked_4 : decode cX13_unasked 4 = .ok (.getfield 335, 3) := by decide +kernel
theorem dX13_unasked_7 : decode cX13_unasked 7 = .ok (.i2l, 1) := by decide +kernel
theorem dX13_unasked_8 : decode cX13_unasked 8 = .ok (.lconst 1, 1) := by decide +kernel
theorem dX13_unasked_9 : decode cX13_unasked 9 = .ok (.lsub, 1) := by decide +kernel
theorem dX13_unasked_10 : decode cX13_unasked 10 = .ok (.invokestatic 140, 3) := by decide +kernel
theorem dX13_unasked_13 : decode cX13_unasked 13 = .ok (.ifCond .ne 7, 3) := by decide +kernel
theorem dX13_unasked_16 : decode cX13_unasked 16 = .ok (.iconst (-1), 1) := by decide +kernel
theorem dX13_unasked_17 : decode cX13_unasked 17 = .ok (.goto 45, 3) := by decide +kernel
theorem dX13_unasked_20 : decode cX13_unasked 20 = .ok (.iload_n 2, 1) := by decide +kernel
theorem dX13_unasked_21 : decode cX13_unasked 21 = .ok (.ifCond .ne 12, 3) := by decide +kernel
theorem dX13_unasked_24 : decode cX13_unasked 24 = .ok (.aload_n 0, 1) := by decide +kernel
theorem dX13_unasked_25 : decode cX13_unasked 25 = .ok (.getfield 127, 3) := by decide +kernel
theorem dX13_unasked_28 : decode cX13_unasked 28 = .ok (.iload_n 1, 1) := by decide +kernel
theorem dX13_unasked_29 : decode cX13_unasked 29 = .ok (.iaload, 1) := by decide +kernel
theorem dX13_unasked_30 : decode cX13_unasked 30 = .ok (.goto 32, 3) := by decide +kernel
theorem dX13_unasked_33 : decode cX13_unasked 33 = .ok (.iload_n 2, 1) := by decide +kernel
theorem dX13_unasked_34 : decode cX13_unasked 34 = .ok (.iconst 1, 1) := by decide +kernel
theorem dX13_unasked_35 : decode cX13_unasked 35 = .ok (.if_icmp .ne 12, 3) := by decide +kernel
theorem dX13_unasked_38 : decode cX13_unasked 38 = .ok (.aload_n 0, 1) := by decide +kernel
theorem dX13_unasked_39 : decode cX13_unasked 39 = .ok (.getfield 130, 3) := by decide +kernel
theorem dX13_unasked_42 : decode cX13_unasked 42 = .ok (.iload_n 1, 1) := by decide +kernel
theorem dX13_unasked_43 : decode cX13_unasked 43 = .ok (.iaload, 1) := by decide +kernel
theorem dX13_unasked_44 : decode cX13_unasked 44 = .ok (.goto 18, 3) := by decide +kernel
theorem dX13_unasked_47 : decode cX13_unasked 47 = .ok (.iload_n 2, 1) := by decide +kernel
theorem dX13_unasked_48 : decode cX13_unasked 48 = .ok (.iconst 2, 1) := by decide +kernel
theorem dX13_unasked_49 : decode cX13_unasked 49 = .ok (.if_icmp .ne 12, 3) := by decide +kernel
theorem dX13_unasked_52 : decode cX13_unasked 52 = .ok (.aload_n 0, 1) := by decide +kernel
theorem dX13_unasked_53 : decode cX13_unasked 53 = .ok (.getfield 133, 3) := by decide +kernel
theorem dX13_unasked_56 : decode cX13_unasked 56 = .ok (.iload_n 1, 1) := by decide +kernel
theorem dX13_unasked_57 : decode cX13_unasked 57 = .ok (.iaload, 1) := by decide +kernel
theorem dX13_unasked_58 : decode cX13_unasked 58 = .ok (.goto 4, 3) := by decide +kernel
theorem dX13_unasked_61 : decode cX13_unasked 61 = .ok (.iconst (-1), 1) := by decide +kernel
theorem dX13_unasked_62 : decode cX13_unasked 62 = .ok (.ireturn, 1) := by decide +kernel
theorem dX13_next_0 : decode cX13_next 0 = .ok (.aload_n 0, 1) := by decide +kernel
theorem dX13_next_1 : decode cX13_next 1 = .ok (.getfield 156, 3) := by decide +kernel
theorem dX13_next_4 : decode cX13_next 4 = .ok (.i2l, 1) := by decide +kernel
theorem dX13_next_5 : decode cX13_next 5 = .ok (.lconst 1, 1) := by decide +kernel
theorem dX13_next_6 : decode cX13_next 6 = .ok (.ldc2_w 338, 3) := by decide +kernel
theorem dX13_next_9 : decode cX13_next 9 = .ok (.invokestatic 140, 3) := by decide +kernel
theorem dX13_next_12 : decode cX13_next 12 = .ok (.ifCond .ne 6, 3) := by decide +kernel
theorem dX13_next_15 : decode cX13_next 15 = .ok (.bipush (-4), 2) := by decide +kernel
theorem dX13_next_17 : decode cX13_next 17 = .ok (.ireturn, 1) := by decide +kernel
end
section
theorem dX13_next_18 : decode cX13_next 18 = .ok (.iconst 0, 1) := by decide +kernel
theorem dX13_next_19 : decode cX13_next 19 = .ok (.istore_n 1, 1) := by decide +kernel
theorem dX13_next_20 : decode cX13_next 20 = .ok (.iload_n 1, 1) := by decide +kernel
theorem dX13_next_21 : decode cX13_next 21 = .ok (.aload_n 0, 1) := by decide +kernel
theorem dX13_next_22 : decode cX13_next 22 = .ok (.getfield 156, 3) := by decide +kernel
theorem dX13_next_25 : decode cX13_next 25 = .ok (.if_icmp .ge 21, 3) := by decide +kernel
theorem dX13_next_28 : decode cX13_next 28 = .ok (.aload_n 0, 1) := by decide +kernel
theorem dX13_next_29 : decode cX13_next 29 = .ok (.getfield 58, 3) := by decide +kernel
theorem dX13_next_32 : decode cX13_next 32 = .ok (.iload_n 1, 1) := by decide +kernel
theorem dX13_next_33 : decode cX13_next 33 = .ok (.aload_n 0, 1) := by decide +kernel
theorem dX13_next_34 : decode cX13_next 34 = .ok (.getfield 61, 3) := by decide +kernel
theorem dX13_next_37 : decode cX13_next 37 = .ok (.iload_n 1, 1) := by decide +kernel
theorem dX13_next_38 : decode cX13_next 38 = .ok (.laload, 1) := by decide +kernel
theorem dX13_next_39 : decode cX13_next 39 = .ok (.lastore, 1) := by decide +kernel
theorem dX13_next_40 : decode cX13_next 40 = .ok (.iinc 1 1, 3) := by decide +kernel
theorem dX13_next_43 : decode cX13_next 43 = .ok (.goto (-23), 3) := by decide +kernel
theorem dX13_next_46 : decode cX13_next 46 = .ok (.aload_n 0, 1) := by decide +kernel
theorem dX13_next_47 : decode cX13_next 47 = .ok (.aload_n 0, 1) := by decide +kernel
theorem dX13_next_48 : decode cX13_next 48 = .ok (.getfield 156, 3) := by decide +kernel
theorem dX13_next_51 : decode cX13_next 51 = .ok (.putfield 150, 3) := by decide +kernel
theorem dX13_next_54 : decode cX13_next 54 = .ok (.aload_n 0, 1) := by decide +kernel
theorem dX13_next_55 : decode cX13_next 55 = .ok (.iconst 0, 1) := by decide +kernel
theorem dX13_next_56 : decode cX13_next 56 = .ok (.putfield 156, 3) := by decide +kernel
theorem dX13_next_59 : decode cX13_next 59 = .ok (.aload_n 0, 1) := by decide +kernel
theorem dX13_next_60 : decode cX13_next 60 = .ok (.iconst 0, 1) := by decide +kernel
theorem dX13_next_61 : decode cX13_next 61 = .ok (.putfield 153, 3) := by decide +kernel
theorem dX13_next_64 : decode cX13_next 64 = .ok (.aload_n 0, 1) := by decide +kernel
theorem dX13_next_65 : decode cX13_next 65 = .ok (.getfield 150, 3) := by decide +kernel
theorem dX13_next_68 : decode cX13_next 68 = .ok (.ireturn, 1) := by decide +kernel
theorem dX13_error_0 : decode cX13_error 0 = .ok (.aload_n 0, 1) := by decide +kernel
theorem dX13_error_1 : decode cX13_error 1 = .ok (.iload_n 1, 1) := by decide +kernel
theorem dX13_error_2 : decode cX13_error 2 = .ok (.invokevirtual 242, 3) := by decide +kernel
theorem dX13_error_5 : decode cX13_error 5 = .ok (.ifCond .eq 13, 3) := by decide +kernel
theorem dX13_error_8 : decode cX13_error 8 = .ok (.aload_n 0, 1) := by decide +kernel
theorem dX13_error_9 : decode cX13_error 9 = .ok (.getfield 70, 3) := by decide +kernel
theorem dX13_error_12 : decode cX13_error 12 = .ok (.iload_n 1, 1) := by decide +kernel
theorem dX13_error_13 : decode cX13_error 13 = .ok (.iaload, 1) := by decide +kernel
theorem dX13_error_14 : decode cX13_error 14 = .ok (.iconst 5, 1) := by decide +kernel
theorem dX13_error_15 : decode cX13_error 15 = .ok (.if_icmp .ne 6, 3) := by decide +kernel
theorem dX13_error_18 : decode cX13_error 18 = .ok (.bipush (-2), 2) := by decide +kernel
theorem dX13_error_20 : decode cX13_error 20 = .ok (.ireturn, 1) := by decide +kernel
theorem dX13_error_21 : decode cX13_error 21 = .ok (.aload_n 0, 1) := by decide +kernel
theorem dX13_error_22 : decode cX13_error 22 = .ok (.getfield 99, 3) := by decide +kernel
theorem dX13_error_25 : decode cX13_error 25 = .ok (.iload_n 1, 1) := by decide +kernel
theorem dX13_error_26 : decode cX13_error 26 = .ok (.baload, 1) := by decide +kernel
theorem dX13_error_27 : decode cX13_error 27 = .ok (.istore_n 3, 1) := by decide +kernel
theorem dX13_error_28 : decode cX13_error 28 = .ok (.aload_n 0, 1) := by decide +kernel
theorem dX13_error_29 : decode cX13_error 29 = .ok (.getfield 99, 3) := by decide +kernel
theorem dX13_error_32 : decode cX13_error 32 = .ok (.iload_n 1, 1) := by decide +kernel
theorem dX13_error_33 : decode cX13_error 33 = .ok (.iload_n 2, 1) := by decide +kernel
theorem dX13_error_34 : decode cX13_error 34 = .ok (.bastore, 1) := by decide +kernel
theorem dX13_error_35 : decode cX13_error 35 = .ok (.iload_n 3, 1) := by decide +kernel
theorem dX13_error_36 : decode cX13_error 36 = .ok (.iload_n 2, 1) := by decide +kernel
theorem dX13_error_37 : decode cX13_error 37 = .ok (.if_icmp .ne 7, 3) := by decide +kernel
theorem dX13_error_40 : decode cX13_error 40 = .ok (.iconst 0, 1) := by decide +kernel
theorem dX13_error_41 : decode cX13_error 41 = .ok (.goto 4, 3) := by decide +kernel
theorem dX13_error_44 : decode cX13_error 44 = .ok (.iconst 1, 1) := by decide +kernel
theorem dX13_error_45 : decode cX13_error 45 = .ok (.ireturn, 1) := by decide +kernel
theorem dX13_price_0 : decode cX13_price 0 = .ok (.iload_n 1, 1) := by decide +kernel
theorem dX13_price_1 : decode cX13_price 1 = .ok (.i2l, 1) := by decide +kernel
theorem dX13_price_2 : decode cX13_price 2 = .ok (.lconst 0, 1) := by decide +kernel
theorem dX13_price_3 : decode cX13_price 3 = .ok (.ldc2_w 340, 3) := by decide +kernel
theorem dX13_price_6 : decode cX13_price 6 = .ok (.invokestatic 140, 3) := by decide +kernel
theorem dX13_price_9 : decode cX13_price 9 = .ok (.ifCond .eq 15, 3) := by decide +kernel
theorem dX13_price_12 : decode cX13_price 12 = .ok (.iload_n 2, 1) := by decide +kernel
theorem dX13_price_13 : decode cX13_price 13 = .ok (.i2l, 1) := by decide +kernel
theorem dX13_price_14 : decode cX13_price 14 = .ok (.lconst 0, 1) := by decide +kernel
theorem dX13_price_15 : decode cX13_price 15 = .ok (.ldc2_w 342, 3) := by decide +kernel
theorem dX13_price_18 : decode cX13_price 18 = .ok (.invokestatic 140, 3) := by decide +kernel
theorem dX13_price_21 : decode cX13_price 21 = .ok (.ifCond .ne 6, 3) := by decide +kernel
theorem dX13_price_24 : decode cX13_price 24 = .ok (.bipush (-2), 2) := by decide +kernel
theorem dX13_price_26 : decode cX13_price 26 = .ok (.ireturn, 1) := by decide +kernel
theorem dX13_price_27 : decode cX13_price 27 = .ok (.aload_n 0, 1) := by decide +kernel
theorem dX13_price_28 : decode cX13_price 28 = .ok (.getfield 105, 3) := by decide +kernel
theorem dX13_price_31 : decode cX13_price 31 = .ok (.iload_n 1, 1) := by decide +kernel
theorem dX13_price_32 : decode cX13_price 32 = .ok (.iaload, 1) := by decide +kernel
theorem dX13_price_33 : decode cX13_price 33 = .ok (.istore_n 3, 1) := by decide +kernel
theorem dX13_price_34 : decode cX13_price 34 = .ok (.aload_n 0, 1) := by decide +kernel
theorem dX13_price_35 : decode cX13_price 35 = .ok (.getfield 105, 3) := by decide +kernel
theorem dX13_price_38 : decode cX13_price 38 = .ok (.iload_n 1, 1) := by decide +kernel
theorem dX13_price_39 : decode cX13_price 39 = .ok (.iload_n 2, 1) := by decide +kernel
theorem dX13_price_40 : decode cX13_price 40 = .ok (.iastore, 1) := by decide +kernel
theorem dX13_price_41 : decode cX13_price 41 = .ok (.iload_n 3, 1) := by decide +kernel
theorem dX13_price_42 : decode cX13_price 42 = .ok (.ireturn, 1) := by decide +kernel
theorem dX13_pays_0 : decode cX13_pays 0 = .ok (.iload_n 1, 1) := by decide +kernel
theorem dX13_pays_1 : decode cX13_pays 1 = .ok (.i2l, 1) := by decide +kernel
theorem dX13_pays_2 : decode cX13_pays 2 = .ok (.lconst 0, 1) := by decide +kernel
theorem dX13_pays_3 : decode cX13_pays 3 = .ok (.lconst 1, 1) := by decide +kernel
theorem dX13_pays_4 : decode cX13_pays 4 = .ok (.invokestatic 140, 3) := by decide +kernel
theorem dX13_pays_7 : decode cX13_pays 7 = .ok (.ifCond .ne 6, 3) := by decide +kernel
theorem dX13_pays_10 : decode cX13_pays 10 = .ok (.bipush (-2), 2) := by decide +kernel
theorem dX13_pays_12 : decode cX13_pays 12 = .ok (.ireturn, 1) := by decide +kernel
theorem dX13_pays_13 : decode cX13_pays 13 = .ok (.aload_n 0, 1) := by decide +kernel
theorem dX13_pays_14 : decode cX13_pays 14 = .ok (.invokevirtual 255, 3) := by decide +kernel
theorem dX13_pays_17 : decode cX13_pays 17 = .ok (.iconst 0, 1) := by decide +kernel
theorem dX13_pays_18 : decode cX13_pays 18 = .ok (.istore_n 2, 1) := by decide +kernel
theorem dX13_pays_19 : decode cX13_pays 19 = .ok (.iconst 0, 1) := by decide +kernel
theorem dX13_pays_20 : decode cX13_pays 20 = .ok (.istore_n 3, 1) := by decide +kernel
theorem dX13_pays_21 : decode cX13_pays 21 = .ok (.iload_n 3, 1) := by decide +kernel
theorem dX13_pays_22 : decode cX13_pays 22 = .ok (.aload_n 0, 1) := by decide +kernel
theorem dX13_pays_23 : decode cX13_pays 23 = .ok (.getfield 153, 3) := by decide +kernel
theorem dX13_pays_26 : decode cX13_pays 26 = .ok (.if_icmp .ge 73, 3) := by decide +kernel
theorem dX13_pays_29 : decode cX13_pays 29 = .ok (.iload_n 2, 1) := by decide +kernel
theorem dX13_pays_30 : decode cX13_pays 30 = .ok (.aload_n 0, 1) := by decide +kernel
theorem dX13_pays_31 : decode cX13_pays 31 = .ok (.getfield 111, 3) := by decide +kernel
theorem dX13_pays_34 : decode cX13_pays 34 = .ok (.iload_n 3, 1) := by decide +kernel
theorem dX13_pays_35 : decode cX13_pays 35 = .ok (.iaload, 1) := by decide +kernel
theorem dX13_pays_36 : decode cX13_pays 36 = .ok (.ifCond .ne 54, 3) := by decide +kernel
theorem dX13_pays_39 : decode cX13_pays 39 = .ok (.aload_n 0, 1) := by decide +kernel
theorem dX13_pays_40 : decode cX13_pays 40 = .ok (.getfield 74, 3) := by decide +kernel
theorem dX13_pays_43 : decode cX13_pays 43 = .ok (.iload_n 3, 1) := by decide +kernel
theorem dX13_pays_44 : decode cX13_pays 44 = .ok (.iaload, 1) := by decide +kernel
theorem dX13_pays_45 : decode cX13_pays 45 = .ok (.iconst 2, 1) := by decide +kernel
theorem dX13_pays_46 : decode cX13_pays 46 = .ok (.if_icmp .eq 12, 3) := by decide +kernel
theorem dX13_pays_49 : decode cX13_pays 49 = .ok (.aload_n 0, 1) := by decide +kernel
theorem dX13_pays_50 : decode cX13_pays 50 = .ok (.getfield 99, 3) := by decide +kernel
theorem dX13_pays_53 : decode cX13_pays 53 = .ok (.iload_n 3, 1) := by decide +kernel
theorem dX13_pays_54 : decode cX13_pays 54 = .ok (.baload, 1) := by decide +kernel
theorem dX13_pays_55 : decode cX13_pays 55 = .ok (.ifCond .eq 7, 3) := by decide +kernel
theorem dX13_pays_58 : decode cX13_pays 58 = .ok (.iconst 1, 1) := by decide +kernel
theorem dX13_pays_59 : decode cX13_pays 59 = .ok (.goto 4, 3) := by decide +kernel
theorem dX13_pays_62 : decode cX13_pays 62 = .ok (.iconst 0, 1) := by decide +kernel
theorem dX13_pays_63 : decode cX13_pays 63 = .ok (.iload_n 1, 1) := by decide +kernel
theorem dX13_pays_64 : decode cX13_pays 64 = .ok (.iconst 1, 1) := by decide +kernel
theorem dX13_pays_65 : decode cX13_pays 65 = .ok (.if_icmp .ne 7, 3) := by decide +kernel
theorem dX13_pays_68 : decode cX13_pays 68 = .ok (.iconst 1, 1) := by decide +kernel
theorem dX13_pays_69 : decode cX13_pays 69 = .ok (.goto 4, 3) := by decide +kernel
theorem dX13_pays_72 : decode cX13_pays 72 = .ok (.iconst 0, 1) := by decide +kernel
theorem dX13_pays_73 : decode cX13_pays 73 = .ok (.if_icmp .ne 17, 3) := by decide +kernel
theorem dX13_pays_76 : decode cX13_pays 76 = .ok (.aload_n 0, 1) := by decide +kernel
theorem dX13_pays_77 : decode cX13_pays 77 = .ok (.getfield 105, 3) := by decide +kernel
theorem dX13_pays_80 : decode cX13_pays 80 = .ok (.aload_n 0, 1) := by decide +kernel
theorem dX13_pays_81 : decode cX13_pays 81 = .ok (.getfield 70, 3) := by decide +kernel
theorem dX13_pays_84 : decode cX13_pays 84 = .ok (.iload_n 3, 1) := by decide +kernel
theorem dX13_pays_85 : decode cX13_pays 85 = .ok (.iaload, 1) := by decide +kernel
theorem dX13_pays_86 : decode cX13_pays 86 = .ok (.iaload, 1) := by decide +kernel
theorem dX13_pays_87 : decode cX13_pays 87 = .ok (.goto 4, 3) := by decide +kernel
theorem dX13_pays_90 : decode cX13_pays 90 = .ok (.iconst 0, 1) := by decide +kernel
theorem dX13_pays_91 : decode cX13_pays 91 = .ok (.iadd, 1) := by decide +kernel
theorem dX13_pays_92 : decode cX13_pays 92 = .ok (.istore_n 2, 1) := by decide +kernel
theorem dX13_pays_93 : decode cX13_pays 93 = .ok (.iinc 3 1, 3) := by decide +kernel
theorem dX13_pays_96 : decode cX13_pays 96 = .ok (.goto (-75), 3) := by decide +kernel
theorem dX13_pays_99 : decode cX13_pays 99 = .ok (.iload_n 2, 1) := by decide +kernel
theorem dX13_pays_100 : decode cX13_pays 100 = .ok (.ireturn, 1) := by decide +kernel
theorem dX13_count_0 : decode cX13_count 0 = .ok (.iload_n 1, 1) := by decide +kernel
theorem dX13_count_1 : decode cX13_count 1 = .ok (.i2l, 1) := by decide +kernel
theorem dX13_count_2 : decode cX13_count 2 = .ok (.lconst 0, 1) := by decide +kernel
theorem dX13_count_3 : decode cX13_count 3 = .ok (.ldc2_w 258, 3) := by decide +kernel
theorem dX13_count_6 : decode cX13_count 6 = .ok (.invokestatic 140, 3) := by decide +kernel
theorem dX13_count_9 : decode cX13_count 9 = .ok (.ifCond .eq 9, 3) := by decide +kernel
theorem dX13_count_12 : decode cX13_count 12 = .ok (.aload_n 0, 1) := by decide +kernel
theorem dX13_count_13 : decode cX13_count 13 = .ok (.iload_n 1, 1) := by decide +kernel
theorem dX13_count_14 : decode cX13_count 14 = .ok (.invokevirtual 300, 3) := by decide +kernel
theorem dX13_count_17 : decode cX13_count 17 = .ok (.ireturn, 1) := by decide +kernel
theorem dX13_count_18 : decode cX13_count 18 = .ok (.iload_n 1, 1) := by decide +kernel
theorem dX13_count_19 : decode cX13_count 19 = .ok (.i2l, 1) := by decide +kernel
theorem dX13_count_20 : decode cX13_count 20 = .ok (.ldc2_w 251, 3) := by decide +kernel
theorem dX13_count_23 : decode cX13_count 23 = .ok (.ldc2_w 344, 3) := by decide +kernel
theorem dX13_count_26 : decode cX13_count 26 = .ok (.invokestatic 140, 3) := by decide +kernel
theorem dX13_count_29 : decode cX13_count 29 = .ok (.ifCond .eq 13, 3) := by decide +kernel
theorem dX13_count_32 : decode cX13_count 32 = .ok (.aload_n 0, 1) := by decide +kernel
theorem dX13_count_33 : decode cX13_count 33 = .ok (.getfield 102, 3) := by decide +kernel
theorem dX13_count_36 : decode cX13_count 36 = .ok (.iload_n 1, 1) := by decide +kernel
theorem dX13_count_37 : decode cX13_count 37 = .ok (.bipush 10, 2) := by decide +kernel
theorem dX13_count_39 : decode cX13_count 39 = .ok (.isub, 1) := by decide +kernel
theorem dX13_count_40 : decode cX13_count 40 = .ok (.iaload, 1) := by decide +kernel
theorem dX13_count_41 : decode cX13_count 41 = .ok (.ireturn, 1) := by decide +kernel
theorem dX13_count_42 : decode cX13_count 42 = .ok (.iload_n 1, 1) := by decide +kernel
theorem dX13_count_43 : decode cX13_count 43 = .ok (.iconst 3, 1) := by decide +kernel
theorem dX13_count_44 : decode cX13_count 44 = .ok (.if_icmp .ne 8, 3) := by decide +kernel
theorem dX13_count_47 : decode cX13_count 47 = .ok (.aload_n 0, 1) := by decide +kernel
theorem dX13_count_48 : decode cX13_count 48 = .ok (.getfield 153, 3) := by decide +kernel
theorem dX13_count_51 : decode cX13_count 51 = .ok (.ireturn, 1) := by decide +kernel
theorem dX13_count_52 : decode cX13_count 52 = .ok (.iload_n 1, 1) := by decide +kernel
theorem dX13_count_53 : decode cX13_count 53 = .ok (.bipush 9, 2) := by decide +kernel
theorem dX13_count_55 : decode cX13_count 55 = .ok (.if_icmp .ne 8, 3) := by decide +kernel
theorem dX13_count_58 : decode cX13_count 58 = .ok (.aload_n 0, 1) := by decide +kernel
theorem dX13_count_59 : decode cX13_count 59 = .ok (.getfield 28, 3) := by decide +kernel
theorem dX13_count_62 : decode cX13_count 62 = .ok (.ireturn, 1) := by decide +kernel
theorem dX13_count_63 : decode cX13_count 63 = .ok (.iload_n 1, 1) := by decide +kernel
theorem dX13_count_64 : decode cX13_count 64 = .ok (.i2l, 1) := by decide +kernel
theorem dX13_count_65 : decode cX13_count 65 = .ok (.ldc2_w 340, 3) := by decide +kernel
theorem dX13_count_68 : decode cX13_count 68 = .ok (.ldc2_w 346, 3) := by decide +kernel
theorem dX13_count_71 : decode cX13_count 71 = .ok (.invokestatic 140, 3) := by decide +kernel
theorem dX13_count_74 : decode cX13_count 74 = .ok (.ifCond .ne 5, 3) := by decide +kernel
theorem dX13_count_77 : decode cX13_count 77 = .ok (.iconst (-1), 1) := by decide +kernel
theorem dX13_count_78 : decode cX13_count 78 = .ok (.ireturn, 1) := by decide +kernel
theorem dX13_count_79 : decode cX13_count 79 = .ok (.aload_n 0, 1) := by decide +kernel
theorem dX13_count_80 : decode cX13_count 80 = .ok (.invokevirtual 255, 3) := by decide +kernel
theorem dX13_count_83 : decode cX13_count 83 = .ok (.iconst 0, 1) := by decide +kernel
theorem dX13_count_84 : decode cX13_count 84 = .ok (.istore_n 2, 1) := by decide +kernel
theorem dX13_count_85 : decode cX13_count 85 = .ok (.iconst 0, 1) := by decide +kernel
theorem dX13_count_86 : decode cX13_count 86 = .ok (.istore_n 3, 1) := by decide +kernel
theorem dX13_count_87 : decode cX13_count 87 = .ok (.iload_n 3, 1) := by decide +kernel
theorem dX13_count_88 : decode cX13_count 88 = .ok (.aload_n 0, 1) := by decide +kernel
theorem dX13_count_89 : decode cX13_count 89 = .ok (.getfield 153, 3) := by decide +kernel
theorem dX13_count_92 : decode cX13_count 92 = .ok (.if_icmp .ge 52, 3) := by decide +kernel
theorem dX13_count_95 : decode cX13_count 95 = .ok (.iload_n 2, 1) := by decide +kernel
theorem dX13_count_96 : decode cX13_count 96 = .ok (.iload_n 1, 1) := by decide +kernel
theorem dX13_count_97 : decode cX13_count 97 = .ok (.iconst 4, 1) := by decide +kernel
theorem dX13_count_98 : decode cX13_count 98 = .ok (.if_icmp .ne 21, 3) := by decide +kernel
theorem dX13_count_101 : decode cX13_count 101 = .ok (.aload_n 0, 1) := by decide +kernel
theorem dX13_count_102 : decode cX13_count 102 = .ok (.getfield 111, 3) := by decide +kernel
theorem dX13_count_105 : decode cX13_count 105 = .ok (.iload_n 3, 1) := by decide +kernel
theorem dX13_count_106 : decode cX13_count 106 = .ok (.iaload, 1) := by decide +kernel
theorem dX13_count_107 : decode cX13_count 107 = .ok (.iconst 2, 1) := by decide +kernel
theorem dX13_count_108 : decode cX13_count 108 = .ok (.if_icmp .ge 7, 3) := by decide +kernel
theorem dX13_count_111 : decode cX13_count 111 = .ok (.iconst 1, 1) := by decide +kernel
theorem dX13_count_112 : decode cX13_count 112 = .ok (.goto 24, 3) := by decide +kernel
theorem dX13_count_115 : decode cX13_count 115 = .ok (.iconst 0, 1) := by decide +kernel
theorem dX13_count_116 : decode cX13_count 116 = .ok (.goto 20, 3) := by decide +kernel
theorem dX13_count_119 : decode cX13_count 119 = .ok (.aload_n 0, 1) := by decide +kernel
theorem dX13_count_120 : decode cX13_count 120 = .ok (.getfield 111, 3) := by decide +kernel
theorem dX13_count_123 : decode cX13_count 123 = .ok (.iload_n 3, 1) := by decide +kernel
theorem dX13_count_124 : decode cX13_count 124 = .ok (.iaload, 1) := by decide +kernel
theorem dX13_count_125 : decode cX13_count 125 = .ok (.iload_n 1, 1) := by decide +kernel
theorem dX13_count_126 : decode cX13_count 126 = .ok (.iconst 5, 1) := by decide +kernel
theorem dX13_count_127 : decode cX13_count 127 = .ok (.isub, 1) := by decide +kernel
theorem dX13_count_128 : decode cX13_count 128 = .ok (.if_icmp .ne 7, 3) := by decide +kernel
theorem dX13_count_131 : decode cX13_count 131 = .ok (.iconst 1, 1) := by decide +kernel
theorem dX13_count_132 : decode cX13_count 132 = .ok (.goto 4, 3) := by decide +kernel
theorem dX13_count_135 : decode cX13_count 135 = .ok (.iconst 0, 1) := by decide +kernel
theorem dX13_count_136 : decode cX13_count 136 = .ok (.iadd, 1) := by decide +kernel
theorem dX13_count_137 : decode cX13_count 137 = .ok (.istore_n 2, 1) := by decide +kernel
theorem dX13_count_138 : decode cX13_count 138 = .ok (.iinc 3 1, 3) := by decide +kernel
theorem dX13_count_141 : decode cX13_count 141 = .ok (.goto (-54), 3) := by decide +kernel
theorem dX13_count_144 : decode cX13_count 144 = .ok (.iload_n 2, 1) := by decide +kernel
theorem dX13_count_145 : decode cX13_count 145 = .ok (.ireturn, 1) := by decide +kernel
theorem dJ11_isValidCodePoint_9a6ad_0 : decode cJ11_isValidCodePoint_9a6ad 0 = .ok (.iload_n 0, 1) := by decide +kernel
theorem dJ11_isValidCodePoint_9a6ad_1 : decode cJ11_isValidCodePoint_9a6ad 1 = .ok (.bipush 16, 2) := by decide +kernel
theorem dJ11_isValidCodePoint_9a6ad_3 : decode cJ11_isValidCodePoint_9a6ad 3 = .ok (.iushr, 1) := by decide +kernel
theorem dJ11_isValidCodePoint_9a6ad_4 : decode cJ11_isValidCodePoint_9a6ad 4 = .ok (.istore_n 1, 1) := by decide +kernel
theorem dJ11_isValidCodePoint_9a6ad_5 : decode cJ11_isValidCodePoint_9a6ad 5 = .ok (.iload_n 1, 1) := by decide +kernel
theorem dJ11_isValidCodePoint_9a6ad_6 : decode cJ11_isValidCodePoint_9a6ad 6 = .ok (.bipush 17, 2) := by decide +kernel
theorem dJ11_isValidCodePoint_9a6ad_8 : decode cJ11_isValidCodePoint_9a6ad 8 = .ok (.if_icmp .ge 7, 3) := by decide +kernel
theorem dJ11_isValidCodePoint_9a6ad_11 : decode cJ11_isValidCodePoint_9a6ad 11 = .ok (.iconst 1, 1) := by decide +kernel
theorem dJ11_isValidCodePoint_9a6ad_12 : decode cJ11_isValidCodePoint_9a6ad 12 = .ok (.goto 4, 3) := by decide +kernel
theorem dJ11_isValidCodePoint_9a6ad_15 : decode cJ11_isValidCodePoint_9a6ad 15 = .ok (.iconst 0, 1) := by decide +kernel
theorem dJ11_isValidCodePoint_9a6ad_16 : decode cJ11_isValidCodePoint_9a6ad 16 = .ok (.ireturn, 1) := by decide +kernel
theorem dJ11_highSurrogate_5068e_0 : decode cJ11_highSurrogate_5068e 0 = .ok (.iload_n 0, 1) := by decide +kernel
theorem dJ11_highSurrogate_5068e_1 : decode cJ11_highSurrogate_5068e 1 = .ok (.bipush 10, 2) := by decide +kernel
theorem dJ11_highSurrogate_5068e_3 : decode cJ11_highSurrogate_5068e 3 = .ok (.iushr, 1) := by decide +kernel
theorem dJ11_highSurrogate_5068e_4 : decode cJ11_highSurrogate_5068e 4 = .ok (.ldc 110, 2) := by decide +kernel
theorem dJ11_highSurrogate_5068e_6 : decode cJ11_highSurrogate_5068e 6 = .ok (.iadd, 1) := by decide +kernel
theorem dJ11_highSurrogate_5068e_7 : decode cJ11_highSurrogate_5068e 7 = .ok (.i2c, 1) := by decide +kernel
theorem dJ11_highSurrogate_5068e_8 : decode cJ11_highSurrogate_5068e 8 = .ok (.ireturn, 1) := by decide +kernel
theorem dJ11_lowSurrogate_5068e_0 : decode cJ11_lowSurrogate_5068e 0 = .ok (.iload_n 0, 1) := by decide +kernel
theorem dJ11_lowSurrogate_5068e_1 : decode cJ11_lowSurrogate_5068e 1 = .ok (.sipush 1023, 3) := by decide +kernel
theorem dJ11_lowSurrogate_5068e_4 : decode cJ11_lowSurrogate_5068e 4 = .ok (.iand, 1) := by decide +kernel
theorem dJ11_lowSurrogate_5068e_5 : decode cJ11_lowSurrogate_5068e 5 = .ok (.ldc 76, 2) := by decide +kernel
theorem dJ11_lowSurrogate_5068e_7 : decode cJ11_lowSurrogate_5068e 7 = .ok (.iadd, 1) := by decide +kernel
theorem dJ11_lowSurrogate_5068e_8 : decode cJ11_lowSurrogate_5068e 8 = .ok (.i2c, 1) := by decide +kernel
theorem dJ11_lowSurrogate_5068e_9 : decode cJ11_lowSurrogate_5068e 9 = .ok (.ireturn, 1) := by decide +kernel
theorem dJ6_bitCount_0f7a4_0 : decode cJ6_bitCount_0f7a4 0 = .ok (.iload_n 0, 1) := by decide +kernel
theorem dJ6_bitCount_0f7a4_1 : decode cJ6_bitCount_0f7a4 1 = .ok (.iload_n 0, 1) := by decide +kernel
theorem dJ6_bitCount_0f7a4_2 : decode cJ6_bitCount_0f7a4 2 = .ok (.iconst 1, 1) := by decide +kernel
theorem dJ6_bitCount_0f7a4_3 : decode cJ6_bitCount_0f7a4 3 = .ok (.iushr, 1) := by decide +kernel
theorem dJ6_bitCount_0f7a4_4 : decode cJ6_bitCount_0f7a4 4 = .ok (.ldc_w 265, 3) := by decide +kernel
theorem dJ6_bitCount_0f7a4_7 : decode cJ6_bitCount_0f7a4 7 = .ok (.iand, 1) := by decide +kernel
theorem dJ6_bitCount_0f7a4_8 : decode cJ6_bitCount_0f7a4 8 = .ok (.isub, 1) := by decide +kernel
theorem dJ6_bitCount_0f7a4_9 : decode cJ6_bitCount_0f7a4 9 = .ok (.istore_n 0, 1) := by decide +kernel
theorem dJ6_bitCount_0f7a4_10 : decode cJ6_bitCount_0f7a4 10 = .ok (.iload_n 0, 1) := by decide +kernel
theorem dJ6_bitCount_0f7a4_11 : decode cJ6_bitCount_0f7a4 11 = .ok (.ldc_w 266, 3) := by decide +kernel
theorem dJ6_bitCount_0f7a4_14 : decode cJ6_bitCount_0f7a4 14 = .ok (.iand, 1) := by decide +kernel
theorem dJ6_bitCount_0f7a4_15 : decode cJ6_bitCount_0f7a4 15 = .ok (.iload_n 0, 1) := by decide +kernel
theorem dJ6_bitCount_0f7a4_16 : decode cJ6_bitCount_0f7a4 16 = .ok (.iconst 2, 1) := by decide +kernel
theorem dJ6_bitCount_0f7a4_17 : decode cJ6_bitCount_0f7a4 17 = .ok (.iushr, 1) := by decide +kernel
theorem dJ6_bitCount_0f7a4_18 : decode cJ6_bitCount_0f7a4 18 = .ok (.ldc_w 266, 3) := by decide +kernel
theorem dJ6_bitCount_0f7a4_21 : decode cJ6_bitCount_0f7a4 21 = .ok (.iand, 1) := by decide +kernel
theorem dJ6_bitCount_0f7a4_22 : decode cJ6_bitCount_0f7a4 22 = .ok (.iadd, 1) := by decide +kernel
theorem dJ6_bitCount_0f7a4_23 : decode cJ6_bitCount_0f7a4 23 = .ok (.istore_n 0, 1) := by decide +kernel
theorem dJ6_bitCount_0f7a4_24 : decode cJ6_bitCount_0f7a4 24 = .ok (.iload_n 0, 1) := by decide +kernel
theorem dJ6_bitCount_0f7a4_25 : decode cJ6_bitCount_0f7a4 25 = .ok (.iload_n 0, 1) := by decide +kernel
theorem dJ6_bitCount_0f7a4_26 : decode cJ6_bitCount_0f7a4 26 = .ok (.iconst 4, 1) := by decide +kernel
theorem dJ6_bitCount_0f7a4_27 : decode cJ6_bitCount_0f7a4 27 = .ok (.iushr, 1) := by decide +kernel
theorem dJ6_bitCount_0f7a4_28 : decode cJ6_bitCount_0f7a4 28 = .ok (.iadd, 1) := by decide +kernel
theorem dJ6_bitCount_0f7a4_29 : decode cJ6_bitCount_0f7a4 29 = .ok (.ldc_w 267, 3) := by decide +kernel
theorem dJ6_bitCount_0f7a4_32 : decode cJ6_bitCount_0f7a4 32 = .ok (.iand, 1) := by decide +kernel
theorem dJ6_bitCount_0f7a4_33 : decode cJ6_bitCount_0f7a4 33 = .ok (.istore_n 0, 1) := by decide +kernel
theorem dJ6_bitCount_0f7a4_34 : decode cJ6_bitCount_0f7a4 34 = .ok (.iload_n 0, 1) := by decide +kernel
theorem dJ6_bitCount_0f7a4_35 : decode cJ6_bitCount_0f7a4 35 = .ok (.iload_n 0, 1) := by decide +kernel
theorem dJ6_bitCount_0f7a4_36 : decode cJ6_bitCount_0f7a4 36 = .ok (.bipush 8, 2) := by decide +kernel
theorem dJ6_bitCount_0f7a4_38 : decode cJ6_bitCount_0f7a4 38 = .ok (.iushr, 1) := by decide +kernel
theorem dJ6_bitCount_0f7a4_39 : decode cJ6_bitCount_0f7a4 39 = .ok (.iadd, 1) := by decide +kernel
theorem dJ6_bitCount_0f7a4_40 : decode cJ6_bitCount_0f7a4 40 = .ok (.istore_n 0, 1) := by decide +kernel
theorem dJ6_bitCount_0f7a4_41 : decode cJ6_bitCount_0f7a4 41 = .ok (.iload_n 0, 1) := by decide +kernel
theorem dJ6_bitCount_0f7a4_42 : decode cJ6_bitCount_0f7a4 42 = .ok (.iload_n 0, 1) := by decide +kernel
theorem dJ6_bitCount_0f7a4_43 : decode cJ6_bitCount_0f7a4 43 = .ok (.bipush 16, 2) := by decide +kernel
theorem dJ6_bitCount_0f7a4_45 : decode cJ6_bitCount_0f7a4 45 = .ok (.iushr, 1) := by decide +kernel
theorem dJ6_bitCount_0f7a4_46 : decode cJ6_bitCount_0f7a4 46 = .ok (.iadd, 1) := by decide +kernel
theorem dJ6_bitCount_0f7a4_47 : decode cJ6_bitCount_0f7a4 47 = .ok (.istore_n 0, 1) := by decide +kernel
theorem dJ6_bitCount_0f7a4_48 : decode cJ6_bitCount_0f7a4 48 = .ok (.iload_n 0, 1) := by decide +kernel
theorem dJ6_bitCount_0f7a4_49 : decode cJ6_bitCount_0f7a4 49 = .ok (.bipush 63, 2) := by decide +kernel
theorem dJ6_bitCount_0f7a4_51 : decode cJ6_bitCount_0f7a4 51 = .ok (.iand, 1) := by decide +kernel
theorem dJ6_bitCount_0f7a4_52 : decode cJ6_bitCount_0f7a4 52 = .ok (.ireturn, 1) := by decide +kernel
theorem dJ9_abs_0f7a4_0 : decode cJ9_abs_0f7a4 0 = .ok (.iload_n 0, 1) := by decide +kernel
theorem dJ9_abs_0f7a4_1 : decode cJ9_abs_0f7a4 1 = .ok (.ifCond .ge 8, 3) := by decide +kernel
theorem dJ9_abs_0f7a4_4 : decode cJ9_abs_0f7a4 4 = .ok (.iload_n 0, 1) := by decide +kernel
theorem dJ9_abs_0f7a4_5 : decode cJ9_abs_0f7a4 5 = .ok (.ineg, 1) := by decide +kernel
theorem dJ9_abs_0f7a4_6 : decode cJ9_abs_0f7a4 6 = .ok (.goto 4, 3) := by decide +kernel
theorem dJ9_abs_0f7a4_9 : decode cJ9_abs_0f7a4 9 = .ok (.iload_n 0, 1) := by decide +kernel
theorem dJ9_abs_0f7a4_10 : decode cJ9_abs_0f7a4 10 = .ok (.ireturn, 1) := by decide +kernel
theorem dJ9_max_7cf53_0 : decode cJ9_max_7cf53 0 = .ok (.iload_n 0, 1) := by decide +kernel
theorem dJ9_max_7cf53_1 : decode cJ9_max_7cf53 1 = .ok (.iload_n 1, 1) := by decide +kernel
theorem dJ9_max_7cf53_2 : decode cJ9_max_7cf53 2 = .ok (.if_icmp .lt 7, 3) := by decide +kernel
theorem dJ9_max_7cf53_5 : decode cJ9_max_7cf53 5 = .ok (.iload_n 0, 1) := by decide +kernel
theorem dJ9_max_7cf53_6 : decode cJ9_max_7cf53 6 = .ok (.goto 4, 3) := by decide +kernel
theorem dJ9_max_7cf53_9 : decode cJ9_max_7cf53 9 = .ok (.iload_n 1, 1) := by decide +kernel
theorem dJ9_max_7cf53_10 : decode cJ9_max_7cf53 10 = .ok (.ireturn, 1) := by decide +kernel
theorem dJ9_min_7cf53_0 : decode cJ9_min_7cf53 0 = .ok (.iload_n 0, 1) := by decide +kernel
theorem dJ9_min_7cf53_1 : decode cJ9_min_7cf53 1 = .ok (.iload_n 1, 1) := by decide +kernel
theorem dJ9_min_7cf53_2 : decode cJ9_min_7cf53 2 = .ok (.if_icmp .gt 7, 3) := by decide +kernel
theorem dJ9_min_7cf53_5 : decode cJ9_min_7cf53 5 = .ok (.iload_n 0, 1) := by decide +kernel
theorem dJ9_min_7cf53_6 : decode cJ9_min_7cf53 6 = .ok (.goto 4, 3) := by decide +kernel
theorem dJ9_min_7cf53_9 : decode cJ9_min_7cf53 9 = .ok (.iload_n 1, 1) := by decide +kernel
theorem dJ9_min_7cf53_10 : decode cJ9_min_7cf53 10 = .ok (.ireturn, 1) := by decide +kernel
theorem dJ0_length_8abf5_0 : decode cJ0_length_8abf5 0 = .ok (.aload_n 0, 1) := by decide +kernel
theorem dJ0_length_8abf5_1 : decode cJ0_length_8abf5 1 = .ok (.getfield 9, 3) := by decide +kernel
theorem dJ0_length_8abf5_4 : decode cJ0_length_8abf5 4 = .ok (.arraylength, 1) := by decide +kernel
theorem dJ0_length_8abf5_5 : decode cJ0_length_8abf5 5 = .ok (.aload_n 0, 1) := by decide +kernel
theorem dJ0_length_8abf5_6 : decode cJ0_length_8abf5 6 = .ok (.invokevirtual 335, 3) := by decide +kernel
theorem dJ0_length_8abf5_9 : decode cJ0_length_8abf5 9 = .ok (.ishr, 1) := by decide +kernel
theorem dJ0_length_8abf5_10 : decode cJ0_length_8abf5 10 = .ok (.ireturn, 1) := by decide +kernel
theorem dJ0_charAt_5068e_0 : decode cJ0_charAt_5068e 0 = .ok (.aload_n 0, 1) := by decide +kernel
theorem dJ0_charAt_5068e_1 : decode cJ0_charAt_5068e 1 = .ok (.invokevirtual 492, 3) := by decide +kernel
theorem dJ0_charAt_5068e_4 : decode cJ0_charAt_5068e 4 = .ok (.ifCond .eq 12, 3) := by decide +kernel
theorem dJ0_charAt_5068e_7 : decode cJ0_charAt_5068e 7 = .ok (.aload_n 0, 1) := by decide +kernel
theorem dJ0_charAt_5068e_8 : decode cJ0_charAt_5068e 8 = .ok (.getfield 9, 3) := by decide +kernel
theorem dJ0_charAt_5068e_11 : decode cJ0_charAt_5068e 11 = .ok (.iload_n 1, 1) := by decide +kernel
theorem dJ0_charAt_5068e_12 : decode cJ0_charAt_5068e 12 = .ok (.invokestatic 495, 3) := by decide +kernel
theorem dJ0_charAt_5068e_15 : decode cJ0_charAt_5068e 15 = .ok (.ireturn, 1) := by decide +kernel
theorem dJ0_charAt_5068e_16 : decode cJ0_charAt_5068e 16 = .ok (.aload_n 0, 1) := by decide +kernel
theorem dJ0_charAt_5068e_17 : decode cJ0_charAt_5068e 17 = .ok (.getfield 9, 3) := by decide +kernel
theorem dJ0_charAt_5068e_20 : decode cJ0_charAt_5068e 20 = .ok (.iload_n 1, 1) := by decide +kernel
theorem dJ0_charAt_5068e_21 : decode cJ0_charAt_5068e 21 = .ok (.invokestatic 498, 3) := by decide +kernel
theorem dJ0_charAt_5068e_24 : decode cJ0_charAt_5068e 24 = .ok (.ireturn, 1) := by decide +kernel
theorem dJ0_indexOf_0f7a4_0 : decode cJ0_indexOf_0f7a4 0 = .ok (.aload_n 0, 1) := by decide +kernel
theorem dJ0_indexOf_0f7a4_1 : decode cJ0_indexOf_0f7a4 1 = .ok (.iload_n 1, 1) := by decide +kernel
theorem dJ0_indexOf_0f7a4_2 : decode cJ0_indexOf_0f7a4 2 = .ok (.iconst 0, 1) := by decide +kernel
theorem dJ0_indexOf_0f7a4_3 : decode cJ0_indexOf_0f7a4 3 = .ok (.invokevirtual 633, 3) := by decide +kernel
theorem dJ0_indexOf_0f7a4_6 : decode cJ0_indexOf_0f7a4 6 = .ok (.ireturn, 1) := by decide +kernel
theorem dJ0_indexOf_7cf53_0 : decode cJ0_indexOf_7cf53 0 = .ok (.aload_n 0, 1) := by decide +kernel
theorem dJ0_indexOf_7cf53_1 : decode cJ0_indexOf_7cf53 1 = .ok (.invokevirtual 492, 3) := by decide +kernel
theorem dJ0_indexOf_7cf53_4 : decode cJ0_indexOf_7cf53 4 = .ok (.ifCond .eq 19, 3) := by decide +kernel
theorem dJ0_indexOf_7cf53_7 : decode cJ0_indexOf_7cf53 7 = .ok (.aload_n 0, 1) := by decide +kernel
theorem dJ0_indexOf_7cf53_8 : decode cJ0_indexOf_7cf53 8 = .ok (.getfield 9, 3) := by decide +kernel
theorem dJ0_indexOf_7cf53_11 : decode cJ0_indexOf_7cf53 11 = .ok (.iload_n 1, 1) := by decide +kernel
theorem dJ0_indexOf_7cf53_12 : decode cJ0_indexOf_7cf53 12 = .ok (.iload_n 2, 1) := by decide +kernel
theorem dJ0_indexOf_7cf53_13 : decode cJ0_indexOf_7cf53 13 = .ok (.aload_n 0, 1) := by decide +kernel
theorem dJ0_indexOf_7cf53_14 : decode cJ0_indexOf_7cf53 14 = .ok (.invokevirtual 505, 3) := by decide +kernel
theorem dJ0_indexOf_7cf53_17 : decode cJ0_indexOf_7cf53 17 = .ok (.invokestatic 637, 3) := by decide +kernel
theorem dJ0_indexOf_7cf53_20 : decode cJ0_indexOf_7cf53 20 = .ok (.goto 16, 3) := by decide +kernel
theorem dJ0_indexOf_7cf53_23 : decode cJ0_indexOf_7cf53 23 = .ok (.aload_n 0, 1) := by decide +kernel
theorem dJ0_indexOf_7cf53_24 : decode cJ0_indexOf_7cf53 24 = .ok (.getfield 9, 3) := by decide +kernel
theorem dJ0_indexOf_7cf53_27 : decode cJ0_indexOf_7cf53 27 = .ok (.iload_n 1, 1) := by decide +kernel
theorem dJ0_indexOf_7cf53_28 : decode cJ0_indexOf_7cf53 28 = .ok (.iload_n 2, 1) := by decide +kernel
theorem dJ0_indexOf_7cf53_29 : decode cJ0_indexOf_7cf53 29 = .ok (.aload_n 0, 1) := by decide +kernel
theorem dJ0_indexOf_7cf53_30 : decode cJ0_indexOf_7cf53 30 = .ok (.invokevirtual 505, 3) := by decide +kernel
theorem dJ0_indexOf_7cf53_33 : decode cJ0_indexOf_7cf53 33 = .ok (.invokestatic 640, 3) := by decide +kernel
theorem dJ0_indexOf_7cf53_36 : decode cJ0_indexOf_7cf53 36 = .ok (.ireturn, 1) := by decide +kernel
theorem dJ0_coder_7d493_0 : decode cJ0_coder_7d493 0 = .ok (.getstatic 38, 3) := by decide +kernel
theorem dJ0_coder_7d493_3 : decode cJ0_coder_7d493 3 = .ok (.ifCond .eq 10, 3) := by decide +kernel
theorem dJ0_coder_7d493_6 : decode cJ0_coder_7d493 6 = .ok (.aload_n 0, 1) := by decide +kernel
theorem dJ0_coder_7d493_7 : decode cJ0_coder_7d493 7 = .ok (.getfield 15, 3) := by decide +kernel
theorem dJ0_coder_7d493_10 : decode cJ0_coder_7d493 10 = .ok (.goto 4, 3) := by decide +kernel
theorem dJ0_coder_7d493_13 : decode cJ0_coder_7d493 13 = .ok (.iconst 1, 1) := by decide +kernel
theorem dJ0_coder_7d493_14 : decode cJ0_coder_7d493 14 = .ok (.ireturn, 1) := by decide +kernel
theorem dJ0_isLatin1_aae02_0 : decode cJ0_isLatin1_aae02 0 = .ok (.getstatic 38, 3) := by decide +kernel
theorem dJ0_isLatin1_aae02_3 : decode cJ0_isLatin1_aae02 3 = .ok (.ifCond .eq 14, 3) := by decide +kernel
theorem dJ0_isLatin1_aae02_6 : decode cJ0_isLatin1_aae02 6 = .ok (.aload_n 0, 1) := by decide +kernel
theorem dJ0_isLatin1_aae02_7 : decode cJ0_isLatin1_aae02 7 = .ok (.getfield 15, 3) := by decide +kernel
theorem dJ0_isLatin1_aae02_10 : decode cJ0_isLatin1_aae02 10 = .ok (.ifCond .ne 7, 3) := by decide +kernel
theorem dJ0_isLatin1_aae02_13 : decode cJ0_isLatin1_aae02 13 = .ok (.iconst 1, 1) := by decide +kernel
theorem dJ0_isLatin1_aae02_14 : decode cJ0_isLatin1_aae02 14 = .ok (.goto 4, 3) := by decide +kernel
theorem dJ0_isLatin1_aae02_17 : decode cJ0_isLatin1_aae02 17 = .ok (.iconst 0, 1) := by decide +kernel
theorem dJ0_isLatin1_aae02_18 : decode cJ0_isLatin1_aae02 18 = .ok (.ireturn, 1) := by decide +kernel
theorem dJ0_checkIndex_df160_0 : decode cJ0_checkIndex_df160 0 = .ok (.iload_n 0, 1) := by decide +kernel
theorem dJ0_checkIndex_df160_1 : decode cJ0_checkIndex_df160 1 = .ok (.iload_n 1, 1) := by decide +kernel
theorem dJ0_checkIndex_df160_2 : decode cJ0_checkIndex_df160 2 = .ok (.getstatic 1053, 3) := by decide +kernel
theorem dJ0_checkIndex_df160_5 : decode cJ0_checkIndex_df160 5 = .ok (.invokestatic 1059, 3) := by decide +kernel
theorem dJ0_checkIndex_df160_8 : decode cJ0_checkIndex_df160 8 = .ok (.pop, 1) := by decide +kernel
theorem dJ0_checkIndex_df160_9 : decode cJ0_checkIndex_df160 9 = .ok (.return_, 1) := by decide +kernel
theorem dJ0_checkBoundsBeginEnd_23922_0 : decode cJ0_checkBoundsBeginEnd_23922 0 = .ok (.iload_n 0, 1) := by decide +kernel
theorem dJ0_checkBoundsBeginEnd_23922_1 : decode cJ0_checkBoundsBeginEnd_23922 1 = .ok (.iload_n 1, 1) := by decide +kernel
theorem dJ0_checkBoundsBeginEnd_23922_2 : decode cJ0_checkBoundsBeginEnd_23922 2 = .ok (.iload_n 2, 1) := by decide +kernel
theorem dJ0_checkBoundsBeginEnd_23922_3 : decode cJ0_checkBoundsBeginEnd_23922 3 = .ok (.getstatic 1053, 3) := by decide +kernel
theorem dJ0_checkBoundsBeginEnd_23922_6 : decode cJ0_checkBoundsBeginEnd_23922 6 = .ok (.invokestatic 1062, 3) := by decide +kernel
theorem dJ0_checkBoundsBeginEnd_23922_9 : decode cJ0_checkBoundsBeginEnd_23922 9 = .ok (.pop, 1) := by decide +kernel
theorem dJ0_checkBoundsBeginEnd_23922_10 : decode cJ0_checkBoundsBeginEnd_23922 10 = .ok (.return_, 1) := by decide +kernel
theorem dJ1_charAt_3b067_0 : decode cJ1_charAt_3b067 0 = .ok (.iload_n 1, 1) := by decide +kernel
theorem dJ1_charAt_3b067_1 : decode cJ1_charAt_3b067 1 = .ok (.aload_n 0, 1) := by decide +kernel
theorem dJ1_charAt_3b067_2 : decode cJ1_charAt_3b067 2 = .ok (.arraylength, 1) := by decide +kernel
theorem dJ1_charAt_3b067_3 : decode cJ1_charAt_3b067 3 = .ok (.invokestatic 9, 3) := by decide +kernel
theorem dJ1_charAt_3b067_6 : decode cJ1_charAt_3b067 6 = .ok (.aload_n 0, 1) := by decide +kernel
theorem dJ1_charAt_3b067_7 : decode cJ1_charAt_3b067 7 = .ok (.iload_n 1, 1) := by decide +kernel
theorem dJ1_charAt_3b067_8 : decode cJ1_charAt_3b067 8 = .ok (.baload, 1) := by decide +kernel
theorem dJ1_charAt_3b067_9 : decode cJ1_charAt_3b067 9 = .ok (.sipush 255, 3) := by decide +kernel
theorem dJ1_charAt_3b067_12 : decode cJ1_charAt_3b067 12 = .ok (.iand, 1) := by decide +kernel
theorem dJ1_charAt_3b067_13 : decode cJ1_charAt_3b067 13 = .ok (.i2c, 1) := by decide +kernel
theorem dJ1_charAt_3b067_14 : decode cJ1_charAt_3b067 14 = .ok (.ireturn, 1) := by decide +kernel
theorem dJ1_canEncode_9a6ad_0 : decode cJ1_canEncode_9a6ad 0 = .ok (.iload_n 0, 1) := by decide +kernel
theorem dJ1_canEncode_9a6ad_1 : decode cJ1_canEncode_9a6ad 1 = .ok (.ifCond .lt 14, 3) := by decide +kernel
theorem dJ1_canEncode_9a6ad_4 : decode cJ1_canEncode_9a6ad 4 = .ok (.iload_n 0, 1) := by decide +kernel
theorem dJ1_canEncode_9a6ad_5 : decode cJ1_canEncode_9a6ad 5 = .ok (.sipush 255, 3) := by decide +kernel
theorem dJ1_canEncode_9a6ad_8 : decode cJ1_canEncode_9a6ad 8 = .ok (.if_icmp .gt 7, 3) := by decide +kernel
theorem dJ1_canEncode_9a6ad_11 : decode cJ1_canEncode_9a6ad 11 = .ok (.iconst 1, 1) := by decide +kernel
theorem dJ1_canEncode_9a6ad_12 : decode cJ1_canEncode_9a6ad 12 = .ok (.goto 4, 3) := by decide +kernel
theorem dJ1_canEncode_9a6ad_15 : decode cJ1_canEncode_9a6ad 15 = .ok (.iconst 0, 1) := by decide +kernel
theorem dJ1_canEncode_9a6ad_16 : decode cJ1_canEncode_9a6ad 16 = .ok (.ireturn, 1) := by decide +kernel
theorem dJ1_indexOf_4cfef_0 : decode cJ1_indexOf_4cfef 0 = .ok (.iload_n 1, 1) := by decide +kernel
theorem dJ1_indexOf_4cfef_1 : decode cJ1_indexOf_4cfef 1 = .ok (.invokestatic 88, 3) := by decide +kernel
theorem dJ1_indexOf_4cfef_4 : decode cJ1_indexOf_4cfef 4 = .ok (.ifCond .ne 5, 3) := by decide +kernel
theorem dJ1_indexOf_4cfef_7 : decode cJ1_indexOf_4cfef 7 = .ok (.iconst (-1), 1) := by decide +kernel
theorem dJ1_indexOf_4cfef_8 : decode cJ1_indexOf_4cfef 8 = .ok (.ireturn, 1) := by decide +kernel
theorem dJ1_indexOf_4cfef_9 : decode cJ1_indexOf_4cfef 9 = .ok (.iload_n 2, 1) := by decide +kernel
theorem dJ1_indexOf_4cfef_10 : decode cJ1_indexOf_4cfef 10 = .ok (.iconst 0, 1) := by decide +kernel
theorem dJ1_indexOf_4cfef_11 : decode cJ1_indexOf_4cfef 11 = .ok (.invokestatic 92, 3) := by decide +kernel
theorem dJ1_indexOf_4cfef_14 : decode cJ1_indexOf_4cfef 14 = .ok (.istore_n 2, 1) := by decide +kernel
theorem dJ1_indexOf_4cfef_15 : decode cJ1_indexOf_4cfef 15 = .ok (.iload_n 3, 1) := by decide +kernel
theorem dJ1_indexOf_4cfef_16 : decode cJ1_indexOf_4cfef 16 = .ok (.aload_n 0, 1) := by decide +kernel
theorem dJ1_indexOf_4cfef_17 : decode cJ1_indexOf_4cfef 17 = .ok (.arraylength, 1) := by decide +kernel
theorem dJ1_indexOf_4cfef_18 : decode cJ1_indexOf_4cfef 18 = .ok (.invokestatic 38, 3) := by decide +kernel
theorem dJ1_indexOf_4cfef_21 : decode cJ1_indexOf_4cfef 21 = .ok (.istore_n 3, 1) := by decide +kernel
theorem dJ1_indexOf_4cfef_22 : decode cJ1_indexOf_4cfef 22 = .ok (.iload_n 2, 1) := by decide +kernel
theorem dJ1_indexOf_4cfef_23 : decode cJ1_indexOf_4cfef 23 = .ok (.iload_n 3, 1) := by decide +kernel
theorem dJ1_indexOf_4cfef_24 : decode cJ1_indexOf_4cfef 24 = .ok (.if_icmp .lt 5, 3) := by decide +kernel
theorem dJ1_indexOf_4cfef_27 : decode cJ1_indexOf_4cfef 27 = .ok (.iconst (-1), 1) := by decide +kernel
theorem dJ1_indexOf_4cfef_28 : decode cJ1_indexOf_4cfef 28 = .ok (.ireturn, 1) := by decide +kernel
theorem dJ1_indexOf_4cfef_29 : decode cJ1_indexOf_4cfef 29 = .ok (.aload_n 0, 1) := by decide +kernel
theorem dJ1_indexOf_4cfef_30 : decode cJ1_indexOf_4cfef 30 = .ok (.iload_n 1, 1) := by decide +kernel
theorem dJ1_indexOf_4cfef_31 : decode cJ1_indexOf_4cfef 31 = .ok (.iload_n 2, 1) := by decide +kernel
theorem dJ1_indexOf_4cfef_32 : decode cJ1_indexOf_4cfef 32 = .ok (.iload_n 3, 1) := by decide +kernel
theorem dJ1_indexOf_4cfef_33 : decode cJ1_indexOf_4cfef 33 = .ok (.invokestatic 95, 3) := by decide +kernel
theorem dJ1_indexOf_4cfef_36 : decode cJ1_indexOf_4cfef 36 = .ok (.ireturn, 1) := by decide +kernel
theorem dJ1_indexOfChar_4cfef_0 : decode cJ1_indexOfChar_4cfef 0 = .ok (.iload_n 1, 1) := by decide +kernel
theorem dJ1_indexOfChar_4cfef_1 : decode cJ1_indexOfChar_4cfef 1 = .ok (.i2b, 1) := by decide +kernel
theorem dJ1_indexOfChar_4cfef_2 : decode cJ1_indexOfChar_4cfef 2 = .ok (.istore 4, 2) := by decide +kernel
theorem dJ1_indexOfChar_4cfef_4 : decode cJ1_indexOfChar_4cfef 4 = .ok (.iload_n 2, 1) := by decide +kernel
theorem dJ1_indexOfChar_4cfef_5 : decode cJ1_indexOfChar_4cfef 5 = .ok (.istore 5, 2) := by decide +kernel
theorem dJ1_indexOfChar_4cfef_7 : decode cJ1_indexOfChar_4cfef 7 = .ok (.iload 5, 2) := by decide +kernel
theorem dJ1_indexOfChar_4cfef_9 : decode cJ1_indexOfChar_4cfef 9 = .ok (.iload_n 3, 1) := by decide +kernel
theorem dJ1_indexOfChar_4cfef_10 : decode cJ1_indexOfChar_4cfef 10 = .ok (.if_icmp .ge 21, 3) := by decide +kernel
theorem dJ1_indexOfChar_4cfef_13 : decode cJ1_indexOfChar_4cfef 13 = .ok (.aload_n 0, 1) := by decide +kernel
theorem dJ1_indexOfChar_4cfef_14 : decode cJ1_indexOfChar_4cfef 14 = .ok (.iload 5, 2) := by decide +kernel
theorem dJ1_indexOfChar_4cfef_16 : decode cJ1_indexOfChar_4cfef 16 = .ok (.baload, 1) := by decide +kernel
theorem dJ1_indexOfChar_4cfef_17 : decode cJ1_indexOfChar_4cfef 17 = .ok (.iload 4, 2) := by decide +kernel
theorem dJ1_indexOfChar_4cfef_19 : decode cJ1_indexOfChar_4cfef 19 = .ok (.if_icmp .ne 6, 3) := by decide +kernel
theorem dJ1_indexOfChar_4cfef_22 : decode cJ1_indexOfChar_4cfef 22 = .ok (.iload 5, 2) := by decide +kernel
theorem dJ1_indexOfChar_4cfef_24 : decode cJ1_indexOfChar_4cfef 24 = .ok (.ireturn, 1) := by decide +kernel
theorem dJ1_indexOfChar_4cfef_25 : decode cJ1_indexOfChar_4cfef 25 = .ok (.iinc 5 1, 3) := by decide +kernel
theorem dJ1_indexOfChar_4cfef_28 : decode cJ1_indexOfChar_4cfef 28 = .ok (.goto (-21), 3) := by decide +kernel
theorem dJ1_indexOfChar_4cfef_31 : decode cJ1_indexOfChar_4cfef 31 = .ok (.iconst (-1), 1) := by decide +kernel
theorem dJ1_indexOfChar_4cfef_32 : decode cJ1_indexOfChar_4cfef 32 = .ok (.ireturn, 1) := by decide +kernel
theorem dJ2_getChar_3b067_0 : decode cJ2_getChar_3b067 0 = .ok (.getstatic 44, 3) := by decide +kernel
theorem dJ2_getChar_3b067_3 : decode cJ2_getChar_3b067 3 = .ok (.ifCond .ne 25, 3) := by decide +kernel
theorem dJ2_getChar_3b067_6 : decode cJ2_getChar_3b067 6 = .ok (.iload_n 1, 1) := by decide +kernel
theorem dJ2_getChar_3b067_7 : decode cJ2_getChar_3b067 7 = .ok (.ifCond .lt 11, 3) := by decide +kernel
theorem dJ2_getChar_3b067_10 : decode cJ2_getChar_3b067 10 = .ok (.iload_n 1, 1) := by decide +kernel
theorem dJ2_getChar_3b067_11 : decode cJ2_getChar_3b067 11 = .ok (.aload_n 0, 1) := by decide +kernel
theorem dJ2_getChar_3b067_12 : decode cJ2_getChar_3b067 12 = .ok (.invokestatic 48, 3) := by decide +kernel
theorem dJ2_getChar_3b067_15 : decode cJ2_getChar_3b067 15 = .ok (.if_icmp .lt 13, 3) := by decide +kernel
theorem dJ2_getChar_3b067_18 : decode cJ2_getChar_3b067 18 = .ok (.new 52, 3) := by decide +kernel
theorem dJ2_getChar_3b067_21 : decode cJ2_getChar_3b067 21 = .ok (.dup, 1) := by decide +kernel
theorem dJ2_getChar_3b067_22 : decode cJ2_getChar_3b067 22 = .ok (.ldc 54, 2) := by decide +kernel
theorem dJ2_getChar_3b067_24 : decode cJ2_getChar_3b067 24 = .ok (.invokespecial 56, 3) := by decide +kernel
theorem dJ2_getChar_3b067_27 : decode cJ2_getChar_3b067 27 = .ok (.athrow, 1) := by decide +kernel
theorem dJ2_getChar_3b067_28 : decode cJ2_getChar_3b067 28 = .ok (.iload_n 1, 1) := by decide +kernel
theorem dJ2_getChar_3b067_29 : decode cJ2_getChar_3b067 29 = .ok (.iconst 1, 1) := by decide +kernel
theorem dJ2_getChar_3b067_30 : decode cJ2_getChar_3b067 30 = .ok (.ishl, 1) := by decide +kernel
theorem dJ2_getChar_3b067_31 : decode cJ2_getChar_3b067 31 = .ok (.istore_n 1, 1) := by decide +kernel
theorem dJ2_getChar_3b067_32 : decode cJ2_getChar_3b067 32 = .ok (.aload_n 0, 1) := by decide +kernel
theorem dJ2_getChar_3b067_33 : decode cJ2_getChar_3b067 33 = .ok (.iload_n 1, 1) := by decide +kernel
theorem dJ2_getChar_3b067_34 : decode cJ2_getChar_3b067 34 = .ok (.iinc 1 1, 3) := by decide +kernel
theorem dJ2_getChar_3b067_37 : decode cJ2_getChar_3b067 37 = .ok (.baload, 1) := by decide +kernel
theorem dJ2_getChar_3b067_38 : decode cJ2_getChar_3b067 38 = .ok (.sipush 255, 3) := by decide +kernel
theorem dJ2_getChar_3b067_41 : decode cJ2_getChar_3b067 41 = .ok (.iand, 1) := by decide +kernel
theorem dJ2_getChar_3b067_42 : decode cJ2_getChar_3b067 42 = .ok (.getstatic 59, 3) := by decide +kernel
theorem dJ2_getChar_3b067_45 : decode cJ2_getChar_3b067 45 = .ok (.ishl, 1) := by decide +kernel
theorem dJ2_getChar_3b067_46 : decode cJ2_getChar_3b067 46 = .ok (.aload_n 0, 1) := by decide +kernel
theorem dJ2_getChar_3b067_47 : decode cJ2_getChar_3b067 47 = .ok (.iload_n 1, 1) := by decide +kernel
theorem dJ2_getChar_3b067_48 : decode cJ2_getChar_3b067 48 = .ok (.baload, 1) := by decide +kernel
theorem dJ2_getChar_3b067_49 : decode cJ2_getChar_3b067 49 = .ok (.sipush 255, 3) := by decide +kernel
theorem dJ2_getChar_3b067_52 : decode cJ2_getChar_3b067 52 = .ok (.iand, 1) := by decide +kernel
theorem dJ2_getChar_3b067_53 : decode cJ2_getChar_3b067 53 = .ok (.getstatic 63, 3) := by decide +kernel
theorem dJ2_getChar_3b067_56 : decode cJ2_getChar_3b067 56 = .ok (.ishl, 1) := by decide +kernel
theorem dJ2_getChar_3b067_57 : decode cJ2_getChar_3b067 57 = .ok (.ior, 1) := by decide +kernel
theorem dJ2_getChar_3b067_58 : decode cJ2_getChar_3b067 58 = .ok (.i2c, 1) := by decide +kernel
theorem dJ2_getChar_3b067_59 : decode cJ2_getChar_3b067 59 = .ok (.ireturn, 1) := by decide +kernel
theorem dJ2_length_9d52b_0 : decode cJ2_length_9d52b 0 = .ok (.aload_n 0, 1) := by decide +kernel
theorem dJ2_length_9d52b_1 : decode cJ2_length_9d52b 1 = .ok (.arraylength, 1) := by decide +kernel
theorem dJ2_length_9d52b_2 : decode cJ2_length_9d52b 2 = .ok (.iconst 1, 1) := by decide +kernel
theorem dJ2_length_9d52b_3 : decode cJ2_length_9d52b 3 = .ok (.ishr, 1) := by decide +kernel
theorem dJ2_length_9d52b_4 : decode cJ2_length_9d52b 4 = .ok (.ireturn, 1) := by decide +kernel
theorem dJ2_indexOf_4cfef_0 : decode cJ2_indexOf_4cfef 0 = .ok (.iload_n 2, 1) := by decide +kernel
theorem dJ2_indexOf_4cfef_1 : decode cJ2_indexOf_4cfef 1 = .ok (.iconst 0, 1) := by decide +kernel
theorem dJ2_indexOf_4cfef_2 : decode cJ2_indexOf_4cfef 2 = .ok (.invokestatic 224, 3) := by decide +kernel
theorem dJ2_indexOf_4cfef_5 : decode cJ2_indexOf_4cfef 5 = .ok (.istore_n 2, 1) := by decide +kernel
theorem dJ2_indexOf_4cfef_6 : decode cJ2_indexOf_4cfef 6 = .ok (.iload_n 3, 1) := by decide +kernel
theorem dJ2_indexOf_4cfef_7 : decode cJ2_indexOf_4cfef 7 = .ok (.aload_n 0, 1) := by decide +kernel
theorem dJ2_indexOf_4cfef_8 : decode cJ2_indexOf_4cfef 8 = .ok (.arraylength, 1) := by decide +kernel
theorem dJ2_indexOf_4cfef_9 : decode cJ2_indexOf_4cfef 9 = .ok (.iconst 1, 1) := by decide +kernel
theorem dJ2_indexOf_4cfef_10 : decode cJ2_indexOf_4cfef 10 = .ok (.ishr, 1) := by decide +kernel
theorem dJ2_indexOf_4cfef_11 : decode cJ2_indexOf_4cfef 11 = .ok (.invokestatic 183, 3) := by decide +kernel
theorem dJ2_indexOf_4cfef_14 : decode cJ2_indexOf_4cfef 14 = .ok (.istore_n 3, 1) := by decide +kernel
theorem dJ2_indexOf_4cfef_15 : decode cJ2_indexOf_4cfef 15 = .ok (.iload_n 2, 1) := by decide +kernel
theorem dJ2_indexOf_4cfef_16 : decode cJ2_indexOf_4cfef 16 = .ok (.iload_n 3, 1) := by decide +kernel
theorem dJ2_indexOf_4cfef_17 : decode cJ2_indexOf_4cfef 17 = .ok (.if_icmp .lt 5, 3) := by decide +kernel
theorem dJ2_indexOf_4cfef_20 : decode cJ2_indexOf_4cfef 20 = .ok (.iconst (-1), 1) := by decide +kernel
theorem dJ2_indexOf_4cfef_21 : decode cJ2_indexOf_4cfef 21 = .ok (.ireturn, 1) := by decide +kernel
theorem dJ2_indexOf_4cfef_22 : decode cJ2_indexOf_4cfef 22 = .ok (.iload_n 1, 1) := by decide +kernel
theorem dJ2_indexOf_4cfef_23 : decode cJ2_indexOf_4cfef 23 = .ok (.ldc 227, 2) := by decide +kernel
theorem dJ2_indexOf_4cfef_25 : decode cJ2_indexOf_4cfef 25 = .ok (.if_icmp .ge 11, 3) := by decide +kernel
theorem dJ2_indexOf_4cfef_28 : decode cJ2_indexOf_4cfef 28 = .ok (.aload_n 0, 1) := by decide +kernel
theorem dJ2_indexOf_4cfef_29 : decode cJ2_indexOf_4cfef 29 = .ok (.iload_n 1, 1) := by decide +kernel
theorem dJ2_indexOf_4cfef_30 : decode cJ2_indexOf_4cfef 30 = .ok (.iload_n 2, 1) := by decide +kernel
theorem dJ2_indexOf_4cfef_31 : decode cJ2_indexOf_4cfef 31 = .ok (.iload_n 3, 1) := by decide +kernel
theorem dJ2_indexOf_4cfef_32 : decode cJ2_indexOf_4cfef 32 = .ok (.invokestatic 228, 3) := by decide +kernel
theorem dJ2_indexOf_4cfef_35 : decode cJ2_indexOf_4cfef 35 = .ok (.ireturn, 1) := by decide +kernel
theorem dJ2_indexOf_4cfef_36 : decode cJ2_indexOf_4cfef 36 = .ok (.aload_n 0, 1) := by decide +kernel
theorem dJ2_indexOf_4cfef_37 : decode cJ2_indexOf_4cfef 37 = .ok (.iload_n 1, 1) := by decide +kernel
theorem dJ2_indexOf_4cfef_38 : decode cJ2_indexOf_4cfef 38 = .ok (.iload_n 2, 1) := by decide +kernel
theorem dJ2_indexOf_4cfef_39 : decode cJ2_indexOf_4cfef 39 = .ok (.iload_n 3, 1) := by decide +kernel
theorem dJ2_indexOf_4cfef_40 : decode cJ2_indexOf_4cfef 40 = .ok (.invokestatic 232, 3) := by decide +kernel
theorem dJ2_indexOf_4cfef_43 : decode cJ2_indexOf_4cfef 43 = .ok (.ireturn, 1) := by decide +kernel
theorem dJ2_indexOfChar_4cfef_0 : decode cJ2_indexOfChar_4cfef 0 = .ok (.iload_n 2, 1) := by decide +kernel
theorem dJ2_indexOfChar_4cfef_1 : decode cJ2_indexOfChar_4cfef 1 = .ok (.iload_n 3, 1) := by decide +kernel
theorem dJ2_indexOfChar_4cfef_2 : decode cJ2_indexOfChar_4cfef 2 = .ok (.aload_n 0, 1) := by decide +kernel
theorem dJ2_indexOfChar_4cfef_3 : decode cJ2_indexOfChar_4cfef 3 = .ok (.invokestatic 96, 3) := by decide +kernel
theorem dJ2_indexOfChar_4cfef_6 : decode cJ2_indexOfChar_4cfef 6 = .ok (.aload_n 0, 1) := by decide +kernel
theorem dJ2_indexOfChar_4cfef_7 : decode cJ2_indexOfChar_4cfef 7 = .ok (.iload_n 1, 1) := by decide +kernel
theorem dJ2_indexOfChar_4cfef_8 : decode cJ2_indexOfChar_4cfef 8 = .ok (.iload_n 2, 1) := by decide +kernel
theorem dJ2_indexOfChar_4cfef_9 : decode cJ2_indexOfChar_4cfef 9 = .ok (.iload_n 3, 1) := by decide +kernel
theorem dJ2_indexOfChar_4cfef_10 : decode cJ2_indexOfChar_4cfef 10 = .ok (.invokestatic 244, 3) := by decide +kernel
theorem dJ2_indexOfChar_4cfef_13 : decode cJ2_indexOfChar_4cfef 13 = .ok (.ireturn, 1) := by decide +kernel
theorem dJ2_indexOfCharUnsafe_4cfef_0 : decode cJ2_indexOfCharUnsafe_4cfef 0 = .ok (.iload_n 2, 1) := by decide +kernel
theorem dJ2_indexOfCharUnsafe_4cfef_1 : decode cJ2_indexOfCharUnsafe_4cfef 1 = .ok (.istore 4, 2) := by decide +kernel
theorem dJ2_indexOfCharUnsafe_4cfef_3 : decode cJ2_indexOfCharUnsafe_4cfef 3 = .ok (.iload 4, 2) := by decide +kernel
theorem dJ2_indexOfCharUnsafe_4cfef_5 : decode cJ2_indexOfCharUnsafe_4cfef 5 = .ok (.iload_n 3, 1) := by decide +kernel
theorem dJ2_indexOfCharUnsafe_4cfef_6 : decode cJ2_indexOfCharUnsafe_4cfef 6 = .ok (.if_icmp .ge 22, 3) := by decide +kernel
theorem dJ2_indexOfCharUnsafe_4cfef_9 : decode cJ2_indexOfCharUnsafe_4cfef 9 = .ok (.aload_n 0, 1) := by decide +kernel
theorem dJ2_indexOfCharUnsafe_4cfef_10 : decode cJ2_indexOfCharUnsafe_4cfef 10 = .ok (.iload 4, 2) := by decide +kernel
theorem dJ2_indexOfCharUnsafe_4cfef_12 : decode cJ2_indexOfCharUnsafe_4cfef 12 = .ok (.invokestatic 71, 3) := by decide +kernel
theorem dJ2_indexOfCharUnsafe_4cfef_15 : decode cJ2_indexOfCharUnsafe_4cfef 15 = .ok (.iload_n 1, 1) := by decide +kernel
theorem dJ2_indexOfCharUnsafe_4cfef_16 : decode cJ2_indexOfCharUnsafe_4cfef 16 = .ok (.if_icmp .ne 6, 3) := by decide +kernel
theorem dJ2_indexOfCharUnsafe_4cfef_19 : decode cJ2_indexOfCharUnsafe_4cfef 19 = .ok (.iload 4, 2) := by decide +kernel
theorem dJ2_indexOfCharUnsafe_4cfef_21 : decode cJ2_indexOfCharUnsafe_4cfef 21 = .ok (.ireturn, 1) := by decide +kernel
theorem dJ2_indexOfCharUnsafe_4cfef_22 : decode cJ2_indexOfCharUnsafe_4cfef 22 = .ok (.iinc 4 1, 3) := by decide +kernel
theorem dJ2_indexOfCharUnsafe_4cfef_25 : decode cJ2_indexOfCharUnsafe_4cfef 25 = .ok (.goto (-22), 3) := by decide +kernel
theorem dJ2_indexOfCharUnsafe_4cfef_28 : decode cJ2_indexOfCharUnsafe_4cfef 28 = .ok (.iconst (-1), 1) := by decide +kernel
theorem dJ2_indexOfCharUnsafe_4cfef_29 : decode cJ2_indexOfCharUnsafe_4cfef 29 = .ok (.ireturn, 1) := by decide +kernel
theorem dJ2_indexOfSupplementary_4cfef_0 : decode cJ2_indexOfSupplementary_4cfef 0 = .ok (.iload_n 1, 1) := by decide +kernel
theorem dJ2_indexOfSupplementary_4cfef_1 : decode cJ2_indexOfSupplementary_4cfef 1 = .ok (.invokestatic 164, 3) := by decide +kernel
theorem dJ2_indexOfSupplementary_4cfef_4 : decode cJ2_indexOfSupplementary_4cfef 4 = .ok (.ifCond .eq 65, 3) := by decide +kernel
theorem dJ2_indexOfSupplementary_4cfef_7 : decode cJ2_indexOfSupplementary_4cfef 7 = .ok (.iload_n 1, 1) := by decide +kernel
theorem dJ2_indexOfSupplementary_4cfef_8 : decode cJ2_indexOfSupplementary_4cfef 8 = .ok (.invokestatic 157, 3) := by decide +kernel
theorem dJ2_indexOfSupplementary_4cfef_11 : decode cJ2_indexOfSupplementary_4cfef 11 = .ok (.istore 4, 2) := by decide +kernel
theorem dJ2_indexOfSupplementary_4cfef_13 : decode cJ2_indexOfSupplementary_4cfef 13 = .ok (.iload_n 1, 1) := by decide +kernel
theorem dJ2_indexOfSupplementary_4cfef_14 : decode cJ2_indexOfSupplementary_4cfef 14 = .ok (.invokestatic 161, 3) := by decide +kernel
theorem dJ2_indexOfSupplementary_4cfef_17 : decode cJ2_indexOfSupplementary_4cfef 17 = .ok (.istore 5, 2) := by decide +kernel
theorem dJ2_indexOfSupplementary_4cfef_19 : decode cJ2_indexOfSupplementary_4cfef 19 = .ok (.iload_n 2, 1) := by decide +kernel
theorem dJ2_indexOfSupplementary_4cfef_20 : decode cJ2_indexOfSupplementary_4cfef 20 = .ok (.iload_n 3, 1) := by decide +kernel
theorem dJ2_indexOfSupplementary_4cfef_21 : decode cJ2_indexOfSupplementary_4cfef 21 = .ok (.aload_n 0, 1) := by decide +kernel
theorem dJ2_indexOfSupplementary_4cfef_22 : decode cJ2_indexOfSupplementary_4cfef 22 = .ok (.invokestatic 96, 3) := by decide +kernel
theorem dJ2_indexOfSupplementary_4cfef_25 : decode cJ2_indexOfSupplementary_4cfef 25 = .ok (.iload_n 2, 1) := by decide +kernel
theorem dJ2_indexOfSupplementary_4cfef_26 : decode cJ2_indexOfSupplementary_4cfef 26 = .ok (.istore 6, 2) := by decide +kernel
theorem dJ2_indexOfSupplementary_4cfef_28 : decode cJ2_indexOfSupplementary_4cfef 28 = .ok (.iload 6, 2) := by decide +kernel
theorem dJ2_indexOfSupplementary_4cfef_30 : decode cJ2_indexOfSupplementary_4cfef 30 = .ok (.iload_n 3, 1) := by decide +kernel
theorem dJ2_indexOfSupplementary_4cfef_31 : decode cJ2_indexOfSupplementary_4cfef 31 = .ok (.iconst 1, 1) := by decide +kernel
theorem dJ2_indexOfSupplementary_4cfef_32 : decode cJ2_indexOfSupplementary_4cfef 32 = .ok (.isub, 1) := by decide +kernel
theorem dJ2_indexOfSupplementary_4cfef_33 : decode cJ2_indexOfSupplementary_4cfef 33 = .ok (.if_icmp .ge 36, 3) := by decide +kernel
theorem dJ2_indexOfSupplementary_4cfef_36 : decode cJ2_indexOfSupplementary_4cfef 36 = .ok (.aload_n 0, 1) := by decide +kernel
theorem dJ2_indexOfSupplementary_4cfef_37 : decode cJ2_indexOfSupplementary_4cfef 37 = .ok (.iload 6, 2) := by decide +kernel
theorem dJ2_indexOfSupplementary_4cfef_39 : decode cJ2_indexOfSupplementary_4cfef 39 = .ok (.invokestatic 71, 3) := by decide +kernel
theorem dJ2_indexOfSupplementary_4cfef_42 : decode cJ2_indexOfSupplementary_4cfef 42 = .ok (.iload 4, 2) := by decide +kernel
theorem dJ2_indexOfSupplementary_4cfef_44 : decode cJ2_indexOfSupplementary_4cfef 44 = .ok (.if_icmp .ne 19, 3) := by decide +kernel
theorem dJ2_indexOfSupplementary_4cfef_47 : decode cJ2_indexOfSupplementary_4cfef 47 = .ok (.aload_n 0, 1) := by decide +kernel
theorem dJ2_indexOfSupplementary_4cfef_48 : decode cJ2_indexOfSupplementary_4cfef 48 = .ok (.iload 6, 2) := by decide +kernel
theorem dJ2_indexOfSupplementary_4cfef_50 : decode cJ2_indexOfSupplementary_4cfef 50 = .ok (.iconst 1, 1) := by decide +kernel
theorem dJ2_indexOfSupplementary_4cfef_51 : decode cJ2_indexOfSupplementary_4cfef 51 = .ok (.iadd, 1) := by decide +kernel
theorem dJ2_indexOfSupplementary_4cfef_52 : decode cJ2_indexOfSupplementary_4cfef 52 = .ok (.invokestatic 71, 3) := by decide +kernel
theorem dJ2_indexOfSupplementary_4cfef_55 : decode cJ2_indexOfSupplementary_4cfef 55 = .ok (.iload 5, 2) := by decide +kernel
theorem dJ2_indexOfSupplementary_4cfef_57 : decode cJ2_indexOfSupplementary_4cfef 57 = .ok (.if_icmp .ne 6, 3) := by decide +kernel
theorem dJ2_indexOfSupplementary_4cfef_60 : decode cJ2_indexOfSupplementary_4cfef 60 = .ok (.iload 6, 2) := by decide +kernel
theorem dJ2_indexOfSupplementary_4cfef_62 : decode cJ2_indexOfSupplementary_4cfef 62 = .ok (.ireturn, 1) := by decide +kernel
theorem dJ2_indexOfSupplementary_4cfef_63 : decode cJ2_indexOfSupplementary_4cfef 63 = .ok (.iinc 6 1, 3) := by decide +kernel
theorem dJ2_indexOfSupplementary_4cfef_66 : decode cJ2_indexOfSupplementary_4cfef 66 = .ok (.goto (-38), 3) := by decide +kernel
theorem dJ2_indexOfSupplementary_4cfef_69 : decode cJ2_indexOfSupplementary_4cfef 69 = .ok (.iconst (-1), 1) := by decide +kernel
theorem dJ2_indexOfSupplementary_4cfef_70 : decode cJ2_indexOfSupplementary_4cfef 70 = .ok (.ireturn, 1) := by decide +kernel
theorem dJ2_charAt_3b067_0 : decode cJ2_charAt_3b067 0 = .ok (.iload_n 1, 1) := by decide +kernel
theorem dJ2_charAt_3b067_1 : decode cJ2_charAt_3b067 1 = .ok (.aload_n 0, 1) := by decide +kernel
theorem dJ2_charAt_3b067_2 : decode cJ2_charAt_3b067 2 = .ok (.invokestatic 67, 3) := by decide +kernel
theorem dJ2_charAt_3b067_5 : decode cJ2_charAt_3b067 5 = .ok (.aload_n 0, 1) := by decide +kernel
theorem dJ2_charAt_3b067_6 : decode cJ2_charAt_3b067 6 = .ok (.iload_n 1, 1) := by decide +kernel
theorem dJ2_charAt_3b067_7 : decode cJ2_charAt_3b067 7 = .ok (.invokestatic 71, 3) := by decide +kernel
theorem dJ2_charAt_3b067_10 : decode cJ2_charAt_3b067 10 = .ok (.ireturn, 1) := by decide +kernel
theorem dJ2_checkIndex_2214a_0 : decode cJ2_checkIndex_2214a 0 = .ok (.iload_n 0, 1) := by decide +kernel
theorem dJ2_checkIndex_2214a_1 : decode cJ2_checkIndex_2214a 1 = .ok (.aload_n 1, 1) := by decide +kernel
theorem dJ2_checkIndex_2214a_2 : decode cJ2_checkIndex_2214a 2 = .ok (.invokestatic 48, 3) := by decide +kernel
theorem dJ2_checkIndex_2214a_5 : decode cJ2_checkIndex_2214a 5 = .ok (.invokestatic 414, 3) := by decide +kernel
theorem dJ2_checkIndex_2214a_8 : decode cJ2_checkIndex_2214a 8 = .ok (.return_, 1) := by decide +kernel
theorem dJ2_checkBoundsBeginEnd_d044e_0 : decode cJ2_checkBoundsBeginEnd_d044e 0 = .ok (.iload_n 0, 1) := by decide +kernel
theorem dJ2_checkBoundsBeginEnd_d044e_1 : decode cJ2_checkBoundsBeginEnd_d044e 1 = .ok (.iload_n 1, 1) := by decide +kernel
theorem dJ2_checkBoundsBeginEnd_d044e_2 : decode cJ2_checkBoundsBeginEnd_d044e 2 = .ok (.aload_n 2, 1) := by decide +kernel
theorem dJ2_checkBoundsBeginEnd_d044e_3 : decode cJ2_checkBoundsBeginEnd_d044e 3 = .ok (.invokestatic 48, 3) := by decide +kernel
theorem dJ2_checkBoundsBeginEnd_d044e_6 : decode cJ2_checkBoundsBeginEnd_d044e 6 = .ok (.invokestatic 241, 3) := by decide +kernel
theorem dJ2_checkBoundsBeginEnd_d044e_9 : decode cJ2_checkBoundsBeginEnd_d044e 9 = .ok (.return_, 1) := by decide +kernel
theorem dJ3_checkIndex_8e157_0 : decode cJ3_checkIndex_8e157 0 = .ok (.iload_n 0, 1) := by decide +kernel
theorem dJ3_checkIndex_8e157_1 : decode cJ3_checkIndex_8e157 1 = .ok (.ifCond .lt 8, 3) := by decide +kernel
theorem dJ3_checkIndex_8e157_4 : decode cJ3_checkIndex_8e157 4 = .ok (.iload_n 0, 1) := by decide +kernel
theorem dJ3_checkIndex_8e157_5 : decode cJ3_checkIndex_8e157 5 = .ok (.iload_n 1, 1) := by decide +kernel
theorem dJ3_checkIndex_8e157_6 : decode cJ3_checkIndex_8e157 6 = .ok (.if_icmp .lt 10, 3) := by decide +kernel
theorem dJ3_checkIndex_8e157_9 : decode cJ3_checkIndex_8e157 9 = .ok (.aload_n 2, 1) := by decide +kernel
theorem dJ3_checkIndex_8e157_10 : decode cJ3_checkIndex_8e157 10 = .ok (.iload_n 0, 1) := by decide +kernel
theorem dJ3_checkIndex_8e157_11 : decode cJ3_checkIndex_8e157 11 = .ok (.iload_n 1, 1) := by decide +kernel
theorem dJ3_checkIndex_8e157_12 : decode cJ3_checkIndex_8e157 12 = .ok (.invokestatic 95, 3) := by decide +kernel
theorem dJ3_checkIndex_8e157_15 : decode cJ3_checkIndex_8e157 15 = .ok (.athrow, 1) := by decide +kernel
theorem dJ3_checkIndex_8e157_16 : decode cJ3_checkIndex_8e157 16 = .ok (.iload_n 0, 1) := by decide +kernel
theorem dJ3_checkIndex_8e157_17 : decode cJ3_checkIndex_8e157 17 = .ok (.ireturn, 1) := by decide +kernel
theorem dJ3_checkFromToIndex_8c36e_0 : decode cJ3_checkFromToIndex_8c36e 0 = .ok (.iload_n 0, 1) := by decide +kernel
theorem dJ3_checkFromToIndex_8c36e_1 : decode cJ3_checkFromToIndex_8c36e 1 = .ok (.ifCond .lt 13, 3) := by decide +kernel
theorem dJ3_checkFromToIndex_8c36e_4 : decode cJ3_checkFromToIndex_8c36e 4 = .ok (.iload_n 0, 1) := by decide +kernel
theorem dJ3_checkFromToIndex_8c36e_5 : decode cJ3_checkFromToIndex_8c36e 5 = .ok (.iload_n 1, 1) := by decide +kernel
theorem dJ3_checkFromToIndex_8c36e_6 : decode cJ3_checkFromToIndex_8c36e 6 = .ok (.if_icmp .gt 8, 3) := by decide +kernel
theorem dJ3_checkFromToIndex_8c36e_9 : decode cJ3_checkFromToIndex_8c36e 9 = .ok (.iload_n 1, 1) := by decide +kernel
theorem dJ3_checkFromToIndex_8c36e_10 : decode cJ3_checkFromToIndex_8c36e 10 = .ok (.iload_n 2, 1) := by decide +kernel
theorem dJ3_checkFromToIndex_8c36e_11 : decode cJ3_checkFromToIndex_8c36e 11 = .ok (.if_icmp .le 11, 3) := by decide +kernel
theorem dJ3_checkFromToIndex_8c36e_14 : decode cJ3_checkFromToIndex_8c36e 14 = .ok (.aload_n 3, 1) := by decide +kernel
theorem dJ3_checkFromToIndex_8c36e_15 : decode cJ3_checkFromToIndex_8c36e 15 = .ok (.iload_n 0, 1) := by decide +kernel
theorem dJ3_checkFromToIndex_8c36e_16 : decode cJ3_checkFromToIndex_8c36e 16 = .ok (.iload_n 1, 1) := by decide +kernel
theorem dJ3_checkFromToIndex_8c36e_17 : decode cJ3_checkFromToIndex_8c36e 17 = .ok (.iload_n 2, 1) := by decide +kernel
theorem dJ3_checkFromToIndex_8c36e_18 : decode cJ3_checkFromToIndex_8c36e 18 = .ok (.invokestatic 99, 3) := by decide +kernel
theorem dJ3_checkFromToIndex_8c36e_21 : decode cJ3_checkFromToIndex_8c36e 21 = .ok (.athrow, 1) := by decide +kernel
theorem dJ3_checkFromToIndex_8c36e_22 : decode cJ3_checkFromToIndex_8c36e 22 = .ok (.iload_n 0, 1) := by decide +kernel
theorem dJ3_checkFromToIndex_8c36e_23 : decode cJ3_checkFromToIndex_8c36e 23 = .ok (.ireturn, 1) := by decide +kernel
theorem dL_law_0 : decode cL_law 0 = .ok (.new 7, 3) := by decide +kernel
theorem dL_law_3 : decode cL_law 3 = .ok (.dup, 1) := by decide +kernel
theorem dL_law_4 : decode cL_law 4 = .ok (.invokespecial 9, 3) := by decide +kernel
theorem dL_law_7 : decode cL_law 7 = .ok (.astore_n 1, 1) := by decide +kernel
theorem dL_law_8 : decode cL_law 8 = .ok (.new 10, 3) := by decide +kernel
theorem dL_law_11 : decode cL_law 11 = .ok (.dup, 1) := by decide +kernel
theorem dL_law_12 : decode cL_law 12 = .ok (.invokespecial 12, 3) := by decide +kernel
theorem dL_law_15 : decode cL_law 15 = .ok (.astore_n 2, 1) := by decide +kernel
theorem dL_law_16 : decode cL_law 16 = .ok (.iconst 0, 1) := by decide +kernel
theorem dL_law_17 : decode cL_law 17 = .ok (.istore_n 3, 1) := by decide +kernel
theorem dL_law_18 : decode cL_law 18 = .ok (.iload_n 3, 1) := by decide +kernel
theorem dL_law_19 : decode cL_law 19 = .ok (.aload_n 0, 1) := by decide +kernel
theorem dL_law_20 : decode cL_law 20 = .ok (.arraylength, 1) := by decide +kernel
theorem dL_law_21 : decode cL_law 21 = .ok (.bipush 6, 2) := by decide +kernel
theorem dL_law_23 : decode cL_law 23 = .ok (.isub, 1) := by decide +kernel
theorem dL_law_24 : decode cL_law 24 = .ok (.if_icmp .gt 757, 3) := by decide +kernel
theorem dL_law_27 : decode cL_law 27 = .ok (.aload_n 0, 1) := by decide +kernel
theorem dL_law_28 : decode cL_law 28 = .ok (.iload_n 3, 1) := by decide +kernel
theorem dL_law_29 : decode cL_law 29 = .ok (.iaload, 1) := by decide +kernel
theorem dL_law_30 : decode cL_law 30 = .ok (.bipush 31, 2) := by decide +kernel
theorem dL_law_32 : decode cL_law 32 = .ok (.iand, 1) := by decide +kernel
theorem dL_law_33 : decode cL_law 33 = .ok (.tableswitch 742 0 21 #[103, 166, 189, 202, 215, 228, 251, 285, 318, 367, 400, 433, 466, 499, 512, 535, 568, 601, 614, 663, 696, 719], 103) := by decide +kernel
theorem dL_law_136 : decode cL_law 136 = .ok (.aload_n 1, 1) := by decide +kernel
theorem dL_law_137 : decode cL_law 137 = .ok (.aload_n 0, 1) := by decide +kernel
theorem dL_law_138 : decode cL_law 138 = .ok (.iload_n 3, 1) := by decide +kernel
theorem dL_law_139 : decode cL_law 139 = .ok (.iconst 1, 1) := by decide +kernel
theorem dL_law_140 : decode cL_law 140 = .ok (.iadd, 1) := by decide +kernel
theorem dL_law_141 : decode cL_law 141 = .ok (.iaload, 1) := by decide +kernel
theorem dL_law_142 : decode cL_law 142 = .ok (.aload_n 0, 1) := by decide +kernel
theorem dL_law_143 : decode cL_law 143 = .ok (.iload_n 3, 1) := by decide +kernel
theorem dL_law_144 : decode cL_law 144 = .ok (.iconst 2, 1) := by decide +kernel
theorem dL_law_145 : decode cL_law 145 = .ok (.iadd, 1) := by decide +kernel
theorem dL_law_146 : decode cL_law 146 = .ok (.iaload, 1) := by decide +kernel
theorem dL_law_147 : decode cL_law 147 = .ok (.aload_n 0, 1) := by decide +kernel
theorem dL_law_148 : decode cL_law 148 = .ok (.iload_n 3, 1) := by decide +kernel
theorem dL_law_149 : decode cL_law 149 = .ok (.iconst 3, 1) := by decide +kernel
theorem dL_law_150 : decode cL_law 150 = .ok (.iadd, 1) := by decide +kernel
theorem dL_law_151 : decode cL_law 151 = .ok (.iaload, 1) := by decide +kernel
theorem dL_law_152 : decode cL_law 152 = .ok (.aload_n 0, 1) := by decide +kernel
theorem dL_law_153 : decode cL_law 153 = .ok (.iload_n 3, 1) := by decide +kernel
theorem dL_law_154 : decode cL_law 154 = .ok (.iconst 4, 1) := by decide +kernel
theorem dL_law_155 : decode cL_law 155 = .ok (.iadd, 1) := by decide +kernel
theorem dL_law_156 : decode cL_law 156 = .ok (.iaload, 1) := by decide +kernel
theorem dL_law_157 : decode cL_law 157 = .ok (.aload_n 0, 1) := by decide +kernel
theorem dL_law_158 : decode cL_law 158 = .ok (.iload_n 3, 1) := by decide +kernel
theorem dL_law_159 : decode cL_law 159 = .ok (.iconst 5, 1) := by decide +kernel
theorem dL_law_160 : decode cL_law 160 = .ok (.iadd, 1) := by decide +kernel
theorem dL_law_161 : decode cL_law 161 = .ok (.iaload, 1) := by decide +kernel
theorem dL_law_162 : decode cL_law 162 = .ok (.invokevirtual 13, 3) := by decide +kernel
theorem dL_law_165 : decode cL_law 165 = .ok (.aload_n 2, 1) := by decide +kernel
theorem dL_law_166 : decode cL_law 166 = .ok (.aload_n 0, 1) := by decide +kernel
theorem dL_law_167 : decode cL_law 167 = .ok (.iload_n 3, 1) := by decide +kernel
theorem dL_law_168 : decode cL_law 168 = .ok (.iconst 1, 1) := by decide +kernel
theorem dL_law_169 : decode cL_law 169 = .ok (.iadd, 1) := by decide +kernel
theorem dL_law_170 : decode cL_law 170 = .ok (.iaload, 1) := by decide +kernel
theorem dL_law_171 : decode cL_law 171 = .ok (.aload_n 0, 1) := by decide +kernel
theorem dL_law_172 : decode cL_law 172 = .ok (.iload_n 3, 1) := by decide +kernel
theorem dL_law_173 : decode cL_law 173 = .ok (.iconst 2, 1) := by decide +kernel
theorem dL_law_174 : decode cL_law 174 = .ok (.iadd, 1) := by decide +kernel
theorem dL_law_175 : decode cL_law 175 = .ok (.iaload, 1) := by decide +kernel
theorem dL_law_176 : decode cL_law 176 = .ok (.aload_n 0, 1) := by decide +kernel
theorem dL_law_177 : decode cL_law 177 = .ok (.iload_n 3, 1) := by decide +kernel
theorem dL_law_178 : decode cL_law 178 = .ok (.iconst 3, 1) := by decide +kernel
theorem dL_law_179 : decode cL_law 179 = .ok (.iadd, 1) := by decide +kernel
theorem dL_law_180 : decode cL_law 180 = .ok (.iaload, 1) := by decide +kernel
theorem dL_law_181 : decode cL_law 181 = .ok (.aload_n 0, 1) := by decide +kernel
theorem dL_law_182 : decode cL_law 182 = .ok (.iload_n 3, 1) := by decide +kernel
theorem dL_law_183 : decode cL_law 183 = .ok (.iconst 4, 1) := by decide +kernel
theorem dL_law_184 : decode cL_law 184 = .ok (.iadd, 1) := by decide +kernel
theorem dL_law_185 : decode cL_law 185 = .ok (.iaload, 1) := by decide +kernel
theorem dL_law_186 : decode cL_law 186 = .ok (.aload_n 0, 1) := by decide +kernel
theorem dL_law_187 : decode cL_law 187 = .ok (.iload_n 3, 1) := by decide +kernel
theorem dL_law_188 : decode cL_law 188 = .ok (.iconst 5, 1) := by decide +kernel
theorem dL_law_189 : decode cL_law 189 = .ok (.iadd, 1) := by decide +kernel
theorem dL_law_190 : decode cL_law 190 = .ok (.iaload, 1) := by decide +kernel
theorem dL_law_191 : decode cL_law 191 = .ok (.invokevirtual 17, 3) := by decide +kernel
theorem dL_law_194 : decode cL_law 194 = .ok (.if_icmp .eq 581, 3) := by decide +kernel
theorem dL_law_197 : decode cL_law 197 = .ok (.iconst 0, 1) := by decide +kernel
theorem dL_law_198 : decode cL_law 198 = .ok (.ireturn, 1) := by decide +kernel
theorem dL_law_199 : decode cL_law 199 = .ok (.aload_n 1, 1) := by decide +kernel
theorem dL_law_200 : decode cL_law 200 = .ok (.aload_n 0, 1) := by decide +kernel
theorem dL_law_201 : decode cL_law 201 = .ok (.iload_n 3, 1) := by decide +kernel
theorem dL_law_202 : decode cL_law 202 = .ok (.iconst 1, 1) := by decide +kernel
theorem dL_law_203 : decode cL_law 203 = .ok (.iadd, 1) := by decide +kernel
theorem dL_law_204 : decode cL_law 204 = .ok (.iaload, 1) := by decide +kernel
theorem dL_law_205 : decode cL_law 205 = .ok (.invokevirtual 18, 3) := by decide +kernel
theorem dL_law_208 : decode cL_law 208 = .ok (.aload_n 2, 1) := by decide +kernel
theorem dL_law_209 : decode cL_law 209 = .ok (.aload_n 0, 1) := by decide +kernel
theorem dL_law_210 : decode cL_law 210 = .ok (.iload_n 3, 1) := by decide +kernel
theorem dL_law_211 : decode cL_law 211 = .ok (.iconst 1, 1) := by decide +kernel
theorem dL_law_212 : decode cL_law 212 = .ok (.iadd, 1) := by decide +kernel
theorem dL_law_213 : decode cL_law 213 = .ok (.iaload, 1) := by decide +kernel
theorem dL_law_214 : decode cL_law 214 = .ok (.invokevirtual 22, 3) := by decide +kernel
theorem dL_law_217 : decode cL_law 217 = .ok (.if_icmp .eq 558, 3) := by decide +kernel
theorem dL_law_220 : decode cL_law 220 = .ok (.iconst 0, 1) := by decide +kernel
theorem dL_law_221 : decode cL_law 221 = .ok (.ireturn, 1) := by decide +kernel
theorem dL_law_222 : decode cL_law 222 = .ok (.aload_n 1, 1) := by decide +kernel
theorem dL_law_223 : decode cL_law 223 = .ok (.invokevirtual 23, 3) := by decide +kernel
theorem dL_law_226 : decode cL_law 226 = .ok (.aload_n 2, 1) := by decide +kernel
theorem dL_law_227 : decode cL_law 227 = .ok (.invokevirtual 27, 3) := by decide +kernel
theorem dL_law_230 : decode cL_law 230 = .ok (.if_icmp .eq 545, 3) := by decide +kernel
theorem dL_law_233 : decode cL_law 233 = .ok (.iconst 0, 1) := by decide +kernel
theorem dL_law_234 : decode cL_law 234 = .ok (.ireturn, 1) := by decide +kernel
theorem dL_law_235 : decode cL_law 235 = .ok (.aload_n 1, 1) := by decide +kernel
theorem dL_law_236 : decode cL_law 236 = .ok (.invokevirtual 28, 3) := by decide +kernel
theorem dL_law_239 : decode cL_law 239 = .ok (.aload_n 2, 1) := by decide +kernel
theorem dL_law_240 : decode cL_law 240 = .ok (.invokevirtual 31, 3) := by decide +kernel
theorem dL_law_243 : decode cL_law 243 = .ok (.if_icmp .eq 532, 3) := by decide +kernel
theorem dL_law_246 : decode cL_law 246 = .ok (.iconst 0, 1) := by decide +kernel
theorem dL_law_247 : decode cL_law 247 = .ok (.ireturn, 1) := by decide +kernel
theorem dL_law_248 : decode cL_law 248 = .ok (.aload_n 1, 1) := by decide +kernel
theorem dL_law_249 : decode cL_law 249 = .ok (.invokevirtual 32, 3) := by decide +kernel
theorem dL_law_252 : decode cL_law 252 = .ok (.aload_n 2, 1) := by decide +kernel
theorem dL_law_253 : decode cL_law 253 = .ok (.invokevirtual 35, 3) := by decide +kernel
theorem dL_law_256 : decode cL_law 256 = .ok (.if_icmp .eq 519, 3) := by decide +kernel
theorem dL_law_259 : decode cL_law 259 = .ok (.iconst 0, 1) := by decide +kernel
theorem dL_law_260 : decode cL_law 260 = .ok (.ireturn, 1) := by decide +kernel
theorem dL_law_261 : decode cL_law 261 = .ok (.aload_n 1, 1) := by decide +kernel
theorem dL_law_262 : decode cL_law 262 = .ok (.aload_n 0, 1) := by decide +kernel
theorem dL_law_263 : decode cL_law 263 = .ok (.iload_n 3, 1) := by decide +kernel
theorem dL_law_264 : decode cL_law 264 = .ok (.iconst 1, 1) := by decide +kernel
theorem dL_law_265 : decode cL_law 265 = .ok (.iadd, 1) := by decide +kernel
theorem dL_law_266 : decode cL_law 266 = .ok (.iaload, 1) := by decide +kernel
theorem dL_law_267 : decode cL_law 267 = .ok (.invokevirtual 36, 3) := by decide +kernel
theorem dL_law_270 : decode cL_law 270 = .ok (.aload_n 2, 1) := by decide +kernel
theorem dL_law_271 : decode cL_law 271 = .ok (.aload_n 0, 1) := by decide +kernel
theorem dL_law_272 : decode cL_law 272 = .ok (.iload_n 3, 1) := by decide +kernel
theorem dL_law_273 : decode cL_law 273 = .ok (.iconst 1, 1) := by decide +kernel
theorem dL_law_274 : decode cL_law 274 = .ok (.iadd, 1) := by decide +kernel
theorem dL_law_275 : decode cL_law 275 = .ok (.iaload, 1) := by decide +kernel
theorem dL_law_276 : decode cL_law 276 = .ok (.invokevirtual 39, 3) := by decide +kernel
theorem dL_law_279 : decode cL_law 279 = .ok (.if_icmp .eq 496, 3) := by decide +kernel
theorem dL_law_282 : decode cL_law 282 = .ok (.iconst 0, 1) := by decide +kernel
theorem dL_law_283 : decode cL_law 283 = .ok (.ireturn, 1) := by decide +kernel
theorem dL_law_284 : decode cL_law 284 = .ok (.aload_n 1, 1) := by decide +kernel
theorem dL_law_285 : decode cL_law 285 = .ok (.aload_n 0, 1) := by decide +kernel
theorem dL_law_286 : decode cL_law 286 = .ok (.iload_n 3, 1) := by decide +kernel
theorem dL_law_287 : decode cL_law 287 = .ok (.iconst 1, 1) := by decide +kernel
theorem dL_law_288 : decode cL_law 288 = .ok (.iadd, 1) := by decide +kernel
theorem dL_law_289 : decode cL_law 289 = .ok (.iaload, 1) := by decide +kernel
theorem dL_law_290 : decode cL_law 290 = .ok (.aload_n 0, 1) := by decide +kernel
theorem dL_law_291 : decode cL_law 291 = .ok (.iload_n 3, 1) := by decide +kernel
theorem dL_law_292 : decode cL_law 292 = .ok (.iconst 2, 1) := by decide +kernel
theorem dL_law_293 : decode cL_law 293 = .ok (.iadd, 1) := by decide +kernel
theorem dL_law_294 : decode cL_law 294 = .ok (.iaload, 1) := by decide +kernel
theorem dL_law_295 : decode cL_law 295 = .ok (.invokevirtual 40, 3) := by decide +kernel
theorem dL_law_298 : decode cL_law 298 = .ok (.aload_n 2, 1) := by decide +kernel
theorem dL_law_299 : decode cL_law 299 = .ok (.aload_n 0, 1) := by decide +kernel
theorem dL_law_300 : decode cL_law 300 = .ok (.iload_n 3, 1) := by decide +kernel
theorem dL_law_301 : decode cL_law 301 = .ok (.iconst 1, 1) := by decide +kernel
theorem dL_law_302 : decode cL_law 302 = .ok (.iadd, 1) := by decide +kernel
theorem dL_law_303 : decode cL_law 303 = .ok (.iaload, 1) := by decide +kernel
theorem dL_law_304 : decode cL_law 304 = .ok (.aload_n 0, 1) := by decide +kernel
theorem dL_law_305 : decode cL_law 305 = .ok (.iload_n 3, 1) := by decide +kernel
theorem dL_law_306 : decode cL_law 306 = .ok (.iconst 2, 1) := by decide +kernel
theorem dL_law_307 : decode cL_law 307 = .ok (.iadd, 1) := by decide +kernel
theorem dL_law_308 : decode cL_law 308 = .ok (.iaload, 1) := by decide +kernel
theorem dL_law_309 : decode cL_law 309 = .ok (.invokevirtual 44, 3) := by decide +kernel
theorem dL_law_312 : decode cL_law 312 = .ok (.lcmp, 1) := by decide +kernel
theorem dL_law_313 : decode cL_law 313 = .ok (.ifCond .eq 462, 3) := by decide +kernel
theorem dL_law_316 : decode cL_law 316 = .ok (.iconst 0, 1) := by decide +kernel
theorem dL_law_317 : decode cL_law 317 = .ok (.ireturn, 1) := by decide +kernel
theorem dL_law_318 : decode cL_law 318 = .ok (.aload_n 1, 1) := by decide +kernel
theorem dL_law_319 : decode cL_law 319 = .ok (.aload_n 0, 1) := by decide +kernel
theorem dL_law_320 : decode cL_law 320 = .ok (.iload_n 3, 1) := by decide +kernel
theorem dL_law_321 : decode cL_law 321 = .ok (.iconst 1, 1) := by decide +kernel
theorem dL_law_322 : decode cL_law 322 = .ok (.iadd, 1) := by decide +kernel
theorem dL_law_323 : decode cL_law 323 = .ok (.iaload, 1) := by decide +kernel
theorem dL_law_324 : decode cL_law 324 = .ok (.aload_n 0, 1) := by decide +kernel
theorem dL_law_325 : decode cL_law 325 = .ok (.iload_n 3, 1) := by decide +kernel
theorem dL_law_326 : decode cL_law 326 = .ok (.iconst 2, 1) := by decide +kernel
theorem dL_law_327 : decode cL_law 327 = .ok (.iadd, 1) := by decide +kernel
theorem dL_law_328 : decode cL_law 328 = .ok (.iaload, 1) := by decide +kernel
theorem dL_law_329 : decode cL_law 329 = .ok (.invokevirtual 45, 3) := by decide +kernel
theorem dL_law_332 : decode cL_law 332 = .ok (.aload_n 2, 1) := by decide +kernel
theorem dL_law_333 : decode cL_law 333 = .ok (.aload_n 0, 1) := by decide +kernel
theorem dL_law_334 : decode cL_law 334 = .ok (.iload_n 3, 1) := by decide +kernel
theorem dL_law_335 : decode cL_law 335 = .ok (.iconst 1, 1) := by decide +kernel
theorem dL_law_336 : decode cL_law 336 = .ok (.iadd, 1) := by decide +kernel
theorem dL_law_337 : decode cL_law 337 = .ok (.iaload, 1) := by decide +kernel
theorem dL_law_338 : decode cL_law 338 = .ok (.aload_n 0, 1) := by decide +kernel
theorem dL_law_339 : decode cL_law 339 = .ok (.iload_n 3, 1) := by decide +kernel
theorem dL_law_340 : decode cL_law 340 = .ok (.iconst 2, 1) := by decide +kernel
theorem dL_law_341 : decode cL_law 341 = .ok (.iadd, 1) := by decide +kernel
theorem dL_law_342 : decode cL_law 342 = .ok (.iaload, 1) := by decide +kernel
theorem dL_law_343 : decode cL_law 343 = .ok (.invokevirtual 49, 3) := by decide +kernel
theorem dL_law_346 : decode cL_law 346 = .ok (.if_icmp .eq 429, 3) := by decide +kernel
theorem dL_law_349 : decode cL_law 349 = .ok (.iconst 0, 1) := by decide +kernel
theorem dL_law_350 : decode cL_law 350 = .ok (.ireturn, 1) := by decide +kernel
theorem dL_law_351 : decode cL_law 351 = .ok (.aload_n 1, 1) := by decide +kernel
theorem dL_law_352 : decode cL_law 352 = .ok (.aload_n 0, 1) := by decide +kernel
theorem dL_law_353 : decode cL_law 353 = .ok (.iload_n 3, 1) := by decide +kernel
theorem dL_law_354 : decode cL_law 354 = .ok (.iconst 1, 1) := by decide +kernel
theorem dL_law_355 : decode cL_law 355 = .ok (.iadd, 1) := by decide +kernel
theorem dL_law_356 : decode cL_law 356 = .ok (.iaload, 1) := by decide +kernel
theorem dL_law_357 : decode cL_law 357 = .ok (.aload_n 0, 1) := by decide +kernel
theorem dL_law_358 : decode cL_law 358 = .ok (.iload_n 3, 1) := by decide +kernel
theorem dL_law_359 : decode cL_law 359 = .ok (.iconst 2, 1) := by decide +kernel
theorem dL_law_360 : decode cL_law 360 = .ok (.iadd, 1) := by decide +kernel
theorem dL_law_361 : decode cL_law 361 = .ok (.iaload, 1) := by decide +kernel
theorem dL_law_362 : decode cL_law 362 = .ok (.ifCond .eq 7, 3) := by decide +kernel
theorem dL_law_365 : decode cL_law 365 = .ok (.iconst 1, 1) := by decide +kernel
theorem dL_law_366 : decode cL_law 366 = .ok (.goto 4, 3) := by decide +kernel
theorem dL_law_369 : decode cL_law 369 = .ok (.iconst 0, 1) := by decide +kernel
theorem dL_law_370 : decode cL_law 370 = .ok (.invokevirtual 50, 3) := by decide +kernel
theorem dL_law_373 : decode cL_law 373 = .ok (.aload_n 2, 1) := by decide +kernel
theorem dL_law_374 : decode cL_law 374 = .ok (.aload_n 0, 1) := by decide +kernel
theorem dL_law_375 : decode cL_law 375 = .ok (.iload_n 3, 1) := by decide +kernel
theorem dL_law_376 : decode cL_law 376 = .ok (.iconst 1, 1) := by decide +kernel
theorem dL_law_377 : decode cL_law 377 = .ok (.iadd, 1) := by decide +kernel
theorem dL_law_378 : decode cL_law 378 = .ok (.iaload, 1) := by decide +kernel
theorem dL_law_379 : decode cL_law 379 = .ok (.aload_n 0, 1) := by decide +kernel
theorem dL_law_380 : decode cL_law 380 = .ok (.iload_n 3, 1) := by decide +kernel
theorem dL_law_381 : decode cL_law 381 = .ok (.iconst 2, 1) := by decide +kernel
theorem dL_law_382 : decode cL_law 382 = .ok (.iadd, 1) := by decide +kernel
theorem dL_law_383 : decode cL_law 383 = .ok (.iaload, 1) := by decide +kernel
theorem dL_law_384 : decode cL_law 384 = .ok (.ifCond .eq 7, 3) := by decide +kernel
theorem dL_law_387 : decode cL_law 387 = .ok (.iconst 1, 1) := by decide +kernel
theorem dL_law_388 : decode cL_law 388 = .ok (.goto 4, 3) := by decide +kernel
theorem dL_law_391 : decode cL_law 391 = .ok (.iconst 0, 1) := by decide +kernel
theorem dL_law_392 : decode cL_law 392 = .ok (.invokevirtual 54, 3) := by decide +kernel
theorem dL_law_395 : decode cL_law 395 = .ok (.if_icmp .eq 380, 3) := by decide +kernel
theorem dL_law_398 : decode cL_law 398 = .ok (.iconst 0, 1) := by decide +kernel
theorem dL_law_399 : decode cL_law 399 = .ok (.ireturn, 1) := by decide +kernel
theorem dL_law_400 : decode cL_law 400 = .ok (.aload_n 1, 1) := by decide +kernel
theorem dL_law_401 : decode cL_law 401 = .ok (.aload_n 0, 1) := by decide +kernel
theorem dL_law_402 : decode cL_law 402 = .ok (.iload_n 3, 1) := by decide +kernel
theorem dL_law_403 : decode cL_law 403 = .ok (.iconst 1, 1) := by decide +kernel
theorem dL_law_404 : decode cL_law 404 = .ok (.iadd, 1) := by decide +kernel
theorem dL_law_405 : decode cL_law 405 = .ok (.iaload, 1) := by decide +kernel
theorem dL_law_406 : decode cL_law 406 = .ok (.aload_n 0, 1) := by decide +kernel
theorem dL_law_407 : decode cL_law 407 = .ok (.iload_n 3, 1) := by decide +kernel
theorem dL_law_408 : decode cL_law 408 = .ok (.iconst 2, 1) := by decide +kernel
theorem dL_law_409 : decode cL_law 409 = .ok (.iadd, 1) := by decide +kernel
theorem dL_law_410 : decode cL_law 410 = .ok (.iaload, 1) := by decide +kernel
theorem dL_law_411 : decode cL_law 411 = .ok (.invokevirtual 55, 3) := by decide +kernel
theorem dL_law_414 : decode cL_law 414 = .ok (.aload_n 2, 1) := by decide +kernel
theorem dL_law_415 : decode cL_law 415 = .ok (.aload_n 0, 1) := by decide +kernel
theorem dL_law_416 : decode cL_law 416 = .ok (.iload_n 3, 1) := by decide +kernel
theorem dL_law_417 : decode cL_law 417 = .ok (.iconst 1, 1) := by decide +kernel
theorem dL_law_418 : decode cL_law 418 = .ok (.iadd, 1) := by decide +kernel
theorem dL_law_419 : decode cL_law 419 = .ok (.iaload, 1) := by decide +kernel
theorem dL_law_420 : decode cL_law 420 = .ok (.aload_n 0, 1) := by decide +kernel
theorem dL_law_421 : decode cL_law 421 = .ok (.iload_n 3, 1) := by decide +kernel
theorem dL_law_422 : decode cL_law 422 = .ok (.iconst 2, 1) := by decide +kernel
theorem dL_law_423 : decode cL_law 423 = .ok (.iadd, 1) := by decide +kernel
theorem dL_law_424 : decode cL_law 424 = .ok (.iaload, 1) := by decide +kernel
theorem dL_law_425 : decode cL_law 425 = .ok (.invokevirtual 58, 3) := by decide +kernel
theorem dL_law_428 : decode cL_law 428 = .ok (.if_icmp .eq 347, 3) := by decide +kernel
theorem dL_law_431 : decode cL_law 431 = .ok (.iconst 0, 1) := by decide +kernel
theorem dL_law_432 : decode cL_law 432 = .ok (.ireturn, 1) := by decide +kernel
theorem dL_law_433 : decode cL_law 433 = .ok (.aload_n 1, 1) := by decide +kernel
theorem dL_law_434 : decode cL_law 434 = .ok (.aload_n 0, 1) := by decide +kernel
theorem dL_law_435 : decode cL_law 435 = .ok (.iload_n 3, 1) := by decide +kernel
theorem dL_law_436 : decode cL_law 436 = .ok (.iconst 1, 1) := by decide +kernel
theorem dL_law_437 : decode cL_law 437 = .ok (.iadd, 1) := by decide +kernel
theorem dL_law_438 : decode cL_law 438 = .ok (.iaload, 1) := by decide +kernel
theorem dL_law_439 : decode cL_law 439 = .ok (.aload_n 0, 1) := by decide +kernel
theorem dL_law_440 : decode cL_law 440 = .ok (.iload_n 3, 1) := by decide +kernel
theorem dL_law_441 : decode cL_law 441 = .ok (.iconst 2, 1) := by decide +kernel
theorem dL_law_442 : decode cL_law 442 = .ok (.iadd, 1) := by decide +kernel
theorem dL_law_443 : decode cL_law 443 = .ok (.iaload, 1) := by decide +kernel
theorem dL_law_444 : decode cL_law 444 = .ok (.invokevirtual 59, 3) := by decide +kernel
theorem dL_law_447 : decode cL_law 447 = .ok (.aload_n 2, 1) := by decide +kernel
theorem dL_law_448 : decode cL_law 448 = .ok (.aload_n 0, 1) := by decide +kernel
theorem dL_law_449 : decode cL_law 449 = .ok (.iload_n 3, 1) := by decide +kernel
end
section
theorem dL_law_450 : decode cL_law 450 = .ok (.iconst 1, 1) := by decide +kernel
theorem dL_law_451 : decode cL_law 451 = .ok (.iadd, 1) := by decide +kernel
theorem dL_law_452 : decode cL_law 452 = .ok (.iaload, 1) := by decide +kernel
theorem dL_law_453 : decode cL_law 453 = .ok (.aload_n 0, 1) := by decide +kernel
theorem dL_law_454 : decode cL_law 454 = .ok (.iload_n 3, 1) := by decide +kernel
theorem dL_law_455 : decode cL_law 455 = .ok (.iconst 2, 1) := by decide +kernel
theorem dL_law_456 : decode cL_law 456 = .ok (.iadd, 1) := by decide +kernel
theorem dL_law_457 : decode cL_law 457 = .ok (.iaload, 1) := by decide +kernel
theorem dL_law_458 : decode cL_law 458 = .ok (.invokevirtual 62, 3) := by decide +kernel
theorem dL_law_461 : decode cL_law 461 = .ok (.if_icmp .eq 314, 3) := by decide +kernel
theorem dL_law_464 : decode cL_law 464 = .ok (.iconst 0, 1) := by decide +kernel
theorem dL_law_465 : decode cL_law 465 = .ok (.ireturn, 1) := by decide +kernel
theorem dL_law_466 : decode cL_law 466 = .ok (.aload_n 1, 1) := by decide +kernel
theorem dL_law_467 : decode cL_law 467 = .ok (.aload_n 0, 1) := by decide +kernel
theorem dL_law_468 : decode cL_law 468 = .ok (.iload_n 3, 1) := by decide +kernel
theorem dL_law_469 : decode cL_law 469 = .ok (.iconst 1, 1) := by decide +kernel
theorem dL_law_470 : decode cL_law 470 = .ok (.iadd, 1) := by decide +kernel
theorem dL_law_471 : decode cL_law 471 = .ok (.iaload, 1) := by decide +kernel
theorem dL_law_472 : decode cL_law 472 = .ok (.aload_n 0, 1) := by decide +kernel
theorem dL_law_473 : decode cL_law 473 = .ok (.iload_n 3, 1) := by decide +kernel
theorem dL_law_474 : decode cL_law 474 = .ok (.iconst 2, 1) := by decide +kernel
theorem dL_law_475 : decode cL_law 475 = .ok (.iadd, 1) := by decide +kernel
theorem dL_law_476 : decode cL_law 476 = .ok (.iaload, 1) := by decide +kernel
theorem dL_law_477 : decode cL_law 477 = .ok (.invokevirtual 63, 3) := by decide +kernel
theorem dL_law_480 : decode cL_law 480 = .ok (.aload_n 2, 1) := by decide +kernel
theorem dL_law_481 : decode cL_law 481 = .ok (.aload_n 0, 1) := by decide +kernel
theorem dL_law_482 : decode cL_law 482 = .ok (.iload_n 3, 1) := by decide +kernel
theorem dL_law_483 : decode cL_law 483 = .ok (.iconst 1, 1) := by decide +kernel
theorem dL_law_484 : decode cL_law 484 = .ok (.iadd, 1) := by decide +kernel
theorem dL_law_485 : decode cL_law 485 = .ok (.iaload, 1) := by decide +kernel
theorem dL_law_486 : decode cL_law 486 = .ok (.aload_n 0, 1) := by decide +kernel
theorem dL_law_487 : decode cL_law 487 = .ok (.iload_n 3, 1) := by decide +kernel
theorem dL_law_488 : decode cL_law 488 = .ok (.iconst 2, 1) := by decide +kernel
theorem dL_law_489 : decode cL_law 489 = .ok (.iadd, 1) := by decide +kernel
theorem dL_law_490 : decode cL_law 490 = .ok (.iaload, 1) := by decide +kernel
theorem dL_law_491 : decode cL_law 491 = .ok (.invokevirtual 66, 3) := by decide +kernel
theorem dL_law_494 : decode cL_law 494 = .ok (.if_icmp .eq 281, 3) := by decide +kernel
theorem dL_law_497 : decode cL_law 497 = .ok (.iconst 0, 1) := by decide +kernel
theorem dL_law_498 : decode cL_law 498 = .ok (.ireturn, 1) := by decide +kernel
theorem dL_law_499 : decode cL_law 499 = .ok (.aload_n 1, 1) := by decide +kernel
theorem dL_law_500 : decode cL_law 500 = .ok (.aload_n 0, 1) := by decide +kernel
theorem dL_law_501 : decode cL_law 501 = .ok (.iload_n 3, 1) := by decide +kernel
theorem dL_law_502 : decode cL_law 502 = .ok (.iconst 1, 1) := by decide +kernel
theorem dL_law_503 : decode cL_law 503 = .ok (.iadd, 1) := by decide +kernel
theorem dL_law_504 : decode cL_law 504 = .ok (.iaload, 1) := by decide +kernel
theorem dL_law_505 : decode cL_law 505 = .ok (.aload_n 0, 1) := by decide +kernel
theorem dL_law_506 : decode cL_law 506 = .ok (.iload_n 3, 1) := by decide +kernel
theorem dL_law_507 : decode cL_law 507 = .ok (.iconst 2, 1) := by decide +kernel
theorem dL_law_508 : decode cL_law 508 = .ok (.iadd, 1) := by decide +kernel
theorem dL_law_509 : decode cL_law 509 = .ok (.iaload, 1) := by decide +kernel
theorem dL_law_510 : decode cL_law 510 = .ok (.invokevirtual 67, 3) := by decide +kernel
theorem dL_law_513 : decode cL_law 513 = .ok (.aload_n 2, 1) := by decide +kernel
theorem dL_law_514 : decode cL_law 514 = .ok (.aload_n 0, 1) := by decide +kernel
theorem dL_law_515 : decode cL_law 515 = .ok (.iload_n 3, 1) := by decide +kernel
theorem dL_law_516 : decode cL_law 516 = .ok (.iconst 1, 1) := by decide +kernel
theorem dL_law_517 : decode cL_law 517 = .ok (.iadd, 1) := by decide +kernel
theorem dL_law_518 : decode cL_law 518 = .ok (.iaload, 1) := by decide +kernel
theorem dL_law_519 : decode cL_law 519 = .ok (.aload_n 0, 1) := by decide +kernel
theorem dL_law_520 : decode cL_law 520 = .ok (.iload_n 3, 1) := by decide +kernel
theorem dL_law_521 : decode cL_law 521 = .ok (.iconst 2, 1) := by decide +kernel
theorem dL_law_522 : decode cL_law 522 = .ok (.iadd, 1) := by decide +kernel
theorem dL_law_523 : decode cL_law 523 = .ok (.iaload, 1) := by decide +kernel
theorem dL_law_524 : decode cL_law 524 = .ok (.invokevirtual 70, 3) := by decide +kernel
theorem dL_law_527 : decode cL_law 527 = .ok (.if_icmp .eq 248, 3) := by decide +kernel
theorem dL_law_530 : decode cL_law 530 = .ok (.iconst 0, 1) := by decide +kernel
theorem dL_law_531 : decode cL_law 531 = .ok (.ireturn, 1) := by decide +kernel
theorem dL_law_532 : decode cL_law 532 = .ok (.aload_n 1, 1) := by decide +kernel
theorem dL_law_533 : decode cL_law 533 = .ok (.invokevirtual 71, 3) := by decide +kernel
theorem dL_law_536 : decode cL_law 536 = .ok (.aload_n 2, 1) := by decide +kernel
theorem dL_law_537 : decode cL_law 537 = .ok (.invokevirtual 74, 3) := by decide +kernel
theorem dL_law_540 : decode cL_law 540 = .ok (.if_icmp .eq 235, 3) := by decide +kernel
theorem dL_law_543 : decode cL_law 543 = .ok (.iconst 0, 1) := by decide +kernel
theorem dL_law_544 : decode cL_law 544 = .ok (.ireturn, 1) := by decide +kernel
theorem dL_law_545 : decode cL_law 545 = .ok (.aload_n 1, 1) := by decide +kernel
theorem dL_law_546 : decode cL_law 546 = .ok (.aload_n 0, 1) := by decide +kernel
theorem dL_law_547 : decode cL_law 547 = .ok (.iload_n 3, 1) := by decide +kernel
theorem dL_law_548 : decode cL_law 548 = .ok (.iconst 1, 1) := by decide +kernel
theorem dL_law_549 : decode cL_law 549 = .ok (.iadd, 1) := by decide +kernel
theorem dL_law_550 : decode cL_law 550 = .ok (.iaload, 1) := by decide +kernel
theorem dL_law_551 : decode cL_law 551 = .ok (.invokevirtual 75, 3) := by decide +kernel
theorem dL_law_554 : decode cL_law 554 = .ok (.aload_n 2, 1) := by decide +kernel
theorem dL_law_555 : decode cL_law 555 = .ok (.aload_n 0, 1) := by decide +kernel
theorem dL_law_556 : decode cL_law 556 = .ok (.iload_n 3, 1) := by decide +kernel
theorem dL_law_557 : decode cL_law 557 = .ok (.iconst 1, 1) := by decide +kernel
theorem dL_law_558 : decode cL_law 558 = .ok (.iadd, 1) := by decide +kernel
theorem dL_law_559 : decode cL_law 559 = .ok (.iaload, 1) := by decide +kernel
theorem dL_law_560 : decode cL_law 560 = .ok (.invokevirtual 78, 3) := by decide +kernel
theorem dL_law_563 : decode cL_law 563 = .ok (.if_icmp .eq 212, 3) := by decide +kernel
theorem dL_law_566 : decode cL_law 566 = .ok (.iconst 0, 1) := by decide +kernel
theorem dL_law_567 : decode cL_law 567 = .ok (.ireturn, 1) := by decide +kernel
theorem dL_law_568 : decode cL_law 568 = .ok (.aload_n 1, 1) := by decide +kernel
theorem dL_law_569 : decode cL_law 569 = .ok (.aload_n 0, 1) := by decide +kernel
theorem dL_law_570 : decode cL_law 570 = .ok (.iload_n 3, 1) := by decide +kernel
theorem dL_law_571 : decode cL_law 571 = .ok (.iconst 1, 1) := by decide +kernel
theorem dL_law_572 : decode cL_law 572 = .ok (.iadd, 1) := by decide +kernel
theorem dL_law_573 : decode cL_law 573 = .ok (.iaload, 1) := by decide +kernel
theorem dL_law_574 : decode cL_law 574 = .ok (.aload_n 0, 1) := by decide +kernel
theorem dL_law_575 : decode cL_law 575 = .ok (.iload_n 3, 1) := by decide +kernel
theorem dL_law_576 : decode cL_law 576 = .ok (.iconst 2, 1) := by decide +kernel
theorem dL_law_577 : decode cL_law 577 = .ok (.iadd, 1) := by decide +kernel
theorem dL_law_578 : decode cL_law 578 = .ok (.iaload, 1) := by decide +kernel
theorem dL_law_579 : decode cL_law 579 = .ok (.invokevirtual 79, 3) := by decide +kernel
theorem dL_law_582 : decode cL_law 582 = .ok (.aload_n 2, 1) := by decide +kernel
theorem dL_law_583 : decode cL_law 583 = .ok (.aload_n 0, 1) := by decide +kernel
theorem dL_law_584 : decode cL_law 584 = .ok (.iload_n 3, 1) := by decide +kernel
theorem dL_law_585 : decode cL_law 585 = .ok (.iconst 1, 1) := by decide +kernel
theorem dL_law_586 : decode cL_law 586 = .ok (.iadd, 1) := by decide +kernel
theorem dL_law_587 : decode cL_law 587 = .ok (.iaload, 1) := by decide +kernel
theorem dL_law_588 : decode cL_law 588 = .ok (.aload_n 0, 1) := by decide +kernel
theorem dL_law_589 : decode cL_law 589 = .ok (.iload_n 3, 1) := by decide +kernel
theorem dL_law_590 : decode cL_law 590 = .ok (.iconst 2, 1) := by decide +kernel
theorem dL_law_591 : decode cL_law 591 = .ok (.iadd, 1) := by decide +kernel
theorem dL_law_592 : decode cL_law 592 = .ok (.iaload, 1) := by decide +kernel
theorem dL_law_593 : decode cL_law 593 = .ok (.invokevirtual 82, 3) := by decide +kernel
theorem dL_law_596 : decode cL_law 596 = .ok (.if_icmp .eq 179, 3) := by decide +kernel
theorem dL_law_599 : decode cL_law 599 = .ok (.iconst 0, 1) := by decide +kernel
theorem dL_law_600 : decode cL_law 600 = .ok (.ireturn, 1) := by decide +kernel
theorem dL_law_601 : decode cL_law 601 = .ok (.aload_n 1, 1) := by decide +kernel
theorem dL_law_602 : decode cL_law 602 = .ok (.aload_n 0, 1) := by decide +kernel
theorem dL_law_603 : decode cL_law 603 = .ok (.iload_n 3, 1) := by decide +kernel
theorem dL_law_604 : decode cL_law 604 = .ok (.iconst 1, 1) := by decide +kernel
theorem dL_law_605 : decode cL_law 605 = .ok (.iadd, 1) := by decide +kernel
theorem dL_law_606 : decode cL_law 606 = .ok (.iaload, 1) := by decide +kernel
theorem dL_law_607 : decode cL_law 607 = .ok (.aload_n 0, 1) := by decide +kernel
theorem dL_law_608 : decode cL_law 608 = .ok (.iload_n 3, 1) := by decide +kernel
theorem dL_law_609 : decode cL_law 609 = .ok (.iconst 2, 1) := by decide +kernel
theorem dL_law_610 : decode cL_law 610 = .ok (.iadd, 1) := by decide +kernel
theorem dL_law_611 : decode cL_law 611 = .ok (.iaload, 1) := by decide +kernel
theorem dL_law_612 : decode cL_law 612 = .ok (.invokevirtual 83, 3) := by decide +kernel
theorem dL_law_615 : decode cL_law 615 = .ok (.aload_n 2, 1) := by decide +kernel
theorem dL_law_616 : decode cL_law 616 = .ok (.aload_n 0, 1) := by decide +kernel
theorem dL_law_617 : decode cL_law 617 = .ok (.iload_n 3, 1) := by decide +kernel
theorem dL_law_618 : decode cL_law 618 = .ok (.iconst 1, 1) := by decide +kernel
theorem dL_law_619 : decode cL_law 619 = .ok (.iadd, 1) := by decide +kernel
theorem dL_law_620 : decode cL_law 620 = .ok (.iaload, 1) := by decide +kernel
theorem dL_law_621 : decode cL_law 621 = .ok (.aload_n 0, 1) := by decide +kernel
theorem dL_law_622 : decode cL_law 622 = .ok (.iload_n 3, 1) := by decide +kernel
theorem dL_law_623 : decode cL_law 623 = .ok (.iconst 2, 1) := by decide +kernel
theorem dL_law_624 : decode cL_law 624 = .ok (.iadd, 1) := by decide +kernel
theorem dL_law_625 : decode cL_law 625 = .ok (.iaload, 1) := by decide +kernel
theorem dL_law_626 : decode cL_law 626 = .ok (.invokevirtual 86, 3) := by decide +kernel
theorem dL_law_629 : decode cL_law 629 = .ok (.if_icmp .eq 146, 3) := by decide +kernel
theorem dL_law_632 : decode cL_law 632 = .ok (.iconst 0, 1) := by decide +kernel
theorem dL_law_633 : decode cL_law 633 = .ok (.ireturn, 1) := by decide +kernel
theorem dL_law_634 : decode cL_law 634 = .ok (.aload_n 1, 1) := by decide +kernel
theorem dL_law_635 : decode cL_law 635 = .ok (.invokevirtual 87, 3) := by decide +kernel
theorem dL_law_638 : decode cL_law 638 = .ok (.aload_n 2, 1) := by decide +kernel
theorem dL_law_639 : decode cL_law 639 = .ok (.invokevirtual 90, 3) := by decide +kernel
theorem dL_law_642 : decode cL_law 642 = .ok (.if_icmp .eq 133, 3) := by decide +kernel
theorem dL_law_645 : decode cL_law 645 = .ok (.iconst 0, 1) := by decide +kernel
theorem dL_law_646 : decode cL_law 646 = .ok (.ireturn, 1) := by decide +kernel
theorem dL_law_647 : decode cL_law 647 = .ok (.aload_n 1, 1) := by decide +kernel
theorem dL_law_648 : decode cL_law 648 = .ok (.aload_n 0, 1) := by decide +kernel
theorem dL_law_649 : decode cL_law 649 = .ok (.iload_n 3, 1) := by decide +kernel
theorem dL_law_650 : decode cL_law 650 = .ok (.iconst 1, 1) := by decide +kernel
theorem dL_law_651 : decode cL_law 651 = .ok (.iadd, 1) := by decide +kernel
theorem dL_law_652 : decode cL_law 652 = .ok (.iaload, 1) := by decide +kernel
theorem dL_law_653 : decode cL_law 653 = .ok (.aload_n 0, 1) := by decide +kernel
theorem dL_law_654 : decode cL_law 654 = .ok (.iload_n 3, 1) := by decide +kernel
theorem dL_law_655 : decode cL_law 655 = .ok (.iconst 2, 1) := by decide +kernel
theorem dL_law_656 : decode cL_law 656 = .ok (.iadd, 1) := by decide +kernel
theorem dL_law_657 : decode cL_law 657 = .ok (.iaload, 1) := by decide +kernel
theorem dL_law_658 : decode cL_law 658 = .ok (.ifCond .eq 7, 3) := by decide +kernel
theorem dL_law_661 : decode cL_law 661 = .ok (.iconst 1, 1) := by decide +kernel
theorem dL_law_662 : decode cL_law 662 = .ok (.goto 4, 3) := by decide +kernel
theorem dL_law_665 : decode cL_law 665 = .ok (.iconst 0, 1) := by decide +kernel
theorem dL_law_666 : decode cL_law 666 = .ok (.invokevirtual 91, 3) := by decide +kernel
theorem dL_law_669 : decode cL_law 669 = .ok (.aload_n 2, 1) := by decide +kernel
theorem dL_law_670 : decode cL_law 670 = .ok (.aload_n 0, 1) := by decide +kernel
theorem dL_law_671 : decode cL_law 671 = .ok (.iload_n 3, 1) := by decide +kernel
theorem dL_law_672 : decode cL_law 672 = .ok (.iconst 1, 1) := by decide +kernel
theorem dL_law_673 : decode cL_law 673 = .ok (.iadd, 1) := by decide +kernel
theorem dL_law_674 : decode cL_law 674 = .ok (.iaload, 1) := by decide +kernel
theorem dL_law_675 : decode cL_law 675 = .ok (.aload_n 0, 1) := by decide +kernel
theorem dL_law_676 : decode cL_law 676 = .ok (.iload_n 3, 1) := by decide +kernel
theorem dL_law_677 : decode cL_law 677 = .ok (.iconst 2, 1) := by decide +kernel
theorem dL_law_678 : decode cL_law 678 = .ok (.iadd, 1) := by decide +kernel
theorem dL_law_679 : decode cL_law 679 = .ok (.iaload, 1) := by decide +kernel
theorem dL_law_680 : decode cL_law 680 = .ok (.ifCond .eq 7, 3) := by decide +kernel
theorem dL_law_683 : decode cL_law 683 = .ok (.iconst 1, 1) := by decide +kernel
theorem dL_law_684 : decode cL_law 684 = .ok (.goto 4, 3) := by decide +kernel
theorem dL_law_687 : decode cL_law 687 = .ok (.iconst 0, 1) := by decide +kernel
theorem dL_law_688 : decode cL_law 688 = .ok (.invokevirtual 94, 3) := by decide +kernel
theorem dL_law_691 : decode cL_law 691 = .ok (.if_icmp .eq 84, 3) := by decide +kernel
theorem dL_law_694 : decode cL_law 694 = .ok (.iconst 0, 1) := by decide +kernel
theorem dL_law_695 : decode cL_law 695 = .ok (.ireturn, 1) := by decide +kernel
theorem dL_law_696 : decode cL_law 696 = .ok (.aload_n 1, 1) := by decide +kernel
theorem dL_law_697 : decode cL_law 697 = .ok (.aload_n 0, 1) := by decide +kernel
theorem dL_law_698 : decode cL_law 698 = .ok (.iload_n 3, 1) := by decide +kernel
theorem dL_law_699 : decode cL_law 699 = .ok (.iconst 1, 1) := by decide +kernel
theorem dL_law_700 : decode cL_law 700 = .ok (.iadd, 1) := by decide +kernel
theorem dL_law_701 : decode cL_law 701 = .ok (.iaload, 1) := by decide +kernel
theorem dL_law_702 : decode cL_law 702 = .ok (.aload_n 0, 1) := by decide +kernel
theorem dL_law_703 : decode cL_law 703 = .ok (.iload_n 3, 1) := by decide +kernel
theorem dL_law_704 : decode cL_law 704 = .ok (.iconst 2, 1) := by decide +kernel
theorem dL_law_705 : decode cL_law 705 = .ok (.iadd, 1) := by decide +kernel
theorem dL_law_706 : decode cL_law 706 = .ok (.iaload, 1) := by decide +kernel
theorem dL_law_707 : decode cL_law 707 = .ok (.invokevirtual 95, 3) := by decide +kernel
theorem dL_law_710 : decode cL_law 710 = .ok (.aload_n 2, 1) := by decide +kernel
theorem dL_law_711 : decode cL_law 711 = .ok (.aload_n 0, 1) := by decide +kernel
theorem dL_law_712 : decode cL_law 712 = .ok (.iload_n 3, 1) := by decide +kernel
theorem dL_law_713 : decode cL_law 713 = .ok (.iconst 1, 1) := by decide +kernel
theorem dL_law_714 : decode cL_law 714 = .ok (.iadd, 1) := by decide +kernel
theorem dL_law_715 : decode cL_law 715 = .ok (.iaload, 1) := by decide +kernel
theorem dL_law_716 : decode cL_law 716 = .ok (.aload_n 0, 1) := by decide +kernel
theorem dL_law_717 : decode cL_law 717 = .ok (.iload_n 3, 1) := by decide +kernel
theorem dL_law_718 : decode cL_law 718 = .ok (.iconst 2, 1) := by decide +kernel
theorem dL_law_719 : decode cL_law 719 = .ok (.iadd, 1) := by decide +kernel
theorem dL_law_720 : decode cL_law 720 = .ok (.iaload, 1) := by decide +kernel
theorem dL_law_721 : decode cL_law 721 = .ok (.invokevirtual 98, 3) := by decide +kernel
theorem dL_law_724 : decode cL_law 724 = .ok (.if_icmp .eq 51, 3) := by decide +kernel
theorem dL_law_727 : decode cL_law 727 = .ok (.iconst 0, 1) := by decide +kernel
theorem dL_law_728 : decode cL_law 728 = .ok (.ireturn, 1) := by decide +kernel
theorem dL_law_729 : decode cL_law 729 = .ok (.aload_n 1, 1) := by decide +kernel
theorem dL_law_730 : decode cL_law 730 = .ok (.aload_n 0, 1) := by decide +kernel
theorem dL_law_731 : decode cL_law 731 = .ok (.iload_n 3, 1) := by decide +kernel
theorem dL_law_732 : decode cL_law 732 = .ok (.iconst 1, 1) := by decide +kernel
theorem dL_law_733 : decode cL_law 733 = .ok (.iadd, 1) := by decide +kernel
theorem dL_law_734 : decode cL_law 734 = .ok (.iaload, 1) := by decide +kernel
theorem dL_law_735 : decode cL_law 735 = .ok (.invokevirtual 99, 3) := by decide +kernel
theorem dL_law_738 : decode cL_law 738 = .ok (.aload_n 2, 1) := by decide +kernel
theorem dL_law_739 : decode cL_law 739 = .ok (.aload_n 0, 1) := by decide +kernel
theorem dL_law_740 : decode cL_law 740 = .ok (.iload_n 3, 1) := by decide +kernel
theorem dL_law_741 : decode cL_law 741 = .ok (.iconst 1, 1) := by decide +kernel
theorem dL_law_742 : decode cL_law 742 = .ok (.iadd, 1) := by decide +kernel
theorem dL_law_743 : decode cL_law 743 = .ok (.iaload, 1) := by decide +kernel
theorem dL_law_744 : decode cL_law 744 = .ok (.invokevirtual 102, 3) := by decide +kernel
theorem dL_law_747 : decode cL_law 747 = .ok (.if_icmp .eq 28, 3) := by decide +kernel
theorem dL_law_750 : decode cL_law 750 = .ok (.iconst 0, 1) := by decide +kernel
theorem dL_law_751 : decode cL_law 751 = .ok (.ireturn, 1) := by decide +kernel
theorem dL_law_752 : decode cL_law 752 = .ok (.aload_n 1, 1) := by decide +kernel
theorem dL_law_753 : decode cL_law 753 = .ok (.aload_n 0, 1) := by decide +kernel
theorem dL_law_754 : decode cL_law 754 = .ok (.iload_n 3, 1) := by decide +kernel
theorem dL_law_755 : decode cL_law 755 = .ok (.iconst 1, 1) := by decide +kernel
theorem dL_law_756 : decode cL_law 756 = .ok (.iadd, 1) := by decide +kernel
theorem dL_law_757 : decode cL_law 757 = .ok (.iaload, 1) := by decide +kernel
theorem dL_law_758 : decode cL_law 758 = .ok (.invokevirtual 103, 3) := by decide +kernel
theorem dL_law_761 : decode cL_law 761 = .ok (.aload_n 2, 1) := by decide +kernel
theorem dL_law_762 : decode cL_law 762 = .ok (.aload_n 0, 1) := by decide +kernel
theorem dL_law_763 : decode cL_law 763 = .ok (.iload_n 3, 1) := by decide +kernel
theorem dL_law_764 : decode cL_law 764 = .ok (.iconst 1, 1) := by decide +kernel
theorem dL_law_765 : decode cL_law 765 = .ok (.iadd, 1) := by decide +kernel
theorem dL_law_766 : decode cL_law 766 = .ok (.iaload, 1) := by decide +kernel
theorem dL_law_767 : decode cL_law 767 = .ok (.invokevirtual 106, 3) := by decide +kernel
theorem dL_law_770 : decode cL_law 770 = .ok (.if_icmp .eq 5, 3) := by decide +kernel
theorem dL_law_773 : decode cL_law 773 = .ok (.iconst 0, 1) := by decide +kernel
theorem dL_law_774 : decode cL_law 774 = .ok (.ireturn, 1) := by decide +kernel
theorem dL_law_775 : decode cL_law 775 = .ok (.iinc 3 6, 3) := by decide +kernel
theorem dL_law_778 : decode cL_law 778 = .ok (.goto (-760), 3) := by decide +kernel
theorem dL_law_781 : decode cL_law 781 = .ok (.iconst 1, 1) := by decide +kernel
theorem dL_law_782 : decode cL_law 782 = .ok (.ireturn, 1) := by decide +kernel
end
section
/-! THE HEAP FROM AN ADDRESS b ON, AS A MAP: the cell at b + i is f i, for i < n; nothing else is there, and below b nothing changes. -/
def GW : List Cond := lw_tbl.filter goodWord
theorem gw_of {w : Cond} (i : Nat) (h : lw_tbl[i]? = some w) (hg : goodWord w = true) : w ∈ GW := List.mem_filter.mpr ⟨List.mem_of_getElem? h, hg⟩
theorem gw_good {c0 c1 : Cond} (h : c1 ∈ GW) : GoodIn (c0 :: GW) (c1 :: GW) := by
  intro w hw
  have hw2 : w ∈ GW := by
    rcases List.mem_cons.mp hw with e | e
    · rw [e]; exact h
    · exact e
  exact ⟨List.mem_cons_of_mem _ hw2, good_of_word (List.mem_filter.mp hw2).2⟩
theorem gw_good0 {c1 : Cond} (h : c1 ∈ GW) : GoodIn GW (c1 :: GW) := by
  intro w hw
  have hw2 : w ∈ GW := by
    rcases List.mem_cons.mp hw with e | e
    · rw [e]; exact h
    · exact e
  exact ⟨hw2, good_of_word (List.mem_filter.mp hw2).2⟩
def nestWord : Cond → Bool
  | .fieldLinkNest _ _ _ _ _ _ => true
  | .methodLinkNest _ _ _ _ => true
  | .castable _ _ => true
  | _ => false
def NW : List Cond := lw_tbl.filter nestWord
theorem nw_of {w : Cond} (i : Nat) (h : lw_tbl[i]? = some w) (hg : nestWord w = true) : w ∈ NW := List.mem_filter.mpr ⟨List.mem_of_getElem? h, hg⟩
def mN (U : State) : Prop := ∀ w ∈ NW, va_Nw w U
theorem mN.warm {s U : State} (hW : s.WarmedH U.vm) (h : mN s) : mN U := by
  intro w hw
  have h1 := h w hw
  have h2 : nestWord w = true := (List.mem_filter.mp hw).2
  cases w <;> first | exact va_Nw.warmF hW h1 | exact va_Nw.warmM hW h1 | exact va_Nw.warmC hW h1 | (exact absurd h2 (by simp [nestWord]))
theorem mN.same {s U : State} (hv : s.vm = U.vm) (h : mN s) : mN U := by
  intro w hw
  have h1 := h w hw
  have h2 : nestWord w = true := (List.mem_filter.mp hw).2
  cases w <;> first | exact va_Nw.same rfl hv h1 | (exact absurd h2 (by simp [nestWord]))
def mT (kc : Nat → ClassId) : List (ClassId × FieldType) := [(kc 0, .byte), (kc 1, .int), (kc 2, .long), (kc 3, .boolean), (kc 4, .object RX3)]
def mPrices (j : Nat) : Value := .int (match j with | 0 => 5 | 1 => 10 | 2 => 10 | 3 => 8 | _ => 12)
/-- what the statics hold that nobody writes -/
def mZ (b : Nat) (U : State) (H : Heap) : Prop :=
  (∃ t, va_Z "MarkedProof" "FIRST_PRICES" "[I" (.ref t) (fun q => b ≤ q) U H ∧ va_T .int t 5 mPrices (fun q => b ≤ q) U H) ∧
  va_Zq "java/lang/Throwable" "UNASSIGNED_STACK" "[Ljava/lang/StackTraceElement;" (fun q => b ≤ q) U H ∧
  va_Zq "java/lang/Throwable" "SUPPRESSED_SENTINEL" "Ljava/util/List;" (fun q => b ≤ q) U H
theorem mZ.moved {b : Nat} {u U : State} {H : Heap} (hvm : u.vm.Alike U.vm) (h : mZ b u H) : mZ b U H := by
  obtain ⟨⟨t, h1, h2⟩, h3, h4⟩ := h
  exact ⟨⟨t, va_Z.moved hvm h1, va_T.moved hvm h2⟩, va_Zq.moved hvm h3, va_Zq.moved hvm h4⟩
theorem mZ.kept {b : Nat} {U : State} {H H1 : Heap} (h : mZ b U H) (hq : ∀ a : Nat, a < H.size → ¬ b ≤ a → H1[a]? = H[a]?) : mZ b U H1 := by
  obtain ⟨⟨t, h1, h2⟩, h3, h4⟩ := h
  exact ⟨⟨t, h1.kept hq, h2.kept hq⟩, h3.kept hq, h4.kept hq⟩
def mE (D : va_G) (kc : Nat → ClassId) (b : Nat) (U : State) (H : Heap) : Prop := va_K D vwCl (mT kc) U ∧ mN U ∧ va_AO RX3 U ∧ mZ b U H
theorem mE.warm {D : va_G} {kc : Nat → ClassId} {b : Nat} {s U : State} {H H1 : Heap} (hW : s.WarmedH U.vm) (h : mE D kc b s H) (hq : ∀ a : Nat, a < H.size → ¬ b ≤ a → H1[a]? = H[a]?) : mE D kc b U H1 :=
  ⟨va_K.moved hW.alike h.1, h.2.1.warm hW, va_AO.moved hW.alike h.2.2.1, (h.2.2.2.moved hW.alike).kept hq⟩
theorem mE.same {D : va_G} {kc : Nat → ClassId} {b : Nat} {s U : State} {H : Heap} (hv : s.vm = U.vm) (h : mE D kc b s H) : mE D kc b U H := by
  have ha : s.vm.Alike U.vm := by rw [← hv]; exact Vm.Alike.refl s.vm
  exact ⟨va_K.moved ha h.1, h.2.1.same hv, va_AO.moved ha h.2.2.1, h.2.2.2.moved ha⟩
def mP (D : va_G) (b n : Nat) (f : Nat → va_E) (H : Heap) : Prop := H.size = b + n ∧ ∀ i, i < n → va_at D vwCl (b + i, f i) H
theorem mP.at {D : va_G} {b n : Nat} {f : Nat → va_E} {H : Heap} (h : mP D b n f H) {i : Nat} (hi : i < n) {x : va_E} (he : f i = x) : va_at D vwCl (b + i, x) H := by
  rw [← he]; exact h.2 i hi
theorem mP.one {D : va_G} {b n : Nat} {f : Nat → va_E} {H : Heap} (h : mP D b n f H) {i : Nat} (hi : i < n) {x : va_E} (he : f i = x) : va_P D vwCl [(b + i, x)] H := by
  intro k q hk
  cases k with
  | zero =>
    cases hk
    exact h.at hi he
  | succ k => simp at hk
def mS (D : va_G) (b : Nat) (s : State) (n : Nat) (f : Nat → va_E) (H : Heap) (locs : List Loc) : Prop := mP D b n f H ∧ va_S (fun q => b ≤ q) s.heap H locs
theorem mS.set {D : va_G} {b : Nat} {s : State} {n : Nat} {f : Nat → va_E} {H H1 : Heap} {locs : List Loc} {i : Nat} {x : va_E} (h : mS D b s n f H locs) (hz : H1.size = H.size) (oq : ∀ q : Nat, q ≠ b + i → H1[q]? = H[q]?) (hx : va_at D vwCl (b + i, x) H1) (k : Nat) : mS D b s n (va_up f i x) H1 (locs ++ [⟨b + i, k⟩]) := by
  refine ⟨⟨hz.trans h.1.1, fun j hj => ?_⟩, h.2.put hz oq (Nat.le_add_right b i)⟩
  by_cases e : j = i
  · subst e
    simp only [va_up, if_pos]
    exact hx
  · simp only [va_up, if_neg e]
    exact (h.1.2 j hj).kept (oq (b + j) (by omega))
theorem mS.push {D : va_G} {b : Nat} {s : State} {n : Nat} {f : Nat → va_E} {H H1 : Heap} {locs : List Loc} {x : va_E} (h : mS D b s n f H locs) (hz : H1.size = H.size + 1) (oq : ∀ q : Nat, q < H.size → H1[q]? = H[q]?) (hx : va_at D vwCl (b + n, x) H1) : mS D b s (n + 1) (va_up f n x) H1 locs := by
  have h0 := h.1.1
  refine ⟨⟨by omega, fun j hj => ?_⟩, Nat.le_trans h.2.1 (by omega), fun q h1 h2 => (oq q (Nat.lt_of_lt_of_le h1 h.2.1)).trans (h.2.2.1 q h1 h2), h.2.2.2⟩
  by_cases e : j = n
  · subst e
    simp only [va_up, if_pos]
    exact hx
  · simp only [va_up, if_neg e]
    exact (h.1.2 j (by omega)).kept (oq (b + j) (by omega))
/-- a method's standing facts -/
def mC (p : Program) (s : State) (m : MethodId) (args : Array Value) (c : Code) (cc : ByteArray) (nL : Nat) (own : String) (D : va_G) (kc : Nat → ClassId) (b : Nat) : Prop :=
  p.tables.exec = Jvm.exec ∧ c.code = cc ∧ c.maxLocals = nL ∧ s.vm.findClass own = some m.cls ∧ (∀ w ∈ GW, w.before args s = true) ∧ mE D kc b s s.heap ∧ b ≤ s.heap.size
/-- a field, by its place in the constant pool of own -/
def mFld (own : String) (index ci k : Nat) (ty : FieldType) (fin : Bool) : Prop := ∃ (C : String) (T : u_T) (N : Nat) (ty0 : Nat → FieldType), vwCl[ci]? = some (C, T, N) ∧ (∀ w ∈ u_ws C T N, w ∈ GW) ∧ (∀ k, k < N → parseFieldDescriptor (T k).2.2.1 = some (ty0 k)) ∧ (∀ a, a < N → ∀ b, b < N → a ≠ b → (T a).2.1 ≠ (T b).2.1) ∧ k < N ∧ parseFieldDescriptor (T k).2.2.1 = some ty ∧ (T k).2.2.2 = fin ∧ Cond.fieldLink own index (T k).1 (T k).2.1 (T k).2.2.1 ∈ GW
def mFldN (own : String) (index ci k : Nat) (ty : FieldType) (fin : Bool) : Prop := ∃ (C : String) (T : u_T) (N : Nat) (ty0 : Nat → FieldType) (host : String), vwCl[ci]? = some (C, T, N) ∧ (∀ w ∈ u_ws C T N, w ∈ GW) ∧ (∀ k, k < N → parseFieldDescriptor (T k).2.2.1 = some (ty0 k)) ∧ (∀ a, a < N → ∀ b, b < N → a ≠ b → (T a).2.1 ≠ (T b).2.1) ∧ k < N ∧ parseFieldDescriptor (T k).2.2.1 = some ty ∧ (T k).2.2.2 = fin ∧ Cond.fieldLinkNest own index (T k).1 (T k).2.1 (T k).2.2.1 host ∈ NW
def mCls (C : String) (index : Nat) (own : String) (ci N : Nat) (fs : List Value) : Prop := ∃ (T : u_T) (ty : Nat → FieldType), vwCl[ci]? = some (C, T, N) ∧ (∀ w ∈ u_ws C T N, w ∈ GW) ∧ (∀ k, k < N → parseFieldDescriptor (T k).2.2.1 = some (ty k)) ∧ (∀ j, j < N → defaultValue (ty j) = vp_V fs j) ∧ Cond.classLink own index C ∈ GW ∧ Cond.instantiable C N ∈ GW ∧ Cond.initialized C ∈ GW
theorem m_ne {f f1 : Nat → va_E} {i j : Nat} {x y : va_E} (ef : f1 = va_up f i x) (h : f j = y) (hij : j ≠ i) : f1 j = y := by rw [ef]; simp only [va_up, if_neg hij]; exact h
theorem m_eq {f f1 : Nat → va_E} {i : Nat} {x : va_E} (ef : f1 = va_up f i x) : f1 i = x := by rw [ef]; simp only [va_up, if_pos]
theorem m_in {i : Int32} {n : Nat} (h : (decide (i < 0) || decide (n ≤ i.toNatClampNeg)) = false) : vp_in i n := by
  intro h2
  rcases h2 with h2 | h2 <;> simp [h2] at h
section MR
variable {p : Program} {l : Launch} {e : Env} {R : Room} {s : State} {m : MethodId} {args : Array Value} {below : List Frame} {meth : Method} {c : Code} {H : Heap} {locs : List Loc} {cells slots : Nat} {Q : State → Prop}
variable {cc : ByteArray} {pc nL : Nat} {ls : Array Slot} {rest : List Value} {own : String} {D : va_G} {kc : Nat → ClassId} {b n : Nat} {f : Nat → va_E}
theorem m_vi {x y : Int32} (h : x = y) (k : W p l e R s m args below meth c H locs cells slots Q (F0 m pc ls (.int y :: rest))) : W p l e R s m args below meth c H locs cells slots Q (F0 m pc ls (.int x :: rest)) := h ▸ k
theorem m_vl {x y : Int64} (h : x = y) (k : W p l e R s m args below meth c H locs cells slots Q (F0 m pc ls (.long y :: rest))) : W p l e R s m args below meth c H locs cells slots Q (F0 m pc ls (.long x :: rest)) := h ▸ k
theorem m_vv {x y : Value} (h : x = y) (k : W p l e R s m args below meth c H locs cells slots Q (F0 m pc ls (y :: rest))) : W p l e R s m args below meth c H locs cells slots Q (F0 m pc ls (x :: rest)) := h ▸ k
theorem m_get {index ci k : Nat} {ty : FieldType} {fin : Bool} (F : mFld own index ci k ty fin) (C : mC p s m args c cc nL own D kc b) (hM : mS D b s n f H locs) {i : Nat} (hi : i < n) {fs : List Value} (hf : f i = .inr (ci, fs)) {v : Value} (hv : fs[k]? = some v) (hdg : decode cc pc = .ok (.getfield index, 3))
    (kk : W p l e R s m args below meth c H locs cells slots Q (F0 m (pc + 3) ls (v :: rest))) : W p l e R s m args below meth c H locs cells slots Q (F0 m pc ls (.ref (b + i) :: rest)) := by
  obtain ⟨hx, hb, hml, hown, hts, hE, hbs⟩ := C
  obtain ⟨Cn, T, N, ty0, hc, hin, hty, hnm, hk, hd, hfin, hl⟩ := F
  exact va_get hx hb hts hin hown hE.1 (hM.1.one hi hf) 0 rfl hc k hk (hts _ hl) (fun _ h => h) hv hdg kk
theorem m_getN {index ci k : Nat} {ty : FieldType} {fin : Bool} (F : mFldN own index ci k ty fin) (C : mC p s m args c cc nL own D kc b) (hM : mS D b s n f H locs) {i : Nat} (hi : i < n) {fs : List Value} (hf : f i = .inr (ci, fs)) {v : Value} (hv : fs[k]? = some v) (hdg : decode cc pc = .ok (.getfield index, 3))
    (kk : W p l e R s m args below meth c H locs cells slots Q (F0 m (pc + 3) ls (v :: rest))) : W p l e R s m args below meth c H locs cells slots Q (F0 m pc ls (.ref (b + i) :: rest)) := by
  obtain ⟨hx, hb, hml, hown, hts, hE, hbs⟩ := C
  obtain ⟨Cn, T, N, ty0, host, hc, hin, hty, hnm, hk, hd, hfin, hl⟩ := F
  exact va_getN hx hb hts hin hown hE.1 (hM.1.one hi hf) 0 rfl hc k hk (va_Nw.use rfl (hE.2.1 _ hl)) (fun _ h => h) hv hdg kk
theorem m_put {index ci k : Nat} {ty : FieldType} (F : mFld own index ci k ty false) (C : mC p s m args c cc nL own D kc b) (hM : mS D b s n f H locs) {i : Nat} (hi : i < n) {fs : List Value} (hf : f i = .inr (ci, fs)) {v : Value} (hn : narrow ty v = v) (hfit : fits ty v = true) (hlen : k < fs.length) {fs1 : List Value} (hfs : fs.set k v = fs1) (hdg : decode cc pc = .ok (.putfield index, 3))
    (kk : ∀ (H1 : Heap) (locs1 : List Loc) (f1 : Nat → va_E), f1 = va_up f i (.inr (ci, fs1)) → mS D b s n f1 H1 locs1 → W p l e R s m args below meth c H1 locs1 cells slots Q (F0 m (pc + 3) ls rest)) : W p l e R s m args below meth c H locs cells slots Q (F0 m pc ls (v :: .ref (b + i) :: rest)) := by
  obtain ⟨hx, hb, hml, hown, hts, hE, hbs⟩ := C
  obtain ⟨Cn, T, N, ty0, hc, hin, hty, hnm, hk, hd, hfin, hl⟩ := F
  have hap := va_apart (own := own) hts hin ty0 hty hnm hE.1 hc
  obtain ⟨r, h1, cell, q1, q2, q3, q4⟩ := hM.1.at hi hf
  have hr : r = (Cn, T, N) := Option.some.inj (h1.symm.trans hc)
  subst hr
  obtain ⟨hS, hfc, kC, hkC, hkind⟩ := hE.1.1 ci _ hc
  obtain ⟨cf, kf, fi, fd, hi2, hsl⟩ := hS k hk
  have hlay := hts _ (hin _ (u_in_lay hk))
  unfold u_lay at hlay
  rw [if_neg (by rw [hfin]; decide)] at hlay
  have hst := (u_facts hfc hkC (u_lays hts hin hk) hi2).1
  have h6 := u_store hfc hkC hkind hlay hi2 hd hn hfit
  refine W.putK hx hb (f := fd) ⟨hown, hts _ hl, ⟨_, _, _, hi2⟩, hst⟩ (by rw [q2]; exact h6) q1 q3 (by rw [hsl]; exact k2_hasslot (q4 k hk)) rfl rfl hdg fun H' e1 e2 e3 => ?_
  rw [hsl] at e1 ⊢
  subst hfs
  exact kk H' _ _ rfl (hM.set (x := .inr (ci, fs.set k v)) e2 e3 ⟨_, hc, t_OB.to (V := updV (vp_V fs) k v) ⟨_, e1, q2, q3, t_set q4 hap hk v⟩ (fun j _ => vp_updV_set hlen v j)⟩ _)
theorem m_putN {index ci k : Nat} {ty : FieldType} (F : mFldN own index ci k ty false) (C : mC p s m args c cc nL own D kc b) (hM : mS D b s n f H locs) {i : Nat} (hi : i < n) {fs : List Value} (hf : f i = .inr (ci, fs)) {v : Value} (hn : narrow ty v = v) (hfit : fits ty v = true) (hlen : k < fs.length) {fs1 : List Value} (hfs : fs.set k v = fs1) (hdg : decode cc pc = .ok (.putfield index, 3))
    (kk : ∀ (H1 : Heap) (locs1 : List Loc) (f1 : Nat → va_E), f1 = va_up f i (.inr (ci, fs1)) → mS D b s n f1 H1 locs1 → W p l e R s m args below meth c H1 locs1 cells slots Q (F0 m (pc + 3) ls rest)) : W p l e R s m args below meth c H locs cells slots Q (F0 m pc ls (v :: .ref (b + i) :: rest)) := by
  obtain ⟨hx, hb, hml, hown, hts, hE, hbs⟩ := C
  obtain ⟨Cn, T, N, ty0, host, hc, hin, hty, hnm, hk, hd, hfin, hl⟩ := F
  have hap := va_apart (own := own) hts hin ty0 hty hnm hE.1 hc
  obtain ⟨r, h1, cell, q1, q2, q3, q4⟩ := hM.1.at hi hf
  have hr : r = (Cn, T, N) := Option.some.inj (h1.symm.trans hc)
  subst hr
  obtain ⟨hS, hfc, kC, hkC, hkind⟩ := hE.1.1 ci _ hc
  obtain ⟨cf, kf, fi, fd, hi2, hsl⟩ := hS k hk
  have hlay := hts _ (hin _ (u_in_lay hk))
  unfold u_lay at hlay
  rw [if_neg (by rw [hfin]; decide)] at hlay
  have hst := (u_facts hfc hkC (u_lays hts hin hk) hi2).1
  have h6 := u_store hfc hkC hkind hlay hi2 hd hn hfit
  refine va_WputK hx hb (f := fd) hown (va_Nw.use rfl (hE.2.1 _ hl)) hi2 hst (by rw [q2]; exact h6) q1 q3 (by rw [hsl]; exact k2_hasslot (q4 k hk)) rfl rfl hdg fun H' e1 e2 e3 => ?_
  rw [hsl] at e1 ⊢
  subst hfs
  exact kk H' _ _ rfl (hM.set (x := .inr (ci, fs.set k v)) e2 e3 ⟨_, hc, t_OB.to (V := updV (vp_V fs) k v) ⟨_, e1, q2, q3, t_set q4 hap hk v⟩ (fun j _ => vp_updV_set hlen v j)⟩ _)
theorem m_putF {index ci k : Nat} {ty : FieldType} (F : mFld own index ci k ty true) (C : mC p s m args c cc nL own D kc b) (hin2 : meth.name = "<init>") (hM : mS D b s n f H locs) {i : Nat} (hi : i < n) {fs : List Value} (hf : f i = .inr (ci, fs)) {v : Value} (hn : narrow ty v = v) (hfit : fits ty v = true) (hlen : k < fs.length) {fs1 : List Value} (hfs : fs.set k v = fs1) (hdecl : ∀ q, vwCl[ci]? = some q → (q.2.1 k).1 = own) (hdg : decode cc pc = .ok (.putfield index, 3))
    (kk : ∀ (H1 : Heap) (locs1 : List Loc) (f1 : Nat → va_E), f1 = va_up f i (.inr (ci, fs1)) → mS D b s n f1 H1 locs1 → W p l e R s m args below meth c H1 locs1 cells slots Q (F0 m (pc + 3) ls rest)) : W p l e R s m args below meth c H locs cells slots Q (F0 m pc ls (v :: .ref (b + i) :: rest)) := by
  obtain ⟨hx, hb, hml, hown, hts, hE, hbs⟩ := C
  obtain ⟨Cn, T, N, ty0, hc, hin, hty, hnm, hk, hd, hfin, hl⟩ := F
  have hdecl := hdecl _ hc
  have hap := va_apart (own := own) hts hin ty0 hty hnm hE.1 hc
  obtain ⟨r, h1, cell, q1, q2, q3, q4⟩ := hM.1.at hi hf
  have hr : r = (Cn, T, N) := Option.some.inj (h1.symm.trans hc)
  subst hr
  obtain ⟨hS, hfc, kC, hkC, hkind⟩ := hE.1.1 ci _ hc
  obtain ⟨cf, kf, fi, fd, hi2, hsl⟩ := hS k hk
  have hlay := hts _ (hin _ (u_in_lay hk))
  unfold u_lay at hlay
  rw [if_pos hfin] at hlay
  have hst := (u_facts hfc hkC (u_lays hts hin hk) hi2).1
  have hcf : m.cls = cf := by
    obtain ⟨_, _, c', _, _, _, -, -, hf', -, -, -, hown2, -⟩ := Cond.laysFinal_spec hlay
    have e1 : c' = cf := by have := hi2.symm.trans hf'; simp at this; exact this.1.symm
    rw [hdecl] at hown2
    rw [← e1]; exact Option.some.inj (hown.symm.trans hown2)
  have h6 := u_fits hfc hkC hkind (Or.inr hlay) hi2 hd hn hfit
  refine W.putFinK hx hb hown (hts _ hl) hi2 hst hcf hin2 (by rw [q2]; exact h6) q1 q3 (by rw [hsl]; exact k2_hasslot (q4 k hk)) rfl rfl hdg fun H' e1 e2 e3 => ?_
  rw [hsl] at e1 ⊢
  subst hfs
  exact kk H' _ _ rfl (hM.set (x := .inr (ci, fs.set k v)) e2 e3 ⟨_, hc, t_OB.to (V := updV (vp_V fs) k v) ⟨_, e1, q2, q3, t_set q4 hap hk v⟩ (fun j _ => vp_updV_set hlen v j)⟩ _)
theorem m_iald (C : mC p s m args c cc nL own D kc b) (hM : mS D b s n f H locs) {j : Nat} (hj : j < n) {N : Nat} {g : Nat → Int32} (hf : f j = .inl (kc 1, N, .inl g)) {i : Int32} (hin : vp_in i N) (hdg : decode cc pc = .ok (.iaload, 1))
    (kk : W p l e R s m args below meth c H locs cells slots Q (F0 m (pc + 1) ls (.int (g i.toNatClampNeg) :: rest))) : W p l e R s m args below meth c H locs cells slots Q (F0 m pc ls (.int i :: .ref (b + j) :: rest)) :=
  va_iald C.1 C.2.1 C.2.2.2.2.2.1.1 (hM.1.one hj hf) 0 1 rfl rfl hin hdg kk
theorem m_bald (C : mC p s m args c cc nL own D kc b) (hM : mS D b s n f H locs) {j : Nat} (hj : j < n) {N : Nat} {g : Nat → Int32} (hf : f j = .inl (kc 0, N, .inl g)) {i : Int32} (hin : vp_in i N) (hdg : decode cc pc = .ok (.baload, 1))
    (kk : W p l e R s m args below meth c H locs cells slots Q (F0 m (pc + 1) ls (.int (g i.toNatClampNeg) :: rest))) : W p l e R s m args below meth c H locs cells slots Q (F0 m pc ls (.int i :: .ref (b + j) :: rest)) :=
  va_bald C.1 C.2.1 C.2.2.2.2.2.1.1 (hM.1.one hj hf) 0 0 rfl rfl hin hdg kk
theorem m_zald (C : mC p s m args c cc nL own D kc b) (hM : mS D b s n f H locs) {j : Nat} (hj : j < n) {N : Nat} {g : Nat → Int32} (hf : f j = .inl (kc 3, N, .inl g)) {i : Int32} (hin : vp_in i N) (hdg : decode cc pc = .ok (.baload, 1))
    (kk : W p l e R s m args below meth c H locs cells slots Q (F0 m (pc + 1) ls (.int (g i.toNatClampNeg) :: rest))) : W p l e R s m args below meth c H locs cells slots Q (F0 m pc ls (.int i :: .ref (b + j) :: rest)) :=
  va_zald C.1 C.2.1 C.2.2.2.2.2.1.1 (hM.1.one hj hf) 0 3 rfl rfl hin hdg kk
theorem m_lald (C : mC p s m args c cc nL own D kc b) (hM : mS D b s n f H locs) {j : Nat} (hj : j < n) {N : Nat} {g : Nat → Int64} (hf : f j = .inl (kc 2, N, .inr (.inl g))) {i : Int32} (hin : vp_in i N) (hdg : decode cc pc = .ok (.laload, 1))
    (kk : W p l e R s m args below meth c H locs cells slots Q (F0 m (pc + 1) ls (.long (g i.toNatClampNeg) :: rest))) : W p l e R s m args below meth c H locs cells slots Q (F0 m pc ls (.int i :: .ref (b + j) :: rest)) :=
  va_lald C.1 C.2.1 C.2.2.2.2.2.1.1 (hM.1.one hj hf) 0 2 rfl rfl hin hdg kk
theorem m_aald (C : mC p s m args c cc nL own D kc b) (hM : mS D b s n f H locs) {j : Nat} (hj : j < n) {N : Nat} {g : Nat → Option Nat} (hf : f j = .inl (kc 4, N, .inr (.inr (.inr (.inr g))))) {i : Int32} (hin : vp_in i N) (hdg : decode cc pc = .ok (.aaload, 1))
    (kk : W p l e R s m args below meth c H locs cells slots Q (F0 m (pc + 1) ls (va_rf (g i.toNatClampNeg) :: rest))) : W p l e R s m args below meth c H locs cells slots Q (F0 m pc ls (.int i :: .ref (b + j) :: rest)) :=
  va_aldq C.1 C.2.1 C.2.2.2.2.2.1.1 (hM.1.one hj hf) 0 4 rfl rfl hin hdg kk
/-- the length of an array of ours, whatever its kind is (t: its place among the kinds) -/
theorem m_alen (C : mC p s m args c cc nL own D kc b) (hM : mS D b s n f H locs) {j : Nat} (hj : j < n) (t : Nat) {x : vp_A} (hf : f j = .inl (kc t, x)) {ty : FieldType} (ht : (mT kc)[t]? = some (kc t, ty)) {v : Int32} (hv : Int32.ofNat x.1 = v) (hdg : decode cc pc = .ok (.arraylength, 1))
    (kk : W p l e R s m args below meth c H locs cells slots Q (F0 m (pc + 1) ls (.int v :: rest))) : W p l e R s m args below meth c H locs cells slots Q (F0 m pc ls (.ref (b + j) :: rest)) :=
  va_alen C.1 C.2.1 C.2.2.2.2.2.1.1 (hM.1.one hj hf) 0 t rfl ht hv hdg kk
theorem m_upI (cA : ClassId) (N : Nat) (g : Nat → Int32) (k : Nat) (x : Int32) : (vp_cell cA (N, .inl g)).setSlot k (.int x) = vp_cell cA (N, .inl (upd g k x)) := by
  rw [vp_cell_i, vp_cell_i, arrV_store]
  congr 1
  funext q
  by_cases hq : q = k
  · subst hq; simp [updV, upd]
  · simp [updV, upd, hq]
theorem m_upL (cA : ClassId) (N : Nat) (g : Nat → Int64) (k : Nat) (x : Int64) : (vp_cell cA (N, .inr (.inl g))).setSlot k (.long x) = vp_cell cA (N, .inr (.inl (vp_updL g k x))) := by
  rw [vp_cell_l, vp_cell_l, arrV_store]
  congr 1
  funext q
  by_cases hq : q = k
  · subst hq; simp [updV, vp_updL]
  · simp [updV, vp_updL, hq]
theorem m_upQ (cA : ClassId) (N : Nat) (g : Nat → Option Nat) (k : Nat) (x : Nat) : (vp_cell cA (N, .inr (.inr (.inr (.inr g))))).setSlot k (.ref x) = vp_cell cA (N, .inr (.inr (.inr (.inr (va_up g k (some x)))))) := by
  rw [vp_cell_q, vp_cell_q, arrV_store]
  congr 1
  funext q
  by_cases hq : q = k
  · subst hq; simp [updV, va_up, va_rf]
  · simp [updV, va_up, hq]
theorem m_iast (C : mC p s m args c cc nL own D kc b) (hM : mS D b s n f H locs) {j : Nat} (hj : j < n) {N : Nat} {g : Nat → Int32} (hf : f j = .inl (kc 1, N, .inl g)) {i x : Int32} (hin : vp_in i N) (hdg : decode cc pc = .ok (.iastore, 1))
    (kk : ∀ (H1 : Heap) (locs1 : List Loc) (f1 : Nat → va_E), f1 = va_up f j (.inl (kc 1, N, .inl (upd g i.toNatClampNeg x))) → mS D b s n f1 H1 locs1 → W p l e R s m args below meth c H1 locs1 cells slots Q (F0 m (pc + 1) ls rest)) : W p l e R s m args below meth c H locs cells slots Q (F0 m pc ls (.int x :: .int i :: .ref (b + j) :: rest)) := by
  have hat := hM.1.at hj hf
  refine W.iast C.1 C.2.1 hat ((C.2.2.2.2.2.1.1.2 1 _ rfl).1 N (fun j => .int (g j))) (fun q => by cases q) (by show ¬ (i < 0 ∨ (arrV _ _ _).slots.size ≤ _); rw [arrV_size]; exact hin) rfl rfl hdg fun H1 e1 z oq => ?_
  exact kk H1 _ _ rfl (hM.set z oq (by show H1[b + j]? = some (vp_cell _ _); rw [e1, m_upI]) _)
theorem m_bast (C : mC p s m args c cc nL own D kc b) (hM : mS D b s n f H locs) {j : Nat} (hj : j < n) {N : Nat} {g : Nat → Int32} (hf : f j = .inl (kc 0, N, .inl g)) {i x : Int32} (hin : vp_in i N) (hdg : decode cc pc = .ok (.bastore, 1))
    (kk : ∀ (H1 : Heap) (locs1 : List Loc) (f1 : Nat → va_E), f1 = va_up f j (.inl (kc 0, N, .inl (upd g i.toNatClampNeg x.toInt8.toInt32))) → mS D b s n f1 H1 locs1 → W p l e R s m args below meth c H1 locs1 cells slots Q (F0 m (pc + 1) ls rest)) : W p l e R s m args below meth c H locs cells slots Q (F0 m pc ls (.int x :: .int i :: .ref (b + j) :: rest)) := by
  have hat := hM.1.at hj hf
  refine W.bast C.1 C.2.1 hat ((C.2.2.2.2.2.1.1.2 0 _ rfl).1 N (fun j => .int (g j))) (fun q => by cases q) (by show ¬ (i < 0 ∨ (arrV _ _ _).slots.size ≤ _); rw [arrV_size]; exact hin) rfl rfl hdg fun H1 e1 z oq => ?_
  exact kk H1 _ _ rfl (hM.set z oq (by show H1[b + j]? = some (vp_cell _ _); rw [e1, ← m_upI]; rfl) _)
theorem m_zast (C : mC p s m args c cc nL own D kc b) (hM : mS D b s n f H locs) {j : Nat} (hj : j < n) {N : Nat} {g : Nat → Int32} (hf : f j = .inl (kc 3, N, .inl g)) {i x : Int32} (hin : vp_in i N) (hx : vp_nar .boolean x = x) (hdg : decode cc pc = .ok (.bastore, 1))
    (kk : ∀ (H1 : Heap) (locs1 : List Loc) (f1 : Nat → va_E), f1 = va_up f j (.inl (kc 3, N, .inl (upd g i.toNatClampNeg x))) → mS D b s n f1 H1 locs1 → W p l e R s m args below meth c H1 locs1 cells slots Q (F0 m (pc + 1) ls rest)) : W p l e R s m args below meth c H locs cells slots Q (F0 m pc ls (.int x :: .int i :: .ref (b + j) :: rest)) := by
  have hat := hM.1.at hj hf
  refine W.zast C.1 C.2.1 hat ((C.2.2.2.2.2.1.1.2 3 _ rfl).1 N (fun j => .int (g j))) (fun q => by cases q) (by show ¬ (i < 0 ∨ (arrV _ _ _).slots.size ≤ _); rw [arrV_size]; exact hin) rfl rfl hdg fun H1 e1 z oq => ?_
  refine kk H1 _ _ rfl (hM.set z oq (by show H1[b + j]? = some (vp_cell _ _); rw [e1, ← hx, ← m_upI]; rw [hx]; have h9 : narrow .boolean (.int x) = .int (vp_nar .boolean x) := rfl; rw [h9, hx]) _)
theorem m_last (C : mC p s m args c cc nL own D kc b) (hM : mS D b s n f H locs) {j : Nat} (hj : j < n) {N : Nat} {g : Nat → Int64} (hf : f j = .inl (kc 2, N, .inr (.inl g))) {i : Int32} {x : Int64} (hin : vp_in i N) (hdg : decode cc pc = .ok (.lastore, 1))
    (kk : ∀ (H1 : Heap) (locs1 : List Loc) (f1 : Nat → va_E), f1 = va_up f j (.inl (kc 2, N, .inr (.inl (vp_updL g i.toNatClampNeg x)))) → mS D b s n f1 H1 locs1 → W p l e R s m args below meth c H1 locs1 cells slots Q (F0 m (pc + 1) ls rest)) : W p l e R s m args below meth c H locs cells slots Q (F0 m pc ls (.long x :: .int i :: .ref (b + j) :: rest)) := by
  have hat := hM.1.at hj hf
  refine W.last C.1 C.2.1 hat ((C.2.2.2.2.2.1.1.2 2 _ rfl).1 N (fun j => .long (g j))) (fun q => by cases q) (by show ¬ (i < 0 ∨ (arrV _ _ _).slots.size ≤ _); rw [arrV_size]; exact hin) rfl rfl hdg fun H1 e1 z oq => ?_
  exact kk H1 _ _ rfl (hM.set z oq (by show H1[b + j]? = some (vp_cell _ _); rw [e1, m_upL]) _)
theorem m_aast (C : mC p s m args c cc nL own D kc b) (hM : mS D b s n f H locs) {j : Nat} (hj : j < n) {N : Nat} {g : Nat → Option Nat} (hf : f j = .inl (kc 4, N, .inr (.inr (.inr (.inr g))))) {v : Nat} (hv : v < n) {vs : List Value} (hfv : f v = .inr (3, vs)) {i : Int32} (hin : vp_in i N) (hdg : decode cc pc = .ok (.aastore, 1))
    (kk : ∀ (H1 : Heap) (locs1 : List Loc) (f1 : Nat → va_E), f1 = va_up f j (.inl (kc 4, N, .inr (.inr (.inr (.inr (va_up g i.toNatClampNeg (some (b + v)))))))) → mS D b s n f1 H1 locs1 → W p l e R s m args below meth c H1 locs1 cells slots Q (F0 m (pc + 1) ls rest)) : W p l e R s m args below meth c H locs cells slots Q (F0 m pc ls (.ref (b + v) :: .int i :: .ref (b + j) :: rest)) := by
  have hat := hM.1.at hj hf
  have hlt : i.toNatClampNeg < N := Nat.not_le.mp fun q => hin (Or.inr q)
  have h0 : ¬ i < 0 := fun q => hin (Or.inl q)
  obtain ⟨r', hr', cellV, g1, g2, g3, -⟩ := hM.1.at hv hfv
  have hcls := (C.2.2.2.2.2.1.1.1 3 _ rfl).2
  obtain ⟨kA, comp, k1, k2, k3, -⟩ := (C.2.2.2.2.2.1.1.2 4 _ rfl).2
  have hcomp : comp = D.1 3 := Option.some.inj (k3.symm.trans hcls.1)
  subst hcomp
  obtain ⟨kC, hkC, -⟩ := hcls.2
  refine W.aast C.1 C.2.1 hat (fun q h => by cases h) (fun h => by cases h) k1 k2 rfl hkC ⟨h0, by show _ < (arrV _ _ _).slots.size; rw [arrV_size]; exact hlt⟩ g1 (fun q h => by rw [g3] at h; cases h) (by rw [g2]; exact hkC) (by rw [g2]; exact va_assign hcls) rfl rfl hdg fun H1 e1 z oq => ?_
  exact kk H1 _ _ rfl (hM.set z oq (by show H1[b + j]? = some (vp_cell _ _); rw [e1, m_upQ]) _)
end MR
end
section
/-! making cells, calls, beginnings and ends of methods, over the heap as a map -/
def mR (d mc ms : Nat) : Room := { frames := d, cells := mc, slots := ms, locals := 64 * d }
def mPre (D : va_G) (kc : Nat → ClassId) (b n : Nat) (f : Nat → va_E) (U : State) : Prop := mP D b n f U.heap ∧ mE D kc b U U.heap
abbrev mB (D : va_G) (b : Nat) : Nat × (Nat → va_E) → State → Prop := fun u t => mP D b u.1 u.2 t.heap
theorem m_blind {D : va_G} {kc : Nat → ClassId} {b n : Nat} {f : Nat → va_E} {as : List Value} : FrameBlind (va_Pc as (mPre D kc b n f)) := by
  intro a U g mk h
  exact ⟨h.1, h.2.1, mE.same (s := U) (U := U.calling g mk a) (H := U.heap) rfl h.2.2⟩
abbrev mMi (l : Launch) (y : MethodName) (bytes : ByteArray) (maxL : Nat) (ret : FieldType) (d mc ms : Nat) (D : va_G) (kc : Nat → ClassId) (b n : Nat) (f : Nat → va_E) (as : List Value) (post : Int32 → Nat × (Nat → va_E) → Prop) : Prop := Met l y (.code y bytes maxL (some ret) :: GW) (mR d mc ms) (va_Pc as (mPre D kc b n f)) (va_Qi post (mB D b) (fun q => b ≤ q)) mc ms (fun q => b ≤ q)
abbrev mMl (l : Launch) (y : MethodName) (bytes : ByteArray) (maxL : Nat) (ret : FieldType) (d mc ms : Nat) (D : va_G) (kc : Nat → ClassId) (b n : Nat) (f : Nat → va_E) (as : List Value) (post : Int64 → Nat × (Nat → va_E) → Prop) : Prop := Met l y (.code y bytes maxL (some ret) :: GW) (mR d mc ms) (va_Pc as (mPre D kc b n f)) (va_Ql post (mB D b) (fun q => b ≤ q)) mc ms (fun q => b ≤ q)
abbrev mMq (l : Launch) (y : MethodName) (bytes : ByteArray) (maxL : Nat) (ret : FieldType) (d mc ms : Nat) (D : va_G) (kc : Nat → ClassId) (b n : Nat) (f : Nat → va_E) (as : List Value) (post : Option Nat → Nat × (Nat → va_E) → Prop) : Prop := Met l y (.code y bytes maxL (some ret) :: GW) (mR d mc ms) (va_Pc as (mPre D kc b n f)) (va_Qq post (mB D b) (fun q => b ≤ q)) mc ms (fun q => b ≤ q)
abbrev mMv (l : Launch) (y : MethodName) (bytes : ByteArray) (maxL : Nat) (d mc ms : Nat) (D : va_G) (kc : Nat → ClassId) (b n : Nat) (f : Nat → va_E) (as : List Value) (post : Nat × (Nat → va_E) → Prop) : Prop := Met l y (.code y bytes maxL none :: GW) (mR d mc ms) (va_Pc as (mPre D kc b n f)) (va_Qv post (mB D b) (fun q => b ≤ q)) mc ms (fun q => b ≤ q)
/-- what the tables say of a method that is called -/
def mCal (y : MethodName) (bytes : ByteArray) (maxL : Nat) (ret : Option FieldType) (Cn : String) (na : Nat) : Prop := Cond.code y bytes maxL ret ∈ GW ∧ Cond.instanceMethod y ∈ GW ∧ Cond.selects Cn y y ∈ GW ∧ Cond.initialized y.cls ∈ GW ∧ (y.cls ≠ "java/lang/invoke/MethodHandle" ∧ y.cls ≠ "java/lang/invoke/VarHandle" ∧ (parseMethodDescriptor y.desc).map (fun d => d.parameters.length) = some na)
def mCalS (y : MethodName) (bytes : ByteArray) (maxL : Nat) (ret : Option FieldType) (na : Nat) : Prop := Cond.code y bytes maxL ret ∈ GW ∧ Cond.static y ∈ GW ∧ Cond.initialized y.cls ∈ GW ∧ (y.cls ≠ "java/lang/invoke/MethodHandle" ∧ y.cls ≠ "java/lang/invoke/VarHandle" ∧ (parseMethodDescriptor y.desc).map (fun d => d.parameters.length) = some na)
def mCalI (y : MethodName) (bytes : ByteArray) (maxL : Nat) (na : Nat) : Prop := Cond.code y bytes maxL none ∈ GW ∧ Cond.instanceMethod y ∈ GW ∧ Cond.initialized y.cls ∈ GW ∧ y.name = "<init>" ∧ (y.cls ≠ "java/lang/invoke/MethodHandle" ∧ y.cls ≠ "java/lang/invoke/VarHandle" ∧ (parseMethodDescriptor y.desc).map (fun d => d.parameters.length) = some na)
theorem m_start {l : Launch} {y : MethodName} {bytes : ByteArray} {maxL : Nat} {ret : Option FieldType} {rm : Room} {as : List Value} {Qc : Array Value → State → Outcome → State → Prop} {mc ms : Nat} {free : Addr → Prop} {D : va_G} {kc : Nat → ClassId} {b n : Nat} {f : Nat → va_E} (hy : plainName y.cls = true) (hlen : (lg_sl as).length ≤ maxL)
    (body : ∀ (p : Program) (e : Env) (s : State) (m : MethodId) (below : List Frame) (meth : Method) (c : Code), mC p s m as.toArray c bytes maxL y.cls D kc b → meth.sig.returnType = ret → meth.locks = false → meth.name = y.name → mS D b s n f s.heap [] → ∀ ls : Array Slot, lv_has ls maxL (lv_args 0 as) → W p l e rm s m as.toArray below meth c s.heap [] 0 0 (MQ below Qc as.toArray s mc ms free) (F0 m 0 ls [])) :
    Met l y (.code y bytes maxL ret :: GW) rm (va_Pc as (mPre D kc b n f)) Qc mc ms free := by
  refine Met.ofW (cc := bytes) (maxL := maxL) (ret := ret) hy rfl ?_
  intro p e s m args below meth c s₁ B hml hv
  obtain ⟨rfl, hP, hE⟩ := hv
  have hts := atoms_spec (ws := .code y bytes maxL ret :: GW) B.pre
  have hown : s.vm.findClass y.cls = some m.cls := findClass_of_methodNamed B.named
  have hl := lv_entry as (n := maxL) hlen
  rw [lg_entry_eq]
  have hP1 := hP.1
  exact body p e s m below meth c ⟨B.exec, B.bytes, hml, hown, fun w hw => hts w (List.mem_cons_of_mem _ hw), hE, by omega⟩ B.returns B.notSynchronized (name_of_methodNamed B.named B.method).1 ⟨hP, va_S.rf⟩ _ hl
section MC
variable {p : Program} {l : Launch} {e : Env} {R : Room} {s : State} {m : MethodId} {args : Array Value} {below : List Frame} {meth : Method} {c : Code} {H : Heap} {locs : List Loc} {cells slots : Nat} {Q : State → Prop}
variable {cc : ByteArray} {pc nL : Nat} {ls : Array Slot} {rest : List Value} {own : String} {D : va_G} {kc : Nat → ClassId} {b n : Nat} {f : Nat → va_E}
theorem m_new {Cn : String} {index ci N : Nat} {fs : List Value} (K : mCls Cn index own ci N fs) (C : mC p s m args c cc nL own D kc b) (hM : mS D b s n f H locs) (hcells : cells + 1 ≤ R.cells) (hslots : slots + N ≤ R.slots) (hdg : decode cc pc = .ok (.new index, 3))
    (kk : ∀ (H1 : Heap) (f1 : Nat → va_E), f1 = va_up f n (.inr (ci, fs)) → mS D b s (n + 1) f1 H1 locs → W p l e R s m args below meth c H1 locs (cells + 1) (slots + N) Q (F0 m (pc + 3) ls (.ref (b + n) :: rest))) : W p l e R s m args below meth c H locs cells slots Q (F0 m pc ls rest) := by
  obtain ⟨hx, hb, hml, hown, hts, hE, hbs⟩ := C
  obtain ⟨T, ty, hc, hin, hty, hfs, hcl, hinst, hini⟩ := K
  have hKn := hE.1.1 ci _ hc
  refine W.newcK hx hb hown (hts _ hcl) (hts _ hinst) (hts _ hini) rfl hdg hcells hslots hKn.2.1 hM.1.1 fun H1 kC hkC e1 z1 o1 => ?_
  have h0 := hM.1.1
  exact kk H1 _ rfl (hM.push (by omega) (fun q hq => o1 q (by omega)) ⟨_, hc, (u_born ty hts hin hKn hkC e1 hty).to hfs⟩)
theorem m_newa {atype : ArrayType} {ty : FieldType} (hty : newarray.typeOf atype = ty) (hw : Cond.arrayClass ty ∈ GW) (t : Nat) (ht : (mT kc)[t]? = some (kc t, ty)) (hra : va_RA s (kc t) ty → s.vm.findClass ("[" ++ ty.toString) = some (kc t)) (C : mC p s m args c cc nL own D kc b) (hM : mS D b s n f H locs) {x : Int32} {N' : Nat} {a0 : vp_A} (ha : ∀ cA : ClassId, vp_cell cA a0 = arrV cA N' (fun _ => defaultValue ty)) (hn : ¬ x < 0) (hN : x.toNatClampNeg = N') (hbytes : N' * componentBytes ty ≤ 536870912) (hcells : cells + 1 ≤ R.cells) (hslots : slots + N' ≤ R.slots) (hdg : decode cc pc = .ok (.newarray atype, 2))
    (kk : ∀ (H1 : Heap) (f1 : Nat → va_E), f1 = va_up f n (.inl (kc t, a0)) → mS D b s (n + 1) f1 H1 locs → W p l e R s m args below meth c H1 locs (cells + 1) (slots + N') Q (F0 m (pc + 2) ls (.ref (b + n) :: rest))) : W p l e R s m args below meth c H locs cells slots Q (F0 m pc ls (.int x :: rest)) := by
  obtain ⟨hx, hb, hml, hown, hts, hE, hbs⟩ := C
  subst hty
  refine va_newaK hx hb (hts _ hw) rfl hdg rfl hn hN hbytes hcells hslots hM.1.1 fun H1 cA e1 z1 o1 hAr hNm => ?_
  have hcA : cA = kc t := Option.some.inj (hNm.symm.trans (hra (hE.1.2 t _ ht).2))
  have h0 := hM.1.1
  refine kk H1 _ rfl (hM.push (by omega) (fun q hq => o1 q (by omega)) ?_)
  show H1[b + n]? = some (vp_cell _ _)
  rw [e1, ha, hcA]
theorem m_newq {index : Nat} (hcl : Cond.classLink own index RX3 ∈ GW) (C : mC p s m args c cc nL own D kc b) (hM : mS D b s n f H locs) {x : Int32} {N' : Nat} (hn : ¬ x < 0) (hN : x.toNatClampNeg = N') (hbytes : N' * 4 ≤ 536870912) (hcells : cells + 1 ≤ R.cells) (hslots : slots + N' ≤ R.slots) (hdg : decode cc pc = .ok (.anewarray index, 3))
    (kk : ∀ (H1 : Heap) (f1 : Nat → va_E), f1 = va_up f n (.inl (kc 4, N', .inr (.inr (.inr (.inr (fun _ => none)))))) → mS D b s (n + 1) f1 H1 locs → W p l e R s m args below meth c H1 locs (cells + 1) (slots + N') Q (F0 m (pc + 3) ls (.ref (b + n) :: rest))) : W p l e R s m args below meth c H locs cells slots Q (F0 m pc ls (.int x :: rest)) := by
  obtain ⟨hx, hb, hml, hown, hts, hE, hbs⟩ := C
  subst hN
  refine W.anew hx hb hown (hts _ hcl) (va_AO.use hE.2.2.1) rfl hdg rfl hn hbytes hcells hslots fun cA kA comp f1 f2 f3 f4 => ?_
  obtain ⟨kA', comp', g1, g2, g3, g4⟩ := (hE.1.2 4 _ rfl).2
  have hcA : cA = kc 4 := Option.some.inj (f1.symm.trans g4)
  have h0 := hM.1.1
  generalize hH1 : H.push ({ cls := cA, slots := Array.replicate x.toNatClampNeg .null, vm := .none } : Cell) = H1
  have z1 : H1.size = H.size + 1 := by rw [← hH1, Array.size_push]
  have e1 : H1[H.size]? = some (arrV cA x.toNatClampNeg (fun _ => .null)) := by rw [← hH1, Array.getElem?_push_size, ← arrV_new]
  have o1 : ∀ q : Nat, q < H.size → H1[q]? = H[q]? := fun q hq => by rw [← hH1, Array.getElem?_push, if_neg (Nat.ne_of_lt hq)]
  have hW := kk H1 _ rfl (hM.push z1 o1 (by show H1[b + n]? = some (vp_cell _ _); rw [vp_cell_q, ← h0, e1, hcA]; rfl))
  rw [← h0] at hW
  exact hW
theorem m_objInit {index : Nat} (hl : Cond.methodLink own index objectInit ∈ GW) (hi : Cond.instanceMethod objectInit ∈ GW) (hc : Cond.code objectInit ⟨#[0xb1]⟩ 1 none ∈ GW) (C : mC p s m args c cc nL own D kc b) (hls : ls.size = nL) {a : Addr} (hdg : decode cc pc = .ok (.invokespecial index, 3)) (hframes : 1 ≤ R.frames) (hlocals : (rest.map fun v => v.category).sum + 12 ≤ R.locals)
    (kk : W p l e R s m args below meth c H locs cells slots Q (F0 m (pc + 3) ls rest)) : W p l e R s m args below meth c H locs cells slots Q (F0 m pc ls (.ref a :: rest)) := by
  obtain ⟨hx, hb, hml, hown, hts, hE, hbs⟩ := C
  refine W.objInit hx hb hown (hts _ hl) (hts _ hi) (hts _ hc) rfl (by rw [hml]; exact hls) rfl hdg hframes (by show 2 * 0 + _ + 12 ≤ _; omega) ?_
  exact kk
theorem m_preU {as : List Value} (C : mC p s m args c cc nL own D kc b) (hM : mS D b s n f H locs) : ∀ U : State, U.heap = H → s.WarmedH U.vm → va_Pc as (mPre D kc b n f) as.toArray U := by
  intro U hU hW
  obtain ⟨hx, hb, hml, hown, hts, hE, hbs⟩ := C
  exact ⟨rfl, by rw [hU]; exact hM.1, by rw [hU]; exact hE.warm hW (fun a h1 h2 => hM.2.2.1 a h1 h2)⟩
variable {y : MethodName} {bytes : ByteArray} {maxL d mc ms na index i : Nat} {ret : Option FieldType} {Qc : Array Value → State → Outcome → State → Prop} {free : Addr → Prop} {Cn host : String} {as st : List Value}
theorem m_runV (K : mCal y bytes maxL ret Cn na) (hl : Cond.methodLink own index y ∈ GW) (hMet : Met l y (.code y bytes maxL ret :: GW) (mR d mc ms) (va_Pc (.ref (b + i) :: as) (mPre D kc b n f)) Qc mc ms free) (C : mC p s m args c cc nL own D kc b) (hM : mS D b s n f H locs) (hi : i < n) {ci : Nat} {fs : List Value} (hf : f i = .inr (ci, fs)) {T : u_T} {N : Nat} (hci : vwCl[ci]? = some (Cn, T, N)) (hls : ls.size = nL) (hn : as.length = na) (hst : st = as.reverse ++ .ref (b + i) :: rest) (hW : (rest.map fun v => v.category).sum ≤ 8) (hdg : decode cc pc = .ok (.invokevirtual index, 3)) (hR : d + 1 ≤ R.frames ∧ 8 + (maxL + 11) + 64 * d ≤ R.locals) (hcs : cells + mc ≤ R.cells ∧ slots + ms ≤ R.slots) :
    va_Run p l e R s m args below meth c H locs cells slots mc ms (F0 m pc ls st) rest (Qc (Value.ref (b + i) :: as).toArray) free := by
  obtain ⟨k1, k2, k3, k4, k5⟩ := K
  have hpre := m_preU (as := .ref (b + i) :: as) C hM
  obtain ⟨hx, hb, hml, hown, hts, hE, hbs⟩ := C
  exact va_runV (Ts := GW) (own := own) (C := Cn) (bytes := bytes) (maxL := maxL) (ret := ret) (n := na) ⟨hx, hb, hml, hown, hts⟩ hMet ⟨callB_of na hts (gw_good0 k1) rfl rfl rfl (hts _ k4) (hts _ hl) k5 hR, hts _ k2, hts _ k3⟩ ⟨m_blind, va_recv (q0 := 0) hE.1 (hM.1.one hi hf) hci rfl, hpre⟩ rfl hn hls hst (lv_room hW) hdg hcs
theorem m_runVN (K : mCal y bytes maxL ret Cn na) (hl : Cond.methodLinkNest own index y host ∈ NW) (hMet : Met l y (.code y bytes maxL ret :: GW) (mR d mc ms) (va_Pc (.ref (b + i) :: as) (mPre D kc b n f)) Qc mc ms free) (C : mC p s m args c cc nL own D kc b) (hM : mS D b s n f H locs) (hi : i < n) {ci : Nat} {fs : List Value} (hf : f i = .inr (ci, fs)) {T : u_T} {N : Nat} (hci : vwCl[ci]? = some (Cn, T, N)) (hls : ls.size = nL) (hn : as.length = na) (hst : st = as.reverse ++ .ref (b + i) :: rest) (hW : (rest.map fun v => v.category).sum ≤ 8) (hdg : decode cc pc = .ok (.invokevirtual index, 3)) (hR : d + 1 ≤ R.frames ∧ 8 + (maxL + 11) + 64 * d ≤ R.locals) (hcs : cells + mc ≤ R.cells ∧ slots + ms ≤ R.slots) :
    va_Run p l e R s m args below meth c H locs cells slots mc ms (F0 m pc ls st) rest (Qc (Value.ref (b + i) :: as).toArray) free := by
  obtain ⟨k1, k2, k3, k4, k5⟩ := K
  have hpre := m_preU (as := .ref (b + i) :: as) C hM
  obtain ⟨hx, hb, hml, hown, hts, hE, hbs⟩ := C
  exact va_runVN (Ts := GW) (own := own) (C := Cn) (bytes := bytes) (maxL := maxL) (ret := ret) (n := na) ⟨hx, hb, hml, hown, hts⟩ hMet ⟨va_cnB na hts (gw_good0 k1) rfl rfl rfl (hE.2.1 _ hl) (hts _ k4) k5 hR, hts _ k2, hts _ k3⟩ ⟨m_blind, va_recv (q0 := 0) hE.1 (hM.1.one hi hf) hci rfl, hpre⟩ rfl hn hls hst (lv_room hW) hdg hcs
theorem m_runS (K : mCalS y bytes maxL ret na) (hl : Cond.methodLink own index y ∈ GW) (hMet : Met l y (.code y bytes maxL ret :: GW) (mR d mc ms) (va_Pc as (mPre D kc b n f)) Qc mc ms free) (C : mC p s m args c cc nL own D kc b) (hM : mS D b s n f H locs) (hls : ls.size = nL) (hn : as.length = na) (hst : st = as.reverse ++ rest) (hW : (rest.map fun v => v.category).sum ≤ 8) (hdg : decode cc pc = .ok (.invokestatic index, 3)) (hR : d + 1 ≤ R.frames ∧ 8 + (maxL + 11) + 64 * d ≤ R.locals) (hcs : cells + mc ≤ R.cells ∧ slots + ms ≤ R.slots) :
    va_Run p l e R s m args below meth c H locs cells slots mc ms (F0 m pc ls st) rest (Qc as.toArray) free := by
  obtain ⟨k1, k2, k4, k5⟩ := K
  have hpre := m_preU (as := as) C hM
  obtain ⟨hx, hb, hml, hown, hts, hE, hbs⟩ := C
  exact va_runS (Ts := GW) (own := own) (bytes := bytes) (maxL := maxL) (ret := ret) (n := na) ⟨hx, hb, hml, hown, hts⟩ hMet ⟨callB_of na hts (gw_good0 k1) rfl rfl rfl (hts _ k4) (hts _ hl) k5 hR, hts _ k2⟩ ⟨m_blind, hpre⟩ rfl hn hls hst (lv_room hW) hdg hcs
theorem m_runSN (K : mCalS y bytes maxL ret na) (hl : Cond.methodLinkNest own index y host ∈ NW) (hMet : Met l y (.code y bytes maxL ret :: GW) (mR d mc ms) (va_Pc as (mPre D kc b n f)) Qc mc ms free) (C : mC p s m args c cc nL own D kc b) (hM : mS D b s n f H locs) (hls : ls.size = nL) (hn : as.length = na) (hst : st = as.reverse ++ rest) (hW : (rest.map fun v => v.category).sum ≤ 8) (hdg : decode cc pc = .ok (.invokestatic index, 3)) (hR : d + 1 ≤ R.frames ∧ 8 + (maxL + 11) + 64 * d ≤ R.locals) (hcs : cells + mc ≤ R.cells ∧ slots + ms ≤ R.slots) :
    va_Run p l e R s m args below meth c H locs cells slots mc ms (F0 m pc ls st) rest (Qc as.toArray) free := by
  obtain ⟨k1, k2, k4, k5⟩ := K
  have hpre := m_preU (as := as) C hM
  obtain ⟨hx, hb, hml, hown, hts, hE, hbs⟩ := C
  exact va_runSN (Ts := GW) (own := own) (bytes := bytes) (maxL := maxL) (ret := ret) (n := na) ⟨hx, hb, hml, hown, hts⟩ hMet ⟨va_cnB na hts (gw_good0 k1) rfl rfl rfl (hE.2.1 _ hl) (hts _ k4) k5 hR, hts _ k2, trivial⟩ ⟨m_blind, hpre⟩ rfl hn hls hst (lv_room hW) hdg hcs
theorem m_runI (K : mCalI y bytes maxL na) (hl : Cond.methodLink own index y ∈ GW) (hMet : Met l y (.code y bytes maxL none :: GW) (mR d mc ms) (va_Pc (.ref (b + i) :: as) (mPre D kc b n f)) Qc mc ms free) (C : mC p s m args c cc nL own D kc b) (hM : mS D b s n f H locs) (hls : ls.size = nL) (hn : as.length = na) (hst : st = as.reverse ++ .ref (b + i) :: rest) (hW : (rest.map fun v => v.category).sum ≤ 8) (hdg : decode cc pc = .ok (.invokespecial index, 3)) (hR : d + 1 ≤ R.frames ∧ 8 + (maxL + 11) + 64 * d ≤ R.locals) (hcs : cells + mc ≤ R.cells ∧ slots + ms ≤ R.slots) :
    va_Run p l e R s m args below meth c H locs cells slots mc ms (F0 m pc ls st) rest (Qc (Value.ref (b + i) :: as).toArray) free := by
  obtain ⟨k1, k2, k4, k6, k5⟩ := K
  have hpre := m_preU (as := .ref (b + i) :: as) C hM
  obtain ⟨hx, hb, hml, hown, hts, hE, hbs⟩ := C
  exact va_runI (Ts := GW) (own := own) (bytes := bytes) (maxL := maxL) (n := na) ⟨hx, hb, hml, hown, hts⟩ hMet ⟨callB_of na hts (gw_good0 k1) rfl rfl rfl (hts _ k4) (hts _ hl) k5 hR, k6, hts _ k2⟩ ⟨m_blind, hpre⟩ rfl hn hls hst (lv_room hW) hdg hcs
theorem m_runIN (K : mCalI y bytes maxL na) (hl : Cond.methodLinkNest own index y host ∈ NW) (hMet : Met l y (.code y bytes maxL none :: GW) (mR d mc ms) (va_Pc (.ref (b + i) :: as) (mPre D kc b n f)) Qc mc ms free) (C : mC p s m args c cc nL own D kc b) (hM : mS D b s n f H locs) (hls : ls.size = nL) (hn : as.length = na) (hst : st = as.reverse ++ .ref (b + i) :: rest) (hW : (rest.map fun v => v.category).sum ≤ 8) (hdg : decode cc pc = .ok (.invokespecial index, 3)) (hR : d + 1 ≤ R.frames ∧ 8 + (maxL + 11) + 64 * d ≤ R.locals) (hcs : cells + mc ≤ R.cells ∧ slots + ms ≤ R.slots) :
    va_Run p l e R s m args below meth c H locs cells slots mc ms (F0 m pc ls st) rest (Qc (Value.ref (b + i) :: as).toArray) free := by
  obtain ⟨k1, k2, k4, k6, k5⟩ := K
  have hpre := m_preU (as := .ref (b + i) :: as) C hM
  obtain ⟨hx, hb, hml, hown, hts, hE, hbs⟩ := C
  exact va_runIN (Ts := GW) (own := own) (bytes := bytes) (maxL := maxL) (n := na) ⟨hx, hb, hml, hown, hts⟩ hMet ⟨va_cnB na hts (gw_good0 k1) rfl rfl rfl (hE.2.1 _ hl) (hts _ k4) k5 hR, k6, hts _ k2⟩ ⟨m_blind, hpre⟩ rfl hn hls hst (lv_room hW) hdg hcs
variable {a : Array Value}
theorem m_goi {post : Int32 → Nat × (Nat → va_E) → Prop} (hr : va_Run p l e R s m args below meth c H locs cells slots mc ms (F0 m pc ls st) rest (va_Qi post (mB D b) (fun q => b ≤ q) a) (fun q => b ≤ q)) (hM : mS D b s n f H locs) (kk : ∀ (r : Int32) (n1 : Nat) (f1 : Nat → va_E) (H1 : Heap) (locs1 : List Loc), post r (n1, f1) → mS D b s n1 f1 H1 locs1 → W p l e R s m args below meth c H1 locs1 (cells + mc) (slots + ms) Q (F0 m (pc + 3) ls (.int r :: rest))) : W p l e R s m args below meth c H locs cells slots Q (F0 m pc ls st) :=
  va_calli hr hM.2 (fun _ _ h => h) (fun _ h => h) (fun r u t H1 locs1 ht hvm hp hB hz hk hS => kk r u.1 u.2 H1 locs1 hp ⟨by rw [← ht]; exact hB, hS⟩)
theorem m_gol {post : Int64 → Nat × (Nat → va_E) → Prop} (hr : va_Run p l e R s m args below meth c H locs cells slots mc ms (F0 m pc ls st) rest (va_Ql post (mB D b) (fun q => b ≤ q) a) (fun q => b ≤ q)) (hM : mS D b s n f H locs) (kk : ∀ (r : Int64) (n1 : Nat) (f1 : Nat → va_E) (H1 : Heap) (locs1 : List Loc), post r (n1, f1) → mS D b s n1 f1 H1 locs1 → W p l e R s m args below meth c H1 locs1 (cells + mc) (slots + ms) Q (F0 m (pc + 3) ls (.long r :: rest))) : W p l e R s m args below meth c H locs cells slots Q (F0 m pc ls st) :=
  va_calll hr hM.2 (fun _ _ h => h) (fun _ h => h) (fun r u t H1 locs1 ht hvm hp hB hz hk hS => kk r u.1 u.2 H1 locs1 hp ⟨by rw [← ht]; exact hB, hS⟩)
theorem m_goq {post : Option Nat → Nat × (Nat → va_E) → Prop} (hr : va_Run p l e R s m args below meth c H locs cells slots mc ms (F0 m pc ls st) rest (va_Qq post (mB D b) (fun q => b ≤ q) a) (fun q => b ≤ q)) (hM : mS D b s n f H locs) (kk : ∀ (r : Option Nat) (n1 : Nat) (f1 : Nat → va_E) (H1 : Heap) (locs1 : List Loc), post r (n1, f1) → mS D b s n1 f1 H1 locs1 → W p l e R s m args below meth c H1 locs1 (cells + mc) (slots + ms) Q (F0 m (pc + 3) ls (va_rf r :: rest))) : W p l e R s m args below meth c H locs cells slots Q (F0 m pc ls st) :=
  va_callq hr hM.2 (fun _ _ h => h) (fun _ h => h) (fun r u t H1 locs1 ht hvm hp hB hz hk hS => kk r u.1 u.2 H1 locs1 hp ⟨by rw [← ht]; exact hB, hS⟩)
theorem m_gov {post : Nat × (Nat → va_E) → Prop} (hr : va_Run p l e R s m args below meth c H locs cells slots mc ms (F0 m pc ls st) rest (va_Qv post (mB D b) (fun q => b ≤ q) a) (fun q => b ≤ q)) (hM : mS D b s n f H locs) (kk : ∀ (n1 : Nat) (f1 : Nat → va_E) (H1 : Heap) (locs1 : List Loc), post (n1, f1) → mS D b s n1 f1 H1 locs1 → W p l e R s m args below meth c H1 locs1 (cells + mc) (slots + ms) Q (F0 m (pc + 3) ls rest)) : W p l e R s m args below meth c H locs cells slots Q (F0 m pc ls st) :=
  va_callv hr hM.2 (fun _ _ h => h) (fun _ h => h) (fun u t H1 locs1 ht hvm hp hB hz hk hS => kk u.1 u.2 H1 locs1 hp ⟨by rw [← ht]; exact hB, hS⟩)
theorem m_iret {post : Int32 → Nat × (Nat → va_E) → Prop} (C : mC p s m args c cc nL own D kc b) (hr : meth.sig.returnType = some .int) (hlk : meth.locks = false) (hM : mS D b s n f H locs) {v : Int32} (hp : post v (n, f)) (hdg : decode cc pc = .ok (.ireturn, 1)) : W p l e R s m args below meth c H locs cells slots (MQ below (va_Qi post (mB D b) (fun q => b ≤ q)) args s cells slots (fun q => b ≤ q)) (F0 m pc ls [.int v]) :=
  W.iret C.1 C.2.1 hr (fun t ht hW => ⟨⟨v, (n, f), rfl, hp, by show mP D b n f t.heap; rw [ht]; exact hM.1⟩, hM.2.F ht⟩) hM.2.2.2 hdg hlk
theorem m_zret {post : Int32 → Nat × (Nat → va_E) → Prop} {ty : FieldType} (C : mC p s m args c cc nL own D kc b) (hr : meth.sig.returnType = some ty) (hlk : meth.locks = false) (hM : mS D b s n f H locs) {v : Int32} (hn : narrow ty (.int v) = .int v) (hp : post v (n, f)) (hdg : decode cc pc = .ok (.ireturn, 1)) : W p l e R s m args below meth c H locs cells slots (MQ below (va_Qi post (mB D b) (fun q => b ≤ q)) args s cells slots (fun q => b ≤ q)) (F0 m pc ls [.int v]) :=
  W.zret C.1 C.2.1 hr hn (fun t ht hW => ⟨⟨v, (n, f), rfl, hp, by show mP D b n f t.heap; rw [ht]; exact hM.1⟩, hM.2.F ht⟩) hM.2.2.2 hdg hlk
theorem m_lret {post : Int64 → Nat × (Nat → va_E) → Prop} (C : mC p s m args c cc nL own D kc b) (hr : meth.sig.returnType = some .long) (hlk : meth.locks = false) (hM : mS D b s n f H locs) {v : Int64} (hp : post v (n, f)) (hdg : decode cc pc = .ok (.lreturn, 1)) : W p l e R s m args below meth c H locs cells slots (MQ below (va_Ql post (mB D b) (fun q => b ≤ q)) args s cells slots (fun q => b ≤ q)) (F0 m pc ls [.long v]) :=
  W.lret C.1 C.2.1 hr (fun t ht hW => ⟨⟨v, (n, f), rfl, hp, by show mP D b n f t.heap; rw [ht]; exact hM.1⟩, hM.2.F ht⟩) hM.2.2.2 hdg hlk
theorem m_vret {post : Nat × (Nat → va_E) → Prop} (C : mC p s m args c cc nL own D kc b) (hr : meth.sig.returnType = none) (hlk : meth.locks = false) (hM : mS D b s n f H locs) (hp : post (n, f)) (hdg : decode cc pc = .ok (.return_, 1)) : W p l e R s m args below meth c H locs cells slots (MQ below (va_Qv post (mB D b) (fun q => b ≤ q)) args s cells slots (fun q => b ≤ q)) (F0 m pc ls []) :=
  W.vret C.1 C.2.1 hr (fun t ht hW => ⟨⟨(n, f), rfl, hp, by show mP D b n f t.heap; rw [ht]; exact hM.1⟩, hM.2.F ht⟩) hM.2.2.2 hdg hlk
theorem m_qret {post : Option Nat → Nat × (Nat → va_E) → Prop} {C0 : String} (C : mC p s m args c cc nL own D kc b) (hr : meth.sig.returnType = some (.object C0)) (hlk : meth.locks = false) (hM : mS D b s n f H locs) {v : Option Nat} (hp : post v (n, f)) (hdg : decode cc pc = .ok (.areturn, 1)) : W p l e R s m args below meth c H locs cells slots (MQ below (va_Qq post (mB D b) (fun q => b ≤ q)) args s cells slots (fun q => b ≤ q)) (F0 m pc ls [va_rf v]) :=
  W.aret C.1 C.2.1 hr (Or.inl ⟨_, rfl⟩) (by cases v with | none => exact Or.inl rfl | some a => exact Or.inr ⟨a, rfl⟩) (fun t ht hW => ⟨⟨v, (n, f), rfl, hp, by show mP D b n f t.heap; rw [ht]; exact hM.1⟩, hM.2.F ht⟩) hM.2.2.2 hdg hlk
end MC
end
