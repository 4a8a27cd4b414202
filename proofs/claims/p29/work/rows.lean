section
-- ===== PART A: goes FIRST, ahead of the names: the tables' words, and 'selects' of the private methods out of them =====
/-- a private method of a class that the tables say can be made, by its rows of tables_1 -/
def lw_okq (q : MethodName × Nat) : Prop := (q.1.cls ≠ "java/lang/invoke/MethodHandle" ∧ q.1.cls ≠ "java/lang/invoke/VarHandle") ∧ Cond.instantiable q.1.cls q.2 ∈ tables_1 ∧ Cond.privateMethod q.1 ∈ tables_1 ∧ Cond.instanceMethod q.1 ∈ tables_1
theorem lw_p0 : lw_okq (⟨"TithedThoughts$Reader", "begin", "(LTithedThoughts$Abbey;)V"⟩, 5) := ⟨⟨by decide +kernel, by decide +kernel⟩, List.mem_of_getElem? (i := 380) (by decide +kernel), List.mem_of_getElem? (i := 453) (by decide +kernel), List.mem_of_getElem? (i := 454) (by decide +kernel)⟩
theorem lw_p1 : lw_okq (⟨"TithedThoughts$Tokens", "readLetters", "()V"⟩, 8) := ⟨⟨by decide +kernel, by decide +kernel⟩, List.mem_of_getElem? (i := 32) (by decide +kernel), List.mem_of_getElem? (i := 465) (by decide +kernel), List.mem_of_getElem? (i := 466) (by decide +kernel)⟩
theorem lw_p2 : lw_okq (⟨"TithedThoughts$Tokens", "readDigits", "()V"⟩, 8) := ⟨⟨by decide +kernel, by decide +kernel⟩, List.mem_of_getElem? (i := 32) (by decide +kernel), List.mem_of_getElem? (i := 477) (by decide +kernel), List.mem_of_getElem? (i := 478) (by decide +kernel)⟩
theorem lw_p3 : lw_okq (⟨"TithedThoughts$Reader", "goesOn", "()Z"⟩, 5) := ⟨⟨by decide +kernel, by decide +kernel⟩, List.mem_of_getElem? (i := 380) (by decide +kernel), List.mem_of_getElem? (i := 484) (by decide +kernel), List.mem_of_getElem? (i := 485) (by decide +kernel)⟩
theorem lw_p4 : lw_okq (⟨"TithedThoughts$Reader", "readThought", "()V"⟩, 5) := ⟨⟨by decide +kernel, by decide +kernel⟩, List.mem_of_getElem? (i := 380) (by decide +kernel), List.mem_of_getElem? (i := 490) (by decide +kernel), List.mem_of_getElem? (i := 491) (by decide +kernel)⟩
theorem lw_p5 : lw_okq (⟨"TithedThoughts$Reader", "fail", "(I)V"⟩, 5) := ⟨⟨by decide +kernel, by decide +kernel⟩, List.mem_of_getElem? (i := 380) (by decide +kernel), List.mem_of_getElem? (i := 494) (by decide +kernel), List.mem_of_getElem? (i := 495) (by decide +kernel)⟩
theorem lw_p6 : lw_okq (⟨"TithedThoughts$Reader", "newName", "()J"⟩, 5) := ⟨⟨by decide +kernel, by decide +kernel⟩, List.mem_of_getElem? (i := 380) (by decide +kernel), List.mem_of_getElem? (i := 499) (by decide +kernel), List.mem_of_getElem? (i := 500) (by decide +kernel)⟩
theorem lw_p7 : lw_okq (⟨"TithedThoughts$Reader", "passUnlessFault", "()V"⟩, 5) := ⟨⟨by decide +kernel, by decide +kernel⟩, List.mem_of_getElem? (i := 380) (by decide +kernel), List.mem_of_getElem? (i := 514) (by decide +kernel), List.mem_of_getElem? (i := 515) (by decide +kernel)⟩
theorem lw_p8 : lw_okq (⟨"TithedThoughts$Reader", "passWord", "(LTithedThoughts$Word;)V"⟩, 5) := ⟨⟨by decide +kernel, by decide +kernel⟩, List.mem_of_getElem? (i := 380) (by decide +kernel), List.mem_of_getElem? (i := 520) (by decide +kernel), List.mem_of_getElem? (i := 521) (by decide +kernel)⟩
theorem lw_p9 : lw_okq (⟨"TithedThoughts$Reader", "numberWithin", "(II)I"⟩, 5) := ⟨⟨by decide +kernel, by decide +kernel⟩, List.mem_of_getElem? (i := 380) (by decide +kernel), List.mem_of_getElem? (i := 524) (by decide +kernel), List.mem_of_getElem? (i := 525) (by decide +kernel)⟩
theorem lw_p10 : lw_okq (⟨"TithedThoughts$Reader", "passSign", "(I)V"⟩, 5) := ⟨⟨by decide +kernel, by decide +kernel⟩, List.mem_of_getElem? (i := 380) (by decide +kernel), List.mem_of_getElem? (i := 530) (by decide +kernel), List.mem_of_getElem? (i := 531) (by decide +kernel)⟩
theorem lw_p11 : lw_okq (⟨"TithedThoughts$Reader", "readFollows", "()V"⟩, 5) := ⟨⟨by decide +kernel, by decide +kernel⟩, List.mem_of_getElem? (i := 380) (by decide +kernel), List.mem_of_getElem? (i := 540) (by decide +kernel), List.mem_of_getElem? (i := 541) (by decide +kernel)⟩
theorem lw_p12 : lw_okq (⟨"TithedThoughts$Reader", "thoughtHere", "()I"⟩, 5) := ⟨⟨by decide +kernel, by decide +kernel⟩, List.mem_of_getElem? (i := 380) (by decide +kernel), List.mem_of_getElem? (i := 544) (by decide +kernel), List.mem_of_getElem? (i := 545) (by decide +kernel)⟩
theorem lw_p13 : lw_okq (⟨"TithedThoughts$Reader", "foundHere", "(I)I"⟩, 5) := ⟨⟨by decide +kernel, by decide +kernel⟩, List.mem_of_getElem? (i := 380) (by decide +kernel), List.mem_of_getElem? (i := 548) (by decide +kernel), List.mem_of_getElem? (i := 549) (by decide +kernel)⟩
theorem lw_p14 : lw_okq (⟨"TithedThoughts$Reader", "readTenant", "()V"⟩, 5) := ⟨⟨by decide +kernel, by decide +kernel⟩, List.mem_of_getElem? (i := 380) (by decide +kernel), List.mem_of_getElem? (i := 565) (by decide +kernel), List.mem_of_getElem? (i := 566) (by decide +kernel)⟩
theorem lw_p15 : lw_okq (⟨"TithedThoughts$Reader", "readSetting", "(LTithedThoughts$Word;)V"⟩, 5) := ⟨⟨by decide +kernel, by decide +kernel⟩, List.mem_of_getElem? (i := 380) (by decide +kernel), List.mem_of_getElem? (i := 591) (by decide +kernel), List.mem_of_getElem? (i := 592) (by decide +kernel)⟩
def lw_privs_1 : List (MethodName × Nat) := [(⟨"TithedThoughts$Reader", "begin", "(LTithedThoughts$Abbey;)V"⟩, 5), (⟨"TithedThoughts$Tokens", "readLetters", "()V"⟩, 8), (⟨"TithedThoughts$Tokens", "readDigits", "()V"⟩, 8), (⟨"TithedThoughts$Reader", "goesOn", "()Z"⟩, 5), (⟨"TithedThoughts$Reader", "readThought", "()V"⟩, 5), (⟨"TithedThoughts$Reader", "fail", "(I)V"⟩, 5), (⟨"TithedThoughts$Reader", "newName", "()J"⟩, 5), (⟨"TithedThoughts$Reader", "passUnlessFault", "()V"⟩, 5), (⟨"TithedThoughts$Reader", "passWord", "(LTithedThoughts$Word;)V"⟩, 5), (⟨"TithedThoughts$Reader", "numberWithin", "(II)I"⟩, 5), (⟨"TithedThoughts$Reader", "passSign", "(I)V"⟩, 5), (⟨"TithedThoughts$Reader", "readFollows", "()V"⟩, 5), (⟨"TithedThoughts$Reader", "thoughtHere", "()I"⟩, 5), (⟨"TithedThoughts$Reader", "foundHere", "(I)I"⟩, 5), (⟨"TithedThoughts$Reader", "readTenant", "()V"⟩, 5), (⟨"TithedThoughts$Reader", "readSetting", "(LTithedThoughts$Word;)V"⟩, 5)]
theorem lw_r1 : ∀ q ∈ lw_privs_1, lw_okq q := List.forall_mem_cons.mpr ⟨lw_p0, List.forall_mem_cons.mpr ⟨lw_p1, List.forall_mem_cons.mpr ⟨lw_p2, List.forall_mem_cons.mpr ⟨lw_p3, List.forall_mem_cons.mpr ⟨lw_p4, List.forall_mem_cons.mpr ⟨lw_p5, List.forall_mem_cons.mpr ⟨lw_p6, List.forall_mem_cons.mpr ⟨lw_p7, List.forall_mem_cons.mpr ⟨lw_p8, List.forall_mem_cons.mpr ⟨lw_p9, List.forall_mem_cons.mpr ⟨lw_p10, List.forall_mem_cons.mpr ⟨lw_p11, List.forall_mem_cons.mpr ⟨lw_p12, List.forall_mem_cons.mpr ⟨lw_p13, List.forall_mem_cons.mpr ⟨lw_p14, List.forall_mem_cons.mpr ⟨lw_p15, fun _ h => absurd h List.not_mem_nil⟩⟩⟩⟩⟩⟩⟩⟩⟩⟩⟩⟩⟩⟩⟩⟩
theorem lw_p16 : lw_okq (⟨"TithedThoughts$Reader", "passOnce", "(LTithedThoughts$Word;)V"⟩, 5) := ⟨⟨by decide +kernel, by decide +kernel⟩, List.mem_of_getElem? (i := 380) (by decide +kernel), List.mem_of_getElem? (i := 595) (by decide +kernel), List.mem_of_getElem? (i := 596) (by decide +kernel)⟩
theorem lw_p17 : lw_okq (⟨"TithedThoughts$Reader", "readLaw", "(LTithedThoughts$Word;)V"⟩, 5) := ⟨⟨by decide +kernel, by decide +kernel⟩, List.mem_of_getElem? (i := 380) (by decide +kernel), List.mem_of_getElem? (i := 603) (by decide +kernel), List.mem_of_getElem? (i := 604) (by decide +kernel)⟩
theorem lw_p18 : lw_okq (⟨"TithedThoughts$Reader", "readLevel", "(II)V"⟩, 5) := ⟨⟨by decide +kernel, by decide +kernel⟩, List.mem_of_getElem? (i := 380) (by decide +kernel), List.mem_of_getElem? (i := 607) (by decide +kernel), List.mem_of_getElem? (i := 608) (by decide +kernel)⟩
theorem lw_p19 : lw_okq (⟨"TithedThoughts$Reader", "readPart", "(I)V"⟩, 5) := ⟨⟨by decide +kernel, by decide +kernel⟩, List.mem_of_getElem? (i := 380) (by decide +kernel), List.mem_of_getElem? (i := 611) (by decide +kernel), List.mem_of_getElem? (i := 612) (by decide +kernel)⟩
theorem lw_p20 : lw_okq (⟨"TithedThoughts$Reader", "operationHere", "()I"⟩, 5) := ⟨⟨by decide +kernel, by decide +kernel⟩, List.mem_of_getElem? (i := 380) (by decide +kernel), List.mem_of_getElem? (i := 633) (by decide +kernel), List.mem_of_getElem? (i := 634) (by decide +kernel)⟩
theorem lw_p21 : lw_okq (⟨"TithedThoughts", "beginAnew", "()V"⟩, 11) := ⟨⟨by decide +kernel, by decide +kernel⟩, List.mem_of_getElem? (i := 24) (by decide +kernel), List.mem_of_getElem? (i := 648) (by decide +kernel), List.mem_of_getElem? (i := 649) (by decide +kernel)⟩
theorem lw_p22 : lw_okq (⟨"TithedThoughts$Reader", "readLine", "()V"⟩, 5) := ⟨⟨by decide +kernel, by decide +kernel⟩, List.mem_of_getElem? (i := 380) (by decide +kernel), List.mem_of_getElem? (i := 669) (by decide +kernel), List.mem_of_getElem? (i := 670) (by decide +kernel)⟩
theorem lw_p23 : lw_okq (⟨"TithedThoughts$Reader", "tenantHere", "()I"⟩, 5) := ⟨⟨by decide +kernel, by decide +kernel⟩, List.mem_of_getElem? (i := 380) (by decide +kernel), List.mem_of_getElem? (i := 683) (by decide +kernel), List.mem_of_getElem? (i := 684) (by decide +kernel)⟩
theorem lw_p24 : lw_okq (⟨"TithedThoughts", "isThought", "(I)Z"⟩, 11) := ⟨⟨by decide +kernel, by decide +kernel⟩, List.mem_of_getElem? (i := 24) (by decide +kernel), List.mem_of_getElem? (i := 698) (by decide +kernel), List.mem_of_getElem? (i := 699) (by decide +kernel)⟩
theorem lw_p25 : lw_okq (⟨"TithedThoughts", "isTenant", "(I)Z"⟩, 11) := ⟨⟨by decide +kernel, by decide +kernel⟩, List.mem_of_getElem? (i := 24) (by decide +kernel), List.mem_of_getElem? (i := 706) (by decide +kernel), List.mem_of_getElem? (i := 707) (by decide +kernel)⟩
theorem lw_p26 : lw_okq (⟨"TithedThoughts", "areBoth", "(II)Z"⟩, 11) := ⟨⟨by decide +kernel, by decide +kernel⟩, List.mem_of_getElem? (i := 24) (by decide +kernel), List.mem_of_getElem? (i := 732) (by decide +kernel), List.mem_of_getElem? (i := 733) (by decide +kernel)⟩
theorem lw_p27 : lw_okq (⟨"TithedThoughts", "worthInBarn", "()I"⟩, 11) := ⟨⟨by decide +kernel, by decide +kernel⟩, List.mem_of_getElem? (i := 24) (by decide +kernel), List.mem_of_getElem? (i := 744) (by decide +kernel), List.mem_of_getElem? (i := 745) (by decide +kernel)⟩
theorem lw_p28 : lw_okq (⟨"TithedThoughts$Abbey", "valueOf", "(IIIIII)I"⟩, 19) := ⟨⟨by decide +kernel, by decide +kernel⟩, List.mem_of_getElem? (i := 275) (by decide +kernel), List.mem_of_getElem? (i := 781) (by decide +kernel), List.mem_of_getElem? (i := 782) (by decide +kernel)⟩
theorem lw_p29 : lw_okq (⟨"TithedThoughts$State", "pay", "(LTithedThoughts$Abbey;III)I"⟩, 9) := ⟨⟨by decide +kernel, by decide +kernel⟩, List.mem_of_getElem? (i := 79) (by decide +kernel), List.mem_of_getElem? (i := 799) (by decide +kernel), List.mem_of_getElem? (i := 800) (by decide +kernel)⟩
theorem lw_p30 : lw_okq (⟨"TithedThoughts$State", "placeOfLeast", "(LTithedThoughts$Abbey;I)I"⟩, 9) := ⟨⟨by decide +kernel, by decide +kernel⟩, List.mem_of_getElem? (i := 79) (by decide +kernel), List.mem_of_getElem? (i := 803) (by decide +kernel), List.mem_of_getElem? (i := 804) (by decide +kernel)⟩
theorem lw_p31 : lw_okq (⟨"TithedThoughts$State", "countedAt", "(II)I"⟩, 9) := ⟨⟨by decide +kernel, by decide +kernel⟩, List.mem_of_getElem? (i := 79) (by decide +kernel), List.mem_of_getElem? (i := 807) (by decide +kernel), List.mem_of_getElem? (i := 808) (by decide +kernel)⟩
def lw_privs_2 : List (MethodName × Nat) := [(⟨"TithedThoughts$Reader", "passOnce", "(LTithedThoughts$Word;)V"⟩, 5), (⟨"TithedThoughts$Reader", "readLaw", "(LTithedThoughts$Word;)V"⟩, 5), (⟨"TithedThoughts$Reader", "readLevel", "(II)V"⟩, 5), (⟨"TithedThoughts$Reader", "readPart", "(I)V"⟩, 5), (⟨"TithedThoughts$Reader", "operationHere", "()I"⟩, 5), (⟨"TithedThoughts", "beginAnew", "()V"⟩, 11), (⟨"TithedThoughts$Reader", "readLine", "()V"⟩, 5), (⟨"TithedThoughts$Reader", "tenantHere", "()I"⟩, 5), (⟨"TithedThoughts", "isThought", "(I)Z"⟩, 11), (⟨"TithedThoughts", "isTenant", "(I)Z"⟩, 11), (⟨"TithedThoughts", "areBoth", "(II)Z"⟩, 11), (⟨"TithedThoughts", "worthInBarn", "()I"⟩, 11), (⟨"TithedThoughts$Abbey", "valueOf", "(IIIIII)I"⟩, 19), (⟨"TithedThoughts$State", "pay", "(LTithedThoughts$Abbey;III)I"⟩, 9), (⟨"TithedThoughts$State", "placeOfLeast", "(LTithedThoughts$Abbey;I)I"⟩, 9), (⟨"TithedThoughts$State", "countedAt", "(II)I"⟩, 9)]
theorem lw_r2 : ∀ q ∈ lw_privs_2, lw_okq q := List.forall_mem_cons.mpr ⟨lw_p16, List.forall_mem_cons.mpr ⟨lw_p17, List.forall_mem_cons.mpr ⟨lw_p18, List.forall_mem_cons.mpr ⟨lw_p19, List.forall_mem_cons.mpr ⟨lw_p20, List.forall_mem_cons.mpr ⟨lw_p21, List.forall_mem_cons.mpr ⟨lw_p22, List.forall_mem_cons.mpr ⟨lw_p23, List.forall_mem_cons.mpr ⟨lw_p24, List.forall_mem_cons.mpr ⟨lw_p25, List.forall_mem_cons.mpr ⟨lw_p26, List.forall_mem_cons.mpr ⟨lw_p27, List.forall_mem_cons.mpr ⟨lw_p28, List.forall_mem_cons.mpr ⟨lw_p29, List.forall_mem_cons.mpr ⟨lw_p30, List.forall_mem_cons.mpr ⟨lw_p31, fun _ h => absurd h List.not_mem_nil⟩⟩⟩⟩⟩⟩⟩⟩⟩⟩⟩⟩⟩⟩⟩⟩
theorem lw_p32 : lw_okq (⟨"TithedThoughts$State", "keep", "(III)V"⟩, 9) := ⟨⟨by decide +kernel, by decide +kernel⟩, List.mem_of_getElem? (i := 79) (by decide +kernel), List.mem_of_getElem? (i := 812) (by decide +kernel), List.mem_of_getElem? (i := 813) (by decide +kernel)⟩
theorem lw_p33 : lw_okq (⟨"TithedThoughts$Course", "live", "(LTithedThoughts$Abbey;II)Z"⟩, 5) := ⟨⟨by decide +kernel, by decide +kernel⟩, List.mem_of_getElem? (i := 182) (by decide +kernel), List.mem_of_getElem? (i := 867) (by decide +kernel), List.mem_of_getElem? (i := 868) (by decide +kernel)⟩
theorem lw_p34 : lw_okq (⟨"TithedThoughts$Course", "tryThink", "(LTithedThoughts$Abbey;III)Z"⟩, 5) := ⟨⟨by decide +kernel, by decide +kernel⟩, List.mem_of_getElem? (i := 182) (by decide +kernel), List.mem_of_getElem? (i := 871) (by decide +kernel), List.mem_of_getElem? (i := 872) (by decide +kernel)⟩
theorem lw_p35 : lw_okq (⟨"TithedThoughts$Course", "tryGate", "(LTithedThoughts$Abbey;I)Z"⟩, 5) := ⟨⟨by decide +kernel, by decide +kernel⟩, List.mem_of_getElem? (i := 182) (by decide +kernel), List.mem_of_getElem? (i := 877) (by decide +kernel), List.mem_of_getElem? (i := 878) (by decide +kernel)⟩
theorem lw_p36 : lw_okq (⟨"TithedThoughts$Course", "tryPool", "(II)Z"⟩, 5) := ⟨⟨by decide +kernel, by decide +kernel⟩, List.mem_of_getElem? (i := 182) (by decide +kernel), List.mem_of_getElem? (i := 883) (by decide +kernel), List.mem_of_getElem? (i := 884) (by decide +kernel)⟩
theorem lw_p37 : lw_okq (⟨"TithedThoughts$Spread", "handOn", "(II)V"⟩, 2) := ⟨⟨by decide +kernel, by decide +kernel⟩, List.mem_of_getElem? (i := 210) (by decide +kernel), List.mem_of_getElem? (i := 919) (by decide +kernel), List.mem_of_getElem? (i := 920) (by decide +kernel)⟩
theorem lw_p38 : lw_okq (⟨"TithedThoughts", "keptParts", "(I)I"⟩, 11) := ⟨⟨by decide +kernel, by decide +kernel⟩, List.mem_of_getElem? (i := 24) (by decide +kernel), List.mem_of_getElem? (i := 947) (by decide +kernel), List.mem_of_getElem? (i := 948) (by decide +kernel)⟩
theorem lw_p39 : lw_okq (⟨"TithedThoughts", "partBit", "(I)I"⟩, 11) := ⟨⟨by decide +kernel, by decide +kernel⟩, List.mem_of_getElem? (i := 24) (by decide +kernel), List.mem_of_getElem? (i := 951) (by decide +kernel), List.mem_of_getElem? (i := 952) (by decide +kernel)⟩
theorem lw_p40 : lw_okq (⟨"TithedThoughts", "partsOfAll", "(I)I"⟩, 11) := ⟨⟨by decide +kernel, by decide +kernel⟩, List.mem_of_getElem? (i := 24) (by decide +kernel), List.mem_of_getElem? (i := 968) (by decide +kernel), List.mem_of_getElem? (i := 969) (by decide +kernel)⟩
theorem lw_p41 : lw_okq (⟨"TithedThoughts$Pairs", "pairFrom", "(III)V"⟩, 5) := ⟨⟨by decide +kernel, by decide +kernel⟩, List.mem_of_getElem? (i := 251) (by decide +kernel), List.mem_of_getElem? (i := 993) (by decide +kernel), List.mem_of_getElem? (i := 994) (by decide +kernel)⟩
theorem lw_p42 : lw_okq (⟨"java/lang/Throwable", "fillInStackTrace", "(I)Ljava/lang/Throwable;"⟩, 6) := ⟨⟨by decide +kernel, by decide +kernel⟩, List.mem_of_getElem? (i := 1066) (by decide +kernel), List.mem_of_getElem? (i := 1064) (by decide +kernel), List.mem_of_getElem? (i := 1065) (by decide +kernel)⟩
theorem lw_p43 : lw_okq (⟨"TithedThoughts$BestRow", "foresee", "(LTithedThoughts$Abbey;LTithedThoughts$State;I)V"⟩, 6) := ⟨⟨by decide +kernel, by decide +kernel⟩, List.mem_of_getElem? (i := 224) (by decide +kernel), List.mem_of_getElem? (i := 1109) (by decide +kernel), List.mem_of_getElem? (i := 1110) (by decide +kernel)⟩
theorem lw_p44 : lw_okq (⟨"TithedThoughts$BestRow", "mostFrom", "(LTithedThoughts$Abbey;III)I"⟩, 6) := ⟨⟨by decide +kernel, by decide +kernel⟩, List.mem_of_getElem? (i := 224) (by decide +kernel), List.mem_of_getElem? (i := 1120) (by decide +kernel), List.mem_of_getElem? (i := 1121) (by decide +kernel)⟩
theorem lw_p45 : lw_okq (⟨"TithedThoughts$BestRow", "mostWith", "(LTithedThoughts$Abbey;III)I"⟩, 6) := ⟨⟨by decide +kernel, by decide +kernel⟩, List.mem_of_getElem? (i := 224) (by decide +kernel), List.mem_of_getElem? (i := 1125) (by decide +kernel), List.mem_of_getElem? (i := 1126) (by decide +kernel)⟩
theorem lw_p46 : lw_okq (⟨"TithedThoughts$BestRow", "gainAt", "(LTithedThoughts$Abbey;III)I"⟩, 6) := ⟨⟨by decide +kernel, by decide +kernel⟩, List.mem_of_getElem? (i := 224) (by decide +kernel), List.mem_of_getElem? (i := 1129) (by decide +kernel), List.mem_of_getElem? (i := 1130) (by decide +kernel)⟩
theorem lw_p47 : lw_okq (⟨"TithedThoughts$BestRow", "runsAt", "(LTithedThoughts$Abbey;II)Z"⟩, 6) := ⟨⟨by decide +kernel, by decide +kernel⟩, List.mem_of_getElem? (i := 224) (by decide +kernel), List.mem_of_getElem? (i := 1133) (by decide +kernel), List.mem_of_getElem? (i := 1134) (by decide +kernel)⟩
def lw_privs_3 : List (MethodName × Nat) := [(⟨"TithedThoughts$State", "keep", "(III)V"⟩, 9), (⟨"TithedThoughts$Course", "live", "(LTithedThoughts$Abbey;II)Z"⟩, 5), (⟨"TithedThoughts$Course", "tryThink", "(LTithedThoughts$Abbey;III)Z"⟩, 5), (⟨"TithedThoughts$Course", "tryGate", "(LTithedThoughts$Abbey;I)Z"⟩, 5), (⟨"TithedThoughts$Course", "tryPool", "(II)Z"⟩, 5), (⟨"TithedThoughts$Spread", "handOn", "(II)V"⟩, 2), (⟨"TithedThoughts", "keptParts", "(I)I"⟩, 11), (⟨"TithedThoughts", "partBit", "(I)I"⟩, 11), (⟨"TithedThoughts", "partsOfAll", "(I)I"⟩, 11), (⟨"TithedThoughts$Pairs", "pairFrom", "(III)V"⟩, 5), (⟨"java/lang/Throwable", "fillInStackTrace", "(I)Ljava/lang/Throwable;"⟩, 6), (⟨"TithedThoughts$BestRow", "foresee", "(LTithedThoughts$Abbey;LTithedThoughts$State;I)V"⟩, 6), (⟨"TithedThoughts$BestRow", "mostFrom", "(LTithedThoughts$Abbey;III)I"⟩, 6), (⟨"TithedThoughts$BestRow", "mostWith", "(LTithedThoughts$Abbey;III)I"⟩, 6), (⟨"TithedThoughts$BestRow", "gainAt", "(LTithedThoughts$Abbey;III)I"⟩, 6), (⟨"TithedThoughts$BestRow", "runsAt", "(LTithedThoughts$Abbey;II)Z"⟩, 6)]
theorem lw_r3 : ∀ q ∈ lw_privs_3, lw_okq q := List.forall_mem_cons.mpr ⟨lw_p32, List.forall_mem_cons.mpr ⟨lw_p33, List.forall_mem_cons.mpr ⟨lw_p34, List.forall_mem_cons.mpr ⟨lw_p35, List.forall_mem_cons.mpr ⟨lw_p36, List.forall_mem_cons.mpr ⟨lw_p37, List.forall_mem_cons.mpr ⟨lw_p38, List.forall_mem_cons.mpr ⟨lw_p39, List.forall_mem_cons.mpr ⟨lw_p40, List.forall_mem_cons.mpr ⟨lw_p41, List.forall_mem_cons.mpr ⟨lw_p42, List.forall_mem_cons.mpr ⟨lw_p43, List.forall_mem_cons.mpr ⟨lw_p44, List.forall_mem_cons.mpr ⟨lw_p45, List.forall_mem_cons.mpr ⟨lw_p46, List.forall_mem_cons.mpr ⟨lw_p47, fun _ h => absurd h List.not_mem_nil⟩⟩⟩⟩⟩⟩⟩⟩⟩⟩⟩⟩⟩⟩⟩⟩
theorem lw_p48 : lw_okq (⟨"TithedThoughts$BestRow", "leastBehind", "(LTithedThoughts$Abbey;III)I"⟩, 6) := ⟨⟨by decide +kernel, by decide +kernel⟩, List.mem_of_getElem? (i := 224) (by decide +kernel), List.mem_of_getElem? (i := 1137) (by decide +kernel), List.mem_of_getElem? (i := 1138) (by decide +kernel)⟩
theorem lw_p49 : lw_okq (⟨"TithedThoughts$BestRow", "choose", "(LTithedThoughts$Abbey;II)V"⟩, 6) := ⟨⟨by decide +kernel, by decide +kernel⟩, List.mem_of_getElem? (i := 224) (by decide +kernel), List.mem_of_getElem? (i := 1142) (by decide +kernel), List.mem_of_getElem? (i := 1143) (by decide +kernel)⟩
theorem lw_p50 : lw_okq (⟨"TithedThoughts$Course", "drawBelow", "(I)I"⟩, 5) := ⟨⟨by decide +kernel, by decide +kernel⟩, List.mem_of_getElem? (i := 182) (by decide +kernel), List.mem_of_getElem? (i := 1175) (by decide +kernel), List.mem_of_getElem? (i := 1176) (by decide +kernel)⟩
theorem lw_p51 : lw_okq (⟨"TithedThoughtsModel", "usual", "(I)V"⟩, 64) := ⟨⟨by decide +kernel, by decide +kernel⟩, List.mem_of_getElem? (i := 1183) (by decide +kernel), List.mem_of_getElem? (i := 1189) (by decide +kernel), List.mem_of_getElem? (i := 1190) (by decide +kernel)⟩
theorem lw_p52 : lw_okq (⟨"TithedThoughtsModel", "readsAll", "()Z"⟩, 64) := ⟨⟨by decide +kernel, by decide +kernel⟩, List.mem_of_getElem? (i := 1183) (by decide +kernel), List.mem_of_getElem? (i := 1399) (by decide +kernel), List.mem_of_getElem? (i := 1400) (by decide +kernel)⟩
theorem lw_p53 : lw_okq (⟨"TithedThoughtsModel", "begins", "()V"⟩, 64) := ⟨⟨by decide +kernel, by decide +kernel⟩, List.mem_of_getElem? (i := 1183) (by decide +kernel), List.mem_of_getElem? (i := 1403) (by decide +kernel), List.mem_of_getElem? (i := 1404) (by decide +kernel)⟩
theorem lw_p54 : lw_okq (⟨"TithedThoughtsModel", "nextToken", "()V"⟩, 64) := ⟨⟨by decide +kernel, by decide +kernel⟩, List.mem_of_getElem? (i := 1183) (by decide +kernel), List.mem_of_getElem? (i := 1407) (by decide +kernel), List.mem_of_getElem? (i := 1408) (by decide +kernel)⟩
theorem lw_p55 : lw_okq (⟨"TithedThoughtsModel", "signAt", "(I)I"⟩, 64) := ⟨⟨by decide +kernel, by decide +kernel⟩, List.mem_of_getElem? (i := 1183) (by decide +kernel), List.mem_of_getElem? (i := 1411) (by decide +kernel), List.mem_of_getElem? (i := 1412) (by decide +kernel)⟩
theorem lw_p56 : lw_okq (⟨"TithedThoughtsModel", "isWord", "(J)Z"⟩, 64) := ⟨⟨by decide +kernel, by decide +kernel⟩, List.mem_of_getElem? (i := 1183) (by decide +kernel), List.mem_of_getElem? (i := 1418) (by decide +kernel), List.mem_of_getElem? (i := 1419) (by decide +kernel)⟩
theorem lw_p57 : lw_okq (⟨"TithedThoughtsModel", "readsThought", "()Z"⟩, 64) := ⟨⟨by decide +kernel, by decide +kernel⟩, List.mem_of_getElem? (i := 1183) (by decide +kernel), List.mem_of_getElem? (i := 1422) (by decide +kernel), List.mem_of_getElem? (i := 1423) (by decide +kernel)⟩
theorem lw_p58 : lw_okq (⟨"TithedThoughtsModel", "fails", "(I)Z"⟩, 64) := ⟨⟨by decide +kernel, by decide +kernel⟩, List.mem_of_getElem? (i := 1183) (by decide +kernel), List.mem_of_getElem? (i := 1426) (by decide +kernel), List.mem_of_getElem? (i := 1427) (by decide +kernel)⟩
theorem lw_p59 : lw_okq (⟨"TithedThoughtsModel", "needsNew", "()Z"⟩, 64) := ⟨⟨by decide +kernel, by decide +kernel⟩, List.mem_of_getElem? (i := 1183) (by decide +kernel), List.mem_of_getElem? (i := 1430) (by decide +kernel), List.mem_of_getElem? (i := 1431) (by decide +kernel)⟩
theorem lw_p60 : lw_okq (⟨"TithedThoughtsModel", "isKept", "()Z"⟩, 64) := ⟨⟨by decide +kernel, by decide +kernel⟩, List.mem_of_getElem? (i := 1183) (by decide +kernel), List.mem_of_getElem? (i := 1434) (by decide +kernel), List.mem_of_getElem? (i := 1435) (by decide +kernel)⟩
theorem lw_p61 : lw_okq (⟨"TithedThoughtsModel", "thoughtNamed", "(I)I"⟩, 64) := ⟨⟨by decide +kernel, by decide +kernel⟩, List.mem_of_getElem? (i := 1183) (by decide +kernel), List.mem_of_getElem? (i := 1457) (by decide +kernel), List.mem_of_getElem? (i := 1458) (by decide +kernel)⟩
theorem lw_p62 : lw_okq (⟨"TithedThoughtsModel", "tenantNamed", "(I)I"⟩, 64) := ⟨⟨by decide +kernel, by decide +kernel⟩, List.mem_of_getElem? (i := 1183) (by decide +kernel), List.mem_of_getElem? (i := 1461) (by decide +kernel), List.mem_of_getElem? (i := 1462) (by decide +kernel)⟩
theorem lw_p63 : lw_okq (⟨"TithedThoughtsModel", "needsBoth", "(JII)Z"⟩, 64) := ⟨⟨by decide +kernel, by decide +kernel⟩, List.mem_of_getElem? (i := 1183) (by decide +kernel), List.mem_of_getElem? (i := 1465) (by decide +kernel), List.mem_of_getElem? (i := 1466) (by decide +kernel)⟩
def lw_privs_4 : List (MethodName × Nat) := [(⟨"TithedThoughts$BestRow", "leastBehind", "(LTithedThoughts$Abbey;III)I"⟩, 6), (⟨"TithedThoughts$BestRow", "choose", "(LTithedThoughts$Abbey;II)V"⟩, 6), (⟨"TithedThoughts$Course", "drawBelow", "(I)I"⟩, 5), (⟨"TithedThoughtsModel", "usual", "(I)V"⟩, 64), (⟨"TithedThoughtsModel", "readsAll", "()Z"⟩, 64), (⟨"TithedThoughtsModel", "begins", "()V"⟩, 64), (⟨"TithedThoughtsModel", "nextToken", "()V"⟩, 64), (⟨"TithedThoughtsModel", "signAt", "(I)I"⟩, 64), (⟨"TithedThoughtsModel", "isWord", "(J)Z"⟩, 64), (⟨"TithedThoughtsModel", "readsThought", "()Z"⟩, 64), (⟨"TithedThoughtsModel", "fails", "(I)Z"⟩, 64), (⟨"TithedThoughtsModel", "needsNew", "()Z"⟩, 64), (⟨"TithedThoughtsModel", "isKept", "()Z"⟩, 64), (⟨"TithedThoughtsModel", "thoughtNamed", "(I)I"⟩, 64), (⟨"TithedThoughtsModel", "tenantNamed", "(I)I"⟩, 64), (⟨"TithedThoughtsModel", "needsBoth", "(JII)Z"⟩, 64)]
theorem lw_r4 : ∀ q ∈ lw_privs_4, lw_okq q := List.forall_mem_cons.mpr ⟨lw_p48, List.forall_mem_cons.mpr ⟨lw_p49, List.forall_mem_cons.mpr ⟨lw_p50, List.forall_mem_cons.mpr ⟨lw_p51, List.forall_mem_cons.mpr ⟨lw_p52, List.forall_mem_cons.mpr ⟨lw_p53, List.forall_mem_cons.mpr ⟨lw_p54, List.forall_mem_cons.mpr ⟨lw_p55, List.forall_mem_cons.mpr ⟨lw_p56, List.forall_mem_cons.mpr ⟨lw_p57, List.forall_mem_cons.mpr ⟨lw_p58, List.forall_mem_cons.mpr ⟨lw_p59, List.forall_mem_cons.mpr ⟨lw_p60, List.forall_mem_cons.mpr ⟨lw_p61, List.forall_mem_cons.mpr ⟨lw_p62, List.forall_mem_cons.mpr ⟨lw_p63, fun _ h => absurd h List.not_mem_nil⟩⟩⟩⟩⟩⟩⟩⟩⟩⟩⟩⟩⟩⟩⟩⟩
theorem lw_p64 : lw_okq (⟨"TithedThoughtsModel", "needsNumber", "(II)Z"⟩, 64) := ⟨⟨by decide +kernel, by decide +kernel⟩, List.mem_of_getElem? (i := 1183) (by decide +kernel), List.mem_of_getElem? (i := 1469) (by decide +kernel), List.mem_of_getElem? (i := 1470) (by decide +kernel)⟩
theorem lw_p65 : lw_okq (⟨"TithedThoughtsModel", "closes", "()Z"⟩, 64) := ⟨⟨by decide +kernel, by decide +kernel⟩, List.mem_of_getElem? (i := 1183) (by decide +kernel), List.mem_of_getElem? (i := 1476) (by decide +kernel), List.mem_of_getElem? (i := 1477) (by decide +kernel)⟩
theorem lw_p66 : lw_okq (⟨"TithedThoughtsModel", "isSign", "(I)Z"⟩, 64) := ⟨⟨by decide +kernel, by decide +kernel⟩, List.mem_of_getElem? (i := 1183) (by decide +kernel), List.mem_of_getElem? (i := 1480) (by decide +kernel), List.mem_of_getElem? (i := 1481) (by decide +kernel)⟩
theorem lw_p67 : lw_okq (⟨"TithedThoughtsModel", "readsFollows", "()Z"⟩, 64) := ⟨⟨by decide +kernel, by decide +kernel⟩, List.mem_of_getElem? (i := 1183) (by decide +kernel), List.mem_of_getElem? (i := 1484) (by decide +kernel), List.mem_of_getElem? (i := 1485) (by decide +kernel)⟩
theorem lw_p68 : lw_okq (⟨"TithedThoughtsModel", "needsThought", "(I)Z"⟩, 64) := ⟨⟨by decide +kernel, by decide +kernel⟩, List.mem_of_getElem? (i := 1183) (by decide +kernel), List.mem_of_getElem? (i := 1488) (by decide +kernel), List.mem_of_getElem? (i := 1489) (by decide +kernel)⟩
theorem lw_p69 : lw_okq (⟨"TithedThoughtsModel", "readsTenant", "()Z"⟩, 64) := ⟨⟨by decide +kernel, by decide +kernel⟩, List.mem_of_getElem? (i := 1183) (by decide +kernel), List.mem_of_getElem? (i := 1492) (by decide +kernel), List.mem_of_getElem? (i := 1493) (by decide +kernel)⟩
theorem lw_p70 : lw_okq (⟨"TithedThoughtsModel", "readsOne", "(III)Z"⟩, 64) := ⟨⟨by decide +kernel, by decide +kernel⟩, List.mem_of_getElem? (i := 1183) (by decide +kernel), List.mem_of_getElem? (i := 1496) (by decide +kernel), List.mem_of_getElem? (i := 1497) (by decide +kernel)⟩
theorem lw_p71 : lw_okq (⟨"TithedThoughtsModel", "readsLaw", "(I)Z"⟩, 64) := ⟨⟨by decide +kernel, by decide +kernel⟩, List.mem_of_getElem? (i := 1183) (by decide +kernel), List.mem_of_getElem? (i := 1500) (by decide +kernel), List.mem_of_getElem? (i := 1501) (by decide +kernel)⟩
theorem lw_p72 : lw_okq (⟨"TithedThoughtsModel", "reads", "()Z"⟩, 64) := ⟨⟨by decide +kernel, by decide +kernel⟩, List.mem_of_getElem? (i := 1183) (by decide +kernel), List.mem_of_getElem? (i := 1504) (by decide +kernel), List.mem_of_getElem? (i := 1505) (by decide +kernel)⟩
theorem lw_p73 : lw_okq (⟨"TithedThoughtsModel", "fact", "()I"⟩, 64) := ⟨⟨by decide +kernel, by decide +kernel⟩, List.mem_of_getElem? (i := 1183) (by decide +kernel), List.mem_of_getElem? (i := 1508) (by decide +kernel), List.mem_of_getElem? (i := 1509) (by decide +kernel)⟩
theorem lw_p74 : lw_okq (⟨"TithedThoughtsModel", "puts", "(I)V"⟩, 64) := ⟨⟨by decide +kernel, by decide +kernel⟩, List.mem_of_getElem? (i := 1183) (by decide +kernel), List.mem_of_getElem? (i := 1516) (by decide +kernel), List.mem_of_getElem? (i := 1517) (by decide +kernel)⟩
theorem lw_p75 : lw_okq (⟨"TithedThoughtsModel", "lays", "()V"⟩, 64) := ⟨⟨by decide +kernel, by decide +kernel⟩, List.mem_of_getElem? (i := 1183) (by decide +kernel), List.mem_of_getElem? (i := 1520) (by decide +kernel), List.mem_of_getElem? (i := 1521) (by decide +kernel)⟩
theorem lw_p76 : lw_okq (⟨"TithedThoughtsModel", "fresh", "()V"⟩, 64) := ⟨⟨by decide +kernel, by decide +kernel⟩, List.mem_of_getElem? (i := 1183) (by decide +kernel), List.mem_of_getElem? (i := 1530) (by decide +kernel), List.mem_of_getElem? (i := 1531) (by decide +kernel)⟩
theorem lw_p77 : lw_okq (⟨"TithedThoughtsModel", "readsLine", "()Z"⟩, 64) := ⟨⟨by decide +kernel, by decide +kernel⟩, List.mem_of_getElem? (i := 1183) (by decide +kernel), List.mem_of_getElem? (i := 1538) (by decide +kernel), List.mem_of_getElem? (i := 1539) (by decide +kernel)⟩
theorem lw_p78 : lw_okq (⟨"TithedThoughtsModel", "laysLines", "(II)V"⟩, 64) := ⟨⟨by decide +kernel, by decide +kernel⟩, List.mem_of_getElem? (i := 1183) (by decide +kernel), List.mem_of_getElem? (i := 1542) (by decide +kernel), List.mem_of_getElem? (i := 1543) (by decide +kernel)⟩
theorem lw_p79 : lw_okq (⟨"TithedThoughtsModel", "isThought", "(I)Z"⟩, 64) := ⟨⟨by decide +kernel, by decide +kernel⟩, List.mem_of_getElem? (i := 1183) (by decide +kernel), List.mem_of_getElem? (i := 1550) (by decide +kernel), List.mem_of_getElem? (i := 1551) (by decide +kernel)⟩
def lw_privs_5 : List (MethodName × Nat) := [(⟨"TithedThoughtsModel", "needsNumber", "(II)Z"⟩, 64), (⟨"TithedThoughtsModel", "closes", "()Z"⟩, 64), (⟨"TithedThoughtsModel", "isSign", "(I)Z"⟩, 64), (⟨"TithedThoughtsModel", "readsFollows", "()Z"⟩, 64), (⟨"TithedThoughtsModel", "needsThought", "(I)Z"⟩, 64), (⟨"TithedThoughtsModel", "readsTenant", "()Z"⟩, 64), (⟨"TithedThoughtsModel", "readsOne", "(III)Z"⟩, 64), (⟨"TithedThoughtsModel", "readsLaw", "(I)Z"⟩, 64), (⟨"TithedThoughtsModel", "reads", "()Z"⟩, 64), (⟨"TithedThoughtsModel", "fact", "()I"⟩, 64), (⟨"TithedThoughtsModel", "puts", "(I)V"⟩, 64), (⟨"TithedThoughtsModel", "lays", "()V"⟩, 64), (⟨"TithedThoughtsModel", "fresh", "()V"⟩, 64), (⟨"TithedThoughtsModel", "readsLine", "()Z"⟩, 64), (⟨"TithedThoughtsModel", "laysLines", "(II)V"⟩, 64), (⟨"TithedThoughtsModel", "isThought", "(I)Z"⟩, 64)]
theorem lw_r5 : ∀ q ∈ lw_privs_5, lw_okq q := List.forall_mem_cons.mpr ⟨lw_p64, List.forall_mem_cons.mpr ⟨lw_p65, List.forall_mem_cons.mpr ⟨lw_p66, List.forall_mem_cons.mpr ⟨lw_p67, List.forall_mem_cons.mpr ⟨lw_p68, List.forall_mem_cons.mpr ⟨lw_p69, List.forall_mem_cons.mpr ⟨lw_p70, List.forall_mem_cons.mpr ⟨lw_p71, List.forall_mem_cons.mpr ⟨lw_p72, List.forall_mem_cons.mpr ⟨lw_p73, List.forall_mem_cons.mpr ⟨lw_p74, List.forall_mem_cons.mpr ⟨lw_p75, List.forall_mem_cons.mpr ⟨lw_p76, List.forall_mem_cons.mpr ⟨lw_p77, List.forall_mem_cons.mpr ⟨lw_p78, List.forall_mem_cons.mpr ⟨lw_p79, fun _ h => absurd h List.not_mem_nil⟩⟩⟩⟩⟩⟩⟩⟩⟩⟩⟩⟩⟩⟩⟩⟩
theorem lw_p80 : lw_okq (⟨"TithedThoughtsModel", "isTenant", "(I)Z"⟩, 64) := ⟨⟨by decide +kernel, by decide +kernel⟩, List.mem_of_getElem? (i := 1183) (by decide +kernel), List.mem_of_getElem? (i := 1558) (by decide +kernel), List.mem_of_getElem? (i := 1559) (by decide +kernel)⟩
theorem lw_p81 : lw_okq (⟨"TithedThoughtsModel", "of", "(II)I"⟩, 64) := ⟨⟨by decide +kernel, by decide +kernel⟩, List.mem_of_getElem? (i := 1183) (by decide +kernel), List.mem_of_getElem? (i := 1562) (by decide +kernel), List.mem_of_getElem? (i := 1563) (by decide +kernel)⟩
theorem lw_p82 : lw_okq (⟨"TithedThoughtsModel", "mayThink", "(I)I"⟩, 64) := ⟨⟨by decide +kernel, by decide +kernel⟩, List.mem_of_getElem? (i := 1183) (by decide +kernel), List.mem_of_getElem? (i := 1566) (by decide +kernel), List.mem_of_getElem? (i := 1567) (by decide +kernel)⟩
theorem lw_p83 : lw_okq (⟨"TithedThoughtsModel", "hasRun", "(I)Z"⟩, 64) := ⟨⟨by decide +kernel, by decide +kernel⟩, List.mem_of_getElem? (i := 1183) (by decide +kernel), List.mem_of_getElem? (i := 1570) (by decide +kernel), List.mem_of_getElem? (i := 1571) (by decide +kernel)⟩
theorem lw_p84 : lw_okq (⟨"TithedThoughtsModel", "behindHis", "(I)I"⟩, 64) := ⟨⟨by decide +kernel, by decide +kernel⟩, List.mem_of_getElem? (i := 1183) (by decide +kernel), List.mem_of_getElem? (i := 1574) (by decide +kernel), List.mem_of_getElem? (i := 1575) (by decide +kernel)⟩
theorem lw_p85 : lw_okq (⟨"TithedThoughtsModel", "all", "()I"⟩, 64) := ⟨⟨by decide +kernel, by decide +kernel⟩, List.mem_of_getElem? (i := 1183) (by decide +kernel), List.mem_of_getElem? (i := 1578) (by decide +kernel), List.mem_of_getElem? (i := 1579) (by decide +kernel)⟩
theorem lw_p86 : lw_okq (⟨"TithedThoughtsModel", "keepsRow", "()V"⟩, 64) := ⟨⟨by decide +kernel, by decide +kernel⟩, List.mem_of_getElem? (i := 1183) (by decide +kernel), List.mem_of_getElem? (i := 1590) (by decide +kernel), List.mem_of_getElem? (i := 1591) (by decide +kernel)⟩
theorem lw_p87 : lw_okq (⟨"TithedThoughtsModel", "thinks", "(II)I"⟩, 64) := ⟨⟨by decide +kernel, by decide +kernel⟩, List.mem_of_getElem? (i := 1183) (by decide +kernel), List.mem_of_getElem? (i := 1597) (by decide +kernel), List.mem_of_getElem? (i := 1598) (by decide +kernel)⟩
theorem lw_p88 : lw_okq (⟨"TithedThoughtsModel", "gainsBy", "(III)V"⟩, 64) := ⟨⟨by decide +kernel, by decide +kernel⟩, List.mem_of_getElem? (i := 1183) (by decide +kernel), List.mem_of_getElem? (i := 1601) (by decide +kernel), List.mem_of_getElem? (i := 1602) (by decide +kernel)⟩
theorem lw_p89 : lw_okq (⟨"TithedThoughtsModel", "inBarn", "()I"⟩, 64) := ⟨⟨by decide +kernel, by decide +kernel⟩, List.mem_of_getElem? (i := 1183) (by decide +kernel), List.mem_of_getElem? (i := 1605) (by decide +kernel), List.mem_of_getElem? (i := 1606) (by decide +kernel)⟩
theorem lw_p90 : lw_okq (⟨"TithedThoughtsModel", "worked", "(I)I"⟩, 64) := ⟨⟨by decide +kernel, by decide +kernel⟩, List.mem_of_getElem? (i := 1183) (by decide +kernel), List.mem_of_getElem? (i := 1609) (by decide +kernel), List.mem_of_getElem? (i := 1610) (by decide +kernel)⟩
theorem lw_p91 : lw_okq (⟨"TithedThoughtsModel", "opens", "(I)V"⟩, 64) := ⟨⟨by decide +kernel, by decide +kernel⟩, List.mem_of_getElem? (i := 1183) (by decide +kernel), List.mem_of_getElem? (i := 1613) (by decide +kernel), List.mem_of_getElem? (i := 1614) (by decide +kernel)⟩
theorem lw_p92 : lw_okq (⟨"TithedThoughtsModel", "sums", "(I)V"⟩, 64) := ⟨⟨by decide +kernel, by decide +kernel⟩, List.mem_of_getElem? (i := 1183) (by decide +kernel), List.mem_of_getElem? (i := 1617) (by decide +kernel), List.mem_of_getElem? (i := 1618) (by decide +kernel)⟩
theorem lw_p93 : lw_okq (⟨"TithedThoughtsModel", "tests", "(I)V"⟩, 64) := ⟨⟨by decide +kernel, by decide +kernel⟩, List.mem_of_getElem? (i := 1183) (by decide +kernel), List.mem_of_getElem? (i := 1621) (by decide +kernel), List.mem_of_getElem? (i := 1622) (by decide +kernel)⟩
theorem lw_p94 : lw_okq (⟨"TithedThoughtsModel", "least", "(II)I"⟩, 64) := ⟨⟨by decide +kernel, by decide +kernel⟩, List.mem_of_getElem? (i := 1183) (by decide +kernel), List.mem_of_getElem? (i := 1628) (by decide +kernel), List.mem_of_getElem? (i := 1629) (by decide +kernel)⟩
theorem lw_p95 : lw_okq (⟨"TithedThoughtsModel", "turnsBack", "(I)I"⟩, 64) := ⟨⟨by decide +kernel, by decide +kernel⟩, List.mem_of_getElem? (i := 1183) (by decide +kernel), List.mem_of_getElem? (i := 1637) (by decide +kernel), List.mem_of_getElem? (i := 1638) (by decide +kernel)⟩
def lw_privs_6 : List (MethodName × Nat) := [(⟨"TithedThoughtsModel", "isTenant", "(I)Z"⟩, 64), (⟨"TithedThoughtsModel", "of", "(II)I"⟩, 64), (⟨"TithedThoughtsModel", "mayThink", "(I)I"⟩, 64), (⟨"TithedThoughtsModel", "hasRun", "(I)Z"⟩, 64), (⟨"TithedThoughtsModel", "behindHis", "(I)I"⟩, 64), (⟨"TithedThoughtsModel", "all", "()I"⟩, 64), (⟨"TithedThoughtsModel", "keepsRow", "()V"⟩, 64), (⟨"TithedThoughtsModel", "thinks", "(II)I"⟩, 64), (⟨"TithedThoughtsModel", "gainsBy", "(III)V"⟩, 64), (⟨"TithedThoughtsModel", "inBarn", "()I"⟩, 64), (⟨"TithedThoughtsModel", "worked", "(I)I"⟩, 64), (⟨"TithedThoughtsModel", "opens", "(I)V"⟩, 64), (⟨"TithedThoughtsModel", "sums", "(I)V"⟩, 64), (⟨"TithedThoughtsModel", "tests", "(I)V"⟩, 64), (⟨"TithedThoughtsModel", "least", "(II)I"⟩, 64), (⟨"TithedThoughtsModel", "turnsBack", "(I)I"⟩, 64)]
theorem lw_r6 : ∀ q ∈ lw_privs_6, lw_okq q := List.forall_mem_cons.mpr ⟨lw_p80, List.forall_mem_cons.mpr ⟨lw_p81, List.forall_mem_cons.mpr ⟨lw_p82, List.forall_mem_cons.mpr ⟨lw_p83, List.forall_mem_cons.mpr ⟨lw_p84, List.forall_mem_cons.mpr ⟨lw_p85, List.forall_mem_cons.mpr ⟨lw_p86, List.forall_mem_cons.mpr ⟨lw_p87, List.forall_mem_cons.mpr ⟨lw_p88, List.forall_mem_cons.mpr ⟨lw_p89, List.forall_mem_cons.mpr ⟨lw_p90, List.forall_mem_cons.mpr ⟨lw_p91, List.forall_mem_cons.mpr ⟨lw_p92, List.forall_mem_cons.mpr ⟨lw_p93, List.forall_mem_cons.mpr ⟨lw_p94, List.forall_mem_cons.mpr ⟨lw_p95, fun _ h => absurd h List.not_mem_nil⟩⟩⟩⟩⟩⟩⟩⟩⟩⟩⟩⟩⟩⟩⟩⟩
theorem lw_p96 : lw_okq (⟨"TithedThoughtsModel", "canPool", "(II)Z"⟩, 64) := ⟨⟨by decide +kernel, by decide +kernel⟩, List.mem_of_getElem? (i := 1183) (by decide +kernel), List.mem_of_getElem? (i := 1645) (by decide +kernel), List.mem_of_getElem? (i := 1646) (by decide +kernel)⟩
theorem lw_p97 : lw_okq (⟨"TithedThoughtsModel", "pools", "(II)V"⟩, 64) := ⟨⟨by decide +kernel, by decide +kernel⟩, List.mem_of_getElem? (i := 1183) (by decide +kernel), List.mem_of_getElem? (i := 1649) (by decide +kernel), List.mem_of_getElem? (i := 1650) (by decide +kernel)⟩
theorem lw_p98 : lw_okq (⟨"TithedThoughtsModel", "judges", "(I)V"⟩, 64) := ⟨⟨by decide +kernel, by decide +kernel⟩, List.mem_of_getElem? (i := 1183) (by decide +kernel), List.mem_of_getElem? (i := 1661) (by decide +kernel), List.mem_of_getElem? (i := 1662) (by decide +kernel)⟩
theorem lw_p99 : lw_okq (⟨"TithedThoughtsModel", "goes", "(I)Z"⟩, 64) := ⟨⟨by decide +kernel, by decide +kernel⟩, List.mem_of_getElem? (i := 1183) (by decide +kernel), List.mem_of_getElem? (i := 1665) (by decide +kernel), List.mem_of_getElem? (i := 1666) (by decide +kernel)⟩
theorem lw_p100 : lw_okq (⟨"TithedThoughtsModel", "gainedByAll", "()I"⟩, 64) := ⟨⟨by decide +kernel, by decide +kernel⟩, List.mem_of_getElem? (i := 1183) (by decide +kernel), List.mem_of_getElem? (i := 1669) (by decide +kernel), List.mem_of_getElem? (i := 1670) (by decide +kernel)⟩
theorem lw_p101 : lw_okq (⟨"TithedThoughtsModel", "tries", "(III)V"⟩, 64) := ⟨⟨by decide +kernel, by decide +kernel⟩, List.mem_of_getElem? (i := 1183) (by decide +kernel), List.mem_of_getElem? (i := 1681) (by decide +kernel), List.mem_of_getElem? (i := 1682) (by decide +kernel)⟩
theorem lw_p102 : lw_okq (⟨"TithedThoughtsModel", "allBehind", "(I)I"⟩, 64) := ⟨⟨by decide +kernel, by decide +kernel⟩, List.mem_of_getElem? (i := 1183) (by decide +kernel), List.mem_of_getElem? (i := 1689) (by decide +kernel), List.mem_of_getElem? (i := 1690) (by decide +kernel)⟩
theorem lw_p103 : lw_okq (⟨"TithedThoughtsModel", "sharesOut", "(II)V"⟩, 64) := ⟨⟨by decide +kernel, by decide +kernel⟩, List.mem_of_getElem? (i := 1183) (by decide +kernel), List.mem_of_getElem? (i := 1702) (by decide +kernel), List.mem_of_getElem? (i := 1703) (by decide +kernel)⟩
theorem lw_p104 : lw_okq (⟨"TithedThoughtsModel", "lacking", "()I"⟩, 64) := ⟨⟨by decide +kernel, by decide +kernel⟩, List.mem_of_getElem? (i := 1183) (by decide +kernel), List.mem_of_getElem? (i := 1713) (by decide +kernel), List.mem_of_getElem? (i := 1714) (by decide +kernel)⟩
theorem lw_p105 : lw_okq (⟨"TithedThoughtsModel", "whoRan", "()I"⟩, 64) := ⟨⟨by decide +kernel, by decide +kernel⟩, List.mem_of_getElem? (i := 1183) (by decide +kernel), List.mem_of_getElem? (i := 1721) (by decide +kernel), List.mem_of_getElem? (i := 1722) (by decide +kernel)⟩
theorem lw_p106 : lw_okq (⟨"TithedThoughtsModel", "partsOf", "(I)I"⟩, 64) := ⟨⟨by decide +kernel, by decide +kernel⟩, List.mem_of_getElem? (i := 1183) (by decide +kernel), List.mem_of_getElem? (i := 1725) (by decide +kernel), List.mem_of_getElem? (i := 1726) (by decide +kernel)⟩
theorem lw_p107 : lw_okq (⟨"TithedThoughtsModel", "dowryOf", "(I)I"⟩, 64) := ⟨⟨by decide +kernel, by decide +kernel⟩, List.mem_of_getElem? (i := 1183) (by decide +kernel), List.mem_of_getElem? (i := 1733) (by decide +kernel), List.mem_of_getElem? (i := 1734) (by decide +kernel)⟩
theorem lw_p108 : lw_okq (⟨"TithedThoughtsModel", "matches", "(III)V"⟩, 64) := ⟨⟨by decide +kernel, by decide +kernel⟩, List.mem_of_getElem? (i := 1183) (by decide +kernel), List.mem_of_getElem? (i := 1753) (by decide +kernel), List.mem_of_getElem? (i := 1754) (by decide +kernel)⟩
theorem lw_p109 : lw_okq (⟨"TithedThoughtsModel", "fitting", "()I"⟩, 64) := ⟨⟨by decide +kernel, by decide +kernel⟩, List.mem_of_getElem? (i := 1183) (by decide +kernel), List.mem_of_getElem? (i := 1765) (by decide +kernel), List.mem_of_getElem? (i := 1766) (by decide +kernel)⟩
theorem lw_p110 : lw_okq (⟨"TithedThoughtsModel", "livesStep", "()I"⟩, 64) := ⟨⟨by decide +kernel, by decide +kernel⟩, List.mem_of_getElem? (i := 1183) (by decide +kernel), List.mem_of_getElem? (i := 1792) (by decide +kernel), List.mem_of_getElem? (i := 1793) (by decide +kernel)⟩
theorem lw_p111 : lw_okq (⟨"TithedThoughtsModel", "draws", "(I)I"⟩, 64) := ⟨⟨by decide +kernel, by decide +kernel⟩, List.mem_of_getElem? (i := 1183) (by decide +kernel), List.mem_of_getElem? (i := 1796) (by decide +kernel), List.mem_of_getElem? (i := 1797) (by decide +kernel)⟩
def lw_privs_7 : List (MethodName × Nat) := [(⟨"TithedThoughtsModel", "canPool", "(II)Z"⟩, 64), (⟨"TithedThoughtsModel", "pools", "(II)V"⟩, 64), (⟨"TithedThoughtsModel", "judges", "(I)V"⟩, 64), (⟨"TithedThoughtsModel", "goes", "(I)Z"⟩, 64), (⟨"TithedThoughtsModel", "gainedByAll", "()I"⟩, 64), (⟨"TithedThoughtsModel", "tries", "(III)V"⟩, 64), (⟨"TithedThoughtsModel", "allBehind", "(I)I"⟩, 64), (⟨"TithedThoughtsModel", "sharesOut", "(II)V"⟩, 64), (⟨"TithedThoughtsModel", "lacking", "()I"⟩, 64), (⟨"TithedThoughtsModel", "whoRan", "()I"⟩, 64), (⟨"TithedThoughtsModel", "partsOf", "(I)I"⟩, 64), (⟨"TithedThoughtsModel", "dowryOf", "(I)I"⟩, 64), (⟨"TithedThoughtsModel", "matches", "(III)V"⟩, 64), (⟨"TithedThoughtsModel", "fitting", "()I"⟩, 64), (⟨"TithedThoughtsModel", "livesStep", "()I"⟩, 64), (⟨"TithedThoughtsModel", "draws", "(I)I"⟩, 64)]
theorem lw_r7 : ∀ q ∈ lw_privs_7, lw_okq q := List.forall_mem_cons.mpr ⟨lw_p96, List.forall_mem_cons.mpr ⟨lw_p97, List.forall_mem_cons.mpr ⟨lw_p98, List.forall_mem_cons.mpr ⟨lw_p99, List.forall_mem_cons.mpr ⟨lw_p100, List.forall_mem_cons.mpr ⟨lw_p101, List.forall_mem_cons.mpr ⟨lw_p102, List.forall_mem_cons.mpr ⟨lw_p103, List.forall_mem_cons.mpr ⟨lw_p104, List.forall_mem_cons.mpr ⟨lw_p105, List.forall_mem_cons.mpr ⟨lw_p106, List.forall_mem_cons.mpr ⟨lw_p107, List.forall_mem_cons.mpr ⟨lw_p108, List.forall_mem_cons.mpr ⟨lw_p109, List.forall_mem_cons.mpr ⟨lw_p110, List.forall_mem_cons.mpr ⟨lw_p111, fun _ h => absurd h List.not_mem_nil⟩⟩⟩⟩⟩⟩⟩⟩⟩⟩⟩⟩⟩⟩⟩⟩
theorem lw_p112 : lw_okq (⟨"TithedThoughtsModel", "laysGuesses", "(II)V"⟩, 64) := ⟨⟨by decide +kernel, by decide +kernel⟩, List.mem_of_getElem? (i := 1183) (by decide +kernel), List.mem_of_getElem? (i := 1808) (by decide +kernel), List.mem_of_getElem? (i := 1809) (by decide +kernel)⟩
theorem lw_p113 : lw_okq (⟨"TithedThoughtsModel", "worthInBarn", "()I"⟩, 64) := ⟨⟨by decide +kernel, by decide +kernel⟩, List.mem_of_getElem? (i := 1183) (by decide +kernel), List.mem_of_getElem? (i := 1816) (by decide +kernel), List.mem_of_getElem? (i := 1817) (by decide +kernel)⟩
def lw_privs_8 : List (MethodName × Nat) := [(⟨"TithedThoughtsModel", "laysGuesses", "(II)V"⟩, 64), (⟨"TithedThoughtsModel", "worthInBarn", "()I"⟩, 64)]
theorem lw_r8 : ∀ q ∈ lw_privs_8, lw_okq q := List.forall_mem_cons.mpr ⟨lw_p112, List.forall_mem_cons.mpr ⟨lw_p113, fun _ h => absurd h List.not_mem_nil⟩⟩
def lw_privs : List (MethodName × Nat) := lw_privs_1 ++ (lw_privs_2 ++ (lw_privs_3 ++ (lw_privs_4 ++ (lw_privs_5 ++ (lw_privs_6 ++ (lw_privs_7 ++ (lw_privs_8)))))))
def lw_tbl : List Cond := k2_sels lw_privs ++ tables_1
theorem lw_privs_ok : ∀ q ∈ lw_privs, lw_okq q := by
  show ∀ q ∈ lw_privs_1 ++ (lw_privs_2 ++ (lw_privs_3 ++ (lw_privs_4 ++ (lw_privs_5 ++ (lw_privs_6 ++ (lw_privs_7 ++ (lw_privs_8))))))), lw_okq q
  exact List.forall_mem_append.mpr ⟨lw_r1, List.forall_mem_append.mpr ⟨lw_r2, List.forall_mem_append.mpr ⟨lw_r3, List.forall_mem_append.mpr ⟨lw_r4, List.forall_mem_append.mpr ⟨lw_r5, List.forall_mem_append.mpr ⟨lw_r6, List.forall_mem_append.mpr ⟨lw_r7, lw_r8⟩⟩⟩⟩⟩⟩⟩
-- end
end
section
/-! ===== BEGIN words of one list among another's, by their places ===== -/
theorem goodIn_r {big : List Cond} (ws : List Cond) (ps : List Nat) (hp : ws = ps.filterMap (fun i => big[i]?)) (h : ws.all goodWord = true) : GoodIn big ws := by
  intro w hw
  have h1 := List.all_eq_true.mp h w hw
  rw [hp] at hw
  obtain ⟨i, -, hi⟩ := List.mem_filterMap.mp hw
  have hm : w ∈ big := by first | exact List.mem_of_getElem? hi | exact List.getElem?_mem hi
  exact ⟨hm, good_of_word h1⟩
theorem goodIn_app {big a b : List Cond} (ha : GoodIn big a) (hb : GoodIn big b) : GoodIn big (a ++ b) := fun w h => (List.mem_append.mp h).elim (ha w) (hb w)
theorem goodIn_ca {big a b : List Cond} {c : Cond} (ha : GoodIn big (c :: a)) (hb : GoodIn big b) : GoodIn big (c :: (a ++ b)) := fun w h => (List.mem_cons.mp h).elim (fun e => ha w (List.mem_cons.mpr (Or.inl e))) (fun h => (List.mem_append.mp h).elim (fun h => ha w (List.mem_cons.mpr (Or.inr h))) (hb w))
theorem goodIn_sub {big ws : List Cond} (hm : ∀ w ∈ ws, w ∈ big) (h : ws.all goodWord = true) : GoodIn big ws := fun w hw => ⟨hm w hw, good_of_word (List.all_eq_true.mp h w hw)⟩
/-! ===== END ===== -/

/-! ===== BEGIN exceptions that leave a method, and their catching by the caller (launches without stack traces) ===== -/
section VXA
/-! The laws vx_back, vx_callV, vx_callS, vx_callSW, vx_throw0, vx_throwS follow proofs of the library, with one case more: JvmDerived/Free/Laws.lean (Back.of_free), Shelf42/LK1.lean (callV, callS), Shelf/KitTraced.lean (throwNew0V, throwNewS). -/
/-- where a method has thrown q: the class by its name, the cell, what was written, the world -/
def vx_T (XC : String → State → State → Prop) (st : State) (q : Addr) (t : State) (mc ms : Nat) (free : Addr → Prop) : Prop :=
  ∃ (E : String) (ce : Cell) (L : List Loc), XC E st t ∧ t.heap[q]? = some ce ∧ ce.vm = .none ∧ st.vm.findClass E = some ce.cls ∧ st.WarmedH t.vm ∧ st.sameButNew ({ t with vm := st.vm } : State) L mc ms ∧ ∀ z ∈ L, free z.base
def vx_Q (Qc : Array Value → State → Outcome → State → Prop) (XC : String → State → State → Prop) (mc ms : Nat) (free : Addr → Prop) : Array Value → State → Outcome → State → Prop := fun a st o t =>
  (Qc a st o t ∧ ∃ L, FrameEnd st o t L mc ms ∧ ∀ q ∈ L, free q.base) ∨ ∃ q, o = .threw q ∧ vx_T XC st q t mc ms free
/-- a callee that returns or throws -/
def vx_Met (l : Launch) (y : MethodName) (ws : List Cond) (rm : Room) (Pc : Array Value → State → Prop) (Qc : Array Value → State → Outcome → State → Prop) (XC : String → State → State → Prop) (mc ms : Nat) (free : Addr → Prop) : Prop :=
  MetFree l y (headSpec ws rm) Pc (fun _ _ _ _ _ => True) (vx_Q Qc XC mc ms free)
def vx_Post (XC : String → State → State → Prop) (mc ms : Nat) (free : Addr → Prop) : Pt → Array Value → Addr → Pt → Prop := fun A a q B =>
  ∃ (g : JFrame) (mk : MethodId) (t : State) (L : List Loc) (E : String) (ce : Cell), B.U.heap = t.heap ∧ B.U.vm = t.vm ∧ XC E (A.U.calling g mk a) t ∧ t.heap[q]? = some ce ∧ ce.vm = .none ∧ A.U.vm.findClass E = some ce.cls ∧ B.locs = A.locs ++ L ∧ (∀ z ∈ L, free z.base) ∧ B.cells = A.cells + mc ∧ B.slots = A.slots + ms
def vx_Back (l : Launch) (R : Room) (p : Program) (e : Env) (below : List Frame) (s : State) (sargs : Array Value) (y : MethodName) (len W9 : Nat)
    (Pre : Pt → Array Value → Prop) (Post : Pt → Array Value → Option Value → Pt → Prop) (PostX : Pt → Array Value → Addr → Pt → Prop) : Prop :=
  ∀ (m : MethodId) (meth : Method) (c : Code) (A : Pt) (g : JFrame) (ig : Instr) (mk : MethodId) (a : Array Value),
    Stand p l e R s m sargs below meth c A.U A.locs A.cells A.slots → g.method = m → g.locals.size = c.maxLocals → decode c.code g.pc = .ok (ig, len) →
    2 * g.monitorRoom + (g.stack.map fun v => v.category).sum ≤ W9 → A.U.methodNamed? y = some mk → Pre A a →
    (∃ (v : Option Value) (B : Pt), Stand p l e R s m sargs below meth c B.U B.locs B.cells B.slots ∧ Post A a v B ∧
      Steps p.tables e below (doInvoke e (A.U.setTop g) [] mk a).1 (B.U.setTop { g with pc := g.pc + len, stack := v.toList ++ g.stack })) ∨
    (∃ (q : Addr) (B : Pt), Stand p l e R s m sargs below meth c B.U B.locs B.cells B.slots ∧ PostX A a q B ∧
      Steps p.tables e below (doInvoke e (A.U.setTop g) [] mk a).1 ((B.U.setTop g).pushFrame (.throwing q)))
section Payer
variable {l : Launch} {R : Room} {p : Program} {e : Env} {below : List Frame} {s : State} {sargs : Array Value} {y : MethodName} {len W9 : Nat}
theorem vx_back {ws : List Cond} {rm : Room} {Pc : Array Value → State → Prop} {Qc : Array Value → State → Outcome → State → Prop} {XC : String → State → State → Prop} {mc ms : Nat} {free : Addr → Prop} {bytes : ByteArray} {maxL : Nat} {ret : Option FieldType}
    (hM : vx_Met l y ws rm Pc Qc XC mc ms free) (hblind : FrameBlind Pc) (hrc : rm.cells = mc) (hrs : rm.slots = ms)
    (hframes : rm.frames + 1 ≤ R.frames) (hlocals : W9 + (maxL + 11) + rm.locals ≤ R.locals)
    (hws : ∀ w ∈ ws, ∀ a' U, s.WarmedH U.vm → w.before a' U = true) (hcode : Cond.code y bytes maxL ret ∈ ws) (hinit : ∀ a' U, s.WarmedH U.vm → (Cond.initialized y.cls).before a' U = true) :
    vx_Back l R p e below s sargs y len W9 (PreOf R mc ms Pc) (PostOf Qc mc ms free) (vx_Post XC mc ms free) := by
  intro m meth c A g ig mk a X hg hsize hdg hW hn hp
  have h1 : (headSpec ws rm).pre.before a A.U = true := atoms_intro fun w hw => hws w hw _ _ X.warmed
  have h2 : (Cond.code y bytes maxL ret).before a A.U = true := hws _ hcode _ _ X.warmed
  have h3 : (Cond.initialized y.cls).before a A.U = true := hinit _ _ X.warmed
  have h4 : A.cells + (headSpec ws rm).room.cells ≤ R.cells := by rw [show (headSpec ws rm).room.cells = mc from hrc]; exact hp.1
  have h5 : A.slots + (headSpec ws rm).room.slots ≤ R.slots := by rw [show (headSpec ws rm).room.slots = ms from hrs]; exact hp.2.1
  have hPc : Pc a (A.U.calling g mk a) := hblind _ _ _ _ hp.2.2
  obtain ⟨U, Ls, c0, s0⟩ := A
  dsimp only [Pt.U, Pt.locs, Pt.cells, Pt.slots] at h1 h2 h3 h4 h5 X hn hPc ⊢
  obtain ⟨methY, cY, hmY, hcY, -, hlY, -, -, -, -⟩ := Cond.code_spec hn h2
  obtain ⟨kY, hkY, -⟩ := className_of_methodNamed hn
  have hinitY : kY.init = .initialized := Cond.initialized_spec (findClass_of_methodNamed hn) hkY h3
  have h : At U g.method c below := by rw [hg]; exact X.here
  have hlocals9 : W9 + (maxL + 11) + (headSpec ws rm).room.locals ≤ R.locals := hlocals
  have happ : (headSpec ws rm).appliesLoose y e.platform (U.calling g mk a) = true :=
    Spec.appliesLoose_calling (g := g) h hdg hn hkY hinitY
      (X.room_calling (g := g) (R' := (headSpec ws rm).room) hsize hmY hcY hframes (by rw [hlY]; omega) h4 h5) h1
  obtain ⟨mid, hmid⟩ := h.above
  have hfr : (U.setTop g).frames = (.java g :: mid) ++ below := by rw [State.frames_setTop' g h.top, hmid]; rfl
  obtain ⟨o, s₂, hsteps, -, hend, hq⟩ := Steps.callFree hM p X.admits X.cas X.clock (acts := []) hfr happ hPc trivial
  have hq' : vx_Q Qc XC mc ms free a (U.calling g mk a) o s₂ := hq
  rw [State.frames_setTop' g h.top] at hend
  obtain ⟨g₀, hg0⟩ := Option.isSome_iff_exists.mp h.top
  obtain ⟨r, hr⟩ := State.topJava?_eq_some.mp hg0
  have hr' : (({ U with heap := s₂.heap, slotsUsed := s₂.slotsUsed } : State).setVm s₂.vm).frames = .java g₀ :: r := hr
  rcases hq' with ⟨hqc, L, hfe, hL⟩ | ⟨q, rfl, E, ce, L, hx, hce, hcv, hcl, hW₂, hsm, hL⟩
  · obtain ⟨⟨v, rfl⟩, hW₂, e2, q2, q3, q4, q5, q6⟩ := id hfe
    have e3 : s₂ = ({ (U.calling g mk a).setFrames s₂.frames with heap := s₂.heap, slotsUsed := s₂.slotsUsed } : State).setVm s₂.vm := by
      have : s₂ = ({ s₂ with vm := (U.calling g mk a).vm } : State).setVm s₂.vm := rfl
      rw [e2] at this
      exact this
    obtain ⟨c₂, i₂, len₂, hc₂, hd₂, hf₂⟩ := hend
    have hW' : U.WarmedH s₂.vm := hW₂
    have hcc : c₂ = c := by
      have h1 : s₂.code? g.method = U.code? g.method := by
        rw [State.code?_eq, State.code?_eq, hW'.alike.method?]
      exact Option.some.inj (hc₂.symm.trans (h1.trans h.code))
    subst hcc
    have hlen : len₂ = len := by rw [hdg] at hd₂; cases hd₂; rfl
    subst hlen
    have hs₂ : s₂ = (({ U with heap := s₂.heap, slotsUsed := s₂.slotsUsed } : State).setVm s₂.vm).setTop { g with pc := g.pc + len₂, stack := v.toList ++ g.stack } := by
      refine e3.trans ?_
      rw [hf₂, State.calling_eq h.top, State.setFrames_setFrames, State.setTop_of_frames _ hr', hr]
      rfl
    have hsame : U.sameButNew ({ U with heap := s₂.heap, slotsUsed := s₂.slotsUsed } : State) L mc ms := by
      refine ⟨?_, q2, q3, q4, q5, q6⟩
      obtain ⟨t, ht, -⟩ := State.frames_cons hr
      show ({ U with heap := s₂.heap, slotsUsed := s₂.slotsUsed } : State) = { U.setFrames U.frames with heap := s₂.heap, slotsUsed := s₂.slotsUsed }
      rw [State.setFrames_self ht]
    subst hg
    refine Or.inl ⟨v, ⟨(({ U with heap := s₂.heap, slotsUsed := s₂.slotsUsed } : State).setVm s₂.vm), Ls ++ L, c0 + mc, s0 + ms⟩,
      ⟨X.admits, X.cas, X.clock, X.frames, X.room, X.hears, X.method, X.code, (X.here.setHeapUsed s₂.heap s₂.slotsUsed).setVm hW'.alike, X.tail, State.WarmedH.trans X.warmed hW', X.limits, X.bytes, X.same.trans (hsame.setVm s.vm)⟩,
      ⟨g, mk, s₂, L, rfl, rfl, hqc, rfl, hL, rfl, rfl⟩, ?_⟩
    show Steps p.tables e below _ ((({ U with heap := s₂.heap, slotsUsed := s₂.slotsUsed } : State).setVm s₂.vm).setTop { g with pc := g.pc + len₂, stack := v.toList ++ g.stack })
    rw [← hs₂]
    exact hsteps
  · obtain ⟨e2, q2, q3, q4, q5, q6⟩ := id hsm
    have e3 : s₂ = ({ (U.calling g mk a).setFrames s₂.frames with heap := s₂.heap, slotsUsed := s₂.slotsUsed } : State).setVm s₂.vm := by
      have : s₂ = ({ s₂ with vm := (U.calling g mk a).vm } : State).setVm s₂.vm := rfl
      rw [e2] at this
      exact this
    have hf₂ : s₂.frames = .throwing q :: .java g :: U.frames.tail := hend
    have hW' : U.WarmedH s₂.vm := hW₂
    have hs₂ : s₂ = ((({ U with heap := s₂.heap, slotsUsed := s₂.slotsUsed } : State).setVm s₂.vm).setTop g).pushFrame (.throwing q) := by
      refine e3.trans ?_
      rw [hf₂, State.calling_eq h.top, State.setFrames_setFrames, State.pushFrame, State.frames_setTop _ hr', State.setTop_of_frames _ hr', State.setFrames_setFrames, hr]
      rfl
    have hsame : U.sameButNew ({ U with heap := s₂.heap, slotsUsed := s₂.slotsUsed } : State) L mc ms := by
      refine ⟨?_, q2, q3, q4, q5, q6⟩
      obtain ⟨t, ht, -⟩ := State.frames_cons hr
      show ({ U with heap := s₂.heap, slotsUsed := s₂.slotsUsed } : State) = { U.setFrames U.frames with heap := s₂.heap, slotsUsed := s₂.slotsUsed }
      rw [State.setFrames_self ht]
    subst hg
    refine Or.inr ⟨q, ⟨(({ U with heap := s₂.heap, slotsUsed := s₂.slotsUsed } : State).setVm s₂.vm), Ls ++ L, c0 + mc, s0 + ms⟩,
      ⟨X.admits, X.cas, X.clock, X.frames, X.room, X.hears, X.method, X.code, (X.here.setHeapUsed s₂.heap s₂.slotsUsed).setVm hW'.alike, X.tail, State.WarmedH.trans X.warmed hW', X.limits, X.bytes, X.same.trans (hsame.setVm s.vm)⟩,
      ⟨g, mk, s₂, L, E, ce, rfl, rfl, hx, hce, hcv, hcl, rfl, hL, rfl, rfl⟩, ?_⟩
    show Steps p.tables e below _ (((({ U with heap := s₂.heap, slotsUsed := s₂.slotsUsed } : State).setVm s₂.vm).setTop g).pushFrame (.throwing q))
    rw [← hs₂]
    exact hsteps
end Payer
section Calls
variable {p : Program} {l : Launch} {e : Env} {R : Room} {s : State} {m : MethodId} {args : Array Value} {below : List Frame} {meth : Method} {c : Code} {T : State} {locs : List Loc} {cells slots : Nat}
theorem vx_callV (X : Stand p l e R s m args below meth c T locs cells slots) (hexec : p.tables.exec = Jvm.exec) {own C : String} {index : Nat} {y : MethodName} {bytes : ByteArray} {maxL : Nat} {ret : Option FieldType}
    (hown : s.vm.findClass own = some m.cls) (hlink : (Cond.methodLink own index y).before args s = true) (hinst : (Cond.instanceMethod y).before args s = true) (hsel : (Cond.selects C y y).before args s = true)
    (hcode : (Cond.code y bytes maxL ret).before args s = true) (hy : y.cls ≠ "java/lang/invoke/MethodHandle" ∧ y.cls ≠ "java/lang/invoke/VarHandle")
    {W9 : Nat} {Pre : Pt → Array Value → Prop} {Post : Pt → Array Value → Option Value → Pt → Prop} {PostX : Pt → Array Value → Addr → Pt → Prop} (hK : vx_Back l R p e below s args y 3 W9 Pre Post PostX)
    {b : Addr} {cellB : Cell} (hcell : T.heap[b]? = some cellB) (hobj : cellB.vm.isStatics = false) (hcls : s.vm.findClass C = some cellB.cls)
    {g : JFrame} (hg : g.method = m) (hsize : g.locals.size = c.maxLocals) {argsL rest : List Value} (hlen : ∀ sig, parseMethodDescriptor y.desc = some sig → argsL.length = sig.parameters.length)
    (hstack : g.stack = argsL.reverse ++ .ref b :: rest) (hW : 2 * g.monitorRoom + (rest.map fun v => v.category).sum ≤ W9) (hdg : decode c.code g.pc = .ok (.invokevirtual index, 3))
    (hpre : ∀ vm₁, s.WarmedH vm₁ → Pre ⟨T.setVm vm₁, locs, cells, slots⟩ (Value.ref b :: argsL).toArray) :
    (∃ (v : Option Value) (vm₁ : Vm) (B : Pt), s.WarmedH vm₁ ∧ Stand p l e R s m args below meth c B.U B.locs B.cells B.slots ∧ Post ⟨T.setVm vm₁, locs, cells, slots⟩ (Value.ref b :: argsL).toArray v B ∧
      ∀ target, Steps p.tables e below (B.U.setTop { g with pc := g.pc + 3, stack := v.toList ++ rest }) target → Steps p.tables e below (T.setTop g) target) ∨
    (∃ (q : Addr) (vm₁ : Vm) (B : Pt), s.WarmedH vm₁ ∧ Stand p l e R s m args below meth c B.U B.locs B.cells B.slots ∧ PostX ⟨T.setVm vm₁, locs, cells, slots⟩ (Value.ref b :: argsL).toArray q B ∧
      Steps p.tables e below (T.setTop g) ((B.U.setTop { g with stack := rest }).pushFrame (.throwing q))) := by
  obtain ⟨mk, methM, hnamed, hmethM, hstM, habM⟩ := Cond.instanceMethod_spec hinst
  obtain ⟨methM', cM, hmethM', -, -, -, -, -, -, hsigM⟩ := Cond.code_spec hnamed hcode
  cases hmethM.symm.trans hmethM'
  obtain ⟨c2, r2, m2, q1, q2, q3, q4, kP, hkP, hkPi⟩ := Cond.selects_spec hsel
  cases hcls.symm.trans q1
  cases (State.methodFound?_of_named hnamed hy).symm.trans q2
  cases hnamed.symm.trans q3
  have hselP : selectMethod e.platform s.vm cellB.cls mk = .method mk := by rw [Launch.admits_selectMethod X.admits]; exact q4
  obtain ⟨vm₁, X₁, hstep₁⟩ := X.invokevirtual hexec hown hlink hnamed hmethM hstM hkP hkPi hy (a := b) (cell := cellB) hcell
    (fun z h => by rw [h] at hobj; cases hobj) hselP hmethM habM hkP hkPi (g := g) hg (argsL := argsL) (rest := rest) (hlen _ hsigM) hstack hdg
  rcases hK m meth c ⟨T.setVm vm₁, locs, cells, slots⟩ { g with stack := rest } (.invokevirtual index) mk (Value.ref b :: argsL).toArray X₁ hg hsize hdg hW (X₁.named hnamed) (hpre vm₁ X₁.warmed) with ⟨v, B, X', hpost, hsteps⟩ | ⟨q, B, X', hpost, hsteps⟩
  · exact Or.inl ⟨v, vm₁, B, X₁.warmed, X', hpost, fun target h => hstep₁ _ fun acts => by rw [doInvoke_state]; exact hsteps.trans h⟩
  · exact Or.inr ⟨q, vm₁, B, X₁.warmed, X', hpost, hstep₁ _ fun acts => by rw [doInvoke_state]; exact hsteps⟩
theorem vx_callS (X : Stand p l e R s m args below meth c T locs cells slots) (hexec : p.tables.exec = Jvm.exec) {own : String} {index : Nat} {y : MethodName} {bytes : ByteArray} {maxL : Nat} {ret : Option FieldType}
    (hown : s.vm.findClass own = some m.cls) (hlink : (Cond.methodLink own index y).before args s = true) (hstat : (Cond.static y).before args s = true) (hinit : (Cond.initialized y.cls).before args s = true)
    (hcode : (Cond.code y bytes maxL ret).before args s = true) (hy : y.cls ≠ "java/lang/invoke/MethodHandle" ∧ y.cls ≠ "java/lang/invoke/VarHandle")
    {W9 : Nat} {Pre : Pt → Array Value → Prop} {Post : Pt → Array Value → Option Value → Pt → Prop} {PostX : Pt → Array Value → Addr → Pt → Prop} (hK : vx_Back l R p e below s args y 3 W9 Pre Post PostX)
    {g : JFrame} (hg : g.method = m) (hsize : g.locals.size = c.maxLocals) {argsL rest : List Value} (hlen : ∀ sig, parseMethodDescriptor y.desc = some sig → argsL.length = sig.parameters.length)
    (hstack : g.stack = argsL.reverse ++ rest) (hW : 2 * g.monitorRoom + (rest.map fun v => v.category).sum ≤ W9) (hdg : decode c.code g.pc = .ok (.invokestatic index, 3))
    (hpre : ∀ vm₁, s.WarmedH vm₁ → Pre ⟨T.setVm vm₁, locs, cells, slots⟩ argsL.toArray) :
    (∃ (v : Option Value) (vm₁ : Vm) (B : Pt), s.WarmedH vm₁ ∧ Stand p l e R s m args below meth c B.U B.locs B.cells B.slots ∧ Post ⟨T.setVm vm₁, locs, cells, slots⟩ argsL.toArray v B ∧
      ∀ target, Steps p.tables e below (B.U.setTop { g with pc := g.pc + 3, stack := v.toList ++ rest }) target → Steps p.tables e below (T.setTop g) target) ∨
    (∃ (q : Addr) (vm₁ : Vm) (B : Pt), s.WarmedH vm₁ ∧ Stand p l e R s m args below meth c B.U B.locs B.cells B.slots ∧ PostX ⟨T.setVm vm₁, locs, cells, slots⟩ argsL.toArray q B ∧
      Steps p.tables e below (T.setTop g) ((B.U.setTop { g with stack := rest }).pushFrame (.throwing q))) := by
  obtain ⟨mk, hnamed⟩ := Cond.code_named hcode
  obtain ⟨methM, cM, hmethM, -, -, -, -, -, -, hsigM⟩ := Cond.code_spec hnamed hcode
  have hstatic : methM.isStatic = true := Cond.static_spec hnamed hmethM hstat
  obtain ⟨kP, hkP, -⟩ := className_of_methodNamed hnamed
  have hinitP : kP.init = .initialized := Cond.initialized_spec (findClass_of_methodNamed hnamed) hkP hinit
  obtain ⟨vm₁, X₁, hstep₁⟩ := X.invokestatic hexec hown hlink hnamed hmethM hstatic hkP hinitP hy (g := g) hg (argsL := argsL) (rest := rest) (hlen _ hsigM) hstack hdg
  rcases hK m meth c ⟨T.setVm vm₁, locs, cells, slots⟩ { g with stack := rest } (.invokestatic index) mk argsL.toArray X₁ hg hsize hdg hW (X₁.named hnamed) (hpre vm₁ X₁.warmed) with ⟨v, B, X', hpost, hsteps⟩ | ⟨q, B, X', hpost, hsteps⟩
  · exact Or.inl ⟨v, vm₁, B, X₁.warmed, X', hpost, fun target h => hstep₁ _ fun acts => by rw [doInvoke_state]; exact hsteps.trans h⟩
  · exact Or.inr ⟨q, vm₁, B, X₁.warmed, X', hpost, hstep₁ _ fun acts => by rw [doInvoke_state]; exact hsteps⟩
end Calls
theorem vx_cls {s : State} {T : State} {vm₁ : Vm} {E : String} {k : ClassId} (hW : s.WarmedH vm₁) (h : (T.setVm vm₁).vm.findClass E = some k) : s.vm.findClass E = some k := by
  have h1 : vm₁.findClass E = some k := h
  rw [hW.alike.findClass] at h1
  exact h1
/-- the method's frame g, with q thrown over it -/
def vx_W (p : Program) (l : Launch) (e : Env) (R : Room) (s : State) (m : MethodId) (args : Array Value) (below : List Frame) (meth : Method) (c : Code) (H : Heap) (locs : List Loc) (cells slots : Nat) (Q : State → Prop) (g : JFrame) (q : Addr) : Prop :=
  ∀ T : State, T.heap = H → Stand p l e R s m args below meth c T locs cells slots → ∃ t, Steps p.tables e below ((T.setTop g).pushFrame (.throwing q)) t ∧ Q t
def vx_Run (p : Program) (l : Launch) (e : Env) (R : Room) (s : State) (m : MethodId) (args : Array Value) (below : List Frame) (meth : Method) (c : Code) (H : Heap) (locs : List Loc) (cells slots mc ms : Nat) (g : JFrame) (rest : List Value) (Qa : State → Outcome → State → Prop) (XC : String → State → State → Prop) (free : Addr → Prop) : Prop :=
  ∀ T : State, T.heap = H → Stand p l e R s m args below meth c T locs cells slots →
    (∃ (v : Option Value) (st₀ t T' : State) (L : List Loc), st₀.heap = H ∧ Stand p l e R s m args below meth c T' (locs ++ L) (cells + mc) (slots + ms) ∧ (∀ q ∈ L, free q.base) ∧ T'.heap = t.heap ∧ T'.vm = t.vm ∧ Qa st₀ (.returned v) t ∧
      Goes p e below T g T' { g with pc := g.pc + 3, stack := v.toList ++ rest }) ∨
    (∃ (q : Addr) (st₀ t T' : State) (L : List Loc) (E : String) (ce : Cell), st₀.heap = H ∧ Stand p l e R s m args below meth c T' (locs ++ L) (cells + mc) (slots + ms) ∧ (∀ z ∈ L, free z.base) ∧ T'.heap = t.heap ∧ T'.vm = t.vm ∧ XC E st₀ t ∧ t.heap[q]? = some ce ∧ ce.vm = .none ∧ s.vm.findClass E = some ce.cls ∧
      Steps p.tables e below (T.setTop g) ((T'.setTop { g with stack := rest }).pushFrame (.throwing q)))
def vx_X {S : Type} (px : S → Prop) (B : String → S → State → Prop) (A : Nat → Prop) : String → State → State → Prop := fun E st t => ∃ u : S, px u ∧ B E u t ∧ va_F A st t
section Runs
variable {p : Program} {l : Launch} {e : Env} {R : Room} {s : State} {m : MethodId} {args : Array Value} {below : List Frame} {meth : Method} {c : Code} {H : Heap} {locs : List Loc} {cells slots : Nat}
variable {y : MethodName} {bytes cc : ByteArray} {maxL nL mc ms n index : Nat} {ret : Option FieldType} {ws : List Cond} {rm : Room} {Pc : Array Value → State → Prop} {Qc : Array Value → State → Outcome → State → Prop} {XC : String → State → State → Prop} {free : Addr → Prop} {Ts : List Cond} {own C : String} {b : Addr} {As rest : List Value} {g : JFrame}
theorem vx_callBack (cb : CallB R s args own index y bytes maxL ret ws rm mc ms n) (hM : vx_Met l y ws rm Pc Qc XC mc ms free) (hbl : FrameBlind Pc) : vx_Back l R p e below s args y 3 8 (PreOf R mc ms Pc) (PostOf Qc mc ms free) (vx_Post XC mc ms free) := by
  obtain ⟨hrc, hrs, hfr, hlo, hws, hcw, -, hini, -⟩ := cb
  exact vx_back (bytes := bytes) (maxL := maxL) (ret := ret) hM hbl hrc hrs hfr hlo hws hcw (fun a' U hW => word_at hW (Or.inl (by first | rfl | simp [Cond.onTables, Cond.keeps, Cond.steady])) hini)
theorem vx_runV (S : CallFix p m c cc nL s args Ts own) (hM : vx_Met l y ws rm Pc Qc XC mc ms free) (cw : CallW R s args own C index y bytes maxL ret ws rm mc ms n) (hp : PreV s H C b Pc As)
    (hg : g.method = m) (hn : As.length = n) (hsize : g.locals.size = nL) (hstack : g.stack = As.reverse ++ .ref b :: rest) (hW : 2 * g.monitorRoom + (rest.map fun v => v.category).sum ≤ 8) (hdg : decode cc g.pc = .ok (.invokevirtual index, 3)) (hf : cells + mc ≤ R.cells ∧ slots + ms ≤ R.slots) :
    vx_Run p l e R s m args below meth c H locs cells slots mc ms g rest (Qc (Value.ref b :: As).toArray) XC free := by
  have hK : vx_Back l R p e below s args y 3 8 (PreOf R mc ms Pc) (PostOf Qc mc ms free) (vx_Post XC mc ms free) := vx_callBack cw.1 hM hp.1
  obtain ⟨⟨-, -, -, -, -, -, hcode, -, hy, hlen, hl⟩, hin, hse⟩ := cw
  obtain ⟨hx, hb, hml, ho, -⟩ := S
  obtain ⟨-, ⟨cellB, hcB, hoB, hclB⟩, hPc⟩ := hp
  intro T hT X
  rcases vx_callV X hx (C := C) (bytes := bytes) (maxL := maxL) (ret := ret) ho hl hin hse hcode hy hK (by rw [hT]; exact hcB) hoB hclB hg (hsize.trans hml.symm) (argsL := As) (rest := rest) (fun sig h => hn.trans (hlen sig h)) hstack hW (by rw [hb]; exact hdg)
    (fun vm₁ hW₁ => ⟨hf.1, hf.2, hPc (T.setVm vm₁) hT hW₁⟩) with ⟨v, vm₁, ⟨U', l2, c2, s2⟩, hW₁, X', ⟨g', mk, t, L, e1, e2, hq, h1, hL, h2, h3⟩, st⟩ | ⟨q, vm₁, ⟨U', l2, c2, s2⟩, hW₁, X', ⟨g', mk, t, L, E, ce, e1, e2, hq, hce, hcv, hcl, h1, hL, h2, h3⟩, st⟩
  · dsimp only [Pt.U, Pt.locs, Pt.cells, Pt.slots] at X' e1 e2 h1 h2 h3 st
    subst h1; subst h2; subst h3
    exact Or.inl ⟨v, (T.setVm vm₁).calling g' mk (Value.ref b :: As).toArray, t, U', L, hT, X', hL, e1, e2, hq, st⟩
  · dsimp only [Pt.U, Pt.locs, Pt.cells, Pt.slots] at X' e1 e2 h1 h2 h3 st hcl
    subst h1; subst h2; subst h3
    exact Or.inr ⟨q, (T.setVm vm₁).calling g' mk (Value.ref b :: As).toArray, t, U', L, E, ce, hT, X', hL, e1, e2, hq, hce, hcv, vx_cls hW₁ hcl, st⟩
theorem vx_runS (S : CallFix p m c cc nL s args Ts own) (hM : vx_Met l y ws rm Pc Qc XC mc ms free) (cw : CallB R s args own index y bytes maxL ret ws rm mc ms n ∧ (Cond.static y).before args s = true) (hp : PreS s H Pc As)
    (hg : g.method = m) (hn : As.length = n) (hsize : g.locals.size = nL) (hstack : g.stack = As.reverse ++ rest) (hW : 2 * g.monitorRoom + (rest.map fun v => v.category).sum ≤ 8) (hdg : decode cc g.pc = .ok (.invokestatic index, 3)) (hf : cells + mc ≤ R.cells ∧ slots + ms ≤ R.slots) :
    vx_Run p l e R s m args below meth c H locs cells slots mc ms g rest (Qc As.toArray) XC free := by
  have hK : vx_Back l R p e below s args y 3 8 (PreOf R mc ms Pc) (PostOf Qc mc ms free) (vx_Post XC mc ms free) := vx_callBack cw.1 hM hp.1
  obtain ⟨⟨-, -, -, -, -, -, hcode, hini, hy, hlen, hl⟩, hstt⟩ := cw
  obtain ⟨hx, hb, hml, ho, -⟩ := S
  intro T hT X
  rcases vx_callS X hx (bytes := bytes) (maxL := maxL) (ret := ret) ho hl hstt hini hcode hy hK hg (hsize.trans hml.symm) (argsL := As) (rest := rest) (fun sig h => hn.trans (hlen sig h)) hstack hW (by rw [hb]; exact hdg)
    (fun vm₁ hW₁ => ⟨hf.1, hf.2, hp.2 (T.setVm vm₁) hT hW₁⟩) with ⟨v, vm₁, ⟨U', l2, c2, s2⟩, hW₁, X', ⟨g', mk, t, L, e1, e2, hq, h1, hL, h2, h3⟩, st⟩ | ⟨q, vm₁, ⟨U', l2, c2, s2⟩, hW₁, X', ⟨g', mk, t, L, E, ce, e1, e2, hq, hce, hcv, hcl, h1, hL, h2, h3⟩, st⟩
  · dsimp only [Pt.U, Pt.locs, Pt.cells, Pt.slots] at X' e1 e2 h1 h2 h3 st
    subst h1; subst h2; subst h3
    exact Or.inl ⟨v, (T.setVm vm₁).calling g' mk As.toArray, t, U', L, hT, X', hL, e1, e2, hq, st⟩
  · dsimp only [Pt.U, Pt.locs, Pt.cells, Pt.slots] at X' e1 e2 h1 h2 h3 st hcl
    subst h1; subst h2; subst h3
    exact Or.inr ⟨q, (T.setVm vm₁).calling g' mk As.toArray, t, U', L, E, ce, hT, X', hL, e1, e2, hq, hce, hcv, vx_cls hW₁ hcl, st⟩
end Runs
section Rows
variable {p : Program} {l : Launch} {e : Env} {R : Room} {s : State} {m : MethodId} {args : Array Value} {below : List Frame} {meth : Method} {c : Code} {H : Heap} {locs : List Loc} {cells slots : Nat} {Q : State → Prop}
variable {mc ms : Nat} {free : Addr → Prop} {A0 A1 : Nat → Prop} {H0 : Heap} {a : Array Value} {pc : Nat} {ls : Array Slot} {st0 rest : List Value}
theorem vx_keep {st₀ t T' : State} {L : List Loc} (h0 : st₀.heap = H) (e1 : T'.heap = t.heap) (hS : va_S A0 H0 H locs) (hA : ∀ q, q < H.size → A1 q → A0 q) (hf : ∀ q, free q → A0 q) (hL : ∀ q ∈ L, free q.base) (hF : va_F A1 st₀ t) :
    H.size ≤ T'.heap.size ∧ (∀ q : Nat, q < H.size → ¬ A1 q → T'.heap[q]? = H[q]?) ∧ va_S A0 H0 T'.heap (locs ++ L) := by
  obtain ⟨hz, hk⟩ := hF
  rw [h0] at hz hk
  exact ⟨by rw [e1]; exact hz, fun q h1 h2 => by rw [e1]; exact hk q h1 h2,
    ⟨Nat.le_trans hS.1 (by rw [e1]; exact hz), fun q h1 h2 => by rw [e1, hk q (Nat.lt_of_lt_of_le h1 hS.1) (fun z => h2 (hA q (Nat.lt_of_lt_of_le h1 hS.1) z))]; exact hS.2.1 q h1 h2, fun q hq => by
      rcases List.mem_append.mp hq with h | h
      · exact hS.2.2 q h
      · exact hf _ (hL q h)⟩⟩
theorem vx_calli {S SX : Type} {post : Int32 → S → Prop} {px : SX → Prop} {B : S → State → Prop} {BX : String → SX → State → Prop} {AX : Nat → Prop} (hr : vx_Run p l e R s m args below meth c H locs cells slots mc ms (F0 m pc ls st0) rest (va_Qi post B A1 a) (vx_X px BX AX) free) (hS : va_S A0 H0 H locs) (hA : ∀ q, q < H.size → A1 q → A0 q) (hf : ∀ q, free q → A0 q) (hAX : ∀ q, q < H.size → AX q → A0 q)
    (kx : ∀ (E : String) (ce : Cell) (q9 : Addr) (u : SX) (t : State) (H1 : Heap) (locs1 : List Loc), t.heap = H1 → s.vm.Alike t.vm → px u → BX E u t → H.size ≤ H1.size → (∀ q : Nat, q < H.size → ¬ AX q → H1[q]? = H[q]?) → va_S A0 H0 H1 locs1 → H1[q9]? = some ce → ce.vm = .none → s.vm.findClass E = some ce.cls → vx_W p l e R s m args below meth c H1 locs1 (cells + mc) (slots + ms) Q (F0 m pc ls rest) q9)
    (kk : ∀ (r : Int32) (u : S) (t : State) (H1 : Heap) (locs1 : List Loc), t.heap = H1 → s.vm.Alike t.vm → post r u → B u t → H.size ≤ H1.size → (∀ q : Nat, q < H.size → ¬ A1 q → H1[q]? = H[q]?) → va_S A0 H0 H1 locs1 → W p l e R s m args below meth c H1 locs1 (cells + mc) (slots + ms) Q (F0 m (pc + 3) ls (.int r :: rest))) : W p l e R s m args below meth c H locs cells slots Q (F0 m pc ls st0) := by
  intro T hT X
  rcases hr T hT X with ⟨v, st₀, t, T', L, h0, X', hL, e1, e2, ⟨⟨r, u, hv, hp, hb⟩, hF⟩, st⟩ | ⟨q, st₀, t, T', L, E, ce, h0, X', hL, e1, e2, ⟨u, hp, hb, hF⟩, hce, hcv, hcl, st⟩
  · cases hv
    obtain ⟨k1, k2, k3⟩ := vx_keep h0 e1 hS hA hf hL hF
    obtain ⟨t2, a1, b1⟩ := kk r u t T'.heap (locs ++ L) e1.symm (by rw [← e2]; exact X'.warmed.alike) hp hb k1 k2 k3 T' rfl X'
    exact ⟨t2, st t2 a1, b1⟩
  · obtain ⟨k1, k2, k3⟩ := vx_keep h0 e1 hS hAX hf hL hF
    obtain ⟨t2, a1, b1⟩ := kx E ce q u t T'.heap (locs ++ L) e1.symm (by rw [← e2]; exact X'.warmed.alike) hp hb k1 k2 k3 (by rw [e1]; exact hce) hcv hcl T' rfl X'
    exact ⟨t2, st.trans a1, b1⟩
theorem vx_calll {S SX : Type} {post : Int64 → S → Prop} {px : SX → Prop} {B : S → State → Prop} {BX : String → SX → State → Prop} {AX : Nat → Prop} (hr : vx_Run p l e R s m args below meth c H locs cells slots mc ms (F0 m pc ls st0) rest (va_Ql post B A1 a) (vx_X px BX AX) free) (hS : va_S A0 H0 H locs) (hA : ∀ q, q < H.size → A1 q → A0 q) (hf : ∀ q, free q → A0 q) (hAX : ∀ q, q < H.size → AX q → A0 q)
    (kx : ∀ (E : String) (ce : Cell) (q9 : Addr) (u : SX) (t : State) (H1 : Heap) (locs1 : List Loc), t.heap = H1 → s.vm.Alike t.vm → px u → BX E u t → H.size ≤ H1.size → (∀ q : Nat, q < H.size → ¬ AX q → H1[q]? = H[q]?) → va_S A0 H0 H1 locs1 → H1[q9]? = some ce → ce.vm = .none → s.vm.findClass E = some ce.cls → vx_W p l e R s m args below meth c H1 locs1 (cells + mc) (slots + ms) Q (F0 m pc ls rest) q9)
    (kk : ∀ (r : Int64) (u : S) (t : State) (H1 : Heap) (locs1 : List Loc), t.heap = H1 → s.vm.Alike t.vm → post r u → B u t → H.size ≤ H1.size → (∀ q : Nat, q < H.size → ¬ A1 q → H1[q]? = H[q]?) → va_S A0 H0 H1 locs1 → W p l e R s m args below meth c H1 locs1 (cells + mc) (slots + ms) Q (F0 m (pc + 3) ls (.long r :: rest))) : W p l e R s m args below meth c H locs cells slots Q (F0 m pc ls st0) := by
  intro T hT X
  rcases hr T hT X with ⟨v, st₀, t, T', L, h0, X', hL, e1, e2, ⟨⟨r, u, hv, hp, hb⟩, hF⟩, st⟩ | ⟨q, st₀, t, T', L, E, ce, h0, X', hL, e1, e2, ⟨u, hp, hb, hF⟩, hce, hcv, hcl, st⟩
  · cases hv
    obtain ⟨k1, k2, k3⟩ := vx_keep h0 e1 hS hA hf hL hF
    obtain ⟨t2, a1, b1⟩ := kk r u t T'.heap (locs ++ L) e1.symm (by rw [← e2]; exact X'.warmed.alike) hp hb k1 k2 k3 T' rfl X'
    exact ⟨t2, st t2 a1, b1⟩
  · obtain ⟨k1, k2, k3⟩ := vx_keep h0 e1 hS hAX hf hL hF
    obtain ⟨t2, a1, b1⟩ := kx E ce q u t T'.heap (locs ++ L) e1.symm (by rw [← e2]; exact X'.warmed.alike) hp hb k1 k2 k3 (by rw [e1]; exact hce) hcv hcl T' rfl X'
    exact ⟨t2, st.trans a1, b1⟩
theorem vx_callf {S SX : Type} {post : UInt32 → S → Prop} {px : SX → Prop} {B : S → State → Prop} {BX : String → SX → State → Prop} {AX : Nat → Prop} (hr : vx_Run p l e R s m args below meth c H locs cells slots mc ms (F0 m pc ls st0) rest (va_Qf post B A1 a) (vx_X px BX AX) free) (hS : va_S A0 H0 H locs) (hA : ∀ q, q < H.size → A1 q → A0 q) (hf : ∀ q, free q → A0 q) (hAX : ∀ q, q < H.size → AX q → A0 q)
    (kx : ∀ (E : String) (ce : Cell) (q9 : Addr) (u : SX) (t : State) (H1 : Heap) (locs1 : List Loc), t.heap = H1 → s.vm.Alike t.vm → px u → BX E u t → H.size ≤ H1.size → (∀ q : Nat, q < H.size → ¬ AX q → H1[q]? = H[q]?) → va_S A0 H0 H1 locs1 → H1[q9]? = some ce → ce.vm = .none → s.vm.findClass E = some ce.cls → vx_W p l e R s m args below meth c H1 locs1 (cells + mc) (slots + ms) Q (F0 m pc ls rest) q9)
    (kk : ∀ (r : UInt32) (u : S) (t : State) (H1 : Heap) (locs1 : List Loc), t.heap = H1 → s.vm.Alike t.vm → post r u → B u t → H.size ≤ H1.size → (∀ q : Nat, q < H.size → ¬ A1 q → H1[q]? = H[q]?) → va_S A0 H0 H1 locs1 → W p l e R s m args below meth c H1 locs1 (cells + mc) (slots + ms) Q (F0 m (pc + 3) ls (.float r :: rest))) : W p l e R s m args below meth c H locs cells slots Q (F0 m pc ls st0) := by
  intro T hT X
  rcases hr T hT X with ⟨v, st₀, t, T', L, h0, X', hL, e1, e2, ⟨⟨r, u, hv, hp, hb⟩, hF⟩, st⟩ | ⟨q, st₀, t, T', L, E, ce, h0, X', hL, e1, e2, ⟨u, hp, hb, hF⟩, hce, hcv, hcl, st⟩
  · cases hv
    obtain ⟨k1, k2, k3⟩ := vx_keep h0 e1 hS hA hf hL hF
    obtain ⟨t2, a1, b1⟩ := kk r u t T'.heap (locs ++ L) e1.symm (by rw [← e2]; exact X'.warmed.alike) hp hb k1 k2 k3 T' rfl X'
    exact ⟨t2, st t2 a1, b1⟩
  · obtain ⟨k1, k2, k3⟩ := vx_keep h0 e1 hS hAX hf hL hF
    obtain ⟨t2, a1, b1⟩ := kx E ce q u t T'.heap (locs ++ L) e1.symm (by rw [← e2]; exact X'.warmed.alike) hp hb k1 k2 k3 (by rw [e1]; exact hce) hcv hcl T' rfl X'
    exact ⟨t2, st.trans a1, b1⟩
theorem vx_calld {S SX : Type} {post : UInt64 → S → Prop} {px : SX → Prop} {B : S → State → Prop} {BX : String → SX → State → Prop} {AX : Nat → Prop} (hr : vx_Run p l e R s m args below meth c H locs cells slots mc ms (F0 m pc ls st0) rest (va_Qd post B A1 a) (vx_X px BX AX) free) (hS : va_S A0 H0 H locs) (hA : ∀ q, q < H.size → A1 q → A0 q) (hf : ∀ q, free q → A0 q) (hAX : ∀ q, q < H.size → AX q → A0 q)
    (kx : ∀ (E : String) (ce : Cell) (q9 : Addr) (u : SX) (t : State) (H1 : Heap) (locs1 : List Loc), t.heap = H1 → s.vm.Alike t.vm → px u → BX E u t → H.size ≤ H1.size → (∀ q : Nat, q < H.size → ¬ AX q → H1[q]? = H[q]?) → va_S A0 H0 H1 locs1 → H1[q9]? = some ce → ce.vm = .none → s.vm.findClass E = some ce.cls → vx_W p l e R s m args below meth c H1 locs1 (cells + mc) (slots + ms) Q (F0 m pc ls rest) q9)
    (kk : ∀ (r : UInt64) (u : S) (t : State) (H1 : Heap) (locs1 : List Loc), t.heap = H1 → s.vm.Alike t.vm → post r u → B u t → H.size ≤ H1.size → (∀ q : Nat, q < H.size → ¬ A1 q → H1[q]? = H[q]?) → va_S A0 H0 H1 locs1 → W p l e R s m args below meth c H1 locs1 (cells + mc) (slots + ms) Q (F0 m (pc + 3) ls (.double r :: rest))) : W p l e R s m args below meth c H locs cells slots Q (F0 m pc ls st0) := by
  intro T hT X
  rcases hr T hT X with ⟨v, st₀, t, T', L, h0, X', hL, e1, e2, ⟨⟨r, u, hv, hp, hb⟩, hF⟩, st⟩ | ⟨q, st₀, t, T', L, E, ce, h0, X', hL, e1, e2, ⟨u, hp, hb, hF⟩, hce, hcv, hcl, st⟩
  · cases hv
    obtain ⟨k1, k2, k3⟩ := vx_keep h0 e1 hS hA hf hL hF
    obtain ⟨t2, a1, b1⟩ := kk r u t T'.heap (locs ++ L) e1.symm (by rw [← e2]; exact X'.warmed.alike) hp hb k1 k2 k3 T' rfl X'
    exact ⟨t2, st t2 a1, b1⟩
  · obtain ⟨k1, k2, k3⟩ := vx_keep h0 e1 hS hAX hf hL hF
    obtain ⟨t2, a1, b1⟩ := kx E ce q u t T'.heap (locs ++ L) e1.symm (by rw [← e2]; exact X'.warmed.alike) hp hb k1 k2 k3 (by rw [e1]; exact hce) hcv hcl T' rfl X'
    exact ⟨t2, st.trans a1, b1⟩
theorem vx_callv {S SX : Type} {post : S → Prop} {px : SX → Prop} {B : S → State → Prop} {BX : String → SX → State → Prop} {AX : Nat → Prop} (hr : vx_Run p l e R s m args below meth c H locs cells slots mc ms (F0 m pc ls st0) rest (va_Qv post B A1 a) (vx_X px BX AX) free) (hS : va_S A0 H0 H locs) (hA : ∀ q, q < H.size → A1 q → A0 q) (hf : ∀ q, free q → A0 q) (hAX : ∀ q, q < H.size → AX q → A0 q)
    (kx : ∀ (E : String) (ce : Cell) (q9 : Addr) (u : SX) (t : State) (H1 : Heap) (locs1 : List Loc), t.heap = H1 → s.vm.Alike t.vm → px u → BX E u t → H.size ≤ H1.size → (∀ q : Nat, q < H.size → ¬ AX q → H1[q]? = H[q]?) → va_S A0 H0 H1 locs1 → H1[q9]? = some ce → ce.vm = .none → s.vm.findClass E = some ce.cls → vx_W p l e R s m args below meth c H1 locs1 (cells + mc) (slots + ms) Q (F0 m pc ls rest) q9)
    (kk : ∀ (u : S) (t : State) (H1 : Heap) (locs1 : List Loc), t.heap = H1 → s.vm.Alike t.vm → post u → B u t → H.size ≤ H1.size → (∀ q : Nat, q < H.size → ¬ A1 q → H1[q]? = H[q]?) → va_S A0 H0 H1 locs1 → W p l e R s m args below meth c H1 locs1 (cells + mc) (slots + ms) Q (F0 m (pc + 3) ls (rest))) : W p l e R s m args below meth c H locs cells slots Q (F0 m pc ls st0) := by
  intro T hT X
  rcases hr T hT X with ⟨v, st₀, t, T', L, h0, X', hL, e1, e2, ⟨⟨u, hv, hp, hb⟩, hF⟩, st⟩ | ⟨q, st₀, t, T', L, E, ce, h0, X', hL, e1, e2, ⟨u, hp, hb, hF⟩, hce, hcv, hcl, st⟩
  · cases hv
    obtain ⟨k1, k2, k3⟩ := vx_keep h0 e1 hS hA hf hL hF
    obtain ⟨t2, a1, b1⟩ := kk u t T'.heap (locs ++ L) e1.symm (by rw [← e2]; exact X'.warmed.alike) hp hb k1 k2 k3 T' rfl X'
    exact ⟨t2, st t2 a1, b1⟩
  · obtain ⟨k1, k2, k3⟩ := vx_keep h0 e1 hS hAX hf hL hF
    obtain ⟨t2, a1, b1⟩ := kx E ce q u t T'.heap (locs ++ L) e1.symm (by rw [← e2]; exact X'.warmed.alike) hp hb k1 k2 k3 (by rw [e1]; exact hce) hcv hcl T' rfl X'
    exact ⟨t2, st.trans a1, b1⟩
/-- caught by the first row of this method's table -/
theorem kx_go {Q : Handler → Pre} {E : CtlPost} {e : Env} {d : Bool} {acts : List Action} {s : State} {f : JFrame} {a : Addr} {x : ExceptionTableEntry} {t : List ExceptionTableEntry} {c : ClassId} {cell : Cell} (hx : covers x f.pc = true) (h0 : x.catchType ≠ 0)
    (hl : s.vm.ClassLinks e.platform f.method.cls x.catchType c) (hcell : s.heap[a]? = some cell) (hobj : ∀ k, cell.vm ≠ .statics k)
    (hk : ∃ k, s.vm.classes[cell.cls]? = some k) (hc : ∃ k, s.vm.classes[c]? = some k) (hfit : s.vm.assignable cell.cls c = true) :
    wp (findHandler.go f a (x :: t)) Q E e d acts s ↔ Q (.found x.handlerPc) d acts (s.setVm (s.vm.noted f.method.cls x.catchType (.cls c))) := by
  simp only [covers] at hx
  obtain ⟨ha, ht⟩ := (resolveClass_links e.toSetting hl).op (op := VmOp.resolveClass f.method.cls x.catchType) rfl
  have hal : s.vm.Alike (s.vm.noted f.method.cls x.catchType (.cls c)) := (Vm.Alike.refl s.vm).noted _ _ _
  obtain ⟨k1, hk1⟩ := hk
  obtain ⟨k2, hk2⟩ := hc
  obtain ⟨k1', hk1', -⟩ := hal.2.2 _ _ hk1
  obtain ⟨k2', hk2', -⟩ := hal.2.2 _ _ hk2
  have hfit' : (s.vm.noted f.method.cls x.catchType (.cls c)).assignable cell.cls c = true := by rw [hal.assignable]; exact hfit
  simp [findHandler.go, hx, h0, ha, ht, hcell, hobj, hk1', hk2', hfit', VmOp.dirties, VmOp.acts]
theorem kx_catch {own name : String} {E : String} {ce : Cell} {q : Addr} (hown : s.vm.findClass own = some m.cls) (x : ExceptionTableEntry) (suf : List ExceptionTableEntry) (hsplit : c.exceptionTable.toList = x :: suf) (hx : covers x pc = true) (h0 : x.catchType ≠ 0)
    (hlink : (Cond.classLink own x.catchType name).before args s = true) (hcast : (Cond.castable E name).before args s = true) (hcell : H[q]? = some ce) (hv : ce.vm = .none) (hcl : s.vm.findClass E = some ce.cls)
    (kk : W p l e R s m args below meth c H locs cells slots Q (F0 m x.handlerPc ls [.ref q])) : vx_W p l e R s m args below meth c H locs cells slots Q (F0 m pc ls rest) q := by
  intro T hT X
  have hpl : e.platform.magicAccessors = ({} : Platform).magicAccessors := by rw [X.admits.platform]
  obtain ⟨c3, cT, hc3, hcT, hasg⟩ := Cond.castable_spec hcast
  cases Option.some.inj (hc3.symm.trans hcl)
  obtain ⟨c5, hc5, hcl5⟩ := Cond.classLink_spec hown hlink e.platform hpl
  cases Option.some.inj (hcT.symm.trans hc5)
  obtain ⟨dk, _, _, kt, hd, _, _, _, _, hkt, _, hopen⟩ := hcl5.here
  have hcl₀ := X.warmed.classLinks hcl5
  have hW' : s.WarmedH (T.vm.noted m.cls x.catchType (.cls cT)) := X.warmed.noted hd hopen (State.rightAt_cls hcl5)
  have hal := X.warmed.alike
  obtain ⟨kt', hkt', -⟩ := hal.2.2 _ _ hkt
  have hfit' : T.vm.assignable ce.cls cT = true := by rw [hal.assignable]; exact hasg
  have hcellT : T.heap[q]? = some ce := by rw [hT]; exact hcell
  have hobj : ∀ k, ce.vm ≠ .statics k := VmData.ne_statics_of (by rw [hv]; rfl)
  obtain ⟨t, a1, b1⟩ := kk (T.setVm (T.vm.noted m.cls x.catchType (.cls cT))) hT (X.noted hW')
  refine ⟨t, ?_, b1⟩
  obtain ⟨hgo, hw⟩ := (show At T (F0 m pc ls rest).method c below from X.here).throwing q
  refine Steps.head hgo hw ?_
  have hfind : ∀ (Q : Handler → Pre) (E : CtlPost) (d : Bool) (acts : List Action), wp (findHandler (F0 m pc ls rest) q) Q E e d acts ((T.setTop (F0 m pc ls rest)).pushFrame (.throwing q)) ↔ Q (.found x.handlerPc) d acts (((T.setTop (F0 m pc ls rest)).pushFrame (.throwing q)).setVm (T.vm.noted m.cls x.catchType (.cls cT))) := by
    intro Q E d acts
    rw [W.findHandler_eq (meth := meth) (code := c) X.method' X.code, hsplit]
    exact kx_go (s := (T.setTop (F0 m pc ls rest)).pushFrame (.throwing q)) (c := cT) (cell := ce) hx h0 hcl₀ hcellT hobj (Vm.classAt_of_assignable hfit' ⟨kt', hkt'⟩) ⟨kt', hkt'⟩ hfit'
  have hstep : (stepThrowing e ((T.setTop (F0 m pc ls rest)).pushFrame (.throwing q)) q (.java (F0 m pc ls rest) :: T.frames.tail)).Is ((((T.setTop (F0 m pc ls rest)).pushFrame (.throwing q)).setVm (T.vm.noted m.cls x.catchType (.cls cT))).setFrames (.java (F0 m x.handlerPc ls [.ref q]) :: T.frames.tail)) [] := by
    simp only [stepThrowing, searchFrame, vmDo]
    generalize hr : Sem.go _ e false [] _ = res
    obtain ⟨as, rfl, ha⟩ := Sem.eq_ok_of hr (a := Handler.found x.handlerPc) (s' := ((T.setTop (F0 m pc ls rest)).pushFrame (.throwing q)).setVm (T.vm.noted m.cls x.catchType (.cls cT))) (acts' := []) (by simp [hfind _ _ _ _])
    exact ⟨rfl, ha⟩
  rw [stepThread_throwing (frames_entered X.here.top _), hstep.1]
  obtain ⟨g₀, hg⟩ := Option.isSome_iff_exists.mp X.here.top
  obtain ⟨r, hr⟩ := State.topJava?_eq_some.mp hg
  have hr' : (T.setVm (T.vm.noted m.cls x.catchType (.cls cT))).frames = .java g₀ :: r := hr
  have hsw : ∀ (u : State) (vm' : Vm) (F G : List Frame), ((u.setFrames F).setVm vm').setFrames G = (u.setVm vm').setFrames G := by
    intro u vm' F G
    have h1 : (u.setFrames F).setVm vm' = (u.setVm vm').setFrames F := rfl
    rw [h1, State.setFrames_setFrames]
  rw [State.setTop_of_frames _ hr'] at a1
  rw [hr, List.tail_cons, State.pushFrame, hsw, State.setTop_of_frames _ hr, hsw]
  exact a1
end Rows
section Ends
variable {p : Program} {l : Launch} {e : Env} {R : Room} {s : State} {m : MethodId} {args : Array Value} {below : List Frame} {meth : Method} {c : Code} {H : Heap} {locs : List Loc} {cells slots : Nat} {Q : State → Prop}
variable {mc ms : Nat} {free : Addr → Prop} {A0 A1 : Nat → Prop} {H0 : Heap} {a : Array Value} {ls : Array Slot} {st0 rest : List Value}
variable {Qc : Array Value → State → Outcome → State → Prop} {XC : String → State → State → Prop}
/-- what a body that may throw owes at its end -/
def vx_MQ (below : List Frame) (Qc : Array Value → State → Outcome → State → Prop) (XC : String → State → State → Prop) (a : Array Value) (s : State) (mc ms : Nat) (free : Addr → Prop) : State → Prop := fun t =>
  ∃ o, t.status = .running ∧ Ended t below o ∧ vx_Q Qc XC mc ms free a s o t
theorem vx_ret {g : JFrame} {mc ms : Nat} (k : W p l e R s m args below meth c H locs cells slots (MQ below Qc args s mc ms free) g) : W p l e R s m args below meth c H locs cells slots (vx_MQ below Qc XC args s mc ms free) g := by
  intro T hT X
  obtain ⟨t, a1, o, b1, b2, b3, b4⟩ := k T hT X
  exact ⟨t, a1, o, b1, b2, Or.inl ⟨b3, b4⟩⟩
/-- not caught here: it goes on to the caller -/
theorem vx_widen {g : JFrame} {q : Addr} {k n : Nat} (h1 : cells ≤ k) (h2 : slots ≤ n) (kk : vx_W p l e R s m args below meth c H locs k n Q g q) : vx_W p l e R s m args below meth c H locs cells slots Q g q := fun T hT X => kk T hT (stand_widen X h1 h2)
theorem vx_out {pc : Nat} {E : String} {ce : Cell} {q : Addr} {mc ms : Nat} (hout : ∀ x ∈ c.exceptionTable.toList, covers x pc = false) (hlocks : meth.locks = false) (hcell : H[q]? = some ce) (hv : ce.vm = .none) (hcl : s.vm.findClass E = some ce.cls)
    (hx : ∀ t : State, t.heap = H → s.vm.Alike t.vm → XC E s t) (hf : ∀ z ∈ locs, free z.base) (hc : cells ≤ mc) (hs : slots ≤ ms) :
    vx_W p l e R s m args below meth c H locs cells slots (vx_MQ below Qc XC args s mc ms free) (F0 m pc ls rest) q := by
  intro T hT X
  obtain ⟨st1, hrun, hend, hW, hsm⟩ := X.leaveThrown q (g := F0 m pc ls rest) rfl rfl rfl hout hlocks
  have hcell9 : (T.setFrames (.throwing q :: below)).heap[q]? = some ce := by
    show T.heap[q]? = some ce
    rw [hT]; exact hcell
  exact ⟨_, st1, .threw q, hrun, hend, Or.inr ⟨q, rfl, E, ce, locs, hx _ hT hW.alike, hcell9, hv, hcl, hW, hsm.mono hc hs, hf⟩⟩
theorem vx_frame {U : State} {k n : Nat} (h : s.sameButNew ({ U with vm := s.vm } : State) locs k n) : s.heap.size ≤ U.heap.size ∧ ∀ q : Nat, q < s.heap.size → (∀ z ∈ locs, z.base ≠ q) → U.heap[q]? = s.heap[q]? := by
  obtain ⟨-, h2, -, -, -, h6⟩ := h
  refine ⟨h2, fun q hq hz => ?_⟩
  obtain ⟨c9, e1, e2, e3, e4⟩ := h6 q _ (Array.getElem?_eq_getElem hq)
  have hs : c9.slots = (s.heap[q]).slots := Array.ext_getElem? fun i => e4 i fun hm => hz _ hm rfl
  have h9 : c9 = s.heap[q] := by
    rw [hs] at e2
    exact e2
  have e5 : U.heap[q]? = some c9 := e1
  rw [e5, h9, Array.getElem?_eq_getElem hq]
/-- the words of a throw but the four that speak of the heap -/
def vx_no (w : Cond) : Bool := decide (w ≠ .isRef (.static Bundle.tN "UNASSIGNED_STACK" Bundle.steD)) && decide (w ≠ .isRef (.static Bundle.tN "SUPPRESSED_SENTINEL" Bundle.listD)) && decide (w ≠ .laysStatic Bundle.tN "UNASSIGNED_STACK" Bundle.steD) && decide (w ≠ .laysStatic Bundle.tN "SUPPRESSED_SENTINEL" Bundle.listD)
def vx_at0 (own : String) (ic : Nat) (X : String) (names : List String) : List Cond := (Bundle.ownAtoms0 own ic X names).filter vx_no
def vx_atS (own : String) (ic : Nat) (X : String) (names : List String) : List Cond := (Bundle.ownAtoms own ic X names).filter vx_no
/-- a word that the tables alone decide, or a good one -/
def vx_ot (w : Cond) : Bool := w.onTables || goodWord w
theorem vx_ot_at {args a' : Array Value} {s U : State} {w : Cond} (hW : s.WarmedH U.vm) (hvm : s.vm = U.vm) (hg : vx_ot w = true) (h : w.before args s = true) : w.before a' U = true := by
  simp only [vx_ot, Bool.or_eq_true] at hg
  rcases hg with hg | hg
  · exact va_tabs hg hvm h
  · exact word_at hW (good_of_word hg) h
/-- a list's words: the good ones out of the method's own list, the others by premises of their own -/
theorem vx_hat {args : Array Value} {s : State} {L B : List Cond} (h1 : ∀ w ∈ L.filter goodWord, w.before args s = true) (h2 : ∀ w ∈ L.filter (fun w => !goodWord w), w ∈ B) (h3 : ∀ w ∈ B, w.before args s = true) : ∀ w ∈ L, w.before args s = true := by
  intro w hw
  by_cases g : goodWord w = true
  · exact h1 w (List.mem_filter.mpr ⟨hw, g⟩)
  · refine h3 w (h2 w (List.mem_filter.mpr ⟨hw, ?_⟩))
    show (!goodWord w) = true
    cases hgw : goodWord w
    · rfl
    · exact absurd hgw g
theorem vx_c {args : Array Value} {s : State} {w : Cond} {B : List Cond} (h : w.before args s = true) (t : ∀ w ∈ B, w.before args s = true) : ∀ w' ∈ w :: B, w'.before args s = true := fun w' h' => (List.mem_cons.mp h').elim (fun e => by rw [e]; exact h) (t w')
theorem vx_n {args : Array Value} {s : State} : ∀ w ∈ ([] : List Cond), w.before args s = true := fun _ h => nomatch h
theorem vx_own {args : Array Value} {s : State} {L : List Cond} (h1 : ∀ w ∈ L.filter vx_no, w.before args s = true)
    (hU : (Cond.isRef (.static Bundle.tN "UNASSIGNED_STACK" Bundle.steD)).before args s = true) (hN : (Cond.isRef (.static Bundle.tN "SUPPRESSED_SENTINEL" Bundle.listD)).before args s = true)
    (lU : (Cond.laysStatic Bundle.tN "UNASSIGNED_STACK" Bundle.steD).before args s = true) (lN : (Cond.laysStatic Bundle.tN "SUPPRESSED_SENTINEL" Bundle.listD).before args s = true) : ∀ w ∈ L, w.before args s = true := by
  intro w hw
  by_cases e1 : w = .isRef (.static Bundle.tN "UNASSIGNED_STACK" Bundle.steD)
  · rw [e1]; exact hU
  · by_cases e2 : w = .isRef (.static Bundle.tN "SUPPRESSED_SENTINEL" Bundle.listD)
    · rw [e2]; exact hN
    · by_cases e3 : w = .laysStatic Bundle.tN "UNASSIGNED_STACK" Bundle.steD
      · rw [e3]; exact lU
      · by_cases e4 : w = .laysStatic Bundle.tN "SUPPRESSED_SENTINEL" Bundle.listD
        · rw [e4]; exact lN
        · exact h1 w (List.mem_filter.mpr ⟨hw, by unfold vx_no; rw [decide_eq_true e1, decide_eq_true e2, decide_eq_true e3, decide_eq_true e4]; rfl⟩)
/-- where a static field lies, its class's statics cell in H -/
def vx_L (C n d : String) (A : Nat → Prop) (U : State) (H : Heap) : Prop := ∃ (c : ClassId) (k : Class) (i : Nat) (f : Field) (a : Nat) (cell : Cell), U.vm.findClass C = some c ∧ U.fieldFound? C n d = some (c, k, i, f) ∧ f.isStatic = true ∧ k.statics = some a ∧ H[a]? = some cell ∧ cell.vm.isStatics = true ∧ cell.cls = c ∧ f.slot < cell.slots.size ∧ k.staticTypes[f.slot]? = some f.type ∧ ¬ A a
theorem vx_L.moved {C n d : String} {A : Nat → Prop} {u U : State} {H : Heap} (hvm : u.vm.Alike U.vm) (h : vx_L C n d A u H) : vx_L C n d A U H := by
  obtain ⟨c, k, i, f, a, cell, h1, h2, h3, h4, h5, h6, h7, h8, h9, h10⟩ := h
  obtain ⟨k', hi', he⟩ := State.fieldFound?_setVm hvm h2
  exact ⟨c, k', i, f, a, cell, by rw [hvm.findClass]; exact h1, hi', h3, by rw [he]; exact h4, h5, h6, h7, h8, by rw [he]; exact h9, h10⟩
theorem vx_L.kept {C n d : String} {A : Nat → Prop} {U : State} {H H1 : Heap} (h : vx_L C n d A U H) (hq : ∀ a : Nat, a < H.size → ¬ A a → H1[a]? = H[a]?) : vx_L C n d A U H1 := by
  obtain ⟨c, k, i, f, a, cell, h1, h2, h3, h4, h5, h6, h7, h8, h9, h10⟩ := h
  exact ⟨c, k, i, f, a, cell, h1, h2, h3, h4, by rw [hq a (Array.getElem?_eq_some_iff.mp h5).1 h10]; exact h5, h6, h7, h8, h9, h10⟩
theorem vx_L.narrow {C n d : String} {A B : Nat → Prop} {U : State} {H : Heap} (h : vx_L C n d A U H) (hAB : ∀ q, B q → A q) : vx_L C n d B U H := by
  obtain ⟨c, k, i, f, a, cell, h1, h2, h3, h4, h5, h6, h7, h8, h9, h10⟩ := h
  exact ⟨c, k, i, f, a, cell, h1, h2, h3, h4, h5, h6, h7, h8, h9, fun z => h10 (hAB _ z)⟩
theorem vx_L.word {C n d : String} {A : Nat → Prop} {s : State} {args : Array Value} (h : vx_L C n d A s s.heap) : (Cond.laysStatic C n d).before args s = true := by
  obtain ⟨c, k, i, f, a, cell, h1, h2, h3, h4, h5, h6, h7, h8, h9, -⟩ := h
  show (Cond.laysStatic C n d).holds args s none s [] = true
  exact Cond.laysStatic_of h1 h2 h3 h4 h5 h6 h7 h8 h9
/-- .. and what it holds: null or some reference -/
def vx_Zq (C n d : String) (A : Nat → Prop) (U : State) (H : Heap) : Prop := va_Zq C n d A U H ∧ vx_L C n d A U H
theorem vx_Zq.moved {C n d : String} {A : Nat → Prop} {u U : State} {H : Heap} (hvm : u.vm.Alike U.vm) (h : vx_Zq C n d A u H) : vx_Zq C n d A U H := ⟨va_Zq.moved hvm h.1, vx_L.moved hvm h.2⟩
theorem vx_Zq.kept {C n d : String} {A : Nat → Prop} {U : State} {H H1 : Heap} (h : vx_Zq C n d A U H) (hq : ∀ a : Nat, a < H.size → ¬ A a → H1[a]? = H[a]?) : vx_Zq C n d A U H1 := ⟨va_Zq.kept h.1 hq, vx_L.kept h.2 hq⟩
theorem vx_Zq.narrow {C n d : String} {A B : Nat → Prop} {U : State} {H : Heap} (h : vx_Zq C n d A U H) (hAB : ∀ q, B q → A q) : vx_Zq C n d B U H := ⟨va_Zq.narrow h.1 hAB, vx_L.narrow h.2 hAB⟩
theorem vx_Zqof {args : Array Value} {s : State} {C n d : String} {A : Nat → Prop} (hl : (Cond.laysStatic C n d).before args s = true) (hini : (Cond.initialized C).before args s = true) (h : (Cond.isRef (.static C n d)).before args s = true) (hA : ∀ a : Nat, a < s.heap.size → ¬ A a) : vx_Zq C n d A s s.heap := by
  refine ⟨va_Zqof hl hini h hA, ?_⟩
  obtain ⟨c, k, i, f, a, cell, h1, h2, h3, h4, h5, h6, h7, h8, h9⟩ := Cond.laysStatic_spec hl
  exact ⟨c, k, i, f, a, cell, h1, h2, h3, h4, h5, h6, h7, h8, h9, hA a (Array.getElem?_eq_some_iff.mp h5).1⟩
theorem vx_isRef {C n d : String} {v : Value} {A : Nat → Prop} {s : State} {args : Array Value} (h : va_Z C n d v A s s.heap) (hv : v.isRef = true) : (Cond.isRef (.static C n d)).before args s = true := by
  obtain ⟨cf, kf, fi, f, a, cell, h1, h2, h3, h4, h5, h6, h7, -⟩ := h
  have he : (Term.static C n d).eval args s none [] s = some v := by
    simp [Term.eval, State.fieldNamed?, h1, h2, h4, h5, h6, h7]
  simp only [Cond.before, Cond.holds, Cond.value, he]
  cases v <;> simp_all [Value.isRef]
theorem vx_isRefq {C n d : String} {A : Nat → Prop} {s : State} {args : Array Value} (h : va_Zq C n d A s s.heap) : (Cond.isRef (.static C n d)).before args s = true := by
  rcases h with h | ⟨t, h⟩
  · exact vx_isRef h rfl
  · exact vx_isRef h rfl
/-- the same frame, seen from here: as if the method were called anew in this heap -/
theorem vx_rebase {T : State} (X : Stand p l e R s m args below meth c T locs cells slots) {R' : Room} (hf : R'.frames ≤ R.frames) (hl : R'.locals ≤ R.locals) (hc : cells + R'.cells ≤ R.cells) (hs : slots + R'.slots ≤ R.slots) :
    Stand p l e R' ((T.setVm s.vm).setFrames (.invoking m args :: below)) m args below meth c T [] 0 0 := by
  have htop : (T.setVm s.vm).topJava?.isSome := X.here.top
  have hF : ((T.setVm s.vm).setFrames (.invoking m args :: below)).frames = .invoking m args :: below := State.frames_setFrames _ (State.cur_lt_of_top htop)
  obtain ⟨g₀, hg0⟩ := Option.isSome_iff_exists.mp htop
  obtain ⟨r, hr⟩ := State.topJava?_eq_some.mp hg0
  have hl9 : e.platform.stackLimits (T.setVm s.vm).me = e.platform.stackLimits s.me := X.limits
  have hb9 : (T.setVm s.vm).me.stackBytes = s.me.stackBytes := X.bytes
  refine ⟨X.admits, X.cas, X.clock, hF, ?_, X.hears, X.method, X.code, X.here, X.tail, X.warmed, ?_, ?_, ?_⟩
  · have h := X.room
    have hU : ((T.setVm s.vm).setFrames (.invoking m args :: below)).localsInUse = s.localsInUse := by
      rw [State.localsInUse_invoking hF (meth := meth) (c := c) X.method X.code, State.localsInUse_invoking X.frames X.method X.code]
    simp only [State.hasRoom, Bool.and_eq_true, decide_eq_true_eq] at h ⊢
    obtain ⟨⟨⟨⟨h1, h2, h3, h4, h5, h6⟩, h7⟩, h8⟩, h9⟩ := h
    rw [X.frames, List.length_cons] at h2 h3
    have q1 := X.heapSize
    have q2 := X.used
    simp only [hF, hU, List.length_cons, State.stackLimits_setFrames, State.stackBytes_setFrames, hl9, hb9]
    refine ⟨⟨⟨⟨by omega, by omega, by omega, by omega, by omega, h6⟩, ?_⟩, ?_⟩, X.book⟩
    · show T.heap.size + R'.cells ≤ e.platform.maxCells
      omega
    · show T.slotsUsed + R'.slots ≤ e.platform.maxSlots
      omega
  · rw [State.stackLimits_setFrames]; rfl
  · rw [State.stackBytes_setFrames]; rfl
  · refine ⟨?_, Nat.le_refl _, Nat.le_refl _, ?_, ?_, fun a c9 h9 => ⟨c9, h9, rfl, rfl, fun _ _ => rfl⟩⟩
    · obtain ⟨t, ht, -⟩ := State.frames_cons hr
      show T.setVm s.vm = { ((T.setVm s.vm).setFrames (.invoking m args :: below)).setFrames (T.setVm s.vm).frames with heap := T.heap, slotsUsed := T.slotsUsed }
      rw [State.setFrames_setFrames, State.setFrames_self ht]
      rfl
    · show T.slotsUsed = T.slotsUsed + ((T.heap.toList.drop T.heap.size).map (·.slots.size)).sum
      rw [List.drop_eq_nil_of_le (Nat.le_of_eq Array.length_toList)]
      rfl
    · show ((T.heap.toList.drop T.heap.size).map (·.slots.size)).sum ≤ 0
      rw [List.drop_eq_nil_of_le (Nat.le_of_eq Array.length_toList)]
      exact Nat.le_refl _
/-- 'throw new E()': new; dup; invokespecial; athrow -/
theorem vx_throw0 {cc : ByteArray} {pc : Nat} (hexec : p.tables.exec = Jvm.exec) (hb : c.code = cc) (hl : l.stackTraces = false) {own cls : String} {names : List String} {ik ic mc ms : Nat} {A : Nat → Prop}
    (hown : s.vm.findClass own = some m.cls) (hcls : Bundle.fit cls = true) (hnames : ∀ n ∈ names, Bundle.fit n = true)
    (hk : (Cond.classLink own ik cls).before args s = true) (hini : (Cond.initialized cls).before args s = true) (hat : ∀ w ∈ vx_at0 own ic cls names, w.before args s = true)
    (hgood : ∀ w ∈ Cond.classLink own ik cls :: Cond.initialized cls :: vx_at0 own ic cls names, vx_ot w = true)
    (hU : vx_Zq Bundle.tN "UNASSIGNED_STACK" Bundle.steD A s s.heap) (hN : vx_Zq Bundle.tN "SUPPRESSED_SENTINEL" Bundle.listD A s s.heap) (hS : va_S A s.heap H locs) (hsize : ls.size = c.maxLocals)
    (d0 : decode cc pc = .ok (.new ik, 3)) (d3 : decode cc (pc + 3) = .ok (.dup, 1)) (d4 : decode cc (pc + 4) = .ok (.invokespecial ic, 3)) (d7 : decode cc (pc + 7) = .ok (.athrow, 1))
    (hout : ∀ x ∈ c.exceptionTable.toList, covers x (pc + 7) = false)
    (hRframes : names.length + 3 < R.frames) (hRlocals : (rest.map fun v => v.category).sum + (13 * (names.length + 1) + 42) ≤ R.locals) (hRcells : cells + 1 ≤ R.cells) (hRslots : slots + 6 ≤ R.slots) (hlocks : meth.locks = false)
    (hx : ∀ t : State, s.vm.Alike t.vm → H.size ≤ t.heap.size → (∀ q : Nat, q < H.size → t.heap[q]? = H[q]?) → XC cls s t)
    (hf : ∀ z ∈ locs, free z.base) (hc : cells + 1 ≤ mc) (hs : slots + 6 ≤ ms) :
    W p l e R s m args below meth c H locs cells slots (vx_MQ below Qc XC args s mc ms free) (F0 m pc ls rest) := by
  intro T hT X
  have htr : e.platform.stackTraces = false := (show e.platform.stackTraces = l.stackTraces by rw [X.admits.platform]).trans hl
  have Y := vx_rebase X (R' := { frames := R.frames, locals := R.locals, cells := 1, slots := 6 }) (Nat.le_refl _) (Nat.le_refl _) hRcells hRslots
  obtain ⟨s', hA⟩ : ∃ z, z = (T.setVm s.vm).setFrames (.invoking m args :: below) := ⟨_, rfl⟩
  rw [← hA] at Y
  have hvm : s'.vm = s.vm := by rw [hA]; rfl
  have hhp : s'.heap = H := by rw [hA]; exact hT
  have hW0 : s.WarmedH s'.vm := by rw [hvm]; exact State.WarmedH.refl s
  have hat' : ∀ w ∈ vx_at0 own ic cls names, w.before args s' = true := fun w hw => vx_ot_at hW0 hvm.symm (hgood w (List.mem_cons_of_mem _ (List.mem_cons_of_mem _ hw))) (hat w hw)
  have hk' : (Cond.classLink own ik cls).before args s' = true := vx_ot_at hW0 hvm.symm (hgood _ List.mem_cons_self) hk
  have hini' : (Cond.initialized cls).before args s' = true := vx_ot_at hW0 hvm.symm (hgood _ (List.mem_cons_of_mem _ List.mem_cons_self)) hini
  have hU' : vx_Zq Bundle.tN "UNASSIGNED_STACK" Bundle.steD A s' s'.heap := by rw [hhp]; exact vx_Zq.moved hW0.alike (hU.kept hS.2.1)
  have hN' : vx_Zq Bundle.tN "SUPPRESSED_SENTINEL" Bundle.listD A s' s'.heap := by rw [hhp]; exact vx_Zq.moved hW0.alike (hN.kept hS.2.1)
  have h : ∀ w ∈ Bundle.ownAtoms0 own ic cls names, w.before args s' = true := vx_own hat' (vx_isRefq hU'.1) (vx_isRefq hN'.1) hU'.2.word hN'.2.word
  have hown' : s'.vm.findClass own = some m.cls := by rw [hvm]; exact hown
  have hins : (Cond.instantiable cls 6).before args s' = true := h _ (by simp [Bundle.ownAtoms0])
  obtain ⟨vm₁, cX, kX, hfX, hkX, -, -, X₁, st1⟩ := Y.newCold hexec (own := own) (C := cls) (index := ik) (n := 6) hown' hk' hins hini'
    (g := F0 m pc ls rest) rfl (by rw [hb]; exact d0) (Nat.le_refl _) (Nat.le_refl _)
  generalize hT1 : (T.setVm vm₁).pushCell { cls := cX, slots := kX.instanceTypes.map defaultValue, vm := .none } = T1 at X₁ st1
  have hcat : (Value.ref T.heap.size).category = 1 := rfl
  have hcellA : T1.heap[T.heap.size]? = some (freshCell cX kX) := by rw [← hT1]; exact State.heap_pushCell_size _ _
  have d3' : decode c.code (pc + 3) = .ok (.dup, 1) := by rw [hb]; exact d3
  obtain ⟨U, hsteps, hrun, hend, hW, hsame, ce, hce, hO⟩ := X₁.ctorThrow0 hexec htr (own := own) (cls := cls) (names := names) (ic := ic) hown' hcls hnames h (fun x hx => nomatch hx) hfX hkX hcellA (by rw [hhp, hT]; exact Nat.le_refl _)
    (g := { method := m, pc := pc + 4, locals := ls, stack := .ref T.heap.size :: .ref T.heap.size :: rest, locked := none }) rfl hsize rfl rfl (rest := rest) rfl
    (by rw [hb]; exact d4) (by rw [hb]; exact d7) hout hRframes (by simp only [List.map_cons, List.sum_cons, hcat]; omega) hlocks
  obtain ⟨f1, f2⟩ := vx_frame hsame
  rw [hhp] at f1 f2
  have hWs : s.WarmedH U.vm := State.WarmedH.trans hW0 hW
  have hcl : s.vm.findClass cls = some ce.cls := by
    have h9 := hO.cls
    rw [hvm] at h9
    exact h9
  have hall : s.sameButNew ({ U with vm := s.vm } : State) locs mc ms := by
    subst hA
    obtain ⟨e1, e2⟩ := hsame
    rw [State.setFrames_setFrames] at e1
    have h2 : (T.setVm s.vm).sameButNew ({ U with vm := s.vm } : State) [] (0 + 1) (0 + 6) := ⟨e1, e2⟩
    have h3 := X.same.trans h2
    rw [List.append_nil] at h3
    exact h3.mono hc hs
  refine ⟨U, ?_, .threw T.heap.size, hrun, hend, Or.inr ⟨T.heap.size, rfl, cls, ce, locs, hx U hWs.alike f1 (fun q hq => f2 q hq (fun z hz => nomatch hz)), hce, hO.vm, hcl, hWs, hall, hf⟩⟩
  refine st1 _ ?_
  show Steps p.tables e below (T1.setTop { method := m, pc := pc + 3, locals := ls, stack := .ref T.heap.size :: rest, locked := none }) _
  jvm_step X₁.here [X₁.here.top, hexec, d3', Value.category]
  exact hsteps
/-- 'throw new E("text")': new; dup; ldc; invokespecial; athrow -/
theorem vx_throwS {cc : ByteArray} {pc : Nat} (hexec : p.tables.exec = Jvm.exec) (hb : c.code = cc) (hl : l.stackTraces = false) {own cls text : String} {names : List String} {ik is ic mc ms sa : Nat} {A : Nat → Prop}
    (hown : s.vm.findClass own = some m.cls) (hcls : Bundle.fit cls = true) (hnames : ∀ n ∈ names, Bundle.fit n = true)
    (hk : (Cond.classLink own ik cls).before args s = true) (hini : (Cond.initialized cls).before args s = true) (hstr : vk_R own is text sa s) (hat : ∀ w ∈ vx_atS own ic cls names, w.before args s = true)
    (hgood : ∀ w ∈ Cond.classLink own ik cls :: Cond.initialized cls :: vx_atS own ic cls names, vx_ot w = true)
    (hU : vx_Zq Bundle.tN "UNASSIGNED_STACK" Bundle.steD A s s.heap) (hN : vx_Zq Bundle.tN "SUPPRESSED_SENTINEL" Bundle.listD A s s.heap) (hS : va_S A s.heap H locs) (hsize : ls.size = c.maxLocals)
    (d0 : decode cc pc = .ok (.new ik, 3)) (d3 : decode cc (pc + 3) = .ok (.dup, 1)) (d4 : decode cc (pc + 4) = .ok (.ldc is, 2)) (d6 : decode cc (pc + 6) = .ok (.invokespecial ic, 3)) (d9 : decode cc (pc + 9) = .ok (.athrow, 1))
    (hout : ∀ x ∈ c.exceptionTable.toList, covers x (pc + 9) = false)
    (hRframes : names.length + 3 < R.frames) (hRlocals : (rest.map fun v => v.category).sum + (13 * (names.length + 1) + 43) ≤ R.locals) (hRcells : cells + 1 ≤ R.cells) (hRslots : slots + 6 ≤ R.slots) (hlocks : meth.locks = false)
    (hx : ∀ t : State, s.vm.Alike t.vm → H.size ≤ t.heap.size → (∀ q : Nat, q < H.size → t.heap[q]? = H[q]?) → XC cls s t)
    (hf : ∀ z ∈ locs, free z.base) (hc : cells + 1 ≤ mc) (hs : slots + 6 ≤ ms) :
    W p l e R s m args below meth c H locs cells slots (vx_MQ below Qc XC args s mc ms free) (F0 m pc ls rest) := by
  intro T hT X
  have htr : e.platform.stackTraces = false := (show e.platform.stackTraces = l.stackTraces by rw [X.admits.platform]).trans hl
  have Y := vx_rebase X (R' := { frames := R.frames, locals := R.locals, cells := 1, slots := 6 }) (Nat.le_refl _) (Nat.le_refl _) hRcells hRslots
  obtain ⟨s', hA⟩ : ∃ z, z = (T.setVm s.vm).setFrames (.invoking m args :: below) := ⟨_, rfl⟩
  rw [← hA] at Y
  have hvm : s'.vm = s.vm := by rw [hA]; rfl
  have hhp : s'.heap = H := by rw [hA]; exact hT
  have hW0 : s.WarmedH s'.vm := by rw [hvm]; exact State.WarmedH.refl s
  have hat' : ∀ w ∈ vx_atS own ic cls names, w.before args s' = true := fun w hw => vx_ot_at hW0 hvm.symm (hgood w (List.mem_cons_of_mem _ (List.mem_cons_of_mem _ hw))) (hat w hw)
  have hk' : (Cond.classLink own ik cls).before args s' = true := vx_ot_at hW0 hvm.symm (hgood _ List.mem_cons_self) hk
  have hini' : (Cond.initialized cls).before args s' = true := vx_ot_at hW0 hvm.symm (hgood _ (List.mem_cons_of_mem _ List.mem_cons_self)) hini
  have hU' : vx_Zq Bundle.tN "UNASSIGNED_STACK" Bundle.steD A s' s'.heap := by rw [hhp]; exact vx_Zq.moved hW0.alike (hU.kept hS.2.1)
  have hN' : vx_Zq Bundle.tN "SUPPRESSED_SENTINEL" Bundle.listD A s' s'.heap := by rw [hhp]; exact vx_Zq.moved hW0.alike (hN.kept hS.2.1)
  have h : ∀ w ∈ Bundle.ownAtoms own ic cls names, w.before args s' = true := vx_own hat' (vx_isRefq hU'.1) (vx_isRefq hN'.1) hU'.2.word hN'.2.word
  have hown' : s'.vm.findClass own = some m.cls := by rw [hvm]; exact hown
  have hins : (Cond.instantiable cls 6).before args s' = true := h _ (by simp [Bundle.ownAtoms])
  obtain ⟨vm₁, cX, kX, hfX, hkX, -, -, X₁, st1⟩ := Y.newCold hexec (own := own) (C := cls) (index := ik) (n := 6) hown' hk' hins hini'
    (g := F0 m pc ls rest) rfl (by rw [hb]; exact d0) (Nat.le_refl _) (Nat.le_refl _)
  generalize hT1 : (T.setVm vm₁).pushCell { cls := cX, slots := kX.instanceTypes.map defaultValue, vm := .none } = T1 at X₁ st1
  have hcat : (Value.ref T.heap.size).category = 1 := rfl
  have hcellA : T1.heap[T.heap.size]? = some (freshCell cX kX) := by rw [← hT1]; exact State.heap_pushCell_size _ _
  have d3' : decode c.code (pc + 3) = .ok (.dup, 1) := by rw [hb]; exact d3
  have d4' : decode c.code (pc + 4) = .ok (.ldc is, 2) := by rw [hb]; exact d4
  have hstr' : vk_R own is text sa s' := vk_R.warm hW0 hstr
  obtain ⟨U, hsteps, hrun, hend, hW, hsame, ce, hce, hO⟩ := X₁.ctorThrowS hexec htr (own := own) (cls := cls) (names := names) (ic := ic) hown' hcls hnames h (fun x hx => nomatch hx) hfX hkX hcellA (by rw [hhp, hT]; exact Nat.le_refl _) (msg := .ref sa) rfl
    (g := { method := m, pc := pc + 6, locals := ls, stack := .ref sa :: .ref T.heap.size :: .ref T.heap.size :: rest, locked := none }) rfl hsize rfl rfl (rest := rest) rfl
    (by rw [hb]; exact d6) (by rw [hb]; exact d9) hout hRframes (by simp only [List.map_cons, List.sum_cons, hcat]; omega) hlocks
  obtain ⟨f1, f2⟩ := vx_frame hsame
  rw [hhp] at f1 f2
  have hWs : s.WarmedH U.vm := State.WarmedH.trans hW0 hW
  have hcl : s.vm.findClass cls = some ce.cls := by
    have h9 := hO.cls
    rw [hvm] at h9
    exact h9
  have hall : s.sameButNew ({ U with vm := s.vm } : State) locs mc ms := by
    subst hA
    obtain ⟨e1, e2⟩ := hsame
    rw [State.setFrames_setFrames] at e1
    have h2 : (T.setVm s.vm).sameButNew ({ U with vm := s.vm } : State) [] (0 + 1) (0 + 6) := ⟨e1, e2⟩
    have h3 := X.same.trans h2
    rw [List.append_nil] at h3
    exact h3.mono hc hs
  refine ⟨U, ?_, .threw T.heap.size, hrun, hend, Or.inr ⟨T.heap.size, rfl, cls, ce, locs, hx U hWs.alike f1 (fun q hq => f2 q hq (fun z hz => nomatch hz)), hce, hO.vm, hcl, hWs, hall, hf⟩⟩
  refine st1 _ ?_
  show Steps p.tables e below (T1.setTop { method := m, pc := pc + 3, locals := ls, stack := .ref T.heap.size :: rest, locked := none }) _
  jvm_step X₁.here [X₁.here.top, hexec, d3', Value.category]
  exact X₁.ldcString hexec (own := own) (text := text) (index := is) (a := sa) hown' hstr'.1 hstr'.2
    (g := { method := m, pc := pc + 4, locals := ls, stack := .ref T.heap.size :: .ref T.heap.size :: rest, locked := none }) rfl d4' _ hsteps
/-- 'throw new E("text")', the text by a wide index -/
theorem vx_throwSW {cc : ByteArray} {pc : Nat} (hexec : p.tables.exec = Jvm.exec) (hb : c.code = cc) (hl : l.stackTraces = false) {own cls text : String} {names : List String} {ik is ic mc ms sa : Nat} {A : Nat → Prop}
    (hown : s.vm.findClass own = some m.cls) (hcls : Bundle.fit cls = true) (hnames : ∀ n ∈ names, Bundle.fit n = true)
    (hk : (Cond.classLink own ik cls).before args s = true) (hini : (Cond.initialized cls).before args s = true) (hstr : vk_R own is text sa s) (hat : ∀ w ∈ vx_atS own ic cls names, w.before args s = true)
    (hgood : ∀ w ∈ Cond.classLink own ik cls :: Cond.initialized cls :: vx_atS own ic cls names, vx_ot w = true)
    (hU : vx_Zq Bundle.tN "UNASSIGNED_STACK" Bundle.steD A s s.heap) (hN : vx_Zq Bundle.tN "SUPPRESSED_SENTINEL" Bundle.listD A s s.heap) (hS : va_S A s.heap H locs) (hsize : ls.size = c.maxLocals)
    (d0 : decode cc pc = .ok (.new ik, 3)) (d3 : decode cc (pc + 3) = .ok (.dup, 1)) (d4 : decode cc (pc + 4) = .ok (.ldc_w is, 3)) (d7 : decode cc (pc + 7) = .ok (.invokespecial ic, 3)) (d10 : decode cc (pc + 10) = .ok (.athrow, 1))
    (hout : ∀ x ∈ c.exceptionTable.toList, covers x (pc + 10) = false)
    (hRframes : names.length + 3 < R.frames) (hRlocals : (rest.map fun v => v.category).sum + (13 * (names.length + 1) + 43) ≤ R.locals) (hRcells : cells + 1 ≤ R.cells) (hRslots : slots + 6 ≤ R.slots) (hlocks : meth.locks = false)
    (hx : ∀ t : State, s.vm.Alike t.vm → H.size ≤ t.heap.size → (∀ q : Nat, q < H.size → t.heap[q]? = H[q]?) → XC cls s t)
    (hf : ∀ z ∈ locs, free z.base) (hc : cells + 1 ≤ mc) (hs : slots + 6 ≤ ms) :
    W p l e R s m args below meth c H locs cells slots (vx_MQ below Qc XC args s mc ms free) (F0 m pc ls rest) := by
  intro T hT X
  have htr : e.platform.stackTraces = false := (show e.platform.stackTraces = l.stackTraces by rw [X.admits.platform]).trans hl
  have Y := vx_rebase X (R' := { frames := R.frames, locals := R.locals, cells := 1, slots := 6 }) (Nat.le_refl _) (Nat.le_refl _) hRcells hRslots
  obtain ⟨s', hA⟩ : ∃ z, z = (T.setVm s.vm).setFrames (.invoking m args :: below) := ⟨_, rfl⟩
  rw [← hA] at Y
  have hvm : s'.vm = s.vm := by rw [hA]; rfl
  have hhp : s'.heap = H := by rw [hA]; exact hT
  have hW0 : s.WarmedH s'.vm := by rw [hvm]; exact State.WarmedH.refl s
  have hat' : ∀ w ∈ vx_atS own ic cls names, w.before args s' = true := fun w hw => vx_ot_at hW0 hvm.symm (hgood w (List.mem_cons_of_mem _ (List.mem_cons_of_mem _ hw))) (hat w hw)
  have hk' : (Cond.classLink own ik cls).before args s' = true := vx_ot_at hW0 hvm.symm (hgood _ List.mem_cons_self) hk
  have hini' : (Cond.initialized cls).before args s' = true := vx_ot_at hW0 hvm.symm (hgood _ (List.mem_cons_of_mem _ List.mem_cons_self)) hini
  have hU' : vx_Zq Bundle.tN "UNASSIGNED_STACK" Bundle.steD A s' s'.heap := by rw [hhp]; exact vx_Zq.moved hW0.alike (hU.kept hS.2.1)
  have hN' : vx_Zq Bundle.tN "SUPPRESSED_SENTINEL" Bundle.listD A s' s'.heap := by rw [hhp]; exact vx_Zq.moved hW0.alike (hN.kept hS.2.1)
  have h : ∀ w ∈ Bundle.ownAtoms own ic cls names, w.before args s' = true := vx_own hat' (vx_isRefq hU'.1) (vx_isRefq hN'.1) hU'.2.word hN'.2.word
  have hown' : s'.vm.findClass own = some m.cls := by rw [hvm]; exact hown
  have hins : (Cond.instantiable cls 6).before args s' = true := h _ (by simp [Bundle.ownAtoms])
  obtain ⟨vm₁, cX, kX, hfX, hkX, -, -, X₁, st1⟩ := Y.newCold hexec (own := own) (C := cls) (index := ik) (n := 6) hown' hk' hins hini'
    (g := F0 m pc ls rest) rfl (by rw [hb]; exact d0) (Nat.le_refl _) (Nat.le_refl _)
  generalize hT1 : (T.setVm vm₁).pushCell { cls := cX, slots := kX.instanceTypes.map defaultValue, vm := .none } = T1 at X₁ st1
  have hcat : (Value.ref T.heap.size).category = 1 := rfl
  have hcellA : T1.heap[T.heap.size]? = some (freshCell cX kX) := by rw [← hT1]; exact State.heap_pushCell_size _ _
  have d3' : decode c.code (pc + 3) = .ok (.dup, 1) := by rw [hb]; exact d3
  have d4' : decode c.code (pc + 4) = .ok (.ldc_w is, 3) := by rw [hb]; exact d4
  have hstr' : vk_R own is text sa s' := vk_R.warm hW0 hstr
  obtain ⟨U, hsteps, hrun, hend, hW, hsame, ce, hce, hO⟩ := X₁.ctorThrowS hexec htr (own := own) (cls := cls) (names := names) (ic := ic) hown' hcls hnames h (fun x hx => nomatch hx) hfX hkX hcellA (by rw [hhp, hT]; exact Nat.le_refl _) (msg := .ref sa) rfl
    (g := { method := m, pc := pc + 7, locals := ls, stack := .ref sa :: .ref T.heap.size :: .ref T.heap.size :: rest, locked := none }) rfl hsize rfl rfl (rest := rest) rfl
    (by rw [hb]; exact d7) (by rw [hb]; exact d10) hout hRframes (by simp only [List.map_cons, List.sum_cons, hcat]; omega) hlocks
  obtain ⟨f1, f2⟩ := vx_frame hsame
  rw [hhp] at f1 f2
  have hWs : s.WarmedH U.vm := State.WarmedH.trans hW0 hW
  have hcl : s.vm.findClass cls = some ce.cls := by
    have h9 := hO.cls
    rw [hvm] at h9
    exact h9
  have hall : s.sameButNew ({ U with vm := s.vm } : State) locs mc ms := by
    subst hA
    obtain ⟨e1, e2⟩ := hsame
    rw [State.setFrames_setFrames] at e1
    have h2 : (T.setVm s.vm).sameButNew ({ U with vm := s.vm } : State) [] (0 + 1) (0 + 6) := ⟨e1, e2⟩
    have h3 := X.same.trans h2
    rw [List.append_nil] at h3
    exact h3.mono hc hs
  refine ⟨U, ?_, .threw T.heap.size, hrun, hend, Or.inr ⟨T.heap.size, rfl, cls, ce, locs, hx U hWs.alike f1 (fun q hq => f2 q hq (fun z hz => nomatch hz)), hce, hO.vm, hcl, hWs, hall, hf⟩⟩
  refine st1 _ ?_
  show Steps p.tables e below (T1.setTop { method := m, pc := pc + 3, locals := ls, stack := .ref T.heap.size :: rest, locked := none }) _
  jvm_step X₁.here [X₁.here.top, hexec, d3', Value.category]
  exact X₁.ldcStringW hexec (own := own) (text := text) (index := is) (a := sa) hown' hstr'.1 hstr'.2
    (g := { method := m, pc := pc + 4, locals := ls, stack := .ref T.heap.size :: .ref T.heap.size :: rest, locked := none }) rfl d4' _ hsteps
end Ends
section Bodies
variable {l : Launch}
theorem vx_ofW {y : MethodName} {ws ws' : List Cond} {rm : Room} {Pc : Array Value → State → Prop} {Qc : Array Value → State → Outcome → State → Prop} {XC : String → State → State → Prop} {mc ms : Nat} {free : Addr → Prop} {cc : ByteArray} {maxL : Nat} {ret : Option FieldType}
    (hy : plainName y.cls = true) (hw : ws = Cond.code y cc maxL ret :: ws')
    (body : ∀ p e s m args below meth c s₁, BodyLoose p l y (headSpec ws rm) cc maxL ret e s m args below meth c s₁ → c.maxLocals = maxL → (∀ x ∈ c.exceptionTable.toList, False) → Pc args s →
      W p l e (headSpec ws rm).room s m args below meth c s.heap [] 0 0 (vx_MQ below Qc XC args s mc ms free) (entryFrame m args maxL)) : vx_Met l y ws rm Pc Qc XC mc ms free := by
  refine MetFree.of_bodyS (code := cc) (maxLocals := maxL) (ret := ret) hy ?_ ?_
  · intro args s m h hn
    obtain ⟨meth, c, h1, h2, h3, h4, h5, h6, -, -⟩ := Cond.code_spec hn (atoms_spec (ws := ws) h _ (by rw [hw]; exact List.mem_cons_self))
    exact ⟨meth, c, h1, h2, h3, h4, h5, h6⟩
  · intro p e s m args below meth c s₁ B hml hP _
    have hh0 : s₁.heap = s.heap := by rw [B.state]; rfl
    have ht : ∀ x ∈ c.exceptionTable.toList, False := by
      obtain ⟨meth9, c9, h1, h2, -, -, -, -, h7, -⟩ := Cond.code_spec B.named (atoms_spec (ws := ws) B.pre _ (by rw [hw]; exact List.mem_cons_self))
      cases Option.some.inj (h1.symm.trans B.method)
      cases Option.some.inj (h2.symm.trans (Stand.of_body B).code)
      intro x hx
      rw [Array.isEmpty_iff.mp h7] at hx
      cases hx
    obtain ⟨t, a1, o, b1, b2, b3⟩ := body p e s m args below meth c s₁ B hml ht hP s₁ hh0 (Stand.of_body B)
    exact ⟨t, o, a1, b1, b2, b3⟩
/-- the table of a body with handlers -/
theorem vx_table {p : Program} {x y : MethodName} {S : Spec} {cc bytes : ByteArray} {maxL maxL' : Nat} {ret ret' : Option FieldType} {e : Env} {s s₁ : State} {m : MethodId} {args : Array Value} {below : List Frame} {meth : Method} {c : Code} {hh : List (Nat × Nat × Nat × Nat)}
    (B : BodyLoose p l y S cc maxL ret e s m args below meth c s₁) (h : (Cond.codeWith y bytes maxL' ret' hh).before args s = true) : c.exceptionTable.toList = tableOf hh := by
  obtain ⟨m9, meth9, c9, hn9, h1, h2, -, -, h6, -⟩ := Cond.codeWith_spec h
  cases Option.some.inj (hn9.symm.trans B.named)
  cases Option.some.inj (h1.symm.trans B.method)
  cases Option.some.inj (h2.symm.trans (Stand.of_body B).code)
  rw [← h6, table_eq]
end Bodies
end VXA
/-! ===== END ===== -/
/-! ===== BEGIN a static call of a method with an exception table ===== -/
section VXS
variable {p : Program} {l : Launch} {e : Env} {R : Room} {s : State} {m : MethodId} {args : Array Value} {below : List Frame} {meth : Method} {c : Code} {T : State} {H : Heap} {locs : List Loc} {cells slots : Nat}
abbrev vx_CSW (R : Room) (s : State) (args : Array Value) (own : String) (index : Nat) (y : MethodName) (bytes : ByteArray) (maxL : Nat) (ret : Option FieldType) (hh : List (Nat × Nat × Nat × Nat)) (ws : List Cond) (rm : Room) (mc ms n : Nat) : Prop :=
  (rm.cells = mc ∧ rm.slots = ms ∧ rm.frames + 1 ≤ R.frames ∧ 8 + (maxL + 11) + rm.locals ≤ R.locals ∧ (∀ w ∈ ws, ∀ (a' : Array Value) (U : State), s.WarmedH U.vm → w.before a' U = true) ∧ Cond.codeWith y bytes maxL ret hh ∈ ws) ∧
  (Cond.codeWith y bytes maxL ret hh).before args s = true ∧ (Cond.initialized y.cls).before args s = true ∧ (y.cls ≠ "java/lang/invoke/MethodHandle" ∧ y.cls ≠ "java/lang/invoke/VarHandle") ∧
  (∀ sig, parseMethodDescriptor y.desc = some sig → n = sig.parameters.length) ∧ (Cond.methodLink own index y).before args s = true ∧ (Cond.static y).before args s = true
theorem vx_cwSW {own : String} {index maxL mc ms : Nat} {y : MethodName} {bytes : ByteArray} {ret : Option FieldType} {hh : List (Nat × Nat × Nat × Nat)} {Ts ws ws' : List Cond} {rm : Room} (n : Nat) (ht : ∀ w ∈ Ts, w.before args s = true) (hT : GoodIn Ts (va_wsS own index y ws)) (hw : ws = Cond.codeWith y bytes maxL ret hh :: ws') (hrc : rm.cells = mc) (hrs : rm.slots = ms)
    (hd : y.cls ≠ "java/lang/invoke/MethodHandle" ∧ y.cls ≠ "java/lang/invoke/VarHandle" ∧ (parseMethodDescriptor y.desc).map (fun d => d.parameters.length) = some n) (hR : rm.frames + 1 ≤ R.frames ∧ 8 + (maxL + 11) + rm.locals ≤ R.locals) :
    vx_CSW R s args own index y bytes maxL ret hh ws rm mc ms n := by
  have ok : ∀ w ∈ va_wsS own index y ws, w.before args s = true := fun w h => ht w (hT w h).1
  have hG : GoodIn Ts ws := fun w h => hT w (by unfold va_wsS; exact List.mem_append_right _ h)
  have hc : Cond.codeWith y bytes maxL ret hh ∈ ws := by rw [hw]; exact List.mem_cons_self
  refine ⟨⟨hrc, hrs, hR.1, hR.2, pay_in ht hG, hc⟩, ht _ (hG _ hc).1, ok _ (by simp [va_wsS]), ⟨hd.1, hd.2.1⟩, fun sig h => ?_, ok _ (by simp [va_wsS]), ok _ (by simp [va_wsS])⟩
  have h2 := hd.2.2
  rw [h] at h2
  exact (Option.some.inj h2).symm
theorem vx_callSW (X : Stand p l e R s m args below meth c T locs cells slots) (hexec : p.tables.exec = Jvm.exec) {own : String} {index : Nat} {y : MethodName} {bytes : ByteArray} {maxL : Nat} {ret : Option FieldType} {hh : List (Nat × Nat × Nat × Nat)}
    (hown : s.vm.findClass own = some m.cls) (hlink : (Cond.methodLink own index y).before args s = true) (hstat : (Cond.static y).before args s = true) (hinit : (Cond.initialized y.cls).before args s = true)
    (hcode : (Cond.codeWith y bytes maxL ret hh).before args s = true) (hy : y.cls ≠ "java/lang/invoke/MethodHandle" ∧ y.cls ≠ "java/lang/invoke/VarHandle")
    {W9 : Nat} {Pre : Pt → Array Value → Prop} {Post : Pt → Array Value → Option Value → Pt → Prop} (hK : Back l R p e below s args y 3 W9 Pre Post)
    {g : JFrame} (hg : g.method = m) (hsize : g.locals.size = c.maxLocals) {argsL rest : List Value} (hlen : ∀ sig, parseMethodDescriptor y.desc = some sig → argsL.length = sig.parameters.length)
    (hstack : g.stack = argsL.reverse ++ rest) (hW : 2 * g.monitorRoom + (rest.map fun v => v.category).sum ≤ W9) (hdg : decode c.code g.pc = .ok (.invokestatic index, 3))
    (hpre : ∀ vm₁, s.WarmedH vm₁ → Pre ⟨T.setVm vm₁, locs, cells, slots⟩ argsL.toArray) :
    ∃ (v : Option Value) (vm₁ : Vm) (B : Pt), s.WarmedH vm₁ ∧ Stand p l e R s m args below meth c B.U B.locs B.cells B.slots ∧ Post ⟨T.setVm vm₁, locs, cells, slots⟩ argsL.toArray v B ∧
      ∀ target, Steps p.tables e below (B.U.setTop { g with pc := g.pc + 3, stack := v.toList ++ rest }) target → Steps p.tables e below (T.setTop g) target := by
  obtain ⟨mk, methM, cM, hnamed, hmethM, -, -, -, -, -, -, hsigM⟩ := Cond.codeWith_spec hcode
  have hstatic : methM.isStatic = true := Cond.static_spec hnamed hmethM hstat
  obtain ⟨kP, hkP, -⟩ := className_of_methodNamed hnamed
  have hinitP : kP.init = .initialized := Cond.initialized_spec (findClass_of_methodNamed hnamed) hkP hinit
  obtain ⟨vm₁, X₁, hstep₁⟩ := X.invokestatic hexec hown hlink hnamed hmethM hstatic hkP hinitP hy (g := g) hg (argsL := argsL) (rest := rest) (hlen _ hsigM) hstack hdg
  obtain ⟨v, B, X', hpost, hsteps⟩ := hK m meth c ⟨T.setVm vm₁, locs, cells, slots⟩ { g with stack := rest } (.invokestatic index) mk argsL.toArray X₁ hg hsize hdg hW (X₁.named hnamed) (hpre vm₁ X₁.warmed)
  exact ⟨v, vm₁, B, X₁.warmed, X', hpost, fun target h => hstep₁ _ fun acts => by rw [doInvoke_state]; exact hsteps.trans h⟩
theorem vx_runSW {y : MethodName} {bytes cc : ByteArray} {maxL nL mc ms n index : Nat} {ret : Option FieldType} {hh : List (Nat × Nat × Nat × Nat)} {ws : List Cond} {rm : Room} {Pc : Array Value → State → Prop} {Qc : Array Value → State → Outcome → State → Prop} {free : Addr → Prop} {Ts : List Cond} {own : String} {As rest : List Value} {g : JFrame}
    (S : CallFix p m c cc nL s args Ts own) (hM : Met l y ws rm Pc Qc mc ms free) (cw : vx_CSW R s args own index y bytes maxL ret hh ws rm mc ms n) (hp : PreS s H Pc As)
    (hg : g.method = m) (hn : As.length = n) (hsize : g.locals.size = nL) (hstack : g.stack = As.reverse ++ rest) (hW : 2 * g.monitorRoom + (rest.map fun v => v.category).sum ≤ 8) (hdg : decode cc g.pc = .ok (.invokestatic index, 3)) (hf : cells + mc ≤ R.cells ∧ slots + ms ≤ R.slots) :
    va_Run p l e R s m args below meth c H locs cells slots mc ms g rest (Qc As.toArray) (free) := by
  obtain ⟨⟨hrc, hrs, hfr, hlo, hws, hcw⟩, hcode, hini, hy, hlen, hl, hstt⟩ := cw
  have hK : Back l R p e below s args y 3 8 (PreOf R mc ms Pc) (PostOf Qc mc ms free) := va_backW (hh := hh) (bytes := bytes) (maxL := maxL) (ret := ret) hM hp.1 hrc hrs hfr hlo hws hcw (fun a' U hW => word_at hW (Or.inl (by first | rfl | simp [Cond.onTables, Cond.keeps, Cond.steady])) hini)
  obtain ⟨hx, hb, hml, ho, -⟩ := S
  intro T hT X
  obtain ⟨v, vm₁, ⟨U', l2, c2, s2⟩, hW₁, X', ⟨g', mk, t, L, e1, e2, hq, h1, hL, h2, h3⟩, st⟩ := vx_callSW X hx (hh := hh) (bytes := bytes) (maxL := maxL) (ret := ret) ho hl hstt hini hcode hy hK hg (hsize.trans hml.symm) (argsL := As) (rest := rest) (fun sig h => hn.trans (hlen sig h)) hstack hW (by rw [hb]; exact hdg)
    (fun vm₁ hW₁ => ⟨hf.1, hf.2, hp.2 (T.setVm vm₁) hT hW₁⟩)
  dsimp only [Pt.U, Pt.locs, Pt.cells, Pt.slots] at X' e1 e2 h1 h2 h3 st
  subst h1; subst h2; subst h3
  exact ⟨v, (T.setVm vm₁).calling g' mk As.toArray, t, U', L, hT, X', hL, e1, e2, hq, st⟩
/-- a thing of a world lies in the heap -/
theorem vx_lt {D : va_G} {cl : List vw_C} {ws : va_W} {H1 : Heap} (h : va_P D cl ws H1) {k : Nat} {q : Nat × va_E} (hk : ws[k]? = some q) : q.1 < H1.size := (h k q hk).lt
end VXS
end
section
/-! ===== BEGIN printed: names, fields, word lists, decode rows ===== -/
def RX0 : String := "TithedThoughts$Abbey"
def TX0 : u_T := fun k => match k with
  | 0 => ("TithedThoughts$Abbey", "thoughtNames", "[J", true)
  | 1 => ("TithedThoughts$Abbey", "worth", "[I", true)
  | 2 => ("TithedThoughts$Abbey", "part", "[I", true)
  | 3 => ("TithedThoughts$Abbey", "after", "[I", true)
  | 4 => ("TithedThoughts$Abbey", "tenantNames", "[J", true)
  | 5 => ("TithedThoughts$Abbey", "kind", "[I", true)
  | 6 => ("TithedThoughts$Abbey", "code", "[I", true)
  | 7 => ("TithedThoughts$Abbey", "open", "[I", true)
  | 8 => ("TithedThoughts$Abbey", "thoughts", "I", false)
  | 9 => ("TithedThoughts$Abbey", "tenants", "I", false)
  | 10 => ("TithedThoughts$Abbey", "tithe", "I", false)
  | 11 => ("TithedThoughts$Abbey", "runs", "I", false)
  | 12 => ("TithedThoughts$Abbey", "engine", "I", false)
  | 13 => ("TithedThoughts$Abbey", "once", "I", false)
  | 14 => ("TithedThoughts$Abbey", "codeEnd", "I", false)
  | 15 => ("TithedThoughts$Abbey", "gainsFrom", "I", false)
  | 16 => ("TithedThoughts$Abbey", "gainsTo", "I", false)
  | 17 => ("TithedThoughts$Abbey", "backFrom", "I", false)
  | _ => ("TithedThoughts$Abbey", "backTo", "I", false)
def tyX0 : Nat → FieldType := fun k => match k with
  | 0 => .array .long
  | 1 => .array .int
  | 2 => .array .int
  | 3 => .array .int
  | 4 => .array .long
  | 5 => .array .int
  | 6 => .array .int
  | 7 => .array .int
  | 8 => .int
  | 9 => .int
  | 10 => .int
  | 11 => .int
  | 12 => .int
  | 13 => .int
  | 14 => .int
  | 15 => .int
  | 16 => .int
  | 17 => .int
  | _ => .int
abbrev wsX00 : List Cond := u_ws RX0 TX0 19
theorem nmX0 : ∀ a, a < 19 → ∀ b, b < 19 → a ≠ b → (TX0 a).2.1 ≠ (TX0 b).2.1 := by decide +kernel
theorem tyX0_ok : ∀ k, k < 19 → parseFieldDescriptor (TX0 k).2.2.1 = some (tyX0 k) := by decide +kernel
abbrev cX0_init : ByteArray := prog_2_method_1_code
def yX0_init : MethodName := ⟨RX0, "<init>", "()V"⟩
abbrev cX0_clear : ByteArray := prog_2_method_2_code
def yX0_clear : MethodName := ⟨RX0, "clear", "()V"⟩
abbrev cX0_addThought : ByteArray := prog_2_method_3_code
def yX0_addThought : MethodName := ⟨RX0, "addThought", "(JII)V"⟩
abbrev cX0_addTenant : ByteArray := prog_2_method_4_code
def yX0_addTenant : MethodName := ⟨RX0, "addTenant", "(JI)V"⟩
abbrev cX0_isTold : ByteArray := prog_2_method_5_code
def yX0_isTold : MethodName := ⟨RX0, "isTold", "(II)Z"⟩
abbrev cX0_addFollower : ByteArray := prog_2_method_6_code
def yX0_addFollower : MethodName := ⟨RX0, "addFollower", "(II)V"⟩
abbrev cX0_thoughtNamed : ByteArray := prog_2_method_7_code
def yX0_thoughtNamed : MethodName := ⟨RX0, "thoughtNamed", "(J)I"⟩
abbrev cX0_tenantNamed : ByteArray := prog_2_method_8_code
def yX0_tenantNamed : MethodName := ⟨RX0, "tenantNamed", "(J)I"⟩
abbrev cX0_placeOf : ByteArray := prog_2_method_9_code
def yX0_placeOf : MethodName := ⟨RX0, "placeOf", "(J[JI)I"⟩
abbrev cX0_allThoughts : ByteArray := prog_2_method_10_code
def yX0_allThoughts : MethodName := ⟨RX0, "allThoughts", "()I"⟩
abbrev cX0_allParts : ByteArray := prog_2_method_11_code
def yX0_allParts : MethodName := ⟨RX0, "allParts", "()I"⟩
abbrev cX0_afterAny : ByteArray := prog_2_method_12_code
def yX0_afterAny : MethodName := ⟨RX0, "afterAny", "(I)I"⟩
abbrev cX0_before : ByteArray := prog_2_method_13_code
def yX0_before : MethodName := ⟨RX0, "before", "(I)I"⟩
abbrev cX0_addCode : ByteArray := prog_2_method_14_code
def yX0_addCode : MethodName := ⟨RX0, "addCode", "(I)V"⟩
abbrev cX0_gainOf : ByteArray := prog_2_method_15_code
def yX0_gainOf : MethodName := ⟨RX0, "gainOf", "(III)I"⟩
abbrev cX0_countedBehindGate : ByteArray := prog_2_method_16_code
def yX0_countedBehindGate : MethodName := ⟨RX0, "countedBehindGate", "(III)I"⟩
abbrev cX0_valueOf : ByteArray := prog_2_method_17_code
def yX0_valueOf : MethodName := ⟨RX0, "valueOf", "(IIIIII)I"⟩
abbrev cX0_factOf : ByteArray := prog_2_method_18_code
def yX0_factOf : MethodName := ⟨RX0, "factOf", "(IIIII)I"⟩
abbrev cX0_joined : ByteArray := prog_2_method_19_code
def yX0_joined : MethodName := ⟨RX0, "joined", "(III)I"⟩
def RX1 : String := "TithedThoughts$BestRow"
def TX1 : u_T := fun k => match k with
  | 0 => ("TithedThoughts$BestRow", "chosen", "[I", true)
  | 1 => ("TithedThoughts$BestRow", "gains", "[I", true)
  | 2 => ("TithedThoughts$BestRow", "due", "[Z", true)
  | 3 => ("TithedThoughts$BestRow", "found", "[I", true)
  | 4 => ("TithedThoughts$BestRow", "kind", "I", false)
  | _ => ("TithedThoughts$BestRow", "many", "I", false)
def tyX1 : Nat → FieldType := fun k => match k with
  | 0 => .array .int
  | 1 => .array .int
  | 2 => .array .boolean
  | 3 => .array .int
  | 4 => .int
  | _ => .int
abbrev wsX10 : List Cond := u_ws RX1 TX1 6
theorem nmX1 : ∀ a, a < 6 → ∀ b, b < 6 → a ≠ b → (TX1 a).2.1 ≠ (TX1 b).2.1 := by decide +kernel
theorem tyX1_ok : ∀ k, k < 6 → parseFieldDescriptor (TX1 k).2.2.1 = some (tyX1 k) := by decide +kernel
abbrev cX1_init : ByteArray := prog_3_method_1_code
def yX1_init : MethodName := ⟨RX1, "<init>", "()V"⟩
abbrev cX1_find : ByteArray := prog_3_method_2_code
def yX1_find : MethodName := ⟨RX1, "find", "(LTithedThoughts$Abbey;LTithedThoughts$State;II)I"⟩
abbrev cX1_foresee : ByteArray := prog_3_method_3_code
def yX1_foresee : MethodName := ⟨RX1, "foresee", "(LTithedThoughts$Abbey;LTithedThoughts$State;I)V"⟩
abbrev cX1_mostFrom : ByteArray := prog_3_method_4_code
def yX1_mostFrom : MethodName := ⟨RX1, "mostFrom", "(LTithedThoughts$Abbey;III)I"⟩
abbrev cX1_mostWith : ByteArray := prog_3_method_5_code
def yX1_mostWith : MethodName := ⟨RX1, "mostWith", "(LTithedThoughts$Abbey;III)I"⟩
abbrev cX1_runsAt : ByteArray := prog_3_method_6_code
def yX1_runsAt : MethodName := ⟨RX1, "runsAt", "(LTithedThoughts$Abbey;II)Z"⟩
abbrev cX1_gainAt : ByteArray := prog_3_method_7_code
def yX1_gainAt : MethodName := ⟨RX1, "gainAt", "(LTithedThoughts$Abbey;III)I"⟩
abbrev cX1_leastBehind : ByteArray := prog_3_method_8_code
def yX1_leastBehind : MethodName := ⟨RX1, "leastBehind", "(LTithedThoughts$Abbey;III)I"⟩
abbrev cX1_choose : ByteArray := prog_3_method_9_code
def yX1_choose : MethodName := ⟨RX1, "choose", "(LTithedThoughts$Abbey;II)V"⟩
def RX2 : String := "TithedThoughts$Course"
def TX2 : u_T := fun k => match k with
  | 0 => ("TithedThoughts$Course", "state", "LTithedThoughts$State;", true)
  | 1 => ("TithedThoughts$Course", "tithes", "I", false)
  | 2 => ("TithedThoughts$Course", "leftOut", "I", false)
  | 3 => ("TithedThoughts$Course", "firstTithe", "I", false)
  | _ => ("TithedThoughts$Course", "drawn", "J", false)
def tyX2 : Nat → FieldType := fun k => match k with
  | 0 => .object "TithedThoughts$State"
  | 1 => .int
  | 2 => .int
  | 3 => .int
  | _ => .long
abbrev wsX20 : List Cond := u_ws RX2 TX2 5
theorem nmX2 : ∀ a, a < 5 → ∀ b, b < 5 → a ≠ b → (TX2 a).2.1 ≠ (TX2 b).2.1 := by decide +kernel
theorem tyX2_ok : ∀ k, k < 5 → parseFieldDescriptor (TX2 k).2.2.1 = some (tyX2 k) := by decide +kernel
abbrev cX2_init : ByteArray := prog_4_method_1_code
def yX2_init : MethodName := ⟨RX2, "<init>", "()V"⟩
abbrev cX2_liveYears : ByteArray := prog_4_method_2_code
def yX2_liveYears : MethodName := ⟨RX2, "liveYears", "(LTithedThoughts$Abbey;LTithedThoughts$Page;I)V"⟩
abbrev cX2_live : ByteArray := prog_4_method_3_code
def yX2_live : MethodName := ⟨RX2, "live", "(LTithedThoughts$Abbey;II)Z"⟩
abbrev cX2_tryThink : ByteArray := prog_4_method_4_code
def yX2_tryThink : MethodName := ⟨RX2, "tryThink", "(LTithedThoughts$Abbey;III)Z"⟩
abbrev cX2_tryGate : ByteArray := prog_4_method_5_code
def yX2_tryGate : MethodName := ⟨RX2, "tryGate", "(LTithedThoughts$Abbey;I)Z"⟩
abbrev cX2_tryPool : ByteArray := prog_4_method_6_code
def yX2_tryPool : MethodName := ⟨RX2, "tryPool", "(II)Z"⟩
abbrev cX2_liveByDraws : ByteArray := prog_4_method_7_code
def yX2_liveByDraws : MethodName := ⟨RX2, "liveByDraws", "(LTithedThoughts$Abbey;LTithedThoughts$State;II)V"⟩
abbrev cX2_drawBelow : ByteArray := prog_4_method_8_code
def yX2_drawBelow : MethodName := ⟨RX2, "drawBelow", "(I)I"⟩
def RX3 : String := "TithedThoughts$Page"
def TX3 : u_T := fun k => match k with
  | 0 => ("TithedThoughts$Page", "state", "LTithedThoughts$State;", true)
  | 1 => ("TithedThoughts$Page", "years", "[I", true)
  | 2 => ("TithedThoughts$Page", "guesses", "[I", true)
  | 3 => ("TithedThoughts$Page", "lines", "I", false)
  | 4 => ("TithedThoughts$Page", "guessed", "I", false)
  | _ => ("TithedThoughts$Page", "laid", "Z", false)
def tyX3 : Nat → FieldType := fun k => match k with
  | 0 => .object "TithedThoughts$State"
  | 1 => .array .int
  | 2 => .array .int
  | 3 => .int
  | 4 => .int
  | _ => .boolean
abbrev wsX30 : List Cond := u_ws RX3 TX3 6
theorem nmX3 : ∀ a, a < 6 → ∀ b, b < 6 → a ≠ b → (TX3 a).2.1 ≠ (TX3 b).2.1 := by decide +kernel
theorem tyX3_ok : ∀ k, k < 6 → parseFieldDescriptor (TX3 k).2.2.1 = some (tyX3 k) := by decide +kernel
abbrev cX3_init : ByteArray := prog_5_method_1_code
def yX3_init : MethodName := ⟨RX3, "<init>", "()V"⟩
abbrev cX3_clear : ByteArray := prog_5_method_2_code
def yX3_clear : MethodName := ⟨RX3, "clear", "()V"⟩
abbrev cX3_copy : ByteArray := prog_5_method_3_code
def yX3_copy : MethodName := ⟨RX3, "copy", "(LTithedThoughts$Page;)V"⟩
abbrev cX3_lineOf : ByteArray := prog_5_method_4_code
def yX3_lineOf : MethodName := ⟨RX3, "lineOf", "(III)I"⟩
abbrev cX3_allowsGuessed : ByteArray := prog_5_method_5_code
def yX3_allowsGuessed : MethodName := ⟨RX3, "allowsGuessed", "(I)Z"⟩
def RX4 : String := "TithedThoughts$Pairs"
def TX4 : u_T := fun k => match k with
  | 0 => ("TithedThoughts$Pairs", "chosen", "[I", true)
  | 1 => ("TithedThoughts$Pairs", "tried", "[I", true)
  | 2 => ("TithedThoughts$Pairs", "dowries", "[I", true)
  | 3 => ("TithedThoughts$Pairs", "tenants", "I", false)
  | _ => ("TithedThoughts$Pairs", "most", "I", false)
def tyX4 : Nat → FieldType := fun k => match k with
  | 0 => .array .int
  | 1 => .array .int
  | 2 => .array .int
  | 3 => .int
  | _ => .int
abbrev wsX40 : List Cond := u_ws RX4 TX4 5
theorem nmX4 : ∀ a, a < 5 → ∀ b, b < 5 → a ≠ b → (TX4 a).2.1 ≠ (TX4 b).2.1 := by decide +kernel
theorem tyX4_ok : ∀ k, k < 5 → parseFieldDescriptor (TX4 k).2.2.1 = some (tyX4 k) := by decide +kernel
abbrev cX4_init : ByteArray := prog_6_method_1_code
def yX4_init : MethodName := ⟨RX4, "<init>", "()V"⟩
abbrev cX4_find : ByteArray := prog_6_method_2_code
def yX4_find : MethodName := ⟨RX4, "find", "(LTithedThoughts$Abbey;LTithedThoughts$State;)V"⟩
abbrev cX4_pairFrom : ByteArray := prog_6_method_3_code
def yX4_pairFrom : MethodName := ⟨RX4, "pairFrom", "(III)V"⟩
def RX5 : String := "TithedThoughts$Reader"
def TX5 : u_T := fun k => match k with
  | 0 => ("TithedThoughts$Reader", "tokens", "LTithedThoughts$Tokens;", true)
  | 1 => ("TithedThoughts$Reader", "lines", "[I", true)
  | 2 => ("TithedThoughts$Reader", "abbey", "LTithedThoughts$Abbey;", false)
  | 3 => ("TithedThoughts$Reader", "many", "I", false)
  | _ => ("TithedThoughts$Reader", "fault", "I", false)
def tyX5 : Nat → FieldType := fun k => match k with
  | 0 => .object "TithedThoughts$Tokens"
  | 1 => .array .int
  | 2 => .object "TithedThoughts$Abbey"
  | 3 => .int
  | _ => .int
abbrev wsX50 : List Cond := u_ws RX5 TX5 5
theorem nmX5 : ∀ a, a < 5 → ∀ b, b < 5 → a ≠ b → (TX5 a).2.1 ≠ (TX5 b).2.1 := by decide +kernel
theorem tyX5_ok : ∀ k, k < 5 → parseFieldDescriptor (TX5 k).2.2.1 = some (tyX5 k) := by decide +kernel
abbrev cX5_init : ByteArray := prog_7_method_1_code
def yX5_init : MethodName := ⟨RX5, "<init>", "(LTithedThoughts$Tokens;LTithedThoughts$Abbey;)V"⟩
abbrev cX5_readAbbey : ByteArray := prog_7_method_2_code
def yX5_readAbbey : MethodName := ⟨RX5, "readAbbey", "(LTithedThoughts$Abbey;)I"⟩
abbrev cX5_readYears : ByteArray := prog_7_method_3_code
def yX5_readYears : MethodName := ⟨RX5, "readYears", "(LTithedThoughts$Abbey;LTithedThoughts$Page;)I"⟩
abbrev cX5_begin : ByteArray := prog_7_method_4_code
def yX5_begin : MethodName := ⟨RX5, "begin", "(LTithedThoughts$Abbey;)V"⟩
abbrev cX5_goesOn : ByteArray := prog_7_method_5_code
def yX5_goesOn : MethodName := ⟨RX5, "goesOn", "()Z"⟩
abbrev cX5_fail : ByteArray := prog_7_method_6_code
def yX5_fail : MethodName := ⟨RX5, "fail", "(I)V"⟩
abbrev cX5_readThought : ByteArray := prog_7_method_7_code
def yX5_readThought : MethodName := ⟨RX5, "readThought", "()V"⟩
abbrev cX5_readFollows : ByteArray := prog_7_method_8_code
def yX5_readFollows : MethodName := ⟨RX5, "readFollows", "()V"⟩
abbrev cX5_readTenant : ByteArray := prog_7_method_9_code
def yX5_readTenant : MethodName := ⟨RX5, "readTenant", "()V"⟩
abbrev cX5_readSetting : ByteArray := prog_7_method_10_code
def yX5_readSetting : MethodName := ⟨RX5, "readSetting", "(LTithedThoughts$Word;)V"⟩
abbrev cX5_readLaw : ByteArray := prog_7_method_11_code
def yX5_readLaw : MethodName := ⟨RX5, "readLaw", "(LTithedThoughts$Word;)V"⟩
abbrev cX5_passOnce : ByteArray := prog_7_method_12_code
def yX5_passOnce : MethodName := ⟨RX5, "passOnce", "(LTithedThoughts$Word;)V"⟩
abbrev cX5_readLevel : ByteArray := prog_7_method_13_code
def yX5_readLevel : MethodName := ⟨RX5, "readLevel", "(II)V"⟩
abbrev cX5_operationHere : ByteArray := prog_7_method_14_code
def yX5_operationHere : MethodName := ⟨RX5, "operationHere", "()I"⟩
abbrev cX5_levelOf : ByteArray := prog_7_method_15_code
def yX5_levelOf : MethodName := ⟨RX5, "levelOf", "(I)I"⟩
abbrev cX5_readPart : ByteArray := prog_7_method_16_code
def yX5_readPart : MethodName := ⟨RX5, "readPart", "(I)V"⟩
abbrev cX5_readLine : ByteArray := prog_7_method_17_code
def yX5_readLine : MethodName := ⟨RX5, "readLine", "()V"⟩
abbrev cX5_passUnlessFault : ByteArray := prog_7_method_18_code
def yX5_passUnlessFault : MethodName := ⟨RX5, "passUnlessFault", "()V"⟩
abbrev cX5_passWord : ByteArray := prog_7_method_19_code
def yX5_passWord : MethodName := ⟨RX5, "passWord", "(LTithedThoughts$Word;)V"⟩
abbrev cX5_passSign : ByteArray := prog_7_method_20_code
def yX5_passSign : MethodName := ⟨RX5, "passSign", "(I)V"⟩
abbrev cX5_numberWithin : ByteArray := prog_7_method_21_code
def yX5_numberWithin : MethodName := ⟨RX5, "numberWithin", "(II)I"⟩
abbrev cX5_newName : ByteArray := prog_7_method_22_code
def yX5_newName : MethodName := ⟨RX5, "newName", "()J"⟩
abbrev cX5_thoughtHere : ByteArray := prog_7_method_23_code
def yX5_thoughtHere : MethodName := ⟨RX5, "thoughtHere", "()I"⟩
abbrev cX5_tenantHere : ByteArray := prog_7_method_24_code
def yX5_tenantHere : MethodName := ⟨RX5, "tenantHere", "()I"⟩
abbrev cX5_foundHere : ByteArray := prog_7_method_25_code
def yX5_foundHere : MethodName := ⟨RX5, "foundHere", "(I)I"⟩
def RX6 : String := "TithedThoughts$Spread"
def TX6 : u_T := fun k => match k with
  | 0 => ("TithedThoughts$Spread", "has", "[I", true)
  | _ => ("TithedThoughts$Spread", "gets", "[I", true)
def tyX6 : Nat → FieldType := fun k => match k with
  | 0 => .array .int
  | _ => .array .int
abbrev wsX60 : List Cond := u_ws RX6 TX6 2
theorem nmX6 : ∀ a, a < 2 → ∀ b, b < 2 → a ≠ b → (TX6 a).2.1 ≠ (TX6 b).2.1 := by decide +kernel
theorem tyX6_ok : ∀ k, k < 2 → parseFieldDescriptor (TX6 k).2.2.1 = some (tyX6 k) := by decide +kernel
abbrev cX6_init : ByteArray := prog_8_method_1_code
def yX6_init : MethodName := ⟨RX6, "<init>", "()V"⟩
abbrev cX6_begin : ByteArray := prog_8_method_2_code
def yX6_begin : MethodName := ⟨RX6, "begin", "(II)V"⟩
abbrev cX6_follow : ByteArray := prog_8_method_3_code
def yX6_follow : MethodName := ⟨RX6, "follow", "(LTithedThoughts$Abbey;Z)V"⟩
abbrev cX6_handOn : ByteArray := prog_8_method_4_code
def yX6_handOn : MethodName := ⟨RX6, "handOn", "(II)V"⟩
def RX7 : String := "TithedThoughts$State"
def TX7 : u_T := fun k => match k with
  | 0 => ("TithedThoughts$State", "last", "[I", true)
  | 1 => ("TithedThoughts$State", "counted", "[I", true)
  | 2 => ("TithedThoughts$State", "gained", "[I", true)
  | 3 => ("TithedThoughts$State", "row", "[J", true)
  | 4 => ("TithedThoughts$State", "kept", "[I", true)
  | 5 => ("TithedThoughts$State", "barn", "[I", true)
  | 6 => ("TithedThoughts$State", "inBarn", "I", false)
  | 7 => ("TithedThoughts$State", "ran", "I", false)
  | _ => ("TithedThoughts$State", "began", "I", false)
def tyX7 : Nat → FieldType := fun k => match k with
  | 0 => .array .int
  | 1 => .array .int
  | 2 => .array .int
  | 3 => .array .long
  | 4 => .array .int
  | 5 => .array .int
  | 6 => .int
  | 7 => .int
  | _ => .int
abbrev wsX70 : List Cond := u_ws RX7 TX7 9
theorem nmX7 : ∀ a, a < 9 → ∀ b, b < 9 → a ≠ b → (TX7 a).2.1 ≠ (TX7 b).2.1 := by decide +kernel
theorem tyX7_ok : ∀ k, k < 9 → parseFieldDescriptor (TX7 k).2.2.1 = some (tyX7 k) := by decide +kernel
abbrev cX7_init : ByteArray := prog_9_method_1_code
def yX7_init : MethodName := ⟨RX7, "<init>", "()V"⟩
abbrev cX7_clear : ByteArray := prog_9_method_2_code
def yX7_clear : MethodName := ⟨RX7, "clear", "()V"⟩
abbrev cX7_copy : ByteArray := prog_9_method_3_code
def yX7_copy : MethodName := ⟨RX7, "copy", "(LTithedThoughts$State;)V"⟩
abbrev cX7_hasRun : ByteArray := prog_9_method_4_code
def yX7_hasRun : MethodName := ⟨RX7, "hasRun", "(I)Z"⟩
abbrev cX7_keptOf : ByteArray := prog_9_method_5_code
def yX7_keptOf : MethodName := ⟨RX7, "keptOf", "(II)I"⟩
abbrev cX7_mayCome : ByteArray := prog_9_method_6_code
def yX7_mayCome : MethodName := ⟨RX7, "mayCome", "(LTithedThoughts$Abbey;I)I"⟩
abbrev cX7_canThink : ByteArray := prog_9_method_7_code
def yX7_canThink : MethodName := ⟨RX7, "canThink", "(LTithedThoughts$Abbey;I)I"⟩
abbrev cX7_mayThink : ByteArray := prog_9_method_8_code
def yX7_mayThink : MethodName := ⟨RX7, "mayThink", "(LTithedThoughts$Abbey;II)Z"⟩
abbrev cX7_mayGive : ByteArray := prog_9_method_9_code
def yX7_mayGive : MethodName := ⟨RX7, "mayGive", "(II)Z"⟩
abbrev cX7_worthKept : ByteArray := prog_9_method_10_code
def yX7_worthKept : MethodName := ⟨RX7, "worthKept", "(LTithedThoughts$Abbey;I)I"⟩
abbrev cX7_gainedByAll : ByteArray := prog_9_method_11_code
def yX7_gainedByAll : MethodName := ⟨RX7, "gainedByAll", "()I"⟩
abbrev cX7_nextCounted : ByteArray := prog_9_method_12_code
def yX7_nextCounted : MethodName := ⟨RX7, "nextCounted", "(LTithedThoughts$Abbey;I)I"⟩
abbrev cX7_isDue : ByteArray := prog_9_method_13_code
def yX7_isDue : MethodName := ⟨RX7, "isDue", "(LTithedThoughts$Abbey;II)Z"⟩
abbrev cX7_thinkOf : ByteArray := prog_9_method_14_code
def yX7_thinkOf : MethodName := ⟨RX7, "thinkOf", "(LTithedThoughts$Abbey;III)I"⟩
abbrev cX7_pay : ByteArray := prog_9_method_15_code
def yX7_pay : MethodName := ⟨RX7, "pay", "(LTithedThoughts$Abbey;III)I"⟩
abbrev cX7_keep : ByteArray := prog_9_method_16_code
def yX7_keep : MethodName := ⟨RX7, "keep", "(III)V"⟩
abbrev cX7_countedAt : ByteArray := prog_9_method_17_code
def yX7_countedAt : MethodName := ⟨RX7, "countedAt", "(II)I"⟩
abbrev cX7_placeOfLeast : ByteArray := prog_9_method_18_code
def yX7_placeOfLeast : MethodName := ⟨RX7, "placeOfLeast", "(LTithedThoughts$Abbey;I)I"⟩
abbrev cX7_leastCounted : ByteArray := prog_9_method_19_code
def yX7_leastCounted : MethodName := ⟨RX7, "leastCounted", "(LTithedThoughts$Abbey;I)I"⟩
abbrev cX7_goBack : ByteArray := prog_9_method_20_code
def yX7_goBack : MethodName := ⟨RX7, "goBack", "(LTithedThoughts$Abbey;I)I"⟩
abbrev cX7_give : ByteArray := prog_9_method_21_code
def yX7_give : MethodName := ⟨RX7, "give", "(II)V"⟩
def RX8 : String := "TithedThoughts$Tokens"
def TX8 : u_T := fun k => match k with
  | 0 => ("TithedThoughts$Tokens", "signs", "[B", true)
  | 1 => ("TithedThoughts$Tokens", "length", "I", false)
  | 2 => ("TithedThoughts$Tokens", "start", "I", false)
  | 3 => ("TithedThoughts$Tokens", "behind", "I", false)
  | 4 => ("TithedThoughts$Tokens", "kind", "I", false)
  | 5 => ("TithedThoughts$Tokens", "number", "I", false)
  | 6 => ("TithedThoughts$Tokens", "letters", "J", false)
  | _ => ("TithedThoughts$Tokens", "word", "LTithedThoughts$Word;", false)
def tyX8 : Nat → FieldType := fun k => match k with
  | 0 => .array .byte
  | 1 => .int
  | 2 => .int
  | 3 => .int
  | 4 => .int
  | 5 => .int
  | 6 => .long
  | _ => .object "TithedThoughts$Word"
abbrev wsX80 : List Cond := u_ws RX8 TX8 8
theorem nmX8 : ∀ a, a < 8 → ∀ b, b < 8 → a ≠ b → (TX8 a).2.1 ≠ (TX8 b).2.1 := by decide +kernel
theorem tyX8_ok : ∀ k, k < 8 → parseFieldDescriptor (TX8 k).2.2.1 = some (tyX8 k) := by decide +kernel
abbrev cX8_init : ByteArray := prog_10_method_1_code
def yX8_init : MethodName := ⟨RX8, "<init>", "()V"⟩
abbrev cX8_addBytes : ByteArray := prog_10_method_2_code
def yX8_addBytes : MethodName := ⟨RX8, "addBytes", "(J)V"⟩
abbrev cX8_empty : ByteArray := prog_10_method_3_code
def yX8_empty : MethodName := ⟨RX8, "empty", "()V"⟩
abbrev cX8_begin : ByteArray := prog_10_method_4_code
def yX8_begin : MethodName := ⟨RX8, "begin", "()V"⟩
abbrev cX8_advance : ByteArray := prog_10_method_5_code
def yX8_advance : MethodName := ⟨RX8, "advance", "()V"⟩
abbrev cX8_isSign : ByteArray := prog_10_method_6_code
def yX8_isSign : MethodName := ⟨RX8, "isSign", "(I)Z"⟩
abbrev cX8_readLetters : ByteArray := prog_10_method_7_code
def yX8_readLetters : MethodName := ⟨RX8, "readLetters", "()V"⟩
abbrev cX8_readDigits : ByteArray := prog_10_method_8_code
def yX8_readDigits : MethodName := ⟨RX8, "readDigits", "()V"⟩
def RX9 : String := "TithedThoughts$Undone"
def TX9 : u_T := fun k => match k with
  | 0 => ("TithedThoughts$Undone", "states", "[LTithedThoughts$State;", true)
  | 1 => ("TithedThoughts$Undone", "next", "I", false)
  | _ => ("TithedThoughts$Undone", "many", "I", false)
def tyX9 : Nat → FieldType := fun k => match k with
  | 0 => .array (.object "TithedThoughts$State")
  | 1 => .int
  | _ => .int
abbrev wsX90 : List Cond := u_ws RX9 TX9 3
theorem nmX9 : ∀ a, a < 3 → ∀ b, b < 3 → a ≠ b → (TX9 a).2.1 ≠ (TX9 b).2.1 := by decide +kernel
theorem tyX9_ok : ∀ k, k < 3 → parseFieldDescriptor (TX9 k).2.2.1 = some (tyX9 k) := by decide +kernel
abbrev cX9_init : ByteArray := prog_11_method_1_code
def yX9_init : MethodName := ⟨RX9, "<init>", "()V"⟩
abbrev cX9_clear : ByteArray := prog_11_method_2_code
def yX9_clear : MethodName := ⟨RX9, "clear", "()V"⟩
abbrev cX9_hold : ByteArray := prog_11_method_3_code
def yX9_hold : MethodName := ⟨RX9, "hold", "(LTithedThoughts$State;)V"⟩
abbrev cX9_takeBack : ByteArray := prog_11_method_4_code
def yX9_takeBack : MethodName := ⟨RX9, "takeBack", "(LTithedThoughts$State;)Z"⟩
def RX10 : String := "TithedThoughts$Word"
def TX10 : u_T := fun k => match k with
  | _ => ("", "", "", false)
def tyX10 : Nat → FieldType := fun k => match k with
  | _ => .int
abbrev wsX100 : List Cond := u_ws RX10 TX10 0
theorem nmX10 : ∀ a, a < 0 → ∀ b, b < 0 → a ≠ b → (TX10 a).2.1 ≠ (TX10 b).2.1 := by decide +kernel
theorem tyX10_ok : ∀ k, k < 0 → parseFieldDescriptor (TX10 k).2.2.1 = some (tyX10 k) := by decide +kernel
abbrev cX10_of : ByteArray := prog_12_method_4_code
def yX10_of : MethodName := ⟨RX10, "of", "(J)LTithedThoughts$Word;"⟩
abbrev cX10_isKind : ByteArray := prog_12_method_5_code
def yX10_isKind : MethodName := ⟨RX10, "isKind", "()Z"⟩
abbrev cX10_isFact : ByteArray := prog_12_method_6_code
def yX10_isFact : MethodName := ⟨RX10, "isFact", "()Z"⟩
abbrev cX10_isDeed : ByteArray := prog_12_method_7_code
def yX10_isDeed : MethodName := ⟨RX10, "isDeed", "()Z"⟩
def RX11 : String := "TithedThoughts"
def TX11 : u_T := fun k => match k with
  | 0 => ("TithedThoughts", "tape", "LTithedThoughts$Tokens;", true)
  | 1 => ("TithedThoughts", "undone", "LTithedThoughts$Undone;", true)
  | 2 => ("TithedThoughts", "now", "LTithedThoughts$Page;", true)
  | 3 => ("TithedThoughts", "marks", "[LTithedThoughts$Page;", true)
  | 4 => ("TithedThoughts", "course", "LTithedThoughts$Course;", true)
  | 5 => ("TithedThoughts", "spread", "LTithedThoughts$Spread;", true)
  | 6 => ("TithedThoughts", "bestRow", "LTithedThoughts$BestRow;", true)
  | 7 => ("TithedThoughts", "pairs", "LTithedThoughts$Pairs;", true)
  | 8 => ("TithedThoughts", "reader", "LTithedThoughts$Reader;", true)
  | 9 => ("TithedThoughts", "told", "LTithedThoughts$Abbey;", false)
  | _ => ("TithedThoughts", "draft", "LTithedThoughts$Abbey;", false)
def tyX11 : Nat → FieldType := fun k => match k with
  | 0 => .object "TithedThoughts$Tokens"
  | 1 => .object "TithedThoughts$Undone"
  | 2 => .object "TithedThoughts$Page"
  | 3 => .array (.object "TithedThoughts$Page")
  | 4 => .object "TithedThoughts$Course"
  | 5 => .object "TithedThoughts$Spread"
  | 6 => .object "TithedThoughts$BestRow"
  | 7 => .object "TithedThoughts$Pairs"
  | 8 => .object "TithedThoughts$Reader"
  | 9 => .object "TithedThoughts$Abbey"
  | _ => .object "TithedThoughts$Abbey"
abbrev wsX110 : List Cond := u_ws RX11 TX11 11
theorem nmX11 : ∀ a, a < 11 → ∀ b, b < 11 → a ≠ b → (TX11 a).2.1 ≠ (TX11 b).2.1 := by decide +kernel
theorem tyX11_ok : ∀ k, k < 11 → parseFieldDescriptor (TX11 k).2.2.1 = some (tyX11 k) := by decide +kernel
abbrev cX11_init : ByteArray := prog_1_method_1_code
def yX11_init : MethodName := ⟨RX11, "<init>", "()V"⟩
abbrev cX11_feed : ByteArray := prog_1_method_2_code
def yX11_feed : MethodName := ⟨RX11, "feed", "(JJJ)I"⟩
abbrev cX11_abbey : ByteArray := prog_1_method_3_code
def yX11_abbey : MethodName := ⟨RX11, "abbey", "()I"⟩
abbrev cX11_years : ByteArray := prog_1_method_4_code
def yX11_years : MethodName := ⟨RX11, "years", "()I"⟩
abbrev cX11_beginAnew : ByteArray := prog_1_method_5_code
def yX11_beginAnew : MethodName := ⟨RX11, "beginAnew", "()V"⟩
abbrev cX11_isThought : ByteArray := prog_1_method_6_code
def yX11_isThought : MethodName := ⟨RX11, "isThought", "(I)Z"⟩
abbrev cX11_isTenant : ByteArray := prog_1_method_7_code
def yX11_isTenant : MethodName := ⟨RX11, "isTenant", "(I)Z"⟩
abbrev cX11_areBoth : ByteArray := prog_1_method_8_code
def yX11_areBoth : MethodName := ⟨RX11, "areBoth", "(II)Z"⟩
abbrev cX11_thought : ByteArray := prog_1_method_9_code
def yX11_thought : MethodName := ⟨RX11, "thought", "(II)I"⟩
abbrev cX11_tenant : ByteArray := prog_1_method_10_code
def yX11_tenant : MethodName := ⟨RX11, "tenant", "(II)I"⟩
abbrev cX11_keeps : ByteArray := prog_1_method_11_code
def yX11_keeps : MethodName := ⟨RX11, "keeps", "(II)I"⟩
abbrev cX11_count : ByteArray := prog_1_method_12_code
def yX11_count : MethodName := ⟨RX11, "count", "(I)I"⟩
abbrev cX11_worthInBarn : ByteArray := prog_1_method_13_code
def yX11_worthInBarn : MethodName := ⟨RX11, "worthInBarn", "()I"⟩
abbrev cX11_think : ByteArray := prog_1_method_14_code
def yX11_think : MethodName := ⟨RX11, "think", "(II)I"⟩
abbrev cX11_gate : ByteArray := prog_1_method_15_code
def yX11_gate : MethodName := ⟨RX11, "gate", "(I)I"⟩
abbrev cX11_pool : ByteArray := prog_1_method_16_code
def yX11_pool : MethodName := ⟨RX11, "pool", "(II)Z"⟩
abbrev cX11_undo : ByteArray := prog_1_method_17_code
def yX11_undo : MethodName := ⟨RX11, "undo", "()Z"⟩
abbrev cX11_mark : ByteArray := prog_1_method_18_code
def yX11_mark : MethodName := ⟨RX11, "mark", "(IZ)Z"⟩
abbrev cX11_judged : ByteArray := prog_1_method_19_code
def yX11_judged : MethodName := ⟨RX11, "judged", "(I)I"⟩
abbrev cX11_other : ByteArray := prog_1_method_20_code
def yX11_other : MethodName := ⟨RX11, "other", "(I)I"⟩
abbrev cX11_lives : ByteArray := prog_1_method_21_code
def yX11_lives : MethodName := ⟨RX11, "lives", "(III)I"⟩
abbrev cX11_best : ByteArray := prog_1_method_22_code
def yX11_best : MethodName := ⟨RX11, "best", "(III)I"⟩
abbrev cX11_tithed : ByteArray := prog_1_method_23_code
def yX11_tithed : MethodName := ⟨RX11, "tithed", "(II)I"⟩
abbrev cX11_ways : ByteArray := prog_1_method_24_code
def yX11_ways : MethodName := ⟨RX11, "ways", "(III)I"⟩
abbrev cX11_chance : ByteArray := prog_1_method_25_code
def yX11_chance : MethodName := ⟨RX11, "chance", "(II)I"⟩
abbrev cX11_safe : ByteArray := prog_1_method_26_code
def yX11_safe : MethodName := ⟨RX11, "safe", "(I)I"⟩
abbrev cX11_dead : ByteArray := prog_1_method_27_code
def yX11_dead : MethodName := ⟨RX11, "dead", "()I"⟩
abbrev cX11_ring : ByteArray := prog_1_method_28_code
def yX11_ring : MethodName := ⟨RX11, "ring", "(I)I"⟩
abbrev cX11_holders : ByteArray := prog_1_method_29_code
def yX11_holders : MethodName := ⟨RX11, "holders", "(I)I"⟩
abbrev cX11_lacks : ByteArray := prog_1_method_30_code
def yX11_lacks : MethodName := ⟨RX11, "lacks", "()I"⟩
abbrev cX11_givers : ByteArray := prog_1_method_31_code
def yX11_givers : MethodName := ⟨RX11, "givers", "()I"⟩
abbrev cX11_partBit : ByteArray := prog_1_method_32_code
def yX11_partBit : MethodName := ⟨RX11, "partBit", "(I)I"⟩
abbrev cX11_keptParts : ByteArray := prog_1_method_33_code
def yX11_keptParts : MethodName := ⟨RX11, "keptParts", "(I)I"⟩
abbrev cX11_partsOfAll : ByteArray := prog_1_method_34_code
def yX11_partsOfAll : MethodName := ⟨RX11, "partsOfAll", "(I)I"⟩
abbrev cX11_dowry : ByteArray := prog_1_method_35_code
def yX11_dowry : MethodName := ⟨RX11, "dowry", "(I)I"⟩
abbrev cX11_poorest : ByteArray := prog_1_method_36_code
def yX11_poorest : MethodName := ⟨RX11, "poorest", "()I"⟩
abbrev cX11_match : ByteArray := prog_1_method_37_code
def yX11_match : MethodName := ⟨RX11, "match", "(I)I"⟩
abbrev cX11_guess : ByteArray := prog_1_method_38_code
def yX11_guess : MethodName := ⟨RX11, "guess", "(IZ)Z"⟩
abbrev cX11_fits : ByteArray := prog_1_method_39_code
def yX11_fits : MethodName := ⟨RX11, "fits", "()I"⟩
abbrev cX11_ask : ByteArray := prog_1_method_40_code
def yX11_ask : MethodName := ⟨RX11, "ask", "()I"⟩
abbrev cX11_rests : ByteArray := prog_1_method_41_code
def yX11_rests : MethodName := ⟨RX11, "rests", "(IIII)I"⟩
abbrev cX11_isStake : ByteArray := prog_1_method_42_code
def yX11_isStake : MethodName := ⟨RX11, "isStake", "(I)Z"⟩
abbrev cX11_isContent : ByteArray := prog_1_method_43_code
def yX11_isContent : MethodName := ⟨RX11, "isContent", "(IIIII)Z"⟩
abbrev cX11_gotBy : ByteArray := prog_1_method_44_code
def yX11_gotBy : MethodName := ⟨RX11, "gotBy", "(IIIII)I"⟩
abbrev cX11_isIn : ByteArray := prog_1_method_45_code
def yX11_isIn : MethodName := ⟨RX11, "isIn", "(II)Z"⟩
def RX12 : String := "TithedThoughtsModel"
def TX12 : u_T := fun k => match k with
  | 0 => ("TithedThoughtsModel", "thrown", "I", false)
  | 1 => ("TithedThoughtsModel", "taped", "I", false)
  | 2 => ("TithedThoughtsModel", "tape", "[I", true)
  | 3 => ("TithedThoughtsModel", "size", "I", false)
  | 4 => ("TithedThoughtsModel", "place", "I", false)
  | 5 => ("TithedThoughtsModel", "begin", "I", false)
  | 6 => ("TithedThoughtsModel", "token", "I", false)
  | 7 => ("TithedThoughtsModel", "word", "J", false)
  | 8 => ("TithedThoughtsModel", "told", "I", false)
  | 9 => ("TithedThoughtsModel", "wrong", "I", false)
  | 10 => ("TithedThoughtsModel", "abbey", "[I", true)
  | 11 => ("TithedThoughtsModel", "thoughtName", "[J", true)
  | 12 => ("TithedThoughtsModel", "tenantName", "[J", true)
  | 13 => ("TithedThoughtsModel", "worthOf", "[I", true)
  | 14 => ("TithedThoughtsModel", "part", "[I", true)
  | 15 => ("TithedThoughtsModel", "behind", "[I", true)
  | 16 => ("TithedThoughtsModel", "kind", "[I", true)
  | 17 => ("TithedThoughtsModel", "lineFrom", "[I", true)
  | 18 => ("TithedThoughtsModel", "lineTo", "[I", true)
  | 19 => ("TithedThoughtsModel", "codes", "[I", true)
  | 20 => ("TithedThoughtsModel", "code", "I", false)
  | 21 => ("TithedThoughtsModel", "toldLines", "I", false)
  | 22 => ("TithedThoughtsModel", "opened", "[I", true)
  | 23 => ("TithedThoughtsModel", "compared", "[Z", true)
  | 24 => ("TithedThoughtsModel", "kept", "[I", true)
  | 25 => ("TithedThoughtsModel", "keptBy", "[I", true)
  | 26 => ("TithedThoughtsModel", "ahead", "[I", true)
  | 27 => ("TithedThoughtsModel", "against", "[I", true)
  | 28 => ("TithedThoughtsModel", "sum", "[I", true)
  | 29 => ("TithedThoughtsModel", "sumBy", "[I", true)
  | 30 => ("TithedThoughtsModel", "term", "[I", true)
  | 31 => ("TithedThoughtsModel", "termBy", "[I", true)
  | 32 => ("TithedThoughtsModel", "byNot", "[I", true)
  | 33 => ("TithedThoughtsModel", "valueOf", "[I", true)
  | 34 => ("TithedThoughtsModel", "given", "I", false)
  | 35 => ("TithedThoughtsModel", "fresh", "J", false)
  | 36 => ("TithedThoughtsModel", "lines", "[I", true)
  | 37 => ("TithedThoughtsModel", "lineWhat", "[I", true)
  | 38 => ("TithedThoughtsModel", "lineA", "[I", true)
  | 39 => ("TithedThoughtsModel", "lineB", "[I", true)
  | 40 => ("TithedThoughtsModel", "guesses", "[I", true)
  | 41 => ("TithedThoughtsModel", "guessOf", "[I", true)
  | 42 => ("TithedThoughtsModel", "guessMay", "[Z", true)
  | 43 => ("TithedThoughtsModel", "s", "[I", true)
  | 44 => ("TithedThoughtsModel", "aside", "[I", true)
  | 45 => ("TithedThoughtsModel", "tried", "[I", true)
  | 46 => ("TithedThoughtsModel", "marked", "[I", true)
  | 47 => ("TithedThoughtsModel", "undone", "[I", true)
  | 48 => ("TithedThoughtsModel", "isLaid", "[Z", true)
  | 49 => ("TithedThoughtsModel", "done", "I", false)
  | 50 => ("TithedThoughtsModel", "titheNow", "I", false)
  | 51 => ("TithedThoughtsModel", "badLine", "I", false)
  | 52 => ("TithedThoughtsModel", "firstLine", "I", false)
  | 53 => ("TithedThoughtsModel", "titheMany", "I", false)
  | 54 => ("TithedThoughtsModel", "gainedLast", "I", false)
  | 55 => ("TithedThoughtsModel", "row", "[I", true)
  | 56 => ("TithedThoughtsModel", "bestRow", "[I", true)
  | 57 => ("TithedThoughtsModel", "isFound", "Z", false)
  | 58 => ("TithedThoughtsModel", "mostGained", "I", false)
  | 59 => ("TithedThoughtsModel", "has", "[I", true)
  | 60 => ("TithedThoughtsModel", "with", "[I", true)
  | 61 => ("TithedThoughtsModel", "bestWith", "[I", true)
  | 62 => ("TithedThoughtsModel", "mostMatched", "I", false)
  | _ => ("TithedThoughtsModel", "g", "J", false)
def tyX12 : Nat → FieldType := fun k => match k with
  | 0 => .int
  | 1 => .int
  | 2 => .array .int
  | 3 => .int
  | 4 => .int
  | 5 => .int
  | 6 => .int
  | 7 => .long
  | 8 => .int
  | 9 => .int
  | 10 => .array .int
  | 11 => .array .long
  | 12 => .array .long
  | 13 => .array .int
  | 14 => .array .int
  | 15 => .array .int
  | 16 => .array .int
  | 17 => .array .int
  | 18 => .array .int
  | 19 => .array .int
  | 20 => .int
  | 21 => .int
  | 22 => .array .int
  | 23 => .array .boolean
  | 24 => .array .int
  | 25 => .array .int
  | 26 => .array .int
  | 27 => .array .int
  | 28 => .array .int
  | 29 => .array .int
  | 30 => .array .int
  | 31 => .array .int
  | 32 => .array .int
  | 33 => .array .int
  | 34 => .int
  | 35 => .long
  | 36 => .array .int
  | 37 => .array .int
  | 38 => .array .int
  | 39 => .array .int
  | 40 => .array .int
  | 41 => .array .int
  | 42 => .array .boolean
  | 43 => .array .int
  | 44 => .array .int
  | 45 => .array .int
  | 46 => .array .int
  | 47 => .array .int
  | 48 => .array .boolean
  | 49 => .int
  | 50 => .int
  | 51 => .int
  | 52 => .int
  | 53 => .int
  | 54 => .int
  | 55 => .array .int
  | 56 => .array .int
  | 57 => .boolean
  | 58 => .int
  | 59 => .array .int
  | 60 => .array .int
  | 61 => .array .int
  | 62 => .int
  | _ => .long
abbrev wsX120 : List Cond := u_ws RX12 TX12 64
theorem nmX12 : ∀ a, a < 64 → ∀ b, b < 64 → a ≠ b → (TX12 a).2.1 ≠ (TX12 b).2.1 := by decide +kernel
theorem tyX12_ok : ∀ k, k < 64 → parseFieldDescriptor (TX12 k).2.2.1 = some (tyX12 k) := by decide +kernel
abbrev cX12_init : ByteArray := prog_14_method_1_code
def yX12_init : MethodName := ⟨RX12, "<init>", "()V"⟩
abbrev cX12_thrown : ByteArray := prog_14_method_2_code
def yX12_thrown : MethodName := ⟨RX12, "thrown", "()I"⟩
abbrev cX12_within : ByteArray := prog_14_method_3_code
def yX12_within : MethodName := ⟨RX12, "within", "(III)Z"⟩
abbrev cX12_between : ByteArray := prog_14_method_4_code
def yX12_between : MethodName := ⟨RX12, "between", "(III)I"⟩
abbrev cX12_bits : ByteArray := prog_14_method_5_code
def yX12_bits : MethodName := ⟨RX12, "bits", "(I)I"⟩
abbrev cX12_feed : ByteArray := prog_14_method_6_code
def yX12_feed : MethodName := ⟨RX12, "feed", "(JJJ)I"⟩
abbrev cX12_signAt : ByteArray := prog_14_method_7_code
def yX12_signAt : MethodName := ⟨RX12, "signAt", "(I)I"⟩
abbrev cX12_nextToken : ByteArray := prog_14_method_8_code
def yX12_nextToken : MethodName := ⟨RX12, "nextToken", "()V"⟩
abbrev cX12_isWord : ByteArray := prog_14_method_9_code
def yX12_isWord : MethodName := ⟨RX12, "isWord", "(J)Z"⟩
abbrev cX12_isSign : ByteArray := prog_14_method_10_code
def yX12_isSign : MethodName := ⟨RX12, "isSign", "(I)Z"⟩
abbrev cX12_fails : ByteArray := prog_14_method_11_code
def yX12_fails : MethodName := ⟨RX12, "fails", "(I)Z"⟩
abbrev cX12_usual : ByteArray := prog_14_method_12_code
def yX12_usual : MethodName := ⟨RX12, "usual", "(I)V"⟩
abbrev cX12_puts : ByteArray := prog_14_method_13_code
def yX12_puts : MethodName := ⟨RX12, "puts", "(I)V"⟩
abbrev cX12_fact : ByteArray := prog_14_method_14_code
def yX12_fact : MethodName := ⟨RX12, "fact", "()I"⟩
abbrev cX12_reads : ByteArray := prog_14_method_15_code
def yX12_reads : MethodName := ⟨RX12, "reads", "()Z"⟩
abbrev cX12_opens : ByteArray := prog_14_method_16_code
def yX12_opens : MethodName := ⟨RX12, "opens", "(I)V"⟩
abbrev cX12_sums : ByteArray := prog_14_method_17_code
def yX12_sums : MethodName := ⟨RX12, "sums", "(I)V"⟩
abbrev cX12_tests : ByteArray := prog_14_method_18_code
def yX12_tests : MethodName := ⟨RX12, "tests", "(I)V"⟩
abbrev cX12_worked : ByteArray := prog_14_method_19_code
def yX12_worked : MethodName := ⟨RX12, "worked", "(I)I"⟩
abbrev cX12_isKept : ByteArray := prog_14_method_20_code
def yX12_isKept : MethodName := ⟨RX12, "isKept", "()Z"⟩
abbrev cX12_thoughtNamed : ByteArray := prog_14_method_21_code
def yX12_thoughtNamed : MethodName := ⟨RX12, "thoughtNamed", "(I)I"⟩
abbrev cX12_tenantNamed : ByteArray := prog_14_method_22_code
def yX12_tenantNamed : MethodName := ⟨RX12, "tenantNamed", "(I)I"⟩
abbrev cX12_needsNumber : ByteArray := prog_14_method_23_code
def yX12_needsNumber : MethodName := ⟨RX12, "needsNumber", "(II)Z"⟩
abbrev cX12_needsBoth : ByteArray := prog_14_method_24_code
def yX12_needsBoth : MethodName := ⟨RX12, "needsBoth", "(JII)Z"⟩
abbrev cX12_closes : ByteArray := prog_14_method_25_code
def yX12_closes : MethodName := ⟨RX12, "closes", "()Z"⟩
abbrev cX12_needsNew : ByteArray := prog_14_method_26_code
def yX12_needsNew : MethodName := ⟨RX12, "needsNew", "()Z"⟩
abbrev cX12_needsThought : ByteArray := prog_14_method_27_code
def yX12_needsThought : MethodName := ⟨RX12, "needsThought", "(I)Z"⟩
abbrev cX12_readsThought : ByteArray := prog_14_method_28_code
def yX12_readsThought : MethodName := ⟨RX12, "readsThought", "()Z"⟩
abbrev cX12_readsFollows : ByteArray := prog_14_method_29_code
def yX12_readsFollows : MethodName := ⟨RX12, "readsFollows", "()Z"⟩
abbrev cX12_readsTenant : ByteArray := prog_14_method_30_code
def yX12_readsTenant : MethodName := ⟨RX12, "readsTenant", "()Z"⟩
abbrev cX12_readsOne : ByteArray := prog_14_method_31_code
def yX12_readsOne : MethodName := ⟨RX12, "readsOne", "(III)Z"⟩
abbrev cX12_readsLaw : ByteArray := prog_14_method_32_code
def yX12_readsLaw : MethodName := ⟨RX12, "readsLaw", "(I)Z"⟩
abbrev cX12_begins : ByteArray := prog_14_method_33_code
def yX12_begins : MethodName := ⟨RX12, "begins", "()V"⟩
abbrev cX12_readsAll : ByteArray := prog_14_method_34_code
def yX12_readsAll : MethodName := ⟨RX12, "readsAll", "()Z"⟩
abbrev cX12_shifts : ByteArray := prog_14_method_35_code
def yX12_shifts : MethodName := ⟨RX12, "shifts", "([II)V"⟩
abbrev cX12_shiftsNames : ByteArray := prog_14_method_36_code
def yX12_shiftsNames : MethodName := ⟨RX12, "shiftsNames", "([JI)V"⟩
abbrev cX12_lays : ByteArray := prog_14_method_37_code
def yX12_lays : MethodName := ⟨RX12, "lays", "()V"⟩
abbrev cX12_copies : ByteArray := prog_14_method_38_code
def yX12_copies : MethodName := ⟨RX12, "copies", "([II[II)V"⟩
abbrev cX12_readsLine : ByteArray := prog_14_method_39_code
def yX12_readsLine : MethodName := ⟨RX12, "readsLine", "()Z"⟩
abbrev cX12_laysLines : ByteArray := prog_14_method_40_code
def yX12_laysLines : MethodName := ⟨RX12, "laysLines", "(II)V"⟩
abbrev cX12_laysGuesses : ByteArray := prog_14_method_41_code
def yX12_laysGuesses : MethodName := ⟨RX12, "laysGuesses", "(II)V"⟩
abbrev cX12_fresh : ByteArray := prog_14_method_42_code
def yX12_fresh : MethodName := ⟨RX12, "fresh", "()V"⟩
abbrev cX12_abbey : ByteArray := prog_14_method_43_code
def yX12_abbey : MethodName := ⟨RX12, "abbey", "()I"⟩
abbrev cX12_years : ByteArray := prog_14_method_44_code
def yX12_years : MethodName := ⟨RX12, "years", "()I"⟩
abbrev cX12_isThought : ByteArray := prog_14_method_45_code
def yX12_isThought : MethodName := ⟨RX12, "isThought", "(I)Z"⟩
abbrev cX12_isTenant : ByteArray := prog_14_method_46_code
def yX12_isTenant : MethodName := ⟨RX12, "isTenant", "(I)Z"⟩
abbrev cX12_of : ByteArray := prog_14_method_47_code
def yX12_of : MethodName := ⟨RX12, "of", "(II)I"⟩
abbrev cX12_all : ByteArray := prog_14_method_48_code
def yX12_all : MethodName := ⟨RX12, "all", "()I"⟩
abbrev cX12_behindHis : ByteArray := prog_14_method_49_code
def yX12_behindHis : MethodName := ⟨RX12, "behindHis", "(I)I"⟩
abbrev cX12_hasRun : ByteArray := prog_14_method_50_code
def yX12_hasRun : MethodName := ⟨RX12, "hasRun", "(I)Z"⟩
abbrev cX12_mayThink : ByteArray := prog_14_method_51_code
def yX12_mayThink : MethodName := ⟨RX12, "mayThink", "(I)I"⟩
abbrev cX12_inBarn : ByteArray := prog_14_method_52_code
def yX12_inBarn : MethodName := ⟨RX12, "inBarn", "()I"⟩
abbrev cX12_gainsBy : ByteArray := prog_14_method_53_code
def yX12_gainsBy : MethodName := ⟨RX12, "gainsBy", "(III)V"⟩
abbrev cX12_least : ByteArray := prog_14_method_54_code
def yX12_least : MethodName := ⟨RX12, "least", "(II)I"⟩
abbrev cX12_thinks : ByteArray := prog_14_method_55_code
def yX12_thinks : MethodName := ⟨RX12, "thinks", "(II)I"⟩
abbrev cX12_turnsBack : ByteArray := prog_14_method_56_code
def yX12_turnsBack : MethodName := ⟨RX12, "turnsBack", "(I)I"⟩
abbrev cX12_canPool : ByteArray := prog_14_method_57_code
def yX12_canPool : MethodName := ⟨RX12, "canPool", "(II)Z"⟩
abbrev cX12_pools : ByteArray := prog_14_method_58_code
def yX12_pools : MethodName := ⟨RX12, "pools", "(II)V"⟩
abbrev cX12_whoRan : ByteArray := prog_14_method_59_code
def yX12_whoRan : MethodName := ⟨RX12, "whoRan", "()I"⟩
abbrev cX12_gainedByAll : ByteArray := prog_14_method_60_code
def yX12_gainedByAll : MethodName := ⟨RX12, "gainedByAll", "()I"⟩
abbrev cX12_thought : ByteArray := prog_14_method_61_code
def yX12_thought : MethodName := ⟨RX12, "thought", "(II)I"⟩
abbrev cX12_tenant : ByteArray := prog_14_method_62_code
def yX12_tenant : MethodName := ⟨RX12, "tenant", "(II)I"⟩
abbrev cX12_keeps : ByteArray := prog_14_method_63_code
def yX12_keeps : MethodName := ⟨RX12, "keeps", "(II)I"⟩
abbrev cX12_keepsRow : ByteArray := prog_14_method_64_code
def yX12_keepsRow : MethodName := ⟨RX12, "keepsRow", "()V"⟩
abbrev cX12_think : ByteArray := prog_14_method_65_code
def yX12_think : MethodName := ⟨RX12, "think", "(II)I"⟩
abbrev cX12_gate : ByteArray := prog_14_method_66_code
def yX12_gate : MethodName := ⟨RX12, "gate", "(I)I"⟩
abbrev cX12_pool : ByteArray := prog_14_method_67_code
def yX12_pool : MethodName := ⟨RX12, "pool", "(II)Z"⟩
abbrev cX12_undo : ByteArray := prog_14_method_68_code
def yX12_undo : MethodName := ⟨RX12, "undo", "()Z"⟩
abbrev cX12_goes : ByteArray := prog_14_method_69_code
def yX12_goes : MethodName := ⟨RX12, "goes", "(I)Z"⟩
abbrev cX12_judges : ByteArray := prog_14_method_70_code
def yX12_judges : MethodName := ⟨RX12, "judges", "(I)V"⟩
abbrev cX12_judged : ByteArray := prog_14_method_71_code
def yX12_judged : MethodName := ⟨RX12, "judged", "(I)I"⟩
abbrev cX12_other : ByteArray := prog_14_method_72_code
def yX12_other : MethodName := ⟨RX12, "other", "(I)I"⟩
abbrev cX12_tries : ByteArray := prog_14_method_73_code
def yX12_tries : MethodName := ⟨RX12, "tries", "(III)V"⟩
abbrev cX12_best : ByteArray := prog_14_method_74_code
def yX12_best : MethodName := ⟨RX12, "best", "(III)I"⟩
abbrev cX12_allBehind : ByteArray := prog_14_method_75_code
def yX12_allBehind : MethodName := ⟨RX12, "allBehind", "(I)I"⟩
abbrev cX12_tithed : ByteArray := prog_14_method_76_code
def yX12_tithed : MethodName := ⟨RX12, "tithed", "(II)I"⟩
abbrev cX12_ways : ByteArray := prog_14_method_77_code
def yX12_ways : MethodName := ⟨RX12, "ways", "(III)I"⟩
abbrev cX12_sharesOut : ByteArray := prog_14_method_78_code
def yX12_sharesOut : MethodName := ⟨RX12, "sharesOut", "(II)V"⟩
abbrev cX12_chance : ByteArray := prog_14_method_79_code
def yX12_chance : MethodName := ⟨RX12, "chance", "(II)I"⟩
abbrev cX12_lacking : ByteArray := prog_14_method_80_code
def yX12_lacking : MethodName := ⟨RX12, "lacking", "()I"⟩
abbrev cX12_partsOf : ByteArray := prog_14_method_81_code
def yX12_partsOf : MethodName := ⟨RX12, "partsOf", "(I)I"⟩
abbrev cX12_lacks : ByteArray := prog_14_method_82_code
def yX12_lacks : MethodName := ⟨RX12, "lacks", "()I"⟩
abbrev cX12_givers : ByteArray := prog_14_method_83_code
def yX12_givers : MethodName := ⟨RX12, "givers", "()I"⟩
abbrev cX12_dowryOf : ByteArray := prog_14_method_84_code
def yX12_dowryOf : MethodName := ⟨RX12, "dowryOf", "(I)I"⟩
abbrev cX12_dowry : ByteArray := prog_14_method_85_code
def yX12_dowry : MethodName := ⟨RX12, "dowry", "(I)I"⟩
abbrev cX12_safe : ByteArray := prog_14_method_86_code
def yX12_safe : MethodName := ⟨RX12, "safe", "(I)I"⟩
abbrev cX12_holders : ByteArray := prog_14_method_87_code
def yX12_holders : MethodName := ⟨RX12, "holders", "(I)I"⟩
abbrev cX12_poorest : ByteArray := prog_14_method_88_code
def yX12_poorest : MethodName := ⟨RX12, "poorest", "()I"⟩
abbrev cX12_matches : ByteArray := prog_14_method_89_code
def yX12_matches : MethodName := ⟨RX12, "matches", "(III)V"⟩
abbrev cX12_match : ByteArray := prog_14_method_90_code
def yX12_match : MethodName := ⟨RX12, "match", "(I)I"⟩
abbrev cX12_guess : ByteArray := prog_14_method_91_code
def yX12_guess : MethodName := ⟨RX12, "guess", "(IZ)Z"⟩
abbrev cX12_fitting : ByteArray := prog_14_method_92_code
def yX12_fitting : MethodName := ⟨RX12, "fitting", "()I"⟩
abbrev cX12_fits : ByteArray := prog_14_method_93_code
def yX12_fits : MethodName := ⟨RX12, "fits", "()I"⟩
abbrev cX12_ask : ByteArray := prog_14_method_94_code
def yX12_ask : MethodName := ⟨RX12, "ask", "()I"⟩
abbrev cX12_dead : ByteArray := prog_14_method_95_code
def yX12_dead : MethodName := ⟨RX12, "dead", "()I"⟩
abbrev cX12_ring : ByteArray := prog_14_method_96_code
def yX12_ring : MethodName := ⟨RX12, "ring", "(I)I"⟩
abbrev cX12_getsBy : ByteArray := prog_14_method_97_code
def yX12_getsBy : MethodName := ⟨RX12, "getsBy", "(IIIII)I"⟩
abbrev cX12_rests : ByteArray := prog_14_method_98_code
def yX12_rests : MethodName := ⟨RX12, "rests", "(IIII)I"⟩
abbrev cX12_draws : ByteArray := prog_14_method_99_code
def yX12_draws : MethodName := ⟨RX12, "draws", "(I)I"⟩
abbrev cX12_livesStep : ByteArray := prog_14_method_100_code
def yX12_livesStep : MethodName := ⟨RX12, "livesStep", "()I"⟩
abbrev cX12_lives : ByteArray := prog_14_method_101_code
def yX12_lives : MethodName := ⟨RX12, "lives", "(III)I"⟩
abbrev cX12_mark : ByteArray := prog_14_method_102_code
def yX12_mark : MethodName := ⟨RX12, "mark", "(IZ)Z"⟩
abbrev cX12_worthInBarn : ByteArray := prog_14_method_103_code
def yX12_worthInBarn : MethodName := ⟨RX12, "worthInBarn", "()I"⟩
abbrev cX12_count : ByteArray := prog_14_method_104_code
def yX12_count : MethodName := ⟨RX12, "count", "(I)I"⟩
def RJx145de : String := "java/io/Serializable"
def TJx145de : u_T := fun k => match k with
  | _ => ("", "", "", false)
def tyJx145de : Nat → FieldType := fun k => match k with
  | _ => .int
abbrev wsJx145de0 : List Cond := u_ws RJx145de TJx145de 0
theorem nmJx145de : ∀ a, a < 0 → ∀ b, b < 0 → a ≠ b → (TJx145de a).2.1 ≠ (TJx145de b).2.1 := by decide +kernel
theorem tyJx145de_ok : ∀ k, k < 0 → parseFieldDescriptor (TJx145de k).2.2.1 = some (tyJx145de k) := by decide +kernel
def RJx29ce0 : String := "java/lang/Enum"
def TJx29ce0 : u_T := fun k => match k with
  | _ => ("", "", "", false)
def tyJx29ce0 : Nat → FieldType := fun k => match k with
  | _ => .int
abbrev wsJx29ce00 : List Cond := u_ws RJx29ce0 TJx29ce0 0
theorem nmJx29ce0 : ∀ a, a < 0 → ∀ b, b < 0 → a ≠ b → (TJx29ce0 a).2.1 ≠ (TJx29ce0 b).2.1 := by decide +kernel
theorem tyJx29ce0_ok : ∀ k, k < 0 → parseFieldDescriptor (TJx29ce0 k).2.2.1 = some (tyJx29ce0 k) := by decide +kernel
def RJ6 : String := "java/lang/Integer"
def TJ6 : u_T := fun k => match k with
  | _ => ("", "", "", false)
def tyJ6 : Nat → FieldType := fun k => match k with
  | _ => .int
abbrev wsJ60 : List Cond := u_ws RJ6 TJ6 0
theorem nmJ6 : ∀ a, a < 0 → ∀ b, b < 0 → a ≠ b → (TJ6 a).2.1 ≠ (TJ6 b).2.1 := by decide +kernel
theorem tyJ6_ok : ∀ k, k < 0 → parseFieldDescriptor (TJ6 k).2.2.1 = some (tyJ6 k) := by decide +kernel
abbrev cJ6_bitCount_0f7a4 : ByteArray := prog_18_method_49_code
def yJ6_bitCount_0f7a4 : MethodName := ⟨RJ6, "bitCount", "(I)I"⟩
def RJ9 : String := "java/lang/Math"
def TJ9 : u_T := fun k => match k with
  | _ => ("", "", "", false)
def tyJ9 : Nat → FieldType := fun k => match k with
  | _ => .int
abbrev wsJ90 : List Cond := u_ws RJ9 TJ9 0
theorem nmJ9 : ∀ a, a < 0 → ∀ b, b < 0 → a ≠ b → (TJ9 a).2.1 ≠ (TJ9 b).2.1 := by decide +kernel
theorem tyJ9_ok : ∀ k, k < 0 → parseFieldDescriptor (TJ9 k).2.2.1 = some (tyJ9 k) := by decide +kernel
abbrev cJ9_max_7cf53 : ByteArray := prog_19_method_65_code
def yJ9_max_7cf53 : MethodName := ⟨RJ9, "max", "(II)I"⟩
abbrev cJ9_min_7cf53 : ByteArray := prog_19_method_69_code
def yJ9_min_7cf53 : MethodName := ⟨RJ9, "min", "(II)I"⟩
def RJ10 : String := "java/lang/System"
def TJ10 : u_T := fun k => match k with
  | _ => ("", "", "", false)
def tyJ10 : Nat → FieldType := fun k => match k with
  | _ => .int
abbrev wsJ100 : List Cond := u_ws RJ10 TJ10 0
theorem nmJ10 : ∀ a, a < 0 → ∀ b, b < 0 → a ≠ b → (TJ10 a).2.1 ≠ (TJ10 b).2.1 := by decide +kernel
theorem tyJ10_ok : ∀ k, k < 0 → parseFieldDescriptor (TJ10 k).2.2.1 = some (tyJ10 k) := by decide +kernel
def RJ7 : String := "java/util/Arrays"
def TJ7 : u_T := fun k => match k with
  | _ => ("", "", "", false)
def tyJ7 : Nat → FieldType := fun k => match k with
  | _ => .int
abbrev wsJ70 : List Cond := u_ws RJ7 TJ7 0
theorem nmJ7 : ∀ a, a < 0 → ∀ b, b < 0 → a ≠ b → (TJ7 a).2.1 ≠ (TJ7 b).2.1 := by decide +kernel
theorem tyJ7_ok : ∀ k, k < 0 → parseFieldDescriptor (TJ7 k).2.2.1 = some (tyJ7 k) := by decide +kernel
abbrev cJ7_fill_d0a16 : ByteArray := prog_23_method_101_code
def yJ7_fill_d0a16 : MethodName := ⟨RJ7, "fill", "([JJ)V"⟩
abbrev cJ7_fill_53178 : ByteArray := prog_23_method_103_code
def yJ7_fill_53178 : MethodName := ⟨RJ7, "fill", "([II)V"⟩
def RL : String := "TithedThoughtsLaw"
abbrev cL_judged : ByteArray := method_3_code
def yL_judged : MethodName := ⟨RL, "judged", "(LTithedThoughts;I[J)I"⟩
abbrev cL_best : ByteArray := method_4_code
def yL_best : MethodName := ⟨RL, "best", "(LTithedThoughts;III[J)I"⟩
abbrev cL_rests : ByteArray := method_5_code
def yL_rests : MethodName := ⟨RL, "rests", "(LTithedThoughts;IIII[J)I"⟩
abbrev cL_lives : ByteArray := method_6_code
def yL_lives : MethodName := ⟨RL, "lives", "(LTithedThoughts;III[J)I"⟩
abbrev cL_law : ByteArray := code
def yL_law : MethodName := ⟨RL, "law", "([I)Z"⟩
abbrev vwCl : List vw_C := [(RX0, TX0, 19), (RX1, TX1, 6), (RX2, TX2, 5), (RX3, TX3, 6), (RX4, TX4, 5), (RX5, TX5, 5), (RX6, TX6, 2), (RX7, TX7, 9), (RX8, TX8, 8), (RX9, TX9, 3), (RX11, TX11, 11), (RX12, TX12, 64)]
/-! ===== END printed: names ===== -/
end
section
/-! my own rows over the kit: one list of words for all methods, one bundle for what a method stands on, one form of contract -/
def kG : List Cond := lw_tbl.filter goodWord
def k_nest : Cond → Bool
  | .fieldLinkNest _ _ _ _ _ _ => true
  | .methodLinkNest _ _ _ _ => true
  | .castable _ _ => true
  | .arrayOver (.object _) => true
  | _ => false
def kN : List Cond := lw_tbl.filter k_nest
theorem kG_mk {w : Cond} (h : w ∈ lw_tbl) (hg : goodWord w = true) : w ∈ kG := List.mem_filter.mpr ⟨h, hg⟩
theorem kN_mk {w : Cond} (h : w ∈ lw_tbl) (hg : k_nest w = true) : w ∈ kN := List.mem_filter.mpr ⟨h, hg⟩
theorem kG_t {w : Cond} (i : Nat) (h : tables_1[i]? = some w) (hg : goodWord w = true) : w ∈ kG := kG_mk (List.mem_append_right _ (List.mem_of_getElem? h)) hg
theorem kG_p {w : Cond} (h : w ∈ k2_sels lw_privs) (hg : goodWord w = true) : w ∈ kG := kG_mk (List.mem_append_left _ h) hg
theorem kT_1 {w : Cond} (i : Nat) (h : tables_1_1[i]? = some w) : w ∈ lw_tbl := List.mem_append_right _ (List.mem_append_left _ (List.mem_of_getElem? h))
theorem kT_2 {w : Cond} (i : Nat) (h : tables_1_2[i]? = some w) : w ∈ lw_tbl := List.mem_append_right _ (List.mem_append_right _ (List.mem_append_left _ (List.mem_of_getElem? h)))
theorem kT_3 {w : Cond} (i : Nat) (h : tables_1_3[i]? = some w) : w ∈ lw_tbl := List.mem_append_right _ (List.mem_append_right _ (List.mem_append_right _ (List.mem_append_left _ (List.mem_of_getElem? h))))
theorem kT_4 {w : Cond} (i : Nat) (h : tables_1_4[i]? = some w) : w ∈ lw_tbl := List.mem_append_right _ (List.mem_append_right _ (List.mem_append_right _ (List.mem_append_right _ (List.mem_append_left _ (List.mem_of_getElem? h)))))
theorem kT_5 {w : Cond} (i : Nat) (h : tables_1_5[i]? = some w) : w ∈ lw_tbl := List.mem_append_right _ (List.mem_append_right _ (List.mem_append_right _ (List.mem_append_right _ (List.mem_append_right _ (List.mem_append_left _ (List.mem_of_getElem? h))))))
theorem kT_6 {w : Cond} (i : Nat) (h : tables_1_6[i]? = some w) : w ∈ lw_tbl := List.mem_append_right _ (List.mem_append_right _ (List.mem_append_right _ (List.mem_append_right _ (List.mem_append_right _ (List.mem_append_right _ (List.mem_append_left _ (List.mem_of_getElem? h)))))))
theorem kT_7 {w : Cond} (i : Nat) (h : tables_1_7[i]? = some w) : w ∈ lw_tbl := List.mem_append_right _ (List.mem_append_right _ (List.mem_append_right _ (List.mem_append_right _ (List.mem_append_right _ (List.mem_append_right _ (List.mem_append_right _ (List.mem_append_left _ (List.mem_of_getElem? h))))))))
theorem kT_8 {w : Cond} (i : Nat) (h : tables_1_8[i]? = some w) : w ∈ lw_tbl := List.mem_append_right _ (List.mem_append_right _ (List.mem_append_right _ (List.mem_append_right _ (List.mem_append_right _ (List.mem_append_right _ (List.mem_append_right _ (List.mem_append_right _ (List.mem_of_getElem? h))))))))
theorem kN_t {w : Cond} (i : Nat) (h : tables_1[i]? = some w) (hg : k_nest w = true) : w ∈ kN := kN_mk (List.mem_append_right _ (List.mem_of_getElem? h)) hg
theorem kG_good {w : Cond} (h : w ∈ kG) : (w.onTables && w.keeps) = true ∨ ∃ ty, w = .arrayClass ty := good_of_word (List.mem_filter.mp h).2
theorem kG_in {big : List Cond} (hb : ∀ w ∈ kG, w ∈ big) {ws : List Cond} (h : ∀ w ∈ ws, w ∈ kG) : GoodIn big ws := fun w hw => ⟨hb w (h w hw), kG_good (h w hw)⟩
/-- the tables of a world: classes, slots; the array classes; where the law's own cells begin; the word NOTHING -/
abbrev kΓ : Type := va_G × (Nat → ClassId) × Nat × Nat × (Nat → Nat)
abbrev kT (κ : Nat → ClassId) : List (ClassId × FieldType) := [(κ 0, .int), (κ 1, .long), (κ 2, .byte), (κ 3, .boolean), (κ 4, .object RX3), (κ 5, .object RX7)]
def kWn : List String := ["NOTHING", "NAME", "THOUGHT_WORD", "WORTH", "PART", "FOLLOWS", "TENANT", "TITHE", "RUNS", "ENGINE", "GAINS", "BACK", "THINK_WORD", "GATE_WORD", "POOL_WORD", "PLAIN_WORD", "SIMPLE_WORD", "CLEVER_WORD", "RUNNER_WORD", "NOT_WORD", "AND_WORD", "OR_WORD", "COUNTED_WORD", "RICH_WORD", "PIECE_WORD", "BARN_WORD"]
def kWl : List Int64 := [0, 0, 21759696148, 24627848, 525908, 6958759667, 676791764, 21287173, 611795, 182691269, 7382483, 66667, 21243339, 231045, 540140, 17171758, 647414149, 113432754, 626473138, 14836, 1476, 498, 3747041444, 599144, 17077349, 67150]
def kWm : List Int32 := [0, 1, 0, 0, 0, 0, 0, 0, 0, 0, 0, 0, 0, 0, 0, 0, 0, 0, 0, 0, 0, 0, 1, 1, 1, 1]
def kWv : List Int32 := [0, 0, 0, 0, 0, 0, 0, 1, 2, 4, 8, 16, 0, 1, 2, 0, 1, 2, 3, (-5), (-6), (-7), (-1), (-2), (-3), (-4)]
/-- the words: twenty-six constants, their letters, whether they may name, their values; and the row of all -/
def kZw (γ : kΓ) (A : Nat → Prop) (U : State) (H : Heap) : Prop :=
  (∀ i : Nat, i < 26 → va_Z RX10 (kWn.getD i "") "LTithedThoughts$Word;" (.ref (γ.2.2.2.2 i)) A U H ∧ va_O RX10 (γ.2.2.2.2 i) A U H) ∧ va_Ef 26 RX10 "letters" "J" (fun i => .long (kWl.getD i 0)) γ.2.2.2.2 A U H ∧ va_Ef 26 RX10 "mayName" "Z" (fun i => .int (kWm.getD i 0)) γ.2.2.2.2 A U H ∧ va_Ef 26 RX10 "value" "I" (fun i => .int (kWv.getD i 0)) γ.2.2.2.2 A U H ∧
  ∃ t : Nat, va_Z RX10 "ALL" "[LTithedThoughts$Word;" (.ref t) A U H ∧ va_T (.object RX10) t 26 (fun j => .ref (γ.2.2.2.2 j)) A U H
theorem kZw.moved {γ : kΓ} {A : Nat → Prop} {s U : State} {H : Heap} (hW : s.vm.Alike U.vm) (h : kZw γ A s H) : kZw γ A U H :=
  ⟨fun i hi => ⟨va_Z.moved hW (h.1 i hi).1, va_O.moved hW (h.1 i hi).2⟩, va_Ef.moved hW h.2.1, va_Ef.moved hW h.2.2.1, va_Ef.moved hW h.2.2.2.1, h.2.2.2.2.elim (fun t ht => ⟨t, va_Z.moved hW ht.1, va_T.moved hW ht.2⟩)⟩
theorem kZw.kept {γ : kΓ} {A : Nat → Prop} {U : State} {H H1 : Heap} (h : kZw γ A U H) (hq : ∀ a : Nat, a < H.size → ¬ A a → H1[a]? = H[a]?) : kZw γ A U H1 :=
  ⟨fun i hi => ⟨va_Z.kept (h.1 i hi).1 hq, va_O.kept (h.1 i hi).2 hq⟩, va_Ef.kept h.2.1 hq, va_Ef.kept h.2.2.1 hq, va_Ef.kept h.2.2.2.1 hq, h.2.2.2.2.elim (fun t ht => ⟨t, va_Z.kept ht.1 hq, va_T.kept ht.2 hq⟩)⟩
theorem kZw.narrow {γ : kΓ} {A B : Nat → Prop} {U : State} {H : Heap} (h : kZw γ A U H) (hq : ∀ q, B q → A q) : kZw γ B U H :=
  ⟨fun i hi => ⟨va_Z.narrow (h.1 i hi).1 hq, va_O.narrow (h.1 i hi).2 hq⟩, va_Ef.narrow h.2.1 hq, va_Ef.narrow h.2.2.1 hq, va_Ef.narrow h.2.2.2.1 hq, h.2.2.2.2.elim (fun t ht => ⟨t, va_Z.narrow ht.1 hq, va_T.narrow ht.2 hq⟩)⟩
def kE (γ : kΓ) (U : State) (H : Heap) : Prop :=
  va_K γ.1 vwCl (kT γ.2.1) U ∧ (∀ w ∈ kN, va_Nw w U) ∧ va_Z RX10 "NOTHING" "LTithedThoughts$Word;" (.ref γ.2.2.2.1) (fun q => γ.2.2.1 ≤ q) U H ∧
  vx_Zq Bundle.tN "UNASSIGNED_STACK" Bundle.steD (fun q => γ.2.2.1 ≤ q) U H ∧ vx_Zq Bundle.tN "SUPPRESSED_SENTINEL" Bundle.listD (fun q => γ.2.2.1 ≤ q) U H ∧ kZw γ (fun q => γ.2.2.1 ≤ q) U H
theorem kN_warm {w : Cond} (hw : w ∈ kN) {s U : State} (hW : s.WarmedH U.vm) (h : va_Nw w s) : va_Nw w U := by
  have h1 := (List.mem_filter.mp hw).2
  cases w <;> first | exact va_Nw.warmF hW h | exact va_Nw.warmM hW h | (exact va_tabs rfl (rfl : (s.setVm U.vm).vm = U.vm) (by rw [Cond.castable_setVm hW.alike]; exact h)) | (rename_i ty; cases ty <;> first | exact va_AO.moved hW.alike h | (exact absurd h1 (by simp [k_nest]))) | (exact absurd h1 (by simp [k_nest]))
theorem kE.moved {γ : kΓ} {s U : State} {H : Heap} (hW : s.WarmedH U.vm) (h : kE γ s H) : kE γ U H :=
  ⟨va_K.moved hW.alike h.1, fun w hw => kN_warm hw hW (h.2.1 w hw), va_Z.moved hW.alike h.2.2.1, vx_Zq.moved hW.alike h.2.2.2.1, vx_Zq.moved hW.alike h.2.2.2.2.1, kZw.moved hW.alike h.2.2.2.2.2⟩
theorem kE.kept {γ : kΓ} {U : State} {H H1 : Heap} (h : kE γ U H) (hq : ∀ a : Nat, a < H.size → ¬ γ.2.2.1 ≤ a → H1[a]? = H[a]?) : kE γ U H1 :=
  ⟨h.1, h.2.1, va_Z.kept h.2.2.1 hq, vx_Zq.kept h.2.2.2.1 hq, vx_Zq.kept h.2.2.2.2.1 hq, kZw.kept h.2.2.2.2.2 hq⟩
theorem kE.calling {γ : kΓ} {U : State} {g : JFrame} {mk : MethodId} {a : Array Value} (h : kE γ U U.heap) : kE γ (U.calling g mk a) (U.calling g mk a).heap :=
  ⟨va_K.moved (u := U) (U := U.calling g mk a) (Vm.Alike.refl U.vm) h.1, fun w hw => kN_warm hw (s := U) (U := U.calling g mk a) (State.WarmedH.refl U) (h.2.1 w hw),
   va_Z.moved (u := U) (U := U.calling g mk a) (Vm.Alike.refl U.vm) h.2.2.1, vx_Zq.moved (u := U) (U := U.calling g mk a) (Vm.Alike.refl U.vm) h.2.2.2.1, vx_Zq.moved (u := U) (U := U.calling g mk a) (Vm.Alike.refl U.vm) h.2.2.2.2.1, kZw.moved (s := U) (U := U.calling g mk a) (Vm.Alike.refl U.vm) h.2.2.2.2.2⟩
/-- what a method stands on -/
def kC (γ : kΓ) (p : Program) (s : State) (m : MethodId) (args : Array Value) (c : Code) (cc : ByteArray) (nL : Nat) (own : String) (A : Nat → Prop) : Prop :=
  p.tables.exec = Jvm.exec ∧ c.code = cc ∧ c.maxLocals = nL ∧ s.vm.findClass own = some m.cls ∧ (∀ w ∈ kG, w.before args s = true) ∧ kE γ s s.heap ∧ (∀ q : Nat, s.heap.size ≤ q → A q) ∧ (∀ q : Nat, A q → γ.2.2.1 ≤ q)
/-- the world -/
def kW (γ : kΓ) (A : Nat → Prop) (ws : va_W) (s : State) (H : Heap) (locs : List Loc) : Prop := va_P γ.1 vwCl ws H ∧ va_D A ws ∧ va_S A s.heap H locs
def kP (γ : kΓ) (av : List Value) (wc : va_W) (sz : Nat) : Array Value → State → Prop := fun v U => v = av.toArray ∧ U.heap.size = sz ∧ va_P γ.1 vwCl wc U.heap ∧ va_D (fun q => γ.2.2.1 ≤ q) wc ∧ γ.2.2.1 ≤ sz ∧ kE γ U U.heap
def kQ (γ : kΓ) (A : Nat → Prop) (post : Option Value → va_W → Prop) : Array Value → State → Outcome → State → Prop := fun _ st oc t =>
  (∃ (r : Option Value) (w1 : va_W), oc = .returned r ∧ post r w1 ∧ va_P γ.1 vwCl w1 t.heap ∧ va_D A w1) ∧ va_F A st t
/-- a contract: method y on the cells wc with the arguments av; post of its answer and of the cells that come back -/
def kM (γ : kΓ) (l : Launch) (y : MethodName) (cc : ByteArray) (maxL : Nat) (ret : Option FieldType) (rm : Room) (av : List Value) (wc : va_W) (post : Option Value → va_W → Prop) : Prop :=
  ∀ sz : Nat, Met l y (.code y cc maxL ret :: kG) rm (kP γ av wc sz) (kQ γ (va_A wc sz) post) rm.cells rm.slots (va_A wc sz)
theorem k_ofW {γ : kΓ} {l : Launch} {y : MethodName} {cc : ByteArray} {maxL : Nat} {ret : Option FieldType} {rm : Room} {av : List Value} {wc : va_W} {post : Option Value → va_W → Prop}
    (hy : plainName y.cls = true) (hn : (lg_sl av).length ≤ maxL)
    (body : ∀ (p : Program) (e : Env) (s : State) (m : MethodId) (below : List Frame) (meth : Method) (c : Code) (A : Nat → Prop) (ls : Array Slot), kC γ p s m av.toArray c cc maxL y.cls A → meth.sig.returnType = ret → meth.locks = false → meth.name = y.name →
      kW γ A wc s s.heap [] → lv_has ls maxL (lv_args 0 av) →
      W p l e rm s m av.toArray below meth c s.heap [] 0 0 (MQ below (kQ γ A post) av.toArray s rm.cells rm.slots A) (F0 m 0 ls [])) : kM γ l y cc maxL ret rm av wc post := by
  intro sz
  refine Met.ofW (cc := cc) (maxL := maxL) (ret := ret) hy rfl ?_
  intro p e s m args below meth c s₁ B hml hv
  obtain ⟨rfl, hsz, hP, hD0, hb0, hE⟩ := hv
  have hts := atoms_spec (ws := .code y cc maxL ret :: kG) B.pre
  subst hsz
  rw [lg_entry_eq]
  exact body p e s m below meth c (va_A wc s.heap.size) _ ⟨B.exec, B.bytes, hml, findClass_of_methodNamed B.named, fun w hw => hts w (List.mem_cons_of_mem _ hw), hE, fun q h => Or.inr h, fun q h => by
      rcases h with ⟨k, e9, h⟩ | h
      · exact hD0.2 k _ h
      · exact Nat.le_trans hb0 h⟩ B.returns B.notSynchronized (name_of_methodNamed B.named B.method).1 ⟨hP, hD0.self, va_S.rf⟩ (lv_entry av hn)
section KW
variable {γ : kΓ} {p : Program} {l : Launch} {e : Env} {R : Room} {s : State} {m : MethodId} {args : Array Value} {below : List Frame} {meth : Method} {c : Code} {H : Heap} {locs : List Loc} {cells slots : Nat} {Q : State → Prop}
variable {cc : ByteArray} {nL pc : Nat} {own : String} {A : Nat → Prop} {ws : va_W} {ls : Array Slot} {rest st0 : List Value}
theorem kW.sub (hw : kW γ A ws s H locs) (is : List Nat) {ws' : va_W} (hn : va_nd is = true) (hs : is.map (fun i => ws[i]?) = ws'.map some) : kW γ A ws' s H locs := by
  refine ⟨fun k q hk => ?_, hw.2.1.sub is hn hs, hw.2.2⟩
  have h1 : (is.map (fun i => ws[i]?))[k]? = some (some q) := by rw [hs, List.getElem?_map, hk]; rfl
  rw [List.getElem?_map] at h1
  cases hi : is[k]? with
  | none => rw [hi] at h1; cases h1
  | some i => rw [hi] at h1; exact hw.1 i q (Option.some.inj h1)
theorem k_get (hC : kC γ p s m args c cc nL own A) (hw : kW γ A ws s H locs) {C : String} {T : u_T} {N ci index : Nat} (hin : ∀ w ∈ u_ws C T N, w ∈ kG) {k : Nat} (hg : Cond.fieldLink own index (T k).1 (T k).2.1 (T k).2.2.1 ∈ kG) (hc : vwCl[ci]? = some (C, T, N)) (hk : k < N)
    (q0 : Nat) {a : Nat} {fs : List Value} (he : ws[q0]? = some (a, .inr (ci, fs))) {v : Value} (hv : fs[k]? = some v) (hdg : decode cc pc = .ok (.getfield index, 3))
    (kk : W p l e R s m args below meth c H locs cells slots Q (F0 m (pc + 3) ls (v :: rest))) : W p l e R s m args below meth c H locs cells slots Q (F0 m pc ls (.ref a :: rest)) :=
  va_get hC.1 hC.2.1 hC.2.2.2.2.1 hin hC.2.2.2.1 hC.2.2.2.2.2.1.1 hw.1 q0 he hc k hk (hC.2.2.2.2.1 _ hg) (fun _ h => h) hv hdg kk
theorem k_getN (hC : kC γ p s m args c cc nL own A) (hw : kW γ A ws s H locs) {C host : String} {T : u_T} {N ci index : Nat} (hin : ∀ w ∈ u_ws C T N, w ∈ kG) {k : Nat} (hg : Cond.fieldLinkNest own index (T k).1 (T k).2.1 (T k).2.2.1 host ∈ kN) (hc : vwCl[ci]? = some (C, T, N)) (hk : k < N)
    (q0 : Nat) {a : Nat} {fs : List Value} (he : ws[q0]? = some (a, .inr (ci, fs))) {v : Value} (hv : fs[k]? = some v) (hdg : decode cc pc = .ok (.getfield index, 3))
    (kk : W p l e R s m args below meth c H locs cells slots Q (F0 m (pc + 3) ls (v :: rest))) : W p l e R s m args below meth c H locs cells slots Q (F0 m pc ls (.ref a :: rest)) :=
  va_getN hC.1 hC.2.1 hC.2.2.2.2.1 hin hC.2.2.2.1 hC.2.2.2.2.2.1.1 hw.1 q0 he hc k hk (va_Nw.use rfl (hC.2.2.2.2.2.1.2.1 _ hg)) (fun _ h => h) hv hdg kk
theorem k_put (hC : kC γ p s m args c cc nL own A) (hw : kW γ A ws s H locs) {C : String} {T : u_T} {N ci index : Nat} (hin : ∀ w ∈ u_ws C T N, w ∈ kG) (ty0 : Nat → FieldType) (hty : ∀ k, k < N → parseFieldDescriptor (T k).2.2.1 = some (ty0 k)) (hnm : ∀ a, a < N → ∀ b, b < N → a ≠ b → (T a).2.1 ≠ (T b).2.1)
    {k : Nat} (hg : Cond.fieldLink own index (T k).1 (T k).2.1 (T k).2.2.1 ∈ kG) (hc : vwCl[ci]? = some (C, T, N)) (hk : k < N) (hfin : (T k).2.2.2 = false)
    (q0 : Nat) {a : Nat} {fs : List Value} (he : ws[q0]? = some (a, .inr (ci, fs))) {v : Value} (hn : narrow (ty0 k) v = v) (hfit : fits (ty0 k) v = true) (hl : k < fs.length) (hdg : decode cc pc = .ok (.putfield index, 3))
    (kk : ∀ (H1 : Heap) (locs1 : List Loc), kW γ A (ws.set q0 (a, .inr (ci, fs.set k v))) s H1 locs1 → W p l e R s m args below meth c H1 locs1 cells slots Q (F0 m (pc + 3) ls rest)) : W p l e R s m args below meth c H locs cells slots Q (F0 m pc ls (v :: .ref a :: rest)) :=
  va_put hC.1 hC.2.1 hC.2.2.2.2.1 hin ty0 hty hnm hC.2.2.2.1 hC.2.2.2.2.2.1.1 hw.1 hw.2.1 hw.2.2 q0 he hc k hk (hC.2.2.2.2.1 _ hg) (fun _ h => h) hfin (hty k hk) hn hfit hl hdg (fun H1 locs1 h1 h2 h3 => kk H1 locs1 ⟨h1, h2, h3⟩)
theorem k_putF (hC : kC γ p s m args c cc nL own A) (hw : kW γ A ws s H locs) {C : String} {T : u_T} {N ci index : Nat} (hin : ∀ w ∈ u_ws C T N, w ∈ kG) (ty0 : Nat → FieldType) (hty : ∀ k, k < N → parseFieldDescriptor (T k).2.2.1 = some (ty0 k)) (hnm : ∀ a, a < N → ∀ b, b < N → a ≠ b → (T a).2.1 ≠ (T b).2.1)
    {k : Nat} (hg : Cond.fieldLink own index (T k).1 (T k).2.1 (T k).2.2.1 ∈ kG) (hc : vwCl[ci]? = some (C, T, N)) (hk : k < N) (hfin : (T k).2.2.2 = true) (hin2 : meth.name = "<init>") (hdecl : (T k).1 = own)
    (q0 : Nat) {a : Nat} {fs : List Value} (he : ws[q0]? = some (a, .inr (ci, fs))) {v : Value} (hn : narrow (ty0 k) v = v) (hfit : fits (ty0 k) v = true) (hl : k < fs.length) (hdg : decode cc pc = .ok (.putfield index, 3))
    (kk : ∀ (H1 : Heap) (locs1 : List Loc), kW γ A (ws.set q0 (a, .inr (ci, fs.set k v))) s H1 locs1 → W p l e R s m args below meth c H1 locs1 cells slots Q (F0 m (pc + 3) ls rest)) : W p l e R s m args below meth c H locs cells slots Q (F0 m pc ls (v :: .ref a :: rest)) :=
  va_putF hC.1 hC.2.1 hC.2.2.2.2.1 hin ty0 hty hnm hC.2.2.2.1 hC.2.2.2.2.2.1.1 hw.1 hw.2.1 hw.2.2 q0 he hc k hk (hC.2.2.2.2.1 _ hg) (fun _ h => h) hfin hin2 hdecl (hty k hk) hn hfit hl hdg (fun H1 locs1 h1 h2 h3 => kk H1 locs1 ⟨h1, h2, h3⟩)
theorem k_putN (hC : kC γ p s m args c cc nL own A) (hw : kW γ A ws s H locs) {C host : String} {T : u_T} {N ci index : Nat} (hin : ∀ w ∈ u_ws C T N, w ∈ kG) (ty0 : Nat → FieldType) (hty : ∀ k, k < N → parseFieldDescriptor (T k).2.2.1 = some (ty0 k)) (hnm : ∀ a, a < N → ∀ b, b < N → a ≠ b → (T a).2.1 ≠ (T b).2.1)
    {k : Nat} (hg : Cond.fieldLinkNest own index (T k).1 (T k).2.1 (T k).2.2.1 host ∈ kN) (hc : vwCl[ci]? = some (C, T, N)) (hk : k < N) (hfin : (T k).2.2.2 = false)
    (q0 : Nat) {a : Nat} {fs : List Value} (he : ws[q0]? = some (a, .inr (ci, fs))) {v : Value} (hn : narrow (ty0 k) v = v) (hfit : fits (ty0 k) v = true) (hl : k < fs.length) (hdg : decode cc pc = .ok (.putfield index, 3))
    (kk : ∀ (H1 : Heap) (locs1 : List Loc), kW γ A (ws.set q0 (a, .inr (ci, fs.set k v))) s H1 locs1 → W p l e R s m args below meth c H1 locs1 cells slots Q (F0 m (pc + 3) ls rest)) : W p l e R s m args below meth c H locs cells slots Q (F0 m pc ls (v :: .ref a :: rest)) :=
  va_putN hC.1 hC.2.1 hC.2.2.2.2.1 hin ty0 hty hnm hC.2.2.2.1 hC.2.2.2.2.2.1.1 hw.1 hw.2.1 hw.2.2 q0 he hc k hk (va_Nw.use rfl (hC.2.2.2.2.2.1.2.1 _ hg)) (fun _ h => h) hfin (hty k hk) hn hfit hl hdg (fun H1 locs1 h1 h2 h3 => kk H1 locs1 ⟨h1, h2, h3⟩)
theorem k_new (hC : kC γ p s m args c cc nL own A) (hw : kW γ A ws s H locs) {C : String} {T : u_T} {N ci index : Nat} (hin : ∀ w ∈ u_ws C T N, w ∈ kG) (ty0 : Nat → FieldType) (hty : ∀ k, k < N → parseFieldDescriptor (T k).2.2.1 = some (ty0 k)) (hcl : Cond.classLink own index C ∈ kG) (hi : Cond.instantiable C N ∈ kG) (hz : Cond.initialized C ∈ kG) (hc : vwCl[ci]? = some (C, T, N))
    {fs : List Value} (hfs : ∀ j, j < N → defaultValue (ty0 j) = vp_V fs j) (hcells : cells + 1 ≤ R.cells) (hslots : slots + N ≤ R.slots) (hdg : decode cc pc = .ok (.new index, 3))
    (kk : ∀ (q : Nat) (H1 : Heap), kW γ A (ws ++ [(q, .inr (ci, fs))]) s H1 locs → W p l e R s m args below meth c H1 locs (cells + 1) (slots + N) Q (F0 m (pc + 3) ls (.ref q :: rest))) : W p l e R s m args below meth c H locs cells slots Q (F0 m pc ls rest) :=
  va_new hC.1 hC.2.1 hC.2.2.2.2.1 hin ty0 hty hC.2.2.2.1 (hC.2.2.2.2.1 _ hcl) (hC.2.2.2.2.1 _ hi) (hC.2.2.2.2.1 _ hz) hC.2.2.2.2.2.1.1 hw.1 hw.2.1 hw.2.2 hC.2.2.2.2.2.2.1 hc hfs hcells hslots hdg (fun q H1 h1 h2 h3 => kk q H1 ⟨h1, h2, h3⟩)
theorem k_cls {κ : Nat → ClassId} {D : va_G} {cA : ClassId} {ty : FieldType} (hK : va_K D vwCl (kT κ) s) (t0 : Nat) (ht : (kT κ)[t0]? = some (κ t0, ty)) (hK2 : va_K D vwCl (kT κ ++ [(cA, ty)]) s) (hs : ∀ C, ty ≠ .object C) : cA = κ t0 := by
  have h1 := (hK.2 t0 _ ht).2
  have h2 := (hK2.2 6 (cA, ty) rfl).2
  cases ty with
  | object C => exact absurd rfl (hs C)
  | _ => exact Option.some.inj (h2.symm.trans h1)
theorem k_newa (hC : kC γ p s m args c cc nL own A) (hw : kW γ A ws s H locs) {atype : ArrayType} {ty : FieldType} (hty : newarray.typeOf atype = ty) (ha : Cond.arrayClass ty ∈ kG) (t0 : Nat) (ht : (kT γ.2.1)[t0]? = some (γ.2.1 t0, ty)) (hs : ∀ C, ty ≠ .object C)
    {n : Int32} {N' : Nat} {a0 : vp_A} (h0 : ∀ cA : ClassId, vp_cell cA a0 = arrV cA N' (fun _ => defaultValue ty)) (hn : ¬ n < 0) (hN : n.toNatClampNeg = N') (hbytes : N' * componentBytes ty ≤ 536870912) (hcells : cells + 1 ≤ R.cells) (hslots : slots + N' ≤ R.slots) (hdg : decode cc pc = .ok (.newarray atype, 2))
    (kk : ∀ (q : Nat) (H1 : Heap), kW γ A (ws ++ [(q, .inl (γ.2.1 t0, a0))]) s H1 locs → W p l e R s m args below meth c H1 locs (cells + 1) (slots + N') Q (F0 m (pc + 2) ls (.ref q :: rest))) : W p l e R s m args below meth c H locs cells slots Q (F0 m pc ls (.int n :: rest)) :=
  va_newa hC.1 hC.2.1 (by rw [hty]; exact hC.2.2.2.2.1 _ ha) hty hC.2.2.2.2.2.1.1 hw.1 hw.2.1 hw.2.2 hC.2.2.2.2.2.2.1 h0 hn hN hbytes hcells hslots hdg (fun q cA H1 hK2 h1 h2 h3 => by
    have e9 := k_cls hC.2.2.2.2.2.1.1 t0 ht hK2 hs
    subst e9
    exact kk q H1 ⟨h1, h2, h3⟩)
theorem k_iald (hC : kC γ p s m args c cc nL own A) (hw : kW γ A ws s H locs) (q0 : Nat) {a n : Nat} {f : Nat → Int32} (ha : ws[q0]? = some (a, .inl (γ.2.1 0, n, .inl f))) {i : Int32} (hin : vp_in i n) (hdg : decode cc pc = .ok (.iaload, 1))
    (kk : W p l e R s m args below meth c H locs cells slots Q (F0 m (pc + 1) ls (.int (f i.toNatClampNeg) :: rest))) : W p l e R s m args below meth c H locs cells slots Q (F0 m pc ls (.int i :: .ref a :: rest)) :=
  va_iald hC.1 hC.2.1 hC.2.2.2.2.2.1.1 hw.1 q0 0 ha rfl hin hdg kk
theorem k_zald (hC : kC γ p s m args c cc nL own A) (hw : kW γ A ws s H locs) (q0 : Nat) {a n : Nat} {f : Nat → Int32} (ha : ws[q0]? = some (a, .inl (γ.2.1 3, n, .inl f))) {i : Int32} (hin : vp_in i n) (hdg : decode cc pc = .ok (.baload, 1))
    (kk : W p l e R s m args below meth c H locs cells slots Q (F0 m (pc + 1) ls (.int (f i.toNatClampNeg) :: rest))) : W p l e R s m args below meth c H locs cells slots Q (F0 m pc ls (.int i :: .ref a :: rest)) :=
  va_zald hC.1 hC.2.1 hC.2.2.2.2.2.1.1 hw.1 q0 3 ha rfl hin hdg kk
theorem k_bald (hC : kC γ p s m args c cc nL own A) (hw : kW γ A ws s H locs) (q0 : Nat) {a n : Nat} {f : Nat → Int32} (ha : ws[q0]? = some (a, .inl (γ.2.1 2, n, .inl f))) {i : Int32} (hin : vp_in i n) (hdg : decode cc pc = .ok (.baload, 1))
    (kk : W p l e R s m args below meth c H locs cells slots Q (F0 m (pc + 1) ls (.int (f i.toNatClampNeg) :: rest))) : W p l e R s m args below meth c H locs cells slots Q (F0 m pc ls (.int i :: .ref a :: rest)) :=
  va_bald hC.1 hC.2.1 hC.2.2.2.2.2.1.1 hw.1 q0 2 ha rfl hin hdg kk
theorem k_lald (hC : kC γ p s m args c cc nL own A) (hw : kW γ A ws s H locs) (q0 : Nat) {a n : Nat} {f : Nat → Int64} (ha : ws[q0]? = some (a, .inl (γ.2.1 1, n, .inr (.inl f)))) {i : Int32} (hin : vp_in i n) (hdg : decode cc pc = .ok (.laload, 1))
    (kk : W p l e R s m args below meth c H locs cells slots Q (F0 m (pc + 1) ls (.long (f i.toNatClampNeg) :: rest))) : W p l e R s m args below meth c H locs cells slots Q (F0 m pc ls (.int i :: .ref a :: rest)) :=
  va_lald hC.1 hC.2.1 hC.2.2.2.2.2.1.1 hw.1 q0 1 ha rfl hin hdg kk
theorem k_iast (hC : kC γ p s m args c cc nL own A) (hw : kW γ A ws s H locs) (q0 : Nat) {a n : Nat} {f : Nat → Int32} (ha : ws[q0]? = some (a, .inl (γ.2.1 0, n, .inl f))) {i x : Int32} (hin : vp_in i n) (hdg : decode cc pc = .ok (.iastore, 1))
    (kk : ∀ (H1 : Heap) (locs1 : List Loc), kW γ A (ws.set q0 (a, .inl (γ.2.1 0, n, .inl (upd f i.toNatClampNeg x)))) s H1 locs1 → W p l e R s m args below meth c H1 locs1 cells slots Q (F0 m (pc + 1) ls rest)) : W p l e R s m args below meth c H locs cells slots Q (F0 m pc ls (.int x :: .int i :: .ref a :: rest)) :=
  va_iast hC.1 hC.2.1 hC.2.2.2.2.2.1.1 hw.1 hw.2.1 hw.2.2 q0 0 ha rfl hin hdg (fun H1 locs1 h1 h2 h3 => kk H1 locs1 ⟨h1, h2, h3⟩)
theorem k_zast (hC : kC γ p s m args c cc nL own A) (hw : kW γ A ws s H locs) (q0 : Nat) {a n : Nat} {f : Nat → Int32} (ha : ws[q0]? = some (a, .inl (γ.2.1 3, n, .inl f))) {i x : Int32} (hin : vp_in i n) (hdg : decode cc pc = .ok (.bastore, 1))
    (kk : ∀ (H1 : Heap) (locs1 : List Loc), kW γ A (ws.set q0 (a, .inl (γ.2.1 3, n, .inl (upd f i.toNatClampNeg (vp_nar .boolean x))))) s H1 locs1 → W p l e R s m args below meth c H1 locs1 cells slots Q (F0 m (pc + 1) ls rest)) : W p l e R s m args below meth c H locs cells slots Q (F0 m pc ls (.int x :: .int i :: .ref a :: rest)) :=
  va_zast hC.1 hC.2.1 hC.2.2.2.2.2.1.1 hw.1 hw.2.1 hw.2.2 q0 3 ha rfl hin hdg (fun H1 locs1 h1 h2 h3 => kk H1 locs1 ⟨h1, h2, h3⟩)
theorem k_bast (hC : kC γ p s m args c cc nL own A) (hw : kW γ A ws s H locs) (q0 : Nat) {a n : Nat} {f : Nat → Int32} (ha : ws[q0]? = some (a, .inl (γ.2.1 2, n, .inl f))) {i x : Int32} (hin : vp_in i n) (hdg : decode cc pc = .ok (.bastore, 1))
    (kk : ∀ (H1 : Heap) (locs1 : List Loc), kW γ A (ws.set q0 (a, .inl (γ.2.1 2, n, .inl (upd f i.toNatClampNeg (vp_nar .byte x))))) s H1 locs1 → W p l e R s m args below meth c H1 locs1 cells slots Q (F0 m (pc + 1) ls rest)) : W p l e R s m args below meth c H locs cells slots Q (F0 m pc ls (.int x :: .int i :: .ref a :: rest)) :=
  va_bast hC.1 hC.2.1 hC.2.2.2.2.2.1.1 hw.1 hw.2.1 hw.2.2 q0 2 ha rfl hin hdg (fun H1 locs1 h1 h2 h3 => kk H1 locs1 ⟨h1, h2, h3⟩)
theorem k_last (hC : kC γ p s m args c cc nL own A) (hw : kW γ A ws s H locs) (q0 : Nat) {a n : Nat} {f : Nat → Int64} (ha : ws[q0]? = some (a, .inl (γ.2.1 1, n, .inr (.inl f)))) {i : Int32} {x : Int64} (hin : vp_in i n) (hdg : decode cc pc = .ok (.lastore, 1))
    (kk : ∀ (H1 : Heap) (locs1 : List Loc), kW γ A (ws.set q0 (a, .inl (γ.2.1 1, n, .inr (.inl (vp_updL f i.toNatClampNeg x))))) s H1 locs1 → W p l e R s m args below meth c H1 locs1 cells slots Q (F0 m (pc + 1) ls rest)) : W p l e R s m args below meth c H locs cells slots Q (F0 m pc ls (.long x :: .int i :: .ref a :: rest)) :=
  va_last hC.1 hC.2.1 hC.2.2.2.2.2.1.1 hw.1 hw.2.1 hw.2.2 q0 1 ha rfl hin hdg (fun H1 locs1 h1 h2 h3 => kk H1 locs1 ⟨h1, h2, h3⟩)
theorem k_alen (hC : kC γ p s m args c cc nL own A) (hw : kW γ A ws s H locs) (q0 t0 : Nat) {a : Nat} {x : vp_A} (ha : ws[q0]? = some (a, .inl (γ.2.1 t0, x))) {ty : FieldType} (ht : (kT γ.2.1)[t0]? = some (γ.2.1 t0, ty)) {v : Int32} (hv : Int32.ofNat x.1 = v) (hdg : decode cc pc = .ok (.arraylength, 1))
    (kk : W p l e R s m args below meth c H locs cells slots Q (F0 m (pc + 1) ls (.int v :: rest))) : W p l e R s m args below meth c H locs cells slots Q (F0 m pc ls (.ref a :: rest)) :=
  va_alen hC.1 hC.2.1 hC.2.2.2.2.2.1.1 hw.1 q0 t0 ha ht hv hdg kk
theorem k_call {γ : kΓ} {wc wr : va_W} {post : Option Value → va_W → Prop} {a : Array Value} {mc ms : Nat}
    (hr : va_Run p l e R s m args below meth c H locs cells slots mc ms (F0 m pc ls st0) rest (kQ γ (va_A wc H.size) post a) (va_A wc H.size)) (hC : kC γ p s m args c cc nL own A) (hw : kW γ A ws s H locs)
    (isC isR : List Nat) (hcs : isC.map (fun i => ws[i]?) = wc.map some) (hrs : isR.map (fun i => ws[i]?) = wr.map some) (hn : va_nd isR = true) (hdis : ∀ i ∈ isR, i ∉ isC)
    (kk : ∀ (r : Option Value) (w1 : va_W) (H1 : Heap) (locs1 : List Loc), post r w1 → kW γ A (wr ++ w1) s H1 locs1 → W p l e R s m args below meth c H1 locs1 (cells + mc) (slots + ms) Q (F0 m (pc + 3) ls (r.toList ++ rest))) : W p l e R s m args below meth c H locs cells slots Q (F0 m pc ls st0) := by
  intro T hT X
  obtain ⟨v, st₀, t, T', L, h0, X', hL, e1, e2, ⟨⟨r, w1, hv, hp, hP1, hD1⟩, hz, hk⟩, st⟩ := hr T hT X
  cases hv
  rw [h0] at hz hk
  have hFc := va_free (wc := wc) hw.2.1 hw.2.2 hC.2.2.2.2.2.2.1 isC hcs
  have hk1 : ∀ q : Nat, q < H.size → ¬ va_A wc H.size q → T'.heap[q]? = H[q]? := fun q h1 h2 => by rw [e1]; exact hk q h1 h2
  obtain ⟨hP, hD⟩ := va_join (wr := wr) (w1 := w1) hw.1 hw.2.1 isC isR hcs hrs hn hdis hk1 hFc (by rw [e1]; exact hP1) hD1
  obtain ⟨t2, a1, b1⟩ := kk v w1 T'.heap (locs ++ L) hp ⟨hP, hD, Nat.le_trans hw.2.2.1 (by rw [e1]; exact hz), fun q h1 h2 => by
      rw [e1, hk q (Nat.lt_of_lt_of_le h1 hw.2.2.1) (fun z => h2 (hFc q z))]; exact hw.2.2.2.1 q h1 h2, fun q hq => by
      rcases List.mem_append.mp hq with h | h
      · exact hw.2.2.2.2 q h
      · exact hFc _ (hL q h)⟩ T' rfl X'
  exact ⟨t2, st t2 a1, b1⟩
/-- the start of a callee, out of the caller's world -/
theorem k_pre {γ : kΓ} {wc : va_W} {av : List Value} (hC : kC γ p s m args c cc nL own A) (hw : kW γ A ws s H locs) (isC : List Nat) (hnc : va_nd isC = true) (hcs : isC.map (fun i => ws[i]?) = wc.map some) :
    FrameBlind (kP γ av wc H.size) ∧ ∀ U : State, U.heap = H → s.WarmedH U.vm → kP γ av wc H.size av.toArray U := by
  refine ⟨fun a U g mk q => ?_, fun U hU hW => ?_⟩
  · obtain ⟨q0, q1, qP, qD, qb, qE⟩ := q
    exact ⟨q0, q1, qP, qD, qb, kE.calling qE⟩
  · have hw' := kW.sub hw isC hnc hcs
    have hE : kE γ U U.heap := by
      rw [hU]
      exact (kE.kept hC.2.2.2.2.2.1 (fun a h1 h2 => hw.2.2.2.1 a h1 (fun z => h2 (hC.2.2.2.2.2.2.2 a z)))).moved hW
    have hb : γ.2.2.1 ≤ H.size := Nat.le_trans (hC.2.2.2.2.2.2.2 _ (hC.2.2.2.2.2.2.1 _ (Nat.le_refl _))) hw.2.2.1
    exact ⟨rfl, by rw [hU], by rw [hU]; exact hw'.1, hw'.2.1.weaken (fun k q _ h => hC.2.2.2.2.2.2.2 _ h), hb, hE⟩
theorem k_words {ws0 : List Cond} {y : MethodName} {bytes : ByteArray} {maxL : Nat} {ret : Option FieldType} (h0 : ∀ w ∈ ws0, w ∈ kG) (hcode : Cond.code y bytes maxL ret ∈ kG) : GoodIn kG (ws0 ++ (.code y bytes maxL ret :: kG)) :=
  kG_in (fun _ h => h) (fun w h => (List.mem_append.mp h).elim (h0 w) (fun h => (List.mem_cons.mp h).elim (fun e => e ▸ hcode) id))
theorem k_words0 {y : MethodName} {bytes : ByteArray} {maxL : Nat} {ret : Option FieldType} (hcode : Cond.code y bytes maxL ret ∈ kG) : GoodIn kG (.code y bytes maxL ret :: kG) :=
  kG_in (fun _ h => h) (fun w h => (List.mem_cons.mp h).elim (fun e => e ▸ hcode) id)
theorem k_mem4 {P : Cond → Prop} {a b c d : Cond} (ha : P a) (hb : P b) (hc : P c) (hd : P d) : ∀ w ∈ [a, b, c, d], P w := by
  intro w h; simp at h; rcases h with rfl | rfl | rfl | rfl <;> assumption
theorem k_mem3 {P : Cond → Prop} {a b c : Cond} (ha : P a) (hb : P b) (hc : P c) : ∀ w ∈ [a, b, c], P w := by
  intro w h; simp at h; rcases h with rfl | rfl | rfl <;> assumption
variable {y : MethodName} {bytes : ByteArray} {maxL n index : Nat} {ret : Option FieldType} {rm : Room} {wc wr : va_W} {post : Option Value → va_W → Prop} {As : List Value} {b : Nat}
/-- invokevirtual -/
theorem k_V (n : Nat) (hl : Cond.methodLink own index y ∈ kG) (hi : Cond.instanceMethod y ∈ kG) (hse : Cond.selects y.cls y y ∈ kG) (hz : Cond.initialized y.cls ∈ kG) (hcode : Cond.code y bytes maxL ret ∈ kG)
    (hd : y.cls ≠ "java/lang/invoke/MethodHandle" ∧ y.cls ≠ "java/lang/invoke/VarHandle" ∧ (parseMethodDescriptor y.desc).map (fun d => d.parameters.length) = some n)
    (hC : kC γ p s m args c cc nL own A) (hw : kW γ A ws s H locs) (hM : kM γ l y bytes maxL ret rm (.ref b :: As) wc post) (hR : rm.frames + 1 ≤ R.frames ∧ 8 + (maxL + 11) + rm.locals ≤ R.locals) (hf : cells + rm.cells ≤ R.cells ∧ slots + rm.slots ≤ R.slots)
    (hml : ls.size = nL) (hn : As.length = n) (qb : Nat) {ci : Nat} {T : u_T} {N : Nat} {fs : List Value} (hb : ws[qb]? = some (b, .inr (ci, fs))) (hc : vwCl[ci]? = some (y.cls, T, N)) (hstack : st0 = As.reverse ++ .ref b :: rest) (hW : (rest.map fun v => v.category).sum ≤ 8)
    (isC isR : List Nat) (hnc : va_nd isC = true) (hcs : isC.map (fun i => ws[i]?) = wc.map some) (hrs : isR.map (fun i => ws[i]?) = wr.map some) (hnr : va_nd isR = true) (hdis : ∀ i ∈ isR, i ∉ isC) (hdg : decode cc pc = .ok (.invokevirtual index, 3))
    (kk : ∀ (r : Option Value) (w1 : va_W) (H1 : Heap) (locs1 : List Loc), post r w1 → kW γ A (wr ++ w1) s H1 locs1 → W p l e R s m args below meth c H1 locs1 (cells + rm.cells) (slots + rm.slots) Q (F0 m (pc + 3) ls (r.toList ++ rest))) : W p l e R s m args below meth c H locs cells slots Q (F0 m pc ls st0) :=
  k_call (va_runV (As := As) (rest := rest) (Ts := kG) ⟨hC.1, hC.2.1, hC.2.2.1, hC.2.2.2.1, hC.2.2.2.2.1⟩ (hM H.size) (cwV n hC.2.2.2.2.1 (k_words (ws0 := [.methodLink own index y, .instanceMethod y, .selects y.cls y y, .initialized y.cls]) (k_mem4 hl hi hse hz) hcode) rfl rfl rfl ⟨rfl, hd⟩ hR)
    ⟨(k_pre hC hw isC hnc hcs).1, va_recv hC.2.2.2.2.2.1.1 hw.1 hc hb, (k_pre hC hw isC hnc hcs).2⟩ rfl hn hml hstack (lv_room hW) hdg hf) hC hw isC isR hcs hrs hnr hdis kk
/-- invokestatic -/
theorem k_S (n : Nat) (hl : Cond.methodLink own index y ∈ kG) (hi : Cond.static y ∈ kG) (hz : Cond.initialized y.cls ∈ kG) (hcode : Cond.code y bytes maxL ret ∈ kG)
    (hd : y.cls ≠ "java/lang/invoke/MethodHandle" ∧ y.cls ≠ "java/lang/invoke/VarHandle" ∧ (parseMethodDescriptor y.desc).map (fun d => d.parameters.length) = some n)
    (hC : kC γ p s m args c cc nL own A) (hw : kW γ A ws s H locs) (hM : kM γ l y bytes maxL ret rm As wc post) (hR : rm.frames + 1 ≤ R.frames ∧ 8 + (maxL + 11) + rm.locals ≤ R.locals) (hf : cells + rm.cells ≤ R.cells ∧ slots + rm.slots ≤ R.slots)
    (hml : ls.size = nL) (hn : As.length = n) (hstack : st0 = As.reverse ++ rest) (hW : (rest.map fun v => v.category).sum ≤ 8)
    (isC isR : List Nat) (hnc : va_nd isC = true) (hcs : isC.map (fun i => ws[i]?) = wc.map some) (hrs : isR.map (fun i => ws[i]?) = wr.map some) (hnr : va_nd isR = true) (hdis : ∀ i ∈ isR, i ∉ isC) (hdg : decode cc pc = .ok (.invokestatic index, 3))
    (kk : ∀ (r : Option Value) (w1 : va_W) (H1 : Heap) (locs1 : List Loc), post r w1 → kW γ A (wr ++ w1) s H1 locs1 → W p l e R s m args below meth c H1 locs1 (cells + rm.cells) (slots + rm.slots) Q (F0 m (pc + 3) ls (r.toList ++ rest))) : W p l e R s m args below meth c H locs cells slots Q (F0 m pc ls st0) :=
  k_call (va_runS (As := As) (rest := rest) (Ts := kG) ⟨hC.1, hC.2.1, hC.2.2.1, hC.2.2.2.1, hC.2.2.2.2.1⟩ (hM H.size) (va_cwS n hC.2.2.2.2.1 (k_words (ws0 := [.methodLink own index y, .static y, .initialized y.cls]) (k_mem3 hl hi hz) hcode) rfl rfl rfl hd hR)
    (k_pre hC hw isC hnc hcs) rfl hn hml hstack (lv_room hW) hdg hf) hC hw isC isR hcs hrs hnr hdis kk
/-- invokespecial of a constructor -/
theorem k_I (n : Nat) (hl : Cond.methodLink own index y ∈ kG) (hi : Cond.instanceMethod y ∈ kG) (hz : Cond.initialized y.cls ∈ kG) (hcode : Cond.code y bytes maxL none ∈ kG) (hy1 : y.name = "<init>")
    (hd : y.cls ≠ "java/lang/invoke/MethodHandle" ∧ y.cls ≠ "java/lang/invoke/VarHandle" ∧ (parseMethodDescriptor y.desc).map (fun d => d.parameters.length) = some n)
    (hC : kC γ p s m args c cc nL own A) (hw : kW γ A ws s H locs) (hM : kM γ l y bytes maxL none rm (.ref b :: As) wc post) (hR : rm.frames + 1 ≤ R.frames ∧ 8 + (maxL + 11) + rm.locals ≤ R.locals) (hf : cells + rm.cells ≤ R.cells ∧ slots + rm.slots ≤ R.slots)
    (hml : ls.size = nL) (hn : As.length = n) (hstack : st0 = As.reverse ++ .ref b :: rest) (hW : (rest.map fun v => v.category).sum ≤ 8)
    (isC isR : List Nat) (hnc : va_nd isC = true) (hcs : isC.map (fun i => ws[i]?) = wc.map some) (hrs : isR.map (fun i => ws[i]?) = wr.map some) (hnr : va_nd isR = true) (hdis : ∀ i ∈ isR, i ∉ isC) (hdg : decode cc pc = .ok (.invokespecial index, 3))
    (kk : ∀ (r : Option Value) (w1 : va_W) (H1 : Heap) (locs1 : List Loc), post r w1 → kW γ A (wr ++ w1) s H1 locs1 → W p l e R s m args below meth c H1 locs1 (cells + rm.cells) (slots + rm.slots) Q (F0 m (pc + 3) ls (r.toList ++ rest))) : W p l e R s m args below meth c H locs cells slots Q (F0 m pc ls st0) :=
  k_call (va_runI (As := As) (rest := rest) (Ts := kG) ⟨hC.1, hC.2.1, hC.2.2.1, hC.2.2.2.1, hC.2.2.2.2.1⟩ (hM H.size) (cwI n hC.2.2.2.2.1 (k_words0 hcode) rfl rfl rfl (hC.2.2.2.2.1 _ hz) (hC.2.2.2.2.1 _ hl) (hC.2.2.2.2.1 _ hi) hy1 hd hR)
    (k_pre hC hw isC hnc hcs) rfl hn hml hstack (lv_room hW) hdg hf) hC hw isC isR hcs hrs hnr hdis kk
/-- the same of a nest mate -/
theorem k_VN {host : String} (n : Nat) (hl : Cond.methodLinkNest own index y host ∈ kN) (hi : Cond.instanceMethod y ∈ kG) (hse : Cond.selects y.cls y y ∈ kG) (hz : Cond.initialized y.cls ∈ kG) (hcode : Cond.code y bytes maxL ret ∈ kG)
    (hd : y.cls ≠ "java/lang/invoke/MethodHandle" ∧ y.cls ≠ "java/lang/invoke/VarHandle" ∧ (parseMethodDescriptor y.desc).map (fun d => d.parameters.length) = some n)
    (hC : kC γ p s m args c cc nL own A) (hw : kW γ A ws s H locs) (hM : kM γ l y bytes maxL ret rm (.ref b :: As) wc post) (hR : rm.frames + 1 ≤ R.frames ∧ 8 + (maxL + 11) + rm.locals ≤ R.locals) (hf : cells + rm.cells ≤ R.cells ∧ slots + rm.slots ≤ R.slots)
    (hml : ls.size = nL) (hn : As.length = n) (qb : Nat) {ci : Nat} {T : u_T} {N : Nat} {fs : List Value} (hb : ws[qb]? = some (b, .inr (ci, fs))) (hc : vwCl[ci]? = some (y.cls, T, N)) (hstack : st0 = As.reverse ++ .ref b :: rest) (hW : (rest.map fun v => v.category).sum ≤ 8)
    (isC isR : List Nat) (hnc : va_nd isC = true) (hcs : isC.map (fun i => ws[i]?) = wc.map some) (hrs : isR.map (fun i => ws[i]?) = wr.map some) (hnr : va_nd isR = true) (hdis : ∀ i ∈ isR, i ∉ isC) (hdg : decode cc pc = .ok (.invokevirtual index, 3))
    (kk : ∀ (r : Option Value) (w1 : va_W) (H1 : Heap) (locs1 : List Loc), post r w1 → kW γ A (wr ++ w1) s H1 locs1 → W p l e R s m args below meth c H1 locs1 (cells + rm.cells) (slots + rm.slots) Q (F0 m (pc + 3) ls (r.toList ++ rest))) : W p l e R s m args below meth c H locs cells slots Q (F0 m pc ls st0) :=
  k_call (va_runVN (As := As) (rest := rest) (Ts := kG) ⟨hC.1, hC.2.1, hC.2.2.1, hC.2.2.2.1, hC.2.2.2.2.1⟩ (hM H.size) ⟨va_cnB n hC.2.2.2.2.1 (k_words0 hcode) rfl rfl rfl (hC.2.2.2.2.2.1.2.1 _ hl) (hC.2.2.2.2.1 _ hz) hd hR, hC.2.2.2.2.1 _ hi, hC.2.2.2.2.1 _ hse⟩
    ⟨(k_pre hC hw isC hnc hcs).1, va_recv hC.2.2.2.2.2.1.1 hw.1 hc hb, (k_pre hC hw isC hnc hcs).2⟩ rfl hn hml hstack (lv_room hW) hdg hf) hC hw isC isR hcs hrs hnr hdis kk
theorem k_SN {host : String} (n : Nat) (hl : Cond.methodLinkNest own index y host ∈ kN) (hi : Cond.static y ∈ kG) (hz : Cond.initialized y.cls ∈ kG) (hcode : Cond.code y bytes maxL ret ∈ kG)
    (hd : y.cls ≠ "java/lang/invoke/MethodHandle" ∧ y.cls ≠ "java/lang/invoke/VarHandle" ∧ (parseMethodDescriptor y.desc).map (fun d => d.parameters.length) = some n)
    (hC : kC γ p s m args c cc nL own A) (hw : kW γ A ws s H locs) (hM : kM γ l y bytes maxL ret rm As wc post) (hR : rm.frames + 1 ≤ R.frames ∧ 8 + (maxL + 11) + rm.locals ≤ R.locals) (hf : cells + rm.cells ≤ R.cells ∧ slots + rm.slots ≤ R.slots)
    (hml : ls.size = nL) (hn : As.length = n) (hstack : st0 = As.reverse ++ rest) (hW : (rest.map fun v => v.category).sum ≤ 8)
    (isC isR : List Nat) (hnc : va_nd isC = true) (hcs : isC.map (fun i => ws[i]?) = wc.map some) (hrs : isR.map (fun i => ws[i]?) = wr.map some) (hnr : va_nd isR = true) (hdis : ∀ i ∈ isR, i ∉ isC) (hdg : decode cc pc = .ok (.invokestatic index, 3))
    (kk : ∀ (r : Option Value) (w1 : va_W) (H1 : Heap) (locs1 : List Loc), post r w1 → kW γ A (wr ++ w1) s H1 locs1 → W p l e R s m args below meth c H1 locs1 (cells + rm.cells) (slots + rm.slots) Q (F0 m (pc + 3) ls (r.toList ++ rest))) : W p l e R s m args below meth c H locs cells slots Q (F0 m pc ls st0) :=
  k_call (va_runSN (As := As) (rest := rest) (Ts := kG) ⟨hC.1, hC.2.1, hC.2.2.1, hC.2.2.2.1, hC.2.2.2.2.1⟩ (hM H.size) ⟨va_cnB n hC.2.2.2.2.1 (k_words0 hcode) rfl rfl rfl (hC.2.2.2.2.2.1.2.1 _ hl) (hC.2.2.2.2.1 _ hz) hd hR, hC.2.2.2.2.1 _ hi, trivial⟩
    (k_pre hC hw isC hnc hcs) rfl hn hml hstack (lv_room hW) hdg hf) hC hw isC isR hcs hrs hnr hdis kk
theorem k_IN {host : String} (n : Nat) (hl : Cond.methodLinkNest own index y host ∈ kN) (hi : Cond.instanceMethod y ∈ kG) (hz : Cond.initialized y.cls ∈ kG) (hcode : Cond.code y bytes maxL none ∈ kG) (hy1 : y.name = "<init>")
    (hd : y.cls ≠ "java/lang/invoke/MethodHandle" ∧ y.cls ≠ "java/lang/invoke/VarHandle" ∧ (parseMethodDescriptor y.desc).map (fun d => d.parameters.length) = some n)
    (hC : kC γ p s m args c cc nL own A) (hw : kW γ A ws s H locs) (hM : kM γ l y bytes maxL none rm (.ref b :: As) wc post) (hR : rm.frames + 1 ≤ R.frames ∧ 8 + (maxL + 11) + rm.locals ≤ R.locals) (hf : cells + rm.cells ≤ R.cells ∧ slots + rm.slots ≤ R.slots)
    (hml : ls.size = nL) (hn : As.length = n) (hstack : st0 = As.reverse ++ .ref b :: rest) (hW : (rest.map fun v => v.category).sum ≤ 8)
    (isC isR : List Nat) (hnc : va_nd isC = true) (hcs : isC.map (fun i => ws[i]?) = wc.map some) (hrs : isR.map (fun i => ws[i]?) = wr.map some) (hnr : va_nd isR = true) (hdis : ∀ i ∈ isR, i ∉ isC) (hdg : decode cc pc = .ok (.invokespecial index, 3))
    (kk : ∀ (r : Option Value) (w1 : va_W) (H1 : Heap) (locs1 : List Loc), post r w1 → kW γ A (wr ++ w1) s H1 locs1 → W p l e R s m args below meth c H1 locs1 (cells + rm.cells) (slots + rm.slots) Q (F0 m (pc + 3) ls (r.toList ++ rest))) : W p l e R s m args below meth c H locs cells slots Q (F0 m pc ls st0) :=
  k_call (va_runIN (As := As) (rest := rest) (Ts := kG) ⟨hC.1, hC.2.1, hC.2.2.1, hC.2.2.2.1, hC.2.2.2.2.1⟩ (hM H.size) ⟨va_cnB n hC.2.2.2.2.1 (k_words0 hcode) rfl rfl rfl (hC.2.2.2.2.2.1.2.1 _ hl) (hC.2.2.2.2.1 _ hz) hd hR, hy1, hC.2.2.2.2.1 _ hi⟩
    (k_pre hC hw isC hnc hcs) rfl hn hml hstack (lv_room hW) hdg hf) hC hw isC isR hcs hrs hnr hdis kk
/-- returns -/
theorem k_end {mc ms : Nat} {w1 : va_W} (hw : kW γ A ws s H locs) (is : List Nat) (hn : va_nd is = true) (hs : is.map (fun i => ws[i]?) = w1.map some) {r : Option Value} (hp : post r w1) (t : State) (ht : t.heap = H) : kQ γ A post args s (.returned r) t := by
  have hw' := kW.sub hw is hn hs
  exact ⟨⟨r, w1, rfl, hp, by rw [ht]; exact hw'.1, hw'.2.1⟩, hw.2.2.F ht⟩
theorem k_vret {mc ms : Nat} {w1 : va_W} (hC : kC γ p s m args c cc nL own A) (hr : meth.sig.returnType = none) (hlocks : meth.locks = false) (hw : kW γ A ws s H locs) (is : List Nat) (hn : va_nd is = true) (hs : is.map (fun i => ws[i]?) = w1.map some) (hp : post none w1) (hc : cells ≤ mc) (hsl : slots ≤ ms) (hdg : decode cc pc = .ok (.return_, 1)) :
    W p l e R s m args below meth c H locs cells slots (MQ below (kQ γ A post) args s mc ms A) (F0 m pc ls []) :=
  W.widen hc hsl (W.vret hC.1 hC.2.1 hr (fun t ht hW => k_end (mc := 0) (ms := 0) hw is hn hs hp t ht) hw.2.2.2.2 hdg hlocks)
theorem k_iret {mc ms : Nat} {w1 : va_W} {v : Int32} (hC : kC γ p s m args c cc nL own A) (hr : meth.sig.returnType = some .int) (hlocks : meth.locks = false) (hw : kW γ A ws s H locs) (is : List Nat) (hn : va_nd is = true) (hs : is.map (fun i => ws[i]?) = w1.map some) (hp : post (some (.int v)) w1) (hc : cells ≤ mc) (hsl : slots ≤ ms) (hdg : decode cc pc = .ok (.ireturn, 1)) :
    W p l e R s m args below meth c H locs cells slots (MQ below (kQ γ A post) args s mc ms A) (F0 m pc ls [.int v]) :=
  W.widen hc hsl (W.iret hC.1 hC.2.1 hr (fun t ht hW => k_end (mc := 0) (ms := 0) hw is hn hs hp t ht) hw.2.2.2.2 hdg hlocks)
end KW
end
section
section KW2
variable {γ : kΓ} {p : Program} {l : Launch} {e : Env} {R : Room} {s : State} {m : MethodId} {args : Array Value} {below : List Frame} {meth : Method} {c : Code} {H : Heap} {locs : List Loc} {cells slots : Nat} {Q : State → Prop}
variable {cc : ByteArray} {nL pc : Nat} {own : String} {A : Nat → Prop} {ws : va_W} {ls : Array Slot} {rest st0 : List Value} {post : Option Value → va_W → Prop}
theorem gw_oi : Cond.instanceMethod Lib.objectInit ∈ kG := kG_mk (by decide +kernel) (by decide +kernel)
theorem gw_oc : Cond.code Lib.objectInit ⟨#[0xb1]⟩ 1 none ∈ kG := kG_mk (by decide +kernel) (by decide +kernel)
theorem k_objInit (hC : kC γ p s m args c cc nL own A) {idx : Nat} (hl : Cond.methodLink own idx Lib.objectInit ∈ kG) {a : Nat} (hml : ls.size = nL) (hf : 1 ≤ R.frames) (hlo : (rest.map fun v => v.category).sum + 12 ≤ R.locals) (hdg : decode cc pc = .ok (.invokespecial idx, 3))
    (kk : W p l e R s m args below meth c H locs cells slots Q (F0 m (pc + 3) ls rest)) : W p l e R s m args below meth c H locs cells slots Q (F0 m pc ls (.ref a :: rest)) :=
  W.objInit hC.1 hC.2.1 hC.2.2.2.1 (hC.2.2.2.2.1 _ hl) (hC.2.2.2.2.1 _ gw_oi) (hC.2.2.2.2.1 _ gw_oc) rfl (hml.trans hC.2.2.1.symm) rfl hdg hf (by show 2 * 0 + _ + 12 ≤ _; omega) (W.eq rfl kk)
theorem k_nothing (hC : kC γ p s m args c cc nL own A) (hw : kW γ A ws s H locs) {index : Nat} (hg : Cond.fieldLink own index RX10 "NOTHING" "LTithedThoughts$Word;" ∈ kG) (hdg : decode cc pc = .ok (.getstatic index, 3))
    (kk : W p l e R s m args below meth c H locs cells slots Q (F0 m (pc + 3) ls (.ref γ.2.2.2.1 :: rest))) : W p l e R s m args below meth c H locs cells slots Q (F0 m pc ls rest) :=
  va_gets hC.1 hC.2.1 (va_Z.narrow hC.2.2.2.2.2.1.2.2.1 (fun q h => hC.2.2.2.2.2.2.2 q h)) hw.2.2 hC.2.2.2.1 (hC.2.2.2.2.1 _ hg) (fun _ h => h) hdg kk
theorem k_clsq {κ : Nat → ClassId} {D : va_G} {cA : ClassId} {C : String} (hK : va_K D vwCl (kT κ) s) (t0 : Nat) (ht : (kT κ)[t0]? = some (κ t0, .object C)) (hK2 : va_K D vwCl (kT κ ++ [(cA, .object C)]) s) : cA = κ t0 := by
  obtain ⟨_, _, _, _, _, h1⟩ := (hK.2 t0 _ ht).2
  obtain ⟨_, _, _, _, _, h2⟩ := (hK2.2 6 (cA, .object C) rfl).2
  exact Option.some.inj (h2.symm.trans h1)
theorem k_newq (hC : kC γ p s m args c cc nL own A) (hw : kW γ A ws s H locs) {C : String} {index : Nat} (hcl : Cond.classLink own index C ∈ kG) (ho : Cond.arrayOver (.object C) ∈ kN) (t0 : Nat) (ht : (kT γ.2.1)[t0]? = some (γ.2.1 t0, .object C))
    {n : Int32} {N' : Nat} (hn : ¬ n < 0) (hN : n.toNatClampNeg = N') (hbytes : N' * 4 ≤ 536870912) (hcells : cells + 1 ≤ R.cells) (hslots : slots + N' ≤ R.slots) (hdg : decode cc pc = .ok (.anewarray index, 3))
    (kk : ∀ (q : Nat) (H1 : Heap), kW γ A (ws ++ [(q, .inl (γ.2.1 t0, N', .inr (.inr (.inr (.inr (fun _ => none))))))]) s H1 locs → W p l e R s m args below meth c H1 locs (cells + 1) (slots + N') Q (F0 m (pc + 3) ls (.ref q :: rest))) : W p l e R s m args below meth c H locs cells slots Q (F0 m pc ls (.int n :: rest)) :=
  va_newq hC.1 hC.2.1 hC.2.2.2.1 (hC.2.2.2.2.1 _ hcl) (hC.2.2.2.2.2.1.2.1 _ ho) hC.2.2.2.2.2.1.1 hw.1 hw.2.1 hw.2.2 hC.2.2.2.2.2.2.1 hn hN hbytes hcells hslots hdg (fun q cA H1 hK2 h1 h2 h3 => by
    have e9 := k_clsq hC.2.2.2.2.2.1.1 t0 ht hK2
    subst e9
    exact kk q H1 ⟨h1, h2, h3⟩)
theorem k_astq (hC : kC γ p s m args c cc nL own A) (hw : kW γ A ws s H locs) (q0 t0 qk ci : Nat) {r : vw_C} {a n v : Nat} {vs : List Value} {f : Nat → Option Nat} (ha : ws[q0]? = some (a, .inl (γ.2.1 t0, n, .inr (.inr (.inr (.inr f)))))) (ht : (kT γ.2.1)[t0]? = some (γ.2.1 t0, .object r.1)) (hv : ws[qk]? = some (v, .inr (ci, vs))) (hc : vwCl[ci]? = some r) {i : Int32} (hin : vp_in i n) (hdg : decode cc pc = .ok (.aastore, 1))
    (kk : ∀ (H1 : Heap) (locs1 : List Loc), kW γ A (ws.set q0 (a, .inl (γ.2.1 t0, n, .inr (.inr (.inr (.inr (va_up f i.toNatClampNeg (some v)))))))) s H1 locs1 → W p l e R s m args below meth c H1 locs1 cells slots Q (F0 m (pc + 1) ls rest)) : W p l e R s m args below meth c H locs cells slots Q (F0 m pc ls (.ref v :: .int i :: .ref a :: rest)) :=
  va_astq hC.1 hC.2.1 hC.2.2.2.2.2.1.1 hw.1 hw.2.1 hw.2.2 q0 t0 qk ci ha ht hv hc hin hdg (fun H1 locs1 h1 h2 h3 => kk H1 locs1 ⟨h1, h2, h3⟩)
theorem k_aldq (hC : kC γ p s m args c cc nL own A) (hw : kW γ A ws s H locs) (q0 t0 : Nat) {C : String} {a n : Nat} {f : Nat → Option Nat} (ha : ws[q0]? = some (a, .inl (γ.2.1 t0, n, .inr (.inr (.inr (.inr f)))))) (ht : (kT γ.2.1)[t0]? = some (γ.2.1 t0, .object C)) {i : Int32} (hin : vp_in i n) {v : Value} (hv : va_rf (f i.toNatClampNeg) = v) (hdg : decode cc pc = .ok (.aaload, 1))
    (kk : W p l e R s m args below meth c H locs cells slots Q (F0 m (pc + 1) ls (v :: rest))) : W p l e R s m args below meth c H locs cells slots Q (F0 m pc ls (.int i :: .ref a :: rest)) :=
  va_aldq hC.1 hC.2.1 hC.2.2.2.2.2.1.1 hw.1 q0 t0 ha ht hin hdg (by rw [hv]; exact kk)
theorem gw_an : Cond.native arraycopyName ∈ kG := kG_mk (by decide +kernel) (by decide +kernel)
theorem gw_as : Cond.static arraycopyName ∈ kG := kG_mk (by decide +kernel) (by decide +kernel)
theorem gw_ai : Cond.initialized "java/lang/System" ∈ kG := kG_mk (by decide +kernel) (by decide +kernel)
theorem k_copyi (hC : kC γ p s m args c cc nL own A) (hw : kW γ A ws s H locs) {index : Nat} (hl : Cond.methodLink own index arraycopyName ∈ kG) (hml : ls.size = nL) (q0 q1 : Nat) {a0 a n0 n1 : Nat} {f g : Nat → Int32} (ha0 : ws[q0]? = some (a0, .inl (γ.2.1 0, n0, .inl f))) (ha1 : ws[q1]? = some (a, .inl (γ.2.1 0, n1, .inl g)))
    {sp dp n : Int32} (h1 : ¬ sp < 0) (h2 : ¬ dp < 0) (h3 : ¬ n < 0) (h4 : sp.toNatClampNeg + n.toNatClampNeg ≤ n0) (h5 : dp.toNatClampNeg + n.toNatClampNeg ≤ n1) (hframes : 1 ≤ R.frames) (hlocals : (rest.map fun v => v.category).sum + (nativeFrameWords "java/lang/System" "arraycopy" 5 + 11) ≤ R.locals) (hdg : decode cc pc = .ok (.invokestatic index, 3))
    (kk : ∀ (H1 : Heap) (locs1 : List Loc), kW γ A (ws.set q1 (a, .inl (γ.2.1 0, n1, .inl (va_cpy f g sp.toNatClampNeg dp.toNatClampNeg n.toNatClampNeg)))) s H1 locs1 → W p l e R s m args below meth c H1 locs1 cells slots Q (F0 m (pc + 3) ls rest)) : W p l e R s m args below meth c H locs cells slots Q (F0 m pc ls (.int n :: .int dp :: .ref a :: .int sp :: .ref a0 :: rest)) :=
  va_copyi hC.1 hC.2.1 (hC.2.2.1.trans hml.symm) hC.2.2.2.1 (hC.2.2.2.2.1 _ hl) (hC.2.2.2.2.1 _ gw_an) (hC.2.2.2.2.1 _ gw_as) (hC.2.2.2.2.1 _ gw_ai) hC.2.2.2.2.2.1.1 hw.1 hw.2.1 hw.2.2 q0 q1 0 0 (ty := .int) ha0 ha1 rfl rfl rfl h1 h2 h3 h4 h5 (fun _ _ => rfl) hframes hlocals hdg (fun H1 locs1 h1 h2 h3 => kk H1 locs1 ⟨h1, h2, h3⟩)
theorem k_copyl (hC : kC γ p s m args c cc nL own A) (hw : kW γ A ws s H locs) {index : Nat} (hl : Cond.methodLink own index arraycopyName ∈ kG) (hml : ls.size = nL) (q0 q1 : Nat) {a0 a n0 n1 : Nat} {f g : Nat → Int64} (ha0 : ws[q0]? = some (a0, .inl (γ.2.1 1, n0, .inr (.inl f)))) (ha1 : ws[q1]? = some (a, .inl (γ.2.1 1, n1, .inr (.inl g))))
    {sp dp n : Int32} (h1 : ¬ sp < 0) (h2 : ¬ dp < 0) (h3 : ¬ n < 0) (h4 : sp.toNatClampNeg + n.toNatClampNeg ≤ n0) (h5 : dp.toNatClampNeg + n.toNatClampNeg ≤ n1) (hframes : 1 ≤ R.frames) (hlocals : (rest.map fun v => v.category).sum + (nativeFrameWords "java/lang/System" "arraycopy" 5 + 11) ≤ R.locals) (hdg : decode cc pc = .ok (.invokestatic index, 3))
    (kk : ∀ (H1 : Heap) (locs1 : List Loc), kW γ A (ws.set q1 (a, .inl (γ.2.1 1, n1, .inr (.inl (va_cpy f g sp.toNatClampNeg dp.toNatClampNeg n.toNatClampNeg))))) s H1 locs1 → W p l e R s m args below meth c H1 locs1 cells slots Q (F0 m (pc + 3) ls rest)) : W p l e R s m args below meth c H locs cells slots Q (F0 m pc ls (.int n :: .int dp :: .ref a :: .int sp :: .ref a0 :: rest)) :=
  va_copyl hC.1 hC.2.1 (hC.2.2.1.trans hml.symm) hC.2.2.2.1 (hC.2.2.2.2.1 _ hl) (hC.2.2.2.2.1 _ gw_an) (hC.2.2.2.2.1 _ gw_as) (hC.2.2.2.2.1 _ gw_ai) hC.2.2.2.2.2.1.1 hw.1 hw.2.1 hw.2.2 q0 q1 1 1 (ty := .long) ha0 ha1 rfl rfl rfl h1 h2 h3 h4 h5 (fun _ _ => rfl) hframes hlocals hdg (fun H1 locs1 h1 h2 h3 => kk H1 locs1 ⟨h1, h2, h3⟩)
theorem k_zret {mc ms : Nat} {w1 : va_W} {v : Int32} (hC : kC γ p s m args c cc nL own A) (hr : meth.sig.returnType = some .boolean) (hlocks : meth.locks = false) (hz : narrow .boolean (.int v) = .int v) (hw : kW γ A ws s H locs) (is : List Nat) (hn : va_nd is = true) (hs : is.map (fun i => ws[i]?) = w1.map some) (hp : post (some (.int v)) w1) (hc : cells ≤ mc) (hsl : slots ≤ ms) (hdg : decode cc pc = .ok (.ireturn, 1)) :
    W p l e R s m args below meth c H locs cells slots (MQ below (kQ γ A post) args s mc ms A) (F0 m pc ls [.int v]) :=
  W.widen hc hsl (W.zret hC.1 hC.2.1 hr hz (fun t ht hW => k_end (mc := 0) (ms := 0) hw is hn hs hp t ht) hw.2.2.2.2 hdg hlocks)
theorem k_ldc2 (hC : kC γ p s m args c cc nL own A) {index : Nat} {v : Int64} (hg : Cond.constantLong own index v ∈ kG) (hdg : decode cc pc = .ok (.ldc2_w index, 3)) (k : W p l e R s m args below meth c H locs cells slots Q (F0 m (pc + 3) ls (.long v :: rest))) : W p l e R s m args below meth c H locs cells slots Q (F0 m pc ls rest) :=
  lv_ldc2 hC.1 hC.2.1 hC.2.2.2.1 (hC.2.2.2.2.1 _ hg) hdg k
theorem k_ldcw (hC : kC γ p s m args c cc nL own A) {index : Nat} {v : Int32} (hg : Cond.constant own index v ∈ kG) (hdg : decode cc pc = .ok (.ldc_w index, 3)) (k : W p l e R s m args below meth c H locs cells slots Q (F0 m (pc + 3) ls (.int v :: rest))) : W p l e R s m args below meth c H locs cells slots Q (F0 m pc ls rest) :=
  lv_ldcw hC.1 hC.2.1 hC.2.2.2.1 (hC.2.2.2.2.1 _ hg) hdg k
end KW2
theorem k_in0 {n : Nat} {i : Int32} (h : (0 : Int) ≤ i.toInt ∧ i.toInt < n) : vp_in i n := vp_in_iff.mpr h
end
section
theorem gw_0 : Cond.initialized RL ∈ kG := kG_mk (kT_1 0 (by decide +kernel)) (by decide +kernel)
theorem gw_1 : Cond.initialized RX11 ∈ kG := kG_mk (kT_1 1 (by decide +kernel)) (by decide +kernel)
theorem gw_2 : Cond.initialized RX8 ∈ kG := kG_mk (kT_1 2 (by decide +kernel)) (by decide +kernel)
theorem gw_3 : Cond.initialized RJx29ce0 ∈ kG := kG_mk (kT_1 3 (by decide +kernel)) (by decide +kernel)
theorem gw_4 : Cond.initialized RX10 ∈ kG := kG_mk (kT_1 4 (by decide +kernel)) (by decide +kernel)
theorem gw_5 : Cond.initialized RX9 ∈ kG := kG_mk (kT_1 5 (by decide +kernel)) (by decide +kernel)
theorem gw_6 : Cond.initialized RX7 ∈ kG := kG_mk (kT_1 6 (by decide +kernel)) (by decide +kernel)
theorem gw_7 : Cond.initialized RJ7 ∈ kG := kG_mk (kT_1 7 (by decide +kernel)) (by decide +kernel)
theorem gw_8 : Cond.initialized RX3 ∈ kG := kG_mk (kT_1 8 (by decide +kernel)) (by decide +kernel)
theorem gw_9 : Cond.initialized RX2 ∈ kG := kG_mk (kT_1 9 (by decide +kernel)) (by decide +kernel)
theorem gw_10 : Cond.initialized RX6 ∈ kG := kG_mk (kT_1 10 (by decide +kernel)) (by decide +kernel)
theorem gw_11 : Cond.initialized RX1 ∈ kG := kG_mk (kT_1 11 (by decide +kernel)) (by decide +kernel)
theorem gw_12 : Cond.initialized RX4 ∈ kG := kG_mk (kT_1 12 (by decide +kernel)) (by decide +kernel)
theorem gw_13 : Cond.initialized RX0 ∈ kG := kG_mk (kT_1 13 (by decide +kernel)) (by decide +kernel)
theorem gw_14 : Cond.initialized RX5 ∈ kG := kG_mk (kT_1 14 (by decide +kernel)) (by decide +kernel)
theorem gw_15 : Cond.initialized RX12 ∈ kG := kG_mk (kT_1 15 (by decide +kernel)) (by decide +kernel)
theorem gw_16 : Cond.initialized RJ10 ∈ kG := kG_mk (kT_1 16 (by decide +kernel)) (by decide +kernel)
theorem gw_17 : Cond.initialized RJ9 ∈ kG := kG_mk (kT_1 17 (by decide +kernel)) (by decide +kernel)
theorem gw_18 : Cond.initialized "java/lang/Throwable" ∈ kG := kG_mk (kT_1 18 (by decide +kernel)) (by decide +kernel)
theorem gw_19 : Cond.initialized "java/lang/Exception" ∈ kG := kG_mk (kT_1 19 (by decide +kernel)) (by decide +kernel)
theorem gw_20 : Cond.initialized "java/lang/RuntimeException" ∈ kG := kG_mk (kT_1 20 (by decide +kernel)) (by decide +kernel)
theorem gw_21 : Cond.initialized "java/util/NoSuchElementException" ∈ kG := kG_mk (kT_1 21 (by decide +kernel)) (by decide +kernel)
theorem gw_22 : Cond.initialized RJ6 ∈ kG := kG_mk (kT_1 22 (by decide +kernel)) (by decide +kernel)
theorem gw_23 : Cond.classLink RL 8 RX11 ∈ kG := kG_mk (kT_1 23 (by decide +kernel)) (by decide +kernel)
theorem gw_24 : Cond.instantiable RX11 11 ∈ kG := kG_mk (kT_1 24 (by decide +kernel)) (by decide +kernel)
theorem gw_25 : Cond.methodLink RL 26 yX11_init ∈ kG := kG_mk (kT_1 25 (by decide +kernel)) (by decide +kernel)
theorem gw_26 : Cond.instanceMethod yX11_init ∈ kG := kG_mk (kT_1 26 (by decide +kernel)) (by decide +kernel)
theorem gw_27 : Cond.code yX11_init cX11_init 2 none ∈ kG := kG_mk (kT_1 27 (by decide +kernel)) (by decide +kernel)
theorem gw_28 : Cond.methodLink RX11 1 Lib.objectInit ∈ kG := kG_mk (kT_1 28 (by decide +kernel)) (by decide +kernel)
theorem gw_29 : Cond.instanceMethod Lib.objectInit ∈ kG := kG_mk (kT_1 29 (by decide +kernel)) (by decide +kernel)
theorem gw_30 : Cond.code Lib.objectInit object_method_1_code 1 none ∈ kG := kG_mk (kT_1 30 (by decide +kernel)) (by decide +kernel)
theorem gw_31 : Cond.classLink RX11 7 RX8 ∈ kG := kG_mk (kT_1 31 (by decide +kernel)) (by decide +kernel)
theorem gw_32 : Cond.instantiable RX8 8 ∈ kG := kG_mk (kT_1 32 (by decide +kernel)) (by decide +kernel)
theorem nw_33 : Cond.methodLinkNest RX11 9 yX8_init "TithedThoughts" ∈ kN := kN_mk (kT_1 33 (by decide +kernel)) (by decide +kernel)
theorem gw_34 : Cond.instanceMethod yX8_init ∈ kG := kG_mk (kT_1 34 (by decide +kernel)) (by decide +kernel)
theorem gw_35 : Cond.code yX8_init cX8_init 1 none ∈ kG := kG_mk (kT_1 35 (by decide +kernel)) (by decide +kernel)
theorem gw_36 : Cond.methodLink RX8 3 Lib.objectInit ∈ kG := kG_mk (kT_1 36 (by decide +kernel)) (by decide +kernel)
theorem gw_37 : Cond.fieldLink RX8 15 "TithedThoughts$Word" "NOTHING" "LTithedThoughts$Word;" ∈ kG := kG_mk (kT_1 37 (by decide +kernel)) (by decide +kernel)
theorem gw_39 : Cond.fieldLink RX8 9 "TithedThoughts$Tokens" "signs" "[B" ∈ kG := kG_mk (kT_1 39 (by decide +kernel)) (by decide +kernel)
theorem nw_40 : Cond.fieldLinkNest RX11 85 "TithedThoughts$Tokens" "length" "I" "TithedThoughts" ∈ kN := kN_mk (kT_1 40 (by decide +kernel)) (by decide +kernel)
theorem gw_41 : Cond.fieldLink RX8 24 "TithedThoughts$Tokens" "length" "I" ∈ kG := kG_mk (kT_1 41 (by decide +kernel)) (by decide +kernel)
theorem gw_42 : Cond.fieldLink RX8 34 "TithedThoughts$Tokens" "start" "I" ∈ kG := kG_mk (kT_1 42 (by decide +kernel)) (by decide +kernel)
theorem nw_43 : Cond.fieldLinkNest RX5 119 "TithedThoughts$Tokens" "start" "I" "TithedThoughts" ∈ kN := kN_mk (kT_1 43 (by decide +kernel)) (by decide +kernel)
theorem gw_44 : Cond.fieldLink RX8 28 "TithedThoughts$Tokens" "behind" "I" ∈ kG := kG_mk (kT_1 44 (by decide +kernel)) (by decide +kernel)
theorem nw_45 : Cond.fieldLinkNest RX5 116 "TithedThoughts$Tokens" "kind" "I" "TithedThoughts" ∈ kN := kN_mk (kT_1 45 (by decide +kernel)) (by decide +kernel)
theorem gw_46 : Cond.fieldLink RX8 37 "TithedThoughts$Tokens" "kind" "I" ∈ kG := kG_mk (kT_1 46 (by decide +kernel)) (by decide +kernel)
theorem gw_47 : Cond.fieldLink RX8 60 "TithedThoughts$Tokens" "number" "I" ∈ kG := kG_mk (kT_1 47 (by decide +kernel)) (by decide +kernel)
theorem nw_48 : Cond.fieldLinkNest RX5 238 "TithedThoughts$Tokens" "number" "I" "TithedThoughts" ∈ kN := kN_mk (kT_1 48 (by decide +kernel)) (by decide +kernel)
theorem gw_49 : Cond.fieldLink RX8 43 "TithedThoughts$Tokens" "letters" "J" ∈ kG := kG_mk (kT_1 49 (by decide +kernel)) (by decide +kernel)
theorem nw_50 : Cond.fieldLinkNest RX5 254 "TithedThoughts$Tokens" "letters" "J" "TithedThoughts" ∈ kN := kN_mk (kT_1 50 (by decide +kernel)) (by decide +kernel)
theorem gw_51 : Cond.fieldLink RX8 21 "TithedThoughts$Tokens" "word" "LTithedThoughts$Word;" ∈ kG := kG_mk (kT_1 51 (by decide +kernel)) (by decide +kernel)
theorem nw_52 : Cond.fieldLinkNest RX5 36 "TithedThoughts$Tokens" "word" "LTithedThoughts$Word;" "TithedThoughts" ∈ kN := kN_mk (kT_1 52 (by decide +kernel)) (by decide +kernel)
theorem gw_70 : Cond.arrayClass FieldType.byte ∈ kG := kG_mk (kT_1 70 (by decide +kernel)) (by decide +kernel)
theorem gw_71 : Cond.classLink RX11 16 RX9 ∈ kG := kG_mk (kT_1 71 (by decide +kernel)) (by decide +kernel)
theorem gw_72 : Cond.instantiable RX9 3 ∈ kG := kG_mk (kT_1 72 (by decide +kernel)) (by decide +kernel)
theorem gw_73 : Cond.methodLink RX11 18 yX9_init ∈ kG := kG_mk (kT_1 73 (by decide +kernel)) (by decide +kernel)
theorem gw_74 : Cond.instanceMethod yX9_init ∈ kG := kG_mk (kT_1 74 (by decide +kernel)) (by decide +kernel)
theorem gw_75 : Cond.code yX9_init cX9_init 2 none ∈ kG := kG_mk (kT_1 75 (by decide +kernel)) (by decide +kernel)
theorem gw_76 : Cond.methodLink RX9 3 Lib.objectInit ∈ kG := kG_mk (kT_1 76 (by decide +kernel)) (by decide +kernel)
theorem gw_77 : Cond.classLink RX9 9 RX7 ∈ kG := kG_mk (kT_1 77 (by decide +kernel)) (by decide +kernel)
theorem nw_78 : Cond.arrayOver (FieldType.object "TithedThoughts$State") ∈ kN := kN_mk (kT_1 78 (by decide +kernel)) (by decide +kernel)
theorem gw_79 : Cond.instantiable RX7 9 ∈ kG := kG_mk (kT_1 79 (by decide +kernel)) (by decide +kernel)
theorem gw_80 : Cond.methodLink RX9 17 yX7_init ∈ kG := kG_mk (kT_1 80 (by decide +kernel)) (by decide +kernel)
theorem gw_81 : Cond.instanceMethod yX7_init ∈ kG := kG_mk (kT_1 81 (by decide +kernel)) (by decide +kernel)
theorem gw_82 : Cond.code yX7_init cX7_init 1 none ∈ kG := kG_mk (kT_1 82 (by decide +kernel)) (by decide +kernel)
theorem gw_83 : Cond.methodLink RX7 3 Lib.objectInit ∈ kG := kG_mk (kT_1 83 (by decide +kernel)) (by decide +kernel)
theorem gw_84 : Cond.methodLink RX7 31 yX7_clear ∈ kG := kG_mk (kT_1 84 (by decide +kernel)) (by decide +kernel)
theorem gw_85 : Cond.instanceMethod yX7_clear ∈ kG := kG_mk (kT_1 85 (by decide +kernel)) (by decide +kernel)
theorem gw_86 : Cond.selects RX7 yX7_clear yX7_clear ∈ kG := kG_mk (kT_1 86 (by decide +kernel)) (by decide +kernel)
theorem gw_87 : Cond.code yX7_clear cX7_clear 1 none ∈ kG := kG_mk (kT_1 87 (by decide +kernel)) (by decide +kernel)
theorem gw_88 : Cond.methodLink RX7 34 yJ7_fill_53178 ∈ kG := kG_mk (kT_1 88 (by decide +kernel)) (by decide +kernel)
theorem gw_89 : Cond.static yJ7_fill_53178 ∈ kG := kG_mk (kT_1 89 (by decide +kernel)) (by decide +kernel)
theorem gw_90 : Cond.code yJ7_fill_53178 cJ7_fill_53178 4 none ∈ kG := kG_mk (kT_1 90 (by decide +kernel)) (by decide +kernel)
theorem gw_91 : Cond.methodLink RX7 40 yJ7_fill_d0a16 ∈ kG := kG_mk (kT_1 91 (by decide +kernel)) (by decide +kernel)
theorem gw_92 : Cond.static yJ7_fill_d0a16 ∈ kG := kG_mk (kT_1 92 (by decide +kernel)) (by decide +kernel)
theorem gw_93 : Cond.code yJ7_fill_d0a16 cJ7_fill_d0a16 5 none ∈ kG := kG_mk (kT_1 93 (by decide +kernel)) (by decide +kernel)
theorem gw_94 : Cond.fieldLink RX7 9 "TithedThoughts$State" "last" "[I" ∈ kG := kG_mk (kT_1 94 (by decide +kernel)) (by decide +kernel)
theorem nw_95 : Cond.fieldLinkNest RX11 143 "TithedThoughts$State" "last" "[I" "TithedThoughts" ∈ kN := kN_mk (kT_1 95 (by decide +kernel)) (by decide +kernel)
theorem gw_96 : Cond.fieldLink RX7 15 "TithedThoughts$State" "counted" "[I" ∈ kG := kG_mk (kT_1 96 (by decide +kernel)) (by decide +kernel)
theorem nw_97 : Cond.fieldLinkNest RX1 73 "TithedThoughts$State" "counted" "[I" "TithedThoughts" ∈ kN := kN_mk (kT_1 97 (by decide +kernel)) (by decide +kernel)
theorem nw_98 : Cond.fieldLinkNest RX11 146 "TithedThoughts$State" "counted" "[I" "TithedThoughts" ∈ kN := kN_mk (kT_1 98 (by decide +kernel)) (by decide +kernel)
theorem gw_99 : Cond.fieldLink RX7 18 "TithedThoughts$State" "gained" "[I" ∈ kG := kG_mk (kT_1 99 (by decide +kernel)) (by decide +kernel)
theorem nw_100 : Cond.fieldLinkNest RX11 149 "TithedThoughts$State" "gained" "[I" "TithedThoughts" ∈ kN := kN_mk (kT_1 100 (by decide +kernel)) (by decide +kernel)
theorem gw_101 : Cond.fieldLink RX7 21 "TithedThoughts$State" "row" "[J" ∈ kG := kG_mk (kT_1 101 (by decide +kernel)) (by decide +kernel)
theorem gw_102 : Cond.fieldLink RX7 25 "TithedThoughts$State" "kept" "[I" ∈ kG := kG_mk (kT_1 102 (by decide +kernel)) (by decide +kernel)
theorem gw_103 : Cond.fieldLink RX7 28 "TithedThoughts$State" "barn" "[I" ∈ kG := kG_mk (kT_1 103 (by decide +kernel)) (by decide +kernel)
theorem nw_104 : Cond.fieldLinkNest RX11 135 "TithedThoughts$State" "barn" "[I" "TithedThoughts" ∈ kN := kN_mk (kT_1 104 (by decide +kernel)) (by decide +kernel)
theorem gw_105 : Cond.fieldLink RX7 43 "TithedThoughts$State" "inBarn" "I" ∈ kG := kG_mk (kT_1 105 (by decide +kernel)) (by decide +kernel)
theorem nw_106 : Cond.fieldLinkNest RX1 76 "TithedThoughts$State" "inBarn" "I" "TithedThoughts" ∈ kN := kN_mk (kT_1 106 (by decide +kernel)) (by decide +kernel)
theorem nw_107 : Cond.fieldLinkNest RX11 179 "TithedThoughts$State" "inBarn" "I" "TithedThoughts" ∈ kN := kN_mk (kT_1 107 (by decide +kernel)) (by decide +kernel)
theorem nw_108 : Cond.fieldLinkNest RX2 36 "TithedThoughts$State" "ran" "I" "TithedThoughts" ∈ kN := kN_mk (kT_1 108 (by decide +kernel)) (by decide +kernel)
theorem gw_109 : Cond.fieldLink RX7 47 "TithedThoughts$State" "ran" "I" ∈ kG := kG_mk (kT_1 109 (by decide +kernel)) (by decide +kernel)
theorem nw_110 : Cond.fieldLinkNest RX11 176 "TithedThoughts$State" "ran" "I" "TithedThoughts" ∈ kN := kN_mk (kT_1 110 (by decide +kernel)) (by decide +kernel)
theorem gw_111 : Cond.fieldLink RX7 50 "TithedThoughts$State" "began" "I" ∈ kG := kG_mk (kT_1 111 (by decide +kernel)) (by decide +kernel)
theorem nw_112 : Cond.fieldLinkNest RX1 79 "TithedThoughts$State" "began" "I" "TithedThoughts" ∈ kN := kN_mk (kT_1 112 (by decide +kernel)) (by decide +kernel)
theorem gw_132 : Cond.arrayClass FieldType.int ∈ kG := kG_mk (kT_1 132 (by decide +kernel)) (by decide +kernel)
theorem gw_133 : Cond.arrayClass FieldType.long ∈ kG := kG_mk (kT_1 133 (by decide +kernel)) (by decide +kernel)
theorem gw_134 : Cond.fieldLink RX9 11 "TithedThoughts$Undone" "states" "[LTithedThoughts$State;" ∈ kG := kG_mk (kT_1 134 (by decide +kernel)) (by decide +kernel)
theorem gw_135 : Cond.fieldLink RX9 22 "TithedThoughts$Undone" "next" "I" ∈ kG := kG_mk (kT_1 135 (by decide +kernel)) (by decide +kernel)
theorem gw_136 : Cond.fieldLink RX9 18 "TithedThoughts$Undone" "many" "I" ∈ kG := kG_mk (kT_1 136 (by decide +kernel)) (by decide +kernel)
theorem nw_137 : Cond.fieldLinkNest RX11 192 "TithedThoughts$Undone" "many" "I" "TithedThoughts" ∈ kN := kN_mk (kT_1 137 (by decide +kernel)) (by decide +kernel)
theorem gw_145 : Cond.classLink RX11 23 RX3 ∈ kG := kG_mk (kT_1 145 (by decide +kernel)) (by decide +kernel)
theorem gw_146 : Cond.instantiable RX3 6 ∈ kG := kG_mk (kT_1 146 (by decide +kernel)) (by decide +kernel)
theorem nw_147 : Cond.methodLinkNest RX11 25 yX3_init "TithedThoughts" ∈ kN := kN_mk (kT_1 147 (by decide +kernel)) (by decide +kernel)
theorem gw_148 : Cond.instanceMethod yX3_init ∈ kG := kG_mk (kT_1 148 (by decide +kernel)) (by decide +kernel)
theorem gw_149 : Cond.code yX3_init cX3_init 1 none ∈ kG := kG_mk (kT_1 149 (by decide +kernel)) (by decide +kernel)
theorem gw_150 : Cond.methodLink RX3 3 Lib.objectInit ∈ kG := kG_mk (kT_1 150 (by decide +kernel)) (by decide +kernel)
theorem gw_151 : Cond.classLink RX3 9 RX7 ∈ kG := kG_mk (kT_1 151 (by decide +kernel)) (by decide +kernel)
theorem gw_152 : Cond.methodLink RX3 11 yX7_init ∈ kG := kG_mk (kT_1 152 (by decide +kernel)) (by decide +kernel)
theorem gw_153 : Cond.fieldLink RX3 12 "TithedThoughts$Page" "state" "LTithedThoughts$State;" ∈ kG := kG_mk (kT_1 153 (by decide +kernel)) (by decide +kernel)
theorem nw_154 : Cond.fieldLinkNest RX11 131 "TithedThoughts$Page" "state" "LTithedThoughts$State;" "TithedThoughts" ∈ kN := kN_mk (kT_1 154 (by decide +kernel)) (by decide +kernel)
theorem gw_155 : Cond.fieldLink RX3 18 "TithedThoughts$Page" "years" "[I" ∈ kG := kG_mk (kT_1 155 (by decide +kernel)) (by decide +kernel)
theorem nw_156 : Cond.fieldLinkNest RX2 39 "TithedThoughts$Page" "years" "[I" "TithedThoughts" ∈ kN := kN_mk (kT_1 156 (by decide +kernel)) (by decide +kernel)
theorem nw_157 : Cond.fieldLinkNest RX5 101 "TithedThoughts$Page" "years" "[I" "TithedThoughts" ∈ kN := kN_mk (kT_1 157 (by decide +kernel)) (by decide +kernel)
theorem gw_158 : Cond.fieldLink RX3 22 "TithedThoughts$Page" "guesses" "[I" ∈ kG := kG_mk (kT_1 158 (by decide +kernel)) (by decide +kernel)
theorem nw_159 : Cond.fieldLinkNest RX11 311 "TithedThoughts$Page" "guesses" "[I" "TithedThoughts" ∈ kN := kN_mk (kT_1 159 (by decide +kernel)) (by decide +kernel)
theorem gw_160 : Cond.fieldLink RX3 28 "TithedThoughts$Page" "lines" "I" ∈ kG := kG_mk (kT_1 160 (by decide +kernel)) (by decide +kernel)
theorem nw_161 : Cond.fieldLinkNest RX2 31 "TithedThoughts$Page" "lines" "I" "TithedThoughts" ∈ kN := kN_mk (kT_1 161 (by decide +kernel)) (by decide +kernel)
theorem nw_162 : Cond.fieldLinkNest RX5 112 "TithedThoughts$Page" "lines" "I" "TithedThoughts" ∈ kN := kN_mk (kT_1 162 (by decide +kernel)) (by decide +kernel)
theorem nw_163 : Cond.fieldLinkNest RX11 186 "TithedThoughts$Page" "lines" "I" "TithedThoughts" ∈ kN := kN_mk (kT_1 163 (by decide +kernel)) (by decide +kernel)
theorem gw_164 : Cond.fieldLink RX3 32 "TithedThoughts$Page" "guessed" "I" ∈ kG := kG_mk (kT_1 164 (by decide +kernel)) (by decide +kernel)
theorem nw_165 : Cond.fieldLinkNest RX11 189 "TithedThoughts$Page" "guessed" "I" "TithedThoughts" ∈ kN := kN_mk (kT_1 165 (by decide +kernel)) (by decide +kernel)
theorem nw_166 : Cond.fieldLinkNest RX11 104 "TithedThoughts$Page" "laid" "Z" "TithedThoughts" ∈ kN := kN_mk (kT_1 166 (by decide +kernel)) (by decide +kernel)
theorem nw_180 : Cond.arrayOver (FieldType.object "TithedThoughts$Page") ∈ kN := kN_mk (kT_1 180 (by decide +kernel)) (by decide +kernel)
theorem gw_181 : Cond.classLink RX11 34 RX2 ∈ kG := kG_mk (kT_1 181 (by decide +kernel)) (by decide +kernel)
theorem gw_182 : Cond.instantiable RX2 5 ∈ kG := kG_mk (kT_1 182 (by decide +kernel)) (by decide +kernel)
theorem nw_183 : Cond.methodLinkNest RX11 36 yX2_init "TithedThoughts" ∈ kN := kN_mk (kT_1 183 (by decide +kernel)) (by decide +kernel)
theorem gw_184 : Cond.instanceMethod yX2_init ∈ kG := kG_mk (kT_1 184 (by decide +kernel)) (by decide +kernel)
theorem gw_185 : Cond.code yX2_init cX2_init 1 none ∈ kG := kG_mk (kT_1 185 (by decide +kernel)) (by decide +kernel)
theorem gw_186 : Cond.methodLink RX2 3 Lib.objectInit ∈ kG := kG_mk (kT_1 186 (by decide +kernel)) (by decide +kernel)
theorem gw_187 : Cond.classLink RX2 9 RX7 ∈ kG := kG_mk (kT_1 187 (by decide +kernel)) (by decide +kernel)
theorem gw_188 : Cond.methodLink RX2 11 yX7_init ∈ kG := kG_mk (kT_1 188 (by decide +kernel)) (by decide +kernel)
theorem gw_189 : Cond.fieldLink RX2 12 "TithedThoughts$Course" "state" "LTithedThoughts$State;" ∈ kG := kG_mk (kT_1 189 (by decide +kernel)) (by decide +kernel)
theorem nw_190 : Cond.fieldLinkNest RX11 238 "TithedThoughts$Course" "state" "LTithedThoughts$State;" "TithedThoughts" ∈ kN := kN_mk (kT_1 190 (by decide +kernel)) (by decide +kernel)
theorem gw_191 : Cond.fieldLink RX2 21 "TithedThoughts$Course" "tithes" "I" ∈ kG := kG_mk (kT_1 191 (by decide +kernel)) (by decide +kernel)
theorem nw_192 : Cond.fieldLinkNest RX11 242 "TithedThoughts$Course" "tithes" "I" "TithedThoughts" ∈ kN := kN_mk (kT_1 192 (by decide +kernel)) (by decide +kernel)
theorem gw_193 : Cond.fieldLink RX2 25 "TithedThoughts$Course" "leftOut" "I" ∈ kG := kG_mk (kT_1 193 (by decide +kernel)) (by decide +kernel)
theorem nw_194 : Cond.fieldLinkNest RX11 232 "TithedThoughts$Course" "leftOut" "I" "TithedThoughts" ∈ kN := kN_mk (kT_1 194 (by decide +kernel)) (by decide +kernel)
theorem gw_195 : Cond.fieldLink RX2 28 "TithedThoughts$Course" "firstTithe" "I" ∈ kG := kG_mk (kT_1 195 (by decide +kernel)) (by decide +kernel)
theorem nw_196 : Cond.fieldLinkNest RX11 235 "TithedThoughts$Course" "firstTithe" "I" "TithedThoughts" ∈ kN := kN_mk (kT_1 196 (by decide +kernel)) (by decide +kernel)
theorem gw_197 : Cond.fieldLink RX2 90 "TithedThoughts$Course" "drawn" "J" ∈ kG := kG_mk (kT_1 197 (by decide +kernel)) (by decide +kernel)
theorem gw_209 : Cond.classLink RX11 41 RX6 ∈ kG := kG_mk (kT_1 209 (by decide +kernel)) (by decide +kernel)
theorem gw_210 : Cond.instantiable RX6 2 ∈ kG := kG_mk (kT_1 210 (by decide +kernel)) (by decide +kernel)
theorem nw_211 : Cond.methodLinkNest RX11 43 yX6_init "TithedThoughts" ∈ kN := kN_mk (kT_1 211 (by decide +kernel)) (by decide +kernel)
theorem gw_212 : Cond.instanceMethod yX6_init ∈ kG := kG_mk (kT_1 212 (by decide +kernel)) (by decide +kernel)
theorem gw_213 : Cond.code yX6_init cX6_init 1 none ∈ kG := kG_mk (kT_1 213 (by decide +kernel)) (by decide +kernel)
theorem gw_214 : Cond.methodLink RX6 3 Lib.objectInit ∈ kG := kG_mk (kT_1 214 (by decide +kernel)) (by decide +kernel)
theorem gw_215 : Cond.fieldLink RX6 9 "TithedThoughts$Spread" "has" "[I" ∈ kG := kG_mk (kT_1 215 (by decide +kernel)) (by decide +kernel)
theorem nw_216 : Cond.fieldLinkNest RX11 274 "TithedThoughts$Spread" "has" "[I" "TithedThoughts" ∈ kN := kN_mk (kT_1 216 (by decide +kernel)) (by decide +kernel)
theorem gw_217 : Cond.fieldLink RX6 15 "TithedThoughts$Spread" "gets" "[I" ∈ kG := kG_mk (kT_1 217 (by decide +kernel)) (by decide +kernel)
theorem gw_223 : Cond.classLink RX11 48 RX1 ∈ kG := kG_mk (kT_1 223 (by decide +kernel)) (by decide +kernel)
theorem gw_224 : Cond.instantiable RX1 6 ∈ kG := kG_mk (kT_1 224 (by decide +kernel)) (by decide +kernel)
theorem nw_225 : Cond.methodLinkNest RX11 50 yX1_init "TithedThoughts" ∈ kN := kN_mk (kT_1 225 (by decide +kernel)) (by decide +kernel)
theorem gw_226 : Cond.instanceMethod yX1_init ∈ kG := kG_mk (kT_1 226 (by decide +kernel)) (by decide +kernel)
theorem gw_227 : Cond.code yX1_init cX1_init 1 none ∈ kG := kG_mk (kT_1 227 (by decide +kernel)) (by decide +kernel)
theorem gw_228 : Cond.methodLink RX1 5 Lib.objectInit ∈ kG := kG_mk (kT_1 228 (by decide +kernel)) (by decide +kernel)
theorem gw_229 : Cond.fieldLink RX1 11 "TithedThoughts$BestRow" "chosen" "[I" ∈ kG := kG_mk (kT_1 229 (by decide +kernel)) (by decide +kernel)
theorem nw_230 : Cond.fieldLinkNest RX11 254 "TithedThoughts$BestRow" "chosen" "[I" "TithedThoughts" ∈ kN := kN_mk (kT_1 230 (by decide +kernel)) (by decide +kernel)
theorem gw_231 : Cond.fieldLink RX1 17 "TithedThoughts$BestRow" "gains" "[I" ∈ kG := kG_mk (kT_1 231 (by decide +kernel)) (by decide +kernel)
theorem gw_232 : Cond.fieldLink RX1 20 "TithedThoughts$BestRow" "due" "[Z" ∈ kG := kG_mk (kT_1 232 (by decide +kernel)) (by decide +kernel)
theorem gw_233 : Cond.fieldLink RX1 24 "TithedThoughts$BestRow" "found" "[I" ∈ kG := kG_mk (kT_1 233 (by decide +kernel)) (by decide +kernel)
theorem gw_234 : Cond.fieldLink RX1 42 "TithedThoughts$BestRow" "kind" "I" ∈ kG := kG_mk (kT_1 234 (by decide +kernel)) (by decide +kernel)
theorem gw_235 : Cond.fieldLink RX1 33 "TithedThoughts$BestRow" "many" "I" ∈ kG := kG_mk (kT_1 235 (by decide +kernel)) (by decide +kernel)
theorem gw_249 : Cond.arrayClass FieldType.boolean ∈ kG := kG_mk (kT_2 9 (by decide +kernel)) (by decide +kernel)
theorem gw_250 : Cond.classLink RX11 55 RX4 ∈ kG := kG_mk (kT_2 10 (by decide +kernel)) (by decide +kernel)
theorem gw_251 : Cond.instantiable RX4 5 ∈ kG := kG_mk (kT_2 11 (by decide +kernel)) (by decide +kernel)
theorem nw_252 : Cond.methodLinkNest RX11 57 yX4_init "TithedThoughts" ∈ kN := kN_mk (kT_2 12 (by decide +kernel)) (by decide +kernel)
theorem gw_253 : Cond.instanceMethod yX4_init ∈ kG := kG_mk (kT_2 13 (by decide +kernel)) (by decide +kernel)
theorem gw_254 : Cond.code yX4_init cX4_init 1 none ∈ kG := kG_mk (kT_2 14 (by decide +kernel)) (by decide +kernel)
theorem gw_255 : Cond.methodLink RX4 3 Lib.objectInit ∈ kG := kG_mk (kT_2 15 (by decide +kernel)) (by decide +kernel)
theorem gw_256 : Cond.fieldLink RX4 9 "TithedThoughts$Pairs" "chosen" "[I" ∈ kG := kG_mk (kT_2 16 (by decide +kernel)) (by decide +kernel)
theorem nw_257 : Cond.fieldLinkNest RX11 310 "TithedThoughts$Pairs" "chosen" "[I" "TithedThoughts" ∈ kN := kN_mk (kT_2 17 (by decide +kernel)) (by decide +kernel)
theorem gw_258 : Cond.fieldLink RX4 15 "TithedThoughts$Pairs" "tried" "[I" ∈ kG := kG_mk (kT_2 18 (by decide +kernel)) (by decide +kernel)
theorem gw_259 : Cond.fieldLink RX4 18 "TithedThoughts$Pairs" "dowries" "[I" ∈ kG := kG_mk (kT_2 19 (by decide +kernel)) (by decide +kernel)
theorem gw_260 : Cond.fieldLink RX4 27 "TithedThoughts$Pairs" "tenants" "I" ∈ kG := kG_mk (kT_2 20 (by decide +kernel)) (by decide +kernel)
theorem gw_261 : Cond.fieldLink RX4 34 "TithedThoughts$Pairs" "most" "I" ∈ kG := kG_mk (kT_2 21 (by decide +kernel)) (by decide +kernel)
theorem nw_262 : Cond.fieldLinkNest RX11 307 "TithedThoughts$Pairs" "most" "I" "TithedThoughts" ∈ kN := kN_mk (kT_2 22 (by decide +kernel)) (by decide +kernel)
theorem gw_274 : Cond.classLink RX11 62 RX0 ∈ kG := kG_mk (kT_2 34 (by decide +kernel)) (by decide +kernel)
theorem gw_275 : Cond.instantiable RX0 19 ∈ kG := kG_mk (kT_2 35 (by decide +kernel)) (by decide +kernel)
theorem gw_276 : Cond.methodLink RX11 64 yX0_init ∈ kG := kG_mk (kT_2 36 (by decide +kernel)) (by decide +kernel)
theorem gw_277 : Cond.instanceMethod yX0_init ∈ kG := kG_mk (kT_2 37 (by decide +kernel)) (by decide +kernel)
theorem gw_278 : Cond.code yX0_init cX0_init 1 none ∈ kG := kG_mk (kT_2 38 (by decide +kernel)) (by decide +kernel)
theorem gw_279 : Cond.methodLink RX0 3 Lib.objectInit ∈ kG := kG_mk (kT_2 39 (by decide +kernel)) (by decide +kernel)
theorem gw_280 : Cond.methodLink RX0 37 yX0_clear ∈ kG := kG_mk (kT_2 40 (by decide +kernel)) (by decide +kernel)
theorem gw_281 : Cond.instanceMethod yX0_clear ∈ kG := kG_mk (kT_2 41 (by decide +kernel)) (by decide +kernel)
theorem gw_282 : Cond.selects RX0 yX0_clear yX0_clear ∈ kG := kG_mk (kT_2 42 (by decide +kernel)) (by decide +kernel)
theorem gw_283 : Cond.code yX0_clear cX0_clear 1 none ∈ kG := kG_mk (kT_2 43 (by decide +kernel)) (by decide +kernel)
theorem gw_284 : Cond.fieldLink RX0 9 "TithedThoughts$Abbey" "thoughtNames" "[J" ∈ kG := kG_mk (kT_2 44 (by decide +kernel)) (by decide +kernel)
theorem gw_285 : Cond.fieldLink RX0 15 "TithedThoughts$Abbey" "worth" "[I" ∈ kG := kG_mk (kT_2 45 (by decide +kernel)) (by decide +kernel)
theorem nw_286 : Cond.fieldLinkNest RX1 115 "TithedThoughts$Abbey" "worth" "[I" "TithedThoughts" ∈ kN := kN_mk (kT_2 46 (by decide +kernel)) (by decide +kernel)
theorem nw_287 : Cond.fieldLinkNest RX11 121 "TithedThoughts$Abbey" "worth" "[I" "TithedThoughts" ∈ kN := kN_mk (kT_2 47 (by decide +kernel)) (by decide +kernel)
theorem nw_288 : Cond.fieldLinkNest RX7 90 "TithedThoughts$Abbey" "worth" "[I" "TithedThoughts" ∈ kN := kN_mk (kT_2 48 (by decide +kernel)) (by decide +kernel)
theorem gw_289 : Cond.fieldLink RX0 19 "TithedThoughts$Abbey" "part" "[I" ∈ kG := kG_mk (kT_2 49 (by decide +kernel)) (by decide +kernel)
theorem nw_290 : Cond.fieldLinkNest RX11 125 "TithedThoughts$Abbey" "part" "[I" "TithedThoughts" ∈ kN := kN_mk (kT_2 50 (by decide +kernel)) (by decide +kernel)
theorem gw_291 : Cond.fieldLink RX0 22 "TithedThoughts$Abbey" "after" "[I" ∈ kG := kG_mk (kT_2 51 (by decide +kernel)) (by decide +kernel)
theorem nw_292 : Cond.fieldLinkNest RX6 34 "TithedThoughts$Abbey" "after" "[I" "TithedThoughts" ∈ kN := kN_mk (kT_2 52 (by decide +kernel)) (by decide +kernel)
theorem nw_293 : Cond.fieldLinkNest RX1 112 "TithedThoughts$Abbey" "after" "[I" "TithedThoughts" ∈ kN := kN_mk (kT_2 53 (by decide +kernel)) (by decide +kernel)
theorem nw_294 : Cond.fieldLinkNest RX7 69 "TithedThoughts$Abbey" "after" "[I" "TithedThoughts" ∈ kN := kN_mk (kT_2 54 (by decide +kernel)) (by decide +kernel)
theorem nw_295 : Cond.fieldLinkNest RX11 128 "TithedThoughts$Abbey" "after" "[I" "TithedThoughts" ∈ kN := kN_mk (kT_2 55 (by decide +kernel)) (by decide +kernel)
theorem gw_296 : Cond.fieldLink RX0 25 "TithedThoughts$Abbey" "tenantNames" "[J" ∈ kG := kG_mk (kT_2 56 (by decide +kernel)) (by decide +kernel)
theorem gw_297 : Cond.fieldLink RX0 28 "TithedThoughts$Abbey" "kind" "[I" ∈ kG := kG_mk (kT_2 57 (by decide +kernel)) (by decide +kernel)
theorem nw_298 : Cond.fieldLinkNest RX1 37 "TithedThoughts$Abbey" "kind" "[I" "TithedThoughts" ∈ kN := kN_mk (kT_2 58 (by decide +kernel)) (by decide +kernel)
theorem nw_299 : Cond.fieldLinkNest RX11 140 "TithedThoughts$Abbey" "kind" "[I" "TithedThoughts" ∈ kN := kN_mk (kT_2 59 (by decide +kernel)) (by decide +kernel)
theorem nw_300 : Cond.fieldLinkNest RX7 93 "TithedThoughts$Abbey" "kind" "[I" "TithedThoughts" ∈ kN := kN_mk (kT_2 60 (by decide +kernel)) (by decide +kernel)
theorem gw_301 : Cond.fieldLink RX0 31 "TithedThoughts$Abbey" "code" "[I" ∈ kG := kG_mk (kT_2 61 (by decide +kernel)) (by decide +kernel)
theorem gw_302 : Cond.fieldLink RX0 34 "TithedThoughts$Abbey" "open" "[I" ∈ kG := kG_mk (kT_2 62 (by decide +kernel)) (by decide +kernel)
theorem gw_303 : Cond.fieldLink RX0 40 "TithedThoughts$Abbey" "thoughts" "I" ∈ kG := kG_mk (kT_2 63 (by decide +kernel)) (by decide +kernel)
theorem nw_304 : Cond.fieldLinkNest RX6 28 "TithedThoughts$Abbey" "thoughts" "I" "TithedThoughts" ∈ kN := kN_mk (kT_2 64 (by decide +kernel)) (by decide +kernel)
theorem nw_305 : Cond.fieldLinkNest RX1 89 "TithedThoughts$Abbey" "thoughts" "I" "TithedThoughts" ∈ kN := kN_mk (kT_2 65 (by decide +kernel)) (by decide +kernel)
theorem nw_306 : Cond.fieldLinkNest RX11 108 "TithedThoughts$Abbey" "thoughts" "I" "TithedThoughts" ∈ kN := kN_mk (kT_2 66 (by decide +kernel)) (by decide +kernel)
theorem nw_307 : Cond.fieldLinkNest RX5 122 "TithedThoughts$Abbey" "thoughts" "I" "TithedThoughts" ∈ kN := kN_mk (kT_2 67 (by decide +kernel)) (by decide +kernel)
theorem nw_308 : Cond.fieldLinkNest RX2 94 "TithedThoughts$Abbey" "thoughts" "I" "TithedThoughts" ∈ kN := kN_mk (kT_2 68 (by decide +kernel)) (by decide +kernel)
theorem nw_309 : Cond.fieldLinkNest RX7 87 "TithedThoughts$Abbey" "thoughts" "I" "TithedThoughts" ∈ kN := kN_mk (kT_2 69 (by decide +kernel)) (by decide +kernel)
theorem nw_310 : Cond.fieldLinkNest RX4 21 "TithedThoughts$Abbey" "tenants" "I" "TithedThoughts" ∈ kN := kN_mk (kT_2 70 (by decide +kernel)) (by decide +kernel)
theorem gw_311 : Cond.fieldLink RX0 44 "TithedThoughts$Abbey" "tenants" "I" ∈ kG := kG_mk (kT_2 71 (by decide +kernel)) (by decide +kernel)
theorem nw_312 : Cond.fieldLinkNest RX2 47 "TithedThoughts$Abbey" "tenants" "I" "TithedThoughts" ∈ kN := kN_mk (kT_2 72 (by decide +kernel)) (by decide +kernel)
theorem nw_313 : Cond.fieldLinkNest RX11 111 "TithedThoughts$Abbey" "tenants" "I" "TithedThoughts" ∈ kN := kN_mk (kT_2 73 (by decide +kernel)) (by decide +kernel)
theorem nw_314 : Cond.fieldLinkNest RX5 167 "TithedThoughts$Abbey" "tenants" "I" "TithedThoughts" ∈ kN := kN_mk (kT_2 74 (by decide +kernel)) (by decide +kernel)
theorem gw_315 : Cond.fieldLink RX0 47 "TithedThoughts$Abbey" "tithe" "I" ∈ kG := kG_mk (kT_2 75 (by decide +kernel)) (by decide +kernel)
theorem nw_316 : Cond.fieldLinkNest RX1 86 "TithedThoughts$Abbey" "tithe" "I" "TithedThoughts" ∈ kN := kN_mk (kT_2 76 (by decide +kernel)) (by decide +kernel)
theorem nw_317 : Cond.fieldLinkNest RX2 101 "TithedThoughts$Abbey" "tithe" "I" "TithedThoughts" ∈ kN := kN_mk (kT_2 77 (by decide +kernel)) (by decide +kernel)
theorem nw_318 : Cond.fieldLinkNest RX5 183 "TithedThoughts$Abbey" "tithe" "I" "TithedThoughts" ∈ kN := kN_mk (kT_2 78 (by decide +kernel)) (by decide +kernel)
theorem nw_319 : Cond.fieldLinkNest RX11 167 "TithedThoughts$Abbey" "tithe" "I" "TithedThoughts" ∈ kN := kN_mk (kT_2 79 (by decide +kernel)) (by decide +kernel)
theorem gw_320 : Cond.fieldLink RX0 50 "TithedThoughts$Abbey" "runs" "I" ∈ kG := kG_mk (kT_2 80 (by decide +kernel)) (by decide +kernel)
theorem nw_321 : Cond.fieldLinkNest RX1 118 "TithedThoughts$Abbey" "runs" "I" "TithedThoughts" ∈ kN := kN_mk (kT_2 81 (by decide +kernel)) (by decide +kernel)
theorem nw_322 : Cond.fieldLinkNest RX5 186 "TithedThoughts$Abbey" "runs" "I" "TithedThoughts" ∈ kN := kN_mk (kT_2 82 (by decide +kernel)) (by decide +kernel)
theorem nw_323 : Cond.fieldLinkNest RX11 170 "TithedThoughts$Abbey" "runs" "I" "TithedThoughts" ∈ kN := kN_mk (kT_2 83 (by decide +kernel)) (by decide +kernel)
theorem nw_324 : Cond.fieldLinkNest RX7 115 "TithedThoughts$Abbey" "runs" "I" "TithedThoughts" ∈ kN := kN_mk (kT_2 84 (by decide +kernel)) (by decide +kernel)
theorem gw_325 : Cond.fieldLink RX0 53 "TithedThoughts$Abbey" "engine" "I" ∈ kG := kG_mk (kT_2 85 (by decide +kernel)) (by decide +kernel)
theorem nw_326 : Cond.fieldLinkNest RX5 189 "TithedThoughts$Abbey" "engine" "I" "TithedThoughts" ∈ kN := kN_mk (kT_2 86 (by decide +kernel)) (by decide +kernel)
theorem nw_327 : Cond.fieldLinkNest RX11 173 "TithedThoughts$Abbey" "engine" "I" "TithedThoughts" ∈ kN := kN_mk (kT_2 87 (by decide +kernel)) (by decide +kernel)
theorem gw_328 : Cond.fieldLink RX0 56 "TithedThoughts$Abbey" "once" "I" ∈ kG := kG_mk (kT_2 88 (by decide +kernel)) (by decide +kernel)
theorem nw_329 : Cond.fieldLinkNest RX5 210 "TithedThoughts$Abbey" "once" "I" "TithedThoughts" ∈ kN := kN_mk (kT_2 89 (by decide +kernel)) (by decide +kernel)
theorem gw_330 : Cond.fieldLink RX0 59 "TithedThoughts$Abbey" "codeEnd" "I" ∈ kG := kG_mk (kT_2 90 (by decide +kernel)) (by decide +kernel)
theorem nw_331 : Cond.fieldLinkNest RX5 192 "TithedThoughts$Abbey" "codeEnd" "I" "TithedThoughts" ∈ kN := kN_mk (kT_2 91 (by decide +kernel)) (by decide +kernel)
theorem nw_332 : Cond.fieldLinkNest RX5 198 "TithedThoughts$Abbey" "gainsFrom" "I" "TithedThoughts" ∈ kN := kN_mk (kT_2 92 (by decide +kernel)) (by decide +kernel)
theorem gw_333 : Cond.fieldLink RX0 70 "TithedThoughts$Abbey" "gainsFrom" "I" ∈ kG := kG_mk (kT_2 93 (by decide +kernel)) (by decide +kernel)
theorem nw_334 : Cond.fieldLinkNest RX5 201 "TithedThoughts$Abbey" "gainsTo" "I" "TithedThoughts" ∈ kN := kN_mk (kT_2 94 (by decide +kernel)) (by decide +kernel)
theorem gw_335 : Cond.fieldLink RX0 73 "TithedThoughts$Abbey" "gainsTo" "I" ∈ kG := kG_mk (kT_2 95 (by decide +kernel)) (by decide +kernel)
theorem nw_336 : Cond.fieldLinkNest RX5 204 "TithedThoughts$Abbey" "backFrom" "I" "TithedThoughts" ∈ kN := kN_mk (kT_2 96 (by decide +kernel)) (by decide +kernel)
theorem gw_337 : Cond.fieldLink RX0 89 "TithedThoughts$Abbey" "backFrom" "I" ∈ kG := kG_mk (kT_2 97 (by decide +kernel)) (by decide +kernel)
theorem nw_338 : Cond.fieldLinkNest RX5 207 "TithedThoughts$Abbey" "backTo" "I" "TithedThoughts" ∈ kN := kN_mk (kT_2 98 (by decide +kernel)) (by decide +kernel)
theorem gw_339 : Cond.fieldLink RX0 92 "TithedThoughts$Abbey" "backTo" "I" ∈ kG := kG_mk (kT_2 99 (by decide +kernel)) (by decide +kernel)
theorem gw_379 : Cond.classLink RX11 72 RX5 ∈ kG := kG_mk (kT_2 139 (by decide +kernel)) (by decide +kernel)
theorem gw_380 : Cond.instantiable RX5 5 ∈ kG := kG_mk (kT_2 140 (by decide +kernel)) (by decide +kernel)
theorem gw_381 : Cond.methodLink RX11 74 yX5_init ∈ kG := kG_mk (kT_2 141 (by decide +kernel)) (by decide +kernel)
theorem gw_382 : Cond.instanceMethod yX5_init ∈ kG := kG_mk (kT_2 142 (by decide +kernel)) (by decide +kernel)
theorem gw_383 : Cond.code yX5_init cX5_init 3 none ∈ kG := kG_mk (kT_2 143 (by decide +kernel)) (by decide +kernel)
theorem gw_384 : Cond.methodLink RX5 3 Lib.objectInit ∈ kG := kG_mk (kT_2 144 (by decide +kernel)) (by decide +kernel)
theorem gw_385 : Cond.fieldLink RX5 15 "TithedThoughts$Reader" "tokens" "LTithedThoughts$Tokens;" ∈ kG := kG_mk (kT_2 145 (by decide +kernel)) (by decide +kernel)
theorem gw_386 : Cond.fieldLink RX5 9 "TithedThoughts$Reader" "lines" "[I" ∈ kG := kG_mk (kT_2 146 (by decide +kernel)) (by decide +kernel)
theorem gw_387 : Cond.fieldLink RX5 19 "TithedThoughts$Reader" "abbey" "LTithedThoughts$Abbey;" ∈ kG := kG_mk (kT_2 147 (by decide +kernel)) (by decide +kernel)
theorem gw_388 : Cond.fieldLink RX5 95 "TithedThoughts$Reader" "many" "I" ∈ kG := kG_mk (kT_2 148 (by decide +kernel)) (by decide +kernel)
theorem gw_389 : Cond.fieldLink RX5 91 "TithedThoughts$Reader" "fault" "I" ∈ kG := kG_mk (kT_2 149 (by decide +kernel)) (by decide +kernel)
theorem gw_401 : Cond.fieldLink RX11 10 "TithedThoughts" "tape" "LTithedThoughts$Tokens;" ∈ kG := kG_mk (kT_2 161 (by decide +kernel)) (by decide +kernel)
theorem gw_402 : Cond.fieldLink RX11 19 "TithedThoughts" "undone" "LTithedThoughts$Undone;" ∈ kG := kG_mk (kT_2 162 (by decide +kernel)) (by decide +kernel)
theorem gw_403 : Cond.fieldLink RX11 26 "TithedThoughts" "now" "LTithedThoughts$Page;" ∈ kG := kG_mk (kT_2 163 (by decide +kernel)) (by decide +kernel)
theorem gw_404 : Cond.fieldLink RX11 30 "TithedThoughts" "marks" "[LTithedThoughts$Page;" ∈ kG := kG_mk (kT_2 164 (by decide +kernel)) (by decide +kernel)
theorem gw_405 : Cond.fieldLink RX11 37 "TithedThoughts" "course" "LTithedThoughts$Course;" ∈ kG := kG_mk (kT_2 165 (by decide +kernel)) (by decide +kernel)
theorem gw_406 : Cond.fieldLink RX11 44 "TithedThoughts" "spread" "LTithedThoughts$Spread;" ∈ kG := kG_mk (kT_2 166 (by decide +kernel)) (by decide +kernel)
theorem gw_407 : Cond.fieldLink RX11 51 "TithedThoughts" "bestRow" "LTithedThoughts$BestRow;" ∈ kG := kG_mk (kT_2 167 (by decide +kernel)) (by decide +kernel)
theorem gw_408 : Cond.fieldLink RX11 58 "TithedThoughts" "pairs" "LTithedThoughts$Pairs;" ∈ kG := kG_mk (kT_2 168 (by decide +kernel)) (by decide +kernel)
theorem gw_409 : Cond.fieldLink RX11 77 "TithedThoughts" "reader" "LTithedThoughts$Reader;" ∈ kG := kG_mk (kT_2 169 (by decide +kernel)) (by decide +kernel)
theorem gw_410 : Cond.fieldLink RX11 65 "TithedThoughts" "told" "LTithedThoughts$Abbey;" ∈ kG := kG_mk (kT_2 170 (by decide +kernel)) (by decide +kernel)
theorem gw_411 : Cond.fieldLink RX11 69 "TithedThoughts" "draft" "LTithedThoughts$Abbey;" ∈ kG := kG_mk (kT_2 171 (by decide +kernel)) (by decide +kernel)
theorem gw_435 : Cond.methodLink RL 32 yX11_feed ∈ kG := kG_mk (kT_2 195 (by decide +kernel)) (by decide +kernel)
theorem gw_436 : Cond.instanceMethod yX11_feed ∈ kG := kG_mk (kT_2 196 (by decide +kernel)) (by decide +kernel)
theorem gw_437 : Cond.selects RX11 yX11_feed yX11_feed ∈ kG := kG_mk (kT_2 197 (by decide +kernel)) (by decide +kernel)
theorem gw_438 : Cond.code yX11_feed cX11_feed 7 (some FieldType.int) ∈ kG := kG_mk (kT_2 198 (by decide +kernel)) (by decide +kernel)
theorem gw_439 : Cond.methodLink RX11 81 yX8_addBytes ∈ kG := kG_mk (kT_2 199 (by decide +kernel)) (by decide +kernel)
theorem gw_440 : Cond.instanceMethod yX8_addBytes ∈ kG := kG_mk (kT_2 200 (by decide +kernel)) (by decide +kernel)
theorem gw_441 : Cond.selects RX8 yX8_addBytes yX8_addBytes ∈ kG := kG_mk (kT_2 201 (by decide +kernel)) (by decide +kernel)
theorem gw_442 : Cond.code yX8_addBytes cX8_addBytes 5 none ∈ kG := kG_mk (kT_2 202 (by decide +kernel)) (by decide +kernel)
theorem gw_443 : Cond.methodLink RL 37 yX11_abbey ∈ kG := kG_mk (kT_2 203 (by decide +kernel)) (by decide +kernel)
theorem gw_444 : Cond.instanceMethod yX11_abbey ∈ kG := kG_mk (kT_2 204 (by decide +kernel)) (by decide +kernel)
theorem gw_445 : Cond.selects RX11 yX11_abbey yX11_abbey ∈ kG := kG_mk (kT_2 205 (by decide +kernel)) (by decide +kernel)
theorem gw_446 : Cond.code yX11_abbey cX11_abbey 3 (some FieldType.int) ∈ kG := kG_mk (kT_2 206 (by decide +kernel)) (by decide +kernel)
theorem gw_447 : Cond.methodLink RX11 89 yX5_readAbbey ∈ kG := kG_mk (kT_2 207 (by decide +kernel)) (by decide +kernel)
theorem gw_448 : Cond.instanceMethod yX5_readAbbey ∈ kG := kG_mk (kT_2 208 (by decide +kernel)) (by decide +kernel)
theorem gw_449 : Cond.selects RX5 yX5_readAbbey yX5_readAbbey ∈ kG := kG_mk (kT_2 209 (by decide +kernel)) (by decide +kernel)
theorem gw_450 : Cond.code yX5_readAbbey cX5_readAbbey 4 (some FieldType.int) ∈ kG := kG_mk (kT_2 210 (by decide +kernel)) (by decide +kernel)
theorem gw_451 : Cond.methodLink RX5 23 yX0_clear ∈ kG := kG_mk (kT_2 211 (by decide +kernel)) (by decide +kernel)
theorem gw_452 : Cond.methodLink RX5 28 yX5_begin ∈ kG := kG_mk (kT_2 212 (by decide +kernel)) (by decide +kernel)
theorem gw_454 : Cond.instanceMethod yX5_begin ∈ kG := kG_mk (kT_2 214 (by decide +kernel)) (by decide +kernel)
theorem gw_455 : Cond.code yX5_begin cX5_begin 2 none ∈ kG := kG_mk (kT_2 215 (by decide +kernel)) (by decide +kernel)
theorem gw_456 : Cond.methodLink RX5 114 yX8_begin ∈ kG := kG_mk (kT_2 216 (by decide +kernel)) (by decide +kernel)
theorem gw_457 : Cond.instanceMethod yX8_begin ∈ kG := kG_mk (kT_2 217 (by decide +kernel)) (by decide +kernel)
theorem gw_458 : Cond.selects RX8 yX8_begin yX8_begin ∈ kG := kG_mk (kT_2 218 (by decide +kernel)) (by decide +kernel)
theorem gw_459 : Cond.code yX8_begin cX8_begin 1 none ∈ kG := kG_mk (kT_2 219 (by decide +kernel)) (by decide +kernel)
theorem gw_460 : Cond.methodLink RX8 31 yX8_advance ∈ kG := kG_mk (kT_2 220 (by decide +kernel)) (by decide +kernel)
theorem gw_461 : Cond.instanceMethod yX8_advance ∈ kG := kG_mk (kT_2 221 (by decide +kernel)) (by decide +kernel)
theorem gw_462 : Cond.selects RX8 yX8_advance yX8_advance ∈ kG := kG_mk (kT_2 222 (by decide +kernel)) (by decide +kernel)
theorem gw_463 : Cond.code yX8_advance cX8_advance 2 none ∈ kG := kG_mk (kT_2 223 (by decide +kernel)) (by decide +kernel)
theorem gw_464 : Cond.methodLink RX8 40 yX8_readLetters ∈ kG := kG_mk (kT_2 224 (by decide +kernel)) (by decide +kernel)
theorem gw_466 : Cond.instanceMethod yX8_readLetters ∈ kG := kG_mk (kT_2 226 (by decide +kernel)) (by decide +kernel)
theorem gw_467 : Cond.code yX8_readLetters cX8_readLetters 1 none ∈ kG := kG_mk (kT_2 227 (by decide +kernel)) (by decide +kernel)
theorem gw_468 : Cond.constantLong RX8 58 (32) ∈ kG := kG_mk (kT_2 228 (by decide +kernel)) (by decide +kernel)
theorem gw_469 : Cond.methodLink RX8 47 yX10_of ∈ kG := kG_mk (kT_2 229 (by decide +kernel)) (by decide +kernel)
theorem gw_470 : Cond.static yX10_of ∈ kG := kG_mk (kT_2 230 (by decide +kernel)) (by decide +kernel)
theorem gw_471 : Cond.code yX10_of cX10_of 3 (some (FieldType.object "TithedThoughts$Word")) ∈ kG := kG_mk (kT_2 231 (by decide +kernel)) (by decide +kernel)
theorem gw_472 : Cond.fieldLink RX10 127 "TithedThoughts$Word" "ALL" "[LTithedThoughts$Word;" ∈ kG := kG_mk (kT_2 232 (by decide +kernel)) (by decide +kernel)
theorem gw_474 : Cond.fieldLink RX10 9 "TithedThoughts$Word" "NAME" "LTithedThoughts$Word;" ∈ kG := kG_mk (kT_2 234 (by decide +kernel)) (by decide +kernel)
theorem gw_476 : Cond.methodLink RX8 51 yX8_readDigits ∈ kG := kG_mk (kT_2 236 (by decide +kernel)) (by decide +kernel)
theorem gw_478 : Cond.instanceMethod yX8_readDigits ∈ kG := kG_mk (kT_2 238 (by decide +kernel)) (by decide +kernel)
theorem gw_479 : Cond.code yX8_readDigits cX8_readDigits 1 none ∈ kG := kG_mk (kT_2 239 (by decide +kernel)) (by decide +kernel)
theorem gw_480 : Cond.methodLink RX8 54 yX8_isSign ∈ kG := kG_mk (kT_3 0 (by decide +kernel)) (by decide +kernel)
theorem gw_481 : Cond.static yX8_isSign ∈ kG := kG_mk (kT_3 1 (by decide +kernel)) (by decide +kernel)
theorem gw_482 : Cond.code yX8_isSign cX8_isSign 1 (some FieldType.boolean) ∈ kG := kG_mk (kT_3 2 (by decide +kernel)) (by decide +kernel)
theorem gw_483 : Cond.methodLink RX5 32 yX5_goesOn ∈ kG := kG_mk (kT_3 3 (by decide +kernel)) (by decide +kernel)
theorem gw_485 : Cond.instanceMethod yX5_goesOn ∈ kG := kG_mk (kT_3 5 (by decide +kernel)) (by decide +kernel)
theorem gw_486 : Cond.code yX5_goesOn cX5_goesOn 1 (some FieldType.boolean) ∈ kG := kG_mk (kT_3 6 (by decide +kernel)) (by decide +kernel)
theorem gw_487 : Cond.fieldLink RX5 42 "TithedThoughts$Word" "THOUGHT_WORD" "LTithedThoughts$Word;" ∈ kG := kG_mk (kT_3 7 (by decide +kernel)) (by decide +kernel)
theorem gw_489 : Cond.methodLink RX5 47 yX5_readThought ∈ kG := kG_mk (kT_3 9 (by decide +kernel)) (by decide +kernel)
theorem gw_491 : Cond.instanceMethod yX5_readThought ∈ kG := kG_mk (kT_3 11 (by decide +kernel)) (by decide +kernel)
theorem gw_492 : Cond.code yX5_readThought cX5_readThought 5 none ∈ kG := kG_mk (kT_3 12 (by decide +kernel)) (by decide +kernel)
theorem gw_493 : Cond.methodLink RX5 84 yX5_fail ∈ kG := kG_mk (kT_3 13 (by decide +kernel)) (by decide +kernel)
theorem gw_495 : Cond.instanceMethod yX5_fail ∈ kG := kG_mk (kT_3 15 (by decide +kernel)) (by decide +kernel)
theorem gw_496 : Cond.code yX5_fail cX5_fail 2 none ∈ kG := kG_mk (kT_3 16 (by decide +kernel)) (by decide +kernel)
theorem gw_497 : Cond.methodLink RX5 125 yX8_advance ∈ kG := kG_mk (kT_3 17 (by decide +kernel)) (by decide +kernel)
theorem gw_498 : Cond.methodLink RX5 128 yX5_newName ∈ kG := kG_mk (kT_3 18 (by decide +kernel)) (by decide +kernel)
theorem gw_500 : Cond.instanceMethod yX5_newName ∈ kG := kG_mk (kT_3 20 (by decide +kernel)) (by decide +kernel)
theorem gw_501 : Cond.code yX5_newName cX5_newName 3 (some FieldType.long) ∈ kG := kG_mk (kT_3 21 (by decide +kernel)) (by decide +kernel)
theorem gw_502 : Cond.methodLink RX5 262 yX0_thoughtNamed ∈ kG := kG_mk (kT_3 22 (by decide +kernel)) (by decide +kernel)
theorem gw_503 : Cond.instanceMethod yX0_thoughtNamed ∈ kG := kG_mk (kT_3 23 (by decide +kernel)) (by decide +kernel)
theorem gw_504 : Cond.selects RX0 yX0_thoughtNamed yX0_thoughtNamed ∈ kG := kG_mk (kT_3 24 (by decide +kernel)) (by decide +kernel)
theorem gw_505 : Cond.code yX0_thoughtNamed cX0_thoughtNamed 3 (some FieldType.int) ∈ kG := kG_mk (kT_3 25 (by decide +kernel)) (by decide +kernel)
theorem gw_506 : Cond.methodLink RX0 66 yX0_placeOf ∈ kG := kG_mk (kT_3 26 (by decide +kernel)) (by decide +kernel)
theorem gw_507 : Cond.static yX0_placeOf ∈ kG := kG_mk (kT_3 27 (by decide +kernel)) (by decide +kernel)
theorem gw_508 : Cond.code yX0_placeOf cX0_placeOf 5 (some FieldType.int) ∈ kG := kG_mk (kT_3 28 (by decide +kernel)) (by decide +kernel)
theorem gw_509 : Cond.methodLink RX5 266 yX0_tenantNamed ∈ kG := kG_mk (kT_3 29 (by decide +kernel)) (by decide +kernel)
theorem gw_510 : Cond.instanceMethod yX0_tenantNamed ∈ kG := kG_mk (kT_3 30 (by decide +kernel)) (by decide +kernel)
theorem gw_511 : Cond.selects RX0 yX0_tenantNamed yX0_tenantNamed ∈ kG := kG_mk (kT_3 31 (by decide +kernel)) (by decide +kernel)
theorem gw_512 : Cond.code yX0_tenantNamed cX0_tenantNamed 3 (some FieldType.int) ∈ kG := kG_mk (kT_3 32 (by decide +kernel)) (by decide +kernel)
theorem gw_513 : Cond.methodLink RX5 156 yX5_passUnlessFault ∈ kG := kG_mk (kT_3 33 (by decide +kernel)) (by decide +kernel)
theorem gw_515 : Cond.instanceMethod yX5_passUnlessFault ∈ kG := kG_mk (kT_3 35 (by decide +kernel)) (by decide +kernel)
theorem gw_516 : Cond.code yX5_passUnlessFault cX5_passUnlessFault 1 none ∈ kG := kG_mk (kT_3 36 (by decide +kernel)) (by decide +kernel)
theorem gw_517 : Cond.fieldLink RX5 132 "TithedThoughts$Word" "WORTH" "LTithedThoughts$Word;" ∈ kG := kG_mk (kT_3 37 (by decide +kernel)) (by decide +kernel)
theorem gw_519 : Cond.methodLink RX5 135 yX5_passWord ∈ kG := kG_mk (kT_3 39 (by decide +kernel)) (by decide +kernel)
theorem gw_521 : Cond.instanceMethod yX5_passWord ∈ kG := kG_mk (kT_3 41 (by decide +kernel)) (by decide +kernel)
theorem gw_522 : Cond.code yX5_passWord cX5_passWord 2 none ∈ kG := kG_mk (kT_3 42 (by decide +kernel)) (by decide +kernel)
theorem gw_523 : Cond.methodLink RX5 138 yX5_numberWithin ∈ kG := kG_mk (kT_3 43 (by decide +kernel)) (by decide +kernel)
theorem gw_525 : Cond.instanceMethod yX5_numberWithin ∈ kG := kG_mk (kT_3 45 (by decide +kernel)) (by decide +kernel)
theorem gw_526 : Cond.code yX5_numberWithin cX5_numberWithin 4 (some FieldType.int) ∈ kG := kG_mk (kT_3 46 (by decide +kernel)) (by decide +kernel)
theorem gw_527 : Cond.fieldLink RX5 142 "TithedThoughts$Word" "PART" "LTithedThoughts$Word;" ∈ kG := kG_mk (kT_3 47 (by decide +kernel)) (by decide +kernel)
theorem gw_529 : Cond.methodLink RX5 145 yX5_passSign ∈ kG := kG_mk (kT_3 49 (by decide +kernel)) (by decide +kernel)
theorem gw_531 : Cond.instanceMethod yX5_passSign ∈ kG := kG_mk (kT_3 51 (by decide +kernel)) (by decide +kernel)
theorem gw_532 : Cond.code yX5_passSign cX5_passSign 2 none ∈ kG := kG_mk (kT_3 52 (by decide +kernel)) (by decide +kernel)
theorem gw_533 : Cond.methodLink RX5 148 yX0_addThought ∈ kG := kG_mk (kT_3 53 (by decide +kernel)) (by decide +kernel)
theorem gw_534 : Cond.instanceMethod yX0_addThought ∈ kG := kG_mk (kT_3 54 (by decide +kernel)) (by decide +kernel)
theorem gw_535 : Cond.selects RX0 yX0_addThought yX0_addThought ∈ kG := kG_mk (kT_3 55 (by decide +kernel)) (by decide +kernel)
theorem gw_536 : Cond.code yX0_addThought cX0_addThought 5 none ∈ kG := kG_mk (kT_3 56 (by decide +kernel)) (by decide +kernel)
theorem gw_537 : Cond.fieldLink RX5 50 "TithedThoughts$Word" "FOLLOWS" "LTithedThoughts$Word;" ∈ kG := kG_mk (kT_3 57 (by decide +kernel)) (by decide +kernel)
theorem gw_539 : Cond.methodLink RX5 53 yX5_readFollows ∈ kG := kG_mk (kT_3 59 (by decide +kernel)) (by decide +kernel)
theorem gw_541 : Cond.instanceMethod yX5_readFollows ∈ kG := kG_mk (kT_3 61 (by decide +kernel)) (by decide +kernel)
theorem gw_542 : Cond.code yX5_readFollows cX5_readFollows 3 none ∈ kG := kG_mk (kT_3 62 (by decide +kernel)) (by decide +kernel)
theorem gw_543 : Cond.methodLink RX5 152 yX5_thoughtHere ∈ kG := kG_mk (kT_3 63 (by decide +kernel)) (by decide +kernel)
theorem gw_545 : Cond.instanceMethod yX5_thoughtHere ∈ kG := kG_mk (kT_3 65 (by decide +kernel)) (by decide +kernel)
theorem gw_546 : Cond.code yX5_thoughtHere cX5_thoughtHere 1 (some FieldType.int) ∈ kG := kG_mk (kT_3 66 (by decide +kernel)) (by decide +kernel)
theorem gw_547 : Cond.methodLink RX5 269 yX5_foundHere ∈ kG := kG_mk (kT_3 67 (by decide +kernel)) (by decide +kernel)
theorem gw_549 : Cond.instanceMethod yX5_foundHere ∈ kG := kG_mk (kT_3 69 (by decide +kernel)) (by decide +kernel)
theorem gw_550 : Cond.code yX5_foundHere cX5_foundHere 2 (some FieldType.int) ∈ kG := kG_mk (kT_3 70 (by decide +kernel)) (by decide +kernel)
theorem gw_551 : Cond.methodLink RX5 159 yX0_isTold ∈ kG := kG_mk (kT_3 71 (by decide +kernel)) (by decide +kernel)
theorem gw_552 : Cond.instanceMethod yX0_isTold ∈ kG := kG_mk (kT_3 72 (by decide +kernel)) (by decide +kernel)
theorem gw_553 : Cond.selects RX0 yX0_isTold yX0_isTold ∈ kG := kG_mk (kT_3 73 (by decide +kernel)) (by decide +kernel)
theorem gw_554 : Cond.code yX0_isTold cX0_isTold 3 (some FieldType.boolean) ∈ kG := kG_mk (kT_3 74 (by decide +kernel)) (by decide +kernel)
theorem nw_555 : Cond.methodLinkNest RX0 62 yX11_isIn "TithedThoughts" ∈ kN := kN_mk (kT_3 75 (by decide +kernel)) (by decide +kernel)
theorem gw_556 : Cond.static yX11_isIn ∈ kG := kG_mk (kT_3 76 (by decide +kernel)) (by decide +kernel)
theorem gw_557 : Cond.code yX11_isIn cX11_isIn 2 (some FieldType.boolean) ∈ kG := kG_mk (kT_3 77 (by decide +kernel)) (by decide +kernel)
theorem gw_558 : Cond.methodLink RX5 163 yX0_addFollower ∈ kG := kG_mk (kT_3 78 (by decide +kernel)) (by decide +kernel)
theorem gw_559 : Cond.instanceMethod yX0_addFollower ∈ kG := kG_mk (kT_3 79 (by decide +kernel)) (by decide +kernel)
theorem gw_560 : Cond.selects RX0 yX0_addFollower yX0_addFollower ∈ kG := kG_mk (kT_3 80 (by decide +kernel)) (by decide +kernel)
theorem gw_561 : Cond.code yX0_addFollower cX0_addFollower 3 none ∈ kG := kG_mk (kT_3 81 (by decide +kernel)) (by decide +kernel)
theorem gw_562 : Cond.fieldLink RX5 56 "TithedThoughts$Word" "TENANT" "LTithedThoughts$Word;" ∈ kG := kG_mk (kT_3 82 (by decide +kernel)) (by decide +kernel)
theorem gw_564 : Cond.methodLink RX5 59 yX5_readTenant ∈ kG := kG_mk (kT_3 84 (by decide +kernel)) (by decide +kernel)
theorem gw_566 : Cond.instanceMethod yX5_readTenant ∈ kG := kG_mk (kT_3 86 (by decide +kernel)) (by decide +kernel)
theorem gw_567 : Cond.code yX5_readTenant cX5_readTenant 4 none ∈ kG := kG_mk (kT_3 87 (by decide +kernel)) (by decide +kernel)
theorem gw_568 : Cond.methodLink RX5 170 yX10_isKind ∈ kG := kG_mk (kT_3 88 (by decide +kernel)) (by decide +kernel)
theorem gw_569 : Cond.instanceMethod yX10_isKind ∈ kG := kG_mk (kT_3 89 (by decide +kernel)) (by decide +kernel)
theorem gw_570 : Cond.selects RX10 yX10_isKind yX10_isKind ∈ kG := kG_mk (kT_3 90 (by decide +kernel)) (by decide +kernel)
theorem gw_571 : Cond.code yX10_isKind cX10_isKind 1 (some FieldType.boolean) ∈ kG := kG_mk (kT_3 91 (by decide +kernel)) (by decide +kernel)
theorem gw_572 : Cond.fieldLink RX10 51 "TithedThoughts$Word" "PLAIN_WORD" "LTithedThoughts$Word;" ∈ kG := kG_mk (kT_3 92 (by decide +kernel)) (by decide +kernel)
theorem gw_574 : Cond.fieldLink RX10 54 "TithedThoughts$Word" "SIMPLE_WORD" "LTithedThoughts$Word;" ∈ kG := kG_mk (kT_3 94 (by decide +kernel)) (by decide +kernel)
theorem gw_576 : Cond.fieldLink RX10 57 "TithedThoughts$Word" "CLEVER_WORD" "LTithedThoughts$Word;" ∈ kG := kG_mk (kT_3 96 (by decide +kernel)) (by decide +kernel)
theorem gw_578 : Cond.fieldLink RX10 60 "TithedThoughts$Word" "RUNNER_WORD" "LTithedThoughts$Word;" ∈ kG := kG_mk (kT_3 98 (by decide +kernel)) (by decide +kernel)
theorem gw_580 : Cond.methodLink RX5 176 yX0_addTenant ∈ kG := kG_mk (kT_3 100 (by decide +kernel)) (by decide +kernel)
theorem gw_581 : Cond.instanceMethod yX0_addTenant ∈ kG := kG_mk (kT_3 101 (by decide +kernel)) (by decide +kernel)
theorem gw_582 : Cond.selects RX0 yX0_addTenant yX0_addTenant ∈ kG := kG_mk (kT_3 102 (by decide +kernel)) (by decide +kernel)
theorem gw_583 : Cond.code yX0_addTenant cX0_addTenant 4 none ∈ kG := kG_mk (kT_3 103 (by decide +kernel)) (by decide +kernel)
theorem gw_584 : Cond.fieldLink RX5 62 "TithedThoughts$Word" "TITHE" "LTithedThoughts$Word;" ∈ kG := kG_mk (kT_3 104 (by decide +kernel)) (by decide +kernel)
theorem gw_586 : Cond.fieldLink RX5 65 "TithedThoughts$Word" "RUNS" "LTithedThoughts$Word;" ∈ kG := kG_mk (kT_3 106 (by decide +kernel)) (by decide +kernel)
theorem gw_588 : Cond.fieldLink RX5 68 "TithedThoughts$Word" "ENGINE" "LTithedThoughts$Word;" ∈ kG := kG_mk (kT_3 108 (by decide +kernel)) (by decide +kernel)
theorem gw_590 : Cond.methodLink RX5 71 yX5_readSetting ∈ kG := kG_mk (kT_3 110 (by decide +kernel)) (by decide +kernel)
theorem gw_592 : Cond.instanceMethod yX5_readSetting ∈ kG := kG_mk (kT_3 112 (by decide +kernel)) (by decide +kernel)
theorem gw_593 : Cond.code yX5_readSetting cX5_readSetting 2 none ∈ kG := kG_mk (kT_3 113 (by decide +kernel)) (by decide +kernel)
theorem gw_594 : Cond.methodLink RX5 180 yX5_passOnce ∈ kG := kG_mk (kT_3 114 (by decide +kernel)) (by decide +kernel)
theorem gw_596 : Cond.instanceMethod yX5_passOnce ∈ kG := kG_mk (kT_3 116 (by decide +kernel)) (by decide +kernel)
theorem gw_597 : Cond.code yX5_passOnce cX5_passOnce 2 none ∈ kG := kG_mk (kT_3 117 (by decide +kernel)) (by decide +kernel)
theorem gw_598 : Cond.fieldLink RX5 75 "TithedThoughts$Word" "GAINS" "LTithedThoughts$Word;" ∈ kG := kG_mk (kT_3 118 (by decide +kernel)) (by decide +kernel)
theorem gw_600 : Cond.fieldLink RX5 78 "TithedThoughts$Word" "BACK" "LTithedThoughts$Word;" ∈ kG := kG_mk (kT_3 120 (by decide +kernel)) (by decide +kernel)
theorem gw_602 : Cond.methodLink RX5 81 yX5_readLaw ∈ kG := kG_mk (kT_3 122 (by decide +kernel)) (by decide +kernel)
theorem gw_604 : Cond.instanceMethod yX5_readLaw ∈ kG := kG_mk (kT_3 124 (by decide +kernel)) (by decide +kernel)
theorem gw_605 : Cond.code yX5_readLaw cX5_readLaw 3 none ∈ kG := kG_mk (kT_3 125 (by decide +kernel)) (by decide +kernel)
theorem gw_606 : Cond.methodLink RX5 195 yX5_readLevel ∈ kG := kG_mk (kT_3 126 (by decide +kernel)) (by decide +kernel)
theorem gw_608 : Cond.instanceMethod yX5_readLevel ∈ kG := kG_mk (kT_3 128 (by decide +kernel)) (by decide +kernel)
theorem gw_609 : Cond.code yX5_readLevel cX5_readLevel 5 none ∈ kG := kG_mk (kT_3 129 (by decide +kernel)) (by decide +kernel)
theorem gw_610 : Cond.methodLink RX5 213 yX5_readPart ∈ kG := kG_mk (kT_3 130 (by decide +kernel)) (by decide +kernel)
theorem gw_612 : Cond.instanceMethod yX5_readPart ∈ kG := kG_mk (kT_3 132 (by decide +kernel)) (by decide +kernel)
theorem gw_613 : Cond.code yX5_readPart cX5_readPart 5 none ∈ kG := kG_mk (kT_3 133 (by decide +kernel)) (by decide +kernel)
theorem gw_614 : Cond.methodLink RX5 232 yX10_isFact ∈ kG := kG_mk (kT_3 134 (by decide +kernel)) (by decide +kernel)
theorem gw_615 : Cond.instanceMethod yX10_isFact ∈ kG := kG_mk (kT_3 135 (by decide +kernel)) (by decide +kernel)
theorem gw_616 : Cond.selects RX10 yX10_isFact yX10_isFact ∈ kG := kG_mk (kT_3 136 (by decide +kernel)) (by decide +kernel)
theorem gw_617 : Cond.code yX10_isFact cX10_isFact 1 (some FieldType.boolean) ∈ kG := kG_mk (kT_3 137 (by decide +kernel)) (by decide +kernel)
theorem gw_618 : Cond.fieldLink RX10 72 "TithedThoughts$Word" "COUNTED_WORD" "LTithedThoughts$Word;" ∈ kG := kG_mk (kT_3 138 (by decide +kernel)) (by decide +kernel)
theorem gw_620 : Cond.fieldLink RX10 75 "TithedThoughts$Word" "RICH_WORD" "LTithedThoughts$Word;" ∈ kG := kG_mk (kT_3 140 (by decide +kernel)) (by decide +kernel)
theorem gw_622 : Cond.fieldLink RX10 78 "TithedThoughts$Word" "PIECE_WORD" "LTithedThoughts$Word;" ∈ kG := kG_mk (kT_3 142 (by decide +kernel)) (by decide +kernel)
theorem gw_624 : Cond.fieldLink RX10 81 "TithedThoughts$Word" "BARN_WORD" "LTithedThoughts$Word;" ∈ kG := kG_mk (kT_3 144 (by decide +kernel)) (by decide +kernel)
theorem gw_626 : Cond.fieldLink RX5 235 "TithedThoughts$Word" "NOT_WORD" "LTithedThoughts$Word;" ∈ kG := kG_mk (kT_3 146 (by decide +kernel)) (by decide +kernel)
theorem gw_628 : Cond.methodLink RX5 223 yX0_addCode ∈ kG := kG_mk (kT_3 148 (by decide +kernel)) (by decide +kernel)
theorem gw_629 : Cond.instanceMethod yX0_addCode ∈ kG := kG_mk (kT_3 149 (by decide +kernel)) (by decide +kernel)
theorem gw_630 : Cond.selects RX0 yX0_addCode yX0_addCode ∈ kG := kG_mk (kT_3 150 (by decide +kernel)) (by decide +kernel)
theorem gw_631 : Cond.code yX0_addCode cX0_addCode 2 none ∈ kG := kG_mk (kT_3 151 (by decide +kernel)) (by decide +kernel)
theorem gw_632 : Cond.methodLink RX5 216 yX5_operationHere ∈ kG := kG_mk (kT_3 152 (by decide +kernel)) (by decide +kernel)
theorem gw_634 : Cond.instanceMethod yX5_operationHere ∈ kG := kG_mk (kT_3 154 (by decide +kernel)) (by decide +kernel)
theorem gw_635 : Cond.code yX5_operationHere cX5_operationHere 1 (some FieldType.int) ∈ kG := kG_mk (kT_3 155 (by decide +kernel)) (by decide +kernel)
theorem gw_636 : Cond.fieldLink RX5 226 "TithedThoughts$Word" "AND_WORD" "LTithedThoughts$Word;" ∈ kG := kG_mk (kT_3 156 (by decide +kernel)) (by decide +kernel)
theorem gw_638 : Cond.fieldLink RX5 229 "TithedThoughts$Word" "OR_WORD" "LTithedThoughts$Word;" ∈ kG := kG_mk (kT_3 158 (by decide +kernel)) (by decide +kernel)
theorem gw_640 : Cond.methodLink RX5 219 yX5_levelOf ∈ kG := kG_mk (kT_3 160 (by decide +kernel)) (by decide +kernel)
theorem gw_641 : Cond.static yX5_levelOf ∈ kG := kG_mk (kT_3 161 (by decide +kernel)) (by decide +kernel)
theorem gw_642 : Cond.code yX5_levelOf cX5_levelOf 1 (some FieldType.int) ∈ kG := kG_mk (kT_3 162 (by decide +kernel)) (by decide +kernel)
theorem gw_643 : Cond.methodLink RX5 88 yX8_empty ∈ kG := kG_mk (kT_3 163 (by decide +kernel)) (by decide +kernel)
theorem gw_644 : Cond.instanceMethod yX8_empty ∈ kG := kG_mk (kT_3 164 (by decide +kernel)) (by decide +kernel)
theorem gw_645 : Cond.selects RX8 yX8_empty yX8_empty ∈ kG := kG_mk (kT_3 165 (by decide +kernel)) (by decide +kernel)
theorem gw_646 : Cond.code yX8_empty cX8_empty 1 none ∈ kG := kG_mk (kT_3 166 (by decide +kernel)) (by decide +kernel)
theorem gw_647 : Cond.methodLink RX11 93 yX11_beginAnew ∈ kG := kG_mk (kT_3 167 (by decide +kernel)) (by decide +kernel)
theorem gw_649 : Cond.instanceMethod yX11_beginAnew ∈ kG := kG_mk (kT_3 169 (by decide +kernel)) (by decide +kernel)
theorem gw_650 : Cond.code yX11_beginAnew cX11_beginAnew 2 none ∈ kG := kG_mk (kT_3 170 (by decide +kernel)) (by decide +kernel)
theorem gw_651 : Cond.methodLink RX11 100 yX3_clear ∈ kG := kG_mk (kT_3 171 (by decide +kernel)) (by decide +kernel)
theorem gw_652 : Cond.instanceMethod yX3_clear ∈ kG := kG_mk (kT_3 172 (by decide +kernel)) (by decide +kernel)
theorem gw_653 : Cond.selects RX3 yX3_clear yX3_clear ∈ kG := kG_mk (kT_3 173 (by decide +kernel)) (by decide +kernel)
theorem gw_654 : Cond.code yX3_clear cX3_clear 1 none ∈ kG := kG_mk (kT_3 174 (by decide +kernel)) (by decide +kernel)
theorem gw_655 : Cond.methodLink RX3 25 yX7_clear ∈ kG := kG_mk (kT_3 175 (by decide +kernel)) (by decide +kernel)
theorem gw_656 : Cond.methodLink RX11 103 yX9_clear ∈ kG := kG_mk (kT_3 176 (by decide +kernel)) (by decide +kernel)
theorem gw_657 : Cond.instanceMethod yX9_clear ∈ kG := kG_mk (kT_3 177 (by decide +kernel)) (by decide +kernel)
theorem gw_658 : Cond.selects RX9 yX9_clear yX9_clear ∈ kG := kG_mk (kT_3 178 (by decide +kernel)) (by decide +kernel)
theorem gw_659 : Cond.code yX9_clear cX9_clear 1 none ∈ kG := kG_mk (kT_3 179 (by decide +kernel)) (by decide +kernel)
theorem gw_660 : Cond.methodLink RL 42 yX11_years ∈ kG := kG_mk (kT_3 180 (by decide +kernel)) (by decide +kernel)
theorem gw_661 : Cond.instanceMethod yX11_years ∈ kG := kG_mk (kT_3 181 (by decide +kernel)) (by decide +kernel)
theorem gw_662 : Cond.selects RX11 yX11_years yX11_years ∈ kG := kG_mk (kT_3 182 (by decide +kernel)) (by decide +kernel)
theorem gw_663 : Cond.code yX11_years cX11_years 1 (some FieldType.int) ∈ kG := kG_mk (kT_3 183 (by decide +kernel)) (by decide +kernel)
theorem gw_664 : Cond.methodLink RX11 96 yX5_readYears ∈ kG := kG_mk (kT_3 184 (by decide +kernel)) (by decide +kernel)
theorem gw_665 : Cond.instanceMethod yX5_readYears ∈ kG := kG_mk (kT_3 185 (by decide +kernel)) (by decide +kernel)
theorem gw_666 : Cond.selects RX5 yX5_readYears yX5_readYears ∈ kG := kG_mk (kT_3 186 (by decide +kernel)) (by decide +kernel)
theorem gw_667 : Cond.code yX5_readYears cX5_readYears 4 (some FieldType.int) ∈ kG := kG_mk (kT_3 187 (by decide +kernel)) (by decide +kernel)
theorem gw_668 : Cond.methodLink RX5 98 yX5_readLine ∈ kG := kG_mk (kT_3 188 (by decide +kernel)) (by decide +kernel)
theorem gw_670 : Cond.instanceMethod yX5_readLine ∈ kG := kG_mk (kT_3 190 (by decide +kernel)) (by decide +kernel)
theorem gw_671 : Cond.code yX5_readLine cX5_readLine 4 none ∈ kG := kG_mk (kT_3 191 (by decide +kernel)) (by decide +kernel)
theorem gw_672 : Cond.methodLink RX5 241 yX10_isDeed ∈ kG := kG_mk (kT_3 192 (by decide +kernel)) (by decide +kernel)
theorem gw_673 : Cond.instanceMethod yX10_isDeed ∈ kG := kG_mk (kT_3 193 (by decide +kernel)) (by decide +kernel)
theorem gw_674 : Cond.selects RX10 yX10_isDeed yX10_isDeed ∈ kG := kG_mk (kT_3 194 (by decide +kernel)) (by decide +kernel)
theorem gw_675 : Cond.code yX10_isDeed cX10_isDeed 1 (some FieldType.boolean) ∈ kG := kG_mk (kT_3 195 (by decide +kernel)) (by decide +kernel)
theorem gw_676 : Cond.fieldLink RX10 42 "TithedThoughts$Word" "THINK_WORD" "LTithedThoughts$Word;" ∈ kG := kG_mk (kT_3 196 (by decide +kernel)) (by decide +kernel)
theorem gw_678 : Cond.fieldLink RX10 45 "TithedThoughts$Word" "GATE_WORD" "LTithedThoughts$Word;" ∈ kG := kG_mk (kT_3 198 (by decide +kernel)) (by decide +kernel)
theorem gw_680 : Cond.fieldLink RX10 48 "TithedThoughts$Word" "POOL_WORD" "LTithedThoughts$Word;" ∈ kG := kG_mk (kT_3 200 (by decide +kernel)) (by decide +kernel)
theorem gw_682 : Cond.methodLink RX5 244 yX5_tenantHere ∈ kG := kG_mk (kT_3 202 (by decide +kernel)) (by decide +kernel)
theorem gw_684 : Cond.instanceMethod yX5_tenantHere ∈ kG := kG_mk (kT_3 204 (by decide +kernel)) (by decide +kernel)
theorem gw_685 : Cond.code yX5_tenantHere cX5_tenantHere 1 (some FieldType.int) ∈ kG := kG_mk (kT_3 205 (by decide +kernel)) (by decide +kernel)
theorem gw_686 : Cond.fieldLink RX5 247 "TithedThoughts$Word" "GATE_WORD" "LTithedThoughts$Word;" ∈ kG := kG_mk (kT_3 206 (by decide +kernel)) (by decide +kernel)
theorem gw_687 : Cond.methodLink RX5 250 yX3_lineOf ∈ kG := kG_mk (kT_3 207 (by decide +kernel)) (by decide +kernel)
theorem gw_688 : Cond.static yX3_lineOf ∈ kG := kG_mk (kT_3 208 (by decide +kernel)) (by decide +kernel)
theorem gw_689 : Cond.code yX3_lineOf cX3_lineOf 3 (some FieldType.int) ∈ kG := kG_mk (kT_3 209 (by decide +kernel)) (by decide +kernel)
theorem gw_690 : Cond.methodLink RX5 106 arraycopyName ∈ kG := kG_mk (kT_3 210 (by decide +kernel)) (by decide +kernel)
theorem gw_691 : Cond.static arraycopyName ∈ kG := kG_mk (kT_3 211 (by decide +kernel)) (by decide +kernel)
theorem gw_693 : Cond.methodLink RL 46 yX11_thought ∈ kG := kG_mk (kT_3 213 (by decide +kernel)) (by decide +kernel)
theorem gw_694 : Cond.instanceMethod yX11_thought ∈ kG := kG_mk (kT_3 214 (by decide +kernel)) (by decide +kernel)
theorem gw_695 : Cond.selects RX11 yX11_thought yX11_thought ∈ kG := kG_mk (kT_3 215 (by decide +kernel)) (by decide +kernel)
theorem gw_696 : Cond.code yX11_thought cX11_thought 3 (some FieldType.int) ∈ kG := kG_mk (kT_3 216 (by decide +kernel)) (by decide +kernel)
theorem gw_697 : Cond.methodLink RX11 118 yX11_isThought ∈ kG := kG_mk (kT_3 217 (by decide +kernel)) (by decide +kernel)
theorem gw_699 : Cond.instanceMethod yX11_isThought ∈ kG := kG_mk (kT_3 219 (by decide +kernel)) (by decide +kernel)
theorem gw_700 : Cond.code yX11_isThought cX11_isThought 2 (some FieldType.boolean) ∈ kG := kG_mk (kT_3 220 (by decide +kernel)) (by decide +kernel)
theorem gw_701 : Cond.methodLink RL 51 yX11_tenant ∈ kG := kG_mk (kT_3 221 (by decide +kernel)) (by decide +kernel)
theorem gw_702 : Cond.instanceMethod yX11_tenant ∈ kG := kG_mk (kT_3 222 (by decide +kernel)) (by decide +kernel)
theorem gw_703 : Cond.selects RX11 yX11_tenant yX11_tenant ∈ kG := kG_mk (kT_3 223 (by decide +kernel)) (by decide +kernel)
theorem gw_704 : Cond.code yX11_tenant cX11_tenant 4 (some FieldType.int) ∈ kG := kG_mk (kT_3 224 (by decide +kernel)) (by decide +kernel)
theorem gw_705 : Cond.methodLink RX11 114 yX11_isTenant ∈ kG := kG_mk (kT_3 225 (by decide +kernel)) (by decide +kernel)
theorem gw_707 : Cond.instanceMethod yX11_isTenant ∈ kG := kG_mk (kT_3 227 (by decide +kernel)) (by decide +kernel)
theorem gw_708 : Cond.code yX11_isTenant cX11_isTenant 2 (some FieldType.boolean) ∈ kG := kG_mk (kT_3 228 (by decide +kernel)) (by decide +kernel)
theorem gw_709 : Cond.methodLink RX11 152 yX7_hasRun ∈ kG := kG_mk (kT_3 229 (by decide +kernel)) (by decide +kernel)
theorem gw_710 : Cond.instanceMethod yX7_hasRun ∈ kG := kG_mk (kT_3 230 (by decide +kernel)) (by decide +kernel)
theorem gw_711 : Cond.selects RX7 yX7_hasRun yX7_hasRun ∈ kG := kG_mk (kT_3 231 (by decide +kernel)) (by decide +kernel)
theorem gw_712 : Cond.code yX7_hasRun cX7_hasRun 2 (some FieldType.boolean) ∈ kG := kG_mk (kT_3 232 (by decide +kernel)) (by decide +kernel)
theorem nw_713 : Cond.methodLinkNest RX7 59 yX11_isIn "TithedThoughts" ∈ kN := kN_mk (kT_3 233 (by decide +kernel)) (by decide +kernel)
theorem gw_714 : Cond.methodLink RX11 155 yX7_canThink ∈ kG := kG_mk (kT_3 234 (by decide +kernel)) (by decide +kernel)
theorem gw_715 : Cond.instanceMethod yX7_canThink ∈ kG := kG_mk (kT_3 235 (by decide +kernel)) (by decide +kernel)
theorem gw_716 : Cond.selects RX7 yX7_canThink yX7_canThink ∈ kG := kG_mk (kT_3 236 (by decide +kernel)) (by decide +kernel)
theorem gw_717 : Cond.code yX7_canThink cX7_canThink 3 (some FieldType.int) ∈ kG := kG_mk (kT_3 237 (by decide +kernel)) (by decide +kernel)
theorem gw_718 : Cond.methodLink RX7 72 yX7_hasRun ∈ kG := kG_mk (kT_3 238 (by decide +kernel)) (by decide +kernel)
theorem gw_719 : Cond.methodLink RX7 76 yX7_mayCome ∈ kG := kG_mk (kT_3 239 (by decide +kernel)) (by decide +kernel)
theorem gw_720 : Cond.instanceMethod yX7_mayCome ∈ kG := kG_mk (kT_4 0 (by decide +kernel)) (by decide +kernel)
theorem gw_721 : Cond.selects RX7 yX7_mayCome yX7_mayCome ∈ kG := kG_mk (kT_4 1 (by decide +kernel)) (by decide +kernel)
theorem gw_722 : Cond.code yX7_mayCome cX7_mayCome 4 (some FieldType.int) ∈ kG := kG_mk (kT_4 2 (by decide +kernel)) (by decide +kernel)
theorem gw_723 : Cond.methodLink RX7 63 yX0_allThoughts ∈ kG := kG_mk (kT_4 3 (by decide +kernel)) (by decide +kernel)
theorem gw_724 : Cond.instanceMethod yX0_allThoughts ∈ kG := kG_mk (kT_4 4 (by decide +kernel)) (by decide +kernel)
theorem gw_725 : Cond.selects RX0 yX0_allThoughts yX0_allThoughts ∈ kG := kG_mk (kT_4 5 (by decide +kernel)) (by decide +kernel)
theorem gw_726 : Cond.code yX0_allThoughts cX0_allThoughts 1 (some FieldType.int) ∈ kG := kG_mk (kT_4 6 (by decide +kernel)) (by decide +kernel)
theorem gw_727 : Cond.methodLink RL 55 yX11_keeps ∈ kG := kG_mk (kT_4 7 (by decide +kernel)) (by decide +kernel)
theorem gw_728 : Cond.instanceMethod yX11_keeps ∈ kG := kG_mk (kT_4 8 (by decide +kernel)) (by decide +kernel)
theorem gw_729 : Cond.selects RX11 yX11_keeps yX11_keeps ∈ kG := kG_mk (kT_4 9 (by decide +kernel)) (by decide +kernel)
theorem gw_730 : Cond.code yX11_keeps cX11_keeps 3 (some FieldType.int) ∈ kG := kG_mk (kT_4 10 (by decide +kernel)) (by decide +kernel)
theorem gw_731 : Cond.methodLink RX11 159 yX11_areBoth ∈ kG := kG_mk (kT_4 11 (by decide +kernel)) (by decide +kernel)
theorem gw_733 : Cond.instanceMethod yX11_areBoth ∈ kG := kG_mk (kT_4 13 (by decide +kernel)) (by decide +kernel)
theorem gw_734 : Cond.code yX11_areBoth cX11_areBoth 3 (some FieldType.boolean) ∈ kG := kG_mk (kT_4 14 (by decide +kernel)) (by decide +kernel)
theorem gw_735 : Cond.methodLink RX11 163 yX7_keptOf ∈ kG := kG_mk (kT_4 15 (by decide +kernel)) (by decide +kernel)
theorem gw_736 : Cond.instanceMethod yX7_keptOf ∈ kG := kG_mk (kT_4 16 (by decide +kernel)) (by decide +kernel)
theorem gw_737 : Cond.selects RX7 yX7_keptOf yX7_keptOf ∈ kG := kG_mk (kT_4 17 (by decide +kernel)) (by decide +kernel)
theorem gw_738 : Cond.code yX7_keptOf cX7_keptOf 3 (some FieldType.int) ∈ kG := kG_mk (kT_4 18 (by decide +kernel)) (by decide +kernel)
theorem gw_739 : Cond.methodLink RL 166 yX11_count ∈ kG := kG_mk (kT_4 19 (by decide +kernel)) (by decide +kernel)
theorem gw_740 : Cond.instanceMethod yX11_count ∈ kG := kG_mk (kT_4 20 (by decide +kernel)) (by decide +kernel)
theorem gw_741 : Cond.selects RX11 yX11_count yX11_count ∈ kG := kG_mk (kT_4 21 (by decide +kernel)) (by decide +kernel)
theorem gw_742 : Cond.code yX11_count cX11_count 2 (some FieldType.int) ∈ kG := kG_mk (kT_4 22 (by decide +kernel)) (by decide +kernel)
theorem gw_743 : Cond.methodLink RX11 182 yX11_worthInBarn ∈ kG := kG_mk (kT_4 23 (by decide +kernel)) (by decide +kernel)
theorem gw_745 : Cond.instanceMethod yX11_worthInBarn ∈ kG := kG_mk (kT_4 25 (by decide +kernel)) (by decide +kernel)
theorem gw_746 : Cond.code yX11_worthInBarn cX11_worthInBarn 3 (some FieldType.int) ∈ kG := kG_mk (kT_4 26 (by decide +kernel)) (by decide +kernel)
theorem gw_747 : Cond.methodLink RL 59 yX11_think ∈ kG := kG_mk (kT_4 27 (by decide +kernel)) (by decide +kernel)
theorem gw_748 : Cond.instanceMethod yX11_think ∈ kG := kG_mk (kT_4 28 (by decide +kernel)) (by decide +kernel)
theorem gw_749 : Cond.selects RX11 yX11_think yX11_think ∈ kG := kG_mk (kT_4 29 (by decide +kernel)) (by decide +kernel)
theorem gw_750 : Cond.code yX11_think cX11_think 3 (some FieldType.int) ∈ kG := kG_mk (kT_4 30 (by decide +kernel)) (by decide +kernel)
theorem gw_751 : Cond.methodLink RX11 195 yX7_mayThink ∈ kG := kG_mk (kT_4 31 (by decide +kernel)) (by decide +kernel)
theorem gw_752 : Cond.instanceMethod yX7_mayThink ∈ kG := kG_mk (kT_4 32 (by decide +kernel)) (by decide +kernel)
theorem gw_753 : Cond.selects RX7 yX7_mayThink yX7_mayThink ∈ kG := kG_mk (kT_4 33 (by decide +kernel)) (by decide +kernel)
theorem gw_754 : Cond.code yX7_mayThink cX7_mayThink 4 (some FieldType.boolean) ∈ kG := kG_mk (kT_4 34 (by decide +kernel)) (by decide +kernel)
theorem gw_755 : Cond.methodLink RX7 80 yX7_canThink ∈ kG := kG_mk (kT_4 35 (by decide +kernel)) (by decide +kernel)
theorem gw_756 : Cond.methodLink RX11 199 yX9_hold ∈ kG := kG_mk (kT_4 36 (by decide +kernel)) (by decide +kernel)
theorem gw_757 : Cond.instanceMethod yX9_hold ∈ kG := kG_mk (kT_4 37 (by decide +kernel)) (by decide +kernel)
theorem gw_758 : Cond.selects RX9 yX9_hold yX9_hold ∈ kG := kG_mk (kT_4 38 (by decide +kernel)) (by decide +kernel)
theorem gw_759 : Cond.code yX9_hold cX9_hold 2 none ∈ kG := kG_mk (kT_4 39 (by decide +kernel)) (by decide +kernel)
theorem gw_760 : Cond.methodLink RX9 25 yX7_copy ∈ kG := kG_mk (kT_4 40 (by decide +kernel)) (by decide +kernel)
theorem gw_761 : Cond.instanceMethod yX7_copy ∈ kG := kG_mk (kT_4 41 (by decide +kernel)) (by decide +kernel)
theorem gw_762 : Cond.selects RX7 yX7_copy yX7_copy ∈ kG := kG_mk (kT_4 42 (by decide +kernel)) (by decide +kernel)
theorem gw_763 : Cond.code yX7_copy cX7_copy 2 none ∈ kG := kG_mk (kT_4 43 (by decide +kernel)) (by decide +kernel)
theorem gw_764 : Cond.methodLink RX7 53 arraycopyName ∈ kG := kG_mk (kT_4 44 (by decide +kernel)) (by decide +kernel)
theorem gw_765 : Cond.methodLink RX9 29 yJ9_min_7cf53 ∈ kG := kG_mk (kT_4 45 (by decide +kernel)) (by decide +kernel)
theorem gw_766 : Cond.static yJ9_min_7cf53 ∈ kG := kG_mk (kT_4 46 (by decide +kernel)) (by decide +kernel)
theorem gw_767 : Cond.code yJ9_min_7cf53 cJ9_min_7cf53 2 (some FieldType.int) ∈ kG := kG_mk (kT_4 47 (by decide +kernel)) (by decide +kernel)
theorem gw_768 : Cond.methodLink RX11 203 yX7_thinkOf ∈ kG := kG_mk (kT_4 48 (by decide +kernel)) (by decide +kernel)
theorem gw_769 : Cond.instanceMethod yX7_thinkOf ∈ kG := kG_mk (kT_4 49 (by decide +kernel)) (by decide +kernel)
theorem gw_770 : Cond.selects RX7 yX7_thinkOf yX7_thinkOf ∈ kG := kG_mk (kT_4 50 (by decide +kernel)) (by decide +kernel)
theorem gw_771 : Cond.code yX7_thinkOf cX7_thinkOf 8 (some FieldType.int) ∈ kG := kG_mk (kT_4 51 (by decide +kernel)) (by decide +kernel)
theorem gw_772 : Cond.methodLink RX7 96 yX7_nextCounted ∈ kG := kG_mk (kT_4 52 (by decide +kernel)) (by decide +kernel)
theorem gw_773 : Cond.instanceMethod yX7_nextCounted ∈ kG := kG_mk (kT_4 53 (by decide +kernel)) (by decide +kernel)
theorem gw_774 : Cond.selects RX7 yX7_nextCounted yX7_nextCounted ∈ kG := kG_mk (kT_4 54 (by decide +kernel)) (by decide +kernel)
theorem gw_775 : Cond.code yX7_nextCounted cX7_nextCounted 3 (some FieldType.int) ∈ kG := kG_mk (kT_4 55 (by decide +kernel)) (by decide +kernel)
theorem gw_776 : Cond.methodLink RX7 99 yX0_gainOf ∈ kG := kG_mk (kT_4 56 (by decide +kernel)) (by decide +kernel)
theorem gw_777 : Cond.instanceMethod yX0_gainOf ∈ kG := kG_mk (kT_4 57 (by decide +kernel)) (by decide +kernel)
theorem gw_778 : Cond.selects RX0 yX0_gainOf yX0_gainOf ∈ kG := kG_mk (kT_4 58 (by decide +kernel)) (by decide +kernel)
theorem gw_779 : Cond.code yX0_gainOf cX0_gainOf 5 (some FieldType.int) ∈ kG := kG_mk (kT_4 59 (by decide +kernel)) (by decide +kernel)
theorem gw_780 : Cond.methodLink RX0 76 yX0_valueOf ∈ kG := kG_mk (kT_4 60 (by decide +kernel)) (by decide +kernel)
theorem gw_782 : Cond.instanceMethod yX0_valueOf ∈ kG := kG_mk (kT_4 62 (by decide +kernel)) (by decide +kernel)
theorem gw_783 : Cond.code yX0_valueOf cX0_valueOf 10 (some FieldType.int) ∈ kG := kG_mk (kT_4 63 (by decide +kernel)) (by decide +kernel)
theorem gw_784 : Cond.methodLink RX0 95 yX0_factOf ∈ kG := kG_mk (kT_4 64 (by decide +kernel)) (by decide +kernel)
theorem gw_785 : Cond.static yX0_factOf ∈ kG := kG_mk (kT_4 65 (by decide +kernel)) (by decide +kernel)
theorem gw_786 : Cond.code yX0_factOf cX0_factOf 5 (some FieldType.int) ∈ kG := kG_mk (kT_4 66 (by decide +kernel)) (by decide +kernel)
theorem gw_787 : Cond.methodLink RX0 99 yX0_joined ∈ kG := kG_mk (kT_4 67 (by decide +kernel)) (by decide +kernel)
theorem gw_788 : Cond.static yX0_joined ∈ kG := kG_mk (kT_4 68 (by decide +kernel)) (by decide +kernel)
theorem gw_789 : Cond.code yX0_joined cX0_joined 3 (some FieldType.int) ∈ kG := kG_mk (kT_4 69 (by decide +kernel)) (by decide +kernel)
theorem gw_790 : Cond.methodLink RX0 80 yJ9_min_7cf53 ∈ kG := kG_mk (kT_4 70 (by decide +kernel)) (by decide +kernel)
theorem gw_791 : Cond.methodLink RX0 86 yJ9_max_7cf53 ∈ kG := kG_mk (kT_4 71 (by decide +kernel)) (by decide +kernel)
theorem gw_792 : Cond.static yJ9_max_7cf53 ∈ kG := kG_mk (kT_4 72 (by decide +kernel)) (by decide +kernel)
theorem gw_793 : Cond.code yJ9_max_7cf53 cJ9_max_7cf53 2 (some FieldType.int) ∈ kG := kG_mk (kT_4 73 (by decide +kernel)) (by decide +kernel)
theorem gw_794 : Cond.methodLink RX7 103 yX7_isDue ∈ kG := kG_mk (kT_4 74 (by decide +kernel)) (by decide +kernel)
theorem gw_795 : Cond.instanceMethod yX7_isDue ∈ kG := kG_mk (kT_4 75 (by decide +kernel)) (by decide +kernel)
theorem gw_796 : Cond.selects RX7 yX7_isDue yX7_isDue ∈ kG := kG_mk (kT_4 76 (by decide +kernel)) (by decide +kernel)
theorem gw_797 : Cond.code yX7_isDue cX7_isDue 4 (some FieldType.boolean) ∈ kG := kG_mk (kT_4 77 (by decide +kernel)) (by decide +kernel)
theorem gw_798 : Cond.methodLink RX7 107 yX7_pay ∈ kG := kG_mk (kT_4 78 (by decide +kernel)) (by decide +kernel)
theorem gw_800 : Cond.instanceMethod yX7_pay ∈ kG := kG_mk (kT_4 80 (by decide +kernel)) (by decide +kernel)
theorem gw_801 : Cond.code yX7_pay cX7_pay 9 (some FieldType.int) ∈ kG := kG_mk (kT_4 81 (by decide +kernel)) (by decide +kernel)
theorem gw_802 : Cond.methodLink RX7 118 yX7_placeOfLeast ∈ kG := kG_mk (kT_4 82 (by decide +kernel)) (by decide +kernel)
theorem gw_804 : Cond.instanceMethod yX7_placeOfLeast ∈ kG := kG_mk (kT_4 84 (by decide +kernel)) (by decide +kernel)
theorem gw_805 : Cond.code yX7_placeOfLeast cX7_placeOfLeast 5 (some FieldType.int) ∈ kG := kG_mk (kT_4 85 (by decide +kernel)) (by decide +kernel)
theorem gw_806 : Cond.methodLink RX7 121 yX7_countedAt ∈ kG := kG_mk (kT_4 86 (by decide +kernel)) (by decide +kernel)
theorem gw_808 : Cond.instanceMethod yX7_countedAt ∈ kG := kG_mk (kT_4 88 (by decide +kernel)) (by decide +kernel)
theorem gw_809 : Cond.code yX7_countedAt cX7_countedAt 3 (some FieldType.int) ∈ kG := kG_mk (kT_4 89 (by decide +kernel)) (by decide +kernel)
theorem gw_810 : Cond.methodLink RX7 83 yX7_keptOf ∈ kG := kG_mk (kT_4 90 (by decide +kernel)) (by decide +kernel)
theorem gw_811 : Cond.methodLink RX7 111 yX7_keep ∈ kG := kG_mk (kT_4 91 (by decide +kernel)) (by decide +kernel)
theorem gw_813 : Cond.instanceMethod yX7_keep ∈ kG := kG_mk (kT_4 93 (by decide +kernel)) (by decide +kernel)
theorem gw_814 : Cond.code yX7_keep cX7_keep 4 none ∈ kG := kG_mk (kT_4 94 (by decide +kernel)) (by decide +kernel)
theorem gw_815 : Cond.methodLink RL 63 yX11_gate ∈ kG := kG_mk (kT_4 95 (by decide +kernel)) (by decide +kernel)
theorem gw_816 : Cond.instanceMethod yX11_gate ∈ kG := kG_mk (kT_4 96 (by decide +kernel)) (by decide +kernel)
theorem gw_817 : Cond.selects RX11 yX11_gate yX11_gate ∈ kG := kG_mk (kT_4 97 (by decide +kernel)) (by decide +kernel)
theorem gw_818 : Cond.code yX11_gate cX11_gate 2 (some FieldType.int) ∈ kG := kG_mk (kT_4 98 (by decide +kernel)) (by decide +kernel)
theorem gw_819 : Cond.methodLink RX11 207 yX7_goBack ∈ kG := kG_mk (kT_4 99 (by decide +kernel)) (by decide +kernel)
theorem gw_820 : Cond.instanceMethod yX7_goBack ∈ kG := kG_mk (kT_4 100 (by decide +kernel)) (by decide +kernel)
theorem gw_821 : Cond.selects RX7 yX7_goBack yX7_goBack ∈ kG := kG_mk (kT_4 101 (by decide +kernel)) (by decide +kernel)
theorem gw_822 : Cond.code yX7_goBack cX7_goBack 5 (some FieldType.int) ∈ kG := kG_mk (kT_4 102 (by decide +kernel)) (by decide +kernel)
theorem gw_823 : Cond.methodLink RX7 124 yX0_countedBehindGate ∈ kG := kG_mk (kT_4 103 (by decide +kernel)) (by decide +kernel)
theorem gw_824 : Cond.instanceMethod yX0_countedBehindGate ∈ kG := kG_mk (kT_4 104 (by decide +kernel)) (by decide +kernel)
theorem gw_825 : Cond.selects RX0 yX0_countedBehindGate yX0_countedBehindGate ∈ kG := kG_mk (kT_4 105 (by decide +kernel)) (by decide +kernel)
theorem gw_826 : Cond.code yX0_countedBehindGate cX0_countedBehindGate 7 (some FieldType.int) ∈ kG := kG_mk (kT_4 106 (by decide +kernel)) (by decide +kernel)
theorem gw_827 : Cond.methodLink RL 67 yX11_pool ∈ kG := kG_mk (kT_4 107 (by decide +kernel)) (by decide +kernel)
theorem gw_828 : Cond.instanceMethod yX11_pool ∈ kG := kG_mk (kT_4 108 (by decide +kernel)) (by decide +kernel)
theorem gw_829 : Cond.selects RX11 yX11_pool yX11_pool ∈ kG := kG_mk (kT_4 109 (by decide +kernel)) (by decide +kernel)
theorem gw_830 : Cond.code yX11_pool cX11_pool 3 (some FieldType.boolean) ∈ kG := kG_mk (kT_4 110 (by decide +kernel)) (by decide +kernel)
theorem gw_831 : Cond.methodLink RX11 210 yX7_mayGive ∈ kG := kG_mk (kT_4 111 (by decide +kernel)) (by decide +kernel)
theorem gw_832 : Cond.instanceMethod yX7_mayGive ∈ kG := kG_mk (kT_4 112 (by decide +kernel)) (by decide +kernel)
theorem gw_833 : Cond.selects RX7 yX7_mayGive yX7_mayGive ∈ kG := kG_mk (kT_4 113 (by decide +kernel)) (by decide +kernel)
theorem gw_834 : Cond.code yX7_mayGive cX7_mayGive 3 (some FieldType.boolean) ∈ kG := kG_mk (kT_4 114 (by decide +kernel)) (by decide +kernel)
theorem gw_835 : Cond.methodLink RX11 213 yX7_give ∈ kG := kG_mk (kT_4 115 (by decide +kernel)) (by decide +kernel)
theorem gw_836 : Cond.instanceMethod yX7_give ∈ kG := kG_mk (kT_4 116 (by decide +kernel)) (by decide +kernel)
theorem gw_837 : Cond.selects RX7 yX7_give yX7_give ∈ kG := kG_mk (kT_4 117 (by decide +kernel)) (by decide +kernel)
theorem gw_838 : Cond.code yX7_give cX7_give 3 none ∈ kG := kG_mk (kT_4 118 (by decide +kernel)) (by decide +kernel)
theorem gw_839 : Cond.methodLink RL 72 yX11_undo ∈ kG := kG_mk (kT_4 119 (by decide +kernel)) (by decide +kernel)
theorem gw_840 : Cond.instanceMethod yX11_undo ∈ kG := kG_mk (kT_4 120 (by decide +kernel)) (by decide +kernel)
theorem gw_841 : Cond.selects RX11 yX11_undo yX11_undo ∈ kG := kG_mk (kT_4 121 (by decide +kernel)) (by decide +kernel)
theorem gw_842 : Cond.code yX11_undo cX11_undo 1 (some FieldType.boolean) ∈ kG := kG_mk (kT_4 122 (by decide +kernel)) (by decide +kernel)
theorem gw_843 : Cond.methodLink RX11 217 yX9_takeBack ∈ kG := kG_mk (kT_4 123 (by decide +kernel)) (by decide +kernel)
theorem gw_844 : Cond.instanceMethod yX9_takeBack ∈ kG := kG_mk (kT_4 124 (by decide +kernel)) (by decide +kernel)
theorem gw_845 : Cond.selects RX9 yX9_takeBack yX9_takeBack ∈ kG := kG_mk (kT_4 125 (by decide +kernel)) (by decide +kernel)
theorem gw_846 : Cond.code yX9_takeBack cX9_takeBack 2 (some FieldType.boolean) ∈ kG := kG_mk (kT_4 126 (by decide +kernel)) (by decide +kernel)
theorem gw_847 : Cond.methodLink RL 162 yX11_mark ∈ kG := kG_mk (kT_4 127 (by decide +kernel)) (by decide +kernel)
theorem gw_848 : Cond.instanceMethod yX11_mark ∈ kG := kG_mk (kT_4 128 (by decide +kernel)) (by decide +kernel)
theorem gw_849 : Cond.selects RX11 yX11_mark yX11_mark ∈ kG := kG_mk (kT_4 129 (by decide +kernel)) (by decide +kernel)
theorem gw_850 : Cond.code yX11_mark cX11_mark 4 (some FieldType.boolean) ∈ kG := kG_mk (kT_4 130 (by decide +kernel)) (by decide +kernel)
theorem gw_851 : Cond.methodLink RX11 221 yX3_copy ∈ kG := kG_mk (kT_4 131 (by decide +kernel)) (by decide +kernel)
theorem gw_852 : Cond.instanceMethod yX3_copy ∈ kG := kG_mk (kT_4 132 (by decide +kernel)) (by decide +kernel)
theorem gw_853 : Cond.selects RX3 yX3_copy yX3_copy ∈ kG := kG_mk (kT_4 133 (by decide +kernel)) (by decide +kernel)
theorem gw_854 : Cond.code yX3_copy cX3_copy 2 none ∈ kG := kG_mk (kT_4 134 (by decide +kernel)) (by decide +kernel)
theorem gw_855 : Cond.methodLink RX3 35 yX7_copy ∈ kG := kG_mk (kT_4 135 (by decide +kernel)) (by decide +kernel)
theorem gw_856 : Cond.methodLink RX3 39 arraycopyName ∈ kG := kG_mk (kT_4 136 (by decide +kernel)) (by decide +kernel)
theorem gw_857 : Cond.methodLink RL 155 yX11_other ∈ kG := kG_mk (kT_4 137 (by decide +kernel)) (by decide +kernel)
theorem gw_858 : Cond.instanceMethod yX11_other ∈ kG := kG_mk (kT_4 138 (by decide +kernel)) (by decide +kernel)
theorem gw_859 : Cond.selects RX11 yX11_other yX11_other ∈ kG := kG_mk (kT_4 139 (by decide +kernel)) (by decide +kernel)
theorem gw_860 : Cond.code yX11_other cX11_other 2 (some FieldType.int) ∈ kG := kG_mk (kT_4 140 (by decide +kernel)) (by decide +kernel)
theorem gw_861 : Cond.methodLink RX11 228 yX2_liveYears ∈ kG := kG_mk (kT_4 141 (by decide +kernel)) (by decide +kernel)
theorem gw_862 : Cond.instanceMethod yX2_liveYears ∈ kG := kG_mk (kT_4 142 (by decide +kernel)) (by decide +kernel)
theorem gw_863 : Cond.selects RX2 yX2_liveYears yX2_liveYears ∈ kG := kG_mk (kT_4 143 (by decide +kernel)) (by decide +kernel)
theorem gw_864 : Cond.code yX2_liveYears cX2_liveYears 8 none ∈ kG := kG_mk (kT_4 144 (by decide +kernel)) (by decide +kernel)
theorem gw_865 : Cond.methodLink RX2 18 yX7_clear ∈ kG := kG_mk (kT_4 145 (by decide +kernel)) (by decide +kernel)
theorem gw_866 : Cond.methodLink RX2 43 yX2_live ∈ kG := kG_mk (kT_4 146 (by decide +kernel)) (by decide +kernel)
theorem gw_868 : Cond.instanceMethod yX2_live ∈ kG := kG_mk (kT_4 148 (by decide +kernel)) (by decide +kernel)
theorem gw_869 : Cond.code yX2_live cX2_live 6 (some FieldType.boolean) ∈ kG := kG_mk (kT_4 149 (by decide +kernel)) (by decide +kernel)
theorem gw_870 : Cond.methodLink RX2 52 yX2_tryThink ∈ kG := kG_mk (kT_4 150 (by decide +kernel)) (by decide +kernel)
theorem gw_872 : Cond.instanceMethod yX2_tryThink ∈ kG := kG_mk (kT_4 152 (by decide +kernel)) (by decide +kernel)
theorem gw_873 : Cond.code yX2_tryThink cX2_tryThink 5 (some FieldType.boolean) ∈ kG := kG_mk (kT_4 153 (by decide +kernel)) (by decide +kernel)
theorem gw_874 : Cond.methodLink RX2 64 yX7_mayThink ∈ kG := kG_mk (kT_4 154 (by decide +kernel)) (by decide +kernel)
theorem gw_875 : Cond.methodLink RX2 67 yX7_thinkOf ∈ kG := kG_mk (kT_4 155 (by decide +kernel)) (by decide +kernel)
theorem gw_876 : Cond.methodLink RX2 56 yX2_tryGate ∈ kG := kG_mk (kT_4 156 (by decide +kernel)) (by decide +kernel)
theorem gw_878 : Cond.instanceMethod yX2_tryGate ∈ kG := kG_mk (kT_4 158 (by decide +kernel)) (by decide +kernel)
theorem gw_879 : Cond.code yX2_tryGate cX2_tryGate 3 (some FieldType.boolean) ∈ kG := kG_mk (kT_4 159 (by decide +kernel)) (by decide +kernel)
theorem gw_880 : Cond.methodLink RX2 71 yX7_hasRun ∈ kG := kG_mk (kT_4 160 (by decide +kernel)) (by decide +kernel)
theorem gw_881 : Cond.methodLink RX2 75 yX7_goBack ∈ kG := kG_mk (kT_4 161 (by decide +kernel)) (by decide +kernel)
theorem gw_882 : Cond.methodLink RX2 60 yX2_tryPool ∈ kG := kG_mk (kT_4 162 (by decide +kernel)) (by decide +kernel)
theorem gw_884 : Cond.instanceMethod yX2_tryPool ∈ kG := kG_mk (kT_4 164 (by decide +kernel)) (by decide +kernel)
theorem gw_885 : Cond.code yX2_tryPool cX2_tryPool 3 (some FieldType.boolean) ∈ kG := kG_mk (kT_4 165 (by decide +kernel)) (by decide +kernel)
theorem gw_886 : Cond.methodLink RX2 79 yX7_mayGive ∈ kG := kG_mk (kT_4 166 (by decide +kernel)) (by decide +kernel)
theorem gw_887 : Cond.methodLink RX2 82 yX7_give ∈ kG := kG_mk (kT_4 167 (by decide +kernel)) (by decide +kernel)
theorem gw_888 : Cond.methodLink RL 87 yX11_tithed ∈ kG := kG_mk (kT_4 168 (by decide +kernel)) (by decide +kernel)
theorem gw_889 : Cond.instanceMethod yX11_tithed ∈ kG := kG_mk (kT_4 169 (by decide +kernel)) (by decide +kernel)
theorem gw_890 : Cond.selects RX11 yX11_tithed yX11_tithed ∈ kG := kG_mk (kT_4 170 (by decide +kernel)) (by decide +kernel)
theorem gw_891 : Cond.code yX11_tithed cX11_tithed 6 (some FieldType.int) ∈ kG := kG_mk (kT_4 171 (by decide +kernel)) (by decide +kernel)
theorem gw_892 : Cond.methodLink RX11 257 yX7_mayCome ∈ kG := kG_mk (kT_4 172 (by decide +kernel)) (by decide +kernel)
theorem gw_893 : Cond.methodLink RX11 260 yX11_isIn ∈ kG := kG_mk (kT_4 173 (by decide +kernel)) (by decide +kernel)
theorem gw_894 : Cond.methodLink RX11 263 yX0_afterAny ∈ kG := kG_mk (kT_4 174 (by decide +kernel)) (by decide +kernel)
theorem gw_895 : Cond.instanceMethod yX0_afterAny ∈ kG := kG_mk (kT_4 175 (by decide +kernel)) (by decide +kernel)
theorem gw_896 : Cond.selects RX0 yX0_afterAny yX0_afterAny ∈ kG := kG_mk (kT_4 176 (by decide +kernel)) (by decide +kernel)
theorem gw_897 : Cond.code yX0_afterAny cX0_afterAny 4 (some FieldType.int) ∈ kG := kG_mk (kT_4 177 (by decide +kernel)) (by decide +kernel)
theorem gw_898 : Cond.methodLink RL 91 yX11_ways ∈ kG := kG_mk (kT_4 178 (by decide +kernel)) (by decide +kernel)
theorem gw_899 : Cond.instanceMethod yX11_ways ∈ kG := kG_mk (kT_4 179 (by decide +kernel)) (by decide +kernel)
theorem gw_900 : Cond.selects RX11 yX11_ways yX11_ways ∈ kG := kG_mk (kT_4 180 (by decide +kernel)) (by decide +kernel)
theorem gw_901 : Cond.code yX11_ways cX11_ways 5 (some FieldType.int) ∈ kG := kG_mk (kT_4 181 (by decide +kernel)) (by decide +kernel)
theorem gw_902 : Cond.methodLink RX11 267 yX6_begin ∈ kG := kG_mk (kT_4 182 (by decide +kernel)) (by decide +kernel)
theorem gw_903 : Cond.instanceMethod yX6_begin ∈ kG := kG_mk (kT_4 183 (by decide +kernel)) (by decide +kernel)
theorem gw_904 : Cond.selects RX6 yX6_begin yX6_begin ∈ kG := kG_mk (kT_4 184 (by decide +kernel)) (by decide +kernel)
theorem gw_905 : Cond.code yX6_begin cX6_begin 4 none ∈ kG := kG_mk (kT_4 185 (by decide +kernel)) (by decide +kernel)
theorem nw_906 : Cond.methodLinkNest RX6 18 yX11_isIn "TithedThoughts" ∈ kN := kN_mk (kT_4 186 (by decide +kernel)) (by decide +kernel)
theorem gw_907 : Cond.methodLink RX11 270 yX6_follow ∈ kG := kG_mk (kT_4 187 (by decide +kernel)) (by decide +kernel)
theorem gw_908 : Cond.instanceMethod yX6_follow ∈ kG := kG_mk (kT_4 188 (by decide +kernel)) (by decide +kernel)
theorem gw_909 : Cond.selects RX6 yX6_follow yX6_follow ∈ kG := kG_mk (kT_4 189 (by decide +kernel)) (by decide +kernel)
theorem gw_910 : Cond.code yX6_follow cX6_follow 5 none ∈ kG := kG_mk (kT_4 190 (by decide +kernel)) (by decide +kernel)
theorem gw_911 : Cond.methodLink RX6 22 yJ7_fill_53178 ∈ kG := kG_mk (kT_4 191 (by decide +kernel)) (by decide +kernel)
theorem gw_912 : Cond.methodLink RX6 37 yJ6_bitCount_0f7a4 ∈ kG := kG_mk (kT_4 192 (by decide +kernel)) (by decide +kernel)
theorem gw_913 : Cond.static yJ6_bitCount_0f7a4 ∈ kG := kG_mk (kT_4 193 (by decide +kernel)) (by decide +kernel)
theorem gw_914 : Cond.code yJ6_bitCount_0f7a4 cJ6_bitCount_0f7a4 1 (some FieldType.int) ∈ kG := kG_mk (kT_4 194 (by decide +kernel)) (by decide +kernel)
theorem gw_915 : Cond.constant RJ6 265 (1431655765) ∈ kG := kG_mk (kT_4 195 (by decide +kernel)) (by decide +kernel)
theorem gw_916 : Cond.constant RJ6 266 (858993459) ∈ kG := kG_mk (kT_4 196 (by decide +kernel)) (by decide +kernel)
theorem gw_917 : Cond.constant RJ6 267 (252645135) ∈ kG := kG_mk (kT_4 197 (by decide +kernel)) (by decide +kernel)
theorem gw_918 : Cond.methodLink RX6 43 yX6_handOn ∈ kG := kG_mk (kT_4 198 (by decide +kernel)) (by decide +kernel)
theorem gw_920 : Cond.instanceMethod yX6_handOn ∈ kG := kG_mk (kT_4 200 (by decide +kernel)) (by decide +kernel)
theorem gw_921 : Cond.code yX6_handOn cX6_handOn 4 none ∈ kG := kG_mk (kT_4 201 (by decide +kernel)) (by decide +kernel)
theorem gw_922 : Cond.methodLink RX6 47 arraycopyName ∈ kG := kG_mk (kT_4 202 (by decide +kernel)) (by decide +kernel)
theorem gw_923 : Cond.methodLink RL 136 yX11_chance ∈ kG := kG_mk (kT_4 203 (by decide +kernel)) (by decide +kernel)
theorem gw_924 : Cond.instanceMethod yX11_chance ∈ kG := kG_mk (kT_4 204 (by decide +kernel)) (by decide +kernel)
theorem gw_925 : Cond.selects RX11 yX11_chance yX11_chance ∈ kG := kG_mk (kT_4 205 (by decide +kernel)) (by decide +kernel)
theorem gw_926 : Cond.code yX11_chance cX11_chance 6 (some FieldType.int) ∈ kG := kG_mk (kT_4 206 (by decide +kernel)) (by decide +kernel)
theorem gw_927 : Cond.methodLink RX11 277 yJ6_bitCount_0f7a4 ∈ kG := kG_mk (kT_4 207 (by decide +kernel)) (by decide +kernel)
theorem gw_928 : Cond.constant RX11 282 (1000000) ∈ kG := kG_mk (kT_4 208 (by decide +kernel)) (by decide +kernel)
theorem gw_929 : Cond.methodLink RL 95 yX11_safe ∈ kG := kG_mk (kT_4 209 (by decide +kernel)) (by decide +kernel)
theorem gw_930 : Cond.instanceMethod yX11_safe ∈ kG := kG_mk (kT_4 210 (by decide +kernel)) (by decide +kernel)
theorem gw_931 : Cond.selects RX11 yX11_safe yX11_safe ∈ kG := kG_mk (kT_4 211 (by decide +kernel)) (by decide +kernel)
theorem gw_932 : Cond.code yX11_safe cX11_safe 2 (some FieldType.int) ∈ kG := kG_mk (kT_4 212 (by decide +kernel)) (by decide +kernel)
theorem gw_933 : Cond.methodLink RX11 283 yX7_isDue ∈ kG := kG_mk (kT_4 213 (by decide +kernel)) (by decide +kernel)
theorem gw_934 : Cond.methodLink RL 140 yX11_dead ∈ kG := kG_mk (kT_4 214 (by decide +kernel)) (by decide +kernel)
theorem gw_935 : Cond.instanceMethod yX11_dead ∈ kG := kG_mk (kT_4 215 (by decide +kernel)) (by decide +kernel)
theorem gw_936 : Cond.selects RX11 yX11_dead yX11_dead ∈ kG := kG_mk (kT_4 216 (by decide +kernel)) (by decide +kernel)
theorem gw_937 : Cond.code yX11_dead cX11_dead 3 (some FieldType.int) ∈ kG := kG_mk (kT_4 217 (by decide +kernel)) (by decide +kernel)
theorem gw_938 : Cond.methodLink RL 144 yX11_ring ∈ kG := kG_mk (kT_4 218 (by decide +kernel)) (by decide +kernel)
theorem gw_939 : Cond.instanceMethod yX11_ring ∈ kG := kG_mk (kT_4 219 (by decide +kernel)) (by decide +kernel)
theorem gw_940 : Cond.selects RX11 yX11_ring yX11_ring ∈ kG := kG_mk (kT_4 220 (by decide +kernel)) (by decide +kernel)
theorem gw_941 : Cond.code yX11_ring cX11_ring 4 (some FieldType.int) ∈ kG := kG_mk (kT_4 221 (by decide +kernel)) (by decide +kernel)
theorem gw_942 : Cond.methodLink RL 99 yX11_holders ∈ kG := kG_mk (kT_4 222 (by decide +kernel)) (by decide +kernel)
theorem gw_943 : Cond.instanceMethod yX11_holders ∈ kG := kG_mk (kT_4 223 (by decide +kernel)) (by decide +kernel)
theorem gw_944 : Cond.selects RX11 yX11_holders yX11_holders ∈ kG := kG_mk (kT_4 224 (by decide +kernel)) (by decide +kernel)
theorem gw_945 : Cond.code yX11_holders cX11_holders 4 (some FieldType.int) ∈ kG := kG_mk (kT_4 225 (by decide +kernel)) (by decide +kernel)
theorem gw_946 : Cond.methodLink RX11 286 yX11_keptParts ∈ kG := kG_mk (kT_4 226 (by decide +kernel)) (by decide +kernel)
theorem gw_948 : Cond.instanceMethod yX11_keptParts ∈ kG := kG_mk (kT_4 228 (by decide +kernel)) (by decide +kernel)
theorem gw_949 : Cond.code yX11_keptParts cX11_keptParts 4 (some FieldType.int) ∈ kG := kG_mk (kT_4 229 (by decide +kernel)) (by decide +kernel)
theorem gw_950 : Cond.methodLink RX11 289 yX11_partBit ∈ kG := kG_mk (kT_4 230 (by decide +kernel)) (by decide +kernel)
theorem gw_952 : Cond.instanceMethod yX11_partBit ∈ kG := kG_mk (kT_4 232 (by decide +kernel)) (by decide +kernel)
theorem gw_953 : Cond.code yX11_partBit cX11_partBit 3 (some FieldType.int) ∈ kG := kG_mk (kT_4 233 (by decide +kernel)) (by decide +kernel)
theorem gw_954 : Cond.methodLink RL 107 yX11_lacks ∈ kG := kG_mk (kT_4 234 (by decide +kernel)) (by decide +kernel)
theorem gw_955 : Cond.instanceMethod yX11_lacks ∈ kG := kG_mk (kT_4 235 (by decide +kernel)) (by decide +kernel)
theorem gw_956 : Cond.selects RX11 yX11_lacks yX11_lacks ∈ kG := kG_mk (kT_4 236 (by decide +kernel)) (by decide +kernel)
theorem gw_957 : Cond.code yX11_lacks cX11_lacks 3 (some FieldType.int) ∈ kG := kG_mk (kT_4 237 (by decide +kernel)) (by decide +kernel)
theorem gw_958 : Cond.methodLink RX11 292 yX0_allParts ∈ kG := kG_mk (kT_4 238 (by decide +kernel)) (by decide +kernel)
theorem gw_959 : Cond.instanceMethod yX0_allParts ∈ kG := kG_mk (kT_4 239 (by decide +kernel)) (by decide +kernel)
theorem gw_960 : Cond.selects RX0 yX0_allParts yX0_allParts ∈ kG := kG_mk (kT_5 0 (by decide +kernel)) (by decide +kernel)
theorem gw_961 : Cond.code yX0_allParts cX0_allParts 1 (some FieldType.int) ∈ kG := kG_mk (kT_5 1 (by decide +kernel)) (by decide +kernel)
theorem gw_962 : Cond.methodLink RL 111 yX11_givers ∈ kG := kG_mk (kT_5 2 (by decide +kernel)) (by decide +kernel)
theorem gw_963 : Cond.instanceMethod yX11_givers ∈ kG := kG_mk (kT_5 3 (by decide +kernel)) (by decide +kernel)
theorem gw_964 : Cond.selects RX11 yX11_givers yX11_givers ∈ kG := kG_mk (kT_5 4 (by decide +kernel)) (by decide +kernel)
theorem gw_965 : Cond.code yX11_givers cX11_givers 5 (some FieldType.int) ∈ kG := kG_mk (kT_5 5 (by decide +kernel)) (by decide +kernel)
theorem gw_966 : Cond.methodLink RX11 295 yX11_lacks ∈ kG := kG_mk (kT_5 6 (by decide +kernel)) (by decide +kernel)
theorem gw_967 : Cond.methodLink RX11 298 yX11_partsOfAll ∈ kG := kG_mk (kT_5 7 (by decide +kernel)) (by decide +kernel)
theorem gw_969 : Cond.instanceMethod yX11_partsOfAll ∈ kG := kG_mk (kT_5 9 (by decide +kernel)) (by decide +kernel)
theorem gw_970 : Cond.code yX11_partsOfAll cX11_partsOfAll 4 (some FieldType.int) ∈ kG := kG_mk (kT_5 10 (by decide +kernel)) (by decide +kernel)
theorem gw_971 : Cond.methodLink RL 115 yX11_dowry ∈ kG := kG_mk (kT_5 11 (by decide +kernel)) (by decide +kernel)
theorem gw_972 : Cond.instanceMethod yX11_dowry ∈ kG := kG_mk (kT_5 12 (by decide +kernel)) (by decide +kernel)
theorem gw_973 : Cond.selects RX11 yX11_dowry yX11_dowry ∈ kG := kG_mk (kT_5 13 (by decide +kernel)) (by decide +kernel)
theorem gw_974 : Cond.code yX11_dowry cX11_dowry 2 (some FieldType.int) ∈ kG := kG_mk (kT_5 14 (by decide +kernel)) (by decide +kernel)
theorem gw_975 : Cond.methodLink RX11 301 yX7_worthKept ∈ kG := kG_mk (kT_5 15 (by decide +kernel)) (by decide +kernel)
theorem gw_976 : Cond.instanceMethod yX7_worthKept ∈ kG := kG_mk (kT_5 16 (by decide +kernel)) (by decide +kernel)
theorem gw_977 : Cond.selects RX7 yX7_worthKept yX7_worthKept ∈ kG := kG_mk (kT_5 17 (by decide +kernel)) (by decide +kernel)
theorem gw_978 : Cond.code yX7_worthKept cX7_worthKept 5 (some FieldType.int) ∈ kG := kG_mk (kT_5 18 (by decide +kernel)) (by decide +kernel)
theorem gw_979 : Cond.methodLink RL 103 yX11_poorest ∈ kG := kG_mk (kT_5 19 (by decide +kernel)) (by decide +kernel)
theorem gw_980 : Cond.instanceMethod yX11_poorest ∈ kG := kG_mk (kT_5 20 (by decide +kernel)) (by decide +kernel)
theorem gw_981 : Cond.selects RX11 yX11_poorest yX11_poorest ∈ kG := kG_mk (kT_5 21 (by decide +kernel)) (by decide +kernel)
theorem gw_982 : Cond.code yX11_poorest cX11_poorest 5 (some FieldType.int) ∈ kG := kG_mk (kT_5 22 (by decide +kernel)) (by decide +kernel)
theorem gw_983 : Cond.methodLink RL 119 yX11_match ∈ kG := kG_mk (kT_5 23 (by decide +kernel)) (by decide +kernel)
theorem gw_984 : Cond.instanceMethod yX11_match ∈ kG := kG_mk (kT_5 24 (by decide +kernel)) (by decide +kernel)
theorem gw_985 : Cond.selects RX11 yX11_match yX11_match ∈ kG := kG_mk (kT_5 25 (by decide +kernel)) (by decide +kernel)
theorem gw_986 : Cond.code yX11_match cX11_match 2 (some FieldType.int) ∈ kG := kG_mk (kT_5 26 (by decide +kernel)) (by decide +kernel)
theorem gw_987 : Cond.methodLink RX11 304 yX4_find ∈ kG := kG_mk (kT_5 27 (by decide +kernel)) (by decide +kernel)
theorem gw_988 : Cond.instanceMethod yX4_find ∈ kG := kG_mk (kT_5 28 (by decide +kernel)) (by decide +kernel)
theorem gw_989 : Cond.selects RX4 yX4_find yX4_find ∈ kG := kG_mk (kT_5 29 (by decide +kernel)) (by decide +kernel)
theorem gw_990 : Cond.code yX4_find cX4_find 4 none ∈ kG := kG_mk (kT_5 30 (by decide +kernel)) (by decide +kernel)
theorem gw_991 : Cond.methodLink RX4 28 yX7_worthKept ∈ kG := kG_mk (kT_5 31 (by decide +kernel)) (by decide +kernel)
theorem gw_992 : Cond.methodLink RX4 37 yX4_pairFrom ∈ kG := kG_mk (kT_5 32 (by decide +kernel)) (by decide +kernel)
theorem gw_994 : Cond.instanceMethod yX4_pairFrom ∈ kG := kG_mk (kT_5 34 (by decide +kernel)) (by decide +kernel)
theorem gw_995 : Cond.code yX4_pairFrom cX4_pairFrom 5 none ∈ kG := kG_mk (kT_5 35 (by decide +kernel)) (by decide +kernel)
theorem gw_996 : Cond.methodLink RX4 41 arraycopyName ∈ kG := kG_mk (kT_5 36 (by decide +kernel)) (by decide +kernel)
theorem nw_997 : Cond.methodLinkNest RX4 47 yX11_isIn "TithedThoughts" ∈ kN := kN_mk (kT_5 37 (by decide +kernel)) (by decide +kernel)
theorem gw_998 : Cond.methodLink RL 123 yX11_guess ∈ kG := kG_mk (kT_5 38 (by decide +kernel)) (by decide +kernel)
theorem gw_999 : Cond.instanceMethod yX11_guess ∈ kG := kG_mk (kT_5 39 (by decide +kernel)) (by decide +kernel)
theorem gw_1000 : Cond.selects RX11 yX11_guess yX11_guess ∈ kG := kG_mk (kT_5 40 (by decide +kernel)) (by decide +kernel)
theorem gw_1001 : Cond.code yX11_guess cX11_guess 3 (some FieldType.boolean) ∈ kG := kG_mk (kT_5 41 (by decide +kernel)) (by decide +kernel)
theorem gw_1002 : Cond.methodLink RL 128 yX11_fits ∈ kG := kG_mk (kT_5 42 (by decide +kernel)) (by decide +kernel)
theorem gw_1003 : Cond.instanceMethod yX11_fits ∈ kG := kG_mk (kT_5 43 (by decide +kernel)) (by decide +kernel)
theorem gw_1004 : Cond.selects RX11 yX11_fits yX11_fits ∈ kG := kG_mk (kT_5 44 (by decide +kernel)) (by decide +kernel)
theorem gw_1005 : Cond.code yX11_fits cX11_fits 3 (some FieldType.int) ∈ kG := kG_mk (kT_5 45 (by decide +kernel)) (by decide +kernel)
theorem gw_1006 : Cond.methodLink RX11 314 yX3_allowsGuessed ∈ kG := kG_mk (kT_5 46 (by decide +kernel)) (by decide +kernel)
theorem gw_1007 : Cond.instanceMethod yX3_allowsGuessed ∈ kG := kG_mk (kT_5 47 (by decide +kernel)) (by decide +kernel)
theorem gw_1008 : Cond.selects RX3 yX3_allowsGuessed yX3_allowsGuessed ∈ kG := kG_mk (kT_5 48 (by decide +kernel)) (by decide +kernel)
theorem gw_1009 : Cond.code yX3_allowsGuessed cX3_allowsGuessed 3 (some FieldType.boolean) ∈ kG := kG_mk (kT_5 49 (by decide +kernel)) (by decide +kernel)
theorem nw_1010 : Cond.methodLinkNest RX3 45 yX11_isIn "TithedThoughts" ∈ kN := kN_mk (kT_5 50 (by decide +kernel)) (by decide +kernel)
theorem gw_1011 : Cond.methodLink RL 132 yX11_ask ∈ kG := kG_mk (kT_5 51 (by decide +kernel)) (by decide +kernel)
theorem gw_1012 : Cond.instanceMethod yX11_ask ∈ kG := kG_mk (kT_5 52 (by decide +kernel)) (by decide +kernel)
theorem gw_1013 : Cond.selects RX11 yX11_ask yX11_ask ∈ kG := kG_mk (kT_5 53 (by decide +kernel)) (by decide +kernel)
theorem gw_1014 : Cond.code yX11_ask cX11_ask 8 (some FieldType.int) ∈ kG := kG_mk (kT_5 54 (by decide +kernel)) (by decide +kernel)
theorem gw_1015 : Cond.methodLink RX11 317 yX11_fits ∈ kG := kG_mk (kT_5 55 (by decide +kernel)) (by decide +kernel)
theorem gw_1016 : Cond.methodLink RX11 320 yX0_before ∈ kG := kG_mk (kT_5 56 (by decide +kernel)) (by decide +kernel)
theorem gw_1017 : Cond.instanceMethod yX0_before ∈ kG := kG_mk (kT_5 57 (by decide +kernel)) (by decide +kernel)
theorem gw_1018 : Cond.selects RX0 yX0_before yX0_before ∈ kG := kG_mk (kT_5 58 (by decide +kernel)) (by decide +kernel)
theorem gw_1019 : Cond.code yX0_before cX0_before 4 (some FieldType.int) ∈ kG := kG_mk (kT_5 59 (by decide +kernel)) (by decide +kernel)
theorem gw_1020 : Cond.methodLink RX11 323 yJ9_max_7cf53 ∈ kG := kG_mk (kT_5 60 (by decide +kernel)) (by decide +kernel)
theorem gw_1021 : Cond.methodLink RL 77 yL_judged ∈ kG := kG_mk (kT_5 61 (by decide +kernel)) (by decide +kernel)
theorem gw_1022 : Cond.static yL_judged ∈ kG := kG_mk (kT_5 62 (by decide +kernel)) (by decide +kernel)
theorem gw_1023 : Cond.codeWith yL_judged cL_judged 4 (some FieldType.int) [(0, 9, 12, 13)] ∈ kG := kG_mk (kT_5 63 (by decide +kernel)) (by decide +kernel)
theorem gw_1024 : Cond.classLink RL 13 "java/util/NoSuchElementException" ∈ kG := kG_mk (kT_5 64 (by decide +kernel)) (by decide +kernel)
theorem gw_1025 : Cond.methodLink RL 7 yX11_judged ∈ kG := kG_mk (kT_5 65 (by decide +kernel)) (by decide +kernel)
theorem gw_1026 : Cond.instanceMethod yX11_judged ∈ kG := kG_mk (kT_5 66 (by decide +kernel)) (by decide +kernel)
theorem gw_1027 : Cond.selects RX11 yX11_judged yX11_judged ∈ kG := kG_mk (kT_5 67 (by decide +kernel)) (by decide +kernel)
theorem gw_1028 : Cond.code yX11_judged cX11_judged 2 (some FieldType.int) ∈ kG := kG_mk (kT_5 68 (by decide +kernel)) (by decide +kernel)
theorem gw_1029 : Cond.classLink RX11 225 "java/util/NoSuchElementException" ∈ kG := kG_mk (kT_5 69 (by decide +kernel)) (by decide +kernel)
theorem gw_1030 : Cond.instantiable "java/util/NoSuchElementException" 6 ∈ kG := kG_mk (kT_5 70 (by decide +kernel)) (by decide +kernel)
theorem nw_1031 : Cond.castable "java/util/NoSuchElementException" "java/util/NoSuchElementException" ∈ kN := kN_mk (kT_5 71 (by decide +kernel)) (by decide +kernel)
theorem gw_1038 : Cond.selects "java/util/NoSuchElementException" ⟨"java/lang/Throwable", "fillInStackTrace", "(I)Ljava/lang/Throwable;"⟩ ⟨"java/lang/Throwable", "fillInStackTrace", "(I)Ljava/lang/Throwable;"⟩ ∈ kG := kG_mk (kT_5 78 (by decide +kernel)) (by decide +kernel)
theorem gw_1039 : Cond.selects "java/util/NoSuchElementException" ⟨"java/lang/Throwable", "fillInStackTrace", "()Ljava/lang/Throwable;"⟩ ⟨"java/lang/Throwable", "fillInStackTrace", "()Ljava/lang/Throwable;"⟩ ∈ kG := kG_mk (kT_5 79 (by decide +kernel)) (by decide +kernel)
theorem gw_1050 : Cond.fieldLink "java/lang/Throwable" 198 "java/lang/Throwable" "backtrace" "Ljava/lang/Object;" ∈ kG := kG_mk (kT_5 90 (by decide +kernel)) (by decide +kernel)
theorem gw_1052 : Cond.instanceMethod ⟨"java/lang/Throwable", "<init>", "()V"⟩ ∈ kG := kG_mk (kT_5 92 (by decide +kernel)) (by decide +kernel)
theorem gw_1053 : Cond.code ⟨"java/lang/Throwable", "<init>", "()V"⟩ prog_22_method_1_code 1 none ∈ kG := kG_mk (kT_5 93 (by decide +kernel)) (by decide +kernel)
theorem gw_1054 : Cond.methodLink "java/lang/Throwable" 1 Lib.objectInit ∈ kG := kG_mk (kT_5 94 (by decide +kernel)) (by decide +kernel)
theorem gw_1055 : Cond.fieldLink "java/lang/Throwable" 13 "java/lang/Throwable" "UNASSIGNED_STACK" "[Ljava/lang/StackTraceElement;" ∈ kG := kG_mk (kT_5 95 (by decide +kernel)) (by decide +kernel)
theorem gw_1057 : Cond.fieldLink "java/lang/Throwable" 20 "java/lang/Throwable" "SUPPRESSED_SENTINEL" "Ljava/util/List;" ∈ kG := kG_mk (kT_5 97 (by decide +kernel)) (by decide +kernel)
theorem gw_1059 : Cond.methodLink "java/lang/Throwable" 27 ⟨"java/lang/Throwable", "fillInStackTrace", "()Ljava/lang/Throwable;"⟩ ∈ kG := kG_mk (kT_5 99 (by decide +kernel)) (by decide +kernel)
theorem gw_1060 : Cond.instanceMethod ⟨"java/lang/Throwable", "fillInStackTrace", "()Ljava/lang/Throwable;"⟩ ∈ kG := kG_mk (kT_5 100 (by decide +kernel)) (by decide +kernel)
theorem gw_1063 : Cond.methodLink "java/lang/Throwable" 202 ⟨"java/lang/Throwable", "fillInStackTrace", "(I)Ljava/lang/Throwable;"⟩ ∈ kG := kG_mk (kT_5 103 (by decide +kernel)) (by decide +kernel)
theorem gw_1065 : Cond.instanceMethod ⟨"java/lang/Throwable", "fillInStackTrace", "(I)Ljava/lang/Throwable;"⟩ ∈ kG := kG_mk (kT_5 105 (by decide +kernel)) (by decide +kernel)
theorem gw_1066 : Cond.instantiable "java/lang/Throwable" 6 ∈ kG := kG_mk (kT_5 106 (by decide +kernel)) (by decide +kernel)
theorem gw_1068 : Cond.methodLink RX11 227 ⟨"java/util/NoSuchElementException", "<init>", "()V"⟩ ∈ kG := kG_mk (kT_5 108 (by decide +kernel)) (by decide +kernel)
theorem gw_1069 : Cond.instanceMethod ⟨"java/util/NoSuchElementException", "<init>", "()V"⟩ ∈ kG := kG_mk (kT_5 109 (by decide +kernel)) (by decide +kernel)
theorem gw_1070 : Cond.code ⟨"java/util/NoSuchElementException", "<init>", "()V"⟩ prog_24_method_1_code 1 none ∈ kG := kG_mk (kT_5 110 (by decide +kernel)) (by decide +kernel)
theorem gw_1071 : Cond.methodLink "java/util/NoSuchElementException" 1 ⟨"java/lang/RuntimeException", "<init>", "()V"⟩ ∈ kG := kG_mk (kT_5 111 (by decide +kernel)) (by decide +kernel)
theorem gw_1072 : Cond.instanceMethod ⟨"java/lang/RuntimeException", "<init>", "()V"⟩ ∈ kG := kG_mk (kT_5 112 (by decide +kernel)) (by decide +kernel)
theorem gw_1073 : Cond.code ⟨"java/lang/RuntimeException", "<init>", "()V"⟩ prog_20_method_1_code 1 none ∈ kG := kG_mk (kT_5 113 (by decide +kernel)) (by decide +kernel)
theorem gw_1074 : Cond.methodLink "java/lang/RuntimeException" 1 ⟨"java/lang/Exception", "<init>", "()V"⟩ ∈ kG := kG_mk (kT_5 114 (by decide +kernel)) (by decide +kernel)
theorem gw_1075 : Cond.instanceMethod ⟨"java/lang/Exception", "<init>", "()V"⟩ ∈ kG := kG_mk (kT_5 115 (by decide +kernel)) (by decide +kernel)
theorem gw_1076 : Cond.code ⟨"java/lang/Exception", "<init>", "()V"⟩ prog_17_method_1_code 1 none ∈ kG := kG_mk (kT_5 116 (by decide +kernel)) (by decide +kernel)
theorem gw_1077 : Cond.methodLink "java/lang/Exception" 1 ⟨"java/lang/Throwable", "<init>", "()V"⟩ ∈ kG := kG_mk (kT_5 117 (by decide +kernel)) (by decide +kernel)
theorem gw_1078 : Cond.fieldLink "java/lang/Throwable" 198 "java/lang/Throwable" "backtrace" "Ljava/lang/Object;" ∈ kG := kG_mk (kT_5 118 (by decide +kernel)) (by decide +kernel)
theorem gw_1079 : Cond.fieldLink "java/lang/Throwable" 7 "java/lang/Throwable" "cause" "Ljava/lang/Throwable;" ∈ kG := kG_mk (kT_5 119 (by decide +kernel)) (by decide +kernel)
theorem gw_1080 : Cond.fieldLink "java/lang/Throwable" 17 "java/lang/Throwable" "stackTrace" "[Ljava/lang/StackTraceElement;" ∈ kG := kG_mk (kT_5 120 (by decide +kernel)) (by decide +kernel)
theorem gw_1081 : Cond.fieldLink "java/lang/Throwable" 24 "java/lang/Throwable" "suppressedExceptions" "Ljava/util/List;" ∈ kG := kG_mk (kT_5 121 (by decide +kernel)) (by decide +kernel)
theorem gw_1090 : Cond.methodLink RX11 239 yX7_gainedByAll ∈ kG := kG_mk (kT_5 130 (by decide +kernel)) (by decide +kernel)
theorem gw_1091 : Cond.instanceMethod yX7_gainedByAll ∈ kG := kG_mk (kT_5 131 (by decide +kernel)) (by decide +kernel)
theorem gw_1092 : Cond.selects RX7 yX7_gainedByAll yX7_gainedByAll ∈ kG := kG_mk (kT_5 132 (by decide +kernel)) (by decide +kernel)
theorem gw_1093 : Cond.code yX7_gainedByAll cX7_gainedByAll 3 (some FieldType.int) ∈ kG := kG_mk (kT_5 133 (by decide +kernel)) (by decide +kernel)
theorem gw_1094 : Cond.methodLink RL 83 yL_best ∈ kG := kG_mk (kT_5 134 (by decide +kernel)) (by decide +kernel)
theorem gw_1095 : Cond.static yL_best ∈ kG := kG_mk (kT_5 135 (by decide +kernel)) (by decide +kernel)
theorem gw_1096 : Cond.codeWith yL_best cL_best 6 (some FieldType.int) [(0, 12, 15, 13)] ∈ kG := kG_mk (kT_5 136 (by decide +kernel)) (by decide +kernel)
theorem gw_1097 : Cond.methodLink RL 15 yX11_best ∈ kG := kG_mk (kT_5 137 (by decide +kernel)) (by decide +kernel)
theorem gw_1098 : Cond.instanceMethod yX11_best ∈ kG := kG_mk (kT_5 138 (by decide +kernel)) (by decide +kernel)
theorem gw_1099 : Cond.selects RX11 yX11_best yX11_best ∈ kG := kG_mk (kT_5 139 (by decide +kernel)) (by decide +kernel)
theorem gw_1100 : Cond.code yX11_best cX11_best 5 (some FieldType.int) ∈ kG := kG_mk (kT_5 140 (by decide +kernel)) (by decide +kernel)
theorem gw_1101 : Cond.methodLink RX11 249 yX1_find ∈ kG := kG_mk (kT_5 141 (by decide +kernel)) (by decide +kernel)
theorem gw_1102 : Cond.instanceMethod yX1_find ∈ kG := kG_mk (kT_5 142 (by decide +kernel)) (by decide +kernel)
theorem gw_1103 : Cond.selects RX1 yX1_find yX1_find ∈ kG := kG_mk (kT_5 143 (by decide +kernel)) (by decide +kernel)
theorem gw_1104 : Cond.code yX1_find cX1_find 8 (some FieldType.int) ∈ kG := kG_mk (kT_5 144 (by decide +kernel)) (by decide +kernel)
theorem gw_1105 : Cond.methodLink RX1 27 yJ9_min_7cf53 ∈ kG := kG_mk (kT_5 145 (by decide +kernel)) (by decide +kernel)
theorem gw_1106 : Cond.constant RX1 44 (2147483647) ∈ kG := kG_mk (kT_5 146 (by decide +kernel)) (by decide +kernel)
theorem gw_1107 : Cond.methodLink RX1 45 yJ7_fill_53178 ∈ kG := kG_mk (kT_5 147 (by decide +kernel)) (by decide +kernel)
theorem gw_1108 : Cond.methodLink RX1 51 yX1_foresee ∈ kG := kG_mk (kT_5 148 (by decide +kernel)) (by decide +kernel)
theorem gw_1110 : Cond.instanceMethod yX1_foresee ∈ kG := kG_mk (kT_5 150 (by decide +kernel)) (by decide +kernel)
theorem gw_1111 : Cond.code yX1_foresee cX1_foresee 9 none ∈ kG := kG_mk (kT_5 151 (by decide +kernel)) (by decide +kernel)
theorem nw_1112 : Cond.methodLinkNest RX1 82 yX11_isIn "TithedThoughts" ∈ kN := kN_mk (kT_5 152 (by decide +kernel)) (by decide +kernel)
theorem gw_1113 : Cond.methodLink RX1 92 yX0_gainOf ∈ kG := kG_mk (kT_5 153 (by decide +kernel)) (by decide +kernel)
theorem gw_1114 : Cond.methodLink RX1 55 yX7_canThink ∈ kG := kG_mk (kT_5 154 (by decide +kernel)) (by decide +kernel)
theorem gw_1115 : Cond.methodLink RX1 61 yX7_leastCounted ∈ kG := kG_mk (kT_5 155 (by decide +kernel)) (by decide +kernel)
theorem gw_1116 : Cond.instanceMethod yX7_leastCounted ∈ kG := kG_mk (kT_5 156 (by decide +kernel)) (by decide +kernel)
theorem gw_1117 : Cond.selects RX7 yX7_leastCounted yX7_leastCounted ∈ kG := kG_mk (kT_5 157 (by decide +kernel)) (by decide +kernel)
theorem gw_1118 : Cond.code yX7_leastCounted cX7_leastCounted 4 (some FieldType.int) ∈ kG := kG_mk (kT_5 158 (by decide +kernel)) (by decide +kernel)
theorem gw_1119 : Cond.methodLink RX1 64 yX1_mostFrom ∈ kG := kG_mk (kT_5 159 (by decide +kernel)) (by decide +kernel)
theorem gw_1121 : Cond.instanceMethod yX1_mostFrom ∈ kG := kG_mk (kT_5 161 (by decide +kernel)) (by decide +kernel)
theorem gw_1122 : Cond.code yX1_mostFrom cX1_mostFrom 7 (some FieldType.int) ∈ kG := kG_mk (kT_5 162 (by decide +kernel)) (by decide +kernel)
theorem gw_1123 : Cond.constant RX1 68 (-2147483648) ∈ kG := kG_mk (kT_5 163 (by decide +kernel)) (by decide +kernel)
theorem gw_1124 : Cond.methodLink RX1 96 yX1_mostWith ∈ kG := kG_mk (kT_5 164 (by decide +kernel)) (by decide +kernel)
theorem gw_1126 : Cond.instanceMethod yX1_mostWith ∈ kG := kG_mk (kT_5 166 (by decide +kernel)) (by decide +kernel)
theorem gw_1127 : Cond.code yX1_mostWith cX1_mostWith 8 (some FieldType.int) ∈ kG := kG_mk (kT_5 167 (by decide +kernel)) (by decide +kernel)
theorem gw_1128 : Cond.methodLink RX1 102 yX1_gainAt ∈ kG := kG_mk (kT_5 168 (by decide +kernel)) (by decide +kernel)
theorem gw_1130 : Cond.instanceMethod yX1_gainAt ∈ kG := kG_mk (kT_5 170 (by decide +kernel)) (by decide +kernel)
theorem gw_1131 : Cond.code yX1_gainAt cX1_gainAt 6 (some FieldType.int) ∈ kG := kG_mk (kT_5 171 (by decide +kernel)) (by decide +kernel)
theorem gw_1132 : Cond.methodLink RX1 105 yX1_runsAt ∈ kG := kG_mk (kT_5 172 (by decide +kernel)) (by decide +kernel)
theorem gw_1134 : Cond.instanceMethod yX1_runsAt ∈ kG := kG_mk (kT_5 174 (by decide +kernel)) (by decide +kernel)
theorem gw_1135 : Cond.code yX1_runsAt cX1_runsAt 4 (some FieldType.boolean) ∈ kG := kG_mk (kT_5 175 (by decide +kernel)) (by decide +kernel)
theorem gw_1136 : Cond.methodLink RX1 109 yX1_leastBehind ∈ kG := kG_mk (kT_5 176 (by decide +kernel)) (by decide +kernel)
theorem gw_1138 : Cond.instanceMethod yX1_leastBehind ∈ kG := kG_mk (kT_5 178 (by decide +kernel)) (by decide +kernel)
theorem gw_1139 : Cond.code yX1_leastBehind cX1_leastBehind 5 (some FieldType.int) ∈ kG := kG_mk (kT_5 179 (by decide +kernel)) (by decide +kernel)
theorem gw_1140 : Cond.methodLink RX1 99 yJ9_max_7cf53 ∈ kG := kG_mk (kT_5 180 (by decide +kernel)) (by decide +kernel)
theorem gw_1141 : Cond.methodLink RX1 69 yX1_choose ∈ kG := kG_mk (kT_5 181 (by decide +kernel)) (by decide +kernel)
theorem gw_1143 : Cond.instanceMethod yX1_choose ∈ kG := kG_mk (kT_5 183 (by decide +kernel)) (by decide +kernel)
theorem gw_1144 : Cond.code yX1_choose cX1_choose 9 none ∈ kG := kG_mk (kT_5 184 (by decide +kernel)) (by decide +kernel)
theorem gw_1145 : Cond.constant RX11 253 (-2147483648) ∈ kG := kG_mk (kT_5 185 (by decide +kernel)) (by decide +kernel)
theorem gw_1146 : Cond.methodLink RL 148 yL_rests ∈ kG := kG_mk (kT_5 186 (by decide +kernel)) (by decide +kernel)
theorem gw_1147 : Cond.static yL_rests ∈ kG := kG_mk (kT_5 187 (by decide +kernel)) (by decide +kernel)
theorem gw_1148 : Cond.codeWith yL_rests cL_rests 7 (some FieldType.int) [(0, 14, 17, 13)] ∈ kG := kG_mk (kT_5 188 (by decide +kernel)) (by decide +kernel)
theorem gw_1149 : Cond.methodLink RL 19 yX11_rests ∈ kG := kG_mk (kT_5 189 (by decide +kernel)) (by decide +kernel)
theorem gw_1150 : Cond.instanceMethod yX11_rests ∈ kG := kG_mk (kT_5 190 (by decide +kernel)) (by decide +kernel)
theorem gw_1151 : Cond.selects RX11 yX11_rests yX11_rests ∈ kG := kG_mk (kT_5 191 (by decide +kernel)) (by decide +kernel)
theorem gw_1152 : Cond.code yX11_rests cX11_rests 9 (some FieldType.int) ∈ kG := kG_mk (kT_5 192 (by decide +kernel)) (by decide +kernel)
theorem gw_1153 : Cond.methodLink RX11 328 yX11_isStake ∈ kG := kG_mk (kT_5 193 (by decide +kernel)) (by decide +kernel)
theorem gw_1154 : Cond.static yX11_isStake ∈ kG := kG_mk (kT_5 194 (by decide +kernel)) (by decide +kernel)
theorem gw_1155 : Cond.code yX11_isStake cX11_isStake 1 (some FieldType.boolean) ∈ kG := kG_mk (kT_5 195 (by decide +kernel)) (by decide +kernel)
theorem gw_1156 : Cond.methodLink RX11 331 yX11_isContent ∈ kG := kG_mk (kT_5 196 (by decide +kernel)) (by decide +kernel)
theorem gw_1157 : Cond.static yX11_isContent ∈ kG := kG_mk (kT_5 197 (by decide +kernel)) (by decide +kernel)
theorem gw_1158 : Cond.code yX11_isContent cX11_isContent 5 (some FieldType.boolean) ∈ kG := kG_mk (kT_5 198 (by decide +kernel)) (by decide +kernel)
theorem gw_1159 : Cond.methodLink RX11 335 yX11_gotBy ∈ kG := kG_mk (kT_5 199 (by decide +kernel)) (by decide +kernel)
theorem gw_1160 : Cond.static yX11_gotBy ∈ kG := kG_mk (kT_5 200 (by decide +kernel)) (by decide +kernel)
theorem gw_1161 : Cond.code yX11_gotBy cX11_gotBy 5 (some FieldType.int) ∈ kG := kG_mk (kT_5 201 (by decide +kernel)) (by decide +kernel)
theorem gw_1162 : Cond.methodLink RL 159 yL_lives ∈ kG := kG_mk (kT_5 202 (by decide +kernel)) (by decide +kernel)
theorem gw_1163 : Cond.static yL_lives ∈ kG := kG_mk (kT_5 203 (by decide +kernel)) (by decide +kernel)
theorem gw_1164 : Cond.codeWith yL_lives cL_lives 6 (some FieldType.int) [(0, 12, 15, 13)] ∈ kG := kG_mk (kT_5 204 (by decide +kernel)) (by decide +kernel)
theorem gw_1165 : Cond.methodLink RL 23 yX11_lives ∈ kG := kG_mk (kT_5 205 (by decide +kernel)) (by decide +kernel)
theorem gw_1166 : Cond.instanceMethod yX11_lives ∈ kG := kG_mk (kT_5 206 (by decide +kernel)) (by decide +kernel)
theorem gw_1167 : Cond.selects RX11 yX11_lives yX11_lives ∈ kG := kG_mk (kT_5 207 (by decide +kernel)) (by decide +kernel)
theorem gw_1168 : Cond.code yX11_lives cX11_lives 4 (some FieldType.int) ∈ kG := kG_mk (kT_5 208 (by decide +kernel)) (by decide +kernel)
theorem gw_1169 : Cond.methodLink RX11 245 yX2_liveByDraws ∈ kG := kG_mk (kT_5 209 (by decide +kernel)) (by decide +kernel)
theorem gw_1170 : Cond.instanceMethod yX2_liveByDraws ∈ kG := kG_mk (kT_5 210 (by decide +kernel)) (by decide +kernel)
theorem gw_1171 : Cond.selects RX2 yX2_liveByDraws yX2_liveByDraws ∈ kG := kG_mk (kT_5 211 (by decide +kernel)) (by decide +kernel)
theorem gw_1172 : Cond.code yX2_liveByDraws cX2_liveByDraws 8 none ∈ kG := kG_mk (kT_5 212 (by decide +kernel)) (by decide +kernel)
theorem gw_1173 : Cond.methodLink RX2 86 yX7_copy ∈ kG := kG_mk (kT_5 213 (by decide +kernel)) (by decide +kernel)
theorem gw_1174 : Cond.methodLink RX2 97 yX2_drawBelow ∈ kG := kG_mk (kT_5 214 (by decide +kernel)) (by decide +kernel)
theorem gw_1176 : Cond.instanceMethod yX2_drawBelow ∈ kG := kG_mk (kT_5 216 (by decide +kernel)) (by decide +kernel)
theorem gw_1177 : Cond.code yX2_drawBelow cX2_drawBelow 2 (some FieldType.int) ∈ kG := kG_mk (kT_5 217 (by decide +kernel)) (by decide +kernel)
theorem gw_1178 : Cond.constantLong RX2 104 (1103515245) ∈ kG := kG_mk (kT_5 218 (by decide +kernel)) (by decide +kernel)
theorem gw_1179 : Cond.constantLong RX2 106 (12345) ∈ kG := kG_mk (kT_5 219 (by decide +kernel)) (by decide +kernel)
theorem gw_1180 : Cond.constantLong RX2 108 (2147483648) ∈ kG := kG_mk (kT_5 220 (by decide +kernel)) (by decide +kernel)
theorem gw_1181 : Cond.constantLong RX2 110 (65536) ∈ kG := kG_mk (kT_5 221 (by decide +kernel)) (by decide +kernel)
theorem gw_1182 : Cond.classLink RL 27 RX12 ∈ kG := kG_mk (kT_5 222 (by decide +kernel)) (by decide +kernel)
theorem gw_1183 : Cond.instantiable RX12 64 ∈ kG := kG_mk (kT_5 223 (by decide +kernel)) (by decide +kernel)
theorem gw_1184 : Cond.methodLink RL 29 yX12_init ∈ kG := kG_mk (kT_5 224 (by decide +kernel)) (by decide +kernel)
theorem gw_1185 : Cond.instanceMethod yX12_init ∈ kG := kG_mk (kT_5 225 (by decide +kernel)) (by decide +kernel)
theorem gw_1186 : Cond.code yX12_init cX12_init 1 none ∈ kG := kG_mk (kT_5 226 (by decide +kernel)) (by decide +kernel)
theorem gw_1187 : Cond.methodLink RX12 1 Lib.objectInit ∈ kG := kG_mk (kT_5 227 (by decide +kernel)) (by decide +kernel)
theorem gw_1188 : Cond.methodLink RX12 139 yX12_usual ∈ kG := kG_mk (kT_5 228 (by decide +kernel)) (by decide +kernel)
theorem gw_1190 : Cond.instanceMethod yX12_usual ∈ kG := kG_mk (kT_5 230 (by decide +kernel)) (by decide +kernel)
theorem gw_1191 : Cond.code yX12_usual cX12_usual 2 none ∈ kG := kG_mk (kT_5 231 (by decide +kernel)) (by decide +kernel)
theorem gw_1192 : Cond.fieldLink RX12 143 "TithedThoughtsModel" "thrown" "I" ∈ kG := kG_mk (kT_5 232 (by decide +kernel)) (by decide +kernel)
theorem gw_1193 : Cond.fieldLink RX12 148 "TithedThoughtsModel" "taped" "I" ∈ kG := kG_mk (kT_5 233 (by decide +kernel)) (by decide +kernel)
theorem gw_1194 : Cond.fieldLink RX12 7 "TithedThoughtsModel" "tape" "[I" ∈ kG := kG_mk (kT_5 234 (by decide +kernel)) (by decide +kernel)
theorem gw_1195 : Cond.fieldLink RX12 151 "TithedThoughtsModel" "size" "I" ∈ kG := kG_mk (kT_5 235 (by decide +kernel)) (by decide +kernel)
theorem gw_1196 : Cond.fieldLink RX12 154 "TithedThoughtsModel" "place" "I" ∈ kG := kG_mk (kT_5 236 (by decide +kernel)) (by decide +kernel)
theorem gw_1197 : Cond.fieldLink RX12 157 "TithedThoughtsModel" "begin" "I" ∈ kG := kG_mk (kT_5 237 (by decide +kernel)) (by decide +kernel)
theorem gw_1198 : Cond.fieldLink RX12 167 "TithedThoughtsModel" "token" "I" ∈ kG := kG_mk (kT_5 238 (by decide +kernel)) (by decide +kernel)
theorem gw_1199 : Cond.fieldLink RX12 160 "TithedThoughtsModel" "word" "J" ∈ kG := kG_mk (kT_5 239 (by decide +kernel)) (by decide +kernel)
theorem gw_1200 : Cond.fieldLink RX12 164 "TithedThoughtsModel" "told" "I" ∈ kG := kG_mk (kT_6 0 (by decide +kernel)) (by decide +kernel)
theorem gw_1201 : Cond.fieldLink RX12 178 "TithedThoughtsModel" "wrong" "I" ∈ kG := kG_mk (kT_6 1 (by decide +kernel)) (by decide +kernel)
theorem gw_1202 : Cond.fieldLink RX12 13 "TithedThoughtsModel" "abbey" "[I" ∈ kG := kG_mk (kT_6 2 (by decide +kernel)) (by decide +kernel)
theorem gw_1203 : Cond.fieldLink RX12 16 "TithedThoughtsModel" "thoughtName" "[J" ∈ kG := kG_mk (kT_6 3 (by decide +kernel)) (by decide +kernel)
theorem gw_1204 : Cond.fieldLink RX12 20 "TithedThoughtsModel" "tenantName" "[J" ∈ kG := kG_mk (kT_6 4 (by decide +kernel)) (by decide +kernel)
theorem gw_1205 : Cond.fieldLink RX12 23 "TithedThoughtsModel" "worthOf" "[I" ∈ kG := kG_mk (kT_6 5 (by decide +kernel)) (by decide +kernel)
theorem gw_1206 : Cond.fieldLink RX12 26 "TithedThoughtsModel" "part" "[I" ∈ kG := kG_mk (kT_6 6 (by decide +kernel)) (by decide +kernel)
theorem gw_1207 : Cond.fieldLink RX12 29 "TithedThoughtsModel" "behind" "[I" ∈ kG := kG_mk (kT_6 7 (by decide +kernel)) (by decide +kernel)
theorem gw_1208 : Cond.fieldLink RX12 32 "TithedThoughtsModel" "kind" "[I" ∈ kG := kG_mk (kT_6 8 (by decide +kernel)) (by decide +kernel)
theorem gw_1209 : Cond.fieldLink RX12 35 "TithedThoughtsModel" "lineFrom" "[I" ∈ kG := kG_mk (kT_6 9 (by decide +kernel)) (by decide +kernel)
theorem gw_1210 : Cond.fieldLink RX12 38 "TithedThoughtsModel" "lineTo" "[I" ∈ kG := kG_mk (kT_6 10 (by decide +kernel)) (by decide +kernel)
theorem gw_1211 : Cond.fieldLink RX12 41 "TithedThoughtsModel" "codes" "[I" ∈ kG := kG_mk (kT_6 11 (by decide +kernel)) (by decide +kernel)
theorem gw_1212 : Cond.fieldLink RX12 181 "TithedThoughtsModel" "code" "I" ∈ kG := kG_mk (kT_6 12 (by decide +kernel)) (by decide +kernel)
theorem gw_1213 : Cond.fieldLink RX12 299 "TithedThoughtsModel" "toldLines" "I" ∈ kG := kG_mk (kT_6 13 (by decide +kernel)) (by decide +kernel)
theorem gw_1214 : Cond.fieldLink RX12 44 "TithedThoughtsModel" "opened" "[I" ∈ kG := kG_mk (kT_6 14 (by decide +kernel)) (by decide +kernel)
theorem gw_1215 : Cond.fieldLink RX12 47 "TithedThoughtsModel" "compared" "[Z" ∈ kG := kG_mk (kT_6 15 (by decide +kernel)) (by decide +kernel)
theorem gw_1216 : Cond.fieldLink RX12 51 "TithedThoughtsModel" "kept" "[I" ∈ kG := kG_mk (kT_6 16 (by decide +kernel)) (by decide +kernel)
theorem gw_1217 : Cond.fieldLink RX12 54 "TithedThoughtsModel" "keptBy" "[I" ∈ kG := kG_mk (kT_6 17 (by decide +kernel)) (by decide +kernel)
theorem gw_1218 : Cond.fieldLink RX12 57 "TithedThoughtsModel" "ahead" "[I" ∈ kG := kG_mk (kT_6 18 (by decide +kernel)) (by decide +kernel)
theorem gw_1219 : Cond.fieldLink RX12 60 "TithedThoughtsModel" "against" "[I" ∈ kG := kG_mk (kT_6 19 (by decide +kernel)) (by decide +kernel)
theorem gw_1220 : Cond.fieldLink RX12 63 "TithedThoughtsModel" "sum" "[I" ∈ kG := kG_mk (kT_6 20 (by decide +kernel)) (by decide +kernel)
theorem gw_1221 : Cond.fieldLink RX12 66 "TithedThoughtsModel" "sumBy" "[I" ∈ kG := kG_mk (kT_6 21 (by decide +kernel)) (by decide +kernel)
theorem gw_1222 : Cond.fieldLink RX12 69 "TithedThoughtsModel" "term" "[I" ∈ kG := kG_mk (kT_6 22 (by decide +kernel)) (by decide +kernel)
theorem gw_1223 : Cond.fieldLink RX12 72 "TithedThoughtsModel" "termBy" "[I" ∈ kG := kG_mk (kT_6 23 (by decide +kernel)) (by decide +kernel)
theorem gw_1224 : Cond.fieldLink RX12 75 "TithedThoughtsModel" "byNot" "[I" ∈ kG := kG_mk (kT_6 24 (by decide +kernel)) (by decide +kernel)
theorem gw_1225 : Cond.fieldLink RX12 78 "TithedThoughtsModel" "valueOf" "[I" ∈ kG := kG_mk (kT_6 25 (by decide +kernel)) (by decide +kernel)
theorem gw_1226 : Cond.fieldLink RX12 266 "TithedThoughtsModel" "given" "I" ∈ kG := kG_mk (kT_6 26 (by decide +kernel)) (by decide +kernel)
theorem gw_1227 : Cond.fieldLink RX12 283 "TithedThoughtsModel" "fresh" "J" ∈ kG := kG_mk (kT_6 27 (by decide +kernel)) (by decide +kernel)
theorem gw_1228 : Cond.fieldLink RX12 81 "TithedThoughtsModel" "lines" "[I" ∈ kG := kG_mk (kT_6 28 (by decide +kernel)) (by decide +kernel)
theorem gw_1229 : Cond.fieldLink RX12 84 "TithedThoughtsModel" "lineWhat" "[I" ∈ kG := kG_mk (kT_6 29 (by decide +kernel)) (by decide +kernel)
theorem gw_1230 : Cond.fieldLink RX12 87 "TithedThoughtsModel" "lineA" "[I" ∈ kG := kG_mk (kT_6 30 (by decide +kernel)) (by decide +kernel)
theorem gw_1231 : Cond.fieldLink RX12 90 "TithedThoughtsModel" "lineB" "[I" ∈ kG := kG_mk (kT_6 31 (by decide +kernel)) (by decide +kernel)
theorem gw_1232 : Cond.fieldLink RX12 93 "TithedThoughtsModel" "guesses" "[I" ∈ kG := kG_mk (kT_6 32 (by decide +kernel)) (by decide +kernel)
theorem gw_1233 : Cond.fieldLink RX12 96 "TithedThoughtsModel" "guessOf" "[I" ∈ kG := kG_mk (kT_6 33 (by decide +kernel)) (by decide +kernel)
theorem gw_1234 : Cond.fieldLink RX12 99 "TithedThoughtsModel" "guessMay" "[Z" ∈ kG := kG_mk (kT_6 34 (by decide +kernel)) (by decide +kernel)
theorem gw_1235 : Cond.fieldLink RX12 102 "TithedThoughtsModel" "s" "[I" ∈ kG := kG_mk (kT_6 35 (by decide +kernel)) (by decide +kernel)
theorem gw_1236 : Cond.fieldLink RX12 105 "TithedThoughtsModel" "aside" "[I" ∈ kG := kG_mk (kT_6 36 (by decide +kernel)) (by decide +kernel)
theorem gw_1237 : Cond.fieldLink RX12 108 "TithedThoughtsModel" "tried" "[I" ∈ kG := kG_mk (kT_6 37 (by decide +kernel)) (by decide +kernel)
theorem gw_1238 : Cond.fieldLink RX12 111 "TithedThoughtsModel" "marked" "[I" ∈ kG := kG_mk (kT_6 38 (by decide +kernel)) (by decide +kernel)
theorem gw_1239 : Cond.fieldLink RX12 114 "TithedThoughtsModel" "undone" "[I" ∈ kG := kG_mk (kT_6 39 (by decide +kernel)) (by decide +kernel)
theorem gw_1240 : Cond.fieldLink RX12 117 "TithedThoughtsModel" "isLaid" "[Z" ∈ kG := kG_mk (kT_6 40 (by decide +kernel)) (by decide +kernel)
theorem gw_1241 : Cond.fieldLink RX12 339 "TithedThoughtsModel" "done" "I" ∈ kG := kG_mk (kT_6 41 (by decide +kernel)) (by decide +kernel)
theorem gw_1242 : Cond.fieldLink RX12 120 "TithedThoughtsModel" "titheNow" "I" ∈ kG := kG_mk (kT_6 42 (by decide +kernel)) (by decide +kernel)
theorem gw_1243 : Cond.fieldLink RX12 418 "TithedThoughtsModel" "badLine" "I" ∈ kG := kG_mk (kT_6 43 (by decide +kernel)) (by decide +kernel)
theorem gw_1244 : Cond.fieldLink RX12 415 "TithedThoughtsModel" "firstLine" "I" ∈ kG := kG_mk (kT_6 44 (by decide +kernel)) (by decide +kernel)
theorem gw_1245 : Cond.fieldLink RX12 412 "TithedThoughtsModel" "titheMany" "I" ∈ kG := kG_mk (kT_6 45 (by decide +kernel)) (by decide +kernel)
theorem gw_1246 : Cond.fieldLink RX12 427 "TithedThoughtsModel" "gainedLast" "I" ∈ kG := kG_mk (kT_6 46 (by decide +kernel)) (by decide +kernel)
theorem gw_1247 : Cond.fieldLink RX12 124 "TithedThoughtsModel" "row" "[I" ∈ kG := kG_mk (kT_6 47 (by decide +kernel)) (by decide +kernel)
theorem gw_1248 : Cond.fieldLink RX12 127 "TithedThoughtsModel" "bestRow" "[I" ∈ kG := kG_mk (kT_6 48 (by decide +kernel)) (by decide +kernel)
theorem gw_1249 : Cond.fieldLink RX12 433 "TithedThoughtsModel" "isFound" "Z" ∈ kG := kG_mk (kT_6 49 (by decide +kernel)) (by decide +kernel)
theorem gw_1250 : Cond.fieldLink RX12 437 "TithedThoughtsModel" "mostGained" "I" ∈ kG := kG_mk (kT_6 50 (by decide +kernel)) (by decide +kernel)
theorem gw_1251 : Cond.fieldLink RX12 130 "TithedThoughtsModel" "has" "[I" ∈ kG := kG_mk (kT_6 51 (by decide +kernel)) (by decide +kernel)
theorem gw_1252 : Cond.fieldLink RX12 133 "TithedThoughtsModel" "with" "[I" ∈ kG := kG_mk (kT_6 52 (by decide +kernel)) (by decide +kernel)
theorem gw_1253 : Cond.fieldLink RX12 136 "TithedThoughtsModel" "bestWith" "[I" ∈ kG := kG_mk (kT_6 53 (by decide +kernel)) (by decide +kernel)
theorem gw_1254 : Cond.fieldLink RX12 465 "TithedThoughtsModel" "mostMatched" "I" ∈ kG := kG_mk (kT_6 54 (by decide +kernel)) (by decide +kernel)
theorem gw_1255 : Cond.fieldLink RX12 478 "TithedThoughtsModel" "g" "J" ∈ kG := kG_mk (kT_6 55 (by decide +kernel)) (by decide +kernel)
theorem gw_1385 : Cond.methodLink RL 152 yX12_thrown ∈ kG := kG_mk (kT_6 185 (by decide +kernel)) (by decide +kernel)
theorem gw_1386 : Cond.instanceMethod yX12_thrown ∈ kG := kG_mk (kT_6 186 (by decide +kernel)) (by decide +kernel)
theorem gw_1387 : Cond.selects RX12 yX12_thrown yX12_thrown ∈ kG := kG_mk (kT_6 187 (by decide +kernel)) (by decide +kernel)
theorem gw_1388 : Cond.code yX12_thrown cX12_thrown 1 (some FieldType.int) ∈ kG := kG_mk (kT_6 188 (by decide +kernel)) (by decide +kernel)
theorem gw_1389 : Cond.methodLink RL 36 yX12_feed ∈ kG := kG_mk (kT_6 189 (by decide +kernel)) (by decide +kernel)
theorem gw_1390 : Cond.instanceMethod yX12_feed ∈ kG := kG_mk (kT_6 190 (by decide +kernel)) (by decide +kernel)
theorem gw_1391 : Cond.selects RX12 yX12_feed yX12_feed ∈ kG := kG_mk (kT_6 191 (by decide +kernel)) (by decide +kernel)
theorem gw_1392 : Cond.code yX12_feed cX12_feed 11 (some FieldType.int) ∈ kG := kG_mk (kT_6 192 (by decide +kernel)) (by decide +kernel)
theorem gw_1393 : Cond.constantLong RX12 146 (255) ∈ kG := kG_mk (kT_6 193 (by decide +kernel)) (by decide +kernel)
theorem gw_1394 : Cond.methodLink RL 41 yX12_abbey ∈ kG := kG_mk (kT_6 194 (by decide +kernel)) (by decide +kernel)
theorem gw_1395 : Cond.instanceMethod yX12_abbey ∈ kG := kG_mk (kT_6 195 (by decide +kernel)) (by decide +kernel)
theorem gw_1396 : Cond.selects RX12 yX12_abbey yX12_abbey ∈ kG := kG_mk (kT_6 196 (by decide +kernel)) (by decide +kernel)
theorem gw_1397 : Cond.code yX12_abbey cX12_abbey 2 (some FieldType.int) ∈ kG := kG_mk (kT_6 197 (by decide +kernel)) (by decide +kernel)
theorem gw_1398 : Cond.methodLink RX12 331 yX12_readsAll ∈ kG := kG_mk (kT_6 198 (by decide +kernel)) (by decide +kernel)
theorem gw_1400 : Cond.instanceMethod yX12_readsAll ∈ kG := kG_mk (kT_6 200 (by decide +kernel)) (by decide +kernel)
theorem gw_1401 : Cond.code yX12_readsAll cX12_readsAll 2 (some FieldType.boolean) ∈ kG := kG_mk (kT_6 201 (by decide +kernel)) (by decide +kernel)
theorem gw_1402 : Cond.methodLink RX12 305 yX12_begins ∈ kG := kG_mk (kT_6 202 (by decide +kernel)) (by decide +kernel)
theorem gw_1404 : Cond.instanceMethod yX12_begins ∈ kG := kG_mk (kT_6 204 (by decide +kernel)) (by decide +kernel)
theorem gw_1405 : Cond.code yX12_begins cX12_begins 1 none ∈ kG := kG_mk (kT_6 205 (by decide +kernel)) (by decide +kernel)
theorem gw_1406 : Cond.methodLink RX12 212 yX12_nextToken ∈ kG := kG_mk (kT_6 206 (by decide +kernel)) (by decide +kernel)
theorem gw_1408 : Cond.instanceMethod yX12_nextToken ∈ kG := kG_mk (kT_6 208 (by decide +kernel)) (by decide +kernel)
theorem gw_1409 : Cond.code yX12_nextToken cX12_nextToken 2 none ∈ kG := kG_mk (kT_6 209 (by decide +kernel)) (by decide +kernel)
theorem gw_1410 : Cond.methodLink RX12 170 yX12_signAt ∈ kG := kG_mk (kT_6 210 (by decide +kernel)) (by decide +kernel)
theorem gw_1412 : Cond.instanceMethod yX12_signAt ∈ kG := kG_mk (kT_6 212 (by decide +kernel)) (by decide +kernel)
theorem gw_1413 : Cond.code yX12_signAt cX12_signAt 2 (some FieldType.int) ∈ kG := kG_mk (kT_6 213 (by decide +kernel)) (by decide +kernel)
theorem gw_1414 : Cond.constantLong RX12 174 (27) ∈ kG := kG_mk (kT_6 214 (by decide +kernel)) (by decide +kernel)
theorem gw_1415 : Cond.constantLong RX12 176 (96) ∈ kG := kG_mk (kT_6 215 (by decide +kernel)) (by decide +kernel)
theorem gw_1416 : Cond.constantLong RX12 228 (7871591333) ∈ kG := kG_mk (kT_6 216 (by decide +kernel)) (by decide +kernel)
theorem gw_1417 : Cond.methodLink RX12 198 yX12_isWord ∈ kG := kG_mk (kT_6 217 (by decide +kernel)) (by decide +kernel)
theorem gw_1419 : Cond.instanceMethod yX12_isWord ∈ kG := kG_mk (kT_6 219 (by decide +kernel)) (by decide +kernel)
theorem gw_1420 : Cond.code yX12_isWord cX12_isWord 3 (some FieldType.boolean) ∈ kG := kG_mk (kT_6 220 (by decide +kernel)) (by decide +kernel)
theorem gw_1421 : Cond.methodLink RX12 308 yX12_readsThought ∈ kG := kG_mk (kT_6 221 (by decide +kernel)) (by decide +kernel)
theorem gw_1423 : Cond.instanceMethod yX12_readsThought ∈ kG := kG_mk (kT_6 223 (by decide +kernel)) (by decide +kernel)
theorem gw_1424 : Cond.code yX12_readsThought cX12_readsThought 2 (some FieldType.boolean) ∈ kG := kG_mk (kT_6 224 (by decide +kernel)) (by decide +kernel)
theorem gw_1425 : Cond.methodLink RX12 206 yX12_fails ∈ kG := kG_mk (kT_6 225 (by decide +kernel)) (by decide +kernel)
theorem gw_1427 : Cond.instanceMethod yX12_fails ∈ kG := kG_mk (kT_6 227 (by decide +kernel)) (by decide +kernel)
theorem gw_1428 : Cond.code yX12_fails cX12_fails 2 (some FieldType.boolean) ∈ kG := kG_mk (kT_6 228 (by decide +kernel)) (by decide +kernel)
theorem gw_1429 : Cond.methodLink RX12 286 yX12_needsNew ∈ kG := kG_mk (kT_6 229 (by decide +kernel)) (by decide +kernel)
theorem gw_1431 : Cond.instanceMethod yX12_needsNew ∈ kG := kG_mk (kT_6 231 (by decide +kernel)) (by decide +kernel)
theorem gw_1432 : Cond.code yX12_needsNew cX12_needsNew 1 (some FieldType.boolean) ∈ kG := kG_mk (kT_6 232 (by decide +kernel)) (by decide +kernel)
theorem gw_1433 : Cond.methodLink RX12 273 yX12_isKept ∈ kG := kG_mk (kT_6 233 (by decide +kernel)) (by decide +kernel)
theorem gw_1435 : Cond.instanceMethod yX12_isKept ∈ kG := kG_mk (kT_6 235 (by decide +kernel)) (by decide +kernel)
theorem gw_1436 : Cond.code yX12_isKept cX12_isKept 1 (some FieldType.boolean) ∈ kG := kG_mk (kT_6 236 (by decide +kernel)) (by decide +kernel)
theorem gw_1437 : Cond.constantLong RX12 230 (12532058) ∈ kG := kG_mk (kT_6 237 (by decide +kernel)) (by decide +kernel)
theorem gw_1438 : Cond.constantLong RX12 232 (316163) ∈ kG := kG_mk (kT_6 238 (by decide +kernel)) (by decide +kernel)
theorem gw_1439 : Cond.constantLong RX12 234 (2546381602) ∈ kG := kG_mk (kT_6 239 (by decide +kernel)) (by decide +kernel)
theorem gw_1440 : Cond.constantLong RX12 236 (289912034) ∈ kG := kG_mk (kT_7 0 (by decide +kernel)) (by decide +kernel)
theorem gw_1441 : Cond.constantLong RX12 238 (10820768) ∈ kG := kG_mk (kT_7 1 (by decide +kernel)) (by decide +kernel)
theorem gw_1442 : Cond.constantLong RX12 240 (370000) ∈ kG := kG_mk (kT_7 2 (by decide +kernel)) (by decide +kernel)
theorem gw_1443 : Cond.constantLong RX12 242 (79329434) ∈ kG := kG_mk (kT_7 3 (by decide +kernel)) (by decide +kernel)
theorem gw_1444 : Cond.constantLong RX12 244 (3746728) ∈ kG := kG_mk (kT_7 4 (by decide +kernel)) (by decide +kernel)
theorem gw_1445 : Cond.constantLong RX12 246 (40187) ∈ kG := kG_mk (kT_7 5 (by decide +kernel)) (by decide +kernel)
theorem gw_1446 : Cond.constantLong RX12 248 (10793234) ∈ kG := kG_mk (kT_7 6 (by decide +kernel)) (by decide +kernel)
theorem gw_1447 : Cond.constantLong RX12 250 (139055) ∈ kG := kG_mk (kT_7 7 (by decide +kernel)) (by decide +kernel)
theorem gw_1448 : Cond.constantLong RX12 252 (326280) ∈ kG := kG_mk (kT_7 8 (by decide +kernel)) (by decide +kernel)
theorem gw_1449 : Cond.constantLong RX12 254 (8740238) ∈ kG := kG_mk (kT_7 9 (by decide +kernel)) (by decide +kernel)
theorem gw_1450 : Cond.constantLong RX12 256 (277680074) ∈ kG := kG_mk (kT_7 10 (by decide +kernel)) (by decide +kernel)
theorem gw_1451 : Cond.constantLong RX12 258 (49538619) ∈ kG := kG_mk (kT_7 11 (by decide +kernel)) (by decide +kernel)
theorem gw_1452 : Cond.constantLong RX12 260 (269726508) ∈ kG := kG_mk (kT_7 12 (by decide +kernel)) (by decide +kernel)
theorem gw_1453 : Cond.constantLong RX12 196 (10631) ∈ kG := kG_mk (kT_7 13 (by decide +kernel)) (by decide +kernel)
theorem gw_1454 : Cond.constantLong RX12 215 (1111) ∈ kG := kG_mk (kT_7 14 (by decide +kernel)) (by decide +kernel)
theorem gw_1455 : Cond.constantLong RX12 217 (423) ∈ kG := kG_mk (kT_7 15 (by decide +kernel)) (by decide +kernel)
theorem gw_1456 : Cond.methodLink RX12 277 yX12_thoughtNamed ∈ kG := kG_mk (kT_7 16 (by decide +kernel)) (by decide +kernel)
theorem gw_1458 : Cond.instanceMethod yX12_thoughtNamed ∈ kG := kG_mk (kT_7 18 (by decide +kernel)) (by decide +kernel)
theorem gw_1459 : Cond.code yX12_thoughtNamed cX12_thoughtNamed 3 (some FieldType.int) ∈ kG := kG_mk (kT_7 19 (by decide +kernel)) (by decide +kernel)
theorem gw_1460 : Cond.methodLink RX12 280 yX12_tenantNamed ∈ kG := kG_mk (kT_7 20 (by decide +kernel)) (by decide +kernel)
theorem gw_1462 : Cond.instanceMethod yX12_tenantNamed ∈ kG := kG_mk (kT_7 22 (by decide +kernel)) (by decide +kernel)
theorem gw_1463 : Cond.code yX12_tenantNamed cX12_tenantNamed 3 (some FieldType.int) ∈ kG := kG_mk (kT_7 23 (by decide +kernel)) (by decide +kernel)
theorem gw_1464 : Cond.methodLink RX12 289 yX12_needsBoth ∈ kG := kG_mk (kT_7 24 (by decide +kernel)) (by decide +kernel)
theorem gw_1466 : Cond.instanceMethod yX12_needsBoth ∈ kG := kG_mk (kT_7 26 (by decide +kernel)) (by decide +kernel)
theorem gw_1467 : Cond.code yX12_needsBoth cX12_needsBoth 5 (some FieldType.boolean) ∈ kG := kG_mk (kT_7 27 (by decide +kernel)) (by decide +kernel)
theorem gw_1468 : Cond.methodLink RX12 269 yX12_needsNumber ∈ kG := kG_mk (kT_7 28 (by decide +kernel)) (by decide +kernel)
theorem gw_1470 : Cond.instanceMethod yX12_needsNumber ∈ kG := kG_mk (kT_7 30 (by decide +kernel)) (by decide +kernel)
theorem gw_1471 : Cond.code yX12_needsNumber cX12_needsNumber 3 (some FieldType.boolean) ∈ kG := kG_mk (kT_7 31 (by decide +kernel)) (by decide +kernel)
theorem gw_1472 : Cond.methodLink RX12 262 yX12_within ∈ kG := kG_mk (kT_7 32 (by decide +kernel)) (by decide +kernel)
theorem gw_1473 : Cond.static yX12_within ∈ kG := kG_mk (kT_7 33 (by decide +kernel)) (by decide +kernel)
theorem gw_1474 : Cond.code yX12_within cX12_within 3 (some FieldType.boolean) ∈ kG := kG_mk (kT_7 34 (by decide +kernel)) (by decide +kernel)
theorem gw_1475 : Cond.methodLink RX12 293 yX12_closes ∈ kG := kG_mk (kT_7 35 (by decide +kernel)) (by decide +kernel)
theorem gw_1477 : Cond.instanceMethod yX12_closes ∈ kG := kG_mk (kT_7 37 (by decide +kernel)) (by decide +kernel)
theorem gw_1478 : Cond.code yX12_closes cX12_closes 1 (some FieldType.boolean) ∈ kG := kG_mk (kT_7 38 (by decide +kernel)) (by decide +kernel)
theorem gw_1479 : Cond.methodLink RX12 202 yX12_isSign ∈ kG := kG_mk (kT_7 39 (by decide +kernel)) (by decide +kernel)
theorem gw_1481 : Cond.instanceMethod yX12_isSign ∈ kG := kG_mk (kT_7 41 (by decide +kernel)) (by decide +kernel)
theorem gw_1482 : Cond.code yX12_isSign cX12_isSign 2 (some FieldType.boolean) ∈ kG := kG_mk (kT_7 42 (by decide +kernel)) (by decide +kernel)
theorem gw_1483 : Cond.methodLink RX12 311 yX12_readsFollows ∈ kG := kG_mk (kT_7 43 (by decide +kernel)) (by decide +kernel)
theorem gw_1485 : Cond.instanceMethod yX12_readsFollows ∈ kG := kG_mk (kT_7 45 (by decide +kernel)) (by decide +kernel)
theorem gw_1486 : Cond.code yX12_readsFollows cX12_readsFollows 2 (some FieldType.boolean) ∈ kG := kG_mk (kT_7 46 (by decide +kernel)) (by decide +kernel)
theorem gw_1487 : Cond.methodLink RX12 296 yX12_needsThought ∈ kG := kG_mk (kT_7 47 (by decide +kernel)) (by decide +kernel)
theorem gw_1489 : Cond.instanceMethod yX12_needsThought ∈ kG := kG_mk (kT_7 49 (by decide +kernel)) (by decide +kernel)
theorem gw_1490 : Cond.code yX12_needsThought cX12_needsThought 2 (some FieldType.boolean) ∈ kG := kG_mk (kT_7 50 (by decide +kernel)) (by decide +kernel)
theorem gw_1491 : Cond.methodLink RX12 314 yX12_readsTenant ∈ kG := kG_mk (kT_7 51 (by decide +kernel)) (by decide +kernel)
theorem gw_1493 : Cond.instanceMethod yX12_readsTenant ∈ kG := kG_mk (kT_7 53 (by decide +kernel)) (by decide +kernel)
theorem gw_1494 : Cond.code yX12_readsTenant cX12_readsTenant 2 (some FieldType.boolean) ∈ kG := kG_mk (kT_7 54 (by decide +kernel)) (by decide +kernel)
theorem gw_1495 : Cond.methodLink RX12 317 yX12_readsOne ∈ kG := kG_mk (kT_7 55 (by decide +kernel)) (by decide +kernel)
theorem gw_1497 : Cond.instanceMethod yX12_readsOne ∈ kG := kG_mk (kT_7 57 (by decide +kernel)) (by decide +kernel)
theorem gw_1498 : Cond.code yX12_readsOne cX12_readsOne 4 (some FieldType.boolean) ∈ kG := kG_mk (kT_7 58 (by decide +kernel)) (by decide +kernel)
theorem gw_1499 : Cond.methodLink RX12 320 yX12_readsLaw ∈ kG := kG_mk (kT_7 59 (by decide +kernel)) (by decide +kernel)
theorem gw_1501 : Cond.instanceMethod yX12_readsLaw ∈ kG := kG_mk (kT_7 61 (by decide +kernel)) (by decide +kernel)
theorem gw_1502 : Cond.code yX12_readsLaw cX12_readsLaw 2 (some FieldType.boolean) ∈ kG := kG_mk (kT_7 62 (by decide +kernel)) (by decide +kernel)
theorem gw_1503 : Cond.methodLink RX12 302 yX12_reads ∈ kG := kG_mk (kT_7 63 (by decide +kernel)) (by decide +kernel)
theorem gw_1505 : Cond.instanceMethod yX12_reads ∈ kG := kG_mk (kT_7 65 (by decide +kernel)) (by decide +kernel)
theorem gw_1506 : Cond.code yX12_reads cX12_reads 6 (some FieldType.boolean) ∈ kG := kG_mk (kT_7 66 (by decide +kernel)) (by decide +kernel)
theorem gw_1507 : Cond.methodLink RX12 192 yX12_fact ∈ kG := kG_mk (kT_7 67 (by decide +kernel)) (by decide +kernel)
theorem gw_1509 : Cond.instanceMethod yX12_fact ∈ kG := kG_mk (kT_7 69 (by decide +kernel)) (by decide +kernel)
theorem gw_1510 : Cond.code yX12_fact cX12_fact 1 (some FieldType.int) ∈ kG := kG_mk (kT_7 70 (by decide +kernel)) (by decide +kernel)
theorem gw_1511 : Cond.constantLong RX12 184 (1388945614) ∈ kG := kG_mk (kT_7 71 (by decide +kernel)) (by decide +kernel)
theorem gw_1512 : Cond.constantLong RX12 186 (360944) ∈ kG := kG_mk (kT_7 72 (by decide +kernel)) (by decide +kernel)
theorem gw_1513 : Cond.constantLong RX12 188 (8683934) ∈ kG := kG_mk (kT_7 73 (by decide +kernel)) (by decide +kernel)
theorem gw_1514 : Cond.constantLong RX12 190 (40595) ∈ kG := kG_mk (kT_7 74 (by decide +kernel)) (by decide +kernel)
theorem gw_1515 : Cond.methodLink RX12 209 yX12_puts ∈ kG := kG_mk (kT_7 75 (by decide +kernel)) (by decide +kernel)
theorem gw_1517 : Cond.instanceMethod yX12_puts ∈ kG := kG_mk (kT_7 77 (by decide +kernel)) (by decide +kernel)
theorem gw_1518 : Cond.code yX12_puts cX12_puts 2 none ∈ kG := kG_mk (kT_7 78 (by decide +kernel)) (by decide +kernel)
theorem gw_1519 : Cond.methodLink RX12 334 yX12_lays ∈ kG := kG_mk (kT_7 79 (by decide +kernel)) (by decide +kernel)
theorem gw_1521 : Cond.instanceMethod yX12_lays ∈ kG := kG_mk (kT_7 81 (by decide +kernel)) (by decide +kernel)
theorem gw_1522 : Cond.code yX12_lays cX12_lays 2 none ∈ kG := kG_mk (kT_7 82 (by decide +kernel)) (by decide +kernel)
theorem gw_1523 : Cond.methodLink RX12 323 yX12_shifts ∈ kG := kG_mk (kT_7 83 (by decide +kernel)) (by decide +kernel)
theorem gw_1524 : Cond.static yX12_shifts ∈ kG := kG_mk (kT_7 84 (by decide +kernel)) (by decide +kernel)
theorem gw_1525 : Cond.code yX12_shifts cX12_shifts 3 none ∈ kG := kG_mk (kT_7 85 (by decide +kernel)) (by decide +kernel)
theorem gw_1526 : Cond.methodLink RX12 327 yX12_shiftsNames ∈ kG := kG_mk (kT_7 86 (by decide +kernel)) (by decide +kernel)
theorem gw_1527 : Cond.static yX12_shiftsNames ∈ kG := kG_mk (kT_7 87 (by decide +kernel)) (by decide +kernel)
theorem gw_1528 : Cond.code yX12_shiftsNames cX12_shiftsNames 3 none ∈ kG := kG_mk (kT_7 88 (by decide +kernel)) (by decide +kernel)
theorem gw_1529 : Cond.methodLink RX12 337 yX12_fresh ∈ kG := kG_mk (kT_7 89 (by decide +kernel)) (by decide +kernel)
theorem gw_1531 : Cond.instanceMethod yX12_fresh ∈ kG := kG_mk (kT_7 91 (by decide +kernel)) (by decide +kernel)
theorem gw_1532 : Cond.code yX12_fresh cX12_fresh 2 none ∈ kG := kG_mk (kT_7 92 (by decide +kernel)) (by decide +kernel)
theorem gw_1533 : Cond.methodLink RL 45 yX12_years ∈ kG := kG_mk (kT_7 93 (by decide +kernel)) (by decide +kernel)
theorem gw_1534 : Cond.instanceMethod yX12_years ∈ kG := kG_mk (kT_7 94 (by decide +kernel)) (by decide +kernel)
theorem gw_1535 : Cond.selects RX12 yX12_years yX12_years ∈ kG := kG_mk (kT_7 95 (by decide +kernel)) (by decide +kernel)
theorem gw_1536 : Cond.code yX12_years cX12_years 1 (some FieldType.int) ∈ kG := kG_mk (kT_7 96 (by decide +kernel)) (by decide +kernel)
theorem gw_1537 : Cond.methodLink RX12 342 yX12_readsLine ∈ kG := kG_mk (kT_7 97 (by decide +kernel)) (by decide +kernel)
theorem gw_1539 : Cond.instanceMethod yX12_readsLine ∈ kG := kG_mk (kT_7 99 (by decide +kernel)) (by decide +kernel)
theorem gw_1540 : Cond.code yX12_readsLine cX12_readsLine 3 (some FieldType.boolean) ∈ kG := kG_mk (kT_7 100 (by decide +kernel)) (by decide +kernel)
theorem gw_1541 : Cond.methodLink RX12 345 yX12_laysLines ∈ kG := kG_mk (kT_7 101 (by decide +kernel)) (by decide +kernel)
theorem gw_1543 : Cond.instanceMethod yX12_laysLines ∈ kG := kG_mk (kT_7 103 (by decide +kernel)) (by decide +kernel)
theorem gw_1544 : Cond.code yX12_laysLines cX12_laysLines 4 none ∈ kG := kG_mk (kT_7 104 (by decide +kernel)) (by decide +kernel)
theorem gw_1545 : Cond.methodLink RL 50 yX12_thought ∈ kG := kG_mk (kT_7 105 (by decide +kernel)) (by decide +kernel)
theorem gw_1546 : Cond.instanceMethod yX12_thought ∈ kG := kG_mk (kT_7 106 (by decide +kernel)) (by decide +kernel)
theorem gw_1547 : Cond.selects RX12 yX12_thought yX12_thought ∈ kG := kG_mk (kT_7 107 (by decide +kernel)) (by decide +kernel)
theorem gw_1548 : Cond.code yX12_thought cX12_thought 3 (some FieldType.int) ∈ kG := kG_mk (kT_7 108 (by decide +kernel)) (by decide +kernel)
theorem gw_1549 : Cond.methodLink RX12 384 yX12_isThought ∈ kG := kG_mk (kT_7 109 (by decide +kernel)) (by decide +kernel)
theorem gw_1551 : Cond.instanceMethod yX12_isThought ∈ kG := kG_mk (kT_7 111 (by decide +kernel)) (by decide +kernel)
theorem gw_1552 : Cond.code yX12_isThought cX12_isThought 2 (some FieldType.boolean) ∈ kG := kG_mk (kT_7 112 (by decide +kernel)) (by decide +kernel)
theorem gw_1553 : Cond.methodLink RL 54 yX12_tenant ∈ kG := kG_mk (kT_7 113 (by decide +kernel)) (by decide +kernel)
theorem gw_1554 : Cond.instanceMethod yX12_tenant ∈ kG := kG_mk (kT_7 114 (by decide +kernel)) (by decide +kernel)
theorem gw_1555 : Cond.selects RX12 yX12_tenant yX12_tenant ∈ kG := kG_mk (kT_7 115 (by decide +kernel)) (by decide +kernel)
theorem gw_1556 : Cond.code yX12_tenant cX12_tenant 3 (some FieldType.int) ∈ kG := kG_mk (kT_7 116 (by decide +kernel)) (by decide +kernel)
theorem gw_1557 : Cond.methodLink RX12 387 yX12_isTenant ∈ kG := kG_mk (kT_7 117 (by decide +kernel)) (by decide +kernel)
theorem gw_1559 : Cond.instanceMethod yX12_isTenant ∈ kG := kG_mk (kT_7 119 (by decide +kernel)) (by decide +kernel)
theorem gw_1560 : Cond.code yX12_isTenant cX12_isTenant 2 (some FieldType.boolean) ∈ kG := kG_mk (kT_7 120 (by decide +kernel)) (by decide +kernel)
theorem gw_1561 : Cond.methodLink RX12 349 yX12_of ∈ kG := kG_mk (kT_7 121 (by decide +kernel)) (by decide +kernel)
theorem gw_1563 : Cond.instanceMethod yX12_of ∈ kG := kG_mk (kT_7 123 (by decide +kernel)) (by decide +kernel)
theorem gw_1564 : Cond.code yX12_of cX12_of 3 (some FieldType.int) ∈ kG := kG_mk (kT_7 124 (by decide +kernel)) (by decide +kernel)
theorem gw_1565 : Cond.methodLink RX12 390 yX12_mayThink ∈ kG := kG_mk (kT_7 125 (by decide +kernel)) (by decide +kernel)
theorem gw_1567 : Cond.instanceMethod yX12_mayThink ∈ kG := kG_mk (kT_7 127 (by decide +kernel)) (by decide +kernel)
theorem gw_1568 : Cond.code yX12_mayThink cX12_mayThink 2 (some FieldType.int) ∈ kG := kG_mk (kT_7 128 (by decide +kernel)) (by decide +kernel)
theorem gw_1569 : Cond.methodLink RX12 356 yX12_hasRun ∈ kG := kG_mk (kT_7 129 (by decide +kernel)) (by decide +kernel)
theorem gw_1571 : Cond.instanceMethod yX12_hasRun ∈ kG := kG_mk (kT_7 131 (by decide +kernel)) (by decide +kernel)
theorem gw_1572 : Cond.code yX12_hasRun cX12_hasRun 2 (some FieldType.boolean) ∈ kG := kG_mk (kT_7 132 (by decide +kernel)) (by decide +kernel)
theorem gw_1573 : Cond.methodLink RX12 359 yX12_behindHis ∈ kG := kG_mk (kT_7 133 (by decide +kernel)) (by decide +kernel)
theorem gw_1575 : Cond.instanceMethod yX12_behindHis ∈ kG := kG_mk (kT_7 135 (by decide +kernel)) (by decide +kernel)
theorem gw_1576 : Cond.code yX12_behindHis cX12_behindHis 2 (some FieldType.int) ∈ kG := kG_mk (kT_7 136 (by decide +kernel)) (by decide +kernel)
theorem gw_1577 : Cond.methodLink RX12 353 yX12_all ∈ kG := kG_mk (kT_7 137 (by decide +kernel)) (by decide +kernel)
theorem gw_1579 : Cond.instanceMethod yX12_all ∈ kG := kG_mk (kT_7 139 (by decide +kernel)) (by decide +kernel)
theorem gw_1580 : Cond.code yX12_all cX12_all 1 (some FieldType.int) ∈ kG := kG_mk (kT_7 140 (by decide +kernel)) (by decide +kernel)
theorem gw_1581 : Cond.methodLink RL 58 yX12_keeps ∈ kG := kG_mk (kT_7 141 (by decide +kernel)) (by decide +kernel)
theorem gw_1582 : Cond.instanceMethod yX12_keeps ∈ kG := kG_mk (kT_7 142 (by decide +kernel)) (by decide +kernel)
theorem gw_1583 : Cond.selects RX12 yX12_keeps yX12_keeps ∈ kG := kG_mk (kT_7 143 (by decide +kernel)) (by decide +kernel)
theorem gw_1584 : Cond.code yX12_keeps cX12_keeps 3 (some FieldType.int) ∈ kG := kG_mk (kT_7 144 (by decide +kernel)) (by decide +kernel)
theorem gw_1585 : Cond.methodLink RL 62 yX12_think ∈ kG := kG_mk (kT_7 145 (by decide +kernel)) (by decide +kernel)
theorem gw_1586 : Cond.instanceMethod yX12_think ∈ kG := kG_mk (kT_7 146 (by decide +kernel)) (by decide +kernel)
theorem gw_1587 : Cond.selects RX12 yX12_think yX12_think ∈ kG := kG_mk (kT_7 147 (by decide +kernel)) (by decide +kernel)
theorem gw_1588 : Cond.code yX12_think cX12_think 3 (some FieldType.int) ∈ kG := kG_mk (kT_7 148 (by decide +kernel)) (by decide +kernel)
theorem gw_1589 : Cond.methodLink RX12 397 yX12_keepsRow ∈ kG := kG_mk (kT_7 149 (by decide +kernel)) (by decide +kernel)
theorem gw_1591 : Cond.instanceMethod yX12_keepsRow ∈ kG := kG_mk (kT_7 151 (by decide +kernel)) (by decide +kernel)
theorem gw_1592 : Cond.code yX12_keepsRow cX12_keepsRow 2 none ∈ kG := kG_mk (kT_7 152 (by decide +kernel)) (by decide +kernel)
theorem gw_1593 : Cond.methodLink RX12 393 yX12_copies ∈ kG := kG_mk (kT_7 153 (by decide +kernel)) (by decide +kernel)
theorem gw_1594 : Cond.static yX12_copies ∈ kG := kG_mk (kT_7 154 (by decide +kernel)) (by decide +kernel)
theorem gw_1595 : Cond.code yX12_copies cX12_copies 5 none ∈ kG := kG_mk (kT_7 155 (by decide +kernel)) (by decide +kernel)
theorem gw_1596 : Cond.methodLink RX12 400 yX12_thinks ∈ kG := kG_mk (kT_7 156 (by decide +kernel)) (by decide +kernel)
theorem gw_1598 : Cond.instanceMethod yX12_thinks ∈ kG := kG_mk (kT_7 158 (by decide +kernel)) (by decide +kernel)
theorem gw_1599 : Cond.code yX12_thinks cX12_thinks 7 (some FieldType.int) ∈ kG := kG_mk (kT_7 159 (by decide +kernel)) (by decide +kernel)
theorem gw_1600 : Cond.methodLink RX12 372 yX12_gainsBy ∈ kG := kG_mk (kT_7 160 (by decide +kernel)) (by decide +kernel)
theorem gw_1602 : Cond.instanceMethod yX12_gainsBy ∈ kG := kG_mk (kT_7 162 (by decide +kernel)) (by decide +kernel)
theorem gw_1603 : Cond.code yX12_gainsBy cX12_gainsBy 5 none ∈ kG := kG_mk (kT_7 163 (by decide +kernel)) (by decide +kernel)
theorem gw_1604 : Cond.methodLink RX12 362 yX12_inBarn ∈ kG := kG_mk (kT_7 164 (by decide +kernel)) (by decide +kernel)
theorem gw_1606 : Cond.instanceMethod yX12_inBarn ∈ kG := kG_mk (kT_7 166 (by decide +kernel)) (by decide +kernel)
theorem gw_1607 : Cond.code yX12_inBarn cX12_inBarn 3 (some FieldType.int) ∈ kG := kG_mk (kT_7 167 (by decide +kernel)) (by decide +kernel)
theorem gw_1608 : Cond.methodLink RX12 365 yX12_worked ∈ kG := kG_mk (kT_7 168 (by decide +kernel)) (by decide +kernel)
theorem gw_1610 : Cond.instanceMethod yX12_worked ∈ kG := kG_mk (kT_7 170 (by decide +kernel)) (by decide +kernel)
theorem gw_1611 : Cond.code yX12_worked cX12_worked 6 (some FieldType.int) ∈ kG := kG_mk (kT_7 171 (by decide +kernel)) (by decide +kernel)
theorem gw_1612 : Cond.methodLink RX12 222 yX12_opens ∈ kG := kG_mk (kT_7 172 (by decide +kernel)) (by decide +kernel)
theorem gw_1614 : Cond.instanceMethod yX12_opens ∈ kG := kG_mk (kT_7 174 (by decide +kernel)) (by decide +kernel)
theorem gw_1615 : Cond.code yX12_opens cX12_opens 2 none ∈ kG := kG_mk (kT_7 175 (by decide +kernel)) (by decide +kernel)
theorem gw_1616 : Cond.methodLink RX12 219 yX12_sums ∈ kG := kG_mk (kT_7 176 (by decide +kernel)) (by decide +kernel)
theorem gw_1618 : Cond.instanceMethod yX12_sums ∈ kG := kG_mk (kT_7 178 (by decide +kernel)) (by decide +kernel)
theorem gw_1619 : Cond.code yX12_sums cX12_sums 2 none ∈ kG := kG_mk (kT_7 179 (by decide +kernel)) (by decide +kernel)
theorem gw_1620 : Cond.methodLink RX12 225 yX12_tests ∈ kG := kG_mk (kT_7 180 (by decide +kernel)) (by decide +kernel)
theorem gw_1622 : Cond.instanceMethod yX12_tests ∈ kG := kG_mk (kT_7 182 (by decide +kernel)) (by decide +kernel)
theorem gw_1623 : Cond.code yX12_tests cX12_tests 3 none ∈ kG := kG_mk (kT_7 183 (by decide +kernel)) (by decide +kernel)
theorem gw_1624 : Cond.methodLink RX12 368 yX12_between ∈ kG := kG_mk (kT_7 184 (by decide +kernel)) (by decide +kernel)
theorem gw_1625 : Cond.static yX12_between ∈ kG := kG_mk (kT_7 185 (by decide +kernel)) (by decide +kernel)
theorem gw_1626 : Cond.code yX12_between cX12_between 3 (some FieldType.int) ∈ kG := kG_mk (kT_7 186 (by decide +kernel)) (by decide +kernel)
theorem gw_1627 : Cond.methodLink RX12 376 yX12_least ∈ kG := kG_mk (kT_7 187 (by decide +kernel)) (by decide +kernel)
theorem gw_1629 : Cond.instanceMethod yX12_least ∈ kG := kG_mk (kT_7 189 (by decide +kernel)) (by decide +kernel)
theorem gw_1630 : Cond.code yX12_least cX12_least 5 (some FieldType.int) ∈ kG := kG_mk (kT_7 190 (by decide +kernel)) (by decide +kernel)
theorem gw_1631 : Cond.methodLink RX12 379 yJ9_max_7cf53 ∈ kG := kG_mk (kT_7 191 (by decide +kernel)) (by decide +kernel)
theorem gw_1632 : Cond.methodLink RL 66 yX12_gate ∈ kG := kG_mk (kT_7 192 (by decide +kernel)) (by decide +kernel)
theorem gw_1633 : Cond.instanceMethod yX12_gate ∈ kG := kG_mk (kT_7 193 (by decide +kernel)) (by decide +kernel)
theorem gw_1634 : Cond.selects RX12 yX12_gate yX12_gate ∈ kG := kG_mk (kT_7 194 (by decide +kernel)) (by decide +kernel)
theorem gw_1635 : Cond.code yX12_gate cX12_gate 2 (some FieldType.int) ∈ kG := kG_mk (kT_7 195 (by decide +kernel)) (by decide +kernel)
theorem gw_1636 : Cond.methodLink RX12 403 yX12_turnsBack ∈ kG := kG_mk (kT_7 196 (by decide +kernel)) (by decide +kernel)
theorem gw_1638 : Cond.instanceMethod yX12_turnsBack ∈ kG := kG_mk (kT_7 198 (by decide +kernel)) (by decide +kernel)
theorem gw_1639 : Cond.code yX12_turnsBack cX12_turnsBack 6 (some FieldType.int) ∈ kG := kG_mk (kT_7 199 (by decide +kernel)) (by decide +kernel)
theorem gw_1640 : Cond.methodLink RL 71 yX12_pool ∈ kG := kG_mk (kT_7 200 (by decide +kernel)) (by decide +kernel)
theorem gw_1641 : Cond.instanceMethod yX12_pool ∈ kG := kG_mk (kT_7 201 (by decide +kernel)) (by decide +kernel)
theorem gw_1642 : Cond.selects RX12 yX12_pool yX12_pool ∈ kG := kG_mk (kT_7 202 (by decide +kernel)) (by decide +kernel)
theorem gw_1643 : Cond.code yX12_pool cX12_pool 3 (some FieldType.boolean) ∈ kG := kG_mk (kT_7 203 (by decide +kernel)) (by decide +kernel)
theorem gw_1644 : Cond.methodLink RX12 406 yX12_canPool ∈ kG := kG_mk (kT_7 204 (by decide +kernel)) (by decide +kernel)
theorem gw_1646 : Cond.instanceMethod yX12_canPool ∈ kG := kG_mk (kT_7 206 (by decide +kernel)) (by decide +kernel)
theorem gw_1647 : Cond.code yX12_canPool cX12_canPool 3 (some FieldType.boolean) ∈ kG := kG_mk (kT_7 207 (by decide +kernel)) (by decide +kernel)
theorem gw_1648 : Cond.methodLink RX12 409 yX12_pools ∈ kG := kG_mk (kT_7 208 (by decide +kernel)) (by decide +kernel)
theorem gw_1650 : Cond.instanceMethod yX12_pools ∈ kG := kG_mk (kT_7 210 (by decide +kernel)) (by decide +kernel)
theorem gw_1651 : Cond.code yX12_pools cX12_pools 3 none ∈ kG := kG_mk (kT_7 211 (by decide +kernel)) (by decide +kernel)
theorem gw_1652 : Cond.methodLink RL 76 yX12_undo ∈ kG := kG_mk (kT_7 212 (by decide +kernel)) (by decide +kernel)
theorem gw_1653 : Cond.instanceMethod yX12_undo ∈ kG := kG_mk (kT_7 213 (by decide +kernel)) (by decide +kernel)
theorem gw_1654 : Cond.selects RX12 yX12_undo yX12_undo ∈ kG := kG_mk (kT_7 214 (by decide +kernel)) (by decide +kernel)
theorem gw_1655 : Cond.code yX12_undo cX12_undo 1 (some FieldType.boolean) ∈ kG := kG_mk (kT_7 215 (by decide +kernel)) (by decide +kernel)
theorem gw_1656 : Cond.methodLink RL 82 yX12_judged ∈ kG := kG_mk (kT_7 216 (by decide +kernel)) (by decide +kernel)
theorem gw_1657 : Cond.instanceMethod yX12_judged ∈ kG := kG_mk (kT_7 217 (by decide +kernel)) (by decide +kernel)
theorem gw_1658 : Cond.selects RX12 yX12_judged yX12_judged ∈ kG := kG_mk (kT_7 218 (by decide +kernel)) (by decide +kernel)
theorem gw_1659 : Cond.code yX12_judged cX12_judged 2 (some FieldType.int) ∈ kG := kG_mk (kT_7 219 (by decide +kernel)) (by decide +kernel)
theorem gw_1660 : Cond.methodLink RX12 430 yX12_judges ∈ kG := kG_mk (kT_7 220 (by decide +kernel)) (by decide +kernel)
theorem gw_1662 : Cond.instanceMethod yX12_judges ∈ kG := kG_mk (kT_7 222 (by decide +kernel)) (by decide +kernel)
theorem gw_1663 : Cond.code yX12_judges cX12_judges 3 none ∈ kG := kG_mk (kT_7 223 (by decide +kernel)) (by decide +kernel)
theorem gw_1664 : Cond.methodLink RX12 421 yX12_goes ∈ kG := kG_mk (kT_7 224 (by decide +kernel)) (by decide +kernel)
theorem gw_1666 : Cond.instanceMethod yX12_goes ∈ kG := kG_mk (kT_7 226 (by decide +kernel)) (by decide +kernel)
theorem gw_1667 : Cond.code yX12_goes cX12_goes 5 (some FieldType.boolean) ∈ kG := kG_mk (kT_7 227 (by decide +kernel)) (by decide +kernel)
theorem gw_1668 : Cond.methodLink RX12 424 yX12_gainedByAll ∈ kG := kG_mk (kT_7 228 (by decide +kernel)) (by decide +kernel)
theorem gw_1670 : Cond.instanceMethod yX12_gainedByAll ∈ kG := kG_mk (kT_7 230 (by decide +kernel)) (by decide +kernel)
theorem gw_1671 : Cond.code yX12_gainedByAll cX12_gainedByAll 3 (some FieldType.int) ∈ kG := kG_mk (kT_7 231 (by decide +kernel)) (by decide +kernel)
theorem gw_1672 : Cond.methodLink RL 158 yX12_other ∈ kG := kG_mk (kT_7 232 (by decide +kernel)) (by decide +kernel)
theorem gw_1673 : Cond.instanceMethod yX12_other ∈ kG := kG_mk (kT_7 233 (by decide +kernel)) (by decide +kernel)
theorem gw_1674 : Cond.selects RX12 yX12_other yX12_other ∈ kG := kG_mk (kT_7 234 (by decide +kernel)) (by decide +kernel)
theorem gw_1675 : Cond.code yX12_other cX12_other 2 (some FieldType.int) ∈ kG := kG_mk (kT_7 235 (by decide +kernel)) (by decide +kernel)
theorem gw_1676 : Cond.methodLink RL 86 yX12_best ∈ kG := kG_mk (kT_7 236 (by decide +kernel)) (by decide +kernel)
theorem gw_1677 : Cond.instanceMethod yX12_best ∈ kG := kG_mk (kT_7 237 (by decide +kernel)) (by decide +kernel)
theorem gw_1678 : Cond.selects RX12 yX12_best yX12_best ∈ kG := kG_mk (kT_7 238 (by decide +kernel)) (by decide +kernel)
theorem gw_1679 : Cond.code yX12_best cX12_best 4 (some FieldType.int) ∈ kG := kG_mk (kT_7 239 (by decide +kernel)) (by decide +kernel)
theorem gw_1680 : Cond.methodLink RX12 440 yX12_tries ∈ kG := kG_mk (kT_8 0 (by decide +kernel)) (by decide +kernel)
theorem gw_1682 : Cond.instanceMethod yX12_tries ∈ kG := kG_mk (kT_8 2 (by decide +kernel)) (by decide +kernel)
theorem gw_1683 : Cond.code yX12_tries cX12_tries 6 none ∈ kG := kG_mk (kT_8 3 (by decide +kernel)) (by decide +kernel)
theorem gw_1684 : Cond.methodLink RL 90 yX12_tithed ∈ kG := kG_mk (kT_8 4 (by decide +kernel)) (by decide +kernel)
theorem gw_1685 : Cond.instanceMethod yX12_tithed ∈ kG := kG_mk (kT_8 5 (by decide +kernel)) (by decide +kernel)
theorem gw_1686 : Cond.selects RX12 yX12_tithed yX12_tithed ∈ kG := kG_mk (kT_8 6 (by decide +kernel)) (by decide +kernel)
theorem gw_1687 : Cond.code yX12_tithed cX12_tithed 6 (some FieldType.int) ∈ kG := kG_mk (kT_8 7 (by decide +kernel)) (by decide +kernel)
theorem gw_1688 : Cond.methodLink RX12 443 yX12_allBehind ∈ kG := kG_mk (kT_8 8 (by decide +kernel)) (by decide +kernel)
theorem gw_1690 : Cond.instanceMethod yX12_allBehind ∈ kG := kG_mk (kT_8 10 (by decide +kernel)) (by decide +kernel)
theorem gw_1691 : Cond.code yX12_allBehind cX12_allBehind 4 (some FieldType.int) ∈ kG := kG_mk (kT_8 11 (by decide +kernel)) (by decide +kernel)
theorem gw_1692 : Cond.methodLink RL 94 yX12_ways ∈ kG := kG_mk (kT_8 12 (by decide +kernel)) (by decide +kernel)
theorem gw_1693 : Cond.instanceMethod yX12_ways ∈ kG := kG_mk (kT_8 13 (by decide +kernel)) (by decide +kernel)
theorem gw_1694 : Cond.selects RX12 yX12_ways yX12_ways ∈ kG := kG_mk (kT_8 14 (by decide +kernel)) (by decide +kernel)
theorem gw_1695 : Cond.code yX12_ways cX12_ways 7 (some FieldType.int) ∈ kG := kG_mk (kT_8 15 (by decide +kernel)) (by decide +kernel)
theorem gw_1696 : Cond.methodLink RL 139 yX12_chance ∈ kG := kG_mk (kT_8 16 (by decide +kernel)) (by decide +kernel)
theorem gw_1697 : Cond.instanceMethod yX12_chance ∈ kG := kG_mk (kT_8 17 (by decide +kernel)) (by decide +kernel)
theorem gw_1698 : Cond.selects RX12 yX12_chance yX12_chance ∈ kG := kG_mk (kT_8 18 (by decide +kernel)) (by decide +kernel)
theorem gw_1699 : Cond.code yX12_chance cX12_chance 6 (some FieldType.int) ∈ kG := kG_mk (kT_8 19 (by decide +kernel)) (by decide +kernel)
theorem gw_1700 : Cond.constant RX12 449 (1000000) ∈ kG := kG_mk (kT_8 20 (by decide +kernel)) (by decide +kernel)
theorem gw_1701 : Cond.methodLink RX12 450 yX12_sharesOut ∈ kG := kG_mk (kT_8 21 (by decide +kernel)) (by decide +kernel)
theorem gw_1703 : Cond.instanceMethod yX12_sharesOut ∈ kG := kG_mk (kT_8 23 (by decide +kernel)) (by decide +kernel)
theorem gw_1704 : Cond.code yX12_sharesOut cX12_sharesOut 5 none ∈ kG := kG_mk (kT_8 24 (by decide +kernel)) (by decide +kernel)
theorem gw_1705 : Cond.methodLink RX12 446 yX12_bits ∈ kG := kG_mk (kT_8 25 (by decide +kernel)) (by decide +kernel)
theorem gw_1706 : Cond.static yX12_bits ∈ kG := kG_mk (kT_8 26 (by decide +kernel)) (by decide +kernel)
theorem gw_1707 : Cond.code yX12_bits cX12_bits 3 (some FieldType.int) ∈ kG := kG_mk (kT_8 27 (by decide +kernel)) (by decide +kernel)
theorem gw_1708 : Cond.methodLink RL 110 yX12_lacks ∈ kG := kG_mk (kT_8 28 (by decide +kernel)) (by decide +kernel)
theorem gw_1709 : Cond.instanceMethod yX12_lacks ∈ kG := kG_mk (kT_8 29 (by decide +kernel)) (by decide +kernel)
theorem gw_1710 : Cond.selects RX12 yX12_lacks yX12_lacks ∈ kG := kG_mk (kT_8 30 (by decide +kernel)) (by decide +kernel)
theorem gw_1711 : Cond.code yX12_lacks cX12_lacks 1 (some FieldType.int) ∈ kG := kG_mk (kT_8 31 (by decide +kernel)) (by decide +kernel)
theorem gw_1712 : Cond.methodLink RX12 453 yX12_lacking ∈ kG := kG_mk (kT_8 32 (by decide +kernel)) (by decide +kernel)
theorem gw_1714 : Cond.instanceMethod yX12_lacking ∈ kG := kG_mk (kT_8 34 (by decide +kernel)) (by decide +kernel)
theorem gw_1715 : Cond.code yX12_lacking cX12_lacking 3 (some FieldType.int) ∈ kG := kG_mk (kT_8 35 (by decide +kernel)) (by decide +kernel)
theorem gw_1716 : Cond.methodLink RL 114 yX12_givers ∈ kG := kG_mk (kT_8 36 (by decide +kernel)) (by decide +kernel)
theorem gw_1717 : Cond.instanceMethod yX12_givers ∈ kG := kG_mk (kT_8 37 (by decide +kernel)) (by decide +kernel)
theorem gw_1718 : Cond.selects RX12 yX12_givers yX12_givers ∈ kG := kG_mk (kT_8 38 (by decide +kernel)) (by decide +kernel)
theorem gw_1719 : Cond.code yX12_givers cX12_givers 7 (some FieldType.int) ∈ kG := kG_mk (kT_8 39 (by decide +kernel)) (by decide +kernel)
theorem gw_1720 : Cond.methodLink RX12 456 yX12_whoRan ∈ kG := kG_mk (kT_8 40 (by decide +kernel)) (by decide +kernel)
theorem gw_1722 : Cond.instanceMethod yX12_whoRan ∈ kG := kG_mk (kT_8 42 (by decide +kernel)) (by decide +kernel)
theorem gw_1723 : Cond.code yX12_whoRan cX12_whoRan 3 (some FieldType.int) ∈ kG := kG_mk (kT_8 43 (by decide +kernel)) (by decide +kernel)
theorem gw_1724 : Cond.methodLink RX12 459 yX12_partsOf ∈ kG := kG_mk (kT_8 44 (by decide +kernel)) (by decide +kernel)
theorem gw_1726 : Cond.instanceMethod yX12_partsOf ∈ kG := kG_mk (kT_8 46 (by decide +kernel)) (by decide +kernel)
theorem gw_1727 : Cond.code yX12_partsOf cX12_partsOf 4 (some FieldType.int) ∈ kG := kG_mk (kT_8 47 (by decide +kernel)) (by decide +kernel)
theorem gw_1728 : Cond.methodLink RL 118 yX12_dowry ∈ kG := kG_mk (kT_8 48 (by decide +kernel)) (by decide +kernel)
theorem gw_1729 : Cond.instanceMethod yX12_dowry ∈ kG := kG_mk (kT_8 49 (by decide +kernel)) (by decide +kernel)
theorem gw_1730 : Cond.selects RX12 yX12_dowry yX12_dowry ∈ kG := kG_mk (kT_8 50 (by decide +kernel)) (by decide +kernel)
theorem gw_1731 : Cond.code yX12_dowry cX12_dowry 2 (some FieldType.int) ∈ kG := kG_mk (kT_8 51 (by decide +kernel)) (by decide +kernel)
theorem gw_1732 : Cond.methodLink RX12 462 yX12_dowryOf ∈ kG := kG_mk (kT_8 52 (by decide +kernel)) (by decide +kernel)
theorem gw_1734 : Cond.instanceMethod yX12_dowryOf ∈ kG := kG_mk (kT_8 54 (by decide +kernel)) (by decide +kernel)
theorem gw_1735 : Cond.code yX12_dowryOf cX12_dowryOf 4 (some FieldType.int) ∈ kG := kG_mk (kT_8 55 (by decide +kernel)) (by decide +kernel)
theorem gw_1736 : Cond.methodLink RL 98 yX12_safe ∈ kG := kG_mk (kT_8 56 (by decide +kernel)) (by decide +kernel)
theorem gw_1737 : Cond.instanceMethod yX12_safe ∈ kG := kG_mk (kT_8 57 (by decide +kernel)) (by decide +kernel)
theorem gw_1738 : Cond.selects RX12 yX12_safe yX12_safe ∈ kG := kG_mk (kT_8 58 (by decide +kernel)) (by decide +kernel)
theorem gw_1739 : Cond.code yX12_safe cX12_safe 5 (some FieldType.int) ∈ kG := kG_mk (kT_8 59 (by decide +kernel)) (by decide +kernel)
theorem gw_1740 : Cond.methodLink RL 102 yX12_holders ∈ kG := kG_mk (kT_8 60 (by decide +kernel)) (by decide +kernel)
theorem gw_1741 : Cond.instanceMethod yX12_holders ∈ kG := kG_mk (kT_8 61 (by decide +kernel)) (by decide +kernel)
theorem gw_1742 : Cond.selects RX12 yX12_holders yX12_holders ∈ kG := kG_mk (kT_8 62 (by decide +kernel)) (by decide +kernel)
theorem gw_1743 : Cond.code yX12_holders cX12_holders 4 (some FieldType.int) ∈ kG := kG_mk (kT_8 63 (by decide +kernel)) (by decide +kernel)
theorem gw_1744 : Cond.methodLink RL 106 yX12_poorest ∈ kG := kG_mk (kT_8 64 (by decide +kernel)) (by decide +kernel)
theorem gw_1745 : Cond.instanceMethod yX12_poorest ∈ kG := kG_mk (kT_8 65 (by decide +kernel)) (by decide +kernel)
theorem gw_1746 : Cond.selects RX12 yX12_poorest yX12_poorest ∈ kG := kG_mk (kT_8 66 (by decide +kernel)) (by decide +kernel)
theorem gw_1747 : Cond.code yX12_poorest cX12_poorest 3 (some FieldType.int) ∈ kG := kG_mk (kT_8 67 (by decide +kernel)) (by decide +kernel)
theorem gw_1748 : Cond.methodLink RL 122 yX12_match ∈ kG := kG_mk (kT_8 68 (by decide +kernel)) (by decide +kernel)
theorem gw_1749 : Cond.instanceMethod yX12_match ∈ kG := kG_mk (kT_8 69 (by decide +kernel)) (by decide +kernel)
theorem gw_1750 : Cond.selects RX12 yX12_match yX12_match ∈ kG := kG_mk (kT_8 70 (by decide +kernel)) (by decide +kernel)
theorem gw_1751 : Cond.code yX12_match cX12_match 2 (some FieldType.int) ∈ kG := kG_mk (kT_8 71 (by decide +kernel)) (by decide +kernel)
theorem gw_1752 : Cond.methodLink RX12 468 yX12_matches ∈ kG := kG_mk (kT_8 72 (by decide +kernel)) (by decide +kernel)
theorem gw_1754 : Cond.instanceMethod yX12_matches ∈ kG := kG_mk (kT_8 74 (by decide +kernel)) (by decide +kernel)
theorem gw_1755 : Cond.code yX12_matches cX12_matches 6 none ∈ kG := kG_mk (kT_8 75 (by decide +kernel)) (by decide +kernel)
theorem gw_1756 : Cond.methodLink RL 127 yX12_guess ∈ kG := kG_mk (kT_8 76 (by decide +kernel)) (by decide +kernel)
theorem gw_1757 : Cond.instanceMethod yX12_guess ∈ kG := kG_mk (kT_8 77 (by decide +kernel)) (by decide +kernel)
theorem gw_1758 : Cond.selects RX12 yX12_guess yX12_guess ∈ kG := kG_mk (kT_8 78 (by decide +kernel)) (by decide +kernel)
theorem gw_1759 : Cond.code yX12_guess cX12_guess 3 (some FieldType.boolean) ∈ kG := kG_mk (kT_8 79 (by decide +kernel)) (by decide +kernel)
theorem gw_1760 : Cond.methodLink RL 131 yX12_fits ∈ kG := kG_mk (kT_8 80 (by decide +kernel)) (by decide +kernel)
theorem gw_1761 : Cond.instanceMethod yX12_fits ∈ kG := kG_mk (kT_8 81 (by decide +kernel)) (by decide +kernel)
theorem gw_1762 : Cond.selects RX12 yX12_fits yX12_fits ∈ kG := kG_mk (kT_8 82 (by decide +kernel)) (by decide +kernel)
theorem gw_1763 : Cond.code yX12_fits cX12_fits 1 (some FieldType.int) ∈ kG := kG_mk (kT_8 83 (by decide +kernel)) (by decide +kernel)
theorem gw_1764 : Cond.methodLink RX12 471 yX12_fitting ∈ kG := kG_mk (kT_8 84 (by decide +kernel)) (by decide +kernel)
theorem gw_1766 : Cond.instanceMethod yX12_fitting ∈ kG := kG_mk (kT_8 86 (by decide +kernel)) (by decide +kernel)
theorem gw_1767 : Cond.code yX12_fitting cX12_fitting 5 (some FieldType.int) ∈ kG := kG_mk (kT_8 87 (by decide +kernel)) (by decide +kernel)
theorem gw_1768 : Cond.methodLink RL 135 yX12_ask ∈ kG := kG_mk (kT_8 88 (by decide +kernel)) (by decide +kernel)
theorem gw_1769 : Cond.instanceMethod yX12_ask ∈ kG := kG_mk (kT_8 89 (by decide +kernel)) (by decide +kernel)
theorem gw_1770 : Cond.selects RX12 yX12_ask yX12_ask ∈ kG := kG_mk (kT_8 90 (by decide +kernel)) (by decide +kernel)
theorem gw_1771 : Cond.code yX12_ask cX12_ask 7 (some FieldType.int) ∈ kG := kG_mk (kT_8 91 (by decide +kernel)) (by decide +kernel)
theorem gw_1772 : Cond.methodLink RL 143 yX12_dead ∈ kG := kG_mk (kT_8 92 (by decide +kernel)) (by decide +kernel)
theorem gw_1773 : Cond.instanceMethod yX12_dead ∈ kG := kG_mk (kT_8 93 (by decide +kernel)) (by decide +kernel)
theorem gw_1774 : Cond.selects RX12 yX12_dead yX12_dead ∈ kG := kG_mk (kT_8 94 (by decide +kernel)) (by decide +kernel)
theorem gw_1775 : Cond.code yX12_dead cX12_dead 3 (some FieldType.int) ∈ kG := kG_mk (kT_8 95 (by decide +kernel)) (by decide +kernel)
theorem gw_1776 : Cond.methodLink RL 147 yX12_ring ∈ kG := kG_mk (kT_8 96 (by decide +kernel)) (by decide +kernel)
theorem gw_1777 : Cond.instanceMethod yX12_ring ∈ kG := kG_mk (kT_8 97 (by decide +kernel)) (by decide +kernel)
theorem gw_1778 : Cond.selects RX12 yX12_ring yX12_ring ∈ kG := kG_mk (kT_8 98 (by decide +kernel)) (by decide +kernel)
theorem gw_1779 : Cond.code yX12_ring cX12_ring 4 (some FieldType.int) ∈ kG := kG_mk (kT_8 99 (by decide +kernel)) (by decide +kernel)
theorem gw_1780 : Cond.methodLink RL 151 yX12_rests ∈ kG := kG_mk (kT_8 100 (by decide +kernel)) (by decide +kernel)
theorem gw_1781 : Cond.instanceMethod yX12_rests ∈ kG := kG_mk (kT_8 101 (by decide +kernel)) (by decide +kernel)
theorem gw_1782 : Cond.selects RX12 yX12_rests yX12_rests ∈ kG := kG_mk (kT_8 102 (by decide +kernel)) (by decide +kernel)
theorem gw_1783 : Cond.code yX12_rests cX12_rests 9 (some FieldType.int) ∈ kG := kG_mk (kT_8 103 (by decide +kernel)) (by decide +kernel)
theorem gw_1784 : Cond.methodLink RX12 474 yX12_getsBy ∈ kG := kG_mk (kT_8 104 (by decide +kernel)) (by decide +kernel)
theorem gw_1785 : Cond.static yX12_getsBy ∈ kG := kG_mk (kT_8 105 (by decide +kernel)) (by decide +kernel)
theorem gw_1786 : Cond.code yX12_getsBy cX12_getsBy 5 (some FieldType.int) ∈ kG := kG_mk (kT_8 106 (by decide +kernel)) (by decide +kernel)
theorem gw_1787 : Cond.methodLink RL 161 yX12_lives ∈ kG := kG_mk (kT_8 107 (by decide +kernel)) (by decide +kernel)
theorem gw_1788 : Cond.instanceMethod yX12_lives ∈ kG := kG_mk (kT_8 108 (by decide +kernel)) (by decide +kernel)
theorem gw_1789 : Cond.selects RX12 yX12_lives yX12_lives ∈ kG := kG_mk (kT_8 109 (by decide +kernel)) (by decide +kernel)
theorem gw_1790 : Cond.code yX12_lives cX12_lives 7 (some FieldType.int) ∈ kG := kG_mk (kT_8 110 (by decide +kernel)) (by decide +kernel)
theorem gw_1791 : Cond.methodLink RX12 492 yX12_livesStep ∈ kG := kG_mk (kT_8 111 (by decide +kernel)) (by decide +kernel)
theorem gw_1793 : Cond.instanceMethod yX12_livesStep ∈ kG := kG_mk (kT_8 113 (by decide +kernel)) (by decide +kernel)
theorem gw_1794 : Cond.code yX12_livesStep cX12_livesStep 3 (some FieldType.int) ∈ kG := kG_mk (kT_8 114 (by decide +kernel)) (by decide +kernel)
theorem gw_1795 : Cond.methodLink RX12 489 yX12_draws ∈ kG := kG_mk (kT_8 115 (by decide +kernel)) (by decide +kernel)
theorem gw_1797 : Cond.instanceMethod yX12_draws ∈ kG := kG_mk (kT_8 117 (by decide +kernel)) (by decide +kernel)
theorem gw_1798 : Cond.code yX12_draws cX12_draws 2 (some FieldType.int) ∈ kG := kG_mk (kT_8 118 (by decide +kernel)) (by decide +kernel)
theorem gw_1799 : Cond.constantLong RX12 481 (1103515245) ∈ kG := kG_mk (kT_8 119 (by decide +kernel)) (by decide +kernel)
theorem gw_1800 : Cond.constantLong RX12 483 (12345) ∈ kG := kG_mk (kT_8 120 (by decide +kernel)) (by decide +kernel)
theorem gw_1801 : Cond.constantLong RX12 485 (2147483648) ∈ kG := kG_mk (kT_8 121 (by decide +kernel)) (by decide +kernel)
theorem gw_1802 : Cond.constantLong RX12 487 (65536) ∈ kG := kG_mk (kT_8 122 (by decide +kernel)) (by decide +kernel)
theorem gw_1803 : Cond.methodLink RL 165 yX12_mark ∈ kG := kG_mk (kT_8 123 (by decide +kernel)) (by decide +kernel)
theorem gw_1804 : Cond.instanceMethod yX12_mark ∈ kG := kG_mk (kT_8 124 (by decide +kernel)) (by decide +kernel)
theorem gw_1805 : Cond.selects RX12 yX12_mark yX12_mark ∈ kG := kG_mk (kT_8 125 (by decide +kernel)) (by decide +kernel)
theorem gw_1806 : Cond.code yX12_mark cX12_mark 5 (some FieldType.boolean) ∈ kG := kG_mk (kT_8 126 (by decide +kernel)) (by decide +kernel)
theorem gw_1807 : Cond.methodLink RX12 495 yX12_laysGuesses ∈ kG := kG_mk (kT_8 127 (by decide +kernel)) (by decide +kernel)
theorem gw_1809 : Cond.instanceMethod yX12_laysGuesses ∈ kG := kG_mk (kT_8 129 (by decide +kernel)) (by decide +kernel)
theorem gw_1810 : Cond.code yX12_laysGuesses cX12_laysGuesses 4 none ∈ kG := kG_mk (kT_8 130 (by decide +kernel)) (by decide +kernel)
theorem gw_1811 : Cond.methodLink RL 169 yX12_count ∈ kG := kG_mk (kT_8 131 (by decide +kernel)) (by decide +kernel)
theorem gw_1812 : Cond.instanceMethod yX12_count ∈ kG := kG_mk (kT_8 132 (by decide +kernel)) (by decide +kernel)
theorem gw_1813 : Cond.selects RX12 yX12_count yX12_count ∈ kG := kG_mk (kT_8 133 (by decide +kernel)) (by decide +kernel)
theorem gw_1814 : Cond.code yX12_count cX12_count 2 (some FieldType.int) ∈ kG := kG_mk (kT_8 134 (by decide +kernel)) (by decide +kernel)
theorem gw_1815 : Cond.methodLink RX12 498 yX12_worthInBarn ∈ kG := kG_mk (kT_8 135 (by decide +kernel)) (by decide +kernel)
theorem gw_1817 : Cond.instanceMethod yX12_worthInBarn ∈ kG := kG_mk (kT_8 137 (by decide +kernel)) (by decide +kernel)
theorem gw_1818 : Cond.code yX12_worthInBarn cX12_worthInBarn 3 (some FieldType.int) ∈ kG := kG_mk (kT_8 138 (by decide +kernel)) (by decide +kernel)
theorem gw_1819 : Cond.constantLong RL 30 (4294967295) ∈ kG := kG_mk (kT_8 139 (by decide +kernel)) (by decide +kernel)
theorem nw_1821 : Cond.castable "TithedThoughts" "java/lang/Object" ∈ kN := kN_mk (kT_8 141 (by decide +kernel)) (by decide +kernel)
theorem nw_1822 : Cond.castable "TithedThoughts$Tokens" "java/lang/Object" ∈ kN := kN_mk (kT_8 142 (by decide +kernel)) (by decide +kernel)
theorem nw_1823 : Cond.castable "TithedThoughts$Word" "java/lang/Object" ∈ kN := kN_mk (kT_8 143 (by decide +kernel)) (by decide +kernel)
theorem nw_1824 : Cond.castable "TithedThoughts$Undone" "java/lang/Object" ∈ kN := kN_mk (kT_8 144 (by decide +kernel)) (by decide +kernel)
theorem nw_1825 : Cond.castable "TithedThoughts$State" "java/lang/Object" ∈ kN := kN_mk (kT_8 145 (by decide +kernel)) (by decide +kernel)
theorem nw_1826 : Cond.castable "TithedThoughts$Page" "java/lang/Object" ∈ kN := kN_mk (kT_8 146 (by decide +kernel)) (by decide +kernel)
theorem nw_1827 : Cond.castable "TithedThoughts$Course" "java/lang/Object" ∈ kN := kN_mk (kT_8 147 (by decide +kernel)) (by decide +kernel)
theorem nw_1828 : Cond.castable "TithedThoughts$Spread" "java/lang/Object" ∈ kN := kN_mk (kT_8 148 (by decide +kernel)) (by decide +kernel)
theorem nw_1829 : Cond.castable "TithedThoughts$BestRow" "java/lang/Object" ∈ kN := kN_mk (kT_8 149 (by decide +kernel)) (by decide +kernel)
theorem nw_1830 : Cond.castable "TithedThoughts$Pairs" "java/lang/Object" ∈ kN := kN_mk (kT_8 150 (by decide +kernel)) (by decide +kernel)
theorem nw_1831 : Cond.castable "TithedThoughts$Abbey" "java/lang/Object" ∈ kN := kN_mk (kT_8 151 (by decide +kernel)) (by decide +kernel)
theorem nw_1832 : Cond.castable "TithedThoughts$Reader" "java/lang/Object" ∈ kN := kN_mk (kT_8 152 (by decide +kernel)) (by decide +kernel)
theorem nw_1833 : Cond.castable "TithedThoughtsModel" "java/lang/Object" ∈ kN := kN_mk (kT_8 153 (by decide +kernel)) (by decide +kernel)
theorem nw_1834 : Cond.castable "java/util/NoSuchElementException" "java/lang/Object" ∈ kN := kN_mk (kT_8 154 (by decide +kernel)) (by decide +kernel)
theorem nw_1835 : Cond.castable "java/lang/Throwable" "java/lang/Object" ∈ kN := kN_mk (kT_8 155 (by decide +kernel)) (by decide +kernel)
theorem gw_1836 : Cond.fieldLink RX10 115 "TithedThoughts$Word" "letters" "J" ∈ kG := kG_mk (kT_8 156 (by decide +kernel)) (by decide +kernel)
theorem nw_1837 : Cond.fieldLinkNest RX5 258 "TithedThoughts$Word" "mayName" "Z" "TithedThoughts" ∈ kN := kN_mk (kT_8 157 (by decide +kernel)) (by decide +kernel)
theorem nw_1838 : Cond.fieldLinkNest RX5 173 "TithedThoughts$Word" "value" "I" "TithedThoughts" ∈ kN := kN_mk (kT_8 158 (by decide +kernel)) (by decide +kernel)
theorem gp_0 : Cond.selects RX5 yX5_begin yX5_begin ∈ kG := kG_p (List.mem_of_getElem? (i := 0) (by decide +kernel)) (by decide +kernel)
theorem gp_1 : Cond.selects RX8 yX8_readLetters yX8_readLetters ∈ kG := kG_p (List.mem_of_getElem? (i := 1) (by decide +kernel)) (by decide +kernel)
theorem gp_2 : Cond.selects RX8 yX8_readDigits yX8_readDigits ∈ kG := kG_p (List.mem_of_getElem? (i := 2) (by decide +kernel)) (by decide +kernel)
theorem gp_3 : Cond.selects RX5 yX5_goesOn yX5_goesOn ∈ kG := kG_p (List.mem_of_getElem? (i := 3) (by decide +kernel)) (by decide +kernel)
theorem gp_4 : Cond.selects RX5 yX5_readThought yX5_readThought ∈ kG := kG_p (List.mem_of_getElem? (i := 4) (by decide +kernel)) (by decide +kernel)
theorem gp_5 : Cond.selects RX5 yX5_fail yX5_fail ∈ kG := kG_p (List.mem_of_getElem? (i := 5) (by decide +kernel)) (by decide +kernel)
theorem gp_6 : Cond.selects RX5 yX5_newName yX5_newName ∈ kG := kG_p (List.mem_of_getElem? (i := 6) (by decide +kernel)) (by decide +kernel)
theorem gp_7 : Cond.selects RX5 yX5_passUnlessFault yX5_passUnlessFault ∈ kG := kG_p (List.mem_of_getElem? (i := 7) (by decide +kernel)) (by decide +kernel)
theorem gp_8 : Cond.selects RX5 yX5_passWord yX5_passWord ∈ kG := kG_p (List.mem_of_getElem? (i := 8) (by decide +kernel)) (by decide +kernel)
theorem gp_9 : Cond.selects RX5 yX5_numberWithin yX5_numberWithin ∈ kG := kG_p (List.mem_of_getElem? (i := 9) (by decide +kernel)) (by decide +kernel)
theorem gp_10 : Cond.selects RX5 yX5_passSign yX5_passSign ∈ kG := kG_p (List.mem_of_getElem? (i := 10) (by decide +kernel)) (by decide +kernel)
theorem gp_11 : Cond.selects RX5 yX5_readFollows yX5_readFollows ∈ kG := kG_p (List.mem_of_getElem? (i := 11) (by decide +kernel)) (by decide +kernel)
theorem gp_12 : Cond.selects RX5 yX5_thoughtHere yX5_thoughtHere ∈ kG := kG_p (List.mem_of_getElem? (i := 12) (by decide +kernel)) (by decide +kernel)
theorem gp_13 : Cond.selects RX5 yX5_foundHere yX5_foundHere ∈ kG := kG_p (List.mem_of_getElem? (i := 13) (by decide +kernel)) (by decide +kernel)
theorem gp_14 : Cond.selects RX5 yX5_readTenant yX5_readTenant ∈ kG := kG_p (List.mem_of_getElem? (i := 14) (by decide +kernel)) (by decide +kernel)
theorem gp_15 : Cond.selects RX5 yX5_readSetting yX5_readSetting ∈ kG := kG_p (List.mem_of_getElem? (i := 15) (by decide +kernel)) (by decide +kernel)
theorem gp_16 : Cond.selects RX5 yX5_passOnce yX5_passOnce ∈ kG := kG_p (List.mem_of_getElem? (i := 16) (by decide +kernel)) (by decide +kernel)
theorem gp_17 : Cond.selects RX5 yX5_readLaw yX5_readLaw ∈ kG := kG_p (List.mem_of_getElem? (i := 17) (by decide +kernel)) (by decide +kernel)
theorem gp_18 : Cond.selects RX5 yX5_readLevel yX5_readLevel ∈ kG := kG_p (List.mem_of_getElem? (i := 18) (by decide +kernel)) (by decide +kernel)
theorem gp_19 : Cond.selects RX5 yX5_readPart yX5_readPart ∈ kG := kG_p (List.mem_of_getElem? (i := 19) (by decide +kernel)) (by decide +kernel)
theorem gp_20 : Cond.selects RX5 yX5_operationHere yX5_operationHere ∈ kG := kG_p (List.mem_of_getElem? (i := 20) (by decide +kernel)) (by decide +kernel)
theorem gp_21 : Cond.selects RX11 yX11_beginAnew yX11_beginAnew ∈ kG := kG_p (List.mem_of_getElem? (i := 21) (by decide +kernel)) (by decide +kernel)
theorem gp_22 : Cond.selects RX5 yX5_readLine yX5_readLine ∈ kG := kG_p (List.mem_of_getElem? (i := 22) (by decide +kernel)) (by decide +kernel)
theorem gp_23 : Cond.selects RX5 yX5_tenantHere yX5_tenantHere ∈ kG := kG_p (List.mem_of_getElem? (i := 23) (by decide +kernel)) (by decide +kernel)
theorem gp_24 : Cond.selects RX11 yX11_isThought yX11_isThought ∈ kG := kG_p (List.mem_of_getElem? (i := 24) (by decide +kernel)) (by decide +kernel)
theorem gp_25 : Cond.selects RX11 yX11_isTenant yX11_isTenant ∈ kG := kG_p (List.mem_of_getElem? (i := 25) (by decide +kernel)) (by decide +kernel)
theorem gp_26 : Cond.selects RX11 yX11_areBoth yX11_areBoth ∈ kG := kG_p (List.mem_of_getElem? (i := 26) (by decide +kernel)) (by decide +kernel)
theorem gp_27 : Cond.selects RX11 yX11_worthInBarn yX11_worthInBarn ∈ kG := kG_p (List.mem_of_getElem? (i := 27) (by decide +kernel)) (by decide +kernel)
theorem gp_28 : Cond.selects RX0 yX0_valueOf yX0_valueOf ∈ kG := kG_p (List.mem_of_getElem? (i := 28) (by decide +kernel)) (by decide +kernel)
theorem gp_29 : Cond.selects RX7 yX7_pay yX7_pay ∈ kG := kG_p (List.mem_of_getElem? (i := 29) (by decide +kernel)) (by decide +kernel)
theorem gp_30 : Cond.selects RX7 yX7_placeOfLeast yX7_placeOfLeast ∈ kG := kG_p (List.mem_of_getElem? (i := 30) (by decide +kernel)) (by decide +kernel)
theorem gp_31 : Cond.selects RX7 yX7_countedAt yX7_countedAt ∈ kG := kG_p (List.mem_of_getElem? (i := 31) (by decide +kernel)) (by decide +kernel)
theorem gp_32 : Cond.selects RX7 yX7_keep yX7_keep ∈ kG := kG_p (List.mem_of_getElem? (i := 32) (by decide +kernel)) (by decide +kernel)
theorem gp_33 : Cond.selects RX2 yX2_live yX2_live ∈ kG := kG_p (List.mem_of_getElem? (i := 33) (by decide +kernel)) (by decide +kernel)
theorem gp_34 : Cond.selects RX2 yX2_tryThink yX2_tryThink ∈ kG := kG_p (List.mem_of_getElem? (i := 34) (by decide +kernel)) (by decide +kernel)
theorem gp_35 : Cond.selects RX2 yX2_tryGate yX2_tryGate ∈ kG := kG_p (List.mem_of_getElem? (i := 35) (by decide +kernel)) (by decide +kernel)
theorem gp_36 : Cond.selects RX2 yX2_tryPool yX2_tryPool ∈ kG := kG_p (List.mem_of_getElem? (i := 36) (by decide +kernel)) (by decide +kernel)
theorem gp_37 : Cond.selects RX6 yX6_handOn yX6_handOn ∈ kG := kG_p (List.mem_of_getElem? (i := 37) (by decide +kernel)) (by decide +kernel)
theorem gp_38 : Cond.selects RX11 yX11_keptParts yX11_keptParts ∈ kG := kG_p (List.mem_of_getElem? (i := 38) (by decide +kernel)) (by decide +kernel)
theorem gp_39 : Cond.selects RX11 yX11_partBit yX11_partBit ∈ kG := kG_p (List.mem_of_getElem? (i := 39) (by decide +kernel)) (by decide +kernel)
theorem gp_40 : Cond.selects RX11 yX11_partsOfAll yX11_partsOfAll ∈ kG := kG_p (List.mem_of_getElem? (i := 40) (by decide +kernel)) (by decide +kernel)
theorem gp_41 : Cond.selects RX4 yX4_pairFrom yX4_pairFrom ∈ kG := kG_p (List.mem_of_getElem? (i := 41) (by decide +kernel)) (by decide +kernel)
theorem gp_42 : Cond.selects "java/lang/Throwable" ⟨"java/lang/Throwable", "fillInStackTrace", "(I)Ljava/lang/Throwable;"⟩ ⟨"java/lang/Throwable", "fillInStackTrace", "(I)Ljava/lang/Throwable;"⟩ ∈ kG := kG_p (List.mem_of_getElem? (i := 42) (by decide +kernel)) (by decide +kernel)
theorem gp_43 : Cond.selects RX1 yX1_foresee yX1_foresee ∈ kG := kG_p (List.mem_of_getElem? (i := 43) (by decide +kernel)) (by decide +kernel)
theorem gp_44 : Cond.selects RX1 yX1_mostFrom yX1_mostFrom ∈ kG := kG_p (List.mem_of_getElem? (i := 44) (by decide +kernel)) (by decide +kernel)
theorem gp_45 : Cond.selects RX1 yX1_mostWith yX1_mostWith ∈ kG := kG_p (List.mem_of_getElem? (i := 45) (by decide +kernel)) (by decide +kernel)
theorem gp_46 : Cond.selects RX1 yX1_gainAt yX1_gainAt ∈ kG := kG_p (List.mem_of_getElem? (i := 46) (by decide +kernel)) (by decide +kernel)
theorem gp_47 : Cond.selects RX1 yX1_runsAt yX1_runsAt ∈ kG := kG_p (List.mem_of_getElem? (i := 47) (by decide +kernel)) (by decide +kernel)
theorem gp_48 : Cond.selects RX1 yX1_leastBehind yX1_leastBehind ∈ kG := kG_p (List.mem_of_getElem? (i := 48) (by decide +kernel)) (by decide +kernel)
theorem gp_49 : Cond.selects RX1 yX1_choose yX1_choose ∈ kG := kG_p (List.mem_of_getElem? (i := 49) (by decide +kernel)) (by decide +kernel)
theorem gp_50 : Cond.selects RX2 yX2_drawBelow yX2_drawBelow ∈ kG := kG_p (List.mem_of_getElem? (i := 50) (by decide +kernel)) (by decide +kernel)
theorem gp_51 : Cond.selects RX12 yX12_usual yX12_usual ∈ kG := kG_p (List.mem_of_getElem? (i := 51) (by decide +kernel)) (by decide +kernel)
theorem gp_52 : Cond.selects RX12 yX12_readsAll yX12_readsAll ∈ kG := kG_p (List.mem_of_getElem? (i := 52) (by decide +kernel)) (by decide +kernel)
theorem gp_53 : Cond.selects RX12 yX12_begins yX12_begins ∈ kG := kG_p (List.mem_of_getElem? (i := 53) (by decide +kernel)) (by decide +kernel)
theorem gp_54 : Cond.selects RX12 yX12_nextToken yX12_nextToken ∈ kG := kG_p (List.mem_of_getElem? (i := 54) (by decide +kernel)) (by decide +kernel)
theorem gp_55 : Cond.selects RX12 yX12_signAt yX12_signAt ∈ kG := kG_p (List.mem_of_getElem? (i := 55) (by decide +kernel)) (by decide +kernel)
theorem gp_56 : Cond.selects RX12 yX12_isWord yX12_isWord ∈ kG := kG_p (List.mem_of_getElem? (i := 56) (by decide +kernel)) (by decide +kernel)
theorem gp_57 : Cond.selects RX12 yX12_readsThought yX12_readsThought ∈ kG := kG_p (List.mem_of_getElem? (i := 57) (by decide +kernel)) (by decide +kernel)
theorem gp_58 : Cond.selects RX12 yX12_fails yX12_fails ∈ kG := kG_p (List.mem_of_getElem? (i := 58) (by decide +kernel)) (by decide +kernel)
theorem gp_59 : Cond.selects RX12 yX12_needsNew yX12_needsNew ∈ kG := kG_p (List.mem_of_getElem? (i := 59) (by decide +kernel)) (by decide +kernel)
theorem gp_60 : Cond.selects RX12 yX12_isKept yX12_isKept ∈ kG := kG_p (List.mem_of_getElem? (i := 60) (by decide +kernel)) (by decide +kernel)
theorem gp_61 : Cond.selects RX12 yX12_thoughtNamed yX12_thoughtNamed ∈ kG := kG_p (List.mem_of_getElem? (i := 61) (by decide +kernel)) (by decide +kernel)
theorem gp_62 : Cond.selects RX12 yX12_tenantNamed yX12_tenantNamed ∈ kG := kG_p (List.mem_of_getElem? (i := 62) (by decide +kernel)) (by decide +kernel)
theorem gp_63 : Cond.selects RX12 yX12_needsBoth yX12_needsBoth ∈ kG := kG_p (List.mem_of_getElem? (i := 63) (by decide +kernel)) (by decide +kernel)
theorem gp_64 : Cond.selects RX12 yX12_needsNumber yX12_needsNumber ∈ kG := kG_p (List.mem_of_getElem? (i := 64) (by decide +kernel)) (by decide +kernel)
theorem gp_65 : Cond.selects RX12 yX12_closes yX12_closes ∈ kG := kG_p (List.mem_of_getElem? (i := 65) (by decide +kernel)) (by decide +kernel)
theorem gp_66 : Cond.selects RX12 yX12_isSign yX12_isSign ∈ kG := kG_p (List.mem_of_getElem? (i := 66) (by decide +kernel)) (by decide +kernel)
theorem gp_67 : Cond.selects RX12 yX12_readsFollows yX12_readsFollows ∈ kG := kG_p (List.mem_of_getElem? (i := 67) (by decide +kernel)) (by decide +kernel)
theorem gp_68 : Cond.selects RX12 yX12_needsThought yX12_needsThought ∈ kG := kG_p (List.mem_of_getElem? (i := 68) (by decide +kernel)) (by decide +kernel)
theorem gp_69 : Cond.selects RX12 yX12_readsTenant yX12_readsTenant ∈ kG := kG_p (List.mem_of_getElem? (i := 69) (by decide +kernel)) (by decide +kernel)
theorem gp_70 : Cond.selects RX12 yX12_readsOne yX12_readsOne ∈ kG := kG_p (List.mem_of_getElem? (i := 70) (by decide +kernel)) (by decide +kernel)
theorem gp_71 : Cond.selects RX12 yX12_readsLaw yX12_readsLaw ∈ kG := kG_p (List.mem_of_getElem? (i := 71) (by decide +kernel)) (by decide +kernel)
theorem gp_72 : Cond.selects RX12 yX12_reads yX12_reads ∈ kG := kG_p (List.mem_of_getElem? (i := 72) (by decide +kernel)) (by decide +kernel)
theorem gp_73 : Cond.selects RX12 yX12_fact yX12_fact ∈ kG := kG_p (List.mem_of_getElem? (i := 73) (by decide +kernel)) (by decide +kernel)
theorem gp_74 : Cond.selects RX12 yX12_puts yX12_puts ∈ kG := kG_p (List.mem_of_getElem? (i := 74) (by decide +kernel)) (by decide +kernel)
theorem gp_75 : Cond.selects RX12 yX12_lays yX12_lays ∈ kG := kG_p (List.mem_of_getElem? (i := 75) (by decide +kernel)) (by decide +kernel)
theorem gp_76 : Cond.selects RX12 yX12_fresh yX12_fresh ∈ kG := kG_p (List.mem_of_getElem? (i := 76) (by decide +kernel)) (by decide +kernel)
theorem gp_77 : Cond.selects RX12 yX12_readsLine yX12_readsLine ∈ kG := kG_p (List.mem_of_getElem? (i := 77) (by decide +kernel)) (by decide +kernel)
theorem gp_78 : Cond.selects RX12 yX12_laysLines yX12_laysLines ∈ kG := kG_p (List.mem_of_getElem? (i := 78) (by decide +kernel)) (by decide +kernel)
theorem gp_79 : Cond.selects RX12 yX12_isThought yX12_isThought ∈ kG := kG_p (List.mem_of_getElem? (i := 79) (by decide +kernel)) (by decide +kernel)
theorem gp_80 : Cond.selects RX12 yX12_isTenant yX12_isTenant ∈ kG := kG_p (List.mem_of_getElem? (i := 80) (by decide +kernel)) (by decide +kernel)
theorem gp_81 : Cond.selects RX12 yX12_of yX12_of ∈ kG := kG_p (List.mem_of_getElem? (i := 81) (by decide +kernel)) (by decide +kernel)
theorem gp_82 : Cond.selects RX12 yX12_mayThink yX12_mayThink ∈ kG := kG_p (List.mem_of_getElem? (i := 82) (by decide +kernel)) (by decide +kernel)
theorem gp_83 : Cond.selects RX12 yX12_hasRun yX12_hasRun ∈ kG := kG_p (List.mem_of_getElem? (i := 83) (by decide +kernel)) (by decide +kernel)
theorem gp_84 : Cond.selects RX12 yX12_behindHis yX12_behindHis ∈ kG := kG_p (List.mem_of_getElem? (i := 84) (by decide +kernel)) (by decide +kernel)
theorem gp_85 : Cond.selects RX12 yX12_all yX12_all ∈ kG := kG_p (List.mem_of_getElem? (i := 85) (by decide +kernel)) (by decide +kernel)
theorem gp_86 : Cond.selects RX12 yX12_keepsRow yX12_keepsRow ∈ kG := kG_p (List.mem_of_getElem? (i := 86) (by decide +kernel)) (by decide +kernel)
theorem gp_87 : Cond.selects RX12 yX12_thinks yX12_thinks ∈ kG := kG_p (List.mem_of_getElem? (i := 87) (by decide +kernel)) (by decide +kernel)
theorem gp_88 : Cond.selects RX12 yX12_gainsBy yX12_gainsBy ∈ kG := kG_p (List.mem_of_getElem? (i := 88) (by decide +kernel)) (by decide +kernel)
theorem gp_89 : Cond.selects RX12 yX12_inBarn yX12_inBarn ∈ kG := kG_p (List.mem_of_getElem? (i := 89) (by decide +kernel)) (by decide +kernel)
theorem gp_90 : Cond.selects RX12 yX12_worked yX12_worked ∈ kG := kG_p (List.mem_of_getElem? (i := 90) (by decide +kernel)) (by decide +kernel)
theorem gp_91 : Cond.selects RX12 yX12_opens yX12_opens ∈ kG := kG_p (List.mem_of_getElem? (i := 91) (by decide +kernel)) (by decide +kernel)
theorem gp_92 : Cond.selects RX12 yX12_sums yX12_sums ∈ kG := kG_p (List.mem_of_getElem? (i := 92) (by decide +kernel)) (by decide +kernel)
theorem gp_93 : Cond.selects RX12 yX12_tests yX12_tests ∈ kG := kG_p (List.mem_of_getElem? (i := 93) (by decide +kernel)) (by decide +kernel)
theorem gp_94 : Cond.selects RX12 yX12_least yX12_least ∈ kG := kG_p (List.mem_of_getElem? (i := 94) (by decide +kernel)) (by decide +kernel)
theorem gp_95 : Cond.selects RX12 yX12_turnsBack yX12_turnsBack ∈ kG := kG_p (List.mem_of_getElem? (i := 95) (by decide +kernel)) (by decide +kernel)
theorem gp_96 : Cond.selects RX12 yX12_canPool yX12_canPool ∈ kG := kG_p (List.mem_of_getElem? (i := 96) (by decide +kernel)) (by decide +kernel)
theorem gp_97 : Cond.selects RX12 yX12_pools yX12_pools ∈ kG := kG_p (List.mem_of_getElem? (i := 97) (by decide +kernel)) (by decide +kernel)
theorem gp_98 : Cond.selects RX12 yX12_judges yX12_judges ∈ kG := kG_p (List.mem_of_getElem? (i := 98) (by decide +kernel)) (by decide +kernel)
theorem gp_99 : Cond.selects RX12 yX12_goes yX12_goes ∈ kG := kG_p (List.mem_of_getElem? (i := 99) (by decide +kernel)) (by decide +kernel)
theorem gp_100 : Cond.selects RX12 yX12_gainedByAll yX12_gainedByAll ∈ kG := kG_p (List.mem_of_getElem? (i := 100) (by decide +kernel)) (by decide +kernel)
theorem gp_101 : Cond.selects RX12 yX12_tries yX12_tries ∈ kG := kG_p (List.mem_of_getElem? (i := 101) (by decide +kernel)) (by decide +kernel)
theorem gp_102 : Cond.selects RX12 yX12_allBehind yX12_allBehind ∈ kG := kG_p (List.mem_of_getElem? (i := 102) (by decide +kernel)) (by decide +kernel)
theorem gp_103 : Cond.selects RX12 yX12_sharesOut yX12_sharesOut ∈ kG := kG_p (List.mem_of_getElem? (i := 103) (by decide +kernel)) (by decide +kernel)
theorem gp_104 : Cond.selects RX12 yX12_lacking yX12_lacking ∈ kG := kG_p (List.mem_of_getElem? (i := 104) (by decide +kernel)) (by decide +kernel)
theorem gp_105 : Cond.selects RX12 yX12_whoRan yX12_whoRan ∈ kG := kG_p (List.mem_of_getElem? (i := 105) (by decide +kernel)) (by decide +kernel)
theorem gp_106 : Cond.selects RX12 yX12_partsOf yX12_partsOf ∈ kG := kG_p (List.mem_of_getElem? (i := 106) (by decide +kernel)) (by decide +kernel)
theorem gp_107 : Cond.selects RX12 yX12_dowryOf yX12_dowryOf ∈ kG := kG_p (List.mem_of_getElem? (i := 107) (by decide +kernel)) (by decide +kernel)
theorem gp_108 : Cond.selects RX12 yX12_matches yX12_matches ∈ kG := kG_p (List.mem_of_getElem? (i := 108) (by decide +kernel)) (by decide +kernel)
theorem gp_109 : Cond.selects RX12 yX12_fitting yX12_fitting ∈ kG := kG_p (List.mem_of_getElem? (i := 109) (by decide +kernel)) (by decide +kernel)
theorem gp_110 : Cond.selects RX12 yX12_livesStep yX12_livesStep ∈ kG := kG_p (List.mem_of_getElem? (i := 110) (by decide +kernel)) (by decide +kernel)
theorem gp_111 : Cond.selects RX12 yX12_draws yX12_draws ∈ kG := kG_p (List.mem_of_getElem? (i := 111) (by decide +kernel)) (by decide +kernel)
theorem gp_112 : Cond.selects RX12 yX12_laysGuesses yX12_laysGuesses ∈ kG := kG_p (List.mem_of_getElem? (i := 112) (by decide +kernel)) (by decide +kernel)
theorem gp_113 : Cond.selects RX12 yX12_worthInBarn yX12_worthInBarn ∈ kG := kG_p (List.mem_of_getElem? (i := 113) (by decide +kernel)) (by decide +kernel)
theorem hd_X11_init : yX11_init.cls ≠ "java/lang/invoke/MethodHandle" ∧ yX11_init.cls ≠ "java/lang/invoke/VarHandle" ∧ (parseMethodDescriptor yX11_init.desc).map (fun d => d.parameters.length) = some 0 := ⟨by decide, by decide, by decide +kernel⟩
theorem hd_X8_init : yX8_init.cls ≠ "java/lang/invoke/MethodHandle" ∧ yX8_init.cls ≠ "java/lang/invoke/VarHandle" ∧ (parseMethodDescriptor yX8_init.desc).map (fun d => d.parameters.length) = some 0 := ⟨by decide, by decide, by decide +kernel⟩
theorem hd_X9_init : yX9_init.cls ≠ "java/lang/invoke/MethodHandle" ∧ yX9_init.cls ≠ "java/lang/invoke/VarHandle" ∧ (parseMethodDescriptor yX9_init.desc).map (fun d => d.parameters.length) = some 0 := ⟨by decide, by decide, by decide +kernel⟩
theorem hd_X7_init : yX7_init.cls ≠ "java/lang/invoke/MethodHandle" ∧ yX7_init.cls ≠ "java/lang/invoke/VarHandle" ∧ (parseMethodDescriptor yX7_init.desc).map (fun d => d.parameters.length) = some 0 := ⟨by decide, by decide, by decide +kernel⟩
theorem hd_X7_clear : yX7_clear.cls ≠ "java/lang/invoke/MethodHandle" ∧ yX7_clear.cls ≠ "java/lang/invoke/VarHandle" ∧ (parseMethodDescriptor yX7_clear.desc).map (fun d => d.parameters.length) = some 0 := ⟨by decide, by decide, by decide +kernel⟩
theorem hd_J7_fill_53178 : yJ7_fill_53178.cls ≠ "java/lang/invoke/MethodHandle" ∧ yJ7_fill_53178.cls ≠ "java/lang/invoke/VarHandle" ∧ (parseMethodDescriptor yJ7_fill_53178.desc).map (fun d => d.parameters.length) = some 2 := ⟨by decide, by decide, by decide +kernel⟩
theorem hd_J7_fill_d0a16 : yJ7_fill_d0a16.cls ≠ "java/lang/invoke/MethodHandle" ∧ yJ7_fill_d0a16.cls ≠ "java/lang/invoke/VarHandle" ∧ (parseMethodDescriptor yJ7_fill_d0a16.desc).map (fun d => d.parameters.length) = some 2 := ⟨by decide, by decide, by decide +kernel⟩
theorem hd_X3_init : yX3_init.cls ≠ "java/lang/invoke/MethodHandle" ∧ yX3_init.cls ≠ "java/lang/invoke/VarHandle" ∧ (parseMethodDescriptor yX3_init.desc).map (fun d => d.parameters.length) = some 0 := ⟨by decide, by decide, by decide +kernel⟩
theorem hd_X2_init : yX2_init.cls ≠ "java/lang/invoke/MethodHandle" ∧ yX2_init.cls ≠ "java/lang/invoke/VarHandle" ∧ (parseMethodDescriptor yX2_init.desc).map (fun d => d.parameters.length) = some 0 := ⟨by decide, by decide, by decide +kernel⟩
theorem hd_X6_init : yX6_init.cls ≠ "java/lang/invoke/MethodHandle" ∧ yX6_init.cls ≠ "java/lang/invoke/VarHandle" ∧ (parseMethodDescriptor yX6_init.desc).map (fun d => d.parameters.length) = some 0 := ⟨by decide, by decide, by decide +kernel⟩
theorem hd_X1_init : yX1_init.cls ≠ "java/lang/invoke/MethodHandle" ∧ yX1_init.cls ≠ "java/lang/invoke/VarHandle" ∧ (parseMethodDescriptor yX1_init.desc).map (fun d => d.parameters.length) = some 0 := ⟨by decide, by decide, by decide +kernel⟩
theorem hd_X4_init : yX4_init.cls ≠ "java/lang/invoke/MethodHandle" ∧ yX4_init.cls ≠ "java/lang/invoke/VarHandle" ∧ (parseMethodDescriptor yX4_init.desc).map (fun d => d.parameters.length) = some 0 := ⟨by decide, by decide, by decide +kernel⟩
theorem hd_X0_init : yX0_init.cls ≠ "java/lang/invoke/MethodHandle" ∧ yX0_init.cls ≠ "java/lang/invoke/VarHandle" ∧ (parseMethodDescriptor yX0_init.desc).map (fun d => d.parameters.length) = some 0 := ⟨by decide, by decide, by decide +kernel⟩
theorem hd_X0_clear : yX0_clear.cls ≠ "java/lang/invoke/MethodHandle" ∧ yX0_clear.cls ≠ "java/lang/invoke/VarHandle" ∧ (parseMethodDescriptor yX0_clear.desc).map (fun d => d.parameters.length) = some 0 := ⟨by decide, by decide, by decide +kernel⟩
theorem hd_X5_init : yX5_init.cls ≠ "java/lang/invoke/MethodHandle" ∧ yX5_init.cls ≠ "java/lang/invoke/VarHandle" ∧ (parseMethodDescriptor yX5_init.desc).map (fun d => d.parameters.length) = some 2 := ⟨by decide, by decide, by decide +kernel⟩
theorem hd_X11_feed : yX11_feed.cls ≠ "java/lang/invoke/MethodHandle" ∧ yX11_feed.cls ≠ "java/lang/invoke/VarHandle" ∧ (parseMethodDescriptor yX11_feed.desc).map (fun d => d.parameters.length) = some 3 := ⟨by decide, by decide, by decide +kernel⟩
theorem hd_X8_addBytes : yX8_addBytes.cls ≠ "java/lang/invoke/MethodHandle" ∧ yX8_addBytes.cls ≠ "java/lang/invoke/VarHandle" ∧ (parseMethodDescriptor yX8_addBytes.desc).map (fun d => d.parameters.length) = some 1 := ⟨by decide, by decide, by decide +kernel⟩
theorem hd_X11_abbey : yX11_abbey.cls ≠ "java/lang/invoke/MethodHandle" ∧ yX11_abbey.cls ≠ "java/lang/invoke/VarHandle" ∧ (parseMethodDescriptor yX11_abbey.desc).map (fun d => d.parameters.length) = some 0 := ⟨by decide, by decide, by decide +kernel⟩
theorem hd_X5_readAbbey : yX5_readAbbey.cls ≠ "java/lang/invoke/MethodHandle" ∧ yX5_readAbbey.cls ≠ "java/lang/invoke/VarHandle" ∧ (parseMethodDescriptor yX5_readAbbey.desc).map (fun d => d.parameters.length) = some 1 := ⟨by decide, by decide, by decide +kernel⟩
theorem hd_X5_begin : yX5_begin.cls ≠ "java/lang/invoke/MethodHandle" ∧ yX5_begin.cls ≠ "java/lang/invoke/VarHandle" ∧ (parseMethodDescriptor yX5_begin.desc).map (fun d => d.parameters.length) = some 1 := ⟨by decide, by decide, by decide +kernel⟩
theorem hd_X8_begin : yX8_begin.cls ≠ "java/lang/invoke/MethodHandle" ∧ yX8_begin.cls ≠ "java/lang/invoke/VarHandle" ∧ (parseMethodDescriptor yX8_begin.desc).map (fun d => d.parameters.length) = some 0 := ⟨by decide, by decide, by decide +kernel⟩
theorem hd_X8_advance : yX8_advance.cls ≠ "java/lang/invoke/MethodHandle" ∧ yX8_advance.cls ≠ "java/lang/invoke/VarHandle" ∧ (parseMethodDescriptor yX8_advance.desc).map (fun d => d.parameters.length) = some 0 := ⟨by decide, by decide, by decide +kernel⟩
theorem hd_X8_readLetters : yX8_readLetters.cls ≠ "java/lang/invoke/MethodHandle" ∧ yX8_readLetters.cls ≠ "java/lang/invoke/VarHandle" ∧ (parseMethodDescriptor yX8_readLetters.desc).map (fun d => d.parameters.length) = some 0 := ⟨by decide, by decide, by decide +kernel⟩
theorem hd_X10_of : yX10_of.cls ≠ "java/lang/invoke/MethodHandle" ∧ yX10_of.cls ≠ "java/lang/invoke/VarHandle" ∧ (parseMethodDescriptor yX10_of.desc).map (fun d => d.parameters.length) = some 1 := ⟨by decide, by decide, by decide +kernel⟩
theorem hd_X8_readDigits : yX8_readDigits.cls ≠ "java/lang/invoke/MethodHandle" ∧ yX8_readDigits.cls ≠ "java/lang/invoke/VarHandle" ∧ (parseMethodDescriptor yX8_readDigits.desc).map (fun d => d.parameters.length) = some 0 := ⟨by decide, by decide, by decide +kernel⟩
theorem hd_X8_isSign : yX8_isSign.cls ≠ "java/lang/invoke/MethodHandle" ∧ yX8_isSign.cls ≠ "java/lang/invoke/VarHandle" ∧ (parseMethodDescriptor yX8_isSign.desc).map (fun d => d.parameters.length) = some 1 := ⟨by decide, by decide, by decide +kernel⟩
theorem hd_X5_goesOn : yX5_goesOn.cls ≠ "java/lang/invoke/MethodHandle" ∧ yX5_goesOn.cls ≠ "java/lang/invoke/VarHandle" ∧ (parseMethodDescriptor yX5_goesOn.desc).map (fun d => d.parameters.length) = some 0 := ⟨by decide, by decide, by decide +kernel⟩
theorem hd_X5_readThought : yX5_readThought.cls ≠ "java/lang/invoke/MethodHandle" ∧ yX5_readThought.cls ≠ "java/lang/invoke/VarHandle" ∧ (parseMethodDescriptor yX5_readThought.desc).map (fun d => d.parameters.length) = some 0 := ⟨by decide, by decide, by decide +kernel⟩
theorem hd_X5_fail : yX5_fail.cls ≠ "java/lang/invoke/MethodHandle" ∧ yX5_fail.cls ≠ "java/lang/invoke/VarHandle" ∧ (parseMethodDescriptor yX5_fail.desc).map (fun d => d.parameters.length) = some 1 := ⟨by decide, by decide, by decide +kernel⟩
theorem hd_X5_newName : yX5_newName.cls ≠ "java/lang/invoke/MethodHandle" ∧ yX5_newName.cls ≠ "java/lang/invoke/VarHandle" ∧ (parseMethodDescriptor yX5_newName.desc).map (fun d => d.parameters.length) = some 0 := ⟨by decide, by decide, by decide +kernel⟩
theorem hd_X0_thoughtNamed : yX0_thoughtNamed.cls ≠ "java/lang/invoke/MethodHandle" ∧ yX0_thoughtNamed.cls ≠ "java/lang/invoke/VarHandle" ∧ (parseMethodDescriptor yX0_thoughtNamed.desc).map (fun d => d.parameters.length) = some 1 := ⟨by decide, by decide, by decide +kernel⟩
theorem hd_X0_placeOf : yX0_placeOf.cls ≠ "java/lang/invoke/MethodHandle" ∧ yX0_placeOf.cls ≠ "java/lang/invoke/VarHandle" ∧ (parseMethodDescriptor yX0_placeOf.desc).map (fun d => d.parameters.length) = some 3 := ⟨by decide, by decide, by decide +kernel⟩
theorem hd_X0_tenantNamed : yX0_tenantNamed.cls ≠ "java/lang/invoke/MethodHandle" ∧ yX0_tenantNamed.cls ≠ "java/lang/invoke/VarHandle" ∧ (parseMethodDescriptor yX0_tenantNamed.desc).map (fun d => d.parameters.length) = some 1 := ⟨by decide, by decide, by decide +kernel⟩
theorem hd_X5_passUnlessFault : yX5_passUnlessFault.cls ≠ "java/lang/invoke/MethodHandle" ∧ yX5_passUnlessFault.cls ≠ "java/lang/invoke/VarHandle" ∧ (parseMethodDescriptor yX5_passUnlessFault.desc).map (fun d => d.parameters.length) = some 0 := ⟨by decide, by decide, by decide +kernel⟩
theorem hd_X5_passWord : yX5_passWord.cls ≠ "java/lang/invoke/MethodHandle" ∧ yX5_passWord.cls ≠ "java/lang/invoke/VarHandle" ∧ (parseMethodDescriptor yX5_passWord.desc).map (fun d => d.parameters.length) = some 1 := ⟨by decide, by decide, by decide +kernel⟩
theorem hd_X5_numberWithin : yX5_numberWithin.cls ≠ "java/lang/invoke/MethodHandle" ∧ yX5_numberWithin.cls ≠ "java/lang/invoke/VarHandle" ∧ (parseMethodDescriptor yX5_numberWithin.desc).map (fun d => d.parameters.length) = some 2 := ⟨by decide, by decide, by decide +kernel⟩
theorem hd_X5_passSign : yX5_passSign.cls ≠ "java/lang/invoke/MethodHandle" ∧ yX5_passSign.cls ≠ "java/lang/invoke/VarHandle" ∧ (parseMethodDescriptor yX5_passSign.desc).map (fun d => d.parameters.length) = some 1 := ⟨by decide, by decide, by decide +kernel⟩
theorem hd_X0_addThought : yX0_addThought.cls ≠ "java/lang/invoke/MethodHandle" ∧ yX0_addThought.cls ≠ "java/lang/invoke/VarHandle" ∧ (parseMethodDescriptor yX0_addThought.desc).map (fun d => d.parameters.length) = some 3 := ⟨by decide, by decide, by decide +kernel⟩
theorem hd_X5_readFollows : yX5_readFollows.cls ≠ "java/lang/invoke/MethodHandle" ∧ yX5_readFollows.cls ≠ "java/lang/invoke/VarHandle" ∧ (parseMethodDescriptor yX5_readFollows.desc).map (fun d => d.parameters.length) = some 0 := ⟨by decide, by decide, by decide +kernel⟩
theorem hd_X5_thoughtHere : yX5_thoughtHere.cls ≠ "java/lang/invoke/MethodHandle" ∧ yX5_thoughtHere.cls ≠ "java/lang/invoke/VarHandle" ∧ (parseMethodDescriptor yX5_thoughtHere.desc).map (fun d => d.parameters.length) = some 0 := ⟨by decide, by decide, by decide +kernel⟩
theorem hd_X5_foundHere : yX5_foundHere.cls ≠ "java/lang/invoke/MethodHandle" ∧ yX5_foundHere.cls ≠ "java/lang/invoke/VarHandle" ∧ (parseMethodDescriptor yX5_foundHere.desc).map (fun d => d.parameters.length) = some 1 := ⟨by decide, by decide, by decide +kernel⟩
theorem hd_X0_isTold : yX0_isTold.cls ≠ "java/lang/invoke/MethodHandle" ∧ yX0_isTold.cls ≠ "java/lang/invoke/VarHandle" ∧ (parseMethodDescriptor yX0_isTold.desc).map (fun d => d.parameters.length) = some 2 := ⟨by decide, by decide, by decide +kernel⟩
theorem hd_X11_isIn : yX11_isIn.cls ≠ "java/lang/invoke/MethodHandle" ∧ yX11_isIn.cls ≠ "java/lang/invoke/VarHandle" ∧ (parseMethodDescriptor yX11_isIn.desc).map (fun d => d.parameters.length) = some 2 := ⟨by decide, by decide, by decide +kernel⟩
theorem hd_X0_addFollower : yX0_addFollower.cls ≠ "java/lang/invoke/MethodHandle" ∧ yX0_addFollower.cls ≠ "java/lang/invoke/VarHandle" ∧ (parseMethodDescriptor yX0_addFollower.desc).map (fun d => d.parameters.length) = some 2 := ⟨by decide, by decide, by decide +kernel⟩
theorem hd_X5_readTenant : yX5_readTenant.cls ≠ "java/lang/invoke/MethodHandle" ∧ yX5_readTenant.cls ≠ "java/lang/invoke/VarHandle" ∧ (parseMethodDescriptor yX5_readTenant.desc).map (fun d => d.parameters.length) = some 0 := ⟨by decide, by decide, by decide +kernel⟩
theorem hd_X10_isKind : yX10_isKind.cls ≠ "java/lang/invoke/MethodHandle" ∧ yX10_isKind.cls ≠ "java/lang/invoke/VarHandle" ∧ (parseMethodDescriptor yX10_isKind.desc).map (fun d => d.parameters.length) = some 0 := ⟨by decide, by decide, by decide +kernel⟩
theorem hd_X0_addTenant : yX0_addTenant.cls ≠ "java/lang/invoke/MethodHandle" ∧ yX0_addTenant.cls ≠ "java/lang/invoke/VarHandle" ∧ (parseMethodDescriptor yX0_addTenant.desc).map (fun d => d.parameters.length) = some 2 := ⟨by decide, by decide, by decide +kernel⟩
theorem hd_X5_readSetting : yX5_readSetting.cls ≠ "java/lang/invoke/MethodHandle" ∧ yX5_readSetting.cls ≠ "java/lang/invoke/VarHandle" ∧ (parseMethodDescriptor yX5_readSetting.desc).map (fun d => d.parameters.length) = some 1 := ⟨by decide, by decide, by decide +kernel⟩
theorem hd_X5_passOnce : yX5_passOnce.cls ≠ "java/lang/invoke/MethodHandle" ∧ yX5_passOnce.cls ≠ "java/lang/invoke/VarHandle" ∧ (parseMethodDescriptor yX5_passOnce.desc).map (fun d => d.parameters.length) = some 1 := ⟨by decide, by decide, by decide +kernel⟩
theorem hd_X5_readLaw : yX5_readLaw.cls ≠ "java/lang/invoke/MethodHandle" ∧ yX5_readLaw.cls ≠ "java/lang/invoke/VarHandle" ∧ (parseMethodDescriptor yX5_readLaw.desc).map (fun d => d.parameters.length) = some 1 := ⟨by decide, by decide, by decide +kernel⟩
theorem hd_X5_readLevel : yX5_readLevel.cls ≠ "java/lang/invoke/MethodHandle" ∧ yX5_readLevel.cls ≠ "java/lang/invoke/VarHandle" ∧ (parseMethodDescriptor yX5_readLevel.desc).map (fun d => d.parameters.length) = some 2 := ⟨by decide, by decide, by decide +kernel⟩
theorem hd_X5_readPart : yX5_readPart.cls ≠ "java/lang/invoke/MethodHandle" ∧ yX5_readPart.cls ≠ "java/lang/invoke/VarHandle" ∧ (parseMethodDescriptor yX5_readPart.desc).map (fun d => d.parameters.length) = some 1 := ⟨by decide, by decide, by decide +kernel⟩
theorem hd_X10_isFact : yX10_isFact.cls ≠ "java/lang/invoke/MethodHandle" ∧ yX10_isFact.cls ≠ "java/lang/invoke/VarHandle" ∧ (parseMethodDescriptor yX10_isFact.desc).map (fun d => d.parameters.length) = some 0 := ⟨by decide, by decide, by decide +kernel⟩
theorem hd_X0_addCode : yX0_addCode.cls ≠ "java/lang/invoke/MethodHandle" ∧ yX0_addCode.cls ≠ "java/lang/invoke/VarHandle" ∧ (parseMethodDescriptor yX0_addCode.desc).map (fun d => d.parameters.length) = some 1 := ⟨by decide, by decide, by decide +kernel⟩
theorem hd_X5_operationHere : yX5_operationHere.cls ≠ "java/lang/invoke/MethodHandle" ∧ yX5_operationHere.cls ≠ "java/lang/invoke/VarHandle" ∧ (parseMethodDescriptor yX5_operationHere.desc).map (fun d => d.parameters.length) = some 0 := ⟨by decide, by decide, by decide +kernel⟩
theorem hd_X5_levelOf : yX5_levelOf.cls ≠ "java/lang/invoke/MethodHandle" ∧ yX5_levelOf.cls ≠ "java/lang/invoke/VarHandle" ∧ (parseMethodDescriptor yX5_levelOf.desc).map (fun d => d.parameters.length) = some 1 := ⟨by decide, by decide, by decide +kernel⟩
theorem hd_X8_empty : yX8_empty.cls ≠ "java/lang/invoke/MethodHandle" ∧ yX8_empty.cls ≠ "java/lang/invoke/VarHandle" ∧ (parseMethodDescriptor yX8_empty.desc).map (fun d => d.parameters.length) = some 0 := ⟨by decide, by decide, by decide +kernel⟩
theorem hd_X11_beginAnew : yX11_beginAnew.cls ≠ "java/lang/invoke/MethodHandle" ∧ yX11_beginAnew.cls ≠ "java/lang/invoke/VarHandle" ∧ (parseMethodDescriptor yX11_beginAnew.desc).map (fun d => d.parameters.length) = some 0 := ⟨by decide, by decide, by decide +kernel⟩
theorem hd_X3_clear : yX3_clear.cls ≠ "java/lang/invoke/MethodHandle" ∧ yX3_clear.cls ≠ "java/lang/invoke/VarHandle" ∧ (parseMethodDescriptor yX3_clear.desc).map (fun d => d.parameters.length) = some 0 := ⟨by decide, by decide, by decide +kernel⟩
theorem hd_X9_clear : yX9_clear.cls ≠ "java/lang/invoke/MethodHandle" ∧ yX9_clear.cls ≠ "java/lang/invoke/VarHandle" ∧ (parseMethodDescriptor yX9_clear.desc).map (fun d => d.parameters.length) = some 0 := ⟨by decide, by decide, by decide +kernel⟩
theorem hd_X11_years : yX11_years.cls ≠ "java/lang/invoke/MethodHandle" ∧ yX11_years.cls ≠ "java/lang/invoke/VarHandle" ∧ (parseMethodDescriptor yX11_years.desc).map (fun d => d.parameters.length) = some 0 := ⟨by decide, by decide, by decide +kernel⟩
theorem hd_X5_readYears : yX5_readYears.cls ≠ "java/lang/invoke/MethodHandle" ∧ yX5_readYears.cls ≠ "java/lang/invoke/VarHandle" ∧ (parseMethodDescriptor yX5_readYears.desc).map (fun d => d.parameters.length) = some 2 := ⟨by decide, by decide, by decide +kernel⟩
theorem hd_X5_readLine : yX5_readLine.cls ≠ "java/lang/invoke/MethodHandle" ∧ yX5_readLine.cls ≠ "java/lang/invoke/VarHandle" ∧ (parseMethodDescriptor yX5_readLine.desc).map (fun d => d.parameters.length) = some 0 := ⟨by decide, by decide, by decide +kernel⟩
theorem hd_X10_isDeed : yX10_isDeed.cls ≠ "java/lang/invoke/MethodHandle" ∧ yX10_isDeed.cls ≠ "java/lang/invoke/VarHandle" ∧ (parseMethodDescriptor yX10_isDeed.desc).map (fun d => d.parameters.length) = some 0 := ⟨by decide, by decide, by decide +kernel⟩
theorem hd_X5_tenantHere : yX5_tenantHere.cls ≠ "java/lang/invoke/MethodHandle" ∧ yX5_tenantHere.cls ≠ "java/lang/invoke/VarHandle" ∧ (parseMethodDescriptor yX5_tenantHere.desc).map (fun d => d.parameters.length) = some 0 := ⟨by decide, by decide, by decide +kernel⟩
theorem hd_X3_lineOf : yX3_lineOf.cls ≠ "java/lang/invoke/MethodHandle" ∧ yX3_lineOf.cls ≠ "java/lang/invoke/VarHandle" ∧ (parseMethodDescriptor yX3_lineOf.desc).map (fun d => d.parameters.length) = some 3 := ⟨by decide, by decide, by decide +kernel⟩
theorem hd_X11_thought : yX11_thought.cls ≠ "java/lang/invoke/MethodHandle" ∧ yX11_thought.cls ≠ "java/lang/invoke/VarHandle" ∧ (parseMethodDescriptor yX11_thought.desc).map (fun d => d.parameters.length) = some 2 := ⟨by decide, by decide, by decide +kernel⟩
theorem hd_X11_isThought : yX11_isThought.cls ≠ "java/lang/invoke/MethodHandle" ∧ yX11_isThought.cls ≠ "java/lang/invoke/VarHandle" ∧ (parseMethodDescriptor yX11_isThought.desc).map (fun d => d.parameters.length) = some 1 := ⟨by decide, by decide, by decide +kernel⟩
theorem hd_X11_tenant : yX11_tenant.cls ≠ "java/lang/invoke/MethodHandle" ∧ yX11_tenant.cls ≠ "java/lang/invoke/VarHandle" ∧ (parseMethodDescriptor yX11_tenant.desc).map (fun d => d.parameters.length) = some 2 := ⟨by decide, by decide, by decide +kernel⟩
theorem hd_X11_isTenant : yX11_isTenant.cls ≠ "java/lang/invoke/MethodHandle" ∧ yX11_isTenant.cls ≠ "java/lang/invoke/VarHandle" ∧ (parseMethodDescriptor yX11_isTenant.desc).map (fun d => d.parameters.length) = some 1 := ⟨by decide, by decide, by decide +kernel⟩
theorem hd_X7_hasRun : yX7_hasRun.cls ≠ "java/lang/invoke/MethodHandle" ∧ yX7_hasRun.cls ≠ "java/lang/invoke/VarHandle" ∧ (parseMethodDescriptor yX7_hasRun.desc).map (fun d => d.parameters.length) = some 1 := ⟨by decide, by decide, by decide +kernel⟩
theorem hd_X7_canThink : yX7_canThink.cls ≠ "java/lang/invoke/MethodHandle" ∧ yX7_canThink.cls ≠ "java/lang/invoke/VarHandle" ∧ (parseMethodDescriptor yX7_canThink.desc).map (fun d => d.parameters.length) = some 2 := ⟨by decide, by decide, by decide +kernel⟩
theorem hd_X7_mayCome : yX7_mayCome.cls ≠ "java/lang/invoke/MethodHandle" ∧ yX7_mayCome.cls ≠ "java/lang/invoke/VarHandle" ∧ (parseMethodDescriptor yX7_mayCome.desc).map (fun d => d.parameters.length) = some 2 := ⟨by decide, by decide, by decide +kernel⟩
theorem hd_X0_allThoughts : yX0_allThoughts.cls ≠ "java/lang/invoke/MethodHandle" ∧ yX0_allThoughts.cls ≠ "java/lang/invoke/VarHandle" ∧ (parseMethodDescriptor yX0_allThoughts.desc).map (fun d => d.parameters.length) = some 0 := ⟨by decide, by decide, by decide +kernel⟩
theorem hd_X11_keeps : yX11_keeps.cls ≠ "java/lang/invoke/MethodHandle" ∧ yX11_keeps.cls ≠ "java/lang/invoke/VarHandle" ∧ (parseMethodDescriptor yX11_keeps.desc).map (fun d => d.parameters.length) = some 2 := ⟨by decide, by decide, by decide +kernel⟩
theorem hd_X11_areBoth : yX11_areBoth.cls ≠ "java/lang/invoke/MethodHandle" ∧ yX11_areBoth.cls ≠ "java/lang/invoke/VarHandle" ∧ (parseMethodDescriptor yX11_areBoth.desc).map (fun d => d.parameters.length) = some 2 := ⟨by decide, by decide, by decide +kernel⟩
theorem hd_X7_keptOf : yX7_keptOf.cls ≠ "java/lang/invoke/MethodHandle" ∧ yX7_keptOf.cls ≠ "java/lang/invoke/VarHandle" ∧ (parseMethodDescriptor yX7_keptOf.desc).map (fun d => d.parameters.length) = some 2 := ⟨by decide, by decide, by decide +kernel⟩
theorem hd_X11_count : yX11_count.cls ≠ "java/lang/invoke/MethodHandle" ∧ yX11_count.cls ≠ "java/lang/invoke/VarHandle" ∧ (parseMethodDescriptor yX11_count.desc).map (fun d => d.parameters.length) = some 1 := ⟨by decide, by decide, by decide +kernel⟩
theorem hd_X11_worthInBarn : yX11_worthInBarn.cls ≠ "java/lang/invoke/MethodHandle" ∧ yX11_worthInBarn.cls ≠ "java/lang/invoke/VarHandle" ∧ (parseMethodDescriptor yX11_worthInBarn.desc).map (fun d => d.parameters.length) = some 0 := ⟨by decide, by decide, by decide +kernel⟩
theorem hd_X11_think : yX11_think.cls ≠ "java/lang/invoke/MethodHandle" ∧ yX11_think.cls ≠ "java/lang/invoke/VarHandle" ∧ (parseMethodDescriptor yX11_think.desc).map (fun d => d.parameters.length) = some 2 := ⟨by decide, by decide, by decide +kernel⟩
theorem hd_X7_mayThink : yX7_mayThink.cls ≠ "java/lang/invoke/MethodHandle" ∧ yX7_mayThink.cls ≠ "java/lang/invoke/VarHandle" ∧ (parseMethodDescriptor yX7_mayThink.desc).map (fun d => d.parameters.length) = some 3 := ⟨by decide, by decide, by decide +kernel⟩
theorem hd_X9_hold : yX9_hold.cls ≠ "java/lang/invoke/MethodHandle" ∧ yX9_hold.cls ≠ "java/lang/invoke/VarHandle" ∧ (parseMethodDescriptor yX9_hold.desc).map (fun d => d.parameters.length) = some 1 := ⟨by decide, by decide, by decide +kernel⟩
theorem hd_X7_copy : yX7_copy.cls ≠ "java/lang/invoke/MethodHandle" ∧ yX7_copy.cls ≠ "java/lang/invoke/VarHandle" ∧ (parseMethodDescriptor yX7_copy.desc).map (fun d => d.parameters.length) = some 1 := ⟨by decide, by decide, by decide +kernel⟩
theorem hd_J9_min_7cf53 : yJ9_min_7cf53.cls ≠ "java/lang/invoke/MethodHandle" ∧ yJ9_min_7cf53.cls ≠ "java/lang/invoke/VarHandle" ∧ (parseMethodDescriptor yJ9_min_7cf53.desc).map (fun d => d.parameters.length) = some 2 := ⟨by decide, by decide, by decide +kernel⟩
theorem hd_X7_thinkOf : yX7_thinkOf.cls ≠ "java/lang/invoke/MethodHandle" ∧ yX7_thinkOf.cls ≠ "java/lang/invoke/VarHandle" ∧ (parseMethodDescriptor yX7_thinkOf.desc).map (fun d => d.parameters.length) = some 4 := ⟨by decide, by decide, by decide +kernel⟩
theorem hd_X7_nextCounted : yX7_nextCounted.cls ≠ "java/lang/invoke/MethodHandle" ∧ yX7_nextCounted.cls ≠ "java/lang/invoke/VarHandle" ∧ (parseMethodDescriptor yX7_nextCounted.desc).map (fun d => d.parameters.length) = some 2 := ⟨by decide, by decide, by decide +kernel⟩
theorem hd_X0_gainOf : yX0_gainOf.cls ≠ "java/lang/invoke/MethodHandle" ∧ yX0_gainOf.cls ≠ "java/lang/invoke/VarHandle" ∧ (parseMethodDescriptor yX0_gainOf.desc).map (fun d => d.parameters.length) = some 3 := ⟨by decide, by decide, by decide +kernel⟩
theorem hd_X0_valueOf : yX0_valueOf.cls ≠ "java/lang/invoke/MethodHandle" ∧ yX0_valueOf.cls ≠ "java/lang/invoke/VarHandle" ∧ (parseMethodDescriptor yX0_valueOf.desc).map (fun d => d.parameters.length) = some 6 := ⟨by decide, by decide, by decide +kernel⟩
theorem hd_X0_factOf : yX0_factOf.cls ≠ "java/lang/invoke/MethodHandle" ∧ yX0_factOf.cls ≠ "java/lang/invoke/VarHandle" ∧ (parseMethodDescriptor yX0_factOf.desc).map (fun d => d.parameters.length) = some 5 := ⟨by decide, by decide, by decide +kernel⟩
theorem hd_X0_joined : yX0_joined.cls ≠ "java/lang/invoke/MethodHandle" ∧ yX0_joined.cls ≠ "java/lang/invoke/VarHandle" ∧ (parseMethodDescriptor yX0_joined.desc).map (fun d => d.parameters.length) = some 3 := ⟨by decide, by decide, by decide +kernel⟩
theorem hd_J9_max_7cf53 : yJ9_max_7cf53.cls ≠ "java/lang/invoke/MethodHandle" ∧ yJ9_max_7cf53.cls ≠ "java/lang/invoke/VarHandle" ∧ (parseMethodDescriptor yJ9_max_7cf53.desc).map (fun d => d.parameters.length) = some 2 := ⟨by decide, by decide, by decide +kernel⟩
theorem hd_X7_isDue : yX7_isDue.cls ≠ "java/lang/invoke/MethodHandle" ∧ yX7_isDue.cls ≠ "java/lang/invoke/VarHandle" ∧ (parseMethodDescriptor yX7_isDue.desc).map (fun d => d.parameters.length) = some 3 := ⟨by decide, by decide, by decide +kernel⟩
theorem hd_X7_pay : yX7_pay.cls ≠ "java/lang/invoke/MethodHandle" ∧ yX7_pay.cls ≠ "java/lang/invoke/VarHandle" ∧ (parseMethodDescriptor yX7_pay.desc).map (fun d => d.parameters.length) = some 4 := ⟨by decide, by decide, by decide +kernel⟩
theorem hd_X7_placeOfLeast : yX7_placeOfLeast.cls ≠ "java/lang/invoke/MethodHandle" ∧ yX7_placeOfLeast.cls ≠ "java/lang/invoke/VarHandle" ∧ (parseMethodDescriptor yX7_placeOfLeast.desc).map (fun d => d.parameters.length) = some 2 := ⟨by decide, by decide, by decide +kernel⟩
theorem hd_X7_countedAt : yX7_countedAt.cls ≠ "java/lang/invoke/MethodHandle" ∧ yX7_countedAt.cls ≠ "java/lang/invoke/VarHandle" ∧ (parseMethodDescriptor yX7_countedAt.desc).map (fun d => d.parameters.length) = some 2 := ⟨by decide, by decide, by decide +kernel⟩
theorem hd_X7_keep : yX7_keep.cls ≠ "java/lang/invoke/MethodHandle" ∧ yX7_keep.cls ≠ "java/lang/invoke/VarHandle" ∧ (parseMethodDescriptor yX7_keep.desc).map (fun d => d.parameters.length) = some 3 := ⟨by decide, by decide, by decide +kernel⟩
theorem hd_X11_gate : yX11_gate.cls ≠ "java/lang/invoke/MethodHandle" ∧ yX11_gate.cls ≠ "java/lang/invoke/VarHandle" ∧ (parseMethodDescriptor yX11_gate.desc).map (fun d => d.parameters.length) = some 1 := ⟨by decide, by decide, by decide +kernel⟩
theorem hd_X7_goBack : yX7_goBack.cls ≠ "java/lang/invoke/MethodHandle" ∧ yX7_goBack.cls ≠ "java/lang/invoke/VarHandle" ∧ (parseMethodDescriptor yX7_goBack.desc).map (fun d => d.parameters.length) = some 2 := ⟨by decide, by decide, by decide +kernel⟩
theorem hd_X0_countedBehindGate : yX0_countedBehindGate.cls ≠ "java/lang/invoke/MethodHandle" ∧ yX0_countedBehindGate.cls ≠ "java/lang/invoke/VarHandle" ∧ (parseMethodDescriptor yX0_countedBehindGate.desc).map (fun d => d.parameters.length) = some 3 := ⟨by decide, by decide, by decide +kernel⟩
theorem hd_X11_pool : yX11_pool.cls ≠ "java/lang/invoke/MethodHandle" ∧ yX11_pool.cls ≠ "java/lang/invoke/VarHandle" ∧ (parseMethodDescriptor yX11_pool.desc).map (fun d => d.parameters.length) = some 2 := ⟨by decide, by decide, by decide +kernel⟩
theorem hd_X7_mayGive : yX7_mayGive.cls ≠ "java/lang/invoke/MethodHandle" ∧ yX7_mayGive.cls ≠ "java/lang/invoke/VarHandle" ∧ (parseMethodDescriptor yX7_mayGive.desc).map (fun d => d.parameters.length) = some 2 := ⟨by decide, by decide, by decide +kernel⟩
theorem hd_X7_give : yX7_give.cls ≠ "java/lang/invoke/MethodHandle" ∧ yX7_give.cls ≠ "java/lang/invoke/VarHandle" ∧ (parseMethodDescriptor yX7_give.desc).map (fun d => d.parameters.length) = some 2 := ⟨by decide, by decide, by decide +kernel⟩
theorem hd_X11_undo : yX11_undo.cls ≠ "java/lang/invoke/MethodHandle" ∧ yX11_undo.cls ≠ "java/lang/invoke/VarHandle" ∧ (parseMethodDescriptor yX11_undo.desc).map (fun d => d.parameters.length) = some 0 := ⟨by decide, by decide, by decide +kernel⟩
theorem hd_X9_takeBack : yX9_takeBack.cls ≠ "java/lang/invoke/MethodHandle" ∧ yX9_takeBack.cls ≠ "java/lang/invoke/VarHandle" ∧ (parseMethodDescriptor yX9_takeBack.desc).map (fun d => d.parameters.length) = some 1 := ⟨by decide, by decide, by decide +kernel⟩
theorem hd_X11_mark : yX11_mark.cls ≠ "java/lang/invoke/MethodHandle" ∧ yX11_mark.cls ≠ "java/lang/invoke/VarHandle" ∧ (parseMethodDescriptor yX11_mark.desc).map (fun d => d.parameters.length) = some 2 := ⟨by decide, by decide, by decide +kernel⟩
theorem hd_X3_copy : yX3_copy.cls ≠ "java/lang/invoke/MethodHandle" ∧ yX3_copy.cls ≠ "java/lang/invoke/VarHandle" ∧ (parseMethodDescriptor yX3_copy.desc).map (fun d => d.parameters.length) = some 1 := ⟨by decide, by decide, by decide +kernel⟩
theorem hd_X11_other : yX11_other.cls ≠ "java/lang/invoke/MethodHandle" ∧ yX11_other.cls ≠ "java/lang/invoke/VarHandle" ∧ (parseMethodDescriptor yX11_other.desc).map (fun d => d.parameters.length) = some 1 := ⟨by decide, by decide, by decide +kernel⟩
theorem hd_X2_liveYears : yX2_liveYears.cls ≠ "java/lang/invoke/MethodHandle" ∧ yX2_liveYears.cls ≠ "java/lang/invoke/VarHandle" ∧ (parseMethodDescriptor yX2_liveYears.desc).map (fun d => d.parameters.length) = some 3 := ⟨by decide, by decide, by decide +kernel⟩
theorem hd_X2_live : yX2_live.cls ≠ "java/lang/invoke/MethodHandle" ∧ yX2_live.cls ≠ "java/lang/invoke/VarHandle" ∧ (parseMethodDescriptor yX2_live.desc).map (fun d => d.parameters.length) = some 3 := ⟨by decide, by decide, by decide +kernel⟩
theorem hd_X2_tryThink : yX2_tryThink.cls ≠ "java/lang/invoke/MethodHandle" ∧ yX2_tryThink.cls ≠ "java/lang/invoke/VarHandle" ∧ (parseMethodDescriptor yX2_tryThink.desc).map (fun d => d.parameters.length) = some 4 := ⟨by decide, by decide, by decide +kernel⟩
theorem hd_X2_tryGate : yX2_tryGate.cls ≠ "java/lang/invoke/MethodHandle" ∧ yX2_tryGate.cls ≠ "java/lang/invoke/VarHandle" ∧ (parseMethodDescriptor yX2_tryGate.desc).map (fun d => d.parameters.length) = some 2 := ⟨by decide, by decide, by decide +kernel⟩
theorem hd_X2_tryPool : yX2_tryPool.cls ≠ "java/lang/invoke/MethodHandle" ∧ yX2_tryPool.cls ≠ "java/lang/invoke/VarHandle" ∧ (parseMethodDescriptor yX2_tryPool.desc).map (fun d => d.parameters.length) = some 2 := ⟨by decide, by decide, by decide +kernel⟩
theorem hd_X11_tithed : yX11_tithed.cls ≠ "java/lang/invoke/MethodHandle" ∧ yX11_tithed.cls ≠ "java/lang/invoke/VarHandle" ∧ (parseMethodDescriptor yX11_tithed.desc).map (fun d => d.parameters.length) = some 2 := ⟨by decide, by decide, by decide +kernel⟩
theorem hd_X0_afterAny : yX0_afterAny.cls ≠ "java/lang/invoke/MethodHandle" ∧ yX0_afterAny.cls ≠ "java/lang/invoke/VarHandle" ∧ (parseMethodDescriptor yX0_afterAny.desc).map (fun d => d.parameters.length) = some 1 := ⟨by decide, by decide, by decide +kernel⟩
theorem hd_X11_ways : yX11_ways.cls ≠ "java/lang/invoke/MethodHandle" ∧ yX11_ways.cls ≠ "java/lang/invoke/VarHandle" ∧ (parseMethodDescriptor yX11_ways.desc).map (fun d => d.parameters.length) = some 3 := ⟨by decide, by decide, by decide +kernel⟩
theorem hd_X6_begin : yX6_begin.cls ≠ "java/lang/invoke/MethodHandle" ∧ yX6_begin.cls ≠ "java/lang/invoke/VarHandle" ∧ (parseMethodDescriptor yX6_begin.desc).map (fun d => d.parameters.length) = some 2 := ⟨by decide, by decide, by decide +kernel⟩
theorem hd_X6_follow : yX6_follow.cls ≠ "java/lang/invoke/MethodHandle" ∧ yX6_follow.cls ≠ "java/lang/invoke/VarHandle" ∧ (parseMethodDescriptor yX6_follow.desc).map (fun d => d.parameters.length) = some 2 := ⟨by decide, by decide, by decide +kernel⟩
theorem hd_J6_bitCount_0f7a4 : yJ6_bitCount_0f7a4.cls ≠ "java/lang/invoke/MethodHandle" ∧ yJ6_bitCount_0f7a4.cls ≠ "java/lang/invoke/VarHandle" ∧ (parseMethodDescriptor yJ6_bitCount_0f7a4.desc).map (fun d => d.parameters.length) = some 1 := ⟨by decide, by decide, by decide +kernel⟩
theorem hd_X6_handOn : yX6_handOn.cls ≠ "java/lang/invoke/MethodHandle" ∧ yX6_handOn.cls ≠ "java/lang/invoke/VarHandle" ∧ (parseMethodDescriptor yX6_handOn.desc).map (fun d => d.parameters.length) = some 2 := ⟨by decide, by decide, by decide +kernel⟩
theorem hd_X11_chance : yX11_chance.cls ≠ "java/lang/invoke/MethodHandle" ∧ yX11_chance.cls ≠ "java/lang/invoke/VarHandle" ∧ (parseMethodDescriptor yX11_chance.desc).map (fun d => d.parameters.length) = some 2 := ⟨by decide, by decide, by decide +kernel⟩
theorem hd_X11_safe : yX11_safe.cls ≠ "java/lang/invoke/MethodHandle" ∧ yX11_safe.cls ≠ "java/lang/invoke/VarHandle" ∧ (parseMethodDescriptor yX11_safe.desc).map (fun d => d.parameters.length) = some 1 := ⟨by decide, by decide, by decide +kernel⟩
theorem hd_X11_dead : yX11_dead.cls ≠ "java/lang/invoke/MethodHandle" ∧ yX11_dead.cls ≠ "java/lang/invoke/VarHandle" ∧ (parseMethodDescriptor yX11_dead.desc).map (fun d => d.parameters.length) = some 0 := ⟨by decide, by decide, by decide +kernel⟩
theorem hd_X11_ring : yX11_ring.cls ≠ "java/lang/invoke/MethodHandle" ∧ yX11_ring.cls ≠ "java/lang/invoke/VarHandle" ∧ (parseMethodDescriptor yX11_ring.desc).map (fun d => d.parameters.length) = some 1 := ⟨by decide, by decide, by decide +kernel⟩
theorem hd_X11_holders : yX11_holders.cls ≠ "java/lang/invoke/MethodHandle" ∧ yX11_holders.cls ≠ "java/lang/invoke/VarHandle" ∧ (parseMethodDescriptor yX11_holders.desc).map (fun d => d.parameters.length) = some 1 := ⟨by decide, by decide, by decide +kernel⟩
theorem hd_X11_keptParts : yX11_keptParts.cls ≠ "java/lang/invoke/MethodHandle" ∧ yX11_keptParts.cls ≠ "java/lang/invoke/VarHandle" ∧ (parseMethodDescriptor yX11_keptParts.desc).map (fun d => d.parameters.length) = some 1 := ⟨by decide, by decide, by decide +kernel⟩
theorem hd_X11_partBit : yX11_partBit.cls ≠ "java/lang/invoke/MethodHandle" ∧ yX11_partBit.cls ≠ "java/lang/invoke/VarHandle" ∧ (parseMethodDescriptor yX11_partBit.desc).map (fun d => d.parameters.length) = some 1 := ⟨by decide, by decide, by decide +kernel⟩
theorem hd_X11_lacks : yX11_lacks.cls ≠ "java/lang/invoke/MethodHandle" ∧ yX11_lacks.cls ≠ "java/lang/invoke/VarHandle" ∧ (parseMethodDescriptor yX11_lacks.desc).map (fun d => d.parameters.length) = some 0 := ⟨by decide, by decide, by decide +kernel⟩
theorem hd_X0_allParts : yX0_allParts.cls ≠ "java/lang/invoke/MethodHandle" ∧ yX0_allParts.cls ≠ "java/lang/invoke/VarHandle" ∧ (parseMethodDescriptor yX0_allParts.desc).map (fun d => d.parameters.length) = some 0 := ⟨by decide, by decide, by decide +kernel⟩
theorem hd_X11_givers : yX11_givers.cls ≠ "java/lang/invoke/MethodHandle" ∧ yX11_givers.cls ≠ "java/lang/invoke/VarHandle" ∧ (parseMethodDescriptor yX11_givers.desc).map (fun d => d.parameters.length) = some 0 := ⟨by decide, by decide, by decide +kernel⟩
theorem hd_X11_partsOfAll : yX11_partsOfAll.cls ≠ "java/lang/invoke/MethodHandle" ∧ yX11_partsOfAll.cls ≠ "java/lang/invoke/VarHandle" ∧ (parseMethodDescriptor yX11_partsOfAll.desc).map (fun d => d.parameters.length) = some 1 := ⟨by decide, by decide, by decide +kernel⟩
theorem hd_X11_dowry : yX11_dowry.cls ≠ "java/lang/invoke/MethodHandle" ∧ yX11_dowry.cls ≠ "java/lang/invoke/VarHandle" ∧ (parseMethodDescriptor yX11_dowry.desc).map (fun d => d.parameters.length) = some 1 := ⟨by decide, by decide, by decide +kernel⟩
theorem hd_X7_worthKept : yX7_worthKept.cls ≠ "java/lang/invoke/MethodHandle" ∧ yX7_worthKept.cls ≠ "java/lang/invoke/VarHandle" ∧ (parseMethodDescriptor yX7_worthKept.desc).map (fun d => d.parameters.length) = some 2 := ⟨by decide, by decide, by decide +kernel⟩
theorem hd_X11_poorest : yX11_poorest.cls ≠ "java/lang/invoke/MethodHandle" ∧ yX11_poorest.cls ≠ "java/lang/invoke/VarHandle" ∧ (parseMethodDescriptor yX11_poorest.desc).map (fun d => d.parameters.length) = some 0 := ⟨by decide, by decide, by decide +kernel⟩
theorem hd_X11_match : yX11_match.cls ≠ "java/lang/invoke/MethodHandle" ∧ yX11_match.cls ≠ "java/lang/invoke/VarHandle" ∧ (parseMethodDescriptor yX11_match.desc).map (fun d => d.parameters.length) = some 1 := ⟨by decide, by decide, by decide +kernel⟩
theorem hd_X4_find : yX4_find.cls ≠ "java/lang/invoke/MethodHandle" ∧ yX4_find.cls ≠ "java/lang/invoke/VarHandle" ∧ (parseMethodDescriptor yX4_find.desc).map (fun d => d.parameters.length) = some 2 := ⟨by decide, by decide, by decide +kernel⟩
theorem hd_X4_pairFrom : yX4_pairFrom.cls ≠ "java/lang/invoke/MethodHandle" ∧ yX4_pairFrom.cls ≠ "java/lang/invoke/VarHandle" ∧ (parseMethodDescriptor yX4_pairFrom.desc).map (fun d => d.parameters.length) = some 3 := ⟨by decide, by decide, by decide +kernel⟩
theorem hd_X11_guess : yX11_guess.cls ≠ "java/lang/invoke/MethodHandle" ∧ yX11_guess.cls ≠ "java/lang/invoke/VarHandle" ∧ (parseMethodDescriptor yX11_guess.desc).map (fun d => d.parameters.length) = some 2 := ⟨by decide, by decide, by decide +kernel⟩
theorem hd_X11_fits : yX11_fits.cls ≠ "java/lang/invoke/MethodHandle" ∧ yX11_fits.cls ≠ "java/lang/invoke/VarHandle" ∧ (parseMethodDescriptor yX11_fits.desc).map (fun d => d.parameters.length) = some 0 := ⟨by decide, by decide, by decide +kernel⟩
theorem hd_X3_allowsGuessed : yX3_allowsGuessed.cls ≠ "java/lang/invoke/MethodHandle" ∧ yX3_allowsGuessed.cls ≠ "java/lang/invoke/VarHandle" ∧ (parseMethodDescriptor yX3_allowsGuessed.desc).map (fun d => d.parameters.length) = some 1 := ⟨by decide, by decide, by decide +kernel⟩
theorem hd_X11_ask : yX11_ask.cls ≠ "java/lang/invoke/MethodHandle" ∧ yX11_ask.cls ≠ "java/lang/invoke/VarHandle" ∧ (parseMethodDescriptor yX11_ask.desc).map (fun d => d.parameters.length) = some 0 := ⟨by decide, by decide, by decide +kernel⟩
theorem hd_X0_before : yX0_before.cls ≠ "java/lang/invoke/MethodHandle" ∧ yX0_before.cls ≠ "java/lang/invoke/VarHandle" ∧ (parseMethodDescriptor yX0_before.desc).map (fun d => d.parameters.length) = some 1 := ⟨by decide, by decide, by decide +kernel⟩
theorem hd_L_judged : yL_judged.cls ≠ "java/lang/invoke/MethodHandle" ∧ yL_judged.cls ≠ "java/lang/invoke/VarHandle" ∧ (parseMethodDescriptor yL_judged.desc).map (fun d => d.parameters.length) = some 3 := ⟨by decide, by decide, by decide +kernel⟩
theorem hd_X11_judged : yX11_judged.cls ≠ "java/lang/invoke/MethodHandle" ∧ yX11_judged.cls ≠ "java/lang/invoke/VarHandle" ∧ (parseMethodDescriptor yX11_judged.desc).map (fun d => d.parameters.length) = some 1 := ⟨by decide, by decide, by decide +kernel⟩
theorem hd_X7_gainedByAll : yX7_gainedByAll.cls ≠ "java/lang/invoke/MethodHandle" ∧ yX7_gainedByAll.cls ≠ "java/lang/invoke/VarHandle" ∧ (parseMethodDescriptor yX7_gainedByAll.desc).map (fun d => d.parameters.length) = some 0 := ⟨by decide, by decide, by decide +kernel⟩
theorem hd_L_best : yL_best.cls ≠ "java/lang/invoke/MethodHandle" ∧ yL_best.cls ≠ "java/lang/invoke/VarHandle" ∧ (parseMethodDescriptor yL_best.desc).map (fun d => d.parameters.length) = some 5 := ⟨by decide, by decide, by decide +kernel⟩
theorem hd_X11_best : yX11_best.cls ≠ "java/lang/invoke/MethodHandle" ∧ yX11_best.cls ≠ "java/lang/invoke/VarHandle" ∧ (parseMethodDescriptor yX11_best.desc).map (fun d => d.parameters.length) = some 3 := ⟨by decide, by decide, by decide +kernel⟩
theorem hd_X1_find : yX1_find.cls ≠ "java/lang/invoke/MethodHandle" ∧ yX1_find.cls ≠ "java/lang/invoke/VarHandle" ∧ (parseMethodDescriptor yX1_find.desc).map (fun d => d.parameters.length) = some 4 := ⟨by decide, by decide, by decide +kernel⟩
theorem hd_X1_foresee : yX1_foresee.cls ≠ "java/lang/invoke/MethodHandle" ∧ yX1_foresee.cls ≠ "java/lang/invoke/VarHandle" ∧ (parseMethodDescriptor yX1_foresee.desc).map (fun d => d.parameters.length) = some 3 := ⟨by decide, by decide, by decide +kernel⟩
theorem hd_X7_leastCounted : yX7_leastCounted.cls ≠ "java/lang/invoke/MethodHandle" ∧ yX7_leastCounted.cls ≠ "java/lang/invoke/VarHandle" ∧ (parseMethodDescriptor yX7_leastCounted.desc).map (fun d => d.parameters.length) = some 2 := ⟨by decide, by decide, by decide +kernel⟩
theorem hd_X1_mostFrom : yX1_mostFrom.cls ≠ "java/lang/invoke/MethodHandle" ∧ yX1_mostFrom.cls ≠ "java/lang/invoke/VarHandle" ∧ (parseMethodDescriptor yX1_mostFrom.desc).map (fun d => d.parameters.length) = some 4 := ⟨by decide, by decide, by decide +kernel⟩
theorem hd_X1_mostWith : yX1_mostWith.cls ≠ "java/lang/invoke/MethodHandle" ∧ yX1_mostWith.cls ≠ "java/lang/invoke/VarHandle" ∧ (parseMethodDescriptor yX1_mostWith.desc).map (fun d => d.parameters.length) = some 4 := ⟨by decide, by decide, by decide +kernel⟩
theorem hd_X1_gainAt : yX1_gainAt.cls ≠ "java/lang/invoke/MethodHandle" ∧ yX1_gainAt.cls ≠ "java/lang/invoke/VarHandle" ∧ (parseMethodDescriptor yX1_gainAt.desc).map (fun d => d.parameters.length) = some 4 := ⟨by decide, by decide, by decide +kernel⟩
theorem hd_X1_runsAt : yX1_runsAt.cls ≠ "java/lang/invoke/MethodHandle" ∧ yX1_runsAt.cls ≠ "java/lang/invoke/VarHandle" ∧ (parseMethodDescriptor yX1_runsAt.desc).map (fun d => d.parameters.length) = some 3 := ⟨by decide, by decide, by decide +kernel⟩
theorem hd_X1_leastBehind : yX1_leastBehind.cls ≠ "java/lang/invoke/MethodHandle" ∧ yX1_leastBehind.cls ≠ "java/lang/invoke/VarHandle" ∧ (parseMethodDescriptor yX1_leastBehind.desc).map (fun d => d.parameters.length) = some 4 := ⟨by decide, by decide, by decide +kernel⟩
theorem hd_X1_choose : yX1_choose.cls ≠ "java/lang/invoke/MethodHandle" ∧ yX1_choose.cls ≠ "java/lang/invoke/VarHandle" ∧ (parseMethodDescriptor yX1_choose.desc).map (fun d => d.parameters.length) = some 3 := ⟨by decide, by decide, by decide +kernel⟩
theorem hd_L_rests : yL_rests.cls ≠ "java/lang/invoke/MethodHandle" ∧ yL_rests.cls ≠ "java/lang/invoke/VarHandle" ∧ (parseMethodDescriptor yL_rests.desc).map (fun d => d.parameters.length) = some 6 := ⟨by decide, by decide, by decide +kernel⟩
theorem hd_X11_rests : yX11_rests.cls ≠ "java/lang/invoke/MethodHandle" ∧ yX11_rests.cls ≠ "java/lang/invoke/VarHandle" ∧ (parseMethodDescriptor yX11_rests.desc).map (fun d => d.parameters.length) = some 4 := ⟨by decide, by decide, by decide +kernel⟩
theorem hd_X11_isStake : yX11_isStake.cls ≠ "java/lang/invoke/MethodHandle" ∧ yX11_isStake.cls ≠ "java/lang/invoke/VarHandle" ∧ (parseMethodDescriptor yX11_isStake.desc).map (fun d => d.parameters.length) = some 1 := ⟨by decide, by decide, by decide +kernel⟩
theorem hd_X11_isContent : yX11_isContent.cls ≠ "java/lang/invoke/MethodHandle" ∧ yX11_isContent.cls ≠ "java/lang/invoke/VarHandle" ∧ (parseMethodDescriptor yX11_isContent.desc).map (fun d => d.parameters.length) = some 5 := ⟨by decide, by decide, by decide +kernel⟩
theorem hd_X11_gotBy : yX11_gotBy.cls ≠ "java/lang/invoke/MethodHandle" ∧ yX11_gotBy.cls ≠ "java/lang/invoke/VarHandle" ∧ (parseMethodDescriptor yX11_gotBy.desc).map (fun d => d.parameters.length) = some 5 := ⟨by decide, by decide, by decide +kernel⟩
theorem hd_L_lives : yL_lives.cls ≠ "java/lang/invoke/MethodHandle" ∧ yL_lives.cls ≠ "java/lang/invoke/VarHandle" ∧ (parseMethodDescriptor yL_lives.desc).map (fun d => d.parameters.length) = some 5 := ⟨by decide, by decide, by decide +kernel⟩
theorem hd_X11_lives : yX11_lives.cls ≠ "java/lang/invoke/MethodHandle" ∧ yX11_lives.cls ≠ "java/lang/invoke/VarHandle" ∧ (parseMethodDescriptor yX11_lives.desc).map (fun d => d.parameters.length) = some 3 := ⟨by decide, by decide, by decide +kernel⟩
theorem hd_X2_liveByDraws : yX2_liveByDraws.cls ≠ "java/lang/invoke/MethodHandle" ∧ yX2_liveByDraws.cls ≠ "java/lang/invoke/VarHandle" ∧ (parseMethodDescriptor yX2_liveByDraws.desc).map (fun d => d.parameters.length) = some 4 := ⟨by decide, by decide, by decide +kernel⟩
theorem hd_X2_drawBelow : yX2_drawBelow.cls ≠ "java/lang/invoke/MethodHandle" ∧ yX2_drawBelow.cls ≠ "java/lang/invoke/VarHandle" ∧ (parseMethodDescriptor yX2_drawBelow.desc).map (fun d => d.parameters.length) = some 1 := ⟨by decide, by decide, by decide +kernel⟩
theorem hd_X12_init : yX12_init.cls ≠ "java/lang/invoke/MethodHandle" ∧ yX12_init.cls ≠ "java/lang/invoke/VarHandle" ∧ (parseMethodDescriptor yX12_init.desc).map (fun d => d.parameters.length) = some 0 := ⟨by decide, by decide, by decide +kernel⟩
theorem hd_X12_usual : yX12_usual.cls ≠ "java/lang/invoke/MethodHandle" ∧ yX12_usual.cls ≠ "java/lang/invoke/VarHandle" ∧ (parseMethodDescriptor yX12_usual.desc).map (fun d => d.parameters.length) = some 1 := ⟨by decide, by decide, by decide +kernel⟩
theorem hd_X12_thrown : yX12_thrown.cls ≠ "java/lang/invoke/MethodHandle" ∧ yX12_thrown.cls ≠ "java/lang/invoke/VarHandle" ∧ (parseMethodDescriptor yX12_thrown.desc).map (fun d => d.parameters.length) = some 0 := ⟨by decide, by decide, by decide +kernel⟩
theorem hd_X12_feed : yX12_feed.cls ≠ "java/lang/invoke/MethodHandle" ∧ yX12_feed.cls ≠ "java/lang/invoke/VarHandle" ∧ (parseMethodDescriptor yX12_feed.desc).map (fun d => d.parameters.length) = some 3 := ⟨by decide, by decide, by decide +kernel⟩
theorem hd_X12_abbey : yX12_abbey.cls ≠ "java/lang/invoke/MethodHandle" ∧ yX12_abbey.cls ≠ "java/lang/invoke/VarHandle" ∧ (parseMethodDescriptor yX12_abbey.desc).map (fun d => d.parameters.length) = some 0 := ⟨by decide, by decide, by decide +kernel⟩
theorem hd_X12_readsAll : yX12_readsAll.cls ≠ "java/lang/invoke/MethodHandle" ∧ yX12_readsAll.cls ≠ "java/lang/invoke/VarHandle" ∧ (parseMethodDescriptor yX12_readsAll.desc).map (fun d => d.parameters.length) = some 0 := ⟨by decide, by decide, by decide +kernel⟩
theorem hd_X12_begins : yX12_begins.cls ≠ "java/lang/invoke/MethodHandle" ∧ yX12_begins.cls ≠ "java/lang/invoke/VarHandle" ∧ (parseMethodDescriptor yX12_begins.desc).map (fun d => d.parameters.length) = some 0 := ⟨by decide, by decide, by decide +kernel⟩
theorem hd_X12_nextToken : yX12_nextToken.cls ≠ "java/lang/invoke/MethodHandle" ∧ yX12_nextToken.cls ≠ "java/lang/invoke/VarHandle" ∧ (parseMethodDescriptor yX12_nextToken.desc).map (fun d => d.parameters.length) = some 0 := ⟨by decide, by decide, by decide +kernel⟩
theorem hd_X12_signAt : yX12_signAt.cls ≠ "java/lang/invoke/MethodHandle" ∧ yX12_signAt.cls ≠ "java/lang/invoke/VarHandle" ∧ (parseMethodDescriptor yX12_signAt.desc).map (fun d => d.parameters.length) = some 1 := ⟨by decide, by decide, by decide +kernel⟩
theorem hd_X12_isWord : yX12_isWord.cls ≠ "java/lang/invoke/MethodHandle" ∧ yX12_isWord.cls ≠ "java/lang/invoke/VarHandle" ∧ (parseMethodDescriptor yX12_isWord.desc).map (fun d => d.parameters.length) = some 1 := ⟨by decide, by decide, by decide +kernel⟩
theorem hd_X12_readsThought : yX12_readsThought.cls ≠ "java/lang/invoke/MethodHandle" ∧ yX12_readsThought.cls ≠ "java/lang/invoke/VarHandle" ∧ (parseMethodDescriptor yX12_readsThought.desc).map (fun d => d.parameters.length) = some 0 := ⟨by decide, by decide, by decide +kernel⟩
theorem hd_X12_fails : yX12_fails.cls ≠ "java/lang/invoke/MethodHandle" ∧ yX12_fails.cls ≠ "java/lang/invoke/VarHandle" ∧ (parseMethodDescriptor yX12_fails.desc).map (fun d => d.parameters.length) = some 1 := ⟨by decide, by decide, by decide +kernel⟩
theorem hd_X12_needsNew : yX12_needsNew.cls ≠ "java/lang/invoke/MethodHandle" ∧ yX12_needsNew.cls ≠ "java/lang/invoke/VarHandle" ∧ (parseMethodDescriptor yX12_needsNew.desc).map (fun d => d.parameters.length) = some 0 := ⟨by decide, by decide, by decide +kernel⟩
theorem hd_X12_isKept : yX12_isKept.cls ≠ "java/lang/invoke/MethodHandle" ∧ yX12_isKept.cls ≠ "java/lang/invoke/VarHandle" ∧ (parseMethodDescriptor yX12_isKept.desc).map (fun d => d.parameters.length) = some 0 := ⟨by decide, by decide, by decide +kernel⟩
theorem hd_X12_thoughtNamed : yX12_thoughtNamed.cls ≠ "java/lang/invoke/MethodHandle" ∧ yX12_thoughtNamed.cls ≠ "java/lang/invoke/VarHandle" ∧ (parseMethodDescriptor yX12_thoughtNamed.desc).map (fun d => d.parameters.length) = some 1 := ⟨by decide, by decide, by decide +kernel⟩
theorem hd_X12_tenantNamed : yX12_tenantNamed.cls ≠ "java/lang/invoke/MethodHandle" ∧ yX12_tenantNamed.cls ≠ "java/lang/invoke/VarHandle" ∧ (parseMethodDescriptor yX12_tenantNamed.desc).map (fun d => d.parameters.length) = some 1 := ⟨by decide, by decide, by decide +kernel⟩
theorem hd_X12_needsBoth : yX12_needsBoth.cls ≠ "java/lang/invoke/MethodHandle" ∧ yX12_needsBoth.cls ≠ "java/lang/invoke/VarHandle" ∧ (parseMethodDescriptor yX12_needsBoth.desc).map (fun d => d.parameters.length) = some 3 := ⟨by decide, by decide, by decide +kernel⟩
theorem hd_X12_needsNumber : yX12_needsNumber.cls ≠ "java/lang/invoke/MethodHandle" ∧ yX12_needsNumber.cls ≠ "java/lang/invoke/VarHandle" ∧ (parseMethodDescriptor yX12_needsNumber.desc).map (fun d => d.parameters.length) = some 2 := ⟨by decide, by decide, by decide +kernel⟩
theorem hd_X12_within : yX12_within.cls ≠ "java/lang/invoke/MethodHandle" ∧ yX12_within.cls ≠ "java/lang/invoke/VarHandle" ∧ (parseMethodDescriptor yX12_within.desc).map (fun d => d.parameters.length) = some 3 := ⟨by decide, by decide, by decide +kernel⟩
theorem hd_X12_closes : yX12_closes.cls ≠ "java/lang/invoke/MethodHandle" ∧ yX12_closes.cls ≠ "java/lang/invoke/VarHandle" ∧ (parseMethodDescriptor yX12_closes.desc).map (fun d => d.parameters.length) = some 0 := ⟨by decide, by decide, by decide +kernel⟩
theorem hd_X12_isSign : yX12_isSign.cls ≠ "java/lang/invoke/MethodHandle" ∧ yX12_isSign.cls ≠ "java/lang/invoke/VarHandle" ∧ (parseMethodDescriptor yX12_isSign.desc).map (fun d => d.parameters.length) = some 1 := ⟨by decide, by decide, by decide +kernel⟩
theorem hd_X12_readsFollows : yX12_readsFollows.cls ≠ "java/lang/invoke/MethodHandle" ∧ yX12_readsFollows.cls ≠ "java/lang/invoke/VarHandle" ∧ (parseMethodDescriptor yX12_readsFollows.desc).map (fun d => d.parameters.length) = some 0 := ⟨by decide, by decide, by decide +kernel⟩
theorem hd_X12_needsThought : yX12_needsThought.cls ≠ "java/lang/invoke/MethodHandle" ∧ yX12_needsThought.cls ≠ "java/lang/invoke/VarHandle" ∧ (parseMethodDescriptor yX12_needsThought.desc).map (fun d => d.parameters.length) = some 1 := ⟨by decide, by decide, by decide +kernel⟩
theorem hd_X12_readsTenant : yX12_readsTenant.cls ≠ "java/lang/invoke/MethodHandle" ∧ yX12_readsTenant.cls ≠ "java/lang/invoke/VarHandle" ∧ (parseMethodDescriptor yX12_readsTenant.desc).map (fun d => d.parameters.length) = some 0 := ⟨by decide, by decide, by decide +kernel⟩
theorem hd_X12_readsOne : yX12_readsOne.cls ≠ "java/lang/invoke/MethodHandle" ∧ yX12_readsOne.cls ≠ "java/lang/invoke/VarHandle" ∧ (parseMethodDescriptor yX12_readsOne.desc).map (fun d => d.parameters.length) = some 3 := ⟨by decide, by decide, by decide +kernel⟩
theorem hd_X12_readsLaw : yX12_readsLaw.cls ≠ "java/lang/invoke/MethodHandle" ∧ yX12_readsLaw.cls ≠ "java/lang/invoke/VarHandle" ∧ (parseMethodDescriptor yX12_readsLaw.desc).map (fun d => d.parameters.length) = some 1 := ⟨by decide, by decide, by decide +kernel⟩
theorem hd_X12_reads : yX12_reads.cls ≠ "java/lang/invoke/MethodHandle" ∧ yX12_reads.cls ≠ "java/lang/invoke/VarHandle" ∧ (parseMethodDescriptor yX12_reads.desc).map (fun d => d.parameters.length) = some 0 := ⟨by decide, by decide, by decide +kernel⟩
theorem hd_X12_fact : yX12_fact.cls ≠ "java/lang/invoke/MethodHandle" ∧ yX12_fact.cls ≠ "java/lang/invoke/VarHandle" ∧ (parseMethodDescriptor yX12_fact.desc).map (fun d => d.parameters.length) = some 0 := ⟨by decide, by decide, by decide +kernel⟩
theorem hd_X12_puts : yX12_puts.cls ≠ "java/lang/invoke/MethodHandle" ∧ yX12_puts.cls ≠ "java/lang/invoke/VarHandle" ∧ (parseMethodDescriptor yX12_puts.desc).map (fun d => d.parameters.length) = some 1 := ⟨by decide, by decide, by decide +kernel⟩
theorem hd_X12_lays : yX12_lays.cls ≠ "java/lang/invoke/MethodHandle" ∧ yX12_lays.cls ≠ "java/lang/invoke/VarHandle" ∧ (parseMethodDescriptor yX12_lays.desc).map (fun d => d.parameters.length) = some 0 := ⟨by decide, by decide, by decide +kernel⟩
theorem hd_X12_shifts : yX12_shifts.cls ≠ "java/lang/invoke/MethodHandle" ∧ yX12_shifts.cls ≠ "java/lang/invoke/VarHandle" ∧ (parseMethodDescriptor yX12_shifts.desc).map (fun d => d.parameters.length) = some 2 := ⟨by decide, by decide, by decide +kernel⟩
theorem hd_X12_shiftsNames : yX12_shiftsNames.cls ≠ "java/lang/invoke/MethodHandle" ∧ yX12_shiftsNames.cls ≠ "java/lang/invoke/VarHandle" ∧ (parseMethodDescriptor yX12_shiftsNames.desc).map (fun d => d.parameters.length) = some 2 := ⟨by decide, by decide, by decide +kernel⟩
theorem hd_X12_fresh : yX12_fresh.cls ≠ "java/lang/invoke/MethodHandle" ∧ yX12_fresh.cls ≠ "java/lang/invoke/VarHandle" ∧ (parseMethodDescriptor yX12_fresh.desc).map (fun d => d.parameters.length) = some 0 := ⟨by decide, by decide, by decide +kernel⟩
theorem hd_X12_years : yX12_years.cls ≠ "java/lang/invoke/MethodHandle" ∧ yX12_years.cls ≠ "java/lang/invoke/VarHandle" ∧ (parseMethodDescriptor yX12_years.desc).map (fun d => d.parameters.length) = some 0 := ⟨by decide, by decide, by decide +kernel⟩
theorem hd_X12_readsLine : yX12_readsLine.cls ≠ "java/lang/invoke/MethodHandle" ∧ yX12_readsLine.cls ≠ "java/lang/invoke/VarHandle" ∧ (parseMethodDescriptor yX12_readsLine.desc).map (fun d => d.parameters.length) = some 0 := ⟨by decide, by decide, by decide +kernel⟩
theorem hd_X12_laysLines : yX12_laysLines.cls ≠ "java/lang/invoke/MethodHandle" ∧ yX12_laysLines.cls ≠ "java/lang/invoke/VarHandle" ∧ (parseMethodDescriptor yX12_laysLines.desc).map (fun d => d.parameters.length) = some 2 := ⟨by decide, by decide, by decide +kernel⟩
theorem hd_X12_thought : yX12_thought.cls ≠ "java/lang/invoke/MethodHandle" ∧ yX12_thought.cls ≠ "java/lang/invoke/VarHandle" ∧ (parseMethodDescriptor yX12_thought.desc).map (fun d => d.parameters.length) = some 2 := ⟨by decide, by decide, by decide +kernel⟩
theorem hd_X12_isThought : yX12_isThought.cls ≠ "java/lang/invoke/MethodHandle" ∧ yX12_isThought.cls ≠ "java/lang/invoke/VarHandle" ∧ (parseMethodDescriptor yX12_isThought.desc).map (fun d => d.parameters.length) = some 1 := ⟨by decide, by decide, by decide +kernel⟩
theorem hd_X12_tenant : yX12_tenant.cls ≠ "java/lang/invoke/MethodHandle" ∧ yX12_tenant.cls ≠ "java/lang/invoke/VarHandle" ∧ (parseMethodDescriptor yX12_tenant.desc).map (fun d => d.parameters.length) = some 2 := ⟨by decide, by decide, by decide +kernel⟩
theorem hd_X12_isTenant : yX12_isTenant.cls ≠ "java/lang/invoke/MethodHandle" ∧ yX12_isTenant.cls ≠ "java/lang/invoke/VarHandle" ∧ (parseMethodDescriptor yX12_isTenant.desc).map (fun d => d.parameters.length) = some 1 := ⟨by decide, by decide, by decide +kernel⟩
theorem hd_X12_of : yX12_of.cls ≠ "java/lang/invoke/MethodHandle" ∧ yX12_of.cls ≠ "java/lang/invoke/VarHandle" ∧ (parseMethodDescriptor yX12_of.desc).map (fun d => d.parameters.length) = some 2 := ⟨by decide, by decide, by decide +kernel⟩
theorem hd_X12_mayThink : yX12_mayThink.cls ≠ "java/lang/invoke/MethodHandle" ∧ yX12_mayThink.cls ≠ "java/lang/invoke/VarHandle" ∧ (parseMethodDescriptor yX12_mayThink.desc).map (fun d => d.parameters.length) = some 1 := ⟨by decide, by decide, by decide +kernel⟩
theorem hd_X12_hasRun : yX12_hasRun.cls ≠ "java/lang/invoke/MethodHandle" ∧ yX12_hasRun.cls ≠ "java/lang/invoke/VarHandle" ∧ (parseMethodDescriptor yX12_hasRun.desc).map (fun d => d.parameters.length) = some 1 := ⟨by decide, by decide, by decide +kernel⟩
theorem hd_X12_behindHis : yX12_behindHis.cls ≠ "java/lang/invoke/MethodHandle" ∧ yX12_behindHis.cls ≠ "java/lang/invoke/VarHandle" ∧ (parseMethodDescriptor yX12_behindHis.desc).map (fun d => d.parameters.length) = some 1 := ⟨by decide, by decide, by decide +kernel⟩
theorem hd_X12_all : yX12_all.cls ≠ "java/lang/invoke/MethodHandle" ∧ yX12_all.cls ≠ "java/lang/invoke/VarHandle" ∧ (parseMethodDescriptor yX12_all.desc).map (fun d => d.parameters.length) = some 0 := ⟨by decide, by decide, by decide +kernel⟩
theorem hd_X12_keeps : yX12_keeps.cls ≠ "java/lang/invoke/MethodHandle" ∧ yX12_keeps.cls ≠ "java/lang/invoke/VarHandle" ∧ (parseMethodDescriptor yX12_keeps.desc).map (fun d => d.parameters.length) = some 2 := ⟨by decide, by decide, by decide +kernel⟩
theorem hd_X12_think : yX12_think.cls ≠ "java/lang/invoke/MethodHandle" ∧ yX12_think.cls ≠ "java/lang/invoke/VarHandle" ∧ (parseMethodDescriptor yX12_think.desc).map (fun d => d.parameters.length) = some 2 := ⟨by decide, by decide, by decide +kernel⟩
theorem hd_X12_keepsRow : yX12_keepsRow.cls ≠ "java/lang/invoke/MethodHandle" ∧ yX12_keepsRow.cls ≠ "java/lang/invoke/VarHandle" ∧ (parseMethodDescriptor yX12_keepsRow.desc).map (fun d => d.parameters.length) = some 0 := ⟨by decide, by decide, by decide +kernel⟩
theorem hd_X12_copies : yX12_copies.cls ≠ "java/lang/invoke/MethodHandle" ∧ yX12_copies.cls ≠ "java/lang/invoke/VarHandle" ∧ (parseMethodDescriptor yX12_copies.desc).map (fun d => d.parameters.length) = some 4 := ⟨by decide, by decide, by decide +kernel⟩
theorem hd_X12_thinks : yX12_thinks.cls ≠ "java/lang/invoke/MethodHandle" ∧ yX12_thinks.cls ≠ "java/lang/invoke/VarHandle" ∧ (parseMethodDescriptor yX12_thinks.desc).map (fun d => d.parameters.length) = some 2 := ⟨by decide, by decide, by decide +kernel⟩
theorem hd_X12_gainsBy : yX12_gainsBy.cls ≠ "java/lang/invoke/MethodHandle" ∧ yX12_gainsBy.cls ≠ "java/lang/invoke/VarHandle" ∧ (parseMethodDescriptor yX12_gainsBy.desc).map (fun d => d.parameters.length) = some 3 := ⟨by decide, by decide, by decide +kernel⟩
theorem hd_X12_inBarn : yX12_inBarn.cls ≠ "java/lang/invoke/MethodHandle" ∧ yX12_inBarn.cls ≠ "java/lang/invoke/VarHandle" ∧ (parseMethodDescriptor yX12_inBarn.desc).map (fun d => d.parameters.length) = some 0 := ⟨by decide, by decide, by decide +kernel⟩
theorem hd_X12_worked : yX12_worked.cls ≠ "java/lang/invoke/MethodHandle" ∧ yX12_worked.cls ≠ "java/lang/invoke/VarHandle" ∧ (parseMethodDescriptor yX12_worked.desc).map (fun d => d.parameters.length) = some 1 := ⟨by decide, by decide, by decide +kernel⟩
theorem hd_X12_opens : yX12_opens.cls ≠ "java/lang/invoke/MethodHandle" ∧ yX12_opens.cls ≠ "java/lang/invoke/VarHandle" ∧ (parseMethodDescriptor yX12_opens.desc).map (fun d => d.parameters.length) = some 1 := ⟨by decide, by decide, by decide +kernel⟩
theorem hd_X12_sums : yX12_sums.cls ≠ "java/lang/invoke/MethodHandle" ∧ yX12_sums.cls ≠ "java/lang/invoke/VarHandle" ∧ (parseMethodDescriptor yX12_sums.desc).map (fun d => d.parameters.length) = some 1 := ⟨by decide, by decide, by decide +kernel⟩
theorem hd_X12_tests : yX12_tests.cls ≠ "java/lang/invoke/MethodHandle" ∧ yX12_tests.cls ≠ "java/lang/invoke/VarHandle" ∧ (parseMethodDescriptor yX12_tests.desc).map (fun d => d.parameters.length) = some 1 := ⟨by decide, by decide, by decide +kernel⟩
theorem hd_X12_between : yX12_between.cls ≠ "java/lang/invoke/MethodHandle" ∧ yX12_between.cls ≠ "java/lang/invoke/VarHandle" ∧ (parseMethodDescriptor yX12_between.desc).map (fun d => d.parameters.length) = some 3 := ⟨by decide, by decide, by decide +kernel⟩
theorem hd_X12_least : yX12_least.cls ≠ "java/lang/invoke/MethodHandle" ∧ yX12_least.cls ≠ "java/lang/invoke/VarHandle" ∧ (parseMethodDescriptor yX12_least.desc).map (fun d => d.parameters.length) = some 2 := ⟨by decide, by decide, by decide +kernel⟩
theorem hd_X12_gate : yX12_gate.cls ≠ "java/lang/invoke/MethodHandle" ∧ yX12_gate.cls ≠ "java/lang/invoke/VarHandle" ∧ (parseMethodDescriptor yX12_gate.desc).map (fun d => d.parameters.length) = some 1 := ⟨by decide, by decide, by decide +kernel⟩
theorem hd_X12_turnsBack : yX12_turnsBack.cls ≠ "java/lang/invoke/MethodHandle" ∧ yX12_turnsBack.cls ≠ "java/lang/invoke/VarHandle" ∧ (parseMethodDescriptor yX12_turnsBack.desc).map (fun d => d.parameters.length) = some 1 := ⟨by decide, by decide, by decide +kernel⟩
theorem hd_X12_pool : yX12_pool.cls ≠ "java/lang/invoke/MethodHandle" ∧ yX12_pool.cls ≠ "java/lang/invoke/VarHandle" ∧ (parseMethodDescriptor yX12_pool.desc).map (fun d => d.parameters.length) = some 2 := ⟨by decide, by decide, by decide +kernel⟩
theorem hd_X12_canPool : yX12_canPool.cls ≠ "java/lang/invoke/MethodHandle" ∧ yX12_canPool.cls ≠ "java/lang/invoke/VarHandle" ∧ (parseMethodDescriptor yX12_canPool.desc).map (fun d => d.parameters.length) = some 2 := ⟨by decide, by decide, by decide +kernel⟩
theorem hd_X12_pools : yX12_pools.cls ≠ "java/lang/invoke/MethodHandle" ∧ yX12_pools.cls ≠ "java/lang/invoke/VarHandle" ∧ (parseMethodDescriptor yX12_pools.desc).map (fun d => d.parameters.length) = some 2 := ⟨by decide, by decide, by decide +kernel⟩
theorem hd_X12_undo : yX12_undo.cls ≠ "java/lang/invoke/MethodHandle" ∧ yX12_undo.cls ≠ "java/lang/invoke/VarHandle" ∧ (parseMethodDescriptor yX12_undo.desc).map (fun d => d.parameters.length) = some 0 := ⟨by decide, by decide, by decide +kernel⟩
theorem hd_X12_judged : yX12_judged.cls ≠ "java/lang/invoke/MethodHandle" ∧ yX12_judged.cls ≠ "java/lang/invoke/VarHandle" ∧ (parseMethodDescriptor yX12_judged.desc).map (fun d => d.parameters.length) = some 1 := ⟨by decide, by decide, by decide +kernel⟩
theorem hd_X12_judges : yX12_judges.cls ≠ "java/lang/invoke/MethodHandle" ∧ yX12_judges.cls ≠ "java/lang/invoke/VarHandle" ∧ (parseMethodDescriptor yX12_judges.desc).map (fun d => d.parameters.length) = some 1 := ⟨by decide, by decide, by decide +kernel⟩
theorem hd_X12_goes : yX12_goes.cls ≠ "java/lang/invoke/MethodHandle" ∧ yX12_goes.cls ≠ "java/lang/invoke/VarHandle" ∧ (parseMethodDescriptor yX12_goes.desc).map (fun d => d.parameters.length) = some 1 := ⟨by decide, by decide, by decide +kernel⟩
theorem hd_X12_gainedByAll : yX12_gainedByAll.cls ≠ "java/lang/invoke/MethodHandle" ∧ yX12_gainedByAll.cls ≠ "java/lang/invoke/VarHandle" ∧ (parseMethodDescriptor yX12_gainedByAll.desc).map (fun d => d.parameters.length) = some 0 := ⟨by decide, by decide, by decide +kernel⟩
theorem hd_X12_other : yX12_other.cls ≠ "java/lang/invoke/MethodHandle" ∧ yX12_other.cls ≠ "java/lang/invoke/VarHandle" ∧ (parseMethodDescriptor yX12_other.desc).map (fun d => d.parameters.length) = some 1 := ⟨by decide, by decide, by decide +kernel⟩
theorem hd_X12_best : yX12_best.cls ≠ "java/lang/invoke/MethodHandle" ∧ yX12_best.cls ≠ "java/lang/invoke/VarHandle" ∧ (parseMethodDescriptor yX12_best.desc).map (fun d => d.parameters.length) = some 3 := ⟨by decide, by decide, by decide +kernel⟩
theorem hd_X12_tries : yX12_tries.cls ≠ "java/lang/invoke/MethodHandle" ∧ yX12_tries.cls ≠ "java/lang/invoke/VarHandle" ∧ (parseMethodDescriptor yX12_tries.desc).map (fun d => d.parameters.length) = some 3 := ⟨by decide, by decide, by decide +kernel⟩
theorem hd_X12_tithed : yX12_tithed.cls ≠ "java/lang/invoke/MethodHandle" ∧ yX12_tithed.cls ≠ "java/lang/invoke/VarHandle" ∧ (parseMethodDescriptor yX12_tithed.desc).map (fun d => d.parameters.length) = some 2 := ⟨by decide, by decide, by decide +kernel⟩
theorem hd_X12_allBehind : yX12_allBehind.cls ≠ "java/lang/invoke/MethodHandle" ∧ yX12_allBehind.cls ≠ "java/lang/invoke/VarHandle" ∧ (parseMethodDescriptor yX12_allBehind.desc).map (fun d => d.parameters.length) = some 1 := ⟨by decide, by decide, by decide +kernel⟩
theorem hd_X12_ways : yX12_ways.cls ≠ "java/lang/invoke/MethodHandle" ∧ yX12_ways.cls ≠ "java/lang/invoke/VarHandle" ∧ (parseMethodDescriptor yX12_ways.desc).map (fun d => d.parameters.length) = some 3 := ⟨by decide, by decide, by decide +kernel⟩
theorem hd_X12_chance : yX12_chance.cls ≠ "java/lang/invoke/MethodHandle" ∧ yX12_chance.cls ≠ "java/lang/invoke/VarHandle" ∧ (parseMethodDescriptor yX12_chance.desc).map (fun d => d.parameters.length) = some 2 := ⟨by decide, by decide, by decide +kernel⟩
theorem hd_X12_sharesOut : yX12_sharesOut.cls ≠ "java/lang/invoke/MethodHandle" ∧ yX12_sharesOut.cls ≠ "java/lang/invoke/VarHandle" ∧ (parseMethodDescriptor yX12_sharesOut.desc).map (fun d => d.parameters.length) = some 2 := ⟨by decide, by decide, by decide +kernel⟩
theorem hd_X12_bits : yX12_bits.cls ≠ "java/lang/invoke/MethodHandle" ∧ yX12_bits.cls ≠ "java/lang/invoke/VarHandle" ∧ (parseMethodDescriptor yX12_bits.desc).map (fun d => d.parameters.length) = some 1 := ⟨by decide, by decide, by decide +kernel⟩
theorem hd_X12_lacks : yX12_lacks.cls ≠ "java/lang/invoke/MethodHandle" ∧ yX12_lacks.cls ≠ "java/lang/invoke/VarHandle" ∧ (parseMethodDescriptor yX12_lacks.desc).map (fun d => d.parameters.length) = some 0 := ⟨by decide, by decide, by decide +kernel⟩
theorem hd_X12_lacking : yX12_lacking.cls ≠ "java/lang/invoke/MethodHandle" ∧ yX12_lacking.cls ≠ "java/lang/invoke/VarHandle" ∧ (parseMethodDescriptor yX12_lacking.desc).map (fun d => d.parameters.length) = some 0 := ⟨by decide, by decide, by decide +kernel⟩
theorem hd_X12_givers : yX12_givers.cls ≠ "java/lang/invoke/MethodHandle" ∧ yX12_givers.cls ≠ "java/lang/invoke/VarHandle" ∧ (parseMethodDescriptor yX12_givers.desc).map (fun d => d.parameters.length) = some 0 := ⟨by decide, by decide, by decide +kernel⟩
theorem hd_X12_whoRan : yX12_whoRan.cls ≠ "java/lang/invoke/MethodHandle" ∧ yX12_whoRan.cls ≠ "java/lang/invoke/VarHandle" ∧ (parseMethodDescriptor yX12_whoRan.desc).map (fun d => d.parameters.length) = some 0 := ⟨by decide, by decide, by decide +kernel⟩
theorem hd_X12_partsOf : yX12_partsOf.cls ≠ "java/lang/invoke/MethodHandle" ∧ yX12_partsOf.cls ≠ "java/lang/invoke/VarHandle" ∧ (parseMethodDescriptor yX12_partsOf.desc).map (fun d => d.parameters.length) = some 1 := ⟨by decide, by decide, by decide +kernel⟩
theorem hd_X12_dowry : yX12_dowry.cls ≠ "java/lang/invoke/MethodHandle" ∧ yX12_dowry.cls ≠ "java/lang/invoke/VarHandle" ∧ (parseMethodDescriptor yX12_dowry.desc).map (fun d => d.parameters.length) = some 1 := ⟨by decide, by decide, by decide +kernel⟩
theorem hd_X12_dowryOf : yX12_dowryOf.cls ≠ "java/lang/invoke/MethodHandle" ∧ yX12_dowryOf.cls ≠ "java/lang/invoke/VarHandle" ∧ (parseMethodDescriptor yX12_dowryOf.desc).map (fun d => d.parameters.length) = some 1 := ⟨by decide, by decide, by decide +kernel⟩
theorem hd_X12_safe : yX12_safe.cls ≠ "java/lang/invoke/MethodHandle" ∧ yX12_safe.cls ≠ "java/lang/invoke/VarHandle" ∧ (parseMethodDescriptor yX12_safe.desc).map (fun d => d.parameters.length) = some 1 := ⟨by decide, by decide, by decide +kernel⟩
theorem hd_X12_holders : yX12_holders.cls ≠ "java/lang/invoke/MethodHandle" ∧ yX12_holders.cls ≠ "java/lang/invoke/VarHandle" ∧ (parseMethodDescriptor yX12_holders.desc).map (fun d => d.parameters.length) = some 1 := ⟨by decide, by decide, by decide +kernel⟩
theorem hd_X12_poorest : yX12_poorest.cls ≠ "java/lang/invoke/MethodHandle" ∧ yX12_poorest.cls ≠ "java/lang/invoke/VarHandle" ∧ (parseMethodDescriptor yX12_poorest.desc).map (fun d => d.parameters.length) = some 0 := ⟨by decide, by decide, by decide +kernel⟩
theorem hd_X12_match : yX12_match.cls ≠ "java/lang/invoke/MethodHandle" ∧ yX12_match.cls ≠ "java/lang/invoke/VarHandle" ∧ (parseMethodDescriptor yX12_match.desc).map (fun d => d.parameters.length) = some 1 := ⟨by decide, by decide, by decide +kernel⟩
theorem hd_X12_matches : yX12_matches.cls ≠ "java/lang/invoke/MethodHandle" ∧ yX12_matches.cls ≠ "java/lang/invoke/VarHandle" ∧ (parseMethodDescriptor yX12_matches.desc).map (fun d => d.parameters.length) = some 3 := ⟨by decide, by decide, by decide +kernel⟩
theorem hd_X12_guess : yX12_guess.cls ≠ "java/lang/invoke/MethodHandle" ∧ yX12_guess.cls ≠ "java/lang/invoke/VarHandle" ∧ (parseMethodDescriptor yX12_guess.desc).map (fun d => d.parameters.length) = some 2 := ⟨by decide, by decide, by decide +kernel⟩
theorem hd_X12_fits : yX12_fits.cls ≠ "java/lang/invoke/MethodHandle" ∧ yX12_fits.cls ≠ "java/lang/invoke/VarHandle" ∧ (parseMethodDescriptor yX12_fits.desc).map (fun d => d.parameters.length) = some 0 := ⟨by decide, by decide, by decide +kernel⟩
theorem hd_X12_fitting : yX12_fitting.cls ≠ "java/lang/invoke/MethodHandle" ∧ yX12_fitting.cls ≠ "java/lang/invoke/VarHandle" ∧ (parseMethodDescriptor yX12_fitting.desc).map (fun d => d.parameters.length) = some 0 := ⟨by decide, by decide, by decide +kernel⟩
theorem hd_X12_ask : yX12_ask.cls ≠ "java/lang/invoke/MethodHandle" ∧ yX12_ask.cls ≠ "java/lang/invoke/VarHandle" ∧ (parseMethodDescriptor yX12_ask.desc).map (fun d => d.parameters.length) = some 0 := ⟨by decide, by decide, by decide +kernel⟩
theorem hd_X12_dead : yX12_dead.cls ≠ "java/lang/invoke/MethodHandle" ∧ yX12_dead.cls ≠ "java/lang/invoke/VarHandle" ∧ (parseMethodDescriptor yX12_dead.desc).map (fun d => d.parameters.length) = some 0 := ⟨by decide, by decide, by decide +kernel⟩
theorem hd_X12_ring : yX12_ring.cls ≠ "java/lang/invoke/MethodHandle" ∧ yX12_ring.cls ≠ "java/lang/invoke/VarHandle" ∧ (parseMethodDescriptor yX12_ring.desc).map (fun d => d.parameters.length) = some 1 := ⟨by decide, by decide, by decide +kernel⟩
theorem hd_X12_rests : yX12_rests.cls ≠ "java/lang/invoke/MethodHandle" ∧ yX12_rests.cls ≠ "java/lang/invoke/VarHandle" ∧ (parseMethodDescriptor yX12_rests.desc).map (fun d => d.parameters.length) = some 4 := ⟨by decide, by decide, by decide +kernel⟩
theorem hd_X12_getsBy : yX12_getsBy.cls ≠ "java/lang/invoke/MethodHandle" ∧ yX12_getsBy.cls ≠ "java/lang/invoke/VarHandle" ∧ (parseMethodDescriptor yX12_getsBy.desc).map (fun d => d.parameters.length) = some 5 := ⟨by decide, by decide, by decide +kernel⟩
theorem hd_X12_lives : yX12_lives.cls ≠ "java/lang/invoke/MethodHandle" ∧ yX12_lives.cls ≠ "java/lang/invoke/VarHandle" ∧ (parseMethodDescriptor yX12_lives.desc).map (fun d => d.parameters.length) = some 3 := ⟨by decide, by decide, by decide +kernel⟩
theorem hd_X12_livesStep : yX12_livesStep.cls ≠ "java/lang/invoke/MethodHandle" ∧ yX12_livesStep.cls ≠ "java/lang/invoke/VarHandle" ∧ (parseMethodDescriptor yX12_livesStep.desc).map (fun d => d.parameters.length) = some 0 := ⟨by decide, by decide, by decide +kernel⟩
theorem hd_X12_draws : yX12_draws.cls ≠ "java/lang/invoke/MethodHandle" ∧ yX12_draws.cls ≠ "java/lang/invoke/VarHandle" ∧ (parseMethodDescriptor yX12_draws.desc).map (fun d => d.parameters.length) = some 1 := ⟨by decide, by decide, by decide +kernel⟩
theorem hd_X12_mark : yX12_mark.cls ≠ "java/lang/invoke/MethodHandle" ∧ yX12_mark.cls ≠ "java/lang/invoke/VarHandle" ∧ (parseMethodDescriptor yX12_mark.desc).map (fun d => d.parameters.length) = some 2 := ⟨by decide, by decide, by decide +kernel⟩
theorem hd_X12_laysGuesses : yX12_laysGuesses.cls ≠ "java/lang/invoke/MethodHandle" ∧ yX12_laysGuesses.cls ≠ "java/lang/invoke/VarHandle" ∧ (parseMethodDescriptor yX12_laysGuesses.desc).map (fun d => d.parameters.length) = some 2 := ⟨by decide, by decide, by decide +kernel⟩
theorem hd_X12_count : yX12_count.cls ≠ "java/lang/invoke/MethodHandle" ∧ yX12_count.cls ≠ "java/lang/invoke/VarHandle" ∧ (parseMethodDescriptor yX12_count.desc).map (fun d => d.parameters.length) = some 1 := ⟨by decide, by decide, by decide +kernel⟩
theorem hd_X12_worthInBarn : yX12_worthInBarn.cls ≠ "java/lang/invoke/MethodHandle" ∧ yX12_worthInBarn.cls ≠ "java/lang/invoke/VarHandle" ∧ (parseMethodDescriptor yX12_worthInBarn.desc).map (fun d => d.parameters.length) = some 0 := ⟨by decide, by decide, by decide +kernel⟩
end
section
theorem in_RX0 : ∀ w ∈ u_ws RX0 TX0 19, w ∈ kG := fun w h => kG_mk ((by decide +kernel : ∀ w ∈ u_ws RX0 TX0 19, w ∈ lw_tbl) w h) ((by decide +kernel : ∀ w ∈ u_ws RX0 TX0 19, goodWord w = true) w h)
theorem in_RX1 : ∀ w ∈ u_ws RX1 TX1 6, w ∈ kG := fun w h => kG_mk ((by decide +kernel : ∀ w ∈ u_ws RX1 TX1 6, w ∈ lw_tbl) w h) ((by decide +kernel : ∀ w ∈ u_ws RX1 TX1 6, goodWord w = true) w h)
theorem in_RX2 : ∀ w ∈ u_ws RX2 TX2 5, w ∈ kG := fun w h => kG_mk ((by decide +kernel : ∀ w ∈ u_ws RX2 TX2 5, w ∈ lw_tbl) w h) ((by decide +kernel : ∀ w ∈ u_ws RX2 TX2 5, goodWord w = true) w h)
theorem in_RX3 : ∀ w ∈ u_ws RX3 TX3 6, w ∈ kG := fun w h => kG_mk ((by decide +kernel : ∀ w ∈ u_ws RX3 TX3 6, w ∈ lw_tbl) w h) ((by decide +kernel : ∀ w ∈ u_ws RX3 TX3 6, goodWord w = true) w h)
theorem in_RX4 : ∀ w ∈ u_ws RX4 TX4 5, w ∈ kG := fun w h => kG_mk ((by decide +kernel : ∀ w ∈ u_ws RX4 TX4 5, w ∈ lw_tbl) w h) ((by decide +kernel : ∀ w ∈ u_ws RX4 TX4 5, goodWord w = true) w h)
theorem in_RX5 : ∀ w ∈ u_ws RX5 TX5 5, w ∈ kG := fun w h => kG_mk ((by decide +kernel : ∀ w ∈ u_ws RX5 TX5 5, w ∈ lw_tbl) w h) ((by decide +kernel : ∀ w ∈ u_ws RX5 TX5 5, goodWord w = true) w h)
theorem in_RX6 : ∀ w ∈ u_ws RX6 TX6 2, w ∈ kG := fun w h => kG_mk ((by decide +kernel : ∀ w ∈ u_ws RX6 TX6 2, w ∈ lw_tbl) w h) ((by decide +kernel : ∀ w ∈ u_ws RX6 TX6 2, goodWord w = true) w h)
theorem in_RX7 : ∀ w ∈ u_ws RX7 TX7 9, w ∈ kG := fun w h => kG_mk ((by decide +kernel : ∀ w ∈ u_ws RX7 TX7 9, w ∈ lw_tbl) w h) ((by decide +kernel : ∀ w ∈ u_ws RX7 TX7 9, goodWord w = true) w h)
theorem in_RX8 : ∀ w ∈ u_ws RX8 TX8 8, w ∈ kG := fun w h => kG_mk ((by decide +kernel : ∀ w ∈ u_ws RX8 TX8 8, w ∈ lw_tbl) w h) ((by decide +kernel : ∀ w ∈ u_ws RX8 TX8 8, goodWord w = true) w h)
theorem in_RX9 : ∀ w ∈ u_ws RX9 TX9 3, w ∈ kG := fun w h => kG_mk ((by decide +kernel : ∀ w ∈ u_ws RX9 TX9 3, w ∈ lw_tbl) w h) ((by decide +kernel : ∀ w ∈ u_ws RX9 TX9 3, goodWord w = true) w h)
theorem in_RX11 : ∀ w ∈ u_ws RX11 TX11 11, w ∈ kG := fun w h => kG_mk ((by decide +kernel : ∀ w ∈ u_ws RX11 TX11 11, w ∈ lw_tbl) w h) ((by decide +kernel : ∀ w ∈ u_ws RX11 TX11 11, goodWord w = true) w h)
theorem in_RX12 : ∀ w ∈ u_ws RX12 TX12 64, w ∈ kG := fun w h => kG_mk ((by decide +kernel : ∀ w ∈ u_ws RX12 TX12 64, w ∈ lw_tbl) w h) ((by decide +kernel : ∀ w ∈ u_ws RX12 TX12 64, goodWord w = true) w h)
end
section
/-! my own rows: intervals, over Int32 and Int64 -/
def i32lo : Int := -2147483648
def i32hi : Int := 2147483647
def i64lo : Int := -9223372036854775808
def i64hi : Int := 9223372036854775807
abbrev qIv : Type := Int × Int
def qIn (p : qIv) (x : Int) : Prop := p.1 ≤ x ∧ x ≤ p.2
def qle (a b : Int) : Bool := decide (a ≤ b)
def qmin (a b : Int) : Int := if a ≤ b then a else b
def qmax (a b : Int) : Int := if a ≤ b then b else a
def qclip (p : qIv) : qIv := if qle i32lo p.1 && qle p.2 i32hi then p else (i32lo, i32hi)
def qclipL (p : qIv) : qIv := if qle i64lo p.1 && qle p.2 i64hi then p else (i64lo, i64hi)
theorem q_rng (x : Int32) : i32lo ≤ x.toInt ∧ x.toInt ≤ i32hi := ⟨by have := x.le_toInt; simpa [i32lo] using this, by have := x.toInt_lt; simp [i32hi]; omega⟩
theorem q_rngL (x : Int64) : i64lo ≤ x.toInt ∧ x.toInt ≤ i64hi := ⟨by have := x.le_toInt; simpa [i64lo] using this, by have := x.toInt_lt; simp [i64hi]; omega⟩
theorem q_full (x : Int32) : qIn (i32lo, i32hi) x.toInt := q_rng x
theorem q_fullL (x : Int64) : qIn (i64lo, i64hi) x.toInt := q_rngL x
theorem q_bmod {z : Int} (h1 : i32lo ≤ z) (h2 : z ≤ i32hi) : z.bmod (2 ^ 32) = z := by
  simp only [i32lo, i32hi] at h1 h2
  exact Int.bmod_eq_of_le (by omega) (by omega)
theorem q_bmodL {z : Int} (h1 : i64lo ≤ z) (h2 : z ≤ i64hi) : z.bmod (2 ^ 64) = z := by
  simp only [i64lo, i64hi] at h1 h2
  exact Int.bmod_eq_of_le (by omega) (by omega)
theorem q_clip {p : qIv} {z : Int} {x : Int32} (hx : x.toInt = z.bmod (2 ^ 32)) (h : qIn p z) : qIn (qclip p) x.toInt := by
  unfold qclip
  split
  · rename_i h9
    simp only [qle, Bool.and_eq_true, decide_eq_true_eq] at h9
    rw [hx, q_bmod (Int.le_trans h9.1 h.1) (Int.le_trans h.2 h9.2)]; exact h
  · exact q_full x
theorem q_clipL {p : qIv} {z : Int} {x : Int64} (hx : x.toInt = z.bmod (2 ^ 64)) (h : qIn p z) : qIn (qclipL p) x.toInt := by
  unfold qclipL
  split
  · rename_i h9
    simp only [qle, Bool.and_eq_true, decide_eq_true_eq] at h9
    rw [hx, q_bmodL (Int.le_trans h9.1 h.1) (Int.le_trans h.2 h9.2)]; exact h
  · exact q_fullL x
/-- sums -/
def qadd (a b : qIv) : qIv := (a.1 + b.1, a.2 + b.2)
def qsub (a b : qIv) : qIv := (a.1 - b.2, a.2 - b.1)
theorem q_add {a b : qIv} {x y : Int} (h1 : qIn a x) (h2 : qIn b y) : qIn (qadd a b) (x + y) := by
  simp only [qIn, qadd] at *; omega
theorem q_sub {a b : qIv} {x y : Int} (h1 : qIn a x) (h2 : qIn b y) : qIn (qsub a b) (x - y) := by
  simp only [qIn, qsub] at *; omega
/-- products -/
def qmul1 (a : qIv) (y : Int) : qIv := if qle 0 y then (a.1 * y, a.2 * y) else (a.2 * y, a.1 * y)
theorem q_mul1 {a : qIv} {x : Int} (h : qIn a x) (y : Int) : qIn (qmul1 a y) (x * y) := by
  simp only [qIn, qmul1, qle] at *
  by_cases h9 : 0 ≤ y
  · simp only [h9, decide_true, if_true]
    exact ⟨Int.mul_le_mul_of_nonneg_right h.1 h9, Int.mul_le_mul_of_nonneg_right h.2 h9⟩
  · simp only [h9, decide_false, Bool.false_eq_true, if_false]
    exact ⟨Int.mul_le_mul_of_nonpos_right h.2 (by omega), Int.mul_le_mul_of_nonpos_right h.1 (by omega)⟩
def qmul (a b : qIv) : qIv := (qmin (qmul1 a b.1).1 (qmul1 a b.2).1, qmax (qmul1 a b.1).2 (qmul1 a b.2).2)
theorem q_mul {a b : qIv} {x y : Int} (h1 : qIn a x) (h2 : qIn b y) : qIn (qmul a b) (x * y) := by
  have e1 := q_mul1 h1 b.1
  have e2 := q_mul1 h1 b.2
  have h3 : (x * b.1 ≤ x * y ∧ x * y ≤ x * b.2) ∨ (x * b.2 ≤ x * y ∧ x * y ≤ x * b.1) := by
    by_cases h9 : 0 ≤ x
    · exact .inl ⟨Int.mul_le_mul_of_nonneg_left h2.1 h9, Int.mul_le_mul_of_nonneg_left h2.2 h9⟩
    · exact .inr ⟨Int.mul_le_mul_of_nonpos_left (by omega) h2.2, Int.mul_le_mul_of_nonpos_left (by omega) h2.1⟩
  simp only [qIn, qmul, qmin, qmax] at *
  constructor
  · split <;> omega
  · split <;> omega
/-- bits -/
def qand (a b : qIv) : qIv :=
  if decide (a.1 = a.2) && decide (b.1 = b.2) && qle 0 a.1 && qle 0 b.1 && qle a.1 i32hi && qle b.1 i32hi then (((a.1.toNat &&& b.1.toNat : Nat) : Int), ((a.1.toNat &&& b.1.toNat : Nat) : Int))
  else if qle 0 a.1 then (if qle 0 b.1 then (0, qmin a.2 b.2) else (0, a.2)) else (if qle 0 b.1 then (0, b.2) else (i32lo, i32hi))
theorem q_nn {x : Int32} (h : 0 ≤ x.toInt) : x.toInt = (x.toBitVec.toNat : Int) ∧ x.toBitVec.toNat < 2 ^ 31 := by
  have h1 : x.toInt = x.toBitVec.toInt := rfl
  rw [h1] at h ⊢
  rw [BitVec.toInt_eq_toNat_cond] at h ⊢
  have := x.toBitVec.isLt
  split at h <;> split <;> omega
theorem q_nn2 {x : Int32} (h : x.toBitVec.toNat < 2 ^ 31) : x.toInt = (x.toBitVec.toNat : Int) := by
  have h1 : x.toInt = x.toBitVec.toInt := rfl
  rw [h1, BitVec.toInt_eq_toNat_cond]
  split <;> omega
theorem q_and_r {x y : Int32} (h : 0 ≤ y.toInt) : 0 ≤ (x &&& y).toInt ∧ (x &&& y).toInt ≤ y.toInt := by
  obtain ⟨e1, e2⟩ := q_nn h
  have h1 : (x &&& y).toBitVec.toNat = x.toBitVec.toNat &&& y.toBitVec.toNat := by simp
  have h2 : x.toBitVec.toNat &&& y.toBitVec.toNat ≤ y.toBitVec.toNat := Nat.and_le_right
  rw [q_nn2 (x := x &&& y) (by omega)]
  omega
theorem q_and_l {x y : Int32} (h : 0 ≤ x.toInt) : 0 ≤ (x &&& y).toInt ∧ (x &&& y).toInt ≤ x.toInt := by
  rw [show x &&& y = y &&& x from Int32.and_comm x y]; exact q_and_r h
theorem q_and {a b : qIv} {x y : Int32} (h1 : qIn a x.toInt) (h2 : qIn b y.toInt) : qIn (qand a b) (x &&& y).toInt := by
  unfold qand
  split
  · rename_i h9
    simp only [qle, Bool.and_eq_true, decide_eq_true_eq] at h9
    obtain ⟨⟨⟨⟨⟨g1, g2⟩, g3⟩, g4⟩, g5⟩, g6⟩ := h9
    simp only [qIn] at *
    obtain ⟨u1, u2⟩ := q_nn (x := x) (by omega)
    obtain ⟨w1, w2⟩ := q_nn (x := y) (by omega)
    have h3 : (x &&& y).toBitVec.toNat = x.toBitVec.toNat &&& y.toBitVec.toNat := by simp
    have h4 : x.toBitVec.toNat &&& y.toBitVec.toNat ≤ y.toBitVec.toNat := Nat.and_le_right
    have e3 : a.1.toNat = x.toBitVec.toNat := by omega
    have e4 : b.1.toNat = y.toBitVec.toNat := by omega
    rw [q_nn2 (x := x &&& y) (by omega), h3, e3, e4]
    exact ⟨Int.le_refl _, Int.le_refl _⟩
  simp only [qIn] at *
  by_cases ha : (0 : Int) ≤ a.1
  · have e1 := q_and_l (x := x) (y := y) (by omega)
    by_cases hb : (0 : Int) ≤ b.1
    · have e2 := q_and_r (x := x) (y := y) (by omega)
      simp only [qle, ha, hb, decide_true, if_true, qmin]
      split <;> omega
    · simp only [qle, ha, hb, decide_true, decide_false, if_true, Bool.false_eq_true, if_false]; omega
  · by_cases hb : (0 : Int) ≤ b.1
    · have e2 := q_and_r (x := x) (y := y) (by omega)
      simp only [qle, ha, hb, decide_true, decide_false, if_true, Bool.false_eq_true, if_false]; omega
    · simp only [qle, ha, hb, decide_false, Bool.false_eq_true, if_false]; exact q_rng _
def qpow (n : Int) : Int := ((2 ^ (Nat.log2 n.toNat + 1) : Nat) : Int) - 1
theorem q_pow (n : Nat) : n < 2 ^ (Nat.log2 n + 1) := Nat.lt_log2_self
def qor (a b : qIv) : qIv := if qle 0 a.1 && qle 0 b.1 then (0, qpow (qmax a.2 b.2)) else (i32lo, i32hi)
theorem q_or_n {x y : Int32} {M : Int} (h1 : 0 ≤ x.toInt) (h2 : 0 ≤ y.toInt) (h3 : x.toInt ≤ M) (h4 : y.toInt ≤ M) (hM : M ≤ i32hi) (z : Int32) (hz : z.toBitVec.toNat = x.toBitVec.toNat ||| y.toBitVec.toNat ∨ z.toBitVec.toNat = x.toBitVec.toNat ^^^ y.toBitVec.toNat) : 0 ≤ z.toInt ∧ z.toInt ≤ qpow M := by
  obtain ⟨e1, e2⟩ := q_nn h1
  obtain ⟨f1, f2⟩ := q_nn h2
  have hM0 : (M.toNat : Int) = M := Int.toNat_of_nonneg (by omega)
  have l1 : x.toBitVec.toNat < 2 ^ (Nat.log2 M.toNat + 1) := Nat.lt_of_le_of_lt (by omega) (q_pow M.toNat)
  have l2 : y.toBitVec.toNat < 2 ^ (Nat.log2 M.toNat + 1) := Nat.lt_of_le_of_lt (by omega) (q_pow M.toNat)
  have l3 : z.toBitVec.toNat < 2 ^ (Nat.log2 M.toNat + 1) := by
    rcases hz with h | h
    · rw [h]; exact Nat.or_lt_two_pow l1 l2
    · rw [h]; exact Nat.xor_lt_two_pow l1 l2
  have l4 : z.toBitVec.toNat < 2 ^ 31 := by
    rcases hz with h | h
    · rw [h]; exact Nat.or_lt_two_pow e2 f2
    · rw [h]; exact Nat.xor_lt_two_pow e2 f2
  rw [q_nn2 l4]
  unfold qpow
  omega
theorem q_or {a b : qIv} {x y : Int32} (h1 : qIn a x.toInt) (h2 : qIn b y.toInt) : qIn (qor a b) (x ||| y).toInt := by
  unfold qor
  simp only [qIn] at *
  have rx := q_rng x
  have ry := q_rng y
  by_cases ha : (0 : Int) ≤ a.1 ∧ (0 : Int) ≤ b.1
  · simp only [qle, ha.1, ha.2, decide_true, Bool.and_self, if_true]
    by_cases hM : qmax a.2 b.2 ≤ i32hi
    · exact q_or_n (x := x) (y := y) (by omega) (by omega) (by simp only [qmax]; split <;> omega) (by simp only [qmax]; split <;> omega) hM _ (.inl (by simp))
    · have e1 := q_or_n (x := x) (y := y) (M := i32hi) (by omega) (by omega) (by omega) (by omega) (Int.le_refl _) (x ||| y) (.inl (by simp))
      refine ⟨e1.1, Int.le_trans e1.2 ?_⟩
      unfold qpow
      have : i32hi.toNat ≤ (qmax a.2 b.2).toNat := Int.toNat_le_toNat (by omega)
      have h9 : Nat.log2 i32hi.toNat = 30 := by decide +kernel
      have h8 : 2 ^ 30 ≤ (qmax a.2 b.2).toNat := Nat.le_trans (by decide +kernel) this
      have h7 : 30 ≤ Nat.log2 (qmax a.2 b.2).toNat := (Nat.le_log2 (by omega)).mpr h8
      have h6 : 2 ^ 31 ≤ 2 ^ (Nat.log2 (qmax a.2 b.2).toNat + 1) := Nat.pow_le_pow_right (by omega) (by omega)
      rw [h9]
      omega
  · have : (qle 0 a.1 && qle 0 b.1) = false := by
      simp only [qle, Bool.and_eq_false_iff, decide_eq_false_iff_not]; omega
    rw [this]
    exact q_rng _
end
section
def qxor (a b : qIv) : qIv := if qle 0 a.1 && qle 0 b.1 && qle a.2 i32hi && qle b.2 i32hi then (0, qpow (qmax a.2 b.2)) else (i32lo, i32hi)
theorem q_xor {a b : qIv} {x y : Int32} (h1 : qIn a x.toInt) (h2 : qIn b y.toInt) : qIn (qxor a b) (x ^^^ y).toInt := by
  unfold qxor
  simp only [qIn] at *
  split
  · rename_i h
    simp only [qle, Bool.and_eq_true, decide_eq_true_eq] at h
    exact q_or_n (x := x) (y := y) (by omega) (by omega) (by simp only [qmax]; split <;> omega) (by simp only [qmax]; split <;> omega) (by simp only [qmax]; split <;> omega) _ (.inr (by simp))
  · exact q_rng _
/-- shifts by y of 0 .. 31 -/
theorem q_shk {y : Int32} (h0 : 0 ≤ y.toInt) (h1 : y.toInt ≤ 31) : y &&& 31 = y ∧ (y.toBitVec.smod 32).toNat = y.toInt.toNat := by
  obtain ⟨e1, e2⟩ := q_nn h0
  have h3 : y.toBitVec.toNat < 32 := by omega
  have h4 : y.toInt.toNat = y.toBitVec.toNat := by omega
  have key : ∀ n : Nat, n < 32 → (BitVec.ofNat 32 n &&& 31#32 = BitVec.ofNat 32 n) ∧ ((BitVec.ofNat 32 n).smod 32).toNat = n := by decide +kernel
  have h5 := key _ h3
  rw [BitVec.ofNat_toNat, BitVec.setWidth_eq] at h5
  refine ⟨Int32.toBitVec_inj.mp ?_, by rw [h4]; exact h5.2⟩
  exact h5.1
def qshl (a b : qIv) : qIv := if qle 0 a.1 && qle 0 b.1 && qle b.2 31 && qle (a.2 * 2 ^ b.2.toNat) i32hi then (a.1 * 2 ^ b.1.toNat, a.2 * 2 ^ b.2.toNat) else (i32lo, i32hi)
theorem q_shl {a b : qIv} {x y : Int32} (h1 : qIn a x.toInt) (h2 : qIn b y.toInt) : qIn (qshl a b) (x <<< (y &&& 31)).toInt := by
  unfold qshl
  split
  · rename_i h
    simp only [qle, Bool.and_eq_true, decide_eq_true_eq] at h
    simp only [qIn] at *
    obtain ⟨⟨⟨g1, g2⟩, g3⟩, g4⟩ := h
    obtain ⟨k1, k2⟩ := q_shk (y := y) (by omega) (by omega)
    rw [k1]
    have e := pk_shl x y _ k2
    obtain ⟨x1, x2⟩ := q_nn (x := x) (by omega)
    have m1 : (2 : Int) ^ b.1.toNat ≤ 2 ^ y.toInt.toNat := by exact_mod_cast Nat.pow_le_pow_right (n := 2) (by omega) (by omega)
    have m2 : (2 : Int) ^ y.toInt.toNat ≤ 2 ^ b.2.toNat := by exact_mod_cast Nat.pow_le_pow_right (n := 2) (by omega) (by omega)
    have m0 : (0 : Int) < 2 ^ b.1.toNat := Int.pow_pos (by omega)
    have up : x.toInt * 2 ^ y.toInt.toNat ≤ a.2 * 2 ^ b.2.toNat := Int.mul_le_mul h1.2 m2 (by omega) (by omega)
    have lo : a.1 * 2 ^ b.1.toNat ≤ x.toInt * 2 ^ y.toInt.toNat := Int.mul_le_mul h1.1 m1 (by omega) (by omega)
    have e3 : ((x.toBitVec.toNat * 2 ^ y.toInt.toNat : Nat) : Int) = x.toInt * 2 ^ y.toInt.toNat := by rw [x1]; simp
    have e4 : x.toBitVec.toNat * 2 ^ y.toInt.toNat < 2 ^ 31 := by simp only [i32hi] at g4; omega
    rw [Nat.mod_eq_of_lt (by omega)] at e
    rw [q_nn2 (by rw [e]; exact e4), e]
    omega
  · exact q_full _
def qshr (a b : qIv) : qIv :=
  if qle 0 b.1 && qle b.2 31 && decide (b.1 = b.2) then (a.1 >>> b.1.toNat, a.2 >>> b.1.toNat) else (qmin a.1 0, qmax a.2 0)
theorem q_shrk (x y : Int32) : ∃ k : Nat, (x >>> (y &&& 31)).toInt = x.toInt >>> k := ⟨_, pk_shr x (y &&& 31) _ rfl⟩
theorem q_shr_b (z : Int) (k : Nat) : (0 ≤ z → 0 ≤ z >>> k ∧ z >>> k ≤ z) ∧ (z < 0 → z ≤ z >>> k ∧ z >>> k < 0) := by
  rw [Int.shiftRight_eq_div_pow]
  have hp : (0 : Int) < ((2 ^ k : Nat) : Int) := by exact_mod_cast Nat.two_pow_pos k
  constructor
  · intro h
    exact ⟨Int.ediv_nonneg h (by omega), Int.ediv_le_self _ h⟩
  · intro h
    refine ⟨?_, Int.ediv_neg_of_neg_of_pos h hp⟩
    rw [Int.le_ediv_iff_mul_le hp]
    have : (1 : Int) ≤ ((2 ^ k : Nat) : Int) := hp
    have := Int.mul_le_mul_of_nonpos_left (a := z) (by omega : z ≤ 0) this
    omega
theorem q_shr_m {z w : Int} (h : z ≤ w) (k : Nat) : z >>> k ≤ w >>> k := by
  rw [Int.shiftRight_eq_div_pow, Int.shiftRight_eq_div_pow]
  exact Int.ediv_le_ediv (by exact_mod_cast Nat.two_pow_pos k) h
theorem q_shr {a b : qIv} {x y : Int32} (h1 : qIn a x.toInt) (h2 : qIn b y.toInt) : qIn (qshr a b) (x >>> (y &&& 31)).toInt := by
  unfold qshr
  simp only [qIn] at *
  split
  · rename_i h
    simp only [qle, Bool.and_eq_true, decide_eq_true_eq] at h
    obtain ⟨⟨g1, g2⟩, g3⟩ := h
    obtain ⟨k1, k2⟩ := q_shk (y := y) (by omega) (by omega)
    rw [k1, pk_shr x y _ k2, show y.toInt = b.1 by omega]
    exact ⟨q_shr_m h1.1 _, q_shr_m h1.2 _⟩
  · obtain ⟨k, e⟩ := q_shrk x y
    rw [e]
    have h9 := q_shr_b x.toInt k
    simp only [qmin, qmax]
    by_cases hx : 0 ≤ x.toInt
    · have := h9.1 hx
      constructor <;> split <;> omega
    · have := h9.2 (by omega)
      constructor <;> split <;> omega
def qushr (a b : qIv) : qIv :=
  if qle 0 a.1 then (0, a.2) else if qle 1 b.1 && qle b.2 31 then (0, i32hi) else (i32lo, i32hi)
theorem q_ushr {a b : qIv} {x y : Int32} (h1 : qIn a x.toInt) (h2 : qIn b y.toInt) : qIn (qushr a b) (x.toUInt32 >>> (y.toUInt32 &&& Int32.toUInt32 31)).toInt32.toInt := by
  unfold qushr
  have e := pk_ushr x y _ rfl
  generalize ((y.toUInt32 &&& Int32.toUInt32 31).toBitVec % 32).toNat = k at e
  simp only [qIn] at *
  split
  · rename_i h
    simp only [qle, decide_eq_true_eq] at h
    obtain ⟨x1, x2⟩ := q_nn (x := x) (by omega)
    have : x.toBitVec.toNat / 2 ^ k ≤ x.toBitVec.toNat := Nat.div_le_self _ _
    rw [q_nn2 (by rw [e]; omega), e]
    omega
  · split
    · exact q_rng _ |>.elim (fun h70 h => ⟨by
        rename_i h8 h9
        simp only [qle, Bool.and_eq_true, decide_eq_true_eq] at h9
        have e' := pk_ushr x y _ rfl
        obtain ⟨y1, y2⟩ := q_nn (x := y) (by omega)
        have h3 : y.toBitVec.toNat < 32 := by omega
        have key : ∀ n : Nat, n < 32 → (((BitVec.ofNat 32 n) &&& 31#32) % 32).toNat = n := by decide +kernel
        have h5 := key _ h3
        rw [BitVec.ofNat_toNat, BitVec.setWidth_eq] at h5
        have h6 : ((y.toUInt32 &&& Int32.toUInt32 31).toBitVec % 32).toNat = y.toBitVec.toNat := h5
        rw [h6] at e'
        have h7 : x.toBitVec.toNat / 2 ^ y.toBitVec.toNat ≤ x.toBitVec.toNat / 2 ^ 1 := Nat.div_le_div_left (Nat.pow_le_pow_right (by omega) (by omega)) (by omega)
        have := x.toBitVec.isLt
        rw [q_nn2 (by rw [e']; omega)]
        omega, h⟩)
    · exact q_rng _
/-- quotients -/
def qdiv (a b : qIv) : qIv := if qle 0 a.1 && qle 1 b.1 then (0, a.2) else (i32lo, i32hi)
theorem q_nI {x : Int32} (h : 0 ≤ x.toInt) : ∃ n : Nat, n < 2 ^ 31 ∧ x = nI n ∧ x.toInt = n := by
  obtain ⟨n, h1, h2⟩ := nI_of (x := x) (by rw [Int32.lt_iff_toInt_lt]; simpa using h)
  exact ⟨n, h1, h2, by rw [h2]; exact nI_toInt h1⟩
theorem q_div {a b : qIv} {x y : Int32} (h1 : qIn a x.toInt) (h2 : qIn b y.toInt) : qIn (qdiv a b) (x / y).toInt := by
  unfold qdiv
  simp only [qIn] at *
  split
  · rename_i h
    simp only [qle, Bool.and_eq_true, decide_eq_true_eq] at h
    obtain ⟨n, n1, rfl, n3⟩ := q_nI (x := x) (by omega)
    obtain ⟨d, d1, rfl, d3⟩ := q_nI (x := y) (by omega)
    have hd : n / d ≤ n := Nat.div_le_self _ _
    rw [pk_div n1 (by omega) d1, nI_toInt (by omega)]
    generalize n / d = w at hd ⊢
    omega
  · exact q_rng _
def qrem (a b : qIv) : qIv := if qle 0 a.1 && qle 1 b.1 then (0, qmin a.2 (b.2 - 1)) else (i32lo, i32hi)
theorem q_rem {a b : qIv} {x y : Int32} (h1 : qIn a x.toInt) (h2 : qIn b y.toInt) : qIn (qrem a b) (x - x / y * y).toInt := by
  unfold qrem
  simp only [qIn] at *
  split
  · rename_i h
    simp only [qle, Bool.and_eq_true, decide_eq_true_eq] at h
    obtain ⟨n, n1, rfl, n3⟩ := q_nI (x := x) (by omega)
    obtain ⟨d, d1, rfl, d3⟩ := q_nI (x := y) (by omega)
    have hd : n % d ≤ n := Nat.mod_le _ _
    have hd2 : n % d < d := Nat.mod_lt _ (by omega)
    rw [pk_rem n1 (by omega) d1, nI_toInt (by omega)]
    simp only [qmin]
    constructor
    · omega
    · split <;> omega
  · exact q_rng _
/-- longs -/
theorem q_lN {x : Int64} (h : 0 ≤ x.toInt) : ∃ n : Nat, n < 2 ^ 63 ∧ x = lN n ∧ x.toInt = n := by
  obtain ⟨n, h1, h2⟩ := pk_lOf (x := x) (by rw [Int64.lt_iff_toInt_lt]; simpa using h)
  exact ⟨n, h1, h2, by rw [h2]; exact pk_lT h1⟩
def qdivL (a b : qIv) : qIv := if qle 0 a.1 && qle 1 b.1 && decide (b.1 = b.2) then (0, a.2 / b.1) else (i64lo, i64hi)
theorem q_divL {a b : qIv} {x y : Int64} (h1 : qIn a x.toInt) (h2 : qIn b y.toInt) : qIn (qdivL a b) (x / y).toInt := by
  unfold qdivL
  simp only [qIn] at *
  split
  · rename_i h
    simp only [qle, Bool.and_eq_true, decide_eq_true_eq] at h
    obtain ⟨n, n1, rfl, n3⟩ := q_lN (x := x) (by omega)
    obtain ⟨d, d1, rfl, d3⟩ := q_lN (x := y) (by omega)
    have hd : n / d ≤ n := Nat.div_le_self _ _
    rw [pk_lDiv n1 (by omega) d1, pk_lT (by omega)]
    refine ⟨Int.natCast_nonneg _, ?_⟩
    have e : ((n / d : Nat) : Int) = (n : Int) / (d : Int) := by simp
    rw [e, show b.1 = (d : Int) by omega]
    exact Int.ediv_le_ediv (by omega) (by omega)
  · exact q_rngL _
def qremL (a b : qIv) : qIv := if qle 0 a.1 && qle 1 b.1 then (0, b.2 - 1) else (i64lo, i64hi)
theorem q_remL {a b : qIv} {x y : Int64} (h1 : qIn a x.toInt) (h2 : qIn b y.toInt) : qIn (qremL a b) (x - x / y * y).toInt := by
  unfold qremL
  simp only [qIn] at *
  split
  · rename_i h
    simp only [qle, Bool.and_eq_true, decide_eq_true_eq] at h
    obtain ⟨n, n1, rfl, n3⟩ := q_lN (x := x) (by omega)
    obtain ⟨d, d1, rfl, d3⟩ := q_lN (x := y) (by omega)
    have hd : n % d ≤ n := Nat.mod_le _ _
    have hd2 : n % d < d := Nat.mod_lt _ (by omega)
    rw [pk_lRem n1 (by omega) d1, pk_lT (by omega)]
    omega
  · exact q_rngL _
def ql2i (a : qIv) : qIv := if qle i32lo a.1 && qle a.2 i32hi then a else (i32lo, i32hi)
theorem q_l2i {a : qIv} {x : Int64} (h1 : qIn a x.toInt) : qIn (ql2i a) x.toInt32.toInt := by
  unfold ql2i
  split
  · rename_i h
    simp only [qle, Bool.and_eq_true, decide_eq_true_eq] at h
    have e : x.toInt32.toInt = x.toInt.bmod (2 ^ 32) := by simp
    rw [e, q_bmod (Int.le_trans h.1 h1.1) (Int.le_trans h1.2 h.2)]; exact h1
  · exact q_full _
theorem q_i2l (x : Int32) : x.toInt64.toInt = x.toInt := by simp
theorem q_i2b (x : Int32) : qIn (-128, 127) x.toInt8.toInt32.toInt := by
  have e : x.toInt8.toInt32.toInt = x.toInt8.toInt := by simp
  rw [e]
  have h1 := x.toInt8.le_toInt
  have h2 := x.toInt8.toInt_lt
  simp only [qIn]; omega
theorem q_addT (x y : Int32) : (x + y).toInt = (x.toInt + y.toInt).bmod (2 ^ 32) := by simp
theorem q_subT (x y : Int32) : (x - y).toInt = (x.toInt - y.toInt).bmod (2 ^ 32) := by simp
theorem q_mulT (x y : Int32) : (x * y).toInt = (x.toInt * y.toInt).bmod (2 ^ 32) := by simp
theorem q_negT (x : Int32) : (-x).toInt = (-x.toInt).bmod (2 ^ 32) := by simp
theorem q_addTL (x y : Int64) : (x + y).toInt = (x.toInt + y.toInt).bmod (2 ^ 64) := by simp
theorem q_mulTL (x y : Int64) : (x * y).toInt = (x.toInt * y.toInt).bmod (2 ^ 64) := by simp
def qneg (a : qIv) : qIv := (-a.2, -a.1)
theorem q_neg {a : qIv} {x : Int} (h : qIn a x) : qIn (qneg a) (-x) := by simp only [qIn, qneg] at *; omega
end
section
/-! abstract states: values are numbers of variables, the heap is typed by regions -/
abbrev AV : Type := Nat × Nat × Int
abbrev qTy : Type := Nat × Int × Int
abbrev qRT : Type := Nat × Nat × List (Nat × qTy)
abbrev qWd : Type := List Nat × List qRT × Nat
abbrev qN : Type := List qIv × List (Nat × Nat × Int) × List (Nat × Nat × Nat × Int)
abbrev qF : Type := List (Nat × AV) × List AV
abbrev qM : Type := List Nat × List (Nat × Nat × AV) × List (Nat × Nat)
abbrev AS : Type := qN × qF × qM
abbrev qσ : Type := Nat → Option Int
abbrev qρ : Type := Nat → Option Nat
def F2 {α β : Type} (R : α → β → Prop) : List α → List β → Prop
  | [], [] => True
  | a :: as, b :: bs => R a b ∧ F2 R as bs
  | _, _ => False
theorem F2.mono {α β : Type} {R R' : α → β → Prop} (h : ∀ a b, R a b → R' a b) : ∀ {l : List α} {l' : List β}, F2 R l l' → F2 R' l l'
  | [], [], _ => trivial
  | _ :: _, _ :: _, ⟨h1, h2⟩ => ⟨h _ _ h1, F2.mono h h2⟩
theorem F2.filter {α β : Type} {R : α → β → Prop} (f : α → Bool) (g : β → Bool) (h : ∀ a b, R a b → f a = g b) : ∀ {l : List α} {l' : List β}, F2 R l l' → F2 R (l.filter f) (l'.filter g)
  | [], [], _ => trivial
  | a :: l, b :: l', ⟨h1, h2⟩ => by
    rw [List.filter_cons, List.filter_cons, h a b h1]
    cases g b
    · exact F2.filter f g h h2
    · exact ⟨h1, F2.filter f g h h2⟩
theorem F2.mem {α β : Type} {R : α → β → Prop} {a : α} : ∀ {l : List α} {l' : List β}, F2 R l l' → a ∈ l → ∃ b, b ∈ l' ∧ R a b
  | _ :: _, b :: _, ⟨h1, h2⟩, h => (List.mem_cons.mp h).elim (fun e => ⟨b, List.mem_cons_self, e ▸ h1⟩) (fun h => (F2.mem h2 h).elim (fun b hb => ⟨b, List.mem_cons_of_mem _ hb.1, hb.2⟩))
theorem F2.idx {α β : Type} {R : α → β → Prop} {a : α} : ∀ {l : List α} {l' : List β} {k : Nat}, F2 R l l' → l[k]? = some a → ∃ b, l'[k]? = some b ∧ R a b
  | _ :: _, b :: _, 0, ⟨h1, _⟩, h => ⟨b, rfl, by simp at h; exact h ▸ h1⟩
  | _ :: _, _ :: _, k + 1, ⟨_, h2⟩, h => by
    obtain ⟨b, h3, h4⟩ := F2.idx (k := k) h2 (by simpa using h)
    exact ⟨b, by simpa using h3, h4⟩
  | [], [], _, _, h => by simp at h
theorem F2.len {α β : Type} {R : α → β → Prop} : ∀ {l : List α} {l' : List β}, F2 R l l' → l.length = l'.length
  | [], [], _ => rfl
  | _ :: _, _ :: _, ⟨_, h2⟩ => by simp [F2.len h2]
def qWR : Nat := 77
def qwad (γ : kΓ) (i : Nat) : Nat := γ.2.2.2.2 i
def qinR (D : qWd) (γ : kΓ) (adr : List Nat) (g a : Nat) : Prop := (g = qWR ∧ ∃ i, i < 26 ∧ a = qwad γ i) ∨ ∃ q : Nat, D.1[q]? = some g ∧ adr[q]? = some a
def qvT (D : qWd) (γ : kΓ) (adr : List Nat) (t : qTy) (v : Value) : Prop :=
  (t.1 = 0 → ∃ x : Int32, v = .int x ∧ qIn t.2 x.toInt) ∧ (t.1 = 1 → ∃ x : Int64, v = .long x ∧ qIn t.2 x.toInt) ∧ (t.1 = 2 → ∃ a, v = .ref a ∧ qinR D γ adr t.2.1.toNat a)
def qrd (c : va_E) (k : Nat) : Option Value := match c with
  | .inr o => o.2[k]?
  | .inl a => match a.2.2 with
    | .inl f => if k < a.2.1 then some (.int (f k)) else none
    | .inr (.inl f) => if k < a.2.1 then some (.long (f k)) else none
    | .inr (.inr (.inr (.inr f))) => if k < a.2.1 then some (va_rf (f k)) else none
    | _ => none
def qsh (γ : kΓ) (r : qRT) (c : va_E) : Prop := match c with
  | .inr o => r.1 = 10 + o.1 ∧ o.2.length = r.2.1
  | .inl a => a.1 = γ.2.1 r.1 ∧ a.2.1 = r.2.1 ∧ r.2.1 < 2147483648 ∧ (match a.2.2 with
    | .inl _ => r.1 = 0 ∨ r.1 = 2 ∨ r.1 = 3
    | .inr (.inl _) => r.1 = 1
    | .inr (.inr (.inr (.inr _))) => r.1 = 4 ∨ r.1 = 5
    | _ => False)
def qsg : List (Nat × qTy) → Nat → qTy
  | [], _ => (9, 0, 0)
  | (e, t) :: r, k => if k < e then t else qsg r k
/-- the heap as its types say, but for the slots ex -/
def qH (D : qWd) (γ : kΓ) (adr : List Nat) (ex : Nat → Nat → Prop) (ws : va_W) : Prop :=
  ws.map Prod.fst = adr ∧ ws.length = D.1.length ∧ ∀ (q g a : Nat) (c : va_E), D.1[q]? = some g → ws[q]? = some (a, c) → ∃ r, D.2.1[g]? = some r ∧ qsh γ r c ∧ ∀ k, k < r.2.1 → ex a k ∨ ∃ v, qrd c k = some v ∧ qvT D γ adr (qsg r.2.2 k) v
abbrev qMods : Type := List (Nat × Nat × Nat)
def qmod (ms : qMods) (g k : Nat) : Bool := ms.any (fun m => m.1 == g && Nat.ble m.2.1 k && Nat.ble k m.2.2)
def qK (D : qWd) (ms : qMods) (w0 ws : va_W) : Prop := ∀ (q g a : Nat) (c : va_E) (a' : Nat) (c' : va_E), D.1[q]? = some g → w0[q]? = some (a, c) → ws[q]? = some (a', c') → ∀ k, qmod ms g k = false → qrd c' k = qrd c k
def qR (σ : qσ) (ρ : qρ) (a : AV) (v : Value) : Prop :=
  (a.1 = 0 ∧ ∃ (x : Int32) (y : Int), v = .int x ∧ σ a.2.1 = some y ∧ x.toInt = y + a.2.2) ∨
  (a.1 = 1 ∧ ∃ x : Int32, v = .int x ∧ x.toInt = a.2.2) ∨
  (a.1 = 2 ∧ ∃ x : Int64, v = .long x ∧ σ a.2.1 = some x.toInt) ∨
  (a.1 = 3 ∧ ∃ n, v = .ref n ∧ ρ a.2.1 = some n)
def qle1 (σ σ' : qσ) : Prop := ∀ v x, σ v = some x → σ' v = some x
def qle2 (ρ ρ' : qρ) : Prop := ∀ v x, ρ v = some x → ρ' v = some x
theorem qR.mono {σ σ' : qσ} {ρ ρ' : qρ} (h1 : qle1 σ σ') (h2 : qle2 ρ ρ') {a : AV} {v : Value} (h : qR σ ρ a v) : qR σ' ρ' a v := by
  rcases h with ⟨t, x, y, e, hs, hx⟩ | h | ⟨t, x, e, hs⟩ | ⟨t, n, e, hs⟩
  · exact .inl ⟨t, x, y, e, h1 _ _ hs, hx⟩
  · exact .inr (.inl h)
  · exact .inr (.inr (.inl ⟨t, x, e, h1 _ _ hs⟩))
  · exact .inr (.inr (.inr ⟨t, n, e, h2 _ _ hs⟩))
theorem qR.cat {σ : qσ} {ρ : qρ} {a : AV} {v : Value} (h : qR σ ρ a v) : (v.category == 2) = (a.1 == 2) ∧ v.category = (if a.1 = 2 then 2 else 1) := by
  rcases h with ⟨t, x, y, e, hs, hx⟩ | ⟨t, x, e, hx⟩ | ⟨t, x, e, hs⟩ | ⟨t, n, e, hs⟩ <;> subst e <;> rw [t] <;> exact ⟨rfl, rfl⟩
/-- the numbers: what is known of the variables -/
def qsN (D : qWd) (σ : qσ) (N : qN) : Prop :=
  (∀ v, N.1.length ≤ v → σ v = none) ∧ (∀ v iv, N.1[v]? = some iv → ∃ x, σ v = some x ∧ qIn iv x) ∧
  (∀ a b d, (a, b, d) ∈ N.2.1 → ∃ x y, σ a = some x ∧ σ b = some y ∧ y + d ≤ x) ∧
  (∀ v g V d, (v, g, V, d) ∈ N.2.2 → ∃ r x y, D.2.1[g]? = some r ∧ σ v = some x ∧ σ V = some y ∧ 0 ≤ y + d ∧ ((qsg r.2.2 (y + d).toNat).1 = 0 → qIn (qsg r.2.2 (y + d).toNat).2 x))
def qsF (σ : qσ) (ρ : qρ) (F : qF) (lv : List (Nat × Value)) (st : List Value) : Prop := F2 (fun x y => x.1 = y.1 ∧ qR σ ρ x.2 y.2) F.1 lv ∧ F2 (qR σ ρ) F.2 st
/-- the place that k means: itself, or a variable's number and something -/
def qix (σ : qσ) (k i : Nat) : Prop := (k < 10000 ∧ i = k) ∨ (10000 ≤ k ∧ ∃ y, σ ((k - 10000) / 4096) = some y ∧ (i : Int) = y + (((k - 10000) % 4096 : Nat) : Int) - 2048)
theorem qix.mono {σ σ' : qσ} (h : qle1 σ σ') {k i : Nat} (hk : qix σ k i) : qix σ' k i := hk.imp id (fun ⟨h1, y, h2, h3⟩ => ⟨h1, y, h _ _ h2, h3⟩)
def qexA (ρ : qρ) (ex : List (Nat × Nat)) (a k : Nat) : Prop := ∃ n, (n, k) ∈ ex ∧ ρ n = some a
def qsM (D : qWd) (γ : kΓ) (adr : List Nat) (σ : qσ) (ρ : qρ) (M : qM) (ws : va_W) : Prop :=
  (∀ n, n < D.2.2 → ρ n = adr[n]?) ∧ (∀ j g, M.1[j]? = some g → ∃ a, ρ (D.2.2 + j) = some a ∧ qinR D γ adr g a) ∧ (∀ n, D.2.2 + M.1.length ≤ n → ρ n = none) ∧
  (∀ n k av, (n, k, av) ∈ M.2.1 → ∃ (q a : Nat) (c : va_E) (v : Value) (i : Nat), ws[q]? = some (a, c) ∧ ρ n = some a ∧ qrd c i = some v ∧ qR σ ρ av v ∧ qix σ k i) ∧
  qH D γ adr (qexA ρ M.2.2) ws
theorem qsF.mono {σ σ' : qσ} {ρ ρ' : qρ} (h1 : qle1 σ σ') (h2 : qle2 ρ ρ') {F : qF} {lv : List (Nat × Value)} {st : List Value} (h : qsF σ ρ F lv st) : qsF σ' ρ' F lv st :=
  ⟨F2.mono (fun _ _ h => ⟨h.1, h.2.mono h1 h2⟩) h.1, F2.mono (fun _ _ h => h.mono h1 h2) h.2⟩
theorem qsM.monoσ {D : qWd} {γ : kΓ} {adr : List Nat} {σ σ' : qσ} {ρ : qρ} (h1 : qle1 σ σ') {M : qM} {ws : va_W} (h : qsM D γ adr σ ρ M ws) : qsM D γ adr σ' ρ M ws :=
  ⟨h.1, h.2.1, h.2.2.1, fun n k av hm => (h.2.2.2.1 n k av hm).elim (fun q h => h.elim (fun a h => h.elim (fun c h => h.elim (fun v h => h.elim (fun i h => ⟨q, a, c, v, i, h.1, h.2.1, h.2.2.1, h.2.2.2.1.mono h1 (fun _ _ h => h), h.2.2.2.2.mono h1⟩))))), h.2.2.2.2⟩
/-- a new number -/
def qfr (N : qN) (iv : qIv) : qN × AV := if iv.1 = iv.2 then (N, (1, 0, iv.1)) else ((N.1 ++ [iv], N.2), (0, N.1.length, 0))
theorem q_ext {D : qWd} {σ : qσ} {N : qN} (h : qsN D σ N) {iv : qIv} {x : Int} (hx : qIn iv x) : ∃ σ', qle1 σ σ' ∧ qsN D σ' (N.1 ++ [iv], N.2) ∧ σ' N.1.length = some x := by
  have hn := h.1 _ (Nat.le_refl _)
  refine ⟨fun v => if v = N.1.length then some x else σ v, ?_, ⟨?_, ?_, ?_, ?_⟩, by simp⟩
  · intro v y hv
    by_cases e : v = N.1.length
    · rw [e, hn] at hv; cases hv
    · simp [e, hv]
  · intro v hv
    simp at hv
    have : ¬ v = N.1.length := by omega
    simp only [this, if_false]
    exact h.1 v (by omega)
  · intro v iv' hv
    by_cases e : v = N.1.length
    · subst e
      simp at hv
      exact ⟨x, by simp, hv ▸ hx⟩
    · have : v < N.1.length := by
        have := (List.getElem?_eq_some_iff.mp hv).1
        simp at this; omega
      rw [List.getElem?_append_left this] at hv
      simp only [e, if_false]
      exact h.2.1 v iv' hv
  · intro a b d hm
    obtain ⟨y, z, h1, h2, h3⟩ := h.2.2.1 a b d hm
    have n1 : ¬ a = N.1.length := fun e => by rw [e, hn] at h1; cases h1
    have n2 : ¬ b = N.1.length := fun e => by rw [e, hn] at h2; cases h2
    exact ⟨y, z, by simp [n1, h1], by simp [n2, h2], h3⟩
  · intro v g V d hm
    obtain ⟨r, y, z, h0, h1, h2, h3⟩ := h.2.2.2 v g V d hm
    have n1 : ¬ v = N.1.length := fun e => by rw [e, hn] at h1; cases h1
    have n2 : ¬ V = N.1.length := fun e => by rw [e, hn] at h2; cases h2
    exact ⟨r, y, z, h0, by simp [n1, h1], by simp [n2, h2], h3⟩
theorem q_fr {D : qWd} {σ : qσ} {ρ : qρ} {N : qN} (h : qsN D σ N) {iv : qIv} {x : Int32} (hx : qIn iv x.toInt) : ∃ σ', qle1 σ σ' ∧ qsN D σ' (qfr N iv).1 ∧ qR σ' ρ (qfr N iv).2 (.int x) := by
  unfold qfr
  by_cases e : iv.1 = iv.2
  · rw [if_pos e]
    refine ⟨σ, fun _ _ h => h, h, .inr (.inl ⟨rfl, x, rfl, ?_⟩)⟩
    have := hx.1; have := hx.2; show x.toInt = iv.1; omega
  · rw [if_neg e]
    obtain ⟨σ', h1, h2, h3⟩ := q_ext h hx
    exact ⟨σ', h1, h2, .inl ⟨rfl, x, x.toInt, rfl, h3, by simp⟩⟩
def qfrL (N : qN) (iv : qIv) : qN × AV := ((N.1 ++ [iv], N.2), (2, N.1.length, 0))
theorem q_frL {D : qWd} {σ : qσ} {ρ : qρ} {N : qN} (h : qsN D σ N) {iv : qIv} {x : Int64} (hx : qIn iv x.toInt) : ∃ σ', qle1 σ σ' ∧ qsN D σ' (qfrL N iv).1 ∧ qR σ' ρ (qfrL N iv).2 (.long x) := by
  obtain ⟨σ', h1, h2, h3⟩ := q_ext h hx
  exact ⟨σ', h1, h2, .inr (.inr (.inl ⟨rfl, x, rfl, h3⟩))⟩
/-- a new reference -/
theorem q_frR {D : qWd} {γ : kΓ} {adr : List Nat} {σ : qσ} {ρ : qρ} {M : qM} {ws : va_W} (h : qsM D γ adr σ ρ M ws) {g a : Nat} (ha : qinR D γ adr g a) : ∃ ρ', qle2 ρ ρ' ∧ qsM D γ adr σ ρ' (M.1 ++ [g], M.2) ws ∧ ρ' (D.2.2 + M.1.length) = some a := by
  have hn := h.2.2.1 _ (Nat.le_refl _)
  have hle : qle2 ρ (fun v => if v = D.2.2 + M.1.length then some a else ρ v) := by
    intro v y hv
    by_cases e : v = D.2.2 + M.1.length
    · rw [e, hn] at hv; cases hv
    · simp [e, hv]
  refine ⟨fun v => if v = D.2.2 + M.1.length then some a else ρ v, hle, ⟨?_, ?_, ?_, ?_, ?_⟩, by simp⟩
  · intro n hn
    have : ¬ n = D.2.2 + M.1.length := by omega
    simp only [this, if_false]
    exact h.1 n hn
  · intro j g' hj
    by_cases e : j = M.1.length
    · subst e
      simp at hj
      exact ⟨a, by simp, hj ▸ ha⟩
    · have : j < M.1.length := by
        have := (List.getElem?_eq_some_iff.mp hj).1
        simp at this; omega
      rw [List.getElem?_append_left this] at hj
      have e2 : ¬ D.2.2 + j = D.2.2 + M.1.length := by omega
      simp only [e2, if_false]
      exact h.2.1 j g' hj
  · intro n hn
    simp at hn
    have : ¬ n = D.2.2 + M.1.length := by omega
    simp only [this, if_false]
    exact h.2.2.1 n (by omega)
  · intro n k av hm
    obtain ⟨q, b, c, v, i, h1, h2, h3, h4, h5⟩ := h.2.2.2.1 n k av hm
    exact ⟨q, b, c, v, i, h1, hle _ _ h2, h3, h4.mono (fun _ _ h => h) hle, h5⟩
  · obtain ⟨h1, h2, h3⟩ := h.2.2.2.2
    refine ⟨h1, h2, fun q g b c hg hc => ?_⟩
    obtain ⟨r, e1, e2, e3⟩ := h3 q g b c hg hc
    refine ⟨r, e1, e2, fun k hk => (e3 k hk).imp (fun z => ?_) id⟩
    obtain ⟨n, z1, z2⟩ := z
    exact ⟨n, z1, hle _ _ z2⟩
/-- what is known of a value -/
def qiv (N : qN) (a : AV) : Option qIv := if a.1 = 0 then (N.1[a.2.1]?).map (fun p => (p.1 + a.2.2, p.2 + a.2.2)) else if a.1 = 1 then some (a.2.2, a.2.2) else none
theorem q_iv {D : qWd} {σ : qσ} {ρ : qρ} {N : qN} (h : qsN D σ N) {a : AV} {v : Value} (hr : qR σ ρ a v) {iv : qIv} (hi : qiv N a = some iv) : ∃ x : Int32, v = .int x ∧ qIn iv x.toInt := by
  unfold qiv at hi
  rcases hr with ⟨t, x, y, e, hs, hx⟩ | ⟨t, x, e, hx⟩ | ⟨t, x, e, hs⟩ | ⟨t, n, e, hs⟩
  · rw [t] at hi
    simp only [if_true, Option.map_eq_some_iff] at hi
    obtain ⟨p, h1, h2⟩ := hi
    obtain ⟨z, h3, h4⟩ := h.2.1 _ _ h1
    rw [hs] at h3
    cases h3
    refine ⟨x, e, ?_⟩
    rw [← h2]
    simp only [qIn] at *
    omega
  · rw [t] at hi
    simp at hi
    exact ⟨x, e, by rw [← hi]; simp only [qIn]; omega⟩
  · rw [t] at hi; simp at hi
  · rw [t] at hi; simp at hi
def qivL (N : qN) (a : AV) : Option qIv := if a.1 = 2 then N.1[a.2.1]? else none
theorem q_ivL {D : qWd} {σ : qσ} {ρ : qρ} {N : qN} (h : qsN D σ N) {a : AV} {v : Value} (hr : qR σ ρ a v) {iv : qIv} (hi : qivL N a = some iv) : ∃ x : Int64, v = .long x ∧ qIn iv x.toInt := by
  unfold qivL at hi
  rcases hr with ⟨t, x, y, e, hs, hx⟩ | ⟨t, x, e, hx⟩ | ⟨t, x, e, hs⟩ | ⟨t, n, e, hs⟩
  · rw [t] at hi; simp at hi
  · rw [t] at hi; simp at hi
  · rw [t] at hi
    simp only [if_true] at hi
    obtain ⟨z, h3, h4⟩ := h.2.1 _ _ hi
    rw [hs] at h3
    cases h3
    exact ⟨x, e, h4⟩
  · rw [t] at hi; simp at hi
/-- narrower -/
def qnar (N : qN) (a : AV) (iv : qIv) : Option qN :=
  if a.1 = 0 then (N.1[a.2.1]?).bind (fun p => let lo := qmax p.1 (iv.1 - a.2.2); let hi := qmin p.2 (iv.2 - a.2.2); if lo ≤ hi then some (N.1.set a.2.1 (lo, hi), N.2) else none)
  else if a.1 = 1 then (if iv.1 ≤ a.2.2 ∧ a.2.2 ≤ iv.2 then some N else none) else some N
theorem q_nar {D : qWd} {σ : qσ} {ρ : qρ} {N : qN} (h : qsN D σ N) {a : AV} {x : Int32} (hr : qR σ ρ a (.int x)) {iv : qIv} (hx : qIn iv x.toInt) (hd : (qiv N a).isSome = true) : ∃ N', qnar N a iv = some N' ∧ qsN D σ N' := by
  unfold qnar
  rcases hr with ⟨t, x', y, e, hs, hx'⟩ | ⟨t, x', e, hx'⟩ | ⟨t, x', e, hs⟩ | ⟨t, n, e, hs⟩
  · cases e
    unfold qiv at hd
    rw [t] at hd ⊢
    simp only [if_true, Option.isSome_map] at hd ⊢
    obtain ⟨p, hp⟩ := Option.isSome_iff_exists.mp hd
    obtain ⟨z, h3, h4⟩ := h.2.1 _ _ hp
    rw [hs] at h3
    cases h3
    rw [hp]
    simp only [Option.bind_some]
    have hlo : qmax p.1 (iv.1 - a.2.2) ≤ y ∧ y ≤ qmin p.2 (iv.2 - a.2.2) := by
      simp only [qIn, qmax, qmin] at *
      constructor <;> split <;> omega
    rw [if_pos (Int.le_trans hlo.1 hlo.2)]
    refine ⟨_, rfl, fun v hv => h.1 v (by simpa using hv), fun v iv' hv => ?_, h.2.2.1, h.2.2.2⟩
    by_cases e9 : a.2.1 = v
    · subst e9
      rw [List.getElem?_set_self (List.getElem?_eq_some_iff.mp hp).1] at hv
      cases hv
      exact ⟨y, hs, hlo⟩
    · rw [List.getElem?_set_ne e9] at hv
      exact h.2.1 v iv' hv
  · cases e
    rw [t]
    simp only [Nat.one_ne_zero, if_false, if_true]
    refine ⟨N, ?_, h⟩
    rw [if_pos]
    simp only [qIn] at hx; omega
  · cases e
  · cases e
end
section
/-! the machine over abstract states: simple instructions -/
abbrev qCx : Type := kΓ × Program × Launch × Env × Room × State × MethodId × Array Value × List Frame × Method × Code × (State → Prop) × (ByteArray × Nat × String) × (Nat → Prop) × qWd × List Nat × (va_W → Prop) × qMods × va_W × qσ
def qS (x : qCx) (S : AS) (σ : qσ) (ρ : qρ) (lv : List (Nat × Value)) (st : List Value) (ws : va_W) : Prop :=
  match x with
  | (γ, _, _, _, _, _, _, _, _, _, _, _, _, _, D, adr, X, ms, w0, σe) => qsN D σ S.1 ∧ qsF σ ρ S.2.1 lv st ∧ qsM D γ adr σ ρ S.2.2 ws ∧ X ws ∧ qK D ms w0 ws ∧ qle1 σe σ
def qWp (x : qCx) (H : Heap) (locs : List Loc) (pc : Nat) (ls : Array Slot) (st : List Value) : Prop :=
  match x with
  | (_, p, l, e, R, s, m, args, below, meth, c, Q, _) => W p l e R s m args below meth c H locs 0 0 Q (F0 m pc ls st)
def qkW (x : qCx) (ws : va_W) (H : Heap) (locs : List Loc) : Prop :=
  match x with
  | (γ, _, _, _, _, s, _, _, _, _, _, _, _, A, _) => kW γ A ws s H locs
def qlv (x : qCx) (ls : Array Slot) (lv : List (Nat × Value)) : Prop :=
  match x with
  | (_, _, _, _, _, _, _, _, _, _, _, _, (_, nL, _), _) => lv_has ls nL lv
def qdc (x : qCx) (pc : Nat) (i : Instr × Nat) : Prop :=
  match x with
  | (_, _, _, _, _, _, _, _, _, _, _, _, (cc, _, _), _) => decode cc pc = .ok i
def qB (x : qCx) : Prop :=
  match x with
  | (γ, p, _, _, _, s, m, args, _, _, c, _, (cc, nL, own), A, _) => kC γ p s m args c cc nL own A
def qG (x : qCx) (S : AS) (pc : Nat) : Prop := ∀ (σ : qσ) (ρ : qρ) (lv : List (Nat × Value)) (st : List Value) (ls : Array Slot) (ws : va_W) (H : Heap) (locs : List Loc), qkW x ws H locs → qlv x ls lv → qS x S σ ρ lv st ws → qWp x H locs pc ls st
abbrev qSu : Type := List (AS × Nat)
def qOk (x : qCx) (L : qSu) : Prop := ∀ y ∈ L, qG x y.1 y.2
theorem qOk1 {x : qCx} {S : AS} {pc : Nat} (h : qOk x [(S, pc)]) : qG x S pc := h _ List.mem_cons_self
/-- loads -/
def qs_ld (t : Nat → Bool) (S : AS) (i pc len : Nat) : Option qSu :=
  match S.2.1.1.find? (fun q => q.1 == i && t q.2.1) with
  | some q => some [((S.1, (S.2.1.1, q.2 :: S.2.1.2), S.2.2), pc + len)]
  | none => none
theorem q_find {σ : qσ} {ρ : qρ} {t : Nat → Bool} {i nL : Nat} {loc : List (Nat × AV)} {lv : List (Nat × Value)} {ls : Array Slot} (hl : lv_has ls nL lv) (h : F2 (fun x y => x.1 = y.1 ∧ qR σ ρ x.2 y.2) loc lv) {q : Nat × AV} (hq : loc.find? (fun q => q.1 == i && t q.2.1) = some q) : ∃ v, ls[i]? = some (.val v) ∧ qR σ ρ q.2 v ∧ t q.2.1 = true := by
  have h1 := List.find?_some hq
  simp only [Bool.and_eq_true, beq_iff_eq] at h1
  obtain ⟨⟨j, v⟩, h2, h3, h4⟩ := F2.mem h (List.mem_of_find?_eq_some hq)
  refine ⟨v, ?_, h4, h1.2⟩
  have := hl.2.2 _ h2
  simp only at this h3
  rw [← h1.1, h3]; exact this
theorem qs_ldI {x : qCx} (hB : qB x) {S : AS} {i pc len : Nat} {L : qSu} (hs : qs_ld (fun t => Nat.ble t 1) S i pc len = some L) (hd : (∃ k : Fin 4, (k : Nat) = i ∧ qdc x pc (.iload_n k, 1) ∧ len = 1) ∨ (qdc x pc (.iload i, 2) ∧ len = 2)) (h : qOk x L) : qG x S pc := by
  obtain ⟨γ, p, l, e, R, s, m, args, below, meth, c, Q, ⟨cc, nL, own⟩, A, D, adr, X, ms, w0, σe⟩ := x
  unfold qs_ld at hs
  split at hs
  · rename_i q hq
    cases hs
    have hG := qOk1 h
    intro σ ρ lv st ls ws H locs hw hl hS
    obtain ⟨v, h1, h2, h3⟩ := q_find (i := i) (t := fun t => Nat.ble t 1) hl hS.2.1.1 hq
    have h4 : ∃ z : Int32, v = .int z := by
      rcases h2 with ⟨_, z, _, e, _⟩ | ⟨_, z, e, _⟩ | ⟨t, _⟩ | ⟨t, _⟩
      · exact ⟨z, e⟩
      · exact ⟨z, e⟩
      · rw [t] at h3; cases h3
      · rw [t] at h3; cases h3
    obtain ⟨z, rfl⟩ := h4
    have hk := hG σ ρ lv (.int z :: st) ls ws H locs hw hl ⟨hS.1, ⟨hS.2.1.1, h2, hS.2.1.2⟩, hS.2.2⟩
    rcases hd with ⟨k, hi, hdc, rfl⟩ | ⟨hdc, rfl⟩
    · exact lv_iload_n hB.1 hB.2.1 hdc hi h1 hk
    · exact lv_iload hB.1 hB.2.1 hdc h1 hk
  · cases hs
theorem qs_ldA {x : qCx} (hB : qB x) {S : AS} {i pc len : Nat} {L : qSu} (hs : qs_ld (fun t => t == 3) S i pc len = some L) (hd : (∃ k : Fin 4, (k : Nat) = i ∧ qdc x pc (.aload_n k, 1) ∧ len = 1) ∨ (qdc x pc (.aload i, 2) ∧ len = 2)) (h : qOk x L) : qG x S pc := by
  obtain ⟨γ, p, l, e, R, s, m, args, below, meth, c, Q, ⟨cc, nL, own⟩, A, D, adr, X, ms, w0, σe⟩ := x
  unfold qs_ld at hs
  split at hs
  · rename_i q hq
    cases hs
    have hG := qOk1 h
    intro σ ρ lv st ls ws H locs hw hl hS
    obtain ⟨v, h1, h2, h3⟩ := q_find (i := i) (t := fun t => t == 3) hl hS.2.1.1 hq
    have h4 : ∃ z : Nat, v = .ref z := by
      rcases h2 with ⟨t, _⟩ | ⟨t, _⟩ | ⟨t, _⟩ | ⟨_, z, e, _⟩
      · rw [t] at h3; cases h3
      · rw [t] at h3; cases h3
      · rw [t] at h3; cases h3
      · exact ⟨z, e⟩
    obtain ⟨z, rfl⟩ := h4
    have hk := hG σ ρ lv (.ref z :: st) ls ws H locs hw hl ⟨hS.1, ⟨hS.2.1.1, h2, hS.2.1.2⟩, hS.2.2⟩
    rcases hd with ⟨k, hi, hdc, rfl⟩ | ⟨hdc, rfl⟩
    · exact lv_aload_n hB.1 hB.2.1 hdc hi h1 hk
    · exact lv_aload hB.1 hB.2.1 hdc h1 hk
  · cases hs
theorem qs_ldL {x : qCx} (hB : qB x) {S : AS} {i pc len : Nat} {L : qSu} (hs : qs_ld (fun t => t == 2) S i pc len = some L) (hd : (∃ k : Fin 4, (k : Nat) = i ∧ qdc x pc (.lload_n k, 1) ∧ len = 1) ∨ (qdc x pc (.lload i, 2) ∧ len = 2)) (h : qOk x L) : qG x S pc := by
  obtain ⟨γ, p, l, e, R, s, m, args, below, meth, c, Q, ⟨cc, nL, own⟩, A, D, adr, X, ms, w0, σe⟩ := x
  unfold qs_ld at hs
  split at hs
  · rename_i q hq
    cases hs
    have hG := qOk1 h
    intro σ ρ lv st ls ws H locs hw hl hS
    obtain ⟨v, h1, h2, h3⟩ := q_find (i := i) (t := fun t => t == 2) hl hS.2.1.1 hq
    have h4 : ∃ z : Int64, v = .long z := by
      rcases h2 with ⟨t, _⟩ | ⟨t, _⟩ | ⟨_, z, e, _⟩ | ⟨t, _⟩
      · rw [t] at h3; cases h3
      · rw [t] at h3; cases h3
      · exact ⟨z, e⟩
      · rw [t] at h3; cases h3
    obtain ⟨z, rfl⟩ := h4
    have hk := hG σ ρ lv (.long z :: st) ls ws H locs hw hl ⟨hS.1, ⟨hS.2.1.1, h2, hS.2.1.2⟩, hS.2.2⟩
    rcases hd with ⟨k, hi, hdc, rfl⟩ | ⟨hdc, rfl⟩
    · exact lv_lload_n hB.1 hB.2.1 hdc hi h1 hk
    · exact lv_lload hB.1 hB.2.1 hdc h1 hk
  · cases hs
/-- constants -/
def qs_c (S : AS) (n : Int) (pc len : Nat) : Option qSu := some [((S.1, (S.2.1.1, (1, 0, n) :: S.2.1.2), S.2.2), pc + len)]
theorem qs_cI {x : qCx} {S : AS} {n : Int} {pc len : Nat} {L : qSu} (hs : qs_c S n pc len = some L) {v : Int32} (hv : v.toInt = n) (hd : ∀ (H : Heap) (locs : List Loc) (ls : Array Slot) (st : List Value), qWp x H locs (pc + len) ls (.int v :: st) → qWp x H locs pc ls st) (h : qOk x L) : qG x S pc := by
  obtain ⟨γ, p, l, e, R, s, m, args, below, meth, c, Q, ⟨cc, nL, own⟩, A, D, adr, X, ms, w0, σe⟩ := x
  cases hs
  have hG := qOk1 h
  intro σ ρ lv st ls ws H locs hw hl hS
  exact hd H locs ls st (hG σ ρ lv (.int v :: st) ls ws H locs hw hl ⟨hS.1, ⟨hS.2.1.1, .inr (.inl ⟨rfl, v, rfl, hv⟩), hS.2.1.2⟩, hS.2.2⟩)
def qs_cl (S : AS) (n : Int) (pc len : Nat) : Option qSu := some [((( qfrL S.1 (n, n)).1, (S.2.1.1, (qfrL S.1 (n, n)).2 :: S.2.1.2), S.2.2), pc + len)]
theorem qs_cL {x : qCx} {S : AS} {n : Int} {pc len : Nat} {L : qSu} (hs : qs_cl S n pc len = some L) {v : Int64} (hv : v.toInt = n) (hd : ∀ (H : Heap) (locs : List Loc) (ls : Array Slot) (st : List Value), qWp x H locs (pc + len) ls (.long v :: st) → qWp x H locs pc ls st) (h : qOk x L) : qG x S pc := by
  obtain ⟨γ, p, l, e, R, s, m, args, below, meth, c, Q, ⟨cc, nL, own⟩, A, D, adr, X, ms, w0, σe⟩ := x
  cases hs
  have hG := qOk1 h
  intro σ ρ lv st ls ws H locs hw hl hS
  obtain ⟨σ', h1, h2, h3⟩ := q_frL (ρ := ρ) hS.1 (iv := (n, n)) (x := v) (by simp only [qIn]; omega)
  have hF := hS.2.1.mono h1 (fun _ _ h => h)
  exact hd H locs ls st (hG σ' ρ lv (.long v :: st) ls ws H locs hw hl ⟨h2, ⟨hF.1, h3, hF.2⟩, hS.2.2.1.monoσ h1, hS.2.2.2.1, hS.2.2.2.2.1, fun v x hv => h1 v x (hS.2.2.2.2.2 v x hv)⟩)
/-- stores -/
def qst1 (loc : List (Nat × AV)) (i : Nat) (a : AV) : List (Nat × AV) := (i, a) :: loc.filter (fun q => !(q.1 == i) && !(q.1 + 1 == i && q.2.1 == 2))
def qst2 (loc : List (Nat × AV)) (i : Nat) (a : AV) : List (Nat × AV) := (i, a) :: loc.filter (fun q => !(q.1 == i) && (!(q.1 == i + 1) && !(q.1 + 1 == i && q.2.1 == 2)))
def qs_st (t : Nat → Bool) (S : AS) (nL i pc len : Nat) : Option qSu :=
  match S.2.1.2 with
  | a :: stk => if t a.1 && Nat.blt i nL then some [((S.1, (qst1 S.2.1.1 i a, stk), S.2.2), pc + len)] else none
  | [] => none
theorem q_st1 {σ : qσ} {ρ : qρ} {loc : List (Nat × AV)} {lv : List (Nat × Value)} (h : F2 (fun x y => x.1 = y.1 ∧ qR σ ρ x.2 y.2) loc lv) {i : Nat} {a : AV} {v : Value} (hr : qR σ ρ a v) : F2 (fun x y => x.1 = y.1 ∧ qR σ ρ x.2 y.2) (qst1 loc i a) ((i, v) :: lv.filter (fun q => !(q.1 == i) && !(q.1 + 1 == i && q.2.category == 2))) :=
  ⟨⟨rfl, hr⟩, F2.filter _ _ (fun a b hab => by rw [hab.1, hab.2.cat.1]) h⟩
theorem q_st2 {σ : qσ} {ρ : qρ} {loc : List (Nat × AV)} {lv : List (Nat × Value)} (h : F2 (fun x y => x.1 = y.1 ∧ qR σ ρ x.2 y.2) loc lv) {i : Nat} {a : AV} {v : Value} (hr : qR σ ρ a v) : F2 (fun x y => x.1 = y.1 ∧ qR σ ρ x.2 y.2) (qst2 loc i a) ((i, v) :: lv.filter (fun q => !(q.1 == i) && (!(q.1 == i + 1) && !(q.1 + 1 == i && q.2.category == 2)))) :=
  ⟨⟨rfl, hr⟩, F2.filter _ _ (fun a b hab => by rw [hab.1, hab.2.cat.1]) h⟩
theorem qs_stI {x : qCx} (hB : qB x) {S : AS} {i pc len nL : Nat} (hnL : x.2.2.2.2.2.2.2.2.2.2.2.2.1.2.1 = nL) {L : qSu} (hs : qs_st (fun t => Nat.ble t 1) S nL i pc len = some L) (hd : (∃ k : Fin 4, (k : Nat) = i ∧ qdc x pc (.istore_n k, 1) ∧ len = 1) ∨ (qdc x pc (.istore i, 2) ∧ len = 2)) (h : qOk x L) : qG x S pc := by
  obtain ⟨γ, p, l, e, R, s, m, args, below, meth, c, Q, ⟨cc, nL', own⟩, A, D, adr, X, ms, w0, σe⟩ := x
  simp only at hnL
  subst hnL
  obtain ⟨N, ⟨loc, stk⟩, M⟩ := S
  unfold qs_st at hs
  split at hs
  · rename_i a stk' heq
    simp only at heq
    subst heq
    split at hs
    · rename_i hc
      cases hs
      simp only [Bool.and_eq_true, Nat.blt_eq] at hc
      have hG := qOk1 h
      intro σ ρ lv st ls ws H locs hw hl hS
      obtain ⟨h1, h2, h3⟩ := hS
      match st, h2.2 with
      | v :: st, ⟨hr, h4⟩ =>
      have h5 : ∃ z : Int32, v = .int z := by
        rcases hr with ⟨_, z, _, e, _⟩ | ⟨_, z, e, _⟩ | ⟨t, _⟩ | ⟨t, _⟩
        · exact ⟨z, e⟩
        · exact ⟨z, e⟩
        · rw [t] at hc; exact absurd hc.1 (by decide)
        · rw [t] at hc; exact absurd hc.1 (by decide)
      obtain ⟨z, rfl⟩ := h5
      have hk : ∀ ls' : Array Slot, lv_has ls' nL' ((i, .int z) :: lv.filter (fun q => !(q.1 == i) && !(q.1 + 1 == i && q.2.category == 2))) → qWp (γ, p, l, e, R, s, m, args, below, meth, c, Q, (cc, nL', own), A, D, adr, X, ms, w0, σe) H locs (pc + len) ls' st :=
        fun ls' hl' => hG σ ρ _ st ls' ws H locs hw hl' ⟨h1, ⟨q_st1 h2.1 hr, h4⟩, h3⟩
      rcases hd with ⟨k, hi, hdc, rfl⟩ | ⟨hdc, rfl⟩
      · exact lv_istore_n hB.1 hB.2.1 hdc hi hl hc.2 rfl hk
      · exact lv_istore hB.1 hB.2.1 hdc hl hc.2 rfl hk
    · cases hs
  · cases hs
theorem qs_stA {x : qCx} (hB : qB x) {S : AS} {i pc len nL : Nat} (hnL : x.2.2.2.2.2.2.2.2.2.2.2.2.1.2.1 = nL) {L : qSu} (hs : qs_st (fun t => t == 3) S nL i pc len = some L) (hd : (∃ k : Fin 4, (k : Nat) = i ∧ qdc x pc (.astore_n k, 1) ∧ len = 1) ∨ (qdc x pc (.astore i, 2) ∧ len = 2)) (h : qOk x L) : qG x S pc := by
  obtain ⟨γ, p, l, e, R, s, m, args, below, meth, c, Q, ⟨cc, nL', own⟩, A, D, adr, X, ms, w0, σe⟩ := x
  simp only at hnL
  subst hnL
  obtain ⟨N, ⟨loc, stk⟩, M⟩ := S
  unfold qs_st at hs
  split at hs
  · rename_i a stk' heq
    simp only at heq
    subst heq
    split at hs
    · rename_i hc
      cases hs
      simp only [Bool.and_eq_true, Nat.blt_eq] at hc
      have hG := qOk1 h
      intro σ ρ lv st ls ws H locs hw hl hS
      obtain ⟨h1, h2, h3⟩ := hS
      match st, h2.2 with
      | v :: st, ⟨hr, h4⟩ =>
      have h5 : ∃ z : Nat, v = .ref z := by
        rcases hr with ⟨t, _⟩ | ⟨t, _⟩ | ⟨t, _⟩ | ⟨_, z, e, _⟩
        · rw [t] at hc; exact absurd hc.1 (by decide)
        · rw [t] at hc; exact absurd hc.1 (by decide)
        · rw [t] at hc; exact absurd hc.1 (by decide)
        · exact ⟨z, e⟩
      obtain ⟨z, rfl⟩ := h5
      have hk : ∀ ls' : Array Slot, lv_has ls' nL' ((i, .ref z) :: lv.filter (fun q => !(q.1 == i) && !(q.1 + 1 == i && q.2.category == 2))) → qWp (γ, p, l, e, R, s, m, args, below, meth, c, Q, (cc, nL', own), A, D, adr, X, ms, w0, σe) H locs (pc + len) ls' st :=
        fun ls' hl' => hG σ ρ _ st ls' ws H locs hw hl' ⟨h1, ⟨q_st1 h2.1 hr, h4⟩, h3⟩
      rcases hd with ⟨k, hi, hdc, rfl⟩ | ⟨hdc, rfl⟩
      · exact lv_astore_n hB.1 hB.2.1 hdc hi hl hc.2 rfl hk
      · exact lv_astore hB.1 hB.2.1 hdc hl hc.2 rfl hk
    · cases hs
  · cases hs
def qs_sl (S : AS) (nL i pc len : Nat) : Option qSu :=
  match S.2.1.2 with
  | a :: stk => if a.1 == 2 && Nat.blt (i + 1) nL then some [((S.1, (qst2 S.2.1.1 i a, stk), S.2.2), pc + len)] else none
  | [] => none
theorem qs_stL {x : qCx} (hB : qB x) {S : AS} {i pc len nL : Nat} (hnL : x.2.2.2.2.2.2.2.2.2.2.2.2.1.2.1 = nL) {L : qSu} (hs : qs_sl S nL i pc len = some L) (hd : (∃ k : Fin 4, (k : Nat) = i ∧ qdc x pc (.lstore_n k, 1) ∧ len = 1) ∨ (qdc x pc (.lstore i, 2) ∧ len = 2)) (h : qOk x L) : qG x S pc := by
  obtain ⟨γ, p, l, e, R, s, m, args, below, meth, c, Q, ⟨cc, nL', own⟩, A, D, adr, X, ms, w0, σe⟩ := x
  simp only at hnL
  subst hnL
  obtain ⟨N, ⟨loc, stk⟩, M⟩ := S
  unfold qs_sl at hs
  split at hs
  · rename_i a stk' heq
    simp only at heq
    subst heq
    split at hs
    · rename_i hc
      cases hs
      simp only [Bool.and_eq_true, Nat.blt_eq] at hc
      have hG := qOk1 h
      intro σ ρ lv st ls ws H locs hw hl hS
      obtain ⟨h1, h2, h3⟩ := hS
      match st, h2.2 with
      | v :: st, ⟨hr, h4⟩ =>
      have h5 : ∃ z : Int64, v = .long z := by
        rcases hr with ⟨t, _⟩ | ⟨t, _⟩ | ⟨_, z, e, _⟩ | ⟨t, _⟩
        · rw [t] at hc; exact absurd hc.1 (by decide)
        · rw [t] at hc; exact absurd hc.1 (by decide)
        · exact ⟨z, e⟩
        · rw [t] at hc; exact absurd hc.1 (by decide)
      obtain ⟨z, rfl⟩ := h5
      have hk : ∀ ls' : Array Slot, lv_has ls' nL' ((i, .long z) :: lv.filter (fun q => !(q.1 == i) && (!(q.1 == i + 1) && !(q.1 + 1 == i && q.2.category == 2)))) → qWp (γ, p, l, e, R, s, m, args, below, meth, c, Q, (cc, nL', own), A, D, adr, X, ms, w0, σe) H locs (pc + len) ls' st :=
        fun ls' hl' => hG σ ρ _ st ls' ws H locs hw hl' ⟨h1, ⟨q_st2 h2.1 hr, h4⟩, h3⟩
      rcases hd with ⟨k, hi, hdc, rfl⟩ | ⟨hdc, rfl⟩
      · exact lv_lstore_n hB.1 hB.2.1 hdc hi hl hc.2 rfl hk
      · exact lv_lstore hB.1 hB.2.1 hdc hl hc.2 rfl hk
    · cases hs
  · cases hs
end
section
/-! arithmetic, stack, branches -/
def qaddc (N : qN) (a : AV) (n : Int) : Option AV :=
  if a.1 = 1 then (if qle i32lo (a.2.2 + n) && qle (a.2.2 + n) i32hi then some (1, 0, a.2.2 + n) else none)
  else if a.1 = 0 then (match N.1[a.2.1]? with
    | some p => if qle i32lo (p.1 + (a.2.2 + n)) && qle (p.2 + (a.2.2 + n)) i32hi then some (0, a.2.1, a.2.2 + n) else none
    | none => none)
  else none
theorem q_addc {D : qWd} {σ : qσ} {ρ : qρ} {N : qN} (h : qsN D σ N) {a r : AV} {x z : Int32} {n : Int} (hr : qR σ ρ a (.int x)) (hz : z.toInt = (x.toInt + n).bmod (2 ^ 32)) (hq : qaddc N a n = some r) : qR σ ρ r (.int z) := by
  unfold qaddc at hq
  rcases hr with ⟨t, x', y, e, hs, hx⟩ | ⟨t, x', e, hx⟩ | ⟨t, x', e, hs⟩ | ⟨t, n, e, hs⟩
  · cases e
    rw [t] at hq
    simp only [Nat.zero_ne_one, if_false, if_true] at hq
    split at hq
    · rename_i p hp
      split at hq
      · rename_i hc
        simp only [qle, Bool.and_eq_true, decide_eq_true_eq] at hc
        cases hq
        obtain ⟨w, h3, h4⟩ := h.2.1 _ _ hp
        rw [hs] at h3
        cases h3
        simp only [qIn] at h4
        refine .inl ⟨rfl, z, y, rfl, hs, ?_⟩
        rw [hz, q_bmod (by omega) (by omega)]
        show _ = y + (a.2.2 + n)
        omega
      · cases hq
    · cases hq
  · cases e
    rw [t] at hq
    simp only [if_true] at hq
    split at hq
    · rename_i hc
      simp only [qle, Bool.and_eq_true, decide_eq_true_eq] at hc
      cases hq
      refine .inr (.inl ⟨rfl, z, rfl, ?_⟩)
      rw [hz, hx, q_bmod hc.1 hc.2]
    · cases hq
  · cases e
  · cases e
/-- a difference, by what is known of it -/
def qdl (a b : AV) : List (Nat × Nat × Int) → Int → Int
  | [], m => m
  | r :: l, m => qdl a b l (if r.1 == a.2.1 && r.2.1 == b.2.1 then qmax m (r.2.2 + a.2.2 - b.2.2) else m)
theorem q_dl {σ : qσ} {a b : AV} {u w : Int} (ha : σ a.2.1 = some u) (hb : σ b.2.1 = some w) : ∀ {l : List (Nat × Nat × Int)} {m : Int}, (∀ a b d, (a, b, d) ∈ l → ∃ x y, σ a = some x ∧ σ b = some y ∧ y + d ≤ x) → m ≤ (u + a.2.2) - (w + b.2.2) → qdl a b l m ≤ (u + a.2.2) - (w + b.2.2)
  | [], _, _, h => h
  | r :: l, m, hl, h => by
    unfold qdl
    refine q_dl ha hb (fun a b d hm => hl a b d (List.mem_cons_of_mem _ hm)) ?_
    split
    · rename_i hc
      simp only [Bool.and_eq_true, beq_iff_eq] at hc
      obtain ⟨x, y, h1, h2, h3⟩ := hl r.1 r.2.1 r.2.2 List.mem_cons_self
      rw [hc.1, ha] at h1
      rw [hc.2, hb] at h2
      cases h1; cases h2
      simp only [qmax]
      split <;> omega
    · exact h
def qsubR (N : qN) (a b : AV) : Option (qN × AV) :=
  if a.1 = 0 ∧ b.1 = 0 then (if a.2.1 = b.2.1 then (if qle i32lo (a.2.2 - b.2.2) && qle (a.2.2 - b.2.2) i32hi then some (N, (1, 0, a.2.2 - b.2.2)) else none)
    else (match qiv N a, qiv N b with
      | some p, some q => if qle i32lo (p.1 - q.2) && qle (p.2 - q.1) i32hi then some (qfr N (qdl a b N.2.1 (p.1 - q.2), p.2 - q.1)) else none
      | _, _ => none)) else none
def qres2 (N : qN) (op : qIv → qIv → qIv) (a b : AV) : Option (qN × AV) :=
  match qiv N a, qiv N b with
  | some p, some q => some (qfr N (op p q))
  | _, _ => none
def qbin (k : Nat) (N : qN) (a b : AV) : Option (qN × AV) :=
  match k with
  | 0 => (match (if b.1 = 1 then qaddc N a b.2.2 else if a.1 = 1 then qaddc N b a.2.2 else none) with
    | some r => some (N, r)
    | none => qres2 N (fun p q => qclip (qadd p q)) a b)
  | 1 => (match (if b.1 = 1 then qaddc N a (-b.2.2) else none) with
    | some r => some (N, r)
    | none => (match qsubR N a b with
      | some r => some r
      | none => qres2 N (fun p q => qclip (qsub p q)) a b))
  | 2 => qres2 N (fun p q => qclip (qmul p q)) a b
  | 3 => qres2 N qand a b
  | 4 => qres2 N qor a b
  | 5 => qres2 N qxor a b
  | 6 => qres2 N qshl a b
  | 7 => qres2 N qshr a b
  | 8 => qres2 N qushr a b
  | 9 => (match qiv N b with
    | some q => if qle 1 q.1 then qres2 N qdiv a b else none
    | none => none)
  | 10 => (match qiv N b with
    | some q => if qle 1 q.1 then qres2 N qrem a b else none
    | none => none)
  | _ => none
def qfun (k : Nat) (x y : Int32) : Int32 :=
  match k with
  | 0 => x + y
  | 1 => x - y
  | 2 => x * y
  | 3 => x &&& y
  | 4 => x ||| y
  | 5 => x ^^^ y
  | 6 => x <<< (y &&& 31)
  | 7 => x >>> (y &&& 31)
  | 8 => (x.toUInt32 >>> (y.toUInt32 &&& Int32.toUInt32 31)).toInt32
  | 9 => x / y
  | 10 => x - x / y * y
  | _ => x
theorem q_res2 {D : qWd} {σ : qσ} {ρ : qρ} {N : qN} (h : qsN D σ N) {op : qIv → qIv → qIv} {a b : AV} {x y z : Int32} (ha : qR σ ρ a (.int x)) (hb : qR σ ρ b (.int y)) (hop : ∀ p q : qIv, qIn p x.toInt → qIn q y.toInt → qIn (op p q) z.toInt) {r : qN × AV} (hr : qres2 N op a b = some r) : ∃ σ', qle1 σ σ' ∧ qsN D σ' r.1 ∧ qR σ' ρ r.2 (.int z) := by
  unfold qres2 at hr
  split at hr
  · rename_i p q hp hq
    cases hr
    obtain ⟨x', e1, i1⟩ := q_iv h ha hp
    obtain ⟨y', e2, i2⟩ := q_iv h hb hq
    cases e1; cases e2
    exact q_fr h (hop p q i1 i2)
  · cases hr
theorem q_same {D : qWd} {σ : qσ} {ρ : qρ} {N : qN} (h : qsN D σ N) {a : AV} {v : Value} (ha : qR σ ρ a v) {r : qN × AV} (hr : some (N, a) = some r) : ∃ σ', qle1 σ σ' ∧ qsN D σ' r.1 ∧ qR σ' ρ r.2 v := by
  cases hr; exact ⟨σ, fun _ _ h => h, h, ha⟩
theorem q_cst {σ : qσ} {ρ : qρ} {b : AV} {y : Int32} (h1 : b.1 = 1) (hb : qR σ ρ b (.int y)) : y.toInt = b.2.2 := by
  rcases hb with ⟨t, _⟩ | ⟨_, x, e, hx⟩ | ⟨t, _⟩ | ⟨t, _⟩
  · rw [h1] at t; cases t
  · cases e; exact hx
  · rw [h1] at t; cases t
  · rw [h1] at t; cases t
theorem q_v0 {σ : qσ} {ρ : qρ} {a : AV} {x : Int32} (h : qR σ ρ a (.int x)) (h0 : a.1 = 0) : ∃ y, σ a.2.1 = some y ∧ x.toInt = y + a.2.2 := by
  rcases h with ⟨_, x', y, e, hs, hx⟩ | ⟨t, _⟩ | ⟨t, _⟩ | ⟨t, _⟩
  · cases e; exact ⟨y, hs, hx⟩
  · rw [h0] at t; cases t
  · rw [h0] at t; cases t
  · rw [h0] at t; cases t
theorem q_subR {D : qWd} {σ : qσ} {ρ : qρ} {N : qN} (h : qsN D σ N) {a b : AV} {x y : Int32} (ha : qR σ ρ a (.int x)) (hb : qR σ ρ b (.int y)) {r : qN × AV} (hr : qsubR N a b = some r) : ∃ σ', qle1 σ σ' ∧ qsN D σ' r.1 ∧ qR σ' ρ r.2 (.int (x - y)) := by
  unfold qsubR at hr
  split at hr
  · rename_i h0
    obtain ⟨u, hu, ex⟩ := q_v0 ha h0.1
    obtain ⟨w, hw, ey⟩ := q_v0 hb h0.2
    split at hr
    · rename_i hv
      split at hr
      · rename_i hc
        simp only [qle, Bool.and_eq_true, decide_eq_true_eq] at hc
        cases hr
        rw [hv, hw] at hu
        cases hu
        refine ⟨σ, fun _ _ h => h, h, .inr (.inl ⟨rfl, x - y, rfl, ?_⟩)⟩
        rw [q_subT, show x.toInt - y.toInt = a.2.2 - b.2.2 by omega, q_bmod hc.1 hc.2]
      · cases hr
    · split at hr
      · rename_i p q hp hq
        split at hr
        · rename_i hc
          simp only [qle, Bool.and_eq_true, decide_eq_true_eq] at hc
          cases hr
          obtain ⟨x', e1, i1⟩ := q_iv h ha hp
          obtain ⟨y', e2, i2⟩ := q_iv h hb hq
          cases e1; cases e2
          simp only [qIn] at i1 i2
          have hd := q_dl (a := a) (b := b) hu hw (l := N.2.1) (m := p.1 - q.2) h.2.2.1 (by omega)
          have he : (x - y).toInt = x.toInt - y.toInt := by rw [q_subT, q_bmod (by omega) (by omega)]
          exact q_fr h (by rw [he]; simp only [qIn]; omega)
        · cases hr
      · cases hr
  · cases hr
theorem q_bin {D : qWd} {σ : qσ} {ρ : qρ} {N : qN} (h : qsN D σ N) (k : Nat) {a b : AV} {x y : Int32} (ha : qR σ ρ a (.int x)) (hb : qR σ ρ b (.int y)) {r : qN × AV} (hr : qbin k N a b = some r) : (9 ≤ k → ¬ y = 0) ∧ ∃ σ', qle1 σ σ' ∧ qsN D σ' r.1 ∧ qR σ' ρ r.2 (.int (qfun k x y)) := by
  unfold qbin at hr
  split at hr
  · refine ⟨by omega, ?_⟩
    split at hr
    · rename_i r' hq
      split at hq
      · rename_i h1
        exact q_same h (q_addc (z := x + y) h ha (by rw [q_addT, q_cst h1 hb]) hq) hr
      · split at hq
        · rename_i h1
          exact q_same h (q_addc (z := x + y) h hb (by rw [q_addT, q_cst h1 ha, Int.add_comm]) hq) hr
        · cases hq
    · exact q_res2 h ha hb (fun p q h1 h2 => q_clip (q_addT x y) (q_add h1 h2)) hr
  · refine ⟨by omega, ?_⟩
    split at hr
    · rename_i r' hq
      split at hq
      · rename_i h1
        exact q_same h (q_addc (z := x - y) h ha (by rw [q_subT, q_cst h1 hb, Int.sub_eq_add_neg]) hq) hr
      · cases hq
    · split at hr
      · rename_i r' hq
        cases hr
        exact q_subR h ha hb hq
      · exact q_res2 h ha hb (fun p q h1 h2 => q_clip (q_subT x y) (q_sub h1 h2)) hr
  · exact ⟨by omega, q_res2 h ha hb (fun p q h1 h2 => q_clip (q_mulT x y) (q_mul h1 h2)) hr⟩
  · exact ⟨by omega, q_res2 h ha hb (fun p q h1 h2 => q_and h1 h2) hr⟩
  · exact ⟨by omega, q_res2 h ha hb (fun p q h1 h2 => q_or h1 h2) hr⟩
  · exact ⟨by omega, q_res2 h ha hb (fun p q h1 h2 => q_xor h1 h2) hr⟩
  · exact ⟨by omega, q_res2 h ha hb (fun p q h1 h2 => q_shl h1 h2) hr⟩
  · exact ⟨by omega, q_res2 h ha hb (fun p q h1 h2 => q_shr h1 h2) hr⟩
  · exact ⟨by omega, q_res2 h ha hb (fun p q h1 h2 => q_ushr h1 h2) hr⟩
  · split at hr
    · rename_i q hq
      split at hr
      · rename_i hc
        simp only [qle, decide_eq_true_eq] at hc
        obtain ⟨y', e2, i2⟩ := q_iv h hb hq
        cases e2
        refine ⟨fun _ e => ?_, q_res2 h ha hb (fun p q h1 h2 => q_div h1 h2) hr⟩
        subst e
        have := i2.1
        simp at this
        omega
      · cases hr
    · cases hr
  · split at hr
    · rename_i q hq
      split at hr
      · rename_i hc
        simp only [qle, decide_eq_true_eq] at hc
        obtain ⟨y', e2, i2⟩ := q_iv h hb hq
        cases e2
        refine ⟨fun _ e => ?_, q_res2 h ha hb (fun p q h1 h2 => q_rem h1 h2) hr⟩
        subst e
        have := i2.1
        simp at this
        omega
      · cases hr
    · cases hr
  · cases hr
/-- a value that is an int -/
def qint (a : AV) : Bool := Nat.ble a.1 1
theorem q_int {σ : qσ} {ρ : qρ} {a : AV} {v : Value} (hr : qR σ ρ a v) (h : qint a = true) : ∃ z : Int32, v = .int z := by
  rcases hr with ⟨_, z, _, e, _⟩ | ⟨_, z, e, _⟩ | ⟨t, _⟩ | ⟨t, _⟩
  · exact ⟨z, e⟩
  · exact ⟨z, e⟩
  · unfold qint at h; rw [t] at h; exact absurd h (by decide)
  · unfold qint at h; rw [t] at h; exact absurd h (by decide)
theorem q_lng {σ : qσ} {ρ : qρ} {a : AV} {v : Value} (hr : qR σ ρ a v) (h : a.1 = 2) : ∃ z : Int64, v = .long z := by
  rcases hr with ⟨t, _⟩ | ⟨t, _⟩ | ⟨_, z, e, _⟩ | ⟨t, _⟩
  · rw [h] at t; cases t
  · rw [h] at t; cases t
  · exact ⟨z, e⟩
  · rw [h] at t; cases t
def qs_bin (k : Nat) (S : AS) (pc : Nat) : Option qSu :=
  match S.2.1.2 with
  | b :: a :: stk => if qint a && qint b then (match qbin k S.1 a b with
    | some r => some [((r.1, (S.2.1.1, r.2 :: stk), S.2.2), pc + 1)]
    | none => none) else none
  | _ => none
theorem qs_binI {x : qCx} {k : Nat} {S : AS} {pc : Nat} {L : qSu} (hs : qs_bin k S pc = some L)
    (hd : ∀ (H : Heap) (locs : List Loc) (ls : Array Slot) (st : List Value) (y z : Int32), (9 ≤ k → ¬ z = 0) → qWp x H locs (pc + 1) ls (.int (qfun k y z) :: st) → qWp x H locs pc ls (.int z :: .int y :: st)) (h : qOk x L) : qG x S pc := by
  obtain ⟨γ, p, l, e, R, s, m, args, below, meth, c, Q, ⟨cc, nL', own⟩, A, D, adr, X, ms, w0, σe⟩ := x
  obtain ⟨N, ⟨loc, stk⟩, M⟩ := S
  unfold qs_bin at hs
  split at hs
  · rename_i b a stk' heq
    simp only at heq
    subst heq
    split at hs
    · rename_i hc
      simp only [Bool.and_eq_true] at hc
      split at hs
      · rename_i r hr
        cases hs
        have hG := qOk1 h
        intro σ ρ lv st ls ws H locs hw hl hS
        obtain ⟨h1, h2, h3, h4, h5, h6⟩ := hS
        match st, h2.2 with
        | vb :: va :: st, ⟨hrb, hra, hst⟩ =>
        obtain ⟨y, rfl⟩ := q_int hra hc.1
        obtain ⟨z, rfl⟩ := q_int hrb hc.2
        obtain ⟨hne, σ', s1, s2, s3⟩ := q_bin h1 k hra hrb hr
        have hF := h2.mono s1 (fun _ _ h => h)
        exact hd H locs ls st y z hne (hG σ' ρ lv _ ls ws H locs hw hl ⟨s2, ⟨hF.1, s3, hF.2.2.2⟩, h3.monoσ s1, h4, h5, fun v x hv => s1 v x (h6 v x hv)⟩)
      · cases hs
    · cases hs
  · cases hs
/-- one value to another: a negative number, widths, longs -/
def qs_un (f : qN → AV → Option (qN × AV)) (S : AS) (pc : Nat) : Option qSu :=
  match S.2.1.2 with
  | a :: stk => (match f S.1 a with
    | some r => some [((r.1, (S.2.1.1, r.2 :: stk), S.2.2), pc + 1)]
    | none => none)
  | _ => none
theorem qs_unG {x : qCx} {f : qN → AV → Option (qN × AV)} {S : AS} {pc : Nat} {L : qSu} (hs : qs_un f S pc = some L)
    (hd : ∀ (H : Heap) (locs : List Loc) (ls : Array Slot) (st : List Value) (D : qWd) (σ : qσ) (ρ : qρ) (N : qN) (a : AV) (r : qN × AV) (v : Value), qsN D σ N → qR σ ρ a v → f N a = some r → ∃ (w : Value) (σ' : qσ), qle1 σ σ' ∧ qsN D σ' r.1 ∧ qR σ' ρ r.2 w ∧ (qWp x H locs (pc + 1) ls (w :: st) → qWp x H locs pc ls (v :: st))) (h : qOk x L) : qG x S pc := by
  obtain ⟨γ, p, l, e, R, s, m, args, below, meth, c, Q, ⟨cc, nL', own⟩, A, D, adr, X, ms, w0, σe⟩ := x
  obtain ⟨N, ⟨loc, stk⟩, M⟩ := S
  unfold qs_un at hs
  split at hs
  · rename_i a stk' heq
    simp only at heq
    subst heq
    split at hs
    · rename_i r hr
      cases hs
      have hG := qOk1 h
      intro σ ρ lv st ls ws H locs hw hl hS
      obtain ⟨h1, h2, h3, h4, h5, h6⟩ := hS
      match st, h2.2 with
      | v :: st, ⟨hra, hst⟩ =>
      obtain ⟨w, σ', s1, s2, s3, hk⟩ := hd H locs ls st D σ ρ N a r v h1 hra hr
      have hF := h2.mono s1 (fun _ _ h => h)
      exact hk (hG σ' ρ lv _ ls ws H locs hw hl ⟨s2, ⟨hF.1, s3, hF.2.2⟩, h3.monoσ s1, h4, h5, fun v x hv => s1 v x (h6 v x hv)⟩)
    · cases hs
  · cases hs
def qu_neg (N : qN) (a : AV) : Option (qN × AV) := (qiv N a).map (fun p => qfr N (qclip (qneg p)))
def qu_i2b (N : qN) (a : AV) : Option (qN × AV) := (qiv N a).map (fun _ => qfr N (-128, 127))
def qu_i2l (N : qN) (a : AV) : Option (qN × AV) := (qiv N a).map (fun p => qfrL N p)
def qu_l2i (N : qN) (a : AV) : Option (qN × AV) := (qivL N a).map (fun p => qfr N (ql2i p))
/-- two longs to one -/
def qbinL (k : Nat) (N : qN) (a b : AV) : Option (qN × AV) :=
  match qivL N a, qivL N b with
  | some p, some q => (match k with
    | 0 => some (qfrL N (qclipL (qadd p q)))
    | 1 => some (qfrL N (qclipL (qmul p q)))
    | 2 => if qle 1 q.1 then some (qfrL N (qdivL p q)) else none
    | 3 => if qle 1 q.1 then some (qfrL N (qremL p q)) else none
    | 4 => some (qfrL N (i64lo, i64hi))
    | 5 => some (qfrL N (i64lo, i64hi))
    | 6 => some (qfrL N (i64lo, i64hi))
    | 7 => some (qfr N (-1, 1))
    | _ => none)
  | _, _ => none
def qs_binL (k : Nat) (S : AS) (pc : Nat) : Option qSu :=
  match S.2.1.2 with
  | b :: a :: stk => (match qbinL k S.1 a b with
    | some r => some [((r.1, (S.2.1.1, r.2 :: stk), S.2.2), pc + 1)]
    | none => none)
  | _ => none
def qfunL (k : Nat) (x y : Int64) : Int64 :=
  match k with
  | 0 => x + y
  | 1 => x * y
  | 2 => x / y
  | 3 => x - x / y * y
  | 4 => x &&& y
  | 5 => x ||| y
  | 6 => x - y
  | _ => x
theorem q_binL {D : qWd} {σ : qσ} {ρ : qρ} {N : qN} (h : qsN D σ N) (k : Nat) {a b : AV} {v w : Value} (ha : qR σ ρ a v) (hb : qR σ ρ b w) {r : qN × AV} (hr : qbinL k N a b = some r) :
    ∃ x y : Int64, v = .long x ∧ w = .long y ∧ (k = 2 ∨ k = 3 → ¬ y = 0) ∧ (k < 7 → ∃ σ', qle1 σ σ' ∧ qsN D σ' r.1 ∧ qR σ' ρ r.2 (.long (qfunL k x y))) ∧ (7 ≤ k → ∀ z : Int32, qIn (-1, 1) z.toInt → ∃ σ', qle1 σ σ' ∧ qsN D σ' r.1 ∧ qR σ' ρ r.2 (.int z)) := by
  unfold qbinL at hr
  split at hr
  · rename_i p q hp hq
    obtain ⟨x, e1, i1⟩ := q_ivL h ha hp
    obtain ⟨y, e2, i2⟩ := q_ivL h hb hq
    refine ⟨x, y, e1, e2, ?_⟩
    split at hr
    · cases hr; exact ⟨by omega, fun _ => q_frL h (q_clipL (q_addTL x y) (q_add i1 i2)), by omega⟩
    · cases hr; exact ⟨by omega, fun _ => q_frL h (q_clipL (q_mulTL x y) (q_mul i1 i2)), by omega⟩
    · split at hr
      · rename_i hc
        simp only [qle, decide_eq_true_eq] at hc
        cases hr
        exact ⟨fun _ e => by subst e; have := i2.1; simp at this; omega, fun _ => q_frL h (q_divL i1 i2), by omega⟩
      · cases hr
    · split at hr
      · rename_i hc
        simp only [qle, decide_eq_true_eq] at hc
        cases hr
        exact ⟨fun _ e => by subst e; have := i2.1; simp at this; omega, fun _ => q_frL h (q_remL i1 i2), by omega⟩
      · cases hr
    · cases hr; exact ⟨by omega, fun _ => q_frL h (q_fullL _), by omega⟩
    · cases hr; exact ⟨by omega, fun _ => q_frL h (q_fullL _), by omega⟩
    · cases hr; exact ⟨by omega, fun _ => q_frL h (q_fullL _), by omega⟩
    · cases hr; exact ⟨by omega, by omega, fun _ z hz => q_fr h hz⟩
    · cases hr
  · cases hr
theorem qs_binLG {x : qCx} {k : Nat} {S : AS} {pc : Nat} {L : qSu} (hs : qs_binL k S pc = some L)
    (hd : ∀ (H : Heap) (locs : List Loc) (ls : Array Slot) (st : List Value) (y z : Int64), (k = 2 ∨ k = 3 → ¬ z = 0) → ∃ w : Value, ((k < 7 ∧ w = .long (qfunL k y z)) ∨ (7 ≤ k ∧ ∃ q : Int32, w = .int q ∧ qIn (-1, 1) q.toInt)) ∧ (qWp x H locs (pc + 1) ls (w :: st) → qWp x H locs pc ls (.long z :: .long y :: st))) (h : qOk x L) : qG x S pc := by
  obtain ⟨γ, p, l, e, R, s, m, args, below, meth, c, Q, ⟨cc, nL', own⟩, A, D, adr, X, ms, w0, σe⟩ := x
  obtain ⟨N, ⟨loc, stk⟩, M⟩ := S
  unfold qs_binL at hs
  split at hs
  · rename_i b a stk' heq
    simp only at heq
    subst heq
    split at hs
    · rename_i r hr
      cases hs
      have hG := qOk1 h
      intro σ ρ lv st ls ws H locs hw hl hS
      obtain ⟨h1, h2, h3, h4, h5, h6⟩ := hS
      match st, h2.2 with
      | vb :: va :: st, ⟨hrb, hra, hst⟩ =>
      obtain ⟨y, z, rfl, rfl, hne, hA, hB⟩ := q_binL h1 k hra hrb hr
      obtain ⟨w, hw9, hk⟩ := hd H locs ls st y z hne
      have : ∃ σ', qle1 σ σ' ∧ qsN D σ' r.1 ∧ qR σ' ρ r.2 w := by
        rcases hw9 with ⟨k1, rfl⟩ | ⟨k1, q, rfl, hq⟩
        · exact hA k1
        · exact hB k1 q hq
      obtain ⟨σ', s1, s2, s3⟩ := this
      have hF := h2.mono s1 (fun _ _ h => h)
      exact hk (hG σ' ρ lv _ ls ws H locs hw hl ⟨s2, ⟨hF.1, s3, hF.2.2.2⟩, h3.monoσ s1, h4, h5, fun v x hv => s1 v x (h6 v x hv)⟩)
    · cases hs
  · cases hs
/-- a long by an int -/
def qs_shL (S : AS) (pc : Nat) : Option qSu :=
  match S.2.1.2 with
  | b :: a :: stk => if qint b && a.1 == 2 then some [(((qfrL S.1 (i64lo, i64hi)).1, (S.2.1.1, (qfrL S.1 (i64lo, i64hi)).2 :: stk), S.2.2), pc + 1)] else none
  | _ => none
theorem qs_shLG {x : qCx} {S : AS} {pc : Nat} {L : qSu} (hs : qs_shL S pc = some L)
    (hd : ∀ (H : Heap) (locs : List Loc) (ls : Array Slot) (st : List Value) (y : Int64) (z : Int32), ∃ w : Int64, qWp x H locs (pc + 1) ls (.long w :: st) → qWp x H locs pc ls (.int z :: .long y :: st)) (h : qOk x L) : qG x S pc := by
  obtain ⟨γ, p, l, e, R, s, m, args, below, meth, c, Q, ⟨cc, nL', own⟩, A, D, adr, X, ms, w0, σe⟩ := x
  obtain ⟨N, ⟨loc, stk⟩, M⟩ := S
  unfold qs_shL at hs
  split at hs
  · rename_i b a stk' heq
    simp only at heq
    subst heq
    split at hs
    · rename_i hc
      simp only [Bool.and_eq_true, beq_iff_eq] at hc
      cases hs
      have hG := qOk1 h
      intro σ ρ lv st ls ws H locs hw hl hS
      obtain ⟨h1, h2, h3, h4, h5, h6⟩ := hS
      match st, h2.2 with
      | vb :: va :: st, ⟨hrb, hra, hst⟩ =>
      obtain ⟨z, rfl⟩ := q_int hrb hc.1
      obtain ⟨y, rfl⟩ := q_lng hra hc.2
      obtain ⟨w, hk⟩ := hd H locs ls st y z
      obtain ⟨σ', s1, s2, s3⟩ := q_frL (ρ := ρ) h1 (q_fullL w)
      have hF := h2.mono s1 (fun _ _ h => h)
      exact hk (hG σ' ρ lv _ ls ws H locs hw hl ⟨s2, ⟨hF.1, s3, hF.2.2.2⟩, h3.monoσ s1, h4, h5, fun v x hv => s1 v x (h6 v x hv)⟩)
    · cases hs
  · cases hs
end
section
/-! increments, stack, branches, switches -/
def qs_inc (S : AS) (nL i : Nat) (n : Int) (pc : Nat) : Option qSu :=
  match S.2.1.1.findIdx? (fun q => q.1 == i && qint q.2) with
  | some k => (match S.2.1.1[k]? with
    | some q => if q.1 == i && qint q.2 && Nat.blt i nL && qle i32lo n && qle n i32hi then (match qbin 0 S.1 q.2 (1, 0, n) with
      | some r => some [((r.1, (qst1 S.2.1.1 i r.2, S.2.1.2), S.2.2), pc + 3)]
      | none => none) else none
    | none => none)
  | none => none
theorem q_ofInt {n : Int} (h1 : i32lo ≤ n) (h2 : n ≤ i32hi) : (Int32.ofInt n).toInt = n := by
  rw [Int32.toInt_ofInt]
  exact q_bmod h1 h2
theorem qs_incG {x : qCx} (hB : qB x) {S : AS} {nL i : Nat} {n : Int} {pc : Nat} (hnL : x.2.2.2.2.2.2.2.2.2.2.2.2.1.2.1 = nL) {L : qSu} (hs : qs_inc S nL i n pc = some L) (hdc : qdc x pc (.iinc i n, 3)) (h : qOk x L) : qG x S pc := by
  obtain ⟨γ, p, l, e, R, s, m, args, below, meth, c, Q, ⟨cc, nL', own⟩, A, D, adr, X, ms, w0, σe⟩ := x
  simp only at hnL
  subst hnL
  obtain ⟨N, ⟨loc, stk⟩, M⟩ := S
  unfold qs_inc at hs
  split at hs
  · rename_i k hk
    split at hs
    · rename_i q hq
      split at hs
      · rename_i hc
        simp only [Bool.and_eq_true, beq_iff_eq, Nat.blt_eq, qle, decide_eq_true_eq] at hc
        obtain ⟨⟨⟨⟨c1, c2⟩, c3⟩, c4⟩, c5⟩ := hc
        split at hs
        · rename_i r hr
          cases hs
          have hG := qOk1 h
          intro σ ρ lv st ls ws H locs hw hl hS
          obtain ⟨h1, h2, h3, h4, h5, h6⟩ := hS
          obtain ⟨⟨j, v⟩, g1, g2, g3⟩ := F2.idx h2.1 hq
          obtain ⟨z, rfl⟩ := q_int g3 c2
          have hv : (Int32.ofInt n).toInt = n := q_ofInt c4 c5
          obtain ⟨-, σ', s1, s2, s3⟩ := q_bin h1 0 (y := Int32.ofInt n) g3 (.inr (.inl ⟨rfl, _, rfl, hv⟩)) hr
          have hF := h2.mono s1 (fun _ _ h => h)
          simp only at g2
          subst g2
          subst c1
          refine lv_iinc hB.1 hB.2.1 hdc hl (k := k) g1 rfl c3 rfl (fun ls' hl' => ?_)
          exact hG σ' ρ _ st ls' ws H locs hw hl' ⟨s2, ⟨q_st1 hF.1 s3, hF.2⟩, h3.monoσ s1, h4, h5, fun v x hv => s1 v x (h6 v x hv)⟩
        · cases hs
      · cases hs
    · cases hs
  · cases hs
def qs_dup (S : AS) (pc : Nat) : Option qSu :=
  match S.2.1.2 with
  | a :: stk => if a.1 == 2 then none else some [((S.1, (S.2.1.1, a :: a :: stk), S.2.2), pc + 1)]
  | _ => none
theorem q_cat1 {σ : qσ} {ρ : qρ} {a : AV} {v : Value} (hr : qR σ ρ a v) (h : ¬ (a.1 == 2) = true) : v.category = 1 := by
  rw [hr.cat.2, if_neg (by simpa using h)]
theorem qs_dupG {x : qCx} (hB : qB x) {S : AS} {pc : Nat} {L : qSu} (hs : qs_dup S pc = some L) (hdc : qdc x pc (.dup, 1)) (h : qOk x L) : qG x S pc := by
  obtain ⟨γ, p, l, e, R, s, m, args, below, meth, c, Q, ⟨cc, nL', own⟩, A, D, adr, X, ms, w0, σe⟩ := x
  obtain ⟨N, ⟨loc, stk⟩, M⟩ := S
  unfold qs_dup at hs
  split at hs
  · rename_i a stk' heq
    simp only at heq
    subst heq
    split at hs
    · cases hs
    · rename_i hc
      cases hs
      have hG := qOk1 h
      intro σ ρ lv st ls ws H locs hw hl hS
      match st, hS.2.1.2 with
      | v :: st, ⟨hr, hst⟩ =>
      exact lv_dup hB.1 hB.2.1 hdc (q_cat1 hr hc) (hG σ ρ lv _ ls ws H locs hw hl ⟨hS.1, ⟨hS.2.1.1, hr, hr, hst⟩, hS.2.2⟩)
  · cases hs
def qs_dup2 (S : AS) (pc : Nat) : Option qSu :=
  match S.2.1.2 with
  | a :: b :: stk => if a.1 == 2 || b.1 == 2 then none else some [((S.1, (S.2.1.1, a :: b :: a :: b :: stk), S.2.2), pc + 1)]
  | _ => none
theorem qs_dup2G {x : qCx} (hB : qB x) {S : AS} {pc : Nat} {L : qSu} (hs : qs_dup2 S pc = some L) (hdc : qdc x pc (.dup2, 1)) (h : qOk x L) : qG x S pc := by
  obtain ⟨γ, p, l, e, R, s, m, args, below, meth, c, Q, ⟨cc, nL', own⟩, A, D, adr, X, ms, w0, σe⟩ := x
  obtain ⟨N, ⟨loc, stk⟩, M⟩ := S
  unfold qs_dup2 at hs
  split at hs
  · rename_i a b stk' heq
    simp only at heq
    subst heq
    split at hs
    · cases hs
    · rename_i hc
      simp only [Bool.or_eq_true, not_or] at hc
      cases hs
      have hG := qOk1 h
      intro σ ρ lv st ls ws H locs hw hl hS
      match st, hS.2.1.2 with
      | v :: w :: st, ⟨hr, hr2, hst⟩ =>
      exact lv_dup2_11 hB.1 hB.2.1 hdc (q_cat1 hr hc.1) (q_cat1 hr2 hc.2) (hG σ ρ lv _ ls ws H locs hw hl ⟨hS.1, ⟨hS.2.1.1, hr, hr2, hr, hr2, hst⟩, hS.2.2⟩)
  · cases hs
def qs_pop (S : AS) (pc : Nat) : Option qSu :=
  match S.2.1.2 with
  | a :: stk => if a.1 == 2 then none else some [((S.1, (S.2.1.1, stk), S.2.2), pc + 1)]
  | _ => none
theorem qs_popG {x : qCx} (hB : qB x) {S : AS} {pc : Nat} {L : qSu} (hs : qs_pop S pc = some L) (hdc : qdc x pc (.pop, 1)) (h : qOk x L) : qG x S pc := by
  obtain ⟨γ, p, l, e, R, s, m, args, below, meth, c, Q, ⟨cc, nL', own⟩, A, D, adr, X, ms, w0, σe⟩ := x
  obtain ⟨N, ⟨loc, stk⟩, M⟩ := S
  unfold qs_pop at hs
  split at hs
  · rename_i a stk' heq
    simp only at heq
    subst heq
    split at hs
    · cases hs
    · rename_i hc
      cases hs
      have hG := qOk1 h
      intro σ ρ lv st ls ws H locs hw hl hS
      match st, hS.2.1.2 with
      | v :: st, ⟨hr, hst⟩ =>
      exact lv_pop hB.1 hB.2.1 hdc (q_cat1 hr hc) (hG σ ρ lv _ ls ws H locs hw hl ⟨hS.1, ⟨hS.2.1.1, hst⟩, hS.2.2⟩)
  · cases hs
def qtg (pc : Nat) (off : Int) : Option Nat := if qle 0 ((pc : Int) + off) then some ((pc : Int) + off).toNat else none
theorem q_tg {pc t : Nat} {off : Int} (h : qtg pc off = some t) : (pc : Int) + off = (t : Int) := by
  unfold qtg at h
  split at h
  · rename_i hc
    simp only [qle, decide_eq_true_eq] at hc
    cases h
    omega
  · cases h
def qs_goto (S : AS) (off : Int) (pc : Nat) : Option qSu := (qtg pc off).map (fun t => [(S, t)])
theorem qs_gotoG {x : qCx} (hB : qB x) {S : AS} {off : Int} {pc : Nat} {L : qSu} (hs : qs_goto S off pc = some L) (hdc : qdc x pc (.goto off, 3)) (h : qOk x L) : qG x S pc := by
  obtain ⟨γ, p, l, e, R, s, m, args, below, meth, c, Q, ⟨cc, nL', own⟩, A, D, adr, X, ms, w0, σe⟩ := x
  unfold qs_goto at hs
  simp only [Option.map_eq_some_iff] at hs
  obtain ⟨t, ht, rfl⟩ := hs
  have hG := qOk1 h
  intro σ ρ lv st ls ws H locs hw hl hS
  exact lv_goto hB.1 hB.2.1 hdc (q_tg ht) (hG σ ρ lv st ls ws H locs hw hl hS)
/-- what a comparison tells -/
def qcnd (k : Nat) (x y : Int) : Prop :=
  match k with
  | 0 => x = y
  | 1 => ¬ x = y
  | 2 => x < y
  | 3 => ¬ x < y
  | 4 => y < x
  | _ => ¬ y < x
def qngt (k : Nat) : Nat :=
  match k with
  | 0 => 1
  | 1 => 0
  | 2 => 3
  | 3 => 2
  | 4 => 5
  | _ => 4
def qnar2 (N : qN) (a : AV) (p : qIv) (b : AV) (q : qIv) : Option qN :=
  (qnar N a p).bind (fun N1 => if (qiv N1 b).isSome then qnar N1 b q else some N1)
theorem q_nar2 {D : qWd} {σ : qσ} {ρ : qρ} {N : qN} (h : qsN D σ N) {a b : AV} {x y : Int32} (ha : qR σ ρ a (.int x)) (hb : qR σ ρ b (.int y)) {p q : qIv} (hp : qIn p x.toInt) (hq : qIn q y.toInt) (hd : (qiv N a).isSome = true) : ∃ N', qnar2 N a p b q = some N' ∧ qsN D σ N' := by
  obtain ⟨N1, e1, h1⟩ := q_nar h ha hp hd
  unfold qnar2
  rw [e1]
  simp only [Option.bind_some]
  split
  · rename_i h9
    exact q_nar h1 hb hq h9
  · exact ⟨N1, rfl, h1⟩
def qref (k : Nat) (N : qN) (a b : AV) : Option qN :=
  match qiv N a, qiv N b with
  | some p, some q => (match k with
    | 0 => qnar2 N a q b p
    | 1 => if q.1 = q.2 ∧ p.1 = q.1 then qnar2 N a (p.1 + 1, p.2) b q else if q.1 = q.2 ∧ p.2 = q.1 then qnar2 N a (p.1, p.2 - 1) b q
           else if p.1 = p.2 ∧ q.1 = p.1 then qnar2 N a p b (q.1 + 1, q.2) else if p.1 = p.2 ∧ q.2 = p.1 then qnar2 N a p b (q.1, q.2 - 1) else some N
    | 2 => qnar2 N a (p.1, q.2 - 1) b (p.1 + 1, q.2)
    | 3 => qnar2 N a (q.1, p.2) b (q.1, p.2)
    | 4 => qnar2 N a (q.1 + 1, p.2) b (q.1, p.2 - 1)
    | _ => qnar2 N a (p.1, q.2) b (p.1, q.2))
  | _, _ => some N
theorem q_ref {D : qWd} {σ : qσ} {ρ : qρ} {N : qN} (h : qsN D σ N) (k : Nat) {a b : AV} {x y : Int32} (ha : qR σ ρ a (.int x)) (hb : qR σ ρ b (.int y)) (hc : qcnd k x.toInt y.toInt) : ∃ N', qref k N a b = some N' ∧ qsN D σ N' := by
  unfold qref
  split
  · rename_i p q hp hq
    have hd : (qiv N a).isSome = true := by rw [hp]; rfl
    obtain ⟨x', e1, i1⟩ := q_iv h ha hp
    obtain ⟨y', e2, i2⟩ := q_iv h hb hq
    cases e1; cases e2
    have i1' := i1
    have i2' := i2
    simp only [qIn] at i1 i2
    split
    · exact q_nar2 h ha hb (by simp only [qcnd] at hc; rw [hc]; exact i2') (by simp only [qcnd] at hc; rw [← hc]; exact i1') hd
    · simp only [qcnd] at hc
      split
      · exact q_nar2 h ha hb (by simp only [qIn]; omega) i2' hd
      · split
        · exact q_nar2 h ha hb (by simp only [qIn]; omega) i2' hd
        · split
          · exact q_nar2 h ha hb i1' (by simp only [qIn]; omega) hd
          · split
            · exact q_nar2 h ha hb i1' (by simp only [qIn]; omega) hd
            · exact ⟨N, rfl, h⟩
    · simp only [qcnd] at hc
      exact q_nar2 h ha hb (by simp only [qIn]; omega) (by simp only [qIn]; omega) hd
    · simp only [qcnd] at hc
      exact q_nar2 h ha hb (by simp only [qIn]; omega) (by simp only [qIn]; omega) hd
    · simp only [qcnd] at hc
      exact q_nar2 h ha hb (by simp only [qIn]; omega) (by simp only [qIn]; omega) hd
    · have hc' : ¬ y.toInt < x.toInt := by
        unfold qcnd at hc
        split at hc <;> first | omega | exact hc | (exfalso; simp_all; done)
      exact q_nar2 h ha hb (by simp only [qIn]; omega) (by simp only [qIn]; omega) hd
  · exact ⟨N, rfl, h⟩
def qrl1 (N : qN) (a b : Nat) (d : Int) : qN := (N.1, (a, b, d) :: N.2.1, N.2.2)
theorem q_rl1 {D : qWd} {σ : qσ} {N : qN} (h : qsN D σ N) {a b : Nat} {d x y : Int} (ha : σ a = some x) (hb : σ b = some y) (hd : y + d ≤ x) : qsN D σ (qrl1 N a b d) := by
  refine ⟨h.1, h.2.1, fun a' b' d' hm => ?_, h.2.2.2⟩
  rcases List.mem_cons.mp hm with e | hm
  · cases e
    exact ⟨x, y, ha, hb, hd⟩
  · exact h.2.2.1 a' b' d' hm
/-- what a comparison of two numbers tells of their difference -/
def qrl (k : Nat) (N : qN) (a b : AV) : qN :=
  if a.1 == 0 && b.1 == 0 then (match k with
    | 0 => qrl1 (qrl1 N a.2.1 b.2.1 (b.2.2 - a.2.2)) b.2.1 a.2.1 (a.2.2 - b.2.2)
    | 1 => N
    | 2 => qrl1 N b.2.1 a.2.1 (a.2.2 + 1 - b.2.2)
    | 3 => qrl1 N a.2.1 b.2.1 (b.2.2 - a.2.2)
    | 4 => qrl1 N a.2.1 b.2.1 (b.2.2 + 1 - a.2.2)
    | _ => qrl1 N b.2.1 a.2.1 (a.2.2 - b.2.2)) else N
theorem q_rl {D : qWd} {σ : qσ} {ρ : qρ} {N : qN} (h : qsN D σ N) (k : Nat) {a b : AV} {x y : Int32} (ha : qR σ ρ a (.int x)) (hb : qR σ ρ b (.int y)) (hc : qcnd k x.toInt y.toInt) : qsN D σ (qrl k N a b) := by
  unfold qrl
  split
  · rename_i h0
    simp only [Bool.and_eq_true, beq_iff_eq] at h0
    obtain ⟨u, hu, ex⟩ := q_v0 ha h0.1
    obtain ⟨w, hw, ey⟩ := q_v0 hb h0.2
    split
    · simp only [qcnd] at hc
      exact q_rl1 (q_rl1 h hu hw (by omega)) hw hu (by omega)
    · exact h
    · simp only [qcnd] at hc
      exact q_rl1 h hw hu (by omega)
    · simp only [qcnd] at hc
      exact q_rl1 h hu hw (by omega)
    · simp only [qcnd] at hc
      exact q_rl1 h hu hw (by omega)
    · have hc' : ¬ y.toInt < x.toInt := by
        unfold qcnd at hc
        split at hc <;> first | omega | exact hc | (exfalso; simp_all; done)
      exact q_rl1 h hw hu (by omega)
  · exact h
/-- what two unlike numbers are, where their order is known -/
def qkn (N : qN) (k : Nat) (a b : AV) : Nat :=
  if k == 1 && a.1 == 0 && b.1 == 0 then (if N.2.1.any (fun r => r.1 == b.2.1 && r.2.1 == a.2.1 && qle (a.2.2) (r.2.2 + b.2.2)) then 2
    else if N.2.1.any (fun r => r.1 == a.2.1 && r.2.1 == b.2.1 && qle (b.2.2) (r.2.2 + a.2.2)) then 4 else 1) else k
theorem q_kn {D : qWd} {σ : qσ} {ρ : qρ} {N : qN} (h : qsN D σ N) (k : Nat) {a b : AV} {x y : Int32} (ha : qR σ ρ a (.int x)) (hb : qR σ ρ b (.int y)) (hc : qcnd k x.toInt y.toInt) : qcnd (qkn N k a b) x.toInt y.toInt := by
  unfold qkn
  split
  · rename_i h0
    simp only [Bool.and_eq_true, beq_iff_eq] at h0
    obtain ⟨⟨k1, a0⟩, b0⟩ := h0
    subst k1
    obtain ⟨u, hu, ex⟩ := q_v0 ha a0
    obtain ⟨w, hw, ey⟩ := q_v0 hb b0
    simp only [qcnd] at hc
    split
    · rename_i hr
      rw [List.any_eq_true] at hr
      obtain ⟨r, r1, r2⟩ := hr
      simp only [Bool.and_eq_true, beq_iff_eq, qle, decide_eq_true_eq] at r2
      obtain ⟨X, Y, g1, g2, g3⟩ := h.2.2.1 r.1 r.2.1 r.2.2 r1
      rw [r2.1.1, hw] at g1
      rw [r2.1.2, hu] at g2
      cases g1; cases g2
      show x.toInt < y.toInt
      omega
    · split
      · rename_i hr
        rw [List.any_eq_true] at hr
        obtain ⟨r, r1, r2⟩ := hr
        simp only [Bool.and_eq_true, beq_iff_eq, qle, decide_eq_true_eq] at r2
        obtain ⟨X, Y, g1, g2, g3⟩ := h.2.2.1 r.1 r.2.1 r.2.2 r1
        rw [r2.1.1, hu] at g1
        rw [r2.1.2, hw] at g2
        cases g1; cases g2
        show y.toInt < x.toInt
        omega
      · exact hc
  · exact hc
def qs_brA (k : Nat) (S : AS) (a b : AV) (stk : List AV) (t pc : Nat) : qSu :=
  ((qref (qkn S.1 k a b) S.1 a b).toList.map (fun N => ((qrl (qkn S.1 k a b) N a b, (S.2.1.1, stk), S.2.2), t))) ++ ((qref (qkn S.1 (qngt k) a b) S.1 a b).toList.map (fun N => ((qrl (qkn S.1 (qngt k) a b) N a b, (S.2.1.1, stk), S.2.2), pc + 3)))
def qs_icmp (k : Nat) (S : AS) (off : Int) (pc : Nat) : Option qSu :=
  match S.2.1.2 with
  | b :: a :: stk => if qint a && qint b then (qtg pc off).map (fun t => qs_brA k S a b stk t pc) else none
  | _ => none
def qs_if (k : Nat) (S : AS) (off : Int) (pc : Nat) : Option qSu :=
  match S.2.1.2 with
  | a :: stk => if qint a then (qtg pc off).map (fun t => qs_brA k S a (1, 0, 0) stk t pc) else none
  | _ => none
theorem q_brA {x : qCx} {k : Nat} {S : AS} {a b : AV} {stk : List AV} {t pc : Nat} (h : qOk x (qs_brA k S a b stk t pc)) {σ : qσ} {ρ : qρ} {lv : List (Nat × Value)} {st st0 : List Value} {ls : Array Slot} {ws : va_W} {H : Heap} {locs : List Loc} (hw : qkW x ws H locs) (hl : qlv x ls lv)
    (hS : qS x S σ ρ lv st0 ws) (hst : F2 (qR σ ρ) stk st) {y z : Int32} (ha : qR σ ρ a (.int y)) (hb : qR σ ρ b (.int z)) : (qcnd k y.toInt z.toInt → qWp x H locs t ls st) ∧ (qcnd (qngt k) y.toInt z.toInt → qWp x H locs (pc + 3) ls st) := by
  obtain ⟨γ, p, l, e, R, s, m, args, below, meth, c, Q, ⟨cc, nL', own⟩, A, D, adr, X, ms, w0, σe⟩ := x
  constructor
  · intro hc
    have hc := q_kn hS.1 k ha hb hc
    obtain ⟨N', e1, h1⟩ := q_ref hS.1 (qkn S.1 k a b) ha hb hc
    have hG := h ((qrl (qkn S.1 k a b) N' a b, (S.2.1.1, stk), S.2.2), t) (by unfold qs_brA; rw [e1]; simp)
    exact hG σ ρ lv st ls ws H locs hw hl ⟨q_rl h1 (qkn S.1 k a b) ha hb hc, ⟨hS.2.1.1, hst⟩, hS.2.2⟩
  · intro hc
    have hc := q_kn hS.1 (qngt k) ha hb hc
    obtain ⟨N', e1, h1⟩ := q_ref hS.1 (qkn S.1 (qngt k) a b) ha hb hc
    have hG := h ((qrl (qkn S.1 (qngt k) a b) N' a b, (S.2.1.1, stk), S.2.2), pc + 3) (by unfold qs_brA; rw [e1]; simp)
    exact hG σ ρ lv st ls ws H locs hw hl ⟨q_rl h1 (qkn S.1 (qngt k) a b) ha hb hc, ⟨hS.2.1.1, hst⟩, hS.2.2⟩
theorem qs_icmpG {x : qCx} {k : Nat} {S : AS} {off : Int} {pc : Nat} {L : qSu} (hs : qs_icmp k S off pc = some L)
    (hd : ∀ (H : Heap) (locs : List Loc) (ls : Array Slot) (st : List Value) (y z : Int32) (t : Nat), (pc : Int) + off = (t : Int) → (qcnd k y.toInt z.toInt → qWp x H locs t ls st) → (qcnd (qngt k) y.toInt z.toInt → qWp x H locs (pc + 3) ls st) → qWp x H locs pc ls (.int z :: .int y :: st)) (h : qOk x L) : qG x S pc := by
  obtain ⟨N, ⟨loc, stk⟩, M⟩ := S
  unfold qs_icmp at hs
  split at hs
  · rename_i b a stk' heq
    simp only at heq
    subst heq
    split at hs
    · rename_i hc
      simp only [Bool.and_eq_true] at hc
      simp only [Option.map_eq_some_iff] at hs
      obtain ⟨t, ht, rfl⟩ := hs
      intro σ ρ lv st ls ws H locs hw hl hS
      have hF : F2 (qR σ ρ) (b :: a :: stk') st := by
        obtain ⟨γ, p, l, e, R, s, m, args, below, meth, c, Q, ⟨cc, nL', own⟩, A, D, adr, X, ms, w0, σe⟩ := x
        exact hS.2.1.2
      match st, hF with
      | vb :: va :: st, ⟨hrb, hra, hst⟩ =>
      obtain ⟨y, rfl⟩ := q_int hra hc.1
      obtain ⟨z, rfl⟩ := q_int hrb hc.2
      obtain ⟨k1, k2⟩ := q_brA h hw hl hS hst hra hrb
      exact hd H locs ls st y z t (q_tg ht) k1 k2
    · cases hs
  · cases hs
theorem qs_ifG {x : qCx} {k : Nat} {S : AS} {off : Int} {pc : Nat} {L : qSu} (hs : qs_if k S off pc = some L)
    (hd : ∀ (H : Heap) (locs : List Loc) (ls : Array Slot) (st : List Value) (y : Int32) (t : Nat), (pc : Int) + off = (t : Int) → (qcnd k y.toInt 0 → qWp x H locs t ls st) → (qcnd (qngt k) y.toInt 0 → qWp x H locs (pc + 3) ls st) → qWp x H locs pc ls (.int y :: st)) (h : qOk x L) : qG x S pc := by
  obtain ⟨N, ⟨loc, stk⟩, M⟩ := S
  unfold qs_if at hs
  split at hs
  · rename_i a stk' heq
    simp only at heq
    subst heq
    split at hs
    · rename_i hc
      simp only [Option.map_eq_some_iff] at hs
      obtain ⟨t, ht, rfl⟩ := hs
      intro σ ρ lv st ls ws H locs hw hl hS
      have hF : F2 (qR σ ρ) (a :: stk') st := by
        obtain ⟨γ, p, l, e, R, s, m, args, below, meth, c, Q, ⟨cc, nL', own⟩, A, D, adr, X, ms, w0, σe⟩ := x
        exact hS.2.1.2
      match st, hF with
      | va :: st, ⟨hra, hst⟩ =>
      obtain ⟨y, rfl⟩ := q_int hra hc
      obtain ⟨k1, k2⟩ := q_brA (b := (1, 0, 0)) (z := 0) h hw hl hS hst hra (.inr (.inl ⟨rfl, 0, rfl, by simp⟩))
      exact hd H locs ls st y t (q_tg ht) (by simpa using k1) (by simpa using k2)
    · cases hs
  · cases hs
def qs_acmp (S : AS) (off : Int) (pc : Nat) : Option qSu :=
  match S.2.1.2 with
  | b :: a :: stk => if a.1 == 3 && b.1 == 3 then (qtg pc off).map (fun t => [((S.1, (S.2.1.1, stk), S.2.2), t), ((S.1, (S.2.1.1, stk), S.2.2), pc + 3)]) else none
  | _ => none
theorem q_rfv {σ : qσ} {ρ : qρ} {a : AV} {v : Value} (hr : qR σ ρ a v) (h : a.1 = 3) : ∃ n : Nat, v = .ref n ∧ ρ a.2.1 = some n := by
  rcases hr with ⟨t, _⟩ | ⟨t, _⟩ | ⟨t, _⟩ | ⟨_, z, e, hz⟩
  · rw [h] at t; cases t
  · rw [h] at t; cases t
  · rw [h] at t; cases t
  · exact ⟨z, e, hz⟩
theorem qs_acmpG {x : qCx} (hB : qB x) {S : AS} {off : Int} {pc : Nat} {L : qSu} (hs : qs_acmp S off pc = some L) (hdc : qdc x pc (.if_acmp .eq off, 3) ∨ qdc x pc (.if_acmp .ne off, 3)) (h : qOk x L) : qG x S pc := by
  obtain ⟨γ, p, l, e, R, s, m, args, below, meth, c, Q, ⟨cc, nL', own⟩, A, D, adr, X, ms, w0, σe⟩ := x
  obtain ⟨N, ⟨loc, stk⟩, M⟩ := S
  unfold qs_acmp at hs
  split at hs
  · rename_i b a stk' heq
    simp only at heq
    subst heq
    split at hs
    · rename_i hc
      simp only [Bool.and_eq_true, beq_iff_eq] at hc
      simp only [Option.map_eq_some_iff] at hs
      obtain ⟨t, ht, rfl⟩ := hs
      intro σ ρ lv st ls ws H locs hw hl hS
      match st, hS.2.1.2 with
      | vb :: va :: st, ⟨hrb, hra, hst⟩ =>
      obtain ⟨y, rfl, -⟩ := q_rfv hra hc.1
      obtain ⟨z, rfl, -⟩ := q_rfv hrb hc.2
      have k1 := h _ List.mem_cons_self σ ρ lv st ls ws H locs hw hl ⟨hS.1, ⟨hS.2.1.1, hst⟩, hS.2.2⟩
      have k2 := h _ (List.mem_cons_of_mem _ List.mem_cons_self) σ ρ lv st ls ws H locs hw hl ⟨hS.1, ⟨hS.2.1.1, hst⟩, hS.2.2⟩
      rcases hdc with hdc | hdc
      · exact lv_acmp_eq (rx := some y) (ry := some z) hB.1 hB.2.1 hdc (q_tg ht) (fun _ => k1) (fun _ => k2)
      · exact lv_acmp_ne (rx := some y) (ry := some z) hB.1 hB.2.1 hdc (q_tg ht) (fun _ => k1) (fun _ => k2)
    · cases hs
  · cases hs
end
section
/-! the typed heap -/
def qDok (D : qWd) : Bool := Nat.ble D.2.2 77 && (List.range D.2.2).all (fun n => D.1[n]? == some n) && (List.range D.1.length).all (fun q => match D.1[q]? with | some g => Nat.ble D.2.2 g || g == q | none => true) && (List.range D.1.length).all (fun q => !(D.1[q]? == some qWR))
def qD (D : qWd) : Prop := D.2.2 ≤ 77 ∧ (∀ n, n < D.2.2 → D.1[n]? = some n) ∧ (∀ q g : Nat, D.1[q]? = some g → g < D.2.2 → q = g) ∧ (∀ q : Nat, ¬ D.1[q]? = some qWR)
theorem q_Dok {D : qWd} (h : qDok D = true) : qD D := by
  unfold qDok at h
  simp only [Bool.and_eq_true, List.all_eq_true, List.mem_range, Nat.ble_eq, beq_iff_eq] at h
  obtain ⟨⟨⟨h1, h2⟩, h3⟩, h4⟩ := h
  refine ⟨h1, h2, fun q g hg hl => ?_, fun q hq => ?_⟩
  · have h5 := h3 q (List.getElem?_eq_some_iff.mp hg).1
    rw [hg] at h5
    simp only [Bool.or_eq_true, Nat.ble_eq, beq_iff_eq] at h5
    omega
  · have h5 := h4 q (List.getElem?_eq_some_iff.mp hq).1
    rw [hq] at h5
    simp at h5
def qrg (D : qWd) (M : qM) (n : Nat) : Option Nat := if n < D.2.2 then some n else M.1[n - D.2.2]?
section QH
variable {D : qWd} {γ : kΓ} {adr : List Nat} {σ : qσ} {ρ : qρ} {M : qM} {ws : va_W}
theorem q_adr (hH : qsM D γ adr σ ρ M ws) {q a : Nat} (h : adr[q]? = some a) : ∃ c, ws[q]? = some (a, c) := by
  obtain ⟨h1, h2, -⟩ := hH.2.2.2.2
  rw [← h1, List.getElem?_map, Option.map_eq_some_iff] at h
  obtain ⟨⟨a', c⟩, e1, e2⟩ := h
  exact ⟨c, by rw [e1]; simp only at e2; rw [e2]⟩
theorem q_adr2 (hH : qsM D γ adr σ ρ M ws) {q a : Nat} {c : va_E} (h : ws[q]? = some (a, c)) : adr[q]? = some a := by
  rw [← hH.2.2.2.2.1, List.getElem?_map, h]; rfl
theorem q_reg (hH : qsM D γ adr σ ρ M ws) {q a : Nat} {c : va_E} (h : ws[q]? = some (a, c)) : ∃ g, D.1[q]? = some g := by
  have h1 := (List.getElem?_eq_some_iff.mp h).1
  rw [hH.2.2.2.2.2.1] at h1
  exact ⟨_, List.getElem?_eq_getElem h1⟩
/-- the cell that a reference names -/
theorem q_cell (hD : qD D) (hH : qsM D γ adr σ ρ M ws) {n g a : Nat} (hg : qrg D M n = some g) (hw : ¬ g = qWR) (ha : ρ n = some a) : ∃ (q : Nat) (c : va_E) (r : qRT), D.1[q]? = some g ∧ ws[q]? = some (a, c) ∧ D.2.1[g]? = some r ∧ qsh γ r c ∧ ∀ k, k < r.2.1 → qexA ρ M.2.2 a k ∨ ∃ v, qrd c k = some v ∧ qvT D γ adr (qsg r.2.2 k) v := by
  have key : ∃ q : Nat, D.1[q]? = some g ∧ adr[q]? = some a := by
    unfold qrg at hg
    split at hg
    · rename_i hn
      cases hg
      exact ⟨n, hD.2.1 n hn, by rw [← hH.1 n hn]; exact ha⟩
    · rename_i hn
      obtain ⟨b, h1, h2⟩ := hH.2.1 _ _ hg
      rw [show D.2.2 + (n - D.2.2) = n by omega, ha] at h1
      cases h1
      rcases h2 with ⟨h3, -⟩ | h3
      · exact absurd h3 hw
      · exact h3
  obtain ⟨q, h1, h2⟩ := key
  obtain ⟨c, h3⟩ := q_adr hH h2
  obtain ⟨r, h4, h5, h6⟩ := hH.2.2.2.2.2.2 q g a c h1 h3
  exact ⟨q, c, r, h1, h3, h4, h5, h6⟩
/-- a reference of a region, as a value -/
theorem q_sing (hD : qD D) (hH : qsM D γ adr σ ρ M ws) {g a : Nat} (hg : g < D.2.2) (ha : qinR D γ adr g a) : ρ g = some a := by
  rcases ha with ⟨h1, -⟩ | ⟨q, h1, h2⟩
  · exact absurd h1 (by have := hD.1; unfold qWR; omega)
  · have := hD.2.2.1 q g h1 hg
    subst this
    rw [hH.1 q hg]; exact h2
/-- a slot is read -/
def qrs (D : qWd) (N : qN) (M : qM) (n k : Nat) (r : qRT) : Option (qN × qM × AV) :=
  if Nat.blt k 10000 then (match M.2.1.find? (fun e => e.1 == n && e.2.1 == k) with
  | some e => some (N, M, e.2.2)
  | none => if M.2.2.all (fun e => !(e.2 == k)) then (match qsg r.2.2 k with
    | (0, iv) => some ((qfr N iv).1, (M.1, (n, k, (qfr N iv).2) :: M.2.1, M.2.2), (qfr N iv).2)
    | (1, iv) => some ((qfrL N iv).1, (M.1, (n, k, (qfrL N iv).2) :: M.2.1, M.2.2), (qfrL N iv).2)
    | (2, g, _) => if g.toNat < D.2.2 then some (N, (M.1, (n, k, (3, g.toNat, 0)) :: M.2.1, M.2.2), (3, g.toNat, 0)) else some (N, (M.1 ++ [g.toNat], (n, k, (3, D.2.2 + M.1.length, 0)) :: M.2.1, M.2.2), (3, D.2.2 + M.1.length, 0))
    | _ => none) else none) else none
theorem q_addx (hH : qsM D γ adr σ ρ M ws) {n k a q i : Nat} {c : va_E} {v : Value} {av : AV} (hc : ws[q]? = some (a, c)) (ha : ρ n = some a) (hv : qrd c i = some v) (hr : qR σ ρ av v) (hk : qix σ k i) : qsM D γ adr σ ρ (M.1, (n, k, av) :: M.2.1, M.2.2) ws := by
  refine ⟨hH.1, hH.2.1, hH.2.2.1, fun n' k' av' hm => ?_, hH.2.2.2.2⟩
  rcases List.mem_cons.mp hm with h | h
  · cases h
    exact ⟨q, a, c, v, i, hc, ha, hv, hr, hk⟩
  · exact hH.2.2.2.1 n' k' av' h
theorem q_addm (hH : qsM D γ adr σ ρ M ws) {n k a q : Nat} {c : va_E} {v : Value} {av : AV} (hk : k < 10000) (hc : ws[q]? = some (a, c)) (ha : ρ n = some a) (hv : qrd c k = some v) (hr : qR σ ρ av v) : qsM D γ adr σ ρ (M.1, (n, k, av) :: M.2.1, M.2.2) ws := by
  exact q_addx hH hc ha hv hr (.inl ⟨hk, rfl⟩)
theorem q_rs (hD : qD D) {N : qN} (hN : qsN D σ N) (hH : qsM D γ adr σ ρ M ws) {n a q k : Nat} {c : va_E} {r : qRT} (hdis : ∀ (i j : Nat) (p q : Nat × va_E), ws[i]? = some p → ws[j]? = some q → p.1 = q.1 → i = j) (hc : ws[q]? = some (a, c)) (ha : ρ n = some a) (hty : ∀ k, k < r.2.1 → qexA ρ M.2.2 a k ∨ ∃ v, qrd c k = some v ∧ qvT D γ adr (qsg r.2.2 k) v) (hk : k < r.2.1) {z : qN × qM × AV} (hz : qrs D N M n k r = some z) :
    ∃ (σ' : qσ) (ρ' : qρ) (v : Value), qle1 σ σ' ∧ qle2 ρ ρ' ∧ qsN D σ' z.1 ∧ qsM D γ adr σ' ρ' z.2.1 ws ∧ qrd c k = some v ∧ qR σ' ρ' z.2.2 v := by
  unfold qrs at hz
  split at hz
  · rename_i hk10
    rw [Nat.blt_eq] at hk10
    split at hz
    · rename_i e he
      cases hz
      have h1 := List.find?_some he
      simp only [Bool.and_eq_true, beq_iff_eq] at h1
      obtain ⟨n', k', av⟩ := e
      obtain ⟨q', a', c', v, ix, g1, g2, g3, g4, g5⟩ := hH.2.2.2.1 n' k' av (List.mem_of_find?_eq_some he)
      simp only at h1
      obtain ⟨rfl, rfl⟩ := h1
      have hix : ix = k' := by
        rcases g5 with ⟨-, h5⟩ | ⟨h5, -⟩
        · exact h5
        · omega
      subst hix
      rw [ha] at g2
      cases g2
      have := hdis q' q _ _ g1 hc rfl
      subst this
      rw [hc] at g1
      cases g1
      exact ⟨σ, ρ, v, fun _ _ h => h, fun _ _ h => h, hN, hH, g3, g4⟩
    · split at hz
      · rename_i hex
        simp only [List.all_eq_true, Bool.not_eq_true', beq_eq_false_iff_ne, ne_eq] at hex
        have hv : ∃ v, qrd c k = some v ∧ qvT D γ adr (qsg r.2.2 k) v := by
          rcases hty k hk with ⟨m, h1, -⟩ | h
          · exact absurd rfl (hex _ h1)
          · exact h
        obtain ⟨v, hv1, hv2⟩ := hv
        split at hz
        · rename_i iv heq
          cases hz
          rw [heq] at hv2
          obtain ⟨x, rfl, hx⟩ := hv2.1 rfl
          obtain ⟨σ', s1, s2, s3⟩ := q_fr (ρ := ρ) hN hx
          exact ⟨σ', ρ, _, s1, fun _ _ h => h, s2, q_addm (hH.monoσ s1) hk10 hc ha hv1 s3, hv1, s3⟩
        · rename_i iv heq
          cases hz
          rw [heq] at hv2
          obtain ⟨x, rfl, hx⟩ := hv2.2.1 rfl
          obtain ⟨σ', s1, s2, s3⟩ := q_frL (ρ := ρ) hN hx
          exact ⟨σ', ρ, _, s1, fun _ _ h => h, s2, q_addm (hH.monoσ s1) hk10 hc ha hv1 s3, hv1, s3⟩
        · rename_i g _ heq
          rw [heq] at hv2
          obtain ⟨b, rfl, hb⟩ := hv2.2.2 rfl
          simp only at hb
          split at hz
          · rename_i hlt
            cases hz
            have hs := q_sing hD hH hlt hb
            have hr : qR σ ρ (3, g.toNat, 0) (.ref b) := .inr (.inr (.inr ⟨rfl, b, rfl, hs⟩))
            exact ⟨σ, ρ, _, fun _ _ h => h, fun _ _ h => h, hN, q_addm hH hk10 hc ha hv1 hr, hv1, hr⟩
          · cases hz
            obtain ⟨ρ', s1, s2, s3⟩ := q_frR hH hb
            have hr : qR σ ρ' (3, D.2.2 + M.1.length, 0) (.ref b) := .inr (.inr (.inr ⟨rfl, b, rfl, s3⟩))
            exact ⟨σ, ρ', _, fun _ _ h => h, s1, hN, q_addm s2 hk10 hc (s1 _ _ ha) hv1 hr, hv1, hr⟩
        · cases hz
      · cases hz
  · cases hz
end QH
/-- of slots i1 .. i2 all, as one type -/
def qjn (t : Nat) : List (Nat × qTy) → Nat → Nat → Option qIv
  | [], _, _ => none
  | (e, ty) :: r, i1, i2 => if i2 < e then (if ty.1 = t then some ty.2 else none)
    else if i1 < e then (if ty.1 = t then (match qjn t r i1 i2 with
      | some j => some (qmin ty.2.1 j.1, qmax ty.2.2 j.2)
      | none => none) else none)
    else qjn t r i1 i2
theorem q_jn {t : Nat} : ∀ {l : List (Nat × qTy)} {i1 i2 : Nat} {j : qIv}, qjn t l i1 i2 = some j → ∀ k, i1 ≤ k → k ≤ i2 → (qsg l k).1 = t ∧ j.1 ≤ (qsg l k).2.1 ∧ (qsg l k).2.2 ≤ j.2
  | [], _, _, _, h, _, _, _ => by simp [qjn] at h
  | (e, ty) :: r, i1, i2, j, h, k, h1, h2 => by
    unfold qjn at h
    unfold qsg
    split at h
    · rename_i h3
      rw [if_pos (by omega)]
      split at h
      · rename_i h4; cases h; exact ⟨h4, Int.le_refl _, Int.le_refl _⟩
      · cases h
    · split at h
      · split at h
        · rename_i h4
          split at h
          · rename_i j' hj
            cases h
            by_cases h5 : k < e
            · rw [if_pos h5]
              refine ⟨h4, ?_, ?_⟩
              · simp only [qmin]; split <;> omega
              · simp only [qmax]; split <;> omega
            · rw [if_neg h5]
              obtain ⟨g1, g2, g3⟩ := q_jn hj k h1 h2
              refine ⟨g1, ?_, ?_⟩
              · simp only [qmin]; split <;> omega
              · simp only [qmax]; split <;> omega
          · cases h
        · cases h
      · rename_i h3 h4
        rw [if_neg (by omega)]
        exact q_jn h k h1 h2
/-- slots i1 .. i2 all take it -/
def qac (P : qTy → Bool) : List (Nat × qTy) → Nat → Nat → Bool
  | [], _, _ => P (9, 0, 0)
  | (e, ty) :: r, i1, i2 => if i2 < e then P ty else if i1 < e then P ty && qac P r i1 i2 else qac P r i1 i2
theorem q_ac {P : qTy → Bool} : ∀ {l : List (Nat × qTy)} {i1 i2 : Nat}, qac P l i1 i2 = true → ∀ k, i1 ≤ k → k ≤ i2 → P (qsg l k) = true
  | [], _, _, h, _, _, _ => by simpa [qac, qsg] using h
  | (e, ty) :: r, i1, i2, h, k, h1, h2 => by
    unfold qac at h
    unfold qsg
    split at h
    · rw [if_pos (by omega)]; exact h
    · split at h
      · simp only [Bool.and_eq_true] at h
        by_cases h5 : k < e
        · rw [if_pos h5]; exact h.1
        · rw [if_neg h5]; exact q_ac h.2 k h1 h2
      · rw [if_neg (by omega)]; exact q_ac h k h1 h2
end
section
/-! writes into the typed heap -/
section QW
variable {D : qWd} {γ : kΓ} {adr : List Nat} {σ : qσ} {ρ : qρ} {M : qM} {ws : va_W}
/-- does a type take a value -/
def qtk (D : qWd) (N : qN) (M : qM) (a : AV) (t : qTy) : Bool :=
  match t with
  | (0, lo, hi) => (match qiv N a with
    | some p => qle lo p.1 && qle p.2 hi
    | none => false)
  | (1, lo, hi) => (match qivL N a with
    | some p => qle lo p.1 && qle p.2 hi
    | none => false)
  | (2, g, _) => a.1 == 3 && (match qrg D M a.2.1 with
    | some g' => g' == g.toNat
    | none => false)
  | _ => true
theorem q_inR (hD : qD D) (hH : qsM D γ adr σ ρ M ws) {n g a : Nat} (hg : qrg D M n = some g) (ha : ρ n = some a) : qinR D γ adr g a := by
  unfold qrg at hg
  split at hg
  · rename_i hn
    cases hg
    exact .inr ⟨n, hD.2.1 n hn, by rw [← hH.1 n hn]; exact ha⟩
  · rename_i hn
    obtain ⟨b, h1, h2⟩ := hH.2.1 _ _ hg
    rw [show D.2.2 + (n - D.2.2) = n by omega, ha] at h1
    cases h1
    exact h2
theorem q_tk (hD : qD D) {N : qN} (hN : qsN D σ N) (hH : qsM D γ adr σ ρ M ws) {a : AV} {v : Value} (hr : qR σ ρ a v) {t : qTy} (h : qtk D N M a t = true) : qvT D γ adr t v := by
  unfold qtk at h
  split at h
  · split at h
    · rename_i p hp
      simp only [qle, Bool.and_eq_true, decide_eq_true_eq] at h
      obtain ⟨x, e, hx⟩ := q_iv hN hr hp
      exact ⟨fun _ => ⟨x, e, Int.le_trans h.1 hx.1, Int.le_trans hx.2 h.2⟩, fun h => (by cases h), fun h => (by cases h)⟩
    · cases h
  · split at h
    · rename_i p hp
      simp only [qle, Bool.and_eq_true, decide_eq_true_eq] at h
      obtain ⟨x, e, hx⟩ := q_ivL hN hr hp
      exact ⟨fun h => (by cases h), fun _ => ⟨x, e, Int.le_trans h.1 hx.1, Int.le_trans hx.2 h.2⟩, fun h => by cases h⟩
    · cases h
  · simp only [Bool.and_eq_true, beq_iff_eq] at h
    obtain ⟨h1, h2⟩ := h
    split at h2
    · rename_i g' hg
      simp only [beq_iff_eq] at h2
      obtain ⟨n, e, hn⟩ := q_rfv hr h1
      refine ⟨fun h => (by cases h), fun h => (by cases h), fun _ => ⟨n, e, ?_⟩⟩
      have := q_inR hD hH hg hn
      rw [h2] at this
      exact this
    · cases h2
  · rename_i t h0 h1 h2
    refine ⟨fun e => ?_, fun e => ?_, fun e => ?_⟩
    · exact (h0 _ _ (Prod.ext e rfl)).elim
    · exact (h1 _ _ (Prod.ext e rfl)).elim
    · exact (h2 _ _ (Prod.ext e rfl)).elim
/-- what is left of the memory when slots i1 .. i2 of a region are written -/
def qcl (D : qWd) (M : qM) (g i1 i2 : Nat) : qM := (M.1, M.2.1.filter (fun e => !((Nat.ble i1 e.2.1 && Nat.ble e.2.1 i2 || Nat.ble 10000 e.2.1) && (qrg D M e.1 == some g || qrg D M e.1 == some qWR))), M.2.2)
/-- the new cell keeps its form, and all slots but i1 .. i2 -/
def qsame (γ : kΓ) (r : qRT) (c c' : va_E) (i1 i2 : Nat) : Prop := qsh γ r c' ∧ ∀ k, ¬ (i1 ≤ k ∧ k ≤ i2) → qrd c' k = qrd c k
theorem q_wr (hD : qD D) (hH : qsM D γ adr σ ρ M ws) (hdis : ∀ (i j : Nat) (p q : Nat × va_E), ws[i]? = some p → ws[j]? = some q → p.1 = q.1 → i = j) {g q a i1 i2 : Nat} {c c' : va_E} {r : qRT} (hg : D.1[q]? = some g) (hr : D.2.1[g]? = some r) (hc : ws[q]? = some (a, c)) (hs : qsame γ r c c' i1 i2) {ex' : List (Nat × Nat)}
    (hex : ∀ a' k, qexA ρ M.2.2 a' k → ¬ (a' = a ∧ i1 ≤ k ∧ k ≤ i2) → qexA ρ ex' a' k) (hty : ∀ k, k < r.2.1 → i1 ≤ k → k ≤ i2 → qexA ρ ex' a k ∨ ∃ v, qrd c' k = some v ∧ qvT D γ adr (qsg r.2.2 k) v) :
    qsM D γ adr σ ρ ((qcl D M g i1 i2).1, (qcl D M g i1 i2).2.1, ex') (ws.set q (a, c')) := by
  have hq : q < ws.length := (List.getElem?_eq_some_iff.mp hc).1
  refine ⟨hH.1, hH.2.1, hH.2.2.1, fun n k av hm => ?_, ?_, ?_, ?_⟩
  · unfold qcl at hm
    rw [List.mem_filter] at hm
    obtain ⟨q', a', c1, v, ix, g1, g2, g3, g4, g5⟩ := hH.2.2.2.1 n k av hm.1
    have h5 := hm.2
    simp only [Bool.not_eq_true', Bool.and_eq_false_iff] at h5
    by_cases e : q' = q
    · subst e
      rw [hc] at g1
      cases g1
      refine ⟨q', a, c', v, ix, by rw [List.getElem?_set_self hq], g2, ?_, g4, g5⟩
      rw [← g3]
      refine hs.2 ix (fun ⟨k1, k2⟩ => ?_)
      have hrg : qrg D M n = some g ∨ qrg D M n = some qWR := by
        unfold qrg
        by_cases hn : n < D.2.2
        · rw [if_pos hn]
          have h6 := hH.1 n hn
          rw [g2] at h6
          obtain ⟨c2, h7⟩ := q_adr hH h6.symm
          have := hdis n q' _ _ h7 hc rfl
          subst this
          rw [hD.2.1 n hn] at hg
          exact .inl hg
        · rw [if_neg hn]
          by_cases hl : n - D.2.2 < M.1.length
          · have h6 : M.1[n - D.2.2]? = some (M.1[n - D.2.2]) := List.getElem?_eq_getElem hl
            obtain ⟨b, h7, h8⟩ := hH.2.1 _ _ h6
            rw [show D.2.2 + (n - D.2.2) = n by omega, g2] at h7
            cases h7
            rcases h8 with ⟨h9, -⟩ | ⟨q9, h9, h10⟩
            · exact .inr (by rw [h6, h9])
            · obtain ⟨c2, h11⟩ := q_adr hH h10
              have := hdis q9 q' _ _ h11 hc rfl
              subst this
              rw [h9] at hg
              exact .inl (by rw [h6, ← hg])
          · rw [hH.2.2.1 n (by omega)] at g2; cases g2
      rcases h5 with h5 | h5
      · rw [Bool.or_eq_false_iff, Bool.and_eq_false_iff] at h5
        obtain ⟨h5, h6⟩ := h5
        have hix : ix = k := by
          rcases g5 with ⟨-, h7⟩ | ⟨h7, -⟩
          · exact h7
          · rw [Nat.ble_eq_true_of_le h7] at h6; cases h6
        subst hix
        rcases h5 with h5 | h5
        · rw [Nat.ble_eq_true_of_le k1] at h5; cases h5
        · rw [Nat.ble_eq_true_of_le k2] at h5; cases h5
      · rcases hrg with hrg | hrg <;> rw [hrg] at h5 <;> simp at h5
    · exact ⟨q', a', c1, v, ix, by rw [List.getElem?_set_ne (Ne.symm e)]; exact g1, g2, g3, g4, g5⟩
  · rw [← hH.2.2.2.2.1]
    apply List.ext_getElem?
    intro i
    rw [List.getElem?_map, List.getElem?_map]
    by_cases e : q = i
    · subst e; rw [List.getElem?_set_self hq, hc]; rfl
    · rw [List.getElem?_set_ne e]
  · rw [List.length_set]; exact hH.2.2.2.2.2.1
  · intro q' g' a' c1 h1 h2
    by_cases e : q = q'
    · subst e
      rw [List.getElem?_set_self hq] at h2
      cases h2
      rw [hg] at h1
      cases h1
      refine ⟨r, hr, hs.1, fun k hk => ?_⟩
      by_cases hk2 : i1 ≤ k ∧ k ≤ i2
      · exact hty k hk hk2.1 hk2.2
      · obtain ⟨r', h3, h4, h5⟩ := hH.2.2.2.2.2.2 q g a c hg hc
        rw [hr] at h3
        cases h3
        rcases h5 k hk with h6 | h6
        · exact .inl (hex a k h6 (fun z => hk2 z.2))
        · exact .inr (by rw [hs.2 k hk2]; exact h6)
    · rw [List.getElem?_set_ne e] at h2
      obtain ⟨r', h3, h4, h5⟩ := hH.2.2.2.2.2.2 q' g' a' c1 h1 h2
      refine ⟨r', h3, h4, fun k hk => (h5 k hk).imp (fun z => hex a' k z (fun y => ?_)) id⟩
      exact e (hdis q q' _ _ hc h2 y.1.symm)
theorem q_keep {ms : qMods} {w0 : va_W} (hK : qK D ms w0 ws) {g q a i1 i2 : Nat} {c c' : va_E} (hg : D.1[q]? = some g) (hc : ws[q]? = some (a, c)) (hs : ∀ k, ¬ (i1 ≤ k ∧ k ≤ i2) → qrd c' k = qrd c k) (hm : ms.any (fun m => m.1 == g && Nat.ble m.2.1 i1 && Nat.ble i2 m.2.2) = true) : qK D ms w0 (ws.set q (a, c')) := by
  have hq : q < ws.length := (List.getElem?_eq_some_iff.mp hc).1
  intro q' g' a1 c1 a2 c2 h1 h2 h3 k hk
  by_cases e : q = q'
  · subst e
    rw [List.getElem?_set_self hq] at h3
    cases h3
    rw [hg] at h1
    cases h1
    rw [← hK q g a1 c1 a c hg h2 hc k hk]
    refine hs k (fun ⟨k1, k2⟩ => ?_)
    unfold qmod at hk
    rw [List.any_eq_true] at hm
    obtain ⟨m, m1, m2⟩ := hm
    simp only [Bool.and_eq_true, beq_iff_eq, Nat.ble_eq] at m2
    rw [List.any_eq_false] at hk
    have := hk m m1
    simp only [Bool.and_eq_true, beq_iff_eq, Nat.ble_eq] at this
    exact this ⟨⟨m2.1.1, by omega⟩, by omega⟩
  · rw [List.getElem?_set_ne e] at h3
    exact hK q' g' a1 c1 a2 c2 h1 h2 h3 k hk
end QW
end
section
/-! fields and arrays -/
def FldOk (own : String) (idx ci k : Nat) (ft : FieldType) : Prop := ∃ (C : String) (T : u_T) (N : Nat) (ty0 : Nat → FieldType), (∀ w ∈ u_ws C T N, w ∈ kG) ∧ (Cond.fieldLink own idx (T k).1 (T k).2.1 (T k).2.2.1 ∈ kG ∨ ∃ host, Cond.fieldLinkNest own idx (T k).1 (T k).2.1 (T k).2.2.1 host ∈ kN) ∧ vwCl[ci]? = some (C, T, N) ∧ k < N ∧
  (∀ k, k < N → parseFieldDescriptor (T k).2.2.1 = some (ty0 k)) ∧ (∀ a, a < N → ∀ b, b < N → a ≠ b → (T a).2.1 ≠ (T b).2.1) ∧ ty0 k = ft
def FldW (own : String) (idx ci k : Nat) : Prop := ∀ (C : String) (T : u_T) (N : Nat), vwCl[ci]? = some (C, T, N) → (T k).2.2.2 = false
/-- a field's row: index, class, place, 0 int 1 long 2 boolean 3 reference, may it be written -/
abbrev qFd : Type := Nat × Nat × Nat × Nat × Bool
def qft (own : String) (f : qFd) : Prop := ∃ ft : FieldType, FldOk own f.1 f.2.1 f.2.2.1 ft ∧ (f.2.2.2.1 = 0 → ft = .int) ∧ (f.2.2.2.1 = 1 → ft = .long) ∧ (f.2.2.2.1 = 2 → ft = .boolean) ∧ (f.2.2.2.1 = 3 → ∃ C, ft = .object C ∨ ∃ u, ft = .array u) ∧ (f.2.2.2.2 = true → FldW own f.1 f.2.1 f.2.2.1)
section QF
variable {γ : kΓ} {p : Program} {l : Launch} {e : Env} {R : Room} {s : State} {m : MethodId} {args : Array Value} {below : List Frame} {meth : Method} {c : Code} {H : Heap} {locs : List Loc} {cells slots : Nat} {Q : State → Prop}
variable {cc : ByteArray} {nL pc : Nat} {own : String} {A : Nat → Prop} {ws : va_W} {ls : Array Slot} {rest : List Value}
theorem k_getG (hC : kC γ p s m args c cc nL own A) (hw : kW γ A ws s H locs) {idx ci k : Nat} {ft : FieldType} (hf : FldOk own idx ci k ft) (q0 : Nat) {a : Nat} {fs : List Value} (he : ws[q0]? = some (a, .inr (ci, fs))) {v : Value} (hv : fs[k]? = some v) (hdg : decode cc pc = .ok (.getfield idx, 3))
    (kk : W p l e R s m args below meth c H locs cells slots Q (F0 m (pc + 3) ls (v :: rest))) : W p l e R s m args below meth c H locs cells slots Q (F0 m pc ls (.ref a :: rest)) := by
  obtain ⟨C, T, N, ty0, h1, h2, h3, h4, h5, h6, h7⟩ := hf
  rcases h2 with h2 | ⟨host, h2⟩
  · exact k_get hC hw h1 h2 h3 h4 q0 he hv hdg kk
  · exact k_getN hC hw h1 h2 h3 h4 q0 he hv hdg kk
theorem k_putG (hC : kC γ p s m args c cc nL own A) (hw : kW γ A ws s H locs) {idx ci k : Nat} {ft : FieldType} (hf : FldOk own idx ci k ft) (hfw : FldW own idx ci k) (q0 : Nat) {a : Nat} {fs : List Value} (he : ws[q0]? = some (a, .inr (ci, fs))) {v : Value} (hn : narrow ft v = v) (hfit : fits ft v = true) (hl : k < fs.length) (hdg : decode cc pc = .ok (.putfield idx, 3))
    (kk : ∀ (H1 : Heap) (locs1 : List Loc), kW γ A (ws.set q0 (a, .inr (ci, fs.set k v))) s H1 locs1 → W p l e R s m args below meth c H1 locs1 cells slots Q (F0 m (pc + 3) ls rest)) : W p l e R s m args below meth c H locs cells slots Q (F0 m pc ls (v :: .ref a :: rest)) := by
  obtain ⟨C, T, N, ty0, h1, h2, h3, h4, h5, h6, h7⟩ := hf
  subst h7
  rcases h2 with h2 | ⟨host, h2⟩
  · exact k_put hC hw h1 ty0 h5 h6 h2 h3 h4 (hfw C T N h3) q0 he hn hfit hl hdg kk
  · exact k_putN hC hw h1 ty0 h5 h6 h2 h3 h4 (hfw C T N h3) q0 he hn hfit hl hdg kk
end QF
def qs_get (D : qWd) (fds : List qFd) (S : AS) (idx pc : Nat) : Option qSu :=
  match S.2.1.2, fds.find? (fun f => f.1 == idx) with
  | a :: stk, some f => if a.1 == 3 then (match qrg D S.2.2 a.2.1 with
    | some g => if g == qWR then none else (match D.2.1[g]? with
      | some r => if r.1 == 10 + f.2.1 && Nat.blt f.2.2.1 r.2.1 then (match qrs D S.1 S.2.2 a.2.1 f.2.2.1 r with
        | some z => some [((z.1, (S.2.1.1, z.2.2 :: stk), z.2.1), pc + 3)]
        | none => none) else none
      | none => none)
    | none => none) else none
  | _, _ => none
theorem q_obj {γ : kΓ} {r : qRT} {c : va_E} (h : qsh γ r c) {ci : Nat} (hr : r.1 = 10 + ci) : ∃ fs : List Value, c = .inr (ci, fs) ∧ fs.length = r.2.1 := by
  cases c with
  | inr o =>
    obtain ⟨ci', fs⟩ := o
    obtain ⟨h1, h2⟩ := h
    simp only at h1 h2
    have : ci' = ci := by omega
    subst this
    exact ⟨fs, rfl, h2⟩
  | inl a =>
    obtain ⟨-, -, -, h4⟩ := h
    split at h4
    · omega
    · omega
    · omega
    · exact h4.elim
theorem qs_getG {x : qCx} (hB : qB x) (hD : qD x.2.2.2.2.2.2.2.2.2.2.2.2.2.2.1) {fds : List qFd} (hfd : ∀ f ∈ fds, qft x.2.2.2.2.2.2.2.2.2.2.2.2.1.2.2 f) {S : AS} {idx pc : Nat} {L : qSu} (hs : qs_get x.2.2.2.2.2.2.2.2.2.2.2.2.2.2.1 fds S idx pc = some L) (hdc : qdc x pc (.getfield idx, 3)) (h : qOk x L) : qG x S pc := by
  obtain ⟨γ, p, l, e, R, s, m, args, below, meth, c, Q, ⟨cc, nL', own⟩, A, D, adr, X, ms, w0, σe⟩ := x
  simp only at hD hfd hs
  obtain ⟨N, ⟨loc, stk⟩, M⟩ := S
  unfold qs_get at hs
  split at hs
  · rename_i a stk' f heq hf
    simp only at heq
    subst heq
    split at hs
    · rename_i ha
      simp only [beq_iff_eq] at ha
      split at hs
      · rename_i g hg
        split at hs
        · cases hs
        · rename_i hne
          split at hs
          · rename_i r hr
            split at hs
            · rename_i hc
              simp only [Bool.and_eq_true, beq_iff_eq, Nat.blt_eq] at hc
              split at hs
              · rename_i z hz
                cases hs
                have hG := qOk1 h
                obtain ⟨ft, hfo, -⟩ := hfd f (List.mem_of_find?_eq_some hf)
                have hfi := List.find?_some hf
                simp only [beq_iff_eq] at hfi
                intro σ ρ lv st ls ws H locs hw hl hS
                obtain ⟨h1, h2, h3, h4, h5, h6⟩ := hS
                match st, h2.2 with
                | v0 :: st, ⟨hra, hst⟩ =>
                obtain ⟨b, rfl, hb⟩ := q_rfv hra ha
                obtain ⟨q, cl, r', g1, g2, g3, g4, g5⟩ := q_cell hD h3 hg (by simpa using hne) hb
                rw [hr] at g3
                cases g3
                obtain ⟨fs, rfl, hfs⟩ := q_obj g4 hc.1
                obtain ⟨σ', ρ', v, s1, s2, s3, s4, s5, s6⟩ := q_rs hD h1 h3 hw.2.1.1 g2 hb g5 hc.2 hz
                have hF := h2.mono s1 s2
                rw [hfi] at hfo
                refine k_getG hB hw hfo q g2 (v := v) s5 hdc ?_
                exact hG σ' ρ' lv (v :: st) ls ws H locs hw hl ⟨s3, ⟨hF.1, s6, hF.2.2⟩, s4, h4, h5, fun v x hv => s1 v x (h6 v x hv)⟩
              · cases hs
            · cases hs
          · cases hs
      · cases hs
    · cases hs
  · cases hs
/-- a write of slot k of what n names: the memory behind it -/
def qwr (D : qWd) (ms : qMods) (xr : List Nat) (N : qN) (M : qM) (n g k : Nat) (r : qRT) (a : AV) : Option qM :=
  if ms.any (fun m => m.1 == g && Nat.ble m.2.1 k && Nat.ble k m.2.2) && !(xr.contains g) && !(qrg D M n == some qWR) && Nat.blt k 10000 then
    (if qtk D N M a (qsg r.2.2 k) then some (M.1, (n, k, a) :: (qcl D M g k k).2.1, M.2.2.filter (fun e => !(e.1 == n && e.2 == k)))
     else if n < D.2.2 && Nat.blt r.1 6 && qint a then some (M.1, (n, k, a) :: (qcl D M g k k).2.1, (n, k) :: M.2.2) else none)
  else none
section QP
variable {D : qWd} {γ : kΓ} {adr : List Nat} {σ : qσ} {ρ : qρ} {M : qM} {ws : va_W}
theorem q_wrS (hD : qD D) {N : qN} (hN : qsN D σ N) (hH : qsM D γ adr σ ρ M ws) (hdis : ∀ (i j : Nat) (p q : Nat × va_E), ws[i]? = some p → ws[j]? = some q → p.1 = q.1 → i = j) {ms : qMods} {xr : List Nat} {w0 : va_W} {X : va_W → Prop} (hX : ∀ (ws : va_W) (q g a : Nat) (c : va_E), D.1[q]? = some g → ¬ g ∈ xr → ws.map Prod.fst = adr → adr[q]? = some a → X ws → X (ws.set q (a, c))) (hx : X ws) (hK : qK D ms w0 ws)
    {n g k q a : Nat} {r : qRT} {av : AV} {v v' : Value} {c c' : va_E} (hg : D.1[q]? = some g) (hr : D.2.1[g]? = some r) (hc : ws[q]? = some (a, c)) (ha : ρ n = some a) (hv : qR σ ρ av v) (hs : qsame γ r c c' k k) (hv' : qrd c' k = some v') (hvv : v' = v) {M' : qM} (hz : qwr D ms xr N M n g k r av = some M') :
    qsM D γ adr σ ρ M' (ws.set q (a, c')) ∧ X (ws.set q (a, c')) ∧ qK D ms w0 (ws.set q (a, c')) := by
  subst hvv
  unfold qwr at hz
  split at hz
  · rename_i h1
    simp only [Bool.and_eq_true, Bool.not_eq_true'] at h1
    obtain ⟨⟨⟨h1, h2⟩, h3⟩, hk10⟩ := h1
    rw [Nat.blt_eq] at hk10
    have hq : q < ws.length := (List.getElem?_eq_some_iff.mp hc).1
    have hX' : X (ws.set q (a, c')) := hX ws q g a c' hg (by simpa using h2) hH.2.2.2.2.1 (q_adr2 hH hc) hx
    have hK' : qK D ms w0 (ws.set q (a, c')) := q_keep hK hg hc hs.2 h1
    refine ⟨?_, hX', hK'⟩
    split at hz
    · rename_i ht
      cases hz
      have := q_wr hD hH hdis hg hr hc hs (ex' := M.2.2.filter (fun e => !(e.1 == n && e.2 == k))) (fun a' k' ⟨n', z1, z2⟩ hn => ⟨n', List.mem_filter.mpr ⟨z1, by
          simp only [Bool.not_eq_true', Bool.and_eq_false_iff, beq_eq_false_iff_ne, ne_eq]
          by_cases e1 : n' = n
          · subst e1
            rw [ha] at z2
            cases z2
            refine .inr (fun e2 => hn ⟨rfl, by omega, by omega⟩)
          · exact .inl e1⟩, z2⟩) (fun k' _ k1 k2 => .inr (by
          have : k' = k := by omega
          subst this
          exact ⟨_, hv', q_tk hD hN hH hv ht⟩))
      exact q_addm this hk10 (List.getElem?_set_self hq) ha hv' hv
    · split at hz
      · cases hz
        have := q_wr hD hH hdis hg hr hc hs (ex' := (n, k) :: M.2.2) (fun a' k' ⟨n', z1, z2⟩ _ => ⟨n', List.mem_cons_of_mem _ z1, z2⟩) (fun k' _ k1 k2 => .inl (by
          have : k' = k := by omega
          subst this
          exact ⟨n, List.mem_cons_self, ha⟩))
        exact q_addm this hk10 (List.getElem?_set_self hq) ha hv' hv
      · cases hz
  · cases hz
end QP
/-- may a value be put into a field -/
def qpf (N : qN) (ft : Nat) (a : AV) : Bool :=
  match ft with
  | 0 => qint a
  | 1 => a.1 == 2
  | 2 => (match qiv N a with
    | some p => qle 0 p.1 && qle p.2 1
    | none => false)
  | 3 => a.1 == 3
  | _ => false
theorem q_pf {D : qWd} {σ : qσ} {ρ : qρ} {N : qN} (hN : qsN D σ N) {a : AV} {v : Value} (hr : qR σ ρ a v) {ft : Nat} (h : qpf N ft a = true) {ty : FieldType} (h0 : ft = 0 → ty = .int) (h1 : ft = 1 → ty = .long) (h2 : ft = 2 → ty = .boolean) (h3 : ft = 3 → ∃ C, ty = .object C ∨ ∃ u, ty = .array u) : narrow ty v = v ∧ fits ty v = true := by
  unfold qpf at h
  split at h
  · obtain ⟨z, rfl⟩ := q_int hr h
    rw [h0 rfl]; exact ⟨rfl, rfl⟩
  · obtain ⟨z, rfl⟩ := q_lng hr (by simpa using h)
    rw [h1 rfl]; exact ⟨rfl, rfl⟩
  · split at h
    · rename_i p hp
      simp only [qle, Bool.and_eq_true, decide_eq_true_eq] at h
      obtain ⟨x, rfl, hx⟩ := q_iv hN hr hp
      rw [h2 rfl]
      have : x = 0 ∨ x = 1 := by
        have h8 : x.toInt = 0 ∨ x.toInt = 1 := by have := hx.1; have := hx.2; omega
        rcases h8 with h8 | h8
        · exact .inl (Int32.toInt_inj.mp (by simpa using h8))
        · exact .inr (Int32.toInt_inj.mp (by simpa using h8))
      rcases this with rfl | rfl
      · exact ⟨rfl, rfl⟩
      · exact ⟨rfl, rfl⟩
    · cases h
  · obtain ⟨z, rfl, -⟩ := q_rfv hr (by simpa using h)
    obtain ⟨C, h4 | ⟨u, h4⟩⟩ := h3 rfl
    · rw [h4]; exact ⟨rfl, rfl⟩
    · rw [h4]; exact ⟨rfl, rfl⟩
  · cases h
def qs_put (D : qWd) (ms : qMods) (xr : List Nat) (fds : List qFd) (S : AS) (idx pc : Nat) : Option qSu :=
  match S.2.1.2, fds.find? (fun f => f.1 == idx) with
  | v :: a :: stk, some f => if a.1 == 3 && f.2.2.2.2 && qpf S.1 f.2.2.2.1 v then (match qrg D S.2.2 a.2.1 with
    | some g => if g == qWR then none else (match D.2.1[g]? with
      | some r => if r.1 == 10 + f.2.1 && Nat.blt f.2.2.1 r.2.1 then (match qwr D ms xr S.1 S.2.2 a.2.1 g f.2.2.1 r v with
        | some M' => some [((S.1, (S.2.1.1, stk), M'), pc + 3)]
        | none => none) else none
      | none => none)
    | none => none) else none
  | _, _ => none
theorem q_sameO {γ : kΓ} {r : qRT} {ci k : Nat} {fs : List Value} {v : Value} (h : qsh γ r (.inr (ci, fs))) : qsame γ r (.inr (ci, fs)) (.inr (ci, fs.set k v)) k k := by
  refine ⟨⟨h.1, by simp only [List.length_set]; exact h.2⟩, fun j hj => ?_⟩
  show (fs.set k v)[j]? = fs[j]?
  rw [List.getElem?_set_ne (by omega)]
def qxok (x : qCx) (xr : List Nat) : Prop :=
  match x with
  | (_, _, _, _, _, _, _, _, _, _, _, _, _, _, D, adr, X, _, _, _) => ∀ (ws : va_W) (q g a : Nat) (c : va_E), D.1[q]? = some g → ¬ g ∈ xr → ws.map Prod.fst = adr → adr[q]? = some a → X ws → X (ws.set q (a, c))
theorem qs_putG {x : qCx} (hB : qB x) {D : qWd} (eD : x.2.2.2.2.2.2.2.2.2.2.2.2.2.2.1 = D) (hD : qD D) {ms : qMods} (ems : x.2.2.2.2.2.2.2.2.2.2.2.2.2.2.2.2.2.1 = ms) {xr : List Nat} (hX : qxok x xr) {fds : List qFd} (hfd : ∀ f ∈ fds, qft x.2.2.2.2.2.2.2.2.2.2.2.2.1.2.2 f) {S : AS} {idx pc : Nat} {L : qSu} (hs : qs_put D ms xr fds S idx pc = some L) (hdc : qdc x pc (.putfield idx, 3)) (h : qOk x L) : qG x S pc := by
  obtain ⟨γ, p, l, e, R, s, m, args, below, meth, c, Q, ⟨cc, nL', own⟩, A, D', adr, X, ms', w0, σe⟩ := x
  simp only at eD ems hfd
  subst eD
  subst ems
  obtain ⟨N, ⟨loc, stk⟩, M⟩ := S
  unfold qs_put at hs
  split at hs
  · rename_i v a stk' f heq hf
    simp only at heq
    subst heq
    split at hs
    · rename_i ha
      simp only [Bool.and_eq_true, beq_iff_eq] at ha
      obtain ⟨⟨ha, hfw⟩, hpf⟩ := ha
      split at hs
      · rename_i g hg
        split at hs
        · cases hs
        · rename_i hne
          split at hs
          · rename_i r hr
            split at hs
            · rename_i hc
              simp only [Bool.and_eq_true, beq_iff_eq, Nat.blt_eq] at hc
              split at hs
              · rename_i M' hz
                cases hs
                have hG := qOk1 h
                obtain ⟨ft, hfo, t0, t1, t2, t3, t4⟩ := hfd f (List.mem_of_find?_eq_some hf)
                have hfi := List.find?_some hf
                simp only [beq_iff_eq] at hfi
                intro σ ρ lv st ls ws H locs hw hl hS
                obtain ⟨h1, h2, h3, h4, h5, h6⟩ := hS
                match st, h2.2 with
                | vv :: v0 :: st, ⟨hrv, hra, hst⟩ =>
                obtain ⟨b, rfl, hb⟩ := q_rfv hra ha
                obtain ⟨q, cl, r', g1, g2, g3, g4, g5⟩ := q_cell hD h3 hg (by simpa using hne) hb
                rw [hr] at g3
                cases g3
                obtain ⟨fs, rfl, hfs⟩ := q_obj g4 hc.1
                obtain ⟨n1, n2⟩ := q_pf h1 hrv hpf t0 t1 t2 t3
                have hW := t4 hfw
                rw [hfi] at hfo hW
                have hlen : f.2.2.1 < fs.length := by rw [hfs]; exact hc.2
                refine k_putG hB hw hfo hW q g2 n1 n2 hlen hdc (fun H1 locs1 hw1 => ?_)
                obtain ⟨w1, w2, w3⟩ := q_wrS hD h1 h3 hw.2.1.1 hX h4 h5 g1 hr g2 hb hrv (q_sameO (v := vv) g4) (List.getElem?_set_self hlen) rfl hz
                exact hG σ ρ lv st ls _ H1 locs1 hw1 hl ⟨h1, ⟨h2.1, hst⟩, w1, w2, w3, h6⟩
              · cases hs
            · cases hs
          · cases hs
      · cases hs
    · cases hs
  · cases hs
end
section
/-! arrays -/
theorem q_arrI {γ : kΓ} {r : qRT} {c : va_E} (h : qsh γ r c) (hr : r.1 = 0 ∨ r.1 = 2 ∨ r.1 = 3) : ∃ f : Nat → Int32, c = .inl (γ.2.1 r.1, r.2.1, .inl f) ∧ r.2.1 < 2147483648 := by
  cases c with
  | inr o => obtain ⟨h1, h2⟩ := h; omega
  | inl a =>
    obtain ⟨k, n, b⟩ := a
    obtain ⟨h1, h2, h3, h4⟩ := h
    simp only at h1 h2 h3 h4
    subst h1; subst h2
    split at h4
    · rename_i f
      exact ⟨f, rfl, h3⟩
    · omega
    · omega
    · exact h4.elim
theorem q_arrL {γ : kΓ} {r : qRT} {c : va_E} (h : qsh γ r c) (hr : r.1 = 1) : ∃ f : Nat → Int64, c = .inl (γ.2.1 r.1, r.2.1, .inr (.inl f)) ∧ r.2.1 < 2147483648 := by
  cases c with
  | inr o => obtain ⟨h1, h2⟩ := h; omega
  | inl a =>
    obtain ⟨k, n, b⟩ := a
    obtain ⟨h1, h2, h3, h4⟩ := h
    simp only at h1 h2 h3 h4
    subst h1; subst h2
    split at h4
    · omega
    · rename_i f
      exact ⟨f, rfl, h3⟩
    · omega
    · exact h4.elim
theorem q_arrR {γ : kΓ} {r : qRT} {c : va_E} (h : qsh γ r c) (hr : r.1 = 4 ∨ r.1 = 5) : ∃ f : Nat → Option Nat, c = .inl (γ.2.1 r.1, r.2.1, .inr (.inr (.inr (.inr f)))) ∧ r.2.1 < 2147483648 := by
  cases c with
  | inr o => obtain ⟨h1, h2⟩ := h; omega
  | inl a =>
    obtain ⟨k, n, b⟩ := a
    obtain ⟨h1, h2, h3, h4⟩ := h
    simp only at h1 h2 h3 h4
    subst h1; subst h2
    split at h4
    · omega
    · omega
    · rename_i f
      exact ⟨f, rfl, h3⟩
    · exact h4.elim
theorem q_clamp {i : Int32} (h : 0 ≤ i.toInt) : (i.toNatClampNeg : Int) = i.toInt := by
  obtain ⟨n, h1, h2, h3⟩ := q_nI h
  rw [h3, h2, nI_clamp h1]
/-- what an index names -/
def qidx (D : qWd) (S : AS) (i a : AV) : Option (Nat × Nat × qRT × qIv) :=
  if a.1 == 3 && qint i then (match qrg D S.2.2 a.2.1 with
    | some g => if g == qWR then none else (match D.2.1[g]?, qiv S.1 i with
      | some r, some p => if qle 0 p.1 && decide (p.2 < (r.2.1 : Int)) && qle p.1 p.2 then some (a.2.1, g, r, p) else none
      | _, _ => none)
    | none => none) else none
/-- a place with a variable's number -/
def qky (i : AV) : Nat := 10000 + 4096 * i.2.1 + (i.2.2 + 2048).toNat
def qkyb (i : AV) : Bool := i.1 == 0 && qle (-2048) i.2.2 && qle i.2.2 2047
theorem q_ky {σ : qσ} {i : AV} {k : Nat} (h : qkyb i = true) : qix σ (qky i) k ↔ ∃ y, σ i.2.1 = some y ∧ (k : Int) = y + i.2.2 := by
  unfold qkyb at h
  simp only [Bool.and_eq_true, beq_iff_eq, qle, decide_eq_true_eq] at h
  have e1 : (qky i - 10000) / 4096 = i.2.1 := by unfold qky; omega
  have e2 : (((qky i - 10000) % 4096 : Nat) : Int) = i.2.2 + 2048 := by unfold qky; omega
  have e3 : 10000 ≤ qky i := by unfold qky; omega
  unfold qix
  rw [e1, e2]
  constructor
  · rintro (⟨h1, -⟩ | ⟨-, y, h1, h2⟩)
    · omega
    · exact ⟨y, h1, by omega⟩
  · rintro ⟨y, h1, h2⟩
    exact .inr ⟨e3, y, h1, by omega⟩
/-- loads: t the kind of the value -/
def qrdA (D : qWd) (t : Nat) (N : qN) (M : qM) (i : AV) (n g : Nat) (r : qRT) (p : qIv) : Option (qN × qM × AV) :=
  if p.1 = p.2 then qrs D N M n p.1.toNat r
  else (match qjn t r.2.2 p.1.toNat p.2.toNat with
    | some j => if M.2.2.all (fun e => !(Nat.ble p.1.toNat e.2 && Nat.ble e.2 p.2.toNat)) then (match t with
      | 0 => (match M.2.1.find? (fun e => qkyb i && (e.1 == n && e.2.1 == qky i)) with
        | some e => some (N, M, e.2.2)
        | none => some (((qfr N j).1.1, (qfr N j).1.2.1, if (qfr N j).2.1 == 0 && i.1 == 0 then ((qfr N j).2.2.1, g, i.2.1, i.2.2) :: (qfr N j).1.2.2 else (qfr N j).1.2.2), (M.1, (if qkyb i then [(n, qky i, (qfr N j).2)] else []) ++ M.2.1, M.2.2), (qfr N j).2))
      | 1 => some ((qfrL N j).1, M, (qfrL N j).2)
      | 2 => if qac (fun ty => ty.1 == 2 && decide (ty.2.1 = j.1)) r.2.2 p.1.toNat p.2.toNat then (if j.1.toNat < D.2.2 then some (N, M, (3, j.1.toNat, 0)) else some (N, (M.1 ++ [j.1.toNat], M.2), (3, D.2.2 + M.1.length, 0))) else none
      | _ => none) else none
    | none => none)
section QA
variable {D : qWd} {γ : kΓ} {adr : List Nat} {σ : qσ} {ρ : qρ} {M : qM} {ws : va_W}
theorem q_rdA (hD : qD D) {N : qN} (hN : qsN D σ N) (hH : qsM D γ adr σ ρ M ws) (hdis : ∀ (i j : Nat) (p q : Nat × va_E), ws[i]? = some p → ws[j]? = some q → p.1 = q.1 → i = j) {t n g a q : Nat} {i : AV} {x : Int32} {c : va_E} {r : qRT} {p : qIv} (hgr : D.2.1[g]? = some r) (hc : ws[q]? = some (a, c)) (ha : ρ n = some a) (hty : ∀ k, k < r.2.1 → qexA ρ M.2.2 a k ∨ ∃ v, qrd c k = some v ∧ qvT D γ adr (qsg r.2.2 k) v)
    (hi : qR σ ρ i (.int x)) (hp : qIn p x.toInt) (h0 : 0 ≤ p.1) (h1 : p.2 < (r.2.1 : Int)) {z : qN × qM × AV} (hz : qrdA D t N M i n g r p = some z) :
    ∃ (σ' : qσ) (ρ' : qρ) (v : Value), qle1 σ σ' ∧ qle2 ρ ρ' ∧ qsN D σ' z.1 ∧ qsM D γ adr σ' ρ' z.2.1 ws ∧ qrd c x.toNatClampNeg = some v ∧ qR σ' ρ' z.2.2 v := by
  have hx := q_clamp (i := x) (Int.le_trans h0 hp.1)
  have hp' := hp
  simp only [qIn] at hp
  unfold qrdA at hz
  split at hz
  · rename_i he
    have e1 : x.toNatClampNeg = p.1.toNat := by omega
    rw [e1]
    exact q_rs hD hN hH hdis hc ha hty (by omega) hz
  · split at hz
    · rename_i j hj
      split at hz
      · rename_i hex
        simp only [List.all_eq_true, Bool.not_eq_true', Bool.and_eq_false_iff] at hex
        have k1 : p.1.toNat ≤ x.toNatClampNeg := by omega
        have k2 : x.toNatClampNeg ≤ p.2.toNat := by omega
        obtain ⟨j1, j2, j3⟩ := q_jn hj _ k1 k2
        have hv : ∃ v, qrd c x.toNatClampNeg = some v ∧ qvT D γ adr (qsg r.2.2 x.toNatClampNeg) v := by
          rcases hty _ (by omega : x.toNatClampNeg < r.2.1) with ⟨m, m1, -⟩ | h
          · rcases hex _ m1 with h9 | h9
            · rw [Nat.ble_eq_true_of_le k1] at h9; cases h9
            · rw [Nat.ble_eq_true_of_le k2] at h9; cases h9
          · exact h
        obtain ⟨v, v1, v2⟩ := hv
        split at hz
        · split at hz
          · rename_i e he
            cases hz
            have h5 := List.find?_some he
            simp only [Bool.and_eq_true, beq_iff_eq] at h5
            obtain ⟨kb, h5, h6⟩ := h5
            obtain ⟨n', k', av⟩ := e
            obtain ⟨q', a', c', v', ix, g1, g2, g3, g4, g5⟩ := hH.2.2.2.1 n' k' av (List.mem_of_find?_eq_some he)
            simp only at h5 h6
            subst h5
            subst h6
            rw [ha] at g2
            cases g2
            have := hdis q' q _ _ g1 hc rfl
            subst this
            rw [hc] at g1
            cases g1
            obtain ⟨u, hu, eu⟩ := (q_ky kb).mp g5
            have hi0 : i.1 = 0 := by unfold qkyb at kb; simp only [Bool.and_eq_true, beq_iff_eq] at kb; exact kb.1.1
            obtain ⟨u', hu', eu'⟩ := q_v0 hi hi0
            rw [hu] at hu'
            cases hu'
            have : ix = x.toNatClampNeg := by omega
            subst this
            exact ⟨σ, ρ, v', fun _ _ h => h, fun _ _ h => h, hN, hH, g3, g4⟩
          · cases hz
            obtain ⟨y, rfl, hy⟩ := v2.1 j1
            obtain ⟨σ', s1, s2, s3⟩ := q_fr (ρ := ρ) hN (iv := j) (x := y) ⟨Int.le_trans j2 hy.1, Int.le_trans hy.2 j3⟩
            have hM1 : qsM D γ adr σ' ρ (M.1, (if qkyb i then [(n, qky i, (qfr N j).2)] else []) ++ M.2.1, M.2.2) ws := by
              by_cases kb : qkyb i = true
              · rw [if_pos kb]
                have hi0 : i.1 = 0 := by unfold qkyb at kb; simp only [Bool.and_eq_true, beq_iff_eq] at kb; exact kb.1.1
                obtain ⟨u', hu', eu'⟩ := q_v0 hi hi0
                exact q_addx (hH.monoσ s1) hc ha v1 s3 ((q_ky kb).mpr ⟨u', s1 _ _ hu', by omega⟩)
              · rw [if_neg kb]
                exact hH.monoσ s1
            refine ⟨σ', ρ, _, s1, fun _ _ h => h, ⟨s2.1, s2.2.1, s2.2.2.1, fun w g' V d hm => ?_⟩, hM1, v1, s3⟩
            simp only at hm
            split at hm
            · rename_i hq
              simp only [Bool.and_eq_true, beq_iff_eq] at hq
              rcases List.mem_cons.mp hm with hm | hm
              · cases hm
                rcases s3 with ⟨_, y', y2, e, hs, hx2⟩ | ⟨t9, _⟩ | ⟨t9, _⟩ | ⟨t9, _⟩
                · cases e
                  rcases hi with ⟨_, x', u, e, hu, hx3⟩ | ⟨t9, _⟩ | ⟨t9, _⟩ | ⟨t9, _⟩
                  · cases e
                    have hd0 : (qfr N j).2.2.2 = 0 := by
                      unfold qfr
                      unfold qfr at hq
                      split
                      · rename_i h9; rw [if_pos h9] at hq; exact absurd (show (1 : Nat) = 0 from hq.1) (by decide)
                      · rfl
                    rw [hd0] at hx2
                    refine ⟨r, y2, u, hgr, hs, s1 _ _ hu, by omega, fun _ => ?_⟩
                    have : (u + i.2.2).toNat = x.toNatClampNeg := by omega
                    rw [this]
                    have : y2 = y.toInt := by omega
                    rw [this]
                    exact hy
                  · rw [hq.2] at t9; cases t9
                  · rw [hq.2] at t9; cases t9
                  · rw [hq.2] at t9; cases t9
                · rw [hq.1] at t9; cases t9
                · rw [hq.1] at t9; cases t9
                · rw [hq.1] at t9; cases t9
              · exact s2.2.2.2 w g' V d hm
            · exact s2.2.2.2 w g' V d hm
        · cases hz
          obtain ⟨y, rfl, hy⟩ := v2.2.1 j1
          obtain ⟨σ', s1, s2, s3⟩ := q_frL (ρ := ρ) hN (iv := j) (x := y) ⟨Int.le_trans j2 hy.1, Int.le_trans hy.2 j3⟩
          exact ⟨σ', ρ, _, s1, fun _ _ h => h, s2, hH.monoσ s1, v1, s3⟩
        · split at hz
          · rename_i hjj
            obtain ⟨b, rfl, hb⟩ := v2.2.2 j1
            have hreg := q_ac hjj _ k1 k2
            simp only [Bool.and_eq_true, decide_eq_true_eq] at hreg
            rw [hreg.2] at hb
            split at hz
            · rename_i hlt
              cases hz
              exact ⟨σ, ρ, _, fun _ _ h => h, fun _ _ h => h, hN, hH, v1, .inr (.inr (.inr ⟨rfl, b, rfl, q_sing hD hH hlt hb⟩))⟩
            · cases hz
              obtain ⟨ρ', s1, s2, s3⟩ := q_frR hH hb
              exact ⟨σ, ρ', _, fun _ _ h => h, s1, hN, s2, v1, .inr (.inr (.inr ⟨rfl, b, rfl, s3⟩))⟩
          · cases hz
        · cases hz
      · cases hz
    · cases hz
/-- stores at an index that isn't one number -/
def qsubT (t0 t : qTy) : Bool := t0.1 == 0 && t.1 == 0 && qle t.2.1 t0.2.1 && qle t0.2.2 t.2.2
def qorg (D : qWd) (N : qN) (r : qRT) (i a : AV) : Bool :=
  a.1 == 0 && decide (a.2.2 = 0) && i.1 == 0 && (match N.1[i.2.1]? with
    | some p => qle 0 (p.1 + i.2.2) && N.2.2.any (fun o => o.1 == a.2.1 && o.2.2.1 == i.2.1 && (match D.2.1[o.2.1]? with
      | some r0 => qle 0 (p.1 + o.2.2.2) && (List.range ((p.2 - p.1).toNat + 1)).all (fun j => qsubT (qsg r0.2.2 (p.1 + o.2.2.2 + j).toNat) (qsg r.2.2 (p.1 + i.2.2 + j).toNat))
      | none => false))
    | none => false)
theorem q_org {N : qN} (hN : qsN D σ N) {r : qRT} {i a : AV} {x y : Int32} (hi : qR σ ρ i (.int x)) (ha : qR σ ρ a (.int y)) (h0 : 0 ≤ x.toInt) (h : qorg D N r i a = true) : qvT D γ adr (qsg r.2.2 x.toNatClampNeg) (.int y) := by
  have hx := q_clamp h0
  unfold qorg at h
  simp only [Bool.and_eq_true, beq_iff_eq, decide_eq_true_eq] at h
  obtain ⟨⟨⟨a1, a2⟩, i1⟩, h⟩ := h
  split at h
  · rename_i p hp
    simp only [Bool.and_eq_true, qle, decide_eq_true_eq, List.any_eq_true, beq_iff_eq] at h
    obtain ⟨h1, ⟨v, g, V, d⟩, ho, ⟨e1, e2⟩, h2⟩ := h
    simp only at e1 e2 h2
    split at h2
    · rename_i r0 hr0
      simp only [Bool.and_eq_true, decide_eq_true_eq, List.all_eq_true, List.mem_range] at h2
      obtain ⟨h3, h4⟩ := h2
      rcases hi with ⟨_, x', u, e, hu, hx3⟩ | ⟨t9, _⟩ | ⟨t9, _⟩ | ⟨t9, _⟩
      · cases e
        rcases ha with ⟨_, y', w, e, hw, hy3⟩ | ⟨t9, _⟩ | ⟨t9, _⟩ | ⟨t9, _⟩
        · cases e
          obtain ⟨r1, w', u', f0, f1, f2, f3, f4⟩ := hN.2.2.2 v g V d ho
          subst e1; subst e2
          rw [hr0] at f0; cases f0
          rw [hw] at f1; cases f1
          rw [hu] at f2; cases f2
          obtain ⟨u2, f5, f6⟩ := hN.2.1 _ _ hp
          rw [hu] at f5; cases f5
          simp only [qIn] at f6
          have h5 := h4 (u - p.1).toNat (by omega)
          have q1 : (p.1 + d + ((u - p.1).toNat : Int)).toNat = (u + d).toNat := by congr 1; omega
          have q2 : (p.1 + i.2.2 + ((u - p.1).toNat : Int)).toNat = x.toNatClampNeg := by omega
          rw [q1, q2] at h5
          unfold qsubT at h5
          simp only [Bool.and_eq_true, beq_iff_eq, qle, decide_eq_true_eq] at h5
          obtain ⟨⟨⟨g1, g2⟩, g3⟩, g4⟩ := h5
          have f7 := f4 g1
          simp only [qIn] at f7
          exact ⟨fun _ => ⟨y, rfl, by simp only [qIn]; omega⟩, fun h => absurd (g2.symm.trans h) (by decide), fun h => absurd (g2.symm.trans h) (by decide)⟩
        · rw [a1] at t9; cases t9
        · rw [a1] at t9; cases t9
        · rw [a1] at t9; cases t9
      · rw [i1] at t9; cases t9
      · rw [i1] at t9; cases t9
      · rw [i1] at t9; cases t9
    · cases h2
  · cases h
def qwrA (D : qWd) (ms : qMods) (xr : List Nat) (N : qN) (M : qM) (i : AV) (n g : Nat) (r : qRT) (p : qIv) (a : AV) : Option qM :=
  if p.1 = p.2 then qwr D ms xr N M n g p.1.toNat r a
  else if ms.any (fun m => m.1 == g && Nat.ble m.2.1 p.1.toNat && Nat.ble p.2.toNat m.2.2) && !(xr.contains g) && M.2.2.all (fun e => !(Nat.ble p.1.toNat e.2 && Nat.ble e.2 p.2.toNat)) && (qac (qtk D N M a) r.2.2 p.1.toNat p.2.toNat || qorg D N r i a) then some (qcl D M g p.1.toNat p.2.toNat) else none
theorem q_submem {L L' : List (Nat × Nat × AV)} {rn : List Nat} {ex : List (Nat × Nat)} (h : qsM D γ adr σ ρ (rn, L, ex) ws) (hs : ∀ e ∈ L', e ∈ L) : qsM D γ adr σ ρ (rn, L', ex) ws := ⟨h.1, h.2.1, h.2.2.1, fun n k av hm => h.2.2.2.1 n k av (hs _ hm), h.2.2.2.2⟩
theorem q_wrA (hD : qD D) {N : qN} (hN : qsN D σ N) (hH : qsM D γ adr σ ρ M ws) (hdis : ∀ (i j : Nat) (p q : Nat × va_E), ws[i]? = some p → ws[j]? = some q → p.1 = q.1 → i = j) {ms : qMods} {xr : List Nat} {w0 : va_W} {X : va_W → Prop} (hX : ∀ (ws : va_W) (q g a : Nat) (c : va_E), D.1[q]? = some g → ¬ g ∈ xr → ws.map Prod.fst = adr → adr[q]? = some a → X ws → X (ws.set q (a, c))) (hx : X ws) (hK : qK D ms w0 ws)
    {n g q a : Nat} {r : qRT} {i av : AV} {x : Int32} {v : Value} {c c' : va_E} {p : qIv} (hi : qR σ ρ i (.int x)) (hp : qIn p x.toInt) (h0 : 0 ≤ p.1) (hg : D.1[q]? = some g) (hr : D.2.1[g]? = some r) (hc : ws[q]? = some (a, c)) (ha : ρ n = some a) (hv : qR σ ρ av v) (hs : qsame γ r c c' x.toNatClampNeg x.toNatClampNeg) (hv' : qrd c' x.toNatClampNeg = some v)
    (hint : (∃ z, v = .int z) ∨ qac (qtk D N M av) r.2.2 p.1.toNat p.2.toNat = true ∨ p.1 = p.2) {M' : qM} (hz : qwrA D ms xr N M i n g r p av = some M') :
    qsM D γ adr σ ρ M' (ws.set q (a, c')) ∧ X (ws.set q (a, c')) ∧ qK D ms w0 (ws.set q (a, c')) := by
  have hxc := q_clamp (i := x) (Int.le_trans h0 hp.1)
  simp only [qIn] at hp
  unfold qwrA at hz
  split at hz
  · have e1 : p.1.toNat = x.toNatClampNeg := by omega
    rw [e1] at hz
    exact q_wrS hD hN hH hdis hX hx hK hg hr hc ha hv hs hv' rfl hz
  · rename_i hne
    split at hz
    · rename_i h1
      simp only [Bool.and_eq_true, Bool.not_eq_true'] at h1
      obtain ⟨⟨⟨h1, h2⟩, h3⟩, h4⟩ := h1
      have k1 : p.1.toNat ≤ x.toNatClampNeg := by omega
      have k2 : x.toNatClampNeg ≤ p.2.toNat := by omega
      have hX' : X (ws.set q (a, c')) := hX ws q g a c' hg (by simpa using h2) hH.2.2.2.2.1 (q_adr2 hH hc) hx
      have hm : ms.any (fun m => m.1 == g && Nat.ble m.2.1 x.toNatClampNeg && Nat.ble x.toNatClampNeg m.2.2) = true := by
        rw [List.any_eq_true] at h1 ⊢
        obtain ⟨m, m1, m2⟩ := h1
        simp only [Bool.and_eq_true, beq_iff_eq, Nat.ble_eq] at m2
        exact ⟨m, m1, by simp only [Bool.and_eq_true, beq_iff_eq, Nat.ble_eq]; omega⟩
      refine ⟨?_, hX', q_keep hK hg hc hs.2 hm⟩
      cases hz
      have hvt : qvT D γ adr (qsg r.2.2 x.toNatClampNeg) v := by
        simp only [Bool.or_eq_true] at h4
        rcases h4 with h4 | h4
        · exact q_tk hD hN hH hv (q_ac h4 _ k1 k2)
        · rcases hint with ⟨z5, h5⟩ | h5 | h5
          · subst h5; exact q_org hN hi hv (by omega) h4
          · exact q_tk hD hN hH hv (q_ac h5 _ k1 k2)
          · exact absurd h5 hne
      have := q_wr hD hH hdis hg hr hc hs (ex' := M.2.2) (fun a' k' h _ => h) (fun k' _ l1 l2 => .inr (by
          have : k' = x.toNatClampNeg := by omega
          subst this
          exact ⟨_, hv', hvt⟩))
      refine q_submem this (fun e he => ?_)
      unfold qcl at he ⊢
      rw [List.mem_filter] at he ⊢
      refine ⟨he.1, ?_⟩
      have h6 := he.2
      simp only [Bool.not_eq_true', Bool.and_eq_false_iff, Bool.or_eq_false_iff] at h6 ⊢
      rcases h6 with ⟨h6 | h6, h60⟩ | h6
      · refine .inl ⟨.inl ?_, h60⟩
        cases h9 : Nat.ble x.toNatClampNeg e.2.1 with
        | false => rfl
        | true => rw [Nat.ble_eq] at h9; rw [Nat.ble_eq_true_of_le (by omega)] at h6; cases h6
      · refine .inl ⟨.inr ?_, h60⟩
        cases h9 : Nat.ble e.2.1 x.toNatClampNeg with
        | false => rfl
        | true => rw [Nat.ble_eq] at h9; rw [Nat.ble_eq_true_of_le (by omega)] at h6; cases h6
      · exact .inr h6
    · cases hz
end QA
end
section
/-! array instructions -/
abbrev qxγ (x : qCx) : kΓ := x.1
abbrev qxD (x : qCx) : qWd := x.2.2.2.2.2.2.2.2.2.2.2.2.2.2.1
abbrev qxms (x : qCx) : qMods := x.2.2.2.2.2.2.2.2.2.2.2.2.2.2.2.2.2.1
abbrev qxnL (x : qCx) : Nat := x.2.2.2.2.2.2.2.2.2.2.2.2.1.2.1
abbrev qxown (x : qCx) : String := x.2.2.2.2.2.2.2.2.2.2.2.2.1.2.2
theorem q_idx {D : qWd} {S : AS} {i a : AV} {n g : Nat} {r : qRT} {p : qIv} (h : qidx D S i a = some (n, g, r, p)) : a.1 = 3 ∧ qint i = true ∧ a.2.1 = n ∧ qrg D S.2.2 n = some g ∧ ¬ g = qWR ∧ D.2.1[g]? = some r ∧ qiv S.1 i = some p ∧ 0 ≤ p.1 ∧ p.2 < (r.2.1 : Int) := by
  unfold qidx at h
  split at h
  · rename_i h1
    simp only [Bool.and_eq_true, beq_iff_eq] at h1
    split at h
    · rename_i g' hg
      split at h
      · cases h
      · rename_i hne
        split at h
        · rename_i r' p' hr hp
          split at h
          · rename_i h2
            simp only [Bool.and_eq_true, qle, decide_eq_true_eq] at h2
            cases h
            exact ⟨h1.1, h1.2, rfl, hg, by simpa using hne, hr, hp, h2.1.1, h2.1.2⟩
          · cases h
        · cases h
    · cases h
  · cases h
def qs_ald (D : qWd) (t : Nat) (kd : Nat → Bool) (S : AS) (pc : Nat) : Option qSu :=
  match S.2.1.2 with
  | i :: a :: stk => (match qidx D S i a with
    | some (n, g, r, p) => if kd r.1 then (match qrdA D t S.1 S.2.2 i n g r p with
      | some z => some [((z.1, (S.2.1.1, z.2.2 :: stk), z.2.1), pc + 1)]
      | none => none) else none
    | none => none)
  | _ => none
theorem qs_aldG {x : qCx} {D : qWd} (eD : qxD x = D) (hD : qD D) {t : Nat} {kd : Nat → Bool} {S : AS} {pc : Nat} {L : qSu} (hs : qs_ald D t kd S pc = some L)
    (hd : ∀ (H : Heap) (locs : List Loc) (ls : Array Slot) (st : List Value) (ws : va_W) (q a : Nat) (c : va_E) (r : qRT) (y : Int32) (v : Value), qkW x ws H locs → ws[q]? = some (a, c) → qsh (qxγ x) r c → kd r.1 = true → 0 ≤ y.toInt → y.toInt < (r.2.1 : Int) → qrd c y.toNatClampNeg = some v → qWp x H locs (pc + 1) ls (v :: st) → qWp x H locs pc ls (.int y :: .ref a :: st)) (h : qOk x L) : qG x S pc := by
  obtain ⟨γ, p, l, e, R, s, m, args, below, meth, c, Q, ⟨cc, nL', own⟩, A, D', adr, X, ms', w0, σe⟩ := x
  simp only [qxD] at eD
  subst eD
  obtain ⟨N, ⟨loc, stk⟩, M⟩ := S
  unfold qs_ald at hs
  split at hs
  · rename_i i a stk' heq
    simp only at heq
    subst heq
    split at hs
    · rename_i n g r pv hidx
      obtain ⟨i1, i2, i3, i4, i5, i6, i7, i8, i9⟩ := q_idx hidx
      split at hs
      · rename_i hkd
        split at hs
        · rename_i z hz
          cases hs
          have hG := qOk1 h
          intro σ ρ lv st ls ws H locs hw hl hS
          obtain ⟨h1, h2, h3, h4, h5, h6⟩ := hS
          match st, h2.2 with
          | vi :: va :: st, ⟨hri, hra, hst⟩ =>
          obtain ⟨y, rfl⟩ := q_int hri i2
          obtain ⟨b, rfl, hb⟩ := q_rfv hra i1
          rw [i3] at hb
          obtain ⟨q, cl, r', g1, g2, g3, g4, g5⟩ := q_cell hD h3 i4 i5 hb
          rw [i6] at g3
          cases g3
          obtain ⟨y', e, hy⟩ := q_iv h1 hri i7
          cases e
          obtain ⟨σ', ρ', v, s1, s2, s3, s4, s5, s6⟩ := q_rdA hD h1 h3 hw.2.1.1 i6 g2 hb g5 hri hy i8 i9 hz
          have hF := h2.mono s1 s2
          refine hd H locs ls st ws q b cl r y v hw g2 g4 hkd (Int.le_trans i8 hy.1) (Int.lt_of_le_of_lt hy.2 i9) s5 ?_
          exact hG σ' ρ' lv (v :: st) ls ws H locs hw hl ⟨s3, ⟨hF.1, s6, hF.2.2.2⟩, s4, h4, h5, fun v x hv => s1 v x (h6 v x hv)⟩
        · cases hs
      · cases hs
    · cases hs
  · cases hs
/-- may a value be put into an array of a kind -/
def qpa (N : qN) (kd : Nat) (a : AV) : Bool :=
  match kd with
  | 0 => qint a
  | 1 => a.1 == 2
  | 2 => (match qiv N a with
    | some p => qle (-128) p.1 && qle p.2 127
    | none => false)
  | 3 => (match qiv N a with
    | some p => qle 0 p.1 && qle p.2 1
    | none => false)
  | _ => false
def qs_ast (D : qWd) (ms : qMods) (xr : List Nat) (kd : Nat → Bool) (S : AS) (pc : Nat) : Option qSu :=
  match S.2.1.2 with
  | v :: i :: a :: stk => (match qidx D S i a with
    | some (n, g, r, p) => if kd r.1 && qpa S.1 r.1 v then (match qwrA D ms xr S.1 S.2.2 i n g r p v with
      | some M' => if r.1 == 1 && !(decide (p.1 = p.2)) && !(qac (qtk D S.1 S.2.2 v) r.2.2 p.1.toNat p.2.toNat) then none else some [((S.1, (S.2.1.1, stk), M'), pc + 1)]
      | none => none) else none
    | none => none)
  | _ => none
theorem qs_astG {x : qCx} {D : qWd} (eD : qxD x = D) (hD : qD D) {ms : qMods} (ems : qxms x = ms) {xr : List Nat} (hX : qxok x xr) {kd : Nat → Bool} {S : AS} {pc : Nat} {L : qSu} (hs : qs_ast D ms xr kd S pc = some L)
    (hd : ∀ (H : Heap) (locs : List Loc) (ls : Array Slot) (st : List Value) (ws : va_W) (q a : Nat) (c : va_E) (r : qRT) (y : Int32) (v : Value), qkW x ws H locs → ws[q]? = some (a, c) → qsh (qxγ x) r c → kd r.1 = true → 0 ≤ y.toInt → y.toInt < (r.2.1 : Int) →
      ((r.1 = 0 ∧ ∃ z : Int32, v = .int z) ∨ (r.1 = 1 ∧ ∃ z : Int64, v = .long z) ∨ (r.1 = 2 ∧ ∃ z : Int32, v = .int z ∧ qIn (-128, 127) z.toInt) ∨ (r.1 = 3 ∧ ∃ z : Int32, v = .int z ∧ qIn (0, 1) z.toInt)) →
      ∃ c' : va_E, qsame (qxγ x) r c c' y.toNatClampNeg y.toNatClampNeg ∧ qrd c' y.toNatClampNeg = some v ∧ ((∀ (H1 : Heap) (locs1 : List Loc), qkW x (ws.set q (a, c')) H1 locs1 → qWp x H1 locs1 (pc + 1) ls st) → qWp x H locs pc ls (v :: .int y :: .ref a :: st))) (h : qOk x L) : qG x S pc := by
  obtain ⟨γ, p, l, e, R, s, m, args, below, meth, c, Q, ⟨cc, nL', own⟩, A, D', adr, X, ms', w0, σe⟩ := x
  simp only [qxD] at eD
  simp only [qxms] at ems
  subst eD
  subst ems
  obtain ⟨N, ⟨loc, stk⟩, M⟩ := S
  unfold qs_ast at hs
  split at hs
  · rename_i v i a stk' heq
    simp only at heq
    subst heq
    split at hs
    · rename_i n g r pv hidx
      obtain ⟨i1, i2, i3, i4, i5, i6, i7, i8, i9⟩ := q_idx hidx
      split at hs
      · rename_i hkd
        simp only [Bool.and_eq_true] at hkd
        split at hs
        · rename_i M' hz
          split at hs
          · cases hs
          · rename_i hlong
            cases hs
            have hG := qOk1 h
            intro σ ρ lv st ls ws H locs hw hl hS
            obtain ⟨h1, h2, h3, h4, h5, h6⟩ := hS
            match st, h2.2 with
            | vv :: vi :: va :: st, ⟨hrv, hri, hra, hst⟩ =>
            obtain ⟨y, rfl⟩ := q_int hri i2
            obtain ⟨b, rfl, hb⟩ := q_rfv hra i1
            rw [i3] at hb
            obtain ⟨q, cl, r', g1, g2, g3, g4, g5⟩ := q_cell hD h3 i4 i5 hb
            rw [i6] at g3
            cases g3
            obtain ⟨y', e, hy⟩ := q_iv h1 hri i7
            cases e
            have hvk : (r.1 = 0 ∧ ∃ z : Int32, vv = .int z) ∨ (r.1 = 1 ∧ ∃ z : Int64, vv = .long z) ∨ (r.1 = 2 ∧ ∃ z : Int32, vv = .int z ∧ qIn (-128, 127) z.toInt) ∨ (r.1 = 3 ∧ ∃ z : Int32, vv = .int z ∧ qIn (0, 1) z.toInt) := by
              have h9 := hkd.2
              unfold qpa at h9
              split at h9
              · rename_i e; exact .inl ⟨e, q_int hrv h9⟩
              · rename_i e; exact .inr (.inl ⟨e, q_lng hrv (by simpa using h9)⟩)
              · rename_i e
                split at h9
                · rename_i pp hpp
                  simp only [qle, Bool.and_eq_true, decide_eq_true_eq] at h9
                  obtain ⟨z, e1, hz1⟩ := q_iv h1 hrv hpp
                  exact .inr (.inr (.inl ⟨e, z, e1, Int.le_trans h9.1 hz1.1, Int.le_trans hz1.2 h9.2⟩))
                · cases h9
              · rename_i e
                split at h9
                · rename_i pp hpp
                  simp only [qle, Bool.and_eq_true, decide_eq_true_eq] at h9
                  obtain ⟨z, e1, hz1⟩ := q_iv h1 hrv hpp
                  exact .inr (.inr (.inr ⟨e, z, e1, Int.le_trans h9.1 hz1.1, Int.le_trans hz1.2 h9.2⟩))
                · cases h9
              · cases h9
            obtain ⟨c', d1, d2, d3⟩ := hd H locs ls st ws q b cl r y vv hw g2 g4 hkd.1 (Int.le_trans i8 hy.1) (Int.lt_of_le_of_lt hy.2 i9) hvk
            refine d3 (fun H1 locs1 hw1 => ?_)
            have hint : (∃ z, vv = .int z) ∨ qac (qtk D' N M v) r.2.2 pv.1.toNat pv.2.toNat = true ∨ pv.1 = pv.2 := by
              rcases hvk with ⟨_, z, e⟩ | ⟨e1, _⟩ | ⟨_, z, e, _⟩ | ⟨_, z, e, _⟩
              · exact .inl ⟨z, e⟩
              · rw [e1] at hlong
                simp only [beq_self_eq_true, Bool.true_and, Bool.and_eq_true, Bool.not_eq_true', decide_eq_false_iff_not, not_and, Bool.not_eq_false] at hlong
                by_cases e2 : pv.1 = pv.2
                · exact .inr (.inr e2)
                · exact .inr (.inl (hlong e2))
              · exact .inl ⟨z, e⟩
              · exact .inl ⟨z, e⟩
            obtain ⟨w1, w2, w3⟩ := q_wrA hD h1 h3 hw.2.1.1 hX h4 h5 hri hy i8 g1 i6 g2 hb hrv d1 d2 hint hz
            exact hG σ ρ lv st ls _ H1 locs1 hw1 hl ⟨h1, ⟨h2.1, hst⟩, w1, w2, w3, h6⟩
        · cases hs
      · cases hs
    · cases hs
  · cases hs
theorem q_sameI {γ : kΓ} {r : qRT} {f : Nat → Int32} {cA : ClassId} {n k : Nat} {z : Int32} (h : qsh γ r (.inl (cA, n, .inl f))) : qsame γ r (.inl (cA, n, .inl f)) (.inl (cA, n, .inl (upd f k z))) k k := by
  refine ⟨h, fun j hj => ?_⟩
  have hne : j ≠ k := by omega
  simp only [qrd, pk_un hne]
theorem q_sameL {γ : kΓ} {r : qRT} {f : Nat → Int64} {cA : ClassId} {n k : Nat} {z : Int64} (h : qsh γ r (.inl (cA, n, .inr (.inl f)))) : qsame γ r (.inl (cA, n, .inr (.inl f))) (.inl (cA, n, .inr (.inl (vp_updL f k z)))) k k := by
  refine ⟨h, fun j hj => ?_⟩
  have hne : j ≠ k := by omega
  simp only [qrd, pk_uLn hne]
theorem q_i2bid {z : Int32} (h : qIn (-128, 127) z.toInt) : z.toInt8.toInt32 = z := by
  apply Int32.toInt_inj.mp
  simp only [qIn] at h
  have e : z.toInt8.toInt32.toInt = z.toInt8.toInt := by simp
  rw [e, Int32.toInt_toInt8]
  exact Int.bmod_eq_of_le (by omega) (by omega)
theorem q_zid {z : Int32} (h : qIn (0, 1) z.toInt) : vp_nar .boolean z = z := by
  simp only [qIn] at h
  have : z = 0 ∨ z = 1 := by
    have h8 : z.toInt = 0 ∨ z.toInt = 1 := by omega
    rcases h8 with h8 | h8
    · exact .inl (Int32.toInt_inj.mp (by simpa using h8))
    · exact .inr (Int32.toInt_inj.mp (by simpa using h8))
  rcases this with rfl | rfl <;> rfl
theorem qs_iald {x : qCx} (hB : qB x) {D : qWd} (eD : qxD x = D) (hD : qD D) {S : AS} {pc : Nat} {L : qSu} (hs : qs_ald D 0 (fun k => k == 0) S pc = some L) (hdc : qdc x pc (.iaload, 1)) (h : qOk x L) : qG x S pc := by
  refine qs_aldG eD hD hs ?_ h
  obtain ⟨γ, p, l, e, R, s, m, args, below, meth, c, Q, ⟨cc, nL', own⟩, A, D', adr, X, ms', w0, σe⟩ := x
  intro H locs ls st ws q a c' r y v hw hc hsh hk h0 h1 hv hk9
  simp only [beq_iff_eq] at hk
  obtain ⟨f, rfl, -⟩ := q_arrI hsh (.inl hk)
  have hy := q_clamp h0
  simp only [qrd, if_pos (show y.toNatClampNeg < r.2.1 by omega), Option.some.injEq] at hv
  subst hv
  rw [hk] at hc
  exact k_iald hB hw q hc (vp_in_iff.mpr ⟨h0, h1⟩) hdc hk9
theorem qs_bald {x : qCx} (hB : qB x) {D : qWd} (eD : qxD x = D) (hD : qD D) {S : AS} {pc : Nat} {L : qSu} (hs : qs_ald D 0 (fun k => k == 2 || k == 3) S pc = some L) (hdc : qdc x pc (.baload, 1)) (h : qOk x L) : qG x S pc := by
  refine qs_aldG eD hD hs ?_ h
  obtain ⟨γ, p, l, e, R, s, m, args, below, meth, c, Q, ⟨cc, nL', own⟩, A, D', adr, X, ms', w0, σe⟩ := x
  intro H locs ls st ws q a c' r y v hw hc hsh hk h0 h1 hv hk9
  simp only [Bool.or_eq_true, beq_iff_eq] at hk
  obtain ⟨f, rfl, -⟩ := q_arrI hsh (.inr hk)
  have hy := q_clamp h0
  simp only [qrd, if_pos (show y.toNatClampNeg < r.2.1 by omega), Option.some.injEq] at hv
  subst hv
  rcases hk with hk | hk
  · rw [hk] at hc
    exact k_bald hB hw q hc (vp_in_iff.mpr ⟨h0, h1⟩) hdc hk9
  · rw [hk] at hc
    exact k_zald hB hw q hc (vp_in_iff.mpr ⟨h0, h1⟩) hdc hk9
theorem qs_lald {x : qCx} (hB : qB x) {D : qWd} (eD : qxD x = D) (hD : qD D) {S : AS} {pc : Nat} {L : qSu} (hs : qs_ald D 1 (fun k => k == 1) S pc = some L) (hdc : qdc x pc (.laload, 1)) (h : qOk x L) : qG x S pc := by
  refine qs_aldG eD hD hs ?_ h
  obtain ⟨γ, p, l, e, R, s, m, args, below, meth, c, Q, ⟨cc, nL', own⟩, A, D', adr, X, ms', w0, σe⟩ := x
  intro H locs ls st ws q a c' r y v hw hc hsh hk h0 h1 hv hk9
  simp only [beq_iff_eq] at hk
  obtain ⟨f, rfl, -⟩ := q_arrL hsh hk
  have hy := q_clamp h0
  simp only [qrd, if_pos (show y.toNatClampNeg < r.2.1 by omega), Option.some.injEq] at hv
  subst hv
  rw [hk] at hc
  exact k_lald hB hw q hc (vp_in_iff.mpr ⟨h0, h1⟩) hdc hk9
theorem qs_aald {x : qCx} (hB : qB x) {D : qWd} (eD : qxD x = D) (hD : qD D) {S : AS} {pc : Nat} {L : qSu} (hs : qs_ald D 2 (fun k => k == 4 || k == 5) S pc = some L) (hdc : qdc x pc (.aaload, 1)) (h : qOk x L) : qG x S pc := by
  refine qs_aldG eD hD hs ?_ h
  obtain ⟨γ, p, l, e, R, s, m, args, below, meth, c, Q, ⟨cc, nL', own⟩, A, D', adr, X, ms', w0, σe⟩ := x
  intro H locs ls st ws q a c' r y v hw hc hsh hk h0 h1 hv hk9
  simp only [Bool.or_eq_true, beq_iff_eq] at hk
  obtain ⟨f, rfl, -⟩ := q_arrR hsh hk
  have hy := q_clamp h0
  simp only [qrd, if_pos (show y.toNatClampNeg < r.2.1 by omega), Option.some.injEq] at hv
  subst hv
  rcases hk with hk | hk
  · rw [hk] at hc
    exact k_aldq hB hw q 4 hc rfl (vp_in_iff.mpr ⟨h0, h1⟩) rfl hdc hk9
  · rw [hk] at hc
    exact k_aldq hB hw q 5 hc rfl (vp_in_iff.mpr ⟨h0, h1⟩) rfl hdc hk9
theorem qs_iast {x : qCx} (hB : qB x) {D : qWd} (eD : qxD x = D) (hD : qD D) {ms : qMods} (ems : qxms x = ms) {xr : List Nat} (hX : qxok x xr) {S : AS} {pc : Nat} {L : qSu} (hs : qs_ast D ms xr (fun k => k == 0) S pc = some L) (hdc : qdc x pc (.iastore, 1)) (h : qOk x L) : qG x S pc := by
  refine qs_astG eD hD ems hX hs ?_ h
  obtain ⟨γ, p, l, e, R, s, m, args, below, meth, c, Q, ⟨cc, nL', own⟩, A, D', adr, X, ms', w0, σe⟩ := x
  intro H locs ls st ws q a c' r y v hw hc hsh hk h0 h1 hv
  simp only [beq_iff_eq] at hk
  obtain ⟨f, rfl, -⟩ := q_arrI hsh (.inl hk)
  have hy := q_clamp h0
  have hlt : y.toNatClampNeg < r.2.1 := by omega
  have hz : ∃ z : Int32, v = .int z := by
    rcases hv with ⟨_, h⟩ | ⟨h, _⟩ | ⟨_, z, h, _⟩ | ⟨_, z, h, _⟩
    · exact h
    · omega
    · exact ⟨z, h⟩
    · exact ⟨z, h⟩
  obtain ⟨z, rfl⟩ := hz
  refine ⟨_, q_sameI (z := z) hsh, by simp only [qrd, if_pos hlt, pk_us], fun hk9 => ?_⟩
  rw [hk] at hc hk9
  exact k_iast hB hw q hc (vp_in_iff.mpr ⟨h0, h1⟩) hdc hk9
theorem qs_bast {x : qCx} (hB : qB x) {D : qWd} (eD : qxD x = D) (hD : qD D) {ms : qMods} (ems : qxms x = ms) {xr : List Nat} (hX : qxok x xr) {S : AS} {pc : Nat} {L : qSu} (hs : qs_ast D ms xr (fun k => k == 2 || k == 3) S pc = some L) (hdc : qdc x pc (.bastore, 1)) (h : qOk x L) : qG x S pc := by
  refine qs_astG eD hD ems hX hs ?_ h
  obtain ⟨γ, p, l, e, R, s, m, args, below, meth, c, Q, ⟨cc, nL', own⟩, A, D', adr, X, ms', w0, σe⟩ := x
  intro H locs ls st ws q a c' r y v hw hc hsh hk h0 h1 hv
  simp only [Bool.or_eq_true, beq_iff_eq] at hk
  obtain ⟨f, rfl, -⟩ := q_arrI hsh (.inr hk)
  have hy := q_clamp h0
  have hlt : y.toNatClampNeg < r.2.1 := by omega
  rcases hv with ⟨h, _⟩ | ⟨h, _⟩ | ⟨h, z, rfl, hz⟩ | ⟨h, z, rfl, hz⟩
  · omega
  · omega
  · refine ⟨_, q_sameI (z := z) hsh, by simp only [qrd, if_pos hlt, pk_us], fun hk9 => ?_⟩
    rw [h] at hc hk9
    have hk8 := k_bast (p := p) (l := l) (e := e) (R := R) (below := below) (meth := meth) (Q := Q) (ls := ls) (rest := st) (cells := 0) (slots := 0) (x := z) hB hw q hc (vp_in_iff.mpr ⟨h0, h1⟩) hdc
    rw [vp_nar_byte, q_i2bid hz] at hk8
    exact hk8 hk9
  · refine ⟨_, q_sameI (z := z) hsh, by simp only [qrd, if_pos hlt, pk_us], fun hk9 => ?_⟩
    rw [h] at hc hk9
    have hk8 := k_zast (p := p) (l := l) (e := e) (R := R) (below := below) (meth := meth) (Q := Q) (ls := ls) (rest := st) (cells := 0) (slots := 0) (x := z) hB hw q hc (vp_in_iff.mpr ⟨h0, h1⟩) hdc
    rw [q_zid hz] at hk8
    exact hk8 hk9
theorem qs_last {x : qCx} (hB : qB x) {D : qWd} (eD : qxD x = D) (hD : qD D) {ms : qMods} (ems : qxms x = ms) {xr : List Nat} (hX : qxok x xr) {S : AS} {pc : Nat} {L : qSu} (hs : qs_ast D ms xr (fun k => k == 1) S pc = some L) (hdc : qdc x pc (.lastore, 1)) (h : qOk x L) : qG x S pc := by
  refine qs_astG eD hD ems hX hs ?_ h
  obtain ⟨γ, p, l, e, R, s, m, args, below, meth, c, Q, ⟨cc, nL', own⟩, A, D', adr, X, ms', w0, σe⟩ := x
  intro H locs ls st ws q a c' r y v hw hc hsh hk h0 h1 hv
  simp only [beq_iff_eq] at hk
  obtain ⟨f, rfl, -⟩ := q_arrL hsh hk
  have hy := q_clamp h0
  have hlt : y.toNatClampNeg < r.2.1 := by omega
  have hz : ∃ z : Int64, v = .long z := by
    rcases hv with ⟨h, _⟩ | ⟨_, h⟩ | ⟨h, _⟩ | ⟨h, _⟩
    · omega
    · exact h
    · omega
    · omega
  obtain ⟨z, rfl⟩ := hz
  refine ⟨_, q_sameL (z := z) hsh, by simp only [qrd, if_pos hlt, pk_uLs], fun hk9 => ?_⟩
  rw [hk] at hc hk9
  exact k_last hB hw q hc (vp_in_iff.mpr ⟨h0, h1⟩) hdc hk9
end
section
/-! differences, ranks -/
def qvl (σ : qσ) (a : AV) : Option Int := if a.1 = 0 then (σ a.2.1).map (fun y => y + a.2.2) else if a.1 = 1 then some a.2.2 else none
theorem q_vl {σ : qσ} {ρ : qρ} {a : AV} {x : Int32} (h : qR σ ρ a (.int x)) : qvl σ a = some x.toInt := by
  unfold qvl
  rcases h with ⟨t, x', y, e, hs, hx⟩ | ⟨t, x', e, hx⟩ | ⟨t, x', e, hs⟩ | ⟨t, n, e, hs⟩
  · cases e; rw [t, hs]; simp [hx]
  · cases e; rw [t]; simp [hx]
  · cases e
  · cases e
theorem q_ivV {D : qWd} {σ : qσ} {N : qN} (h : qsN D σ N) {a : AV} {x : Int} (hv : qvl σ a = some x) {p : qIv} (hp : qiv N a = some p) : qIn p x := by
  unfold qvl at hv
  unfold qiv at hp
  by_cases h0 : a.1 = 0
  · rw [if_pos h0, Option.map_eq_some_iff] at hv hp
    obtain ⟨y, hy, rfl⟩ := hv
    obtain ⟨q, hq, rfl⟩ := hp
    obtain ⟨z, h3, h4⟩ := h.2.1 _ _ hq
    rw [hy] at h3
    cases h3
    simp only [qIn] at *; omega
  · rw [if_neg h0] at hv hp
    by_cases h1 : a.1 = 1
    · rw [if_pos h1] at hv hp
      cases hv; cases hp
      simp only [qIn]; omega
    · rw [if_neg h1] at hv; cases hv
def qge : Nat → qN → AV → AV → Int → Bool
  | 0, N, a, b, d => (a.1 == 0 && b.1 == 0 && a.2.1 == b.2.1 && qle (b.2.2 + d) a.2.2) || (match qiv N a, qiv N b with
    | some p, some q => qle (q.2 + d) p.1
    | _, _ => false)
  | f + 1, N, a, b, d => (a.1 == 0 && b.1 == 0 && a.2.1 == b.2.1 && qle (b.2.2 + d) a.2.2) || (match qiv N a, qiv N b with
    | some p, some q => qle (q.2 + d) p.1
    | _, _ => false) || (a.1 == 0 && N.2.1.any (fun r => r.1 == a.2.1 && qge f N (0, r.2.1, r.2.2 + a.2.2) b d))
theorem q_ge0 {D : qWd} {σ : qσ} {N : qN} (h : qsN D σ N) {a b : AV} {d x y : Int} (ha : qvl σ a = some x) (hb : qvl σ b = some y) (hc : ((a.1 == 0 && b.1 == 0 && a.2.1 == b.2.1 && qle (b.2.2 + d) a.2.2) || (match qiv N a, qiv N b with
    | some p, some q => qle (q.2 + d) p.1
    | _, _ => false)) = true) : y + d ≤ x := by
  simp only [Bool.or_eq_true] at hc
  rcases hc with hc | hc
  · simp only [Bool.and_eq_true, beq_iff_eq, qle, decide_eq_true_eq] at hc
    obtain ⟨⟨⟨h1, h2⟩, h3⟩, h4⟩ := hc
    unfold qvl at ha hb
    rw [if_pos h1, Option.map_eq_some_iff] at ha
    rw [if_pos h2, Option.map_eq_some_iff] at hb
    obtain ⟨u, hu, rfl⟩ := ha
    obtain ⟨w, hw, rfl⟩ := hb
    rw [h3, hw] at hu
    cases hu
    omega
  · split at hc
    · rename_i p q hp hq
      simp only [qle, decide_eq_true_eq] at hc
      have h1 := (q_ivV h ha hp).1
      have h2 := (q_ivV h hb hq).2
      omega
    · cases hc
theorem q_ge {D : qWd} {σ : qσ} {N : qN} (h : qsN D σ N) : ∀ (f : Nat) {a b : AV} {d x y : Int}, qvl σ a = some x → qvl σ b = some y → qge f N a b d = true → y + d ≤ x
  | 0, a, b, d, x, y, ha, hb, hc => q_ge0 h ha hb hc
  | f + 1, a, b, d, x, y, ha, hb, hc => by
    unfold qge at hc
    rw [Bool.or_eq_true] at hc
    rcases hc with hc | hc
    · exact q_ge0 h ha hb hc
    · simp only [Bool.and_eq_true, beq_iff_eq, List.any_eq_true] at hc
      obtain ⟨h1, ⟨u, w, e⟩, hr, h2, h3⟩ := hc
      simp only at h2 h3
      obtain ⟨xu, xw, g1, g2, g3⟩ := h.2.2.1 u w e hr
      have ha' := ha
      unfold qvl at ha'
      rw [if_pos h1, Option.map_eq_some_iff] at ha'
      obtain ⟨z, hz, rfl⟩ := ha'
      subst h2
      rw [hz] at g1
      cases g1
      have := q_ge h f (a := (0, w, e + a.2.2)) (b := b) (d := d) (x := xw + (e + a.2.2)) (y := y) (by unfold qvl; simp [g2]) hb h3
      omega
/-- linear forms -/
abbrev qLin : Type := Int × List (Int × Nat)
def qlv1 (σ : qσ) (L : List (Int × Nat)) : Option Int :=
  match L with
  | [] => some 0
  | (c, v) :: r => (match σ v, qlv1 σ r with
    | some x, some y => some (c * x + y)
    | _, _ => none)
def qput (c : Int) (v : Nat) : List (Int × Nat) → List (Int × Nat)
  | [] => [(c, v)]
  | (c', v') :: r => if v' = v then (c' + c, v) :: r else (c', v') :: qput c v r
theorem q_put {σ : qσ} {c : Int} {v : Nat} {x : Int} (hx : σ v = some x) : ∀ {L : List (Int × Nat)} {y : Int}, qlv1 σ L = some y → qlv1 σ (qput c v L) = some (c * x + y)
  | [], y, h => by
    simp only [qlv1, Option.some.injEq] at h
    subst h
    simp [qput, qlv1, hx]
  | (c', v') :: r, y, h => by
    unfold qlv1 at h
    split at h
    · rename_i a b ha hb
      cases h
      unfold qput
      by_cases e : v' = v
      · rw [if_pos e]
        subst e
        rw [hx] at ha
        cases ha
        unfold qlv1
        rw [hx, hb]
        simp only [Option.some.injEq]
        rw [Int.add_mul]; omega
      · rw [if_neg e]
        unfold qlv1
        rw [ha, q_put hx hb]
        simp only [Option.some.injEq]
        omega
    · cases h
/-- an upper bound by the intervals -/
def qub (N : qN) : List (Int × Nat) → Option Int
  | [] => some 0
  | (c, v) :: r => (match N.1[v]?, qub N r with
    | some p, some y => some ((if qle 0 c then c * p.2 else c * p.1) + y)
    | _, _ => none)
theorem q_ub {D : qWd} {σ : qσ} {N : qN} (h : qsN D σ N) : ∀ {L : List (Int × Nat)} {y u : Int}, qlv1 σ L = some y → qub N L = some u → y ≤ u
  | [], y, u, h1, h2 => by
    simp only [qlv1, Option.some.injEq] at h1
    simp only [qub, Option.some.injEq] at h2
    omega
  | (c, v) :: r, y, u, h1, h2 => by
    unfold qlv1 at h1
    unfold qub at h2
    split at h1
    · rename_i a b ha hb
      cases h1
      split at h2
      · rename_i p w hp hw
        cases h2
        have ih := q_ub h hb hw
        obtain ⟨z, h3, h4⟩ := h.2.1 _ _ hp
        rw [ha] at h3
        cases h3
        simp only [qIn] at h4
        have : c * a ≤ (if qle 0 c then c * p.2 else c * p.1) := by
          by_cases hc : 0 ≤ c
          · simp only [qle, hc, decide_true, if_true]
            exact Int.mul_le_mul_of_nonneg_left h4.2 hc
          · simp only [qle, hc, decide_false, Bool.false_eq_true, if_false]
            exact Int.mul_le_mul_of_nonpos_left (by omega) h4.1
        omega
      · cases h2
    · cases h1
/-- a variable out of the form, by a difference -/
def qcoef (v : Nat) (L : List (Int × Nat)) : Int := match L.find? (fun q => q.2 == v) with
  | some q => q.1
  | none => 0
def qdrop (v : Nat) : List (Int × Nat) → List (Int × Nat)
  | [] => []
  | (c, w) :: r => if w = v then r else (c, w) :: qdrop v r
theorem q_drop {σ : qσ} {v : Nat} {x : Int} (hx : σ v = some x) : ∀ {L : List (Int × Nat)} {y : Int}, qlv1 σ L = some y → qlv1 σ (qdrop v L) = some (y - qcoef v L * x)
  | [], y, h => by
    simp only [qlv1, Option.some.injEq] at h
    subst h
    simp [qdrop, qcoef, qlv1]
  | (c, w) :: r, y, h => by
    unfold qlv1 at h
    split at h
    · rename_i a b ha hb
      cases h
      unfold qdrop qcoef
      by_cases e : w = v
      · rw [if_pos e]
        subst e
        rw [hx] at ha
        cases ha
        simp only [List.find?_cons, beq_self_eq_true]
        rw [hb]
        simp only [Option.some.injEq]; omega
      · rw [if_neg e]
        have hne : (w == v) = false := by simpa using e
        simp only [List.find?_cons, hne]
        have ih := q_drop hx hb
        unfold qcoef at ih
        unfold qlv1
        rw [ha, ih]
        simp only [Option.some.injEq]
        omega
    · cases h
def qelim : List (Nat × Nat × Int) → Nat → qLin → qLin
  | [], _, L => L
  | (a, b, d) :: r, n0, L => if Nat.ble n0 a && decide (qcoef a L.2 < 0) then qelim r n0 (L.1 + qcoef a L.2 * d, qput (qcoef a L.2) b (qdrop a L.2)) else qelim r n0 L
theorem q_elim {σ : qσ} {n0 : Nat} : ∀ {rl : List (Nat × Nat × Int)} (_ : ∀ a b d, (a, b, d) ∈ rl → ∃ x y, σ a = some x ∧ σ b = some y ∧ y + d ≤ x) {L : qLin} {y : Int}, qlv1 σ L.2 = some y → ∃ y', qlv1 σ (qelim rl n0 L).2 = some y' ∧ L.1 + y ≤ (qelim rl n0 L).1 + y'
  | [], _, L, y, h => ⟨y, h, Int.le_refl _⟩
  | (a, b, d) :: r, hr, L, y, h => by
    unfold qelim
    have hr' : ∀ a b d, (a, b, d) ∈ r → ∃ x y, σ a = some x ∧ σ b = some y ∧ y + d ≤ x := fun a b d hm => hr a b d (List.mem_cons_of_mem _ hm)
    split
    · rename_i hc
      simp only [Bool.and_eq_true, decide_eq_true_eq] at hc
      obtain ⟨x, z, h1, h2, h3⟩ := hr a b d List.mem_cons_self
      have e1 := q_drop h1 h
      have e2 := q_put (c := qcoef a L.2) h2 e1
      obtain ⟨y', g1, g2⟩ := q_elim (n0 := n0) hr' (L := (L.1 + qcoef a L.2 * d, qput (qcoef a L.2) b (qdrop a L.2))) e2
      refine ⟨y', g1, Int.le_trans ?_ g2⟩
      show L.1 + y ≤ L.1 + qcoef a L.2 * d + (qcoef a L.2 * z + (y - qcoef a L.2 * x))
      have : qcoef a L.2 * x ≤ qcoef a L.2 * (z + d) := Int.mul_le_mul_of_nonpos_left (by omega) (by omega)
      rw [Int.mul_add] at this
      omega
    · exact q_elim hr' h
end
section
/-! contracts, calls -/
abbrev qFa : Type := Nat × Nat × Int × Int
abbrev qAlt : Type := Option qTy × List qFa × List (Nat × Int × Int) × List (Nat × Nat × Int) × Option (Nat × Nat)
abbrev qCon : Type := (Nat × Nat × Nat) × List qTy × List qFa × List (Nat × Nat × Int) × List qAlt × qMods
def qval (ws : va_W) (f : qFa) : Option Int := match ws[f.1]? with
  | some c => (match qrd c.2 f.2.1 with
    | some (.int x) => some x.toInt
    | _ => none)
  | none => none
def qPre (D : qWd) (γ : kΓ) (X : va_W → Prop) (c : qCon) (adr : List Nat) (ws : va_W) (av : List Value) : Prop :=
  qH D γ adr (fun _ _ => False) ws ∧ X ws ∧ F2 (qvT D γ adr) c.2.1 av ∧ (∀ f ∈ c.2.2.1, ∃ x, qval ws f = some x ∧ qIn f.2.2 x) ∧
  (∀ r ∈ c.2.2.2.1, ∃ x y, (c.2.2.1[r.1]?).bind (qval ws) = some x ∧ (c.2.2.1[r.2.1]?).bind (qval ws) = some y ∧ y + r.2.2 ≤ x)
def qpv (pre facts : List qFa) (ws w1 : va_W) (av : List Value) (i : Nat) : Option Int := if i < pre.length then (pre[i]?).bind (qval ws) else if i < pre.length + facts.length then (facts[i - pre.length]?).bind (qval w1) else (match av[i - (pre.length + facts.length)]? with
  | some (.int x) => some x.toInt
  | _ => none)
def qalt (D : qWd) (γ : kΓ) (c : qCon) (adr : List Nat) (ws : va_W) (av : List Value) (r : Option Value) (w1 : va_W) (t : qAlt) : Prop :=
  (t.1 = none ∧ r = none ∨ ∃ ty v, t.1 = some ty ∧ r = some v ∧ qvT D γ adr ty v) ∧ (∀ f ∈ t.2.1, ∃ x, qval w1 f = some x ∧ qIn f.2.2 x) ∧ (∀ q ∈ t.2.2.1, ∃ x : Int32, av[q.1]? = some (.int x) ∧ qIn q.2 x.toInt) ∧
  (∀ q ∈ t.2.2.2.1, ∃ x y, qpv c.2.2.1 t.2.1 ws w1 av q.1 = some x ∧ qpv c.2.2.1 t.2.1 ws w1 av q.2.1 = some y ∧ y + q.2.2 ≤ x) ∧
  (∀ q, t.2.2.2.2 = some q → ∃ (a : Nat) (ce : va_E) (x y : Int32), w1[q.1]? = some (a, ce) ∧ av[q.2]? = some (.int x) ∧ 0 ≤ x.toInt ∧ r = some (.int y) ∧ qrd ce x.toNatClampNeg = some (.int y))
def qPost (D : qWd) (γ : kΓ) (X : va_W → Prop) (c : qCon) (adr : List Nat) (ws : va_W) (av : List Value) (r : Option Value) (w1 : va_W) : Prop :=
  qH D γ adr (fun _ _ => False) w1 ∧ X w1 ∧ qK D c.2.2.2.2.2 ws w1 ∧ ∃ t ∈ c.2.2.2.2.1, qalt D γ c adr ws av r w1 t
abbrev qMt : Type := MethodName × ByteArray × Nat × Option FieldType
def qSem (γ : kΓ) (l : Launch) (D : qWd) (X : va_W → Prop) (MT : List qMt) (c : qCon) : Prop :=
  ∃ y, MT[c.1.1]? = some y ∧ ∀ (adr : List Nat) (ws : va_W) (av : List Value), qPre D γ X c adr ws av → kM γ l y.1 y.2.1 y.2.2.1 y.2.2.2 { frames := c.1.2.1, cells := 0, slots := 0, locals := c.1.2.2 } av ws (qPost D γ X c adr ws av)
/-- a call's row: index, kind (0 virtual, 1 static, 2 virtual of a nest mate, 3 static of one), method, number of arguments, class of the receiver -/
abbrev qCl : Type := Nat × Nat × Nat × Nat × Nat
def qlk (own : String) (MT : List qMt) (k : qCl) : Prop := ∃ y, MT[k.2.2.1]? = some y ∧ Cond.initialized y.1.cls ∈ kG ∧ Cond.code y.1 y.2.1 y.2.2.1 y.2.2.2 ∈ kG ∧
  (y.1.cls ≠ "java/lang/invoke/MethodHandle" ∧ y.1.cls ≠ "java/lang/invoke/VarHandle" ∧ (parseMethodDescriptor y.1.desc).map (fun d => d.parameters.length) = some k.2.2.2.1) ∧
  ((k.2.1 = 0 ∧ Cond.methodLink own k.1 y.1 ∈ kG ∧ Cond.instanceMethod y.1 ∈ kG ∧ Cond.selects y.1.cls y.1 y.1 ∈ kG ∧ ∃ T N, vwCl[k.2.2.2.2]? = some (y.1.cls, T, N)) ∨
   (k.2.1 = 1 ∧ Cond.methodLink own k.1 y.1 ∈ kG ∧ Cond.static y.1 ∈ kG) ∨
   (k.2.1 = 2 ∧ (∃ host, Cond.methodLinkNest own k.1 y.1 host ∈ kN) ∧ Cond.instanceMethod y.1 ∈ kG ∧ Cond.selects y.1.cls y.1 y.1 ∈ kG ∧ ∃ T N, vwCl[k.2.2.2.2]? = some (y.1.cls, T, N)) ∨
   (k.2.1 = 3 ∧ (∃ host, Cond.methodLinkNest own k.1 y.1 host ∈ kN) ∧ Cond.static y.1 ∈ kG))
theorem q_nd : ∀ n : Nat, va_nd (List.range n) = true := by
  have key : ∀ l : List Nat, l.Nodup → va_nd l = true := by
    intro l
    induction l with
    | nil => intro _; rfl
    | cons a l ih =>
      intro h
      rw [List.nodup_cons] at h
      simp [va_nd, h.1, ih h.2]
  exact fun n => key _ List.nodup_range
theorem q_all (ws : va_W) : (List.range ws.length).map (fun i => ws[i]?) = ws.map some := by
  apply List.ext_getElem?
  intro i
  rw [List.getElem?_map, List.getElem?_map]
  by_cases h : i < ws.length
  · rw [List.getElem?_range h, List.getElem?_eq_getElem h]; simp [h]
  · rw [List.getElem?_eq_none (by simpa using h), List.getElem?_eq_none (by simpa using h)]; rfl
section QC
variable {γ : kΓ} {p : Program} {l : Launch} {e : Env} {R : Room} {s : State} {m : MethodId} {args : Array Value} {below : List Frame} {meth : Method} {c : Code} {H : Heap} {locs : List Loc} {Q : State → Prop}
variable {cc : ByteArray} {nL pc : Nat} {own : String} {A : Nat → Prop} {ws : va_W} {ls : Array Slot} {rest : List Value}
theorem k_callG (hC : kC γ p s m args c cc nL own A) (hw : kW γ A ws s H locs) {MT : List qMt} {k : qCl} (hk : qlk own MT k) {y : qMt} (hy : MT[k.2.2.1]? = some y) {fr lc : Nat} {av As : List Value} {post : Option Value → va_W → Prop} (hM : kM γ l y.1 y.2.1 y.2.2.1 y.2.2.2 { frames := fr, cells := 0, slots := 0, locals := lc } av ws post)
    (hR : fr + 1 ≤ R.frames ∧ 8 + (y.2.2.1 + 11) + lc ≤ R.locals) (hml : ls.size = nL) (hn : As.length = k.2.2.2.1) {st0 : List Value} (hW : (rest.map fun v => v.category).sum ≤ 8)
    (hst : ((k.2.1 = 0 ∨ k.2.1 = 2) ∧ ∃ (b q : Nat) (fs : List Value), av = .ref b :: As ∧ ws[q]? = some (b, .inr (k.2.2.2.2, fs)) ∧ st0 = As.reverse ++ .ref b :: rest) ∨ ((k.2.1 = 1 ∨ k.2.1 = 3) ∧ av = As ∧ st0 = As.reverse ++ rest))
    (hdg : ((k.2.1 = 0 ∨ k.2.1 = 2) ∧ decode cc pc = .ok (.invokevirtual k.1, 3)) ∨ ((k.2.1 = 1 ∨ k.2.1 = 3) ∧ decode cc pc = .ok (.invokestatic k.1, 3)))
    (kk : ∀ (r : Option Value) (w1 : va_W) (H1 : Heap) (locs1 : List Loc), post r w1 → kW γ A w1 s H1 locs1 → W p l e R s m args below meth c H1 locs1 0 0 Q (F0 m (pc + 3) ls (r.toList ++ rest))) : W p l e R s m args below meth c H locs 0 0 Q (F0 m pc ls st0) := by
  obtain ⟨y', hy', hz, hcode, hd, hkind⟩ := hk
  rw [hy] at hy'
  cases hy'
  have kk' : ∀ (r : Option Value) (w1 : va_W) (H1 : Heap) (locs1 : List Loc), post r w1 → kW γ A ([] ++ w1) s H1 locs1 → W p l e R s m args below meth c H1 locs1 (0 + 0) (0 + 0) Q (F0 m (pc + 3) ls (r.toList ++ rest)) := kk
  have e1 := q_all ws
  have e2 := q_nd ws.length
  rcases hkind with ⟨k0, h1, h2, h3, T, N, h4⟩ | ⟨k0, h1, h2⟩ | ⟨k0, ⟨host, h1⟩, h2, h3, T, N, h4⟩ | ⟨k0, ⟨host, h1⟩, h2⟩
  · rcases hst with ⟨-, b, q, fs, rfl, hb, rfl⟩ | ⟨k1, -⟩
    · rcases hdg with ⟨-, hdg⟩ | ⟨k1, -⟩
      · exact k_V (wr := []) k.2.2.2.1 h1 h2 h3 hz hcode hd hC hw hM hR ⟨Nat.zero_le _, Nat.zero_le _⟩ hml hn q hb h4 rfl hW (List.range ws.length) [] e2 e1 rfl rfl (fun _ h => by cases h) hdg kk'
      · omega
    · omega
  · rcases hst with ⟨k1, -⟩ | ⟨-, rfl, rfl⟩
    · omega
    · rcases hdg with ⟨k1, -⟩ | ⟨-, hdg⟩
      · omega
      · exact k_S (wr := []) k.2.2.2.1 h1 h2 hz hcode hd hC hw hM hR ⟨Nat.zero_le _, Nat.zero_le _⟩ hml hn rfl hW (List.range ws.length) [] e2 e1 rfl rfl (fun _ h => by cases h) hdg kk'
  · rcases hst with ⟨-, b, q, fs, rfl, hb, rfl⟩ | ⟨k1, -⟩
    · rcases hdg with ⟨-, hdg⟩ | ⟨k1, -⟩
      · exact k_VN (wr := []) k.2.2.2.1 h1 h2 h3 hz hcode hd hC hw hM hR ⟨Nat.zero_le _, Nat.zero_le _⟩ hml hn q hb h4 rfl hW (List.range ws.length) [] e2 e1 rfl rfl (fun _ h => by cases h) hdg kk'
      · omega
    · omega
  · rcases hst with ⟨k1, -⟩ | ⟨-, rfl, rfl⟩
    · omega
    · rcases hdg with ⟨k1, -⟩ | ⟨-, hdg⟩
      · omega
      · exact k_SN (wr := []) k.2.2.2.1 h1 h2 hz hcode hd hC hw hM hR ⟨Nat.zero_le _, Nat.zero_le _⟩ hml hn rfl hW (List.range ws.length) [] e2 e1 rfl rfl (fun _ h => by cases h) hdg kk'
end QC
end
section
/-! words, switches, array copies -/
section QWD
variable {γ : kΓ} {p : Program} {l : Launch} {e : Env} {R : Room} {s : State} {m : MethodId} {args : Array Value} {below : List Frame} {meth : Method} {c : Code} {H : Heap} {locs : List Loc} {cells slots : Nat} {Q : State → Prop}
variable {cc : ByteArray} {nL pc : Nat} {own : String} {A : Nat → Prop} {ws : va_W} {ls : Array Slot} {rest : List Value}
theorem k_zw (hC : kC γ p s m args c cc nL own A) : kZw γ A s s.heap := kZw.narrow hC.2.2.2.2.2.1.2.2.2.2.2 (fun q h => hC.2.2.2.2.2.2.2 q h)
theorem k_word (hC : kC γ p s m args c cc nL own A) (hw : kW γ A ws s H locs) {index n : Nat} (hn : n < 26) (hg : Cond.fieldLink own index RX10 (kWn.getD n "") "LTithedThoughts$Word;" ∈ kG) (hdg : decode cc pc = .ok (.getstatic index, 3))
    (kk : W p l e R s m args below meth c H locs cells slots Q (F0 m (pc + 3) ls (.ref (γ.2.2.2.2 n) :: rest))) : W p l e R s m args below meth c H locs cells slots Q (F0 m pc ls rest) :=
  va_gets hC.1 hC.2.1 ((k_zw hC).1 n hn).1 hw.2.2 hC.2.2.2.1 (hC.2.2.2.2.1 _ hg) (fun _ h => h) hdg kk
theorem k_wordN (hC : kC γ p s m args c cc nL own A) (hw : kW γ A ws s H locs) {index i : Nat} {n d host : String} {v : Nat → Value} (hE : va_Ef 26 RX10 n d v γ.2.2.2.2 A s s.heap) (hi : i < 26) (hl : Cond.fieldLinkNest own index RX10 n d host ∈ kN) (hdg : decode cc pc = .ok (.getfield index, 3))
    (kk : W p l e R s m args below meth c H locs cells slots Q (F0 m (pc + 3) ls (v i :: rest))) : W p l e R s m args below meth c H locs cells slots Q (F0 m pc ls (.ref (γ.2.2.2.2 i) :: rest)) := by
  obtain ⟨cf, k, fi, f, cell, h1, h2, h3, h4, h5, h6⟩ := (hE i hi).kept hw.2.2.2.1
  exact va_Wgetf hC.1 hC.2.1 hC.2.2.2.1 (va_Nw.use rfl (hC.2.2.2.2.2.1.2.1 _ hl)) h1 h2 h3 h4 (v := v i) h5 rfl rfl hdg kk
end QWD
def qs_gs (D : qWd) (sts : List Nat) (S : AS) (idx pc : Nat) : Option qSu :=
  if sts.contains idx then some [((S.1, (S.2.1.1, (3, D.2.2 + S.2.2.1.length, 0) :: S.2.1.2), (S.2.2.1 ++ [qWR], S.2.2.2)), pc + 3)] else none
def qstk (own : String) (i : Nat) : Prop := ∃ n, n < 26 ∧ Cond.fieldLink own i RX10 (kWn.getD n "") "LTithedThoughts$Word;" ∈ kG
theorem qs_gsG {x : qCx} (hB : qB x) {D : qWd} (eD : qxD x = D) {sts : List Nat} (hst : ∀ i ∈ sts, qstk (qxown x) i) {S : AS} {idx pc : Nat} {L : qSu} (hs : qs_gs D sts S idx pc = some L) (hdc : qdc x pc (.getstatic idx, 3)) (h : qOk x L) : qG x S pc := by
  obtain ⟨γ, p, l, e, R, s, m, args, below, meth, c, Q, ⟨cc, nL', own⟩, A, D', adr, X, ms', w0, σe⟩ := x
  simp only [qxD] at eD
  subst eD
  unfold qs_gs at hs
  split at hs
  · rename_i hc
    cases hs
    have hG := qOk1 h
    obtain ⟨n, hn, hg⟩ := hst idx (by simpa using hc)
    intro σ ρ lv st ls ws H locs hw hl hS
    obtain ⟨h1, h2, h3, h4, h5, h6⟩ := hS
    obtain ⟨ρ', s1, s2, s3⟩ := q_frR h3 (g := qWR) (a := qwad γ n) (.inl ⟨rfl, n, hn, rfl⟩)
    have hF := h2.mono (fun _ _ h => h) s1
    exact k_word hB hw hn hg hdc (hG σ ρ' lv (.ref (qwad γ n) :: st) ls ws H locs hw hl ⟨h1, ⟨hF.1, .inr (.inr (.inr ⟨rfl, _, rfl, s3⟩)), hF.2⟩, s2, h4, h5, h6⟩)
  · cases hs
/-- a word's own row: index, 0 mayName, 1 value -/
def qwfk (own : String) (f : Nat × Nat) : Prop := ∃ host, (f.2 = 0 ∧ Cond.fieldLinkNest own f.1 RX10 "mayName" "Z" host ∈ kN) ∨ (f.2 = 1 ∧ Cond.fieldLinkNest own f.1 RX10 "value" "I" host ∈ kN)
def qwiv (k : Nat) : qIv := if k = 0 then (0, 1) else (-7, 16)
def qs_getw (D : qWd) (wfs : List (Nat × Nat)) (S : AS) (idx pc : Nat) : Option qSu :=
  match S.2.1.2, wfs.find? (fun f => f.1 == idx) with
  | a :: stk, some f => if a.1 == 3 && qrg D S.2.2 a.2.1 == some qWR then some [(((qfr S.1 (qwiv f.2)).1, (S.2.1.1, (qfr S.1 (qwiv f.2)).2 :: stk), S.2.2), pc + 3)] else none
  | _, _ => none
theorem q_wm : ∀ n, n < 26 → qIn (0, 1) (kWm.getD n 0).toInt := by
  have : ∀ n, n < 26 → (decide (0 ≤ (kWm.getD n 0).toInt) && decide ((kWm.getD n 0).toInt ≤ 1)) = true := by decide +kernel
  intro n hn
  have h := this n hn
  simp only [Bool.and_eq_true, decide_eq_true_eq] at h
  exact h
theorem q_wv : ∀ n, n < 26 → qIn (-7, 16) (kWv.getD n 0).toInt := by
  have : ∀ n, n < 26 → (decide (-7 ≤ (kWv.getD n 0).toInt) && decide ((kWv.getD n 0).toInt ≤ 16)) = true := by decide +kernel
  intro n hn
  have h := this n hn
  simp only [Bool.and_eq_true, decide_eq_true_eq] at h
  exact h
theorem q_rgW {D : qWd} (hD : qD D) {γ : kΓ} {adr : List Nat} {σ : qσ} {ρ : qρ} {M : qM} {ws : va_W} (hH : qsM D γ adr σ ρ M ws) {n a : Nat} (hg : qrg D M n = some qWR) (ha : ρ n = some a) : ∃ i, i < 26 ∧ a = qwad γ i := by
  have := q_inR hD hH hg ha
  rcases this with ⟨-, h⟩ | ⟨q, h1, -⟩
  · exact h
  · exact absurd h1 (hD.2.2.2 q)
theorem qs_getwG {x : qCx} (hB : qB x) {D : qWd} (eD : qxD x = D) (hD : qD D) {wfs : List (Nat × Nat)} (hwf : ∀ f ∈ wfs, qwfk (qxown x) f) {S : AS} {idx pc : Nat} {L : qSu} (hs : qs_getw D wfs S idx pc = some L) (hdc : qdc x pc (.getfield idx, 3)) (h : qOk x L) : qG x S pc := by
  obtain ⟨γ, p, l, e, R, s, m, args, below, meth, c, Q, ⟨cc, nL', own⟩, A, D', adr, X, ms', w0, σe⟩ := x
  simp only [qxD] at eD
  subst eD
  obtain ⟨N, ⟨loc, stk⟩, M⟩ := S
  unfold qs_getw at hs
  split at hs
  · rename_i a stk' f heq hf
    simp only at heq
    subst heq
    split at hs
    · rename_i ha
      simp only [Bool.and_eq_true, beq_iff_eq] at ha
      cases hs
      have hG := qOk1 h
      obtain ⟨host, hk⟩ := hwf f (List.mem_of_find?_eq_some hf)
      have hfi := List.find?_some hf
      simp only [beq_iff_eq] at hfi
      intro σ ρ lv st ls ws H locs hw hl hS
      obtain ⟨h1, h2, h3, h4, h5, h6⟩ := hS
      match st, h2.2 with
      | v0 :: st, ⟨hra, hst⟩ =>
      obtain ⟨b, rfl, hb⟩ := q_rfv hra ha.1
      obtain ⟨i, hi, rfl⟩ := q_rgW hD h3 ha.2 hb
      have hz := k_zw hB
      have go : ∀ y : Int32, qIn (qwiv f.2) y.toInt → qWp (γ, p, l, e, R, s, m, args, below, meth, c, Q, (cc, nL', own), A, D', adr, X, ms', w0, σe) H locs (pc + 3) ls (.int y :: st) := by
        intro y hy
        obtain ⟨σ', s1, s2, s3⟩ := q_fr (ρ := ρ) h1 hy
        have hF := h2.mono s1 (fun _ _ h => h)
        exact hG σ' ρ lv (.int y :: st) ls ws H locs hw hl ⟨s2, ⟨hF.1, s3, hF.2.2⟩, h3.monoσ s1, h4, h5, fun v x hv => s1 v x (h6 v x hv)⟩
      rw [hfi] at hk
      rcases hk with ⟨k0, hk⟩ | ⟨k0, hk⟩
      · rw [k0] at go
        exact k_wordN hB hw hz.2.2.1 hi hk hdc (go _ (q_wm i hi))
      · rw [k0] at go
        exact k_wordN hB hw hz.2.2.2.1 hi hk hdc (go _ (q_wv i hi))
    · cases hs
  · cases hs
/-- switches -/
def qbr (S : AS) (a : AV) (stk : List AV) (pc : Nat) (iv : qIv) (off : Int) : qSu := (qnar S.1 a iv).toList.map (fun N => ((N, (S.2.1.1, stk), S.2.2), ((pc : Int) + off).toNat))
def qs_tsw (S : AS) (dflt lo hi : Int) (offs : List Int) (pc : Nat) : Option qSu :=
  match S.2.1.2 with
  | a :: stk => if qint a && (qiv S.1 a).isSome && qle 0 ((pc : Int) + dflt) && offs.all (fun o => qle 0 ((pc : Int) + o)) && decide ((offs.length : Int) = hi - lo + 1) then
      some (qbr S a stk pc (i32lo, lo - 1) dflt ++ (qbr S a stk pc (hi + 1, i32hi) dflt ++ (List.range offs.length).flatMap (fun j : Nat => qbr S a stk pc (lo + (j : Int), lo + (j : Int)) (offs.getD j 0)))) else none
  | _ => none
theorem q_br {x : qCx} {S : AS} {a : AV} {stk : List AV} {pc : Nat} {iv : qIv} {off : Int} {L : qSu} (hL : ∀ y ∈ qbr S a stk pc iv off, y ∈ L) (h : qOk x L) {σ : qσ} {ρ : qρ} {lv : List (Nat × Value)} {st st0 : List Value} {ls : Array Slot} {ws : va_W} {H : Heap} {locs : List Loc} (hw : qkW x ws H locs) (hl : qlv x ls lv)
    (hS : qS x S σ ρ lv st0 ws) (hst : F2 (qR σ ρ) stk st) {y : Int32} (ha : qR σ ρ a (.int y)) (hd : (qiv S.1 a).isSome = true) (hy : qIn iv y.toInt) : qWp x H locs ((pc : Int) + off).toNat ls st := by
  obtain ⟨γ, p, l, e, R, s, m, args, below, meth, c, Q, ⟨cc, nL', own⟩, A, D, adr, X, ms, w0, σe⟩ := x
  obtain ⟨N', e1, h1⟩ := q_nar hS.1 ha hy hd
  have hG := h ((N', (S.2.1.1, stk), S.2.2), ((pc : Int) + off).toNat) (hL _ (by unfold qbr; rw [e1]; simp))
  exact hG σ ρ lv st ls ws H locs hw hl ⟨h1, ⟨hS.2.1.1, hst⟩, hS.2.2⟩
theorem qs_tswG {x : qCx} (hB : qB x) {S : AS} {dflt lo hi : Int} {offs : Array Int} {len pc : Nat} {L : qSu} (hs : qs_tsw S dflt lo hi offs.toList pc = some L) (hdc : qdc x pc (.tableswitch dflt lo hi offs, len)) (h : qOk x L) : qG x S pc := by
  obtain ⟨γ, p, l, e, R, s, m, args, below, meth, c, Q, ⟨cc, nL', own⟩, A, D, adr, X, ms, w0, σe⟩ := x
  obtain ⟨N, ⟨loc, stk⟩, M⟩ := S
  unfold qs_tsw at hs
  split at hs
  · rename_i a stk' heq
    simp only at heq
    subst heq
    split at hs
    · rename_i hc
      simp only [Bool.and_eq_true, qle, decide_eq_true_eq, List.all_eq_true] at hc
      obtain ⟨⟨⟨⟨c1, c2⟩, c3⟩, c4⟩, c5⟩ := hc
      cases hs
      intro σ ρ lv st ls ws H locs hw hl hS
      have hS' := hS
      obtain ⟨h1, h2, h3, h4, h5, h6⟩ := hS
      match st, h2.2 with
      | v0 :: st, ⟨hra, hst⟩ =>
      obtain ⟨y, rfl⟩ := q_int hra c1
      have r := q_rng y
      by_cases b1 : y.toInt < lo
      · refine lv_tableOut hB.1 hB.2.1 hdc (.inl b1) (tgt := ((pc : Int) + dflt).toNat) (by omega) ?_
        exact q_br (fun z hz => List.mem_append_left _ hz) h hw hl hS' hst hra c2 ⟨r.1, by show _ ≤ lo - 1; omega⟩
      · by_cases b2 : hi < y.toInt
        · refine lv_tableOut hB.1 hB.2.1 hdc (.inr b2) (tgt := ((pc : Int) + dflt).toNat) (by omega) ?_
          exact q_br (fun z hz => List.mem_append_right _ (List.mem_append_left _ hz)) h hw hl hS' hst hra c2 ⟨by show hi + 1 ≤ _; omega, r.2⟩
        · have hj : (y.toInt - lo).toNat < offs.toList.length := by omega
          have he : offs.toList[(y.toInt - lo).toNat]? = some (offs.toList.getD (y.toInt - lo).toNat 0) := by
            rw [List.getElem?_eq_getElem hj, List.getD_eq_getElem?_getD, List.getElem?_eq_getElem hj]; rfl
          have h0 := c4 _ (List.mem_of_getElem? he)
          refine lv_tableIn hB.1 hB.2.1 hdc b1 b2 (off := offs.toList.getD (y.toInt - lo).toNat 0) (by rw [← he]; simp) (tgt := ((pc : Int) + offs.toList.getD (y.toInt - lo).toNat 0).toNat) (by omega) ?_
          refine q_br (iv := (lo + ((y.toInt - lo).toNat : Int), lo + ((y.toInt - lo).toNat : Int))) (fun z hz => List.mem_append_right _ (List.mem_append_right _ (List.mem_flatMap.mpr ⟨(y.toInt - lo).toNat, List.mem_range.mpr hj, hz⟩))) h hw hl hS' hst hra c2 ?_
          simp only [qIn]; omega
    · cases hs
  · cases hs
def qs_lsw (S : AS) (dflt : Int) (ps : List (Int × Int)) (pc : Nat) : Option qSu :=
  match S.2.1.2 with
  | a :: stk => if qint a && (qiv S.1 a).isSome && qle 0 ((pc : Int) + dflt) && ps.all (fun o => qle 0 ((pc : Int) + o.2)) && (ps.zip (ps.drop 1)).all (fun (a, next) => a.1 < next.1) then
      some (qbr S a stk pc (i32lo, i32hi) dflt ++ ps.flatMap (fun o => qbr S a stk pc (o.1, o.1) o.2)) else none
  | _ => none
theorem q_lsw (d k : Int) : ∀ ps : List (Int × Int), Op.lookupswitch.offset ps d k = d ∨ ∃ o, (k, o) ∈ ps ∧ Op.lookupswitch.offset ps d k = o
  | [] => .inl rfl
  | (a, o) :: r => by
    rw [Op.lookupswitch.offset_cons]
    by_cases h : a = k
    · rw [if_pos h]; exact .inr ⟨o, by rw [← h]; exact List.mem_cons_self, rfl⟩
    · rw [if_neg h]
      rcases q_lsw d k r with h1 | ⟨o', h1, h2⟩
      · exact .inl h1
      · exact .inr ⟨o', List.mem_cons_of_mem _ h1, h2⟩
theorem qs_lswG {x : qCx} (hB : qB x) {S : AS} {dflt : Int} {ps : Array (Int × Int)} {len pc : Nat} {L : qSu} (hs : qs_lsw S dflt ps.toList pc = some L) (hdc : qdc x pc (.lookupswitch dflt ps, len)) (h : qOk x L) : qG x S pc := by
  obtain ⟨γ, p, l, e, R, s, m, args, below, meth, c, Q, ⟨cc, nL', own⟩, A, D, adr, X, ms, w0, σe⟩ := x
  obtain ⟨N, ⟨loc, stk⟩, M⟩ := S
  unfold qs_lsw at hs
  split at hs
  · rename_i a stk' heq
    simp only at heq
    subst heq
    split at hs
    · rename_i hc
      rw [Bool.and_eq_true] at hc
      obtain ⟨hc, c5⟩ := hc
      simp only [Bool.and_eq_true, qle, decide_eq_true_eq, List.all_eq_true] at hc
      obtain ⟨⟨⟨c1, c2⟩, c3⟩, c4⟩ := hc
      cases hs
      intro σ ρ lv st ls ws H locs hw hl hS
      have hS' := hS
      obtain ⟨h1, h2, h3, h4, h5, h6⟩ := hS
      match st, h2.2 with
      | v0 :: st, ⟨hra, hst⟩ =>
      obtain ⟨y, rfl⟩ := q_int hra c1
      rcases q_lsw dflt y.toInt ps.toList with ho | ⟨o, ho1, ho⟩
      · refine lv_lookup hB.1 hB.2.1 hdc c5 ho (tgt := ((pc : Int) + dflt).toNat) (by omega) ?_
        exact q_br (fun z hz => List.mem_append_left _ hz) h hw hl hS' hst hra c2 (q_rng y)
      · have h0 := c4 _ ho1
        simp only at h0
        refine lv_lookup hB.1 hB.2.1 hdc c5 ho (tgt := ((pc : Int) + o).toNat) (by omega) ?_
        refine q_br (iv := (y.toInt, y.toInt)) (fun z hz => List.mem_append_right _ (List.mem_flatMap.mpr ⟨_, ho1, hz⟩)) h hw hl hS' hst hra c2 ?_
        simp only [qIn]; omega
    · cases hs
  · cases hs
end
section
/-! array copies; exempt slots that are in order again -/
def qlit (N : qN) (a : AV) : Option Int := match qiv N a with
  | some p => if p.1 = p.2 then some p.1 else none
  | none => none
theorem q_lit {D : qWd} {σ : qσ} {ρ : qρ} {N : qN} (h : qsN D σ N) {a : AV} {v : Value} (hr : qR σ ρ a v) {n : Int} (hi : qlit N a = some n) : ∃ x : Int32, v = .int x ∧ x.toInt = n := by
  unfold qlit at hi
  split at hi
  · rename_i p hp
    split at hi
    · rename_i he
      cases hi
      obtain ⟨x, e, h1, h2⟩ := q_iv h hr hp
      exact ⟨x, e, by omega⟩
    · cases hi
  · cases hi
def qsubU (k : Nat) (t0 t : qTy) : Bool := t0.1 == k && t.1 == k && qle t.2.1 t0.2.1 && qle t0.2.2 t.2.2
def qwt (stk : List AV) : Nat := match stk with
  | [] => 0
  | a :: r => (if a.1 = 2 then 2 else 1) + qwt r
theorem q_wt {σ : qσ} {ρ : qρ} : ∀ {stk : List AV} {st : List Value}, F2 (qR σ ρ) stk st → (st.map fun v => v.category).sum = qwt stk
  | [], [], _ => rfl
  | a :: stk, v :: st, ⟨h1, h2⟩ => by
    simp only [List.map_cons, List.sum_cons, qwt]
    rw [q_wt h2, h1.cat.2]
/-- fr, lc: the room -/
def qs_cpy (D : qWd) (ms : qMods) (xr : List Nat) (cps : List Nat) (fr lc : Nat) (S : AS) (idx pc : Nat) : Option qSu :=
  match S.2.1.2 with
  | n :: dp :: b :: sp :: a :: stk => if cps.contains idx && a.1 == 3 && b.1 == 3 && Nat.ble 1 fr && Nat.ble (qwt stk + (nativeFrameWords "java/lang/System" "arraycopy" 5 + 11)) lc && S.2.2.2.2.isEmpty then
      (match qrg D S.2.2 a.2.1, qrg D S.2.2 b.2.1, qlit S.1 sp, qlit S.1 dp, qiv S.1 n with
      | some ga, some gb, some s0, some d0, some p => if ga == qWR || gb == qWR then none else (match D.2.1[ga]?, D.2.1[gb]? with
        | some ra, some rb => if Nat.ble ra.1 1 && ra.1 == rb.1 && qle 0 s0 && qle 0 d0 && qle 0 p.1 && qle 1 p.2 && qle (s0 + p.2) ra.2.1 && qle (d0 + p.2) rb.2.1 &&
            ms.any (fun m => m.1 == gb && Nat.ble m.2.1 d0.toNat && Nat.ble (d0 + p.2 - 1).toNat m.2.2) && !(xr.contains gb) && (List.range p.2.toNat).all (fun k => qsubU ra.1 (qsg ra.2.2 (s0.toNat + k)) (qsg rb.2.2 (d0.toNat + k))) then
              some [((S.1, (S.2.1.1, stk), qcl D S.2.2 gb d0.toNat (d0 + p.2 - 1).toNat), pc + 3)] else none
        | _, _ => none)
      | _, _, _, _, _ => none) else none
  | _ => none
theorem qs_cpyG {x : qCx} (hB : qB x) {D : qWd} (eD : qxD x = D) (hD : qD D) {ms : qMods} (ems : qxms x = ms) {xr : List Nat} (hX : qxok x xr) {cps : List Nat} (hcp : ∀ i ∈ cps, Cond.methodLink (qxown x) i arraycopyName ∈ kG) {fr lc : Nat} (hR : fr ≤ x.2.2.2.2.1.frames ∧ lc ≤ x.2.2.2.2.1.locals)
    {S : AS} {idx pc : Nat} {L : qSu} (hs : qs_cpy D ms xr cps fr lc S idx pc = some L) (hdc : qdc x pc (.invokestatic idx, 3)) (h : qOk x L) : qG x S pc := by
  obtain ⟨γ, p, l, e, R, s, m, args, below, meth, c, Q, ⟨cc, nL', own⟩, A, D', adr, X, ms', w0, σe⟩ := x
  simp only [qxD] at eD
  simp only [qxms] at ems
  subst eD
  subst ems
  obtain ⟨N, ⟨loc, stk⟩, M⟩ := S
  unfold qs_cpy at hs
  split at hs
  · rename_i n dp b sp a stk' heq
    simp only at heq
    subst heq
    split at hs
    · rename_i hc
      simp only [Bool.and_eq_true, beq_iff_eq, Nat.ble_eq] at hc
      obtain ⟨⟨⟨⟨⟨c1, c2⟩, c3⟩, c4⟩, c5⟩, c6⟩ := hc
      split at hs
      · rename_i ga gb s0 d0 pv hga hgb hs0 hd0 hpv
        split at hs
        · cases hs
        · rename_i hne
          simp only [Bool.or_eq_true, beq_iff_eq, not_or] at hne
          split at hs
          · rename_i ra rb hra hrb
            split at hs
            · rename_i hk
              simp only [Bool.and_eq_true, beq_iff_eq, Nat.ble_eq, qle, decide_eq_true_eq, List.all_eq_true, List.mem_range, Bool.not_eq_true'] at hk
              obtain ⟨⟨⟨⟨⟨⟨⟨⟨⟨⟨k1, k2⟩, k3⟩, k4⟩, k5⟩, k6⟩, k7⟩, k8⟩, k9⟩, k10⟩, k11⟩ := hk
              cases hs
              have hG := qOk1 h
              intro σ ρ lv st ls ws H locs hw hl hS
              obtain ⟨h1, h2, h3, h4, h5, h6⟩ := hS
              match st, h2.2 with
              | vn :: vd :: vb :: vs :: va :: st, ⟨rn, rd, rbb, rs, raa, hst⟩ =>
              obtain ⟨xa, rfl, ha⟩ := q_rfv raa c2
              obtain ⟨xb, rfl, hb⟩ := q_rfv rbb c3
              obtain ⟨xs, rfl, hxs⟩ := q_lit h1 rs hs0
              obtain ⟨xd, rfl, hxd⟩ := q_lit h1 rd hd0
              obtain ⟨xn, rfl, hxn⟩ := q_iv h1 rn hpv
              simp only [qIn] at hxn
              have es := q_clamp (i := xs) (by omega)
              have ed := q_clamp (i := xd) (by omega)
              have en := q_clamp (i := xn) (by omega)
              obtain ⟨qa, ca, ra', a1, a2, a3, a4, a5⟩ := q_cell hD h3 hga hne.1 ha
              rw [hra] at a3; cases a3
              obtain ⟨qb, cb, rb', b1, b2, b3, b4, b5⟩ := q_cell hD h3 hgb hne.2 hb
              rw [hrb] at b3; cases b3
              have n1 : ¬ xs < 0 := by rw [Int32.lt_iff_toInt_lt]; simp; omega
              have n2 : ¬ xd < 0 := by rw [Int32.lt_iff_toInt_lt]; simp; omega
              have n3 : ¬ xn < 0 := by rw [Int32.lt_iff_toInt_lt]; simp; omega
              have hex0 : M.2.2 = [] := by simpa using c6
              have hnoex : ∀ a k, ¬ qexA ρ M.2.2 a k := by
                rintro a' k' ⟨n', z1, -⟩
                rw [hex0] at z1; cases z1
              have hsum : (st.map fun v => v.category).sum + (nativeFrameWords "java/lang/System" "arraycopy" 5 + 11) ≤ R.locals := by
                rw [q_wt hst]
                exact Nat.le_trans c5 hR.2
              have hfr : 1 ≤ R.frames := Nat.le_trans c4 hR.1
              have hlnk : Cond.methodLink own idx arraycopyName ∈ kG := hcp idx (by simpa using c1)
              have ei1 : d0.toNat = xd.toNatClampNeg := by omega
              have ei2 : xd.toNatClampNeg + xn.toNatClampNeg ≤ (d0 + pv.2 - 1).toNat + 1 := by omega
              have hX' : ∀ c', X (ws.set qb (xb, c')) := fun c' => hX ws qb gb xb c' b1 (by simpa using k10) h3.2.2.2.2.1 (q_adr2 h3 b2) h4
              have fin : ∀ c', qsame γ rb cb c' d0.toNat (d0 + pv.2 - 1).toNat → (∀ k, k < rb.2.1 → d0.toNat ≤ k → k ≤ (d0 + pv.2 - 1).toNat → ∃ v, qrd c' k = some v ∧ qvT D' γ adr (qsg rb.2.2 k) v) → ∀ (H1 : Heap) (locs1 : List Loc), kW γ A (ws.set qb (xb, c')) s H1 locs1 → qWp (γ, p, l, e, R, s, m, args, below, meth, c, Q, (cc, nL', own), A, D', adr, X, ms', w0, σe) H1 locs1 (pc + 3) ls st := by
                intro c' hsm hty H1 locs1 hw1
                have hM := q_wr hD h3 hw.2.1.1 b1 hrb b2 hsm (ex' := M.2.2) (fun a' k' h _ => h) (fun k hk e1 e2 => .inr (hty k hk e1 e2))
                exact hG σ ρ lv st ls _ H1 locs1 hw1 hl ⟨h1, ⟨h2.1, hst⟩, hM, hX' c', q_keep h5 b1 b2 hsm.2 k9, h6⟩
              by_cases t0 : ra.1 = 0
              · obtain ⟨f, rfl, -⟩ := q_arrI a4 (.inl t0)
                obtain ⟨g, rfl, hlen⟩ := q_arrI b4 (.inl (k2 ▸ t0))
                rw [t0] at a2
                rw [← k2, t0] at b2
                refine k_copyi hB hw hlnk hl.1 qa qb a2 b2 n1 n2 n3 (by omega) (by omega) hfr hsum hdc ?_
                refine fin _ ⟨⟨by rw [← k2, t0], rfl, hlen, .inl (by rw [← k2, t0])⟩, fun k hk => ?_⟩ (fun k hk e1 e2 => ?_)
                · have hn : ¬ (xd.toNatClampNeg ≤ k ∧ k < xd.toNatClampNeg + xn.toNatClampNeg) := by omega
                  simp only [qrd, va_cpy, if_neg hn]
                · simp only [qrd, va_cpy]
                  rw [if_pos hk]
                  by_cases hin : xd.toNatClampNeg ≤ k ∧ k < xd.toNatClampNeg + xn.toNatClampNeg
                  · rw [if_pos hin]
                    rcases a5 (xs.toNatClampNeg + (k - xd.toNatClampNeg)) (by omega) with z | ⟨v, v1, v2⟩
                    · exact absurd z (hnoex _ _)
                    · have hsu := k11 (k - xd.toNatClampNeg) (by omega)
                      rw [show s0.toNat + (k - xd.toNatClampNeg) = xs.toNatClampNeg + (k - xd.toNatClampNeg) by omega, show d0.toNat + (k - xd.toNatClampNeg) = k by omega] at hsu
                      unfold qsubU at hsu
                      simp only [Bool.and_eq_true, beq_iff_eq, qle, decide_eq_true_eq] at hsu
                      obtain ⟨⟨⟨u1, u2⟩, u3⟩, u4⟩ := hsu
                      simp only [qrd] at v1
                      rw [if_pos (by omega)] at v1
                      cases v1
                      obtain ⟨y, ey, hy⟩ := v2.1 (u1.trans t0)
                      cases ey
                      refine ⟨_, rfl, fun _ => ⟨_, rfl, Int.le_trans u3 hy.1, Int.le_trans hy.2 u4⟩, fun z => ?_, fun z => ?_⟩
                      · rw [u2, t0] at z; cases z
                      · rw [u2, t0] at z; cases z
                  · rw [if_neg hin]
                    rcases b5 k hk with z | ⟨v, v1, v2⟩
                    · exact absurd z (hnoex _ _)
                    · simp only [qrd] at v1
                      rw [if_pos hk] at v1
                      exact ⟨v, v1, v2⟩
              · have t1 : ra.1 = 1 := by omega
                obtain ⟨f, rfl, -⟩ := q_arrL a4 t1
                obtain ⟨g, rfl, hlen⟩ := q_arrL b4 (k2 ▸ t1)
                rw [t1] at a2
                rw [← k2, t1] at b2
                refine k_copyl hB hw hlnk hl.1 qa qb a2 b2 n1 n2 n3 (by omega) (by omega) hfr hsum hdc ?_
                refine fin _ ⟨⟨by rw [← k2, t1], rfl, hlen, by rw [← k2, t1]⟩, fun k hk => ?_⟩ (fun k hk e1 e2 => ?_)
                · have hn : ¬ (xd.toNatClampNeg ≤ k ∧ k < xd.toNatClampNeg + xn.toNatClampNeg) := by omega
                  simp only [qrd, va_cpy, if_neg hn]
                · simp only [qrd, va_cpy]
                  rw [if_pos hk]
                  by_cases hin : xd.toNatClampNeg ≤ k ∧ k < xd.toNatClampNeg + xn.toNatClampNeg
                  · rw [if_pos hin]
                    rcases a5 (xs.toNatClampNeg + (k - xd.toNatClampNeg)) (by omega) with z | ⟨v, v1, v2⟩
                    · exact absurd z (hnoex _ _)
                    · have hsu := k11 (k - xd.toNatClampNeg) (by omega)
                      rw [show s0.toNat + (k - xd.toNatClampNeg) = xs.toNatClampNeg + (k - xd.toNatClampNeg) by omega, show d0.toNat + (k - xd.toNatClampNeg) = k by omega] at hsu
                      unfold qsubU at hsu
                      simp only [Bool.and_eq_true, beq_iff_eq, qle, decide_eq_true_eq] at hsu
                      obtain ⟨⟨⟨u1, u2⟩, u3⟩, u4⟩ := hsu
                      simp only [qrd] at v1
                      rw [if_pos (by omega)] at v1
                      cases v1
                      obtain ⟨y, ey, hy⟩ := v2.2.1 (u1.trans t1)
                      cases ey
                      refine ⟨_, rfl, fun z => ?_, fun _ => ⟨_, rfl, Int.le_trans u3 hy.1, Int.le_trans hy.2 u4⟩, fun z => ?_⟩
                      · rw [u2, t1] at z; cases z
                      · rw [u2, t1] at z; cases z
                  · rw [if_neg hin]
                    rcases b5 k hk with z | ⟨v, v1, v2⟩
                    · exact absurd z (hnoex _ _)
                    · simp only [qrd] at v1
                      rw [if_pos hk] at v1
                      exact ⟨v, v1, v2⟩
            · cases hs
          · cases hs
      · cases hs
    · cases hs
  · cases hs
/-- exempt slots that hold again what their type says -/
def qclr (D : qWd) (N : qN) (M : qM) : qM := (M.1, M.2.1, M.2.2.filter (fun e => !(match qrg D M e.1 with
  | some g => !(g == qWR) && (match D.2.1[g]? with
    | some r => Nat.blt e.2 10000 && M.2.1.any (fun f => f.1 == e.1 && f.2.1 == e.2 && qtk D N M f.2.2 (qsg r.2.2 e.2))
    | none => false)
  | none => false)))
theorem q_clr {D : qWd} (hD : qD D) {γ : kΓ} {adr : List Nat} {σ : qσ} {ρ : qρ} {N : qN} {M : qM} {ws : va_W} (hN : qsN D σ N) (hH : qsM D γ adr σ ρ M ws) (hdis : ∀ (i j : Nat) (p q : Nat × va_E), ws[i]? = some p → ws[j]? = some q → p.1 = q.1 → i = j) : qsM D γ adr σ ρ (qclr D N M) ws := by
  refine ⟨hH.1, hH.2.1, hH.2.2.1, hH.2.2.2.1, hH.2.2.2.2.1, hH.2.2.2.2.2.1, fun q g a c hg hc => ?_⟩
  obtain ⟨r, r1, r2, r3⟩ := hH.2.2.2.2.2.2 q g a c hg hc
  refine ⟨r, r1, r2, fun k hk => ?_⟩
  rcases r3 k hk with ⟨n, n1, n2⟩ | h
  · by_cases hb : (match qrg D M n with
      | some g => !(g == qWR) && (match D.2.1[g]? with
        | some r => Nat.blt k 10000 && M.2.1.any (fun f => f.1 == n && f.2.1 == k && qtk D N M f.2.2 (qsg r.2.2 k))
        | none => false)
      | none => false) = true
    · right
      split at hb
      · rename_i g' hg'
        simp only [Bool.and_eq_true, Bool.not_eq_true', beq_eq_false_iff_ne, ne_eq] at hb
        obtain ⟨hb1, hb2⟩ := hb
        split at hb2
        · rename_i r' hr'
          rw [Bool.and_eq_true, Nat.blt_eq, List.any_eq_true] at hb2
          obtain ⟨hk10, ⟨n', k', av⟩, m1, m2⟩ := hb2
          simp only [Bool.and_eq_true, beq_iff_eq] at m2
          obtain ⟨⟨e1, e2⟩, m3⟩ := m2
          subst e1; subst e2
          obtain ⟨q', a', c', v, ix, g1, g2, g3, g4, g5⟩ := hH.2.2.2.1 _ _ _ m1
          have hix : ix = k' := by
            rcases g5 with ⟨-, h7⟩ | ⟨h7, -⟩
            · exact h7
            · omega
          subst hix
          rw [n2] at g2
          cases g2
          have := hdis q' q _ _ g1 hc rfl
          subst this
          rw [hc] at g1
          cases g1
          obtain ⟨q2, c2, r2', z1, z2, z3, -⟩ := q_cell hD hH hg' hb1 n2
          have := hdis q2 q' _ _ z2 hc rfl
          subst this
          rw [hg] at z1
          cases z1
          rw [hr'] at z3
          cases z3
          rw [r1] at hr'
          cases hr'
          exact ⟨v, g3, q_tk hD hN hH g4 m3⟩
        · cases hb2
      · cases hb
    · left
      refine ⟨n, ?_, n2⟩
      unfold qclr
      simp only [List.mem_filter]
      exact ⟨n1, by simpa using hb⟩
  · exact .inr h
/-- an array's length -/
def qs_len (D : qWd) (S : AS) (pc : Nat) : Option qSu :=
  match S.2.1.2 with
  | a :: stk => if a.1 == 3 then (match qrg D S.2.2 a.2.1 with
    | some g => if g == qWR then none else (match D.2.1[g]? with
      | some r => if Nat.blt r.1 4 then some [((S.1, (S.2.1.1, (1, 0, (r.2.1 : Int)) :: stk), S.2.2), pc + 1)] else none
      | none => none)
    | none => none) else none
  | _ => none
theorem qs_lenG {x : qCx} (hB : qB x) {D : qWd} (eD : qxD x = D) (hD : qD D) {S : AS} {pc : Nat} {L : qSu} (hs : qs_len D S pc = some L) (hdc : qdc x pc (.arraylength, 1)) (h : qOk x L) : qG x S pc := by
  obtain ⟨γ, p, l, e, R, s, m, args, below, meth, c, Q, ⟨cc, nL', own⟩, A, D', adr, X, ms', w0, σe⟩ := x
  simp only [qxD] at eD
  subst eD
  obtain ⟨N, ⟨loc, stk⟩, M⟩ := S
  unfold qs_len at hs
  split at hs
  · rename_i a stk' heq
    simp only at heq
    subst heq
    split at hs
    · rename_i ha
      simp only [beq_iff_eq] at ha
      split at hs
      · rename_i g hg
        split at hs
        · cases hs
        · rename_i hne
          split at hs
          · rename_i r hr
            split at hs
            · rename_i hk
              simp only [Nat.blt_eq] at hk
              cases hs
              have hG := qOk1 h
              intro σ ρ lv st ls ws H locs hw hl hS
              obtain ⟨h1, h2, h3, h4, h5, h6⟩ := hS
              match st, h2.2 with
              | v0 :: st, ⟨hra, hst⟩ =>
              obtain ⟨b, rfl, hb⟩ := q_rfv hra ha
              obtain ⟨q, cl, r', g1, g2, g3, g4, g5⟩ := q_cell hD h3 hg (by simpa using hne) hb
              rw [hr] at g3
              cases g3
              have key : ∀ (t0 : Nat) (y : vp_A) (ty : FieldType), cl = .inl (γ.2.1 t0, y) → y.1 = r.2.1 → r.2.1 < 2147483648 → (kT γ.2.1)[t0]? = some (γ.2.1 t0, ty) → qWp (γ, p, l, e, R, s, m, args, below, meth, c, Q, (cc, nL', own), A, D', adr, X, ms', w0, σe) H locs pc ls (.ref b :: st) := by
                intro t0 y ty hcl hy hlt hty
                subst hcl
                refine k_alen hB hw q t0 g2 hty rfl hdc ?_
                refine hG σ ρ lv _ ls ws H locs hw hl ⟨h1, ⟨h2.1, .inr (.inl ⟨rfl, _, rfl, ?_⟩), hst⟩, h3, h4, h5, h6⟩
                rw [hy]
                exact nI_toInt hlt
              by_cases e0 : r.1 = 1
              · obtain ⟨f, rfl, hlt⟩ := q_arrL g4 e0
                exact key 1 _ .long (by rw [e0]) rfl hlt rfl
              · obtain ⟨f, rfl, hlt⟩ := q_arrI g4 (by omega)
                have e3 : r.1 = 0 ∨ r.1 = 2 ∨ r.1 = 3 := by omega
                rcases e3 with e3 | e3 | e3
                · exact key 0 _ .int (by rw [e3]) rfl hlt rfl
                · exact key 2 _ .byte (by rw [e3]) rfl hlt rfl
                · exact key 3 _ .boolean (by rw [e3]) rfl hlt rfl
            · cases hs
          · cases hs
      · cases hs
    · cases hs
  · cases hs
/-- the greater and the less of two -/
theorem gw_mxc : Cond.code Lib.Math.max.name Lib.Math.max.code 2 (some .int) ∈ kG := kG_mk (by decide +kernel) (by decide +kernel)
theorem gw_mnc : Cond.code Lib.Math.min.name Lib.Math.min.code 2 (some .int) ∈ kG := kG_mk (by decide +kernel) (by decide +kernel)
theorem gw_mxs : Cond.static Lib.Math.max.name ∈ kG := kG_mk (by decide +kernel) (by decide +kernel)
theorem gw_mns : Cond.static Lib.Math.min.name ∈ kG := kG_mk (by decide +kernel) (by decide +kernel)
theorem gw_mmi : Cond.initialized "java/lang/Math" ∈ kG := kG_mk (by decide +kernel) (by decide +kernel)
def qmmk (own : String) (q : Nat × Bool) : Prop := (q.2 = true → Cond.methodLink own q.1 Lib.Math.max.name ∈ kG) ∧ (q.2 = false → Cond.methodLink own q.1 Lib.Math.min.name ∈ kG)
def qs_mm (mms : List (Nat × Bool)) (fr lc : Nat) (S : AS) (idx pc : Nat) : Option qSu :=
  match mms.find? (fun q => q.1 == idx), S.2.1.2 with
  | some q, b :: a :: stk => if qint a && qint b && Nat.ble 1 fr && Nat.ble (qwt stk + 13) lc then (match qiv S.1 a, qiv S.1 b with
    | some p, some r => some [(((qfr S.1 (if q.2 then (qmax p.1 r.1, qmax p.2 r.2) else (qmin p.1 r.1, qmin p.2 r.2))).1, (S.2.1.1, (qfr S.1 (if q.2 then (qmax p.1 r.1, qmax p.2 r.2) else (qmin p.1 r.1, qmin p.2 r.2))).2 :: stk), S.2.2), pc + 3)]
    | _, _ => none) else none
  | _, _ => none
theorem qs_mmG {x : qCx} (hB : qB x) {mms : List (Nat × Bool)} (hmm : ∀ q ∈ mms, qmmk (qxown x) q) {fr lc : Nat} (hR : fr ≤ x.2.2.2.2.1.frames ∧ lc ≤ x.2.2.2.2.1.locals) {S : AS} {idx pc : Nat} {L : qSu} (hs : qs_mm mms fr lc S idx pc = some L) (hdc : qdc x pc (.invokestatic idx, 3)) (h : qOk x L) : qG x S pc := by
  obtain ⟨γ, p, l, e, R, s, m, args, below, meth, c, Q, ⟨cc, nL', own⟩, A, D', adr, X, ms', w0, σe⟩ := x
  obtain ⟨N, ⟨loc, stk⟩, M⟩ := S
  unfold qs_mm at hs
  split at hs
  · rename_i q b a stk' hq heq
    simp only at heq
    subst heq
    split at hs
    · rename_i hc
      simp only [Bool.and_eq_true, Nat.ble_eq] at hc
      obtain ⟨⟨⟨c1, c2⟩, c3⟩, c4⟩ := hc
      split at hs
      · rename_i pa pb hpa hpb
        cases hs
        have hG := qOk1 h
        have hqi := List.find?_some hq
        simp only [beq_iff_eq] at hqi
        obtain ⟨k1, k2⟩ := hmm q (List.mem_of_find?_eq_some hq)
        rw [hqi] at k1 k2
        intro σ ρ lv st ls ws H locs hw hl hS
        obtain ⟨h1, h2, h3, h4, h5, h6⟩ := hS
        match st, h2.2 with
        | vb :: va :: st, ⟨hrb, hra, hst⟩ =>
        obtain ⟨xa, rfl, ia⟩ := q_iv h1 hra hpa
        obtain ⟨xb, rfl, ib⟩ := q_iv h1 hrb hpb
        simp only [qIn] at ia ib
        have hsum : (st.map fun v => v.category).sum + 13 ≤ R.locals := by
          rw [q_wt hst]
          exact Nat.le_trans c4 hR.2
        have hfr : 1 ≤ R.frames := Nat.le_trans c3 hR.1
        have go : ∀ y : Int32, qIn (if q.2 then (qmax pa.1 pb.1, qmax pa.2 pb.2) else (qmin pa.1 pb.1, qmin pa.2 pb.2)) y.toInt → qWp (γ, p, l, e, R, s, m, args, below, meth, c, Q, (cc, nL', own), A, D', adr, X, ms', w0, σe) H locs (pc + 3) ls (.int y :: st) := by
          intro y hy
          obtain ⟨σ', s1, s2, s3⟩ := q_fr (ρ := ρ) h1 hy
          have hF := h2.mono s1 (fun _ _ h => h)
          exact hG σ' ρ lv (.int y :: st) ls ws H locs hw hl ⟨s2, ⟨hF.1, s3, hF.2.2.2⟩, h3.monoσ s1, h4, h5, fun v x hv => s1 v x (h6 v x hv)⟩
        have hml : c.maxLocals = ls.size := hB.2.2.1.trans hl.1.symm
        cases hb2 : q.2 with
        | true =>
          refine va_mmax hB.1 hB.2.1 hml hB.2.2.2.1 (hB.2.2.2.2.1 _ (k1 hb2)) (hB.2.2.2.2.1 _ gw_mxs) (hB.2.2.2.2.1 _ gw_mmi) (hB.2.2.2.2.1 _ gw_mxc) hfr hsum (Nat.zero_le _) (Nat.zero_le _) hdc (go _ ?_)
          rw [hb2]
          by_cases hlt : xa < xb
          · have := Int32.lt_iff_toInt_lt.mp hlt
            rw [if_pos hlt]
            simp only [if_true, qIn, qmax]
            constructor <;> split <;> omega
          · have : ¬ xa.toInt < xb.toInt := fun h => hlt (Int32.lt_iff_toInt_lt.mpr h)
            rw [if_neg hlt]
            simp only [if_true, qIn, qmax]
            constructor <;> split <;> omega
        | false =>
          refine va_mmin hB.1 hB.2.1 hml hB.2.2.2.1 (hB.2.2.2.2.1 _ (k2 hb2)) (hB.2.2.2.2.1 _ gw_mns) (hB.2.2.2.2.1 _ gw_mmi) (hB.2.2.2.2.1 _ gw_mnc) hfr hsum (Nat.zero_le _) (Nat.zero_le _) hdc (go _ ?_)
          rw [hb2]
          by_cases hlt : xb < xa
          · have := Int32.lt_iff_toInt_lt.mp hlt
            rw [if_pos hlt]
            simp only [Bool.false_eq_true, if_false, qIn, qmin]
            constructor <;> split <;> omega
          · have : ¬ xb.toInt < xa.toInt := fun h => hlt (Int32.lt_iff_toInt_lt.mpr h)
            rw [if_neg hlt]
            simp only [Bool.false_eq_true, if_false, qIn, qmin]
            constructor <;> split <;> omega
      · cases hs
    · cases hs
  · cases hs
end
section
/-! arguments, facts, narrowing by numbers -/
theorem F2.append {α β : Type} {R : α → β → Prop} : ∀ {l : List α} {l' : List β} {k : List α} {k' : List β}, F2 R l l' → F2 R k k' → F2 R (l ++ k) (l' ++ k')
  | [], [], _, _, _, h => h
  | _ :: _, _ :: _, _, _, ⟨h1, h2⟩, h => ⟨h1, F2.append h2 h⟩
theorem F2.reverse {α β : Type} {R : α → β → Prop} : ∀ {l : List α} {l' : List β}, F2 R l l' → F2 R l.reverse l'.reverse
  | [], [], _ => trivial
  | _ :: _, _ :: _, ⟨h1, h2⟩ => by
    rw [List.reverse_cons, List.reverse_cons]
    exact F2.append (F2.reverse h2) ⟨h1, trivial⟩
theorem F2.take {α β : Type} {R : α → β → Prop} : ∀ {l : List α} {l' : List β} (n : Nat), F2 R l l' → F2 R (l.take n) (l'.take n)
  | [], [], n, _ => by simp [F2]
  | _ :: _, _ :: _, 0, _ => by simp [F2]
  | _ :: _, _ :: _, n + 1, ⟨h1, h2⟩ => by
    rw [List.take_succ_cons, List.take_succ_cons]
    exact ⟨h1, F2.take n h2⟩
theorem F2.drop {α β : Type} {R : α → β → Prop} : ∀ {l : List α} {l' : List β} (n : Nat), F2 R l l' → F2 R (l.drop n) (l'.drop n)
  | [], [], n, _ => by simp [F2]
  | _ :: _, _ :: _, 0, h => h
  | _ :: _, _ :: _, n + 1, ⟨_, h2⟩ => by
    rw [List.drop_succ_cons, List.drop_succ_cons]
    exact F2.drop n h2
theorem qle1.trans {σ σ' σ'' : qσ} (h : qle1 σ σ') (h' : qle1 σ' σ'') : qle1 σ σ'' := fun v x hv => h' v x (h v x hv)
theorem qle2.trans {σ σ' σ'' : qρ} (h : qle2 σ σ') (h' : qle2 σ' σ'') : qle2 σ σ'' := fun v x hv => h' v x (h v x hv)
theorem qle1.refl (σ : qσ) : qle1 σ σ := fun _ _ h => h
theorem qle2.refl (σ : qρ) : qle2 σ σ := fun _ _ h => h
/-- new values of given types -/
def qarg (D : qWd) (N : qN) (M : qM) (t : qTy) : Option (qN × qM × AV) :=
  if t.1 = 0 then some ((qfr N t.2).1, M, (qfr N t.2).2)
  else if t.1 = 1 then some ((qfrL N t.2).1, M, (qfrL N t.2).2)
  else if t.1 = 2 then (if t.2.1.toNat < D.2.2 then some (N, M, (3, t.2.1.toNat, 0)) else some (N, (M.1 ++ [t.2.1.toNat], M.2), (3, D.2.2 + M.1.length, 0)))
  else none
def qargs (D : qWd) : qN → qM → List qTy → Option (qN × qM × List AV)
  | N, M, [] => some (N, M, [])
  | N, M, t :: ts => (match qarg D N M t with
    | some z => (match qargs D z.1 z.2.1 ts with
      | some y => some (y.1, y.2.1, z.2.2 :: y.2.2)
      | none => none)
    | none => none)
section QAR
variable {D : qWd} {γ : kΓ} {adr : List Nat} {ws : va_W}
theorem q_arg (hD : qD D) {σ : qσ} {ρ : qρ} {N : qN} {M : qM} (hN : qsN D σ N) (hH : qsM D γ adr σ ρ M ws) {t : qTy} {v : Value} (ht : qvT D γ adr t v) {z : qN × qM × AV} (hz : qarg D N M t = some z) : ∃ (σ' : qσ) (ρ' : qρ), qle1 σ σ' ∧ qle2 ρ ρ' ∧ qsN D σ' z.1 ∧ qsM D γ adr σ' ρ' z.2.1 ws ∧ qR σ' ρ' z.2.2 v := by
  unfold qarg at hz
  split at hz
  · rename_i h0
    cases hz
    obtain ⟨x, rfl, hx⟩ := ht.1 h0
    obtain ⟨σ', s1, s2, s3⟩ := q_fr (ρ := ρ) hN hx
    exact ⟨σ', ρ, s1, qle2.refl _, s2, hH.monoσ s1, s3⟩
  · split at hz
    · rename_i h0
      cases hz
      obtain ⟨x, rfl, hx⟩ := ht.2.1 h0
      obtain ⟨σ', s1, s2, s3⟩ := q_frL (ρ := ρ) hN hx
      exact ⟨σ', ρ, s1, qle2.refl _, s2, hH.monoσ s1, s3⟩
    · split at hz
      · rename_i h0
        obtain ⟨a, rfl, ha⟩ := ht.2.2 h0
        split at hz
        · rename_i hlt
          cases hz
          exact ⟨σ, ρ, qle1.refl _, qle2.refl _, hN, hH, .inr (.inr (.inr ⟨rfl, a, rfl, q_sing hD hH hlt ha⟩))⟩
        · cases hz
          obtain ⟨ρ', s1, s2, s3⟩ := q_frR hH ha
          exact ⟨σ, ρ', qle1.refl _, s1, hN, s2, .inr (.inr (.inr ⟨rfl, a, rfl, s3⟩))⟩
      · cases hz
theorem q_args (hD : qD D) : ∀ {ts : List qTy} {av : List Value} {σ : qσ} {ρ : qρ} {N : qN} {M : qM}, qsN D σ N → qsM D γ adr σ ρ M ws → F2 (qvT D γ adr) ts av → ∀ {z : qN × qM × List AV}, qargs D N M ts = some z → ∃ (σ' : qσ) (ρ' : qρ), qle1 σ σ' ∧ qle2 ρ ρ' ∧ qsN D σ' z.1 ∧ qsM D γ adr σ' ρ' z.2.1 ws ∧ F2 (qR σ' ρ') z.2.2 av
  | [], [], σ, ρ, N, M, hN, hH, _, z, hz => by
    cases hz
    exact ⟨σ, ρ, qle1.refl _, qle2.refl _, hN, hH, trivial⟩
  | t :: ts, v :: av, σ, ρ, N, M, hN, hH, ⟨ht, hts⟩, z, hz => by
    unfold qargs at hz
    split at hz
    · rename_i z1 hz1
      obtain ⟨σ1, ρ1, s1, r1, n1, m1, e1⟩ := q_arg hD hN hH ht hz1
      split at hz
      · rename_i y hy
        cases hz
        obtain ⟨σ2, ρ2, s2, r2, n2, m2, e2⟩ := q_args hD n1 m1 hts hy
        exact ⟨σ2, ρ2, s1.trans s2, r1.trans r2, n2, m2, e1.mono s2 r2, e2⟩
      · cases hz
    · cases hz
end QAR
/-- narrower, by numbers -/
def qnarV (N : qN) (v : Nat) (iv : qIv) : Option qN := match N.1[v]? with
  | some p => if qmax p.1 iv.1 ≤ qmin p.2 iv.2 then some (N.1.set v (qmax p.1 iv.1, qmin p.2 iv.2), N.2) else none
  | none => some N
theorem q_narV {D : qWd} {σ : qσ} {N : qN} (h : qsN D σ N) {v : Nat} {y : Int} (hs : σ v = some y) {iv : qIv} (hy : qIn iv y) : ∃ N', qnarV N v iv = some N' ∧ qsN D σ N' := by
  unfold qnarV
  split
  · rename_i p hp
    obtain ⟨z, h3, h4⟩ := h.2.1 _ _ hp
    rw [hs] at h3
    cases h3
    have hlo : qmax p.1 iv.1 ≤ y ∧ y ≤ qmin p.2 iv.2 := by
      simp only [qIn, qmax, qmin] at *
      constructor <;> split <;> omega
    rw [if_pos (Int.le_trans hlo.1 hlo.2)]
    refine ⟨_, rfl, fun v hv => h.1 v (by simpa using hv), fun w iv' hv => ?_, h.2.2.1, h.2.2.2⟩
    by_cases e9 : v = w
    · subst e9
      rw [List.getElem?_set_self (List.getElem?_eq_some_iff.mp hp).1] at hv
      cases hv
      exact ⟨y, hs, hlo⟩
    · rw [List.getElem?_set_ne e9] at hv
      exact h.2.1 w iv' hv
  · exact ⟨N, rfl, h⟩
def qnarI (N : qN) (a : AV) (iv : qIv) : Option qN :=
  if a.1 = 0 then qnarV N a.2.1 (iv.1 - a.2.2, iv.2 - a.2.2) else if a.1 = 1 then (if iv.1 ≤ a.2.2 ∧ a.2.2 ≤ iv.2 then some N else none) else some N
theorem q_narI {D : qWd} {σ : qσ} {N : qN} (h : qsN D σ N) {a : AV} {x : Int} (hv : qvl σ a = some x) {iv : qIv} (hx : qIn iv x) : ∃ N', qnarI N a iv = some N' ∧ qsN D σ N' := by
  unfold qnarI
  unfold qvl at hv
  by_cases h0 : a.1 = 0
  · rw [if_pos h0] at hv ⊢
    rw [Option.map_eq_some_iff] at hv
    obtain ⟨y, hy, rfl⟩ := hv
    simp only [qIn] at hx
    exact q_narV h hy (by simp only [qIn]; omega)
  · rw [if_neg h0] at hv ⊢
    by_cases h1 : a.1 = 1
    · rw [if_pos h1] at hv ⊢
      cases hv
      simp only [qIn] at hx
      rw [if_pos hx]
      exact ⟨N, rfl, h⟩
    · rw [if_neg h1] at hv; cases hv
/-- a difference is learned: a is at least b + d -/
def qrelI (N : qN) (a b : AV) (d : Int) : Option qN :=
  if qge 2 N b a (1 - d) then none else
  (match qiv N b with
    | some p => (qnarI N a (p.1 + d, i32hi))
    | none => some N).bind (fun N1 => (match qiv N1 a with
      | some p => (qnarI N1 b (i32lo, p.2 - d))
      | none => some N1).bind (fun N2 => some (if a.1 == 0 && b.1 == 0 then qrl1 N2 a.2.1 b.2.1 (b.2.2 + d - a.2.2) else N2)))
theorem q_relI {D : qWd} {σ : qσ} {N : qN} (h : qsN D σ N) {a b : AV} {x y d : Int} (ha : qvl σ a = some x) (hb : qvl σ b = some y) (hx : i32lo ≤ x ∧ x ≤ i32hi) (hy : i32lo ≤ y ∧ y ≤ i32hi) (hd : y + d ≤ x) : ∃ N', qrelI N a b d = some N' ∧ qsN D σ N' := by
  unfold qrelI
  have h0 : ¬ qge 2 N b a (1 - d) = true := fun hg => by
    have := q_ge h 2 hb ha hg
    omega
  rw [if_neg h0]
  have s1 : ∃ N1, (match qiv N b with
    | some p => (qnarI N a (p.1 + d, i32hi))
    | none => some N) = some N1 ∧ qsN D σ N1 := by
    split
    · rename_i p hp
      have := q_ivV h hb hp
      exact q_narI h ha ⟨by have := this.1; show p.1 + d ≤ x; omega, hx.2⟩
    · exact ⟨N, rfl, h⟩
  obtain ⟨N1, e1, h1⟩ := s1
  rw [e1]
  simp only [Option.bind_some]
  have s2 : ∃ N2, (match qiv N1 a with
      | some p => (qnarI N1 b (i32lo, p.2 - d))
      | none => some N1) = some N2 ∧ qsN D σ N2 := by
    split
    · rename_i p hp
      have := q_ivV h1 ha hp
      exact q_narI h1 hb ⟨hy.1, by have := this.2; show y ≤ p.2 - d; omega⟩
    · exact ⟨N1, rfl, h1⟩
  obtain ⟨N2, e2, h2⟩ := s2
  rw [e2]
  simp only [Option.bind_some]
  refine ⟨_, rfl, ?_⟩
  split
  · rename_i h0
    simp only [Bool.and_eq_true, beq_iff_eq] at h0
    unfold qvl at ha hb
    rw [if_pos h0.1, Option.map_eq_some_iff] at ha
    rw [if_pos h0.2, Option.map_eq_some_iff] at hb
    obtain ⟨u, hu, rfl⟩ := ha
    obtain ⟨w, hw, rfl⟩ := hb
    exact q_rl1 h2 hu hw (by omega)
  · exact h2
/-- facts of single cells: learned -/
def qlrn : qN → qM → List qFa → Option (qN × qM × List AV)
  | N, M, [] => some (N, M, [])
  | N, M, f :: fs => (match M.2.1.find? (fun e => e.1 == f.1 && e.2.1 == f.2.1) with
    | some e => (match qnarI N e.2.2 f.2.2 with
      | some N1 => (match qlrn N1 M fs with
        | some y => some (y.1, y.2.1, e.2.2 :: y.2.2)
        | none => none)
      | none => none)
    | none => (match qlrn (qfr N f.2.2).1 (M.1, (f.1, f.2.1, (qfr N f.2.2).2) :: M.2.1, M.2.2) fs with
      | some y => some (y.1, y.2.1, (qfr N f.2.2).2 :: y.2.2)
      | none => none))
section QLR
variable {D : qWd} {γ : kΓ} {adr : List Nat} {ws : va_W}
theorem q_valc {σ : qσ} {ρ : qρ} {M : qM} (hH : qsM D γ adr σ ρ M ws) {f : qFa} (hf : f.1 < D.2.2) {x : Int} (hv : qval ws f = some x) : ∃ (a : Nat) (c : va_E) (y : Int32), ws[f.1]? = some (a, c) ∧ ρ f.1 = some a ∧ qrd c f.2.1 = some (.int y) ∧ y.toInt = x := by
  unfold qval at hv
  split at hv
  · rename_i c hc
    split at hv
    · rename_i y hy
      cases hv
      exact ⟨c.1, c.2, y, hc, by rw [hH.1 _ hf]; exact q_adr2 hH hc, hy, rfl⟩
    · cases hv
  · cases hv
theorem q_memv {σ : qσ} {ρ : qρ} {M : qM} (hH : qsM D γ adr σ ρ M ws) {f : qFa} (hf10 : f.2.1 < 10000) (hdis : ∀ (i j : Nat) (p q : Nat × va_E), ws[i]? = some p → ws[j]? = some q → p.1 = q.1 → i = j) {x : Int} (hf : f.1 < D.2.2) (hv : qval ws f = some x) {e : Nat × Nat × AV} (he : M.2.1.find? (fun e => e.1 == f.1 && e.2.1 == f.2.1) = some e) : ∃ y : Int32, qR σ ρ e.2.2 (.int y) ∧ y.toInt = x := by
  obtain ⟨a, c, y, h1, h2, h3, h4⟩ := q_valc hH hf hv
  have h5 := List.find?_some he
  simp only [Bool.and_eq_true, beq_iff_eq] at h5
  obtain ⟨n', k', av⟩ := e
  obtain ⟨q', a', c', v, ix, g1, g2, g3, g4, g5⟩ := hH.2.2.2.1 n' k' av (List.mem_of_find?_eq_some he)
  simp only at h5
  obtain ⟨rfl, rfl⟩ := h5
  have hix : ix = f.2.1 := by
    rcases g5 with ⟨-, h7⟩ | ⟨h7, -⟩
    · exact h7
    · omega
  subst hix
  rw [h2] at g2
  cases g2
  have := hdis q' _ _ _ g1 h1 rfl
  subst this
  rw [h1] at g1
  cases g1
  rw [h3] at g3
  cases g3
  exact ⟨y, g4, h4⟩
theorem q_lrn (hdis : ∀ (i j : Nat) (p q : Nat × va_E), ws[i]? = some p → ws[j]? = some q → p.1 = q.1 → i = j) : ∀ {fs : List qFa} {σ : qσ} {ρ : qρ} {N : qN} {M : qM}, qsN D σ N → qsM D γ adr σ ρ M ws → (∀ f ∈ fs, (f.1 < D.2.2 ∧ f.2.1 < 10000) ∧ ∃ x, qval ws f = some x ∧ qIn f.2.2 x) →
    ∃ z, qlrn N M fs = some z ∧ ∃ σ' : qσ, qle1 σ σ' ∧ qsN D σ' z.1 ∧ qsM D γ adr σ' ρ z.2.1 ws ∧ F2 (fun a f => ∃ x : Int32, qval ws f = some x.toInt ∧ qvl σ' a = some x.toInt) z.2.2 fs
  | [], σ, ρ, N, M, hN, hH, _ => ⟨_, rfl, σ, qle1.refl _, hN, hH, trivial⟩
  | f :: fs, σ, ρ, N, M, hN, hH, hf => by
    obtain ⟨⟨hf1, hf10⟩, x, hx, hix⟩ := hf f List.mem_cons_self
    have hf' := fun g hg => hf g (List.mem_cons_of_mem _ hg)
    unfold qlrn
    split
    · rename_i e he
      obtain ⟨y, hy1, hy2⟩ := q_memv hH hf10 hdis hf1 hx he
      have hvl := q_vl hy1
      obtain ⟨N1, e1, h1⟩ := q_narI hN hvl (iv := f.2.2) (by rw [hy2]; exact hix)
      rw [e1]
      simp only
      obtain ⟨z, e2, σ', s1, s2, s3, s4⟩ := q_lrn hdis h1 hH hf'
      rw [e2]
      refine ⟨_, rfl, σ', s1, s2, s3, ⟨y, by rw [hx, hy2], q_vl (hy1.mono s1 (qle2.refl _))⟩, s4⟩
    · obtain ⟨a, c, y, c1, c2, c3, c4⟩ := q_valc hH hf1 hx
      obtain ⟨σ1, t1, t2, t3⟩ := q_fr (ρ := ρ) hN (iv := f.2.2) (x := y) (by rw [c4]; exact hix)
      have hM1 := q_addm (hH.monoσ t1) hf10 c1 c2 c3 t3
      obtain ⟨z, e2, σ', s1, s2, s3, s4⟩ := q_lrn hdis t2 hM1 hf'
      rw [e2]
      exact ⟨_, rfl, σ', t1.trans s1, s2, s3, ⟨y, by rw [hx, c4], q_vl (t3.mono s1 (qle2.refl _))⟩, s4⟩
end QLR
theorem q_vlm {σ σ' : qσ} (h : qle1 σ σ') {a : AV} {x : Int} (hx : qvl σ a = some x) : qvl σ' a = some x := by
  unfold qvl at hx ⊢
  split at hx
  · rename_i h0
    rw [if_pos h0]
    rw [Option.map_eq_some_iff] at hx ⊢
    obtain ⟨u, u1, u2⟩ := hx
    exact ⟨u, h _ _ u1, u2⟩
  · rename_i h0
    rw [if_neg h0]; exact hx
end
section
/-! calls by contract -/
def qmat (D : qWd) : qN → qM → List qFa → Option (qN × qM × List AV)
  | N, M, [] => some (N, M, [])
  | N, M, f :: fs => if f.1 < D.2.2 then (match D.2.1[f.1]? with
    | some r => if f.2.1 < r.2.1 then (match qrs D N M f.1 f.2.1 r with
      | some z => (match qiv z.1 z.2.2 with
        | some p => if qle f.2.2.1 p.1 && qle p.2 f.2.2.2 then (match qmat D z.1 z.2.1 fs with
          | some y => some (y.1, y.2.1, z.2.2 :: y.2.2)
          | none => none) else none
        | none => none)
      | none => none) else none
    | none => none) else none
section QMT
variable {D : qWd} {γ : kΓ} {adr : List Nat} {ws : va_W}
theorem q_mat (hD : qD D) (hdis : ∀ (i j : Nat) (p q : Nat × va_E), ws[i]? = some p → ws[j]? = some q → p.1 = q.1 → i = j) : ∀ {fs : List qFa} {σ : qσ} {ρ : qρ} {N : qN} {M : qM}, qsN D σ N → qsM D γ adr σ ρ M ws → ∀ {z : qN × qM × List AV}, qmat D N M fs = some z →
    ∃ (σ' : qσ) (ρ' : qρ), qle1 σ σ' ∧ qle2 ρ ρ' ∧ qsN D σ' z.1 ∧ qsM D γ adr σ' ρ' z.2.1 ws ∧ z.2.1.2.2 = M.2.2 ∧ F2 (fun a f => ∃ x : Int32, qval ws f = some x.toInt ∧ qIn f.2.2 x.toInt ∧ qvl σ' a = some x.toInt) z.2.2 fs
  | [], σ, ρ, N, M, hN, hH, z, hz => by
    cases hz
    exact ⟨σ, ρ, qle1.refl _, qle2.refl _, hN, hH, rfl, trivial⟩
  | f :: fs, σ, ρ, N, M, hN, hH, z, hz => by
    unfold qmat at hz
    split at hz
    · rename_i hf
      split at hz
      · rename_i r hr
        split at hz
        · rename_i hk
          split at hz
          · rename_i y hy
            split at hz
            · rename_i pv hpv
              split at hz
              · rename_i hq
                simp only [Bool.and_eq_true, qle, decide_eq_true_eq] at hq
                split at hz
                · rename_i w hw
                  cases hz
                  have hreg : qrg D M f.1 = some f.1 := by unfold qrg; rw [if_pos hf]
                  have hne : ¬ f.1 = qWR := by have := hD.1; unfold qWR; omega
                  have hsome : ∃ a, ρ f.1 = some a := by
                    rw [hH.1 _ hf]
                    have h9 := hD.2.1 _ hf
                    have hl : f.1 < adr.length := by
                      rw [← hH.2.2.2.2.1, List.length_map, hH.2.2.2.2.2.1]
                      exact (List.getElem?_eq_some_iff.mp h9).1
                    exact ⟨_, List.getElem?_eq_getElem hl⟩
                  obtain ⟨a, ha⟩ := hsome
                  obtain ⟨q, c, r', g1, g2, g3, g4, g5⟩ := q_cell hD hH hreg hne ha
                  rw [hr] at g3
                  cases g3
                  have := hD.2.2.1 q _ g1 hf
                  subst this
                  obtain ⟨σ1, ρ1, v, s1, r1, n1, m1, v1, v2⟩ := q_rs hD hN hH hdis g2 ha g5 hk hy
                  obtain ⟨x, rfl, hx⟩ := q_iv n1 v2 hpv
                  have hex : y.2.1.2.2 = M.2.2 := by
                    unfold qrs at hy
                    split at hy
                    · split at hy
                      · cases hy; rfl
                      · split at hy
                        · split at hy
                          · cases hy; rfl
                          · cases hy; rfl
                          · split at hy
                            · cases hy; rfl
                            · cases hy; rfl
                          · cases hy
                        · cases hy
                    · cases hy
                  obtain ⟨σ2, ρ2, s2, r2, n2, m2, e2, f2⟩ := q_mat hD hdis n1 m1 hw
                  refine ⟨σ2, ρ2, s1.trans s2, r1.trans r2, n2, m2, e2.trans hex, ⟨x, ?_, ⟨Int.le_trans hq.1 hx.1, Int.le_trans hx.2 hq.2⟩, q_vl (v2.mono s2 r2)⟩, f2⟩
                  unfold qval
                  rw [g2]
                  simp only [v1]
                · cases hz
              · cases hz
            · cases hz
          · cases hz
        · cases hz
      · cases hz
    · cases hz
end QMT
theorem F2.get2 {α β : Type} {R : α → β → Prop} {b : β} : ∀ {l : List α} {l' : List β} {k : Nat}, F2 R l l' → l'[k]? = some b → ∃ a, l[k]? = some a ∧ R a b
  | a :: _, _ :: _, 0, ⟨h1, _⟩, h => ⟨a, rfl, by simp at h; exact h ▸ h1⟩
  | _ :: _, _ :: _, k + 1, ⟨_, h2⟩, h => by
    obtain ⟨a, h3, h4⟩ := F2.get2 (k := k) h2 (by simpa using h)
    exact ⟨a, by simpa using h3, h4⟩
  | [], [], _, _, h => by simp at h
/-- what the alternatives of a contract tell -/
def qnarL (N : qN) (As : List AV) : List (Nat × Int × Int) → Option qN
  | [] => some N
  | q :: r => (match As[q.1]? with
    | some a => (match qnarI N a q.2 with
      | some N1 => qnarL N1 As r
      | none => none)
    | none => qnarL N As r)
def qrels (N : qN) (As : List AV) : List (Nat × Nat × Int) → Option qN
  | [] => some N
  | q :: r => (match As[q.1]?, As[q.2.1]? with
    | some a, some b => if qint a && qint b then (match qrelI N a b q.2.2 with
      | some N1 => qrels N1 As r
      | none => none) else qrels N As r
    | _, _ => qrels N As r)
/-- the answer is an element of an array: is it known already; none where nothing is to be noted -/
def qeqf (D : qWd) (M : qM) (As : List AV) (ty : qTy) (q : Option (Nat × Nat)) : Option (Option AV) := match q with
  | some q => (match As[q.2]? with
    | some a => if qkyb a && Nat.blt q.1 D.2.2 && ty.1 == 0 then some ((M.2.1.find? (fun e => e.1 == q.1 && e.2.1 == qky a)).map (fun e => e.2.2)) else none
    | none => none)
  | none => none
def qeqa (M : qM) (As : List AV) (v : AV) (q : Option (Nat × Nat)) : qM := match q with
  | some q => (match As[q.2]? with
    | some a => (M.1, (q.1, qky a, v) :: M.2.1, M.2.2)
    | none => M)
  | none => M
def qalts (D : qWd) (N : qN) (M : qM) (loc : List (Nat × AV)) (rest As pa : List AV) (pc : Nat) (t : qAlt) : Option qSu :=
  if t.2.1.all (fun f => Nat.blt f.1 D.2.2 && Nat.blt f.2.1 10000) then (match qnarL N As t.2.2.1 with
    | some N1 => (match qlrn N1 M t.2.1 with
      | some y => (match qrels y.1 (pa ++ (y.2.2 ++ As)) t.2.2.2.1 with
        | some N3 => (match t.1 with
          | some ty => (match qeqf D y.2.1 As ty t.2.2.2.2 with
            | some (some e) => (match qnarI N3 e ty.2 with
              | some N4 => some [((N4, (loc, e :: rest), y.2.1), pc + 3)]
              | none => some [])
            | o => (match qarg D N3 y.2.1 ty with
              | some z => some [((z.1, (loc, z.2.2 :: rest), (match o with
                | some _ => qeqa z.2.1 As z.2.2 t.2.2.2.2
                | none => z.2.1)), pc + 3)]
              | none => none))
          | none => some [((N3, (loc, rest), y.2.1), pc + 3)])
        | none => some [])
      | none => some [])
    | none => some []) else none
section QAL
variable {D : qWd} {γ : kΓ} {adr : List Nat}
theorem q_narL {σ : qσ} {ρ : qρ} {As : List AV} {av : List Value} (hA : F2 (qR σ ρ) As av) : ∀ {L : List (Nat × Int × Int)} {N : qN}, qsN D σ N → (∀ q ∈ L, ∃ x : Int32, av[q.1]? = some (.int x) ∧ qIn q.2 x.toInt) → ∃ N', qnarL N As L = some N' ∧ qsN D σ N'
  | [], N, hN, _ => ⟨N, rfl, hN⟩
  | q :: r, N, hN, h => by
    obtain ⟨x, h1, h2⟩ := h q List.mem_cons_self
    obtain ⟨a, h3, h4⟩ := F2.get2 hA h1
    unfold qnarL
    rw [h3]
    simp only
    obtain ⟨N1, e1, n1⟩ := q_narI hN (q_vl h4) h2
    rw [e1]
    exact q_narL hA n1 (fun q hq => h q (List.mem_cons_of_mem _ hq))
theorem q_rels {σ : qσ} {As : List AV} {f : Nat → Option Int} (hA : ∀ (i : Nat) (a : AV), As[i]? = some a → qint a = true → ∃ x : Int32, f i = some x.toInt ∧ qvl σ a = some x.toInt) : ∀ {L : List (Nat × Nat × Int)} {N : qN}, qsN D σ N → (∀ q ∈ L, ∃ x y, f q.1 = some x ∧ f q.2.1 = some y ∧ y + q.2.2 ≤ x) → ∃ N', qrels N As L = some N' ∧ qsN D σ N'
  | [], N, hN, _ => ⟨N, rfl, hN⟩
  | q :: r, N, hN, h => by
    obtain ⟨x, y, h1, h2, h3⟩ := h q List.mem_cons_self
    have hr := fun q hq => h q (List.mem_cons_of_mem _ hq)
    unfold qrels
    split
    · rename_i a b ha hb
      split
      · rename_i hi
        rw [Bool.and_eq_true] at hi
        obtain ⟨x', ex, vx⟩ := hA _ _ ha hi.1
        obtain ⟨y', ey, vy⟩ := hA _ _ hb hi.2
        rw [ex] at h1; cases h1
        rw [ey] at h2; cases h2
        obtain ⟨N1, e1, n1⟩ := q_relI hN vx vy (q_rng x') (q_rng y') h3
        rw [e1]
        exact q_rels hA n1 hr
      · exact q_rels hA hN hr
    · exact q_rels hA hN hr
theorem q_alts (hD : qD D) {w1 ws : va_W} (hdis : ∀ (i j : Nat) (p q : Nat × va_E), w1[i]? = some p → w1[j]? = some q → p.1 = q.1 → i = j) {σ : qσ} {ρ : qρ} {N : qN} {M : qM} (hN : qsN D σ N) (hH : qsM D γ adr σ ρ M w1) {As pa rest : List AV} {av : List Value} (hA : F2 (qR σ ρ) As av) {c : qCon} (hp : F2 (fun a f => ∃ x : Int32, qval ws f = some x.toInt ∧ qIn f.2.2 x.toInt ∧ qvl σ a = some x.toInt) pa c.2.2.1) {r : Option Value} {t : qAlt} (ht : qalt D γ c adr ws av r w1 t)
    {loc : List (Nat × AV)} {pc : Nat} {L : qSu} (hL : qalts D N M loc rest As pa pc t = some L) : ∃ (N' : qN) (M' : qM) (ra : List AV) (σ' : qσ) (ρ' : qρ), ((N', (loc, ra ++ rest), M'), pc + 3) ∈ L ∧ qle1 σ σ' ∧ qle2 ρ ρ' ∧ qsN D σ' N' ∧ qsM D γ adr σ' ρ' M' w1 ∧ F2 (qR σ' ρ') ra r.toList := by
  obtain ⟨t1, t2, t3, t4, t5⟩ := ht
  unfold qalts at hL
  split at hL
  · rename_i hwf
    simp only [List.all_eq_true, Bool.and_eq_true, Nat.blt_eq] at hwf
    obtain ⟨N1, e1, n1⟩ := q_narL hA hN t3
    rw [e1] at hL
    simp only at hL
    obtain ⟨y, e2, σ2, s2, n2, m2, f2⟩ := q_lrn hdis n1 hH (fun f hf => ⟨hwf f hf, t2 f hf⟩)
    rw [e2] at hL
    simp only at hL
    have hlen : pa.length = c.2.2.1.length := F2.len hp
    have hlen2 : y.2.2.length = t.2.1.length := F2.len f2
    obtain ⟨N3, e3, n3⟩ := q_rels (As := pa ++ (y.2.2 ++ As)) (f := qpv c.2.2.1 t.2.1 ws w1 av) (fun i a ha hint => by
      unfold qpv
      by_cases hi : i < c.2.2.1.length
      · rw [if_pos hi]
        rw [List.getElem?_append_left (by omega)] at ha
        obtain ⟨f, hf, x, x1, -, x3⟩ := F2.idx hp ha
        exact ⟨x, by rw [hf]; exact x1, q_vlm s2 x3⟩
      · rw [if_neg hi]
        rw [List.getElem?_append_right (by omega), hlen] at ha
        by_cases hi2 : i < c.2.2.1.length + t.2.1.length
        · rw [if_pos hi2]
          rw [List.getElem?_append_left (by omega)] at ha
          obtain ⟨f, hf, x, x1, x3⟩ := F2.idx f2 ha
          exact ⟨x, by rw [hf]; exact x1, x3⟩
        · rw [if_neg hi2]
          rw [List.getElem?_append_right (by omega), hlen2, show i - c.2.2.1.length - t.2.1.length = i - (c.2.2.1.length + t.2.1.length) by omega] at ha
          obtain ⟨v, hv, hr⟩ := F2.idx hA ha
          obtain ⟨x, rfl⟩ := q_int hr hint
          exact ⟨x, by rw [hv], q_vlm s2 (q_vl hr)⟩) n2 t4
    rw [e3] at hL
    simp only at hL
    rcases t1 with ⟨ta, rfl⟩ | ⟨ty, v, ta, rfl, tv⟩
    · rw [ta] at hL
      cases hL
      exact ⟨N3, y.2.1, [], σ2, ρ, List.mem_cons_self, s2, qle2.refl _, n3, m2, trivial⟩
    · rw [ta] at hL
      simp only at hL
      split at hL
      · rename_i e he
        -- the element is known
        have hkey : ∃ yv : Int32, v = .int yv ∧ qR σ2 ρ e (.int yv) := by
          unfold qeqf at he
          split at he
          · rename_i q hq
            split at he
            · rename_i a ha
              split at he
              · rename_i hb
                simp only [Bool.and_eq_true, Nat.blt_eq, beq_iff_eq] at hb
                simp only [Option.some.injEq, Option.map_eq_some_iff] at he
                obtain ⟨f, hf, rfl⟩ := he
                obtain ⟨a0, ce, x, yv, e1, e2, e3, e4, e5⟩ := t5 q hq
                cases e4
                have hf2 := List.find?_some hf
                simp only [Bool.and_eq_true, beq_iff_eq] at hf2
                obtain ⟨n', k', avf⟩ := f
                obtain ⟨q', a', c', v', ix, g1, g2, g3, g4, g5⟩ := m2.2.2.2.1 n' k' avf (List.mem_of_find?_eq_some hf)
                simp only at hf2
                obtain ⟨f1', f2'⟩ := hf2
                subst f1'
                subst f2'
                rw [m2.1 _ hb.1.2, q_adr2 m2 e1] at g2
                cases g2
                have := hdis q' _ _ _ g1 e1 rfl
                subst this
                rw [e1] at g1
                cases g1
                obtain ⟨u, hu, eu⟩ := (q_ky hb.1.1).mp g5
                obtain ⟨vv, hvv, hrr⟩ := F2.idx hA ha
                rw [e2] at hvv
                cases hvv
                have ha0 : a.1 = 0 := by have := hb.1.1; unfold qkyb at this; simp only [Bool.and_eq_true, beq_iff_eq] at this; exact this.1.1
                obtain ⟨u', hu', eu'⟩ := q_v0 hrr ha0
                rw [s2 _ _ hu'] at hu
                cases hu
                have hcl := q_clamp e3
                have : ix = x.toNatClampNeg := by omega
                subst this
                rw [e5] at g3
                cases g3
                exact ⟨yv, rfl, g4⟩
              · cases he
            · cases he
          · cases he
        obtain ⟨yv, rfl, hre⟩ := hkey
        have hty : ty.1 = 0 := by
          unfold qeqf at he
          split at he
          · split at he
            · split at he
              · rename_i hb
                simp only [Bool.and_eq_true, beq_iff_eq] at hb
                exact hb.2
              · cases he
            · cases he
          · cases he
        obtain ⟨yv', ev, hyv⟩ := tv.1 hty
        cases ev
        obtain ⟨N4, e4, n4⟩ := q_narI n3 (q_vl hre) hyv
        rw [e4] at hL
        cases hL
        exact ⟨N4, y.2.1, [e], σ2, ρ, List.mem_cons_self, s2, qle2.refl _, n4, m2, hre, trivial⟩
      · rename_i o ho
        split at hL
        · rename_i z hz
          cases hL
          obtain ⟨σ3, ρ3, s3, r3, n4, m4, v4⟩ := q_arg hD n3 m2 tv hz
          refine ⟨z.1, _, [z.2.2], σ3, ρ3, List.mem_cons_self, s2.trans s3, r3, n4, ?_, v4, trivial⟩
          split
          · rename_i o' heo
            unfold qeqa
            split
            · rename_i q hq
              split
              · rename_i a ha
                have hb : qkyb a = true ∧ q.1 < D.2.2 := by
                  unfold qeqf at heo
                  rw [hq] at heo
                  simp only [ha] at heo
                  split at heo
                  · rename_i hb
                    simp only [Bool.and_eq_true, Nat.blt_eq, beq_iff_eq] at hb
                    exact hb.1
                  · cases heo
                obtain ⟨a0, ce, x, yv, e1, e2, e3, e4, e5⟩ := t5 q hq
                cases e4
                obtain ⟨vv, hvv, hrr⟩ := F2.idx hA ha
                rw [e2] at hvv
                cases hvv
                have ha0 : a.1 = 0 := by have := hb.1; unfold qkyb at this; simp only [Bool.and_eq_true, beq_iff_eq] at this; exact this.1.1
                obtain ⟨u', hu', eu'⟩ := q_v0 hrr ha0
                have hcl := q_clamp e3
                refine q_addx m4 e1 (by rw [m4.1 _ hb.2]; exact q_adr2 m4 e1) e5 v4 ((q_ky hb.1).mpr ⟨u', s3 _ _ (s2 _ _ hu'), by omega⟩)
              · exact m4
            · exact m4
          · exact m4
        · cases hL
  · cases hL
end QAL
end
section
/-! the call -/
def qdm (D : qWd) (M : qM) (cm : qMods) : qM := (M.1, M.2.1.filter (fun e => match qrg D M e.1 with
  | some g => !(g == qWR) && !(if Nat.blt e.2.1 10000 then qmod cm g e.2.1 else cm.any (fun m => m.1 == g))
  | none => false), M.2.2)
def qcov (cm ms : qMods) : Bool := cm.all (fun m => ms.any (fun n => n.1 == m.1 && Nat.ble n.2.1 m.2.1 && Nat.ble m.2.2 n.2.2))
theorem q_cov {cm ms : qMods} (h : qcov cm ms = true) {g k : Nat} (hk : qmod ms g k = false) : qmod cm g k = false := by
  unfold qcov at h
  unfold qmod at hk ⊢
  rw [List.any_eq_false] at hk ⊢
  rw [List.all_eq_true] at h
  intro m hm hc
  have h1 := h m hm
  rw [List.any_eq_true] at h1
  obtain ⟨n, n1, n2⟩ := h1
  simp only [Bool.and_eq_true, beq_iff_eq, Nat.ble_eq] at n2 hc
  refine hk n n1 ?_
  simp only [Bool.and_eq_true, beq_iff_eq, Nat.ble_eq]
  omega
section QCK
variable {D : qWd} {γ : kΓ} {adr : List Nat}
theorem q_posn {σ : qσ} {ρ : qρ} {M : qM} {ws w1 : va_W} (hH : qsM D γ adr σ ρ M ws) (h1 : w1.map Prod.fst = adr) {q a : Nat} {c : va_E} (hc : ws[q]? = some (a, c)) : ∃ c1, w1[q]? = some (a, c1) := by
  have h2 := q_adr2 hH hc
  rw [← h1, List.getElem?_map, Option.map_eq_some_iff] at h2
  obtain ⟨⟨a', c1⟩, e1, e2⟩ := h2
  exact ⟨c1, by rw [e1]; simp only at e2; rw [e2]⟩
theorem q_dm (hD : qD D) {σ : qσ} {ρ : qρ} {M : qM} {ws w1 : va_W} (hH : qsM D γ adr σ ρ M ws) (hdis : ∀ (i j : Nat) (p q : Nat × va_E), ws[i]? = some p → ws[j]? = some q → p.1 = q.1 → i = j) {cm : qMods} (h1 : qH D γ adr (fun _ _ => False) w1) (hK : qK D cm ws w1) : qsM D γ adr σ ρ (qdm D M cm) w1 := by
  refine ⟨hH.1, hH.2.1, hH.2.2.1, fun n k av hm => ?_, h1.1, h1.2.1, fun q g a c hg hc => ?_⟩
  · unfold qdm at hm
    rw [List.mem_filter] at hm
    obtain ⟨q, a, c, v, ix, g1, g2, g3, g4, g5⟩ := hH.2.2.2.1 n k av hm.1
    have hb := hm.2
    simp only at hb
    split at hb
    · rename_i g hg
      simp only [Bool.and_eq_true, Bool.not_eq_true', beq_eq_false_iff_ne, ne_eq] at hb
      obtain ⟨q2, c2, r2, z1, z2, -⟩ := q_cell hD hH hg hb.1 g2
      have := hdis q2 q _ _ z2 g1 rfl
      subst this
      obtain ⟨c1, hc1⟩ := q_posn hH h1.1 g1
      have hmod : qmod cm g ix = false := by
        have hb2 := hb.2
        rcases g5 with ⟨h7, h8⟩ | ⟨h7, -⟩
        · rw [if_pos (Nat.blt_eq.mpr h7)] at hb2
          rw [h8]; exact hb2
        · rw [if_neg (by rw [Nat.blt_eq]; omega)] at hb2
          rw [List.any_eq_false] at hb2
          unfold qmod
          rw [List.any_eq_false]
          intro m hm9 hc9
          refine hb2 m hm9 ?_
          simp only [Bool.and_eq_true] at hc9
          exact hc9.1.1
      exact ⟨q2, a, c1, v, ix, hc1, g2, by rw [hK q2 g a c a c1 z1 g1 hc1 ix hmod]; exact g3, g4, g5⟩
    · cases hb
  · obtain ⟨r, r1, r2, r3⟩ := h1.2.2 q g a c hg hc
    exact ⟨r, r1, r2, fun k hk => (r3 k hk).elim (fun f => f.elim) .inr⟩
theorem q_keepT {σ : qσ} {ρ : qρ} {M : qM} {w0 ws w1 : va_W} (hH : qsM D γ adr σ ρ M ws) {cm ms : qMods} (h1 : qH D γ adr (fun _ _ => False) w1) (hcov : qcov cm ms = true) (hK0 : qK D ms w0 ws) (hK : qK D cm ws w1) : qK D ms w0 w1 := by
  intro q g a c a1 c1 hg h2 h3 k hk
  have hl : q < ws.length := by
    rw [hH.2.2.2.2.2.1]
    exact (List.getElem?_eq_some_iff.mp hg).1
  have h4 : ws[q]? = some (ws[q].1, ws[q].2) := List.getElem?_eq_getElem hl
  rw [hK q g _ _ a1 c1 hg h4 h3 k (q_cov hcov hk), hK0 q g a c _ _ hg h2 h4 k hk]
end QCK
def qtks (D : qWd) (N : qN) (M : qM) : List AV → List qTy → Bool
  | [], [] => true
  | a :: as, t :: ts => qtk D N M a t && qtks D N M as ts
  | _, _ => false
theorem q_tks {D : qWd} {γ : kΓ} {adr : List Nat} {σ : qσ} {ρ : qρ} {N : qN} {M : qM} {ws : va_W} (hD : qD D) (hN : qsN D σ N) (hH : qsM D γ adr σ ρ M ws) : ∀ {as : List AV} {ts : List qTy} {av : List Value}, F2 (qR σ ρ) as av → qtks D N M as ts = true → F2 (qvT D γ adr) ts av
  | [], [], [], _, _ => trivial
  | _ :: _, _ :: _, _ :: _, ⟨h1, h2⟩, h => by
    simp only [qtks, Bool.and_eq_true] at h
    exact ⟨q_tk hD hN hH h1 h.1, q_tks hD hN hH h2 h.2⟩
  | [], _ :: _, _, _, h => by simp [qtks] at h
  | _ :: _, [], _, _, h => by simp [qtks] at h
def qcat : List (Option qSu) → Option qSu
  | [] => some []
  | a :: r => (match a, qcat r with
    | some x, some y => some (x ++ y)
    | _, _ => none)
theorem q_cat : ∀ {l : List (Option qSu)} {L : qSu}, qcat l = some L → ∀ a ∈ l, ∃ x, a = some x ∧ ∀ y ∈ x, y ∈ L
  | [], _, _, a, ha => by cases ha
  | b :: r, L, h, a, ha => by
    unfold qcat at h
    split at h
    · rename_i x y hy
      cases h
      rcases List.mem_cons.mp ha with e | ha
      · subst e
        exact ⟨x, rfl, fun z hz => List.mem_append_left _ hz⟩
      · obtain ⟨x', e1, e2⟩ := q_cat hy a ha
        exact ⟨x', e1, fun z hz => List.mem_append_right _ (e2 z hz)⟩
    · cases h
def qrok (N : qN) (pa : List AV) (q : Nat × Nat × Int) : Bool := match pa[q.1]?, pa[q.2.1]? with
  | some a, some b => qint a && qint b && qge 6 N a b q.2.2
  | _, _ => false
def qtry1 (D : qWd) (ms : qMods) (fr lc nl m : Nat) (As : List AV) (N : qN) (M : qM) (loc : List (Nat × AV)) (rest : List AV) (pc : Nat) (c : qCon) : Option qSu :=
  if c.1.1 == m && Nat.ble (c.1.2.1 + 1) fr && Nat.ble (8 + (nl + 11) + c.1.2.2) lc && qtks D N M As c.2.1 && qcov c.2.2.2.2.2 ms then
    (match qmat D N M c.2.2.1 with
    | some z => if c.2.2.2.1.all (qrok z.1 z.2.2) then qcat (c.2.2.2.2.1.map (qalts D z.1 (qdm D z.2.1 c.2.2.2.2.2) loc rest As z.2.2 pc)) else none
    | none => none) else none
def qtry (D : qWd) (ms : qMods) (fr lc nl m : Nat) (As : List AV) (N : qN) (M : qM) (loc : List (Nat × AV)) (rest : List AV) (pc : Nat) : List qCon → Option qSu
  | [] => none
  | c :: B => (match qtry1 D ms fr lc nl m As N M loc rest pc c with
    | some L => some L
    | none => qtry D ms fr lc nl m As N M loc rest pc B)
theorem q_try {D : qWd} {ms : qMods} {fr lc nl m : Nat} {As : List AV} {N : qN} {M : qM} {loc : List (Nat × AV)} {rest : List AV} {pc : Nat} : ∀ {B : List qCon} {L : qSu}, qtry D ms fr lc nl m As N M loc rest pc B = some L → ∃ c ∈ B, qtry1 D ms fr lc nl m As N M loc rest pc c = some L
  | [], _, h => by cases h
  | c :: B, L, h => by
    unfold qtry at h
    split at h
    · rename_i L' h'
      cases h
      exact ⟨c, List.mem_cons_self, h'⟩
    · obtain ⟨c', h1, h2⟩ := q_try h
      exact ⟨c', List.mem_cons_of_mem _ h1, h2⟩
/-- is the receiver one of the class -/
def qrcv (D : qWd) (M : qM) (k : qCl) (As : List AV) : Bool := match As with
  | a :: _ => a.1 == 3 && (match qrg D M a.2.1 with
    | some g => if k.2.1 == 4 then g == qWR else !(g == qWR) && (match D.2.1[g]? with
      | some r => r.1 == 10 + k.2.2.2.2
      | none => false)
    | none => false)
  | [] => false
def qvirt (k : qCl) : Bool := k.2.1 == 0 || k.2.1 == 2 || k.2.1 == 4
def qna (k : qCl) (virt : Bool) : Nat := k.2.2.2.1 + (if virt then 1 else 0)
def qs_call (D : qWd) (ms : qMods) (B : List qCon) (cls : List qCl) (MT : List qMt) (fr lc : Nat) (virt : Bool) (S : AS) (idx pc : Nat) : Option qSu :=
  match cls.find? (fun k => k.1 == idx && (qvirt k == virt)) with
  | some k => if Nat.ble (qna k virt) S.2.1.2.length && Nat.ble (qwt (S.2.1.2.drop (qna k virt))) 8 && (qclr D S.1 S.2.2).2.2.isEmpty && (!virt || qrcv D (qclr D S.1 S.2.2) k (S.2.1.2.take (qna k virt)).reverse) then
      (match MT[k.2.2.1]? with
      | some y => qtry D ms fr lc y.2.2.1 k.2.2.1 (S.2.1.2.take (qna k virt)).reverse S.1 (qclr D S.1 S.2.2) S.2.1.1 (S.2.1.2.drop (qna k virt)) pc B
      | none => none) else none
  | none => none
section QVO
variable {γ : kΓ} {p : Program} {l : Launch} {e : Env} {R : Room} {s : State} {m : MethodId} {args : Array Value} {below : List Frame} {meth : Method} {c : Code} {H : Heap} {locs : List Loc} {cells slots : Nat} {Q : State → Prop}
variable {cc : ByteArray} {nL pc : Nat} {own : String} {A : Nat → Prop} {ws : va_W} {ls : Array Slot} {rest st0 : List Value}
variable {y : MethodName} {bytes : ByteArray} {maxL n index : Nat} {ret : Option FieldType} {rm : Room} {wc wr : va_W} {post : Option Value → va_W → Prop} {As : List Value} {i : Nat}
/-- invokevirtual of a word -/
theorem k_VO (n : Nat) (hl : Cond.methodLink own index y ∈ kG) (hi : Cond.instanceMethod y ∈ kG) (hse : Cond.selects y.cls y y ∈ kG) (hz : Cond.initialized y.cls ∈ kG) (hcode : Cond.code y bytes maxL ret ∈ kG)
    (hd : y.cls ≠ "java/lang/invoke/MethodHandle" ∧ y.cls ≠ "java/lang/invoke/VarHandle" ∧ (parseMethodDescriptor y.desc).map (fun d => d.parameters.length) = some n)
    (hC : kC γ p s m args c cc nL own A) (hw : kW γ A ws s H locs) (hM : kM γ l y bytes maxL ret rm (.ref (γ.2.2.2.2 i) :: As) wc post) (hR : rm.frames + 1 ≤ R.frames ∧ 8 + (maxL + 11) + rm.locals ≤ R.locals) (hf : cells + rm.cells ≤ R.cells ∧ slots + rm.slots ≤ R.slots)
    (hml : ls.size = nL) (hn : As.length = n) (hcls : y.cls = RX10) (hi26 : i < 26) (hstack : st0 = As.reverse ++ .ref (γ.2.2.2.2 i) :: rest) (hW : (rest.map fun v => v.category).sum ≤ 8)
    (isC isR : List Nat) (hnc : va_nd isC = true) (hcs : isC.map (fun i => ws[i]?) = wc.map some) (hrs : isR.map (fun i => ws[i]?) = wr.map some) (hnr : va_nd isR = true) (hdis : ∀ i ∈ isR, i ∉ isC) (hdg : decode cc pc = .ok (.invokevirtual index, 3))
    (kk : ∀ (r : Option Value) (w1 : va_W) (H1 : Heap) (locs1 : List Loc), post r w1 → kW γ A (wr ++ w1) s H1 locs1 → W p l e R s m args below meth c H1 locs1 (cells + rm.cells) (slots + rm.slots) Q (F0 m (pc + 3) ls (r.toList ++ rest))) : W p l e R s m args below meth c H locs cells slots Q (F0 m pc ls st0) :=
  k_call (va_runV (As := As) (rest := rest) (Ts := kG) ⟨hC.1, hC.2.1, hC.2.2.1, hC.2.2.2.1, hC.2.2.2.2.1⟩ (hM H.size) (cwV n hC.2.2.2.2.1 (k_words (ws0 := [.methodLink own index y, .instanceMethod y, .selects y.cls y y, .initialized y.cls]) (k_mem4 hl hi hse hz) hcode) rfl rfl rfl ⟨rfl, hd⟩ hR)
    ⟨(k_pre hC hw isC hnc hcs).1, by rw [hcls]; exact va_Orecv ((k_zw hC).1 i hi26).2 hw.2.2, (k_pre hC hw isC hnc hcs).2⟩ rfl hn hml hstack (lv_room hW) hdg hf) hC hw isC isR hcs hrs hnr hdis kk
end QVO
/-- calls of words stand in a row of their own -/
def qlk4 (own : String) (MT : List qMt) (k : qCl) : Prop := qlk own MT k ∨ (k.2.1 = 4 ∧ ∃ y, MT[k.2.2.1]? = some y ∧ y.1.cls = RX10 ∧ Cond.initialized y.1.cls ∈ kG ∧ Cond.code y.1 y.2.1 y.2.2.1 y.2.2.2 ∈ kG ∧
  (y.1.cls ≠ "java/lang/invoke/MethodHandle" ∧ y.1.cls ≠ "java/lang/invoke/VarHandle" ∧ (parseMethodDescriptor y.1.desc).map (fun d => d.parameters.length) = some k.2.2.2.1) ∧ Cond.methodLink own k.1 y.1 ∈ kG ∧ Cond.instanceMethod y.1 ∈ kG ∧ Cond.selects y.1.cls y.1 y.1 ∈ kG)
theorem qs_callG {x : qCx} (hB : qB x) {D : qWd} (eD : qxD x = D) (hD : qD D) {ms : qMods} (ems : qxms x = ms) {B : List qCon} {MT : List qMt} (hcon : ∀ c ∈ B, qSem x.1 x.2.2.1 D x.2.2.2.2.2.2.2.2.2.2.2.2.2.2.2.2.1 MT c) {cls : List qCl} (hcl : ∀ k ∈ cls, qlk4 (qxown x) MT k) {fr lc : Nat} (hR : fr ≤ x.2.2.2.2.1.frames ∧ lc ≤ x.2.2.2.2.1.locals)
    {virt : Bool} {S : AS} {idx pc : Nat} {L : qSu} (hs : qs_call D ms B cls MT fr lc virt S idx pc = some L) (hdc : (virt = true ∧ qdc x pc (.invokevirtual idx, 3)) ∨ (virt = false ∧ qdc x pc (.invokestatic idx, 3))) (h : qOk x L) : qG x S pc := by
  obtain ⟨γ, p, l, e, R, s, m, args, below, meth, c, Q, ⟨cc, nL', own⟩, A, D', adr, X, ms', w0, σe⟩ := x
  simp only [qxD] at eD
  simp only [qxms] at ems
  simp only at hcon
  subst eD
  subst ems
  obtain ⟨N, ⟨loc, stk⟩, M⟩ := S
  unfold qs_call at hs
  split at hs
  · rename_i k hk
    split at hs
    · rename_i hc
      simp only [Bool.and_eq_true, Nat.ble_eq] at hc
      obtain ⟨⟨⟨c1, c2⟩, c3⟩, c4⟩ := hc
      split at hs
      · rename_i y hy
        obtain ⟨con, hcB, hs⟩ := q_try hs
        unfold qtry1 at hs
        split at hs
        · rename_i hc
          simp only [Bool.and_eq_true, Nat.ble_eq, beq_iff_eq] at hc
          obtain ⟨⟨⟨⟨d1, d2⟩, d3⟩, d4⟩, d5⟩ := hc
          split at hs
          · rename_i z hz
            split at hs
            · rename_i hrel
              rw [List.all_eq_true] at hrel
              have hkf := List.find?_some hk
              simp only [Bool.and_eq_true, beq_iff_eq] at hkf
              obtain ⟨hki, hkv⟩ := hkf
              generalize hn0 : qna k virt = n0 at *
              intro σ ρ lv st ls ws H locs hw hl hS
              obtain ⟨h1, h2, h3, h4, h5, h6⟩ := hS
              have h3' := q_clr hD h1 h3 hw.2.1.1
              have hex : (qclr D' N M).2.2 = [] := by simpa using c3
              obtain ⟨σ1, ρ1, s1, r1, n1, m1, e1, f1⟩ := q_mat hD hw.2.1.1 h1 h3' hz
              have hFst := h2.2
              have hAs : F2 (qR σ ρ) (stk.take n0).reverse (st.take n0).reverse := (hFst.take n0).reverse
              have hrest : F2 (qR σ ρ) (stk.drop n0) (st.drop n0) := hFst.drop n0
              have hlen : st.length = stk.length := (F2.len hFst).symm
              have hH0 : qH D' γ adr (fun _ _ => False) ws := by
                refine ⟨h3.2.2.2.2.1, h3.2.2.2.2.2.1, fun q g a c hg hc => ?_⟩
                obtain ⟨r, r1, r2, r3⟩ := h3'.2.2.2.2.2.2 q g a c hg hc
                refine ⟨r, r1, r2, fun k hk => (r3 k hk).elim (fun ⟨n', z1, _⟩ => ?_) .inr⟩
                rw [hex] at z1; cases z1
              have hpre : qPre D' γ X con adr ws (st.take n0).reverse := by
                refine ⟨hH0, h4, q_tks hD h1 h3' hAs d4, fun f hf => ?_, fun r hr => ?_⟩
                · obtain ⟨k', hk'⟩ := List.getElem?_of_mem hf
                  obtain ⟨a, -, x, x1, x2, -⟩ := F2.get2 f1 hk'
                  exact ⟨_, x1, x2⟩
                · have hq := hrel r hr
                  unfold qrok at hq
                  split at hq
                  · rename_i a b ha hb
                    obtain ⟨fa, ga, xa, xa1, -, xa3⟩ := F2.idx f1 ha
                    obtain ⟨fb, gb, xb, xb1, -, xb3⟩ := F2.idx f1 hb
                    rw [Bool.and_eq_true, Bool.and_eq_true] at hq
                    exact ⟨_, _, by rw [ga]; exact xa1, by rw [gb]; exact xb1, q_ge n1 6 xa3 xb3 hq.2⟩
                  · cases hq
              obtain ⟨y', hy', hsem⟩ := hcon con hcB
              rw [d1, hy] at hy'
              cases hy'
              have hM := hsem adr ws _ hpre
              have hRR : con.1.2.1 + 1 ≤ R.frames ∧ 8 + (y.2.2.1 + 11) + con.1.2.2 ≤ R.locals := ⟨Nat.le_trans d2 hR.1, Nat.le_trans d3 hR.2⟩
              have hW8 : ((st.drop n0).map fun v => v.category).sum ≤ 8 := by rw [q_wt hrest]; exact c2
              have kk : ∀ (r : Option Value) (w1 : va_W) (H1 : Heap) (locs1 : List Loc), qPost D' γ X con adr ws (st.take n0).reverse r w1 → kW γ A w1 s H1 locs1 → W p l e R s m args below meth c H1 locs1 0 0 Q (F0 m (pc + 3) ls (r.toList ++ st.drop n0)) := by
                intro r w1 H1 locs1 hp hw1
                obtain ⟨p1, p2, p3, t, t1, t2⟩ := hp
                obtain ⟨Lt, l1, l2⟩ := q_cat hs (qalts D' z.1 (qdm D' z.2.1 con.2.2.2.2.2) loc (stk.drop n0) (stk.take n0).reverse z.2.2 pc t) (List.mem_map.mpr ⟨t, t1, rfl⟩)
                have m2 := q_dm hD m1 hw.2.1.1 p1 p3
                obtain ⟨N', M', ra, σ2, ρ2, g0, g1, g2, g3, g4, g5⟩ := q_alts hD hw1.2.1.1 n1 m2 (F2.mono (fun _ _ h => h.mono s1 r1) hAs) f1 t2 l1
                have hF := h2.mono (s1.trans g1) (r1.trans g2)
                exact h _ (l2 _ g0) σ2 ρ2 lv (r.toList ++ st.drop n0) ls w1 H1 locs1 hw1 hl ⟨g3, ⟨hF.1, F2.append g5 (F2.mono (fun _ _ h => h.mono (s1.trans g1) (r1.trans g2)) hrest)⟩, g4, p2, q_keepT h3 p1 d5 h5 p3, fun v x hv => g1 v x (s1 v x (h6 v x hv))⟩
              have hlk := hcl k (List.mem_of_find?_eq_some hk)
              have hsplit : st = (st.take n0).reverse.reverse ++ st.drop n0 := by rw [List.reverse_reverse, List.take_append_drop]
              have hnr : k.1 = idx := hki
              cases virt with
              | true =>
                simp only [qna, if_true] at hn0
                have hdg : decode cc pc = .ok (.invokevirtual k.1, 3) := by
                  rcases hdc with ⟨-, h9⟩ | ⟨h9, -⟩
                  · rw [hnr]; exact h9
                  · cases h9
                simp only [Bool.not_true, Bool.false_or] at c4
                unfold qrcv at c4
                have hne : ∃ b As, (st.take n0).reverse = .ref b :: As ∧ As.length = k.2.2.2.1 ∧ ((k.2.1 = 4 ∧ ∃ i, i < 26 ∧ b = γ.2.2.2.2 i) ∨ (¬ k.2.1 = 4 ∧ ∃ (q : Nat) (fs : List Value), ws[q]? = some (b, .inr (k.2.2.2.2, fs)))) := by
                  split at c4
                  · rename_i a as' hst
                    rw [hst] at hAs
                    match hv : (st.take n0).reverse, hAs with
                    | v :: As, ⟨hr, _⟩ =>
                    simp only [Bool.and_eq_true, beq_iff_eq] at c4
                    obtain ⟨c4a, c4b⟩ := c4
                    obtain ⟨b, rfl, hb⟩ := q_rfv hr c4a
                    refine ⟨b, As, rfl, ?_, ?_⟩
                    · have : (st.take n0).reverse.length = n0 := by rw [List.length_reverse, List.length_take]; omega
                      rw [hv] at this
                      simp at this
                      omega
                    · split at c4b
                      · rename_i g hg
                        split at c4b
                        · rename_i h44
                          simp only [beq_iff_eq] at h44 c4b
                          subst c4b
                          exact .inl ⟨h44, q_rgW hD h3' hg hb⟩
                        · rename_i h44
                          have h44 : ¬ k.2.1 = 4 := by simpa using h44
                          simp only [Bool.and_eq_true, Bool.not_eq_true', beq_eq_false_iff_ne, ne_eq] at c4b
                          obtain ⟨u1, u2⟩ := c4b
                          obtain ⟨q, cl, r', g1, g2, g3, g4, g5⟩ := q_cell hD h3' hg u1 hb
                          rw [g3] at u2
                          simp only [beq_iff_eq] at u2
                          obtain ⟨fs, rfl, -⟩ := q_obj g4 u2
                          exact .inr ⟨h44, q, fs, g2⟩
                      · cases c4b
                  · cases c4
                obtain ⟨b, As, hav, hal, hrc⟩ := hne
                have hst0 : st = As.reverse ++ .ref b :: st.drop n0 := by
                  have := hsplit
                  rw [hav, List.reverse_cons, List.append_assoc] at this
                  exact this
                rw [hav] at hM kk
                rcases hrc with ⟨k4, i, hi, rfl⟩ | ⟨k4, q, fs, hq⟩
                · rcases hlk with hlk | ⟨-, y2, e1, e2, e3, e4, e5, e6, e7, e8⟩
                  · obtain ⟨_, _, _, _, _, hkk⟩ := hlk
                    exfalso
                    rcases hkk with ⟨z, _⟩ | ⟨z, _⟩ | ⟨z, _⟩ | ⟨z, _⟩ <;> omega
                  · rw [hy] at e1
                    cases e1
                    exact k_VO (wr := []) k.2.2.2.1 e6 e7 e8 e3 e4 e5 hB hw hM hRR ⟨Nat.zero_le _, Nat.zero_le _⟩ hl.1 hal e2 hi hst0 hW8 (List.range ws.length) [] (q_nd _) (q_all ws) rfl rfl (fun _ h => by cases h) hdg (fun r w1 H1 locs1 hp hw1 => kk r w1 H1 locs1 hp hw1)
                · rcases hlk with hlk | ⟨z, -⟩
                  · refine k_callG hB hw hlk hy hM hRR hl.1 hal hW8 (.inl ⟨?_, b, q, fs, rfl, hq, hst0⟩) (.inl ⟨?_, hdg⟩) kk
                    · unfold qvirt at hkv
                      simp only [Bool.or_eq_true, beq_iff_eq] at hkv
                      omega
                    · unfold qvirt at hkv
                      simp only [Bool.or_eq_true, beq_iff_eq] at hkv
                      omega
                  · exact absurd z k4
              | false =>
                have hn0' : n0 = k.2.2.2.1 := by simp [qna] at hn0; exact hn0.symm
                have hdg : decode cc pc = .ok (.invokestatic k.1, 3) := by
                  rcases hdc with ⟨h9, -⟩ | ⟨-, h9⟩
                  · cases h9
                  · rw [hnr]; exact h9
                have hkv' : ¬ k.2.1 = 0 ∧ ¬ k.2.1 = 2 ∧ ¬ k.2.1 = 4 := by
                  unfold qvirt at hkv
                  simp at hkv
                  omega
                rcases hlk with hlk | ⟨z, -⟩
                · have hk13 : k.2.1 = 1 ∨ k.2.1 = 3 := by
                    obtain ⟨_, _, _, _, _, hkk⟩ := hlk
                    rcases hkk with ⟨z, _⟩ | ⟨z, _⟩ | ⟨z, _⟩ | ⟨z, _⟩ <;> omega
                  refine k_callG hB hw hlk hy hM hRR hl.1 (As := (st.take n0).reverse) ?_ hW8 (.inr ⟨hk13, rfl, hsplit⟩) (.inr ⟨hk13, hdg⟩) kk
                  rw [List.length_reverse, List.length_take]
                  omega
                · exact absurd z hkv'.2.2
            · cases hs
          · cases hs
        · cases hs
      · cases hs
    · cases hs
  · cases hs
end
section
/-! returns and cuts -/
theorem q_H0 {D : qWd} (hD : qD D) {γ : kΓ} {adr : List Nat} {σ : qσ} {ρ : qρ} {N : qN} {M : qM} {ws : va_W} (hN : qsN D σ N) (hH : qsM D γ adr σ ρ M ws) (hdis : ∀ (i j : Nat) (p q : Nat × va_E), ws[i]? = some p → ws[j]? = some q → p.1 = q.1 → i = j) (hex : (qclr D N M).2.2.isEmpty = true) : qH D γ adr (fun _ _ => False) ws := by
  have h3' := q_clr hD hN hH hdis
  have hex : (qclr D N M).2.2 = [] := by simpa using hex
  refine ⟨hH.2.2.2.2.1, hH.2.2.2.2.2.1, fun q g a c hg hc => ?_⟩
  obtain ⟨r, r1, r2, r3⟩ := h3'.2.2.2.2.2.2 q g a c hg hc
  refine ⟨r, r1, r2, fun k hk => (r3 k hk).elim (fun ⟨n', z1, _⟩ => ?_) .inr⟩
  rw [hex] at z1; cases z1
def qEn (σe : qσ) (w0 : va_W) (av : List Value) (ea pa : List AV) (c : qCon) : Prop :=
  (∀ (i : Nat) (a : AV), ea[i]? = some a → a.1 ≤ 1 → ∃ x : Int32, av[i]? = some (.int x) ∧ qvl σe a = some x.toInt) ∧ F2 (fun a f => ∃ x : Int32, qval w0 f = some x.toInt ∧ qvl σe a = some x.toInt) pa c.2.2.1
def qralt (D : qWd) (N : qN) (M : qM) (ea pa : List AV) (v : Option AV) (t : qAlt) : Bool :=
  (match t.1, v with
    | none, none => true
    | some ty, some a => qtk D N M a ty
    | _, _ => false) && (match qmat D N M t.2.1 with
    | some z => t.2.2.1.all (fun q => match ea[q.1]? with
        | some a => qint a && (match qiv N a with
          | some p => qle q.2.1 p.1 && qle p.2 q.2.2
          | none => false)
        | none => false) && t.2.2.2.1.all (qrok z.1 (pa ++ (z.2.2 ++ ea)))
    | none => false) && (match t.2.2.2.2 with
    | none => true
    | some q => Nat.blt q.1 D.2.2 && (match v, ea[q.2]? with
      | some a, some e => qint a && qkyb e && M.2.1.any (fun f => f.1 == q.1 && f.2.1 == qky e && decide (f.2.2 = a))
      | _, _ => false))
def qret (D : qWd) (c : qCon) (ea pa : List AV) (N : qN) (M : qM) (v : Option AV) : Bool := (qclr D N M).2.2.isEmpty && c.2.2.2.2.1.any (qralt D N (qclr D N M) ea pa v)
theorem q_ret {D : qWd} (hD : qD D) {γ : kΓ} {adr : List Nat} {X : va_W → Prop} {c : qCon} {ea pa : List AV} {σ σe : qσ} {ρ : qρ} {N : qN} {M : qM} {ws w0 : va_W} {av : List Value} (hE : qEn σe w0 av ea pa c) (hσ : qle1 σe σ) (hN : qsN D σ N) (hH : qsM D γ adr σ ρ M ws) (hx : X ws) (hK : qK D c.2.2.2.2.2 w0 ws) (hdis : ∀ (i j : Nat) (p q : Nat × va_E), ws[i]? = some p → ws[j]? = some q → p.1 = q.1 → i = j)
    {v : Option AV} {r : Option Value} (hv : (v = none ∧ r = none) ∨ ∃ a w, v = some a ∧ r = some w ∧ qR σ ρ a w) (h : qret D c ea pa N M v = true) : qPost D γ X c adr w0 av r ws := by
  unfold qret at h
  simp only [Bool.and_eq_true, List.any_eq_true] at h
  obtain ⟨h1, t, t1, t2⟩ := h
  have hH' := q_clr hD hN hH hdis
  refine ⟨q_H0 hD hN hH hdis h1, hx, hK, t, t1, ?_⟩
  unfold qralt at t2
  simp only [Bool.and_eq_true] at t2
  obtain ⟨⟨t3, t4⟩, t7⟩ := t2
  split at t4
  · rename_i z hz
    simp only [Bool.and_eq_true, List.all_eq_true] at t4
    obtain ⟨t5, t6⟩ := t4
    obtain ⟨σ1, ρ1, s1, r1, n1, m1, e1, f1⟩ := q_mat hD hdis hN hH' hz
    refine ⟨?_, fun f hf => ?_, fun q hq => ?_, fun q hq => ?_, fun q hq => ?_⟩
    · rcases hv with ⟨rfl, rfl⟩ | ⟨a, w, rfl, rfl, hr⟩
      · split at t3
        · rename_i h0 _; exact .inl ⟨h0, rfl⟩
        · rename_i h0; cases h0
        · cases t3
      · split at t3
        · rename_i h0; cases h0
        · rename_i ty a' h0 h2
          cases h2
          exact .inr ⟨ty, w, h0, rfl, q_tk hD hN hH' hr t3⟩
        · cases t3
    · obtain ⟨k', hk'⟩ := List.getElem?_of_mem hf
      obtain ⟨a, -, x, x1, x2, -⟩ := F2.get2 f1 hk'
      exact ⟨_, x1, x2⟩
    · have h5 := t5 q hq
      split at h5
      · rename_i a ha
        simp only [Bool.and_eq_true] at h5
        obtain ⟨h5, h6⟩ := h5
        split at h6
        · rename_i p hp
          simp only [Bool.and_eq_true, qle, decide_eq_true_eq] at h6
          obtain ⟨x, x1, x2⟩ := hE.1 _ _ ha (by unfold qint at h5; simpa using h5)
          have h7 := q_ivV hN (q_vlm hσ x2) hp
          exact ⟨x, x1, Int.le_trans h6.1 h7.1, Int.le_trans h7.2 h6.2⟩
        · cases h6
      · cases h5
    · have hq' := t6 q hq
      have hlen : pa.length = c.2.2.1.length := F2.len hE.2
      have hlen2 : z.2.2.length = t.2.1.length := F2.len f1
      have key : ∀ (i : Nat) (a : AV), (pa ++ (z.2.2 ++ ea))[i]? = some a → qint a = true → ∃ x : Int, qpv c.2.2.1 t.2.1 w0 ws av i = some x ∧ qvl σ1 a = some x := by
        intro i a ha hint
        unfold qpv
        by_cases hi : i < c.2.2.1.length
        · rw [if_pos hi]
          rw [List.getElem?_append_left (by omega)] at ha
          obtain ⟨f, hf, x, x1, x3⟩ := F2.idx hE.2 ha
          exact ⟨_, by rw [hf]; exact x1, q_vlm s1 (q_vlm hσ x3)⟩
        · rw [if_neg hi]
          rw [List.getElem?_append_right (by omega), hlen] at ha
          by_cases hi2 : i < c.2.2.1.length + t.2.1.length
          · rw [if_pos hi2]
            rw [List.getElem?_append_left (by omega)] at ha
            obtain ⟨f, hf, x, x1, -, x3⟩ := F2.idx f1 ha
            exact ⟨_, by rw [hf]; exact x1, x3⟩
          · rw [if_neg hi2]
            rw [List.getElem?_append_right (by omega), hlen2, show i - c.2.2.1.length - t.2.1.length = i - (c.2.2.1.length + t.2.1.length) by omega] at ha
            obtain ⟨x, x1, x2⟩ := hE.1 _ _ ha (by unfold qint at hint; simpa using hint)
            exact ⟨x.toInt, by rw [x1], q_vlm s1 (q_vlm hσ x2)⟩
      unfold qrok at hq'
      split at hq'
      · rename_i a b ha hb
        rw [Bool.and_eq_true, Bool.and_eq_true] at hq'
        obtain ⟨x, x1, x2⟩ := key _ _ ha hq'.1.1
        obtain ⟨y, y1, y2⟩ := key _ _ hb hq'.1.2
        exact ⟨x, y, x1, y1, q_ge n1 6 x2 y2 hq'.2⟩
      · cases hq'
    · rw [hq] at t7
      simp only [Bool.and_eq_true, Nat.blt_eq] at t7
      obtain ⟨t8, t9⟩ := t7
      split at t9
      · rename_i a e ha
        rcases hv with ⟨h0, -⟩ | ⟨a2, w, h0, rfl, hr⟩
        · cases h0
        · cases h0
          simp only [Bool.and_eq_true, List.any_eq_true, beq_iff_eq, decide_eq_true_eq] at t9
          obtain ⟨⟨hint, kb⟩, ⟨n', k', avf⟩, hm, ⟨f1', f2'⟩, f3'⟩ := t9
          simp only at f1' f2' f3'
          subst f1'
          subst f2'
          subst f3'
          obtain ⟨yv, rfl⟩ := q_int hr hint
          obtain ⟨q', a', c', v', ix, g1, g2, g3, g4, g5⟩ := hH'.2.2.2.1 _ _ _ hm
          obtain ⟨yv', rfl⟩ := q_int g4 hint
          have hyy : yv' = yv := by
            have e1 := q_vl g4
            have e2 := q_vl hr
            rw [e1] at e2
            exact Int32.toInt_inj.mp (Option.some.inj e2)
          subst hyy
          have he0 : e.1 = 0 := by unfold qkyb at kb; simp only [Bool.and_eq_true, beq_iff_eq] at kb; exact kb.1.1
          obtain ⟨x, x1, x2⟩ := hE.1 _ _ ha (by omega)
          have x3 := q_vlm hσ x2
          unfold qvl at x3
          rw [if_pos he0, Option.map_eq_some_iff] at x3
          obtain ⟨u, hu, eu⟩ := x3
          obtain ⟨u', hu', eu'⟩ := (q_ky kb).mp g5
          rw [hu] at hu'
          cases hu'
          have hx0 : 0 ≤ x.toInt := by omega
          have hcl := q_clamp hx0
          have hix : ix = x.toNatClampNeg := by omega
          subst hix
          have hpos : ws[q.1]? = some (a', c') := by
            have h9 := hH'.1 q.1 t8
            rw [g2] at h9
            obtain ⟨c9, h10⟩ := q_adr hH' h9.symm
            have h11 := hdis q' q.1 _ _ g1 h10 rfl
            rw [h11] at g1
            exact g1
          exact ⟨a', c', x, yv', hpos, x1, hx0, rfl, g3⟩
      · cases t9
  · cases t4
/-- a state held against a cut: a substitution -/
abbrev qTh : Type := List AV × List Nat
def qthr (nS : Nat) (θ : qTh) (n : Nat) : Option Nat := if n < nS then some n else θ.2[n - nS]?
def qav (nS : Nat) (N : qN) (θ : qTh) (a b : AV) : Bool :=
  if a.1 = 0 then (match θ.1[a.2.1]? with
    | some t => qint t && qint b && t.1 == b.1 && t.2.1 == b.2.1 && decide (t.2.2 + a.2.2 = b.2.2)
    | none => false)
  else if a.1 = 1 then qlit N b == some a.2.2
  else if a.1 = 2 then (match θ.1[a.2.1]? with
    | some t => t.1 == 2 && b.1 == 2 && t.2.1 == b.2.1
    | none => false)
  else if a.1 = 3 then b.1 == 3 && qthr nS θ a.2.1 == some b.2.1
  else false
def qσθ (σ : qσ) (θ : qTh) : qσ := fun v => match θ.1[v]? with
  | some t => if t.1 = 2 then σ t.2.1 else qvl σ t
  | none => none
def qρθ (nS : Nat) (ρ : qρ) (θ : qTh) : qρ := fun n => match qthr nS θ n with
  | some m => ρ m
  | none => none
theorem q_av {D : qWd} {nS : Nat} {σ : qσ} {ρ : qρ} {N : qN} (hN : qsN D σ N) {θ : qTh} {a b : AV} {v : Value} (hb : qR σ ρ b v) (h : qav nS N θ a b = true) : qR (qσθ σ θ) (qρθ nS ρ θ) a v := by
  unfold qav at h
  split at h
  · rename_i h0
    split at h
    · rename_i t ht
      simp only [Bool.and_eq_true, beq_iff_eq, decide_eq_true_eq] at h
      obtain ⟨⟨⟨⟨h1, h2⟩, h3⟩, h4⟩, h5⟩ := h
      obtain ⟨x, rfl⟩ := q_int hb h2
      have hx := q_vl hb
      refine .inl ⟨h0, x, x.toInt - a.2.2, rfl, ?_, by omega⟩
      unfold qσθ
      rw [ht]
      simp only
      have ht2 : ¬ t.1 = 2 := by unfold qint at h1; have := Nat.ble_eq.mp h1; omega
      rw [if_neg ht2]
      unfold qvl at hx ⊢
      rw [h3]
      split at hx
      · rename_i h9
        rw [if_pos h9]
        rw [Option.map_eq_some_iff] at hx ⊢
        obtain ⟨u, u1, u2⟩ := hx
        exact ⟨u, by rw [h4]; exact u1, by omega⟩
      · rename_i h9
        rw [if_neg h9]
        split at hx
        · rename_i h8
          rw [if_pos h8]
          simp only [Option.some.injEq] at hx ⊢
          omega
        · cases hx
    · cases h
  · split at h
    · rename_i h1
      simp only [beq_iff_eq] at h
      obtain ⟨x, rfl, hx⟩ := q_lit hN hb h
      exact .inr (.inl ⟨h1, x, rfl, hx⟩)
    · split at h
      · rename_i h2
        split at h
        · rename_i t ht
          simp only [Bool.and_eq_true, beq_iff_eq] at h
          obtain ⟨⟨h3, h4⟩, h5⟩ := h
          rcases hb with ⟨t9, _⟩ | ⟨t9, _⟩ | ⟨_, x, rfl, hs⟩ | ⟨t9, _⟩
          · rw [h4] at t9; cases t9
          · rw [h4] at t9; cases t9
          · refine .inr (.inr (.inl ⟨h2, x, rfl, ?_⟩))
            unfold qσθ
            rw [ht]
            simp only
            rw [if_pos h3, h5]; exact hs
          · rw [h4] at t9; cases t9
        · cases h
      · split at h
        · rename_i h3
          simp only [Bool.and_eq_true, beq_iff_eq] at h
          obtain ⟨n, rfl, hn⟩ := q_rfv hb h.1
          refine .inr (.inr (.inr ⟨h3, n, rfl, ?_⟩))
          unfold qρθ
          rw [h.2]; exact hn
        · cases h
def qfit (N : qN) (t : AV) (p : qIv) : Bool := match (if t.1 = 2 then N.1[t.2.1]? else qiv N t) with
  | some q => qle p.1 q.1 && qle q.2 p.2
  | none => false
def qall2 {α β : Type} (f : α → β → Bool) : List α → List β → Bool
  | [], [] => true
  | a :: as, b :: bs => f a b && qall2 f as bs
  | _, _ => false
theorem q_all2 {α β : Type} {f : α → β → Bool} : ∀ {l : List α} {l' : List β}, qall2 f l l' = true → l.length = l'.length ∧ ∀ (k : Nat) (a : α) (b : β), l[k]? = some a → l'[k]? = some b → f a b = true
  | [], [], _ => ⟨rfl, fun k a b h => by simp at h⟩
  | a :: as, b :: bs, h => by
    simp only [qall2, Bool.and_eq_true] at h
    obtain ⟨h1, h2⟩ := q_all2 h.2
    refine ⟨by simp [h1], fun k x y hx hy => ?_⟩
    cases k with
    | zero => simp at hx hy; subst hx; subst hy; exact h.1
    | succ k => exact h2 k x y (by simpa using hx) (by simpa using hy)
  | [], _ :: _, h => by simp [qall2] at h
  | _ :: _, [], h => by simp [qall2] at h
/-- S goes into C by θ -/
def qsub1 (D : qWd) (n0 : Nat) (S C : AS) (θ : qTh) : Bool :=
  qall2 (qfit S.1) θ.1 C.1.1 &&
  C.1.2.1.all (fun r => match θ.1[r.1]?, θ.1[r.2.1]? with
    | some a, some b => qint a && qint b && qge 6 S.1 a b r.2.2
    | _, _ => false) && C.1.2.2.isEmpty &&
  C.2.1.1.all (fun q => match S.2.1.1.find? (fun z => z.1 == q.1) with
    | some z => qav D.2.2 S.1 θ q.2 z.2
    | none => false) &&
  qall2 (qav D.2.2 S.1 θ) C.2.1.2 S.2.1.2 &&
  qall2 (fun m g => qrg D S.2.2 m == some g) θ.2 C.2.2.1 &&
  C.2.2.2.1.all (fun e => Nat.blt e.2.1 10000 && match qthr D.2.2 θ e.1 with
    | some m => (match S.2.2.2.1.find? (fun f => f.1 == m && f.2.1 == e.2.1) with
      | some f => qav D.2.2 S.1 θ e.2.2 f.2.2
      | none => false)
    | none => false) && C.2.2.2.2.isEmpty && (qclr D S.1 S.2.2).2.2.isEmpty &&
  (List.range n0).all (fun v => match θ.1[v]? with
    | some t => t.2.1 == v && decide (t.2.2 = 0) && (t.1 == 0 || t.1 == 2)
    | none => false)
theorem q_lvs {σ σ' : qσ} {ρ ρ' : qρ} {SL : List (Nat × AV)} {lv : List (Nat × Value)} (hF : F2 (fun x y => x.1 = y.1 ∧ qR σ ρ x.2 y.2) SL lv) {f : AV → AV → Bool} (hf : ∀ a b v, qR σ ρ b v → f a b = true → qR σ' ρ' a v) : ∀ {CL : List (Nat × AV)}, (∀ q ∈ CL, (match SL.find? (fun z => z.1 == q.1) with
    | some z => f q.2 z.2
    | none => false) = true) → ∃ lv' : List (Nat × Value), F2 (fun x y => x.1 = y.1 ∧ qR σ' ρ' x.2 y.2) CL lv' ∧ ∀ q ∈ lv', q ∈ lv
  | [], _ => ⟨[], trivial, fun _ h => by cases h⟩
  | q :: CL, h => by
    obtain ⟨lv', h1, h2⟩ := q_lvs hF hf (CL := CL) (fun q hq => h q (List.mem_cons_of_mem _ hq))
    have h3 := h q List.mem_cons_self
    split at h3
    · rename_i z hz
      have h4 := List.find?_some hz
      simp only [beq_iff_eq] at h4
      obtain ⟨⟨i, v⟩, h5, h6, h7⟩ := F2.mem hF (List.mem_of_find?_eq_some hz)
      refine ⟨(i, v) :: lv', ⟨⟨?_, hf _ _ _ h7 h3⟩, h1⟩, fun y hy => ?_⟩
      · simp only at h6 ⊢; rw [← h4, h6]
      · rcases List.mem_cons.mp hy with e | hy
        · rw [e]; exact h5
        · exact h2 y hy
    · cases h3
theorem q_sub1 {D : qWd} (hD : qD D) {γ : kΓ} {adr : List Nat} {n0 : Nat} {S C : AS} {θ : qTh} {σ : qσ} {ρ : qρ} {lv : List (Nat × Value)} {st : List Value} {ws : va_W} (hN : qsN D σ S.1) (hF : qsF σ ρ S.2.1 lv st) (hH : qsM D γ adr σ ρ S.2.2 ws) (hdis : ∀ (i j : Nat) (p q : Nat × va_E), ws[i]? = some p → ws[j]? = some q → p.1 = q.1 → i = j) (h : qsub1 D n0 S C θ = true) :
    ∃ lv' : List (Nat × Value), (∀ q ∈ lv', q ∈ lv) ∧ qsN D (qσθ σ θ) C.1 ∧ qsF (qσθ σ θ) (qρθ D.2.2 ρ θ) C.2.1 lv' st ∧ qsM D γ adr (qσθ σ θ) (qρθ D.2.2 ρ θ) C.2.2 ws ∧ ∀ v, v < n0 → qσθ σ θ v = σ v := by
  unfold qsub1 at h
  simp only [Bool.and_eq_true] at h
  obtain ⟨⟨⟨⟨⟨⟨⟨⟨⟨h1, h2⟩, h3⟩, h4⟩, h5⟩, h6⟩, h7⟩, h8⟩, h9⟩, h10⟩ := h
  obtain ⟨l1, k1⟩ := q_all2 h1
  obtain ⟨l5, k5⟩ := q_all2 h5
  obtain ⟨l6, k6⟩ := q_all2 h6
  rw [List.all_eq_true] at h2 h4 h7 h10
  have hav : ∀ a b v, qR σ ρ b v → qav D.2.2 S.1 θ a b = true → qR (qσθ σ θ) (qρθ D.2.2 ρ θ) a v := fun a b v hb h => q_av hN hb h
  obtain ⟨lv', f1, f2⟩ := q_lvs hF.1 hav h4
  have hH0 := q_H0 hD hN hH hdis h9
  refine ⟨lv', f2, ⟨?_, ?_, ?_, ?_⟩, ⟨f1, ?_⟩, ⟨?_, ?_, ?_, ?_, ?_⟩, ?_⟩
  · intro v hv
    unfold qσθ
    rw [List.getElem?_eq_none (by omega)]
  · intro v iv hv
    have hl : v < θ.1.length := by rw [l1]; exact (List.getElem?_eq_some_iff.mp hv).1
    have ht : θ.1[v]? = some θ.1[v] := List.getElem?_eq_getElem hl
    have hf := k1 v _ _ ht hv
    unfold qfit at hf
    unfold qσθ
    rw [ht]
    simp only
    split at hf
    · rename_i q hq
      simp only [Bool.and_eq_true, qle, decide_eq_true_eq] at hf
      split at hq
      · rename_i t2
        rw [if_pos t2]
        obtain ⟨x, x1, x2⟩ := hN.2.1 _ _ hq
        exact ⟨x, x1, Int.le_trans hf.1 x2.1, Int.le_trans x2.2 hf.2⟩
      · rename_i t2
        rw [if_neg t2]
        have hs : ∃ x, qvl σ θ.1[v] = some x := by
          unfold qiv at hq
          unfold qvl
          split at hq
          · rename_i t0
            rw [if_pos t0]
            rw [Option.map_eq_some_iff] at hq
            obtain ⟨p, p1, p2⟩ := hq
            obtain ⟨x, x1, -⟩ := hN.2.1 _ _ p1
            exact ⟨_, by rw [x1]; rfl⟩
          · rename_i t0
            rw [if_neg t0]
            split at hq
            · rename_i t1; rw [if_pos t1]; exact ⟨_, rfl⟩
            · cases hq
        obtain ⟨x, hx⟩ := hs
        have h11 := q_ivV hN hx hq
        exact ⟨x, hx, Int.le_trans hf.1 h11.1, Int.le_trans h11.2 hf.2⟩
    · cases hf
  · intro a b d hm
    have hq := h2 _ hm
    simp only at hq
    split at hq
    · rename_i ta tb hta htb
      simp only [Bool.and_eq_true] at hq
      obtain ⟨⟨qa, qb⟩, qc⟩ := hq
      have key : ∀ (t : AV) (v : Nat), θ.1[v]? = some t → qint t = true → ∃ x, qσθ σ θ v = some x ∧ qvl σ t = some x := by
        intro t v ht hi
        have ht2 : ¬ t.1 = 2 := by unfold qint at hi; have := Nat.ble_eq.mp hi; omega
        have hl : v < C.1.1.length := by rw [← l1]; exact (List.getElem?_eq_some_iff.mp ht).1
        have hf := k1 v _ _ ht (List.getElem?_eq_getElem hl)
        unfold qfit at hf
        rw [if_neg ht2] at hf
        have hs : ∃ x, qvl σ t = some x := by
          split at hf
          · rename_i q hq
            unfold qiv at hq
            unfold qvl
            split at hq
            · rename_i t0
              rw [if_pos t0]
              rw [Option.map_eq_some_iff] at hq
              obtain ⟨p, p1, p2⟩ := hq
              obtain ⟨x, x1, -⟩ := hN.2.1 _ _ p1
              exact ⟨_, by rw [x1]; rfl⟩
            · rename_i t0
              rw [if_neg t0]
              split at hq
              · rename_i t1; rw [if_pos t1]; exact ⟨_, rfl⟩
              · cases hq
          · cases hf
        obtain ⟨x, hx⟩ := hs
        refine ⟨x, ?_, hx⟩
        unfold qσθ
        rw [ht]
        simp only
        rw [if_neg ht2]; exact hx
      obtain ⟨x, x1, x2⟩ := key ta a hta qa
      obtain ⟨y, y1, y2⟩ := key tb b htb qb
      exact ⟨x, y, x1, y1, q_ge hN 6 x2 y2 qc⟩
    · cases hq
  · intro v g V d hm
    have : C.1.2.2 = [] := by simpa using h3
    rw [this] at hm; cases hm
  · have go : ∀ {cs ss : List AV} {st : List Value}, qall2 (qav D.2.2 S.1 θ) cs ss = true → F2 (qR σ ρ) ss st → F2 (qR (qσθ σ θ) (qρθ D.2.2 ρ θ)) cs st := by
      intro cs
      induction cs with
      | nil =>
        intro ss st h hs
        cases ss with
        | nil => cases st with
          | nil => exact trivial
          | cons => exact hs.elim
        | cons => simp [qall2] at h
      | cons a cs ih =>
        intro ss st h hs
        cases ss with
        | nil => simp [qall2] at h
        | cons b ss => cases st with
          | nil => exact hs.elim
          | cons v st =>
            simp only [qall2, Bool.and_eq_true] at h
            exact ⟨hav _ _ _ hs.1 h.1, ih h.2 hs.2⟩
    exact go h5 hF.2
  · intro n hn
    unfold qρθ qthr
    rw [if_pos hn]
    exact hH.1 n hn
  · intro j g hj
    have hl : j < θ.2.length := by rw [l6]; exact (List.getElem?_eq_some_iff.mp hj).1
    have ht : θ.2[j]? = some θ.2[j] := List.getElem?_eq_getElem hl
    have hf := k6 j _ _ ht hj
    simp only [beq_iff_eq] at hf
    have hs : ∃ a, ρ θ.2[j] = some a := by
      unfold qrg at hf
      split at hf
      · rename_i hlt
        rw [hH.1 _ hlt]
        have h11 := hD.2.1 _ hlt
        have hl2 : θ.2[j] < adr.length := by
          rw [← hH.2.2.2.2.1, List.length_map, hH.2.2.2.2.2.1]
          exact (List.getElem?_eq_some_iff.mp h11).1
        exact ⟨_, List.getElem?_eq_getElem hl2⟩
      · rename_i hlt
        obtain ⟨a, a1, -⟩ := hH.2.1 _ _ hf
        rw [show D.2.2 + (θ.2[j] - D.2.2) = θ.2[j] by omega] at a1
        exact ⟨a, a1⟩
    obtain ⟨a, ha⟩ := hs
    refine ⟨a, ?_, q_inR hD hH hf ha⟩
    unfold qρθ qthr
    rw [if_neg (by omega), show D.2.2 + j - D.2.2 = j by omega, ht]
    exact ha
  · intro n hn
    unfold qρθ qthr
    rw [if_neg (by omega), List.getElem?_eq_none (by omega)]
  · intro n k av hm
    have hq := h7 _ hm
    rw [Bool.and_eq_true, Nat.blt_eq] at hq
    obtain ⟨hk10, hq⟩ := hq
    simp only at hq hk10
    split at hq
    · rename_i m hm2
      split at hq
      · rename_i f hf
        have hf2 := List.find?_some hf
        simp only [Bool.and_eq_true, beq_iff_eq] at hf2
        obtain ⟨n', k', av'⟩ := f
        obtain ⟨q, a, c, v, ix, g1, g2, g3, g4, g5⟩ := hH.2.2.2.1 n' k' av' (List.mem_of_find?_eq_some hf)
        simp only at hf2
        obtain ⟨e1, e2⟩ := hf2
        subst e1; subst e2
        have hix : ix = k' := by
          rcases g5 with ⟨-, h7⟩ | ⟨h7, -⟩
          · exact h7
          · omega
        subst hix
        refine ⟨q, a, c, v, ix, g1, ?_, g3, hav _ _ _ g4 hq, .inl ⟨hk10, rfl⟩⟩
        unfold qρθ
        rw [hm2]; exact g2
      · cases hq
    · cases hq
  · refine ⟨hH0.1, hH0.2.1, fun q g a c hg hc => ?_⟩
    obtain ⟨r, r1, r2, r3⟩ := hH0.2.2 q g a c hg hc
    exact ⟨r, r1, r2, fun k hk => (r3 k hk).elim (fun f => f.elim) .inr⟩
  · intro v hv
    have hq := h10 v (List.mem_range.mpr hv)
    split at hq
    · rename_i t ht
      simp only [Bool.and_eq_true, beq_iff_eq, decide_eq_true_eq, Bool.or_eq_true] at hq
      obtain ⟨⟨q1, q2⟩, q3⟩ := hq
      unfold qσθ
      rw [ht]
      simp only
      rcases q3 with q3 | q3
      · rw [if_neg (by omega)]
        unfold qvl
        rw [if_pos q3, q1, q2]
        cases σ v <;> simp
      · rw [if_pos q3, q1]
    · cases hq
end
section
/-! one step -/
def qif (b : Bool) (o : Option qSu) : Option qSu := if b then o else none
theorem q_if {b : Bool} {o : Option qSu} {L : qSu} (h : qif b o = some L) : b = true ∧ o = some L := by
  cases b with
  | true => exact ⟨rfl, h⟩
  | false => cases h
def qor2 (a b : Option qSu) : Option qSu := match a with
  | some L => some L
  | none => b
theorem q_or2 {a b : Option qSu} {L : qSu} (h : qor2 a b = some L) : a = some L ∨ b = some L := by
  cases a with
  | some x => exact .inl h
  | none => exact .inr h
def qcst (cs : List (Nat × Bool × Int)) (j : Nat) (f : Nat × Bool × Int → Bool) (k : Int → Option qSu) : Option qSu := match cs.find? (fun q => q.1 == j && f q) with
  | some q => k q.2.2
  | none => none
theorem q_cns {cs : List (Nat × Bool × Int)} {j : Nat} {f : Nat × Bool × Int → Bool} {k : Int → Option qSu} {L : qSu} (h : qcst cs j f k = some L) : ∃ q ∈ cs, q.1 = j ∧ f q = true ∧ k q.2.2 = some L := by
  unfold qcst at h
  split at h
  · rename_i q hq
    have h1 := List.find?_some hq
    simp only [Bool.and_eq_true, beq_iff_eq] at h1
    exact ⟨q, List.mem_of_find?_eq_some hq, h1.1, h1.2, h⟩
  · cases h
theorem q_cmp (y z : Int64) : qIn (-1, 1) (lg_cmp y z).toInt := by
  unfold lg_cmp
  repeat' split
  all_goals exact ⟨by decide, by decide⟩
theorem q_fin2 : ∀ n : Fin 2, (Int64.ofNat (n : Nat)).toInt = ((n : Nat) : Int) := by decide
theorem q_c0 {x y : Int32} (h : x = y) : qcnd 0 x.toInt y.toInt := by rw [h]; rfl
theorem q_c1 {x y : Int32} (h : ¬ x = y) : qcnd 1 x.toInt y.toInt := fun e => h (Int32.toInt_inj.mp e)
theorem q_c2 {x y : Int32} (h : x < y) : qcnd 2 x.toInt y.toInt := Int32.lt_iff_toInt_lt.mp h
theorem q_c3 {x y : Int32} (h : ¬ x < y) : qcnd 3 x.toInt y.toInt := fun e => h (Int32.lt_iff_toInt_lt.mpr e)
theorem q_c3b {x y : Int32} (h : y ≤ x) : qcnd 3 x.toInt y.toInt := fun e => by have := Int32.le_iff_toInt_le.mp h; omega
theorem q_c2b {x y : Int32} (h : ¬ y ≤ x) : qcnd 2 x.toInt y.toInt := by
  have : ¬ y.toInt ≤ x.toInt := fun e => h (Int32.le_iff_toInt_le.mpr e)
  show x.toInt < y.toInt
  omega
theorem q_c4 {x y : Int32} (h : y < x) : qcnd 4 x.toInt y.toInt := Int32.lt_iff_toInt_lt.mp h
theorem q_c5 {x y : Int32} (h : ¬ y < x) : qcnd 5 x.toInt y.toInt := fun e => h (Int32.lt_iff_toInt_lt.mpr e)
theorem q_c5b {x y : Int32} (h : x ≤ y) : qcnd 5 x.toInt y.toInt := fun e => by have := Int32.le_iff_toInt_le.mp h; omega
theorem q_c4b {x y : Int32} (h : ¬ x ≤ y) : qcnd 4 x.toInt y.toInt := by
  have : ¬ x.toInt ≤ y.toInt := fun e => h (Int32.le_iff_toInt_le.mpr e)
  show y.toInt < x.toInt
  omega
/-- a class's own rows: fields, calls, numbers, words, words' fields, copies -/
abbrev qTb : Type := List qFd × List qCl × List (Nat × Bool × Int) × List Nat × List (Nat × Nat) × List Nat × List (Nat × Bool)
def qTbk (own : String) (MT : List qMt) (tb : qTb) : Prop :=
  (∀ f ∈ tb.1, qft own f) ∧ (∀ k ∈ tb.2.1, qlk4 own MT k) ∧ (∀ q ∈ tb.2.2.1, (q.2.1 = false → ∃ v : Int32, v.toInt = q.2.2 ∧ Cond.constant own q.1 v ∈ kG) ∧ (q.2.1 = true → ∃ v : Int64, v.toInt = q.2.2 ∧ Cond.constantLong own q.1 v ∈ kG)) ∧
  (∀ i ∈ tb.2.2.2.1, qstk own i) ∧ (∀ f ∈ tb.2.2.2.2.1, qwfk own f) ∧ (∀ i ∈ tb.2.2.2.2.2.1, Cond.methodLink own i arraycopyName ∈ kG) ∧ (∀ q ∈ tb.2.2.2.2.2.2, qmmk own q)
def qstep (D : qWd) (ms : qMods) (xr : List Nat) (tb : qTb) (MT : List qMt) (B : List qCon) (fr lc nL : Nat) (S : AS) (pc : Nat) (i : Instr) (len : Nat) : Option qSu :=
  match i with
  | .iload_n k => qif (len == 1) (qs_ld (fun t => Nat.ble t 1) S k pc 1)
  | .iload k => qif (len == 2) (qs_ld (fun t => Nat.ble t 1) S k pc 2)
  | .aload_n k => qif (len == 1) (qs_ld (fun t => t == 3) S k pc 1)
  | .aload k => qif (len == 2) (qs_ld (fun t => t == 3) S k pc 2)
  | .lload_n k => qif (len == 1) (qs_ld (fun t => t == 2) S k pc 1)
  | .lload k => qif (len == 2) (qs_ld (fun t => t == 2) S k pc 2)
  | .istore_n k => qif (len == 1) (qs_st (fun t => Nat.ble t 1) S nL k pc 1)
  | .istore k => qif (len == 2) (qs_st (fun t => Nat.ble t 1) S nL k pc 2)
  | .astore_n k => qif (len == 1) (qs_st (fun t => t == 3) S nL k pc 1)
  | .astore k => qif (len == 2) (qs_st (fun t => t == 3) S nL k pc 2)
  | .lstore_n k => qif (len == 1) (qs_sl S nL k pc 1)
  | .lstore k => qif (len == 2) (qs_sl S nL k pc 2)
  | .iconst n => qif (len == 1) (qif (qle (-1) n && qle n 5) (qs_c S n pc 1))
  | .bipush n => qif (len == 2) (qif (qle (-128) n && qle n 127) (qs_c S n pc 2))
  | .sipush n => qif (len == 3) (qif (qle (-32768) n && qle n 32767) (qs_c S n pc 3))
  | .lconst n => qif (len == 1) (qs_cl S (n : Nat) pc 1)
  | .ldc j => qif (len == 2) (qcst tb.2.2.1 j (fun q => !q.2.1) (fun n => qs_c S n pc 2))
  | .ldc_w j => qif (len == 3) (qcst tb.2.2.1 j (fun q => !q.2.1) (fun n => qs_c S n pc 3))
  | .ldc2_w j => qif (len == 3) (qcst tb.2.2.1 j (fun q => q.2.1) (fun n => qs_cl S n pc 3))
  | .iadd => qif (len == 1) (qs_bin 0 S pc)
  | .isub => qif (len == 1) (qs_bin 1 S pc)
  | .imul => qif (len == 1) (qs_bin 2 S pc)
  | .iand => qif (len == 1) (qs_bin 3 S pc)
  | .ior => qif (len == 1) (qs_bin 4 S pc)
  | .ixor => qif (len == 1) (qs_bin 5 S pc)
  | .ishl => qif (len == 1) (qs_bin 6 S pc)
  | .ishr => qif (len == 1) (qs_bin 7 S pc)
  | .iushr => qif (len == 1) (qs_bin 8 S pc)
  | .idiv => qif (len == 1) (qs_bin 9 S pc)
  | .irem => qif (len == 1) (qs_bin 10 S pc)
  | .ineg => qif (len == 1) (qs_un qu_neg S pc)
  | .i2b => qif (len == 1) (qs_un qu_i2b S pc)
  | .i2l => qif (len == 1) (qs_un qu_i2l S pc)
  | .l2i => qif (len == 1) (qs_un qu_l2i S pc)
  | .ladd => qif (len == 1) (qs_binL 0 S pc)
  | .lmul => qif (len == 1) (qs_binL 1 S pc)
  | .land => qif (len == 1) (qs_binL 4 S pc)
  | .lor => qif (len == 1) (qs_binL 5 S pc)
  | .lsub => qif (len == 1) (qs_binL 6 S pc)
  | .ldiv => qif (len == 1) (qs_binL 2 S pc)
  | .lrem => qif (len == 1) (qs_binL 3 S pc)
  | .lcmp => qif (len == 1) (qs_binL 7 S pc)
  | .lshl => qif (len == 1) (qs_shL S pc)
  | .lushr => qif (len == 1) (qs_shL S pc)
  | .iinc j n => qif (len == 3) (qs_inc S nL j n pc)
  | .dup => qif (len == 1) (qs_dup S pc)
  | .dup2 => qif (len == 1) (qs_dup2 S pc)
  | .pop => qif (len == 1) (qs_pop S pc)
  | .goto off => qif (len == 3) (qs_goto S off pc)
  | .ifCond .eq off => qif (len == 3) (qs_if 0 S off pc)
  | .if_icmp .eq off => qif (len == 3) (qs_icmp 0 S off pc)
  | .ifCond .ne off => qif (len == 3) (qs_if 1 S off pc)
  | .if_icmp .ne off => qif (len == 3) (qs_icmp 1 S off pc)
  | .ifCond .lt off => qif (len == 3) (qs_if 2 S off pc)
  | .if_icmp .lt off => qif (len == 3) (qs_icmp 2 S off pc)
  | .ifCond .ge off => qif (len == 3) (qs_if 3 S off pc)
  | .if_icmp .ge off => qif (len == 3) (qs_icmp 3 S off pc)
  | .ifCond .gt off => qif (len == 3) (qs_if 4 S off pc)
  | .if_icmp .gt off => qif (len == 3) (qs_icmp 4 S off pc)
  | .ifCond .le off => qif (len == 3) (qs_if 5 S off pc)
  | .if_icmp .le off => qif (len == 3) (qs_icmp 5 S off pc)
  | .if_acmp .eq off => qif (len == 3) (qs_acmp S off pc)
  | .if_acmp .ne off => qif (len == 3) (qs_acmp S off pc)
  | .getfield j => qif (len == 3) (qor2 (qs_get D tb.1 S j pc) (qs_getw D tb.2.2.2.2.1 S j pc))
  | .putfield j => qif (len == 3) (qs_put D ms xr tb.1 S j pc)
  | .iaload => qif (len == 1) (qs_ald D 0 (fun k => k == 0) S pc)
  | .baload => qif (len == 1) (qs_ald D 0 (fun k => k == 2 || k == 3) S pc)
  | .laload => qif (len == 1) (qs_ald D 1 (fun k => k == 1) S pc)
  | .aaload => qif (len == 1) (qs_ald D 2 (fun k => k == 4 || k == 5) S pc)
  | .iastore => qif (len == 1) (qs_ast D ms xr (fun k => k == 0) S pc)
  | .bastore => qif (len == 1) (qs_ast D ms xr (fun k => k == 2 || k == 3) S pc)
  | .lastore => qif (len == 1) (qs_ast D ms xr (fun k => k == 1) S pc)
  | .arraylength => qif (len == 1) (qs_len D S pc)
  | .getstatic j => qif (len == 3) (qs_gs D tb.2.2.2.1 S j pc)
  | .invokevirtual j => qif (len == 3) (qs_call D ms B tb.2.1 MT fr lc true S j pc)
  | .invokestatic j => qif (len == 3) (qor2 (qs_cpy D ms xr tb.2.2.2.2.2.1 fr lc S j pc) (qor2 (qs_mm tb.2.2.2.2.2.2 fr lc S j pc) (qs_call D ms B tb.2.1 MT fr lc false S j pc)))
  | .tableswitch d lo hi offs => qs_tsw S d lo hi offs.toList pc
  | .lookupswitch d ps => qs_lsw S d ps.toList pc
  | _ => none
theorem q_step {x : qCx} (hB : qB x) {D : qWd} (eD : qxD x = D) (hD : qD D) {ms : qMods} (ems : qxms x = ms) {xr : List Nat} (hX : qxok x xr) {MT : List qMt} {tb : qTb} (htb : qTbk (qxown x) MT tb) {B : List qCon} (hcon : ∀ c ∈ B, qSem x.1 x.2.2.1 D x.2.2.2.2.2.2.2.2.2.2.2.2.2.2.2.2.1 MT c) {fr lc nL : Nat} (hR : fr ≤ x.2.2.2.2.1.frames ∧ lc ≤ x.2.2.2.2.1.locals) (hnL : qxnL x = nL)
    {S : AS} {pc : Nat} {i : Instr} {len : Nat} {L : qSu} (hs : qstep D ms xr tb MT B fr lc nL S pc i len = some L) (hdc : qdc x pc (i, len)) (h : qOk x L) : qG x S pc := by
  unfold qstep at hs
  split at hs
  · rename_i k
    obtain ⟨hlen, hs2⟩ := q_if hs
    clear hs
    simp only [beq_iff_eq] at hlen
    subst hlen
    have hs := hs2
    clear hs2
    exact qs_ldI hB hs (.inl ⟨k, rfl, hdc, rfl⟩) h
  · rename_i k
    obtain ⟨hlen, hs2⟩ := q_if hs
    clear hs
    simp only [beq_iff_eq] at hlen
    subst hlen
    have hs := hs2
    clear hs2
    exact qs_ldI hB hs (.inr ⟨hdc, rfl⟩) h
  · rename_i k
    obtain ⟨hlen, hs2⟩ := q_if hs
    clear hs
    simp only [beq_iff_eq] at hlen
    subst hlen
    have hs := hs2
    clear hs2
    exact qs_ldA hB hs (.inl ⟨k, rfl, hdc, rfl⟩) h
  · rename_i k
    obtain ⟨hlen, hs2⟩ := q_if hs
    clear hs
    simp only [beq_iff_eq] at hlen
    subst hlen
    have hs := hs2
    clear hs2
    exact qs_ldA hB hs (.inr ⟨hdc, rfl⟩) h
  · rename_i k
    obtain ⟨hlen, hs2⟩ := q_if hs
    clear hs
    simp only [beq_iff_eq] at hlen
    subst hlen
    have hs := hs2
    clear hs2
    exact qs_ldL hB hs (.inl ⟨k, rfl, hdc, rfl⟩) h
  · rename_i k
    obtain ⟨hlen, hs2⟩ := q_if hs
    clear hs
    simp only [beq_iff_eq] at hlen
    subst hlen
    have hs := hs2
    clear hs2
    exact qs_ldL hB hs (.inr ⟨hdc, rfl⟩) h
  · rename_i k
    obtain ⟨hlen, hs2⟩ := q_if hs
    clear hs
    simp only [beq_iff_eq] at hlen
    subst hlen
    have hs := hs2
    clear hs2
    exact qs_stI hB hnL hs (.inl ⟨k, rfl, hdc, rfl⟩) h
  · rename_i k
    obtain ⟨hlen, hs2⟩ := q_if hs
    clear hs
    simp only [beq_iff_eq] at hlen
    subst hlen
    have hs := hs2
    clear hs2
    exact qs_stI hB hnL hs (.inr ⟨hdc, rfl⟩) h
  · rename_i k
    obtain ⟨hlen, hs2⟩ := q_if hs
    clear hs
    simp only [beq_iff_eq] at hlen
    subst hlen
    have hs := hs2
    clear hs2
    exact qs_stA hB hnL hs (.inl ⟨k, rfl, hdc, rfl⟩) h
  · rename_i k
    obtain ⟨hlen, hs2⟩ := q_if hs
    clear hs
    simp only [beq_iff_eq] at hlen
    subst hlen
    have hs := hs2
    clear hs2
    exact qs_stA hB hnL hs (.inr ⟨hdc, rfl⟩) h
  · rename_i k
    obtain ⟨hlen, hs2⟩ := q_if hs
    clear hs
    simp only [beq_iff_eq] at hlen
    subst hlen
    have hs := hs2
    clear hs2
    exact qs_stL hB hnL hs (.inl ⟨k, rfl, hdc, rfl⟩) h
  · rename_i k
    obtain ⟨hlen, hs2⟩ := q_if hs
    clear hs
    simp only [beq_iff_eq] at hlen
    subst hlen
    have hs := hs2
    clear hs2
    exact qs_stL hB hnL hs (.inr ⟨hdc, rfl⟩) h
  · rename_i n
    obtain ⟨hlen, hs2⟩ := q_if hs
    clear hs
    simp only [beq_iff_eq] at hlen
    subst hlen
    have hs := hs2
    clear hs2
    obtain ⟨hn, hs⟩ := q_if hs
    simp only [Bool.and_eq_true, qle, decide_eq_true_eq] at hn
    exact qs_cI hs (v := Int32.ofInt n) (by rw [Int32.toInt_ofInt]; exact q_bmod (by unfold i32lo; omega) (by unfold i32hi; omega)) (fun H locs ls st hk => by
      obtain ⟨γ, p, l, e, R, s, m, args, below, meth, c, Q, ⟨cc, nL', own⟩, A, D, adr, X, ms, w0, σe⟩ := x
      exact lv_iconst hB.1 hB.2.1 hdc rfl hk) h
  · rename_i n
    obtain ⟨hlen, hs2⟩ := q_if hs
    clear hs
    simp only [beq_iff_eq] at hlen
    subst hlen
    have hs := hs2
    clear hs2
    obtain ⟨hn, hs⟩ := q_if hs
    simp only [Bool.and_eq_true, qle, decide_eq_true_eq] at hn
    exact qs_cI hs (v := (Int8.ofInt n).toInt32) (by rw [Int8.toInt_toInt32, Int8.toInt_ofInt]; exact Int.bmod_eq_of_le (by unfold Int8.size; omega) (by unfold Int8.size; omega)) (fun H locs ls st hk => by
      obtain ⟨γ, p, l, e, R, s, m, args, below, meth, c, Q, ⟨cc, nL', own⟩, A, D, adr, X, ms, w0, σe⟩ := x
      exact lv_bipush hB.1 hB.2.1 hdc rfl hk) h
  · rename_i n
    obtain ⟨hlen, hs2⟩ := q_if hs
    clear hs
    simp only [beq_iff_eq] at hlen
    subst hlen
    have hs := hs2
    clear hs2
    obtain ⟨hn, hs⟩ := q_if hs
    simp only [Bool.and_eq_true, qle, decide_eq_true_eq] at hn
    exact qs_cI hs (v := (Int16.ofInt n).toInt32) (by rw [Int16.toInt_toInt32, Int16.toInt_ofInt]; exact Int.bmod_eq_of_le (by unfold Int16.size; omega) (by unfold Int16.size; omega)) (fun H locs ls st hk => by
      obtain ⟨γ, p, l, e, R, s, m, args, below, meth, c, Q, ⟨cc, nL', own⟩, A, D, adr, X, ms, w0, σe⟩ := x
      exact lv_sipush hB.1 hB.2.1 hdc rfl hk) h
  · rename_i n
    obtain ⟨hlen, hs2⟩ := q_if hs
    clear hs
    simp only [beq_iff_eq] at hlen
    subst hlen
    have hs := hs2
    clear hs2
    exact qs_cL hs (v := Int64.ofNat (n : Nat)) (q_fin2 n) (fun H locs ls st hk => by
      obtain ⟨γ, p, l, e, R, s, m, args, below, meth, c, Q, ⟨cc, nL', own⟩, A, D, adr, X, ms, w0, σe⟩ := x
      exact lv_lconst hB.1 hB.2.1 hdc rfl hk) h
  · rename_i j
    obtain ⟨hlen, hs2⟩ := q_if hs
    clear hs
    simp only [beq_iff_eq] at hlen
    subst hlen
    have hs := hs2
    clear hs2
    obtain ⟨q, q1, q2, q3, hs⟩ := q_cns hs
    obtain ⟨v, v1, v2⟩ := (htb.2.2.1 q q1).1 (by simpa using q3)
    rw [q2] at v2
    exact qs_cI hs v1 (fun H locs ls st hk => by
      obtain ⟨γ, p, l, e, R, s, m, args, below, meth, c, Q, ⟨cc, nL', own⟩, A, D, adr, X, ms, w0, σe⟩ := x
      exact lv_ldc hB.1 hB.2.1 hB.2.2.2.1 (hB.2.2.2.2.1 _ v2) hdc hk) h
  · rename_i j
    obtain ⟨hlen, hs2⟩ := q_if hs
    clear hs
    simp only [beq_iff_eq] at hlen
    subst hlen
    have hs := hs2
    clear hs2
    obtain ⟨q, q1, q2, q3, hs⟩ := q_cns hs
    obtain ⟨v, v1, v2⟩ := (htb.2.2.1 q q1).1 (by simpa using q3)
    rw [q2] at v2
    exact qs_cI hs v1 (fun H locs ls st hk => by
      obtain ⟨γ, p, l, e, R, s, m, args, below, meth, c, Q, ⟨cc, nL', own⟩, A, D, adr, X, ms, w0, σe⟩ := x
      exact lv_ldcw hB.1 hB.2.1 hB.2.2.2.1 (hB.2.2.2.2.1 _ v2) hdc hk) h
  · rename_i j
    obtain ⟨hlen, hs2⟩ := q_if hs
    clear hs
    simp only [beq_iff_eq] at hlen
    subst hlen
    have hs := hs2
    clear hs2
    obtain ⟨q, q1, q2, q3, hs⟩ := q_cns hs
    obtain ⟨v, v1, v2⟩ := (htb.2.2.1 q q1).2 (by simpa using q3)
    rw [q2] at v2
    exact qs_cL hs v1 (fun H locs ls st hk => by
      obtain ⟨γ, p, l, e, R, s, m, args, below, meth, c, Q, ⟨cc, nL', own⟩, A, D, adr, X, ms, w0, σe⟩ := x
      exact lv_ldc2 hB.1 hB.2.1 hB.2.2.2.1 (hB.2.2.2.2.1 _ v2) hdc hk) h
  · obtain ⟨hlen, hs2⟩ := q_if hs
    clear hs
    simp only [beq_iff_eq] at hlen
    subst hlen
    have hs := hs2
    clear hs2
    exact qs_binI hs (fun H locs ls st y z _ hk => by
      obtain ⟨γ, p, l, e, R, s, m, args, below, meth, c, Q, ⟨cc, nL', own⟩, A, D, adr, X, ms, w0, σe⟩ := x
      exact lv_iadd hB.1 hB.2.1 hdc hk) h
  · obtain ⟨hlen, hs2⟩ := q_if hs
    clear hs
    simp only [beq_iff_eq] at hlen
    subst hlen
    have hs := hs2
    clear hs2
    exact qs_binI hs (fun H locs ls st y z _ hk => by
      obtain ⟨γ, p, l, e, R, s, m, args, below, meth, c, Q, ⟨cc, nL', own⟩, A, D, adr, X, ms, w0, σe⟩ := x
      exact lv_isub hB.1 hB.2.1 hdc hk) h
  · obtain ⟨hlen, hs2⟩ := q_if hs
    clear hs
    simp only [beq_iff_eq] at hlen
    subst hlen
    have hs := hs2
    clear hs2
    exact qs_binI hs (fun H locs ls st y z _ hk => by
      obtain ⟨γ, p, l, e, R, s, m, args, below, meth, c, Q, ⟨cc, nL', own⟩, A, D, adr, X, ms, w0, σe⟩ := x
      exact lv_imul hB.1 hB.2.1 hdc hk) h
  · obtain ⟨hlen, hs2⟩ := q_if hs
    clear hs
    simp only [beq_iff_eq] at hlen
    subst hlen
    have hs := hs2
    clear hs2
    exact qs_binI hs (fun H locs ls st y z _ hk => by
      obtain ⟨γ, p, l, e, R, s, m, args, below, meth, c, Q, ⟨cc, nL', own⟩, A, D, adr, X, ms, w0, σe⟩ := x
      exact lv_iand hB.1 hB.2.1 hdc hk) h
  · obtain ⟨hlen, hs2⟩ := q_if hs
    clear hs
    simp only [beq_iff_eq] at hlen
    subst hlen
    have hs := hs2
    clear hs2
    exact qs_binI hs (fun H locs ls st y z _ hk => by
      obtain ⟨γ, p, l, e, R, s, m, args, below, meth, c, Q, ⟨cc, nL', own⟩, A, D, adr, X, ms, w0, σe⟩ := x
      exact lv_ior hB.1 hB.2.1 hdc hk) h
  · obtain ⟨hlen, hs2⟩ := q_if hs
    clear hs
    simp only [beq_iff_eq] at hlen
    subst hlen
    have hs := hs2
    clear hs2
    exact qs_binI hs (fun H locs ls st y z _ hk => by
      obtain ⟨γ, p, l, e, R, s, m, args, below, meth, c, Q, ⟨cc, nL', own⟩, A, D, adr, X, ms, w0, σe⟩ := x
      exact lv_ixor hB.1 hB.2.1 hdc hk) h
  · obtain ⟨hlen, hs2⟩ := q_if hs
    clear hs
    simp only [beq_iff_eq] at hlen
    subst hlen
    have hs := hs2
    clear hs2
    exact qs_binI hs (fun H locs ls st y z _ hk => by
      obtain ⟨γ, p, l, e, R, s, m, args, below, meth, c, Q, ⟨cc, nL', own⟩, A, D, adr, X, ms, w0, σe⟩ := x
      exact lv_ishl hB.1 hB.2.1 hdc hk) h
  · obtain ⟨hlen, hs2⟩ := q_if hs
    clear hs
    simp only [beq_iff_eq] at hlen
    subst hlen
    have hs := hs2
    clear hs2
    exact qs_binI hs (fun H locs ls st y z _ hk => by
      obtain ⟨γ, p, l, e, R, s, m, args, below, meth, c, Q, ⟨cc, nL', own⟩, A, D, adr, X, ms, w0, σe⟩ := x
      exact lv_ishr hB.1 hB.2.1 hdc hk) h
  · obtain ⟨hlen, hs2⟩ := q_if hs
    clear hs
    simp only [beq_iff_eq] at hlen
    subst hlen
    have hs := hs2
    clear hs2
    exact qs_binI hs (fun H locs ls st y z _ hk => by
      obtain ⟨γ, p, l, e, R, s, m, args, below, meth, c, Q, ⟨cc, nL', own⟩, A, D, adr, X, ms, w0, σe⟩ := x
      exact lv_iushr hB.1 hB.2.1 hdc rfl hk) h
  · obtain ⟨hlen, hs2⟩ := q_if hs
    clear hs
    simp only [beq_iff_eq] at hlen
    subst hlen
    have hs := hs2
    clear hs2
    exact qs_binI hs (fun H locs ls st y z hz hk => by
      obtain ⟨γ, p, l, e, R, s, m, args, below, meth, c, Q, ⟨cc, nL', own⟩, A, D, adr, X, ms, w0, σe⟩ := x
      exact lv_idiv hB.1 hB.2.1 hdc (hz (by decide)) hk) h
  · obtain ⟨hlen, hs2⟩ := q_if hs
    clear hs
    simp only [beq_iff_eq] at hlen
    subst hlen
    have hs := hs2
    clear hs2
    exact qs_binI hs (fun H locs ls st y z hz hk => by
      obtain ⟨γ, p, l, e, R, s, m, args, below, meth, c, Q, ⟨cc, nL', own⟩, A, D, adr, X, ms, w0, σe⟩ := x
      exact lv_irem hB.1 hB.2.1 hdc (hz (by decide)) hk) h
  · obtain ⟨hlen, hs2⟩ := q_if hs
    clear hs
    simp only [beq_iff_eq] at hlen
    subst hlen
    have hs := hs2
    clear hs2
    exact qs_unG hs (fun H locs ls st D σ ρ N a r v hN hr hf => by
      unfold qu_neg at hf
      rw [Option.map_eq_some_iff] at hf
      obtain ⟨pv, hp, rfl⟩ := hf
      obtain ⟨z, rfl, hz⟩ := q_iv hN hr hp
      obtain ⟨σ', s1, s2, s3⟩ := q_fr (ρ := ρ) hN (x := -z) (q_clip (q_negT z) (q_neg hz))
      refine ⟨_, σ', s1, s2, s3, fun hk => ?_⟩
      obtain ⟨γ, p, l, e, R, s, m, args, below, meth, c, Q, ⟨cc, nL', own⟩, A, D9, adr, X, ms, w0, σe⟩ := x
      exact lv_ineg hB.1 hB.2.1 hdc hk) h
  · obtain ⟨hlen, hs2⟩ := q_if hs
    clear hs
    simp only [beq_iff_eq] at hlen
    subst hlen
    have hs := hs2
    clear hs2
    exact qs_unG hs (fun H locs ls st D σ ρ N a r v hN hr hf => by
      unfold qu_i2b at hf
      rw [Option.map_eq_some_iff] at hf
      obtain ⟨pv, hp, rfl⟩ := hf
      obtain ⟨z, rfl, hz⟩ := q_iv hN hr hp
      obtain ⟨σ', s1, s2, s3⟩ := q_fr (ρ := ρ) hN (x := z.toInt8.toInt32) (q_i2b z)
      refine ⟨_, σ', s1, s2, s3, fun hk => ?_⟩
      obtain ⟨γ, p, l, e, R, s, m, args, below, meth, c, Q, ⟨cc, nL', own⟩, A, D9, adr, X, ms, w0, σe⟩ := x
      exact lv_i2b hB.1 hB.2.1 hdc rfl hk) h
  · obtain ⟨hlen, hs2⟩ := q_if hs
    clear hs
    simp only [beq_iff_eq] at hlen
    subst hlen
    have hs := hs2
    clear hs2
    exact qs_unG hs (fun H locs ls st D σ ρ N a r v hN hr hf => by
      unfold qu_i2l at hf
      rw [Option.map_eq_some_iff] at hf
      obtain ⟨pv, hp, rfl⟩ := hf
      obtain ⟨z, rfl, hz⟩ := q_iv hN hr hp
      obtain ⟨σ', s1, s2, s3⟩ := q_frL (ρ := ρ) hN (x := z.toInt64) (by rw [q_i2l]; exact hz)
      refine ⟨_, σ', s1, s2, s3, fun hk => ?_⟩
      obtain ⟨γ, p, l, e, R, s, m, args, below, meth, c, Q, ⟨cc, nL', own⟩, A, D9, adr, X, ms, w0, σe⟩ := x
      exact lv_i2l hB.1 hB.2.1 hdc rfl hk) h
  · obtain ⟨hlen, hs2⟩ := q_if hs
    clear hs
    simp only [beq_iff_eq] at hlen
    subst hlen
    have hs := hs2
    clear hs2
    exact qs_unG hs (fun H locs ls st D σ ρ N a r v hN hr hf => by
      unfold qu_l2i at hf
      rw [Option.map_eq_some_iff] at hf
      obtain ⟨pv, hp, rfl⟩ := hf
      obtain ⟨z, rfl, hz⟩ := q_ivL hN hr hp
      obtain ⟨σ', s1, s2, s3⟩ := q_fr (ρ := ρ) hN (x := z.toInt32) (q_l2i hz)
      refine ⟨_, σ', s1, s2, s3, fun hk => ?_⟩
      obtain ⟨γ, p, l, e, R, s, m, args, below, meth, c, Q, ⟨cc, nL', own⟩, A, D9, adr, X, ms, w0, σe⟩ := x
      exact lv_l2i hB.1 hB.2.1 hdc rfl hk) h
  · obtain ⟨hlen, hs2⟩ := q_if hs
    clear hs
    simp only [beq_iff_eq] at hlen
    subst hlen
    have hs := hs2
    clear hs2
    exact qs_binLG hs (fun H locs ls st y z _ => ⟨_, .inl ⟨by decide, rfl⟩, fun hk => by
      obtain ⟨γ, p, l, e, R, s, m, args, below, meth, c, Q, ⟨cc, nL', own⟩, A, D, adr, X, ms, w0, σe⟩ := x
      exact lv_ladd hB.1 hB.2.1 hdc hk⟩) h
  · obtain ⟨hlen, hs2⟩ := q_if hs
    clear hs
    simp only [beq_iff_eq] at hlen
    subst hlen
    have hs := hs2
    clear hs2
    exact qs_binLG hs (fun H locs ls st y z _ => ⟨_, .inl ⟨by decide, rfl⟩, fun hk => by
      obtain ⟨γ, p, l, e, R, s, m, args, below, meth, c, Q, ⟨cc, nL', own⟩, A, D, adr, X, ms, w0, σe⟩ := x
      exact lv_lmul hB.1 hB.2.1 hdc hk⟩) h
  · obtain ⟨hlen, hs2⟩ := q_if hs
    clear hs
    simp only [beq_iff_eq] at hlen
    subst hlen
    have hs := hs2
    clear hs2
    exact qs_binLG hs (fun H locs ls st y z _ => ⟨_, .inl ⟨by decide, rfl⟩, fun hk => by
      obtain ⟨γ, p, l, e, R, s, m, args, below, meth, c, Q, ⟨cc, nL', own⟩, A, D, adr, X, ms, w0, σe⟩ := x
      exact lv_land hB.1 hB.2.1 hdc hk⟩) h
  · obtain ⟨hlen, hs2⟩ := q_if hs
    clear hs
    simp only [beq_iff_eq] at hlen
    subst hlen
    have hs := hs2
    clear hs2
    exact qs_binLG hs (fun H locs ls st y z _ => ⟨_, .inl ⟨by decide, rfl⟩, fun hk => by
      obtain ⟨γ, p, l, e, R, s, m, args, below, meth, c, Q, ⟨cc, nL', own⟩, A, D, adr, X, ms, w0, σe⟩ := x
      exact lv_lor hB.1 hB.2.1 hdc hk⟩) h
  · obtain ⟨hlen, hs2⟩ := q_if hs
    clear hs
    simp only [beq_iff_eq] at hlen
    subst hlen
    have hs := hs2
    clear hs2
    exact qs_binLG hs (fun H locs ls st y z _ => ⟨_, .inl ⟨by decide, rfl⟩, fun hk => by
      obtain ⟨γ, p, l, e, R, s, m, args, below, meth, c, Q, ⟨cc, nL', own⟩, A, D, adr, X, ms, w0, σe⟩ := x
      exact lv_lsub hB.1 hB.2.1 hdc hk⟩) h
  · obtain ⟨hlen, hs2⟩ := q_if hs
    clear hs
    simp only [beq_iff_eq] at hlen
    subst hlen
    have hs := hs2
    clear hs2
    exact qs_binLG hs (fun H locs ls st y z hz => ⟨_, .inl ⟨by decide, rfl⟩, fun hk => by
      obtain ⟨γ, p, l, e, R, s, m, args, below, meth, c, Q, ⟨cc, nL', own⟩, A, D, adr, X, ms, w0, σe⟩ := x
      exact lv_ldiv hB.1 hB.2.1 hdc (hz (by decide)) hk⟩) h
  · obtain ⟨hlen, hs2⟩ := q_if hs
    clear hs
    simp only [beq_iff_eq] at hlen
    subst hlen
    have hs := hs2
    clear hs2
    exact qs_binLG hs (fun H locs ls st y z hz => ⟨_, .inl ⟨by decide, rfl⟩, fun hk => by
      obtain ⟨γ, p, l, e, R, s, m, args, below, meth, c, Q, ⟨cc, nL', own⟩, A, D, adr, X, ms, w0, σe⟩ := x
      exact lv_lrem hB.1 hB.2.1 hdc (hz (by decide)) hk⟩) h
  · obtain ⟨hlen, hs2⟩ := q_if hs
    clear hs
    simp only [beq_iff_eq] at hlen
    subst hlen
    have hs := hs2
    clear hs2
    exact qs_binLG hs (fun H locs ls st y z _ => ⟨.int (lg_cmp y z), .inr ⟨by decide, _, rfl, q_cmp y z⟩, fun hk => by
      obtain ⟨γ, p, l, e, R, s, m, args, below, meth, c, Q, ⟨cc, nL', own⟩, A, D, adr, X, ms, w0, σe⟩ := x
      exact W.lcmp hB.1 hB.2.1 hdc hk⟩) h
  · obtain ⟨hlen, hs2⟩ := q_if hs
    clear hs
    simp only [beq_iff_eq] at hlen
    subst hlen
    have hs := hs2
    clear hs2
    exact qs_shLG hs (fun H locs ls st y z => ⟨y <<< (z.toInt64 &&& 63), fun hk => by
      obtain ⟨γ, p, l, e, R, s, m, args, below, meth, c, Q, ⟨cc, nL', own⟩, A, D, adr, X, ms, w0, σe⟩ := x
      exact lv_lshl hB.1 hB.2.1 hdc rfl hk⟩) h
  · obtain ⟨hlen, hs2⟩ := q_if hs
    clear hs
    simp only [beq_iff_eq] at hlen
    subst hlen
    have hs := hs2
    clear hs2
    exact qs_shLG hs (fun H locs ls st y z => ⟨(y.toUInt64 >>> (z.toInt64.toUInt64 &&& Int64.toUInt64 63)).toInt64, fun hk => by
      obtain ⟨γ, p, l, e, R, s, m, args, below, meth, c, Q, ⟨cc, nL', own⟩, A, D, adr, X, ms, w0, σe⟩ := x
      exact lv_lushr hB.1 hB.2.1 hdc rfl hk⟩) h
  · rename_i j n
    obtain ⟨hlen, hs2⟩ := q_if hs
    clear hs
    simp only [beq_iff_eq] at hlen
    subst hlen
    have hs := hs2
    clear hs2
    exact qs_incG hB hnL hs hdc h
  · obtain ⟨hlen, hs2⟩ := q_if hs
    clear hs
    simp only [beq_iff_eq] at hlen
    subst hlen
    have hs := hs2
    clear hs2
    exact qs_dupG hB hs hdc h
  · obtain ⟨hlen, hs2⟩ := q_if hs
    clear hs
    simp only [beq_iff_eq] at hlen
    subst hlen
    have hs := hs2
    clear hs2
    exact qs_dup2G hB hs hdc h
  · obtain ⟨hlen, hs2⟩ := q_if hs
    clear hs
    simp only [beq_iff_eq] at hlen
    subst hlen
    have hs := hs2
    clear hs2
    exact qs_popG hB hs hdc h
  · rename_i off
    obtain ⟨hlen, hs2⟩ := q_if hs
    clear hs
    simp only [beq_iff_eq] at hlen
    subst hlen
    have hs := hs2
    clear hs2
    exact qs_gotoG hB hs hdc h
  · rename_i off
    obtain ⟨hlen, hs2⟩ := q_if hs
    clear hs
    simp only [beq_iff_eq] at hlen
    subst hlen
    have hs := hs2
    clear hs2
    exact qs_ifG hs (fun H locs ls st y t ht k1 k2 => by
      obtain ⟨γ, p, l, e, R, s, m, args, below, meth, c, Q, ⟨cc, nL', own⟩, A, D, adr, X, ms, w0, σe⟩ := x
      exact lv_if_eq hB.1 hB.2.1 hdc ht (fun hc => k1 (q_c0 hc)) (fun hc => k2 (q_c1 hc))) h
  · rename_i off
    obtain ⟨hlen, hs2⟩ := q_if hs
    clear hs
    simp only [beq_iff_eq] at hlen
    subst hlen
    have hs := hs2
    clear hs2
    exact qs_icmpG hs (fun H locs ls st y z t ht k1 k2 => by
      obtain ⟨γ, p, l, e, R, s, m, args, below, meth, c, Q, ⟨cc, nL', own⟩, A, D, adr, X, ms, w0, σe⟩ := x
      exact lv_icmp_eq hB.1 hB.2.1 hdc ht (fun hc => k1 (q_c0 hc)) (fun hc => k2 (q_c1 hc))) h
  · rename_i off
    obtain ⟨hlen, hs2⟩ := q_if hs
    clear hs
    simp only [beq_iff_eq] at hlen
    subst hlen
    have hs := hs2
    clear hs2
    exact qs_ifG hs (fun H locs ls st y t ht k1 k2 => by
      obtain ⟨γ, p, l, e, R, s, m, args, below, meth, c, Q, ⟨cc, nL', own⟩, A, D, adr, X, ms, w0, σe⟩ := x
      exact lv_if_ne hB.1 hB.2.1 hdc ht (fun hc => k1 (q_c1 hc)) (fun hc => k2 (q_c0 hc))) h
  · rename_i off
    obtain ⟨hlen, hs2⟩ := q_if hs
    clear hs
    simp only [beq_iff_eq] at hlen
    subst hlen
    have hs := hs2
    clear hs2
    exact qs_icmpG hs (fun H locs ls st y z t ht k1 k2 => by
      obtain ⟨γ, p, l, e, R, s, m, args, below, meth, c, Q, ⟨cc, nL', own⟩, A, D, adr, X, ms, w0, σe⟩ := x
      exact lv_icmp_ne hB.1 hB.2.1 hdc ht (fun hc => k1 (q_c1 hc)) (fun hc => k2 (q_c0 hc))) h
  · rename_i off
    obtain ⟨hlen, hs2⟩ := q_if hs
    clear hs
    simp only [beq_iff_eq] at hlen
    subst hlen
    have hs := hs2
    clear hs2
    exact qs_ifG hs (fun H locs ls st y t ht k1 k2 => by
      obtain ⟨γ, p, l, e, R, s, m, args, below, meth, c, Q, ⟨cc, nL', own⟩, A, D, adr, X, ms, w0, σe⟩ := x
      exact lv_if_lt hB.1 hB.2.1 hdc ht (fun hc => k1 (q_c2 hc)) (fun hc => k2 (q_c3 hc))) h
  · rename_i off
    obtain ⟨hlen, hs2⟩ := q_if hs
    clear hs
    simp only [beq_iff_eq] at hlen
    subst hlen
    have hs := hs2
    clear hs2
    exact qs_icmpG hs (fun H locs ls st y z t ht k1 k2 => by
      obtain ⟨γ, p, l, e, R, s, m, args, below, meth, c, Q, ⟨cc, nL', own⟩, A, D, adr, X, ms, w0, σe⟩ := x
      exact lv_icmp_lt hB.1 hB.2.1 hdc ht (fun hc => k1 (q_c2 hc)) (fun hc => k2 (q_c3 hc))) h
  · rename_i off
    obtain ⟨hlen, hs2⟩ := q_if hs
    clear hs
    simp only [beq_iff_eq] at hlen
    subst hlen
    have hs := hs2
    clear hs2
    exact qs_ifG hs (fun H locs ls st y t ht k1 k2 => by
      obtain ⟨γ, p, l, e, R, s, m, args, below, meth, c, Q, ⟨cc, nL', own⟩, A, D, adr, X, ms, w0, σe⟩ := x
      exact lv_if_ge hB.1 hB.2.1 hdc ht (fun hc => k1 (q_c3b hc)) (fun hc => k2 (q_c2b hc))) h
  · rename_i off
    obtain ⟨hlen, hs2⟩ := q_if hs
    clear hs
    simp only [beq_iff_eq] at hlen
    subst hlen
    have hs := hs2
    clear hs2
    exact qs_icmpG hs (fun H locs ls st y z t ht k1 k2 => by
      obtain ⟨γ, p, l, e, R, s, m, args, below, meth, c, Q, ⟨cc, nL', own⟩, A, D, adr, X, ms, w0, σe⟩ := x
      exact lv_icmp_ge hB.1 hB.2.1 hdc ht (fun hc => k1 (q_c3b hc)) (fun hc => k2 (q_c2b hc))) h
  · rename_i off
    obtain ⟨hlen, hs2⟩ := q_if hs
    clear hs
    simp only [beq_iff_eq] at hlen
    subst hlen
    have hs := hs2
    clear hs2
    exact qs_ifG hs (fun H locs ls st y t ht k1 k2 => by
      obtain ⟨γ, p, l, e, R, s, m, args, below, meth, c, Q, ⟨cc, nL', own⟩, A, D, adr, X, ms, w0, σe⟩ := x
      exact lv_if_gt hB.1 hB.2.1 hdc ht (fun hc => k1 (q_c4 hc)) (fun hc => k2 (q_c5 hc))) h
  · rename_i off
    obtain ⟨hlen, hs2⟩ := q_if hs
    clear hs
    simp only [beq_iff_eq] at hlen
    subst hlen
    have hs := hs2
    clear hs2
    exact qs_icmpG hs (fun H locs ls st y z t ht k1 k2 => by
      obtain ⟨γ, p, l, e, R, s, m, args, below, meth, c, Q, ⟨cc, nL', own⟩, A, D, adr, X, ms, w0, σe⟩ := x
      exact lv_icmp_gt hB.1 hB.2.1 hdc ht (fun hc => k1 (q_c4 hc)) (fun hc => k2 (q_c5 hc))) h
  · rename_i off
    obtain ⟨hlen, hs2⟩ := q_if hs
    clear hs
    simp only [beq_iff_eq] at hlen
    subst hlen
    have hs := hs2
    clear hs2
    exact qs_ifG hs (fun H locs ls st y t ht k1 k2 => by
      obtain ⟨γ, p, l, e, R, s, m, args, below, meth, c, Q, ⟨cc, nL', own⟩, A, D, adr, X, ms, w0, σe⟩ := x
      exact lv_if_le hB.1 hB.2.1 hdc ht (fun hc => k1 (q_c5b hc)) (fun hc => k2 (q_c4b hc))) h
  · rename_i off
    obtain ⟨hlen, hs2⟩ := q_if hs
    clear hs
    simp only [beq_iff_eq] at hlen
    subst hlen
    have hs := hs2
    clear hs2
    exact qs_icmpG hs (fun H locs ls st y z t ht k1 k2 => by
      obtain ⟨γ, p, l, e, R, s, m, args, below, meth, c, Q, ⟨cc, nL', own⟩, A, D, adr, X, ms, w0, σe⟩ := x
      exact lv_icmp_le hB.1 hB.2.1 hdc ht (fun hc => k1 (q_c5b hc)) (fun hc => k2 (q_c4b hc))) h
  · rename_i off
    obtain ⟨hlen, hs2⟩ := q_if hs
    clear hs
    simp only [beq_iff_eq] at hlen
    subst hlen
    have hs := hs2
    clear hs2
    exact qs_acmpG hB hs (.inl hdc) h
  · rename_i off
    obtain ⟨hlen, hs2⟩ := q_if hs
    clear hs
    simp only [beq_iff_eq] at hlen
    subst hlen
    have hs := hs2
    clear hs2
    exact qs_acmpG hB hs (.inr hdc) h
  · rename_i j
    obtain ⟨hlen, hs2⟩ := q_if hs
    clear hs
    simp only [beq_iff_eq] at hlen
    subst hlen
    have hs := hs2
    clear hs2
    rcases q_or2 hs with hs | hs
    · subst eD; exact qs_getG hB hD htb.1 hs hdc h
    · exact qs_getwG hB eD hD htb.2.2.2.2.1 hs hdc h
  · rename_i j
    obtain ⟨hlen, hs2⟩ := q_if hs
    clear hs
    simp only [beq_iff_eq] at hlen
    subst hlen
    have hs := hs2
    clear hs2
    exact qs_putG hB eD hD ems hX htb.1 hs hdc h
  · obtain ⟨hlen, hs2⟩ := q_if hs
    clear hs
    simp only [beq_iff_eq] at hlen
    subst hlen
    have hs := hs2
    clear hs2
    exact qs_iald hB eD hD hs hdc h
  · obtain ⟨hlen, hs2⟩ := q_if hs
    clear hs
    simp only [beq_iff_eq] at hlen
    subst hlen
    have hs := hs2
    clear hs2
    exact qs_bald hB eD hD hs hdc h
  · obtain ⟨hlen, hs2⟩ := q_if hs
    clear hs
    simp only [beq_iff_eq] at hlen
    subst hlen
    have hs := hs2
    clear hs2
    exact qs_lald hB eD hD hs hdc h
  · obtain ⟨hlen, hs2⟩ := q_if hs
    clear hs
    simp only [beq_iff_eq] at hlen
    subst hlen
    have hs := hs2
    clear hs2
    exact qs_aald hB eD hD hs hdc h
  · obtain ⟨hlen, hs2⟩ := q_if hs
    clear hs
    simp only [beq_iff_eq] at hlen
    subst hlen
    have hs := hs2
    clear hs2
    exact qs_iast hB eD hD ems hX hs hdc h
  · obtain ⟨hlen, hs2⟩ := q_if hs
    clear hs
    simp only [beq_iff_eq] at hlen
    subst hlen
    have hs := hs2
    clear hs2
    exact qs_bast hB eD hD ems hX hs hdc h
  · obtain ⟨hlen, hs2⟩ := q_if hs
    clear hs
    simp only [beq_iff_eq] at hlen
    subst hlen
    have hs := hs2
    clear hs2
    exact qs_last hB eD hD ems hX hs hdc h
  · obtain ⟨hlen, hs2⟩ := q_if hs
    clear hs
    simp only [beq_iff_eq] at hlen
    subst hlen
    have hs := hs2
    clear hs2
    exact qs_lenG hB eD hD hs hdc h
  · rename_i j
    obtain ⟨hlen, hs2⟩ := q_if hs
    clear hs
    simp only [beq_iff_eq] at hlen
    subst hlen
    have hs := hs2
    clear hs2
    exact qs_gsG hB eD htb.2.2.2.1 hs hdc h
  · rename_i j
    obtain ⟨hlen, hs2⟩ := q_if hs
    clear hs
    simp only [beq_iff_eq] at hlen
    subst hlen
    have hs := hs2
    clear hs2
    exact qs_callG hB eD hD ems hcon htb.2.1 hR hs (.inl ⟨rfl, hdc⟩) h
  · rename_i j
    obtain ⟨hlen, hs2⟩ := q_if hs
    clear hs
    simp only [beq_iff_eq] at hlen
    subst hlen
    have hs := hs2
    clear hs2
    rcases q_or2 hs with hs | hs
    · exact qs_cpyG hB eD hD ems hX htb.2.2.2.2.2.1 hR hs hdc h
    · rcases q_or2 hs with hs | hs
      · exact qs_mmG hB htb.2.2.2.2.2.2 hR hs hdc h
      · exact qs_callG hB eD hD ems hcon htb.2.1 hR hs (.inr ⟨rfl, hdc⟩) h
  · exact qs_tswG hB hs hdc h
  · exact qs_lswG hB hs hdc h
  · cases hs
end
section
/-! cuts found by matching; ranks; the run -/
def qsetO {α : Type} (l : List (Option α)) (v : Nat) (b : α) : List (Option α) := match l[v]? with
  | some none => l.set v (some b)
  | _ => l
abbrev qTo : Type := List (Option AV) × List (Option Nat)
def quni (nS : Nat) (θ : qTo) (a b : AV) : qTo :=
  if a.1 = 0 then (if qint b then (qsetO θ.1 a.2.1 (b.1, b.2.1, b.2.2 - a.2.2), θ.2) else θ)
  else if a.1 = 2 then (qsetO θ.1 a.2.1 b, θ.2)
  else if a.1 = 3 then (if a.2.1 < nS then θ else (θ.1, qsetO θ.2 (a.2.1 - nS) b.2.1))
  else θ
def qthO (nS : Nat) (θ : qTo) (n : Nat) : Option Nat := if n < nS then some n else (θ.2[n - nS]?).join
def qfold (nS : Nat) (SL : List (Nat × AV)) : List (Nat × AV) → qTo → qTo
  | [], θ => θ
  | q :: r, θ => qfold nS SL r (match SL.find? (fun z => z.1 == q.1) with
    | some z => quni nS θ q.2 z.2
    | none => θ)
def qfold2 (nS : Nat) : List AV → List AV → qTo → qTo
  | a :: as, b :: bs, θ => qfold2 nS as bs (quni nS θ a b)
  | _, _, θ => θ
def qfold3 (nS : Nat) (SM : List (Nat × Nat × AV)) : List (Nat × Nat × AV) → qTo → qTo
  | [], θ => θ
  | e :: r, θ => qfold3 nS SM r (match qthO nS θ e.1 with
    | some m => (match SM.find? (fun f => f.1 == m && f.2.1 == e.2.1) with
      | some f => quni nS θ e.2.2 f.2.2
      | none => θ)
    | none => θ)
def qends {α : Type} (f : Nat → α) : Nat → List (Option α) → List α
  | _, [] => []
  | n, a :: r => (match a with
    | some x => x
    | none => f n) :: qends f (n + 1) r
def qmatch (D : qWd) (lk : List Nat) (S C : AS) : qTh :=
  let θ0 : qTo := (C.1.1.map (fun _ => none), C.2.2.1.map (fun _ => none))
  let θ1 := qfold3 D.2.2 S.2.2.2.1 C.2.2.2.1 (qfold2 D.2.2 C.2.1.2 S.2.1.2 (qfold D.2.2 S.2.1.1 C.2.1.1 θ0))
  (qends (fun v => if lk.contains v then (2, v, 0) else (0, v, 0)) 0 θ1.1, qends (fun v => v) 0 θ1.2)
/-- for n0 entry variables the substitution is the identity -/
def qfix (lk : List Nat) (n0 : Nat) (θ : qTh) : qTh := ((List.range n0).map (fun v => if lk.contains v then (2, v, 0) else (0, v, 0)) ++ θ.1.drop n0, θ.2)
/-- a linear form behind a substitution -/
def qsubL (θ : List AV) : List (Int × Nat) → Option qLin
  | [] => some (0, [])
  | (c, v) :: r => (match θ[v]?, qsubL θ r with
    | some t, some L => if t.1 = 0 then some (L.1 + c * t.2.2, qput c t.2.1 L.2) else if t.1 = 1 then some (L.1 + c * t.2.2, L.2) else none
    | _, _ => none)
theorem q_subL {σ : qσ} {θ : qTh} : ∀ {L : List (Int × Nat)} {y : Int} {F : qLin}, qlv1 (qσθ σ θ) L = some y → qsubL θ.1 L = some F → ∃ z, qlv1 σ F.2 = some z ∧ y = F.1 + z
  | [], y, F, h1, h2 => by
    cases h2
    simp only [qlv1, Option.some.injEq] at h1
    exact ⟨0, rfl, by simp; omega⟩
  | (c, v) :: r, y, F, h1, h2 => by
    unfold qlv1 at h1
    unfold qsubL at h2
    split at h1
    · rename_i a b ha hb
      cases h1
      split at h2
      · rename_i t L ht hL
        obtain ⟨z, z1, z2⟩ := q_subL hb hL
        unfold qσθ at ha
        rw [ht] at ha
        simp only at ha
        split at h2
        · rename_i t0
          cases h2
          rw [if_neg (by omega)] at ha
          unfold qvl at ha
          rw [if_pos t0, Option.map_eq_some_iff] at ha
          obtain ⟨u, u1, rfl⟩ := ha
          refine ⟨_, q_put u1 z1, ?_⟩
          rw [Int.mul_add]
          show _ = L.1 + c * t.2.2 + (c * u + z)
          omega
        · split at h2
          · rename_i t0 t1
            cases h2
            rw [if_neg (by omega)] at ha
            unfold qvl at ha
            rw [if_neg t0, if_pos t1] at ha
            cases ha
            refine ⟨z, z1, ?_⟩
            show _ = L.1 + c * t.2.2 + z
            omega
          · cases h2
      · cases h2
    · cases h1
def qmin1 : List (Int × Nat) → List (Int × Nat) → List (Int × Nat)
  | [], F => F
  | (c, v) :: r, F => qput (-c) v (qmin1 r F)
theorem q_min1 {σ : qσ} : ∀ {L F : List (Int × Nat)} {x y : Int}, qlv1 σ L = some x → qlv1 σ F = some y → qlv1 σ (qmin1 L F) = some (y - x)
  | [], F, x, y, h1, h2 => by
    simp only [qlv1, Option.some.injEq] at h1
    subst h1
    simpa [qmin1] using h2
  | (c, v) :: r, F, x, y, h1, h2 => by
    unfold qlv1 at h1
    split at h1
    · rename_i a b ha hb
      cases h1
      have ih := q_min1 hb h2
      have := q_put (c := -c) ha ih
      unfold qmin1
      rw [this]
      simp only [Option.some.injEq]
      rw [Int.neg_mul]; omega
    · cases h1
theorem q_lvm {σ σ' : qσ} (h : qle1 σ σ') : ∀ {L : List (Int × Nat)} {y : Int}, qlv1 σ L = some y → qlv1 σ' L = some y
  | [], _, h1 => h1
  | (c, v) :: r, y, h1 => by
    unfold qlv1 at h1
    split at h1
    · rename_i a b ha hb
      cases h1
      unfold qlv1
      rw [h _ _ ha, q_lvm h hb]
    · cases h1
/-- is the rank behind θ less than the rank L0 at the start -/
def qdec (N : qN) (n1 : Nat) (θ : qTh) (L L0 : qLin) : Bool := match qsubL θ.1 L.2 with
  | some F => (match qub N (qelim N.2.1 n1 (F.1 + L.1 - L0.1 + 1, qmin1 L0.2 F.2)).2 with
    | some u => qle ((qelim N.2.1 n1 (F.1 + L.1 - L0.1 + 1, qmin1 L0.2 F.2)).1 + u) 0
    | none => false)
  | none => false
theorem q_dec {D : qWd} {σ : qσ} {N : qN} (hN : qsN D σ N) {n1 : Nat} {θ : qTh} {L L0 : qLin} {y y0 : Int} (h1 : qlv1 (qσθ σ θ) L.2 = some y) (h0 : qlv1 σ L0.2 = some y0) (h : qdec N n1 θ L L0 = true) : L.1 + y + 1 ≤ L0.1 + y0 := by
  unfold qdec at h
  split at h
  · rename_i F hF
    obtain ⟨z, z1, z2⟩ := q_subL h1 hF
    have hm := q_min1 h0 z1
    obtain ⟨y', e1, e2⟩ := q_elim (n0 := n1) hN.2.2.1 (L := (F.1 + L.1 - L0.1 + 1, qmin1 L0.2 F.2)) hm
    split at h
    · rename_i u hu
      simp only [qle, decide_eq_true_eq] at h
      have := q_ub hN e1 hu
      simp only at e2
      omega
    · cases h
  · cases h
def qneg1 (L : List (Int × Nat)) : List (Int × Nat) := L.map (fun q => (-q.1, q.2))
theorem q_neg1 {σ : qσ} : ∀ {L : List (Int × Nat)} {y : Int}, qlv1 σ L = some y → qlv1 σ (qneg1 L) = some (-y)
  | [], y, h => by
    simp only [qlv1, Option.some.injEq] at h
    subst h; rfl
  | (c, v) :: r, y, h => by
    unfold qlv1 at h
    split at h
    · rename_i a b ha hb
      cases h
      have ih := q_neg1 hb
      unfold qneg1 at ih ⊢
      rw [List.map_cons]
      unfold qlv1
      rw [ha, ih]
      simp only [Option.some.injEq]
      rw [Int.neg_mul]; omega
    · cases h
/-- the rank of a cut is a number, and none below 0 -/
def qpos (C : AS) (L : qLin) : Bool := match qub C.1 (qneg1 L.2) with
  | some u => qle u L.1
  | none => false
theorem q_some {D : qWd} {σ : qσ} {N : qN} (hN : qsN D σ N) : ∀ {L : List (Int × Nat)} {u : Int}, qub N L = some u → ∃ y, qlv1 σ L = some y
  | [], _, _ => ⟨0, rfl⟩
  | (c, v) :: r, u, h => by
    unfold qub at h
    split at h
    · rename_i p w hp hw
      obtain ⟨y, hy⟩ := q_some hN hw
      obtain ⟨x, hx, -⟩ := hN.2.1 _ _ hp
      unfold qlv1
      rw [hx, hy]
      exact ⟨_, rfl⟩
    · cases h
theorem q_neg2 (L : List (Int × Nat)) : qneg1 (qneg1 L) = L := by
  unfold qneg1
  rw [List.map_map]
  conv => rhs; rw [← List.map_id L]
  congr 1
  funext q
  simp
theorem q_pos {D : qWd} {σ : qσ} {C : AS} (hN : qsN D σ C.1) {L : qLin} (h : qpos C L = true) : ∃ y, qlv1 σ L.2 = some y ∧ 0 ≤ L.1 + y := by
  unfold qpos at h
  split at h
  · rename_i u hu
    simp only [qle, decide_eq_true_eq] at h
    obtain ⟨y, hy⟩ := q_some hN hu
    have h1 := q_ub hN hy hu
    have h2 := q_neg1 hy
    rw [q_neg2] at h2
    exact ⟨-y, h2, by omega⟩
  · cases h
abbrev qCut : Type := Nat × AS × qLin
/-- n0 entry variables, among them the longs lk; n1 variables and the rank at the start -/
def qcchk (D : qWd) (n0 : Nat) (lk : List Nat) (n1 : Nat) (L0 : Option qLin) (S : AS) (k : qCut) : Bool :=
  let θ := qfix lk n0 (qmatch D lk S k.2.1)
  qsub1 D n0 S k.2.1 θ && (match L0 with
    | some L => qdec S.1 n1 θ k.2.2 L
    | none => true)
/-- code by sixteens -/
abbrev qPg : Type := List (List (Option (Instr × Nat)))
def qat (T : qPg) (pc : Nat) : Option (Instr × Nat) := match T[pc / 16]? with
  | some r => (r[pc % 16]?).join
  | none => none
def qPgk (T : qPg) (cc : ByteArray) : Bool := (List.range (16 * T.length)).all (fun pc => match qat T pc with
  | some i => decide (decode cc pc = .ok i)
  | none => true)
theorem q_pgk {T : qPg} {cc : ByteArray} (h : qPgk T cc = true) {pc : Nat} {i : Instr × Nat} (hi : qat T pc = some i) : decode cc pc = .ok i := by
  unfold qPgk at h
  rw [List.all_eq_true] at h
  have hl : pc < 16 * T.length := by
    unfold qat at hi
    split at hi
    · rename_i r hr
      have := (List.getElem?_eq_some_iff.mp hr).1
      omega
    · cases hi
  have := h pc (List.mem_range.mpr hl)
  rw [hi] at this
  simpa using this
/-- a value is told apart into its numbers: local i, or the top of the stack (1000) -/
def qspA (S : AS) (i : Nat) : Option AV := if i = 1000 then S.2.1.2.head? else (S.2.1.1.find? (fun q => q.1 == i)).map (fun q => q.2)
def qsplit (S : AS) (i : Nat) : Option (List AS) := match qspA S i with
  | some a => (match qiv S.1 a with
    | some p => some ((List.range ((p.2 - p.1).toNat + 1)).flatMap (fun j : Nat => (qnarI S.1 a (p.1 + (j : Int), p.1 + (j : Int))).toList.map (fun N => (N, S.2))))
    | none => none)
  | none => none
theorem q_split {x : qCx} {S : AS} {i : Nat} {L : List AS} (hs : qsplit S i = some L) {pc : Nat} (h : ∀ T ∈ L, qG x T pc) : qG x S pc := by
  obtain ⟨γ, p, l, e, R, s, m, args, below, meth, c, Q, ⟨cc, nL', own⟩, A, D, adr, X, ms, w0, σe⟩ := x
  unfold qsplit at hs
  split at hs
  · rename_i a ha
    split at hs
    · rename_i pv hp
      cases hs
      intro σ ρ lv st ls ws H locs hw hl hS
      obtain ⟨h1, h2, h3⟩ := hS
      have hv : ∃ x, qvl σ a = some x := by
        have hr : ∃ v, qR σ ρ a v := by
          unfold qspA at ha
          split at ha
          · have hst := h2.2
            match hc : S.2.1.2, st, hst with
            | [], _, _ => rw [hc] at ha; cases ha
            | b :: bs, v :: st, hst =>
              rw [hc] at ha
              cases ha
              exact ⟨v, hst.1⟩
          · rw [Option.map_eq_some_iff] at ha
            obtain ⟨q, q1, rfl⟩ := ha
            obtain ⟨b, -, -, hb⟩ := F2.mem h2.1 (List.mem_of_find?_eq_some q1)
            exact ⟨b.2, hb⟩
        obtain ⟨v, hr⟩ := hr
        obtain ⟨z, rfl, -⟩ := q_iv h1 hr hp
        exact ⟨_, q_vl hr⟩
      obtain ⟨y, hy⟩ := hv
      have hin := q_ivV h1 hy hp
      simp only [qIn] at hin
      obtain ⟨N', e1, n1⟩ := q_narI h1 hy (iv := (pv.1 + (((y - pv.1).toNat : Nat) : Int), pv.1 + (((y - pv.1).toNat : Nat) : Int))) (by simp only [qIn]; omega)
      refine h (N', S.2) ?_ σ ρ lv st ls ws H locs hw hl ⟨n1, h2, h3⟩
      rw [List.mem_flatMap]
      exact ⟨(y - pv.1).toNat, List.mem_range.mpr (by omega), by rw [e1]; simp⟩
    · cases hs
  · cases hs
end
section
/-! the run of a method's code, and the contract that it gives -/
def qfin (rk : Nat) (D : qWd) (c : qCon) (ea pa : List AV) (S : AS) (i : Instr) (len : Nat) : Option Bool := match i with
  | .return_ => some (len == 1 && rk == 0 && S.2.1.2.isEmpty && qret D c ea pa S.1 S.2.2 none)
  | .ireturn => some (match S.2.1.2 with
    | [a] => len == 1 && qint a && (rk == 1 || (rk == 2 && qtk D S.1 S.2.2 a (0, 0, 1))) && qret D c ea pa S.1 S.2.2 (some a)
    | _ => false)
  | .lreturn => some (match S.2.1.2 with
    | [a] => len == 1 && a.1 == 2 && rk == 3 && qret D c ea pa S.1 S.2.2 (some a)
    | _ => false)
  | _ => none
def qone (D : qWd) (ms : qMods) (xr : List Nat) (tb : qTb) (MT : List qMt) (B : List qCon) (fr lc nL rk : Nat) (c : qCon) (ea pa : List AV) (T : qPg) (g : AS → Nat → Bool) (S : AS) (pc : Nat) : Bool :=
  match qat T pc with
  | some i => (match qfin rk D c ea pa S i.1 i.2 with
    | some b => b
    | none => (match qstep D ms xr tb MT B fr lc nL S pc i.1 i.2 with
      | some L => L.all (fun y => g y.1 y.2)
      | none => false))
  | none => false
def qrun (D : qWd) (ms : qMods) (xr : List Nat) (tb : qTb) (MT : List qMt) (B : List qCon) (fr lc nL rk : Nat) (c : qCon) (ea pa : List AV) (T : qPg) (thr : List Nat) (sps : List (Nat × Nat)) (g : AS → Nat → Bool) (S : AS) (pc : Nat) : Bool :=
  if thr.contains pc then S.2.1.2.isEmpty && (qclr D S.1 S.2.2).2.2.isEmpty
  else (match sps.find? (fun q => q.1 == pc) with
    | some q => (match qsplit S q.2 with
      | some L => L.all (fun U => qone D ms xr tb MT B fr lc nL rk c ea pa T g U pc)
      | none => false)
    | none => qone D ms xr tb MT B fr lc nL rk c ea pa T g S pc)
def qgo (D : qWd) (ms : qMods) (xr : List Nat) (tb : qTb) (MT : List qMt) (B : List qCon) (fr lc nL rk : Nat) (c : qCon) (ea pa : List AV) (T : qPg) (thr : List Nat) (sps : List (Nat × Nat)) (n0 : Nat) (lk : List Nat) (cuts : List qCut) (n1 : Nat) (L0 : Option qLin) : Nat → AS → Nat → Bool
  | 0, _, _ => false
  | f + 1, S, pc => if cuts.any (fun k => k.1 == pc) then cuts.any (fun k => k.1 == pc && qcchk D n0 lk n1 L0 S k)
    else qrun D ms xr tb MT B fr lc nL rk c ea pa T thr sps (qgo D ms xr tb MT B fr lc nL rk c ea pa T thr sps n0 lk cuts n1 L0 f) S pc
def qRt (x : qCx) (rk : Nat) (post : Option Value → va_W → Prop) : Prop := ∀ (ws : va_W) (H : Heap) (locs : List Loc) (pc : Nat) (ls : Array Slot), qkW x ws H locs →
  (rk = 0 → qdc x pc (.return_, 1) → post none ws → qWp x H locs pc ls []) ∧
  (∀ v : Int32, (rk = 1 ∨ (rk = 2 ∧ (v = 0 ∨ v = 1))) → qdc x pc (.ireturn, 1) → post (some (.int v)) ws → qWp x H locs pc ls [.int v]) ∧
  (∀ v : Int64, rk = 3 → qdc x pc (.lreturn, 1) → post (some (.long v)) ws → qWp x H locs pc ls [.long v])
abbrev qxX (x : qCx) : va_W → Prop := x.2.2.2.2.2.2.2.2.2.2.2.2.2.2.2.2.1
abbrev qxadr (x : qCx) : List Nat := x.2.2.2.2.2.2.2.2.2.2.2.2.2.2.2.1
abbrev qxw0 (x : qCx) : va_W := x.2.2.2.2.2.2.2.2.2.2.2.2.2.2.2.2.2.2.1
abbrev qxσ (x : qCx) : qσ := x.2.2.2.2.2.2.2.2.2.2.2.2.2.2.2.2.2.2.2
abbrev qxcc (x : qCx) : ByteArray := x.2.2.2.2.2.2.2.2.2.2.2.2.1.1
def qTh9 (x : qCx) (thr : List Nat) : Prop := ∀ pc ∈ thr, ∀ (ws : va_W) (H : Heap) (locs : List Loc) (ls : Array Slot) (lv : List (Nat × Value)), qkW x ws H locs → qlv x ls lv → qH (qxD x) x.1 (qxadr x) (fun _ _ => False) ws → qxX x ws → qK (qxD x) (qxms x) (qxw0 x) ws → qWp x H locs pc ls []
section QGO
variable {x : qCx} {D : qWd} {ms : qMods} {xr : List Nat} {tb : qTb} {MT : List qMt} {B : List qCon} {fr lc nL rk : Nat} {c : qCon} {ea pa : List AV} {T : qPg} {thr : List Nat} {sps : List (Nat × Nat)} {n0 : Nat} {lk : List Nat} {cuts : List qCut} {n1 : Nat} {L0 : Option qLin} {av : List Value}
theorem q_fin (eD : qxD x = D) (hD : qD D) (ems : qxms x = c.2.2.2.2.2) (hE : qEn (qxσ x) (qxw0 x) av ea pa c) (hret : qRt x rk (qPost D x.1 (qxX x) c (qxadr x) (qxw0 x) av)) {S : AS} {pc : Nat} {i : Instr} {len : Nat} {b : Bool} (hf : qfin rk D c ea pa S i len = some b) (hb : b = true) (hdc : qdc x pc (i, len)) : qG x S pc := by
  obtain ⟨γ, p, l, e, R, s, m, args, below, meth, cd, Q, ⟨cc, nL', own⟩, A, D', adr, X, ms', w0, σe⟩ := x
  simp only [qxD] at eD
  simp only [qxms] at ems
  subst eD
  subst ems
  subst hb
  obtain ⟨N, ⟨loc, stk⟩, M⟩ := S
  intro σ ρ lv st ls ws H locs hw hl hS
  obtain ⟨h1, h2, h3, h4, h5, h6⟩ := hS
  have hq := hret ws H locs pc ls hw
  unfold qfin at hf
  split at hf
  · simp only [Option.some.injEq, Bool.and_eq_true, beq_iff_eq] at hf
    obtain ⟨⟨⟨f1, f2⟩, f3⟩, f4⟩ := hf
    subst f1
    have hst : stk = [] := by simpa using f3
    subst hst
    match st, h2.2 with
    | [], _ => exact hq.1 f2 hdc (q_ret hD hE h6 h1 h3 h4 h5 hw.2.1.1 (.inl ⟨rfl, rfl⟩) f4)
  · simp only [Option.some.injEq] at hf
    split at hf
    · rename_i a
      simp only [Bool.and_eq_true, beq_iff_eq, Bool.or_eq_true] at hf
      obtain ⟨⟨⟨f1, f2⟩, f3⟩, f4⟩ := hf
      subst f1
      match st, h2.2 with
      | [v], ⟨hr, _⟩ =>
      obtain ⟨z, rfl⟩ := q_int hr f2
      refine hq.2.1 z ?_ hdc (q_ret hD hE h6 h1 h3 h4 h5 hw.2.1.1 (.inr ⟨_, _, rfl, rfl, hr⟩) f4)
      rcases f3 with f3 | ⟨f3, f5⟩
      · exact .inl f3
      · refine .inr ⟨f3, ?_⟩
        obtain ⟨w, e1, e2⟩ := (q_tk hD h1 h3 hr f5).1 rfl
        cases e1
        simp only [qIn] at e2
        have h8 : z.toInt = 0 ∨ z.toInt = 1 := by omega
        rcases h8 with h8 | h8
        · exact .inl (Int32.toInt_inj.mp (by simpa using h8))
        · exact .inr (Int32.toInt_inj.mp (by simpa using h8))
    · cases hf
  · simp only [Option.some.injEq] at hf
    split at hf
    · rename_i a
      simp only [Bool.and_eq_true, beq_iff_eq] at hf
      obtain ⟨⟨⟨f1, f2⟩, f3⟩, f4⟩ := hf
      subst f1
      match st, h2.2 with
      | [v], ⟨hr, _⟩ =>
      obtain ⟨z, rfl⟩ := q_lng hr f2
      exact hq.2.2 z f3 hdc (q_ret hD hE h6 h1 h3 h4 h5 hw.2.1.1 (.inr ⟨_, _, rfl, rfl, hr⟩) f4)
    · cases hf
  · cases hf
theorem q_one (hB : qB x) (eD : qxD x = D) (hD : qD D) (ems : qxms x = ms) (ecm : ms = c.2.2.2.2.2) (hX : qxok x xr) (htb : qTbk (qxown x) MT tb) (hcon : ∀ c ∈ B, qSem x.1 x.2.2.1 D (qxX x) MT c) (hR : fr ≤ x.2.2.2.2.1.frames ∧ lc ≤ x.2.2.2.2.1.locals) (hnL : qxnL x = nL) (hT : qPgk T (qxcc x) = true) (hE : qEn (qxσ x) (qxw0 x) av ea pa c) (hret : qRt x rk (qPost D x.1 (qxX x) c (qxadr x) (qxw0 x) av))
    {g : AS → Nat → Bool} (hg : ∀ S pc, g S pc = true → qG x S pc) {S : AS} {pc : Nat} (h : qone D ms xr tb MT B fr lc nL rk c ea pa T g S pc = true) : qG x S pc := by
  unfold qone at h
  split at h
  · rename_i i hi
    have hdc : qdc x pc (i.1, i.2) := by
      obtain ⟨γ, p, l, e, R, s, m, args, below, meth, cd, Q, ⟨cc, nL', own⟩, A, D', adr, X, ms', w0, σe⟩ := x
      exact q_pgk hT hi
    split at h
    · rename_i b hb
      exact q_fin eD hD (ems.trans ecm) hE hret hb h hdc
    · split at h
      · rename_i L hL
        rw [List.all_eq_true] at h
        exact q_step hB eD hD ems hX htb hcon hR hnL hL hdc (fun y hy => hg _ _ (h y hy))
      · cases h
  · cases h
theorem q_run (hB : qB x) (eD : qxD x = D) (hD : qD D) (ems : qxms x = ms) (ecm : ms = c.2.2.2.2.2) (hX : qxok x xr) (htb : qTbk (qxown x) MT tb) (hcon : ∀ c ∈ B, qSem x.1 x.2.2.1 D (qxX x) MT c) (hR : fr ≤ x.2.2.2.2.1.frames ∧ lc ≤ x.2.2.2.2.1.locals) (hnL : qxnL x = nL) (hT : qPgk T (qxcc x) = true) (hE : qEn (qxσ x) (qxw0 x) av ea pa c) (hret : qRt x rk (qPost D x.1 (qxX x) c (qxadr x) (qxw0 x) av)) (hth : qTh9 x thr)
    {g : AS → Nat → Bool} (hg : ∀ S pc, g S pc = true → qG x S pc) {S : AS} {pc : Nat} (h : qrun D ms xr tb MT B fr lc nL rk c ea pa T thr sps g S pc = true) : qG x S pc := by
  unfold qrun at h
  split at h
  · rename_i hc
    simp only [Bool.and_eq_true] at h
    obtain ⟨h7, h8⟩ := h
    obtain ⟨γ, p, l, e, R, s, m, args, below, meth, cd, Q, ⟨cc, nL', own⟩, A, D', adr, X, ms', w0, σe⟩ := x
    simp only [qxD] at eD
    subst eD
    obtain ⟨N, ⟨loc, stk⟩, M⟩ := S
    intro σ ρ lv st ls ws H locs hw hl hS
    obtain ⟨h1, h2, h3, h4, h5, h6⟩ := hS
    have hst : stk = [] := by simpa using h7
    subst hst
    match st, h2.2 with
    | [], _ => exact hth pc (by simpa using hc) ws H locs ls lv hw hl (q_H0 hD h1 h3 hw.2.1.1 h8) h4 h5
  · split at h
    · rename_i q hq
      split at h
      · rename_i L hL
        rw [List.all_eq_true] at h
        exact q_split hL (fun U hU => q_one hB eD hD ems ecm hX htb hcon hR hnL hT hE hret hg (h U hU))
      · cases h
    · exact q_one hB eD hD ems ecm hX htb hcon hR hnL hT hE hret hg h
theorem q_go (hB : qB x) (eD : qxD x = D) (hD : qD D) (ems : qxms x = ms) (ecm : ms = c.2.2.2.2.2) (hX : qxok x xr) (htb : qTbk (qxown x) MT tb) (hcon : ∀ c ∈ B, qSem x.1 x.2.2.1 D (qxX x) MT c) (hR : fr ≤ x.2.2.2.2.1.frames ∧ lc ≤ x.2.2.2.2.1.locals) (hnL : qxnL x = nL) (hT : qPgk T (qxcc x) = true) (hE : qEn (qxσ x) (qxw0 x) av ea pa c) (hret : qRt x rk (qPost D x.1 (qxX x) c (qxadr x) (qxw0 x) av)) (hth : qTh9 x thr)
    (hcut : ∀ k ∈ cuts, ∀ S, qcchk D n0 lk n1 L0 S k = true → qG x S k.1) : ∀ (f : Nat) (S : AS) (pc : Nat), qgo D ms xr tb MT B fr lc nL rk c ea pa T thr sps n0 lk cuts n1 L0 f S pc = true → qG x S pc
  | 0, _, _, h => by cases h
  | f + 1, S, pc, h => by
    unfold qgo at h
    split at h
    · rw [List.any_eq_true] at h
      obtain ⟨k, k1, k2⟩ := h
      simp only [Bool.and_eq_true, beq_iff_eq] at k2
      rw [← k2.1]
      exact hcut k k1 S k2.2
    · exact q_run hB eD hD ems ecm hX htb hcon hR hnL hT hE hret hth (fun S pc h => q_go hB eD hD ems ecm hX htb hcon hR hnL hT hE hret hth hcut f S pc h) h
/-- all segments are in order -/
def qsegs (D : qWd) (ms : qMods) (xr : List Nat) (tb : qTb) (MT : List qMt) (B : List qCon) (fr lc nL rk : Nat) (c : qCon) (ea pa : List AV) (T : qPg) (thr : List Nat) (sps : List (Nat × Nat)) (n0 : Nat) (lk : List Nat) (cuts : List qCut) (fu : Nat) : Bool :=
  cuts.all (fun k => qpos k.2.1 k.2.2 && qrun D ms xr tb MT B fr lc nL rk c ea pa T thr sps (qgo D ms xr tb MT B fr lc nL rk c ea pa T thr sps n0 lk cuts k.2.1.1.1.length (some k.2.2) fu) k.2.1 k.1)
end QGO
theorem qEn.mono {σ σ' : qσ} (h : qle1 σ σ') {w0 : va_W} {av : List Value} {ea pa : List AV} {c : qCon} (hE : qEn σ w0 av ea pa c) : qEn σ' w0 av ea pa c :=
  ⟨fun i a ha h1 => (hE.1 i a ha h1).elim (fun x hx => ⟨x, hx.1, q_vlm h hx.2⟩), F2.mono (fun _ _ h1 => h1.elim (fun x hx => ⟨x, hx.1, q_vlm h hx.2⟩)) hE.2⟩
/-- the cuts hold, by their ranks -/
theorem q_cuts {γ : kΓ} {p : Program} {l : Launch} {e : Env} {R : Room} {s : State} {m : MethodId} {args : Array Value} {below : List Frame} {meth : Method} {cd : Code} {Q : State → Prop} {cc : ByteArray} {nL : Nat} {own : String} {A : Nat → Prop} {D : qWd} {adr : List Nat} {X : va_W → Prop} {ms : qMods} {w0 : va_W} {σ0 : qσ}
    {xr : List Nat} {tb : qTb} {MT : List qMt} {B : List qCon} {fr lc rk : Nat} {c : qCon} {ea pa : List AV} {T : qPg} {thr : List Nat} {sps : List (Nat × Nat)} {n0 : Nat} {lk : List Nat} {cuts : List qCut} {fu : Nat} {av : List Value}
    (hB : kC γ p s m args cd cc nL own A) (hD : qD D) (ecm : ms = c.2.2.2.2.2) (hX : ∀ (ws : va_W) (q g a : Nat) (c : va_E), D.1[q]? = some g → ¬ g ∈ xr → ws.map Prod.fst = adr → adr[q]? = some a → X ws → X (ws.set q (a, c))) (htb : qTbk own MT tb) (hcon : ∀ c ∈ B, qSem γ l D X MT c) (hR : fr ≤ R.frames ∧ lc ≤ R.locals) (hT : qPgk T cc = true) (hE : qEn σ0 w0 av ea pa c)
    (hret : ∀ σ : qσ, qRt (γ, p, l, e, R, s, m, args, below, meth, cd, Q, (cc, nL, own), A, D, adr, X, ms, w0, σ) rk (qPost D γ X c adr w0 av)) (hth : ∀ σ : qσ, qTh9 (γ, p, l, e, R, s, m, args, below, meth, cd, Q, (cc, nL, own), A, D, adr, X, ms, w0, σ) thr) (h0 : ∀ v, n0 ≤ v → σ0 v = none)
    (hseg : qsegs D ms xr tb MT B fr lc nL rk c ea pa T thr sps n0 lk cuts fu = true) : ∀ (n : Nat) (k : qCut), k ∈ cuts → ∀ (σ : qσ) (ρ : qρ) (lv : List (Nat × Value)) (st : List Value) (ls : Array Slot) (ws : va_W) (H : Heap) (locs : List Loc) (y : Int), kW γ A ws s H locs → lv_has ls nL lv → qsN D σ k.2.1.1 → qsF σ ρ k.2.1.2.1 lv st → qsM D γ adr σ ρ k.2.1.2.2 ws → X ws → qK D ms w0 ws → qle1 σ0 σ → qlv1 σ k.2.2.2 = some y → (k.2.2.1 + y).toNat < n →
      W p l e R s m args below meth cd H locs 0 0 Q (F0 m k.1 ls st) := by
  intro n
  induction n with
  | zero =>
    intro k hk σ ρ lv st ls ws H locs y hw hl hN hF hM hx hK hσ hy hn
    omega
  | succ n ih =>
    intro k hk σ ρ lv st ls ws H locs y hw hl hN hF hM hx hK hσ hy hn
    have hseg' := hseg
    unfold qsegs at hseg'
    rw [List.all_eq_true] at hseg'
    have hs := hseg' k hk
    simp only [Bool.and_eq_true] at hs
    have hG : qG (γ, p, l, e, R, s, m, args, below, meth, cd, Q, (cc, nL, own), A, D, adr, X, ms, w0, σ) k.2.1 k.1 := by
      refine q_run (x := (γ, p, l, e, R, s, m, args, below, meth, cd, Q, (cc, nL, own), A, D, adr, X, ms, w0, σ)) (av := av) hB rfl hD rfl ecm hX htb hcon hR rfl hT (hE.mono hσ) (hret σ) (hth σ) ?_ hs.2
      intro S pc hS
      refine q_go (x := (γ, p, l, e, R, s, m, args, below, meth, cd, Q, (cc, nL, own), A, D, adr, X, ms, w0, σ)) (av := av) hB rfl hD rfl ecm hX htb hcon hR rfl hT (hE.mono hσ) (hret σ) (hth σ) ?_ fu S pc hS
      intro k' hk' S' hc'
      unfold qcchk at hc'
      simp only [Bool.and_eq_true] at hc'
      intro σ2 ρ2 lv2 st2 ls2 ws2 H2 locs2 hw2 hl2 hS2
      obtain ⟨g1, g2, g3, g4, g5, g6⟩ := hS2
      obtain ⟨lv', f1, f2, f3, f4, f5⟩ := q_sub1 hD g1 g2 g3 hw2.2.1.1 hc'.1
      have hs' := hseg' k' hk'
      simp only [Bool.and_eq_true] at hs'
      obtain ⟨y', y1, y2⟩ := q_pos f2 hs'.1
      have hdec := q_dec g1 y1 (q_lvm g6 hy) hc'.2
      refine ih k' hk' _ _ lv' st2 ls2 ws2 H2 locs2 y' hw2 ⟨hl2.1, hl2.2.1, fun q hq => hl2.2.2 q (f1 q hq)⟩ f2 f3 f4 g4 g5 ?_ y1 ?_
      · intro v z hv
        have hv0 : v < n0 := by
          rcases Nat.lt_or_ge v n0 with h9 | h9
          · exact h9
          · rw [h0 v h9] at hv; cases hv
        rw [f5 v hv0]
        exact g6 _ _ (hσ _ _ hv)
      · omega
    exact hG σ ρ lv st ls ws H locs hw hl ⟨hN, hF, hM, hx, hK, qle1.refl _⟩
end
section
/-! the contract of a method, by its check -/
def qloc : Nat → List AV → List (Nat × AV)
  | _, [] => []
  | i, a :: r => (i, a) :: qloc (if a.1 = 2 then i + 2 else i + 1) r
theorem q_loc {σ : qσ} {ρ : qρ} : ∀ {as : List AV} {av : List Value} (i : Nat), F2 (qR σ ρ) as av → F2 (fun x y => x.1 = y.1 ∧ qR σ ρ x.2 y.2) (qloc i as) (lv_args i av)
  | [], [], _, _ => trivial
  | a :: as, v :: av, i, ⟨h1, h2⟩ => by
    unfold qloc lv_args
    refine ⟨⟨rfl, h1⟩, ?_⟩
    have : (if v.category = 2 then i + 2 else i + 1) = (if a.1 = 2 then i + 2 else i + 1) := by
      rw [h1.cat.2]
      by_cases h : a.1 = 2
      · simp [h]
      · simp [h]
    rw [this]
    exact q_loc _ h2
theorem q_sl {σ : qσ} {ρ : qρ} : ∀ {as : List AV} {av : List Value}, F2 (qR σ ρ) as av → (lg_sl av).length = qwt as
  | [], [], _ => rfl
  | a :: as, v :: av, ⟨h1, h2⟩ => by
    have ih := q_sl h2
    unfold lg_sl at ih ⊢
    rw [List.flatMap_cons, List.length_append, ih]
    show _ = (if a.1 = 2 then 2 else 1) + qwt as
    have := h1.cat.2
    by_cases h : a.1 = 2
    · rw [if_pos h] at this; simp [this, h]
    · rw [if_neg h] at this; simp [this, h]
def qlks (as : List AV) : List Nat := (as.filter (fun a => a.1 == 2)).map (fun a => a.2.1)
def qchk (D : qWd) (xr : List Nat) (tb : qTb) (MT : List qMt) (B : List qCon) (nL rk : Nat) (c : qCon) (T : qPg) (thr : List Nat) (sps : List (Nat × Nat)) (cuts : List qCut) (fu : Nat) : Bool :=
  match qargs D ([], [], []) ([], [], []) c.2.1 with
  | some z => (match qlrn z.1 z.2.1 c.2.2.1 with
    | some w => (match qrels w.1 w.2.2 c.2.2.2.1 with
      | some N => Nat.ble (qwt z.2.2) nL && c.2.2.1.all (fun f => Nat.blt f.1 D.2.2 && Nat.blt f.2.1 10000) &&
          qgo D c.2.2.2.2.2 xr tb MT B c.1.2.1 c.1.2.2 nL rk c z.2.2 w.2.2 T thr sps N.1.length (qlks z.2.2) cuts N.1.length none fu (N, (qloc 0 z.2.2, []), w.2.1) 0 &&
          qsegs D c.2.2.2.2.2 xr tb MT B c.1.2.1 c.1.2.2 nL rk c z.2.2 w.2.2 T thr sps N.1.length (qlks z.2.2) cuts fu
      | none => false)
    | none => false)
  | none => false
theorem q_ent {γ : kΓ} {p : Program} {l : Launch} {e : Env} {R : Room} {s : State} {m : MethodId} {args : Array Value} {below : List Frame} {meth : Method} {cd : Code} {Q : State → Prop} {cc : ByteArray} {nL : Nat} {own : String} {A : Nat → Prop} {D : qWd} {adr : List Nat} {X : va_W → Prop} {ws : va_W}
    {xr : List Nat} {tb : qTb} {MT : List qMt} {B : List qCon} {rk : Nat} {c : qCon} {T : qPg} {thr : List Nat} {sps : List (Nat × Nat)} {cuts : List qCut} {fu : Nat} {av : List Value}
    (hB : kC γ p s m args cd cc nL own A) (hD : qD D) (hX : ∀ (ws : va_W) (q g a : Nat) (c : va_E), D.1[q]? = some g → ¬ g ∈ xr → ws.map Prod.fst = adr → adr[q]? = some a → X ws → X (ws.set q (a, c))) (htb : qTbk own MT tb) (hcon : ∀ c ∈ B, qSem γ l D X MT c) (hR : c.1.2.1 ≤ R.frames ∧ c.1.2.2 ≤ R.locals) (hT : qPgk T cc = true) (hp : qPre D γ X c adr ws av)
    (hret : ∀ σ : qσ, qRt (γ, p, l, e, R, s, m, args, below, meth, cd, Q, (cc, nL, own), A, D, adr, X, c.2.2.2.2.2, ws, σ) rk (qPost D γ X c adr ws av)) (hth : ∀ σ : qσ, qTh9 (γ, p, l, e, R, s, m, args, below, meth, cd, Q, (cc, nL, own), A, D, adr, X, c.2.2.2.2.2, ws, σ) thr)
    (hchk : qchk D xr tb MT B nL rk c T thr sps cuts fu = true) {H : Heap} {locs : List Loc} {ls : Array Slot} (hw : kW γ A ws s H locs) (hl : lv_has ls nL (lv_args 0 av)) : W p l e R s m args below meth cd H locs 0 0 Q (F0 m 0 ls []) := by
  obtain ⟨p1, p2, p3, p4, p5⟩ := hp
  unfold qchk at hchk
  split at hchk
  · rename_i z hz
    split at hchk
    · rename_i w hw'
      split at hchk
      · rename_i N hN
        simp only [Bool.and_eq_true, List.all_eq_true, Nat.blt_eq] at hchk
        obtain ⟨⟨⟨c1, c2⟩, c3⟩, c4⟩ := hchk
        have n0 : qsN D (fun _ => none) ([], [], []) := ⟨fun _ _ => rfl, fun v iv h => by simp at h, fun a b d h => by simp at h, fun v g V d h => by simp at h⟩
        have m0 : qsM D γ adr (fun _ => none) (fun n => if n < D.2.2 then adr[n]? else none) ([], [], []) ws := by
          refine ⟨fun n hn => by simp [hn], fun j g h => by simp at h, fun n hn => ?_, fun n k a h => by simp at h, p1.1, p1.2.1, fun q g a c hg hc => ?_⟩
          · simp at hn
            have : ¬ n < D.2.2 := by omega
            simp [this]
          · obtain ⟨r, r1, r2, r3⟩ := p1.2.2 q g a c hg hc
            exact ⟨r, r1, r2, fun k hk => (r3 k hk).elim (fun f => f.elim) .inr⟩
        obtain ⟨σ1, ρ1, s1, r1, n1, m1, f1⟩ := q_args hD n0 m0 p3 hz
        obtain ⟨w2, e2, σ2, s2, n2, m2, f2⟩ := q_lrn hw.2.1.1 n1 m1 (fun f hf => ⟨c2 f hf, p4 f hf⟩)
        rw [hw'] at e2
        cases e2
        obtain ⟨N', e3, n3⟩ := q_rels (As := w.2.2) (f := fun i => (c.2.2.1[i]?).bind (qval ws)) (fun i a ha _ => by
          obtain ⟨f, hf, x, x1, x3⟩ := F2.idx f2 ha
          exact ⟨x, by rw [hf]; exact x1, x3⟩) n2 p5
        rw [hN] at e3
        cases e3
        have f1' := F2.mono (fun _ _ h => h.mono s2 (qle2.refl ρ1)) f1
        have hE : qEn σ2 ws av z.2.2 w.2.2 c := by
          refine ⟨fun i a ha h1 => ?_, f2⟩
          obtain ⟨v, v1, v2⟩ := F2.idx f1' ha
          obtain ⟨x, rfl⟩ := q_int v2 (by unfold qint; exact Nat.ble_eq.mpr h1)
          exact ⟨x, v1, q_vl v2⟩
        have hK0 : qK D c.2.2.2.2.2 ws ws := by
          intro q g a c1 a' c1' _ h1 h2 k _
          rw [h1] at h2
          cases h2
          rfl
        have hG : qG (γ, p, l, e, R, s, m, args, below, meth, cd, Q, (cc, nL, own), A, D, adr, X, c.2.2.2.2.2, ws, σ2) (N, (qloc 0 z.2.2, []), w.2.1) 0 := by
          refine q_go (x := (γ, p, l, e, R, s, m, args, below, meth, cd, Q, (cc, nL, own), A, D, adr, X, c.2.2.2.2.2, ws, σ2)) (av := av) hB rfl hD rfl rfl hX htb hcon hR rfl hT hE (hret σ2) (hth σ2) ?_ fu _ 0 c3
          intro k' hk' S' hc'
          unfold qcchk at hc'
          simp only [Bool.and_eq_true] at hc'
          intro σ3 ρ3 lv3 st3 ls3 ws3 H3 locs3 hw3 hl3 hS3
          obtain ⟨g1, g2, g3, g4, g5, g6⟩ := hS3
          obtain ⟨lv', f1, f2, f3, f4, f5⟩ := q_sub1 hD g1 g2 g3 hw3.2.1.1 hc'.1
          have hseg' := c4
          unfold qsegs at hseg'
          rw [List.all_eq_true] at hseg'
          have hs' := hseg' k' hk'
          simp only [Bool.and_eq_true] at hs'
          obtain ⟨y', y1, y2⟩ := q_pos f2 hs'.1
          refine q_cuts hB hD rfl hX htb hcon hR hT hE hret hth n3.1 c4 ((k'.2.2.1 + y').toNat + 1) k' hk' _ _ lv' st3 ls3 ws3 H3 locs3 y' hw3 ⟨hl3.1, hl3.2.1, fun q hq => hl3.2.2 q (f1 q hq)⟩ f2 f3 f4 g4 g5 ?_ y1 (Nat.lt_succ_self _)
          intro v z hv
          have hv0 : v < N.1.length := by
            rcases Nat.lt_or_ge v N.1.length with h9 | h9
            · exact h9
            · rw [n3.1 v h9] at hv; cases hv
          rw [f5 v hv0]
          exact g6 _ _ hv
        exact hG σ2 ρ1 _ [] ls ws H locs hw hl ⟨n3, ⟨q_loc 0 f1', trivial⟩, m2, p2, hK0, qle1.refl _⟩
      · cases hchk
    · cases hchk
  · cases hchk
section QRT
variable {γ : kΓ} {p : Program} {l : Launch} {e : Env} {R : Room} {s : State} {m : MethodId} {args : Array Value} {below : List Frame} {meth : Method} {c : Code} {H : Heap} {locs : List Loc} {cells slots : Nat} {Q : State → Prop}
variable {cc : ByteArray} {nL pc : Nat} {own : String} {A : Nat → Prop} {ws : va_W} {ls : Array Slot} {post : Option Value → va_W → Prop}
theorem k_lret {mc ms : Nat} {w1 : va_W} {v : Int64} (hC : kC γ p s m args c cc nL own A) (hr : meth.sig.returnType = some .long) (hlocks : meth.locks = false) (hw : kW γ A ws s H locs) (is : List Nat) (hn : va_nd is = true) (hs : is.map (fun i => ws[i]?) = w1.map some) (hp : post (some (.long v)) w1) (hc : cells ≤ mc) (hsl : slots ≤ ms) (hdg : decode cc pc = .ok (.lreturn, 1)) :
    W p l e R s m args below meth c H locs cells slots (MQ below (kQ γ A post) args s mc ms A) (F0 m pc ls [.long v]) :=
  W.widen hc hsl (W.lret hC.1 hC.2.1 hr (fun t ht hW => k_end (mc := 0) (ms := 0) hw is hn hs hp t ht) hw.2.2.2.2 hdg hlocks)
theorem q_rt (hC : kC γ p s m args c cc nL own A) (hlocks : meth.locks = false) {ret : Option FieldType} (hr : meth.sig.returnType = ret) {rk : Nat} (hrk : (rk = 0 ∧ ret = none) ∨ (rk = 1 ∧ ret = some .int) ∨ (rk = 2 ∧ ret = some .boolean) ∨ (rk = 3 ∧ ret = some .long)) {D : qWd} {adr : List Nat} {X : va_W → Prop} {ms : qMods} {w0 : va_W} (σ : qσ) :
    qRt (γ, p, l, e, R, s, m, args, below, meth, c, MQ below (kQ γ A post) args s 0 0 A, (cc, nL, own), A, D, adr, X, ms, w0, σ) rk post := by
  intro ws H locs pc ls hw
  refine ⟨fun h0 hd hp => ?_, fun v hv hd hp => ?_, fun v h3 hd hp => ?_⟩
  · have hn : ret = none := by
      rcases hrk with ⟨z, h⟩ | ⟨z, h⟩ | ⟨z, h⟩ | ⟨z, h⟩
      · exact h
      all_goals omega
    exact k_vret hC (hr.trans hn) hlocks hw (List.range ws.length) (q_nd _) (q_all ws) hp (Nat.le_refl _) (Nat.le_refl _) hd
  · rcases hv with h1 | ⟨h2, hv⟩
    · have hn : ret = some .int := by
        rcases hrk with ⟨z, h⟩ | ⟨z, h⟩ | ⟨z, h⟩ | ⟨z, h⟩
        · omega
        · exact h
        all_goals omega
      exact k_iret hC (hr.trans hn) hlocks hw (List.range ws.length) (q_nd _) (q_all ws) hp (Nat.le_refl _) (Nat.le_refl _) hd
    · have hn : ret = some .boolean := by
        rcases hrk with ⟨z, h⟩ | ⟨z, h⟩ | ⟨z, h⟩ | ⟨z, h⟩
        · omega
        · omega
        · exact h
        · omega
      exact k_zret hC (hr.trans hn) hlocks (by rcases hv with rfl | rfl <;> rfl) hw (List.range ws.length) (q_nd _) (q_all ws) hp (Nat.le_refl _) (Nat.le_refl _) hd
  · have hn : ret = some .long := by
      rcases hrk with ⟨z, h⟩ | ⟨z, h⟩ | ⟨z, h⟩ | ⟨z, h⟩
      · omega
      · omega
      · omega
      · exact h
    exact k_lret hC (hr.trans hn) hlocks hw (List.range ws.length) (q_nd _) (q_all ws) hp (Nat.le_refl _) (Nat.le_refl _) hd
end QRT
theorem q_sem {γ : kΓ} {l : Launch} {D : qWd} {X : va_W → Prop} {MT : List qMt} {xr : List Nat} {tb : qTb} {B : List qCon} {rk : Nat} {c : qCon} {T : qPg} {sps : List (Nat × Nat)} {cuts : List qCut} {fu : Nat} {y : qMt} (hD : qDok D = true) (hy : MT[c.1.1]? = some y) (hpl : plainName y.1.cls = true) (hrk : (rk = 0 ∧ y.2.2.2 = none) ∨ (rk = 1 ∧ y.2.2.2 = some .int) ∨ (rk = 2 ∧ y.2.2.2 = some .boolean) ∨ (rk = 3 ∧ y.2.2.2 = some .long))
    (hX : ∀ (adr : List Nat) (ws : va_W) (q g a : Nat) (c : va_E), D.1[q]? = some g → ¬ g ∈ xr → ws.map Prod.fst = adr → adr[q]? = some a → X ws → X (ws.set q (a, c))) (htb : qTbk y.1.cls MT tb) (hcon : ∀ c ∈ B, qSem γ l D X MT c) (hT : qPgk T y.2.1 = true) (hchk : qchk D xr tb MT B y.2.2.1 rk c T [] sps cuts fu = true) : qSem γ l D X MT c := by
  refine ⟨y, hy, fun adr ws av hp => ?_⟩
  have hslot : (lg_sl av).length ≤ y.2.2.1 := by
    obtain ⟨p1, p2, p3, p4, p5⟩ := hp
    unfold qchk at hchk
    split at hchk
    · rename_i z hz
      split at hchk
      · split at hchk
        · simp only [Bool.and_eq_true, Nat.ble_eq] at hchk
          have n0 : qsN D (fun _ => none) ([], [], []) := ⟨fun _ _ => rfl, fun v iv h => by simp at h, fun a b d h => by simp at h, fun v g V d h => by simp at h⟩
          have m0 : qsM D γ adr (fun _ => none) (fun n => if n < D.2.2 then adr[n]? else none) ([], [], []) ws := by
            refine ⟨fun n hn => by simp [hn], fun j g h => by simp at h, fun n hn => ?_, fun n k a h => by simp at h, p1.1, p1.2.1, fun q g a c hg hc => ?_⟩
            · simp at hn
              have : ¬ n < D.2.2 := by omega
              simp [this]
            · obtain ⟨r, r1, r2, r3⟩ := p1.2.2 q g a c hg hc
              exact ⟨r, r1, r2, fun k hk => (r3 k hk).elim (fun f => f.elim) .inr⟩
          obtain ⟨σ1, ρ1, s1, r1, n1, m1, f1⟩ := q_args (q_Dok hD) n0 m0 p3 hz
          rw [q_sl f1]
          exact hchk.1.1.1
        · cases hchk
      · cases hchk
    · cases hchk
  refine k_ofW hpl hslot ?_
  intro p e s m below meth cd A ls hC hr hlocks hname hw hl
  exact q_ent hC (q_Dok hD) (hX adr) htb hcon ⟨Nat.le_refl _, Nat.le_refl _⟩ hT hp (fun σ => q_rt hC hlocks hr hrk σ) (fun σ pc hpc => by cases hpc) hchk hw hl
end
