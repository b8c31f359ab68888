section
-- ===== PART A: goes FIRST, ahead of the names: the tables' words, and 'selects' of the private methods out of them =====
/-- a private method of a class that the tables say can be made, by its rows of tables_1 -/
def lw_okq (q : MethodName × Nat) : Prop := (q.1.cls ≠ "java/lang/invoke/MethodHandle" ∧ q.1.cls ≠ "java/lang/invoke/VarHandle") ∧ Cond.instantiable q.1.cls q.2 ∈ tables_1 ∧ Cond.privateMethod q.1 ∈ tables_1 ∧ Cond.instanceMethod q.1 ∈ tables_1
theorem lw_p0 : lw_okq (⟨"SmokeWeds$Reader", "next", "()V"⟩, 15) := ⟨⟨by decide +kernel, by decide +kernel⟩, List.mem_of_getElem? (i := 51) (by decide +kernel), List.mem_of_getElem? (i := 327) (by decide +kernel), List.mem_of_getElem? (i := 328) (by decide +kernel)⟩
theorem lw_p1 : lw_okq (⟨"SmokeWeds$Reader", "skipBlanks", "()V"⟩, 15) := ⟨⟨by decide +kernel, by decide +kernel⟩, List.mem_of_getElem? (i := 51) (by decide +kernel), List.mem_of_getElem? (i := 331) (by decide +kernel), List.mem_of_getElem? (i := 332) (by decide +kernel)⟩
theorem lw_p2 : lw_okq (⟨"SmokeWeds$Reader", "takeNumber", "()V"⟩, 15) := ⟨⟨by decide +kernel, by decide +kernel⟩, List.mem_of_getElem? (i := 51) (by decide +kernel), List.mem_of_getElem? (i := 338) (by decide +kernel), List.mem_of_getElem? (i := 339) (by decide +kernel)⟩
theorem lw_p3 : lw_okq (⟨"SmokeWeds$Reader", "takeWord", "()V"⟩, 15) := ⟨⟨by decide +kernel, by decide +kernel⟩, List.mem_of_getElem? (i := 51) (by decide +kernel), List.mem_of_getElem? (i := 345) (by decide +kernel), List.mem_of_getElem? (i := 346) (by decide +kernel)⟩
theorem lw_p4 : lw_okq (⟨"SmokeWeds$Reader", "readStatement", "()V"⟩, 15) := ⟨⟨by decide +kernel, by decide +kernel⟩, List.mem_of_getElem? (i := 51) (by decide +kernel), List.mem_of_getElem? (i := 444) (by decide +kernel), List.mem_of_getElem? (i := 445) (by decide +kernel)⟩
theorem lw_p5 : lw_okq (⟨"SmokeWeds$Reader", "readField", "()V"⟩, 15) := ⟨⟨by decide +kernel, by decide +kernel⟩, List.mem_of_getElem? (i := 51) (by decide +kernel), List.mem_of_getElem? (i := 450) (by decide +kernel), List.mem_of_getElem? (i := 451) (by decide +kernel)⟩
theorem lw_p6 : lw_okq (⟨"SmokeWeds$Reader", "once", "(Z)Z"⟩, 15) := ⟨⟨by decide +kernel, by decide +kernel⟩, List.mem_of_getElem? (i := 51) (by decide +kernel), List.mem_of_getElem? (i := 454) (by decide +kernel), List.mem_of_getElem? (i := 455) (by decide +kernel)⟩
theorem lw_p7 : lw_okq (⟨"SmokeWeds$Reader", "wrong", "(I)V"⟩, 15) := ⟨⟨by decide +kernel, by decide +kernel⟩, List.mem_of_getElem? (i := 51) (by decide +kernel), List.mem_of_getElem? (i := 458) (by decide +kernel), List.mem_of_getElem? (i := 459) (by decide +kernel)⟩
theorem lw_p8 : lw_okq (⟨"SmokeWeds$Reader", "wrongAt", "(II)V"⟩, 15) := ⟨⟨by decide +kernel, by decide +kernel⟩, List.mem_of_getElem? (i := 51) (by decide +kernel), List.mem_of_getElem? (i := 462) (by decide +kernel), List.mem_of_getElem? (i := 463) (by decide +kernel)⟩
theorem lw_p9 : lw_okq (⟨"SmokeWeds$Reader", "numberWithin", "(II)I"⟩, 15) := ⟨⟨by decide +kernel, by decide +kernel⟩, List.mem_of_getElem? (i := 51) (by decide +kernel), List.mem_of_getElem? (i := 466) (by decide +kernel), List.mem_of_getElem? (i := 467) (by decide +kernel)⟩
theorem lw_p10 : lw_okq (⟨"SmokeWeds$Reader", "beginLaw", "(LSmokeWeds$Law;)V"⟩, 15) := ⟨⟨by decide +kernel, by decide +kernel⟩, List.mem_of_getElem? (i := 51) (by decide +kernel), List.mem_of_getElem? (i := 472) (by decide +kernel), List.mem_of_getElem? (i := 473) (by decide +kernel)⟩
theorem lw_p11 : lw_okq (⟨"SmokeWeds$Reader", "readChoice", "(I)V"⟩, 15) := ⟨⟨by decide +kernel, by decide +kernel⟩, List.mem_of_getElem? (i := 51) (by decide +kernel), List.mem_of_getElem? (i := 476) (by decide +kernel), List.mem_of_getElem? (i := 477) (by decide +kernel)⟩
theorem lw_p12 : lw_okq (⟨"SmokeWeds$Reader", "readTest", "(I)V"⟩, 15) := ⟨⟨by decide +kernel, by decide +kernel⟩, List.mem_of_getElem? (i := 51) (by decide +kernel), List.mem_of_getElem? (i := 480) (by decide +kernel), List.mem_of_getElem? (i := 481) (by decide +kernel)⟩
theorem lw_p13 : lw_okq (⟨"SmokeWeds$Reader", "readSum", "(I)V"⟩, 15) := ⟨⟨by decide +kernel, by decide +kernel⟩, List.mem_of_getElem? (i := 51) (by decide +kernel), List.mem_of_getElem? (i := 484) (by decide +kernel), List.mem_of_getElem? (i := 485) (by decide +kernel)⟩
theorem lw_p14 : lw_okq (⟨"SmokeWeds$Reader", "readProduct", "(I)V"⟩, 15) := ⟨⟨by decide +kernel, by decide +kernel⟩, List.mem_of_getElem? (i := 51) (by decide +kernel), List.mem_of_getElem? (i := 488) (by decide +kernel), List.mem_of_getElem? (i := 489) (by decide +kernel)⟩
theorem lw_p15 : lw_okq (⟨"SmokeWeds$Reader", "readPart", "(I)V"⟩, 15) := ⟨⟨by decide +kernel, by decide +kernel⟩, List.mem_of_getElem? (i := 51) (by decide +kernel), List.mem_of_getElem? (i := 492) (by decide +kernel), List.mem_of_getElem? (i := 493) (by decide +kernel)⟩
def lw_privs_1 : List (MethodName × Nat) := [(⟨"SmokeWeds$Reader", "next", "()V"⟩, 15), (⟨"SmokeWeds$Reader", "skipBlanks", "()V"⟩, 15), (⟨"SmokeWeds$Reader", "takeNumber", "()V"⟩, 15), (⟨"SmokeWeds$Reader", "takeWord", "()V"⟩, 15), (⟨"SmokeWeds$Reader", "readStatement", "()V"⟩, 15), (⟨"SmokeWeds$Reader", "readField", "()V"⟩, 15), (⟨"SmokeWeds$Reader", "once", "(Z)Z"⟩, 15), (⟨"SmokeWeds$Reader", "wrong", "(I)V"⟩, 15), (⟨"SmokeWeds$Reader", "wrongAt", "(II)V"⟩, 15), (⟨"SmokeWeds$Reader", "numberWithin", "(II)I"⟩, 15), (⟨"SmokeWeds$Reader", "beginLaw", "(LSmokeWeds$Law;)V"⟩, 15), (⟨"SmokeWeds$Reader", "readChoice", "(I)V"⟩, 15), (⟨"SmokeWeds$Reader", "readTest", "(I)V"⟩, 15), (⟨"SmokeWeds$Reader", "readSum", "(I)V"⟩, 15), (⟨"SmokeWeds$Reader", "readProduct", "(I)V"⟩, 15), (⟨"SmokeWeds$Reader", "readPart", "(I)V"⟩, 15)]
theorem lw_r1 : ∀ q ∈ lw_privs_1, lw_okq q := List.forall_mem_cons.mpr ⟨lw_p0, List.forall_mem_cons.mpr ⟨lw_p1, List.forall_mem_cons.mpr ⟨lw_p2, List.forall_mem_cons.mpr ⟨lw_p3, List.forall_mem_cons.mpr ⟨lw_p4, List.forall_mem_cons.mpr ⟨lw_p5, List.forall_mem_cons.mpr ⟨lw_p6, List.forall_mem_cons.mpr ⟨lw_p7, List.forall_mem_cons.mpr ⟨lw_p8, List.forall_mem_cons.mpr ⟨lw_p9, List.forall_mem_cons.mpr ⟨lw_p10, List.forall_mem_cons.mpr ⟨lw_p11, List.forall_mem_cons.mpr ⟨lw_p12, List.forall_mem_cons.mpr ⟨lw_p13, List.forall_mem_cons.mpr ⟨lw_p14, List.forall_mem_cons.mpr ⟨lw_p15, fun _ h => absurd h List.not_mem_nil⟩⟩⟩⟩⟩⟩⟩⟩⟩⟩⟩⟩⟩⟩⟩⟩
theorem lw_p16 : lw_okq (⟨"SmokeWeds$Reader", "factTold", "()I"⟩, 15) := ⟨⟨by decide +kernel, by decide +kernel⟩, List.mem_of_getElem? (i := 51) (by decide +kernel), List.mem_of_getElem? (i := 496) (by decide +kernel), List.mem_of_getElem? (i := 497) (by decide +kernel)⟩
theorem lw_p17 : lw_okq (⟨"SmokeWeds$Reader", "expectSign", "(I)V"⟩, 15) := ⟨⟨by decide +kernel, by decide +kernel⟩, List.mem_of_getElem? (i := 51) (by decide +kernel), List.mem_of_getElem? (i := 510) (by decide +kernel), List.mem_of_getElem? (i := 511) (by decide +kernel)⟩
theorem lw_p18 : lw_okq (⟨"SmokeWeds$Reader", "readHouse", "()V"⟩, 15) := ⟨⟨by decide +kernel, by decide +kernel⟩, List.mem_of_getElem? (i := 51) (by decide +kernel), List.mem_of_getElem? (i := 527) (by decide +kernel), List.mem_of_getElem? (i := 528) (by decide +kernel)⟩
theorem lw_p19 : lw_okq (⟨"SmokeWeds$Reader", "expectNewName", "()V"⟩, 15) := ⟨⟨by decide +kernel, by decide +kernel⟩, List.mem_of_getElem? (i := 51) (by decide +kernel), List.mem_of_getElem? (i := 531) (by decide +kernel), List.mem_of_getElem? (i := 532) (by decide +kernel)⟩
theorem lw_p20 : lw_okq (⟨"SmokeWeds$Reader", "expectWord", "(LSmokeWeds$Word;)V"⟩, 15) := ⟨⟨by decide +kernel, by decide +kernel⟩, List.mem_of_getElem? (i := 51) (by decide +kernel), List.mem_of_getElem? (i := 541) (by decide +kernel), List.mem_of_getElem? (i := 542) (by decide +kernel)⟩
theorem lw_p21 : lw_okq (⟨"SmokeWeds$Reader", "expectKind", "()I"⟩, 15) := ⟨⟨by decide +kernel, by decide +kernel⟩, List.mem_of_getElem? (i := 51) (by decide +kernel), List.mem_of_getElem? (i := 549) (by decide +kernel), List.mem_of_getElem? (i := 550) (by decide +kernel)⟩
theorem lw_p22 : lw_okq (⟨"SmokeWeds", "isHouse", "(I)Z"⟩, 7) := ⟨⟨by decide +kernel, by decide +kernel⟩, List.mem_of_getElem? (i := 26) (by decide +kernel), List.mem_of_getElem? (i := 562) (by decide +kernel), List.mem_of_getElem? (i := 563) (by decide +kernel)⟩
theorem lw_p23 : lw_okq (⟨"SmokeWeds", "lengthIfLit", "(I)I"⟩, 7) := ⟨⟨by decide +kernel, by decide +kernel⟩, List.mem_of_getElem? (i := 26) (by decide +kernel), List.mem_of_getElem? (i := 602) (by decide +kernel), List.mem_of_getElem? (i := 603) (by decide +kernel)⟩
theorem lw_p24 : lw_okq (⟨"SmokeWeds", "rise", "(II)I"⟩, 7) := ⟨⟨by decide +kernel, by decide +kernel⟩, List.mem_of_getElem? (i := 26) (by decide +kernel), List.mem_of_getElem? (i := 636) (by decide +kernel), List.mem_of_getElem? (i := 637) (by decide +kernel)⟩
theorem lw_p25 : lw_okq (⟨"SmokeWeds$Smoke", "lay", "(LSmokeWeds$Street;III)V"⟩, 4) := ⟨⟨by decide +kernel, by decide +kernel⟩, List.mem_of_getElem? (i := 198) (by decide +kernel), List.mem_of_getElem? (i := 647) (by decide +kernel), List.mem_of_getElem? (i := 648) (by decide +kernel)⟩
theorem lw_p26 : lw_okq (⟨"SmokeWeds$Life", "ageWeddings", "(I)V"⟩, 13) := ⟨⟨by decide +kernel, by decide +kernel⟩, List.mem_of_getElem? (i := 221) (by decide +kernel), List.mem_of_getElem? (i := 678) (by decide +kernel), List.mem_of_getElem? (i := 679) (by decide +kernel)⟩
theorem lw_p27 : lw_okq (⟨"SmokeWeds$Life", "blacken", "(ILSmokeWeds$Smoke;)V"⟩, 13) := ⟨⟨by decide +kernel, by decide +kernel⟩, List.mem_of_getElem? (i := 221) (by decide +kernel), List.mem_of_getElem? (i := 688) (by decide +kernel), List.mem_of_getElem? (i := 689) (by decide +kernel)⟩
theorem lw_p28 : lw_okq (⟨"SmokeWeds", "areTwo", "(II)Z"⟩, 7) := ⟨⟨by decide +kernel, by decide +kernel⟩, List.mem_of_getElem? (i := 26) (by decide +kernel), List.mem_of_getElem? (i := 701) (by decide +kernel), List.mem_of_getElem? (i := 702) (by decide +kernel)⟩
theorem lw_p29 : lw_okq (⟨"java/lang/Throwable", "fillInStackTrace", "(I)Ljava/lang/Throwable;"⟩, 6) := ⟨⟨by decide +kernel, by decide +kernel⟩, List.mem_of_getElem? (i := 884) (by decide +kernel), List.mem_of_getElem? (i := 882) (by decide +kernel), List.mem_of_getElem? (i := 883) (by decide +kernel)⟩
theorem lw_p30 : lw_okq (⟨"SmokeWedsModel", "plain", "(I)V"⟩, 43) := ⟨⟨by decide +kernel, by decide +kernel⟩, List.mem_of_getElem? (i := 909) (by decide +kernel), List.mem_of_getElem? (i := 915) (by decide +kernel), List.mem_of_getElem? (i := 916) (by decide +kernel)⟩
theorem lw_p31 : lw_okq (⟨"SmokeWedsModel", "readsAll", "()Z"⟩, 43) := ⟨⟨by decide +kernel, by decide +kernel⟩, List.mem_of_getElem? (i := 909) (by decide +kernel), List.mem_of_getElem? (i := 1063) (by decide +kernel), List.mem_of_getElem? (i := 1064) (by decide +kernel)⟩
def lw_privs_2 : List (MethodName × Nat) := [(⟨"SmokeWeds$Reader", "factTold", "()I"⟩, 15), (⟨"SmokeWeds$Reader", "expectSign", "(I)V"⟩, 15), (⟨"SmokeWeds$Reader", "readHouse", "()V"⟩, 15), (⟨"SmokeWeds$Reader", "expectNewName", "()V"⟩, 15), (⟨"SmokeWeds$Reader", "expectWord", "(LSmokeWeds$Word;)V"⟩, 15), (⟨"SmokeWeds$Reader", "expectKind", "()I"⟩, 15), (⟨"SmokeWeds", "isHouse", "(I)Z"⟩, 7), (⟨"SmokeWeds", "lengthIfLit", "(I)I"⟩, 7), (⟨"SmokeWeds", "rise", "(II)I"⟩, 7), (⟨"SmokeWeds$Smoke", "lay", "(LSmokeWeds$Street;III)V"⟩, 4), (⟨"SmokeWeds$Life", "ageWeddings", "(I)V"⟩, 13), (⟨"SmokeWeds$Life", "blacken", "(ILSmokeWeds$Smoke;)V"⟩, 13), (⟨"SmokeWeds", "areTwo", "(II)Z"⟩, 7), (⟨"java/lang/Throwable", "fillInStackTrace", "(I)Ljava/lang/Throwable;"⟩, 6), (⟨"SmokeWedsModel", "plain", "(I)V"⟩, 43), (⟨"SmokeWedsModel", "readsAll", "()Z"⟩, 43)]
theorem lw_r2 : ∀ q ∈ lw_privs_2, lw_okq q := List.forall_mem_cons.mpr ⟨lw_p16, List.forall_mem_cons.mpr ⟨lw_p17, List.forall_mem_cons.mpr ⟨lw_p18, List.forall_mem_cons.mpr ⟨lw_p19, List.forall_mem_cons.mpr ⟨lw_p20, List.forall_mem_cons.mpr ⟨lw_p21, List.forall_mem_cons.mpr ⟨lw_p22, List.forall_mem_cons.mpr ⟨lw_p23, List.forall_mem_cons.mpr ⟨lw_p24, List.forall_mem_cons.mpr ⟨lw_p25, List.forall_mem_cons.mpr ⟨lw_p26, List.forall_mem_cons.mpr ⟨lw_p27, List.forall_mem_cons.mpr ⟨lw_p28, List.forall_mem_cons.mpr ⟨lw_p29, List.forall_mem_cons.mpr ⟨lw_p30, List.forall_mem_cons.mpr ⟨lw_p31, fun _ h => absurd h List.not_mem_nil⟩⟩⟩⟩⟩⟩⟩⟩⟩⟩⟩⟩⟩⟩⟩⟩
theorem lw_p32 : lw_okq (⟨"SmokeWedsModel", "nextToken", "()V"⟩, 43) := ⟨⟨by decide +kernel, by decide +kernel⟩, List.mem_of_getElem? (i := 909) (by decide +kernel), List.mem_of_getElem? (i := 1067) (by decide +kernel), List.mem_of_getElem? (i := 1068) (by decide +kernel)⟩
theorem lw_p33 : lw_okq (⟨"SmokeWedsModel", "signAt", "(I)I"⟩, 43) := ⟨⟨by decide +kernel, by decide +kernel⟩, List.mem_of_getElem? (i := 909) (by decide +kernel), List.mem_of_getElem? (i := 1071) (by decide +kernel), List.mem_of_getElem? (i := 1072) (by decide +kernel)⟩
theorem lw_p34 : lw_okq (⟨"SmokeWedsModel", "isWord", "(J)Z"⟩, 43) := ⟨⟨by decide +kernel, by decide +kernel⟩, List.mem_of_getElem? (i := 909) (by decide +kernel), List.mem_of_getElem? (i := 1078) (by decide +kernel), List.mem_of_getElem? (i := 1079) (by decide +kernel)⟩
theorem lw_p35 : lw_okq (⟨"SmokeWedsModel", "readsField", "()Z"⟩, 43) := ⟨⟨by decide +kernel, by decide +kernel⟩, List.mem_of_getElem? (i := 909) (by decide +kernel), List.mem_of_getElem? (i := 1082) (by decide +kernel), List.mem_of_getElem? (i := 1083) (by decide +kernel)⟩
theorem lw_p36 : lw_okq (⟨"SmokeWedsModel", "isTwice", "(I)Z"⟩, 43) := ⟨⟨by decide +kernel, by decide +kernel⟩, List.mem_of_getElem? (i := 909) (by decide +kernel), List.mem_of_getElem? (i := 1086) (by decide +kernel), List.mem_of_getElem? (i := 1087) (by decide +kernel)⟩
theorem lw_p37 : lw_okq (⟨"SmokeWedsModel", "fails", "(I)Z"⟩, 43) := ⟨⟨by decide +kernel, by decide +kernel⟩, List.mem_of_getElem? (i := 909) (by decide +kernel), List.mem_of_getElem? (i := 1090) (by decide +kernel), List.mem_of_getElem? (i := 1091) (by decide +kernel)⟩
theorem lw_p38 : lw_okq (⟨"SmokeWedsModel", "needsNumber", "(II)Z"⟩, 43) := ⟨⟨by decide +kernel, by decide +kernel⟩, List.mem_of_getElem? (i := 909) (by decide +kernel), List.mem_of_getElem? (i := 1094) (by decide +kernel), List.mem_of_getElem? (i := 1095) (by decide +kernel)⟩
theorem lw_p39 : lw_okq (⟨"SmokeWedsModel", "ends", "()Z"⟩, 43) := ⟨⟨by decide +kernel, by decide +kernel⟩, List.mem_of_getElem? (i := 909) (by decide +kernel), List.mem_of_getElem? (i := 1101) (by decide +kernel), List.mem_of_getElem? (i := 1102) (by decide +kernel)⟩
theorem lw_p40 : lw_okq (⟨"SmokeWedsModel", "isSign", "(I)Z"⟩, 43) := ⟨⟨by decide +kernel, by decide +kernel⟩, List.mem_of_getElem? (i := 909) (by decide +kernel), List.mem_of_getElem? (i := 1105) (by decide +kernel), List.mem_of_getElem? (i := 1106) (by decide +kernel)⟩
theorem lw_p41 : lw_okq (⟨"SmokeWedsModel", "readsLaw", "(I)Z"⟩, 43) := ⟨⟨by decide +kernel, by decide +kernel⟩, List.mem_of_getElem? (i := 909) (by decide +kernel), List.mem_of_getElem? (i := 1110) (by decide +kernel), List.mem_of_getElem? (i := 1111) (by decide +kernel)⟩
theorem lw_p42 : lw_okq (⟨"SmokeWedsModel", "reads", "()Z"⟩, 43) := ⟨⟨by decide +kernel, by decide +kernel⟩, List.mem_of_getElem? (i := 909) (by decide +kernel), List.mem_of_getElem? (i := 1114) (by decide +kernel), List.mem_of_getElem? (i := 1115) (by decide +kernel)⟩
theorem lw_p43 : lw_okq (⟨"SmokeWedsModel", "fact", "()I"⟩, 43) := ⟨⟨by decide +kernel, by decide +kernel⟩, List.mem_of_getElem? (i := 909) (by decide +kernel), List.mem_of_getElem? (i := 1118) (by decide +kernel), List.mem_of_getElem? (i := 1119) (by decide +kernel)⟩
theorem lw_p44 : lw_okq (⟨"SmokeWedsModel", "puts", "(I)V"⟩, 43) := ⟨⟨by decide +kernel, by decide +kernel⟩, List.mem_of_getElem? (i := 909) (by decide +kernel), List.mem_of_getElem? (i := 1127) (by decide +kernel), List.mem_of_getElem? (i := 1128) (by decide +kernel)⟩
theorem lw_p45 : lw_okq (⟨"SmokeWedsModel", "readsOne", "(II)Z"⟩, 43) := ⟨⟨by decide +kernel, by decide +kernel⟩, List.mem_of_getElem? (i := 909) (by decide +kernel), List.mem_of_getElem? (i := 1135) (by decide +kernel), List.mem_of_getElem? (i := 1136) (by decide +kernel)⟩
theorem lw_p46 : lw_okq (⟨"SmokeWedsModel", "readsHouse", "()Z"⟩, 43) := ⟨⟨by decide +kernel, by decide +kernel⟩, List.mem_of_getElem? (i := 909) (by decide +kernel), List.mem_of_getElem? (i := 1141) (by decide +kernel), List.mem_of_getElem? (i := 1142) (by decide +kernel)⟩
theorem lw_p47 : lw_okq (⟨"SmokeWedsModel", "isKept", "()Z"⟩, 43) := ⟨⟨by decide +kernel, by decide +kernel⟩, List.mem_of_getElem? (i := 909) (by decide +kernel), List.mem_of_getElem? (i := 1145) (by decide +kernel), List.mem_of_getElem? (i := 1146) (by decide +kernel)⟩
def lw_privs_3 : List (MethodName × Nat) := [(⟨"SmokeWedsModel", "nextToken", "()V"⟩, 43), (⟨"SmokeWedsModel", "signAt", "(I)I"⟩, 43), (⟨"SmokeWedsModel", "isWord", "(J)Z"⟩, 43), (⟨"SmokeWedsModel", "readsField", "()Z"⟩, 43), (⟨"SmokeWedsModel", "isTwice", "(I)Z"⟩, 43), (⟨"SmokeWedsModel", "fails", "(I)Z"⟩, 43), (⟨"SmokeWedsModel", "needsNumber", "(II)Z"⟩, 43), (⟨"SmokeWedsModel", "ends", "()Z"⟩, 43), (⟨"SmokeWedsModel", "isSign", "(I)Z"⟩, 43), (⟨"SmokeWedsModel", "readsLaw", "(I)Z"⟩, 43), (⟨"SmokeWedsModel", "reads", "()Z"⟩, 43), (⟨"SmokeWedsModel", "fact", "()I"⟩, 43), (⟨"SmokeWedsModel", "puts", "(I)V"⟩, 43), (⟨"SmokeWedsModel", "readsOne", "(II)Z"⟩, 43), (⟨"SmokeWedsModel", "readsHouse", "()Z"⟩, 43), (⟨"SmokeWedsModel", "isKept", "()Z"⟩, 43)]
theorem lw_r3 : ∀ q ∈ lw_privs_3, lw_okq q := List.forall_mem_cons.mpr ⟨lw_p32, List.forall_mem_cons.mpr ⟨lw_p33, List.forall_mem_cons.mpr ⟨lw_p34, List.forall_mem_cons.mpr ⟨lw_p35, List.forall_mem_cons.mpr ⟨lw_p36, List.forall_mem_cons.mpr ⟨lw_p37, List.forall_mem_cons.mpr ⟨lw_p38, List.forall_mem_cons.mpr ⟨lw_p39, List.forall_mem_cons.mpr ⟨lw_p40, List.forall_mem_cons.mpr ⟨lw_p41, List.forall_mem_cons.mpr ⟨lw_p42, List.forall_mem_cons.mpr ⟨lw_p43, List.forall_mem_cons.mpr ⟨lw_p44, List.forall_mem_cons.mpr ⟨lw_p45, List.forall_mem_cons.mpr ⟨lw_p46, List.forall_mem_cons.mpr ⟨lw_p47, fun _ h => absurd h List.not_mem_nil⟩⟩⟩⟩⟩⟩⟩⟩⟩⟩⟩⟩⟩⟩⟩⟩
theorem lw_p48 : lw_okq (⟨"SmokeWedsModel", "needsWord", "(J)Z"⟩, 43) := ⟨⟨by decide +kernel, by decide +kernel⟩, List.mem_of_getElem? (i := 909) (by decide +kernel), List.mem_of_getElem? (i := 1155) (by decide +kernel), List.mem_of_getElem? (i := 1156) (by decide +kernel)⟩
theorem lw_p49 : lw_okq (⟨"SmokeWedsModel", "kindAt", "()I"⟩, 43) := ⟨⟨by decide +kernel, by decide +kernel⟩, List.mem_of_getElem? (i := 909) (by decide +kernel), List.mem_of_getElem? (i := 1159) (by decide +kernel), List.mem_of_getElem? (i := 1160) (by decide +kernel)⟩
theorem lw_p50 : lw_okq (⟨"SmokeWedsModel", "lays", "(II)V"⟩, 43) := ⟨⟨by decide +kernel, by decide +kernel⟩, List.mem_of_getElem? (i := 909) (by decide +kernel), List.mem_of_getElem? (i := 1163) (by decide +kernel), List.mem_of_getElem? (i := 1164) (by decide +kernel)⟩
theorem lw_p51 : lw_okq (⟨"SmokeWedsModel", "isHouse", "(I)Z"⟩, 43) := ⟨⟨by decide +kernel, by decide +kernel⟩, List.mem_of_getElem? (i := 909) (by decide +kernel), List.mem_of_getElem? (i := 1174) (by decide +kernel), List.mem_of_getElem? (i := 1175) (by decide +kernel)⟩
theorem lw_p52 : lw_okq (⟨"SmokeWedsModel", "wedTo", "(I)I"⟩, 43) := ⟨⟨by decide +kernel, by decide +kernel⟩, List.mem_of_getElem? (i := 909) (by decide +kernel), List.mem_of_getElem? (i := 1178) (by decide +kernel), List.mem_of_getElem? (i := 1179) (by decide +kernel)⟩
theorem lw_p53 : lw_okq (⟨"SmokeWedsModel", "isLit", "(I)Z"⟩, 43) := ⟨⟨by decide +kernel, by decide +kernel⟩, List.mem_of_getElem? (i := 909) (by decide +kernel), List.mem_of_getElem? (i := 1186) (by decide +kernel), List.mem_of_getElem? (i := 1187) (by decide +kernel)⟩
theorem lw_p54 : lw_okq (⟨"SmokeWedsModel", "isShut", "(I)Z"⟩, 43) := ⟨⟨by decide +kernel, by decide +kernel⟩, List.mem_of_getElem? (i := 909) (by decide +kernel), List.mem_of_getElem? (i := 1194) (by decide +kernel), List.mem_of_getElem? (i := 1195) (by decide +kernel)⟩
theorem lw_p55 : lw_okq (⟨"SmokeWedsModel", "windAt", "(I)I"⟩, 43) := ⟨⟨by decide +kernel, by decide +kernel⟩, List.mem_of_getElem? (i := 909) (by decide +kernel), List.mem_of_getElem? (i := 1202) (by decide +kernel), List.mem_of_getElem? (i := 1203) (by decide +kernel)⟩
theorem lw_p56 : lw_okq (⟨"SmokeWedsModel", "worked", "(I)I"⟩, 43) := ⟨⟨by decide +kernel, by decide +kernel⟩, List.mem_of_getElem? (i := 909) (by decide +kernel), List.mem_of_getElem? (i := 1206) (by decide +kernel), List.mem_of_getElem? (i := 1207) (by decide +kernel)⟩
theorem lw_p57 : lw_okq (⟨"SmokeWedsModel", "opens", "(I)V"⟩, 43) := ⟨⟨by decide +kernel, by decide +kernel⟩, List.mem_of_getElem? (i := 909) (by decide +kernel), List.mem_of_getElem? (i := 1210) (by decide +kernel), List.mem_of_getElem? (i := 1211) (by decide +kernel)⟩
theorem lw_p58 : lw_okq (⟨"SmokeWedsModel", "sums", "(I)V"⟩, 43) := ⟨⟨by decide +kernel, by decide +kernel⟩, List.mem_of_getElem? (i := 909) (by decide +kernel), List.mem_of_getElem? (i := 1214) (by decide +kernel), List.mem_of_getElem? (i := 1215) (by decide +kernel)⟩
theorem lw_p59 : lw_okq (⟨"SmokeWedsModel", "tests", "(I)V"⟩, 43) := ⟨⟨by decide +kernel, by decide +kernel⟩, List.mem_of_getElem? (i := 909) (by decide +kernel), List.mem_of_getElem? (i := 1218) (by decide +kernel), List.mem_of_getElem? (i := 1219) (by decide +kernel)⟩
theorem lw_p60 : lw_okq (⟨"SmokeWedsModel", "longOf", "(III)I"⟩, 43) := ⟨⟨by decide +kernel, by decide +kernel⟩, List.mem_of_getElem? (i := 909) (by decide +kernel), List.mem_of_getElem? (i := 1226) (by decide +kernel), List.mem_of_getElem? (i := 1227) (by decide +kernel)⟩
theorem lw_p61 : lw_okq (⟨"SmokeWedsModel", "cellOf", "(III)I"⟩, 43) := ⟨⟨by decide +kernel, by decide +kernel⟩, List.mem_of_getElem? (i := 909) (by decide +kernel), List.mem_of_getElem? (i := 1235) (by decide +kernel), List.mem_of_getElem? (i := 1236) (by decide +kernel)⟩
theorem lw_p62 : lw_okq (⟨"SmokeWedsModel", "isCell", "(II)Z"⟩, 43) := ⟨⟨by decide +kernel, by decide +kernel⟩, List.mem_of_getElem? (i := 909) (by decide +kernel), List.mem_of_getElem? (i := 1245) (by decide +kernel), List.mem_of_getElem? (i := 1246) (by decide +kernel)⟩
theorem lw_p63 : lw_okq (⟨"SmokeWedsModel", "smokes", "(III)V"⟩, 43) := ⟨⟨by decide +kernel, by decide +kernel⟩, List.mem_of_getElem? (i := 909) (by decide +kernel), List.mem_of_getElem? (i := 1253) (by decide +kernel), List.mem_of_getElem? (i := 1254) (by decide +kernel)⟩
def lw_privs_4 : List (MethodName × Nat) := [(⟨"SmokeWedsModel", "needsWord", "(J)Z"⟩, 43), (⟨"SmokeWedsModel", "kindAt", "()I"⟩, 43), (⟨"SmokeWedsModel", "lays", "(II)V"⟩, 43), (⟨"SmokeWedsModel", "isHouse", "(I)Z"⟩, 43), (⟨"SmokeWedsModel", "wedTo", "(I)I"⟩, 43), (⟨"SmokeWedsModel", "isLit", "(I)Z"⟩, 43), (⟨"SmokeWedsModel", "isShut", "(I)Z"⟩, 43), (⟨"SmokeWedsModel", "windAt", "(I)I"⟩, 43), (⟨"SmokeWedsModel", "worked", "(I)I"⟩, 43), (⟨"SmokeWedsModel", "opens", "(I)V"⟩, 43), (⟨"SmokeWedsModel", "sums", "(I)V"⟩, 43), (⟨"SmokeWedsModel", "tests", "(I)V"⟩, 43), (⟨"SmokeWedsModel", "longOf", "(III)I"⟩, 43), (⟨"SmokeWedsModel", "cellOf", "(III)I"⟩, 43), (⟨"SmokeWedsModel", "isCell", "(II)Z"⟩, 43), (⟨"SmokeWedsModel", "smokes", "(III)V"⟩, 43)]
theorem lw_r4 : ∀ q ∈ lw_privs_4, lw_okq q := List.forall_mem_cons.mpr ⟨lw_p48, List.forall_mem_cons.mpr ⟨lw_p49, List.forall_mem_cons.mpr ⟨lw_p50, List.forall_mem_cons.mpr ⟨lw_p51, List.forall_mem_cons.mpr ⟨lw_p52, List.forall_mem_cons.mpr ⟨lw_p53, List.forall_mem_cons.mpr ⟨lw_p54, List.forall_mem_cons.mpr ⟨lw_p55, List.forall_mem_cons.mpr ⟨lw_p56, List.forall_mem_cons.mpr ⟨lw_p57, List.forall_mem_cons.mpr ⟨lw_p58, List.forall_mem_cons.mpr ⟨lw_p59, List.forall_mem_cons.mpr ⟨lw_p60, List.forall_mem_cons.mpr ⟨lw_p61, List.forall_mem_cons.mpr ⟨lw_p62, List.forall_mem_cons.mpr ⟨lw_p63, fun _ h => absurd h List.not_mem_nil⟩⟩⟩⟩⟩⟩⟩⟩⟩⟩⟩⟩⟩⟩⟩⟩
theorem lw_p64 : lw_okq (⟨"SmokeWedsModel", "passes", "()V"⟩, 43) := ⟨⟨by decide +kernel, by decide +kernel⟩, List.mem_of_getElem? (i := 909) (by decide +kernel), List.mem_of_getElem? (i := 1261) (by decide +kernel), List.mem_of_getElem? (i := 1262) (by decide +kernel)⟩
theorem lw_p65 : lw_okq (⟨"SmokeWedsModel", "weds", "(ZZ)V"⟩, 43) := ⟨⟨by decide +kernel, by decide +kernel⟩, List.mem_of_getElem? (i := 909) (by decide +kernel), List.mem_of_getElem? (i := 1265) (by decide +kernel), List.mem_of_getElem? (i := 1266) (by decide +kernel)⟩
theorem lw_p66 : lw_okq (⟨"SmokeWedsModel", "payOf", "(I)I"⟩, 43) := ⟨⟨by decide +kernel, by decide +kernel⟩, List.mem_of_getElem? (i := 909) (by decide +kernel), List.mem_of_getElem? (i := 1269) (by decide +kernel), List.mem_of_getElem? (i := 1270) (by decide +kernel)⟩
theorem lw_p67 : lw_okq (⟨"SmokeWedsModel", "areTwo", "(II)Z"⟩, 43) := ⟨⟨by decide +kernel, by decide +kernel⟩, List.mem_of_getElem? (i := 909) (by decide +kernel), List.mem_of_getElem? (i := 1280) (by decide +kernel), List.mem_of_getElem? (i := 1281) (by decide +kernel)⟩
theorem lw_p68 : lw_okq (⟨"SmokeWedsModel", "sootOf", "(II)I"⟩, 43) := ⟨⟨by decide +kernel, by decide +kernel⟩, List.mem_of_getElem? (i := 909) (by decide +kernel), List.mem_of_getElem? (i := 1288) (by decide +kernel), List.mem_of_getElem? (i := 1289) (by decide +kernel)⟩
theorem lw_p69 : lw_okq (⟨"SmokeWedsModel", "draws", "(I)I"⟩, 43) := ⟨⟨by decide +kernel, by decide +kernel⟩, List.mem_of_getElem? (i := 909) (by decide +kernel), List.mem_of_getElem? (i := 1330) (by decide +kernel), List.mem_of_getElem? (i := 1331) (by decide +kernel)⟩
def lw_privs_5 : List (MethodName × Nat) := [(⟨"SmokeWedsModel", "passes", "()V"⟩, 43), (⟨"SmokeWedsModel", "weds", "(ZZ)V"⟩, 43), (⟨"SmokeWedsModel", "payOf", "(I)I"⟩, 43), (⟨"SmokeWedsModel", "areTwo", "(II)Z"⟩, 43), (⟨"SmokeWedsModel", "sootOf", "(II)I"⟩, 43), (⟨"SmokeWedsModel", "draws", "(I)I"⟩, 43)]
theorem lw_r5 : ∀ q ∈ lw_privs_5, lw_okq q := List.forall_mem_cons.mpr ⟨lw_p64, List.forall_mem_cons.mpr ⟨lw_p65, List.forall_mem_cons.mpr ⟨lw_p66, List.forall_mem_cons.mpr ⟨lw_p67, List.forall_mem_cons.mpr ⟨lw_p68, List.forall_mem_cons.mpr ⟨lw_p69, fun _ h => absurd h List.not_mem_nil⟩⟩⟩⟩⟩⟩
def lw_privs : List (MethodName × Nat) := lw_privs_1 ++ (lw_privs_2 ++ (lw_privs_3 ++ (lw_privs_4 ++ (lw_privs_5))))
def lw_tbl : List Cond := k2_sels lw_privs ++ tables_1
theorem lw_privs_ok : ∀ q ∈ lw_privs, lw_okq q := by
  show ∀ q ∈ lw_privs_1 ++ (lw_privs_2 ++ (lw_privs_3 ++ (lw_privs_4 ++ (lw_privs_5)))), lw_okq q
  exact List.forall_mem_append.mpr ⟨lw_r1, List.forall_mem_append.mpr ⟨lw_r2, List.forall_mem_append.mpr ⟨lw_r3, List.forall_mem_append.mpr ⟨lw_r4, lw_r5⟩⟩⟩⟩
-- ===== end of PART A; then your names; then what follows =====
end
section
/-! the classes whose objects the world holds: law 0, life 1, mark 2, reader 3, smoke 4, street 5, tape 6, SmokeWeds 7, model 8; then arrays: byte 9, int 10, long 11, boolean 12, Mark 13 -/
def RX0 : String := "SmokeWeds$Law"
def TX0 : u_T := fun k => match k with
  | 0 => ("SmokeWeds$Law", "steps", "[I", true)
  | 1 => ("SmokeWeds$Law", "stack", "[I", true)
  | _ => ("SmokeWeds$Law", "size", "I", false)
def tyX0 : Nat → FieldType := fun k => match k with
  | 0 => .array .int
  | 1 => .array .int
  | _ => .int
theorem nmX0 : ∀ a, a < 3 → ∀ b, b < 3 → a ≠ b → (TX0 a).2.1 ≠ (TX0 b).2.1 := by decide +kernel
theorem tyX0_ok : ∀ k, k < 3 → parseFieldDescriptor (TX0 k).2.2.1 = some (tyX0 k) := by decide +kernel
def RX1 : String := "SmokeWeds$Life"
def TX1 : u_T := fun k => match k with
  | 0 => ("SmokeWeds$Life", "wedTo", "[I", true)
  | 1 => ("SmokeWeds$Life", "hoursWed", "[I", true)
  | 2 => ("SmokeWeds$Life", "children", "[I", true)
  | 3 => ("SmokeWeds$Life", "paid", "[I", true)
  | 4 => ("SmokeWeds$Life", "black", "[I", true)
  | 5 => ("SmokeWeds$Life", "sightOf", "[I", true)
  | 6 => ("SmokeWeds$Life", "sightWith", "[I", true)
  | 7 => ("SmokeWeds$Life", "sightMet", "[I", true)
  | 8 => ("SmokeWeds$Life", "hour", "I", false)
  | 9 => ("SmokeWeds$Life", "ahead", "I", false)
  | 10 => ("SmokeWeds$Life", "lit", "I", false)
  | 11 => ("SmokeWeds$Life", "closed", "I", false)
  | _ => ("SmokeWeds$Life", "sights", "I", false)
def tyX1 : Nat → FieldType := fun k => match k with
  | 0 => .array .int
  | 1 => .array .int
  | 2 => .array .int
  | 3 => .array .int
  | 4 => .array .int
  | 5 => .array .int
  | 6 => .array .int
  | 7 => .array .int
  | 8 => .int
  | 9 => .int
  | 10 => .int
  | 11 => .int
  | _ => .int
theorem nmX1 : ∀ a, a < 13 → ∀ b, b < 13 → a ≠ b → (TX1 a).2.1 ≠ (TX1 b).2.1 := by decide +kernel
theorem tyX1_ok : ∀ k, k < 13 → parseFieldDescriptor (TX1 k).2.2.1 = some (tyX1 k) := by decide +kernel
def RX2 : String := "SmokeWeds$Mark"
def TX2 : u_T := fun k => match k with
  | 0 => ("SmokeWeds$Mark", "street", "LSmokeWeds$Street;", true)
  | _ => ("SmokeWeds$Mark", "life", "LSmokeWeds$Life;", true)
def tyX2 : Nat → FieldType := fun k => match k with
  | 0 => .object "SmokeWeds$Street"
  | _ => .object "SmokeWeds$Life"
theorem nmX2 : ∀ a, a < 2 → ∀ b, b < 2 → a ≠ b → (TX2 a).2.1 ≠ (TX2 b).2.1 := by decide +kernel
theorem tyX2_ok : ∀ k, k < 2 → parseFieldDescriptor (TX2 k).2.2.1 = some (tyX2 k) := by decide +kernel
def RX3 : String := "SmokeWeds$Reader"
def TX3 : u_T := fun k => match k with
  | 0 => ("SmokeWeds$Reader", "tape", "LSmokeWeds$Tape;", true)
  | 1 => ("SmokeWeds$Reader", "street", "LSmokeWeds$Street;", false)
  | 2 => ("SmokeWeds$Reader", "law", "LSmokeWeds$Law;", false)
  | 3 => ("SmokeWeds$Reader", "at", "I", false)
  | 4 => ("SmokeWeds$Reader", "token", "I", false)
  | 5 => ("SmokeWeds$Reader", "place", "I", false)
  | 6 => ("SmokeWeds$Reader", "number", "I", false)
  | 7 => ("SmokeWeds$Reader", "letters", "J", false)
  | 8 => ("SmokeWeds$Reader", "word", "LSmokeWeds$Word;", false)
  | 9 => ("SmokeWeds$Reader", "fault", "I", false)
  | 10 => ("SmokeWeds$Reader", "fieldTold", "Z", false)
  | 11 => ("SmokeWeds$Reader", "windTold", "Z", false)
  | 12 => ("SmokeWeds$Reader", "plumeTold", "Z", false)
  | 13 => ("SmokeWeds$Reader", "coldTold", "Z", false)
  | _ => ("SmokeWeds$Reader", "turnsTold", "Z", false)
def tyX3 : Nat → FieldType := fun k => match k with
  | 0 => .object "SmokeWeds$Tape"
  | 1 => .object "SmokeWeds$Street"
  | 2 => .object "SmokeWeds$Law"
  | 3 => .int
  | 4 => .int
  | 5 => .int
  | 6 => .int
  | 7 => .long
  | 8 => .object "SmokeWeds$Word"
  | 9 => .int
  | 10 => .boolean
  | 11 => .boolean
  | 12 => .boolean
  | 13 => .boolean
  | _ => .boolean
theorem nmX3 : ∀ a, a < 15 → ∀ b, b < 15 → a ≠ b → (TX3 a).2.1 ≠ (TX3 b).2.1 := by decide +kernel
theorem tyX3_ok : ∀ k, k < 15 → parseFieldDescriptor (TX3 k).2.2.1 = some (tyX3 k) := by decide +kernel
def RX4 : String := "SmokeWeds$Smoke"
def TX4 : u_T := fun k => match k with
  | 0 => ("SmokeWeds$Smoke", "met", "[I", true)
  | 1 => ("SmokeWeds$Smoke", "laid", "[I", true)
  | 2 => ("SmokeWeds$Smoke", "cells", "[I", true)
  | _ => ("SmokeWeds$Smoke", "whose", "[I", true)
def tyX4 : Nat → FieldType := fun k => match k with
  | 0 => .array .int
  | 1 => .array .int
  | 2 => .array .int
  | _ => .array .int
theorem nmX4 : ∀ a, a < 4 → ∀ b, b < 4 → a ≠ b → (TX4 a).2.1 ≠ (TX4 b).2.1 := by decide +kernel
theorem tyX4_ok : ∀ k, k < 4 → parseFieldDescriptor (TX4 k).2.2.1 = some (tyX4 k) := by decide +kernel
def RX5 : String := "SmokeWeds$Street"
def TX5 : u_T := fun k => match k with
  | 0 => ("SmokeWeds$Street", "column", "[I", true)
  | 1 => ("SmokeWeds$Street", "row", "[I", true)
  | 2 => ("SmokeWeds$Street", "high", "[I", true)
  | 3 => ("SmokeWeds$Street", "kind", "[I", true)
  | 4 => ("SmokeWeds$Street", "name", "[J", true)
  | 5 => ("SmokeWeds$Street", "windLaw", "LSmokeWeds$Law;", true)
  | 6 => ("SmokeWeds$Street", "plumeLaw", "LSmokeWeds$Law;", true)
  | 7 => ("SmokeWeds$Street", "columns", "I", false)
  | 8 => ("SmokeWeds$Street", "rows", "I", false)
  | 9 => ("SmokeWeds$Street", "cold", "I", false)
  | 10 => ("SmokeWeds$Street", "turns", "I", false)
  | _ => ("SmokeWeds$Street", "houses", "I", false)
def tyX5 : Nat → FieldType := fun k => match k with
  | 0 => .array .int
  | 1 => .array .int
  | 2 => .array .int
  | 3 => .array .int
  | 4 => .array .long
  | 5 => .object "SmokeWeds$Law"
  | 6 => .object "SmokeWeds$Law"
  | 7 => .int
  | 8 => .int
  | 9 => .int
  | 10 => .int
  | _ => .int
theorem nmX5 : ∀ a, a < 12 → ∀ b, b < 12 → a ≠ b → (TX5 a).2.1 ≠ (TX5 b).2.1 := by decide +kernel
theorem tyX5_ok : ∀ k, k < 12 → parseFieldDescriptor (TX5 k).2.2.1 = some (tyX5 k) := by decide +kernel
def RX6 : String := "SmokeWeds$Tape"
def TX6 : u_T := fun k => match k with
  | 0 => ("SmokeWeds$Tape", "signs", "[B", true)
  | _ => ("SmokeWeds$Tape", "length", "I", false)
def tyX6 : Nat → FieldType := fun k => match k with
  | 0 => .array .byte
  | _ => .int
theorem nmX6 : ∀ a, a < 2 → ∀ b, b < 2 → a ≠ b → (TX6 a).2.1 ≠ (TX6 b).2.1 := by decide +kernel
theorem tyX6_ok : ∀ k, k < 2 → parseFieldDescriptor (TX6 k).2.2.1 = some (tyX6 k) := by decide +kernel
def RX8 : String := "SmokeWeds"
def TX8 : u_T := fun k => match k with
  | 0 => ("SmokeWeds", "tape", "LSmokeWeds$Tape;", true)
  | 1 => ("SmokeWeds", "reader", "LSmokeWeds$Reader;", true)
  | 2 => ("SmokeWeds", "air", "LSmokeWeds$Smoke;", true)
  | 3 => ("SmokeWeds", "life", "LSmokeWeds$Life;", true)
  | 4 => ("SmokeWeds", "marks", "[LSmokeWeds$Mark;", true)
  | 5 => ("SmokeWeds", "wedInRun", "[I", true)
  | _ => ("SmokeWeds", "here", "LSmokeWeds$Street;", false)
def tyX8 : Nat → FieldType := fun k => match k with
  | 0 => .object "SmokeWeds$Tape"
  | 1 => .object "SmokeWeds$Reader"
  | 2 => .object "SmokeWeds$Smoke"
  | 3 => .object "SmokeWeds$Life"
  | 4 => .array (.object "SmokeWeds$Mark")
  | 5 => .array .int
  | _ => .object "SmokeWeds$Street"
theorem nmX8 : ∀ a, a < 7 → ∀ b, b < 7 → a ≠ b → (TX8 a).2.1 ≠ (TX8 b).2.1 := by decide +kernel
theorem tyX8_ok : ∀ k, k < 7 → parseFieldDescriptor (TX8 k).2.2.1 = some (tyX8 k) := by decide +kernel
def RX9 : String := "SmokeWedsModel"
def TX9 : u_T := fun k => match k with
  | 0 => ("SmokeWedsModel", "thrown", "I", false)
  | 1 => ("SmokeWedsModel", "taped", "I", false)
  | 2 => ("SmokeWedsModel", "tape", "[I", true)
  | 3 => ("SmokeWedsModel", "size", "I", false)
  | 4 => ("SmokeWedsModel", "place", "I", false)
  | 5 => ("SmokeWedsModel", "begin", "I", false)
  | 6 => ("SmokeWedsModel", "token", "I", false)
  | 7 => ("SmokeWedsModel", "word", "J", false)
  | 8 => ("SmokeWedsModel", "told", "I", false)
  | 9 => ("SmokeWedsModel", "wrong", "I", false)
  | 10 => ("SmokeWedsModel", "street", "[I", true)
  | 11 => ("SmokeWedsModel", "names", "[J", true)
  | 12 => ("SmokeWedsModel", "columnOf", "[I", true)
  | 13 => ("SmokeWedsModel", "rowOf", "[I", true)
  | 14 => ("SmokeWedsModel", "high", "[I", true)
  | 15 => ("SmokeWedsModel", "kind", "[I", true)
  | 16 => ("SmokeWedsModel", "lineFrom", "[I", true)
  | 17 => ("SmokeWedsModel", "lineTo", "[I", true)
  | 18 => ("SmokeWedsModel", "codes", "[I", true)
  | 19 => ("SmokeWedsModel", "code", "I", false)
  | 20 => ("SmokeWedsModel", "isTold", "I", false)
  | 21 => ("SmokeWedsModel", "isPlume", "Z", false)
  | 22 => ("SmokeWedsModel", "opened", "[I", true)
  | 23 => ("SmokeWedsModel", "compared", "[Z", true)
  | 24 => ("SmokeWedsModel", "kept", "[I", true)
  | 25 => ("SmokeWedsModel", "keptBy", "[I", true)
  | 26 => ("SmokeWedsModel", "ahead", "[I", true)
  | 27 => ("SmokeWedsModel", "against", "[I", true)
  | 28 => ("SmokeWedsModel", "sum", "[I", true)
  | 29 => ("SmokeWedsModel", "sumBy", "[I", true)
  | 30 => ("SmokeWedsModel", "term", "[I", true)
  | 31 => ("SmokeWedsModel", "termBy", "[I", true)
  | 32 => ("SmokeWedsModel", "byNot", "[I", true)
  | 33 => ("SmokeWedsModel", "valueOf", "[I", true)
  | 34 => ("SmokeWedsModel", "given", "I", false)
  | 35 => ("SmokeWedsModel", "s", "[I", true)
  | 36 => ("SmokeWedsModel", "marked", "[I", true)
  | 37 => ("SmokeWedsModel", "aside", "[I", true)
  | 38 => ("SmokeWedsModel", "smoked", "[I", true)
  | 39 => ("SmokeWedsModel", "met", "[I", true)
  | 40 => ("SmokeWedsModel", "weddings", "I", false)
  | 41 => ("SmokeWedsModel", "g", "J", false)
  | _ => ("SmokeWedsModel", "isLaid", "[Z", true)
def tyX9 : Nat → FieldType := fun k => match k with
  | 0 => .int
  | 1 => .int
  | 2 => .array .int
  | 3 => .int
  | 4 => .int
  | 5 => .int
  | 6 => .int
  | 7 => .long
  | 8 => .int
  | 9 => .int
  | 10 => .array .int
  | 11 => .array .long
  | 12 => .array .int
  | 13 => .array .int
  | 14 => .array .int
  | 15 => .array .int
  | 16 => .array .int
  | 17 => .array .int
  | 18 => .array .int
  | 19 => .int
  | 20 => .int
  | 21 => .boolean
  | 22 => .array .int
  | 23 => .array .boolean
  | 24 => .array .int
  | 25 => .array .int
  | 26 => .array .int
  | 27 => .array .int
  | 28 => .array .int
  | 29 => .array .int
  | 30 => .array .int
  | 31 => .array .int
  | 32 => .array .int
  | 33 => .array .int
  | 34 => .int
  | 35 => .array .int
  | 36 => .array .int
  | 37 => .array .int
  | 38 => .array .int
  | 39 => .array .int
  | 40 => .int
  | 41 => .long
  | _ => .array .boolean
theorem nmX9 : ∀ a, a < 43 → ∀ b, b < 43 → a ≠ b → (TX9 a).2.1 ≠ (TX9 b).2.1 := by decide +kernel
theorem tyX9_ok : ∀ k, k < 43 → parseFieldDescriptor (TX9 k).2.2.1 = some (tyX9 k) := by decide +kernel
def zT : List Cond := lw_tbl.filter goodWord
theorem zT_good : GoodIn zT zT := fun w h => ⟨h, good_of_word (List.mem_filter.mp h).2⟩
theorem zT_sub {s : State} {args : Array Value} (h : ∀ w ∈ lw_tbl, w.before args s = true) : ∀ w ∈ zT, w.before args s = true := fun w hw => h w (List.mem_filter.mp hw).1
abbrev zcl : List vw_C := [(RX0, TX0, 3), (RX1, TX1, 13), (RX2, TX2, 2), (RX3, TX3, 15), (RX4, TX4, 4), (RX5, TX5, 12), (RX6, TX6, 2), (RX8, TX8, 7), (RX9, TX9, 43)]
def zty : Nat → Nat → FieldType := fun c => match c with
  | 0 => tyX0
  | 1 => tyX1
  | 2 => tyX2
  | 3 => tyX3
  | 4 => tyX4
  | 5 => tyX5
  | 6 => tyX6
  | 7 => tyX8
  | _ => tyX9
theorem zin0 : ∀ w ∈ u_ws RX0 TX0 3, w ∈ zT := by decide +kernel
theorem zin1 : ∀ w ∈ u_ws RX1 TX1 13, w ∈ zT := by decide +kernel
theorem zin2 : ∀ w ∈ u_ws RX2 TX2 2, w ∈ zT := by decide +kernel
theorem zin3 : ∀ w ∈ u_ws RX3 TX3 15, w ∈ zT := by decide +kernel
theorem zin4 : ∀ w ∈ u_ws RX4 TX4 4, w ∈ zT := by decide +kernel
theorem zin5 : ∀ w ∈ u_ws RX5 TX5 12, w ∈ zT := by decide +kernel
theorem zin6 : ∀ w ∈ u_ws RX6 TX6 2, w ∈ zT := by decide +kernel
theorem zin7 : ∀ w ∈ u_ws RX8 TX8 7, w ∈ zT := by decide +kernel
theorem zin8 : ∀ w ∈ u_ws RX9 TX9 43, w ∈ zT := by decide +kernel
theorem zcls {c : Nat} {q : vw_C} (h : zcl[c]? = some q) : (∀ w ∈ u_ws q.1 q.2.1 q.2.2, w ∈ zT) ∧ (∀ k, k < q.2.2 → parseFieldDescriptor (q.2.1 k).2.2.1 = some (zty c k)) ∧ ∀ a, a < q.2.2 → ∀ b, b < q.2.2 → a ≠ b → (q.2.1 a).2.1 ≠ (q.2.1 b).2.1 := by
  match c, h with
  | 0, h => cases h; exact ⟨zin0, tyX0_ok, nmX0⟩
  | 1, h => cases h; exact ⟨zin1, tyX1_ok, nmX1⟩
  | 2, h => cases h; exact ⟨zin2, tyX2_ok, nmX2⟩
  | 3, h => cases h; exact ⟨zin3, tyX3_ok, nmX3⟩
  | 4, h => cases h; exact ⟨zin4, tyX4_ok, nmX4⟩
  | 5, h => cases h; exact ⟨zin5, tyX5_ok, nmX5⟩
  | 6, h => cases h; exact ⟨zin6, tyX6_ok, nmX6⟩
  | 7, h => cases h; exact ⟨zin7, tyX8_ok, nmX8⟩
  | 8, h => cases h; exact ⟨zin8, tyX9_ok, nmX9⟩
  | c + 9, h => simp [zcl] at h
end
section
/-! THE PURE WORLD: cells by number, kinds and lengths, ints, longs, references (by number; from 1000000 on: constants that are never written) -/
abbrev zW : Type := List (Nat × Nat) × (Nat → Nat → Int32) × (Nat → Nat → Int64) × (Nat → Nat → Option Nat)
abbrev zI (w : zW) : Nat → Nat → Int32 := w.2.1
abbrev zL (w : zW) : Nat → Nat → Int64 := w.2.2.1
abbrev zR (w : zW) : Nat → Nat → Option Nat := w.2.2.2
def z2 {α : Type} (f : Nat → Nat → α) (o k : Nat) (x : α) : Nat → Nat → α := fun a b => if a = o ∧ b = k then x else f a b
def zsI (w : zW) (o k : Nat) (x : Int32) : zW := (w.1, z2 (zI w) o k x, zL w, zR w)
def zsL (w : zW) (o k : Nat) (x : Int64) : zW := (w.1, zI w, z2 (zL w) o k x, zR w)
def zsR (w : zW) (o k : Nat) (x : Option Nat) : zW := (w.1, zI w, zL w, z2 (zR w) o k x)
/-- a new cell: all its places hold nothing -/
def zN (w : zW) (q : Nat × Nat) : zW := (w.1 ++ [q], fun a => if a = w.1.length then fun _ => 0 else zI w a, fun a => if a = w.1.length then fun _ => 0 else zL w a, fun a => if a = w.1.length then fun _ => none else zR w a)
/-- the kind of a field's place: 0 an int, 1 a long, 2 a reference -/
def zft (t : FieldType) : Nat := match t with
  | .long => 1
  | .object _ => 2
  | .array _ => 2
  | _ => 0
def zfv (w : zW) (ad : Nat → Nat) (o c k : Nat) : Value := if zft (zty c k) = 0 then .int (zI w o k) else if zft (zty c k) = 1 then .long (zL w o k) else va_rf ((zR w o k).map ad)
def zE (cA : Nat → ClassId) (ad : Nat → Nat) (w : zW) (o : Nat) (q : Nat × Nat) : va_E :=
  if q.1 < 9 then .inr (q.1, (List.range q.2).map (zfv w ad o q.1))
  else if q.1 = 11 then .inl (cA 11, q.2, .inr (.inl (zL w o)))
  else if q.1 = 13 then .inl (cA 13, q.2, .inr (.inr (.inr (.inr (fun k => (zR w o k).map ad)))))
  else .inl (cA q.1, q.2, .inl (zI w o))
def zws (cA : Nat → ClassId) (ad : Nat → Nat) (w : zW) : va_W := w.1.mapIdx (fun o q => (ad o, zE cA ad w o q))
abbrev zA (h0 : Nat) : Nat → Prop := fun q => h0 ≤ q
def zV2 (w : zW) : Prop := ∀ o k r, o < w.1.length → zR w o k = some r → r < w.1.length ∨ 1000000 ≤ r
def zAW (D : va_G) (cA : Nat → ClassId) (h0 : Nat) (ad : Nat → Nat) (w : zW) (H : Heap) : Prop :=
  va_P D zcl (zws cA ad w) H ∧ va_D (zA h0) (zws cA ad w) ∧ zV2 w ∧ w.1.length ≤ 1000000 ∧ ∀ (o c n : Nat), w.1[o]? = some (c, n) → c < 9 → ∃ q, zcl[c]? = some q ∧ n = q.2.2
abbrev ztys (cA : Nat → ClassId) : List (ClassId × FieldType) := [(cA 9, .byte), (cA 10, .int), (cA 11, .long), (cA 12, .boolean), (cA 13, .object RX2)]
/-- a value with its numbers turned into addresses -/
def cv (ad : Nat → Nat) : Value → Value
  | .ref o => .ref (ad o)
  | v => v
abbrev cvl (ad : Nat → Nat) (ls : List (Nat × Value)) : List (Nat × Value) := ls.map (fun q => (q.1, cv ad q.2))
theorem cv_cat (ad : Nat → Nat) (v : Value) : (cv ad v).category = v.category := by cases v <;> rfl
theorem zws_at (cA : Nat → ClassId) (ad : Nat → Nat) {w : zW} {o : Nat} {q : Nat × Nat} (h : w.1[o]? = some q) : (zws cA ad w)[o]? = some (ad o, zE cA ad w o q) := by
  unfold zws
  rw [List.getElem?_mapIdx, h]
  rfl
theorem zws_len (cA : Nat → ClassId) (ad : Nat → Nat) (w : zW) : (zws cA ad w).length = w.1.length := by simp [zws]
theorem z2_row {α : Type} (f : Nat → Nat → α) (o k : Nat) (x : α) : z2 f o k x o = fun b => if b = k then x else f o b := by funext b; simp [z2]
theorem z2_off {α : Type} (f : Nat → Nat → α) {o a : Nat} (k : Nat) (x : α) (h : a ≠ o) : z2 f o k x a = f a := by funext b; simp [z2, h]
/-- two worlds of the same kinds whose cells but one are the same -/
theorem zws_set (cA : Nat → ClassId) (ad : Nat → Nat) {w w2 : zW} {o : Nat} {q : Nat × Nat} {e : va_E} (hk : w2.1 = w.1) (h : w.1[o]? = some q) (he : zE cA ad w2 o q = e) (ho : ∀ a q', a ≠ o → zE cA ad w2 a q' = zE cA ad w a q') : (zws cA ad w).set o (ad o, e) = zws cA ad w2 := by
  apply List.ext_getElem?
  intro i
  rw [List.getElem?_set]
  by_cases hi : o = i
  · subst hi
    have hlt : o < w.1.length := (List.getElem?_eq_some_iff.mp h).1
    rw [if_pos rfl, if_pos (by rw [zws_len]; exact hlt), zws_at cA ad (w := w2) (by rw [hk]; exact h), he]
  · rw [if_neg hi]
    cases hq : w.1[i]? with
    | none =>
      have h1 : w.1.length ≤ i := by simpa using hq
      rw [List.getElem?_eq_none (by rw [zws_len]; exact h1), List.getElem?_eq_none (by rw [zws_len, hk]; exact h1)]
    | some q' =>
      rw [zws_at cA ad hq, zws_at cA ad (w := w2) (by rw [hk]; exact hq), ho i q' (fun e => hi e.symm)]
theorem zE_I_off (cA : Nat → ClassId) (ad : Nat → Nat) (w : zW) {o a : Nat} (k : Nat) (x : Int32) (q : Nat × Nat) (h : a ≠ o) : zE cA ad (zsI w o k x) a q = zE cA ad w a q := by
  have e : zI (zsI w o k x) a = zI w a := z2_off _ k x h
  have e2 : zfv (zsI w o k x) ad a q.1 = zfv w ad a q.1 := by funext j; simp only [zfv, zsI, zI, zL, zR] at e ⊢; rw [e]
  unfold zE
  rw [e, e2]
  rfl
theorem zE_L_off (cA : Nat → ClassId) (ad : Nat → Nat) (w : zW) {o a : Nat} (k : Nat) (x : Int64) (q : Nat × Nat) (h : a ≠ o) : zE cA ad (zsL w o k x) a q = zE cA ad w a q := by
  have e : zL (zsL w o k x) a = zL w a := z2_off _ k x h
  have e2 : zfv (zsL w o k x) ad a q.1 = zfv w ad a q.1 := by funext j; simp only [zfv, zsL, zI, zL, zR] at e ⊢; rw [e]
  unfold zE
  rw [e, e2]
  rfl
theorem zE_R_off (cA : Nat → ClassId) (ad : Nat → Nat) (w : zW) {o a : Nat} (k : Nat) (x : Option Nat) (q : Nat × Nat) (h : a ≠ o) : zE cA ad (zsR w o k x) a q = zE cA ad w a q := by
  have e : zR (zsR w o k x) a = zR w a := z2_off _ k x h
  have e2 : zfv (zsR w o k x) ad a q.1 = zfv w ad a q.1 := by funext j; simp only [zfv, zsR, zI, zL, zR] at e ⊢; rw [e]
  unfold zE
  rw [e, e2]
  rfl
/-- an object's list of fields, one place changed -/
theorem zfs_set {w w2 : zW} {ad : Nat → Nat} {o c n k : Nat} {v : Value} (hk : zfv w2 ad o c k = v) (ho : ∀ j, j ≠ k → zfv w2 ad o c j = zfv w ad o c j) : ((List.range n).map (zfv w ad o c)).set k v = (List.range n).map (zfv w2 ad o c) := by
  apply List.ext_getElem?
  intro i
  rw [List.getElem?_set]
  by_cases hi : k = i
  · subst hi
    by_cases hl : k < n
    · simp [hl, hk]
    · simp [hl]
  · rw [if_neg hi]
    by_cases hl : i < n
    · simp [hl, ho i (fun e => hi e.symm)]
    · simp [hl]
theorem zfs_at {w : zW} {ad : Nat → Nat} {o c n k : Nat} (h : k < n) : ((List.range n).map (zfv w ad o c))[k]? = some (zfv w ad o c k) := by simp [h]
end
section
/-! A METHOD: its name, bytes, locals, answer's type, its instructions by place, the law's script where it is the law -/
abbrev zM : Type := MethodName × ByteArray × Nat × Option FieldType × (Nat → Option (Instr × Nat)) × Option (Nat × (Nat → Int32))
abbrev zM.y (M : zM) : MethodName := M.1
abbrev zM.cc (M : zM) : ByteArray := M.2.1
abbrev zM.mx (M : zM) : Nat := M.2.2.1
abbrev zM.rt (M : zM) : Option FieldType := M.2.2.2.1
abbrev zM.f (M : zM) : Nat → Option (Instr × Nat) := M.2.2.2.2.1
abbrev zM.X (M : zM) : Option (Nat × (Nat → Int32)) := M.2.2.2.2.2
def zOK (M : zM) : Prop := (∀ pc q, zM.f M pc = some q → decode (zM.cc M) pc = .ok q) ∧ zM.mx M ≤ 45 ∧ plainFor (zM.y M) = true ∧ ((zM.y M).cls ≠ "java/lang/invoke/MethodHandle" ∧ (zM.y M).cls ≠ "java/lang/invoke/VarHandle") ∧ Cond.code (zM.y M) (zM.cc M) (zM.mx M) (zM.rt M) ∈ zT
def zkNM : List (String × Nat × MethodName × String) := [("SmokeWeds", 9, ⟨"SmokeWeds$Tape", "<init>", "()V"⟩, "SmokeWeds"), ("SmokeWeds$Street", 30, ⟨"SmokeWeds$Law", "<init>", "()V"⟩, "SmokeWeds"), ("SmokeWeds", 27, ⟨"SmokeWeds$Smoke", "<init>", "()V"⟩, "SmokeWeds"), ("SmokeWeds$Smoke", 36, ⟨"SmokeWeds", "hasBit", "(II)Z"⟩, "SmokeWeds"), ("SmokeWeds$Smoke", 58, ⟨"SmokeWeds", "cellPlace", "(II)I"⟩, "SmokeWeds"), ("SmokeWeds$Life", 67, ⟨"SmokeWeds", "turns", "(II)Z"⟩, "SmokeWeds"), ("SmokeWeds$Life", 76, ⟨"SmokeWeds", "wed", "([IZ[I)I"⟩, "SmokeWeds"), ("SmokeWeds$Life", 97, ⟨"SmokeWeds", "hasBit", "(II)Z"⟩, "SmokeWeds"), ("SmokeWeds$Life", 107, ⟨"SmokeWeds", "pairPlace", "(II)I"⟩, "SmokeWeds"), ("SmokeWeds$Smoke", 68, ⟨"SmokeWeds", "pairsIn", "([I)I"⟩, "SmokeWeds"), ("SmokeWeds$Life", 117, ⟨"SmokeWeds", "sootPlace", "(III)I"⟩, "SmokeWeds"), ("SmokeWeds", 250, ⟨"SmokeWeds$Mark", "<init>", "()V"⟩, "SmokeWeds")]
def zkNF : List (String × Nat × String × String × String × String) := [("SmokeWeds$Smoke", 62, "SmokeWeds", "EASTWARD", "[I", "SmokeWeds"), ("SmokeWeds$Smoke", 65, "SmokeWeds", "SOUTHWARD", "[I", "SmokeWeds")]
theorem zT_at (i : Nat) {c : Cond} (h : tables_1[i]? = some c) (hg : goodWord c = true) : c ∈ zT := List.mem_filter.mpr ⟨List.mem_append_right _ (List.mem_of_getElem? h), hg⟩
theorem zT_sel (i : Nat) {c : Cond} (h : (k2_sels lw_privs)[i]? = some c) (hg : goodWord c = true) : c ∈ zT := List.mem_filter.mpr ⟨List.mem_append_left _ (List.mem_of_getElem? h), hg⟩
/-- the field link of a class' entry: the class' number, the field's place, final or not -/
def zFl (own : String) (idx c k : Nat) (fin : Bool) : Prop := ∃ q, zcl[c]? = some q ∧ k < q.2.2 ∧ (q.2.1 k).2.2.2 = fin ∧ Cond.fieldLink own idx (q.2.1 k).1 (q.2.1 k).2.1 (q.2.1 k).2.2.1 ∈ zT
theorem zcl_lt {c : Nat} {q : vw_C} (h : zcl[c]? = some q) : c < 9 := (List.getElem?_eq_some_iff.mp h).1
theorem zE_obj (cA : Nat → ClassId) (ad : Nat → Nat) (w : zW) (o : Nat) {c n : Nat} (h : c < 9) : zE cA ad w o (c, n) = .inr (c, (List.range n).map (zfv w ad o c)) := by unfold zE; rw [if_pos h]
theorem zAW_set {D : va_G} {cA : Nat → ClassId} {h0 : Nat} {ad : Nat → Nat} {w w2 : zW} {H H1 : Heap} {o : Nat} {q : Nat × Nat} {e : va_E} (hA : zAW D cA h0 ad w H) (hk : w2.1 = w.1) (h : w.1[o]? = some q) (he : zE cA ad w2 o q = e) (ho : ∀ a q', a ≠ o → zE cA ad w2 a q' = zE cA ad w a q') (hv : zV2 w2)
    (hP : va_P D zcl ((zws cA ad w).set o (ad o, e)) H1) (hD : va_D (zA h0) ((zws cA ad w).set o (ad o, e))) : zAW D cA h0 ad w2 H1 := by
  rw [zws_set cA ad hk h he ho] at hP hD
  exact ⟨hP, hD, hv, by rw [hk]; exact hA.2.2.2.1, by rw [hk]; exact hA.2.2.2.2⟩
theorem zV2_R {w : zW} {o k : Nat} {x : Option Nat} (h : zV2 w) (hx : ∀ r, x = some r → r < w.1.length ∨ 1000000 ≤ r) : zV2 (zsR w o k x) := by
  intro a b r ha hr
  show r < w.1.length ∨ 1000000 ≤ r
  have hr : z2 (zR w) o k x a b = some r := hr
  unfold z2 at hr
  split at hr
  · exact hx r hr
  · exact h a b r ha hr
/-- the words of a call: the link, the callee's class, how many arguments -/
def zLk (own : String) (idx : Nat) (y : MethodName) (n : Nat) : Prop := Cond.methodLink own idx y ∈ zT ∧ Cond.initialized y.cls ∈ zT ∧ (parseMethodDescriptor y.desc).map (fun d => d.parameters.length) = some n
def zLkS (own : String) (idx : Nat) (y : MethodName) (n : Nat) : Prop := zLk own idx y n ∧ Cond.static y ∈ zT
def zLkV (own : String) (idx : Nat) (y : MethodName) (n : Nat) : Prop := zLk own idx y n ∧ Cond.instanceMethod y ∈ zT ∧ Cond.selects y.cls y y ∈ zT
def zLkI (own : String) (idx : Nat) (y : MethodName) (n : Nat) : Prop := zLk own idx y n ∧ y.name = "<init>" ∧ Cond.instanceMethod y ∈ zT
def zLkN (own : String) (idx : Nat) (y : MethodName) (n : Nat) : Prop := (∃ h, (own, idx, y, h) ∈ zkNM) ∧ Cond.initialized y.cls ∈ zT ∧ (parseMethodDescriptor y.desc).map (fun d => d.parameters.length) = some n
def zLkSN (own : String) (idx : Nat) (y : MethodName) (n : Nat) : Prop := zLkN own idx y n ∧ Cond.static y ∈ zT
def zLkIN (own : String) (idx : Nat) (y : MethodName) (n : Nat) : Prop := zLkN own idx y n ∧ y.name = "<init>" ∧ Cond.instanceMethod y ∈ zT
/-- the instructions, cut behind the last -/
def zcut (n : Nat) (t : Nat → Option (Instr × Nat)) : Nat → Option (Instr × Nat) := fun pc => bif Nat.blt pc n then t pc else none
theorem zcut_ok {n : Nat} {t : Nat → Option (Instr × Nat)} {cc : ByteArray} (h : (List.range n).all (fun pc => match t pc with | none => true | some q => decide (decode cc pc = .ok q)) = true) : ∀ pc q, zcut n t pc = some q → decode cc pc = .ok q := by
  intro pc q hq
  unfold zcut at hq
  cases hb : Nat.blt pc n with
  | false => rw [hb] at hq; cases hq
  | true =>
    rw [hb] at hq
    have hlt : pc < n := Nat.lt_of_succ_le (by simpa [Nat.blt] using hb)
    have h1 := List.all_eq_true.mp h pc (List.mem_range.mpr hlt)
    have hq : t pc = some q := hq
    rw [hq] at h1
    exact of_decide_eq_true h1
theorem zOK_of {M : zM} (h1 : ∀ pc q, zM.f M pc = some q → decode (zM.cc M) pc = .ok q) (h2 : zM.mx M ≤ 45) (h3 : plainFor (zM.y M) = true ∧ (zM.y M).cls ≠ "java/lang/invoke/MethodHandle" ∧ (zM.y M).cls ≠ "java/lang/invoke/VarHandle") (h4 : Cond.code (zM.y M) (zM.cc M) (zM.mx M) (zM.rt M) ∈ zT) : zOK M := ⟨h1, h2, h3.1, h3.2, h4⟩
end
section
theorem ol_Reader_3 : Cond.methodLink "SmokeWeds$Reader" 3 Lib.objectInit ∈ zT := (zT_at 55 (by decide +kernel) rfl)
theorem ol_Smoke_3 : Cond.methodLink "SmokeWeds$Smoke" 3 Lib.objectInit ∈ zT := (zT_at 202 (by decide +kernel) rfl)
theorem ol_Street_3 : Cond.methodLink "SmokeWeds$Street" 3 Lib.objectInit ∈ zT := (zT_at 61 (by decide +kernel) rfl)
theorem cl_Street_30 : zLkIN "SmokeWeds$Street" 30 ⟨"SmokeWeds$Law", "<init>", "()V"⟩ 0 := ⟨⟨⟨"SmokeWeds", by decide +kernel⟩, (zT_at 5 (by decide +kernel) rfl), by decide +kernel⟩, rfl, (zT_at 65 (by decide +kernel) rfl)⟩
theorem ol_Tape_3 : Cond.methodLink "SmokeWeds$Tape" 3 Lib.objectInit ∈ zT := (zT_at 38 (by decide +kernel) rfl)
theorem ol_SW_1 : Cond.methodLink "SmokeWeds" 1 Lib.objectInit ∈ zT := (zT_at 30 (by decide +kernel) rfl)
theorem cl_SW_18 : zLkI "SmokeWeds" 18 ⟨"SmokeWeds$Reader", "<init>", "(LSmokeWeds$Tape;)V"⟩ 1 := ⟨⟨(zT_at 52 (by decide +kernel) rfl), (zT_at 3 (by decide +kernel) rfl), by decide +kernel⟩, rfl, (zT_at 53 (by decide +kernel) rfl)⟩
theorem cl_SW_250 : zLkIN "SmokeWeds" 250 ⟨"SmokeWeds$Mark", "<init>", "()V"⟩ 0 := ⟨⟨⟨"SmokeWeds", by decide +kernel⟩, (zT_at 24 (by decide +kernel) rfl), by decide +kernel⟩, rfl, (zT_at 815 (by decide +kernel) rfl)⟩
theorem cl_SW_27 : zLkIN "SmokeWeds" 27 ⟨"SmokeWeds$Smoke", "<init>", "()V"⟩ 0 := ⟨⟨⟨"SmokeWeds", by decide +kernel⟩, (zT_at 6 (by decide +kernel) rfl), by decide +kernel⟩, rfl, (zT_at 200 (by decide +kernel) rfl)⟩
theorem cl_SW_34 : zLkI "SmokeWeds" 34 ⟨"SmokeWeds$Life", "<init>", "()V"⟩ 0 := ⟨⟨(zT_at 222 (by decide +kernel) rfl), (zT_at 7 (by decide +kernel) rfl), by decide +kernel⟩, rfl, (zT_at 223 (by decide +kernel) rfl)⟩
theorem cl_SW_51 : zLkI "SmokeWeds" 51 ⟨"SmokeWeds$Street", "<init>", "()V"⟩ 0 := ⟨⟨(zT_at 286 (by decide +kernel) rfl), (zT_at 4 (by decide +kernel) rfl), by decide +kernel⟩, rfl, (zT_at 59 (by decide +kernel) rfl)⟩
theorem cl_SW_9 : zLkIN "SmokeWeds" 9 ⟨"SmokeWeds$Tape", "<init>", "()V"⟩ 0 := ⟨⟨⟨"SmokeWeds", by decide +kernel⟩, (zT_at 2 (by decide +kernel) rfl), by decide +kernel⟩, rfl, (zT_at 36 (by decide +kernel) rfl)⟩
theorem cl_Lw_15 : zLkI "SmokeWedsLaw" 15 ⟨"SmokeWeds", "<init>", "()V"⟩ 0 := ⟨⟨(zT_at 27 (by decide +kernel) rfl), (zT_at 1 (by decide +kernel) rfl), by decide +kernel⟩, rfl, (zT_at 28 (by decide +kernel) rfl)⟩
theorem cl_Lw_18 : zLkI "SmokeWedsLaw" 18 ⟨"SmokeWedsModel", "<init>", "()V"⟩ 0 := ⟨⟨(zT_at 910 (by decide +kernel) rfl), (zT_at 9 (by decide +kernel) rfl), by decide +kernel⟩, rfl, (zT_at 911 (by decide +kernel) rfl)⟩
theorem ol_Mod_1 : Cond.methodLink "SmokeWedsModel" 1 Lib.objectInit ∈ zT := (zT_at 913 (by decide +kernel) rfl)
theorem sl_Law_26 : Cond.methodLink "SmokeWeds$Law" 26 arraycopyName ∈ zT := (zT_at 807 (by decide +kernel) rfl)
theorem cl_Law_32 : zLkS "SmokeWeds$Law" 32 ⟨"SmokeWeds$Law", "fact", "(IIII)I"⟩ 4 := ⟨⟨(zT_at 588 (by decide +kernel) rfl), (zT_at 5 (by decide +kernel) rfl), by decide +kernel⟩, (zT_at 589 (by decide +kernel) rfl)⟩
theorem cl_Law_36 : zLkS "SmokeWeds$Law" 36 ⟨"SmokeWeds$Law", "joined", "(III)I"⟩ 3 := ⟨⟨(zT_at 591 (by decide +kernel) rfl), (zT_at 5 (by decide +kernel) rfl), by decide +kernel⟩, (zT_at 592 (by decide +kernel) rfl)⟩
theorem cl_Life_107 : zLkSN "SmokeWeds$Life" 107 ⟨"SmokeWeds", "pairPlace", "(II)I"⟩ 2 := ⟨⟨⟨"SmokeWeds", by decide +kernel⟩, (zT_at 1 (by decide +kernel) rfl), by decide +kernel⟩, (zT_at 683 (by decide +kernel) rfl)⟩
theorem cl_Life_117 : zLkSN "SmokeWeds$Life" 117 ⟨"SmokeWeds", "sootPlace", "(III)I"⟩ 3 := ⟨⟨⟨"SmokeWeds", by decide +kernel⟩, (zT_at 1 (by decide +kernel) rfl), by decide +kernel⟩, (zT_at 766 (by decide +kernel) rfl)⟩
theorem cl_Life_39 : zLkS "SmokeWeds$Life" 39 ⟨"java/util/Arrays", "fill", "([II)V"⟩ 2 := ⟨⟨(zT_at 230 (by decide +kernel) rfl), (zT_at 8 (by decide +kernel) rfl), by decide +kernel⟩, (zT_at 231 (by decide +kernel) rfl)⟩
theorem sl_Life_61 : Cond.methodLink "SmokeWeds$Life" 61 arraycopyName ∈ zT := (zT_at 812 (by decide +kernel) rfl)
theorem cl_Life_67 : zLkSN "SmokeWeds$Life" 67 ⟨"SmokeWeds", "turns", "(II)Z"⟩ 2 := ⟨⟨⟨"SmokeWeds", by decide +kernel⟩, (zT_at 1 (by decide +kernel) rfl), by decide +kernel⟩, (zT_at 666 (by decide +kernel) rfl)⟩
theorem cl_Life_76 : zLkSN "SmokeWeds$Life" 76 ⟨"SmokeWeds", "wed", "([IZ[I)I"⟩ 3 := ⟨⟨⟨"SmokeWeds", by decide +kernel⟩, (zT_at 1 (by decide +kernel) rfl), by decide +kernel⟩, (zT_at 669 (by decide +kernel) rfl)⟩
theorem cl_Life_97 : zLkSN "SmokeWeds$Life" 97 ⟨"SmokeWeds", "hasBit", "(II)Z"⟩ 2 := ⟨⟨⟨"SmokeWeds", by decide +kernel⟩, (zT_at 1 (by decide +kernel) rfl), by decide +kernel⟩, (zT_at 570 (by decide +kernel) rfl)⟩
theorem cl_Reader_236 : zLkS "SmokeWeds$Reader" 236 ⟨"SmokeWeds$Reader", "isDigit", "(I)Z"⟩ 1 := ⟨⟨(zT_at 334 (by decide +kernel) rfl), (zT_at 3 (by decide +kernel) rfl), by decide +kernel⟩, (zT_at 335 (by decide +kernel) rfl)⟩
theorem cl_Reader_243 : zLkS "SmokeWeds$Reader" 243 ⟨"SmokeWeds$Reader", "isLetter", "(I)Z"⟩ 1 := ⟨⟨(zT_at 341 (by decide +kernel) rfl), (zT_at 3 (by decide +kernel) rfl), by decide +kernel⟩, (zT_at 342 (by decide +kernel) rfl)⟩
theorem cl_Reader_257 : zLkS "SmokeWeds$Reader" 257 ⟨"SmokeWeds$Word", "withLetter", "(JI)J"⟩ 2 := ⟨⟨(zT_at 348 (by decide +kernel) rfl), (zT_at 11 (by decide +kernel) rfl), by decide +kernel⟩, (zT_at 349 (by decide +kernel) rfl)⟩
theorem cl_Reader_261 : zLkS "SmokeWeds$Reader" 261 ⟨"SmokeWeds$Word", "ofKey", "(J)LSmokeWeds$Word;"⟩ 1 := ⟨⟨(zT_at 351 (by decide +kernel) rfl), (zT_at 11 (by decide +kernel) rfl), by decide +kernel⟩, (zT_at 352 (by decide +kernel) rfl)⟩
theorem cl_Smoke_24 : zLkS "SmokeWeds$Smoke" 24 ⟨"java/util/Arrays", "fill", "([II)V"⟩ 2 := ⟨⟨(zT_at 643 (by decide +kernel) rfl), (zT_at 8 (by decide +kernel) rfl), by decide +kernel⟩, (zT_at 231 (by decide +kernel) rfl)⟩
theorem cl_Smoke_36 : zLkSN "SmokeWeds$Smoke" 36 ⟨"SmokeWeds", "hasBit", "(II)Z"⟩ 2 := ⟨⟨⟨"SmokeWeds", by decide +kernel⟩, (zT_at 1 (by decide +kernel) rfl), by decide +kernel⟩, (zT_at 570 (by decide +kernel) rfl)⟩
theorem cl_Smoke_58 : zLkSN "SmokeWeds$Smoke" 58 ⟨"SmokeWeds", "cellPlace", "(II)I"⟩ 2 := ⟨⟨⟨"SmokeWeds", by decide +kernel⟩, (zT_at 1 (by decide +kernel) rfl), by decide +kernel⟩, (zT_at 653 (by decide +kernel) rfl)⟩
theorem cl_Smoke_68 : zLkSN "SmokeWeds$Smoke" 68 ⟨"SmokeWeds", "pairsIn", "([I)I"⟩ 1 := ⟨⟨⟨"SmokeWeds", by decide +kernel⟩, (zT_at 1 (by decide +kernel) rfl), by decide +kernel⟩, (zT_at 714 (by decide +kernel) rfl)⟩
theorem cl_Smoke_75 : zLkS "SmokeWeds$Smoke" 75 ⟨"java/lang/Integer", "bitCount", "(I)I"⟩ 1 := ⟨⟨(zT_at 728 (by decide +kernel) rfl), (zT_at 18 (by decide +kernel) rfl), by decide +kernel⟩, (zT_at 672 (by decide +kernel) rfl)⟩
theorem sl_Street_61 : Cond.methodLink "SmokeWeds$Street" 61 arraycopyName ∈ zT := (zT_at 802 (by decide +kernel) rfl)
theorem cl_Street_75 : zLkS "SmokeWeds$Street" 75 ⟨"java/lang/Math", "floorMod", "(II)I"⟩ 2 := ⟨⟨(zT_at 594 (by decide +kernel) rfl), (zT_at 14 (by decide +kernel) rfl), by decide +kernel⟩, (zT_at 595 (by decide +kernel) rfl)⟩
theorem ml_Street_81 : Cond.methodLink "SmokeWeds$Street" 81 Lib.Math.min.name ∈ zT := (zT_at 609 (by decide +kernel) rfl)
theorem ml_Street_84 : Cond.methodLink "SmokeWeds$Street" 84 Lib.Math.max.name ∈ zT := (zT_at 610 (by decide +kernel) rfl)
theorem cl_SW_102 : zLkS "SmokeWeds" 102 ⟨"SmokeWeds", "hasBit", "(II)Z"⟩ 2 := ⟨⟨(zT_at 569 (by decide +kernel) rfl), (zT_at 1 (by decide +kernel) rfl), by decide +kernel⟩, (zT_at 570 (by decide +kernel) rfl)⟩
theorem cl_SW_148 : zLkS "SmokeWeds" 148 ⟨"SmokeWeds", "pairPlace", "(II)I"⟩ 2 := ⟨⟨(zT_at 704 (by decide +kernel) rfl), (zT_at 1 (by decide +kernel) rfl), by decide +kernel⟩, (zT_at 683 (by decide +kernel) rfl)⟩
theorem cl_SW_166 : zLkS "SmokeWeds" 166 ⟨"SmokeWeds", "sootPlace", "(III)I"⟩ 3 := ⟨⟨(zT_at 769 (by decide +kernel) rfl), (zT_at 1 (by decide +kernel) rfl), by decide +kernel⟩, (zT_at 766 (by decide +kernel) rfl)⟩
theorem cl_SW_192 : zLkS "SmokeWeds" 192 ⟨"SmokeWeds", "turns", "(II)Z"⟩ 2 := ⟨⟨(zT_at 736 (by decide +kernel) rfl), (zT_at 1 (by decide +kernel) rfl), by decide +kernel⟩, (zT_at 666 (by decide +kernel) rfl)⟩
theorem ml_SW_195 : Cond.methodLink "SmokeWeds" 195 Lib.Math.min.name ∈ zT := (zT_at 685 (by decide +kernel) rfl)
theorem cl_SW_211 : zLkS "SmokeWeds" 211 ⟨"SmokeWeds", "commonDivisor", "(II)I"⟩ 2 := ⟨⟨(zT_at 770 (by decide +kernel) rfl), (zT_at 1 (by decide +kernel) rfl), by decide +kernel⟩, (zT_at 771 (by decide +kernel) rfl)⟩
theorem sl_SW_214 : Cond.methodLink "SmokeWeds" 214 arraycopyName ∈ zT := (zT_at 777 (by decide +kernel) rfl)
theorem cl_SW_220 : zLkS "SmokeWeds" 220 ⟨"SmokeWeds", "nextDraw", "(J)J"⟩ 1 := ⟨⟨(zT_at 780 (by decide +kernel) rfl), (zT_at 1 (by decide +kernel) rfl), by decide +kernel⟩, (zT_at 781 (by decide +kernel) rfl)⟩
theorem cl_SW_224 : zLkS "SmokeWeds" 224 ⟨"SmokeWeds", "drawBelow", "(JI)I"⟩ 2 := ⟨⟨(zT_at 786 (by decide +kernel) rfl), (zT_at 1 (by decide +kernel) rfl), by decide +kernel⟩, (zT_at 787 (by decide +kernel) rfl)⟩
theorem cl_SW_230 : zLkS "SmokeWeds" 230 ⟨"SmokeWeds", "wed", "([IZ[I)I"⟩ 3 := ⟨⟨(zT_at 790 (by decide +kernel) rfl), (zT_at 1 (by decide +kernel) rfl), by decide +kernel⟩, (zT_at 669 (by decide +kernel) rfl)⟩
theorem cl_SW_234 : zLkS "SmokeWeds" 234 ⟨"SmokeWeds", "wedOften", "([I)I"⟩ 1 := ⟨⟨(zT_at 791 (by decide +kernel) rfl), (zT_at 1 (by decide +kernel) rfl), by decide +kernel⟩, (zT_at 792 (by decide +kernel) rfl)⟩
theorem ml_SW_238 : Cond.methodLink "SmokeWeds" 238 Lib.Math.max.name ∈ zT := (zT_at 686 (by decide +kernel) rfl)
theorem cl_SW_257 : zLkS "SmokeWeds" 257 ⟨"SmokeWeds", "pairsIn", "([I)I"⟩ 1 := ⟨⟨(zT_at 835 (by decide +kernel) rfl), (zT_at 1 (by decide +kernel) rfl), by decide +kernel⟩, (zT_at 714 (by decide +kernel) rfl)⟩
theorem cl_SW_260 : zLkS "SmokeWeds" 260 ⟨"SmokeWeds", "sum", "([I)I"⟩ 1 := ⟨⟨(zT_at 836 (by decide +kernel) rfl), (zT_at 1 (by decide +kernel) rfl), by decide +kernel⟩, (zT_at 837 (by decide +kernel) rfl)⟩
theorem cl_SW_266 : zLkS "SmokeWeds" 266 ⟨"SmokeWeds", "cellPlace", "(II)I"⟩ 2 := ⟨⟨(zT_at 768 (by decide +kernel) rfl), (zT_at 1 (by decide +kernel) rfl), by decide +kernel⟩, (zT_at 653 (by decide +kernel) rfl)⟩
theorem cl_SW_277 : zLkS "SmokeWeds" 277 ⟨"java/lang/Integer", "bitCount", "(I)I"⟩ 1 := ⟨⟨(zT_at 671 (by decide +kernel) rfl), (zT_at 18 (by decide +kernel) rfl), by decide +kernel⟩, (zT_at 672 (by decide +kernel) rfl)⟩
theorem cl_Lw_70 : zLkS "SmokeWedsLaw" 70 ⟨"SmokeWedsLaw", "soot", "(LSmokeWeds;III[J)I"⟩ 5 := ⟨⟨(zT_at 839 (by decide +kernel) rfl), (zT_at 0 (by decide +kernel) rfl), by decide +kernel⟩, (zT_at 840 (by decide +kernel) rfl)⟩
theorem cl_Mod_214 : zLkS "SmokeWedsModel" 214 ⟨"SmokeWedsModel", "within", "(III)Z"⟩ 3 := ⟨⟨(zT_at 1097 (by decide +kernel) rfl), (zT_at 9 (by decide +kernel) rfl), by decide +kernel⟩, (zT_at 1098 (by decide +kernel) rfl)⟩
theorem cl_Mod_259 : zLkS "SmokeWedsModel" 259 ⟨"SmokeWedsModel", "moves", "([IIII)V"⟩ 4 := ⟨⟨(zT_at 1166 (by decide +kernel) rfl), (zT_at 9 (by decide +kernel) rfl), by decide +kernel⟩, (zT_at 1167 (by decide +kernel) rfl)⟩
theorem ml_Mod_285 : Cond.methodLink "SmokeWedsModel" 285 Lib.Math.min.name ∈ zT := (zT_at 1229 (by decide +kernel) rfl)
theorem cl_Mod_291 : zLkS "SmokeWedsModel" 291 ⟨"SmokeWedsModel", "east", "(I)I"⟩ 1 := ⟨⟨(zT_at 1238 (by decide +kernel) rfl), (zT_at 9 (by decide +kernel) rfl), by decide +kernel⟩, (zT_at 1239 (by decide +kernel) rfl)⟩
theorem cl_Mod_294 : zLkS "SmokeWedsModel" 294 ⟨"SmokeWedsModel", "south", "(I)I"⟩ 1 := ⟨⟨(zT_at 1241 (by decide +kernel) rfl), (zT_at 9 (by decide +kernel) rfl), by decide +kernel⟩, (zT_at 1242 (by decide +kernel) rfl)⟩
theorem cl_Mod_324 : zLkS "SmokeWedsModel" 324 ⟨"SmokeWedsModel", "placeOf", "(I)I"⟩ 1 := ⟨⟨(zT_at 1272 (by decide +kernel) rfl), (zT_at 9 (by decide +kernel) rfl), by decide +kernel⟩, (zT_at 1273 (by decide +kernel) rfl)⟩
theorem cl_Mod_336 : zLkS "SmokeWedsModel" 336 ⟨"SmokeWedsModel", "bits", "(I)I"⟩ 1 := ⟨⟨(zT_at 1299 (by decide +kernel) rfl), (zT_at 9 (by decide +kernel) rfl), by decide +kernel⟩, (zT_at 1300 (by decide +kernel) rfl)⟩
theorem cl_Mod_339 : zLkS "SmokeWedsModel" 339 ⟨"SmokeWedsModel", "gcd", "(II)I"⟩ 2 := ⟨⟨(zT_at 1322 (by decide +kernel) rfl), (zT_at 9 (by decide +kernel) rfl), by decide +kernel⟩, (zT_at 1323 (by decide +kernel) rfl)⟩
theorem ml_Mod_356 : Cond.methodLink "SmokeWedsModel" 356 Lib.Math.max.name ∈ zT := (zT_at 1337 (by decide +kernel) rfl)
theorem cl_Mod_359 : zLkS "SmokeWedsModel" 359 ⟨"SmokeWedsModel", "copies", "([II[II)V"⟩ 4 := ⟨⟨(zT_at 1342 (by decide +kernel) rfl), (zT_at 9 (by decide +kernel) rfl), by decide +kernel⟩, (zT_at 1343 (by decide +kernel) rfl)⟩
theorem cl_String_1062 : zLkS "java/lang/String" 1062 ⟨"jdk/internal/util/Preconditions", "checkFromToIndex", "(IIILjava/util/function/BiFunction;)I"⟩ 4 := ⟨⟨(zT_at 414 (by decide +kernel) rfl), (zT_at 16 (by decide +kernel) rfl), by decide +kernel⟩, (zT_at 415 (by decide +kernel) rfl)⟩
theorem cl_String_637 : zLkS "java/lang/String" 637 ⟨"java/lang/StringLatin1", "indexOf", "([BIII)I"⟩ 4 := ⟨⟨(zT_at 379 (by decide +kernel) rfl), (zT_at 13 (by decide +kernel) rfl), by decide +kernel⟩, (zT_at 380 (by decide +kernel) rfl)⟩
theorem ml_Latin_38 : Cond.methodLink "java/lang/StringLatin1" 38 Lib.Math.min.name ∈ zT := (zT_at 388 (by decide +kernel) rfl)
theorem cl_Latin_88 : zLkS "java/lang/StringLatin1" 88 ⟨"java/lang/StringLatin1", "canEncode", "(I)Z"⟩ 1 := ⟨⟨(zT_at 382 (by decide +kernel) rfl), (zT_at 13 (by decide +kernel) rfl), by decide +kernel⟩, (zT_at 383 (by decide +kernel) rfl)⟩
theorem ml_Latin_92 : Cond.methodLink "java/lang/StringLatin1" 92 Lib.Math.max.name ∈ zT := (zT_at 385 (by decide +kernel) rfl)
theorem cl_Latin_95 : zLkS "java/lang/StringLatin1" 95 ⟨"java/lang/StringLatin1", "indexOfChar", "([BIII)I"⟩ 4 := ⟨⟨(zT_at 391 (by decide +kernel) rfl), (zT_at 13 (by decide +kernel) rfl), by decide +kernel⟩, (zT_at 392 (by decide +kernel) rfl)⟩
theorem nl_Mark_7 : Cond.classLink "SmokeWeds$Mark" 7 "SmokeWeds$Street" ∈ zT ∧ Cond.instantiable "SmokeWeds$Street" 12 ∈ zT ∧ Cond.initialized "SmokeWeds$Street" ∈ zT := ⟨(zT_at 818 (by decide +kernel) rfl), (zT_at 57 (by decide +kernel) rfl), (zT_at 4 (by decide +kernel) rfl)⟩
theorem nl_Mark_16 : Cond.classLink "SmokeWeds$Mark" 16 "SmokeWeds$Life" ∈ zT ∧ Cond.instantiable "SmokeWeds$Life" 13 ∈ zT ∧ Cond.initialized "SmokeWeds$Life" ∈ zT := ⟨(zT_at 820 (by decide +kernel) rfl), (zT_at 221 (by decide +kernel) rfl), (zT_at 7 (by decide +kernel) rfl)⟩
theorem nl_Reader_9 : Cond.classLink "SmokeWeds$Reader" 9 "SmokeWeds$Street" ∈ zT ∧ Cond.instantiable "SmokeWeds$Street" 12 ∈ zT ∧ Cond.initialized "SmokeWeds$Street" ∈ zT := ⟨(zT_at 56 (by decide +kernel) rfl), (zT_at 57 (by decide +kernel) rfl), (zT_at 4 (by decide +kernel) rfl)⟩
theorem gl_Reader_68 : Cond.fieldLink "SmokeWeds$Reader" 68 "SmokeWeds$Word" "FIELD" "LSmokeWeds$Word;" ∈ zT := (zT_at 447 (by decide +kernel) rfl)
theorem gl_Reader_76 : Cond.fieldLink "SmokeWeds$Reader" 76 "SmokeWeds$Word" "WIND" "LSmokeWeds$Word;" ∈ zT := (zT_at 469 (by decide +kernel) rfl)
theorem gl_Reader_91 : Cond.fieldLink "SmokeWeds$Reader" 91 "SmokeWeds$Word" "PLUME" "LSmokeWeds$Word;" ∈ zT := (zT_at 518 (by decide +kernel) rfl)
theorem gl_Reader_97 : Cond.fieldLink "SmokeWeds$Reader" 97 "SmokeWeds$Word" "COLD" "LSmokeWeds$Word;" ∈ zT := (zT_at 520 (by decide +kernel) rfl)
theorem gl_Reader_107 : Cond.fieldLink "SmokeWeds$Reader" 107 "SmokeWeds$Word" "TURNS" "LSmokeWeds$Word;" ∈ zT := (zT_at 522 (by decide +kernel) rfl)
theorem gl_Reader_113 : Cond.fieldLink "SmokeWeds$Reader" 113 "SmokeWeds$Word" "HOUSE" "LSmokeWeds$Word;" ∈ zT := (zT_at 524 (by decide +kernel) rfl)
theorem gl_Reader_141 : Cond.fieldLink "SmokeWeds$Reader" 141 "SmokeWeds$Word" "AT" "LSmokeWeds$Word;" ∈ zT := (zT_at 538 (by decide +kernel) rfl)
theorem gl_Reader_159 : Cond.fieldLink "SmokeWeds$Reader" 159 "SmokeWeds$Word" "HIGH" "LSmokeWeds$Word;" ∈ zT := (zT_at 503 (by decide +kernel) rfl)
theorem gl_Reader_170 : Cond.fieldLink "SmokeWeds$Reader" 170 "SmokeWeds$Word" "reserved" "Z" ∈ zT := (zT_at 1367 (by decide +kernel) rfl)
theorem gl_Reader_177 : Cond.fieldLink "SmokeWeds$Reader" 177 "SmokeWeds$Word" "kind" "I" ∈ zT := (zT_at 1368 (by decide +kernel) rfl)
theorem gl_Reader_191 : Cond.fieldLink "SmokeWeds$Reader" 191 "SmokeWeds$Word" "AND" "LSmokeWeds$Word;" ∈ zT := (zT_at 514 (by decide +kernel) rfl)
theorem gl_Reader_194 : Cond.fieldLink "SmokeWeds$Reader" 194 "SmokeWeds$Word" "OR" "LSmokeWeds$Word;" ∈ zT := (zT_at 516 (by decide +kernel) rfl)
theorem gl_Reader_212 : Cond.fieldLink "SmokeWeds$Reader" 212 "SmokeWeds$Word" "NOT" "LSmokeWeds$Word;" ∈ zT := (zT_at 507 (by decide +kernel) rfl)
theorem gl_Reader_215 : Cond.fieldLink "SmokeWeds$Reader" 215 "SmokeWeds$Word" "HOUR" "LSmokeWeds$Word;" ∈ zT := (zT_at 499 (by decide +kernel) rfl)
theorem gl_Reader_218 : Cond.fieldLink "SmokeWeds$Reader" 218 "SmokeWeds$Word" "DAYS" "LSmokeWeds$Word;" ∈ zT := (zT_at 501 (by decide +kernel) rfl)
theorem gl_Reader_221 : Cond.fieldLink "SmokeWeds$Reader" 221 "SmokeWeds$Word" "WAY" "LSmokeWeds$Word;" ∈ zT := (zT_at 505 (by decide +kernel) rfl)
theorem nl_Street_28 : Cond.classLink "SmokeWeds$Street" 28 "SmokeWeds$Law" ∈ zT ∧ Cond.instantiable "SmokeWeds$Law" 3 ∈ zT ∧ Cond.initialized "SmokeWeds$Law" ∈ zT := ⟨(zT_at 62 (by decide +kernel) rfl), (zT_at 63 (by decide +kernel) rfl), (zT_at 5 (by decide +kernel) rfl)⟩
theorem gl_Word_108 : Cond.fieldLink "SmokeWeds$Word" 108 "SmokeWeds$Word" "ALL" "[LSmokeWeds$Word;" ∈ zT := (zT_at 354 (by decide +kernel) rfl)
theorem gl_Word_96 : Cond.fieldLink "SmokeWeds$Word" 96 "SmokeWeds$Word" "key" "J" ∈ zT := (zT_at 1364 (by decide +kernel) rfl)
theorem nl_SW_7 : Cond.classLink "SmokeWeds" 7 "SmokeWeds$Tape" ∈ zT ∧ Cond.instantiable "SmokeWeds$Tape" 2 ∈ zT ∧ Cond.initialized "SmokeWeds$Tape" ∈ zT := ⟨(zT_at 33 (by decide +kernel) rfl), (zT_at 34 (by decide +kernel) rfl), (zT_at 2 (by decide +kernel) rfl)⟩
theorem nl_SW_16 : Cond.classLink "SmokeWeds" 16 "SmokeWeds$Reader" ∈ zT ∧ Cond.instantiable "SmokeWeds$Reader" 15 ∈ zT ∧ Cond.initialized "SmokeWeds$Reader" ∈ zT := ⟨(zT_at 50 (by decide +kernel) rfl), (zT_at 51 (by decide +kernel) rfl), (zT_at 3 (by decide +kernel) rfl)⟩
theorem nl_SW_25 : Cond.classLink "SmokeWeds" 25 "SmokeWeds$Smoke" ∈ zT ∧ Cond.instantiable "SmokeWeds$Smoke" 4 ∈ zT ∧ Cond.initialized "SmokeWeds$Smoke" ∈ zT := ⟨(zT_at 197 (by decide +kernel) rfl), (zT_at 198 (by decide +kernel) rfl), (zT_at 6 (by decide +kernel) rfl)⟩
theorem nl_SW_32 : Cond.classLink "SmokeWeds" 32 "SmokeWeds$Life" ∈ zT ∧ Cond.instantiable "SmokeWeds$Life" 13 ∈ zT ∧ Cond.initialized "SmokeWeds$Life" ∈ zT := ⟨(zT_at 220 (by decide +kernel) rfl), (zT_at 221 (by decide +kernel) rfl), (zT_at 7 (by decide +kernel) rfl)⟩
theorem al_SW_39 : Cond.classLink "SmokeWeds" 39 "SmokeWeds$Mark" ∈ zT := (zT_at 283 (by decide +kernel) rfl)
theorem nl_SW_49 : Cond.classLink "SmokeWeds" 49 "SmokeWeds$Street" ∈ zT ∧ Cond.instantiable "SmokeWeds$Street" 12 ∈ zT ∧ Cond.initialized "SmokeWeds$Street" ∈ zT := ⟨(zT_at 285 (by decide +kernel) rfl), (zT_at 57 (by decide +kernel) rfl), (zT_at 4 (by decide +kernel) rfl)⟩
theorem gl_SW_119 : Cond.fieldLink "SmokeWeds" 119 "SmokeWeds" "EASTWARD" "[I" ∈ zT := (zT_at 619 (by decide +kernel) rfl)
theorem gl_SW_122 : Cond.fieldLink "SmokeWeds" 122 "SmokeWeds" "SOUTHWARD" "[I" ∈ zT := (zT_at 621 (by decide +kernel) rfl)
theorem kl_SW_182 : Cond.constant "SmokeWeds" 182 (1000000) ∈ zT := (zT_at 734 (by decide +kernel) rfl)
theorem nl_SW_39 : Cond.classLink "SmokeWeds" 39 "SmokeWeds$Mark" ∈ zT ∧ Cond.instantiable "SmokeWeds$Mark" 2 ∈ zT ∧ Cond.initialized "SmokeWeds$Mark" ∈ zT := ⟨(zT_at 283 (by decide +kernel) rfl), (zT_at 813 (by decide +kernel) rfl), (zT_at 24 (by decide +kernel) rfl)⟩
theorem kl_SW_269 : Cond.constantLong "SmokeWeds" 269 (1103515245) ∈ zT := (zT_at 783 (by decide +kernel) rfl)
theorem kl_SW_271 : Cond.constantLong "SmokeWeds" 271 (12345) ∈ zT := (zT_at 784 (by decide +kernel) rfl)
theorem kl_SW_273 : Cond.constantLong "SmokeWeds" 273 (2147483648) ∈ zT := (zT_at 785 (by decide +kernel) rfl)
theorem kl_SW_275 : Cond.constantLong "SmokeWeds" 275 (65536) ∈ zT := (zT_at 789 (by decide +kernel) rfl)
theorem kl_Mod_104 : Cond.constantLong "SmokeWedsModel" 104 (255) ∈ zT := (zT_at 1057 (by decide +kernel) rfl)
theorem kl_Mod_132 : Cond.constantLong "SmokeWedsModel" 132 (27) ∈ zT := (zT_at 1074 (by decide +kernel) rfl)
theorem kl_Mod_134 : Cond.constantLong "SmokeWedsModel" 134 (96) ∈ zT := (zT_at 1075 (by decide +kernel) rfl)
theorem kl_Mod_142 : Cond.constantLong "SmokeWedsModel" 142 (168984) ∈ zT := (zT_at 1121 (by decide +kernel) rfl)
theorem kl_Mod_144 : Cond.constantLong "SmokeWedsModel" 144 (2968) ∈ zT := (zT_at 1122 (by decide +kernel) rfl)
theorem kl_Mod_150 : Cond.constantLong "SmokeWedsModel" 150 (164222) ∈ zT := (zT_at 1123 (by decide +kernel) rfl)
theorem kl_Mod_152 : Cond.constantLong "SmokeWedsModel" 152 (16819) ∈ zT := (zT_at 1124 (by decide +kernel) rfl)
theorem kl_Mod_158 : Cond.constantLong "SmokeWedsModel" 158 (10631) ∈ zT := (zT_at 1125 (by decide +kernel) rfl)
theorem kl_Mod_177 : Cond.constantLong "SmokeWedsModel" 177 (1111) ∈ zT := (zT_at 1130 (by decide +kernel) rfl)
theorem kl_Mod_179 : Cond.constantLong "SmokeWedsModel" 179 (423) ∈ zT := (zT_at 1131 (by decide +kernel) rfl)
theorem kl_Mod_190 : Cond.constantLong "SmokeWedsModel" 190 (3369766) ∈ zT := (zT_at 1076 (by decide +kernel) rfl)
theorem kl_Mod_192 : Cond.constantLong "SmokeWedsModel" 192 (459652) ∈ zT := (zT_at 1108 (by decide +kernel) rfl)
theorem kl_Mod_194 : Cond.constantLong "SmokeWedsModel" 194 (8754917) ∈ zT := (zT_at 1132 (by decide +kernel) rfl)
theorem kl_Mod_196 : Cond.constantLong "SmokeWedsModel" 196 (70312) ∈ zT := (zT_at 1133 (by decide +kernel) rfl)
theorem kl_Mod_198 : Cond.constantLong "SmokeWedsModel" 198 (11055682) ∈ zT := (zT_at 1138 (by decide +kernel) rfl)
theorem kl_Mod_200 : Cond.constantLong "SmokeWedsModel" 200 (4562600) ∈ zT := (zT_at 1139 (by decide +kernel) rfl)
theorem kl_Mod_202 : Cond.constantLong "SmokeWedsModel" 202 (47) ∈ zT := (zT_at 1148 (by decide +kernel) rfl)
theorem kl_Mod_204 : Cond.constantLong "SmokeWedsModel" 204 (3427) ∈ zT := (zT_at 1149 (by decide +kernel) rfl)
theorem kl_Mod_206 : Cond.constantLong "SmokeWedsModel" 206 (16922) ∈ zT := (zT_at 1150 (by decide +kernel) rfl)
theorem kl_Mod_208 : Cond.constantLong "SmokeWedsModel" 208 (318620) ∈ zT := (zT_at 1151 (by decide +kernel) rfl)
theorem kl_Mod_210 : Cond.constantLong "SmokeWedsModel" 210 (239882) ∈ zT := (zT_at 1152 (by decide +kernel) rfl)
theorem kl_Mod_212 : Cond.constantLong "SmokeWedsModel" 212 (11190) ∈ zT := (zT_at 1153 (by decide +kernel) rfl)
theorem kl_Mod_345 : Cond.constantLong "SmokeWedsModel" 345 (1103515245) ∈ zT := (zT_at 1333 (by decide +kernel) rfl)
theorem kl_Mod_347 : Cond.constantLong "SmokeWedsModel" 347 (12345) ∈ zT := (zT_at 1334 (by decide +kernel) rfl)
theorem kl_Mod_349 : Cond.constantLong "SmokeWedsModel" 349 (2147483648) ∈ zT := (zT_at 1335 (by decide +kernel) rfl)
theorem kl_Mod_351 : Cond.constantLong "SmokeWedsModel" 351 (65536) ∈ zT := (zT_at 1336 (by decide +kernel) rfl)
theorem kl_Integer_265 : Cond.constant "java/lang/Integer" 265 (1431655765) ∈ zT := (zT_at 674 (by decide +kernel) rfl)
theorem kl_Integer_266 : Cond.constant "java/lang/Integer" 266 (858993459) ∈ zT := (zT_at 675 (by decide +kernel) rfl)
theorem kl_Integer_267 : Cond.constant "java/lang/Integer" 267 (252645135) ∈ zT := (zT_at 676 (by decide +kernel) rfl)
theorem gl_String_9 : Cond.fieldLink "java/lang/String" 9 "java/lang/String" "value" "[B" ∈ zT := (zT_at 1366 (by decide +kernel) rfl)
theorem gl_String_38 : Cond.fieldLink "java/lang/String" 38 "java/lang/String" "COMPACT_STRINGS" "Z" ∈ zT := (zT_at 369 (by decide +kernel) rfl)
theorem gl_String_15 : Cond.fieldLink "java/lang/String" 15 "java/lang/String" "coder" "B" ∈ zT := (zT_at 1365 (by decide +kernel) rfl)
theorem gl_String_1053 : Cond.fieldLink "java/lang/String" 1053 "jdk/internal/util/Preconditions" "SIOOBE_FORMATTER" "Ljava/util/function/BiFunction;" ∈ zT := (zT_at 412 (by decide +kernel) rfl)
theorem nl_Lw_8 : Cond.classLink "SmokeWedsLaw" 8 "SmokeWeds" ∈ zT ∧ Cond.instantiable "SmokeWeds" 7 ∈ zT ∧ Cond.initialized "SmokeWeds" ∈ zT := ⟨(zT_at 25 (by decide +kernel) rfl), (zT_at 26 (by decide +kernel) rfl), (zT_at 1 (by decide +kernel) rfl)⟩
theorem nl_Lw_16 : Cond.classLink "SmokeWedsLaw" 16 "SmokeWedsModel" ∈ zT ∧ Cond.instantiable "SmokeWedsModel" 43 ∈ zT ∧ Cond.initialized "SmokeWedsModel" ∈ zT := ⟨(zT_at 908 (by decide +kernel) rfl), (zT_at 909 (by decide +kernel) rfl), (zT_at 9 (by decide +kernel) rfl)⟩
theorem kl_Lw_19 : Cond.constantLong "SmokeWedsLaw" 19 (4294967295) ∈ zT := (zT_at 1349 (by decide +kernel) rfl)
theorem ac_byte : Cond.arrayClass .byte ∈ zT := (zT_at 49 (by decide +kernel) rfl)
theorem ac_int : Cond.arrayClass .int ∈ zT := (zT_at 79 (by decide +kernel) rfl)
theorem ac_long : Cond.arrayClass .long ∈ zT := (zT_at 80 (by decide +kernel) rfl)
theorem ac_boolean : Cond.arrayClass .boolean ∈ zT := (zT_at 1048 (by decide +kernel) rfl)
theorem mm_min : Cond.static Lib.Math.min.name ∈ zT ∧ Cond.initialized "java/lang/Math" ∈ zT ∧ Cond.code Lib.Math.min.name Lib.Math.min.code 2 (some .int) ∈ zT := ⟨(zT_at 389 (by decide +kernel) rfl), (zT_at 14 (by decide +kernel) rfl), (zT_at 390 (by decide +kernel) rfl)⟩
theorem mm_max : Cond.static Lib.Math.max.name ∈ zT ∧ Cond.initialized "java/lang/Math" ∈ zT ∧ Cond.code Lib.Math.max.name Lib.Math.max.code 2 (some .int) ∈ zT := ⟨(zT_at 386 (by decide +kernel) rfl), (zT_at 14 (by decide +kernel) rfl), (zT_at 387 (by decide +kernel) rfl)⟩
end
section
/-- constants: static fields, arrays, fields of constant objects; what is written lies from h0 on -/
def zkZ : List (String × String × String × Value) := [
  ("SmokeWeds", "EASTWARD", "[I", .ref 1000019), ("SmokeWeds", "SOUTHWARD", "[I", .ref 1000020), ("SmokeWeds$Word", "ALL", "[LSmokeWeds$Word;", .ref 1000021),
  ("SmokeWeds$Word", "FIELD", "LSmokeWeds$Word;", .ref 1000000), ("SmokeWeds$Word", "WIND", "LSmokeWeds$Word;", .ref 1000001), ("SmokeWeds$Word", "PLUME", "LSmokeWeds$Word;", .ref 1000002),
  ("SmokeWeds$Word", "COLD", "LSmokeWeds$Word;", .ref 1000003), ("SmokeWeds$Word", "TURNS", "LSmokeWeds$Word;", .ref 1000004), ("SmokeWeds$Word", "HOUSE", "LSmokeWeds$Word;", .ref 1000005),
  ("SmokeWeds$Word", "AT", "LSmokeWeds$Word;", .ref 1000006), ("SmokeWeds$Word", "HIGH", "LSmokeWeds$Word;", .ref 1000007),
  ("SmokeWeds$Word", "NOT", "LSmokeWeds$Word;", .ref 1000013), ("SmokeWeds$Word", "AND", "LSmokeWeds$Word;", .ref 1000014), ("SmokeWeds$Word", "OR", "LSmokeWeds$Word;", .ref 1000015),
  ("SmokeWeds$Word", "HOUR", "LSmokeWeds$Word;", .ref 1000016), ("SmokeWeds$Word", "DAYS", "LSmokeWeds$Word;", .ref 1000017), ("SmokeWeds$Word", "WAY", "LSmokeWeds$Word;", .ref 1000018),
  ("java/lang/String", "COMPACT_STRINGS", "Z", .int 1)]
def zkE : List Int32 := [0, 1, 1, 1, 0, -1, -1, -1]
def zkS : List Int32 := [-1, -1, 0, 1, 1, 1, 0, -1]
def zkB : List Int32 := [40, 41, 60, 61, 43, 45, 42, 59]
def zkT : List (FieldType × Nat × Nat × (Nat → Value)) := [(.int, 1000019, 8, fun k => .int (zkE.getD k 0)), (.int, 1000020, 8, fun k => .int (zkS.getD k 0)), (.object "SmokeWeds$Word", 1000021, 19, fun k => .ref (1000000 + k)), (.byte, 1000023, 8, fun k => .int (zkB.getD k 0))]
def zkK : List Int64 := [439854918756, 2003398244, 482855972197, 1668246628, 500186639987, 448546567013, 24948, 1751738216, 6582905, 7824756, 1885692276, 1818583406, 7301484, 7237492, 6385252, 28530, 1752135026, 6578553, 7823737]
def zkr : List Int32 := [1, 1, 1, 1, 1, 1, 1, 1, 1, 1, 1, 1, 1, 1, 1, 1, 0, 0, 0]
def zkk : List Int32 := [-1, -1, -1, -1, -1, -1, -1, -1, 0, 1, 2, 3, 4, -1, -1, -1, -1, -1, -1]
def zkF : List (String × String × String × (Nat → Value)) := [("SmokeWeds$Word", "key", "J", fun k => .long (zkK.getD k 0)), ("SmokeWeds$Word", "reserved", "Z", fun k => .int (zkr.getD k 0)), ("SmokeWeds$Word", "kind", "I", fun k => .int (zkk.getD k 0))]
def zKC (h0 : Nat) (ad : Nat → Nat) (U : State) (H : Heap) : Prop :=
  (∀ q ∈ zkZ, va_Z q.1 q.2.1 q.2.2.1 (cv ad q.2.2.2) (zA h0) U H) ∧ (∀ q ∈ zkT, va_T q.1 (ad q.2.1) q.2.2.1 (fun k => cv ad (q.2.2.2 k)) (zA h0) U H) ∧
  (∀ q ∈ zkF, ∀ i, i < 19 → va_OF q.1 q.2.1 q.2.2.1 (q.2.2.2 i) (ad (1000000 + i)) (zA h0) U H) ∧ (∀ i j, i < 19 → j < 19 → ad (1000000 + i) = ad (1000000 + j) → i = j) ∧
  (va_O "java/lang/String" (ad 1000022) (zA h0) U H ∧ va_OF "java/lang/String" "value" "[B" (.ref (ad 1000023)) (ad 1000022) (zA h0) U H ∧ va_OF "java/lang/String" "coder" "B" (.int 0) (ad 1000022) (zA h0) U H ∧ vk_R "SmokeWeds$Reader" 249 "()<=+-*;" (ad 1000022) U) ∧
  ((∀ q ∈ zkNM, va_Nw (.methodLinkNest q.1 q.2.1 q.2.2.1 q.2.2.2) U) ∧ (∀ q ∈ zkNF, va_Nw (.fieldLinkNest q.1 q.2.1 q.2.2.1 q.2.2.2.1 q.2.2.2.2.1 q.2.2.2.2.2) U) ∧ va_AO RX2 U)
theorem zKC.go {h0 : Nat} {ad ad2 : Nat → Nat} {u U : State} {H H1 : Heap} (h : zKC h0 ad u H) (hm : u.WarmedH U.vm ∨ U.vm = u.vm) (hq : ∀ a : Nat, a < H.size → ¬ zA h0 a → H1[a]? = H[a]?) (ha : ∀ o, 1000000 ≤ o → ad2 o = ad o) : zKC h0 ad2 U H1 := by
  obtain ⟨h1, h2, h3, h4, ⟨h5, h6, h7, h8⟩, h9, h10, h11⟩ := h
  have hvm : u.vm.Alike U.vm := by
    rcases hm with hm | hm
    · exact hm.alike
    · rw [hm]; exact Vm.Alike.refl _
  have e1 : ∀ q ∈ zkZ, cv ad2 q.2.2.2 = cv ad q.2.2.2 := by
    intro q hq
    simp only [zkZ, List.mem_cons, List.not_mem_nil, or_false] at hq
    rcases hq with rfl | rfl | rfl | rfl | rfl | rfl | rfl | rfl | rfl | rfl | rfl | rfl | rfl | rfl | rfl | rfl | rfl | rfl <;> first | rfl | (show Value.ref (ad2 _) = Value.ref (ad _); rw [ha _ (by decide)])
  have e2 : ∀ q ∈ zkT, ad2 q.2.1 = ad q.2.1 ∧ (fun k => cv ad2 (q.2.2.2 k)) = fun k => cv ad (q.2.2.2 k) := by
    intro q hq
    simp only [zkT, List.mem_cons, List.not_mem_nil, or_false] at hq
    rcases hq with rfl | rfl | rfl | rfl
    · exact ⟨ha _ (by decide), rfl⟩
    · exact ⟨ha _ (by decide), rfl⟩
    · exact ⟨ha _ (by decide), by funext k; show Value.ref (ad2 _) = Value.ref (ad _); rw [ha _ (by omega)]⟩
    · exact ⟨ha _ (by decide), rfl⟩
  refine ⟨fun q hm => ?_, fun q hm => ?_, fun q hm i hi => ?_, fun i j hi hj => ?_, ⟨?_, ?_, ?_, ?_⟩, fun q hm2 => ?_, fun q hm2 => ?_, ?_⟩
  · rw [e1 q hm]; exact (va_Z.moved hvm (h1 q hm)).kept hq
  · rw [(e2 q hm).1, (e2 q hm).2]; exact (va_T.moved hvm (h2 q hm)).kept hq
  · rw [ha _ (by omega)]; exact (va_OF.moved hvm (h3 q hm i hi)).kept hq
  · rw [ha _ (by omega), ha _ (by omega)]; exact h4 i j hi hj
  · rw [ha _ (by decide)]; exact (va_O.moved hvm h5).kept hq
  · rw [ha _ (by decide), ha _ (by decide)]; exact (va_OF.moved hvm h6).kept hq
  · rw [ha _ (by decide)]; exact (va_OF.moved hvm h7).kept hq
  · rw [ha _ (by decide)]
    rcases hm with hm | hm
    · exact h8.warm hm
    · exact h8.same hm
  · rcases hm with hm | hm
    · exact va_Nw.warmM hm (h9 q hm2)
    · exact va_Nw.same rfl hm.symm (h9 q hm2)
  · rcases hm with hm | hm
    · exact va_Nw.warmF hm (h10 q hm2)
    · exact va_Nw.same rfl hm.symm (h10 q hm2)
  · exact va_AO.moved hvm h11
def zRet (M : zM) (r : Option Value) (pc : Nat) : Prop :=
  (r = none ∧ zM.rt M = none ∧ zM.f M pc = some (.return_, 1)) ∨ (∃ v ty, r = some (.int v) ∧ zM.rt M = some ty ∧ narrow ty (.int v) = .int v ∧ zM.f M pc = some (.ireturn, 1)) ∨
  (∃ v, r = some (.long v) ∧ zM.rt M = some .long ∧ zM.f M pc = some (.lreturn, 1)) ∨ (∃ v C, (r = some .null ∨ r = some (.ref v)) ∧ zM.rt M = some (.object C) ∧ zM.f M pc = some (.areturn, 1))
/-- the frame of a method in the machine -/
def zCtx (d : Nat) (M : zM) (P : Option Value → zW → Prop) (p : Program) (l : Launch) (e : Env) (R : Room) (s : State) (m : MethodId) (args : Array Value) (below : List Frame) (meth : Method) (c : Code) (Q : State → Prop) (D : va_G) (cA : Nat → ClassId) (h0 : Nat) (ad0 : Nat → Nat) (n0 : Nat) : Prop :=
  p.tables.exec = Jvm.exec ∧ c.code = zM.cc M ∧ c.maxLocals = zM.mx M ∧ s.vm.findClass (zM.y M).cls = some m.cls ∧ (∀ w ∈ zT, w.before args s = true) ∧ va_K D zcl (ztys cA) s ∧ zKC h0 ad0 s s.heap ∧ h0 ≤ s.heap.size ∧ meth.name = (zM.y M).name ∧ (d ≤ R.frames ∧ 64 * d ≤ R.locals) ∧ zOK M ∧
  (∀ x, zM.X M = some x → va_T .int (ad0 1000030) x.1 (fun k => .int (x.2 k)) (zA h0) s s.heap) ∧
  ∀ (r : Option Value) (w' : zW), P r w' → ∀ (ad : Nat → Nat) (H : Heap) (locs : List Loc) (cells slots pc : Nat) (ls : Array Slot), zAW D cA h0 ad w' H → va_S (zA h0) s.heap H locs → (∀ o, (o < n0 ∨ w'.1.length ≤ o) → ad o = ad0 o) → cells ≤ R.cells → slots ≤ R.slots → zRet M r pc → W p l e R s m args below meth c H locs cells slots Q (F0 m pc ls ((r.map (cv ad)).toList))
/-- from this place the method comes to its end: answer and world are as P says; at most mc cells of ms slots come, at most d frames are below it -/
def zS (mc ms d : Nat) (M : zM) (P : Option Value → zW → Prop) (pc : Nat) (ls : List (Nat × Value)) (st : List Value) (w : zW) : Prop :=
  ∀ (p : Program) (l : Launch) (e : Env) (R : Room) (s : State) (m : MethodId) (args : Array Value) (below : List Frame) (meth : Method) (c : Code) (Q : State → Prop) (D : va_G) (cA : Nat → ClassId) (h0 : Nat) (ad0 : Nat → Nat) (n0 : Nat), zCtx d M P p l e R s m args below meth c Q D cA h0 ad0 n0 →
  ∀ (ad : Nat → Nat) (H : Heap) (locs : List Loc) (cells slots : Nat) (la : Array Slot), zAW D cA h0 ad w H → va_S (zA h0) s.heap H locs → ((∀ o, (o < n0 ∨ w.1.length ≤ o) → ad o = ad0 o) ∧ n0 ≤ w.1.length) → cells + mc ≤ R.cells → slots + ms ≤ R.slots → lv_has la (zM.mx M) (cvl ad ls) → W p l e R s m args below meth c H locs cells slots Q (F0 m pc la (st.map (cv ad)))
theorem zCtx.dec {d : Nat} {M : zM} {P : Option Value → zW → Prop} {p : Program} {l : Launch} {e : Env} {R : Room} {s : State} {m : MethodId} {args : Array Value} {below : List Frame} {meth : Method} {c : Code} {Q : State → Prop} {D : va_G} {cA : Nat → ClassId} {h0 : Nat} {ad0 : Nat → Nat} {n0 : Nat} (C : zCtx d M P p l e R s m args below meth c Q D cA h0 ad0 n0) {pc : Nat} {q : Instr × Nat} (hf : zM.f M pc = some q) : decode (zM.cc M) pc = .ok q := C.2.2.2.2.2.2.2.2.2.2.1.1 _ _ hf
end
section
section Z5
variable {mc ms d : Nat} {M : zM} {P : Option Value → zW → Prop} {pc : Nat} {ls : List (Nat × Value)} {st : List Value} {w : zW}
theorem z_iconst {n : Int} {v : Int32} (hf : zM.f M pc = some (.iconst n, 1)) (hv : Int32.ofInt n = v) (k : zS mc ms d M P (pc + 1) ls (.int v :: st) w) : zS mc ms d M P pc ls st w :=
  fun p l e R s m args below meth c Q D cA h0 ad0 n0 C ad H locs cells slots la hA hS hg hc hs hl => lv_iconst C.1 C.2.1 (C.dec hf) hv (k p l e R s m args below meth c Q D cA h0 ad0 n0 C ad H locs cells slots la hA hS hg hc hs hl)
theorem z_bipush {n : Int} {v : Int32} (hf : zM.f M pc = some (.bipush n, 2)) (hv : (Int8.ofInt n).toInt32 = v) (k : zS mc ms d M P (pc + 2) ls (.int v :: st) w) : zS mc ms d M P pc ls st w :=
  fun p l e R s m args below meth c Q D cA h0 ad0 n0 C ad H locs cells slots la hA hS hg hc hs hl => lv_bipush C.1 C.2.1 (C.dec hf) hv (k p l e R s m args below meth c Q D cA h0 ad0 n0 C ad H locs cells slots la hA hS hg hc hs hl)
theorem z_sipush {n : Int} {v : Int32} (hf : zM.f M pc = some (.sipush n, 3)) (hv : (Int16.ofInt n).toInt32 = v) (k : zS mc ms d M P (pc + 3) ls (.int v :: st) w) : zS mc ms d M P pc ls st w :=
  fun p l e R s m args below meth c Q D cA h0 ad0 n0 C ad H locs cells slots la hA hS hg hc hs hl => lv_sipush C.1 C.2.1 (C.dec hf) hv (k p l e R s m args below meth c Q D cA h0 ad0 n0 C ad H locs cells slots la hA hS hg hc hs hl)
theorem z_lconst {n : Fin 2} {v : Int64} (hf : zM.f M pc = some (.lconst n, 1)) (hv : Int64.ofNat (n : Nat) = v) (k : zS mc ms d M P (pc + 1) ls (.long v :: st) w) : zS mc ms d M P pc ls st w :=
  fun p l e R s m args below meth c Q D cA h0 ad0 n0 C ad H locs cells slots la hA hS hg hc hs hl => lv_lconst C.1 C.2.1 (C.dec hf) hv (k p l e R s m args below meth c Q D cA h0 ad0 n0 C ad H locs cells slots la hA hS hg hc hs hl)
theorem z_null  (hf : zM.f M pc = some (.aconst_null, 1))  (k : zS mc ms d M P (pc + 1) ls (.null :: st) w) : zS mc ms d M P pc ls st w :=
  fun p l e R s m args below meth c Q D cA h0 ad0 n0 C ad H locs cells slots la hA hS hg hc hs hl => lv_null C.1 C.2.1 (C.dec hf)  (k p l e R s m args below meth c Q D cA h0 ad0 n0 C ad H locs cells slots la hA hS hg hc hs hl)
theorem z_ldc {i : Nat} {v : Int32} (hf : zM.f M pc = some (.ldc i, 2)) (hw : Cond.constant (zM.y M).cls i v ∈ zT) (k : zS mc ms d M P (pc + 2) ls (.int v :: st) w) : zS mc ms d M P pc ls st w :=
  fun p l e R s m args below meth c Q D cA h0 ad0 n0 C ad H locs cells slots la hA hS hg hc hs hl => lv_ldc C.1 C.2.1 C.2.2.2.1 (C.2.2.2.2.1 _ hw) (C.dec hf) (k p l e R s m args below meth c Q D cA h0 ad0 n0 C ad H locs cells slots la hA hS hg hc hs hl)
theorem z_ldcw {i : Nat} {v : Int32} (hf : zM.f M pc = some (.ldc_w i, 3)) (hw : Cond.constant (zM.y M).cls i v ∈ zT) (k : zS mc ms d M P (pc + 3) ls (.int v :: st) w) : zS mc ms d M P pc ls st w :=
  fun p l e R s m args below meth c Q D cA h0 ad0 n0 C ad H locs cells slots la hA hS hg hc hs hl => lv_ldcw C.1 C.2.1 C.2.2.2.1 (C.2.2.2.2.1 _ hw) (C.dec hf) (k p l e R s m args below meth c Q D cA h0 ad0 n0 C ad H locs cells slots la hA hS hg hc hs hl)
theorem z_ldc2 {i : Nat} {v : Int64} (hf : zM.f M pc = some (.ldc2_w i, 3)) (hw : Cond.constantLong (zM.y M).cls i v ∈ zT) (k : zS mc ms d M P (pc + 3) ls (.long v :: st) w) : zS mc ms d M P pc ls st w :=
  fun p l e R s m args below meth c Q D cA h0 ad0 n0 C ad H locs cells slots la hA hS hg hc hs hl => lv_ldc2 C.1 C.2.1 C.2.2.2.1 (C.2.2.2.2.1 _ hw) (C.dec hf) (k p l e R s m args below meth c Q D cA h0 ad0 n0 C ad H locs cells slots la hA hS hg hc hs hl)
theorem z_iadd {x y : Int32} (hf : zM.f M pc = some (.iadd, 1))  (k : zS mc ms d M P (pc + 1) ls (.int (x + y) :: st) w) : zS mc ms d M P pc ls (.int y :: .int x :: st) w :=
  fun p l e R s m args below meth c Q D cA h0 ad0 n0 C ad H locs cells slots la hA hS hg hc hs hl => lv_iadd C.1 C.2.1 (C.dec hf)  (k p l e R s m args below meth c Q D cA h0 ad0 n0 C ad H locs cells slots la hA hS hg hc hs hl)
theorem z_isub {x y : Int32} (hf : zM.f M pc = some (.isub, 1))  (k : zS mc ms d M P (pc + 1) ls (.int (x - y) :: st) w) : zS mc ms d M P pc ls (.int y :: .int x :: st) w :=
  fun p l e R s m args below meth c Q D cA h0 ad0 n0 C ad H locs cells slots la hA hS hg hc hs hl => lv_isub C.1 C.2.1 (C.dec hf)  (k p l e R s m args below meth c Q D cA h0 ad0 n0 C ad H locs cells slots la hA hS hg hc hs hl)
theorem z_imul {x y : Int32} (hf : zM.f M pc = some (.imul, 1))  (k : zS mc ms d M P (pc + 1) ls (.int (x * y) :: st) w) : zS mc ms d M P pc ls (.int y :: .int x :: st) w :=
  fun p l e R s m args below meth c Q D cA h0 ad0 n0 C ad H locs cells slots la hA hS hg hc hs hl => lv_imul C.1 C.2.1 (C.dec hf)  (k p l e R s m args below meth c Q D cA h0 ad0 n0 C ad H locs cells slots la hA hS hg hc hs hl)
theorem z_iand {x y : Int32} (hf : zM.f M pc = some (.iand, 1))  (k : zS mc ms d M P (pc + 1) ls (.int (x &&& y) :: st) w) : zS mc ms d M P pc ls (.int y :: .int x :: st) w :=
  fun p l e R s m args below meth c Q D cA h0 ad0 n0 C ad H locs cells slots la hA hS hg hc hs hl => lv_iand C.1 C.2.1 (C.dec hf)  (k p l e R s m args below meth c Q D cA h0 ad0 n0 C ad H locs cells slots la hA hS hg hc hs hl)
theorem z_ior {x y : Int32} (hf : zM.f M pc = some (.ior, 1))  (k : zS mc ms d M P (pc + 1) ls (.int (x ||| y) :: st) w) : zS mc ms d M P pc ls (.int y :: .int x :: st) w :=
  fun p l e R s m args below meth c Q D cA h0 ad0 n0 C ad H locs cells slots la hA hS hg hc hs hl => lv_ior C.1 C.2.1 (C.dec hf)  (k p l e R s m args below meth c Q D cA h0 ad0 n0 C ad H locs cells slots la hA hS hg hc hs hl)
theorem z_ixor {x y : Int32} (hf : zM.f M pc = some (.ixor, 1))  (k : zS mc ms d M P (pc + 1) ls (.int (x ^^^ y) :: st) w) : zS mc ms d M P pc ls (.int y :: .int x :: st) w :=
  fun p l e R s m args below meth c Q D cA h0 ad0 n0 C ad H locs cells slots la hA hS hg hc hs hl => lv_ixor C.1 C.2.1 (C.dec hf)  (k p l e R s m args below meth c Q D cA h0 ad0 n0 C ad H locs cells slots la hA hS hg hc hs hl)
theorem z_ishl {x y : Int32} (hf : zM.f M pc = some (.ishl, 1))  (k : zS mc ms d M P (pc + 1) ls (.int (x <<< (y &&& 31)) :: st) w) : zS mc ms d M P pc ls (.int y :: .int x :: st) w :=
  fun p l e R s m args below meth c Q D cA h0 ad0 n0 C ad H locs cells slots la hA hS hg hc hs hl => lv_ishl C.1 C.2.1 (C.dec hf)  (k p l e R s m args below meth c Q D cA h0 ad0 n0 C ad H locs cells slots la hA hS hg hc hs hl)
theorem z_ishr {x y : Int32} (hf : zM.f M pc = some (.ishr, 1))  (k : zS mc ms d M P (pc + 1) ls (.int (x >>> (y &&& 31)) :: st) w) : zS mc ms d M P pc ls (.int y :: .int x :: st) w :=
  fun p l e R s m args below meth c Q D cA h0 ad0 n0 C ad H locs cells slots la hA hS hg hc hs hl => lv_ishr C.1 C.2.1 (C.dec hf)  (k p l e R s m args below meth c Q D cA h0 ad0 n0 C ad H locs cells slots la hA hS hg hc hs hl)
theorem z_idiv {x y : Int32} (hf : zM.f M pc = some (.idiv, 1)) (hn : ¬ y = 0) (k : zS mc ms d M P (pc + 1) ls (.int (x / y) :: st) w) : zS mc ms d M P pc ls (.int y :: .int x :: st) w :=
  fun p l e R s m args below meth c Q D cA h0 ad0 n0 C ad H locs cells slots la hA hS hg hc hs hl => lv_idiv C.1 C.2.1 (C.dec hf) hn (k p l e R s m args below meth c Q D cA h0 ad0 n0 C ad H locs cells slots la hA hS hg hc hs hl)
theorem z_irem {x y : Int32} (hf : zM.f M pc = some (.irem, 1)) (hn : ¬ y = 0) (k : zS mc ms d M P (pc + 1) ls (.int (x - x / y * y) :: st) w) : zS mc ms d M P pc ls (.int y :: .int x :: st) w :=
  fun p l e R s m args below meth c Q D cA h0 ad0 n0 C ad H locs cells slots la hA hS hg hc hs hl => lv_irem C.1 C.2.1 (C.dec hf) hn (k p l e R s m args below meth c Q D cA h0 ad0 n0 C ad H locs cells slots la hA hS hg hc hs hl)
theorem z_ineg {x : Int32} (hf : zM.f M pc = some (.ineg, 1))  (k : zS mc ms d M P (pc + 1) ls (.int (-x) :: st) w) : zS mc ms d M P pc ls (.int x :: st) w :=
  fun p l e R s m args below meth c Q D cA h0 ad0 n0 C ad H locs cells slots la hA hS hg hc hs hl => lv_ineg C.1 C.2.1 (C.dec hf)  (k p l e R s m args below meth c Q D cA h0 ad0 n0 C ad H locs cells slots la hA hS hg hc hs hl)
theorem z_ladd {x y : Int64} (hf : zM.f M pc = some (.ladd, 1))  (k : zS mc ms d M P (pc + 1) ls (.long (x + y) :: st) w) : zS mc ms d M P pc ls (.long y :: .long x :: st) w :=
  fun p l e R s m args below meth c Q D cA h0 ad0 n0 C ad H locs cells slots la hA hS hg hc hs hl => lv_ladd C.1 C.2.1 (C.dec hf)  (k p l e R s m args below meth c Q D cA h0 ad0 n0 C ad H locs cells slots la hA hS hg hc hs hl)
theorem z_lsub {x y : Int64} (hf : zM.f M pc = some (.lsub, 1))  (k : zS mc ms d M P (pc + 1) ls (.long (x - y) :: st) w) : zS mc ms d M P pc ls (.long y :: .long x :: st) w :=
  fun p l e R s m args below meth c Q D cA h0 ad0 n0 C ad H locs cells slots la hA hS hg hc hs hl => lv_lsub C.1 C.2.1 (C.dec hf)  (k p l e R s m args below meth c Q D cA h0 ad0 n0 C ad H locs cells slots la hA hS hg hc hs hl)
theorem z_lmul {x y : Int64} (hf : zM.f M pc = some (.lmul, 1))  (k : zS mc ms d M P (pc + 1) ls (.long (x * y) :: st) w) : zS mc ms d M P pc ls (.long y :: .long x :: st) w :=
  fun p l e R s m args below meth c Q D cA h0 ad0 n0 C ad H locs cells slots la hA hS hg hc hs hl => lv_lmul C.1 C.2.1 (C.dec hf)  (k p l e R s m args below meth c Q D cA h0 ad0 n0 C ad H locs cells slots la hA hS hg hc hs hl)
theorem z_land {x y : Int64} (hf : zM.f M pc = some (.land, 1))  (k : zS mc ms d M P (pc + 1) ls (.long (x &&& y) :: st) w) : zS mc ms d M P pc ls (.long y :: .long x :: st) w :=
  fun p l e R s m args below meth c Q D cA h0 ad0 n0 C ad H locs cells slots la hA hS hg hc hs hl => lv_land C.1 C.2.1 (C.dec hf)  (k p l e R s m args below meth c Q D cA h0 ad0 n0 C ad H locs cells slots la hA hS hg hc hs hl)
theorem z_lor {x y : Int64} (hf : zM.f M pc = some (.lor, 1))  (k : zS mc ms d M P (pc + 1) ls (.long (x ||| y) :: st) w) : zS mc ms d M P pc ls (.long y :: .long x :: st) w :=
  fun p l e R s m args below meth c Q D cA h0 ad0 n0 C ad H locs cells slots la hA hS hg hc hs hl => lv_lor C.1 C.2.1 (C.dec hf)  (k p l e R s m args below meth c Q D cA h0 ad0 n0 C ad H locs cells slots la hA hS hg hc hs hl)
theorem z_ldiv {x y : Int64} (hf : zM.f M pc = some (.ldiv, 1)) (hn : ¬ y = 0) (k : zS mc ms d M P (pc + 1) ls (.long (x / y) :: st) w) : zS mc ms d M P pc ls (.long y :: .long x :: st) w :=
  fun p l e R s m args below meth c Q D cA h0 ad0 n0 C ad H locs cells slots la hA hS hg hc hs hl => lv_ldiv C.1 C.2.1 (C.dec hf) hn (k p l e R s m args below meth c Q D cA h0 ad0 n0 C ad H locs cells slots la hA hS hg hc hs hl)
theorem z_lrem {x y : Int64} (hf : zM.f M pc = some (.lrem, 1)) (hn : ¬ y = 0) (k : zS mc ms d M P (pc + 1) ls (.long (x - x / y * y) :: st) w) : zS mc ms d M P pc ls (.long y :: .long x :: st) w :=
  fun p l e R s m args below meth c Q D cA h0 ad0 n0 C ad H locs cells slots la hA hS hg hc hs hl => lv_lrem C.1 C.2.1 (C.dec hf) hn (k p l e R s m args below meth c Q D cA h0 ad0 n0 C ad H locs cells slots la hA hS hg hc hs hl)
theorem z_iushr {x y : Int32} (hf : zM.f M pc = some (.iushr, 1))  (k : zS mc ms d M P (pc + 1) ls (.int ((x.toUInt32 >>> (y.toUInt32 &&& Int32.toUInt32 31)).toInt32) :: st) w) : zS mc ms d M P pc ls (.int y :: .int x :: st) w :=
  fun p l e R s m args below meth c Q D cA h0 ad0 n0 C ad H locs cells slots la hA hS hg hc hs hl => lv_iushr C.1 C.2.1 (C.dec hf) rfl (k p l e R s m args below meth c Q D cA h0 ad0 n0 C ad H locs cells slots la hA hS hg hc hs hl)
theorem z_lushr {x : Int64} {y : Int32} (hf : zM.f M pc = some (.lushr, 1))  (k : zS mc ms d M P (pc + 1) ls (.long ((x.toUInt64 >>> (y.toInt64.toUInt64 &&& Int64.toUInt64 63)).toInt64) :: st) w) : zS mc ms d M P pc ls (.int y :: .long x :: st) w :=
  fun p l e R s m args below meth c Q D cA h0 ad0 n0 C ad H locs cells slots la hA hS hg hc hs hl => lv_lushr C.1 C.2.1 (C.dec hf) rfl (k p l e R s m args below meth c Q D cA h0 ad0 n0 C ad H locs cells slots la hA hS hg hc hs hl)
theorem z_lshl {x : Int64} {y : Int32} (hf : zM.f M pc = some (.lshl, 1))  (k : zS mc ms d M P (pc + 1) ls (.long (x <<< (y.toInt64 &&& 63)) :: st) w) : zS mc ms d M P pc ls (.int y :: .long x :: st) w :=
  fun p l e R s m args below meth c Q D cA h0 ad0 n0 C ad H locs cells slots la hA hS hg hc hs hl => lv_lshl C.1 C.2.1 (C.dec hf) rfl (k p l e R s m args below meth c Q D cA h0 ad0 n0 C ad H locs cells slots la hA hS hg hc hs hl)
theorem z_i2l {x : Int32} (hf : zM.f M pc = some (.i2l, 1))  (k : zS mc ms d M P (pc + 1) ls (.long x.toInt64 :: st) w) : zS mc ms d M P pc ls (.int x :: st) w :=
  fun p l e R s m args below meth c Q D cA h0 ad0 n0 C ad H locs cells slots la hA hS hg hc hs hl => lv_i2l C.1 C.2.1 (C.dec hf) rfl (k p l e R s m args below meth c Q D cA h0 ad0 n0 C ad H locs cells slots la hA hS hg hc hs hl)
theorem z_l2i {x : Int64} (hf : zM.f M pc = some (.l2i, 1))  (k : zS mc ms d M P (pc + 1) ls (.int x.toInt32 :: st) w) : zS mc ms d M P pc ls (.long x :: st) w :=
  fun p l e R s m args below meth c Q D cA h0 ad0 n0 C ad H locs cells slots la hA hS hg hc hs hl => lv_l2i C.1 C.2.1 (C.dec hf) rfl (k p l e R s m args below meth c Q D cA h0 ad0 n0 C ad H locs cells slots la hA hS hg hc hs hl)
theorem z_i2b {x : Int32} (hf : zM.f M pc = some (.i2b, 1))  (k : zS mc ms d M P (pc + 1) ls (.int x.toInt8.toInt32 :: st) w) : zS mc ms d M P pc ls (.int x :: st) w :=
  fun p l e R s m args below meth c Q D cA h0 ad0 n0 C ad H locs cells slots la hA hS hg hc hs hl => lv_i2b C.1 C.2.1 (C.dec hf) rfl (k p l e R s m args below meth c Q D cA h0 ad0 n0 C ad H locs cells slots la hA hS hg hc hs hl)
theorem z_i2c {x : Int32} (hf : zM.f M pc = some (.i2c, 1))  (k : zS mc ms d M P (pc + 1) ls (.int (x.toUInt32 % 65536).toInt32 :: st) w) : zS mc ms d M P pc ls (.int x :: st) w :=
  fun p l e R s m args below meth c Q D cA h0 ad0 n0 C ad H locs cells slots la hA hS hg hc hs hl => lv_i2c C.1 C.2.1 (C.dec hf) rfl (k p l e R s m args below meth c Q D cA h0 ad0 n0 C ad H locs cells slots la hA hS hg hc hs hl)
theorem z_lcmp {x y : Int64} (hf : zM.f M pc = some (.lcmp, 1))  (k : zS mc ms d M P (pc + 1) ls (.int (lg_cmp x y) :: st) w) : zS mc ms d M P pc ls (.long y :: .long x :: st) w :=
  fun p l e R s m args below meth c Q D cA h0 ad0 n0 C ad H locs cells slots la hA hS hg hc hs hl => W.lcmp C.1 C.2.1 (C.dec hf)  (k p l e R s m args below meth c Q D cA h0 ad0 n0 C ad H locs cells slots la hA hS hg hc hs hl)
theorem z_dup {a : Value} (hf : zM.f M pc = some (.dup, 1)) (h1 : a.category = 1) (k : zS mc ms d M P (pc + 1) ls (a :: a :: st) w) : zS mc ms d M P pc ls (a :: st) w :=
  fun p l e R s m args below meth c Q D cA h0 ad0 n0 C ad H locs cells slots la hA hS hg hc hs hl => lv_dup C.1 C.2.1 (C.dec hf) ((cv_cat ad a).trans h1) (k p l e R s m args below meth c Q D cA h0 ad0 n0 C ad H locs cells slots la hA hS hg hc hs hl)
theorem z_pop {a : Value} (hf : zM.f M pc = some (.pop, 1)) (h1 : a.category = 1) (k : zS mc ms d M P (pc + 1) ls st w) : zS mc ms d M P pc ls (a :: st) w :=
  fun p l e R s m args below meth c Q D cA h0 ad0 n0 C ad H locs cells slots la hA hS hg hc hs hl => lv_pop C.1 C.2.1 (C.dec hf) ((cv_cat ad a).trans h1) (k p l e R s m args below meth c Q D cA h0 ad0 n0 C ad H locs cells slots la hA hS hg hc hs hl)
theorem z_dup2 {a b : Value} (hf : zM.f M pc = some (.dup2, 1)) (h1 : a.category = 1) (h2 : b.category = 1) (k : zS mc ms d M P (pc + 1) ls (a :: b :: a :: b :: st) w) : zS mc ms d M P pc ls (a :: b :: st) w :=
  fun p l e R s m args below meth c Q D cA h0 ad0 n0 C ad H locs cells slots la hA hS hg hc hs hl => lv_dup2_11 C.1 C.2.1 (C.dec hf) ((cv_cat ad a).trans h1) ((cv_cat ad b).trans h2) (k p l e R s m args below meth c Q D cA h0 ad0 n0 C ad H locs cells slots la hA hS hg hc hs hl)
theorem z_dup2L {a : Value} (hf : zM.f M pc = some (.dup2, 1)) (h1 : a.category = 2) (k : zS mc ms d M P (pc + 1) ls (a :: a :: st) w) : zS mc ms d M P pc ls (a :: st) w :=
  fun p l e R s m args below meth c Q D cA h0 ad0 n0 C ad H locs cells slots la hA hS hg hc hs hl => lv_dup2_2 C.1 C.2.1 (C.dec hf) ((cv_cat ad a).trans h1) (k p l e R s m args below meth c Q D cA h0 ad0 n0 C ad H locs cells slots la hA hS hg hc hs hl)
theorem cvl_at (ad : Nat → Nat) {ls : List (Nat × Value)} {j i : Nat} {v : Value} (h : ls[j]? = some (i, v)) : (cvl ad ls)[j]? = some (i, cv ad v) := by
  rw [List.getElem?_map, h]; rfl
theorem z_iload_n {q : Fin 4} {i j : Nat} {x : Int32} (hf : zM.f M pc = some (.iload_n q, 1)) (hi : (q : Nat) = i) (hj : ls[j]? = some (i, .int x)) (k : zS mc ms d M P (pc + 1) ls (.int x :: st) w) : zS mc ms d M P pc ls st w :=
  fun p l e R s m args below meth c Q D cA h0 ad0 n0 C ad H locs cells slots la hA hS hg hc hs hl => lv_iload_n C.1 C.2.1 (C.dec hf) hi (lv_at hl j (cvl_at ad hj)) (k p l e R s m args below meth c Q D cA h0 ad0 n0 C ad H locs cells slots la hA hS hg hc hs hl)
theorem z_iload {i j : Nat} {x : Int32} (hf : zM.f M pc = some (.iload i, 2)) (hj : ls[j]? = some (i, .int x)) (k : zS mc ms d M P (pc + 2) ls (.int x :: st) w) : zS mc ms d M P pc ls st w :=
  fun p l e R s m args below meth c Q D cA h0 ad0 n0 C ad H locs cells slots la hA hS hg hc hs hl => lv_iload C.1 C.2.1 (C.dec hf) (lv_at hl j (cvl_at ad hj)) (k p l e R s m args below meth c Q D cA h0 ad0 n0 C ad H locs cells slots la hA hS hg hc hs hl)
theorem z_lload_n {q : Fin 4} {i j : Nat} {x : Int64} (hf : zM.f M pc = some (.lload_n q, 1)) (hi : (q : Nat) = i) (hj : ls[j]? = some (i, .long x)) (k : zS mc ms d M P (pc + 1) ls (.long x :: st) w) : zS mc ms d M P pc ls st w :=
  fun p l e R s m args below meth c Q D cA h0 ad0 n0 C ad H locs cells slots la hA hS hg hc hs hl => lv_lload_n C.1 C.2.1 (C.dec hf) hi (lv_at hl j (cvl_at ad hj)) (k p l e R s m args below meth c Q D cA h0 ad0 n0 C ad H locs cells slots la hA hS hg hc hs hl)
theorem z_lload {i j : Nat} {x : Int64} (hf : zM.f M pc = some (.lload i, 2)) (hj : ls[j]? = some (i, .long x)) (k : zS mc ms d M P (pc + 2) ls (.long x :: st) w) : zS mc ms d M P pc ls st w :=
  fun p l e R s m args below meth c Q D cA h0 ad0 n0 C ad H locs cells slots la hA hS hg hc hs hl => lv_lload C.1 C.2.1 (C.dec hf) (lv_at hl j (cvl_at ad hj)) (k p l e R s m args below meth c Q D cA h0 ad0 n0 C ad H locs cells slots la hA hS hg hc hs hl)
theorem z_aload_n {q : Fin 4} {i j : Nat} {x : Nat} (hf : zM.f M pc = some (.aload_n q, 1)) (hi : (q : Nat) = i) (hj : ls[j]? = some (i, .ref x)) (k : zS mc ms d M P (pc + 1) ls (.ref x :: st) w) : zS mc ms d M P pc ls st w :=
  fun p l e R s m args below meth c Q D cA h0 ad0 n0 C ad H locs cells slots la hA hS hg hc hs hl => lv_aload_n C.1 C.2.1 (C.dec hf) hi (lv_at hl j (cvl_at ad hj)) (k p l e R s m args below meth c Q D cA h0 ad0 n0 C ad H locs cells slots la hA hS hg hc hs hl)
theorem z_aload {i j : Nat} {x : Nat} (hf : zM.f M pc = some (.aload i, 2)) (hj : ls[j]? = some (i, .ref x)) (k : zS mc ms d M P (pc + 2) ls (.ref x :: st) w) : zS mc ms d M P pc ls st w :=
  fun p l e R s m args below meth c Q D cA h0 ad0 n0 C ad H locs cells slots la hA hS hg hc hs hl => lv_aload C.1 C.2.1 (C.dec hf) (lv_at hl j (cvl_at ad hj)) (k p l e R s m args below meth c Q D cA h0 ad0 n0 C ad H locs cells slots la hA hS hg hc hs hl)
theorem z_aload_nN {q : Fin 4} {i j : Nat} (hf : zM.f M pc = some (.aload_n q, 1)) (hi : (q : Nat) = i) (hj : ls[j]? = some (i, .null)) (k : zS mc ms d M P (pc + 1) ls (.null :: st) w) : zS mc ms d M P pc ls st w :=
  fun p l e R s m args below meth c Q D cA h0 ad0 n0 C ad H locs cells slots la hA hS hg hc hs hl => lv_aload_nN C.1 C.2.1 (C.dec hf) hi (lv_at hl j (cvl_at ad hj)) (k p l e R s m args below meth c Q D cA h0 ad0 n0 C ad H locs cells slots la hA hS hg hc hs hl)
theorem z_aloadN {i j : Nat} (hf : zM.f M pc = some (.aload i, 2)) (hj : ls[j]? = some (i, .null)) (k : zS mc ms d M P (pc + 2) ls (.null :: st) w) : zS mc ms d M P pc ls st w :=
  fun p l e R s m args below meth c Q D cA h0 ad0 n0 C ad H locs cells slots la hA hS hg hc hs hl => lv_aloadN C.1 C.2.1 (C.dec hf) (lv_at hl j (cvl_at ad hj)) (k p l e R s m args below meth c Q D cA h0 ad0 n0 C ad H locs cells slots la hA hS hg hc hs hl)
def zins (q : Nat × Value) : List (Nat × Value) → List (Nat × Value)
  | [] => [q]
  | a :: l => if a.1 < q.1 then a :: zins q l else q :: a :: l
def zst1 (i : Nat) (v : Value) (ls : List (Nat × Value)) : List (Nat × Value) := zins (i, v) (ls.filter (fun q => !(q.1 == i) && !(q.1 + 1 == i && q.2.category == 2)))
def zst2 (i : Nat) (v : Value) (ls : List (Nat × Value)) : List (Nat × Value) := zins (i, v) (ls.filter (fun q => !(q.1 == i) && (!(q.1 == i + 1) && !(q.1 + 1 == i && q.2.category == 2))))
theorem zins_mem {q x : Nat × Value} : ∀ {l : List (Nat × Value)}, x ∈ zins q l → x = q ∨ x ∈ l
  | [], h => Or.inl (List.mem_singleton.mp h)
  | a :: l, h => by
    unfold zins at h
    split at h
    · rcases List.mem_cons.mp h with h | h
      · exact Or.inr (h ▸ List.mem_cons_self)
      · rcases zins_mem h with h | h
        · exact Or.inl h
        · exact Or.inr (List.mem_cons_of_mem _ h)
    · exact List.mem_cons.mp h
theorem zst1_has {la : Array Slot} {n i : Nat} {v : Value} {ad : Nat → Nat} {ls ls' : List (Nat × Value)} (e : zst1 i v ls = ls') (h : lv_has la n ((i, cv ad v) :: (cvl ad ls).filter (fun q => !(q.1 == i) && !(q.1 + 1 == i && q.2.category == 2)))) : lv_has la n (cvl ad ls') := by
  subst e
  refine ⟨h.1, h.2.1, fun q hq => h.2.2 q ?_⟩
  obtain ⟨x, hx, rfl⟩ := List.mem_map.mp hq
  rcases zins_mem hx with rfl | hx
  · exact List.mem_cons_self
  · obtain ⟨h1, h2⟩ := List.mem_filter.mp hx
    exact List.mem_cons_of_mem _ (List.mem_filter.mpr ⟨List.mem_map.mpr ⟨x, h1, rfl⟩, by rw [cv_cat]; exact h2⟩)
theorem zst2_has {la : Array Slot} {n i : Nat} {v : Value} {ad : Nat → Nat} {ls ls' : List (Nat × Value)} (e : zst2 i v ls = ls') (h : lv_has la n ((i, cv ad v) :: (cvl ad ls).filter (fun q => !(q.1 == i) && (!(q.1 == i + 1) && !(q.1 + 1 == i && q.2.category == 2))))) : lv_has la n (cvl ad ls') := by
  subst e
  refine ⟨h.1, h.2.1, fun q hq => h.2.2 q ?_⟩
  obtain ⟨x, hx, rfl⟩ := List.mem_map.mp hq
  rcases zins_mem hx with rfl | hx
  · exact List.mem_cons_self
  · obtain ⟨h1, h2⟩ := List.mem_filter.mp hx
    exact List.mem_cons_of_mem _ (List.mem_filter.mpr ⟨List.mem_map.mpr ⟨x, h1, rfl⟩, by rw [cv_cat]; exact h2⟩)
theorem z_istore_n {q : Fin 4} {i : Nat} {x : Int32} {ls' : List (Nat × Value)} (hf : zM.f M pc = some (.istore_n q, 1)) (hi : (q : Nat) = i) (hn : i < zM.mx M) (he : zst1 i (.int x) ls = ls') (k : zS mc ms d M P (pc + 1) ls' st w) : zS mc ms d M P pc ls (.int x :: st) w :=
  fun p l e R s m args below meth c Q D cA h0 ad0 n0 C ad H locs cells slots la hA hS hg hc hs hl => lv_istore_n C.1 C.2.1 (C.dec hf) hi hl hn rfl (fun la' hl' => k p l e R s m args below meth c Q D cA h0 ad0 n0 C ad H locs cells slots la' hA hS hg hc hs (zst1_has (v := .int x) he hl'))
theorem z_istore {i : Nat} {x : Int32} {ls' : List (Nat × Value)} (hf : zM.f M pc = some (.istore i, 2)) (hn : i < zM.mx M) (he : zst1 i (.int x) ls = ls') (k : zS mc ms d M P (pc + 2) ls' st w) : zS mc ms d M P pc ls (.int x :: st) w :=
  fun p l e R s m args below meth c Q D cA h0 ad0 n0 C ad H locs cells slots la hA hS hg hc hs hl => lv_istore C.1 C.2.1 (C.dec hf) hl hn rfl (fun la' hl' => k p l e R s m args below meth c Q D cA h0 ad0 n0 C ad H locs cells slots la' hA hS hg hc hs (zst1_has (v := .int x) he hl'))
theorem z_lstore_n {q : Fin 4} {i : Nat} {x : Int64} {ls' : List (Nat × Value)} (hf : zM.f M pc = some (.lstore_n q, 1)) (hi : (q : Nat) = i) (hn : i + 1 < zM.mx M) (he : zst2 i (.long x) ls = ls') (k : zS mc ms d M P (pc + 1) ls' st w) : zS mc ms d M P pc ls (.long x :: st) w :=
  fun p l e R s m args below meth c Q D cA h0 ad0 n0 C ad H locs cells slots la hA hS hg hc hs hl => lv_lstore_n C.1 C.2.1 (C.dec hf) hi hl hn rfl (fun la' hl' => k p l e R s m args below meth c Q D cA h0 ad0 n0 C ad H locs cells slots la' hA hS hg hc hs (zst2_has (v := .long x) he hl'))
theorem z_lstore {i : Nat} {x : Int64} {ls' : List (Nat × Value)} (hf : zM.f M pc = some (.lstore i, 2)) (hn : i + 1 < zM.mx M) (he : zst2 i (.long x) ls = ls') (k : zS mc ms d M P (pc + 2) ls' st w) : zS mc ms d M P pc ls (.long x :: st) w :=
  fun p l e R s m args below meth c Q D cA h0 ad0 n0 C ad H locs cells slots la hA hS hg hc hs hl => lv_lstore C.1 C.2.1 (C.dec hf) hl hn rfl (fun la' hl' => k p l e R s m args below meth c Q D cA h0 ad0 n0 C ad H locs cells slots la' hA hS hg hc hs (zst2_has (v := .long x) he hl'))
theorem z_astore_n {q : Fin 4} {i : Nat} {x : Nat} {ls' : List (Nat × Value)} (hf : zM.f M pc = some (.astore_n q, 1)) (hi : (q : Nat) = i) (hn : i < zM.mx M) (he : zst1 i (.ref x) ls = ls') (k : zS mc ms d M P (pc + 1) ls' st w) : zS mc ms d M P pc ls (.ref x :: st) w :=
  fun p l e R s m args below meth c Q D cA h0 ad0 n0 C ad H locs cells slots la hA hS hg hc hs hl => lv_astore_n C.1 C.2.1 (C.dec hf) hi hl hn rfl (fun la' hl' => k p l e R s m args below meth c Q D cA h0 ad0 n0 C ad H locs cells slots la' hA hS hg hc hs (zst1_has (v := .ref x) he hl'))
theorem z_astore {i : Nat} {x : Nat} {ls' : List (Nat × Value)} (hf : zM.f M pc = some (.astore i, 2)) (hn : i < zM.mx M) (he : zst1 i (.ref x) ls = ls') (k : zS mc ms d M P (pc + 2) ls' st w) : zS mc ms d M P pc ls (.ref x :: st) w :=
  fun p l e R s m args below meth c Q D cA h0 ad0 n0 C ad H locs cells slots la hA hS hg hc hs hl => lv_astore C.1 C.2.1 (C.dec hf) hl hn rfl (fun la' hl' => k p l e R s m args below meth c Q D cA h0 ad0 n0 C ad H locs cells slots la' hA hS hg hc hs (zst1_has (v := .ref x) he hl'))
theorem z_astore_nN {q : Fin 4} {i : Nat} {ls' : List (Nat × Value)} (hf : zM.f M pc = some (.astore_n q, 1)) (hi : (q : Nat) = i) (hn : i < zM.mx M) (he : zst1 i (.null) ls = ls') (k : zS mc ms d M P (pc + 1) ls' st w) : zS mc ms d M P pc ls (.null :: st) w :=
  fun p l e R s m args below meth c Q D cA h0 ad0 n0 C ad H locs cells slots la hA hS hg hc hs hl => lv_astore_nN C.1 C.2.1 (C.dec hf) hi hl hn rfl (fun la' hl' => k p l e R s m args below meth c Q D cA h0 ad0 n0 C ad H locs cells slots la' hA hS hg hc hs (zst1_has (v := .null) he hl'))
theorem z_astoreN {i : Nat} {ls' : List (Nat × Value)} (hf : zM.f M pc = some (.astore i, 2)) (hn : i < zM.mx M) (he : zst1 i (.null) ls = ls') (k : zS mc ms d M P (pc + 2) ls' st w) : zS mc ms d M P pc ls (.null :: st) w :=
  fun p l e R s m args below meth c Q D cA h0 ad0 n0 C ad H locs cells slots la hA hS hg hc hs hl => lv_astoreN C.1 C.2.1 (C.dec hf) hl hn rfl (fun la' hl' => k p l e R s m args below meth c Q D cA h0 ad0 n0 C ad H locs cells slots la' hA hS hg hc hs (zst1_has (v := .null) he hl'))
theorem z_iinc {i j : Nat} {n : Int} {x v : Int32} {ls' : List (Nat × Value)} (hf : zM.f M pc = some (.iinc i n, 3)) (hj : ls[j]? = some (i, .int x)) (hv : x + Int32.ofInt n = v) (hn : i < zM.mx M) (he : zst1 i (.int v) ls = ls') (k : zS mc ms d M P (pc + 3) ls' st w) : zS mc ms d M P pc ls st w :=
  fun p l e R s m args below meth c Q D cA h0 ad0 n0 C ad H locs cells slots la hA hS hg hc hs hl => lv_iinc C.1 C.2.1 (C.dec hf) hl (cvl_at ad hj) hv hn rfl (fun la' hl' => k p l e R s m args below meth c Q D cA h0 ad0 n0 C ad H locs cells slots la' hA hS hg hc hs (zst1_has (v := .int v) he hl'))
theorem z_drop {ls' : List (Nat × Value)} (he : ∀ q ∈ ls', q ∈ ls) (k : zS mc ms d M P pc ls' st w) : zS mc ms d M P pc ls st w :=
  fun p l e R s m args below meth c Q D cA h0 ad0 n0 C ad H locs cells slots la hA hS hg hc hs hl => k p l e R s m args below meth c Q D cA h0 ad0 n0 C ad H locs cells slots la hA hS hg hc hs ⟨hl.1, hl.2.1, fun q hq => by
    obtain ⟨x, hx, rfl⟩ := List.mem_map.mp hq
    exact hl.2.2 _ (List.mem_map.mpr ⟨x, he x hx, rfl⟩)⟩
theorem z_if_eq {x : Int32} {off : Int} {tgt : Nat} (hf : zM.f M pc = some (.ifCond .eq off, 3)) (ht : (pc : Int) + off = (tgt : Int)) (kt : x = 0 → zS mc ms d M P tgt ls st w) (kf : ¬ x = 0 → zS mc ms d M P (pc + 3) ls st w) : zS mc ms d M P pc ls (.int x :: st) w :=
  fun p l e R s m args below meth c Q D cA h0 ad0 n0 C ad H locs cells slots la hA hS hg hc hs hl => lv_if_eq C.1 C.2.1 (C.dec hf) ht (fun q => kt q p l e R s m args below meth c Q D cA h0 ad0 n0 C ad H locs cells slots la hA hS hg hc hs hl) (fun q => kf q p l e R s m args below meth c Q D cA h0 ad0 n0 C ad H locs cells slots la hA hS hg hc hs hl)
theorem z_if_ne {x : Int32} {off : Int} {tgt : Nat} (hf : zM.f M pc = some (.ifCond .ne off, 3)) (ht : (pc : Int) + off = (tgt : Int)) (kt : ¬ x = 0 → zS mc ms d M P tgt ls st w) (kf : x = 0 → zS mc ms d M P (pc + 3) ls st w) : zS mc ms d M P pc ls (.int x :: st) w :=
  fun p l e R s m args below meth c Q D cA h0 ad0 n0 C ad H locs cells slots la hA hS hg hc hs hl => lv_if_ne C.1 C.2.1 (C.dec hf) ht (fun q => kt q p l e R s m args below meth c Q D cA h0 ad0 n0 C ad H locs cells slots la hA hS hg hc hs hl) (fun q => kf q p l e R s m args below meth c Q D cA h0 ad0 n0 C ad H locs cells slots la hA hS hg hc hs hl)
theorem z_if_lt {x : Int32} {off : Int} {tgt : Nat} (hf : zM.f M pc = some (.ifCond .lt off, 3)) (ht : (pc : Int) + off = (tgt : Int)) (kt : x < 0 → zS mc ms d M P tgt ls st w) (kf : ¬ x < 0 → zS mc ms d M P (pc + 3) ls st w) : zS mc ms d M P pc ls (.int x :: st) w :=
  fun p l e R s m args below meth c Q D cA h0 ad0 n0 C ad H locs cells slots la hA hS hg hc hs hl => lv_if_lt C.1 C.2.1 (C.dec hf) ht (fun q => kt q p l e R s m args below meth c Q D cA h0 ad0 n0 C ad H locs cells slots la hA hS hg hc hs hl) (fun q => kf q p l e R s m args below meth c Q D cA h0 ad0 n0 C ad H locs cells slots la hA hS hg hc hs hl)
theorem z_if_ge {x : Int32} {off : Int} {tgt : Nat} (hf : zM.f M pc = some (.ifCond .ge off, 3)) (ht : (pc : Int) + off = (tgt : Int)) (kt : 0 ≤ x → zS mc ms d M P tgt ls st w) (kf : ¬ 0 ≤ x → zS mc ms d M P (pc + 3) ls st w) : zS mc ms d M P pc ls (.int x :: st) w :=
  fun p l e R s m args below meth c Q D cA h0 ad0 n0 C ad H locs cells slots la hA hS hg hc hs hl => lv_if_ge C.1 C.2.1 (C.dec hf) ht (fun q => kt q p l e R s m args below meth c Q D cA h0 ad0 n0 C ad H locs cells slots la hA hS hg hc hs hl) (fun q => kf q p l e R s m args below meth c Q D cA h0 ad0 n0 C ad H locs cells slots la hA hS hg hc hs hl)
theorem z_if_gt {x : Int32} {off : Int} {tgt : Nat} (hf : zM.f M pc = some (.ifCond .gt off, 3)) (ht : (pc : Int) + off = (tgt : Int)) (kt : 0 < x → zS mc ms d M P tgt ls st w) (kf : ¬ 0 < x → zS mc ms d M P (pc + 3) ls st w) : zS mc ms d M P pc ls (.int x :: st) w :=
  fun p l e R s m args below meth c Q D cA h0 ad0 n0 C ad H locs cells slots la hA hS hg hc hs hl => lv_if_gt C.1 C.2.1 (C.dec hf) ht (fun q => kt q p l e R s m args below meth c Q D cA h0 ad0 n0 C ad H locs cells slots la hA hS hg hc hs hl) (fun q => kf q p l e R s m args below meth c Q D cA h0 ad0 n0 C ad H locs cells slots la hA hS hg hc hs hl)
theorem z_if_le {x : Int32} {off : Int} {tgt : Nat} (hf : zM.f M pc = some (.ifCond .le off, 3)) (ht : (pc : Int) + off = (tgt : Int)) (kt : x ≤ 0 → zS mc ms d M P tgt ls st w) (kf : ¬ x ≤ 0 → zS mc ms d M P (pc + 3) ls st w) : zS mc ms d M P pc ls (.int x :: st) w :=
  fun p l e R s m args below meth c Q D cA h0 ad0 n0 C ad H locs cells slots la hA hS hg hc hs hl => lv_if_le C.1 C.2.1 (C.dec hf) ht (fun q => kt q p l e R s m args below meth c Q D cA h0 ad0 n0 C ad H locs cells slots la hA hS hg hc hs hl) (fun q => kf q p l e R s m args below meth c Q D cA h0 ad0 n0 C ad H locs cells slots la hA hS hg hc hs hl)
theorem z_icmp_eq {x y : Int32} {off : Int} {tgt : Nat} (hf : zM.f M pc = some (.if_icmp .eq off, 3)) (ht : (pc : Int) + off = (tgt : Int)) (kt : x = y → zS mc ms d M P tgt ls st w) (kf : ¬ x = y → zS mc ms d M P (pc + 3) ls st w) : zS mc ms d M P pc ls (.int y :: .int x :: st) w :=
  fun p l e R s m args below meth c Q D cA h0 ad0 n0 C ad H locs cells slots la hA hS hg hc hs hl => lv_icmp_eq C.1 C.2.1 (C.dec hf) ht (fun q => kt q p l e R s m args below meth c Q D cA h0 ad0 n0 C ad H locs cells slots la hA hS hg hc hs hl) (fun q => kf q p l e R s m args below meth c Q D cA h0 ad0 n0 C ad H locs cells slots la hA hS hg hc hs hl)
theorem z_icmp_ne {x y : Int32} {off : Int} {tgt : Nat} (hf : zM.f M pc = some (.if_icmp .ne off, 3)) (ht : (pc : Int) + off = (tgt : Int)) (kt : ¬ x = y → zS mc ms d M P tgt ls st w) (kf : x = y → zS mc ms d M P (pc + 3) ls st w) : zS mc ms d M P pc ls (.int y :: .int x :: st) w :=
  fun p l e R s m args below meth c Q D cA h0 ad0 n0 C ad H locs cells slots la hA hS hg hc hs hl => lv_icmp_ne C.1 C.2.1 (C.dec hf) ht (fun q => kt q p l e R s m args below meth c Q D cA h0 ad0 n0 C ad H locs cells slots la hA hS hg hc hs hl) (fun q => kf q p l e R s m args below meth c Q D cA h0 ad0 n0 C ad H locs cells slots la hA hS hg hc hs hl)
theorem z_icmp_lt {x y : Int32} {off : Int} {tgt : Nat} (hf : zM.f M pc = some (.if_icmp .lt off, 3)) (ht : (pc : Int) + off = (tgt : Int)) (kt : x < y → zS mc ms d M P tgt ls st w) (kf : ¬ x < y → zS mc ms d M P (pc + 3) ls st w) : zS mc ms d M P pc ls (.int y :: .int x :: st) w :=
  fun p l e R s m args below meth c Q D cA h0 ad0 n0 C ad H locs cells slots la hA hS hg hc hs hl => lv_icmp_lt C.1 C.2.1 (C.dec hf) ht (fun q => kt q p l e R s m args below meth c Q D cA h0 ad0 n0 C ad H locs cells slots la hA hS hg hc hs hl) (fun q => kf q p l e R s m args below meth c Q D cA h0 ad0 n0 C ad H locs cells slots la hA hS hg hc hs hl)
theorem z_icmp_ge {x y : Int32} {off : Int} {tgt : Nat} (hf : zM.f M pc = some (.if_icmp .ge off, 3)) (ht : (pc : Int) + off = (tgt : Int)) (kt : y ≤ x → zS mc ms d M P tgt ls st w) (kf : ¬ y ≤ x → zS mc ms d M P (pc + 3) ls st w) : zS mc ms d M P pc ls (.int y :: .int x :: st) w :=
  fun p l e R s m args below meth c Q D cA h0 ad0 n0 C ad H locs cells slots la hA hS hg hc hs hl => lv_icmp_ge C.1 C.2.1 (C.dec hf) ht (fun q => kt q p l e R s m args below meth c Q D cA h0 ad0 n0 C ad H locs cells slots la hA hS hg hc hs hl) (fun q => kf q p l e R s m args below meth c Q D cA h0 ad0 n0 C ad H locs cells slots la hA hS hg hc hs hl)
theorem z_icmp_gt {x y : Int32} {off : Int} {tgt : Nat} (hf : zM.f M pc = some (.if_icmp .gt off, 3)) (ht : (pc : Int) + off = (tgt : Int)) (kt : y < x → zS mc ms d M P tgt ls st w) (kf : ¬ y < x → zS mc ms d M P (pc + 3) ls st w) : zS mc ms d M P pc ls (.int y :: .int x :: st) w :=
  fun p l e R s m args below meth c Q D cA h0 ad0 n0 C ad H locs cells slots la hA hS hg hc hs hl => lv_icmp_gt C.1 C.2.1 (C.dec hf) ht (fun q => kt q p l e R s m args below meth c Q D cA h0 ad0 n0 C ad H locs cells slots la hA hS hg hc hs hl) (fun q => kf q p l e R s m args below meth c Q D cA h0 ad0 n0 C ad H locs cells slots la hA hS hg hc hs hl)
theorem z_icmp_le {x y : Int32} {off : Int} {tgt : Nat} (hf : zM.f M pc = some (.if_icmp .le off, 3)) (ht : (pc : Int) + off = (tgt : Int)) (kt : x ≤ y → zS mc ms d M P tgt ls st w) (kf : ¬ x ≤ y → zS mc ms d M P (pc + 3) ls st w) : zS mc ms d M P pc ls (.int y :: .int x :: st) w :=
  fun p l e R s m args below meth c Q D cA h0 ad0 n0 C ad H locs cells slots la hA hS hg hc hs hl => lv_icmp_le C.1 C.2.1 (C.dec hf) ht (fun q => kt q p l e R s m args below meth c Q D cA h0 ad0 n0 C ad H locs cells slots la hA hS hg hc hs hl) (fun q => kf q p l e R s m args below meth c Q D cA h0 ad0 n0 C ad H locs cells slots la hA hS hg hc hs hl)
theorem z_goto {off : Int} {tgt : Nat} (hf : zM.f M pc = some (.goto off, 3)) (ht : (pc : Int) + off = (tgt : Int)) (k : zS mc ms d M P tgt ls st w) : zS mc ms d M P pc ls st w :=
  fun p l e R s m args below meth c Q D cA h0 ad0 n0 C ad H locs cells slots la hA hS hg hc hs hl => lv_goto C.1 C.2.1 (C.dec hf) ht (k p l e R s m args below meth c Q D cA h0 ad0 n0 C ad H locs cells slots la hA hS hg hc hs hl)
theorem z_nonnull {x : Nat} {off : Int} {tgt : Nat} (hf : zM.f M pc = some (.ifnonnull off, 3)) (ht : (pc : Int) + off = (tgt : Int)) (k : zS mc ms d M P tgt ls st w) : zS mc ms d M P pc ls (.ref x :: st) w :=
  fun p l e R s m args below meth c Q D cA h0 ad0 n0 C ad H locs cells slots la hA hS hg hc hs hl => lv_ifnonnull C.1 C.2.1 (C.dec hf) ht (k p l e R s m args below meth c Q D cA h0 ad0 n0 C ad H locs cells slots la hA hS hg hc hs hl)
theorem z_nonnullN {off : Int} (hf : zM.f M pc = some (.ifnonnull off, 3)) (k : zS mc ms d M P (pc + 3) ls st w) : zS mc ms d M P pc ls (.null :: st) w :=
  fun p l e R s m args below meth c Q D cA h0 ad0 n0 C ad H locs cells slots la hA hS hg hc hs hl => lv_ifnonnullN C.1 C.2.1 (C.dec hf) (k p l e R s m args below meth c Q D cA h0 ad0 n0 C ad H locs cells slots la hA hS hg hc hs hl)
theorem z_ifnull {x : Nat} {off : Int} (hf : zM.f M pc = some (.ifnull off, 3)) (k : zS mc ms d M P (pc + 3) ls st w) : zS mc ms d M P pc ls (.ref x :: st) w :=
  fun p l e R s m args below meth c Q D cA h0 ad0 n0 C ad H locs cells slots la hA hS hg hc hs hl => lv_ifnull C.1 C.2.1 (C.dec hf) (k p l e R s m args below meth c Q D cA h0 ad0 n0 C ad H locs cells slots la hA hS hg hc hs hl)
theorem z_ifnullN {off : Int} {tgt : Nat} (hf : zM.f M pc = some (.ifnull off, 3)) (ht : (pc : Int) + off = (tgt : Int)) (k : zS mc ms d M P tgt ls st w) : zS mc ms d M P pc ls (.null :: st) w :=
  fun p l e R s m args below meth c Q D cA h0 ad0 n0 C ad H locs cells slots la hA hS hg hc hs hl => lv_ifnullN C.1 C.2.1 (C.dec hf) ht (k p l e R s m args below meth c Q D cA h0 ad0 n0 C ad H locs cells slots la hA hS hg hc hs hl)
theorem z_tabOut {dflt lo hi : Int} {offs : Array Int} {len : Nat} {x : Int32} {tgt : Nat} (hf : zM.f M pc = some (.tableswitch dflt lo hi offs, len)) (h : x.toInt < lo ∨ hi < x.toInt) (ht : (pc : Int) + dflt = (tgt : Int)) (k : zS mc ms d M P tgt ls st w) : zS mc ms d M P pc ls (.int x :: st) w :=
  fun p l e R s m args below meth c Q D cA h0 ad0 n0 C ad H locs cells slots la hA hS hg hc hs hl => lv_tableOut C.1 C.2.1 (C.dec hf) h ht (k p l e R s m args below meth c Q D cA h0 ad0 n0 C ad H locs cells slots la hA hS hg hc hs hl)
theorem z_tabIn {dflt lo hi : Int} {offs : Array Int} {len : Nat} {x : Int32} {off : Int} {tgt : Nat} (hf : zM.f M pc = some (.tableswitch dflt lo hi offs, len)) (h1 : ¬ x.toInt < lo) (h2 : ¬ hi < x.toInt) (ho : offs[(x.toInt - lo).toNat]? = some off) (ht : (pc : Int) + off = (tgt : Int)) (k : zS mc ms d M P tgt ls st w) : zS mc ms d M P pc ls (.int x :: st) w :=
  fun p l e R s m args below meth c Q D cA h0 ad0 n0 C ad H locs cells slots la hA hS hg hc hs hl => lv_tableIn C.1 C.2.1 (C.dec hf) h1 h2 ho ht (k p l e R s m args below meth c Q D cA h0 ad0 n0 C ad H locs cells slots la hA hS hg hc hs hl)
theorem z_vret  (hf : zM.f M pc = some (.return_, 1)) (hr : zM.rt M = none) (hP : P none w) : zS mc ms d M P pc ls [] w :=
  fun p l e R s m args below meth c Q D cA h0 ad0 n0 C ad H locs cells slots la hA hS hg hc hs hl => C.2.2.2.2.2.2.2.2.2.2.2.2 _ _ hP ad H locs cells slots pc la hA hS hg.1 (Nat.le_trans (Nat.le_add_right _ _) hc) (Nat.le_trans (Nat.le_add_right _ _) hs) (Or.inl ⟨rfl, hr, hf⟩)
theorem z_iret {v : Int32} (hf : zM.f M pc = some (.ireturn, 1)) (hr : zM.rt M = some .int) (hP : P (some (.int v)) w) : zS mc ms d M P pc ls [.int v] w :=
  fun p l e R s m args below meth c Q D cA h0 ad0 n0 C ad H locs cells slots la hA hS hg hc hs hl => C.2.2.2.2.2.2.2.2.2.2.2.2 _ _ hP ad H locs cells slots pc la hA hS hg.1 (Nat.le_trans (Nat.le_add_right _ _) hc) (Nat.le_trans (Nat.le_add_right _ _) hs) (Or.inr (Or.inl ⟨v, _, rfl, hr, rfl, hf⟩))
theorem z_zret {v : Int32} (hf : zM.f M pc = some (.ireturn, 1)) (hr : zM.rt M = some .boolean) (hv : v = 0 ∨ v = 1) (hP : P (some (.int v)) w) : zS mc ms d M P pc ls [.int v] w :=
  fun p l e R s m args below meth c Q D cA h0 ad0 n0 C ad H locs cells slots la hA hS hg hc hs hl => C.2.2.2.2.2.2.2.2.2.2.2.2 _ _ hP ad H locs cells slots pc la hA hS hg.1 (Nat.le_trans (Nat.le_add_right _ _) hc) (Nat.le_trans (Nat.le_add_right _ _) hs) (Or.inr (Or.inl ⟨v, _, rfl, hr, by rcases hv with rfl | rfl <;> rfl, hf⟩))
theorem z_lret {v : Int64} (hf : zM.f M pc = some (.lreturn, 1)) (hr : zM.rt M = some .long) (hP : P (some (.long v)) w) : zS mc ms d M P pc ls [.long v] w :=
  fun p l e R s m args below meth c Q D cA h0 ad0 n0 C ad H locs cells slots la hA hS hg hc hs hl => C.2.2.2.2.2.2.2.2.2.2.2.2 _ _ hP ad H locs cells slots pc la hA hS hg.1 (Nat.le_trans (Nat.le_add_right _ _) hc) (Nat.le_trans (Nat.le_add_right _ _) hs) (Or.inr (Or.inr (Or.inl ⟨v, rfl, hr, hf⟩)))
theorem z_aret {v : Nat} {C0 : String} (hf : zM.f M pc = some (.areturn, 1)) (hr : zM.rt M = some (.object C0)) (hP : P (some (.ref v)) w) : zS mc ms d M P pc ls [.ref v] w :=
  fun p l e R s m args below meth c Q D cA h0 ad0 n0 C ad H locs cells slots la hA hS hg hc hs hl => C.2.2.2.2.2.2.2.2.2.2.2.2 _ _ hP ad H locs cells slots pc la hA hS hg.1 (Nat.le_trans (Nat.le_add_right _ _) hc) (Nat.le_trans (Nat.le_add_right _ _) hs) (Or.inr (Or.inr (Or.inr ⟨v, C0, Or.inr rfl, hr, hf⟩)))
theorem z_aretN {C0 : String} (hf : zM.f M pc = some (.areturn, 1)) (hr : zM.rt M = some (.object C0)) (hP : P (some .null) w) : zS mc ms d M P pc ls [.null] w :=
  fun p l e R s m args below meth c Q D cA h0 ad0 n0 C ad H locs cells slots la hA hS hg hc hs hl => C.2.2.2.2.2.2.2.2.2.2.2.2 _ _ hP ad H locs cells slots pc la hA hS hg.1 (Nat.le_trans (Nat.le_add_right _ _) hc) (Nat.le_trans (Nat.le_add_right _ _) hs) (Or.inr (Or.inr (Or.inr ⟨0, C0, Or.inl rfl, hr, hf⟩)))
theorem z_mono {P2 : Option Value → zW → Prop} (h : ∀ r w, P2 r w → P r w) (k : zS mc ms d M P2 pc ls st w) : zS mc ms d M P pc ls st w :=
  fun p l e R s m args below meth c Q D cA h0 ad0 n0 C => k p l e R s m args below meth c Q D cA h0 ad0 n0 ⟨C.1, C.2.1, C.2.2.1, C.2.2.2.1, C.2.2.2.2.1, C.2.2.2.2.2.1, C.2.2.2.2.2.2.1, C.2.2.2.2.2.2.2.1, C.2.2.2.2.2.2.2.2.1, C.2.2.2.2.2.2.2.2.2.1, C.2.2.2.2.2.2.2.2.2.2.1, C.2.2.2.2.2.2.2.2.2.2.2.1, fun r w' hp => C.2.2.2.2.2.2.2.2.2.2.2.2 r w' (h r w' hp)⟩
theorem z_topi {x : Int32} (k : ∀ y : Int32, y = x → zS mc ms d M P pc ls (.int y :: st) w) : zS mc ms d M P pc ls (.int x :: st) w := k x rfl
theorem z_topl {x : Int64} (k : ∀ y : Int64, y = x → zS mc ms d M P pc ls (.long y :: st) w) : zS mc ms d M P pc ls (.long x :: st) w := k x rfl
theorem z_eqi {x y : Int32} (e : x = y) (k : zS mc ms d M P pc ls (.int y :: st) w) : zS mc ms d M P pc ls (.int x :: st) w := e ▸ k
theorem z_eql {x y : Int64} (e : x = y) (k : zS mc ms d M P pc ls (.long y :: st) w) : zS mc ms d M P pc ls (.long x :: st) w := e ▸ k
theorem z_eqw {w2 : zW} (e : w = w2) (k : zS mc ms d M P pc ls st w2) : zS mc ms d M P pc ls st w := e ▸ k
theorem z_eqs {ls2 : List (Nat × Value)} {st2 : List Value} (e1 : ls = ls2) (e2 : st = st2) (k : zS mc ms d M P pc ls2 st2 w) : zS mc ms d M P pc ls st w := e1 ▸ e2 ▸ k
end Z5
end
section
theorem znar2 {t : FieldType} (h : zft t = 2) (a : Nat) : narrow t (.ref a) = .ref a := by cases t <;> first | rfl | (simp [zft] at h)
theorem znar2n {t : FieldType} (h : zft t = 2) : narrow t .null = .null := by cases t <;> first | rfl | (simp [zft] at h)
theorem zfit2 {t : FieldType} (h : zft t = 2) (a : Nat) : fits t (.ref a) = true := by cases t <;> first | rfl | (simp [zft] at h)
theorem zfit2n {t : FieldType} (h : zft t = 2) : fits t .null = true := by cases t <;> first | rfl | (simp [zft] at h)
section Z6
variable {mc ms d : Nat} {M : zM} {P : Option Value → zW → Prop} {pc : Nat} {ls : List (Nat × Value)} {st : List Value} {w : zW}
theorem z_getI {idx c0 j n o : Nat} {fin : Bool} (hf : zM.f M pc = some (.getfield idx, 3)) (hl0 : zFl (zM.y M).cls idx c0 j fin) (ho : w.1[o]? = some (c0, n)) (ht : zft (zty c0 j) = 0) (k : zS mc ms d M P (pc + 3) ls (.int (zI w o j) :: st) w) : zS mc ms d M P pc ls (.ref o :: st) w := by
  intro p l e R s m args below meth c Q D cA h0 ad0 n0 C ad H locs cells slots la hA hS hg hc hs hl
  obtain ⟨q, hq, hk, -, hw⟩ := hl0
  have hc9 := zcl_lt hq
  have hn : n = q.2.2 := by
    obtain ⟨q', h1, h2⟩ := hA.2.2.2.2 o c0 n ho hc9
    cases hq.symm.trans h1
    exact h2
  have he := zws_at cA ad ho
  rw [zE_obj cA ad w o hc9] at he
  exact va_get (C := q.1) (T := q.2.1) (N := q.2.2) C.1 C.2.1 C.2.2.2.2.1 (zcls hq).1 C.2.2.2.1 C.2.2.2.2.2.1 hA.1 o he hq j hk (C.2.2.2.2.1 _ hw) (fun _ h => h) (by rw [zfs_at (by rw [hn]; exact hk), zfv, if_pos ht]; rfl) (C.dec hf) (k p l e R s m args below meth c Q D cA h0 ad0 n0 C ad H locs cells slots la hA hS hg hc hs hl)
theorem z_getL {idx c0 j n o : Nat} {fin : Bool} (hf : zM.f M pc = some (.getfield idx, 3)) (hl0 : zFl (zM.y M).cls idx c0 j fin) (ho : w.1[o]? = some (c0, n)) (ht : zft (zty c0 j) = 1) (k : zS mc ms d M P (pc + 3) ls (.long (zL w o j) :: st) w) : zS mc ms d M P pc ls (.ref o :: st) w := by
  intro p l e R s m args below meth c Q D cA h0 ad0 n0 C ad H locs cells slots la hA hS hg hc hs hl
  obtain ⟨q, hq, hk, -, hw⟩ := hl0
  have hc9 := zcl_lt hq
  have hn : n = q.2.2 := by
    obtain ⟨q', h1, h2⟩ := hA.2.2.2.2 o c0 n ho hc9
    cases hq.symm.trans h1
    exact h2
  have he := zws_at cA ad ho
  rw [zE_obj cA ad w o hc9] at he
  exact va_get (C := q.1) (T := q.2.1) (N := q.2.2) C.1 C.2.1 C.2.2.2.2.1 (zcls hq).1 C.2.2.2.1 C.2.2.2.2.2.1 hA.1 o he hq j hk (C.2.2.2.2.1 _ hw) (fun _ h => h) (by rw [zfs_at (by rw [hn]; exact hk), zfv, if_neg (by rw [ht]; decide), if_pos ht]; rfl) (C.dec hf) (k p l e R s m args below meth c Q D cA h0 ad0 n0 C ad H locs cells slots la hA hS hg hc hs hl)
theorem z_getR {idx c0 j n o : Nat} {x : Nat} {fin : Bool} (hf : zM.f M pc = some (.getfield idx, 3)) (hl0 : zFl (zM.y M).cls idx c0 j fin) (ho : w.1[o]? = some (c0, n)) (ht : zft (zty c0 j) = 2) (hv : zR w o j = some x) (k : zS mc ms d M P (pc + 3) ls (.ref x :: st) w) : zS mc ms d M P pc ls (.ref o :: st) w := by
  intro p l e R s m args below meth c Q D cA h0 ad0 n0 C ad H locs cells slots la hA hS hg hc hs hl
  obtain ⟨q, hq, hk, -, hw⟩ := hl0
  have hc9 := zcl_lt hq
  have hn : n = q.2.2 := by
    obtain ⟨q', h1, h2⟩ := hA.2.2.2.2 o c0 n ho hc9
    cases hq.symm.trans h1
    exact h2
  have he := zws_at cA ad ho
  rw [zE_obj cA ad w o hc9] at he
  exact va_get (C := q.1) (T := q.2.1) (N := q.2.2) C.1 C.2.1 C.2.2.2.2.1 (zcls hq).1 C.2.2.2.1 C.2.2.2.2.2.1 hA.1 o he hq j hk (C.2.2.2.2.1 _ hw) (fun _ h => h) (by rw [zfs_at (by rw [hn]; exact hk), zfv, if_neg (by rw [ht]; decide), if_neg (by rw [ht]; decide), hv]; rfl) (C.dec hf) (k p l e R s m args below meth c Q D cA h0 ad0 n0 C ad H locs cells slots la hA hS hg hc hs hl)
theorem z_getN {idx c0 j n o : Nat} {fin : Bool} (hf : zM.f M pc = some (.getfield idx, 3)) (hl0 : zFl (zM.y M).cls idx c0 j fin) (ho : w.1[o]? = some (c0, n)) (ht : zft (zty c0 j) = 2) (hv : zR w o j = none) (k : zS mc ms d M P (pc + 3) ls (.null :: st) w) : zS mc ms d M P pc ls (.ref o :: st) w := by
  intro p l e R s m args below meth c Q D cA h0 ad0 n0 C ad H locs cells slots la hA hS hg hc hs hl
  obtain ⟨q, hq, hk, -, hw⟩ := hl0
  have hc9 := zcl_lt hq
  have hn : n = q.2.2 := by
    obtain ⟨q', h1, h2⟩ := hA.2.2.2.2 o c0 n ho hc9
    cases hq.symm.trans h1
    exact h2
  have he := zws_at cA ad ho
  rw [zE_obj cA ad w o hc9] at he
  exact va_get (C := q.1) (T := q.2.1) (N := q.2.2) C.1 C.2.1 C.2.2.2.2.1 (zcls hq).1 C.2.2.2.1 C.2.2.2.2.2.1 hA.1 o he hq j hk (C.2.2.2.2.1 _ hw) (fun _ h => h) (by rw [zfs_at (by rw [hn]; exact hk), zfv, if_neg (by rw [ht]; decide), if_neg (by rw [ht]; decide), hv]; rfl) (C.dec hf) (k p l e R s m args below meth c Q D cA h0 ad0 n0 C ad H locs cells slots la hA hS hg hc hs hl)
theorem z_putI {idx c0 j n o : Nat} {x : Int32} (hf : zM.f M pc = some (.putfield idx, 3)) (hl0 : zFl (zM.y M).cls idx c0 j false) (ho : w.1[o]? = some (c0, n)) (ht : zty c0 j = .int) (k : zS mc ms d M P (pc + 3) ls st (zsI w o j x)) : zS mc ms d M P pc ls (.int x :: .ref o :: st) w := by
  intro p l e R s m args below meth c Q D cA h0 ad0 n0 C ad H locs cells slots la hA hS hg hc hs hl
  obtain ⟨q, hq, hk, hfi, hw⟩ := hl0
  have hc9 := zcl_lt hq
  have hn : n = q.2.2 := by
    obtain ⟨q', h1, h2⟩ := hA.2.2.2.2 o c0 n ho hc9
    cases hq.symm.trans h1
    exact h2
  have he := zws_at cA ad ho
  rw [zE_obj cA ad w o hc9] at he
  refine va_put (C := q.1) (T := q.2.1) (N := q.2.2) (v := cv ad (.int x)) C.1 C.2.1 C.2.2.2.2.1 (zcls hq).1 (zty c0) (zcls hq).2.1 (zcls hq).2.2 C.2.2.2.1 C.2.2.2.2.2.1 hA.1 hA.2.1 hS o he hq j hk (C.2.2.2.2.1 _ hw) (fun _ h => h) hfi  ((zcls hq).2.1 j hk) (by rw [ht]; rfl) (by rw [ht]; rfl) (by simp [hn, hk]) (C.dec hf) (fun H1 locs1 hP hD hS1 => ?_)
  have e1 : ((List.range n).map (zfv w ad o c0)).set j (cv ad (.int x)) = (List.range n).map (zfv (zsI w o j x) ad o c0) := zfs_set (by rw [zfv, if_pos (by rw [ht]; rfl)]; show Value.int (z2 (zI w) o j x o j) = _; rw [z2_row]; simp [cv]) (fun b hb => by simp only [zfv, zsI, zI, zL, zR]; rw [z2_row]; simp [hb])
  rw [e1] at hP hD
  exact k p l e R s m args below meth c Q D cA h0 ad0 n0 C ad H1 locs1 cells slots la (zAW_set hA rfl ho (zE_obj cA ad _ o hc9) (fun a q' ha => zE_I_off cA ad w j _ q' ha) hA.2.2.1 hP hD) hS1 hg hc hs hl
theorem z_putIF {idx c0 j n o : Nat} {x : Int32} (hf : zM.f M pc = some (.putfield idx, 3)) (hl0 : zFl (zM.y M).cls idx c0 j true) (ho : w.1[o]? = some (c0, n)) (ht : zty c0 j = .int) (hi : (zM.y M).name = "<init>") (hd : ∀ q, zcl[c0]? = some q → (q.2.1 j).1 = (zM.y M).cls) (k : zS mc ms d M P (pc + 3) ls st (zsI w o j x)) : zS mc ms d M P pc ls (.int x :: .ref o :: st) w := by
  intro p l e R s m args below meth c Q D cA h0 ad0 n0 C ad H locs cells slots la hA hS hg hc hs hl
  obtain ⟨q, hq, hk, hfi, hw⟩ := hl0
  have hc9 := zcl_lt hq
  have hn : n = q.2.2 := by
    obtain ⟨q', h1, h2⟩ := hA.2.2.2.2 o c0 n ho hc9
    cases hq.symm.trans h1
    exact h2
  have he := zws_at cA ad ho
  rw [zE_obj cA ad w o hc9] at he
  refine va_putF (C := q.1) (T := q.2.1) (N := q.2.2) (v := cv ad (.int x)) C.1 C.2.1 C.2.2.2.2.1 (zcls hq).1 (zty c0) (zcls hq).2.1 (zcls hq).2.2 C.2.2.2.1 C.2.2.2.2.2.1 hA.1 hA.2.1 hS o he hq j hk (C.2.2.2.2.1 _ hw) (fun _ h => h) hfi (C.2.2.2.2.2.2.2.2.1.trans hi) (hd q hq) ((zcls hq).2.1 j hk) (by rw [ht]; rfl) (by rw [ht]; rfl) (by simp [hn, hk]) (C.dec hf) (fun H1 locs1 hP hD hS1 => ?_)
  have e1 : ((List.range n).map (zfv w ad o c0)).set j (cv ad (.int x)) = (List.range n).map (zfv (zsI w o j x) ad o c0) := zfs_set (by rw [zfv, if_pos (by rw [ht]; rfl)]; show Value.int (z2 (zI w) o j x o j) = _; rw [z2_row]; simp [cv]) (fun b hb => by simp only [zfv, zsI, zI, zL, zR]; rw [z2_row]; simp [hb])
  rw [e1] at hP hD
  exact k p l e R s m args below meth c Q D cA h0 ad0 n0 C ad H1 locs1 cells slots la (zAW_set hA rfl ho (zE_obj cA ad _ o hc9) (fun a q' ha => zE_I_off cA ad w j _ q' ha) hA.2.2.1 hP hD) hS1 hg hc hs hl
theorem z_putZ {idx c0 j n o : Nat} {x : Int32} (hf : zM.f M pc = some (.putfield idx, 3)) (hl0 : zFl (zM.y M).cls idx c0 j false) (ho : w.1[o]? = some (c0, n)) (ht : zty c0 j = .boolean) (hx : x = 0 ∨ x = 1) (k : zS mc ms d M P (pc + 3) ls st (zsI w o j x)) : zS mc ms d M P pc ls (.int x :: .ref o :: st) w := by
  intro p l e R s m args below meth c Q D cA h0 ad0 n0 C ad H locs cells slots la hA hS hg hc hs hl
  obtain ⟨q, hq, hk, hfi, hw⟩ := hl0
  have hc9 := zcl_lt hq
  have hn : n = q.2.2 := by
    obtain ⟨q', h1, h2⟩ := hA.2.2.2.2 o c0 n ho hc9
    cases hq.symm.trans h1
    exact h2
  have he := zws_at cA ad ho
  rw [zE_obj cA ad w o hc9] at he
  refine va_put (C := q.1) (T := q.2.1) (N := q.2.2) (v := cv ad (.int x)) C.1 C.2.1 C.2.2.2.2.1 (zcls hq).1 (zty c0) (zcls hq).2.1 (zcls hq).2.2 C.2.2.2.1 C.2.2.2.2.2.1 hA.1 hA.2.1 hS o he hq j hk (C.2.2.2.2.1 _ hw) (fun _ h => h) hfi  ((zcls hq).2.1 j hk) (by rw [ht]; rcases hx with rfl | rfl <;> rfl) (by rw [ht]; rcases hx with rfl | rfl <;> rfl) (by simp [hn, hk]) (C.dec hf) (fun H1 locs1 hP hD hS1 => ?_)
  have e1 : ((List.range n).map (zfv w ad o c0)).set j (cv ad (.int x)) = (List.range n).map (zfv (zsI w o j x) ad o c0) := zfs_set (by rw [zfv, if_pos (by rw [ht]; rfl)]; show Value.int (z2 (zI w) o j x o j) = _; rw [z2_row]; simp [cv]) (fun b hb => by simp only [zfv, zsI, zI, zL, zR]; rw [z2_row]; simp [hb])
  rw [e1] at hP hD
  exact k p l e R s m args below meth c Q D cA h0 ad0 n0 C ad H1 locs1 cells slots la (zAW_set hA rfl ho (zE_obj cA ad _ o hc9) (fun a q' ha => zE_I_off cA ad w j _ q' ha) hA.2.2.1 hP hD) hS1 hg hc hs hl
theorem z_putZF {idx c0 j n o : Nat} {x : Int32} (hf : zM.f M pc = some (.putfield idx, 3)) (hl0 : zFl (zM.y M).cls idx c0 j true) (ho : w.1[o]? = some (c0, n)) (ht : zty c0 j = .boolean) (hx : x = 0 ∨ x = 1) (hi : (zM.y M).name = "<init>") (hd : ∀ q, zcl[c0]? = some q → (q.2.1 j).1 = (zM.y M).cls) (k : zS mc ms d M P (pc + 3) ls st (zsI w o j x)) : zS mc ms d M P pc ls (.int x :: .ref o :: st) w := by
  intro p l e R s m args below meth c Q D cA h0 ad0 n0 C ad H locs cells slots la hA hS hg hc hs hl
  obtain ⟨q, hq, hk, hfi, hw⟩ := hl0
  have hc9 := zcl_lt hq
  have hn : n = q.2.2 := by
    obtain ⟨q', h1, h2⟩ := hA.2.2.2.2 o c0 n ho hc9
    cases hq.symm.trans h1
    exact h2
  have he := zws_at cA ad ho
  rw [zE_obj cA ad w o hc9] at he
  refine va_putF (C := q.1) (T := q.2.1) (N := q.2.2) (v := cv ad (.int x)) C.1 C.2.1 C.2.2.2.2.1 (zcls hq).1 (zty c0) (zcls hq).2.1 (zcls hq).2.2 C.2.2.2.1 C.2.2.2.2.2.1 hA.1 hA.2.1 hS o he hq j hk (C.2.2.2.2.1 _ hw) (fun _ h => h) hfi (C.2.2.2.2.2.2.2.2.1.trans hi) (hd q hq) ((zcls hq).2.1 j hk) (by rw [ht]; rcases hx with rfl | rfl <;> rfl) (by rw [ht]; rcases hx with rfl | rfl <;> rfl) (by simp [hn, hk]) (C.dec hf) (fun H1 locs1 hP hD hS1 => ?_)
  have e1 : ((List.range n).map (zfv w ad o c0)).set j (cv ad (.int x)) = (List.range n).map (zfv (zsI w o j x) ad o c0) := zfs_set (by rw [zfv, if_pos (by rw [ht]; rfl)]; show Value.int (z2 (zI w) o j x o j) = _; rw [z2_row]; simp [cv]) (fun b hb => by simp only [zfv, zsI, zI, zL, zR]; rw [z2_row]; simp [hb])
  rw [e1] at hP hD
  exact k p l e R s m args below meth c Q D cA h0 ad0 n0 C ad H1 locs1 cells slots la (zAW_set hA rfl ho (zE_obj cA ad _ o hc9) (fun a q' ha => zE_I_off cA ad w j _ q' ha) hA.2.2.1 hP hD) hS1 hg hc hs hl
theorem z_putL {idx c0 j n o : Nat} {x : Int64} (hf : zM.f M pc = some (.putfield idx, 3)) (hl0 : zFl (zM.y M).cls idx c0 j false) (ho : w.1[o]? = some (c0, n)) (ht : zty c0 j = .long) (k : zS mc ms d M P (pc + 3) ls st (zsL w o j x)) : zS mc ms d M P pc ls (.long x :: .ref o :: st) w := by
  intro p l e R s m args below meth c Q D cA h0 ad0 n0 C ad H locs cells slots la hA hS hg hc hs hl
  obtain ⟨q, hq, hk, hfi, hw⟩ := hl0
  have hc9 := zcl_lt hq
  have hn : n = q.2.2 := by
    obtain ⟨q', h1, h2⟩ := hA.2.2.2.2 o c0 n ho hc9
    cases hq.symm.trans h1
    exact h2
  have he := zws_at cA ad ho
  rw [zE_obj cA ad w o hc9] at he
  refine va_put (C := q.1) (T := q.2.1) (N := q.2.2) (v := cv ad (.long x)) C.1 C.2.1 C.2.2.2.2.1 (zcls hq).1 (zty c0) (zcls hq).2.1 (zcls hq).2.2 C.2.2.2.1 C.2.2.2.2.2.1 hA.1 hA.2.1 hS o he hq j hk (C.2.2.2.2.1 _ hw) (fun _ h => h) hfi  ((zcls hq).2.1 j hk) (by rw [ht]; rfl) (by rw [ht]; rfl) (by simp [hn, hk]) (C.dec hf) (fun H1 locs1 hP hD hS1 => ?_)
  have e1 : ((List.range n).map (zfv w ad o c0)).set j (cv ad (.long x)) = (List.range n).map (zfv (zsL w o j x) ad o c0) := zfs_set (by rw [zfv, if_neg (by rw [ht]; decide), if_pos (by rw [ht]; rfl)]; show Value.long (z2 (zL w) o j x o j) = _; rw [z2_row]; simp [cv]) (fun b hb => by simp only [zfv, zsL, zI, zL, zR]; rw [z2_row]; simp [hb])
  rw [e1] at hP hD
  exact k p l e R s m args below meth c Q D cA h0 ad0 n0 C ad H1 locs1 cells slots la (zAW_set hA rfl ho (zE_obj cA ad _ o hc9) (fun a q' ha => zE_L_off cA ad w j _ q' ha) hA.2.2.1 hP hD) hS1 hg hc hs hl
theorem z_putLF {idx c0 j n o : Nat} {x : Int64} (hf : zM.f M pc = some (.putfield idx, 3)) (hl0 : zFl (zM.y M).cls idx c0 j true) (ho : w.1[o]? = some (c0, n)) (ht : zty c0 j = .long) (hi : (zM.y M).name = "<init>") (hd : ∀ q, zcl[c0]? = some q → (q.2.1 j).1 = (zM.y M).cls) (k : zS mc ms d M P (pc + 3) ls st (zsL w o j x)) : zS mc ms d M P pc ls (.long x :: .ref o :: st) w := by
  intro p l e R s m args below meth c Q D cA h0 ad0 n0 C ad H locs cells slots la hA hS hg hc hs hl
  obtain ⟨q, hq, hk, hfi, hw⟩ := hl0
  have hc9 := zcl_lt hq
  have hn : n = q.2.2 := by
    obtain ⟨q', h1, h2⟩ := hA.2.2.2.2 o c0 n ho hc9
    cases hq.symm.trans h1
    exact h2
  have he := zws_at cA ad ho
  rw [zE_obj cA ad w o hc9] at he
  refine va_putF (C := q.1) (T := q.2.1) (N := q.2.2) (v := cv ad (.long x)) C.1 C.2.1 C.2.2.2.2.1 (zcls hq).1 (zty c0) (zcls hq).2.1 (zcls hq).2.2 C.2.2.2.1 C.2.2.2.2.2.1 hA.1 hA.2.1 hS o he hq j hk (C.2.2.2.2.1 _ hw) (fun _ h => h) hfi (C.2.2.2.2.2.2.2.2.1.trans hi) (hd q hq) ((zcls hq).2.1 j hk) (by rw [ht]; rfl) (by rw [ht]; rfl) (by simp [hn, hk]) (C.dec hf) (fun H1 locs1 hP hD hS1 => ?_)
  have e1 : ((List.range n).map (zfv w ad o c0)).set j (cv ad (.long x)) = (List.range n).map (zfv (zsL w o j x) ad o c0) := zfs_set (by rw [zfv, if_neg (by rw [ht]; decide), if_pos (by rw [ht]; rfl)]; show Value.long (z2 (zL w) o j x o j) = _; rw [z2_row]; simp [cv]) (fun b hb => by simp only [zfv, zsL, zI, zL, zR]; rw [z2_row]; simp [hb])
  rw [e1] at hP hD
  exact k p l e R s m args below meth c Q D cA h0 ad0 n0 C ad H1 locs1 cells slots la (zAW_set hA rfl ho (zE_obj cA ad _ o hc9) (fun a q' ha => zE_L_off cA ad w j _ q' ha) hA.2.2.1 hP hD) hS1 hg hc hs hl
theorem z_putR {idx c0 j n o : Nat} {x : Nat} (hf : zM.f M pc = some (.putfield idx, 3)) (hl0 : zFl (zM.y M).cls idx c0 j false) (ho : w.1[o]? = some (c0, n)) (ht : zft (zty c0 j) = 2) (hx : x < w.1.length ∨ 1000000 ≤ x) (k : zS mc ms d M P (pc + 3) ls st (zsR w o j (some x))) : zS mc ms d M P pc ls (.ref x :: .ref o :: st) w := by
  intro p l e R s m args below meth c Q D cA h0 ad0 n0 C ad H locs cells slots la hA hS hg hc hs hl
  obtain ⟨q, hq, hk, hfi, hw⟩ := hl0
  have hc9 := zcl_lt hq
  have hn : n = q.2.2 := by
    obtain ⟨q', h1, h2⟩ := hA.2.2.2.2 o c0 n ho hc9
    cases hq.symm.trans h1
    exact h2
  have he := zws_at cA ad ho
  rw [zE_obj cA ad w o hc9] at he
  refine va_put (C := q.1) (T := q.2.1) (N := q.2.2) (v := cv ad (.ref x)) C.1 C.2.1 C.2.2.2.2.1 (zcls hq).1 (zty c0) (zcls hq).2.1 (zcls hq).2.2 C.2.2.2.1 C.2.2.2.2.2.1 hA.1 hA.2.1 hS o he hq j hk (C.2.2.2.2.1 _ hw) (fun _ h => h) hfi  ((zcls hq).2.1 j hk) (znar2 ht _) (zfit2 ht _) (by simp [hn, hk]) (C.dec hf) (fun H1 locs1 hP hD hS1 => ?_)
  have e1 : ((List.range n).map (zfv w ad o c0)).set j (cv ad (.ref x)) = (List.range n).map (zfv (zsR w o j (some x)) ad o c0) := zfs_set (by rw [zfv, if_neg (by rw [ht]; decide), if_neg (by rw [ht]; decide)]; show va_rf ((z2 (zR w) o j (some x) o j).map ad) = _; rw [z2_row]; simp [va_rf, cv]) (fun b hb => by simp only [zfv, zsR, zI, zL, zR]; rw [z2_row]; simp [hb])
  rw [e1] at hP hD
  exact k p l e R s m args below meth c Q D cA h0 ad0 n0 C ad H1 locs1 cells slots la (zAW_set hA rfl ho (zE_obj cA ad _ o hc9) (fun a q' ha => zE_R_off cA ad w j _ q' ha) (zV2_R hA.2.2.1 (fun r e => by cases e; exact hx)) hP hD) hS1 hg hc hs hl
theorem z_putRF {idx c0 j n o : Nat} {x : Nat} (hf : zM.f M pc = some (.putfield idx, 3)) (hl0 : zFl (zM.y M).cls idx c0 j true) (ho : w.1[o]? = some (c0, n)) (ht : zft (zty c0 j) = 2) (hx : x < w.1.length ∨ 1000000 ≤ x) (hi : (zM.y M).name = "<init>") (hd : ∀ q, zcl[c0]? = some q → (q.2.1 j).1 = (zM.y M).cls) (k : zS mc ms d M P (pc + 3) ls st (zsR w o j (some x))) : zS mc ms d M P pc ls (.ref x :: .ref o :: st) w := by
  intro p l e R s m args below meth c Q D cA h0 ad0 n0 C ad H locs cells slots la hA hS hg hc hs hl
  obtain ⟨q, hq, hk, hfi, hw⟩ := hl0
  have hc9 := zcl_lt hq
  have hn : n = q.2.2 := by
    obtain ⟨q', h1, h2⟩ := hA.2.2.2.2 o c0 n ho hc9
    cases hq.symm.trans h1
    exact h2
  have he := zws_at cA ad ho
  rw [zE_obj cA ad w o hc9] at he
  refine va_putF (C := q.1) (T := q.2.1) (N := q.2.2) (v := cv ad (.ref x)) C.1 C.2.1 C.2.2.2.2.1 (zcls hq).1 (zty c0) (zcls hq).2.1 (zcls hq).2.2 C.2.2.2.1 C.2.2.2.2.2.1 hA.1 hA.2.1 hS o he hq j hk (C.2.2.2.2.1 _ hw) (fun _ h => h) hfi (C.2.2.2.2.2.2.2.2.1.trans hi) (hd q hq) ((zcls hq).2.1 j hk) (znar2 ht _) (zfit2 ht _) (by simp [hn, hk]) (C.dec hf) (fun H1 locs1 hP hD hS1 => ?_)
  have e1 : ((List.range n).map (zfv w ad o c0)).set j (cv ad (.ref x)) = (List.range n).map (zfv (zsR w o j (some x)) ad o c0) := zfs_set (by rw [zfv, if_neg (by rw [ht]; decide), if_neg (by rw [ht]; decide)]; show va_rf ((z2 (zR w) o j (some x) o j).map ad) = _; rw [z2_row]; simp [va_rf, cv]) (fun b hb => by simp only [zfv, zsR, zI, zL, zR]; rw [z2_row]; simp [hb])
  rw [e1] at hP hD
  exact k p l e R s m args below meth c Q D cA h0 ad0 n0 C ad H1 locs1 cells slots la (zAW_set hA rfl ho (zE_obj cA ad _ o hc9) (fun a q' ha => zE_R_off cA ad w j _ q' ha) (zV2_R hA.2.2.1 (fun r e => by cases e; exact hx)) hP hD) hS1 hg hc hs hl
theorem z_putN {idx c0 j n o : Nat}  (hf : zM.f M pc = some (.putfield idx, 3)) (hl0 : zFl (zM.y M).cls idx c0 j false) (ho : w.1[o]? = some (c0, n)) (ht : zft (zty c0 j) = 2) (k : zS mc ms d M P (pc + 3) ls st (zsR w o j none)) : zS mc ms d M P pc ls (.null :: .ref o :: st) w := by
  intro p l e R s m args below meth c Q D cA h0 ad0 n0 C ad H locs cells slots la hA hS hg hc hs hl
  obtain ⟨q, hq, hk, hfi, hw⟩ := hl0
  have hc9 := zcl_lt hq
  have hn : n = q.2.2 := by
    obtain ⟨q', h1, h2⟩ := hA.2.2.2.2 o c0 n ho hc9
    cases hq.symm.trans h1
    exact h2
  have he := zws_at cA ad ho
  rw [zE_obj cA ad w o hc9] at he
  refine va_put (C := q.1) (T := q.2.1) (N := q.2.2) (v := cv ad (.null)) C.1 C.2.1 C.2.2.2.2.1 (zcls hq).1 (zty c0) (zcls hq).2.1 (zcls hq).2.2 C.2.2.2.1 C.2.2.2.2.2.1 hA.1 hA.2.1 hS o he hq j hk (C.2.2.2.2.1 _ hw) (fun _ h => h) hfi  ((zcls hq).2.1 j hk) (znar2n ht) (zfit2n ht) (by simp [hn, hk]) (C.dec hf) (fun H1 locs1 hP hD hS1 => ?_)
  have e1 : ((List.range n).map (zfv w ad o c0)).set j (cv ad (.null)) = (List.range n).map (zfv (zsR w o j none) ad o c0) := zfs_set (by rw [zfv, if_neg (by rw [ht]; decide), if_neg (by rw [ht]; decide)]; show va_rf ((z2 (zR w) o j none o j).map ad) = _; rw [z2_row]; simp [va_rf, cv]) (fun b hb => by simp only [zfv, zsR, zI, zL, zR]; rw [z2_row]; simp [hb])
  rw [e1] at hP hD
  exact k p l e R s m args below meth c Q D cA h0 ad0 n0 C ad H1 locs1 cells slots la (zAW_set hA rfl ho (zE_obj cA ad _ o hc9) (fun a q' ha => zE_R_off cA ad w j _ q' ha) (zV2_R hA.2.2.1 (fun r e => by cases e)) hP hD) hS1 hg hc hs hl
theorem z_putNF {idx c0 j n o : Nat}  (hf : zM.f M pc = some (.putfield idx, 3)) (hl0 : zFl (zM.y M).cls idx c0 j true) (ho : w.1[o]? = some (c0, n)) (ht : zft (zty c0 j) = 2) (hi : (zM.y M).name = "<init>") (hd : ∀ q, zcl[c0]? = some q → (q.2.1 j).1 = (zM.y M).cls) (k : zS mc ms d M P (pc + 3) ls st (zsR w o j none)) : zS mc ms d M P pc ls (.null :: .ref o :: st) w := by
  intro p l e R s m args below meth c Q D cA h0 ad0 n0 C ad H locs cells slots la hA hS hg hc hs hl
  obtain ⟨q, hq, hk, hfi, hw⟩ := hl0
  have hc9 := zcl_lt hq
  have hn : n = q.2.2 := by
    obtain ⟨q', h1, h2⟩ := hA.2.2.2.2 o c0 n ho hc9
    cases hq.symm.trans h1
    exact h2
  have he := zws_at cA ad ho
  rw [zE_obj cA ad w o hc9] at he
  refine va_putF (C := q.1) (T := q.2.1) (N := q.2.2) (v := cv ad (.null)) C.1 C.2.1 C.2.2.2.2.1 (zcls hq).1 (zty c0) (zcls hq).2.1 (zcls hq).2.2 C.2.2.2.1 C.2.2.2.2.2.1 hA.1 hA.2.1 hS o he hq j hk (C.2.2.2.2.1 _ hw) (fun _ h => h) hfi (C.2.2.2.2.2.2.2.2.1.trans hi) (hd q hq) ((zcls hq).2.1 j hk) (znar2n ht) (zfit2n ht) (by simp [hn, hk]) (C.dec hf) (fun H1 locs1 hP hD hS1 => ?_)
  have e1 : ((List.range n).map (zfv w ad o c0)).set j (cv ad (.null)) = (List.range n).map (zfv (zsR w o j none) ad o c0) := zfs_set (by rw [zfv, if_neg (by rw [ht]; decide), if_neg (by rw [ht]; decide)]; show va_rf ((z2 (zR w) o j none o j).map ad) = _; rw [z2_row]; simp [va_rf, cv]) (fun b hb => by simp only [zfv, zsR, zI, zL, zR]; rw [z2_row]; simp [hb])
  rw [e1] at hP hD
  exact k p l e R s m args below meth c Q D cA h0 ad0 n0 C ad H1 locs1 cells slots la (zAW_set hA rfl ho (zE_obj cA ad _ o hc9) (fun a q' ha => zE_R_off cA ad w j _ q' ha) (zV2_R hA.2.2.1 (fun r e => by cases e)) hP hD) hS1 hg hc hs hl
theorem z_iald {o n : Nat} {i : Int32} (hf : zM.f M pc = some (.iaload, 1)) (ho : w.1[o]? = some (10, n)) (hi : vp_in i n) (k : zS mc ms d M P (pc + 1) ls (.int (zI w o i.toNatClampNeg) :: st) w) : zS mc ms d M P pc ls (.int i :: .ref o :: st) w := by
  intro p l e R s m args below meth c Q D cA h0 ad0 n0 C ad H locs cells slots la hA hS hg hc hs hl
  exact va_iald C.1 C.2.1 C.2.2.2.2.2.1 hA.1 o 1 (zws_at cA ad ho) rfl hi (C.dec hf) (k p l e R s m args below meth c Q D cA h0 ad0 n0 C ad H locs cells slots la hA hS hg hc hs hl)
theorem z_bald {o n : Nat} {i : Int32} (hf : zM.f M pc = some (.baload, 1)) (ho : w.1[o]? = some (9, n)) (hi : vp_in i n) (k : zS mc ms d M P (pc + 1) ls (.int (zI w o i.toNatClampNeg) :: st) w) : zS mc ms d M P pc ls (.int i :: .ref o :: st) w := by
  intro p l e R s m args below meth c Q D cA h0 ad0 n0 C ad H locs cells slots la hA hS hg hc hs hl
  exact va_bald C.1 C.2.1 C.2.2.2.2.2.1 hA.1 o 0 (zws_at cA ad ho) rfl hi (C.dec hf) (k p l e R s m args below meth c Q D cA h0 ad0 n0 C ad H locs cells slots la hA hS hg hc hs hl)
theorem z_zald {o n : Nat} {i : Int32} (hf : zM.f M pc = some (.baload, 1)) (ho : w.1[o]? = some (12, n)) (hi : vp_in i n) (k : zS mc ms d M P (pc + 1) ls (.int (zI w o i.toNatClampNeg) :: st) w) : zS mc ms d M P pc ls (.int i :: .ref o :: st) w := by
  intro p l e R s m args below meth c Q D cA h0 ad0 n0 C ad H locs cells slots la hA hS hg hc hs hl
  exact va_zald C.1 C.2.1 C.2.2.2.2.2.1 hA.1 o 3 (zws_at cA ad ho) rfl hi (C.dec hf) (k p l e R s m args below meth c Q D cA h0 ad0 n0 C ad H locs cells slots la hA hS hg hc hs hl)
theorem z_lald {o n : Nat} {i : Int32} (hf : zM.f M pc = some (.laload, 1)) (ho : w.1[o]? = some (11, n)) (hi : vp_in i n) (k : zS mc ms d M P (pc + 1) ls (.long (zL w o i.toNatClampNeg) :: st) w) : zS mc ms d M P pc ls (.int i :: .ref o :: st) w := by
  intro p l e R s m args below meth c Q D cA h0 ad0 n0 C ad H locs cells slots la hA hS hg hc hs hl
  exact va_lald C.1 C.2.1 C.2.2.2.2.2.1 hA.1 o 2 (zws_at cA ad ho) rfl hi (C.dec hf) (k p l e R s m args below meth c Q D cA h0 ad0 n0 C ad H locs cells slots la hA hS hg hc hs hl)
theorem z_aald {o n : Nat} {x : Nat} {i : Int32} (hf : zM.f M pc = some (.aaload, 1)) (ho : w.1[o]? = some (13, n)) (hi : vp_in i n) (hv : zR w o i.toNatClampNeg = some x) (k : zS mc ms d M P (pc + 1) ls (.ref x :: st) w) : zS mc ms d M P pc ls (.int i :: .ref o :: st) w := by
  intro p l e R s m args below meth c Q D cA h0 ad0 n0 C ad H locs cells slots la hA hS hg hc hs hl
  refine va_aldq C.1 C.2.1 C.2.2.2.2.2.1 hA.1 o 4 (zws_at cA ad ho) rfl hi (C.dec hf) ?_
  rw [hv]
  exact k p l e R s m args below meth c Q D cA h0 ad0 n0 C ad H locs cells slots la hA hS hg hc hs hl
theorem z_aaldN {o n : Nat} {i : Int32} (hf : zM.f M pc = some (.aaload, 1)) (ho : w.1[o]? = some (13, n)) (hi : vp_in i n) (hv : zR w o i.toNatClampNeg = none) (k : zS mc ms d M P (pc + 1) ls (.null :: st) w) : zS mc ms d M P pc ls (.int i :: .ref o :: st) w := by
  intro p l e R s m args below meth c Q D cA h0 ad0 n0 C ad H locs cells slots la hA hS hg hc hs hl
  refine va_aldq C.1 C.2.1 C.2.2.2.2.2.1 hA.1 o 4 (zws_at cA ad ho) rfl hi (C.dec hf) ?_
  rw [hv]
  exact k p l e R s m args below meth c Q D cA h0 ad0 n0 C ad H locs cells slots la hA hS hg hc hs hl
theorem z_iast {o n : Nat} {i : Int32} {x : Int32} (hf : zM.f M pc = some (.iastore, 1)) (ho : w.1[o]? = some (10, n)) (hi : vp_in i n) (k : zS mc ms d M P (pc + 1) ls st (zsI w o i.toNatClampNeg x)) : zS mc ms d M P pc ls (.int x :: .int i :: .ref o :: st) w := by
  intro p l e R s m args below meth c Q D cA h0 ad0 n0 C ad H locs cells slots la hA hS hg hc hs hl
  refine va_iast C.1 C.2.1 C.2.2.2.2.2.1 hA.1 hA.2.1 hS o 1 (zws_at cA ad ho) rfl hi (C.dec hf) (fun H1 locs1 hP hD hS1 => ?_)
  exact k p l e R s m args below meth c Q D cA h0 ad0 n0 C ad H1 locs1 cells slots la (zAW_set hA rfl ho (by show Sum.inl (_, _, _) = Sum.inl (_, _, _); congr 4; exact z2_row _ _ _ _) (fun a q' ha => zE_I_off cA ad w _ _ q' ha) hA.2.2.1 hP hD) hS1 hg hc hs hl
theorem z_bast {o n : Nat} {i : Int32} {x : Int32} (hf : zM.f M pc = some (.bastore, 1)) (ho : w.1[o]? = some (9, n)) (hi : vp_in i n) (k : zS mc ms d M P (pc + 1) ls st (zsI w o i.toNatClampNeg (vp_nar .byte x))) : zS mc ms d M P pc ls (.int x :: .int i :: .ref o :: st) w := by
  intro p l e R s m args below meth c Q D cA h0 ad0 n0 C ad H locs cells slots la hA hS hg hc hs hl
  refine va_bast C.1 C.2.1 C.2.2.2.2.2.1 hA.1 hA.2.1 hS o 0 (zws_at cA ad ho) rfl hi (C.dec hf) (fun H1 locs1 hP hD hS1 => ?_)
  exact k p l e R s m args below meth c Q D cA h0 ad0 n0 C ad H1 locs1 cells slots la (zAW_set hA rfl ho (by show Sum.inl (_, _, _) = Sum.inl (_, _, _); congr 4; exact z2_row _ _ _ _) (fun a q' ha => zE_I_off cA ad w _ _ q' ha) hA.2.2.1 hP hD) hS1 hg hc hs hl
theorem z_zast {o n : Nat} {i : Int32} {x : Int32} (hf : zM.f M pc = some (.bastore, 1)) (ho : w.1[o]? = some (12, n)) (hi : vp_in i n) (k : zS mc ms d M P (pc + 1) ls st (zsI w o i.toNatClampNeg (vp_nar .boolean x))) : zS mc ms d M P pc ls (.int x :: .int i :: .ref o :: st) w := by
  intro p l e R s m args below meth c Q D cA h0 ad0 n0 C ad H locs cells slots la hA hS hg hc hs hl
  refine va_zast C.1 C.2.1 C.2.2.2.2.2.1 hA.1 hA.2.1 hS o 3 (zws_at cA ad ho) rfl hi (C.dec hf) (fun H1 locs1 hP hD hS1 => ?_)
  exact k p l e R s m args below meth c Q D cA h0 ad0 n0 C ad H1 locs1 cells slots la (zAW_set hA rfl ho (by show Sum.inl (_, _, _) = Sum.inl (_, _, _); congr 4; exact z2_row _ _ _ _) (fun a q' ha => zE_I_off cA ad w _ _ q' ha) hA.2.2.1 hP hD) hS1 hg hc hs hl
theorem z_last {o n : Nat} {i : Int32} {x : Int64} (hf : zM.f M pc = some (.lastore, 1)) (ho : w.1[o]? = some (11, n)) (hi : vp_in i n) (k : zS mc ms d M P (pc + 1) ls st (zsL w o i.toNatClampNeg x)) : zS mc ms d M P pc ls (.long x :: .int i :: .ref o :: st) w := by
  intro p l e R s m args below meth c Q D cA h0 ad0 n0 C ad H locs cells slots la hA hS hg hc hs hl
  refine va_last C.1 C.2.1 C.2.2.2.2.2.1 hA.1 hA.2.1 hS o 2 (zws_at cA ad ho) rfl hi (C.dec hf) (fun H1 locs1 hP hD hS1 => ?_)
  exact k p l e R s m args below meth c Q D cA h0 ad0 n0 C ad H1 locs1 cells slots la (zAW_set hA rfl ho (by show Sum.inl (_, _, Sum.inr (Sum.inl _)) = Sum.inl (_, _, Sum.inr (Sum.inl _)); congr 5; exact z2_row _ _ _ _) (fun a q' ha => zE_L_off cA ad w _ _ q' ha) hA.2.2.1 hP hD) hS1 hg hc hs hl
theorem z_alen {o kd n : Nat} {v : Int32} (hf : zM.f M pc = some (.arraylength, 1)) (ho : w.1[o]? = some (kd, n)) (hk : 9 ≤ kd ∧ kd ≤ 13) (hv : Int32.ofNat n = v) (k : zS mc ms d M P (pc + 1) ls (.int v :: st) w) : zS mc ms d M P pc ls (.ref o :: st) w := by
  intro p l e R s m args below meth c Q D cA h0 ad0 n0 C ad H locs cells slots la hA hS hg hc hs hl
  have he := zws_at cA ad ho
  obtain ⟨h1, h2⟩ := hk
  rcases (show kd = 9 ∨ kd = 10 ∨ kd = 11 ∨ kd = 12 ∨ kd = 13 by omega) with rfl | rfl | rfl | rfl | rfl
  · exact va_alen C.1 C.2.1 C.2.2.2.2.2.1 hA.1 o 0 he rfl hv (C.dec hf) (k p l e R s m args below meth c Q D cA h0 ad0 n0 C ad H locs cells slots la hA hS hg hc hs hl)
  · exact va_alen C.1 C.2.1 C.2.2.2.2.2.1 hA.1 o 1 he rfl hv (C.dec hf) (k p l e R s m args below meth c Q D cA h0 ad0 n0 C ad H locs cells slots la hA hS hg hc hs hl)
  · exact va_alen C.1 C.2.1 C.2.2.2.2.2.1 hA.1 o 2 he rfl hv (C.dec hf) (k p l e R s m args below meth c Q D cA h0 ad0 n0 C ad H locs cells slots la hA hS hg hc hs hl)
  · exact va_alen C.1 C.2.1 C.2.2.2.2.2.1 hA.1 o 3 he rfl hv (C.dec hf) (k p l e R s m args below meth c Q D cA h0 ad0 n0 C ad H locs cells slots la hA hS hg hc hs hl)
  · exact va_alen C.1 C.2.1 C.2.2.2.2.2.1 hA.1 o 4 he rfl hv (C.dec hf) (k p l e R s m args below meth c Q D cA h0 ad0 n0 C ad H locs cells slots la hA hS hg hc hs hl)
end Z6
end
section
/-! CALLS: a method's pure run gives its contract, and the contract gives the call -/
def zPre (D : va_G) (cA : Nat → ClassId) (h0 : Nat) (ad : Nat → Nat) (w : zW) (U : State) : Prop := zAW D cA h0 ad w U.heap ∧ va_K D zcl (ztys cA) U ∧ zKC h0 ad U U.heap ∧ h0 ≤ U.heap.size
def zQc (D : va_G) (cA : Nat → ClassId) (h0 : Nat) (ad : Nat → Nat) (n0 : Nat) (P : Option Value → zW → Prop) : Array Value → State → Outcome → State → Prop := fun _ st oc t =>
  (∃ (r : Option Value) (w' : zW) (ad' : Nat → Nat), P r w' ∧ oc = .returned (r.map (cv ad')) ∧ (∀ o, (o < n0 ∨ w'.1.length ≤ o) → ad' o = ad o) ∧ zAW D cA h0 ad' w' t.heap) ∧ va_F (zA h0) st t
abbrev zWs (M : zM) : List Cond := Cond.code (zM.y M) (zM.cc M) (zM.mx M) (zM.rt M) :: zT
theorem zWs_good {M : zM} (ok : zOK M) : GoodIn zT (zWs M) := fun w h => by
  rcases List.mem_cons.mp h with rfl | h
  · exact zT_good _ ok.2.2.2.2
  · exact zT_good w h
theorem cv_args (ad : Nat → Nat) : ∀ (i : Nat) (vs : List Value), lv_args i (vs.map (cv ad)) = cvl ad (lv_args i vs)
  | _, [] => rfl
  | i, v :: vs => by
    show (i, cv ad v) :: lv_args _ (vs.map (cv ad)) = (i, cv ad v) :: cvl ad (lv_args _ vs)
    rw [cv_cat, cv_args ad _ vs]
theorem cv_sl (ad : Nat → Nat) : ∀ (vs : List Value), (lg_sl (vs.map (cv ad))).length = (lg_sl vs).length
  | [] => rfl
  | v :: vs => by
    have h := cv_sl ad vs
    unfold lg_sl at h ⊢
    rw [List.map_cons, List.flatMap_cons, List.flatMap_cons, List.length_append, List.length_append, h, cv_cat]
    split <;> rfl
theorem zofW {l : Launch} {y : MethodName} {ws ws' : List Cond} {rm : Room} {Pc : Array Value → State → Prop} {Qc : Array Value → State → Outcome → State → Prop} {mc ms : Nat} {free : Addr → Prop} {cc : ByteArray} {maxL : Nat} {ret : Option FieldType}
    (hy : plainFor y = true) (hw : ws = Cond.code y cc maxL ret :: ws')
    (body : ∀ p e s m args below meth c s₁, BodyLoose p l y (headSpec ws rm) cc maxL ret e s m args below meth c s₁ → c.maxLocals = maxL → Pc args s →
      W p l e (headSpec ws rm).room s m args below meth c s.heap [] 0 0 (MQ below Qc args s mc ms free) (entryFrame m args maxL)) : Met l y ws rm Pc Qc mc ms free := by
  refine MetFree.of_bodySF (code := cc) (maxLocals := maxL) (ret := ret) hy ?_ ?_
  · intro args s m h hn
    obtain ⟨meth, c, h1, h2, h3, h4, h5, h6, -, -⟩ := Cond.code_spec hn (atoms_spec (ws := ws) h _ (by rw [hw]; exact List.mem_cons_self))
    exact ⟨meth, c, h1, h2, h3, h4, h5, h6⟩
  · intro p e s m args below meth c s₁ B hml hP _
    have hh0 : s₁.heap = s.heap := by rw [B.state]; rfl
    obtain ⟨t, a1, o, b1, b2, b3⟩ := body p e s m args below meth c s₁ B hml hP s₁ hh0 (Stand.of_body B)
    exact ⟨t, o, a1, b1, b2, ⟨b3.1, b3.2⟩⟩
theorem zMet {mc ms d : Nat} {M : zM} {P : Option Value → zW → Prop} {w : zW} {as : List Value} (ok : zOK M) (hX : zM.X M = none) (hl : (lg_sl as).length ≤ zM.mx M) (h : zS mc ms d M P 0 (lv_args 0 as) [] w) (l : Launch) (D : va_G) (cA : Nat → ClassId) (h0 : Nat) (ad : Nat → Nat) :
    Met l (zM.y M) (zWs M) ({ frames := d, cells := mc, slots := ms, locals := 64 * d }) (va_Pc (as.map (cv ad)) (zPre D cA h0 ad w)) (zQc D cA h0 ad w.1.length P) mc ms (zA h0) := by
  refine zofW (cc := zM.cc M) (maxL := zM.mx M) (ret := zM.rt M) ok.2.2.1 rfl ?_
  intro p e s m args below meth c s₁ B hml hv
  obtain ⟨rfl, hA, hK, hKC, hh⟩ := hv
  have hts := atoms_spec (ws := zWs M) B.pre
  have hl0 := lv_entry (as.map (cv ad)) (n := zM.mx M) (by rw [cv_sl]; exact hl)
  rw [cv_args] at hl0
  rw [lg_entry_eq]
  have hlocks := B.notSynchronized
  refine h p l e _ s m _ below meth c _ D cA h0 ad w.1.length ⟨B.exec, B.bytes, hml, findClass_of_methodNamed B.named, fun w hw => hts w (List.mem_cons_of_mem _ hw), hK, hKC, hh, (name_of_methodNamed B.named B.method).1, ⟨Nat.le_refl _, Nat.le_refl _⟩, ok, fun x hx => (by rw [hX] at hx; cases hx), ?_⟩ ad s.heap [] 0 0 _ hA va_S.rf ⟨fun o _ => rfl, Nat.le_refl _⟩ (by show 0 + mc ≤ mc; omega) (by show 0 + ms ≤ ms; omega) hl0
  intro r w' hp ad' H locs cells slots pc ls hA' hS' hag hc hs hr
  refine W.widen (k := mc) (n := ms) hc hs ?_
  have hret := B.returns
  rcases hr with ⟨rfl, h1, h2⟩ | ⟨v, ty, rfl, h1, hn, h2⟩ | ⟨v, rfl, h1, h2⟩ | ⟨v, C0, h3, h1, h2⟩
  · exact W.vret B.exec B.bytes (hret.trans h1) (fun t ht hW => ⟨⟨_, w', ad', hp, rfl, hag, by rw [ht]; exact hA'⟩, hS'.F ht⟩) hS'.2.2 (ok.1 _ _ h2)
  · exact W.zret B.exec B.bytes (hret.trans h1) hn (fun t ht hW => ⟨⟨_, w', ad', hp, rfl, hag, by rw [ht]; exact hA'⟩, hS'.F ht⟩) hS'.2.2 (ok.1 _ _ h2)
  · exact W.lret B.exec B.bytes (hret.trans h1) (fun t ht hW => ⟨⟨_, w', ad', hp, rfl, hag, by rw [ht]; exact hA'⟩, hS'.F ht⟩) hS'.2.2 (ok.1 _ _ h2)
  · rcases h3 with rfl | rfl
    · exact W.aret (v := .null) B.exec B.bytes (hret.trans h1) (Or.inl ⟨C0, rfl⟩) (Or.inl rfl) (fun t ht hW => ⟨⟨_, w', ad', hp, rfl, hag, by rw [ht]; exact hA'⟩, hS'.F ht⟩) hS'.2.2 (ok.1 _ _ h2)
    · exact W.aret (v := .ref (ad' v)) B.exec B.bytes (hret.trans h1) (Or.inl ⟨C0, rfl⟩) (Or.inr ⟨_, rfl⟩) (fun t ht hW => ⟨⟨_, w', ad', hp, rfl, hag, by rw [ht]; exact hA'⟩, hS'.F ht⟩) hS'.2.2 (ok.1 _ _ h2)
/-- a value that names no cell between n1 and n2 -/
def zvk (n1 n2 : Nat) (v : Value) : Prop := ∀ o, v = .ref o → o < n1 ∨ n2 ≤ o
theorem zvk_cv {n1 n2 : Nat} {v : Value} {ad ad' : Nat → Nat} (h : zvk n1 n2 v) (ha : ∀ o, (o < n1 ∨ n2 ≤ o) → ad' o = ad o) : cv ad' v = cv ad v := by
  cases v with
  | ref o => show Value.ref _ = Value.ref _; rw [ha o (h o rfl)]
  | _ => rfl
def zVl (w w1 : zW) (ls : List (Nat × Value)) (st : List Value) : Prop := w1.1.length = w.1.length ∨ (∀ q ∈ ls, zvk w.1.length w1.1.length q.2) ∧ ∀ v ∈ st, zvk w.1.length w1.1.length v
theorem zVl_ls {w w1 : zW} {ls : List (Nat × Value)} {st : List Value} (h : zVl w w1 ls st) {ad ad' : Nat → Nat} (ha : ∀ o, (o < w.1.length ∨ w1.1.length ≤ o) → ad' o = ad o) : cvl ad' ls = cvl ad ls ∧ st.map (cv ad') = st.map (cv ad) := by
  have h2 : (∀ q ∈ ls, zvk w.1.length w1.1.length q.2) ∧ ∀ v ∈ st, zvk w.1.length w1.1.length v := by
    rcases h with h | h
    · rw [h]; exact ⟨fun q _ o _ => Nat.lt_or_ge _ _, fun v _ o _ => Nat.lt_or_ge _ _⟩
    · exact h
  exact ⟨List.map_congr_left fun q hq => by rw [zvk_cv (h2.1 q hq) ha], List.map_congr_left fun v hv => zvk_cv (h2.2 v hv) ha⟩
section Z7
variable {mc ms d : Nat} {M : zM} {P : Option Value → zW → Prop} {pc : Nat} {ls : List (Nat × Value)} {st : List Value} {w : zW}
theorem z_after {p : Program} {l : Launch} {e : Env} {R : Room} {s : State} {m : MethodId} {args : Array Value} {below : List Frame} {meth : Method} {c : Code} {Q : State → Prop} {D : va_G} {cA : Nat → ClassId} {h0 : Nat} {ad0 : Nat → Nat} {n0 : Nat} (C : zCtx d M P p l e R s m args below meth c Q D cA h0 ad0 n0)
    {ad : Nat → Nat} {H : Heap} {locs : List Loc} {cells slots : Nat} {la : Array Slot} (hS : va_S (zA h0) s.heap H locs) (hg : (∀ o, (o < n0 ∨ w.1.length ≤ o) → ad o = ad0 o) ∧ n0 ≤ w.1.length) (hc : cells + mc ≤ R.cells) (hs : slots + ms ≤ R.slots) (hl : lv_has la (zM.mx M) (cvl ad ls))
    {mc1 ms1 mc2 ms2 : Nat} {P1 : Option Value → zW → Prop} {rest st0 : List Value} {a : Array Value} (hr : va_Run p l e R s m args below meth c H locs cells slots mc1 ms1 (F0 m pc la st0) (rest.map (cv ad)) (zQc D cA h0 ad w.1.length P1 a) (zA h0))
    (hmc : mc1 + mc2 ≤ mc) (hms : ms1 + ms2 ≤ ms) (k : ∀ r1 w1, P1 r1 w1 → (w.1.length ≤ w1.1.length ∧ zVl w w1 ls rest) ∧ zS mc2 ms2 d M P (pc + 3) ls (r1.toList ++ rest) w1) : W p l e R s m args below meth c H locs cells slots Q (F0 m pc la st0) := by
  intro T hT X
  obtain ⟨v, st₀, t, T', L, hz, X', hL, e1, e2, ⟨⟨r1, w1, ad', hp1, hv', hag, hA'⟩, hF1, hF2⟩, go⟩ := hr T hT X
  obtain ⟨⟨hle, hv⟩, k⟩ := k r1 w1 hp1
  cases hv'
  rw [hz] at hF1 hF2
  obtain ⟨q1, q2⟩ := zVl_ls hv hag
  have hS' : va_S (zA h0) s.heap T'.heap (locs ++ L) := ⟨Nat.le_trans hS.1 (by rw [e1]; exact hF1), fun q h1 h2 => by rw [e1, hF2 q (Nat.lt_of_lt_of_le h1 hS.1) h2]; exact hS.2.1 q h1 h2, fun q hq => by
      rcases List.mem_append.mp hq with h | h
      · exact hS.2.2 q h
      · exact hL q h⟩
  obtain ⟨t2, a1, b1⟩ := k p l e R s m args below meth c Q D cA h0 ad0 n0 C ad' T'.heap (locs ++ L) (cells + mc1) (slots + ms1) la (by rw [e1]; exact hA') hS' ⟨fun o ho => by
      rcases ho with ho | ho
      · rw [hag o (Or.inl (Nat.lt_of_lt_of_le ho hg.2))]; exact hg.1 o (Or.inl ho)
      · rw [hag o (Or.inr ho)]; exact hg.1 o (Or.inr (Nat.le_trans hle ho)), Nat.le_trans hg.2 hle⟩ (by omega) (by omega) (by rw [q1]; exact hl) T' rfl X'
  have e5 : ((r1.toList ++ rest).map (cv ad')) = (r1.map (cv ad')).toList ++ rest.map (cv ad) := by
    rw [List.map_append, q2]
    cases r1 <;> rfl
  rw [e5] at a1
  exact ⟨t2, go t2 a1, b1⟩
theorem zPre_blind (D : va_G) (cA : Nat → ClassId) (h0 : Nat) (ad : Nat → Nat) (as : List Value) : FrameBlind (va_Pc (as.map (cv ad)) (zPre D cA h0 ad w)) := by
  intro a U g mk q
  obtain ⟨q0, qA, qK, qC, qh⟩ := q
  exact ⟨q0, qA, va_K.moved (u := U) (U := U.calling g mk a) (Vm.Alike.refl U.vm) qK, zKC.go (U := U.calling g mk a) qC (Or.inr rfl) (fun _ _ _ => rfl) (fun _ _ => rfl), qh⟩
theorem zPre_now {p : Program} {l : Launch} {e : Env} {R : Room} {s : State} {m : MethodId} {args : Array Value} {below : List Frame} {meth : Method} {c : Code} {Q : State → Prop} {D : va_G} {cA : Nat → ClassId} {h0 : Nat} {ad0 : Nat → Nat} {n0 : Nat} (C : zCtx d M P p l e R s m args below meth c Q D cA h0 ad0 n0)
    {ad : Nat → Nat} {H : Heap} {locs : List Loc} (hA : zAW D cA h0 ad w H) (hS : va_S (zA h0) s.heap H locs) (hg : (∀ o, (o < n0 ∨ w.1.length ≤ o) → ad o = ad0 o) ∧ n0 ≤ w.1.length) {U : State} (hU : U.heap = H) (hW : s.WarmedH U.vm) : zPre D cA h0 ad w U := by
  refine ⟨by rw [hU]; exact hA, va_K.moved hW.alike C.2.2.2.2.2.1, zKC.go C.2.2.2.2.2.2.1 (Or.inl hW) (fun a h1 h2 => by rw [hU]; exact hS.2.1 a h1 h2) (fun o ho => hg.1 o (Or.inr (Nat.le_trans hA.2.2.2.1 ho))), by rw [hU]; exact Nat.le_trans C.2.2.2.2.2.2.2.1 hS.1⟩
theorem zrm {d d2 R1 R2 mx : Nat} (h : d ≤ R1 ∧ 64 * d ≤ R2) (hd : d2 < d) (hm : mx ≤ 45) : d2 + 1 ≤ R1 ∧ 8 + (mx + 11) + 64 * d2 ≤ R2 := by omega
theorem zcat (ad : Nat → Nat) (rest : List Value) : ((rest.map (cv ad)).map fun v => v.category) = rest.map fun v => v.category := by
  rw [List.map_map]; exact List.map_congr_left fun v _ => cv_cat ad v
theorem z_cS {M2 : zM} {mc1 ms1 mc2 ms2 d2 n idx : Nat} {P1 : Option Value → zW → Prop} {as rest : List Value} (ok : zOK M2) (hX : zM.X M2 = none) (hf : zM.f M pc = some (.invokestatic idx, 3)) (hk : zLkS (zM.y M).cls idx (zM.y M2) n) (hd : d2 < d) (hl2 : (lg_sl as).length ≤ zM.mx M2) (hrest : (rest.map fun v => v.category).sum ≤ 8) (hmc : mc1 + mc2 ≤ mc) (hms : ms1 + ms2 ≤ ms) (hM : zS mc1 ms1 d2 M2 P1 0 (lv_args 0 as) [] w) (k : ∀ r1 w1, P1 r1 w1 → (w.1.length ≤ w1.1.length ∧ zVl w w1 ls rest) ∧ zS mc2 ms2 d M P (pc + 3) ls (r1.toList ++ rest) w1) (hn : as.length = n) (hst : as.reverse ++ rest = st) : zS mc ms d M P pc ls st w := by
  intro p l e R s m args below meth c Q D cA h0 ad0 n0 C ad H locs cells slots la hA hS hg hc hs hl
  subst hst
  have hMet := zMet ok hX hl2 hM l D cA h0 ad
  have hrm := zrm C.2.2.2.2.2.2.2.2.2.1 hd ok.2.1
  have hts := C.2.2.2.2.1
  exact z_after (rest := rest) C hS hg hc hs hl (va_runS (As := as.map (cv ad)) (Ts := zT) ⟨C.1, C.2.1, C.2.2.1, C.2.2.2.1, hts⟩ hMet ⟨callB_of n hts (zWs_good ok) rfl rfl rfl (hts _ hk.1.2.1) (hts _ hk.1.1) ⟨ok.2.2.2.1.1, ok.2.2.2.1.2, hk.1.2.2⟩ hrm, hts _ hk.2⟩ ⟨zPre_blind D cA h0 ad as, fun U hU hW => ⟨rfl, zPre_now C hA hS hg hU hW⟩⟩ rfl (by rw [List.length_map]; exact hn) hl.1 (by simp [cv]) (by show 2 * 0 + _ ≤ 8; rw [zcat]; omega) (C.dec hf) ⟨by omega, by omega⟩) hmc hms k
theorem z_cSN {M2 : zM} {mc1 ms1 mc2 ms2 d2 n idx : Nat} {P1 : Option Value → zW → Prop} {as rest : List Value} (ok : zOK M2) (hX : zM.X M2 = none) (hf : zM.f M pc = some (.invokestatic idx, 3)) (hk : zLkSN (zM.y M).cls idx (zM.y M2) n) (hd : d2 < d) (hl2 : (lg_sl as).length ≤ zM.mx M2) (hrest : (rest.map fun v => v.category).sum ≤ 8) (hmc : mc1 + mc2 ≤ mc) (hms : ms1 + ms2 ≤ ms) (hM : zS mc1 ms1 d2 M2 P1 0 (lv_args 0 as) [] w) (k : ∀ r1 w1, P1 r1 w1 → (w.1.length ≤ w1.1.length ∧ zVl w w1 ls rest) ∧ zS mc2 ms2 d M P (pc + 3) ls (r1.toList ++ rest) w1) (hn : as.length = n) (hst : as.reverse ++ rest = st) : zS mc ms d M P pc ls st w := by
  intro p l e R s m args below meth c Q D cA h0 ad0 n0 C ad H locs cells slots la hA hS hg hc hs hl
  subst hst
  have hMet := zMet ok hX hl2 hM l D cA h0 ad
  have hrm := zrm C.2.2.2.2.2.2.2.2.2.1 hd ok.2.1
  have hts := C.2.2.2.2.1
  obtain ⟨hh, hnest⟩ := hk.1.1
  exact z_after (rest := rest) C hS hg hc hs hl (va_runSN (As := as.map (cv ad)) (Ts := zT) ⟨C.1, C.2.1, C.2.2.1, C.2.2.2.1, hts⟩ hMet ⟨va_cnB n hts (zWs_good ok) rfl rfl rfl (C.2.2.2.2.2.2.1.2.2.2.2.2.1 _ hnest) (hts _ hk.1.2.1) ⟨ok.2.2.2.1.1, ok.2.2.2.1.2, hk.1.2.2⟩ hrm, hts _ hk.2, trivial⟩ ⟨zPre_blind D cA h0 ad as, fun U hU hW => ⟨rfl, zPre_now C hA hS hg hU hW⟩⟩ rfl (by rw [List.length_map]; exact hn) hl.1 (by simp [cv]) (by show 2 * 0 + _ ≤ 8; rw [zcat]; omega) (C.dec hf) ⟨by omega, by omega⟩) hmc hms k
theorem z_cI {M2 : zM} {mc1 ms1 mc2 ms2 d2 n idx : Nat} {P1 : Option Value → zW → Prop} {as rest : List Value} {o : Nat} (hrt : zM.rt M2 = none) (ok : zOK M2) (hX : zM.X M2 = none) (hf : zM.f M pc = some (.invokespecial idx, 3)) (hk : zLkI (zM.y M).cls idx (zM.y M2) n) (hd : d2 < d) (hl2 : (lg_sl (.ref o :: as)).length ≤ zM.mx M2) (hrest : (rest.map fun v => v.category).sum ≤ 8) (hmc : mc1 + mc2 ≤ mc) (hms : ms1 + ms2 ≤ ms) (hM : zS mc1 ms1 d2 M2 P1 0 (lv_args 0 (.ref o :: as)) [] w) (k : ∀ r1 w1, P1 r1 w1 → (w.1.length ≤ w1.1.length ∧ zVl w w1 ls rest) ∧ zS mc2 ms2 d M P (pc + 3) ls (r1.toList ++ rest) w1) (hn : as.length = n) (hst : as.reverse ++ .ref o :: rest = st) : zS mc ms d M P pc ls st w := by
  intro p l e R s m args below meth c Q D cA h0 ad0 n0 C ad H locs cells slots la hA hS hg hc hs hl
  subst hst
  have hMet := zMet ok hX hl2 hM l D cA h0 ad
  have hrm := zrm C.2.2.2.2.2.2.2.2.2.1 hd ok.2.1
  have hts := C.2.2.2.2.1
  have cb := callB_of (rm := ({ frames := d2, cells := mc1, slots := ms1, locals := 64 * d2 } : Room)) (mc := mc1) (ms := ms1) n hts (zWs_good ok) rfl rfl rfl (hts _ hk.1.2.1) (hts _ hk.1.1) ⟨ok.2.2.2.1.1, ok.2.2.2.1.2, hk.1.2.2⟩ hrm
  have hMet : Met l (zM.y M2) (zWs M2) ({ frames := d2, cells := mc1, slots := ms1, locals := 64 * d2 } : Room) _ _ mc1 ms1 _ := hMet
  unfold zWs at cb hMet
  rw [hrt] at cb hMet
  exact z_after (rest := rest) C hS hg hc hs hl (va_runI (As := as.map (cv ad)) (Ts := zT) ⟨C.1, C.2.1, C.2.2.1, C.2.2.2.1, hts⟩ hMet ⟨cb, hk.2.1, hts _ hk.2.2⟩ ⟨zPre_blind D cA h0 ad (.ref o :: as), fun U hU hW => ⟨rfl, zPre_now C hA hS hg hU hW⟩⟩ rfl (by rw [List.length_map]; exact hn) hl.1 (by simp [cv]) (by show 2 * 0 + _ ≤ 8; rw [zcat]; omega) (C.dec hf) ⟨by omega, by omega⟩) hmc hms k
theorem z_cIN {M2 : zM} {mc1 ms1 mc2 ms2 d2 n idx : Nat} {P1 : Option Value → zW → Prop} {as rest : List Value} {o : Nat} (hrt : zM.rt M2 = none) (ok : zOK M2) (hX : zM.X M2 = none) (hf : zM.f M pc = some (.invokespecial idx, 3)) (hk : zLkIN (zM.y M).cls idx (zM.y M2) n) (hd : d2 < d) (hl2 : (lg_sl (.ref o :: as)).length ≤ zM.mx M2) (hrest : (rest.map fun v => v.category).sum ≤ 8) (hmc : mc1 + mc2 ≤ mc) (hms : ms1 + ms2 ≤ ms) (hM : zS mc1 ms1 d2 M2 P1 0 (lv_args 0 (.ref o :: as)) [] w) (k : ∀ r1 w1, P1 r1 w1 → (w.1.length ≤ w1.1.length ∧ zVl w w1 ls rest) ∧ zS mc2 ms2 d M P (pc + 3) ls (r1.toList ++ rest) w1) (hn : as.length = n) (hst : as.reverse ++ .ref o :: rest = st) : zS mc ms d M P pc ls st w := by
  intro p l e R s m args below meth c Q D cA h0 ad0 n0 C ad H locs cells slots la hA hS hg hc hs hl
  subst hst
  have hMet := zMet ok hX hl2 hM l D cA h0 ad
  have hrm := zrm C.2.2.2.2.2.2.2.2.2.1 hd ok.2.1
  have hts := C.2.2.2.2.1
  obtain ⟨hh, hnest⟩ := hk.1.1
  have cb := va_cnB (rm := ({ frames := d2, cells := mc1, slots := ms1, locals := 64 * d2 } : Room)) (mc := mc1) (ms := ms1) n hts (zWs_good ok) rfl rfl rfl (C.2.2.2.2.2.2.1.2.2.2.2.2.1 _ hnest) (hts _ hk.1.2.1) ⟨ok.2.2.2.1.1, ok.2.2.2.1.2, hk.1.2.2⟩ hrm
  have hMet : Met l (zM.y M2) (zWs M2) ({ frames := d2, cells := mc1, slots := ms1, locals := 64 * d2 } : Room) _ _ mc1 ms1 _ := hMet
  unfold zWs at cb hMet
  rw [hrt] at cb hMet
  exact z_after (rest := rest) C hS hg hc hs hl (va_runIN (As := as.map (cv ad)) (Ts := zT) ⟨C.1, C.2.1, C.2.2.1, C.2.2.2.1, hts⟩ hMet ⟨cb, hk.2.1, hts _ hk.2.2⟩ ⟨zPre_blind D cA h0 ad (.ref o :: as), fun U hU hW => ⟨rfl, zPre_now C hA hS hg hU hW⟩⟩ rfl (by rw [List.length_map]; exact hn) hl.1 (by simp [cv]) (by show 2 * 0 + _ ≤ 8; rw [zcat]; omega) (C.dec hf) ⟨by omega, by omega⟩) hmc hms k
theorem z_cV {M2 : zM} {mc1 ms1 mc2 ms2 d2 n idx : Nat} {P1 : Option Value → zW → Prop} {as rest : List Value} {o c0 nn : Nat} {q : vw_C} (hq : zcl[c0]? = some q) (hqn : q.1 = (zM.y M2).cls) (ho : w.1[o]? = some (c0, nn)) (ok : zOK M2) (hX : zM.X M2 = none) (hf : zM.f M pc = some (.invokevirtual idx, 3)) (hk : zLkV (zM.y M).cls idx (zM.y M2) n) (hd : d2 < d) (hl2 : (lg_sl (.ref o :: as)).length ≤ zM.mx M2) (hrest : (rest.map fun v => v.category).sum ≤ 8) (hmc : mc1 + mc2 ≤ mc) (hms : ms1 + ms2 ≤ ms) (hM : zS mc1 ms1 d2 M2 P1 0 (lv_args 0 (.ref o :: as)) [] w) (k : ∀ r1 w1, P1 r1 w1 → (w.1.length ≤ w1.1.length ∧ zVl w w1 ls rest) ∧ zS mc2 ms2 d M P (pc + 3) ls (r1.toList ++ rest) w1) (hn : as.length = n) (hst : as.reverse ++ .ref o :: rest = st) : zS mc ms d M P pc ls st w := by
  intro p l e R s m args below meth c Q D cA h0 ad0 n0 C ad H locs cells slots la hA hS hg hc hs hl
  subst hst
  have hMet := zMet ok hX hl2 hM l D cA h0 ad
  have hrm := zrm C.2.2.2.2.2.2.2.2.2.1 hd ok.2.1
  have hts := C.2.2.2.2.1
  have he := zws_at cA ad ho
  rw [zE_obj cA ad w o (zcl_lt hq)] at he
  have hrecv := va_recv C.2.2.2.2.2.1 hA.1 hq he
  rw [hqn] at hrecv
  exact z_after (rest := rest) C hS hg hc hs hl (va_runV (C := (zM.y M2).cls) (As := as.map (cv ad)) (Ts := zT) ⟨C.1, C.2.1, C.2.2.1, C.2.2.2.1, hts⟩ hMet ⟨callB_of n hts (zWs_good ok) rfl rfl rfl (hts _ hk.1.2.1) (hts _ hk.1.1) ⟨ok.2.2.2.1.1, ok.2.2.2.1.2, hk.1.2.2⟩ hrm, hts _ hk.2.1, hts _ hk.2.2⟩ ⟨zPre_blind D cA h0 ad (.ref o :: as), hrecv, fun U hU hW => ⟨rfl, zPre_now C hA hS hg hU hW⟩⟩ rfl (by rw [List.length_map]; exact hn) hl.1 (by simp [cv]) (by show 2 * 0 + _ ≤ 8; rw [zcat]; omega) (C.dec hf) ⟨by omega, by omega⟩) hmc hms k
end Z7
end
section
theorem z_oi1 : Cond.instanceMethod Lib.objectInit ∈ zT := by decide +kernel
theorem z_oi2 : Cond.code Lib.objectInit ⟨#[0xb1]⟩ 1 none ∈ zT := by decide +kernel
def zrI (w : zW) (o : Nat) (f : Nat → Int32) : zW := (w.1, fun a => if a = o then f else zI w a, zL w, zR w)
def zrL (w : zW) (o : Nat) (f : Nat → Int64) : zW := (w.1, zI w, fun a => if a = o then f else zL w a, zR w)
theorem zE_rI_off (cA : Nat → ClassId) (ad : Nat → Nat) (w : zW) {o a : Nat} (f : Nat → Int32) (q : Nat × Nat) (h : a ≠ o) : zE cA ad (zrI w o f) a q = zE cA ad w a q := by
  have e : zI (zrI w o f) a = zI w a := if_neg h
  have e2 : zfv (zrI w o f) ad a q.1 = zfv w ad a q.1 := by funext j; unfold zfv; rw [e]; rfl
  unfold zE
  rw [e, e2]
  rfl
theorem zE_rL_off (cA : Nat → ClassId) (ad : Nat → Nat) (w : zW) {o a : Nat} (f : Nat → Int64) (q : Nat × Nat) (h : a ≠ o) : zE cA ad (zrL w o f) a q = zE cA ad w a q := by
  have e : zL (zrL w o f) a = zL w a := if_neg h
  have e2 : zfv (zrL w o f) ad a q.1 = zfv w ad a q.1 := by funext j; unfold zfv; rw [e]; rfl
  unfold zE
  rw [e, e2]
  rfl
theorem z_sy1 : Cond.native arraycopyName ∈ zT := by decide +kernel
theorem z_sy2 : Cond.static arraycopyName ∈ zT := by decide +kernel
theorem z_sy3 : Cond.initialized "java/lang/System" ∈ zT := by decide +kernel
theorem cv_rf (ad : Nat → Nat) (x : Option Nat) : cv ad (va_rf x) = va_rf (x.map ad) := by cases x <;> rfl
theorem zdef_ok : ∀ c, c < 9 → ∀ k, k < 43 → defaultValue (zty c k) = if zft (zty c k) = 0 then .int 0 else if zft (zty c k) = 1 then .long 0 else .null := by decide +kernel
theorem zcl_43 : ∀ c, c < 9 → ((zcl[c]?).map fun q => decide (q.2.2 ≤ 43)) = some true := by decide +kernel
theorem zN_I (w : zW) (kd : Nat × Nat) : zI (zN w kd) w.1.length = fun _ => 0 := if_pos rfl
theorem zN_L (w : zW) (kd : Nat × Nat) : zL (zN w kd) w.1.length = fun _ => 0 := if_pos rfl
theorem zN_R (w : zW) (kd : Nat × Nat) : zR (zN w kd) w.1.length = fun _ => none := if_pos rfl
/-- the address of the new cell beside the old ones -/
def zad (ad : Nat → Nat) (n q : Nat) : Nat → Nat := fun o => if o = n then q else ad o
theorem zad_n (ad : Nat → Nat) (n q : Nat) : zad ad n q n = q := if_pos rfl
theorem zad_o (ad : Nat → Nat) {n o : Nat} (q : Nat) (h : o ≠ n) : zad ad n q o = ad o := if_neg h
theorem zE_new_old (cA : Nat → ClassId) (ad : Nat → Nat) {w : zW} (q : Nat) (kd : Nat × Nat) (hv : zV2 w) (hn : w.1.length < 1000000) {o : Nat} (ho : o < w.1.length) (k' : Nat × Nat) : zE cA (zad ad w.1.length q) (zN w kd) o k' = zE cA ad w o k' := by
  have hne : o ≠ w.1.length := by omega
  have e1 : zI (zN w kd) o = zI w o := if_neg hne
  have e2 : zL (zN w kd) o = zL w o := if_neg hne
  have e3 : zR (zN w kd) o = zR w o := if_neg hne
  have e4 : ∀ j, (zR w o j).map (zad ad w.1.length q) = (zR w o j).map ad := by
    intro j
    cases hr : zR w o j with
    | none => rfl
    | some x =>
      show some _ = some _
      rw [zad_o ad q (by rcases hv o j x ho hr with h | h <;> omega)]
  have e5 : zfv (zN w kd) (zad ad w.1.length q) o k'.1 = zfv w ad o k'.1 := by
    funext j
    unfold zfv
    rw [e1, e2, e3, e4]
  unfold zE
  rw [e5, e1, e2, e3]
  simp only [e4]
theorem zws_new (cA : Nat → ClassId) (ad : Nat → Nat) {w : zW} (q : Nat) (kd : Nat × Nat) (hv : zV2 w) (hn : w.1.length < 1000000) : zws cA (zad ad w.1.length q) (zN w kd) = zws cA ad w ++ [(q, zE cA (zad ad w.1.length q) (zN w kd) w.1.length kd)] := by
  have hk : (zN w kd).1 = w.1 ++ [kd] := rfl
  unfold zws
  rw [hk, List.mapIdx_append, List.mapIdx_singleton]
  congr 1
  · apply List.ext_getElem?
    intro i
    rw [List.getElem?_mapIdx, List.getElem?_mapIdx]
    cases hi : w.1[i]? with
    | none => rfl
    | some k' =>
      have hlt : i < w.1.length := (List.getElem?_eq_some_iff.mp hi).1
      refine congrArg some ?_
      show (_, zE _ _ _ _ _) = (_, zE _ _ _ _ _)
      rw [zad_o ad q (by omega), zE_new_old cA ad q kd hv hn hlt]
  · rw [Nat.zero_add, zad_n]
theorem zAW_new {D : va_G} {cA : Nat → ClassId} {h0 : Nat} {ad : Nat → Nat} {w : zW} {H H1 : Heap} {kd : Nat × Nat} {q : Nat} {e : va_E} (hA : zAW D cA h0 ad w H) (hn : w.1.length < 1000000) (he : zE cA (zad ad w.1.length q) (zN w kd) w.1.length kd = e) (hkd : kd.1 < 9 → ∃ x, zcl[kd.1]? = some x ∧ kd.2 = x.2.2)
    (hP : va_P D zcl (zws cA ad w ++ [(q, e)]) H1) (hD : va_D (zA h0) (zws cA ad w ++ [(q, e)])) : zAW D cA h0 (zad ad w.1.length q) (zN w kd) H1 := by
  have hw := zws_new cA ad q kd hA.2.2.1 hn
  rw [he] at hw
  rw [← hw] at hP hD
  have hlen : (zN w kd).1.length = w.1.length + 1 := by simp [zN]
  refine ⟨hP, hD, ?_, by rw [hlen]; omega, ?_⟩
  · intro o k r ho hr
    rw [hlen] at ho ⊢
    by_cases h : o = w.1.length
    · subst h
      rw [zN_R] at hr
      cases hr
    · have e3 : zR (zN w kd) o = zR w o := if_neg h
      rw [e3] at hr
      rcases hA.2.2.1 o k r (by omega) hr with h | h <;> omega
  · intro o c n ho hc
    have ho : (w.1 ++ [kd])[o]? = some (c, n) := ho
    rw [List.getElem?_append] at ho
    split at ho
    · exact hA.2.2.2.2 o c n ho hc
    · rename_i hge
      have h0 : o - w.1.length = 0 := by
        rcases Nat.eq_zero_or_pos (o - w.1.length) with h | h
        · exact h
        · rw [List.getElem?_eq_none (by simp; omega)] at ho; cases ho
      rw [h0] at ho
      cases Option.some.inj ho
      exact hkd hc
theorem zg_new {ad ad0 : Nat → Nat} {n0 q : Nat} {w : zW} {kd : Nat × Nat} (hg : (∀ o, (o < n0 ∨ w.1.length ≤ o) → ad o = ad0 o) ∧ n0 ≤ w.1.length) : (∀ o, (o < n0 ∨ (zN w kd).1.length ≤ o) → zad ad w.1.length q o = ad0 o) ∧ n0 ≤ (zN w kd).1.length := by
  have hlen : (zN w kd).1.length = w.1.length + 1 := by simp [zN]
  rw [hlen]
  refine ⟨fun o ho => ?_, by omega⟩
  rw [zad_o ad q (by omega)]
  exact hg.1 o (by omega)
theorem zn_vl {w : zW} {kd : Nat × Nat} {ad : Nat → Nat} {q : Nat} : ∀ o, (o < w.1.length ∨ (zN w kd).1.length ≤ o) → zad ad w.1.length q o = ad o := by
  intro o ho
  have hlen : (zN w kd).1.length = w.1.length + 1 := by simp [zN]
  exact zad_o ad q (by omega)
section Z8
variable {mc ms d : Nat} {M : zM} {P : Option Value → zW → Prop} {pc : Nat} {ls : List (Nat × Value)} {st : List Value} {w : zW}
theorem z_new {idx c0 : Nat} {x : vw_C} (hf : zM.f M pc = some (.new idx, 3)) (hq : zcl[c0]? = some x) (hw : Cond.classLink (zM.y M).cls idx x.1 ∈ zT ∧ Cond.instantiable x.1 x.2.2 ∈ zT ∧ Cond.initialized x.1 ∈ zT) (hn : w.1.length < 1000000) (hv : zVl w (zN w (c0, x.2.2)) ls st) (k : zS mc ms d M P (pc + 3) ls (.ref w.1.length :: st) (zN w (c0, x.2.2))) : zS (mc + 1) (ms + x.2.2) d M P pc ls st w := by
  intro p l e R s m args below meth c Q D cA h0 ad0 n0 C ad H locs cells slots la hA hS hg hc hs hl
  have hts := C.2.2.2.2.1
  have hc9 := zcl_lt hq
  have h43 : x.2.2 ≤ 43 := by
    have h := zcl_43 c0 hc9
    rw [hq] at h
    simpa using h
  refine va_new (C := x.1) (T := x.2.1) (N := x.2.2) (fs := (List.range x.2.2).map (zfv (zN w (c0, x.2.2)) ad w.1.length c0)) C.1 C.2.1 hts (zcls hq).1 (zty c0) (zcls hq).2.1 C.2.2.2.1 (hts _ hw.1) (hts _ hw.2.1) (hts _ hw.2.2) C.2.2.2.2.2.1 hA.1 hA.2.1 hS (fun q h => Nat.le_trans C.2.2.2.2.2.2.2.1 h) hq ?_ (by omega) (by omega) (C.dec hf) (fun q H1 hP hD hS1 => ?_)
  · intro j hj
    rw [zdef_ok c0 hc9 j (by omega)]
    unfold vp_V
    rw [List.getD_eq_getElem?_getD, zfs_at hj]
    unfold zfv
    rw [zN_I, zN_L, zN_R]
    rfl
  · obtain ⟨q1, q2⟩ := zVl_ls hv (zn_vl (ad := ad) (q := q))
    have he : zE cA (zad ad w.1.length q) (zN w (c0, x.2.2)) w.1.length (c0, x.2.2) = .inr (c0, (List.range x.2.2).map (zfv (zN w (c0, x.2.2)) ad w.1.length c0)) := by
      rw [zE_obj _ _ _ _ hc9]
      congr 2
      apply List.map_congr_left
      intro j _
      unfold zfv
      rw [zN_I, zN_L, zN_R]
      rfl
    have h := k p l e R s m args below meth c Q D cA h0 ad0 n0 C (zad ad w.1.length q) H1 locs (cells + 1) (slots + x.2.2) la (zAW_new hA hn he (fun _ => ⟨x, hq, rfl⟩) hP hD) hS1 (zg_new hg) (by omega) (by omega) (by rw [q1]; exact hl)
    rw [List.map_cons, q2] at h
    have e : cv (zad ad w.1.length q) (.ref w.1.length) = .ref q := by show Value.ref _ = _; rw [zad_n]
    rw [e] at h
    exact h
theorem z_newaI {N : Nat} {v : Int32} (hf : zM.f M pc = some (.newarray .int, 2)) (hw : Cond.arrayClass .int ∈ zT) (hN : Int32.ofNat N = v) (hs31 : N ≤ 10000) (hn : w.1.length < 1000000) (hv : zVl w (zN w (10, N)) ls st) (k : zS mc ms d M P (pc + 2) ls (.ref w.1.length :: st) (zN w (10, N))) : zS (mc + 1) (ms + N) d M P pc ls (.int v :: st) w := by
  intro p l e R s m args below meth c Q D cA h0 ad0 n0 C ad H locs cells slots la hA hS hg hc hs hl
  have hts := C.2.2.2.2.1
  subst hN
  refine va_newa (ty := .int) (N' := N) (a0 := (N, .inl (fun _ => 0))) (atype := .int) C.1 C.2.1 (hts _ hw) rfl C.2.2.2.2.2.1 hA.1 hA.2.1 hS (fun q h => Nat.le_trans C.2.2.2.2.2.2.2.1 h) (fun _ => rfl) (nI_pos (n := N) (by omega)) (nI_clamp (n := N) (by omega)) (by show N * 4 ≤ _; omega) (by omega) (by omega) (C.dec hf) (fun q cX H1 hK1 hP hD hS1 => ?_)
  have hcX : cX = cA 10 := by
    have h1 := (hK1.2 5 (cX, .int) rfl).2
    have h2 := (hK1.2 1 (cA 10, .int) rfl).2
    exact Option.some.inj (h1.symm.trans h2)
  subst hcX
  obtain ⟨q1, q2⟩ := zVl_ls hv (zn_vl (ad := ad) (q := q))
  have he : zE cA (zad ad w.1.length q) (zN w (10, N)) w.1.length (10, N) = .inl (cA 10, N, .inl (fun _ => 0)) := by
    show Sum.inl (_, _, Sum.inl (zI _ _)) = _
    rw [zN_I]
  have h := k p l e R s m args below meth c Q D cA h0 ad0 n0 C (zad ad w.1.length q) H1 locs (cells + 1) (slots + N) la (zAW_new hA hn he (fun h => absurd h (by simp)) hP hD) hS1 (zg_new hg) (by omega) (by omega) (by rw [q1]; exact hl)
  rw [List.map_cons, q2] at h
  have e : cv (zad ad w.1.length q) (.ref w.1.length) = .ref q := by show Value.ref _ = _; rw [zad_n]
  rw [e] at h
  exact h
theorem z_newaB {N : Nat} {v : Int32} (hf : zM.f M pc = some (.newarray .byte, 2)) (hw : Cond.arrayClass .byte ∈ zT) (hN : Int32.ofNat N = v) (hs31 : N ≤ 10000) (hn : w.1.length < 1000000) (hv : zVl w (zN w (9, N)) ls st) (k : zS mc ms d M P (pc + 2) ls (.ref w.1.length :: st) (zN w (9, N))) : zS (mc + 1) (ms + N) d M P pc ls (.int v :: st) w := by
  intro p l e R s m args below meth c Q D cA h0 ad0 n0 C ad H locs cells slots la hA hS hg hc hs hl
  have hts := C.2.2.2.2.1
  subst hN
  refine va_newa (ty := .byte) (N' := N) (a0 := (N, .inl (fun _ => 0))) (atype := .byte) C.1 C.2.1 (hts _ hw) rfl C.2.2.2.2.2.1 hA.1 hA.2.1 hS (fun q h => Nat.le_trans C.2.2.2.2.2.2.2.1 h) (fun _ => rfl) (nI_pos (n := N) (by omega)) (nI_clamp (n := N) (by omega)) (by show N * 1 ≤ _; omega) (by omega) (by omega) (C.dec hf) (fun q cX H1 hK1 hP hD hS1 => ?_)
  have hcX : cX = cA 9 := by
    have h1 := (hK1.2 5 (cX, .byte) rfl).2
    have h2 := (hK1.2 0 (cA 9, .byte) rfl).2
    exact Option.some.inj (h1.symm.trans h2)
  subst hcX
  obtain ⟨q1, q2⟩ := zVl_ls hv (zn_vl (ad := ad) (q := q))
  have he : zE cA (zad ad w.1.length q) (zN w (9, N)) w.1.length (9, N) = .inl (cA 9, N, .inl (fun _ => 0)) := by
    show Sum.inl (_, _, Sum.inl (zI _ _)) = _
    rw [zN_I]
  have h := k p l e R s m args below meth c Q D cA h0 ad0 n0 C (zad ad w.1.length q) H1 locs (cells + 1) (slots + N) la (zAW_new hA hn he (fun h => absurd h (by simp)) hP hD) hS1 (zg_new hg) (by omega) (by omega) (by rw [q1]; exact hl)
  rw [List.map_cons, q2] at h
  have e : cv (zad ad w.1.length q) (.ref w.1.length) = .ref q := by show Value.ref _ = _; rw [zad_n]
  rw [e] at h
  exact h
theorem z_newaZ {N : Nat} {v : Int32} (hf : zM.f M pc = some (.newarray .boolean, 2)) (hw : Cond.arrayClass .boolean ∈ zT) (hN : Int32.ofNat N = v) (hs31 : N ≤ 10000) (hn : w.1.length < 1000000) (hv : zVl w (zN w (12, N)) ls st) (k : zS mc ms d M P (pc + 2) ls (.ref w.1.length :: st) (zN w (12, N))) : zS (mc + 1) (ms + N) d M P pc ls (.int v :: st) w := by
  intro p l e R s m args below meth c Q D cA h0 ad0 n0 C ad H locs cells slots la hA hS hg hc hs hl
  have hts := C.2.2.2.2.1
  subst hN
  refine va_newa (ty := .boolean) (N' := N) (a0 := (N, .inl (fun _ => 0))) (atype := .boolean) C.1 C.2.1 (hts _ hw) rfl C.2.2.2.2.2.1 hA.1 hA.2.1 hS (fun q h => Nat.le_trans C.2.2.2.2.2.2.2.1 h) (fun _ => rfl) (nI_pos (n := N) (by omega)) (nI_clamp (n := N) (by omega)) (by show N * 1 ≤ _; omega) (by omega) (by omega) (C.dec hf) (fun q cX H1 hK1 hP hD hS1 => ?_)
  have hcX : cX = cA 12 := by
    have h1 := (hK1.2 5 (cX, .boolean) rfl).2
    have h2 := (hK1.2 3 (cA 12, .boolean) rfl).2
    exact Option.some.inj (h1.symm.trans h2)
  subst hcX
  obtain ⟨q1, q2⟩ := zVl_ls hv (zn_vl (ad := ad) (q := q))
  have he : zE cA (zad ad w.1.length q) (zN w (12, N)) w.1.length (12, N) = .inl (cA 12, N, .inl (fun _ => 0)) := by
    show Sum.inl (_, _, Sum.inl (zI _ _)) = _
    rw [zN_I]
  have h := k p l e R s m args below meth c Q D cA h0 ad0 n0 C (zad ad w.1.length q) H1 locs (cells + 1) (slots + N) la (zAW_new hA hn he (fun h => absurd h (by simp)) hP hD) hS1 (zg_new hg) (by omega) (by omega) (by rw [q1]; exact hl)
  rw [List.map_cons, q2] at h
  have e : cv (zad ad w.1.length q) (.ref w.1.length) = .ref q := by show Value.ref _ = _; rw [zad_n]
  rw [e] at h
  exact h
theorem z_newaJ {N : Nat} {v : Int32} (hf : zM.f M pc = some (.newarray .long, 2)) (hw : Cond.arrayClass .long ∈ zT) (hN : Int32.ofNat N = v) (hs31 : N ≤ 10000) (hn : w.1.length < 1000000) (hv : zVl w (zN w (11, N)) ls st) (k : zS mc ms d M P (pc + 2) ls (.ref w.1.length :: st) (zN w (11, N))) : zS (mc + 1) (ms + N) d M P pc ls (.int v :: st) w := by
  intro p l e R s m args below meth c Q D cA h0 ad0 n0 C ad H locs cells slots la hA hS hg hc hs hl
  have hts := C.2.2.2.2.1
  subst hN
  refine va_newa (ty := .long) (N' := N) (a0 := (N, .inr (.inl (fun _ => 0)))) (atype := .long) C.1 C.2.1 (hts _ hw) rfl C.2.2.2.2.2.1 hA.1 hA.2.1 hS (fun q h => Nat.le_trans C.2.2.2.2.2.2.2.1 h) (fun _ => rfl) (nI_pos (n := N) (by omega)) (nI_clamp (n := N) (by omega)) (by show N * 8 ≤ _; omega) (by omega) (by omega) (C.dec hf) (fun q cX H1 hK1 hP hD hS1 => ?_)
  have hcX : cX = cA 11 := by
    have h1 := (hK1.2 5 (cX, .long) rfl).2
    have h2 := (hK1.2 2 (cA 11, .long) rfl).2
    exact Option.some.inj (h1.symm.trans h2)
  subst hcX
  obtain ⟨q1, q2⟩ := zVl_ls hv (zn_vl (ad := ad) (q := q))
  have he : zE cA (zad ad w.1.length q) (zN w (11, N)) w.1.length (11, N) = .inl (cA 11, N, .inr (.inl (fun _ => 0))) := by
    show Sum.inl (_, _, Sum.inr (Sum.inl (zL _ _))) = _
    rw [zN_L]
  have h := k p l e R s m args below meth c Q D cA h0 ad0 n0 C (zad ad w.1.length q) H1 locs (cells + 1) (slots + N) la (zAW_new hA hn he (fun h => absurd h (by simp)) hP hD) hS1 (zg_new hg) (by omega) (by omega) (by rw [q1]; exact hl)
  rw [List.map_cons, q2] at h
  have e : cv (zad ad w.1.length q) (.ref w.1.length) = .ref q := by show Value.ref _ = _; rw [zad_n]
  rw [e] at h
  exact h
theorem z_newq {N idx : Nat} {v : Int32} (hf : zM.f M pc = some (.anewarray idx, 3)) (hw : Cond.classLink (zM.y M).cls idx RX2 ∈ zT) (hN : Int32.ofNat N = v) (hs31 : N ≤ 10000) (hn : w.1.length < 1000000) (hv : zVl w (zN w (13, N)) ls st) (k : zS mc ms d M P (pc + 3) ls (.ref w.1.length :: st) (zN w (13, N))) : zS (mc + 1) (ms + N) d M P pc ls (.int v :: st) w := by
  intro p l e R s m args below meth c Q D cA h0 ad0 n0 C ad H locs cells slots la hA hS hg hc hs hl
  have hts := C.2.2.2.2.1
  subst hN
  refine va_newq (C := RX2) (N' := N) C.1 C.2.1 C.2.2.2.1 (hts _ hw) C.2.2.2.2.2.2.1.2.2.2.2.2.2.2 C.2.2.2.2.2.1 hA.1 hA.2.1 hS (fun q h => Nat.le_trans C.2.2.2.2.2.2.2.1 h) (nI_pos (n := N) (by omega)) (nI_clamp (n := N) (by omega)) (by omega) (by omega) (by omega) (C.dec hf) (fun q cX H1 hK1 hP hD hS1 => ?_)
  have hcX : cX = cA 13 := by
    obtain ⟨_, _, _, _, _, h1⟩ := (hK1.2 5 (cX, .object RX2) rfl).2
    obtain ⟨_, _, _, _, _, h2⟩ := (hK1.2 4 (cA 13, .object RX2) rfl).2
    exact Option.some.inj (h1.symm.trans h2)
  subst hcX
  obtain ⟨q1, q2⟩ := zVl_ls hv (zn_vl (ad := ad) (q := q))
  have he : zE cA (zad ad w.1.length q) (zN w (13, N)) w.1.length (13, N) = .inl (cA 13, N, .inr (.inr (.inr (.inr (fun _ => none))))) := by
    show Sum.inl (_, _, Sum.inr (Sum.inr (Sum.inr (Sum.inr (fun k => (zR _ _ k).map _))))) = _
    rw [zN_R]
    rfl
  have h := k p l e R s m args below meth c Q D cA h0 ad0 n0 C (zad ad w.1.length q) H1 locs (cells + 1) (slots + N) la (zAW_new hA hn he (fun h => absurd h (by simp)) hP hD) hS1 (zg_new hg) (by omega) (by omega) (by rw [q1]; exact hl)
  rw [List.map_cons, q2] at h
  have e : cv (zad ad w.1.length q) (.ref w.1.length) = .ref q := by show Value.ref _ = _; rw [zad_n]
  rw [e] at h
  exact h
theorem z_aast {o n x nn : Nat} {i : Int32} (hf : zM.f M pc = some (.aastore, 1)) (ho : w.1[o]? = some (13, n)) (hx : w.1[x]? = some (2, nn)) (hi : vp_in i n) (k : zS mc ms d M P (pc + 1) ls st (zsR w o i.toNatClampNeg (some x))) : zS mc ms d M P pc ls (.ref x :: .int i :: .ref o :: st) w := by
  intro p l e R s m args below meth c Q D cA h0 ad0 n0 C ad H locs cells slots la hA hS hg hc hs hl
  have hxl : x < w.1.length := (List.getElem?_eq_some_iff.mp hx).1
  have hex := zws_at cA ad hx
  rw [zE_obj cA ad w x (by decide)] at hex
  refine va_astq (r := (RX2, TX2, 2)) C.1 C.2.1 C.2.2.2.2.2.1 hA.1 hA.2.1 hS o 4 x 2 (zws_at cA ad ho) rfl hex rfl hi (C.dec hf) (fun H1 locs1 hP hD hS1 => ?_)
  exact k p l e R s m args below meth c Q D cA h0 ad0 n0 C ad H1 locs1 cells slots la (zAW_set hA rfl ho (by
    show Sum.inl (_, _, Sum.inr (Sum.inr (Sum.inr (Sum.inr _)))) = Sum.inl (_, _, Sum.inr (Sum.inr (Sum.inr (Sum.inr _))))
    congr 7
    funext b
    show (z2 (zR w) o _ _ o b).map ad = va_up _ _ _ b
    rw [z2_row]
    unfold va_up
    by_cases hb : b = i.toNatClampNeg <;> simp [hb]) (fun a q' ha => zE_R_off cA ad w _ _ q' ha) (zV2_R hA.2.2.1 (fun r e => by cases e; exact Or.inl hxl)) hP hD) hS1 hg hc hs hl
theorem z_getA {idx c0 j n o : Nat} {fin : Bool} (hf : zM.f M pc = some (.getfield idx, 3)) (hl0 : zFl (zM.y M).cls idx c0 j fin) (ho : w.1[o]? = some (c0, n)) (ht : zft (zty c0 j) = 2) (k : zS mc ms d M P (pc + 3) ls (va_rf (zR w o j) :: st) w) : zS mc ms d M P pc ls (.ref o :: st) w := by
  cases hv : zR w o j with
  | none => rw [hv] at k; exact z_getN hf hl0 ho ht hv k
  | some x => rw [hv] at k; exact z_getR hf hl0 ho ht hv k
theorem z_putA {idx c0 j n o : Nat} {x : Option Nat} (hf : zM.f M pc = some (.putfield idx, 3)) (hl0 : zFl (zM.y M).cls idx c0 j false) (ho : w.1[o]? = some (c0, n)) (ht : zft (zty c0 j) = 2) (hx : ∀ a, x = some a → a < w.1.length ∨ 1000000 ≤ a) (k : zS mc ms d M P (pc + 3) ls st (zsR w o j x)) : zS mc ms d M P pc ls (va_rf x :: .ref o :: st) w := by
  cases x with
  | none => exact z_putN hf hl0 ho ht k
  | some x => exact z_putR hf hl0 ho ht (hx x rfl) k
theorem z_aald2 {o n : Nat} {i : Int32} (hf : zM.f M pc = some (.aaload, 1)) (ho : w.1[o]? = some (13, n)) (hi : vp_in i n) (k : zS mc ms d M P (pc + 1) ls (va_rf (zR w o i.toNatClampNeg) :: st) w) : zS mc ms d M P pc ls (.int i :: .ref o :: st) w := by
  cases hv : zR w o i.toNatClampNeg with
  | none => rw [hv] at k; exact z_aaldN hf ho hi hv k
  | some x => rw [hv] at k; exact z_aald hf ho hi hv k
theorem z_aretA {x : Option Nat} {C0 : String} (hf : zM.f M pc = some (.areturn, 1)) (hr : zM.rt M = some (.object C0)) (hP : P (some (va_rf x)) w) : zS mc ms d M P pc ls [va_rf x] w := by
  cases x with
  | none => exact z_aretN hf hr hP
  | some x => exact z_aret hf hr hP
theorem zkZ_cv {ad ad2 : Nat → Nat} (ha : ∀ o, 1000000 ≤ o → ad2 o = ad o) : ∀ q ∈ zkZ, cv ad2 q.2.2.2 = cv ad q.2.2.2 := by
  intro q hq
  simp only [zkZ, List.mem_cons, List.not_mem_nil, or_false] at hq
  rcases hq with rfl | rfl | rfl | rfl | rfl | rfl | rfl | rfl | rfl | rfl | rfl | rfl | rfl | rfl | rfl | rfl | rfl | rfl <;> first | rfl | (show Value.ref (ad2 _) = Value.ref (ad _); rw [ha _ (by decide)])
theorem z_adc {ad ad0 : Nat → Nat} {n0 : Nat} (hg : (∀ o, (o < n0 ∨ w.1.length ≤ o) → ad o = ad0 o) ∧ n0 ≤ w.1.length) (hn : w.1.length ≤ 1000000) : ∀ o, 1000000 ≤ o → ad o = ad0 o := fun o ho => hg.1 o (Or.inr (Nat.le_trans hn ho))
theorem z_gets {idx : Nat} {C0 n1 d1 : String} {v : Value} (hf : zM.f M pc = some (.getstatic idx, 3)) (hm : (C0, n1, d1, v) ∈ zkZ) (hw : Cond.fieldLink (zM.y M).cls idx C0 n1 d1 ∈ zT) (k : zS mc ms d M P (pc + 3) ls (v :: st) w) : zS mc ms d M P pc ls st w := by
  intro p l e R s m args below meth c Q D cA h0 ad0 n0 C ad H locs cells slots la hA hS hg hc hs hl
  have hz := C.2.2.2.2.2.2.1.1 _ hm
  rw [← zkZ_cv (z_adc hg hA.2.2.2.1) _ hm] at hz
  exact va_gets C.1 C.2.1 hz hS C.2.2.2.1 (C.2.2.2.2.1 _ hw) (fun _ h => h) (C.dec hf) (k p l e R s m args below meth c Q D cA h0 ad0 n0 C ad H locs cells slots la hA hS hg hc hs hl)
theorem z_getsN {idx : Nat} {C0 n1 d1 h1 : String} {v : Value} (hf : zM.f M pc = some (.getstatic idx, 3)) (hm : (C0, n1, d1, v) ∈ zkZ) (hw : ((zM.y M).cls, idx, C0, n1, d1, h1) ∈ zkNF) (k : zS mc ms d M P (pc + 3) ls (v :: st) w) : zS mc ms d M P pc ls st w := by
  intro p l e R s m args below meth c Q D cA h0 ad0 n0 C ad H locs cells slots la hA hS hg hc hs hl
  have hz := C.2.2.2.2.2.2.1.1 _ hm
  rw [← zkZ_cv (z_adc hg hA.2.2.2.1) _ hm] at hz
  exact va_getsN C.1 C.2.1 hz hS C.2.2.2.1 (va_Nw.use rfl (C.2.2.2.2.2.2.1.2.2.2.2.2.2.1 _ hw)) (fun _ h => h) (C.dec hf) (k p l e R s m args below meth c Q D cA h0 ad0 n0 C ad H locs cells slots la hA hS hg hc hs hl)
/-- a constant array of ints, and the law's script -/
theorem z_tE {i : Int32} (hf : zM.f M pc = some (.iaload, 1)) (hi : vp_in i 8) (k : zS mc ms d M P (pc + 1) ls (.int (zkE.getD i.toNatClampNeg 0) :: st) w) : zS mc ms d M P pc ls (.int i :: .ref 1000019 :: st) w := by
  intro p l e R s m args below meth c Q D cA h0 ad0 n0 C ad H locs cells slots la hA hS hg hc hs hl
  have h := C.2.2.2.2.2.2.1.2.1 _ (show (FieldType.int, 1000019, 8, fun k => Value.int (zkE.getD k 0)) ∈ zkT from List.mem_cons_self)
  have h : va_T .int (ad0 1000019) 8 (fun k => .int (zkE.getD k 0)) (zA h0) s s.heap := h
  rw [← z_adc hg hA.2.2.2.1 1000019 (by decide)] at h
  exact va_ti C.1 C.2.1 h hS hi rfl (C.dec hf) (k p l e R s m args below meth c Q D cA h0 ad0 n0 C ad H locs cells slots la hA hS hg hc hs hl)
theorem z_tS {i : Int32} (hf : zM.f M pc = some (.iaload, 1)) (hi : vp_in i 8) (k : zS mc ms d M P (pc + 1) ls (.int (zkS.getD i.toNatClampNeg 0) :: st) w) : zS mc ms d M P pc ls (.int i :: .ref 1000020 :: st) w := by
  intro p l e R s m args below meth c Q D cA h0 ad0 n0 C ad H locs cells slots la hA hS hg hc hs hl
  have h := C.2.2.2.2.2.2.1.2.1 _ (show (FieldType.int, 1000020, 8, fun k => Value.int (zkS.getD k 0)) ∈ zkT from List.mem_cons_of_mem _ List.mem_cons_self)
  have h : va_T .int (ad0 1000020) 8 (fun k => .int (zkS.getD k 0)) (zA h0) s s.heap := h
  rw [← z_adc hg hA.2.2.2.1 1000020 (by decide)] at h
  exact va_ti C.1 C.2.1 h hS hi rfl (C.dec hf) (k p l e R s m args below meth c Q D cA h0 ad0 n0 C ad H locs cells slots la hA hS hg hc hs hl)
theorem z_tA {i : Int32} (hf : zM.f M pc = some (.aaload, 1)) (hi : vp_in i 19) (k : zS mc ms d M P (pc + 1) ls (.ref (1000000 + i.toNatClampNeg) :: st) w) : zS mc ms d M P pc ls (.int i :: .ref 1000021 :: st) w := by
  intro p l e R s m args below meth c Q D cA h0 ad0 n0 C ad H locs cells slots la hA hS hg hc hs hl
  have h := C.2.2.2.2.2.2.1.2.1 _ (show (FieldType.object "SmokeWeds$Word", 1000021, 19, fun k => Value.ref (1000000 + k)) ∈ zkT from List.mem_cons_of_mem _ (List.mem_cons_of_mem _ List.mem_cons_self))
  have h : va_T (.object "SmokeWeds$Word") (ad0 1000021) 19 (fun k => .ref (ad0 (1000000 + k))) (zA h0) s s.heap := h
  rw [← z_adc hg hA.2.2.2.1 1000021 (by decide)] at h
  exact vb_tq (v := .ref (ad (1000000 + i.toNatClampNeg))) C.1 C.2.1 h hS hi (by show Value.ref _ = _; rw [z_adc hg hA.2.2.2.1 _ (by omega)]) (C.dec hf) (k p l e R s m args below meth c Q D cA h0 ad0 n0 C ad H locs cells slots la hA hS hg hc hs hl)
theorem z_tAl (hf : zM.f M pc = some (.arraylength, 1)) (k : zS mc ms d M P (pc + 1) ls (.int 19 :: st) w) : zS mc ms d M P pc ls (.ref 1000021 :: st) w := by
  intro p l e R s m args below meth c Q D cA h0 ad0 n0 C ad H locs cells slots la hA hS hg hc hs hl
  have h := C.2.2.2.2.2.2.1.2.1 _ (show (FieldType.object "SmokeWeds$Word", 1000021, 19, fun k => Value.ref (1000000 + k)) ∈ zkT from List.mem_cons_of_mem _ (List.mem_cons_of_mem _ List.mem_cons_self))
  have h : va_T (.object "SmokeWeds$Word") (ad0 1000021) 19 (fun k => .ref (ad0 (1000000 + k))) (zA h0) s s.heap := h
  rw [← z_adc hg hA.2.2.2.1 1000021 (by decide)] at h
  exact va_tlen (v := 19) C.1 C.2.1 h hS rfl (C.dec hf) (k p l e R s m args below meth c Q D cA h0 ad0 n0 C ad H locs cells slots la hA hS hg hc hs hl)
theorem z_tX {i : Int32} {x : Nat × (Nat → Int32)} (hf : zM.f M pc = some (.iaload, 1)) (hX : zM.X M = some x) (hi : vp_in i x.1) (k : zS mc ms d M P (pc + 1) ls (.int (x.2 i.toNatClampNeg) :: st) w) : zS mc ms d M P pc ls (.int i :: .ref 1000030 :: st) w := by
  intro p l e R s m args below meth c Q D cA h0 ad0 n0 C ad H locs cells slots la hA hS hg hc hs hl
  have h := C.2.2.2.2.2.2.2.2.2.2.2.1 x hX
  rw [← z_adc hg hA.2.2.2.1 1000030 (by decide)] at h
  exact va_ti C.1 C.2.1 h hS hi rfl (C.dec hf) (k p l e R s m args below meth c Q D cA h0 ad0 n0 C ad H locs cells slots la hA hS hg hc hs hl)
theorem z_tXl {x : Nat × (Nat → Int32)} {v : Int32} (hf : zM.f M pc = some (.arraylength, 1)) (hX : zM.X M = some x) (hv : Int32.ofNat x.1 = v) (k : zS mc ms d M P (pc + 1) ls (.int v :: st) w) : zS mc ms d M P pc ls (.ref 1000030 :: st) w := by
  intro p l e R s m args below meth c Q D cA h0 ad0 n0 C ad H locs cells slots la hA hS hg hc hs hl
  have h := C.2.2.2.2.2.2.2.2.2.2.2.1 x hX
  rw [← z_adc hg hA.2.2.2.1 1000030 (by decide)] at h
  exact va_tlen C.1 C.2.1 h hS hv (C.dec hf) (k p l e R s m args below meth c Q D cA h0 ad0 n0 C ad H locs cells slots la hA hS hg hc hs hl)
/-- a field of an enum's constant -/
theorem z_kget {idx i : Nat} {n1 d1 : String} {f : Nat → Value} (hf : zM.f M pc = some (.getfield idx, 3)) (hm : ("SmokeWeds$Word", n1, d1, f) ∈ zkF) (hi : i < 19) (hw : Cond.fieldLink (zM.y M).cls idx "SmokeWeds$Word" n1 d1 ∈ zT) (hc1 : ∀ ad, cv ad (f i) = f i) (k : zS mc ms d M P (pc + 3) ls (f i :: st) w) : zS mc ms d M P pc ls (.ref (1000000 + i) :: st) w := by
  intro p l e R s m args below meth c Q D cA h0 ad0 n0 C ad H locs cells slots la hA hS hg hc hs hl
  have h := C.2.2.2.2.2.2.1.2.2.1 _ hm i hi
  rw [← z_adc hg hA.2.2.2.1 (1000000 + i) (by omega)] at h
  refine va_getX (N := 1) (i := 0) (v := fun _ => f i) (ad := fun _ => ad (1000000 + i)) C.1 C.2.1 (fun _ _ => h) (by decide) hS C.2.2.2.1 (C.2.2.2.2.1 _ hw) (fun _ h => h) (C.dec hf) ?_
  have hk := k p l e R s m args below meth c Q D cA h0 ad0 n0 C ad H locs cells slots la hA hS hg hc hs hl
  rw [List.map_cons, hc1] at hk
  exact hk
def zid (w : zW) (x : Option Nat) : Prop := ∀ o, x = some o → o < w.1.length ∨ (1000000 ≤ o ∧ o < 1000019)
theorem zid_inj {D : va_G} {cA : Nat → ClassId} {h0 : Nat} {ad ad0 : Nat → Nat} {H : Heap} {s : State} {n0 : Nat} (hA : zAW D cA h0 ad w H) (hKC : zKC h0 ad0 s s.heap) (hg : (∀ o, (o < n0 ∨ w.1.length ≤ o) → ad o = ad0 o) ∧ n0 ≤ w.1.length) {x y : Option Nat} (hx : zid w x) (hy : zid w y) : x.map ad = y.map ad ↔ x = y := by
  refine ⟨fun h => ?_, fun h => by rw [h]⟩
  have hw : ∀ a, a < w.1.length → h0 ≤ ad a := by
    intro a ha
    obtain ⟨q, hq⟩ : ∃ q, w.1[a]? = some q := ⟨_, List.getElem?_eq_getElem ha⟩
    exact hA.2.1.2 a _ (zws_at cA ad hq)
  have hcs : ∀ a, 1000000 ≤ a → a < 1000019 → ¬ h0 ≤ ad a := by
    intro a h1 h2
    obtain ⟨i, rfl⟩ : ∃ i, a = 1000000 + i := ⟨a - 1000000, by omega⟩
    have h := hKC.2.2.1 _ (List.mem_cons_self (a := ("SmokeWeds$Word", "key", "J", fun k => Value.long (zkK.getD k 0))) (l := _)) i (by omega)
    obtain ⟨_, _, _, _, _, _, _, _, _, _, h⟩ := h
    rw [z_adc hg hA.2.2.2.1 (1000000 + i) (by omega)]
    exact h
  cases x with
  | none => cases y with
    | none => rfl
    | some b => cases h
  | some a => cases y with
    | none => cases h
    | some b =>
      have h : ad a = ad b := Option.some.inj h
      rcases hx a rfl with ha | ⟨ha, ha2⟩ <;> rcases hy b rfl with hb | ⟨hb, hb2⟩
      · obtain ⟨q, hq⟩ : ∃ q, w.1[a]? = some q := ⟨_, List.getElem?_eq_getElem ha⟩
        obtain ⟨q2, hq2⟩ : ∃ q, w.1[b]? = some q := ⟨_, List.getElem?_eq_getElem hb⟩
        exact congrArg some (hA.2.1.1 a b _ _ (zws_at cA ad hq) (zws_at cA ad hq2) h)
      · exact absurd (h ▸ hw a ha) (hcs b hb hb2)
      · exact absurd (h ▸ hw b hb) (hcs a ha ha2)
      · rw [z_adc hg hA.2.2.2.1 a ha, z_adc hg hA.2.2.2.1 b hb] at h
        obtain ⟨i, rfl⟩ : ∃ i, a = 1000000 + i := ⟨a - 1000000, by omega⟩
        obtain ⟨j, rfl⟩ : ∃ j, b = 1000000 + j := ⟨b - 1000000, by omega⟩
        rw [hKC.2.2.2.1 i j (by omega) (by omega) h]
theorem z_acmp_eq {x y : Option Nat} {off : Int} {tgt : Nat} (hf : zM.f M pc = some (.if_acmp .eq off, 3)) (ht : (pc : Int) + off = (tgt : Int)) (hx : zid w x) (hy : zid w y) (kt : x = y → zS mc ms d M P tgt ls st w) (kf : ¬ x = y → zS mc ms d M P (pc + 3) ls st w) : zS mc ms d M P pc ls (va_rf y :: va_rf x :: st) w := by
  intro p l e R s m args below meth c Q D cA h0 ad0 n0 C ad H locs cells slots la hA hS hg hc hs hl
  have hi := zid_inj hA C.2.2.2.2.2.2.1 hg hx hy
  rw [List.map_cons, List.map_cons, cv_rf, cv_rf]
  exact lv_acmp_eq C.1 C.2.1 (C.dec hf) ht (fun q => kt (by rw [← hi]; exact q) p l e R s m args below meth c Q D cA h0 ad0 n0 C ad H locs cells slots la hA hS hg hc hs hl) (fun q => kf (by rw [← hi]; exact q) p l e R s m args below meth c Q D cA h0 ad0 n0 C ad H locs cells slots la hA hS hg hc hs hl)
theorem z_acmp_ne {x y : Option Nat} {off : Int} {tgt : Nat} (hf : zM.f M pc = some (.if_acmp .ne off, 3)) (ht : (pc : Int) + off = (tgt : Int)) (hx : zid w x) (hy : zid w y) (kt : ¬ x = y → zS mc ms d M P tgt ls st w) (kf : x = y → zS mc ms d M P (pc + 3) ls st w) : zS mc ms d M P pc ls (va_rf y :: va_rf x :: st) w := by
  intro p l e R s m args below meth c Q D cA h0 ad0 n0 C ad H locs cells slots la hA hS hg hc hs hl
  have hi := zid_inj hA C.2.2.2.2.2.2.1 hg hx hy
  rw [List.map_cons, List.map_cons, cv_rf, cv_rf]
  exact lv_acmp_ne C.1 C.2.1 (C.dec hf) ht (fun q => kt (by rw [← hi]; exact q) p l e R s m args below meth c Q D cA h0 ad0 n0 C ad H locs cells slots la hA hS hg hc hs hl) (fun q => kf (by rw [← hi]; exact q) p l e R s m args below meth c Q D cA h0 ad0 n0 C ad H locs cells slots la hA hS hg hc hs hl)
theorem z_obj {o idx : Nat} (hf : zM.f M pc = some (.invokespecial idx, 3)) (hw : Cond.methodLink (zM.y M).cls idx Lib.objectInit ∈ zT) (hd : 1 ≤ d) (hrest : (st.map fun v => v.category).sum ≤ 8) (k : zS mc ms d M P (pc + 3) ls st w) : zS mc ms d M P pc ls (.ref o :: st) w := by
  intro p l e R s m args below meth c Q D cA h0 ad0 n0 C ad H locs cells slots la hA hS hg hc hs hl
  have hts := C.2.2.2.2.1
  have hrm := C.2.2.2.2.2.2.2.2.2.1
  exact W.objInit C.1 C.2.1 C.2.2.2.1 (hts _ hw) (hts _ z_oi1) (hts _ z_oi2) rfl (hl.1.trans C.2.2.1.symm) rfl (C.dec hf) (by omega) (by show 2 * 0 + _ + 12 ≤ _; rw [zcat]; omega) (k p l e R s m args below meth c Q D cA h0 ad0 n0 C ad H locs cells slots la hA hS hg hc hs hl)
theorem z_copyI {o0 o1 n1 n2 idx : Nat} {sp dp n : Int32} (hf : zM.f M pc = some (.invokestatic idx, 3)) (hw : Cond.methodLink (zM.y M).cls idx arraycopyName ∈ zT) (ho0 : w.1[o0]? = some (10, n1)) (ho1 : w.1[o1]? = some (10, n2)) (h1 : ¬ sp < 0) (h2 : ¬ dp < 0) (h3 : ¬ n < 0) (h4 : sp.toNatClampNeg + n.toNatClampNeg ≤ n1) (h5 : dp.toNatClampNeg + n.toNatClampNeg ≤ n2) (hd : 1 ≤ d) (hrest : (st.map fun v => v.category).sum ≤ 8)
    (k : zS mc ms d M P (pc + 3) ls st (zrI w o1 (va_cpy (zI w o0) (zI w o1) sp.toNatClampNeg dp.toNatClampNeg n.toNatClampNeg))) : zS mc ms d M P pc ls (.int n :: .int dp :: .ref o1 :: .int sp :: .ref o0 :: st) w := by
  intro p l e R s m args below meth c Q D cA h0 ad0 n0 C ad H locs cells slots la hA hS hg hc hs hl
  have hts := C.2.2.2.2.1
  have hrm := C.2.2.2.2.2.2.2.2.2.1
  refine va_copyi (ty := .int) C.1 C.2.1 (C.2.2.1.trans hl.1.symm) C.2.2.2.1 (hts _ hw) (hts _ z_sy1) (hts _ z_sy2) (hts _ z_sy3) C.2.2.2.2.2.1 hA.1 hA.2.1 hS o0 o1 1 1 (zws_at cA ad ho0) (zws_at cA ad ho1) rfl rfl rfl h1 h2 h3 h4 h5 (fun _ _ => rfl) (by omega) (by rw [zcat]; show _ + (7 + 11) ≤ _; omega) (C.dec hf) (fun H1 locs1 hP hD hS1 => ?_)
  exact k p l e R s m args below meth c Q D cA h0 ad0 n0 C ad H1 locs1 cells slots la (zAW_set hA rfl ho1 (by show Sum.inl (_, _, _) = Sum.inl (_, _, _); congr 4; exact if_pos rfl) (fun a q' ha => zE_rI_off cA ad w _ q' ha) hA.2.2.1 hP hD) hS1 hg hc hs hl
theorem z_copyL {o0 o1 n1 n2 idx : Nat} {sp dp n : Int32} (hf : zM.f M pc = some (.invokestatic idx, 3)) (hw : Cond.methodLink (zM.y M).cls idx arraycopyName ∈ zT) (ho0 : w.1[o0]? = some (11, n1)) (ho1 : w.1[o1]? = some (11, n2)) (h1 : ¬ sp < 0) (h2 : ¬ dp < 0) (h3 : ¬ n < 0) (h4 : sp.toNatClampNeg + n.toNatClampNeg ≤ n1) (h5 : dp.toNatClampNeg + n.toNatClampNeg ≤ n2) (hd : 1 ≤ d) (hrest : (st.map fun v => v.category).sum ≤ 8)
    (k : zS mc ms d M P (pc + 3) ls st (zrL w o1 (va_cpy (zL w o0) (zL w o1) sp.toNatClampNeg dp.toNatClampNeg n.toNatClampNeg))) : zS mc ms d M P pc ls (.int n :: .int dp :: .ref o1 :: .int sp :: .ref o0 :: st) w := by
  intro p l e R s m args below meth c Q D cA h0 ad0 n0 C ad H locs cells slots la hA hS hg hc hs hl
  have hts := C.2.2.2.2.1
  have hrm := C.2.2.2.2.2.2.2.2.2.1
  refine va_copyl (ty := .long) C.1 C.2.1 (C.2.2.1.trans hl.1.symm) C.2.2.2.1 (hts _ hw) (hts _ z_sy1) (hts _ z_sy2) (hts _ z_sy3) C.2.2.2.2.2.1 hA.1 hA.2.1 hS o0 o1 2 2 (zws_at cA ad ho0) (zws_at cA ad ho1) rfl rfl rfl h1 h2 h3 h4 h5 (fun _ _ => rfl) (by omega) (by rw [zcat]; show _ + (7 + 11) ≤ _; omega) (C.dec hf) (fun H1 locs1 hP hD hS1 => ?_)
  exact k p l e R s m args below meth c Q D cA h0 ad0 n0 C ad H1 locs1 cells slots la (zAW_set hA rfl ho1 (by show Sum.inl (_, _, Sum.inr (Sum.inl _)) = Sum.inl (_, _, Sum.inr (Sum.inl _)); congr 5; exact if_pos rfl) (fun a q' ha => zE_rL_off cA ad w _ q' ha) hA.2.2.1 hP hD) hS1 hg hc hs hl
theorem z_mmax {idx : Nat} {x y : Int32} (hf : zM.f M pc = some (.invokestatic idx, 3)) (hw : Cond.methodLink (zM.y M).cls idx Lib.Math.max.name ∈ zT) (hd : 1 ≤ d) (hrest : (st.map fun v => v.category).sum ≤ 8) (k : zS mc ms d M P (pc + 3) ls (.int (if x < y then y else x) :: st) w) : zS mc ms d M P pc ls (.int y :: .int x :: st) w := by
  intro p l e R s m args below meth c Q D cA h0 ad0 n0 C ad H locs cells slots la hA hS hg hc hs hl
  have hts := C.2.2.2.2.1
  have hrm := C.2.2.2.2.2.2.2.2.2.1
  exact va_mmax C.1 C.2.1 (C.2.2.1.trans hl.1.symm) C.2.2.2.1 (hts _ hw) (hts _ mm_max.1) (hts _ mm_max.2.1) (hts _ mm_max.2.2) (by omega) (by rw [zcat]; omega) (by omega) (by omega) (C.dec hf) (k p l e R s m args below meth c Q D cA h0 ad0 n0 C ad H locs cells slots la hA hS hg hc hs hl)
theorem z_mmin {idx : Nat} {x y : Int32} (hf : zM.f M pc = some (.invokestatic idx, 3)) (hw : Cond.methodLink (zM.y M).cls idx Lib.Math.min.name ∈ zT) (hd : 1 ≤ d) (hrest : (st.map fun v => v.category).sum ≤ 8) (k : zS mc ms d M P (pc + 3) ls (.int (if y < x then y else x) :: st) w) : zS mc ms d M P pc ls (.int y :: .int x :: st) w := by
  intro p l e R s m args below meth c Q D cA h0 ad0 n0 C ad H locs cells slots la hA hS hg hc hs hl
  have hts := C.2.2.2.2.1
  have hrm := C.2.2.2.2.2.2.2.2.2.1
  exact va_mmin C.1 C.2.1 (C.2.2.1.trans hl.1.symm) C.2.2.2.1 (hts _ hw) (hts _ mm_min.1) (hts _ mm_min.2.1) (hts _ mm_min.2.2) (by omega) (by rw [zcat]; omega) (by omega) (by omega) (C.dec hf) (k p l e R s m args below meth c Q D cA h0 ad0 n0 C ad H locs cells slots la hA hS hg hc hs hl)
end Z8
end
