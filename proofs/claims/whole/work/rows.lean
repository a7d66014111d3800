section
-- ===== PART A: goes FIRST, ahead of the names: the tables' words, and 'selects' of the private methods out of them =====
/-- a private method of a class that the tables say can be made, by its rows of tables_1 -/
def lw_okq (q : MethodName × Nat) : Prop := (q.1.cls ≠ "java/lang/invoke/MethodHandle" ∧ q.1.cls ≠ "java/lang/invoke/VarHandle") ∧ Cond.instantiable q.1.cls q.2 ∈ tables_1 ∧ Cond.privateMethod q.1 ∈ tables_1 ∧ Cond.instanceMethod q.1 ∈ tables_1
theorem lw_p0 : lw_okq (⟨"GlassBowls$History", "stateAt", "(I)LGlassBowls$Table;"⟩, 3) := ⟨⟨by decide +kernel, by decide +kernel⟩, List.mem_of_getElem? (i := 125) (by decide +kernel), List.mem_of_getElem? (i := 207) (by decide +kernel), List.mem_of_getElem? (i := 208) (by decide +kernel)⟩
theorem lw_p1 : lw_okq (⟨"GlassBowls$Bowls", "hold", "(II)V"⟩, 10) := ⟨⟨by decide +kernel, by decide +kernel⟩, List.mem_of_getElem? (i := 26) (by decide +kernel), List.mem_of_getElem? (i := 275) (by decide +kernel), List.mem_of_getElem? (i := 276) (by decide +kernel)⟩
theorem lw_p2 : lw_okq (⟨"GlassBowls$Bowls", "pitchWith", "(II)I"⟩, 10) := ⟨⟨by decide +kernel, by decide +kernel⟩, List.mem_of_getElem? (i := 26) (by decide +kernel), List.mem_of_getElem? (i := 321) (by decide +kernel), List.mem_of_getElem? (i := 322) (by decide +kernel)⟩
theorem lw_p3 : lw_okq (⟨"GlassBowls$Bowls", "inBowls", "()I"⟩, 10) := ⟨⟨by decide +kernel, by decide +kernel⟩, List.mem_of_getElem? (i := 26) (by decide +kernel), List.mem_of_getElem? (i := 374) (by decide +kernel), List.mem_of_getElem? (i := 375) (by decide +kernel)⟩
theorem lw_p4 : lw_okq (⟨"GlassBowls$Piece", "phraseOf", "(II)I"⟩, 6) := ⟨⟨by decide +kernel, by decide +kernel⟩, List.mem_of_getElem? (i := 77) (by decide +kernel), List.mem_of_getElem? (i := 390) (by decide +kernel), List.mem_of_getElem? (i := 391) (by decide +kernel)⟩
theorem lw_p5 : lw_okq (⟨"GlassBowls$Piece", "placeFor", "(I)I"⟩, 6) := ⟨⟨by decide +kernel, by decide +kernel⟩, List.mem_of_getElem? (i := 77) (by decide +kernel), List.mem_of_getElem? (i := 433) (by decide +kernel), List.mem_of_getElem? (i := 434) (by decide +kernel)⟩
theorem lw_p6 : lw_okq (⟨"GlassBowls$Piece", "sounded", "(I)Z"⟩, 6) := ⟨⟨by decide +kernel, by decide +kernel⟩, List.mem_of_getElem? (i := 77) (by decide +kernel), List.mem_of_getElem? (i := 487) (by decide +kernel), List.mem_of_getElem? (i := 488) (by decide +kernel)⟩
theorem lw_p7 : lw_okq (⟨"GlassBowls$Table", "dryUntil", "(I)V"⟩, 4) := ⟨⟨by decide +kernel, by decide +kernel⟩, List.mem_of_getElem? (i := 20) (by decide +kernel), List.mem_of_getElem? (i := 506) (by decide +kernel), List.mem_of_getElem? (i := 507) (by decide +kernel)⟩
theorem lw_p8 : lw_okq (⟨"GlassBowls$Table", "playNote", "(I)V"⟩, 4) := ⟨⟨by decide +kernel, by decide +kernel⟩, List.mem_of_getElem? (i := 20) (by decide +kernel), List.mem_of_getElem? (i := 514) (by decide +kernel), List.mem_of_getElem? (i := 515) (by decide +kernel)⟩
theorem lw_p9 : lw_okq (⟨"GlassBowls$Piece", "rankOf", "(I)I"⟩, 6) := ⟨⟨by decide +kernel, by decide +kernel⟩, List.mem_of_getElem? (i := 77) (by decide +kernel), List.mem_of_getElem? (i := 559) (by decide +kernel), List.mem_of_getElem? (i := 560) (by decide +kernel)⟩
theorem lw_p10 : lw_okq (⟨"GlassBowls$Piece", "errorSize", "(I)I"⟩, 6) := ⟨⟨by decide +kernel, by decide +kernel⟩, List.mem_of_getElem? (i := 77) (by decide +kernel), List.mem_of_getElem? (i := 563) (by decide +kernel), List.mem_of_getElem? (i := 564) (by decide +kernel)⟩
theorem lw_p11 : lw_okq (⟨"GlassBowls", "tryOut", "(I)V"⟩, 4) := ⟨⟨by decide +kernel, by decide +kernel⟩, List.mem_of_getElem? (i := 12) (by decide +kernel), List.mem_of_getElem? (i := 573) (by decide +kernel), List.mem_of_getElem? (i := 574) (by decide +kernel)⟩
theorem lw_p12 : lw_okq (⟨"GlassBowls", "tryText", "()V"⟩, 4) := ⟨⟨by decide +kernel, by decide +kernel⟩, List.mem_of_getElem? (i := 12) (by decide +kernel), List.mem_of_getElem? (i := 625) (by decide +kernel), List.mem_of_getElem? (i := 626) (by decide +kernel)⟩
theorem lw_p13 : lw_okq (⟨"GlassBowls$Text", "reasonAgainstNext", "(LGlassBowls$Piece;)I"⟩, 8) := ⟨⟨by decide +kernel, by decide +kernel⟩, List.mem_of_getElem? (i := 144) (by decide +kernel), List.mem_of_getElem? (i := 633) (by decide +kernel), List.mem_of_getElem? (i := 634) (by decide +kernel)⟩
theorem lw_p14 : lw_okq (⟨"GlassBowls$Text", "readNote", "()Z"⟩, 8) := ⟨⟨by decide +kernel, by decide +kernel⟩, List.mem_of_getElem? (i := 144) (by decide +kernel), List.mem_of_getElem? (i := 637) (by decide +kernel), List.mem_of_getElem? (i := 638) (by decide +kernel)⟩
theorem lw_p15 : lw_okq (⟨"GlassBowls$Text", "readNumber", "()I"⟩, 8) := ⟨⟨by decide +kernel, by decide +kernel⟩, List.mem_of_getElem? (i := 144) (by decide +kernel), List.mem_of_getElem? (i := 641) (by decide +kernel), List.mem_of_getElem? (i := 642) (by decide +kernel)⟩
def lw_privs_1 : List (MethodName × Nat) := [(⟨"GlassBowls$History", "stateAt", "(I)LGlassBowls$Table;"⟩, 3), (⟨"GlassBowls$Bowls", "hold", "(II)V"⟩, 10), (⟨"GlassBowls$Bowls", "pitchWith", "(II)I"⟩, 10), (⟨"GlassBowls$Bowls", "inBowls", "()I"⟩, 10), (⟨"GlassBowls$Piece", "phraseOf", "(II)I"⟩, 6), (⟨"GlassBowls$Piece", "placeFor", "(I)I"⟩, 6), (⟨"GlassBowls$Piece", "sounded", "(I)Z"⟩, 6), (⟨"GlassBowls$Table", "dryUntil", "(I)V"⟩, 4), (⟨"GlassBowls$Table", "playNote", "(I)V"⟩, 4), (⟨"GlassBowls$Piece", "rankOf", "(I)I"⟩, 6), (⟨"GlassBowls$Piece", "errorSize", "(I)I"⟩, 6), (⟨"GlassBowls", "tryOut", "(I)V"⟩, 4), (⟨"GlassBowls", "tryText", "()V"⟩, 4), (⟨"GlassBowls$Text", "reasonAgainstNext", "(LGlassBowls$Piece;)I"⟩, 8), (⟨"GlassBowls$Text", "readNote", "()Z"⟩, 8), (⟨"GlassBowls$Text", "readNumber", "()I"⟩, 8)]
theorem lw_r1 : ∀ q ∈ lw_privs_1, lw_okq q := List.forall_mem_cons.mpr ⟨lw_p0, List.forall_mem_cons.mpr ⟨lw_p1, List.forall_mem_cons.mpr ⟨lw_p2, List.forall_mem_cons.mpr ⟨lw_p3, List.forall_mem_cons.mpr ⟨lw_p4, List.forall_mem_cons.mpr ⟨lw_p5, List.forall_mem_cons.mpr ⟨lw_p6, List.forall_mem_cons.mpr ⟨lw_p7, List.forall_mem_cons.mpr ⟨lw_p8, List.forall_mem_cons.mpr ⟨lw_p9, List.forall_mem_cons.mpr ⟨lw_p10, List.forall_mem_cons.mpr ⟨lw_p11, List.forall_mem_cons.mpr ⟨lw_p12, List.forall_mem_cons.mpr ⟨lw_p13, List.forall_mem_cons.mpr ⟨lw_p14, List.forall_mem_cons.mpr ⟨lw_p15, fun _ h => absurd h List.not_mem_nil⟩⟩⟩⟩⟩⟩⟩⟩⟩⟩⟩⟩⟩⟩⟩⟩
theorem lw_p16 : lw_okq (⟨"GlassBowls$Text", "readCharacter", "(I)Z"⟩, 8) := ⟨⟨by decide +kernel, by decide +kernel⟩, List.mem_of_getElem? (i := 144) (by decide +kernel), List.mem_of_getElem? (i := 648) (by decide +kernel), List.mem_of_getElem? (i := 649) (by decide +kernel)⟩
theorem lw_p17 : lw_okq (⟨"GlassBowlsModel", "records", "()V"⟩, 11) := ⟨⟨by decide +kernel, by decide +kernel⟩, List.mem_of_getElem? (i := 671) (by decide +kernel), List.mem_of_getElem? (i := 725) (by decide +kernel), List.mem_of_getElem? (i := 726) (by decide +kernel)⟩
theorem lw_p18 : lw_okq (⟨"GlassBowlsModel", "put", "(III)V"⟩, 11) := ⟨⟨by decide +kernel, by decide +kernel⟩, List.mem_of_getElem? (i := 671) (by decide +kernel), List.mem_of_getElem? (i := 729) (by decide +kernel), List.mem_of_getElem? (i := 730) (by decide +kernel)⟩
theorem lw_p19 : lw_okq (⟨"GlassBowlsModel", "isBowl", "(I)Z"⟩, 11) := ⟨⟨by decide +kernel, by decide +kernel⟩, List.mem_of_getElem? (i := 671) (by decide +kernel), List.mem_of_getElem? (i := 737) (by decide +kernel), List.mem_of_getElem? (i := 738) (by decide +kernel)⟩
theorem lw_p20 : lw_okq (⟨"GlassBowlsModel", "of", "(II)I"⟩, 11) := ⟨⟨by decide +kernel, by decide +kernel⟩, List.mem_of_getElem? (i := 671) (by decide +kernel), List.mem_of_getElem? (i := 741) (by decide +kernel), List.mem_of_getElem? (i := 742) (by decide +kernel)⟩
theorem lw_p21 : lw_okq (⟨"GlassBowlsModel", "comes", "(II)V"⟩, 11) := ⟨⟨by decide +kernel, by decide +kernel⟩, List.mem_of_getElem? (i := 671) (by decide +kernel), List.mem_of_getElem? (i := 749) (by decide +kernel), List.mem_of_getElem? (i := 750) (by decide +kernel)⟩
theorem lw_p22 : lw_okq (⟨"GlassBowlsModel", "loses", "(I)I"⟩, 11) := ⟨⟨by decide +kernel, by decide +kernel⟩, List.mem_of_getElem? (i := 671) (by decide +kernel), List.mem_of_getElem? (i := 753) (by decide +kernel), List.mem_of_getElem? (i := 754) (by decide +kernel)⟩
theorem lw_p23 : lw_okq (⟨"GlassBowlsModel", "pitch", "(I)I"⟩, 11) := ⟨⟨by decide +kernel, by decide +kernel⟩, List.mem_of_getElem? (i := 671) (by decide +kernel), List.mem_of_getElem? (i := 773) (by decide +kernel), List.mem_of_getElem? (i := 774) (by decide +kernel)⟩
theorem lw_p24 : lw_okq (⟨"GlassBowlsModel", "pitchBy", "(II)I"⟩, 11) := ⟨⟨by decide +kernel, by decide +kernel⟩, List.mem_of_getElem? (i := 671) (by decide +kernel), List.mem_of_getElem? (i := 777) (by decide +kernel), List.mem_of_getElem? (i := 778) (by decide +kernel)⟩
theorem lw_p25 : lw_okq (⟨"GlassBowlsModel", "sounds", "(I)I"⟩, 11) := ⟨⟨by decide +kernel, by decide +kernel⟩, List.mem_of_getElem? (i := 671) (by decide +kernel), List.mem_of_getElem? (i := 794) (by decide +kernel), List.mem_of_getElem? (i := 795) (by decide +kernel)⟩
theorem lw_p26 : lw_okq (⟨"GlassBowlsModel", "setting", "(I)I"⟩, 11) := ⟨⟨by decide +kernel, by decide +kernel⟩, List.mem_of_getElem? (i := 671) (by decide +kernel), List.mem_of_getElem? (i := 805) (by decide +kernel), List.mem_of_getElem? (i := 806) (by decide +kernel)⟩
theorem lw_p27 : lw_okq (⟨"GlassBowlsModel", "phraseOf", "(I)I"⟩, 11) := ⟨⟨by decide +kernel, by decide +kernel⟩, List.mem_of_getElem? (i := 671) (by decide +kernel), List.mem_of_getElem? (i := 813) (by decide +kernel), List.mem_of_getElem? (i := 814) (by decide +kernel)⟩
theorem lw_p28 : lw_okq (⟨"GlassBowlsModel", "begins", "(I)Z"⟩, 11) := ⟨⟨by decide +kernel, by decide +kernel⟩, List.mem_of_getElem? (i := 671) (by decide +kernel), List.mem_of_getElem? (i := 817) (by decide +kernel), List.mem_of_getElem? (i := 818) (by decide +kernel)⟩
theorem lw_p29 : lw_okq (⟨"GlassBowlsModel", "has", "(II)I"⟩, 11) := ⟨⟨by decide +kernel, by decide +kernel⟩, List.mem_of_getElem? (i := 671) (by decide +kernel), List.mem_of_getElem? (i := 821) (by decide +kernel), List.mem_of_getElem? (i := 822) (by decide +kernel)⟩
theorem lw_p30 : lw_okq (⟨"GlassBowlsModel", "notesThat", "(I)I"⟩, 11) := ⟨⟨by decide +kernel, by decide +kernel⟩, List.mem_of_getElem? (i := 671) (by decide +kernel), List.mem_of_getElem? (i := 825) (by decide +kernel), List.mem_of_getElem? (i := 826) (by decide +kernel)⟩
theorem lw_p31 : lw_okq (⟨"GlassBowlsModel", "water", "()I"⟩, 11) := ⟨⟨by decide +kernel, by decide +kernel⟩, List.mem_of_getElem? (i := 671) (by decide +kernel), List.mem_of_getElem? (i := 829) (by decide +kernel), List.mem_of_getElem? (i := 830) (by decide +kernel)⟩
def lw_privs_2 : List (MethodName × Nat) := [(⟨"GlassBowls$Text", "readCharacter", "(I)Z"⟩, 8), (⟨"GlassBowlsModel", "records", "()V"⟩, 11), (⟨"GlassBowlsModel", "put", "(III)V"⟩, 11), (⟨"GlassBowlsModel", "isBowl", "(I)Z"⟩, 11), (⟨"GlassBowlsModel", "of", "(II)I"⟩, 11), (⟨"GlassBowlsModel", "comes", "(II)V"⟩, 11), (⟨"GlassBowlsModel", "loses", "(I)I"⟩, 11), (⟨"GlassBowlsModel", "pitch", "(I)I"⟩, 11), (⟨"GlassBowlsModel", "pitchBy", "(II)I"⟩, 11), (⟨"GlassBowlsModel", "sounds", "(I)I"⟩, 11), (⟨"GlassBowlsModel", "setting", "(I)I"⟩, 11), (⟨"GlassBowlsModel", "phraseOf", "(I)I"⟩, 11), (⟨"GlassBowlsModel", "begins", "(I)Z"⟩, 11), (⟨"GlassBowlsModel", "has", "(II)I"⟩, 11), (⟨"GlassBowlsModel", "notesThat", "(I)I"⟩, 11), (⟨"GlassBowlsModel", "water", "()I"⟩, 11)]
theorem lw_r2 : ∀ q ∈ lw_privs_2, lw_okq q := List.forall_mem_cons.mpr ⟨lw_p16, List.forall_mem_cons.mpr ⟨lw_p17, List.forall_mem_cons.mpr ⟨lw_p18, List.forall_mem_cons.mpr ⟨lw_p19, List.forall_mem_cons.mpr ⟨lw_p20, List.forall_mem_cons.mpr ⟨lw_p21, List.forall_mem_cons.mpr ⟨lw_p22, List.forall_mem_cons.mpr ⟨lw_p23, List.forall_mem_cons.mpr ⟨lw_p24, List.forall_mem_cons.mpr ⟨lw_p25, List.forall_mem_cons.mpr ⟨lw_p26, List.forall_mem_cons.mpr ⟨lw_p27, List.forall_mem_cons.mpr ⟨lw_p28, List.forall_mem_cons.mpr ⟨lw_p29, List.forall_mem_cons.mpr ⟨lw_p30, List.forall_mem_cons.mpr ⟨lw_p31, fun _ h => absurd h List.not_mem_nil⟩⟩⟩⟩⟩⟩⟩⟩⟩⟩⟩⟩⟩⟩⟩⟩
theorem lw_p32 : lw_okq (⟨"GlassBowlsModel", "noteAt", "(I)I"⟩, 11) := ⟨⟨by decide +kernel, by decide +kernel⟩, List.mem_of_getElem? (i := 671) (by decide +kernel), List.mem_of_getElem? (i := 837) (by decide +kernel), List.mem_of_getElem? (i := 838) (by decide +kernel)⟩
theorem lw_p33 : lw_okq (⟨"GlassBowlsModel", "newNote", "(II)I"⟩, 11) := ⟨⟨by decide +kernel, by decide +kernel⟩, List.mem_of_getElem? (i := 671) (by decide +kernel), List.mem_of_getElem? (i := 841) (by decide +kernel), List.mem_of_getElem? (i := 842) (by decide +kernel)⟩
theorem lw_p34 : lw_okq (⟨"GlassBowlsModel", "lay", "(III)V"⟩, 11) := ⟨⟨by decide +kernel, by decide +kernel⟩, List.mem_of_getElem? (i := 671) (by decide +kernel), List.mem_of_getElem? (i := 845) (by decide +kernel), List.mem_of_getElem? (i := 846) (by decide +kernel)⟩
theorem lw_p35 : lw_okq (⟨"GlassBowlsModel", "isNote", "(I)Z"⟩, 11) := ⟨⟨by decide +kernel, by decide +kernel⟩, List.mem_of_getElem? (i := 671) (by decide +kernel), List.mem_of_getElem? (i := 853) (by decide +kernel), List.mem_of_getElem? (i := 854) (by decide +kernel)⟩
theorem lw_p36 : lw_okq (⟨"GlassBowlsModel", "second", "()I"⟩, 11) := ⟨⟨by decide +kernel, by decide +kernel⟩, List.mem_of_getElem? (i := 671) (by decide +kernel), List.mem_of_getElem? (i := 869) (by decide +kernel), List.mem_of_getElem? (i := 870) (by decide +kernel)⟩
theorem lw_p37 : lw_okq (⟨"GlassBowlsModel", "dries", "()V"⟩, 11) := ⟨⟨by decide +kernel, by decide +kernel⟩, List.mem_of_getElem? (i := 671) (by decide +kernel), List.mem_of_getElem? (i := 873) (by decide +kernel), List.mem_of_getElem? (i := 874) (by decide +kernel)⟩
theorem lw_p38 : lw_okq (⟨"GlassBowlsModel", "plays", "(I)V"⟩, 11) := ⟨⟨by decide +kernel, by decide +kernel⟩, List.mem_of_getElem? (i := 671) (by decide +kernel), List.mem_of_getElem? (i := 877) (by decide +kernel), List.mem_of_getElem? (i := 878) (by decide +kernel)⟩
theorem lw_p39 : lw_okq (⟨"GlassBowlsModel", "fills", "()V"⟩, 11) := ⟨⟨by decide +kernel, by decide +kernel⟩, List.mem_of_getElem? (i := 671) (by decide +kernel), List.mem_of_getElem? (i := 881) (by decide +kernel), List.mem_of_getElem? (i := 882) (by decide +kernel)⟩
theorem lw_p40 : lw_okq (⟨"GlassBowlsModel", "hasSounded", "(I)Z"⟩, 11) := ⟨⟨by decide +kernel, by decide +kernel⟩, List.mem_of_getElem? (i := 671) (by decide +kernel), List.mem_of_getElem? (i := 893) (by decide +kernel), List.mem_of_getElem? (i := 894) (by decide +kernel)⟩
theorem lw_p41 : lw_okq (⟨"GlassBowlsModel", "standAhead", "(I)I"⟩, 11) := ⟨⟨by decide +kernel, by decide +kernel⟩, List.mem_of_getElem? (i := 671) (by decide +kernel), List.mem_of_getElem? (i := 897) (by decide +kernel), List.mem_of_getElem? (i := 898) (by decide +kernel)⟩
theorem lw_p42 : lw_okq (⟨"GlassBowlsModel", "isToCome", "(I)Z"⟩, 11) := ⟨⟨by decide +kernel, by decide +kernel⟩, List.mem_of_getElem? (i := 671) (by decide +kernel), List.mem_of_getElem? (i := 905) (by decide +kernel), List.mem_of_getElem? (i := 906) (by decide +kernel)⟩
theorem lw_p43 : lw_okq (⟨"GlassBowlsModel", "laysAside", "()V"⟩, 11) := ⟨⟨by decide +kernel, by decide +kernel⟩, List.mem_of_getElem? (i := 671) (by decide +kernel), List.mem_of_getElem? (i := 909) (by decide +kernel), List.mem_of_getElem? (i := 910) (by decide +kernel)⟩
theorem lw_p44 : lw_okq (⟨"GlassBowlsModel", "goesTo", "(I)V"⟩, 11) := ⟨⟨by decide +kernel, by decide +kernel⟩, List.mem_of_getElem? (i := 671) (by decide +kernel), List.mem_of_getElem? (i := 913) (by decide +kernel), List.mem_of_getElem? (i := 914) (by decide +kernel)⟩
theorem lw_p45 : lw_okq (⟨"GlassBowlsModel", "bringsBack", "()V"⟩, 11) := ⟨⟨by decide +kernel, by decide +kernel⟩, List.mem_of_getElem? (i := 671) (by decide +kernel), List.mem_of_getElem? (i := 917) (by decide +kernel), List.mem_of_getElem? (i := 918) (by decide +kernel)⟩
theorem lw_p46 : lw_okq (⟨"GlassBowlsModel", "reasonOfText", "()I"⟩, 11) := ⟨⟨by decide +kernel, by decide +kernel⟩, List.mem_of_getElem? (i := 671) (by decide +kernel), List.mem_of_getElem? (i := 945) (by decide +kernel), List.mem_of_getElem? (i := 946) (by decide +kernel)⟩
theorem lw_p47 : lw_okq (⟨"GlassBowlsModel", "isFormed", "()Z"⟩, 11) := ⟨⟨by decide +kernel, by decide +kernel⟩, List.mem_of_getElem? (i := 671) (by decide +kernel), List.mem_of_getElem? (i := 949) (by decide +kernel), List.mem_of_getElem? (i := 950) (by decide +kernel)⟩
def lw_privs_3 : List (MethodName × Nat) := [(⟨"GlassBowlsModel", "noteAt", "(I)I"⟩, 11), (⟨"GlassBowlsModel", "newNote", "(II)I"⟩, 11), (⟨"GlassBowlsModel", "lay", "(III)V"⟩, 11), (⟨"GlassBowlsModel", "isNote", "(I)Z"⟩, 11), (⟨"GlassBowlsModel", "second", "()I"⟩, 11), (⟨"GlassBowlsModel", "dries", "()V"⟩, 11), (⟨"GlassBowlsModel", "plays", "(I)V"⟩, 11), (⟨"GlassBowlsModel", "fills", "()V"⟩, 11), (⟨"GlassBowlsModel", "hasSounded", "(I)Z"⟩, 11), (⟨"GlassBowlsModel", "standAhead", "(I)I"⟩, 11), (⟨"GlassBowlsModel", "isToCome", "(I)Z"⟩, 11), (⟨"GlassBowlsModel", "laysAside", "()V"⟩, 11), (⟨"GlassBowlsModel", "goesTo", "(I)V"⟩, 11), (⟨"GlassBowlsModel", "bringsBack", "()V"⟩, 11), (⟨"GlassBowlsModel", "reasonOfText", "()I"⟩, 11), (⟨"GlassBowlsModel", "isFormed", "()Z"⟩, 11)]
theorem lw_r3 : ∀ q ∈ lw_privs_3, lw_okq q := List.forall_mem_cons.mpr ⟨lw_p32, List.forall_mem_cons.mpr ⟨lw_p33, List.forall_mem_cons.mpr ⟨lw_p34, List.forall_mem_cons.mpr ⟨lw_p35, List.forall_mem_cons.mpr ⟨lw_p36, List.forall_mem_cons.mpr ⟨lw_p37, List.forall_mem_cons.mpr ⟨lw_p38, List.forall_mem_cons.mpr ⟨lw_p39, List.forall_mem_cons.mpr ⟨lw_p40, List.forall_mem_cons.mpr ⟨lw_p41, List.forall_mem_cons.mpr ⟨lw_p42, List.forall_mem_cons.mpr ⟨lw_p43, List.forall_mem_cons.mpr ⟨lw_p44, List.forall_mem_cons.mpr ⟨lw_p45, List.forall_mem_cons.mpr ⟨lw_p46, List.forall_mem_cons.mpr ⟨lw_p47, fun _ h => absurd h List.not_mem_nil⟩⟩⟩⟩⟩⟩⟩⟩⟩⟩⟩⟩⟩⟩⟩⟩
theorem lw_p48 : lw_okq (⟨"GlassBowlsModel", "digits", "()I"⟩, 11) := ⟨⟨by decide +kernel, by decide +kernel⟩, List.mem_of_getElem? (i := 671) (by decide +kernel), List.mem_of_getElem? (i := 953) (by decide +kernel), List.mem_of_getElem? (i := 954) (by decide +kernel)⟩
theorem lw_p49 : lw_okq (⟨"GlassBowlsModel", "takes", "(I)Z"⟩, 11) := ⟨⟨by decide +kernel, by decide +kernel⟩, List.mem_of_getElem? (i := 671) (by decide +kernel), List.mem_of_getElem? (i := 957) (by decide +kernel), List.mem_of_getElem? (i := 958) (by decide +kernel)⟩
theorem lw_p50 : lw_okq (⟨"GlassBowlsModel", "isTaken", "(I)Z"⟩, 11) := ⟨⟨by decide +kernel, by decide +kernel⟩, List.mem_of_getElem? (i := 671) (by decide +kernel), List.mem_of_getElem? (i := 961) (by decide +kernel), List.mem_of_getElem? (i := 962) (by decide +kernel)⟩
def lw_privs_4 : List (MethodName × Nat) := [(⟨"GlassBowlsModel", "digits", "()I"⟩, 11), (⟨"GlassBowlsModel", "takes", "(I)Z"⟩, 11), (⟨"GlassBowlsModel", "isTaken", "(I)Z"⟩, 11)]
theorem lw_r4 : ∀ q ∈ lw_privs_4, lw_okq q := List.forall_mem_cons.mpr ⟨lw_p48, List.forall_mem_cons.mpr ⟨lw_p49, List.forall_mem_cons.mpr ⟨lw_p50, fun _ h => absurd h List.not_mem_nil⟩⟩⟩
def lw_privs : List (MethodName × Nat) := lw_privs_1 ++ (lw_privs_2 ++ (lw_privs_3 ++ (lw_privs_4)))
def lw_tbl : List Cond := k2_sels lw_privs ++ tables_1
theorem lw_privs_ok : ∀ q ∈ lw_privs, lw_okq q := by
  show ∀ q ∈ lw_privs_1 ++ (lw_privs_2 ++ (lw_privs_3 ++ (lw_privs_4))), lw_okq q
  exact List.forall_mem_append.mpr ⟨lw_r1, List.forall_mem_append.mpr ⟨lw_r2, List.forall_mem_append.mpr ⟨lw_r3, lw_r4⟩⟩⟩
-- ===== end of PART A; then your names; then what follows =====
end
section
def RX0 : String := "GlassBowls$Bowls"
def TX0 : u_T := fun k => match k with
  | 0 => ("GlassBowls$Bowls", "base", "LGlassBowls$Row;", true)
  | 1 => ("GlassBowls$Bowls", "depth", "LGlassBowls$Row;", true)
  | 2 => ("GlassBowls$Bowls", "level", "LGlassBowls$Row;", true)
  | 3 => ("GlassBowls$Bowls", "mark", "LGlassBowls$Row;", true)
  | 4 => ("GlassBowls$Bowls", "crack", "LGlassBowls$Row;", true)
  | 5 => ("GlassBowls$Bowls", "size", "I", false)
  | 6 => ("GlassBowls$Bowls", "poured", "I", false)
  | 7 => ("GlassBowls$Bowls", "dried", "I", false)
  | 8 => ("GlassBowls$Bowls", "lost", "I", false)
  | _ => ("GlassBowls$Bowls", "takenOut", "I", false)
def tyX0 : Nat → FieldType := fun k => match k with
  | 0 => .object "GlassBowls$Row"
  | 1 => .object "GlassBowls$Row"
  | 2 => .object "GlassBowls$Row"
  | 3 => .object "GlassBowls$Row"
  | 4 => .object "GlassBowls$Row"
  | 5 => .int
  | 6 => .int
  | 7 => .int
  | 8 => .int
  | _ => .int
abbrev wsX00 : List Cond := u_ws RX0 TX0 10
theorem nmX0 : ∀ a, a < 10 → ∀ b, b < 10 → a ≠ b → (TX0 a).2.1 ≠ (TX0 b).2.1 := by decide +kernel
theorem tyX0_ok : ∀ k, k < 10 → parseFieldDescriptor (TX0 k).2.2.1 = some (tyX0 k) := by decide +kernel
abbrev cX0_init : ByteArray := prog_2_method_1_code
def yX0_init : MethodName := ⟨RX0, "<init>", "()V"⟩
abbrev cX0_size : ByteArray := prog_2_method_2_code
def yX0_size : MethodName := ⟨RX0, "size", "()I"⟩
abbrev cX0_has : ByteArray := prog_2_method_3_code
def yX0_has : MethodName := ⟨RX0, "has", "(I)Z"⟩
abbrev cX0_levelIn : ByteArray := prog_2_method_4_code
def yX0_levelIn : MethodName := ⟨RX0, "levelIn", "(I)I"⟩
abbrev cX0_append : ByteArray := prog_2_method_5_code
def yX0_append : MethodName := ⟨RX0, "append", "(II)V"⟩
abbrev cX0_takeAway : ByteArray := prog_2_method_6_code
def yX0_takeAway : MethodName := ⟨RX0, "takeAway", "(I)V"⟩
abbrev cX0_addWater : ByteArray := prog_2_method_7_code
def yX0_addWater : MethodName := ⟨RX0, "addWater", "(II)V"⟩
abbrev cX0_takeWater : ByteArray := prog_2_method_8_code
def yX0_takeWater : MethodName := ⟨RX0, "takeWater", "(II)V"⟩
abbrev cX0_moveCrack : ByteArray := prog_2_method_9_code
def yX0_moveCrack : MethodName := ⟨RX0, "moveCrack", "(II)V"⟩
abbrev cX0_moveMark : ByteArray := prog_2_method_10_code
def yX0_moveMark : MethodName := ⟨RX0, "moveMark", "(II)I"⟩
abbrev cX0_hold : ByteArray := prog_2_method_11_code
def yX0_hold : MethodName := ⟨RX0, "hold", "(II)V"⟩
abbrev cX0_fillToMarks : ByteArray := prog_2_method_12_code
def yX0_fillToMarks : MethodName := ⟨RX0, "fillToMarks", "()V"⟩
abbrev cX0_dry : ByteArray := prog_2_method_13_code
def yX0_dry : MethodName := ⟨RX0, "dry", "(I)V"⟩
abbrev cX0_property : ByteArray := prog_2_method_14_code
def yX0_property : MethodName := ⟨RX0, "property", "(II)I"⟩
abbrev cX0_pitchOf : ByteArray := prog_2_method_15_code
def yX0_pitchOf : MethodName := ⟨RX0, "pitchOf", "(I)I"⟩
abbrev cX0_pitchWith : ByteArray := prog_2_method_16_code
def yX0_pitchWith : MethodName := ⟨RX0, "pitchWith", "(II)I"⟩
abbrev cX0_nearestLevel : ByteArray := prog_2_method_17_code
def yX0_nearestLevel : MethodName := ⟨RX0, "nearestLevel", "(II)I"⟩
abbrev cX0_nearestBowl : ByteArray := prog_2_method_18_code
def yX0_nearestBowl : MethodName := ⟨RX0, "nearestBowl", "(I)I"⟩
abbrev cX0_account : ByteArray := prog_2_method_19_code
def yX0_account : MethodName := ⟨RX0, "account", "(I)I"⟩
abbrev cX0_inBowls : ByteArray := prog_2_method_20_code
def yX0_inBowls : MethodName := ⟨RX0, "inBowls", "()I"⟩
abbrev cX0_copyFrom : ByteArray := prog_2_method_21_code
def yX0_copyFrom : MethodName := ⟨RX0, "copyFrom", "(LGlassBowls$Bowls;)V"⟩
def RX1 : String := "GlassBowls$History"
def TX1 : u_T := fun k => match k with
  | 0 => ("GlassBowls$History", "states", "[LGlassBowls$Table;", true)
  | 1 => ("GlassBowls$History", "next", "I", false)
  | _ => ("GlassBowls$History", "size", "I", false)
def tyX1 : Nat → FieldType := fun k => match k with
  | 0 => .array (.object "GlassBowls$Table")
  | 1 => .int
  | _ => .int
abbrev wsX10 : List Cond := u_ws RX1 TX1 3
theorem nmX1 : ∀ a, a < 3 → ∀ b, b < 3 → a ≠ b → (TX1 a).2.1 ≠ (TX1 b).2.1 := by decide +kernel
theorem tyX1_ok : ∀ k, k < 3 → parseFieldDescriptor (TX1 k).2.2.1 = some (tyX1 k) := by decide +kernel
abbrev cX1_init : ByteArray := prog_3_method_1_code
def yX1_init : MethodName := ⟨RX1, "<init>", "()V"⟩
abbrev cX1_size : ByteArray := prog_3_method_2_code
def yX1_size : MethodName := ⟨RX1, "size", "()I"⟩
abbrev cX1_stateAt : ByteArray := prog_3_method_3_code
def yX1_stateAt : MethodName := ⟨RX1, "stateAt", "(I)LGlassBowls$Table;"⟩
abbrev cX1_record : ByteArray := prog_3_method_4_code
def yX1_record : MethodName := ⟨RX1, "record", "(LGlassBowls$Table;)V"⟩
abbrev cX1_restore : ByteArray := prog_3_method_5_code
def yX1_restore : MethodName := ⟨RX1, "restore", "(LGlassBowls$Table;)V"⟩
def RX2 : String := "GlassBowls$Piece"
def TX2 : u_T := fun k => match k with
  | 0 => ("GlassBowls$Piece", "time", "LGlassBowls$Row;", true)
  | 1 => ("GlassBowls$Piece", "pitch", "LGlassBowls$Row;", true)
  | 2 => ("GlassBowls$Piece", "outcome", "LGlassBowls$Row;", true)
  | 3 => ("GlassBowls$Piece", "bowl", "LGlassBowls$Row;", true)
  | 4 => ("GlassBowls$Piece", "error", "LGlassBowls$Row;", true)
  | _ => ("GlassBowls$Piece", "size", "I", false)
def tyX2 : Nat → FieldType := fun k => match k with
  | 0 => .object "GlassBowls$Row"
  | 1 => .object "GlassBowls$Row"
  | 2 => .object "GlassBowls$Row"
  | 3 => .object "GlassBowls$Row"
  | 4 => .object "GlassBowls$Row"
  | _ => .int
abbrev wsX20 : List Cond := u_ws RX2 TX2 6
theorem nmX2 : ∀ a, a < 6 → ∀ b, b < 6 → a ≠ b → (TX2 a).2.1 ≠ (TX2 b).2.1 := by decide +kernel
theorem tyX2_ok : ∀ k, k < 6 → parseFieldDescriptor (TX2 k).2.2.1 = some (tyX2 k) := by decide +kernel
abbrev cX2_init : ByteArray := prog_4_method_1_code
def yX2_init : MethodName := ⟨RX2, "<init>", "()V"⟩
abbrev cX2_size : ByteArray := prog_4_method_2_code
def yX2_size : MethodName := ⟨RX2, "size", "()I"⟩
abbrev cX2_has : ByteArray := prog_4_method_3_code
def yX2_has : MethodName := ⟨RX2, "has", "(I)Z"⟩
abbrev cX2_isFull : ByteArray := prog_4_method_4_code
def yX2_isFull : MethodName := ⟨RX2, "isFull", "()Z"⟩
abbrev cX2_timeOf : ByteArray := prog_4_method_5_code
def yX2_timeOf : MethodName := ⟨RX2, "timeOf", "(I)I"⟩
abbrev cX2_pitchOf : ByteArray := prog_4_method_6_code
def yX2_pitchOf : MethodName := ⟨RX2, "pitchOf", "(I)I"⟩
abbrev cX2_errorOf : ByteArray := prog_4_method_7_code
def yX2_errorOf : MethodName := ⟨RX2, "errorOf", "(I)I"⟩
abbrev cX2_placeFor : ByteArray := prog_4_method_8_code
def yX2_placeFor : MethodName := ⟨RX2, "placeFor", "(I)I"⟩
abbrev cX2_hasNoteAt : ByteArray := prog_4_method_9_code
def yX2_hasNoteAt : MethodName := ⟨RX2, "hasNoteAt", "(I)Z"⟩
abbrev cX2_insert : ByteArray := prog_4_method_10_code
def yX2_insert : MethodName := ⟨RX2, "insert", "(II)I"⟩
abbrev cX2_takeAway : ByteArray := prog_4_method_11_code
def yX2_takeAway : MethodName := ⟨RX2, "takeAway", "(I)V"⟩
abbrev cX2_canShift : ByteArray := prog_4_method_12_code
def yX2_canShift : MethodName := ⟨RX2, "canShift", "(III)Z"⟩
abbrev cX2_shift : ByteArray := prog_4_method_13_code
def yX2_shift : MethodName := ⟨RX2, "shift", "(III)V"⟩
abbrev cX2_beginsPhrase : ByteArray := prog_4_method_14_code
def yX2_beginsPhrase : MethodName := ⟨RX2, "beginsPhrase", "(II)Z"⟩
abbrev cX2_phraseOf : ByteArray := prog_4_method_15_code
def yX2_phraseOf : MethodName := ⟨RX2, "phraseOf", "(II)I"⟩
abbrev cX2_phrases : ByteArray := prog_4_method_16_code
def yX2_phrases : MethodName := ⟨RX2, "phrases", "(I)I"⟩
abbrev cX2_keepSilence : ByteArray := prog_4_method_17_code
def yX2_keepSilence : MethodName := ⟨RX2, "keepSilence", "(I)V"⟩
abbrev cX2_keepSound : ByteArray := prog_4_method_18_code
def yX2_keepSound : MethodName := ⟨RX2, "keepSound", "(IIIZ)V"⟩
abbrev cX2_forgetPlaying : ByteArray := prog_4_method_19_code
def yX2_forgetPlaying : MethodName := ⟨RX2, "forgetPlaying", "()V"⟩
abbrev cX2_sounded : ByteArray := prog_4_method_20_code
def yX2_sounded : MethodName := ⟨RX2, "sounded", "(I)Z"⟩
abbrev cX2_notesWith : ByteArray := prog_4_method_21_code
def yX2_notesWith : MethodName := ⟨RX2, "notesWith", "(I)I"⟩
abbrev cX2_playedNotes : ByteArray := prog_4_method_22_code
def yX2_playedNotes : MethodName := ⟨RX2, "playedNotes", "()I"⟩
abbrev cX2_property : ByteArray := prog_4_method_23_code
def yX2_property : MethodName := ⟨RX2, "property", "(III)I"⟩
abbrev cX2_errorSize : ByteArray := prog_4_method_24_code
def yX2_errorSize : MethodName := ⟨RX2, "errorSize", "(I)I"⟩
abbrev cX2_noteAtRank : ByteArray := prog_4_method_25_code
def yX2_noteAtRank : MethodName := ⟨RX2, "noteAtRank", "(I)I"⟩
abbrev cX2_rankOf : ByteArray := prog_4_method_26_code
def yX2_rankOf : MethodName := ⟨RX2, "rankOf", "(I)I"⟩
abbrev cX2_firstFalseAfter : ByteArray := prog_4_method_27_code
def yX2_firstFalseAfter : MethodName := ⟨RX2, "firstFalseAfter", "(I)I"⟩
abbrev cX2_greatestErrorAfter : ByteArray := prog_4_method_28_code
def yX2_greatestErrorAfter : MethodName := ⟨RX2, "greatestErrorAfter", "(I)I"⟩
abbrev cX2_copyFrom : ByteArray := prog_4_method_29_code
def yX2_copyFrom : MethodName := ⟨RX2, "copyFrom", "(LGlassBowls$Piece;)V"⟩
def RX3 : String := "GlassBowls$Row"
def TX3 : u_T := fun k => match k with
  | _ => ("GlassBowls$Row", "cells", "[I", true)
def tyX3 : Nat → FieldType := fun k => match k with
  | _ => .array .int
abbrev wsX30 : List Cond := u_ws RX3 TX3 1
theorem nmX3 : ∀ a, a < 1 → ∀ b, b < 1 → a ≠ b → (TX3 a).2.1 ≠ (TX3 b).2.1 := by decide +kernel
theorem tyX3_ok : ∀ k, k < 1 → parseFieldDescriptor (TX3 k).2.2.1 = some (tyX3 k) := by decide +kernel
abbrev cX3_init : ByteArray := prog_5_method_1_code
def yX3_init : MethodName := ⟨RX3, "<init>", "(I)V"⟩
abbrev cX3_get : ByteArray := prog_5_method_2_code
def yX3_get : MethodName := ⟨RX3, "get", "(I)I"⟩
abbrev cX3_put : ByteArray := prog_5_method_3_code
def yX3_put : MethodName := ⟨RX3, "put", "(II)V"⟩
abbrev cX3_add : ByteArray := prog_5_method_4_code
def yX3_add : MethodName := ⟨RX3, "add", "(II)V"⟩
abbrev cX3_insert : ByteArray := prog_5_method_5_code
def yX3_insert : MethodName := ⟨RX3, "insert", "(III)V"⟩
abbrev cX3_delete : ByteArray := prog_5_method_6_code
def yX3_delete : MethodName := ⟨RX3, "delete", "(II)V"⟩
abbrev cX3_copyFrom : ByteArray := prog_5_method_7_code
def yX3_copyFrom : MethodName := ⟨RX3, "copyFrom", "(LGlassBowls$Row;)V"⟩
def RX4 : String := "GlassBowls$Table"
def TX4 : u_T := fun k => match k with
  | 0 => ("GlassBowls$Table", "bowls", "LGlassBowls$Bowls;", true)
  | 1 => ("GlassBowls$Table", "piece", "LGlassBowls$Piece;", true)
  | 2 => ("GlassBowls$Table", "settings", "LGlassBowls$Row;", true)
  | _ => ("GlassBowls$Table", "time", "I", false)
def tyX4 : Nat → FieldType := fun k => match k with
  | 0 => .object "GlassBowls$Bowls"
  | 1 => .object "GlassBowls$Piece"
  | 2 => .object "GlassBowls$Row"
  | _ => .int
abbrev wsX40 : List Cond := u_ws RX4 TX4 4
theorem nmX4 : ∀ a, a < 4 → ∀ b, b < 4 → a ≠ b → (TX4 a).2.1 ≠ (TX4 b).2.1 := by decide +kernel
theorem tyX4_ok : ∀ k, k < 4 → parseFieldDescriptor (TX4 k).2.2.1 = some (tyX4 k) := by decide +kernel
abbrev cX4_init : ByteArray := prog_6_method_1_code
def yX4_init : MethodName := ⟨RX4, "<init>", "()V"⟩
abbrev cX4_time : ByteArray := prog_6_method_2_code
def yX4_time : MethodName := ⟨RX4, "time", "()I"⟩
abbrev cX4_setting : ByteArray := prog_6_method_3_code
def yX4_setting : MethodName := ⟨RX4, "setting", "(I)I"⟩
abbrev cX4_changeSetting : ByteArray := prog_6_method_4_code
def yX4_changeSetting : MethodName := ⟨RX4, "changeSetting", "(II)I"⟩
abbrev cX4_startAgain : ByteArray := prog_6_method_5_code
def yX4_startAgain : MethodName := ⟨RX4, "startAgain", "()V"⟩
abbrev cX4_advance : ByteArray := prog_6_method_6_code
def yX4_advance : MethodName := ⟨RX4, "advance", "(I)I"⟩
abbrev cX4_dryUntil : ByteArray := prog_6_method_7_code
def yX4_dryUntil : MethodName := ⟨RX4, "dryUntil", "(I)V"⟩
abbrev cX4_playNote : ByteArray := prog_6_method_8_code
def yX4_playNote : MethodName := ⟨RX4, "playNote", "(I)V"⟩
abbrev cX4_copyFrom : ByteArray := prog_6_method_9_code
def yX4_copyFrom : MethodName := ⟨RX4, "copyFrom", "(LGlassBowls$Table;)V"⟩
def RX5 : String := "GlassBowls$Text"
def TX5 : u_T := fun k => match k with
  | 0 => ("GlassBowls$Text", "characters", "LGlassBowls$Row;", true)
  | 1 => ("GlassBowls$Text", "length", "I", false)
  | 2 => ("GlassBowls$Text", "place", "I", false)
  | 3 => ("GlassBowls$Text", "time", "I", false)
  | 4 => ("GlassBowls$Text", "pitch", "I", false)
  | 5 => ("GlassBowls$Text", "notesRead", "I", false)
  | 6 => ("GlassBowls$Text", "faultPlace", "I", false)
  | _ => ("GlassBowls$Text", "faultReason", "I", false)
def tyX5 : Nat → FieldType := fun k => match k with
  | 0 => .object "GlassBowls$Row"
  | 1 => .int
  | 2 => .int
  | 3 => .int
  | 4 => .int
  | 5 => .int
  | 6 => .int
  | _ => .int
abbrev wsX50 : List Cond := u_ws RX5 TX5 8
theorem nmX5 : ∀ a, a < 8 → ∀ b, b < 8 → a ≠ b → (TX5 a).2.1 ≠ (TX5 b).2.1 := by decide +kernel
theorem tyX5_ok : ∀ k, k < 8 → parseFieldDescriptor (TX5 k).2.2.1 = some (tyX5 k) := by decide +kernel
abbrev cX5_init : ByteArray := prog_7_method_1_code
def yX5_init : MethodName := ⟨RX5, "<init>", "()V"⟩
abbrev cX5_length : ByteArray := prog_7_method_2_code
def yX5_length : MethodName := ⟨RX5, "length", "()I"⟩
abbrev cX5_notesRead : ByteArray := prog_7_method_3_code
def yX5_notesRead : MethodName := ⟨RX5, "notesRead", "()I"⟩
abbrev cX5_faultPlace : ByteArray := prog_7_method_4_code
def yX5_faultPlace : MethodName := ⟨RX5, "faultPlace", "()I"⟩
abbrev cX5_faultReason : ByteArray := prog_7_method_5_code
def yX5_faultReason : MethodName := ⟨RX5, "faultReason", "()I"⟩
abbrev cX5_append : ByteArray := prog_7_method_6_code
def yX5_append : MethodName := ⟨RX5, "append", "(I)V"⟩
abbrev cX5_empty : ByteArray := prog_7_method_7_code
def yX5_empty : MethodName := ⟨RX5, "empty", "()V"⟩
abbrev cX5_readInto : ByteArray := prog_7_method_8_code
def yX5_readInto : MethodName := ⟨RX5, "readInto", "(LGlassBowls$Piece;)V"⟩
abbrev cX5_reasonAgainstNext : ByteArray := prog_7_method_9_code
def yX5_reasonAgainstNext : MethodName := ⟨RX5, "reasonAgainstNext", "(LGlassBowls$Piece;)I"⟩
abbrev cX5_readNote : ByteArray := prog_7_method_10_code
def yX5_readNote : MethodName := ⟨RX5, "readNote", "()Z"⟩
abbrev cX5_readNumber : ByteArray := prog_7_method_11_code
def yX5_readNumber : MethodName := ⟨RX5, "readNumber", "()I"⟩
abbrev cX5_readCharacter : ByteArray := prog_7_method_12_code
def yX5_readCharacter : MethodName := ⟨RX5, "readCharacter", "(I)Z"⟩
def RX6 : String := "GlassBowls"
def TX6 : u_T := fun k => match k with
  | 0 => ("GlassBowls", "table", "LGlassBowls$Table;", true)
  | 1 => ("GlassBowls", "trial", "LGlassBowls$Table;", true)
  | 2 => ("GlassBowls", "history", "LGlassBowls$History;", true)
  | _ => ("GlassBowls", "text", "LGlassBowls$Text;", true)
def tyX6 : Nat → FieldType := fun k => match k with
  | 0 => .object "GlassBowls$Table"
  | 1 => .object "GlassBowls$Table"
  | 2 => .object "GlassBowls$History"
  | _ => .object "GlassBowls$Text"
abbrev wsX60 : List Cond := u_ws RX6 TX6 4
theorem nmX6 : ∀ a, a < 4 → ∀ b, b < 4 → a ≠ b → (TX6 a).2.1 ≠ (TX6 b).2.1 := by decide +kernel
theorem tyX6_ok : ∀ k, k < 4 → parseFieldDescriptor (TX6 k).2.2.1 = some (tyX6 k) := by decide +kernel
abbrev cX6_init : ByteArray := prog_1_method_1_code
def yX6_init : MethodName := ⟨RX6, "<init>", "()V"⟩
abbrev cX6_bowl : ByteArray := prog_1_method_2_code
def yX6_bowl : MethodName := ⟨RX6, "bowl", "(II)I"⟩
abbrev cX6_remove : ByteArray := prog_1_method_3_code
def yX6_remove : MethodName := ⟨RX6, "remove", "(I)I"⟩
abbrev cX6_pour : ByteArray := prog_1_method_4_code
def yX6_pour : MethodName := ⟨RX6, "pour", "(II)I"⟩
abbrev cX6_spill : ByteArray := prog_1_method_5_code
def yX6_spill : MethodName := ⟨RX6, "spill", "(II)I"⟩
abbrev cX6_crack : ByteArray := prog_1_method_6_code
def yX6_crack : MethodName := ⟨RX6, "crack", "(II)I"⟩
abbrev cX6_mark : ByteArray := prog_1_method_7_code
def yX6_mark : MethodName := ⟨RX6, "mark", "(II)I"⟩
abbrev cX6_bowlOf : ByteArray := prog_1_method_8_code
def yX6_bowlOf : MethodName := ⟨RX6, "bowlOf", "(II)I"⟩
abbrev cX6_levelFor : ByteArray := prog_1_method_9_code
def yX6_levelFor : MethodName := ⟨RX6, "levelFor", "(II)I"⟩
abbrev cX6_nearest : ByteArray := prog_1_method_10_code
def yX6_nearest : MethodName := ⟨RX6, "nearest", "(I)I"⟩
abbrev cX6_set : ByteArray := prog_1_method_11_code
def yX6_set : MethodName := ⟨RX6, "set", "(II)I"⟩
abbrev cX6_count : ByteArray := prog_1_method_12_code
def yX6_count : MethodName := ⟨RX6, "count", "(I)I"⟩
abbrev cX6_undo : ByteArray := prog_1_method_13_code
def yX6_undo : MethodName := ⟨RX6, "undo", "()I"⟩
abbrev cX6_note : ByteArray := prog_1_method_14_code
def yX6_note : MethodName := ⟨RX6, "note", "(II)I"⟩
abbrev cX6_drop : ByteArray := prog_1_method_15_code
def yX6_drop : MethodName := ⟨RX6, "drop", "(I)I"⟩
abbrev cX6_transpose : ByteArray := prog_1_method_16_code
def yX6_transpose : MethodName := ⟨RX6, "transpose", "(III)I"⟩
abbrev cX6_noteOf : ByteArray := prog_1_method_17_code
def yX6_noteOf : MethodName := ⟨RX6, "noteOf", "(II)I"⟩
abbrev cX6_run : ByteArray := prog_1_method_18_code
def yX6_run : MethodName := ⟨RX6, "run", "(I)I"⟩
abbrev cX6_rewind : ByteArray := prog_1_method_19_code
def yX6_rewind : MethodName := ⟨RX6, "rewind", "()I"⟩
abbrev cX6_worst : ByteArray := prog_1_method_20_code
def yX6_worst : MethodName := ⟨RX6, "worst", "(I)I"⟩
abbrev cX6_wouldBe : ByteArray := prog_1_method_21_code
def yX6_wouldBe : MethodName := ⟨RX6, "wouldBe", "(I)I"⟩
abbrev cX6_firstFalse : ByteArray := prog_1_method_22_code
def yX6_firstFalse : MethodName := ⟨RX6, "firstFalse", "()I"⟩
abbrev cX6_leastTolerance : ByteArray := prog_1_method_23_code
def yX6_leastTolerance : MethodName := ⟨RX6, "leastTolerance", "()I"⟩
abbrev cX6_pitchAt : ByteArray := prog_1_method_24_code
def yX6_pitchAt : MethodName := ⟨RX6, "pitchAt", "(II)I"⟩
abbrev cX6_type : ByteArray := prog_1_method_25_code
def yX6_type : MethodName := ⟨RX6, "type", "(I)I"⟩
abbrev cX6_clearText : ByteArray := prog_1_method_26_code
def yX6_clearText : MethodName := ⟨RX6, "clearText", "()I"⟩
abbrev cX6_fault : ByteArray := prog_1_method_27_code
def yX6_fault : MethodName := ⟨RX6, "fault", "(I)I"⟩
abbrev cX6_enter : ByteArray := prog_1_method_28_code
def yX6_enter : MethodName := ⟨RX6, "enter", "()I"⟩
abbrev cX6_isWithin : ByteArray := prog_1_method_29_code
def yX6_isWithin : MethodName := ⟨RX6, "isWithin", "(III)Z"⟩
abbrev cX6_isSetting : ByteArray := prog_1_method_30_code
def yX6_isSetting : MethodName := ⟨RX6, "isSetting", "(II)Z"⟩
abbrev cX6_orNotFound : ByteArray := prog_1_method_31_code
def yX6_orNotFound : MethodName := ⟨RX6, "orNotFound", "(I)I"⟩
abbrev cX6_oneIf : ByteArray := prog_1_method_32_code
def yX6_oneIf : MethodName := ⟨RX6, "oneIf", "(Z)I"⟩
abbrev cX6_tryOut : ByteArray := prog_1_method_33_code
def yX6_tryOut : MethodName := ⟨RX6, "tryOut", "(I)V"⟩
abbrev cX6_tryText : ByteArray := prog_1_method_34_code
def yX6_tryText : MethodName := ⟨RX6, "tryText", "()V"⟩
def RX7 : String := "GlassBowlsModel"
def TX7 : u_T := fun k => match k with
  | 0 => ("GlassBowlsModel", "st", "[I", true)
  | 1 => ("GlassBowlsModel", "past", "[I", true)
  | 2 => ("GlassBowlsModel", "aside", "[I", true)
  | 3 => ("GlassBowlsModel", "pasts", "I", false)
  | 4 => ("GlassBowlsModel", "text", "[I", true)
  | 5 => ("GlassBowlsModel", "length", "I", false)
  | 6 => ("GlassBowlsModel", "spot", "I", false)
  | 7 => ("GlassBowlsModel", "itsTime", "I", false)
  | 8 => ("GlassBowlsModel", "itsPitch", "I", false)
  | 9 => ("GlassBowlsModel", "times", "[I", true)
  | _ => ("GlassBowlsModel", "from", "I", false)
def tyX7 : Nat → FieldType := fun k => match k with
  | 0 => .array .int
  | 1 => .array .int
  | 2 => .array .int
  | 3 => .int
  | 4 => .array .int
  | 5 => .int
  | 6 => .int
  | 7 => .int
  | 8 => .int
  | 9 => .array .int
  | _ => .int
abbrev wsX70 : List Cond := u_ws RX7 TX7 11
theorem nmX7 : ∀ a, a < 11 → ∀ b, b < 11 → a ≠ b → (TX7 a).2.1 ≠ (TX7 b).2.1 := by decide +kernel
theorem tyX7_ok : ∀ k, k < 11 → parseFieldDescriptor (TX7 k).2.2.1 = some (tyX7 k) := by decide +kernel
abbrev cX7_init : ByteArray := prog_9_method_1_code
def yX7_init : MethodName := ⟨RX7, "<init>", "()V"⟩
abbrev cX7_in : ByteArray := prog_9_method_3_code
def yX7_in : MethodName := ⟨RX7, "in", "(III)Z"⟩
abbrev cX7_size : ByteArray := prog_9_method_4_code
def yX7_size : MethodName := ⟨RX7, "size", "(I)I"⟩
abbrev cX7_of : ByteArray := prog_9_method_5_code
def yX7_of : MethodName := ⟨RX7, "of", "(II)I"⟩
abbrev cX7_put : ByteArray := prog_9_method_6_code
def yX7_put : MethodName := ⟨RX7, "put", "(III)V"⟩
abbrev cX7_has : ByteArray := prog_9_method_7_code
def yX7_has : MethodName := ⟨RX7, "has", "(II)I"⟩
abbrev cX7_lay : ByteArray := prog_9_method_8_code
def yX7_lay : MethodName := ⟨RX7, "lay", "(III)V"⟩
abbrev cX7_setting : ByteArray := prog_9_method_9_code
def yX7_setting : MethodName := ⟨RX7, "setting", "(I)I"⟩
abbrev cX7_isBowl : ByteArray := prog_9_method_10_code
def yX7_isBowl : MethodName := ⟨RX7, "isBowl", "(I)Z"⟩
abbrev cX7_isNote : ByteArray := prog_9_method_11_code
def yX7_isNote : MethodName := ⟨RX7, "isNote", "(I)Z"⟩
abbrev cX7_records : ByteArray := prog_9_method_12_code
def yX7_records : MethodName := ⟨RX7, "records", "()V"⟩
abbrev cX7_undo : ByteArray := prog_9_method_13_code
def yX7_undo : MethodName := ⟨RX7, "undo", "()I"⟩
abbrev cX7_laysAside : ByteArray := prog_9_method_14_code
def yX7_laysAside : MethodName := ⟨RX7, "laysAside", "()V"⟩
abbrev cX7_bringsBack : ByteArray := prog_9_method_15_code
def yX7_bringsBack : MethodName := ⟨RX7, "bringsBack", "()V"⟩
abbrev cX7_pitchBy : ByteArray := prog_9_method_16_code
def yX7_pitchBy : MethodName := ⟨RX7, "pitchBy", "(II)I"⟩
abbrev cX7_pitch : ByteArray := prog_9_method_17_code
def yX7_pitch : MethodName := ⟨RX7, "pitch", "(I)I"⟩
abbrev cX7_loses : ByteArray := prog_9_method_18_code
def yX7_loses : MethodName := ⟨RX7, "loses", "(I)I"⟩
abbrev cX7_comes : ByteArray := prog_9_method_19_code
def yX7_comes : MethodName := ⟨RX7, "comes", "(II)V"⟩
abbrev cX7_bowl : ByteArray := prog_9_method_20_code
def yX7_bowl : MethodName := ⟨RX7, "bowl", "(II)I"⟩
abbrev cX7_remove : ByteArray := prog_9_method_21_code
def yX7_remove : MethodName := ⟨RX7, "remove", "(I)I"⟩
abbrev cX7_pour : ByteArray := prog_9_method_22_code
def yX7_pour : MethodName := ⟨RX7, "pour", "(II)I"⟩
abbrev cX7_spill : ByteArray := prog_9_method_23_code
def yX7_spill : MethodName := ⟨RX7, "spill", "(II)I"⟩
abbrev cX7_crack : ByteArray := prog_9_method_24_code
def yX7_crack : MethodName := ⟨RX7, "crack", "(II)I"⟩
abbrev cX7_mark : ByteArray := prog_9_method_25_code
def yX7_mark : MethodName := ⟨RX7, "mark", "(II)I"⟩
abbrev cX7_bowlOf : ByteArray := prog_9_method_26_code
def yX7_bowlOf : MethodName := ⟨RX7, "bowlOf", "(II)I"⟩
abbrev cX7_levelFor : ByteArray := prog_9_method_27_code
def yX7_levelFor : MethodName := ⟨RX7, "levelFor", "(II)I"⟩
abbrev cX7_sounds : ByteArray := prog_9_method_28_code
def yX7_sounds : MethodName := ⟨RX7, "sounds", "(I)I"⟩
abbrev cX7_nearest : ByteArray := prog_9_method_29_code
def yX7_nearest : MethodName := ⟨RX7, "nearest", "(I)I"⟩
abbrev cX7_canBe : ByteArray := prog_9_method_30_code
def yX7_canBe : MethodName := ⟨RX7, "canBe", "(II)Z"⟩
abbrev cX7_set : ByteArray := prog_9_method_31_code
def yX7_set : MethodName := ⟨RX7, "set", "(II)I"⟩
abbrev cX7_water : ByteArray := prog_9_method_32_code
def yX7_water : MethodName := ⟨RX7, "water", "()I"⟩
abbrev cX7_notesThat : ByteArray := prog_9_method_33_code
def yX7_notesThat : MethodName := ⟨RX7, "notesThat", "(I)I"⟩
abbrev cX7_count : ByteArray := prog_9_method_34_code
def yX7_count : MethodName := ⟨RX7, "count", "(I)I"⟩
abbrev cX7_begins : ByteArray := prog_9_method_35_code
def yX7_begins : MethodName := ⟨RX7, "begins", "(I)Z"⟩
abbrev cX7_phraseOf : ByteArray := prog_9_method_36_code
def yX7_phraseOf : MethodName := ⟨RX7, "phraseOf", "(I)I"⟩
abbrev cX7_noteAt : ByteArray := prog_9_method_37_code
def yX7_noteAt : MethodName := ⟨RX7, "noteAt", "(I)I"⟩
abbrev cX7_newNote : ByteArray := prog_9_method_38_code
def yX7_newNote : MethodName := ⟨RX7, "newNote", "(II)I"⟩
abbrev cX7_note : ByteArray := prog_9_method_39_code
def yX7_note : MethodName := ⟨RX7, "note", "(II)I"⟩
abbrev cX7_drop : ByteArray := prog_9_method_40_code
def yX7_drop : MethodName := ⟨RX7, "drop", "(I)I"⟩
abbrev cX7_transpose : ByteArray := prog_9_method_41_code
def yX7_transpose : MethodName := ⟨RX7, "transpose", "(III)I"⟩
abbrev cX7_noteOf : ByteArray := prog_9_method_42_code
def yX7_noteOf : MethodName := ⟨RX7, "noteOf", "(II)I"⟩
abbrev cX7_dries : ByteArray := prog_9_method_43_code
def yX7_dries : MethodName := ⟨RX7, "dries", "()V"⟩
abbrev cX7_fills : ByteArray := prog_9_method_44_code
def yX7_fills : MethodName := ⟨RX7, "fills", "()V"⟩
abbrev cX7_plays : ByteArray := prog_9_method_45_code
def yX7_plays : MethodName := ⟨RX7, "plays", "(I)V"⟩
abbrev cX7_second : ByteArray := prog_9_method_46_code
def yX7_second : MethodName := ⟨RX7, "second", "()I"⟩
abbrev cX7_run : ByteArray := prog_9_method_47_code
def yX7_run : MethodName := ⟨RX7, "run", "(I)I"⟩
abbrev cX7_rewind : ByteArray := prog_9_method_48_code
def yX7_rewind : MethodName := ⟨RX7, "rewind", "()I"⟩
abbrev cX7_hasSounded : ByteArray := prog_9_method_49_code
def yX7_hasSounded : MethodName := ⟨RX7, "hasSounded", "(I)Z"⟩
abbrev cX7_standAhead : ByteArray := prog_9_method_50_code
def yX7_standAhead : MethodName := ⟨RX7, "standAhead", "(I)I"⟩
abbrev cX7_worst : ByteArray := prog_9_method_51_code
def yX7_worst : MethodName := ⟨RX7, "worst", "(I)I"⟩
abbrev cX7_isToCome : ByteArray := prog_9_method_52_code
def yX7_isToCome : MethodName := ⟨RX7, "isToCome", "(I)Z"⟩
abbrev cX7_goesTo : ByteArray := prog_9_method_53_code
def yX7_goesTo : MethodName := ⟨RX7, "goesTo", "(I)V"⟩
abbrev cX7_wouldBe : ByteArray := prog_9_method_54_code
def yX7_wouldBe : MethodName := ⟨RX7, "wouldBe", "(I)I"⟩
abbrev cX7_firstFalse : ByteArray := prog_9_method_55_code
def yX7_firstFalse : MethodName := ⟨RX7, "firstFalse", "()I"⟩
abbrev cX7_leastTolerance : ByteArray := prog_9_method_56_code
def yX7_leastTolerance : MethodName := ⟨RX7, "leastTolerance", "()I"⟩
abbrev cX7_pitchAt : ByteArray := prog_9_method_57_code
def yX7_pitchAt : MethodName := ⟨RX7, "pitchAt", "(II)I"⟩
abbrev cX7_type : ByteArray := prog_9_method_58_code
def yX7_type : MethodName := ⟨RX7, "type", "(I)I"⟩
abbrev cX7_clearText : ByteArray := prog_9_method_59_code
def yX7_clearText : MethodName := ⟨RX7, "clearText", "()I"⟩
abbrev cX7_takes : ByteArray := prog_9_method_60_code
def yX7_takes : MethodName := ⟨RX7, "takes", "(I)Z"⟩
abbrev cX7_digits : ByteArray := prog_9_method_61_code
def yX7_digits : MethodName := ⟨RX7, "digits", "()I"⟩
abbrev cX7_isFormed : ByteArray := prog_9_method_62_code
def yX7_isFormed : MethodName := ⟨RX7, "isFormed", "()Z"⟩
abbrev cX7_isTaken : ByteArray := prog_9_method_63_code
def yX7_isTaken : MethodName := ⟨RX7, "isTaken", "(I)Z"⟩
abbrev cX7_reasonOfText : ByteArray := prog_9_method_64_code
def yX7_reasonOfText : MethodName := ⟨RX7, "reasonOfText", "()I"⟩
abbrev cX7_fault : ByteArray := prog_9_method_65_code
def yX7_fault : MethodName := ⟨RX7, "fault", "(I)I"⟩
abbrev cX7_enter : ByteArray := prog_9_method_66_code
def yX7_enter : MethodName := ⟨RX7, "enter", "()I"⟩
def RJ9 : String := "java/lang/Math"
def TJ9 : u_T := fun k => match k with
  | _ => ("", "", "", false)
def tyJ9 : Nat → FieldType := fun k => match k with
  | _ => .int
abbrev wsJ90 : List Cond := u_ws RJ9 TJ9 0
theorem nmJ9 : ∀ a, a < 0 → ∀ b, b < 0 → a ≠ b → (TJ9 a).2.1 ≠ (TJ9 b).2.1 := by decide +kernel
theorem tyJ9_ok : ∀ k, k < 0 → parseFieldDescriptor (TJ9 k).2.2.1 = some (tyJ9 k) := by decide +kernel
abbrev cJ9_abs_0f7a4 : ByteArray := prog_10_method_59_code
def yJ9_abs_0f7a4 : MethodName := ⟨RJ9, "abs", "(I)I"⟩
abbrev cJ9_max_7cf53 : ByteArray := prog_10_method_65_code
def yJ9_max_7cf53 : MethodName := ⟨RJ9, "max", "(II)I"⟩
abbrev cJ9_min_7cf53 : ByteArray := prog_10_method_69_code
def yJ9_min_7cf53 : MethodName := ⟨RJ9, "min", "(II)I"⟩
def RJ10 : String := "java/lang/System"
def TJ10 : u_T := fun k => match k with
  | _ => ("", "", "", false)
def tyJ10 : Nat → FieldType := fun k => match k with
  | _ => .int
abbrev wsJ100 : List Cond := u_ws RJ10 TJ10 0
theorem nmJ10 : ∀ a, a < 0 → ∀ b, b < 0 → a ≠ b → (TJ10 a).2.1 ≠ (TJ10 b).2.1 := by decide +kernel
theorem tyJ10_ok : ∀ k, k < 0 → parseFieldDescriptor (TJ10 k).2.2.1 = some (tyJ10 k) := by decide +kernel
def RL : String := "GlassBowlsLaw"
abbrev cL_law : ByteArray := code
def yL_law : MethodName := ⟨RL, "law", "([I)Z"⟩
abbrev vwCl : List vw_C := [(RX0, TX0, 10), (RX1, TX1, 3), (RX2, TX2, 6), (RX3, TX3, 1), (RX4, TX4, 4), (RX5, TX5, 8), (RX6, TX6, 4), (RX7, TX7, 11)]
def gWs : List Cond := lw_tbl.filter goodWord
theorem gWs_of {w : Cond} {i : Nat} (h : lw_tbl[i]? = some w) (hg : goodWord w = true) : w ∈ gWs := List.mem_filter.mpr ⟨List.mem_of_getElem? h, hg⟩
theorem gWs_self {ws : List Cond} (h : ∀ w ∈ ws, w ∈ gWs) : GoodIn gWs ws := fun w hw => ⟨h w hw, good_of_word (List.mem_filter.mp (h w hw)).2⟩
theorem gWs_in : ∀ w ∈ gWs, w ∈ lw_tbl := fun _ h => (List.mem_filter.mp h).1
theorem inX0 : ∀ w ∈ wsX00, w ∈ gWs := fun w h => List.mem_filter.mpr ⟨(by decide +kernel : ∀ w ∈ wsX00, w ∈ lw_tbl) w h, (by decide +kernel : ∀ w ∈ wsX00, goodWord w = true) w h⟩
theorem inX1 : ∀ w ∈ wsX10, w ∈ gWs := fun w h => List.mem_filter.mpr ⟨(by decide +kernel : ∀ w ∈ wsX10, w ∈ lw_tbl) w h, (by decide +kernel : ∀ w ∈ wsX10, goodWord w = true) w h⟩
theorem inX2 : ∀ w ∈ wsX20, w ∈ gWs := fun w h => List.mem_filter.mpr ⟨(by decide +kernel : ∀ w ∈ wsX20, w ∈ lw_tbl) w h, (by decide +kernel : ∀ w ∈ wsX20, goodWord w = true) w h⟩
theorem inX3 : ∀ w ∈ wsX30, w ∈ gWs := fun w h => List.mem_filter.mpr ⟨(by decide +kernel : ∀ w ∈ wsX30, w ∈ lw_tbl) w h, (by decide +kernel : ∀ w ∈ wsX30, goodWord w = true) w h⟩
theorem inX4 : ∀ w ∈ wsX40, w ∈ gWs := fun w h => List.mem_filter.mpr ⟨(by decide +kernel : ∀ w ∈ wsX40, w ∈ lw_tbl) w h, (by decide +kernel : ∀ w ∈ wsX40, goodWord w = true) w h⟩
theorem inX5 : ∀ w ∈ wsX50, w ∈ gWs := fun w h => List.mem_filter.mpr ⟨(by decide +kernel : ∀ w ∈ wsX50, w ∈ lw_tbl) w h, (by decide +kernel : ∀ w ∈ wsX50, goodWord w = true) w h⟩
theorem inX6 : ∀ w ∈ wsX60, w ∈ gWs := fun w h => List.mem_filter.mpr ⟨(by decide +kernel : ∀ w ∈ wsX60, w ∈ lw_tbl) w h, (by decide +kernel : ∀ w ∈ wsX60, goodWord w = true) w h⟩
theorem inX7 : ∀ w ∈ wsX70, w ∈ gWs := fun w h => List.mem_filter.mpr ⟨(by decide +kernel : ∀ w ∈ wsX70, w ∈ lw_tbl) w h, (by decide +kernel : ∀ w ∈ wsX70, goodWord w = true) w h⟩
end
section
theorem kw_in_RL : Cond.initialized RL ∈ gWs := gWs_of (i := 51) (by decide +kernel) (by decide +kernel)
theorem kw_in_RX6 : Cond.initialized RX6 ∈ gWs := gWs_of (i := 52) (by decide +kernel) (by decide +kernel)
theorem kw_in_RX4 : Cond.initialized RX4 ∈ gWs := gWs_of (i := 53) (by decide +kernel) (by decide +kernel)
theorem kw_in_RX0 : Cond.initialized RX0 ∈ gWs := gWs_of (i := 54) (by decide +kernel) (by decide +kernel)
theorem kw_in_RX3 : Cond.initialized RX3 ∈ gWs := gWs_of (i := 55) (by decide +kernel) (by decide +kernel)
theorem kw_in_RJ9 : Cond.initialized "java/lang/Math" ∈ gWs := gWs_of (i := 56) (by decide +kernel) (by decide +kernel)
theorem kw_in_RX2 : Cond.initialized RX2 ∈ gWs := gWs_of (i := 57) (by decide +kernel) (by decide +kernel)
theorem kw_in_RX1 : Cond.initialized RX1 ∈ gWs := gWs_of (i := 58) (by decide +kernel) (by decide +kernel)
theorem kw_in_RX5 : Cond.initialized RX5 ∈ gWs := gWs_of (i := 59) (by decide +kernel) (by decide +kernel)
theorem kw_in_RX7 : Cond.initialized RX7 ∈ gWs := gWs_of (i := 60) (by decide +kernel) (by decide +kernel)
theorem kw_in_RJ10 : Cond.initialized "java/lang/System" ∈ gWs := gWs_of (i := 61) (by decide +kernel) (by decide +kernel)
theorem kw_cl_RL_7 : Cond.classLink RL 7 RX6 ∈ gWs := gWs_of (i := 62) (by decide +kernel) (by decide +kernel)
theorem kw_it_RX6 : Cond.instantiable RX6 4 ∈ gWs := gWs_of (i := 63) (by decide +kernel) (by decide +kernel)
theorem kw_ml_RL_9 : Cond.methodLink RL 9 yX6_init ∈ gWs := gWs_of (i := 64) (by decide +kernel) (by decide +kernel)
theorem kw_im_X6_init : Cond.instanceMethod yX6_init ∈ gWs := gWs_of (i := 65) (by decide +kernel) (by decide +kernel)
theorem kw_co_X6_init : Cond.code yX6_init cX6_init 1 none ∈ gWs := gWs_of (i := 66) (by decide +kernel) (by decide +kernel)
theorem kw_ml_RX6_1 : Cond.methodLink RX6 1 objectInit ∈ gWs := gWs_of (i := 67) (by decide +kernel) (by decide +kernel)
theorem kw_im_obj : Cond.instanceMethod objectInit ∈ gWs := gWs_of (i := 68) (by decide +kernel) (by decide +kernel)
theorem kw_co_obj : Cond.code objectInit ⟨#[0xb1]⟩ 1 none ∈ gWs := gWs_of (i := 69) (by decide +kernel) (by decide +kernel)
theorem kw_cl_RX6_7 : Cond.classLink RX6 7 RX4 ∈ gWs := gWs_of (i := 70) (by decide +kernel) (by decide +kernel)
theorem kw_it_RX4 : Cond.instantiable RX4 4 ∈ gWs := gWs_of (i := 71) (by decide +kernel) (by decide +kernel)
theorem kw_ml_RX6_9 : Cond.methodLink RX6 9 yX4_init ∈ gWs := gWs_of (i := 72) (by decide +kernel) (by decide +kernel)
theorem kw_im_X4_init : Cond.instanceMethod yX4_init ∈ gWs := gWs_of (i := 73) (by decide +kernel) (by decide +kernel)
theorem kw_co_X4_init : Cond.code yX4_init cX4_init 1 none ∈ gWs := gWs_of (i := 74) (by decide +kernel) (by decide +kernel)
theorem kw_ml_RX4_3 : Cond.methodLink RX4 3 objectInit ∈ gWs := gWs_of (i := 75) (by decide +kernel) (by decide +kernel)
theorem kw_cl_RX4_9 : Cond.classLink RX4 9 RX0 ∈ gWs := gWs_of (i := 76) (by decide +kernel) (by decide +kernel)
theorem kw_it_RX0 : Cond.instantiable RX0 10 ∈ gWs := gWs_of (i := 77) (by decide +kernel) (by decide +kernel)
theorem kw_im_X0_init : Cond.instanceMethod yX0_init ∈ gWs := gWs_of (i := 79) (by decide +kernel) (by decide +kernel)
theorem kw_co_X0_init : Cond.code yX0_init cX0_init 1 none ∈ gWs := gWs_of (i := 80) (by decide +kernel) (by decide +kernel)
theorem kw_ml_RX0_3 : Cond.methodLink RX0 3 objectInit ∈ gWs := gWs_of (i := 81) (by decide +kernel) (by decide +kernel)
theorem kw_cl_RX0_9 : Cond.classLink RX0 9 RX3 ∈ gWs := gWs_of (i := 82) (by decide +kernel) (by decide +kernel)
theorem kw_it_RX3 : Cond.instantiable RX3 1 ∈ gWs := gWs_of (i := 83) (by decide +kernel) (by decide +kernel)
theorem kw_ml_RX0_11 : Cond.methodLink RX0 11 yX3_init ∈ gWs := gWs_of (i := 84) (by decide +kernel) (by decide +kernel)
theorem kw_im_X3_init : Cond.instanceMethod yX3_init ∈ gWs := gWs_of (i := 85) (by decide +kernel) (by decide +kernel)
theorem kw_co_X3_init : Cond.code yX3_init cX3_init 2 none ∈ gWs := gWs_of (i := 86) (by decide +kernel) (by decide +kernel)
theorem kw_ml_RX3_1 : Cond.methodLink RX3 1 objectInit ∈ gWs := gWs_of (i := 87) (by decide +kernel) (by decide +kernel)
theorem kw_ml_RX3_7 : Cond.methodLink RX3 7 Lib.Math.max.name ∈ gWs := gWs_of (i := 88) (by decide +kernel) (by decide +kernel)
theorem kw_st_max : Cond.static Lib.Math.max.name ∈ gWs := gWs_of (i := 89) (by decide +kernel) (by decide +kernel)
theorem kw_co_max : Cond.code Lib.Math.max.name Lib.Math.max.code 2 (some .int) ∈ gWs := gWs_of (i := 90) (by decide +kernel) (by decide +kernel)
theorem kw_fl_RX3_13 : Cond.fieldLink RX3 13 "GlassBowls$Row" "cells" "[I" ∈ gWs := gWs_of (i := 91) (by decide +kernel) (by decide +kernel)
theorem kw_ac_int : Cond.arrayClass .int ∈ gWs := gWs_of (i := 95) (by decide +kernel) (by decide +kernel)
theorem kw_fl_RX0_14 : Cond.fieldLink RX0 14 "GlassBowls$Bowls" "base" "LGlassBowls$Row;" ∈ gWs := gWs_of (i := 96) (by decide +kernel) (by decide +kernel)
theorem kw_fl_RX0_20 : Cond.fieldLink RX0 20 "GlassBowls$Bowls" "depth" "LGlassBowls$Row;" ∈ gWs := gWs_of (i := 97) (by decide +kernel) (by decide +kernel)
theorem kw_fl_RX0_23 : Cond.fieldLink RX0 23 "GlassBowls$Bowls" "level" "LGlassBowls$Row;" ∈ gWs := gWs_of (i := 98) (by decide +kernel) (by decide +kernel)
theorem kw_fl_RX0_26 : Cond.fieldLink RX0 26 "GlassBowls$Bowls" "mark" "LGlassBowls$Row;" ∈ gWs := gWs_of (i := 99) (by decide +kernel) (by decide +kernel)
theorem kw_fl_RX0_29 : Cond.fieldLink RX0 29 "GlassBowls$Bowls" "crack" "LGlassBowls$Row;" ∈ gWs := gWs_of (i := 100) (by decide +kernel) (by decide +kernel)
theorem kw_fl_RX0_32 : Cond.fieldLink RX0 32 "GlassBowls$Bowls" "size" "I" ∈ gWs := gWs_of (i := 101) (by decide +kernel) (by decide +kernel)
theorem kw_fl_RX0_36 : Cond.fieldLink RX0 36 "GlassBowls$Bowls" "poured" "I" ∈ gWs := gWs_of (i := 102) (by decide +kernel) (by decide +kernel)
theorem kw_fl_RX0_39 : Cond.fieldLink RX0 39 "GlassBowls$Bowls" "dried" "I" ∈ gWs := gWs_of (i := 103) (by decide +kernel) (by decide +kernel)
theorem kw_fl_RX0_42 : Cond.fieldLink RX0 42 "GlassBowls$Bowls" "lost" "I" ∈ gWs := gWs_of (i := 104) (by decide +kernel) (by decide +kernel)
theorem kw_fl_RX0_45 : Cond.fieldLink RX0 45 "GlassBowls$Bowls" "takenOut" "I" ∈ gWs := gWs_of (i := 105) (by decide +kernel) (by decide +kernel)
theorem kw_cl_RX4_18 : Cond.classLink RX4 18 RX2 ∈ gWs := gWs_of (i := 127) (by decide +kernel) (by decide +kernel)
theorem kw_it_RX2 : Cond.instantiable RX2 6 ∈ gWs := gWs_of (i := 128) (by decide +kernel) (by decide +kernel)
theorem kw_im_X2_init : Cond.instanceMethod yX2_init ∈ gWs := gWs_of (i := 130) (by decide +kernel) (by decide +kernel)
theorem kw_co_X2_init : Cond.code yX2_init cX2_init 1 none ∈ gWs := gWs_of (i := 131) (by decide +kernel) (by decide +kernel)
theorem kw_ml_RX2_3 : Cond.methodLink RX2 3 objectInit ∈ gWs := gWs_of (i := 132) (by decide +kernel) (by decide +kernel)
theorem kw_cl_RX2_9 : Cond.classLink RX2 9 RX3 ∈ gWs := gWs_of (i := 133) (by decide +kernel) (by decide +kernel)
theorem kw_ml_RX2_11 : Cond.methodLink RX2 11 yX3_init ∈ gWs := gWs_of (i := 134) (by decide +kernel) (by decide +kernel)
theorem kw_fl_RX2_14 : Cond.fieldLink RX2 14 "GlassBowls$Piece" "time" "LGlassBowls$Row;" ∈ gWs := gWs_of (i := 135) (by decide +kernel) (by decide +kernel)
theorem kw_fl_RX2_20 : Cond.fieldLink RX2 20 "GlassBowls$Piece" "pitch" "LGlassBowls$Row;" ∈ gWs := gWs_of (i := 136) (by decide +kernel) (by decide +kernel)
theorem kw_fl_RX2_23 : Cond.fieldLink RX2 23 "GlassBowls$Piece" "outcome" "LGlassBowls$Row;" ∈ gWs := gWs_of (i := 137) (by decide +kernel) (by decide +kernel)
theorem kw_fl_RX2_26 : Cond.fieldLink RX2 26 "GlassBowls$Piece" "bowl" "LGlassBowls$Row;" ∈ gWs := gWs_of (i := 138) (by decide +kernel) (by decide +kernel)
theorem kw_fl_RX2_29 : Cond.fieldLink RX2 29 "GlassBowls$Piece" "error" "LGlassBowls$Row;" ∈ gWs := gWs_of (i := 139) (by decide +kernel) (by decide +kernel)
theorem kw_fl_RX2_32 : Cond.fieldLink RX2 32 "GlassBowls$Piece" "size" "I" ∈ gWs := gWs_of (i := 140) (by decide +kernel) (by decide +kernel)
theorem kw_cl_RX4_25 : Cond.classLink RX4 25 RX3 ∈ gWs := gWs_of (i := 154) (by decide +kernel) (by decide +kernel)
theorem kw_ml_RX4_27 : Cond.methodLink RX4 27 yX3_init ∈ gWs := gWs_of (i := 155) (by decide +kernel) (by decide +kernel)
theorem kw_ml_RX4_38 : Cond.methodLink RX4 38 yX3_put ∈ gWs := gWs_of (i := 156) (by decide +kernel) (by decide +kernel)
theorem kw_im_X3_put : Cond.instanceMethod yX3_put ∈ gWs := gWs_of (i := 157) (by decide +kernel) (by decide +kernel)
theorem kw_se_X3_put : Cond.selects RX3 yX3_put yX3_put ∈ gWs := gWs_of (i := 158) (by decide +kernel) (by decide +kernel)
theorem kw_co_X3_put : Cond.code yX3_put cX3_put 3 none ∈ gWs := gWs_of (i := 159) (by decide +kernel) (by decide +kernel)
theorem kw_fl_RX4_12 : Cond.fieldLink RX4 12 "GlassBowls$Table" "bowls" "LGlassBowls$Bowls;" ∈ gWs := gWs_of (i := 160) (by decide +kernel) (by decide +kernel)
theorem kw_fl_RX4_21 : Cond.fieldLink RX4 21 "GlassBowls$Table" "piece" "LGlassBowls$Piece;" ∈ gWs := gWs_of (i := 162) (by decide +kernel) (by decide +kernel)
theorem kw_fl_RX4_30 : Cond.fieldLink RX4 30 "GlassBowls$Table" "settings" "LGlassBowls$Row;" ∈ gWs := gWs_of (i := 164) (by decide +kernel) (by decide +kernel)
theorem kw_fl_RX4_34 : Cond.fieldLink RX4 34 "GlassBowls$Table" "time" "I" ∈ gWs := gWs_of (i := 165) (by decide +kernel) (by decide +kernel)
theorem kw_cl_RX6_19 : Cond.classLink RX6 19 RX1 ∈ gWs := gWs_of (i := 175) (by decide +kernel) (by decide +kernel)
theorem kw_it_RX1 : Cond.instantiable RX1 3 ∈ gWs := gWs_of (i := 176) (by decide +kernel) (by decide +kernel)
theorem kw_ml_RX6_21 : Cond.methodLink RX6 21 yX1_init ∈ gWs := gWs_of (i := 177) (by decide +kernel) (by decide +kernel)
theorem kw_im_X1_init : Cond.instanceMethod yX1_init ∈ gWs := gWs_of (i := 178) (by decide +kernel) (by decide +kernel)
theorem kw_co_X1_init : Cond.code yX1_init cX1_init 2 none ∈ gWs := gWs_of (i := 179) (by decide +kernel) (by decide +kernel)
theorem kw_ml_RX1_3 : Cond.methodLink RX1 3 objectInit ∈ gWs := gWs_of (i := 180) (by decide +kernel) (by decide +kernel)
theorem kw_cl_RX1_9 : Cond.classLink RX1 9 RX4 ∈ gWs := gWs_of (i := 181) (by decide +kernel) (by decide +kernel)
theorem kw_ml_RX1_24 : Cond.methodLink RX1 24 yX4_init ∈ gWs := gWs_of (i := 183) (by decide +kernel) (by decide +kernel)
theorem kw_fl_RX1_11 : Cond.fieldLink RX1 11 "GlassBowls$History" "states" "[LGlassBowls$Table;" ∈ gWs := gWs_of (i := 184) (by decide +kernel) (by decide +kernel)
theorem kw_fl_RX1_17 : Cond.fieldLink RX1 17 "GlassBowls$History" "next" "I" ∈ gWs := gWs_of (i := 185) (by decide +kernel) (by decide +kernel)
theorem kw_fl_RX1_21 : Cond.fieldLink RX1 21 "GlassBowls$History" "size" "I" ∈ gWs := gWs_of (i := 186) (by decide +kernel) (by decide +kernel)
theorem kw_cl_RX6_26 : Cond.classLink RX6 26 RX5 ∈ gWs := gWs_of (i := 194) (by decide +kernel) (by decide +kernel)
theorem kw_it_RX5 : Cond.instantiable RX5 8 ∈ gWs := gWs_of (i := 195) (by decide +kernel) (by decide +kernel)
theorem kw_im_X5_init : Cond.instanceMethod yX5_init ∈ gWs := gWs_of (i := 197) (by decide +kernel) (by decide +kernel)
theorem kw_co_X5_init : Cond.code yX5_init cX5_init 1 none ∈ gWs := gWs_of (i := 198) (by decide +kernel) (by decide +kernel)
theorem kw_ml_RX5_3 : Cond.methodLink RX5 3 objectInit ∈ gWs := gWs_of (i := 199) (by decide +kernel) (by decide +kernel)
theorem kw_cl_RX5_9 : Cond.classLink RX5 9 RX3 ∈ gWs := gWs_of (i := 200) (by decide +kernel) (by decide +kernel)
theorem kw_ml_RX5_11 : Cond.methodLink RX5 11 yX3_init ∈ gWs := gWs_of (i := 201) (by decide +kernel) (by decide +kernel)
theorem kw_fl_RX5_14 : Cond.fieldLink RX5 14 "GlassBowls$Text" "characters" "LGlassBowls$Row;" ∈ gWs := gWs_of (i := 202) (by decide +kernel) (by decide +kernel)
theorem kw_fl_RX5_20 : Cond.fieldLink RX5 20 "GlassBowls$Text" "length" "I" ∈ gWs := gWs_of (i := 203) (by decide +kernel) (by decide +kernel)
theorem kw_fl_RX5_24 : Cond.fieldLink RX5 24 "GlassBowls$Text" "place" "I" ∈ gWs := gWs_of (i := 204) (by decide +kernel) (by decide +kernel)
theorem kw_fl_RX5_27 : Cond.fieldLink RX5 27 "GlassBowls$Text" "time" "I" ∈ gWs := gWs_of (i := 205) (by decide +kernel) (by decide +kernel)
theorem kw_fl_RX5_30 : Cond.fieldLink RX5 30 "GlassBowls$Text" "pitch" "I" ∈ gWs := gWs_of (i := 206) (by decide +kernel) (by decide +kernel)
theorem kw_fl_RX5_33 : Cond.fieldLink RX5 33 "GlassBowls$Text" "notesRead" "I" ∈ gWs := gWs_of (i := 207) (by decide +kernel) (by decide +kernel)
theorem kw_fl_RX5_36 : Cond.fieldLink RX5 36 "GlassBowls$Text" "faultPlace" "I" ∈ gWs := gWs_of (i := 208) (by decide +kernel) (by decide +kernel)
theorem kw_fl_RX5_39 : Cond.fieldLink RX5 39 "GlassBowls$Text" "faultReason" "I" ∈ gWs := gWs_of (i := 209) (by decide +kernel) (by decide +kernel)
theorem kw_fl_RX6_10 : Cond.fieldLink RX6 10 "GlassBowls" "table" "LGlassBowls$Table;" ∈ gWs := gWs_of (i := 227) (by decide +kernel) (by decide +kernel)
theorem kw_fl_RX6_16 : Cond.fieldLink RX6 16 "GlassBowls" "trial" "LGlassBowls$Table;" ∈ gWs := gWs_of (i := 228) (by decide +kernel) (by decide +kernel)
theorem kw_fl_RX6_22 : Cond.fieldLink RX6 22 "GlassBowls" "history" "LGlassBowls$History;" ∈ gWs := gWs_of (i := 229) (by decide +kernel) (by decide +kernel)
theorem kw_fl_RX6_29 : Cond.fieldLink RX6 29 "GlassBowls" "text" "LGlassBowls$Text;" ∈ gWs := gWs_of (i := 230) (by decide +kernel) (by decide +kernel)
theorem kw_ml_RL_13 : Cond.methodLink RL 13 yX6_bowl ∈ gWs := gWs_of (i := 240) (by decide +kernel) (by decide +kernel)
theorem kw_im_X6_bowl : Cond.instanceMethod yX6_bowl ∈ gWs := gWs_of (i := 241) (by decide +kernel) (by decide +kernel)
theorem kw_se_X6_bowl : Cond.selects RX6 yX6_bowl yX6_bowl ∈ gWs := gWs_of (i := 242) (by decide +kernel) (by decide +kernel)
theorem kw_co_X6_bowl : Cond.code yX6_bowl cX6_bowl 3 (some .int) ∈ gWs := gWs_of (i := 243) (by decide +kernel) (by decide +kernel)
theorem kw_ml_RX6_33 : Cond.methodLink RX6 33 yX6_isWithin ∈ gWs := gWs_of (i := 244) (by decide +kernel) (by decide +kernel)
theorem kw_st_X6_isWithin : Cond.static yX6_isWithin ∈ gWs := gWs_of (i := 245) (by decide +kernel) (by decide +kernel)
theorem kw_co_X6_isWithin : Cond.code yX6_isWithin cX6_isWithin 3 (some .boolean) ∈ gWs := gWs_of (i := 246) (by decide +kernel) (by decide +kernel)
theorem kw_k_RX6_37 : Cond.constant RX6 37 (-100001) ∈ gWs := gWs_of (i := 247) (by decide +kernel) (by decide +kernel)
theorem kw_ml_RX6_42 : Cond.methodLink RX6 42 yX0_size ∈ gWs := gWs_of (i := 248) (by decide +kernel) (by decide +kernel)
theorem kw_im_X0_size : Cond.instanceMethod yX0_size ∈ gWs := gWs_of (i := 249) (by decide +kernel) (by decide +kernel)
theorem kw_se_X0_size : Cond.selects RX0 yX0_size yX0_size ∈ gWs := gWs_of (i := 250) (by decide +kernel) (by decide +kernel)
theorem kw_co_X0_size : Cond.code yX0_size cX0_size 1 (some .int) ∈ gWs := gWs_of (i := 251) (by decide +kernel) (by decide +kernel)
theorem kw_k_RX6_48 : Cond.constant RX6 48 (-100003) ∈ gWs := gWs_of (i := 252) (by decide +kernel) (by decide +kernel)
theorem kw_ml_RX6_49 : Cond.methodLink RX6 49 yX1_record ∈ gWs := gWs_of (i := 253) (by decide +kernel) (by decide +kernel)
theorem kw_im_X1_record : Cond.instanceMethod yX1_record ∈ gWs := gWs_of (i := 254) (by decide +kernel) (by decide +kernel)
theorem kw_se_X1_record : Cond.selects RX1 yX1_record yX1_record ∈ gWs := gWs_of (i := 255) (by decide +kernel) (by decide +kernel)
theorem kw_co_X1_record : Cond.code yX1_record cX1_record 3 none ∈ gWs := gWs_of (i := 256) (by decide +kernel) (by decide +kernel)
theorem kw_ml_RX1_25 : Cond.methodLink RX1 25 yX1_stateAt ∈ gWs := gWs_of (i := 257) (by decide +kernel) (by decide +kernel)
theorem kw_im_X1_stateAt : Cond.instanceMethod yX1_stateAt ∈ gWs := gWs_of (i := 259) (by decide +kernel) (by decide +kernel)
theorem kw_co_X1_stateAt : Cond.code yX1_stateAt cX1_stateAt 2 (some (.object "GlassBowls$Table")) ∈ gWs := gWs_of (i := 260) (by decide +kernel) (by decide +kernel)
theorem kw_ml_RX1_29 : Cond.methodLink RX1 29 yX4_copyFrom ∈ gWs := gWs_of (i := 261) (by decide +kernel) (by decide +kernel)
theorem kw_im_X4_copyFrom : Cond.instanceMethod yX4_copyFrom ∈ gWs := gWs_of (i := 262) (by decide +kernel) (by decide +kernel)
theorem kw_se_X4_copyFrom : Cond.selects RX4 yX4_copyFrom yX4_copyFrom ∈ gWs := gWs_of (i := 263) (by decide +kernel) (by decide +kernel)
theorem kw_co_X4_copyFrom : Cond.code yX4_copyFrom cX4_copyFrom 2 none ∈ gWs := gWs_of (i := 264) (by decide +kernel) (by decide +kernel)
theorem kw_ml_RX4_91 : Cond.methodLink RX4 91 yX0_copyFrom ∈ gWs := gWs_of (i := 265) (by decide +kernel) (by decide +kernel)
theorem kw_im_X0_copyFrom : Cond.instanceMethod yX0_copyFrom ∈ gWs := gWs_of (i := 266) (by decide +kernel) (by decide +kernel)
theorem kw_se_X0_copyFrom : Cond.selects RX0 yX0_copyFrom yX0_copyFrom ∈ gWs := gWs_of (i := 267) (by decide +kernel) (by decide +kernel)
theorem kw_co_X0_copyFrom : Cond.code yX0_copyFrom cX0_copyFrom 2 none ∈ gWs := gWs_of (i := 268) (by decide +kernel) (by decide +kernel)
theorem kw_ml_RX0_87 : Cond.methodLink RX0 87 yX3_copyFrom ∈ gWs := gWs_of (i := 269) (by decide +kernel) (by decide +kernel)
theorem kw_im_X3_copyFrom : Cond.instanceMethod yX3_copyFrom ∈ gWs := gWs_of (i := 270) (by decide +kernel) (by decide +kernel)
theorem kw_se_X3_copyFrom : Cond.selects RX3 yX3_copyFrom yX3_copyFrom ∈ gWs := gWs_of (i := 271) (by decide +kernel) (by decide +kernel)
theorem kw_co_X3_copyFrom : Cond.code yX3_copyFrom cX3_copyFrom 2 none ∈ gWs := gWs_of (i := 272) (by decide +kernel) (by decide +kernel)
theorem kw_ml_RX3_27 : Cond.methodLink RX3 27 Lib.Math.min.name ∈ gWs := gWs_of (i := 273) (by decide +kernel) (by decide +kernel)
theorem kw_st_min : Cond.static Lib.Math.min.name ∈ gWs := gWs_of (i := 274) (by decide +kernel) (by decide +kernel)
theorem kw_co_min : Cond.code Lib.Math.min.name Lib.Math.min.code 2 (some .int) ∈ gWs := gWs_of (i := 275) (by decide +kernel) (by decide +kernel)
theorem kw_ml_RX3_30 : Cond.methodLink RX3 30 arraycopyName ∈ gWs := gWs_of (i := 276) (by decide +kernel) (by decide +kernel)
theorem kw_st_copy : Cond.static arraycopyName ∈ gWs := gWs_of (i := 277) (by decide +kernel) (by decide +kernel)
theorem kw_na_copy : Cond.native arraycopyName ∈ gWs := gWs_of (i := 278) (by decide +kernel) (by decide +kernel)
theorem kw_ml_RX4_95 : Cond.methodLink RX4 95 yX2_copyFrom ∈ gWs := gWs_of (i := 279) (by decide +kernel) (by decide +kernel)
theorem kw_im_X2_copyFrom : Cond.instanceMethod yX2_copyFrom ∈ gWs := gWs_of (i := 280) (by decide +kernel) (by decide +kernel)
theorem kw_se_X2_copyFrom : Cond.selects RX2 yX2_copyFrom yX2_copyFrom ∈ gWs := gWs_of (i := 281) (by decide +kernel) (by decide +kernel)
theorem kw_co_X2_copyFrom : Cond.code yX2_copyFrom cX2_copyFrom 2 none ∈ gWs := gWs_of (i := 282) (by decide +kernel) (by decide +kernel)
theorem kw_ml_RX2_96 : Cond.methodLink RX2 96 yX3_copyFrom ∈ gWs := gWs_of (i := 283) (by decide +kernel) (by decide +kernel)
theorem kw_ml_RX4_98 : Cond.methodLink RX4 98 yX3_copyFrom ∈ gWs := gWs_of (i := 284) (by decide +kernel) (by decide +kernel)
theorem kw_ml_RX1_33 : Cond.methodLink RX1 33 Lib.Math.min.name ∈ gWs := gWs_of (i := 285) (by decide +kernel) (by decide +kernel)
theorem kw_ml_RX6_53 : Cond.methodLink RX6 53 yX0_append ∈ gWs := gWs_of (i := 286) (by decide +kernel) (by decide +kernel)
theorem kw_im_X0_append : Cond.instanceMethod yX0_append ∈ gWs := gWs_of (i := 287) (by decide +kernel) (by decide +kernel)
theorem kw_se_X0_append : Cond.selects RX0 yX0_append yX0_append ∈ gWs := gWs_of (i := 288) (by decide +kernel) (by decide +kernel)
theorem kw_co_X0_append : Cond.code yX0_append cX0_append 3 none ∈ gWs := gWs_of (i := 289) (by decide +kernel) (by decide +kernel)
theorem kw_ml_RX0_52 : Cond.methodLink RX0 52 yX3_put ∈ gWs := gWs_of (i := 290) (by decide +kernel) (by decide +kernel)
theorem kw_ml_RL_18 : Cond.methodLink RL 18 yX6_remove ∈ gWs := gWs_of (i := 291) (by decide +kernel) (by decide +kernel)
theorem kw_im_X6_remove : Cond.instanceMethod yX6_remove ∈ gWs := gWs_of (i := 292) (by decide +kernel) (by decide +kernel)
theorem kw_se_X6_remove : Cond.selects RX6 yX6_remove yX6_remove ∈ gWs := gWs_of (i := 293) (by decide +kernel) (by decide +kernel)
theorem kw_co_X6_remove : Cond.code yX6_remove cX6_remove 2 (some .int) ∈ gWs := gWs_of (i := 294) (by decide +kernel) (by decide +kernel)
theorem kw_ml_RX6_57 : Cond.methodLink RX6 57 yX0_has ∈ gWs := gWs_of (i := 295) (by decide +kernel) (by decide +kernel)
theorem kw_im_X0_has : Cond.instanceMethod yX0_has ∈ gWs := gWs_of (i := 296) (by decide +kernel) (by decide +kernel)
theorem kw_se_X0_has : Cond.selects RX0 yX0_has yX0_has ∈ gWs := gWs_of (i := 297) (by decide +kernel) (by decide +kernel)
theorem kw_co_X0_has : Cond.code yX0_has cX0_has 2 (some .boolean) ∈ gWs := gWs_of (i := 298) (by decide +kernel) (by decide +kernel)
theorem kw_ml_RX6_61 : Cond.methodLink RX6 61 yX0_takeAway ∈ gWs := gWs_of (i := 299) (by decide +kernel) (by decide +kernel)
theorem kw_im_X0_takeAway : Cond.instanceMethod yX0_takeAway ∈ gWs := gWs_of (i := 300) (by decide +kernel) (by decide +kernel)
theorem kw_se_X0_takeAway : Cond.selects RX0 yX0_takeAway yX0_takeAway ∈ gWs := gWs_of (i := 301) (by decide +kernel) (by decide +kernel)
theorem kw_co_X0_takeAway : Cond.code yX0_takeAway cX0_takeAway 2 none ∈ gWs := gWs_of (i := 302) (by decide +kernel) (by decide +kernel)
theorem kw_ml_RX0_48 : Cond.methodLink RX0 48 yX3_get ∈ gWs := gWs_of (i := 303) (by decide +kernel) (by decide +kernel)
theorem kw_im_X3_get : Cond.instanceMethod yX3_get ∈ gWs := gWs_of (i := 304) (by decide +kernel) (by decide +kernel)
theorem kw_se_X3_get : Cond.selects RX3 yX3_get yX3_get ∈ gWs := gWs_of (i := 305) (by decide +kernel) (by decide +kernel)
theorem kw_co_X3_get : Cond.code yX3_get cX3_get 2 (some .int) ∈ gWs := gWs_of (i := 306) (by decide +kernel) (by decide +kernel)
theorem kw_ml_RX0_56 : Cond.methodLink RX0 56 yX3_delete ∈ gWs := gWs_of (i := 307) (by decide +kernel) (by decide +kernel)
theorem kw_im_X3_delete : Cond.instanceMethod yX3_delete ∈ gWs := gWs_of (i := 308) (by decide +kernel) (by decide +kernel)
theorem kw_se_X3_delete : Cond.selects RX3 yX3_delete yX3_delete ∈ gWs := gWs_of (i := 309) (by decide +kernel) (by decide +kernel)
theorem kw_co_X3_delete : Cond.code yX3_delete cX3_delete 4 none ∈ gWs := gWs_of (i := 310) (by decide +kernel) (by decide +kernel)
theorem kw_ml_RX3_19 : Cond.methodLink RX3 19 yX3_get ∈ gWs := gWs_of (i := 311) (by decide +kernel) (by decide +kernel)
theorem kw_ml_RX3_23 : Cond.methodLink RX3 23 yX3_put ∈ gWs := gWs_of (i := 312) (by decide +kernel) (by decide +kernel)
theorem kw_ml_RL_23 : Cond.methodLink RL 23 yX6_pour ∈ gWs := gWs_of (i := 313) (by decide +kernel) (by decide +kernel)
theorem kw_im_X6_pour : Cond.instanceMethod yX6_pour ∈ gWs := gWs_of (i := 314) (by decide +kernel) (by decide +kernel)
theorem kw_se_X6_pour : Cond.selects RX6 yX6_pour yX6_pour ∈ gWs := gWs_of (i := 315) (by decide +kernel) (by decide +kernel)
theorem kw_co_X6_pour : Cond.code yX6_pour cX6_pour 3 (some .int) ∈ gWs := gWs_of (i := 316) (by decide +kernel) (by decide +kernel)
theorem kw_ml_RX6_65 : Cond.methodLink RX6 65 yX0_levelIn ∈ gWs := gWs_of (i := 317) (by decide +kernel) (by decide +kernel)
theorem kw_im_X0_levelIn : Cond.instanceMethod yX0_levelIn ∈ gWs := gWs_of (i := 318) (by decide +kernel) (by decide +kernel)
theorem kw_se_X0_levelIn : Cond.selects RX0 yX0_levelIn yX0_levelIn ∈ gWs := gWs_of (i := 319) (by decide +kernel) (by decide +kernel)
theorem kw_co_X0_levelIn : Cond.code yX0_levelIn cX0_levelIn 2 (some .int) ∈ gWs := gWs_of (i := 320) (by decide +kernel) (by decide +kernel)
theorem kw_ml_RX6_69 : Cond.methodLink RX6 69 yX0_addWater ∈ gWs := gWs_of (i := 321) (by decide +kernel) (by decide +kernel)
theorem kw_im_X0_addWater : Cond.instanceMethod yX0_addWater ∈ gWs := gWs_of (i := 322) (by decide +kernel) (by decide +kernel)
theorem kw_se_X0_addWater : Cond.selects RX0 yX0_addWater yX0_addWater ∈ gWs := gWs_of (i := 323) (by decide +kernel) (by decide +kernel)
theorem kw_co_X0_addWater : Cond.code yX0_addWater cX0_addWater 3 none ∈ gWs := gWs_of (i := 324) (by decide +kernel) (by decide +kernel)
theorem kw_ml_RX0_59 : Cond.methodLink RX0 59 yX0_hold ∈ gWs := gWs_of (i := 325) (by decide +kernel) (by decide +kernel)
theorem kw_im_X0_hold : Cond.instanceMethod yX0_hold ∈ gWs := gWs_of (i := 327) (by decide +kernel) (by decide +kernel)
theorem kw_co_X0_hold : Cond.code yX0_hold cX0_hold 4 none ∈ gWs := gWs_of (i := 328) (by decide +kernel) (by decide +kernel)
theorem kw_ml_RX0_65 : Cond.methodLink RX0 65 Lib.Math.min.name ∈ gWs := gWs_of (i := 329) (by decide +kernel) (by decide +kernel)
theorem kw_ml_RL_27 : Cond.methodLink RL 27 yX6_spill ∈ gWs := gWs_of (i := 330) (by decide +kernel) (by decide +kernel)
theorem kw_im_X6_spill : Cond.instanceMethod yX6_spill ∈ gWs := gWs_of (i := 331) (by decide +kernel) (by decide +kernel)
theorem kw_se_X6_spill : Cond.selects RX6 yX6_spill yX6_spill ∈ gWs := gWs_of (i := 332) (by decide +kernel) (by decide +kernel)
theorem kw_co_X6_spill : Cond.code yX6_spill cX6_spill 3 (some .int) ∈ gWs := gWs_of (i := 333) (by decide +kernel) (by decide +kernel)
theorem kw_k_RX6_72 : Cond.constant RX6 72 (-100002) ∈ gWs := gWs_of (i := 334) (by decide +kernel) (by decide +kernel)
theorem kw_ml_RX6_73 : Cond.methodLink RX6 73 yX0_takeWater ∈ gWs := gWs_of (i := 335) (by decide +kernel) (by decide +kernel)
theorem kw_im_X0_takeWater : Cond.instanceMethod yX0_takeWater ∈ gWs := gWs_of (i := 336) (by decide +kernel) (by decide +kernel)
theorem kw_se_X0_takeWater : Cond.selects RX0 yX0_takeWater yX0_takeWater ∈ gWs := gWs_of (i := 337) (by decide +kernel) (by decide +kernel)
theorem kw_co_X0_takeWater : Cond.code yX0_takeWater cX0_takeWater 3 none ∈ gWs := gWs_of (i := 338) (by decide +kernel) (by decide +kernel)
theorem kw_ml_RX0_62 : Cond.methodLink RX0 62 yX3_add ∈ gWs := gWs_of (i := 339) (by decide +kernel) (by decide +kernel)
theorem kw_im_X3_add : Cond.instanceMethod yX3_add ∈ gWs := gWs_of (i := 340) (by decide +kernel) (by decide +kernel)
theorem kw_se_X3_add : Cond.selects RX3 yX3_add yX3_add ∈ gWs := gWs_of (i := 341) (by decide +kernel) (by decide +kernel)
theorem kw_co_X3_add : Cond.code yX3_add cX3_add 3 none ∈ gWs := gWs_of (i := 342) (by decide +kernel) (by decide +kernel)
theorem kw_ml_RL_31 : Cond.methodLink RL 31 yX6_crack ∈ gWs := gWs_of (i := 343) (by decide +kernel) (by decide +kernel)
theorem kw_im_X6_crack : Cond.instanceMethod yX6_crack ∈ gWs := gWs_of (i := 344) (by decide +kernel) (by decide +kernel)
theorem kw_se_X6_crack : Cond.selects RX6 yX6_crack yX6_crack ∈ gWs := gWs_of (i := 345) (by decide +kernel) (by decide +kernel)
theorem kw_co_X6_crack : Cond.code yX6_crack cX6_crack 4 (some .int) ∈ gWs := gWs_of (i := 346) (by decide +kernel) (by decide +kernel)
theorem kw_ml_RX6_76 : Cond.methodLink RX6 76 yX0_moveCrack ∈ gWs := gWs_of (i := 347) (by decide +kernel) (by decide +kernel)
theorem kw_im_X0_moveCrack : Cond.instanceMethod yX0_moveCrack ∈ gWs := gWs_of (i := 348) (by decide +kernel) (by decide +kernel)
theorem kw_se_X0_moveCrack : Cond.selects RX0 yX0_moveCrack yX0_moveCrack ∈ gWs := gWs_of (i := 349) (by decide +kernel) (by decide +kernel)
theorem kw_co_X0_moveCrack : Cond.code yX0_moveCrack cX0_moveCrack 3 none ∈ gWs := gWs_of (i := 350) (by decide +kernel) (by decide +kernel)
theorem kw_ml_RL_35 : Cond.methodLink RL 35 yX6_mark ∈ gWs := gWs_of (i := 351) (by decide +kernel) (by decide +kernel)
theorem kw_im_X6_mark : Cond.instanceMethod yX6_mark ∈ gWs := gWs_of (i := 352) (by decide +kernel) (by decide +kernel)
theorem kw_se_X6_mark : Cond.selects RX6 yX6_mark yX6_mark ∈ gWs := gWs_of (i := 353) (by decide +kernel) (by decide +kernel)
theorem kw_co_X6_mark : Cond.code yX6_mark cX6_mark 3 (some .int) ∈ gWs := gWs_of (i := 354) (by decide +kernel) (by decide +kernel)
theorem kw_ml_RX6_79 : Cond.methodLink RX6 79 yX0_moveMark ∈ gWs := gWs_of (i := 355) (by decide +kernel) (by decide +kernel)
theorem kw_im_X0_moveMark : Cond.instanceMethod yX0_moveMark ∈ gWs := gWs_of (i := 356) (by decide +kernel) (by decide +kernel)
theorem kw_se_X0_moveMark : Cond.selects RX0 yX0_moveMark yX0_moveMark ∈ gWs := gWs_of (i := 357) (by decide +kernel) (by decide +kernel)
theorem kw_co_X0_moveMark : Cond.code yX0_moveMark cX0_moveMark 4 (some .int) ∈ gWs := gWs_of (i := 358) (by decide +kernel) (by decide +kernel)
theorem kw_ml_RL_39 : Cond.methodLink RL 39 yX6_bowlOf ∈ gWs := gWs_of (i := 359) (by decide +kernel) (by decide +kernel)
theorem kw_im_X6_bowlOf : Cond.instanceMethod yX6_bowlOf ∈ gWs := gWs_of (i := 360) (by decide +kernel) (by decide +kernel)
theorem kw_se_X6_bowlOf : Cond.selects RX6 yX6_bowlOf yX6_bowlOf ∈ gWs := gWs_of (i := 361) (by decide +kernel) (by decide +kernel)
theorem kw_co_X6_bowlOf : Cond.code yX6_bowlOf cX6_bowlOf 3 (some .int) ∈ gWs := gWs_of (i := 362) (by decide +kernel) (by decide +kernel)
theorem kw_ml_RX6_83 : Cond.methodLink RX6 83 yX0_property ∈ gWs := gWs_of (i := 363) (by decide +kernel) (by decide +kernel)
theorem kw_im_X0_property : Cond.instanceMethod yX0_property ∈ gWs := gWs_of (i := 364) (by decide +kernel) (by decide +kernel)
theorem kw_se_X0_property : Cond.selects RX0 yX0_property yX0_property ∈ gWs := gWs_of (i := 365) (by decide +kernel) (by decide +kernel)
theorem kw_co_X0_property : Cond.code yX0_property cX0_property 3 (some .int) ∈ gWs := gWs_of (i := 366) (by decide +kernel) (by decide +kernel)
theorem kw_ml_RX0_71 : Cond.methodLink RX0 71 yX0_pitchOf ∈ gWs := gWs_of (i := 367) (by decide +kernel) (by decide +kernel)
theorem kw_im_X0_pitchOf : Cond.instanceMethod yX0_pitchOf ∈ gWs := gWs_of (i := 368) (by decide +kernel) (by decide +kernel)
theorem kw_se_X0_pitchOf : Cond.selects RX0 yX0_pitchOf yX0_pitchOf ∈ gWs := gWs_of (i := 369) (by decide +kernel) (by decide +kernel)
theorem kw_co_X0_pitchOf : Cond.code yX0_pitchOf cX0_pitchOf 2 (some .int) ∈ gWs := gWs_of (i := 370) (by decide +kernel) (by decide +kernel)
theorem kw_ml_RX0_74 : Cond.methodLink RX0 74 yX0_pitchWith ∈ gWs := gWs_of (i := 371) (by decide +kernel) (by decide +kernel)
theorem kw_im_X0_pitchWith : Cond.instanceMethod yX0_pitchWith ∈ gWs := gWs_of (i := 373) (by decide +kernel) (by decide +kernel)
theorem kw_co_X0_pitchWith : Cond.code yX0_pitchWith cX0_pitchWith 5 (some .int) ∈ gWs := gWs_of (i := 374) (by decide +kernel) (by decide +kernel)
theorem kw_kl_RX0_78 : Cond.constantLong RX0 78 (1000000) ∈ gWs := gWs_of (i := 375) (by decide +kernel) (by decide +kernel)
theorem kw_k_RX0_77 : Cond.constant RX0 77 (-100001) ∈ gWs := gWs_of (i := 376) (by decide +kernel) (by decide +kernel)
theorem kw_ml_RL_43 : Cond.methodLink RL 43 yX6_levelFor ∈ gWs := gWs_of (i := 377) (by decide +kernel) (by decide +kernel)
theorem kw_im_X6_levelFor : Cond.instanceMethod yX6_levelFor ∈ gWs := gWs_of (i := 378) (by decide +kernel) (by decide +kernel)
theorem kw_se_X6_levelFor : Cond.selects RX6 yX6_levelFor yX6_levelFor ∈ gWs := gWs_of (i := 379) (by decide +kernel) (by decide +kernel)
theorem kw_co_X6_levelFor : Cond.code yX6_levelFor cX6_levelFor 3 (some .int) ∈ gWs := gWs_of (i := 380) (by decide +kernel) (by decide +kernel)
theorem kw_ml_RX6_86 : Cond.methodLink RX6 86 yX0_nearestLevel ∈ gWs := gWs_of (i := 381) (by decide +kernel) (by decide +kernel)
theorem kw_im_X0_nearestLevel : Cond.instanceMethod yX0_nearestLevel ∈ gWs := gWs_of (i := 382) (by decide +kernel) (by decide +kernel)
theorem kw_se_X0_nearestLevel : Cond.selects RX0 yX0_nearestLevel yX0_nearestLevel ∈ gWs := gWs_of (i := 383) (by decide +kernel) (by decide +kernel)
theorem kw_co_X0_nearestLevel : Cond.code yX0_nearestLevel cX0_nearestLevel 8 (some .int) ∈ gWs := gWs_of (i := 384) (by decide +kernel) (by decide +kernel)
theorem kw_ml_RX0_80 : Cond.methodLink RX0 80 Lib.Math.abs.name ∈ gWs := gWs_of (i := 385) (by decide +kernel) (by decide +kernel)
theorem kw_st_abs : Cond.static Lib.Math.abs.name ∈ gWs := gWs_of (i := 386) (by decide +kernel) (by decide +kernel)
theorem kw_co_abs : Cond.code Lib.Math.abs.name Lib.Math.abs.code 1 (some .int) ∈ gWs := gWs_of (i := 387) (by decide +kernel) (by decide +kernel)
theorem kw_ml_RL_47 : Cond.methodLink RL 47 yX6_nearest ∈ gWs := gWs_of (i := 388) (by decide +kernel) (by decide +kernel)
theorem kw_im_X6_nearest : Cond.instanceMethod yX6_nearest ∈ gWs := gWs_of (i := 389) (by decide +kernel) (by decide +kernel)
theorem kw_se_X6_nearest : Cond.selects RX6 yX6_nearest yX6_nearest ∈ gWs := gWs_of (i := 390) (by decide +kernel) (by decide +kernel)
theorem kw_co_X6_nearest : Cond.code yX6_nearest cX6_nearest 2 (some .int) ∈ gWs := gWs_of (i := 391) (by decide +kernel) (by decide +kernel)
theorem kw_ml_RX6_89 : Cond.methodLink RX6 89 yX0_nearestBowl ∈ gWs := gWs_of (i := 392) (by decide +kernel) (by decide +kernel)
theorem kw_im_X0_nearestBowl : Cond.instanceMethod yX0_nearestBowl ∈ gWs := gWs_of (i := 393) (by decide +kernel) (by decide +kernel)
theorem kw_se_X0_nearestBowl : Cond.selects RX0 yX0_nearestBowl yX0_nearestBowl ∈ gWs := gWs_of (i := 394) (by decide +kernel) (by decide +kernel)
theorem kw_co_X0_nearestBowl : Cond.code yX0_nearestBowl cX0_nearestBowl 6 (some .int) ∈ gWs := gWs_of (i := 395) (by decide +kernel) (by decide +kernel)
theorem kw_ml_RX6_92 : Cond.methodLink RX6 92 yX6_orNotFound ∈ gWs := gWs_of (i := 396) (by decide +kernel) (by decide +kernel)
theorem kw_st_X6_orNotFound : Cond.static yX6_orNotFound ∈ gWs := gWs_of (i := 397) (by decide +kernel) (by decide +kernel)
theorem kw_co_X6_orNotFound : Cond.code yX6_orNotFound cX6_orNotFound 1 (some .int) ∈ gWs := gWs_of (i := 398) (by decide +kernel) (by decide +kernel)
theorem kw_k_RX6_168 : Cond.constant RX6 168 (-100004) ∈ gWs := gWs_of (i := 399) (by decide +kernel) (by decide +kernel)
theorem kw_ml_RL_51 : Cond.methodLink RL 51 yX6_set ∈ gWs := gWs_of (i := 400) (by decide +kernel) (by decide +kernel)
theorem kw_im_X6_set : Cond.instanceMethod yX6_set ∈ gWs := gWs_of (i := 401) (by decide +kernel) (by decide +kernel)
theorem kw_se_X6_set : Cond.selects RX6 yX6_set yX6_set ∈ gWs := gWs_of (i := 402) (by decide +kernel) (by decide +kernel)
theorem kw_co_X6_set : Cond.code yX6_set cX6_set 3 (some .int) ∈ gWs := gWs_of (i := 403) (by decide +kernel) (by decide +kernel)
theorem kw_ml_RX6_95 : Cond.methodLink RX6 95 yX6_isSetting ∈ gWs := gWs_of (i := 404) (by decide +kernel) (by decide +kernel)
theorem kw_st_X6_isSetting : Cond.static yX6_isSetting ∈ gWs := gWs_of (i := 405) (by decide +kernel) (by decide +kernel)
theorem kw_co_X6_isSetting : Cond.code yX6_isSetting cX6_isSetting 2 (some .boolean) ∈ gWs := gWs_of (i := 406) (by decide +kernel) (by decide +kernel)
theorem kw_ml_RX6_99 : Cond.methodLink RX6 99 yX4_changeSetting ∈ gWs := gWs_of (i := 407) (by decide +kernel) (by decide +kernel)
theorem kw_im_X4_changeSetting : Cond.instanceMethod yX4_changeSetting ∈ gWs := gWs_of (i := 408) (by decide +kernel) (by decide +kernel)
theorem kw_se_X4_changeSetting : Cond.selects RX4 yX4_changeSetting yX4_changeSetting ∈ gWs := gWs_of (i := 409) (by decide +kernel) (by decide +kernel)
theorem kw_co_X4_changeSetting : Cond.code yX4_changeSetting cX4_changeSetting 4 (some .int) ∈ gWs := gWs_of (i := 410) (by decide +kernel) (by decide +kernel)
theorem kw_ml_RX4_42 : Cond.methodLink RX4 42 yX3_get ∈ gWs := gWs_of (i := 411) (by decide +kernel) (by decide +kernel)
theorem kw_ml_RL_55 : Cond.methodLink RL 55 yX6_count ∈ gWs := gWs_of (i := 412) (by decide +kernel) (by decide +kernel)
theorem kw_im_X6_count : Cond.instanceMethod yX6_count ∈ gWs := gWs_of (i := 413) (by decide +kernel) (by decide +kernel)
theorem kw_se_X6_count : Cond.selects RX6 yX6_count yX6_count ∈ gWs := gWs_of (i := 414) (by decide +kernel) (by decide +kernel)
theorem kw_co_X6_count : Cond.code yX6_count cX6_count 2 (some .int) ∈ gWs := gWs_of (i := 415) (by decide +kernel) (by decide +kernel)
theorem kw_ml_RX6_102 : Cond.methodLink RX6 102 yX4_setting ∈ gWs := gWs_of (i := 416) (by decide +kernel) (by decide +kernel)
theorem kw_im_X4_setting : Cond.instanceMethod yX4_setting ∈ gWs := gWs_of (i := 417) (by decide +kernel) (by decide +kernel)
theorem kw_se_X4_setting : Cond.selects RX4 yX4_setting yX4_setting ∈ gWs := gWs_of (i := 418) (by decide +kernel) (by decide +kernel)
theorem kw_co_X4_setting : Cond.code yX4_setting cX4_setting 2 (some .int) ∈ gWs := gWs_of (i := 419) (by decide +kernel) (by decide +kernel)
theorem kw_ml_RX6_105 : Cond.methodLink RX6 105 yX0_account ∈ gWs := gWs_of (i := 420) (by decide +kernel) (by decide +kernel)
theorem kw_im_X0_account : Cond.instanceMethod yX0_account ∈ gWs := gWs_of (i := 421) (by decide +kernel) (by decide +kernel)
theorem kw_se_X0_account : Cond.selects RX0 yX0_account yX0_account ∈ gWs := gWs_of (i := 422) (by decide +kernel) (by decide +kernel)
theorem kw_co_X0_account : Cond.code yX0_account cX0_account 2 (some .int) ∈ gWs := gWs_of (i := 423) (by decide +kernel) (by decide +kernel)
theorem kw_ml_RX0_83 : Cond.methodLink RX0 83 yX0_inBowls ∈ gWs := gWs_of (i := 424) (by decide +kernel) (by decide +kernel)
theorem kw_im_X0_inBowls : Cond.instanceMethod yX0_inBowls ∈ gWs := gWs_of (i := 426) (by decide +kernel) (by decide +kernel)
theorem kw_co_X0_inBowls : Cond.code yX0_inBowls cX0_inBowls 3 (some .int) ∈ gWs := gWs_of (i := 427) (by decide +kernel) (by decide +kernel)
theorem kw_ml_RX6_108 : Cond.methodLink RX6 108 yX4_time ∈ gWs := gWs_of (i := 428) (by decide +kernel) (by decide +kernel)
theorem kw_im_X4_time : Cond.instanceMethod yX4_time ∈ gWs := gWs_of (i := 429) (by decide +kernel) (by decide +kernel)
theorem kw_se_X4_time : Cond.selects RX4 yX4_time yX4_time ∈ gWs := gWs_of (i := 430) (by decide +kernel) (by decide +kernel)
theorem kw_co_X4_time : Cond.code yX4_time cX4_time 1 (some .int) ∈ gWs := gWs_of (i := 431) (by decide +kernel) (by decide +kernel)
theorem kw_ml_RX6_115 : Cond.methodLink RX6 115 yX2_size ∈ gWs := gWs_of (i := 432) (by decide +kernel) (by decide +kernel)
theorem kw_im_X2_size : Cond.instanceMethod yX2_size ∈ gWs := gWs_of (i := 433) (by decide +kernel) (by decide +kernel)
theorem kw_se_X2_size : Cond.selects RX2 yX2_size yX2_size ∈ gWs := gWs_of (i := 434) (by decide +kernel) (by decide +kernel)
theorem kw_co_X2_size : Cond.code yX2_size cX2_size 1 (some .int) ∈ gWs := gWs_of (i := 435) (by decide +kernel) (by decide +kernel)
theorem kw_ml_RX6_118 : Cond.methodLink RX6 118 yX2_phrases ∈ gWs := gWs_of (i := 436) (by decide +kernel) (by decide +kernel)
theorem kw_im_X2_phrases : Cond.instanceMethod yX2_phrases ∈ gWs := gWs_of (i := 437) (by decide +kernel) (by decide +kernel)
theorem kw_se_X2_phrases : Cond.selects RX2 yX2_phrases yX2_phrases ∈ gWs := gWs_of (i := 438) (by decide +kernel) (by decide +kernel)
theorem kw_co_X2_phrases : Cond.code yX2_phrases cX2_phrases 2 (some .int) ∈ gWs := gWs_of (i := 439) (by decide +kernel) (by decide +kernel)
theorem kw_ml_RX2_62 : Cond.methodLink RX2 62 yX2_phraseOf ∈ gWs := gWs_of (i := 440) (by decide +kernel) (by decide +kernel)
theorem kw_im_X2_phraseOf : Cond.instanceMethod yX2_phraseOf ∈ gWs := gWs_of (i := 442) (by decide +kernel) (by decide +kernel)
theorem kw_co_X2_phraseOf : Cond.code yX2_phraseOf cX2_phraseOf 5 (some .int) ∈ gWs := gWs_of (i := 443) (by decide +kernel) (by decide +kernel)
theorem kw_ml_RX2_58 : Cond.methodLink RX2 58 yX2_beginsPhrase ∈ gWs := gWs_of (i := 444) (by decide +kernel) (by decide +kernel)
theorem kw_im_X2_beginsPhrase : Cond.instanceMethod yX2_beginsPhrase ∈ gWs := gWs_of (i := 445) (by decide +kernel) (by decide +kernel)
theorem kw_se_X2_beginsPhrase : Cond.selects RX2 yX2_beginsPhrase yX2_beginsPhrase ∈ gWs := gWs_of (i := 446) (by decide +kernel) (by decide +kernel)
theorem kw_co_X2_beginsPhrase : Cond.code yX2_beginsPhrase cX2_beginsPhrase 3 (some .boolean) ∈ gWs := gWs_of (i := 447) (by decide +kernel) (by decide +kernel)
theorem kw_ml_RX2_36 : Cond.methodLink RX2 36 yX3_get ∈ gWs := gWs_of (i := 448) (by decide +kernel) (by decide +kernel)
theorem kw_ml_RX6_121 : Cond.methodLink RX6 121 yX2_playedNotes ∈ gWs := gWs_of (i := 449) (by decide +kernel) (by decide +kernel)
theorem kw_im_X2_playedNotes : Cond.instanceMethod yX2_playedNotes ∈ gWs := gWs_of (i := 450) (by decide +kernel) (by decide +kernel)
theorem kw_se_X2_playedNotes : Cond.selects RX2 yX2_playedNotes yX2_playedNotes ∈ gWs := gWs_of (i := 451) (by decide +kernel) (by decide +kernel)
theorem kw_co_X2_playedNotes : Cond.code yX2_playedNotes cX2_playedNotes 1 (some .int) ∈ gWs := gWs_of (i := 452) (by decide +kernel) (by decide +kernel)
theorem kw_ml_RX2_69 : Cond.methodLink RX2 69 yX2_notesWith ∈ gWs := gWs_of (i := 453) (by decide +kernel) (by decide +kernel)
theorem kw_im_X2_notesWith : Cond.instanceMethod yX2_notesWith ∈ gWs := gWs_of (i := 454) (by decide +kernel) (by decide +kernel)
theorem kw_se_X2_notesWith : Cond.selects RX2 yX2_notesWith yX2_notesWith ∈ gWs := gWs_of (i := 455) (by decide +kernel) (by decide +kernel)
theorem kw_co_X2_notesWith : Cond.code yX2_notesWith cX2_notesWith 4 (some .int) ∈ gWs := gWs_of (i := 456) (by decide +kernel) (by decide +kernel)
theorem kw_ml_RX6_124 : Cond.methodLink RX6 124 yX2_notesWith ∈ gWs := gWs_of (i := 457) (by decide +kernel) (by decide +kernel)
theorem kw_ml_RX6_127 : Cond.methodLink RX6 127 yX1_size ∈ gWs := gWs_of (i := 458) (by decide +kernel) (by decide +kernel)
theorem kw_im_X1_size : Cond.instanceMethod yX1_size ∈ gWs := gWs_of (i := 459) (by decide +kernel) (by decide +kernel)
theorem kw_se_X1_size : Cond.selects RX1 yX1_size yX1_size ∈ gWs := gWs_of (i := 460) (by decide +kernel) (by decide +kernel)
theorem kw_co_X1_size : Cond.code yX1_size cX1_size 1 (some .int) ∈ gWs := gWs_of (i := 461) (by decide +kernel) (by decide +kernel)
theorem kw_ml_RX6_128 : Cond.methodLink RX6 128 yX5_length ∈ gWs := gWs_of (i := 462) (by decide +kernel) (by decide +kernel)
theorem kw_im_X5_length : Cond.instanceMethod yX5_length ∈ gWs := gWs_of (i := 463) (by decide +kernel) (by decide +kernel)
theorem kw_se_X5_length : Cond.selects RX5 yX5_length yX5_length ∈ gWs := gWs_of (i := 464) (by decide +kernel) (by decide +kernel)
theorem kw_co_X5_length : Cond.code yX5_length cX5_length 1 (some .int) ∈ gWs := gWs_of (i := 465) (by decide +kernel) (by decide +kernel)
theorem kw_ml_RL_59 : Cond.methodLink RL 59 yX6_undo ∈ gWs := gWs_of (i := 466) (by decide +kernel) (by decide +kernel)
theorem kw_im_X6_undo : Cond.instanceMethod yX6_undo ∈ gWs := gWs_of (i := 467) (by decide +kernel) (by decide +kernel)
theorem kw_se_X6_undo : Cond.selects RX6 yX6_undo yX6_undo ∈ gWs := gWs_of (i := 468) (by decide +kernel) (by decide +kernel)
theorem kw_co_X6_undo : Cond.code yX6_undo cX6_undo 1 (some .int) ∈ gWs := gWs_of (i := 469) (by decide +kernel) (by decide +kernel)
theorem kw_ml_RX6_131 : Cond.methodLink RX6 131 yX1_restore ∈ gWs := gWs_of (i := 470) (by decide +kernel) (by decide +kernel)
theorem kw_im_X1_restore : Cond.instanceMethod yX1_restore ∈ gWs := gWs_of (i := 471) (by decide +kernel) (by decide +kernel)
theorem kw_se_X1_restore : Cond.selects RX1 yX1_restore yX1_restore ∈ gWs := gWs_of (i := 472) (by decide +kernel) (by decide +kernel)
theorem kw_co_X1_restore : Cond.code yX1_restore cX1_restore 2 none ∈ gWs := gWs_of (i := 473) (by decide +kernel) (by decide +kernel)
theorem kw_ml_RX1_39 : Cond.methodLink RX1 39 Lib.Math.max.name ∈ gWs := gWs_of (i := 474) (by decide +kernel) (by decide +kernel)
theorem kw_ml_RL_64 : Cond.methodLink RL 64 yX6_note ∈ gWs := gWs_of (i := 475) (by decide +kernel) (by decide +kernel)
theorem kw_im_X6_note : Cond.instanceMethod yX6_note ∈ gWs := gWs_of (i := 476) (by decide +kernel) (by decide +kernel)
theorem kw_se_X6_note : Cond.selects RX6 yX6_note yX6_note ∈ gWs := gWs_of (i := 477) (by decide +kernel) (by decide +kernel)
theorem kw_co_X6_note : Cond.code yX6_note cX6_note 3 (some .int) ∈ gWs := gWs_of (i := 478) (by decide +kernel) (by decide +kernel)
theorem kw_ml_RX6_134 : Cond.methodLink RX6 134 yX2_hasNoteAt ∈ gWs := gWs_of (i := 479) (by decide +kernel) (by decide +kernel)
theorem kw_im_X2_hasNoteAt : Cond.instanceMethod yX2_hasNoteAt ∈ gWs := gWs_of (i := 480) (by decide +kernel) (by decide +kernel)
theorem kw_se_X2_hasNoteAt : Cond.selects RX2 yX2_hasNoteAt yX2_hasNoteAt ∈ gWs := gWs_of (i := 481) (by decide +kernel) (by decide +kernel)
theorem kw_co_X2_hasNoteAt : Cond.code yX2_hasNoteAt cX2_hasNoteAt 3 (some .boolean) ∈ gWs := gWs_of (i := 482) (by decide +kernel) (by decide +kernel)
theorem kw_ml_RX2_40 : Cond.methodLink RX2 40 yX2_placeFor ∈ gWs := gWs_of (i := 483) (by decide +kernel) (by decide +kernel)
theorem kw_im_X2_placeFor : Cond.instanceMethod yX2_placeFor ∈ gWs := gWs_of (i := 485) (by decide +kernel) (by decide +kernel)
theorem kw_co_X2_placeFor : Cond.code yX2_placeFor cX2_placeFor 3 (some .int) ∈ gWs := gWs_of (i := 486) (by decide +kernel) (by decide +kernel)
theorem kw_ml_RX6_137 : Cond.methodLink RX6 137 yX2_isFull ∈ gWs := gWs_of (i := 487) (by decide +kernel) (by decide +kernel)
theorem kw_im_X2_isFull : Cond.instanceMethod yX2_isFull ∈ gWs := gWs_of (i := 488) (by decide +kernel) (by decide +kernel)
theorem kw_se_X2_isFull : Cond.selects RX2 yX2_isFull yX2_isFull ∈ gWs := gWs_of (i := 489) (by decide +kernel) (by decide +kernel)
theorem kw_co_X2_isFull : Cond.code yX2_isFull cX2_isFull 1 (some .boolean) ∈ gWs := gWs_of (i := 490) (by decide +kernel) (by decide +kernel)
theorem kw_ml_RX6_141 : Cond.methodLink RX6 141 yX2_insert ∈ gWs := gWs_of (i := 491) (by decide +kernel) (by decide +kernel)
theorem kw_im_X2_insert : Cond.instanceMethod yX2_insert ∈ gWs := gWs_of (i := 492) (by decide +kernel) (by decide +kernel)
theorem kw_se_X2_insert : Cond.selects RX2 yX2_insert yX2_insert ∈ gWs := gWs_of (i := 493) (by decide +kernel) (by decide +kernel)
theorem kw_co_X2_insert : Cond.code yX2_insert cX2_insert 4 (some .int) ∈ gWs := gWs_of (i := 494) (by decide +kernel) (by decide +kernel)
theorem kw_ml_RX2_43 : Cond.methodLink RX2 43 yX3_insert ∈ gWs := gWs_of (i := 495) (by decide +kernel) (by decide +kernel)
theorem kw_im_X3_insert : Cond.instanceMethod yX3_insert ∈ gWs := gWs_of (i := 496) (by decide +kernel) (by decide +kernel)
theorem kw_se_X3_insert : Cond.selects RX3 yX3_insert yX3_insert ∈ gWs := gWs_of (i := 497) (by decide +kernel) (by decide +kernel)
theorem kw_co_X3_insert : Cond.code yX3_insert cX3_insert 5 none ∈ gWs := gWs_of (i := 498) (by decide +kernel) (by decide +kernel)
theorem kw_ml_RL_68 : Cond.methodLink RL 68 yX6_drop ∈ gWs := gWs_of (i := 499) (by decide +kernel) (by decide +kernel)
theorem kw_im_X6_drop : Cond.instanceMethod yX6_drop ∈ gWs := gWs_of (i := 500) (by decide +kernel) (by decide +kernel)
theorem kw_se_X6_drop : Cond.selects RX6 yX6_drop yX6_drop ∈ gWs := gWs_of (i := 501) (by decide +kernel) (by decide +kernel)
theorem kw_co_X6_drop : Cond.code yX6_drop cX6_drop 2 (some .int) ∈ gWs := gWs_of (i := 502) (by decide +kernel) (by decide +kernel)
theorem kw_ml_RX6_144 : Cond.methodLink RX6 144 yX2_has ∈ gWs := gWs_of (i := 503) (by decide +kernel) (by decide +kernel)
theorem kw_im_X2_has : Cond.instanceMethod yX2_has ∈ gWs := gWs_of (i := 504) (by decide +kernel) (by decide +kernel)
theorem kw_se_X2_has : Cond.selects RX2 yX2_has yX2_has ∈ gWs := gWs_of (i := 505) (by decide +kernel) (by decide +kernel)
theorem kw_co_X2_has : Cond.code yX2_has cX2_has 2 (some .boolean) ∈ gWs := gWs_of (i := 506) (by decide +kernel) (by decide +kernel)
theorem kw_ml_RX6_145 : Cond.methodLink RX6 145 yX2_takeAway ∈ gWs := gWs_of (i := 507) (by decide +kernel) (by decide +kernel)
theorem kw_im_X2_takeAway : Cond.instanceMethod yX2_takeAway ∈ gWs := gWs_of (i := 508) (by decide +kernel) (by decide +kernel)
theorem kw_se_X2_takeAway : Cond.selects RX2 yX2_takeAway yX2_takeAway ∈ gWs := gWs_of (i := 509) (by decide +kernel) (by decide +kernel)
theorem kw_co_X2_takeAway : Cond.code yX2_takeAway cX2_takeAway 2 none ∈ gWs := gWs_of (i := 510) (by decide +kernel) (by decide +kernel)
theorem kw_ml_RX2_47 : Cond.methodLink RX2 47 yX3_delete ∈ gWs := gWs_of (i := 511) (by decide +kernel) (by decide +kernel)
theorem kw_ml_RL_72 : Cond.methodLink RL 72 yX6_transpose ∈ gWs := gWs_of (i := 512) (by decide +kernel) (by decide +kernel)
theorem kw_im_X6_transpose : Cond.instanceMethod yX6_transpose ∈ gWs := gWs_of (i := 513) (by decide +kernel) (by decide +kernel)
theorem kw_se_X6_transpose : Cond.selects RX6 yX6_transpose yX6_transpose ∈ gWs := gWs_of (i := 514) (by decide +kernel) (by decide +kernel)
theorem kw_co_X6_transpose : Cond.code yX6_transpose cX6_transpose 4 (some .int) ∈ gWs := gWs_of (i := 515) (by decide +kernel) (by decide +kernel)
theorem kw_ml_RX6_146 : Cond.methodLink RX6 146 yX2_canShift ∈ gWs := gWs_of (i := 516) (by decide +kernel) (by decide +kernel)
theorem kw_im_X2_canShift : Cond.instanceMethod yX2_canShift ∈ gWs := gWs_of (i := 517) (by decide +kernel) (by decide +kernel)
theorem kw_se_X2_canShift : Cond.selects RX2 yX2_canShift yX2_canShift ∈ gWs := gWs_of (i := 518) (by decide +kernel) (by decide +kernel)
theorem kw_co_X2_canShift : Cond.code yX2_canShift cX2_canShift 5 (some .boolean) ∈ gWs := gWs_of (i := 519) (by decide +kernel) (by decide +kernel)
theorem kw_ml_RX6_149 : Cond.methodLink RX6 149 yX2_shift ∈ gWs := gWs_of (i := 521) (by decide +kernel) (by decide +kernel)
theorem kw_im_X2_shift : Cond.instanceMethod yX2_shift ∈ gWs := gWs_of (i := 522) (by decide +kernel) (by decide +kernel)
theorem kw_se_X2_shift : Cond.selects RX2 yX2_shift yX2_shift ∈ gWs := gWs_of (i := 523) (by decide +kernel) (by decide +kernel)
theorem kw_co_X2_shift : Cond.code yX2_shift cX2_shift 5 none ∈ gWs := gWs_of (i := 524) (by decide +kernel) (by decide +kernel)
theorem kw_ml_RX2_55 : Cond.methodLink RX2 55 yX3_add ∈ gWs := gWs_of (i := 525) (by decide +kernel) (by decide +kernel)
theorem kw_ml_RL_77 : Cond.methodLink RL 77 yX6_noteOf ∈ gWs := gWs_of (i := 526) (by decide +kernel) (by decide +kernel)
theorem kw_im_X6_noteOf : Cond.instanceMethod yX6_noteOf ∈ gWs := gWs_of (i := 527) (by decide +kernel) (by decide +kernel)
theorem kw_se_X6_noteOf : Cond.selects RX6 yX6_noteOf yX6_noteOf ∈ gWs := gWs_of (i := 528) (by decide +kernel) (by decide +kernel)
theorem kw_co_X6_noteOf : Cond.code yX6_noteOf cX6_noteOf 3 (some .int) ∈ gWs := gWs_of (i := 529) (by decide +kernel) (by decide +kernel)
theorem kw_ml_RX6_153 : Cond.methodLink RX6 153 yX2_property ∈ gWs := gWs_of (i := 530) (by decide +kernel) (by decide +kernel)
theorem kw_im_X2_property : Cond.instanceMethod yX2_property ∈ gWs := gWs_of (i := 531) (by decide +kernel) (by decide +kernel)
theorem kw_se_X2_property : Cond.selects RX2 yX2_property yX2_property ∈ gWs := gWs_of (i := 532) (by decide +kernel) (by decide +kernel)
theorem kw_co_X2_property : Cond.code yX2_property cX2_property 4 (some .int) ∈ gWs := gWs_of (i := 533) (by decide +kernel) (by decide +kernel)
theorem kw_st_X6_oneIf : Cond.static yX6_oneIf ∈ gWs := gWs_of (i := 535) (by decide +kernel) (by decide +kernel)
theorem kw_co_X6_oneIf : Cond.code yX6_oneIf cX6_oneIf 1 (some .int) ∈ gWs := gWs_of (i := 536) (by decide +kernel) (by decide +kernel)
theorem kw_ml_RX2_76 : Cond.methodLink RX2 76 yX2_sounded ∈ gWs := gWs_of (i := 537) (by decide +kernel) (by decide +kernel)
theorem kw_im_X2_sounded : Cond.instanceMethod yX2_sounded ∈ gWs := gWs_of (i := 539) (by decide +kernel) (by decide +kernel)
theorem kw_co_X2_sounded : Cond.code yX2_sounded cX2_sounded 2 (some .boolean) ∈ gWs := gWs_of (i := 540) (by decide +kernel) (by decide +kernel)
theorem kw_k_RX2_80 : Cond.constant RX2 80 (-100004) ∈ gWs := gWs_of (i := 541) (by decide +kernel) (by decide +kernel)
theorem kw_k_RX2_81 : Cond.constant RX2 81 (-100001) ∈ gWs := gWs_of (i := 542) (by decide +kernel) (by decide +kernel)
theorem kw_ml_RL_81 : Cond.methodLink RL 81 yX6_run ∈ gWs := gWs_of (i := 543) (by decide +kernel) (by decide +kernel)
theorem kw_im_X6_run : Cond.instanceMethod yX6_run ∈ gWs := gWs_of (i := 544) (by decide +kernel) (by decide +kernel)
theorem kw_se_X6_run : Cond.selects RX6 yX6_run yX6_run ∈ gWs := gWs_of (i := 545) (by decide +kernel) (by decide +kernel)
theorem kw_co_X6_run : Cond.code yX6_run cX6_run 3 (some .int) ∈ gWs := gWs_of (i := 546) (by decide +kernel) (by decide +kernel)
theorem kw_ml_RX6_156 : Cond.methodLink RX6 156 yX4_advance ∈ gWs := gWs_of (i := 547) (by decide +kernel) (by decide +kernel)
theorem kw_im_X4_advance : Cond.instanceMethod yX4_advance ∈ gWs := gWs_of (i := 548) (by decide +kernel) (by decide +kernel)
theorem kw_se_X4_advance : Cond.selects RX4 yX4_advance yX4_advance ∈ gWs := gWs_of (i := 549) (by decide +kernel) (by decide +kernel)
theorem kw_co_X4_advance : Cond.code yX4_advance cX4_advance 5 (some .int) ∈ gWs := gWs_of (i := 550) (by decide +kernel) (by decide +kernel)
theorem kw_ml_RX4_49 : Cond.methodLink RX4 49 yX2_size ∈ gWs := gWs_of (i := 551) (by decide +kernel) (by decide +kernel)
theorem kw_ml_RX4_53 : Cond.methodLink RX4 53 yX2_timeOf ∈ gWs := gWs_of (i := 552) (by decide +kernel) (by decide +kernel)
theorem kw_im_X2_timeOf : Cond.instanceMethod yX2_timeOf ∈ gWs := gWs_of (i := 553) (by decide +kernel) (by decide +kernel)
theorem kw_se_X2_timeOf : Cond.selects RX2 yX2_timeOf yX2_timeOf ∈ gWs := gWs_of (i := 554) (by decide +kernel) (by decide +kernel)
theorem kw_co_X2_timeOf : Cond.code yX2_timeOf cX2_timeOf 2 (some .int) ∈ gWs := gWs_of (i := 555) (by decide +kernel) (by decide +kernel)
theorem kw_ml_RX4_56 : Cond.methodLink RX4 56 yX4_dryUntil ∈ gWs := gWs_of (i := 556) (by decide +kernel) (by decide +kernel)
theorem kw_im_X4_dryUntil : Cond.instanceMethod yX4_dryUntil ∈ gWs := gWs_of (i := 558) (by decide +kernel) (by decide +kernel)
theorem kw_co_X4_dryUntil : Cond.code yX4_dryUntil cX4_dryUntil 3 none ∈ gWs := gWs_of (i := 559) (by decide +kernel) (by decide +kernel)
theorem kw_ml_RX4_62 : Cond.methodLink RX4 62 yX0_dry ∈ gWs := gWs_of (i := 560) (by decide +kernel) (by decide +kernel)
theorem kw_im_X0_dry : Cond.instanceMethod yX0_dry ∈ gWs := gWs_of (i := 561) (by decide +kernel) (by decide +kernel)
theorem kw_se_X0_dry : Cond.selects RX0 yX0_dry yX0_dry ∈ gWs := gWs_of (i := 562) (by decide +kernel) (by decide +kernel)
theorem kw_co_X0_dry : Cond.code yX0_dry cX0_dry 4 none ∈ gWs := gWs_of (i := 563) (by decide +kernel) (by decide +kernel)
theorem kw_ml_RX4_59 : Cond.methodLink RX4 59 yX4_playNote ∈ gWs := gWs_of (i := 564) (by decide +kernel) (by decide +kernel)
theorem kw_im_X4_playNote : Cond.instanceMethod yX4_playNote ∈ gWs := gWs_of (i := 566) (by decide +kernel) (by decide +kernel)
theorem kw_co_X4_playNote : Cond.code yX4_playNote cX4_playNote 4 none ∈ gWs := gWs_of (i := 567) (by decide +kernel) (by decide +kernel)
theorem kw_ml_RX4_65 : Cond.methodLink RX4 65 yX2_beginsPhrase ∈ gWs := gWs_of (i := 568) (by decide +kernel) (by decide +kernel)
theorem kw_ml_RX4_69 : Cond.methodLink RX4 69 yX0_fillToMarks ∈ gWs := gWs_of (i := 569) (by decide +kernel) (by decide +kernel)
theorem kw_im_X0_fillToMarks : Cond.instanceMethod yX0_fillToMarks ∈ gWs := gWs_of (i := 570) (by decide +kernel) (by decide +kernel)
theorem kw_se_X0_fillToMarks : Cond.selects RX0 yX0_fillToMarks yX0_fillToMarks ∈ gWs := gWs_of (i := 571) (by decide +kernel) (by decide +kernel)
theorem kw_co_X0_fillToMarks : Cond.code yX0_fillToMarks cX0_fillToMarks 3 none ∈ gWs := gWs_of (i := 572) (by decide +kernel) (by decide +kernel)
theorem kw_ml_RX4_72 : Cond.methodLink RX4 72 yX2_pitchOf ∈ gWs := gWs_of (i := 573) (by decide +kernel) (by decide +kernel)
theorem kw_im_X2_pitchOf : Cond.instanceMethod yX2_pitchOf ∈ gWs := gWs_of (i := 574) (by decide +kernel) (by decide +kernel)
end
section
theorem kw_se_X2_pitchOf : Cond.selects RX2 yX2_pitchOf yX2_pitchOf ∈ gWs := gWs_of (i := 575) (by decide +kernel) (by decide +kernel)
theorem kw_co_X2_pitchOf : Cond.code yX2_pitchOf cX2_pitchOf 2 (some .int) ∈ gWs := gWs_of (i := 576) (by decide +kernel) (by decide +kernel)
theorem kw_ml_RX4_75 : Cond.methodLink RX4 75 yX0_nearestBowl ∈ gWs := gWs_of (i := 577) (by decide +kernel) (by decide +kernel)
theorem kw_ml_RX4_78 : Cond.methodLink RX4 78 yX2_keepSilence ∈ gWs := gWs_of (i := 578) (by decide +kernel) (by decide +kernel)
theorem kw_im_X2_keepSilence : Cond.instanceMethod yX2_keepSilence ∈ gWs := gWs_of (i := 579) (by decide +kernel) (by decide +kernel)
theorem kw_se_X2_keepSilence : Cond.selects RX2 yX2_keepSilence yX2_keepSilence ∈ gWs := gWs_of (i := 580) (by decide +kernel) (by decide +kernel)
theorem kw_co_X2_keepSilence : Cond.code yX2_keepSilence cX2_keepSilence 2 none ∈ gWs := gWs_of (i := 581) (by decide +kernel) (by decide +kernel)
theorem kw_ml_RX2_66 : Cond.methodLink RX2 66 yX3_put ∈ gWs := gWs_of (i := 582) (by decide +kernel) (by decide +kernel)
theorem kw_ml_RX4_81 : Cond.methodLink RX4 81 yX0_pitchOf ∈ gWs := gWs_of (i := 583) (by decide +kernel) (by decide +kernel)
theorem kw_ml_RX4_82 : Cond.methodLink RX4 82 Lib.Math.abs.name ∈ gWs := gWs_of (i := 584) (by decide +kernel) (by decide +kernel)
theorem kw_ml_RX4_87 : Cond.methodLink RX4 87 yX2_keepSound ∈ gWs := gWs_of (i := 585) (by decide +kernel) (by decide +kernel)
theorem kw_im_X2_keepSound : Cond.instanceMethod yX2_keepSound ∈ gWs := gWs_of (i := 586) (by decide +kernel) (by decide +kernel)
theorem kw_se_X2_keepSound : Cond.selects RX2 yX2_keepSound yX2_keepSound ∈ gWs := gWs_of (i := 587) (by decide +kernel) (by decide +kernel)
theorem kw_co_X2_keepSound : Cond.code yX2_keepSound cX2_keepSound 5 none ∈ gWs := gWs_of (i := 588) (by decide +kernel) (by decide +kernel)
theorem kw_ml_RL_85 : Cond.methodLink RL 85 yX6_rewind ∈ gWs := gWs_of (i := 589) (by decide +kernel) (by decide +kernel)
theorem kw_im_X6_rewind : Cond.instanceMethod yX6_rewind ∈ gWs := gWs_of (i := 590) (by decide +kernel) (by decide +kernel)
theorem kw_se_X6_rewind : Cond.selects RX6 yX6_rewind yX6_rewind ∈ gWs := gWs_of (i := 591) (by decide +kernel) (by decide +kernel)
theorem kw_co_X6_rewind : Cond.code yX6_rewind cX6_rewind 2 (some .int) ∈ gWs := gWs_of (i := 592) (by decide +kernel) (by decide +kernel)
theorem kw_ml_RX6_159 : Cond.methodLink RX6 159 yX4_startAgain ∈ gWs := gWs_of (i := 593) (by decide +kernel) (by decide +kernel)
theorem kw_im_X4_startAgain : Cond.instanceMethod yX4_startAgain ∈ gWs := gWs_of (i := 594) (by decide +kernel) (by decide +kernel)
theorem kw_se_X4_startAgain : Cond.selects RX4 yX4_startAgain yX4_startAgain ∈ gWs := gWs_of (i := 595) (by decide +kernel) (by decide +kernel)
theorem kw_co_X4_startAgain : Cond.code yX4_startAgain cX4_startAgain 1 none ∈ gWs := gWs_of (i := 596) (by decide +kernel) (by decide +kernel)
theorem kw_ml_RX4_46 : Cond.methodLink RX4 46 yX2_forgetPlaying ∈ gWs := gWs_of (i := 597) (by decide +kernel) (by decide +kernel)
theorem kw_im_X2_forgetPlaying : Cond.instanceMethod yX2_forgetPlaying ∈ gWs := gWs_of (i := 598) (by decide +kernel) (by decide +kernel)
theorem kw_se_X2_forgetPlaying : Cond.selects RX2 yX2_forgetPlaying yX2_forgetPlaying ∈ gWs := gWs_of (i := 599) (by decide +kernel) (by decide +kernel)
theorem kw_co_X2_forgetPlaying : Cond.code yX2_forgetPlaying cX2_forgetPlaying 2 none ∈ gWs := gWs_of (i := 600) (by decide +kernel) (by decide +kernel)
theorem kw_ml_RL_89 : Cond.methodLink RL 89 yX6_worst ∈ gWs := gWs_of (i := 601) (by decide +kernel) (by decide +kernel)
theorem kw_im_X6_worst : Cond.instanceMethod yX6_worst ∈ gWs := gWs_of (i := 602) (by decide +kernel) (by decide +kernel)
theorem kw_se_X6_worst : Cond.selects RX6 yX6_worst yX6_worst ∈ gWs := gWs_of (i := 603) (by decide +kernel) (by decide +kernel)
theorem kw_co_X6_worst : Cond.code yX6_worst cX6_worst 2 (some .int) ∈ gWs := gWs_of (i := 604) (by decide +kernel) (by decide +kernel)
theorem kw_ml_RX6_162 : Cond.methodLink RX6 162 yX2_noteAtRank ∈ gWs := gWs_of (i := 605) (by decide +kernel) (by decide +kernel)
theorem kw_im_X2_noteAtRank : Cond.instanceMethod yX2_noteAtRank ∈ gWs := gWs_of (i := 606) (by decide +kernel) (by decide +kernel)
theorem kw_se_X2_noteAtRank : Cond.selects RX2 yX2_noteAtRank yX2_noteAtRank ∈ gWs := gWs_of (i := 607) (by decide +kernel) (by decide +kernel)
theorem kw_co_X2_noteAtRank : Cond.code yX2_noteAtRank cX2_noteAtRank 3 (some .int) ∈ gWs := gWs_of (i := 608) (by decide +kernel) (by decide +kernel)
theorem kw_ml_RX2_87 : Cond.methodLink RX2 87 yX2_rankOf ∈ gWs := gWs_of (i := 609) (by decide +kernel) (by decide +kernel)
theorem kw_im_X2_rankOf : Cond.instanceMethod yX2_rankOf ∈ gWs := gWs_of (i := 611) (by decide +kernel) (by decide +kernel)
theorem kw_co_X2_rankOf : Cond.code yX2_rankOf cX2_rankOf 6 (some .int) ∈ gWs := gWs_of (i := 612) (by decide +kernel) (by decide +kernel)
theorem kw_ml_RX2_90 : Cond.methodLink RX2 90 yX2_errorSize ∈ gWs := gWs_of (i := 613) (by decide +kernel) (by decide +kernel)
theorem kw_im_X2_errorSize : Cond.instanceMethod yX2_errorSize ∈ gWs := gWs_of (i := 615) (by decide +kernel) (by decide +kernel)
theorem kw_co_X2_errorSize : Cond.code yX2_errorSize cX2_errorSize 2 (some .int) ∈ gWs := gWs_of (i := 616) (by decide +kernel) (by decide +kernel)
theorem kw_ml_RX2_82 : Cond.methodLink RX2 82 Lib.Math.abs.name ∈ gWs := gWs_of (i := 617) (by decide +kernel) (by decide +kernel)
theorem kw_ml_RL_93 : Cond.methodLink RL 93 yX6_wouldBe ∈ gWs := gWs_of (i := 618) (by decide +kernel) (by decide +kernel)
theorem kw_im_X6_wouldBe : Cond.instanceMethod yX6_wouldBe ∈ gWs := gWs_of (i := 619) (by decide +kernel) (by decide +kernel)
theorem kw_se_X6_wouldBe : Cond.selects RX6 yX6_wouldBe yX6_wouldBe ∈ gWs := gWs_of (i := 620) (by decide +kernel) (by decide +kernel)
theorem kw_co_X6_wouldBe : Cond.code yX6_wouldBe cX6_wouldBe 3 (some .int) ∈ gWs := gWs_of (i := 621) (by decide +kernel) (by decide +kernel)
theorem kw_ml_RX6_165 : Cond.methodLink RX6 165 yX2_timeOf ∈ gWs := gWs_of (i := 622) (by decide +kernel) (by decide +kernel)
theorem kw_ml_RX6_169 : Cond.methodLink RX6 169 yX6_tryOut ∈ gWs := gWs_of (i := 623) (by decide +kernel) (by decide +kernel)
theorem kw_im_X6_tryOut : Cond.instanceMethod yX6_tryOut ∈ gWs := gWs_of (i := 625) (by decide +kernel) (by decide +kernel)
theorem kw_co_X6_tryOut : Cond.code yX6_tryOut cX6_tryOut 2 none ∈ gWs := gWs_of (i := 626) (by decide +kernel) (by decide +kernel)
theorem kw_ml_RX6_198 : Cond.methodLink RX6 198 yX4_copyFrom ∈ gWs := gWs_of (i := 627) (by decide +kernel) (by decide +kernel)
theorem kw_ml_RX6_172 : Cond.methodLink RX6 172 yX2_errorOf ∈ gWs := gWs_of (i := 628) (by decide +kernel) (by decide +kernel)
theorem kw_im_X2_errorOf : Cond.instanceMethod yX2_errorOf ∈ gWs := gWs_of (i := 629) (by decide +kernel) (by decide +kernel)
theorem kw_se_X2_errorOf : Cond.selects RX2 yX2_errorOf yX2_errorOf ∈ gWs := gWs_of (i := 630) (by decide +kernel) (by decide +kernel)
theorem kw_co_X2_errorOf : Cond.code yX2_errorOf cX2_errorOf 2 (some .int) ∈ gWs := gWs_of (i := 631) (by decide +kernel) (by decide +kernel)
theorem kw_ml_RL_97 : Cond.methodLink RL 97 yX6_firstFalse ∈ gWs := gWs_of (i := 632) (by decide +kernel) (by decide +kernel)
theorem kw_im_X6_firstFalse : Cond.instanceMethod yX6_firstFalse ∈ gWs := gWs_of (i := 633) (by decide +kernel) (by decide +kernel)
theorem kw_se_X6_firstFalse : Cond.selects RX6 yX6_firstFalse yX6_firstFalse ∈ gWs := gWs_of (i := 634) (by decide +kernel) (by decide +kernel)
theorem kw_co_X6_firstFalse : Cond.code yX6_firstFalse cX6_firstFalse 1 (some .int) ∈ gWs := gWs_of (i := 635) (by decide +kernel) (by decide +kernel)
theorem kw_ml_RX6_175 : Cond.methodLink RX6 175 yX2_firstFalseAfter ∈ gWs := gWs_of (i := 636) (by decide +kernel) (by decide +kernel)
theorem kw_im_X2_firstFalseAfter : Cond.instanceMethod yX2_firstFalseAfter ∈ gWs := gWs_of (i := 637) (by decide +kernel) (by decide +kernel)
theorem kw_se_X2_firstFalseAfter : Cond.selects RX2 yX2_firstFalseAfter yX2_firstFalseAfter ∈ gWs := gWs_of (i := 638) (by decide +kernel) (by decide +kernel)
theorem kw_co_X2_firstFalseAfter : Cond.code yX2_firstFalseAfter cX2_firstFalseAfter 3 (some .int) ∈ gWs := gWs_of (i := 639) (by decide +kernel) (by decide +kernel)
theorem kw_ml_RL_101 : Cond.methodLink RL 101 yX6_leastTolerance ∈ gWs := gWs_of (i := 640) (by decide +kernel) (by decide +kernel)
theorem kw_im_X6_leastTolerance : Cond.instanceMethod yX6_leastTolerance ∈ gWs := gWs_of (i := 641) (by decide +kernel) (by decide +kernel)
theorem kw_se_X6_leastTolerance : Cond.selects RX6 yX6_leastTolerance yX6_leastTolerance ∈ gWs := gWs_of (i := 642) (by decide +kernel) (by decide +kernel)
theorem kw_co_X6_leastTolerance : Cond.code yX6_leastTolerance cX6_leastTolerance 1 (some .int) ∈ gWs := gWs_of (i := 643) (by decide +kernel) (by decide +kernel)
theorem kw_ml_RX6_178 : Cond.methodLink RX6 178 yX2_greatestErrorAfter ∈ gWs := gWs_of (i := 644) (by decide +kernel) (by decide +kernel)
theorem kw_im_X2_greatestErrorAfter : Cond.instanceMethod yX2_greatestErrorAfter ∈ gWs := gWs_of (i := 645) (by decide +kernel) (by decide +kernel)
theorem kw_se_X2_greatestErrorAfter : Cond.selects RX2 yX2_greatestErrorAfter yX2_greatestErrorAfter ∈ gWs := gWs_of (i := 646) (by decide +kernel) (by decide +kernel)
theorem kw_co_X2_greatestErrorAfter : Cond.code yX2_greatestErrorAfter cX2_greatestErrorAfter 4 (some .int) ∈ gWs := gWs_of (i := 647) (by decide +kernel) (by decide +kernel)
theorem kw_ml_RX2_93 : Cond.methodLink RX2 93 Lib.Math.max.name ∈ gWs := gWs_of (i := 648) (by decide +kernel) (by decide +kernel)
theorem kw_ml_RL_105 : Cond.methodLink RL 105 yX6_pitchAt ∈ gWs := gWs_of (i := 649) (by decide +kernel) (by decide +kernel)
theorem kw_im_X6_pitchAt : Cond.instanceMethod yX6_pitchAt ∈ gWs := gWs_of (i := 650) (by decide +kernel) (by decide +kernel)
theorem kw_se_X6_pitchAt : Cond.selects RX6 yX6_pitchAt yX6_pitchAt ∈ gWs := gWs_of (i := 651) (by decide +kernel) (by decide +kernel)
theorem kw_co_X6_pitchAt : Cond.code yX6_pitchAt cX6_pitchAt 3 (some .int) ∈ gWs := gWs_of (i := 652) (by decide +kernel) (by decide +kernel)
theorem kw_ml_RX6_181 : Cond.methodLink RX6 181 yX0_pitchOf ∈ gWs := gWs_of (i := 653) (by decide +kernel) (by decide +kernel)
theorem kw_ml_RL_109 : Cond.methodLink RL 109 yX6_type ∈ gWs := gWs_of (i := 654) (by decide +kernel) (by decide +kernel)
theorem kw_im_X6_type : Cond.instanceMethod yX6_type ∈ gWs := gWs_of (i := 655) (by decide +kernel) (by decide +kernel)
theorem kw_se_X6_type : Cond.selects RX6 yX6_type yX6_type ∈ gWs := gWs_of (i := 656) (by decide +kernel) (by decide +kernel)
theorem kw_co_X6_type : Cond.code yX6_type cX6_type 2 (some .int) ∈ gWs := gWs_of (i := 657) (by decide +kernel) (by decide +kernel)
theorem kw_ml_RX6_184 : Cond.methodLink RX6 184 yX5_append ∈ gWs := gWs_of (i := 658) (by decide +kernel) (by decide +kernel)
theorem kw_im_X5_append : Cond.instanceMethod yX5_append ∈ gWs := gWs_of (i := 659) (by decide +kernel) (by decide +kernel)
theorem kw_se_X5_append : Cond.selects RX5 yX5_append yX5_append ∈ gWs := gWs_of (i := 660) (by decide +kernel) (by decide +kernel)
theorem kw_co_X5_append : Cond.code yX5_append cX5_append 2 none ∈ gWs := gWs_of (i := 661) (by decide +kernel) (by decide +kernel)
theorem kw_ml_RX5_42 : Cond.methodLink RX5 42 yX3_put ∈ gWs := gWs_of (i := 662) (by decide +kernel) (by decide +kernel)
theorem kw_ml_RL_113 : Cond.methodLink RL 113 yX6_clearText ∈ gWs := gWs_of (i := 663) (by decide +kernel) (by decide +kernel)
theorem kw_im_X6_clearText : Cond.instanceMethod yX6_clearText ∈ gWs := gWs_of (i := 664) (by decide +kernel) (by decide +kernel)
theorem kw_se_X6_clearText : Cond.selects RX6 yX6_clearText yX6_clearText ∈ gWs := gWs_of (i := 665) (by decide +kernel) (by decide +kernel)
theorem kw_co_X6_clearText : Cond.code yX6_clearText cX6_clearText 2 (some .int) ∈ gWs := gWs_of (i := 666) (by decide +kernel) (by decide +kernel)
theorem kw_ml_RX6_186 : Cond.methodLink RX6 186 yX5_empty ∈ gWs := gWs_of (i := 667) (by decide +kernel) (by decide +kernel)
theorem kw_im_X5_empty : Cond.instanceMethod yX5_empty ∈ gWs := gWs_of (i := 668) (by decide +kernel) (by decide +kernel)
theorem kw_se_X5_empty : Cond.selects RX5 yX5_empty yX5_empty ∈ gWs := gWs_of (i := 669) (by decide +kernel) (by decide +kernel)
theorem kw_co_X5_empty : Cond.code yX5_empty cX5_empty 2 none ∈ gWs := gWs_of (i := 670) (by decide +kernel) (by decide +kernel)
theorem kw_ml_RL_117 : Cond.methodLink RL 117 yX6_fault ∈ gWs := gWs_of (i := 671) (by decide +kernel) (by decide +kernel)
theorem kw_im_X6_fault : Cond.instanceMethod yX6_fault ∈ gWs := gWs_of (i := 672) (by decide +kernel) (by decide +kernel)
theorem kw_se_X6_fault : Cond.selects RX6 yX6_fault yX6_fault ∈ gWs := gWs_of (i := 673) (by decide +kernel) (by decide +kernel)
theorem kw_co_X6_fault : Cond.code yX6_fault cX6_fault 2 (some .int) ∈ gWs := gWs_of (i := 674) (by decide +kernel) (by decide +kernel)
theorem kw_ml_RX6_189 : Cond.methodLink RX6 189 yX6_tryText ∈ gWs := gWs_of (i := 675) (by decide +kernel) (by decide +kernel)
theorem kw_im_X6_tryText : Cond.instanceMethod yX6_tryText ∈ gWs := gWs_of (i := 677) (by decide +kernel) (by decide +kernel)
theorem kw_co_X6_tryText : Cond.code yX6_tryText cX6_tryText 1 none ∈ gWs := gWs_of (i := 678) (by decide +kernel) (by decide +kernel)
theorem kw_ml_RX6_204 : Cond.methodLink RX6 204 yX5_readInto ∈ gWs := gWs_of (i := 679) (by decide +kernel) (by decide +kernel)
theorem kw_im_X5_readInto : Cond.instanceMethod yX5_readInto ∈ gWs := gWs_of (i := 680) (by decide +kernel) (by decide +kernel)
theorem kw_se_X5_readInto : Cond.selects RX5 yX5_readInto yX5_readInto ∈ gWs := gWs_of (i := 681) (by decide +kernel) (by decide +kernel)
theorem kw_co_X5_readInto : Cond.code yX5_readInto cX5_readInto 3 none ∈ gWs := gWs_of (i := 682) (by decide +kernel) (by decide +kernel)
theorem kw_ml_RX5_46 : Cond.methodLink RX5 46 yX5_reasonAgainstNext ∈ gWs := gWs_of (i := 683) (by decide +kernel) (by decide +kernel)
theorem kw_im_X5_reasonAgainstNext : Cond.instanceMethod yX5_reasonAgainstNext ∈ gWs := gWs_of (i := 685) (by decide +kernel) (by decide +kernel)
theorem kw_co_X5_reasonAgainstNext : Cond.code yX5_reasonAgainstNext cX5_reasonAgainstNext 2 (some .int) ∈ gWs := gWs_of (i := 686) (by decide +kernel) (by decide +kernel)
theorem kw_ml_RX5_56 : Cond.methodLink RX5 56 yX5_readNote ∈ gWs := gWs_of (i := 687) (by decide +kernel) (by decide +kernel)
theorem kw_im_X5_readNote : Cond.instanceMethod yX5_readNote ∈ gWs := gWs_of (i := 689) (by decide +kernel) (by decide +kernel)
theorem kw_co_X5_readNote : Cond.code yX5_readNote cX5_readNote 1 (some .boolean) ∈ gWs := gWs_of (i := 690) (by decide +kernel) (by decide +kernel)
theorem kw_ml_RX5_67 : Cond.methodLink RX5 67 yX5_readNumber ∈ gWs := gWs_of (i := 691) (by decide +kernel) (by decide +kernel)
theorem kw_im_X5_readNumber : Cond.instanceMethod yX5_readNumber ∈ gWs := gWs_of (i := 693) (by decide +kernel) (by decide +kernel)
theorem kw_co_X5_readNumber : Cond.code yX5_readNumber cX5_readNumber 3 (some .int) ∈ gWs := gWs_of (i := 694) (by decide +kernel) (by decide +kernel)
theorem kw_ml_RX5_74 : Cond.methodLink RX5 74 yX3_get ∈ gWs := gWs_of (i := 695) (by decide +kernel) (by decide +kernel)
theorem kw_ml_RX5_82 : Cond.methodLink RX5 82 Lib.Math.max.name ∈ gWs := gWs_of (i := 697) (by decide +kernel) (by decide +kernel)
theorem kw_ml_RX5_71 : Cond.methodLink RX5 71 yX5_readCharacter ∈ gWs := gWs_of (i := 698) (by decide +kernel) (by decide +kernel)
theorem kw_im_X5_readCharacter : Cond.instanceMethod yX5_readCharacter ∈ gWs := gWs_of (i := 700) (by decide +kernel) (by decide +kernel)
theorem kw_co_X5_readCharacter : Cond.code yX5_readCharacter cX5_readCharacter 3 (some .boolean) ∈ gWs := gWs_of (i := 701) (by decide +kernel) (by decide +kernel)
theorem kw_ml_RX5_60 : Cond.methodLink RX5 60 yX2_hasNoteAt ∈ gWs := gWs_of (i := 702) (by decide +kernel) (by decide +kernel)
theorem kw_ml_RX5_64 : Cond.methodLink RX5 64 yX2_isFull ∈ gWs := gWs_of (i := 703) (by decide +kernel) (by decide +kernel)
theorem kw_ml_RX5_50 : Cond.methodLink RX5 50 yX2_insert ∈ gWs := gWs_of (i := 704) (by decide +kernel) (by decide +kernel)
theorem kw_ml_RX6_192 : Cond.methodLink RX6 192 yX5_faultReason ∈ gWs := gWs_of (i := 705) (by decide +kernel) (by decide +kernel)
theorem kw_im_X5_faultReason : Cond.instanceMethod yX5_faultReason ∈ gWs := gWs_of (i := 706) (by decide +kernel) (by decide +kernel)
theorem kw_se_X5_faultReason : Cond.selects RX5 yX5_faultReason yX5_faultReason ∈ gWs := gWs_of (i := 707) (by decide +kernel) (by decide +kernel)
theorem kw_co_X5_faultReason : Cond.code yX5_faultReason cX5_faultReason 1 (some .int) ∈ gWs := gWs_of (i := 708) (by decide +kernel) (by decide +kernel)
theorem kw_ml_RX6_195 : Cond.methodLink RX6 195 yX5_faultPlace ∈ gWs := gWs_of (i := 709) (by decide +kernel) (by decide +kernel)
theorem kw_im_X5_faultPlace : Cond.instanceMethod yX5_faultPlace ∈ gWs := gWs_of (i := 710) (by decide +kernel) (by decide +kernel)
theorem kw_se_X5_faultPlace : Cond.selects RX5 yX5_faultPlace yX5_faultPlace ∈ gWs := gWs_of (i := 711) (by decide +kernel) (by decide +kernel)
theorem kw_co_X5_faultPlace : Cond.code yX5_faultPlace cX5_faultPlace 1 (some .int) ∈ gWs := gWs_of (i := 712) (by decide +kernel) (by decide +kernel)
theorem kw_ml_RL_121 : Cond.methodLink RL 121 yX6_enter ∈ gWs := gWs_of (i := 713) (by decide +kernel) (by decide +kernel)
theorem kw_im_X6_enter : Cond.instanceMethod yX6_enter ∈ gWs := gWs_of (i := 714) (by decide +kernel) (by decide +kernel)
theorem kw_se_X6_enter : Cond.selects RX6 yX6_enter yX6_enter ∈ gWs := gWs_of (i := 715) (by decide +kernel) (by decide +kernel)
theorem kw_co_X6_enter : Cond.code yX6_enter cX6_enter 1 (some .int) ∈ gWs := gWs_of (i := 716) (by decide +kernel) (by decide +kernel)
theorem kw_ml_RX6_201 : Cond.methodLink RX6 201 yX5_notesRead ∈ gWs := gWs_of (i := 717) (by decide +kernel) (by decide +kernel)
theorem kw_im_X5_notesRead : Cond.instanceMethod yX5_notesRead ∈ gWs := gWs_of (i := 718) (by decide +kernel) (by decide +kernel)
theorem kw_se_X5_notesRead : Cond.selects RX5 yX5_notesRead yX5_notesRead ∈ gWs := gWs_of (i := 719) (by decide +kernel) (by decide +kernel)
theorem kw_co_X5_notesRead : Cond.code yX5_notesRead cX5_notesRead 1 (some .int) ∈ gWs := gWs_of (i := 720) (by decide +kernel) (by decide +kernel)
theorem kw_cl_RL_10 : Cond.classLink RL 10 RX7 ∈ gWs := gWs_of (i := 721) (by decide +kernel) (by decide +kernel)
theorem kw_it_RX7 : Cond.instantiable RX7 11 ∈ gWs := gWs_of (i := 722) (by decide +kernel) (by decide +kernel)
theorem kw_ml_RL_12 : Cond.methodLink RL 12 yX7_init ∈ gWs := gWs_of (i := 723) (by decide +kernel) (by decide +kernel)
theorem kw_im_X7_init : Cond.instanceMethod yX7_init ∈ gWs := gWs_of (i := 724) (by decide +kernel) (by decide +kernel)
theorem kw_co_X7_init : Cond.code yX7_init cX7_init 1 none ∈ gWs := gWs_of (i := 725) (by decide +kernel) (by decide +kernel)
theorem kw_ml_RX7_1 : Cond.methodLink RX7 1 objectInit ∈ gWs := gWs_of (i := 726) (by decide +kernel) (by decide +kernel)
theorem kw_fl_RX7_7 : Cond.fieldLink RX7 7 "GlassBowlsModel" "st" "[I" ∈ gWs := gWs_of (i := 727) (by decide +kernel) (by decide +kernel)
theorem kw_fl_RX7_13 : Cond.fieldLink RX7 13 "GlassBowlsModel" "past" "[I" ∈ gWs := gWs_of (i := 728) (by decide +kernel) (by decide +kernel)
theorem kw_fl_RX7_16 : Cond.fieldLink RX7 16 "GlassBowlsModel" "aside" "[I" ∈ gWs := gWs_of (i := 729) (by decide +kernel) (by decide +kernel)
theorem kw_fl_RX7_29 : Cond.fieldLink RX7 29 "GlassBowlsModel" "pasts" "I" ∈ gWs := gWs_of (i := 730) (by decide +kernel) (by decide +kernel)
theorem kw_fl_RX7_19 : Cond.fieldLink RX7 19 "GlassBowlsModel" "text" "[I" ∈ gWs := gWs_of (i := 731) (by decide +kernel) (by decide +kernel)
theorem kw_fl_RX7_90 : Cond.fieldLink RX7 90 "GlassBowlsModel" "length" "I" ∈ gWs := gWs_of (i := 732) (by decide +kernel) (by decide +kernel)
theorem kw_fl_RX7_143 : Cond.fieldLink RX7 143 "GlassBowlsModel" "spot" "I" ∈ gWs := gWs_of (i := 733) (by decide +kernel) (by decide +kernel)
theorem kw_fl_RX7_149 : Cond.fieldLink RX7 149 "GlassBowlsModel" "itsTime" "I" ∈ gWs := gWs_of (i := 734) (by decide +kernel) (by decide +kernel)
theorem kw_fl_RX7_155 : Cond.fieldLink RX7 155 "GlassBowlsModel" "itsPitch" "I" ∈ gWs := gWs_of (i := 735) (by decide +kernel) (by decide +kernel)
theorem kw_fl_RX7_22 : Cond.fieldLink RX7 22 "GlassBowlsModel" "times" "[I" ∈ gWs := gWs_of (i := 736) (by decide +kernel) (by decide +kernel)
theorem kw_fl_RX7_158 : Cond.fieldLink RX7 158 "GlassBowlsModel" "from" "I" ∈ gWs := gWs_of (i := 737) (by decide +kernel) (by decide +kernel)
theorem kw_ml_RL_63 : Cond.methodLink RL 63 yX7_undo ∈ gWs := gWs_of (i := 761) (by decide +kernel) (by decide +kernel)
theorem kw_im_X7_undo : Cond.instanceMethod yX7_undo ∈ gWs := gWs_of (i := 762) (by decide +kernel) (by decide +kernel)
theorem kw_se_X7_undo : Cond.selects RX7 yX7_undo yX7_undo ∈ gWs := gWs_of (i := 763) (by decide +kernel) (by decide +kernel)
theorem kw_co_X7_undo : Cond.code yX7_undo cX7_undo 2 (some .int) ∈ gWs := gWs_of (i := 764) (by decide +kernel) (by decide +kernel)
theorem kw_k_RX7_33 : Cond.constant RX7 33 (-100002) ∈ gWs := gWs_of (i := 765) (by decide +kernel) (by decide +kernel)
theorem kw_ml_RL_17 : Cond.methodLink RL 17 yX7_bowl ∈ gWs := gWs_of (i := 766) (by decide +kernel) (by decide +kernel)
theorem kw_im_X7_bowl : Cond.instanceMethod yX7_bowl ∈ gWs := gWs_of (i := 767) (by decide +kernel) (by decide +kernel)
theorem kw_se_X7_bowl : Cond.selects RX7 yX7_bowl yX7_bowl ∈ gWs := gWs_of (i := 768) (by decide +kernel) (by decide +kernel)
theorem kw_co_X7_bowl : Cond.code yX7_bowl cX7_bowl 4 (some .int) ∈ gWs := gWs_of (i := 769) (by decide +kernel) (by decide +kernel)
theorem kw_ml_RX7_25 : Cond.methodLink RX7 25 yX7_in ∈ gWs := gWs_of (i := 770) (by decide +kernel) (by decide +kernel)
theorem kw_st_X7_in : Cond.static yX7_in ∈ gWs := gWs_of (i := 771) (by decide +kernel) (by decide +kernel)
theorem kw_co_X7_in : Cond.code yX7_in cX7_in 3 (some .boolean) ∈ gWs := gWs_of (i := 772) (by decide +kernel) (by decide +kernel)
theorem kw_k_RX7_51 : Cond.constant RX7 51 (-100001) ∈ gWs := gWs_of (i := 773) (by decide +kernel) (by decide +kernel)
theorem kw_k_RX7_52 : Cond.constant RX7 52 (-100003) ∈ gWs := gWs_of (i := 774) (by decide +kernel) (by decide +kernel)
theorem kw_ml_RX7_53 : Cond.methodLink RX7 53 yX7_records ∈ gWs := gWs_of (i := 775) (by decide +kernel) (by decide +kernel)
theorem kw_im_X7_records : Cond.instanceMethod yX7_records ∈ gWs := gWs_of (i := 777) (by decide +kernel) (by decide +kernel)
theorem kw_co_X7_records : Cond.code yX7_records cX7_records 2 none ∈ gWs := gWs_of (i := 778) (by decide +kernel) (by decide +kernel)
theorem kw_ml_RX7_43 : Cond.methodLink RX7 43 yX7_put ∈ gWs := gWs_of (i := 779) (by decide +kernel) (by decide +kernel)
theorem kw_im_X7_put : Cond.instanceMethod yX7_put ∈ gWs := gWs_of (i := 781) (by decide +kernel) (by decide +kernel)
theorem kw_co_X7_put : Cond.code yX7_put cX7_put 4 none ∈ gWs := gWs_of (i := 782) (by decide +kernel) (by decide +kernel)
theorem kw_ml_RL_22 : Cond.methodLink RL 22 yX7_remove ∈ gWs := gWs_of (i := 783) (by decide +kernel) (by decide +kernel)
theorem kw_im_X7_remove : Cond.instanceMethod yX7_remove ∈ gWs := gWs_of (i := 784) (by decide +kernel) (by decide +kernel)
theorem kw_se_X7_remove : Cond.selects RX7 yX7_remove yX7_remove ∈ gWs := gWs_of (i := 785) (by decide +kernel) (by decide +kernel)
theorem kw_co_X7_remove : Cond.code yX7_remove cX7_remove 3 (some .int) ∈ gWs := gWs_of (i := 786) (by decide +kernel) (by decide +kernel)
theorem kw_ml_RX7_56 : Cond.methodLink RX7 56 yX7_isBowl ∈ gWs := gWs_of (i := 787) (by decide +kernel) (by decide +kernel)
theorem kw_im_X7_isBowl : Cond.instanceMethod yX7_isBowl ∈ gWs := gWs_of (i := 789) (by decide +kernel) (by decide +kernel)
theorem kw_co_X7_isBowl : Cond.code yX7_isBowl cX7_isBowl 2 (some .boolean) ∈ gWs := gWs_of (i := 790) (by decide +kernel) (by decide +kernel)
theorem kw_ml_RX7_34 : Cond.methodLink RX7 34 yX7_of ∈ gWs := gWs_of (i := 791) (by decide +kernel) (by decide +kernel)
theorem kw_im_X7_of : Cond.instanceMethod yX7_of ∈ gWs := gWs_of (i := 793) (by decide +kernel) (by decide +kernel)
theorem kw_co_X7_of : Cond.code yX7_of cX7_of 3 (some .int) ∈ gWs := gWs_of (i := 794) (by decide +kernel) (by decide +kernel)
theorem kw_ml_RL_26 : Cond.methodLink RL 26 yX7_pour ∈ gWs := gWs_of (i := 795) (by decide +kernel) (by decide +kernel)
theorem kw_im_X7_pour : Cond.instanceMethod yX7_pour ∈ gWs := gWs_of (i := 796) (by decide +kernel) (by decide +kernel)
theorem kw_se_X7_pour : Cond.selects RX7 yX7_pour yX7_pour ∈ gWs := gWs_of (i := 797) (by decide +kernel) (by decide +kernel)
theorem kw_co_X7_pour : Cond.code yX7_pour cX7_pour 3 (some .int) ∈ gWs := gWs_of (i := 798) (by decide +kernel) (by decide +kernel)
theorem kw_ml_RX7_60 : Cond.methodLink RX7 60 yX7_comes ∈ gWs := gWs_of (i := 799) (by decide +kernel) (by decide +kernel)
theorem kw_im_X7_comes : Cond.instanceMethod yX7_comes ∈ gWs := gWs_of (i := 801) (by decide +kernel) (by decide +kernel)
theorem kw_co_X7_comes : Cond.code yX7_comes cX7_comes 4 none ∈ gWs := gWs_of (i := 802) (by decide +kernel) (by decide +kernel)
theorem kw_ml_RX7_47 : Cond.methodLink RX7 47 yX7_loses ∈ gWs := gWs_of (i := 803) (by decide +kernel) (by decide +kernel)
theorem kw_im_X7_loses : Cond.instanceMethod yX7_loses ∈ gWs := gWs_of (i := 805) (by decide +kernel) (by decide +kernel)
theorem kw_co_X7_loses : Cond.code yX7_loses cX7_loses 3 (some .int) ∈ gWs := gWs_of (i := 806) (by decide +kernel) (by decide +kernel)
theorem kw_ml_RL_30 : Cond.methodLink RL 30 yX7_spill ∈ gWs := gWs_of (i := 807) (by decide +kernel) (by decide +kernel)
theorem kw_im_X7_spill : Cond.instanceMethod yX7_spill ∈ gWs := gWs_of (i := 808) (by decide +kernel) (by decide +kernel)
theorem kw_se_X7_spill : Cond.selects RX7 yX7_spill yX7_spill ∈ gWs := gWs_of (i := 809) (by decide +kernel) (by decide +kernel)
theorem kw_co_X7_spill : Cond.code yX7_spill cX7_spill 3 (some .int) ∈ gWs := gWs_of (i := 810) (by decide +kernel) (by decide +kernel)
theorem kw_ml_RL_34 : Cond.methodLink RL 34 yX7_crack ∈ gWs := gWs_of (i := 811) (by decide +kernel) (by decide +kernel)
theorem kw_im_X7_crack : Cond.instanceMethod yX7_crack ∈ gWs := gWs_of (i := 812) (by decide +kernel) (by decide +kernel)
theorem kw_se_X7_crack : Cond.selects RX7 yX7_crack yX7_crack ∈ gWs := gWs_of (i := 813) (by decide +kernel) (by decide +kernel)
theorem kw_co_X7_crack : Cond.code yX7_crack cX7_crack 3 (some .int) ∈ gWs := gWs_of (i := 814) (by decide +kernel) (by decide +kernel)
theorem kw_ml_RL_38 : Cond.methodLink RL 38 yX7_mark ∈ gWs := gWs_of (i := 815) (by decide +kernel) (by decide +kernel)
theorem kw_im_X7_mark : Cond.instanceMethod yX7_mark ∈ gWs := gWs_of (i := 816) (by decide +kernel) (by decide +kernel)
theorem kw_se_X7_mark : Cond.selects RX7 yX7_mark yX7_mark ∈ gWs := gWs_of (i := 817) (by decide +kernel) (by decide +kernel)
theorem kw_co_X7_mark : Cond.code yX7_mark cX7_mark 4 (some .int) ∈ gWs := gWs_of (i := 818) (by decide +kernel) (by decide +kernel)
theorem kw_ml_RL_42 : Cond.methodLink RL 42 yX7_bowlOf ∈ gWs := gWs_of (i := 819) (by decide +kernel) (by decide +kernel)
theorem kw_im_X7_bowlOf : Cond.instanceMethod yX7_bowlOf ∈ gWs := gWs_of (i := 820) (by decide +kernel) (by decide +kernel)
theorem kw_se_X7_bowlOf : Cond.selects RX7 yX7_bowlOf yX7_bowlOf ∈ gWs := gWs_of (i := 821) (by decide +kernel) (by decide +kernel)
theorem kw_co_X7_bowlOf : Cond.code yX7_bowlOf cX7_bowlOf 4 (some .int) ∈ gWs := gWs_of (i := 822) (by decide +kernel) (by decide +kernel)
theorem kw_ml_RX7_64 : Cond.methodLink RX7 64 yX7_pitch ∈ gWs := gWs_of (i := 823) (by decide +kernel) (by decide +kernel)
theorem kw_im_X7_pitch : Cond.instanceMethod yX7_pitch ∈ gWs := gWs_of (i := 825) (by decide +kernel) (by decide +kernel)
theorem kw_co_X7_pitch : Cond.code yX7_pitch cX7_pitch 2 (some .int) ∈ gWs := gWs_of (i := 826) (by decide +kernel) (by decide +kernel)
theorem kw_ml_RX7_40 : Cond.methodLink RX7 40 yX7_pitchBy ∈ gWs := gWs_of (i := 827) (by decide +kernel) (by decide +kernel)
theorem kw_im_X7_pitchBy : Cond.instanceMethod yX7_pitchBy ∈ gWs := gWs_of (i := 829) (by decide +kernel) (by decide +kernel)
theorem kw_co_X7_pitchBy : Cond.code yX7_pitchBy cX7_pitchBy 3 (some .int) ∈ gWs := gWs_of (i := 830) (by decide +kernel) (by decide +kernel)
theorem kw_kl_RX7_38 : Cond.constantLong RX7 38 (1000000) ∈ gWs := gWs_of (i := 831) (by decide +kernel) (by decide +kernel)
theorem kw_ml_RL_46 : Cond.methodLink RL 46 yX7_levelFor ∈ gWs := gWs_of (i := 832) (by decide +kernel) (by decide +kernel)
theorem kw_im_X7_levelFor : Cond.instanceMethod yX7_levelFor ∈ gWs := gWs_of (i := 833) (by decide +kernel) (by decide +kernel)
theorem kw_se_X7_levelFor : Cond.selects RX7 yX7_levelFor yX7_levelFor ∈ gWs := gWs_of (i := 834) (by decide +kernel) (by decide +kernel)
theorem kw_co_X7_levelFor : Cond.code yX7_levelFor cX7_levelFor 5 (some .int) ∈ gWs := gWs_of (i := 835) (by decide +kernel) (by decide +kernel)
theorem kw_ml_RX7_67 : Cond.methodLink RX7 67 yX7_size ∈ gWs := gWs_of (i := 836) (by decide +kernel) (by decide +kernel)
theorem kw_st_X7_size : Cond.static yX7_size ∈ gWs := gWs_of (i := 837) (by decide +kernel) (by decide +kernel)
theorem kw_co_X7_size : Cond.code yX7_size cX7_size 1 (some .int) ∈ gWs := gWs_of (i := 838) (by decide +kernel) (by decide +kernel)
theorem kw_ml_RL_50 : Cond.methodLink RL 50 yX7_nearest ∈ gWs := gWs_of (i := 839) (by decide +kernel) (by decide +kernel)
theorem kw_im_X7_nearest : Cond.instanceMethod yX7_nearest ∈ gWs := gWs_of (i := 840) (by decide +kernel) (by decide +kernel)
theorem kw_se_X7_nearest : Cond.selects RX7 yX7_nearest yX7_nearest ∈ gWs := gWs_of (i := 841) (by decide +kernel) (by decide +kernel)
theorem kw_co_X7_nearest : Cond.code yX7_nearest cX7_nearest 2 (some .int) ∈ gWs := gWs_of (i := 842) (by decide +kernel) (by decide +kernel)
theorem kw_k_RX7_70 : Cond.constant RX7 70 (-100004) ∈ gWs := gWs_of (i := 843) (by decide +kernel) (by decide +kernel)
theorem kw_ml_RX7_71 : Cond.methodLink RX7 71 yX7_sounds ∈ gWs := gWs_of (i := 844) (by decide +kernel) (by decide +kernel)
theorem kw_im_X7_sounds : Cond.instanceMethod yX7_sounds ∈ gWs := gWs_of (i := 846) (by decide +kernel) (by decide +kernel)
theorem kw_co_X7_sounds : Cond.code yX7_sounds cX7_sounds 4 (some .int) ∈ gWs := gWs_of (i := 847) (by decide +kernel) (by decide +kernel)
theorem kw_ml_RL_54 : Cond.methodLink RL 54 yX7_set ∈ gWs := gWs_of (i := 848) (by decide +kernel) (by decide +kernel)
theorem kw_im_X7_set : Cond.instanceMethod yX7_set ∈ gWs := gWs_of (i := 849) (by decide +kernel) (by decide +kernel)
theorem kw_se_X7_set : Cond.selects RX7 yX7_set yX7_set ∈ gWs := gWs_of (i := 850) (by decide +kernel) (by decide +kernel)
theorem kw_co_X7_set : Cond.code yX7_set cX7_set 4 (some .int) ∈ gWs := gWs_of (i := 851) (by decide +kernel) (by decide +kernel)
theorem kw_ml_RX7_74 : Cond.methodLink RX7 74 yX7_canBe ∈ gWs := gWs_of (i := 852) (by decide +kernel) (by decide +kernel)
theorem kw_st_X7_canBe : Cond.static yX7_canBe ∈ gWs := gWs_of (i := 853) (by decide +kernel) (by decide +kernel)
theorem kw_co_X7_canBe : Cond.code yX7_canBe cX7_canBe 2 (some .boolean) ∈ gWs := gWs_of (i := 854) (by decide +kernel) (by decide +kernel)
theorem kw_ml_RX7_78 : Cond.methodLink RX7 78 yX7_setting ∈ gWs := gWs_of (i := 855) (by decide +kernel) (by decide +kernel)
theorem kw_im_X7_setting : Cond.instanceMethod yX7_setting ∈ gWs := gWs_of (i := 857) (by decide +kernel) (by decide +kernel)
theorem kw_co_X7_setting : Cond.code yX7_setting cX7_setting 2 (some .int) ∈ gWs := gWs_of (i := 858) (by decide +kernel) (by decide +kernel)
theorem kw_ml_RL_58 : Cond.methodLink RL 58 yX7_count ∈ gWs := gWs_of (i := 859) (by decide +kernel) (by decide +kernel)
theorem kw_im_X7_count : Cond.instanceMethod yX7_count ∈ gWs := gWs_of (i := 860) (by decide +kernel) (by decide +kernel)
theorem kw_se_X7_count : Cond.selects RX7 yX7_count yX7_count ∈ gWs := gWs_of (i := 861) (by decide +kernel) (by decide +kernel)
theorem kw_co_X7_count : Cond.code yX7_count cX7_count 2 (some .int) ∈ gWs := gWs_of (i := 862) (by decide +kernel) (by decide +kernel)
theorem kw_ml_RX7_84 : Cond.methodLink RX7 84 yX7_phraseOf ∈ gWs := gWs_of (i := 863) (by decide +kernel) (by decide +kernel)
theorem kw_im_X7_phraseOf : Cond.instanceMethod yX7_phraseOf ∈ gWs := gWs_of (i := 865) (by decide +kernel) (by decide +kernel)
theorem kw_co_X7_phraseOf : Cond.code yX7_phraseOf cX7_phraseOf 4 (some .int) ∈ gWs := gWs_of (i := 866) (by decide +kernel) (by decide +kernel)
theorem kw_ml_RX7_97 : Cond.methodLink RX7 97 yX7_begins ∈ gWs := gWs_of (i := 867) (by decide +kernel) (by decide +kernel)
theorem kw_im_X7_begins : Cond.instanceMethod yX7_begins ∈ gWs := gWs_of (i := 869) (by decide +kernel) (by decide +kernel)
theorem kw_co_X7_begins : Cond.code yX7_begins cX7_begins 2 (some .boolean) ∈ gWs := gWs_of (i := 870) (by decide +kernel) (by decide +kernel)
theorem kw_ml_RX7_81 : Cond.methodLink RX7 81 yX7_has ∈ gWs := gWs_of (i := 871) (by decide +kernel) (by decide +kernel)
theorem kw_im_X7_has : Cond.instanceMethod yX7_has ∈ gWs := gWs_of (i := 873) (by decide +kernel) (by decide +kernel)
theorem kw_co_X7_has : Cond.code yX7_has cX7_has 3 (some .int) ∈ gWs := gWs_of (i := 874) (by decide +kernel) (by decide +kernel)
theorem kw_ml_RX7_87 : Cond.methodLink RX7 87 yX7_notesThat ∈ gWs := gWs_of (i := 875) (by decide +kernel) (by decide +kernel)
theorem kw_im_X7_notesThat : Cond.instanceMethod yX7_notesThat ∈ gWs := gWs_of (i := 877) (by decide +kernel) (by decide +kernel)
theorem kw_co_X7_notesThat : Cond.code yX7_notesThat cX7_notesThat 5 (some .int) ∈ gWs := gWs_of (i := 878) (by decide +kernel) (by decide +kernel)
theorem kw_ml_RX7_93 : Cond.methodLink RX7 93 yX7_water ∈ gWs := gWs_of (i := 879) (by decide +kernel) (by decide +kernel)
theorem kw_im_X7_water : Cond.instanceMethod yX7_water ∈ gWs := gWs_of (i := 881) (by decide +kernel) (by decide +kernel)
theorem kw_co_X7_water : Cond.code yX7_water cX7_water 3 (some .int) ∈ gWs := gWs_of (i := 882) (by decide +kernel) (by decide +kernel)
theorem kw_ml_RL_67 : Cond.methodLink RL 67 yX7_note ∈ gWs := gWs_of (i := 883) (by decide +kernel) (by decide +kernel)
theorem kw_im_X7_note : Cond.instanceMethod yX7_note ∈ gWs := gWs_of (i := 884) (by decide +kernel) (by decide +kernel)
theorem kw_se_X7_note : Cond.selects RX7 yX7_note yX7_note ∈ gWs := gWs_of (i := 885) (by decide +kernel) (by decide +kernel)
theorem kw_co_X7_note : Cond.code yX7_note cX7_note 3 (some .int) ∈ gWs := gWs_of (i := 886) (by decide +kernel) (by decide +kernel)
theorem kw_ml_RX7_103 : Cond.methodLink RX7 103 yX7_noteAt ∈ gWs := gWs_of (i := 887) (by decide +kernel) (by decide +kernel)
theorem kw_im_X7_noteAt : Cond.instanceMethod yX7_noteAt ∈ gWs := gWs_of (i := 889) (by decide +kernel) (by decide +kernel)
theorem kw_co_X7_noteAt : Cond.code yX7_noteAt cX7_noteAt 3 (some .int) ∈ gWs := gWs_of (i := 890) (by decide +kernel) (by decide +kernel)
theorem kw_ml_RX7_106 : Cond.methodLink RX7 106 yX7_newNote ∈ gWs := gWs_of (i := 891) (by decide +kernel) (by decide +kernel)
theorem kw_im_X7_newNote : Cond.instanceMethod yX7_newNote ∈ gWs := gWs_of (i := 893) (by decide +kernel) (by decide +kernel)
theorem kw_co_X7_newNote : Cond.code yX7_newNote cX7_newNote 5 (some .int) ∈ gWs := gWs_of (i := 894) (by decide +kernel) (by decide +kernel)
theorem kw_ml_RX7_100 : Cond.methodLink RX7 100 yX7_lay ∈ gWs := gWs_of (i := 895) (by decide +kernel) (by decide +kernel)
theorem kw_im_X7_lay : Cond.instanceMethod yX7_lay ∈ gWs := gWs_of (i := 897) (by decide +kernel) (by decide +kernel)
theorem kw_co_X7_lay : Cond.code yX7_lay cX7_lay 4 none ∈ gWs := gWs_of (i := 898) (by decide +kernel) (by decide +kernel)
theorem kw_ml_RL_71 : Cond.methodLink RL 71 yX7_drop ∈ gWs := gWs_of (i := 899) (by decide +kernel) (by decide +kernel)
theorem kw_im_X7_drop : Cond.instanceMethod yX7_drop ∈ gWs := gWs_of (i := 900) (by decide +kernel) (by decide +kernel)
theorem kw_se_X7_drop : Cond.selects RX7 yX7_drop yX7_drop ∈ gWs := gWs_of (i := 901) (by decide +kernel) (by decide +kernel)
theorem kw_co_X7_drop : Cond.code yX7_drop cX7_drop 3 (some .int) ∈ gWs := gWs_of (i := 902) (by decide +kernel) (by decide +kernel)
theorem kw_ml_RX7_109 : Cond.methodLink RX7 109 yX7_isNote ∈ gWs := gWs_of (i := 903) (by decide +kernel) (by decide +kernel)
theorem kw_im_X7_isNote : Cond.instanceMethod yX7_isNote ∈ gWs := gWs_of (i := 905) (by decide +kernel) (by decide +kernel)
theorem kw_co_X7_isNote : Cond.code yX7_isNote cX7_isNote 2 (some .boolean) ∈ gWs := gWs_of (i := 906) (by decide +kernel) (by decide +kernel)
theorem kw_ml_RL_76 : Cond.methodLink RL 76 yX7_transpose ∈ gWs := gWs_of (i := 907) (by decide +kernel) (by decide +kernel)
theorem kw_im_X7_transpose : Cond.instanceMethod yX7_transpose ∈ gWs := gWs_of (i := 908) (by decide +kernel) (by decide +kernel)
theorem kw_se_X7_transpose : Cond.selects RX7 yX7_transpose yX7_transpose ∈ gWs := gWs_of (i := 909) (by decide +kernel) (by decide +kernel)
theorem kw_co_X7_transpose : Cond.code yX7_transpose cX7_transpose 5 (some .int) ∈ gWs := gWs_of (i := 910) (by decide +kernel) (by decide +kernel)
theorem kw_ml_RL_80 : Cond.methodLink RL 80 yX7_noteOf ∈ gWs := gWs_of (i := 911) (by decide +kernel) (by decide +kernel)
theorem kw_im_X7_noteOf : Cond.instanceMethod yX7_noteOf ∈ gWs := gWs_of (i := 912) (by decide +kernel) (by decide +kernel)
theorem kw_se_X7_noteOf : Cond.selects RX7 yX7_noteOf yX7_noteOf ∈ gWs := gWs_of (i := 913) (by decide +kernel) (by decide +kernel)
theorem kw_co_X7_noteOf : Cond.code yX7_noteOf cX7_noteOf 4 (some .int) ∈ gWs := gWs_of (i := 914) (by decide +kernel) (by decide +kernel)
theorem kw_ml_RL_84 : Cond.methodLink RL 84 yX7_run ∈ gWs := gWs_of (i := 915) (by decide +kernel) (by decide +kernel)
theorem kw_im_X7_run : Cond.instanceMethod yX7_run ∈ gWs := gWs_of (i := 916) (by decide +kernel) (by decide +kernel)
theorem kw_se_X7_run : Cond.selects RX7 yX7_run yX7_run ∈ gWs := gWs_of (i := 917) (by decide +kernel) (by decide +kernel)
theorem kw_co_X7_run : Cond.code yX7_run cX7_run 4 (some .int) ∈ gWs := gWs_of (i := 918) (by decide +kernel) (by decide +kernel)
theorem kw_ml_RX7_122 : Cond.methodLink RX7 122 yX7_second ∈ gWs := gWs_of (i := 919) (by decide +kernel) (by decide +kernel)
theorem kw_im_X7_second : Cond.instanceMethod yX7_second ∈ gWs := gWs_of (i := 921) (by decide +kernel) (by decide +kernel)
theorem kw_co_X7_second : Cond.code yX7_second cX7_second 2 (some .int) ∈ gWs := gWs_of (i := 922) (by decide +kernel) (by decide +kernel)
theorem kw_ml_RX7_115 : Cond.methodLink RX7 115 yX7_dries ∈ gWs := gWs_of (i := 923) (by decide +kernel) (by decide +kernel)
theorem kw_im_X7_dries : Cond.instanceMethod yX7_dries ∈ gWs := gWs_of (i := 925) (by decide +kernel) (by decide +kernel)
theorem kw_co_X7_dries : Cond.code yX7_dries cX7_dries 3 none ∈ gWs := gWs_of (i := 926) (by decide +kernel) (by decide +kernel)
theorem kw_ml_RX7_118 : Cond.methodLink RX7 118 yX7_plays ∈ gWs := gWs_of (i := 927) (by decide +kernel) (by decide +kernel)
theorem kw_im_X7_plays : Cond.instanceMethod yX7_plays ∈ gWs := gWs_of (i := 929) (by decide +kernel) (by decide +kernel)
theorem kw_co_X7_plays : Cond.code yX7_plays cX7_plays 4 none ∈ gWs := gWs_of (i := 930) (by decide +kernel) (by decide +kernel)
theorem kw_ml_RX7_112 : Cond.methodLink RX7 112 yX7_fills ∈ gWs := gWs_of (i := 931) (by decide +kernel) (by decide +kernel)
theorem kw_im_X7_fills : Cond.instanceMethod yX7_fills ∈ gWs := gWs_of (i := 933) (by decide +kernel) (by decide +kernel)
theorem kw_co_X7_fills : Cond.code yX7_fills cX7_fills 2 none ∈ gWs := gWs_of (i := 934) (by decide +kernel) (by decide +kernel)
theorem kw_ml_RL_88 : Cond.methodLink RL 88 yX7_rewind ∈ gWs := gWs_of (i := 935) (by decide +kernel) (by decide +kernel)
theorem kw_im_X7_rewind : Cond.instanceMethod yX7_rewind ∈ gWs := gWs_of (i := 936) (by decide +kernel) (by decide +kernel)
theorem kw_se_X7_rewind : Cond.selects RX7 yX7_rewind yX7_rewind ∈ gWs := gWs_of (i := 937) (by decide +kernel) (by decide +kernel)
theorem kw_co_X7_rewind : Cond.code yX7_rewind cX7_rewind 3 (some .int) ∈ gWs := gWs_of (i := 938) (by decide +kernel) (by decide +kernel)
theorem kw_ml_RL_92 : Cond.methodLink RL 92 yX7_worst ∈ gWs := gWs_of (i := 939) (by decide +kernel) (by decide +kernel)
theorem kw_im_X7_worst : Cond.instanceMethod yX7_worst ∈ gWs := gWs_of (i := 940) (by decide +kernel) (by decide +kernel)
theorem kw_se_X7_worst : Cond.selects RX7 yX7_worst yX7_worst ∈ gWs := gWs_of (i := 941) (by decide +kernel) (by decide +kernel)
theorem kw_co_X7_worst : Cond.code yX7_worst cX7_worst 3 (some .int) ∈ gWs := gWs_of (i := 942) (by decide +kernel) (by decide +kernel)
theorem kw_ml_RX7_125 : Cond.methodLink RX7 125 yX7_hasSounded ∈ gWs := gWs_of (i := 943) (by decide +kernel) (by decide +kernel)
theorem kw_im_X7_hasSounded : Cond.instanceMethod yX7_hasSounded ∈ gWs := gWs_of (i := 945) (by decide +kernel) (by decide +kernel)
theorem kw_co_X7_hasSounded : Cond.code yX7_hasSounded cX7_hasSounded 2 (some .boolean) ∈ gWs := gWs_of (i := 946) (by decide +kernel) (by decide +kernel)
theorem kw_ml_RX7_128 : Cond.methodLink RX7 128 yX7_standAhead ∈ gWs := gWs_of (i := 947) (by decide +kernel) (by decide +kernel)
theorem kw_im_X7_standAhead : Cond.instanceMethod yX7_standAhead ∈ gWs := gWs_of (i := 949) (by decide +kernel) (by decide +kernel)
theorem kw_co_X7_standAhead : Cond.code yX7_standAhead cX7_standAhead 5 (some .int) ∈ gWs := gWs_of (i := 950) (by decide +kernel) (by decide +kernel)
theorem kw_ml_RL_96 : Cond.methodLink RL 96 yX7_wouldBe ∈ gWs := gWs_of (i := 951) (by decide +kernel) (by decide +kernel)
theorem kw_im_X7_wouldBe : Cond.instanceMethod yX7_wouldBe ∈ gWs := gWs_of (i := 952) (by decide +kernel) (by decide +kernel)
theorem kw_se_X7_wouldBe : Cond.selects RX7 yX7_wouldBe yX7_wouldBe ∈ gWs := gWs_of (i := 953) (by decide +kernel) (by decide +kernel)
theorem kw_co_X7_wouldBe : Cond.code yX7_wouldBe cX7_wouldBe 3 (some .int) ∈ gWs := gWs_of (i := 954) (by decide +kernel) (by decide +kernel)
theorem kw_ml_RX7_131 : Cond.methodLink RX7 131 yX7_isToCome ∈ gWs := gWs_of (i := 955) (by decide +kernel) (by decide +kernel)
theorem kw_im_X7_isToCome : Cond.instanceMethod yX7_isToCome ∈ gWs := gWs_of (i := 957) (by decide +kernel) (by decide +kernel)
theorem kw_co_X7_isToCome : Cond.code yX7_isToCome cX7_isToCome 2 (some .boolean) ∈ gWs := gWs_of (i := 958) (by decide +kernel) (by decide +kernel)
theorem kw_ml_RX7_134 : Cond.methodLink RX7 134 yX7_laysAside ∈ gWs := gWs_of (i := 959) (by decide +kernel) (by decide +kernel)
theorem kw_im_X7_laysAside : Cond.instanceMethod yX7_laysAside ∈ gWs := gWs_of (i := 961) (by decide +kernel) (by decide +kernel)
theorem kw_co_X7_laysAside : Cond.code yX7_laysAside cX7_laysAside 2 none ∈ gWs := gWs_of (i := 962) (by decide +kernel) (by decide +kernel)
theorem kw_ml_RX7_137 : Cond.methodLink RX7 137 yX7_goesTo ∈ gWs := gWs_of (i := 963) (by decide +kernel) (by decide +kernel)
theorem kw_im_X7_goesTo : Cond.instanceMethod yX7_goesTo ∈ gWs := gWs_of (i := 965) (by decide +kernel) (by decide +kernel)
theorem kw_co_X7_goesTo : Cond.code yX7_goesTo cX7_goesTo 3 none ∈ gWs := gWs_of (i := 966) (by decide +kernel) (by decide +kernel)
theorem kw_ml_RX7_140 : Cond.methodLink RX7 140 yX7_bringsBack ∈ gWs := gWs_of (i := 967) (by decide +kernel) (by decide +kernel)
theorem kw_im_X7_bringsBack : Cond.instanceMethod yX7_bringsBack ∈ gWs := gWs_of (i := 969) (by decide +kernel) (by decide +kernel)
theorem kw_co_X7_bringsBack : Cond.code yX7_bringsBack cX7_bringsBack 2 none ∈ gWs := gWs_of (i := 970) (by decide +kernel) (by decide +kernel)
theorem kw_ml_RL_100 : Cond.methodLink RL 100 yX7_firstFalse ∈ gWs := gWs_of (i := 971) (by decide +kernel) (by decide +kernel)
theorem kw_im_X7_firstFalse : Cond.instanceMethod yX7_firstFalse ∈ gWs := gWs_of (i := 972) (by decide +kernel) (by decide +kernel)
theorem kw_se_X7_firstFalse : Cond.selects RX7 yX7_firstFalse yX7_firstFalse ∈ gWs := gWs_of (i := 973) (by decide +kernel) (by decide +kernel)
theorem kw_co_X7_firstFalse : Cond.code yX7_firstFalse cX7_firstFalse 3 (some .int) ∈ gWs := gWs_of (i := 974) (by decide +kernel) (by decide +kernel)
theorem kw_ml_RL_104 : Cond.methodLink RL 104 yX7_leastTolerance ∈ gWs := gWs_of (i := 975) (by decide +kernel) (by decide +kernel)
theorem kw_im_X7_leastTolerance : Cond.instanceMethod yX7_leastTolerance ∈ gWs := gWs_of (i := 976) (by decide +kernel) (by decide +kernel)
theorem kw_se_X7_leastTolerance : Cond.selects RX7 yX7_leastTolerance yX7_leastTolerance ∈ gWs := gWs_of (i := 977) (by decide +kernel) (by decide +kernel)
theorem kw_co_X7_leastTolerance : Cond.code yX7_leastTolerance cX7_leastTolerance 3 (some .int) ∈ gWs := gWs_of (i := 978) (by decide +kernel) (by decide +kernel)
theorem kw_ml_RL_108 : Cond.methodLink RL 108 yX7_pitchAt ∈ gWs := gWs_of (i := 979) (by decide +kernel) (by decide +kernel)
theorem kw_im_X7_pitchAt : Cond.instanceMethod yX7_pitchAt ∈ gWs := gWs_of (i := 980) (by decide +kernel) (by decide +kernel)
theorem kw_se_X7_pitchAt : Cond.selects RX7 yX7_pitchAt yX7_pitchAt ∈ gWs := gWs_of (i := 981) (by decide +kernel) (by decide +kernel)
theorem kw_co_X7_pitchAt : Cond.code yX7_pitchAt cX7_pitchAt 4 (some .int) ∈ gWs := gWs_of (i := 982) (by decide +kernel) (by decide +kernel)
theorem kw_ml_RL_112 : Cond.methodLink RL 112 yX7_type ∈ gWs := gWs_of (i := 983) (by decide +kernel) (by decide +kernel)
theorem kw_im_X7_type : Cond.instanceMethod yX7_type ∈ gWs := gWs_of (i := 984) (by decide +kernel) (by decide +kernel)
theorem kw_se_X7_type : Cond.selects RX7 yX7_type yX7_type ∈ gWs := gWs_of (i := 985) (by decide +kernel) (by decide +kernel)
theorem kw_co_X7_type : Cond.code yX7_type cX7_type 2 (some .int) ∈ gWs := gWs_of (i := 986) (by decide +kernel) (by decide +kernel)
theorem kw_ml_RL_116 : Cond.methodLink RL 116 yX7_clearText ∈ gWs := gWs_of (i := 987) (by decide +kernel) (by decide +kernel)
theorem kw_im_X7_clearText : Cond.instanceMethod yX7_clearText ∈ gWs := gWs_of (i := 988) (by decide +kernel) (by decide +kernel)
theorem kw_se_X7_clearText : Cond.selects RX7 yX7_clearText yX7_clearText ∈ gWs := gWs_of (i := 989) (by decide +kernel) (by decide +kernel)
theorem kw_co_X7_clearText : Cond.code yX7_clearText cX7_clearText 2 (some .int) ∈ gWs := gWs_of (i := 990) (by decide +kernel) (by decide +kernel)
theorem kw_ml_RL_120 : Cond.methodLink RL 120 yX7_fault ∈ gWs := gWs_of (i := 991) (by decide +kernel) (by decide +kernel)
theorem kw_im_X7_fault : Cond.instanceMethod yX7_fault ∈ gWs := gWs_of (i := 992) (by decide +kernel) (by decide +kernel)
theorem kw_se_X7_fault : Cond.selects RX7 yX7_fault yX7_fault ∈ gWs := gWs_of (i := 993) (by decide +kernel) (by decide +kernel)
theorem kw_co_X7_fault : Cond.code yX7_fault cX7_fault 3 (some .int) ∈ gWs := gWs_of (i := 994) (by decide +kernel) (by decide +kernel)
theorem kw_ml_RX7_168 : Cond.methodLink RX7 168 yX7_reasonOfText ∈ gWs := gWs_of (i := 995) (by decide +kernel) (by decide +kernel)
theorem kw_im_X7_reasonOfText : Cond.instanceMethod yX7_reasonOfText ∈ gWs := gWs_of (i := 997) (by decide +kernel) (by decide +kernel)
theorem kw_co_X7_reasonOfText : Cond.code yX7_reasonOfText cX7_reasonOfText 2 (some .int) ∈ gWs := gWs_of (i := 998) (by decide +kernel) (by decide +kernel)
theorem kw_ml_RX7_161 : Cond.methodLink RX7 161 yX7_isFormed ∈ gWs := gWs_of (i := 999) (by decide +kernel) (by decide +kernel)
theorem kw_im_X7_isFormed : Cond.instanceMethod yX7_isFormed ∈ gWs := gWs_of (i := 1001) (by decide +kernel) (by decide +kernel)
theorem kw_co_X7_isFormed : Cond.code yX7_isFormed cX7_isFormed 1 (some .boolean) ∈ gWs := gWs_of (i := 1002) (by decide +kernel) (by decide +kernel)
theorem kw_ml_RX7_146 : Cond.methodLink RX7 146 yX7_digits ∈ gWs := gWs_of (i := 1003) (by decide +kernel) (by decide +kernel)
theorem kw_im_X7_digits : Cond.instanceMethod yX7_digits ∈ gWs := gWs_of (i := 1005) (by decide +kernel) (by decide +kernel)
theorem kw_co_X7_digits : Cond.code yX7_digits cX7_digits 3 (some .int) ∈ gWs := gWs_of (i := 1006) (by decide +kernel) (by decide +kernel)
theorem kw_ml_RX7_152 : Cond.methodLink RX7 152 yX7_takes ∈ gWs := gWs_of (i := 1007) (by decide +kernel) (by decide +kernel)
theorem kw_im_X7_takes : Cond.instanceMethod yX7_takes ∈ gWs := gWs_of (i := 1009) (by decide +kernel) (by decide +kernel)
theorem kw_co_X7_takes : Cond.code yX7_takes cX7_takes 3 (some .boolean) ∈ gWs := gWs_of (i := 1010) (by decide +kernel) (by decide +kernel)
theorem kw_ml_RX7_165 : Cond.methodLink RX7 165 yX7_isTaken ∈ gWs := gWs_of (i := 1011) (by decide +kernel) (by decide +kernel)
theorem kw_im_X7_isTaken : Cond.instanceMethod yX7_isTaken ∈ gWs := gWs_of (i := 1013) (by decide +kernel) (by decide +kernel)
theorem kw_co_X7_isTaken : Cond.code yX7_isTaken cX7_isTaken 4 (some .boolean) ∈ gWs := gWs_of (i := 1014) (by decide +kernel) (by decide +kernel)
theorem kw_ml_RL_124 : Cond.methodLink RL 124 yX7_enter ∈ gWs := gWs_of (i := 1015) (by decide +kernel) (by decide +kernel)
theorem kw_im_X7_enter : Cond.instanceMethod yX7_enter ∈ gWs := gWs_of (i := 1016) (by decide +kernel) (by decide +kernel)
theorem kw_se_X7_enter : Cond.selects RX7 yX7_enter yX7_enter ∈ gWs := gWs_of (i := 1017) (by decide +kernel) (by decide +kernel)
theorem kw_co_X7_enter : Cond.code yX7_enter cX7_enter 3 (some .int) ∈ gWs := gWs_of (i := 1018) (by decide +kernel) (by decide +kernel)
theorem kw_se_X1_stateAt : Cond.selects RX1 yX1_stateAt yX1_stateAt ∈ gWs := gWs_of (i := 0) (by decide +kernel) (by decide +kernel)
theorem kw_se_X0_hold : Cond.selects RX0 yX0_hold yX0_hold ∈ gWs := gWs_of (i := 1) (by decide +kernel) (by decide +kernel)
theorem kw_se_X0_pitchWith : Cond.selects RX0 yX0_pitchWith yX0_pitchWith ∈ gWs := gWs_of (i := 2) (by decide +kernel) (by decide +kernel)
theorem kw_se_X0_inBowls : Cond.selects RX0 yX0_inBowls yX0_inBowls ∈ gWs := gWs_of (i := 3) (by decide +kernel) (by decide +kernel)
theorem kw_se_X2_phraseOf : Cond.selects RX2 yX2_phraseOf yX2_phraseOf ∈ gWs := gWs_of (i := 4) (by decide +kernel) (by decide +kernel)
theorem kw_se_X2_placeFor : Cond.selects RX2 yX2_placeFor yX2_placeFor ∈ gWs := gWs_of (i := 5) (by decide +kernel) (by decide +kernel)
theorem kw_se_X2_sounded : Cond.selects RX2 yX2_sounded yX2_sounded ∈ gWs := gWs_of (i := 6) (by decide +kernel) (by decide +kernel)
theorem kw_se_X4_dryUntil : Cond.selects RX4 yX4_dryUntil yX4_dryUntil ∈ gWs := gWs_of (i := 7) (by decide +kernel) (by decide +kernel)
theorem kw_se_X4_playNote : Cond.selects RX4 yX4_playNote yX4_playNote ∈ gWs := gWs_of (i := 8) (by decide +kernel) (by decide +kernel)
theorem kw_se_X2_rankOf : Cond.selects RX2 yX2_rankOf yX2_rankOf ∈ gWs := gWs_of (i := 9) (by decide +kernel) (by decide +kernel)
theorem kw_se_X2_errorSize : Cond.selects RX2 yX2_errorSize yX2_errorSize ∈ gWs := gWs_of (i := 10) (by decide +kernel) (by decide +kernel)
theorem kw_se_X6_tryOut : Cond.selects RX6 yX6_tryOut yX6_tryOut ∈ gWs := gWs_of (i := 11) (by decide +kernel) (by decide +kernel)
theorem kw_se_X6_tryText : Cond.selects RX6 yX6_tryText yX6_tryText ∈ gWs := gWs_of (i := 12) (by decide +kernel) (by decide +kernel)
theorem kw_se_X5_reasonAgainstNext : Cond.selects RX5 yX5_reasonAgainstNext yX5_reasonAgainstNext ∈ gWs := gWs_of (i := 13) (by decide +kernel) (by decide +kernel)
theorem kw_se_X5_readNote : Cond.selects RX5 yX5_readNote yX5_readNote ∈ gWs := gWs_of (i := 14) (by decide +kernel) (by decide +kernel)
theorem kw_se_X5_readNumber : Cond.selects RX5 yX5_readNumber yX5_readNumber ∈ gWs := gWs_of (i := 15) (by decide +kernel) (by decide +kernel)
theorem kw_se_X5_readCharacter : Cond.selects RX5 yX5_readCharacter yX5_readCharacter ∈ gWs := gWs_of (i := 16) (by decide +kernel) (by decide +kernel)
theorem kw_se_X7_records : Cond.selects RX7 yX7_records yX7_records ∈ gWs := gWs_of (i := 17) (by decide +kernel) (by decide +kernel)
theorem kw_se_X7_put : Cond.selects RX7 yX7_put yX7_put ∈ gWs := gWs_of (i := 18) (by decide +kernel) (by decide +kernel)
theorem kw_se_X7_isBowl : Cond.selects RX7 yX7_isBowl yX7_isBowl ∈ gWs := gWs_of (i := 19) (by decide +kernel) (by decide +kernel)
theorem kw_se_X7_of : Cond.selects RX7 yX7_of yX7_of ∈ gWs := gWs_of (i := 20) (by decide +kernel) (by decide +kernel)
theorem kw_se_X7_comes : Cond.selects RX7 yX7_comes yX7_comes ∈ gWs := gWs_of (i := 21) (by decide +kernel) (by decide +kernel)
theorem kw_se_X7_loses : Cond.selects RX7 yX7_loses yX7_loses ∈ gWs := gWs_of (i := 22) (by decide +kernel) (by decide +kernel)
theorem kw_se_X7_pitch : Cond.selects RX7 yX7_pitch yX7_pitch ∈ gWs := gWs_of (i := 23) (by decide +kernel) (by decide +kernel)
theorem kw_se_X7_pitchBy : Cond.selects RX7 yX7_pitchBy yX7_pitchBy ∈ gWs := gWs_of (i := 24) (by decide +kernel) (by decide +kernel)
theorem kw_se_X7_sounds : Cond.selects RX7 yX7_sounds yX7_sounds ∈ gWs := gWs_of (i := 25) (by decide +kernel) (by decide +kernel)
theorem kw_se_X7_setting : Cond.selects RX7 yX7_setting yX7_setting ∈ gWs := gWs_of (i := 26) (by decide +kernel) (by decide +kernel)
theorem kw_se_X7_phraseOf : Cond.selects RX7 yX7_phraseOf yX7_phraseOf ∈ gWs := gWs_of (i := 27) (by decide +kernel) (by decide +kernel)
theorem kw_se_X7_begins : Cond.selects RX7 yX7_begins yX7_begins ∈ gWs := gWs_of (i := 28) (by decide +kernel) (by decide +kernel)
theorem kw_se_X7_has : Cond.selects RX7 yX7_has yX7_has ∈ gWs := gWs_of (i := 29) (by decide +kernel) (by decide +kernel)
theorem kw_se_X7_notesThat : Cond.selects RX7 yX7_notesThat yX7_notesThat ∈ gWs := gWs_of (i := 30) (by decide +kernel) (by decide +kernel)
theorem kw_se_X7_water : Cond.selects RX7 yX7_water yX7_water ∈ gWs := gWs_of (i := 31) (by decide +kernel) (by decide +kernel)
theorem kw_se_X7_noteAt : Cond.selects RX7 yX7_noteAt yX7_noteAt ∈ gWs := gWs_of (i := 32) (by decide +kernel) (by decide +kernel)
theorem kw_se_X7_newNote : Cond.selects RX7 yX7_newNote yX7_newNote ∈ gWs := gWs_of (i := 33) (by decide +kernel) (by decide +kernel)
theorem kw_se_X7_lay : Cond.selects RX7 yX7_lay yX7_lay ∈ gWs := gWs_of (i := 34) (by decide +kernel) (by decide +kernel)
theorem kw_se_X7_isNote : Cond.selects RX7 yX7_isNote yX7_isNote ∈ gWs := gWs_of (i := 35) (by decide +kernel) (by decide +kernel)
theorem kw_se_X7_second : Cond.selects RX7 yX7_second yX7_second ∈ gWs := gWs_of (i := 36) (by decide +kernel) (by decide +kernel)
theorem kw_se_X7_dries : Cond.selects RX7 yX7_dries yX7_dries ∈ gWs := gWs_of (i := 37) (by decide +kernel) (by decide +kernel)
theorem kw_se_X7_plays : Cond.selects RX7 yX7_plays yX7_plays ∈ gWs := gWs_of (i := 38) (by decide +kernel) (by decide +kernel)
theorem kw_se_X7_fills : Cond.selects RX7 yX7_fills yX7_fills ∈ gWs := gWs_of (i := 39) (by decide +kernel) (by decide +kernel)
theorem kw_se_X7_hasSounded : Cond.selects RX7 yX7_hasSounded yX7_hasSounded ∈ gWs := gWs_of (i := 40) (by decide +kernel) (by decide +kernel)
theorem kw_se_X7_standAhead : Cond.selects RX7 yX7_standAhead yX7_standAhead ∈ gWs := gWs_of (i := 41) (by decide +kernel) (by decide +kernel)
theorem kw_se_X7_isToCome : Cond.selects RX7 yX7_isToCome yX7_isToCome ∈ gWs := gWs_of (i := 42) (by decide +kernel) (by decide +kernel)
theorem kw_se_X7_laysAside : Cond.selects RX7 yX7_laysAside yX7_laysAside ∈ gWs := gWs_of (i := 43) (by decide +kernel) (by decide +kernel)
theorem kw_se_X7_goesTo : Cond.selects RX7 yX7_goesTo yX7_goesTo ∈ gWs := gWs_of (i := 44) (by decide +kernel) (by decide +kernel)
theorem kw_se_X7_bringsBack : Cond.selects RX7 yX7_bringsBack yX7_bringsBack ∈ gWs := gWs_of (i := 45) (by decide +kernel) (by decide +kernel)
theorem kw_se_X7_reasonOfText : Cond.selects RX7 yX7_reasonOfText yX7_reasonOfText ∈ gWs := gWs_of (i := 46) (by decide +kernel) (by decide +kernel)
theorem kw_se_X7_isFormed : Cond.selects RX7 yX7_isFormed yX7_isFormed ∈ gWs := gWs_of (i := 47) (by decide +kernel) (by decide +kernel)
theorem kw_se_X7_digits : Cond.selects RX7 yX7_digits yX7_digits ∈ gWs := gWs_of (i := 48) (by decide +kernel) (by decide +kernel)
theorem kw_se_X7_takes : Cond.selects RX7 yX7_takes yX7_takes ∈ gWs := gWs_of (i := 49) (by decide +kernel) (by decide +kernel)
theorem kw_se_X7_isTaken : Cond.selects RX7 yX7_isTaken yX7_isTaken ∈ gWs := gWs_of (i := 50) (by decide +kernel) (by decide +kernel)
end
section
theorem dX0_init_0 : decode cX0_init 0 = .ok (.aload_n 0, 1) := by decide +kernel
theorem dX0_init_1 : decode cX0_init 1 = .ok (.invokespecial 3, 3) := by decide +kernel
theorem dX0_init_4 : decode cX0_init 4 = .ok (.aload_n 0, 1) := by decide +kernel
theorem dX0_init_5 : decode cX0_init 5 = .ok (.new 9, 3) := by decide +kernel
theorem dX0_init_8 : decode cX0_init 8 = .ok (.dup, 1) := by decide +kernel
theorem dX0_init_9 : decode cX0_init 9 = .ok (.bipush 10, 2) := by decide +kernel
theorem dX0_init_11 : decode cX0_init 11 = .ok (.invokespecial 11, 3) := by decide +kernel
theorem dX0_init_14 : decode cX0_init 14 = .ok (.putfield 14, 3) := by decide +kernel
theorem dX0_init_17 : decode cX0_init 17 = .ok (.aload_n 0, 1) := by decide +kernel
theorem dX0_init_18 : decode cX0_init 18 = .ok (.new 9, 3) := by decide +kernel
theorem dX0_init_21 : decode cX0_init 21 = .ok (.dup, 1) := by decide +kernel
theorem dX0_init_22 : decode cX0_init 22 = .ok (.bipush 10, 2) := by decide +kernel
theorem dX0_init_24 : decode cX0_init 24 = .ok (.invokespecial 11, 3) := by decide +kernel
theorem dX0_init_27 : decode cX0_init 27 = .ok (.putfield 20, 3) := by decide +kernel
theorem dX0_init_30 : decode cX0_init 30 = .ok (.aload_n 0, 1) := by decide +kernel
theorem dX0_init_31 : decode cX0_init 31 = .ok (.new 9, 3) := by decide +kernel
theorem dX0_init_34 : decode cX0_init 34 = .ok (.dup, 1) := by decide +kernel
theorem dX0_init_35 : decode cX0_init 35 = .ok (.bipush 10, 2) := by decide +kernel
theorem dX0_init_37 : decode cX0_init 37 = .ok (.invokespecial 11, 3) := by decide +kernel
theorem dX0_init_40 : decode cX0_init 40 = .ok (.putfield 23, 3) := by decide +kernel
theorem dX0_init_43 : decode cX0_init 43 = .ok (.aload_n 0, 1) := by decide +kernel
theorem dX0_init_44 : decode cX0_init 44 = .ok (.new 9, 3) := by decide +kernel
theorem dX0_init_47 : decode cX0_init 47 = .ok (.dup, 1) := by decide +kernel
theorem dX0_init_48 : decode cX0_init 48 = .ok (.bipush 10, 2) := by decide +kernel
theorem dX0_init_50 : decode cX0_init 50 = .ok (.invokespecial 11, 3) := by decide +kernel
theorem dX0_init_53 : decode cX0_init 53 = .ok (.putfield 26, 3) := by decide +kernel
theorem dX0_init_56 : decode cX0_init 56 = .ok (.aload_n 0, 1) := by decide +kernel
theorem dX0_init_57 : decode cX0_init 57 = .ok (.new 9, 3) := by decide +kernel
theorem dX0_init_60 : decode cX0_init 60 = .ok (.dup, 1) := by decide +kernel
theorem dX0_init_61 : decode cX0_init 61 = .ok (.bipush 10, 2) := by decide +kernel
theorem dX0_init_63 : decode cX0_init 63 = .ok (.invokespecial 11, 3) := by decide +kernel
theorem dX0_init_66 : decode cX0_init 66 = .ok (.putfield 29, 3) := by decide +kernel
theorem dX0_init_69 : decode cX0_init 69 = .ok (.aload_n 0, 1) := by decide +kernel
theorem dX0_init_70 : decode cX0_init 70 = .ok (.iconst 0, 1) := by decide +kernel
theorem dX0_init_71 : decode cX0_init 71 = .ok (.putfield 32, 3) := by decide +kernel
theorem dX0_init_74 : decode cX0_init 74 = .ok (.aload_n 0, 1) := by decide +kernel
theorem dX0_init_75 : decode cX0_init 75 = .ok (.iconst 0, 1) := by decide +kernel
theorem dX0_init_76 : decode cX0_init 76 = .ok (.putfield 36, 3) := by decide +kernel
theorem dX0_init_79 : decode cX0_init 79 = .ok (.aload_n 0, 1) := by decide +kernel
theorem dX0_init_80 : decode cX0_init 80 = .ok (.iconst 0, 1) := by decide +kernel
theorem dX0_init_81 : decode cX0_init 81 = .ok (.putfield 39, 3) := by decide +kernel
theorem dX0_init_84 : decode cX0_init 84 = .ok (.aload_n 0, 1) := by decide +kernel
theorem dX0_init_85 : decode cX0_init 85 = .ok (.iconst 0, 1) := by decide +kernel
theorem dX0_init_86 : decode cX0_init 86 = .ok (.putfield 42, 3) := by decide +kernel
theorem dX0_init_89 : decode cX0_init 89 = .ok (.aload_n 0, 1) := by decide +kernel
theorem dX0_init_90 : decode cX0_init 90 = .ok (.iconst 0, 1) := by decide +kernel
theorem dX0_init_91 : decode cX0_init 91 = .ok (.putfield 45, 3) := by decide +kernel
theorem dX0_init_94 : decode cX0_init 94 = .ok (.return_, 1) := by decide +kernel
theorem dX0_size_0 : decode cX0_size 0 = .ok (.aload_n 0, 1) := by decide +kernel
theorem dX0_size_1 : decode cX0_size 1 = .ok (.getfield 32, 3) := by decide +kernel
theorem dX0_size_4 : decode cX0_size 4 = .ok (.ireturn, 1) := by decide +kernel
theorem dX0_has_0 : decode cX0_has 0 = .ok (.iload_n 1, 1) := by decide +kernel
theorem dX0_has_1 : decode cX0_has 1 = .ok (.ifCond .lt 15, 3) := by decide +kernel
theorem dX0_has_4 : decode cX0_has 4 = .ok (.iload_n 1, 1) := by decide +kernel
theorem dX0_has_5 : decode cX0_has 5 = .ok (.aload_n 0, 1) := by decide +kernel
theorem dX0_has_6 : decode cX0_has 6 = .ok (.getfield 32, 3) := by decide +kernel
theorem dX0_has_9 : decode cX0_has 9 = .ok (.if_icmp .ge 7, 3) := by decide +kernel
theorem dX0_has_12 : decode cX0_has 12 = .ok (.iconst 1, 1) := by decide +kernel
theorem dX0_has_13 : decode cX0_has 13 = .ok (.goto 4, 3) := by decide +kernel
theorem dX0_has_16 : decode cX0_has 16 = .ok (.iconst 0, 1) := by decide +kernel
theorem dX0_has_17 : decode cX0_has 17 = .ok (.ireturn, 1) := by decide +kernel
theorem dX0_levelIn_0 : decode cX0_levelIn 0 = .ok (.aload_n 0, 1) := by decide +kernel
theorem dX0_levelIn_1 : decode cX0_levelIn 1 = .ok (.getfield 23, 3) := by decide +kernel
theorem dX0_levelIn_4 : decode cX0_levelIn 4 = .ok (.iload_n 1, 1) := by decide +kernel
theorem dX0_levelIn_5 : decode cX0_levelIn 5 = .ok (.invokevirtual 48, 3) := by decide +kernel
theorem dX0_levelIn_8 : decode cX0_levelIn 8 = .ok (.ireturn, 1) := by decide +kernel
theorem dX0_append_0 : decode cX0_append 0 = .ok (.aload_n 0, 1) := by decide +kernel
theorem dX0_append_1 : decode cX0_append 1 = .ok (.getfield 14, 3) := by decide +kernel
theorem dX0_append_4 : decode cX0_append 4 = .ok (.aload_n 0, 1) := by decide +kernel
theorem dX0_append_5 : decode cX0_append 5 = .ok (.getfield 32, 3) := by decide +kernel
theorem dX0_append_8 : decode cX0_append 8 = .ok (.iload_n 1, 1) := by decide +kernel
theorem dX0_append_9 : decode cX0_append 9 = .ok (.invokevirtual 52, 3) := by decide +kernel
theorem dX0_append_12 : decode cX0_append 12 = .ok (.aload_n 0, 1) := by decide +kernel
theorem dX0_append_13 : decode cX0_append 13 = .ok (.getfield 20, 3) := by decide +kernel
theorem dX0_append_16 : decode cX0_append 16 = .ok (.aload_n 0, 1) := by decide +kernel
theorem dX0_append_17 : decode cX0_append 17 = .ok (.getfield 32, 3) := by decide +kernel
theorem dX0_append_20 : decode cX0_append 20 = .ok (.iload_n 2, 1) := by decide +kernel
theorem dX0_append_21 : decode cX0_append 21 = .ok (.invokevirtual 52, 3) := by decide +kernel
theorem dX0_append_24 : decode cX0_append 24 = .ok (.aload_n 0, 1) := by decide +kernel
theorem dX0_append_25 : decode cX0_append 25 = .ok (.getfield 23, 3) := by decide +kernel
theorem dX0_append_28 : decode cX0_append 28 = .ok (.aload_n 0, 1) := by decide +kernel
theorem dX0_append_29 : decode cX0_append 29 = .ok (.getfield 32, 3) := by decide +kernel
theorem dX0_append_32 : decode cX0_append 32 = .ok (.iconst 0, 1) := by decide +kernel
theorem dX0_append_33 : decode cX0_append 33 = .ok (.invokevirtual 52, 3) := by decide +kernel
theorem dX0_append_36 : decode cX0_append 36 = .ok (.aload_n 0, 1) := by decide +kernel
theorem dX0_append_37 : decode cX0_append 37 = .ok (.getfield 26, 3) := by decide +kernel
theorem dX0_append_40 : decode cX0_append 40 = .ok (.aload_n 0, 1) := by decide +kernel
theorem dX0_append_41 : decode cX0_append 41 = .ok (.getfield 32, 3) := by decide +kernel
theorem dX0_append_44 : decode cX0_append 44 = .ok (.iconst 0, 1) := by decide +kernel
theorem dX0_append_45 : decode cX0_append 45 = .ok (.invokevirtual 52, 3) := by decide +kernel
theorem dX0_append_48 : decode cX0_append 48 = .ok (.aload_n 0, 1) := by decide +kernel
theorem dX0_append_49 : decode cX0_append 49 = .ok (.getfield 29, 3) := by decide +kernel
theorem dX0_append_52 : decode cX0_append 52 = .ok (.aload_n 0, 1) := by decide +kernel
theorem dX0_append_53 : decode cX0_append 53 = .ok (.getfield 32, 3) := by decide +kernel
theorem dX0_append_56 : decode cX0_append 56 = .ok (.sipush 1000, 3) := by decide +kernel
theorem dX0_append_59 : decode cX0_append 59 = .ok (.invokevirtual 52, 3) := by decide +kernel
theorem dX0_append_62 : decode cX0_append 62 = .ok (.aload_n 0, 1) := by decide +kernel
theorem dX0_append_63 : decode cX0_append 63 = .ok (.dup, 1) := by decide +kernel
theorem dX0_append_64 : decode cX0_append 64 = .ok (.getfield 32, 3) := by decide +kernel
theorem dX0_append_67 : decode cX0_append 67 = .ok (.iconst 1, 1) := by decide +kernel
theorem dX0_append_68 : decode cX0_append 68 = .ok (.iadd, 1) := by decide +kernel
theorem dX0_append_69 : decode cX0_append 69 = .ok (.putfield 32, 3) := by decide +kernel
theorem dX0_append_72 : decode cX0_append 72 = .ok (.return_, 1) := by decide +kernel
theorem dX0_takeAway_0 : decode cX0_takeAway 0 = .ok (.aload_n 0, 1) := by decide +kernel
theorem dX0_takeAway_1 : decode cX0_takeAway 1 = .ok (.dup, 1) := by decide +kernel
theorem dX0_takeAway_2 : decode cX0_takeAway 2 = .ok (.getfield 45, 3) := by decide +kernel
theorem dX0_takeAway_5 : decode cX0_takeAway 5 = .ok (.aload_n 0, 1) := by decide +kernel
theorem dX0_takeAway_6 : decode cX0_takeAway 6 = .ok (.getfield 23, 3) := by decide +kernel
theorem dX0_takeAway_9 : decode cX0_takeAway 9 = .ok (.iload_n 1, 1) := by decide +kernel
theorem dX0_takeAway_10 : decode cX0_takeAway 10 = .ok (.invokevirtual 48, 3) := by decide +kernel
theorem dX0_takeAway_13 : decode cX0_takeAway 13 = .ok (.iadd, 1) := by decide +kernel
theorem dX0_takeAway_14 : decode cX0_takeAway 14 = .ok (.putfield 45, 3) := by decide +kernel
theorem dX0_takeAway_17 : decode cX0_takeAway 17 = .ok (.aload_n 0, 1) := by decide +kernel
theorem dX0_takeAway_18 : decode cX0_takeAway 18 = .ok (.getfield 14, 3) := by decide +kernel
theorem dX0_takeAway_21 : decode cX0_takeAway 21 = .ok (.iload_n 1, 1) := by decide +kernel
theorem dX0_takeAway_22 : decode cX0_takeAway 22 = .ok (.aload_n 0, 1) := by decide +kernel
theorem dX0_takeAway_23 : decode cX0_takeAway 23 = .ok (.getfield 32, 3) := by decide +kernel
theorem dX0_takeAway_26 : decode cX0_takeAway 26 = .ok (.invokevirtual 56, 3) := by decide +kernel
theorem dX0_takeAway_29 : decode cX0_takeAway 29 = .ok (.aload_n 0, 1) := by decide +kernel
theorem dX0_takeAway_30 : decode cX0_takeAway 30 = .ok (.getfield 20, 3) := by decide +kernel
theorem dX0_takeAway_33 : decode cX0_takeAway 33 = .ok (.iload_n 1, 1) := by decide +kernel
theorem dX0_takeAway_34 : decode cX0_takeAway 34 = .ok (.aload_n 0, 1) := by decide +kernel
theorem dX0_takeAway_35 : decode cX0_takeAway 35 = .ok (.getfield 32, 3) := by decide +kernel
theorem dX0_takeAway_38 : decode cX0_takeAway 38 = .ok (.invokevirtual 56, 3) := by decide +kernel
theorem dX0_takeAway_41 : decode cX0_takeAway 41 = .ok (.aload_n 0, 1) := by decide +kernel
theorem dX0_takeAway_42 : decode cX0_takeAway 42 = .ok (.getfield 23, 3) := by decide +kernel
theorem dX0_takeAway_45 : decode cX0_takeAway 45 = .ok (.iload_n 1, 1) := by decide +kernel
theorem dX0_takeAway_46 : decode cX0_takeAway 46 = .ok (.aload_n 0, 1) := by decide +kernel
theorem dX0_takeAway_47 : decode cX0_takeAway 47 = .ok (.getfield 32, 3) := by decide +kernel
theorem dX0_takeAway_50 : decode cX0_takeAway 50 = .ok (.invokevirtual 56, 3) := by decide +kernel
theorem dX0_takeAway_53 : decode cX0_takeAway 53 = .ok (.aload_n 0, 1) := by decide +kernel
theorem dX0_takeAway_54 : decode cX0_takeAway 54 = .ok (.getfield 26, 3) := by decide +kernel
theorem dX0_takeAway_57 : decode cX0_takeAway 57 = .ok (.iload_n 1, 1) := by decide +kernel
theorem dX0_takeAway_58 : decode cX0_takeAway 58 = .ok (.aload_n 0, 1) := by decide +kernel
theorem dX0_takeAway_59 : decode cX0_takeAway 59 = .ok (.getfield 32, 3) := by decide +kernel
theorem dX0_takeAway_62 : decode cX0_takeAway 62 = .ok (.invokevirtual 56, 3) := by decide +kernel
theorem dX0_takeAway_65 : decode cX0_takeAway 65 = .ok (.aload_n 0, 1) := by decide +kernel
theorem dX0_takeAway_66 : decode cX0_takeAway 66 = .ok (.getfield 29, 3) := by decide +kernel
theorem dX0_takeAway_69 : decode cX0_takeAway 69 = .ok (.iload_n 1, 1) := by decide +kernel
theorem dX0_takeAway_70 : decode cX0_takeAway 70 = .ok (.aload_n 0, 1) := by decide +kernel
theorem dX0_takeAway_71 : decode cX0_takeAway 71 = .ok (.getfield 32, 3) := by decide +kernel
theorem dX0_takeAway_74 : decode cX0_takeAway 74 = .ok (.invokevirtual 56, 3) := by decide +kernel
theorem dX0_takeAway_77 : decode cX0_takeAway 77 = .ok (.aload_n 0, 1) := by decide +kernel
theorem dX0_takeAway_78 : decode cX0_takeAway 78 = .ok (.dup, 1) := by decide +kernel
theorem dX0_takeAway_79 : decode cX0_takeAway 79 = .ok (.getfield 32, 3) := by decide +kernel
theorem dX0_takeAway_82 : decode cX0_takeAway 82 = .ok (.iconst 1, 1) := by decide +kernel
theorem dX0_takeAway_83 : decode cX0_takeAway 83 = .ok (.isub, 1) := by decide +kernel
theorem dX0_takeAway_84 : decode cX0_takeAway 84 = .ok (.putfield 32, 3) := by decide +kernel
theorem dX0_takeAway_87 : decode cX0_takeAway 87 = .ok (.return_, 1) := by decide +kernel
theorem dX0_addWater_0 : decode cX0_addWater 0 = .ok (.aload_n 0, 1) := by decide +kernel
theorem dX0_addWater_1 : decode cX0_addWater 1 = .ok (.dup, 1) := by decide +kernel
theorem dX0_addWater_2 : decode cX0_addWater 2 = .ok (.getfield 36, 3) := by decide +kernel
theorem dX0_addWater_5 : decode cX0_addWater 5 = .ok (.iload_n 2, 1) := by decide +kernel
theorem dX0_addWater_6 : decode cX0_addWater 6 = .ok (.iadd, 1) := by decide +kernel
theorem dX0_addWater_7 : decode cX0_addWater 7 = .ok (.putfield 36, 3) := by decide +kernel
theorem dX0_addWater_10 : decode cX0_addWater 10 = .ok (.aload_n 0, 1) := by decide +kernel
theorem dX0_addWater_11 : decode cX0_addWater 11 = .ok (.iload_n 1, 1) := by decide +kernel
theorem dX0_addWater_12 : decode cX0_addWater 12 = .ok (.aload_n 0, 1) := by decide +kernel
theorem dX0_addWater_13 : decode cX0_addWater 13 = .ok (.getfield 23, 3) := by decide +kernel
theorem dX0_addWater_16 : decode cX0_addWater 16 = .ok (.iload_n 1, 1) := by decide +kernel
theorem dX0_addWater_17 : decode cX0_addWater 17 = .ok (.invokevirtual 48, 3) := by decide +kernel
theorem dX0_addWater_20 : decode cX0_addWater 20 = .ok (.iload_n 2, 1) := by decide +kernel
theorem dX0_addWater_21 : decode cX0_addWater 21 = .ok (.iadd, 1) := by decide +kernel
theorem dX0_addWater_22 : decode cX0_addWater 22 = .ok (.invokevirtual 59, 3) := by decide +kernel
theorem dX0_addWater_25 : decode cX0_addWater 25 = .ok (.return_, 1) := by decide +kernel
theorem dX0_takeWater_0 : decode cX0_takeWater 0 = .ok (.aload_n 0, 1) := by decide +kernel
theorem dX0_takeWater_1 : decode cX0_takeWater 1 = .ok (.dup, 1) := by decide +kernel
theorem dX0_takeWater_2 : decode cX0_takeWater 2 = .ok (.getfield 45, 3) := by decide +kernel
theorem dX0_takeWater_5 : decode cX0_takeWater 5 = .ok (.iload_n 2, 1) := by decide +kernel
theorem dX0_takeWater_6 : decode cX0_takeWater 6 = .ok (.iadd, 1) := by decide +kernel
theorem dX0_takeWater_7 : decode cX0_takeWater 7 = .ok (.putfield 45, 3) := by decide +kernel
theorem dX0_takeWater_10 : decode cX0_takeWater 10 = .ok (.aload_n 0, 1) := by decide +kernel
theorem dX0_takeWater_11 : decode cX0_takeWater 11 = .ok (.getfield 23, 3) := by decide +kernel
theorem dX0_takeWater_14 : decode cX0_takeWater 14 = .ok (.iload_n 1, 1) := by decide +kernel
theorem dX0_takeWater_15 : decode cX0_takeWater 15 = .ok (.iload_n 2, 1) := by decide +kernel
theorem dX0_takeWater_16 : decode cX0_takeWater 16 = .ok (.ineg, 1) := by decide +kernel
theorem dX0_takeWater_17 : decode cX0_takeWater 17 = .ok (.invokevirtual 62, 3) := by decide +kernel
theorem dX0_takeWater_20 : decode cX0_takeWater 20 = .ok (.return_, 1) := by decide +kernel
theorem dX0_moveCrack_0 : decode cX0_moveCrack 0 = .ok (.aload_n 0, 1) := by decide +kernel
theorem dX0_moveCrack_1 : decode cX0_moveCrack 1 = .ok (.getfield 29, 3) := by decide +kernel
theorem dX0_moveCrack_4 : decode cX0_moveCrack 4 = .ok (.iload_n 1, 1) := by decide +kernel
theorem dX0_moveCrack_5 : decode cX0_moveCrack 5 = .ok (.iload_n 2, 1) := by decide +kernel
theorem dX0_moveCrack_6 : decode cX0_moveCrack 6 = .ok (.invokevirtual 52, 3) := by decide +kernel
theorem dX0_moveCrack_9 : decode cX0_moveCrack 9 = .ok (.aload_n 0, 1) := by decide +kernel
theorem dX0_moveCrack_10 : decode cX0_moveCrack 10 = .ok (.iload_n 1, 1) := by decide +kernel
theorem dX0_moveCrack_11 : decode cX0_moveCrack 11 = .ok (.aload_n 0, 1) := by decide +kernel
theorem dX0_moveCrack_12 : decode cX0_moveCrack 12 = .ok (.getfield 23, 3) := by decide +kernel
theorem dX0_moveCrack_15 : decode cX0_moveCrack 15 = .ok (.iload_n 1, 1) := by decide +kernel
theorem dX0_moveCrack_16 : decode cX0_moveCrack 16 = .ok (.invokevirtual 48, 3) := by decide +kernel
theorem dX0_moveCrack_19 : decode cX0_moveCrack 19 = .ok (.invokevirtual 59, 3) := by decide +kernel
theorem dX0_moveCrack_22 : decode cX0_moveCrack 22 = .ok (.return_, 1) := by decide +kernel
theorem dX0_moveMark_0 : decode cX0_moveMark 0 = .ok (.aload_n 0, 1) := by decide +kernel
theorem dX0_moveMark_1 : decode cX0_moveMark 1 = .ok (.getfield 26, 3) := by decide +kernel
theorem dX0_moveMark_4 : decode cX0_moveMark 4 = .ok (.iload_n 1, 1) := by decide +kernel
theorem dX0_moveMark_5 : decode cX0_moveMark 5 = .ok (.invokevirtual 48, 3) := by decide +kernel
theorem dX0_moveMark_8 : decode cX0_moveMark 8 = .ok (.istore_n 3, 1) := by decide +kernel
theorem dX0_moveMark_9 : decode cX0_moveMark 9 = .ok (.aload_n 0, 1) := by decide +kernel
theorem dX0_moveMark_10 : decode cX0_moveMark 10 = .ok (.getfield 26, 3) := by decide +kernel
theorem dX0_moveMark_13 : decode cX0_moveMark 13 = .ok (.iload_n 1, 1) := by decide +kernel
theorem dX0_moveMark_14 : decode cX0_moveMark 14 = .ok (.iload_n 2, 1) := by decide +kernel
theorem dX0_moveMark_15 : decode cX0_moveMark 15 = .ok (.invokevirtual 52, 3) := by decide +kernel
theorem dX0_moveMark_18 : decode cX0_moveMark 18 = .ok (.iload_n 3, 1) := by decide +kernel
theorem dX0_moveMark_19 : decode cX0_moveMark 19 = .ok (.ireturn, 1) := by decide +kernel
theorem dX0_hold_0 : decode cX0_hold 0 = .ok (.iload_n 2, 1) := by decide +kernel
theorem dX0_hold_1 : decode cX0_hold 1 = .ok (.aload_n 0, 1) := by decide +kernel
theorem dX0_hold_2 : decode cX0_hold 2 = .ok (.getfield 29, 3) := by decide +kernel
theorem dX0_hold_5 : decode cX0_hold 5 = .ok (.iload_n 1, 1) := by decide +kernel
theorem dX0_hold_6 : decode cX0_hold 6 = .ok (.invokevirtual 48, 3) := by decide +kernel
theorem dX0_hold_9 : decode cX0_hold 9 = .ok (.invokestatic 65, 3) := by decide +kernel
theorem dX0_hold_12 : decode cX0_hold 12 = .ok (.istore_n 3, 1) := by decide +kernel
theorem dX0_hold_13 : decode cX0_hold 13 = .ok (.aload_n 0, 1) := by decide +kernel
theorem dX0_hold_14 : decode cX0_hold 14 = .ok (.dup, 1) := by decide +kernel
theorem dX0_hold_15 : decode cX0_hold 15 = .ok (.getfield 42, 3) := by decide +kernel
theorem dX0_hold_18 : decode cX0_hold 18 = .ok (.iload_n 2, 1) := by decide +kernel
theorem dX0_hold_19 : decode cX0_hold 19 = .ok (.iload_n 3, 1) := by decide +kernel
theorem dX0_hold_20 : decode cX0_hold 20 = .ok (.isub, 1) := by decide +kernel
theorem dX0_hold_21 : decode cX0_hold 21 = .ok (.iadd, 1) := by decide +kernel
theorem dX0_hold_22 : decode cX0_hold 22 = .ok (.putfield 42, 3) := by decide +kernel
theorem dX0_hold_25 : decode cX0_hold 25 = .ok (.aload_n 0, 1) := by decide +kernel
theorem dX0_hold_26 : decode cX0_hold 26 = .ok (.getfield 23, 3) := by decide +kernel
theorem dX0_hold_29 : decode cX0_hold 29 = .ok (.iload_n 1, 1) := by decide +kernel
theorem dX0_hold_30 : decode cX0_hold 30 = .ok (.iload_n 3, 1) := by decide +kernel
theorem dX0_hold_31 : decode cX0_hold 31 = .ok (.invokevirtual 52, 3) := by decide +kernel
theorem dX0_hold_34 : decode cX0_hold 34 = .ok (.return_, 1) := by decide +kernel
theorem dX0_fillToMarks_0 : decode cX0_fillToMarks 0 = .ok (.iconst 0, 1) := by decide +kernel
theorem dX0_fillToMarks_1 : decode cX0_fillToMarks 1 = .ok (.istore_n 1, 1) := by decide +kernel
theorem dX0_fillToMarks_2 : decode cX0_fillToMarks 2 = .ok (.iload_n 1, 1) := by decide +kernel
theorem dX0_fillToMarks_3 : decode cX0_fillToMarks 3 = .ok (.aload_n 0, 1) := by decide +kernel
theorem dX0_fillToMarks_4 : decode cX0_fillToMarks 4 = .ok (.getfield 32, 3) := by decide +kernel
theorem dX0_fillToMarks_7 : decode cX0_fillToMarks 7 = .ok (.if_icmp .ge 54, 3) := by decide +kernel
theorem dX0_fillToMarks_10 : decode cX0_fillToMarks 10 = .ok (.aload_n 0, 1) := by decide +kernel
theorem dX0_fillToMarks_11 : decode cX0_fillToMarks 11 = .ok (.getfield 26, 3) := by decide +kernel
theorem dX0_fillToMarks_14 : decode cX0_fillToMarks 14 = .ok (.iload_n 1, 1) := by decide +kernel
theorem dX0_fillToMarks_15 : decode cX0_fillToMarks 15 = .ok (.invokevirtual 48, 3) := by decide +kernel
theorem dX0_fillToMarks_18 : decode cX0_fillToMarks 18 = .ok (.aload_n 0, 1) := by decide +kernel
theorem dX0_fillToMarks_19 : decode cX0_fillToMarks 19 = .ok (.getfield 23, 3) := by decide +kernel
theorem dX0_fillToMarks_22 : decode cX0_fillToMarks 22 = .ok (.iload_n 1, 1) := by decide +kernel
theorem dX0_fillToMarks_23 : decode cX0_fillToMarks 23 = .ok (.invokevirtual 48, 3) := by decide +kernel
theorem dX0_fillToMarks_26 : decode cX0_fillToMarks 26 = .ok (.isub, 1) := by decide +kernel
theorem dX0_fillToMarks_27 : decode cX0_fillToMarks 27 = .ok (.istore_n 2, 1) := by decide +kernel
theorem dX0_fillToMarks_28 : decode cX0_fillToMarks 28 = .ok (.iload_n 2, 1) := by decide +kernel
theorem dX0_fillToMarks_29 : decode cX0_fillToMarks 29 = .ok (.ifCond .le 26, 3) := by decide +kernel
theorem dX0_fillToMarks_32 : decode cX0_fillToMarks 32 = .ok (.aload_n 0, 1) := by decide +kernel
theorem dX0_fillToMarks_33 : decode cX0_fillToMarks 33 = .ok (.dup, 1) := by decide +kernel
theorem dX0_fillToMarks_34 : decode cX0_fillToMarks 34 = .ok (.getfield 36, 3) := by decide +kernel
theorem dX0_fillToMarks_37 : decode cX0_fillToMarks 37 = .ok (.iload_n 2, 1) := by decide +kernel
theorem dX0_fillToMarks_38 : decode cX0_fillToMarks 38 = .ok (.iadd, 1) := by decide +kernel
theorem dX0_fillToMarks_39 : decode cX0_fillToMarks 39 = .ok (.putfield 36, 3) := by decide +kernel
theorem dX0_fillToMarks_42 : decode cX0_fillToMarks 42 = .ok (.aload_n 0, 1) := by decide +kernel
theorem dX0_fillToMarks_43 : decode cX0_fillToMarks 43 = .ok (.iload_n 1, 1) := by decide +kernel
theorem dX0_fillToMarks_44 : decode cX0_fillToMarks 44 = .ok (.aload_n 0, 1) := by decide +kernel
theorem dX0_fillToMarks_45 : decode cX0_fillToMarks 45 = .ok (.getfield 26, 3) := by decide +kernel
theorem dX0_fillToMarks_48 : decode cX0_fillToMarks 48 = .ok (.iload_n 1, 1) := by decide +kernel
theorem dX0_fillToMarks_49 : decode cX0_fillToMarks 49 = .ok (.invokevirtual 48, 3) := by decide +kernel
theorem dX0_fillToMarks_52 : decode cX0_fillToMarks 52 = .ok (.invokevirtual 59, 3) := by decide +kernel
theorem dX0_fillToMarks_55 : decode cX0_fillToMarks 55 = .ok (.iinc 1 1, 3) := by decide +kernel
theorem dX0_fillToMarks_58 : decode cX0_fillToMarks 58 = .ok (.goto (-56), 3) := by decide +kernel
theorem dX0_fillToMarks_61 : decode cX0_fillToMarks 61 = .ok (.return_, 1) := by decide +kernel
theorem dX0_dry_0 : decode cX0_dry 0 = .ok (.iconst 0, 1) := by decide +kernel
theorem dX0_dry_1 : decode cX0_dry 1 = .ok (.istore_n 2, 1) := by decide +kernel
theorem dX0_dry_2 : decode cX0_dry 2 = .ok (.iload_n 2, 1) := by decide +kernel
theorem dX0_dry_3 : decode cX0_dry 3 = .ok (.aload_n 0, 1) := by decide +kernel
theorem dX0_dry_4 : decode cX0_dry 4 = .ok (.getfield 32, 3) := by decide +kernel
theorem dX0_dry_7 : decode cX0_dry 7 = .ok (.if_icmp .ge 42, 3) := by decide +kernel
theorem dX0_dry_10 : decode cX0_dry 10 = .ok (.aload_n 0, 1) := by decide +kernel
theorem dX0_dry_11 : decode cX0_dry 11 = .ok (.getfield 23, 3) := by decide +kernel
theorem dX0_dry_14 : decode cX0_dry 14 = .ok (.iload_n 2, 1) := by decide +kernel
theorem dX0_dry_15 : decode cX0_dry 15 = .ok (.invokevirtual 48, 3) := by decide +kernel
theorem dX0_dry_18 : decode cX0_dry 18 = .ok (.iload_n 1, 1) := by decide +kernel
theorem dX0_dry_19 : decode cX0_dry 19 = .ok (.invokestatic 65, 3) := by decide +kernel
theorem dX0_dry_22 : decode cX0_dry 22 = .ok (.istore_n 3, 1) := by decide +kernel
theorem dX0_dry_23 : decode cX0_dry 23 = .ok (.aload_n 0, 1) := by decide +kernel
theorem dX0_dry_24 : decode cX0_dry 24 = .ok (.dup, 1) := by decide +kernel
theorem dX0_dry_25 : decode cX0_dry 25 = .ok (.getfield 39, 3) := by decide +kernel
theorem dX0_dry_28 : decode cX0_dry 28 = .ok (.iload_n 3, 1) := by decide +kernel
theorem dX0_dry_29 : decode cX0_dry 29 = .ok (.iadd, 1) := by decide +kernel
theorem dX0_dry_30 : decode cX0_dry 30 = .ok (.putfield 39, 3) := by decide +kernel
theorem dX0_dry_33 : decode cX0_dry 33 = .ok (.aload_n 0, 1) := by decide +kernel
theorem dX0_dry_34 : decode cX0_dry 34 = .ok (.getfield 23, 3) := by decide +kernel
theorem dX0_dry_37 : decode cX0_dry 37 = .ok (.iload_n 2, 1) := by decide +kernel
theorem dX0_dry_38 : decode cX0_dry 38 = .ok (.iload_n 3, 1) := by decide +kernel
theorem dX0_dry_39 : decode cX0_dry 39 = .ok (.ineg, 1) := by decide +kernel
theorem dX0_dry_40 : decode cX0_dry 40 = .ok (.invokevirtual 62, 3) := by decide +kernel
theorem dX0_dry_43 : decode cX0_dry 43 = .ok (.iinc 2 1, 3) := by decide +kernel
theorem dX0_dry_46 : decode cX0_dry 46 = .ok (.goto (-44), 3) := by decide +kernel
theorem dX0_dry_49 : decode cX0_dry 49 = .ok (.return_, 1) := by decide +kernel
theorem dX0_property_0 : decode cX0_property 0 = .ok (.iload_n 2, 1) := by decide +kernel
theorem dX0_property_1 : decode cX0_property 1 = .ok (.tableswitch 119 0 6 #[43, 52, 61, 70, 79, 88, 94], 43) := by decide +kernel
theorem dX0_property_44 : decode cX0_property 44 = .ok (.aload_n 0, 1) := by decide +kernel
theorem dX0_property_45 : decode cX0_property 45 = .ok (.getfield 14, 3) := by decide +kernel
theorem dX0_property_48 : decode cX0_property 48 = .ok (.iload_n 1, 1) := by decide +kernel
theorem dX0_property_49 : decode cX0_property 49 = .ok (.invokevirtual 48, 3) := by decide +kernel
theorem dX0_property_52 : decode cX0_property 52 = .ok (.ireturn, 1) := by decide +kernel
theorem dX0_property_53 : decode cX0_property 53 = .ok (.aload_n 0, 1) := by decide +kernel
theorem dX0_property_54 : decode cX0_property 54 = .ok (.getfield 20, 3) := by decide +kernel
theorem dX0_property_57 : decode cX0_property 57 = .ok (.iload_n 1, 1) := by decide +kernel
theorem dX0_property_58 : decode cX0_property 58 = .ok (.invokevirtual 48, 3) := by decide +kernel
theorem dX0_property_61 : decode cX0_property 61 = .ok (.ireturn, 1) := by decide +kernel
theorem dX0_property_62 : decode cX0_property 62 = .ok (.aload_n 0, 1) := by decide +kernel
theorem dX0_property_63 : decode cX0_property 63 = .ok (.getfield 23, 3) := by decide +kernel
theorem dX0_property_66 : decode cX0_property 66 = .ok (.iload_n 1, 1) := by decide +kernel
theorem dX0_property_67 : decode cX0_property 67 = .ok (.invokevirtual 48, 3) := by decide +kernel
theorem dX0_property_70 : decode cX0_property 70 = .ok (.ireturn, 1) := by decide +kernel
theorem dX0_property_71 : decode cX0_property 71 = .ok (.aload_n 0, 1) := by decide +kernel
theorem dX0_property_72 : decode cX0_property 72 = .ok (.getfield 26, 3) := by decide +kernel
theorem dX0_property_75 : decode cX0_property 75 = .ok (.iload_n 1, 1) := by decide +kernel
theorem dX0_property_76 : decode cX0_property 76 = .ok (.invokevirtual 48, 3) := by decide +kernel
theorem dX0_property_79 : decode cX0_property 79 = .ok (.ireturn, 1) := by decide +kernel
theorem dX0_property_80 : decode cX0_property 80 = .ok (.aload_n 0, 1) := by decide +kernel
theorem dX0_property_81 : decode cX0_property 81 = .ok (.getfield 29, 3) := by decide +kernel
theorem dX0_property_84 : decode cX0_property 84 = .ok (.iload_n 1, 1) := by decide +kernel
theorem dX0_property_85 : decode cX0_property 85 = .ok (.invokevirtual 48, 3) := by decide +kernel
theorem dX0_property_88 : decode cX0_property 88 = .ok (.ireturn, 1) := by decide +kernel
theorem dX0_property_89 : decode cX0_property 89 = .ok (.aload_n 0, 1) := by decide +kernel
theorem dX0_property_90 : decode cX0_property 90 = .ok (.iload_n 1, 1) := by decide +kernel
theorem dX0_property_91 : decode cX0_property 91 = .ok (.invokevirtual 71, 3) := by decide +kernel
theorem dX0_property_94 : decode cX0_property 94 = .ok (.ireturn, 1) := by decide +kernel
theorem dX0_property_95 : decode cX0_property 95 = .ok (.aload_n 0, 1) := by decide +kernel
theorem dX0_property_96 : decode cX0_property 96 = .ok (.iload_n 1, 1) := by decide +kernel
theorem dX0_property_97 : decode cX0_property 97 = .ok (.aload_n 0, 1) := by decide +kernel
theorem dX0_property_98 : decode cX0_property 98 = .ok (.getfield 26, 3) := by decide +kernel
theorem dX0_property_101 : decode cX0_property 101 = .ok (.iload_n 1, 1) := by decide +kernel
theorem dX0_property_102 : decode cX0_property 102 = .ok (.invokevirtual 48, 3) := by decide +kernel
theorem dX0_property_105 : decode cX0_property 105 = .ok (.aload_n 0, 1) := by decide +kernel
theorem dX0_property_106 : decode cX0_property 106 = .ok (.getfield 29, 3) := by decide +kernel
theorem dX0_property_109 : decode cX0_property 109 = .ok (.iload_n 1, 1) := by decide +kernel
theorem dX0_property_110 : decode cX0_property 110 = .ok (.invokevirtual 48, 3) := by decide +kernel
theorem dX0_property_113 : decode cX0_property 113 = .ok (.invokestatic 65, 3) := by decide +kernel
theorem dX0_property_116 : decode cX0_property 116 = .ok (.invokevirtual 74, 3) := by decide +kernel
theorem dX0_property_119 : decode cX0_property 119 = .ok (.ireturn, 1) := by decide +kernel
theorem dX0_property_120 : decode cX0_property 120 = .ok (.ldc 77, 2) := by decide +kernel
theorem dX0_property_122 : decode cX0_property 122 = .ok (.ireturn, 1) := by decide +kernel
theorem dX0_pitchOf_0 : decode cX0_pitchOf 0 = .ok (.aload_n 0, 1) := by decide +kernel
theorem dX0_pitchOf_1 : decode cX0_pitchOf 1 = .ok (.iload_n 1, 1) := by decide +kernel
theorem dX0_pitchOf_2 : decode cX0_pitchOf 2 = .ok (.aload_n 0, 1) := by decide +kernel
theorem dX0_pitchOf_3 : decode cX0_pitchOf 3 = .ok (.getfield 23, 3) := by decide +kernel
theorem dX0_pitchOf_6 : decode cX0_pitchOf 6 = .ok (.iload_n 1, 1) := by decide +kernel
theorem dX0_pitchOf_7 : decode cX0_pitchOf 7 = .ok (.invokevirtual 48, 3) := by decide +kernel
theorem dX0_pitchOf_10 : decode cX0_pitchOf 10 = .ok (.invokevirtual 74, 3) := by decide +kernel
theorem dX0_pitchOf_13 : decode cX0_pitchOf 13 = .ok (.ireturn, 1) := by decide +kernel
theorem dX0_pitchWith_0 : decode cX0_pitchWith 0 = .ok (.aload_n 0, 1) := by decide +kernel
theorem dX0_pitchWith_1 : decode cX0_pitchWith 1 = .ok (.getfield 20, 3) := by decide +kernel
theorem dX0_pitchWith_4 : decode cX0_pitchWith 4 = .ok (.iload_n 1, 1) := by decide +kernel
theorem dX0_pitchWith_5 : decode cX0_pitchWith 5 = .ok (.invokevirtual 48, 3) := by decide +kernel
theorem dX0_pitchWith_8 : decode cX0_pitchWith 8 = .ok (.i2l, 1) := by decide +kernel
theorem dX0_pitchWith_9 : decode cX0_pitchWith 9 = .ok (.iload_n 2, 1) := by decide +kernel
theorem dX0_pitchWith_10 : decode cX0_pitchWith 10 = .ok (.i2l, 1) := by decide +kernel
theorem dX0_pitchWith_11 : decode cX0_pitchWith 11 = .ok (.lmul, 1) := by decide +kernel
theorem dX0_pitchWith_12 : decode cX0_pitchWith 12 = .ok (.iload_n 2, 1) := by decide +kernel
theorem dX0_pitchWith_13 : decode cX0_pitchWith 13 = .ok (.i2l, 1) := by decide +kernel
theorem dX0_pitchWith_14 : decode cX0_pitchWith 14 = .ok (.lmul, 1) := by decide +kernel
theorem dX0_pitchWith_15 : decode cX0_pitchWith 15 = .ok (.ldc2_w 78, 3) := by decide +kernel
theorem dX0_pitchWith_18 : decode cX0_pitchWith 18 = .ok (.ldiv, 1) := by decide +kernel
theorem dX0_pitchWith_19 : decode cX0_pitchWith 19 = .ok (.lstore_n 3, 1) := by decide +kernel
theorem dX0_pitchWith_20 : decode cX0_pitchWith 20 = .ok (.aload_n 0, 1) := by decide +kernel
theorem dX0_pitchWith_21 : decode cX0_pitchWith 21 = .ok (.getfield 14, 3) := by decide +kernel
theorem dX0_pitchWith_24 : decode cX0_pitchWith 24 = .ok (.iload_n 1, 1) := by decide +kernel
theorem dX0_pitchWith_25 : decode cX0_pitchWith 25 = .ok (.invokevirtual 48, 3) := by decide +kernel
theorem dX0_pitchWith_28 : decode cX0_pitchWith 28 = .ok (.lload_n 3, 1) := by decide +kernel
theorem dX0_pitchWith_29 : decode cX0_pitchWith 29 = .ok (.l2i, 1) := by decide +kernel
theorem dX0_pitchWith_30 : decode cX0_pitchWith 30 = .ok (.isub, 1) := by decide +kernel
theorem dX0_pitchWith_31 : decode cX0_pitchWith 31 = .ok (.ireturn, 1) := by decide +kernel
theorem dX0_nearestLevel_0 : decode cX0_nearestLevel 0 = .ok (.iconst 0, 1) := by decide +kernel
theorem dX0_nearestLevel_1 : decode cX0_nearestLevel 1 = .ok (.istore_n 3, 1) := by decide +kernel
theorem dX0_nearestLevel_2 : decode cX0_nearestLevel 2 = .ok (.aload_n 0, 1) := by decide +kernel
theorem dX0_nearestLevel_3 : decode cX0_nearestLevel 3 = .ok (.iload_n 1, 1) := by decide +kernel
theorem dX0_nearestLevel_4 : decode cX0_nearestLevel 4 = .ok (.iload_n 3, 1) := by decide +kernel
theorem dX0_nearestLevel_5 : decode cX0_nearestLevel 5 = .ok (.invokevirtual 74, 3) := by decide +kernel
theorem dX0_nearestLevel_8 : decode cX0_nearestLevel 8 = .ok (.iload_n 2, 1) := by decide +kernel
theorem dX0_nearestLevel_9 : decode cX0_nearestLevel 9 = .ok (.isub, 1) := by decide +kernel
theorem dX0_nearestLevel_10 : decode cX0_nearestLevel 10 = .ok (.invokestatic 80, 3) := by decide +kernel
theorem dX0_nearestLevel_13 : decode cX0_nearestLevel 13 = .ok (.istore 4, 2) := by decide +kernel
theorem dX0_nearestLevel_15 : decode cX0_nearestLevel 15 = .ok (.aload_n 0, 1) := by decide +kernel
theorem dX0_nearestLevel_16 : decode cX0_nearestLevel 16 = .ok (.getfield 29, 3) := by decide +kernel
theorem dX0_nearestLevel_19 : decode cX0_nearestLevel 19 = .ok (.iload_n 1, 1) := by decide +kernel
theorem dX0_nearestLevel_20 : decode cX0_nearestLevel 20 = .ok (.invokevirtual 48, 3) := by decide +kernel
theorem dX0_nearestLevel_23 : decode cX0_nearestLevel 23 = .ok (.istore 5, 2) := by decide +kernel
theorem dX0_nearestLevel_25 : decode cX0_nearestLevel 25 = .ok (.iconst 1, 1) := by decide +kernel
theorem dX0_nearestLevel_26 : decode cX0_nearestLevel 26 = .ok (.istore 6, 2) := by decide +kernel
theorem dX0_nearestLevel_28 : decode cX0_nearestLevel 28 = .ok (.iload 6, 2) := by decide +kernel
theorem dX0_nearestLevel_30 : decode cX0_nearestLevel 30 = .ok (.iload 5, 2) := by decide +kernel
theorem dX0_nearestLevel_32 : decode cX0_nearestLevel 32 = .ok (.if_icmp .gt 37, 3) := by decide +kernel
theorem dX0_nearestLevel_35 : decode cX0_nearestLevel 35 = .ok (.aload_n 0, 1) := by decide +kernel
theorem dX0_nearestLevel_36 : decode cX0_nearestLevel 36 = .ok (.iload_n 1, 1) := by decide +kernel
theorem dX0_nearestLevel_37 : decode cX0_nearestLevel 37 = .ok (.iload 6, 2) := by decide +kernel
theorem dX0_nearestLevel_39 : decode cX0_nearestLevel 39 = .ok (.invokevirtual 74, 3) := by decide +kernel
theorem dX0_nearestLevel_42 : decode cX0_nearestLevel 42 = .ok (.iload_n 2, 1) := by decide +kernel
theorem dX0_nearestLevel_43 : decode cX0_nearestLevel 43 = .ok (.isub, 1) := by decide +kernel
theorem dX0_nearestLevel_44 : decode cX0_nearestLevel 44 = .ok (.invokestatic 80, 3) := by decide +kernel
theorem dX0_nearestLevel_47 : decode cX0_nearestLevel 47 = .ok (.istore 7, 2) := by decide +kernel
theorem dX0_nearestLevel_49 : decode cX0_nearestLevel 49 = .ok (.iload 7, 2) := by decide +kernel
theorem dX0_nearestLevel_51 : decode cX0_nearestLevel 51 = .ok (.iload 4, 2) := by decide +kernel
theorem dX0_nearestLevel_53 : decode cX0_nearestLevel 53 = .ok (.if_icmp .ge 10, 3) := by decide +kernel
theorem dX0_nearestLevel_56 : decode cX0_nearestLevel 56 = .ok (.iload 6, 2) := by decide +kernel
theorem dX0_nearestLevel_58 : decode cX0_nearestLevel 58 = .ok (.istore_n 3, 1) := by decide +kernel
theorem dX0_nearestLevel_59 : decode cX0_nearestLevel 59 = .ok (.iload 7, 2) := by decide +kernel
theorem dX0_nearestLevel_61 : decode cX0_nearestLevel 61 = .ok (.istore 4, 2) := by decide +kernel
theorem dX0_nearestLevel_63 : decode cX0_nearestLevel 63 = .ok (.iinc 6 1, 3) := by decide +kernel
theorem dX0_nearestLevel_66 : decode cX0_nearestLevel 66 = .ok (.goto (-38), 3) := by decide +kernel
theorem dX0_nearestLevel_69 : decode cX0_nearestLevel 69 = .ok (.iload_n 3, 1) := by decide +kernel
theorem dX0_nearestLevel_70 : decode cX0_nearestLevel 70 = .ok (.ireturn, 1) := by decide +kernel
theorem dX0_nearestBowl_0 : decode cX0_nearestBowl 0 = .ok (.iconst (-1), 1) := by decide +kernel
theorem dX0_nearestBowl_1 : decode cX0_nearestBowl 1 = .ok (.istore_n 2, 1) := by decide +kernel
theorem dX0_nearestBowl_2 : decode cX0_nearestBowl 2 = .ok (.iconst 0, 1) := by decide +kernel
theorem dX0_nearestBowl_3 : decode cX0_nearestBowl 3 = .ok (.istore_n 3, 1) := by decide +kernel
theorem dX0_nearestBowl_4 : decode cX0_nearestBowl 4 = .ok (.iconst 0, 1) := by decide +kernel
theorem dX0_nearestBowl_5 : decode cX0_nearestBowl 5 = .ok (.istore 4, 2) := by decide +kernel
theorem dX0_nearestBowl_7 : decode cX0_nearestBowl 7 = .ok (.iload 4, 2) := by decide +kernel
theorem dX0_nearestBowl_9 : decode cX0_nearestBowl 9 = .ok (.aload_n 0, 1) := by decide +kernel
theorem dX0_nearestBowl_10 : decode cX0_nearestBowl 10 = .ok (.getfield 32, 3) := by decide +kernel
theorem dX0_nearestBowl_13 : decode cX0_nearestBowl 13 = .ok (.if_icmp .ge 48, 3) := by decide +kernel
theorem dX0_nearestBowl_16 : decode cX0_nearestBowl 16 = .ok (.aload_n 0, 1) := by decide +kernel
theorem dX0_nearestBowl_17 : decode cX0_nearestBowl 17 = .ok (.iload 4, 2) := by decide +kernel
theorem dX0_nearestBowl_19 : decode cX0_nearestBowl 19 = .ok (.aload_n 0, 1) := by decide +kernel
theorem dX0_nearestBowl_20 : decode cX0_nearestBowl 20 = .ok (.getfield 23, 3) := by decide +kernel
theorem dX0_nearestBowl_23 : decode cX0_nearestBowl 23 = .ok (.iload 4, 2) := by decide +kernel
theorem dX0_nearestBowl_25 : decode cX0_nearestBowl 25 = .ok (.invokevirtual 48, 3) := by decide +kernel
theorem dX0_nearestBowl_28 : decode cX0_nearestBowl 28 = .ok (.invokevirtual 74, 3) := by decide +kernel
theorem dX0_nearestBowl_31 : decode cX0_nearestBowl 31 = .ok (.iload_n 1, 1) := by decide +kernel
theorem dX0_nearestBowl_32 : decode cX0_nearestBowl 32 = .ok (.isub, 1) := by decide +kernel
theorem dX0_nearestBowl_33 : decode cX0_nearestBowl 33 = .ok (.invokestatic 80, 3) := by decide +kernel
theorem dX0_nearestBowl_36 : decode cX0_nearestBowl 36 = .ok (.istore 5, 2) := by decide +kernel
theorem dX0_nearestBowl_38 : decode cX0_nearestBowl 38 = .ok (.iload_n 2, 1) := by decide +kernel
theorem dX0_nearestBowl_39 : decode cX0_nearestBowl 39 = .ok (.iconst (-1), 1) := by decide +kernel
theorem dX0_nearestBowl_40 : decode cX0_nearestBowl 40 = .ok (.if_icmp .eq 9, 3) := by decide +kernel
theorem dX0_nearestBowl_43 : decode cX0_nearestBowl 43 = .ok (.iload 5, 2) := by decide +kernel
theorem dX0_nearestBowl_45 : decode cX0_nearestBowl 45 = .ok (.iload_n 3, 1) := by decide +kernel
theorem dX0_nearestBowl_46 : decode cX0_nearestBowl 46 = .ok (.if_icmp .ge 9, 3) := by decide +kernel
theorem dX0_nearestBowl_49 : decode cX0_nearestBowl 49 = .ok (.iload 4, 2) := by decide +kernel
theorem dX0_nearestBowl_51 : decode cX0_nearestBowl 51 = .ok (.istore_n 2, 1) := by decide +kernel
theorem dX0_nearestBowl_52 : decode cX0_nearestBowl 52 = .ok (.iload 5, 2) := by decide +kernel
theorem dX0_nearestBowl_54 : decode cX0_nearestBowl 54 = .ok (.istore_n 3, 1) := by decide +kernel
theorem dX0_nearestBowl_55 : decode cX0_nearestBowl 55 = .ok (.iinc 4 1, 3) := by decide +kernel
theorem dX0_nearestBowl_58 : decode cX0_nearestBowl 58 = .ok (.goto (-51), 3) := by decide +kernel
theorem dX0_nearestBowl_61 : decode cX0_nearestBowl 61 = .ok (.iload_n 2, 1) := by decide +kernel
theorem dX0_nearestBowl_62 : decode cX0_nearestBowl 62 = .ok (.ireturn, 1) := by decide +kernel
theorem dX0_account_0 : decode cX0_account 0 = .ok (.iload_n 1, 1) := by decide +kernel
theorem dX0_account_1 : decode cX0_account 1 = .ok (.tableswitch 60 0 4 #[35, 40, 45, 50, 55], 35) := by decide +kernel
theorem dX0_account_36 : decode cX0_account 36 = .ok (.aload_n 0, 1) := by decide +kernel
theorem dX0_account_37 : decode cX0_account 37 = .ok (.getfield 36, 3) := by decide +kernel
theorem dX0_account_40 : decode cX0_account 40 = .ok (.ireturn, 1) := by decide +kernel
theorem dX0_account_41 : decode cX0_account 41 = .ok (.aload_n 0, 1) := by decide +kernel
theorem dX0_account_42 : decode cX0_account 42 = .ok (.invokevirtual 83, 3) := by decide +kernel
theorem dX0_account_45 : decode cX0_account 45 = .ok (.ireturn, 1) := by decide +kernel
theorem dX0_account_46 : decode cX0_account 46 = .ok (.aload_n 0, 1) := by decide +kernel
theorem dX0_account_47 : decode cX0_account 47 = .ok (.getfield 39, 3) := by decide +kernel
theorem dX0_account_50 : decode cX0_account 50 = .ok (.ireturn, 1) := by decide +kernel
theorem dX0_account_51 : decode cX0_account 51 = .ok (.aload_n 0, 1) := by decide +kernel
theorem dX0_account_52 : decode cX0_account 52 = .ok (.getfield 42, 3) := by decide +kernel
theorem dX0_account_55 : decode cX0_account 55 = .ok (.ireturn, 1) := by decide +kernel
theorem dX0_account_56 : decode cX0_account 56 = .ok (.aload_n 0, 1) := by decide +kernel
theorem dX0_account_57 : decode cX0_account 57 = .ok (.getfield 45, 3) := by decide +kernel
theorem dX0_account_60 : decode cX0_account 60 = .ok (.ireturn, 1) := by decide +kernel
theorem dX0_account_61 : decode cX0_account 61 = .ok (.ldc 77, 2) := by decide +kernel
theorem dX0_account_63 : decode cX0_account 63 = .ok (.ireturn, 1) := by decide +kernel
theorem dX0_inBowls_0 : decode cX0_inBowls 0 = .ok (.iconst 0, 1) := by decide +kernel
theorem dX0_inBowls_1 : decode cX0_inBowls 1 = .ok (.istore_n 1, 1) := by decide +kernel
theorem dX0_inBowls_2 : decode cX0_inBowls 2 = .ok (.iconst 0, 1) := by decide +kernel
theorem dX0_inBowls_3 : decode cX0_inBowls 3 = .ok (.istore_n 2, 1) := by decide +kernel
theorem dX0_inBowls_4 : decode cX0_inBowls 4 = .ok (.iload_n 2, 1) := by decide +kernel
theorem dX0_inBowls_5 : decode cX0_inBowls 5 = .ok (.aload_n 0, 1) := by decide +kernel
theorem dX0_inBowls_6 : decode cX0_inBowls 6 = .ok (.getfield 32, 3) := by decide +kernel
theorem dX0_inBowls_9 : decode cX0_inBowls 9 = .ok (.if_icmp .ge 20, 3) := by decide +kernel
theorem dX0_inBowls_12 : decode cX0_inBowls 12 = .ok (.iload_n 1, 1) := by decide +kernel
theorem dX0_inBowls_13 : decode cX0_inBowls 13 = .ok (.aload_n 0, 1) := by decide +kernel
theorem dX0_inBowls_14 : decode cX0_inBowls 14 = .ok (.getfield 23, 3) := by decide +kernel
theorem dX0_inBowls_17 : decode cX0_inBowls 17 = .ok (.iload_n 2, 1) := by decide +kernel
theorem dX0_inBowls_18 : decode cX0_inBowls 18 = .ok (.invokevirtual 48, 3) := by decide +kernel
theorem dX0_inBowls_21 : decode cX0_inBowls 21 = .ok (.iadd, 1) := by decide +kernel
theorem dX0_inBowls_22 : decode cX0_inBowls 22 = .ok (.istore_n 1, 1) := by decide +kernel
theorem dX0_inBowls_23 : decode cX0_inBowls 23 = .ok (.iinc 2 1, 3) := by decide +kernel
theorem dX0_inBowls_26 : decode cX0_inBowls 26 = .ok (.goto (-22), 3) := by decide +kernel
theorem dX0_inBowls_29 : decode cX0_inBowls 29 = .ok (.iload_n 1, 1) := by decide +kernel
theorem dX0_inBowls_30 : decode cX0_inBowls 30 = .ok (.ireturn, 1) := by decide +kernel
theorem dX0_copyFrom_0 : decode cX0_copyFrom 0 = .ok (.aload_n 1, 1) := by decide +kernel
theorem dX0_copyFrom_1 : decode cX0_copyFrom 1 = .ok (.ifnonnull 4, 3) := by decide +kernel
theorem dX0_copyFrom_4 : decode cX0_copyFrom 4 = .ok (.return_, 1) := by decide +kernel
theorem dX0_copyFrom_5 : decode cX0_copyFrom 5 = .ok (.aload_n 0, 1) := by decide +kernel
theorem dX0_copyFrom_6 : decode cX0_copyFrom 6 = .ok (.getfield 14, 3) := by decide +kernel
theorem dX0_copyFrom_9 : decode cX0_copyFrom 9 = .ok (.aload_n 1, 1) := by decide +kernel
theorem dX0_copyFrom_10 : decode cX0_copyFrom 10 = .ok (.getfield 14, 3) := by decide +kernel
theorem dX0_copyFrom_13 : decode cX0_copyFrom 13 = .ok (.invokevirtual 87, 3) := by decide +kernel
theorem dX0_copyFrom_16 : decode cX0_copyFrom 16 = .ok (.aload_n 0, 1) := by decide +kernel
theorem dX0_copyFrom_17 : decode cX0_copyFrom 17 = .ok (.getfield 20, 3) := by decide +kernel
theorem dX0_copyFrom_20 : decode cX0_copyFrom 20 = .ok (.aload_n 1, 1) := by decide +kernel
theorem dX0_copyFrom_21 : decode cX0_copyFrom 21 = .ok (.getfield 20, 3) := by decide +kernel
theorem dX0_copyFrom_24 : decode cX0_copyFrom 24 = .ok (.invokevirtual 87, 3) := by decide +kernel
theorem dX0_copyFrom_27 : decode cX0_copyFrom 27 = .ok (.aload_n 0, 1) := by decide +kernel
theorem dX0_copyFrom_28 : decode cX0_copyFrom 28 = .ok (.getfield 23, 3) := by decide +kernel
theorem dX0_copyFrom_31 : decode cX0_copyFrom 31 = .ok (.aload_n 1, 1) := by decide +kernel
theorem dX0_copyFrom_32 : decode cX0_copyFrom 32 = .ok (.getfield 23, 3) := by decide +kernel
theorem dX0_copyFrom_35 : decode cX0_copyFrom 35 = .ok (.invokevirtual 87, 3) := by decide +kernel
theorem dX0_copyFrom_38 : decode cX0_copyFrom 38 = .ok (.aload_n 0, 1) := by decide +kernel
theorem dX0_copyFrom_39 : decode cX0_copyFrom 39 = .ok (.getfield 26, 3) := by decide +kernel
theorem dX0_copyFrom_42 : decode cX0_copyFrom 42 = .ok (.aload_n 1, 1) := by decide +kernel
theorem dX0_copyFrom_43 : decode cX0_copyFrom 43 = .ok (.getfield 26, 3) := by decide +kernel
theorem dX0_copyFrom_46 : decode cX0_copyFrom 46 = .ok (.invokevirtual 87, 3) := by decide +kernel
theorem dX0_copyFrom_49 : decode cX0_copyFrom 49 = .ok (.aload_n 0, 1) := by decide +kernel
theorem dX0_copyFrom_50 : decode cX0_copyFrom 50 = .ok (.getfield 29, 3) := by decide +kernel
theorem dX0_copyFrom_53 : decode cX0_copyFrom 53 = .ok (.aload_n 1, 1) := by decide +kernel
theorem dX0_copyFrom_54 : decode cX0_copyFrom 54 = .ok (.getfield 29, 3) := by decide +kernel
theorem dX0_copyFrom_57 : decode cX0_copyFrom 57 = .ok (.invokevirtual 87, 3) := by decide +kernel
theorem dX0_copyFrom_60 : decode cX0_copyFrom 60 = .ok (.aload_n 0, 1) := by decide +kernel
theorem dX0_copyFrom_61 : decode cX0_copyFrom 61 = .ok (.aload_n 1, 1) := by decide +kernel
theorem dX0_copyFrom_62 : decode cX0_copyFrom 62 = .ok (.getfield 32, 3) := by decide +kernel
theorem dX0_copyFrom_65 : decode cX0_copyFrom 65 = .ok (.putfield 32, 3) := by decide +kernel
theorem dX0_copyFrom_68 : decode cX0_copyFrom 68 = .ok (.aload_n 0, 1) := by decide +kernel
theorem dX0_copyFrom_69 : decode cX0_copyFrom 69 = .ok (.aload_n 1, 1) := by decide +kernel
theorem dX0_copyFrom_70 : decode cX0_copyFrom 70 = .ok (.getfield 36, 3) := by decide +kernel
theorem dX0_copyFrom_73 : decode cX0_copyFrom 73 = .ok (.putfield 36, 3) := by decide +kernel
theorem dX0_copyFrom_76 : decode cX0_copyFrom 76 = .ok (.aload_n 0, 1) := by decide +kernel
theorem dX0_copyFrom_77 : decode cX0_copyFrom 77 = .ok (.aload_n 1, 1) := by decide +kernel
theorem dX0_copyFrom_78 : decode cX0_copyFrom 78 = .ok (.getfield 39, 3) := by decide +kernel
theorem dX0_copyFrom_81 : decode cX0_copyFrom 81 = .ok (.putfield 39, 3) := by decide +kernel
theorem dX0_copyFrom_84 : decode cX0_copyFrom 84 = .ok (.aload_n 0, 1) := by decide +kernel
theorem dX0_copyFrom_85 : decode cX0_copyFrom 85 = .ok (.aload_n 1, 1) := by decide +kernel
theorem dX0_copyFrom_86 : decode cX0_copyFrom 86 = .ok (.getfield 42, 3) := by decide +kernel
theorem dX0_copyFrom_89 : decode cX0_copyFrom 89 = .ok (.putfield 42, 3) := by decide +kernel
theorem dX0_copyFrom_92 : decode cX0_copyFrom 92 = .ok (.aload_n 0, 1) := by decide +kernel
theorem dX0_copyFrom_93 : decode cX0_copyFrom 93 = .ok (.aload_n 1, 1) := by decide +kernel
theorem dX0_copyFrom_94 : decode cX0_copyFrom 94 = .ok (.getfield 45, 3) := by decide +kernel
theorem dX0_copyFrom_97 : decode cX0_copyFrom 97 = .ok (.putfield 45, 3) := by decide +kernel
theorem dX0_copyFrom_100 : decode cX0_copyFrom 100 = .ok (.return_, 1) := by decide +kernel
theorem dX1_init_0 : decode cX1_init 0 = .ok (.aload_n 0, 1) := by decide +kernel
theorem dX1_init_1 : decode cX1_init 1 = .ok (.invokespecial 3, 3) := by decide +kernel
theorem dX1_init_4 : decode cX1_init 4 = .ok (.aload_n 0, 1) := by decide +kernel
theorem dX1_init_5 : decode cX1_init 5 = .ok (.iconst 5, 1) := by decide +kernel
theorem dX1_init_6 : decode cX1_init 6 = .ok (.anewarray 9, 3) := by decide +kernel
theorem dX1_init_9 : decode cX1_init 9 = .ok (.putfield 11, 3) := by decide +kernel
theorem dX1_init_12 : decode cX1_init 12 = .ok (.aload_n 0, 1) := by decide +kernel
theorem dX1_init_13 : decode cX1_init 13 = .ok (.iconst 0, 1) := by decide +kernel
theorem dX1_init_14 : decode cX1_init 14 = .ok (.putfield 17, 3) := by decide +kernel
theorem dX1_init_17 : decode cX1_init 17 = .ok (.aload_n 0, 1) := by decide +kernel
theorem dX1_init_18 : decode cX1_init 18 = .ok (.iconst 0, 1) := by decide +kernel
theorem dX1_init_19 : decode cX1_init 19 = .ok (.putfield 21, 3) := by decide +kernel
theorem dX1_init_22 : decode cX1_init 22 = .ok (.iconst 0, 1) := by decide +kernel
theorem dX1_init_23 : decode cX1_init 23 = .ok (.istore_n 1, 1) := by decide +kernel
theorem dX1_init_24 : decode cX1_init 24 = .ok (.iload_n 1, 1) := by decide +kernel
theorem dX1_init_25 : decode cX1_init 25 = .ok (.aload_n 0, 1) := by decide +kernel
theorem dX1_init_26 : decode cX1_init 26 = .ok (.getfield 11, 3) := by decide +kernel
theorem dX1_init_29 : decode cX1_init 29 = .ok (.arraylength, 1) := by decide +kernel
theorem dX1_init_30 : decode cX1_init 30 = .ok (.if_icmp .ge 22, 3) := by decide +kernel
theorem dX1_init_33 : decode cX1_init 33 = .ok (.aload_n 0, 1) := by decide +kernel
theorem dX1_init_34 : decode cX1_init 34 = .ok (.getfield 11, 3) := by decide +kernel
theorem dX1_init_37 : decode cX1_init 37 = .ok (.iload_n 1, 1) := by decide +kernel
theorem dX1_init_38 : decode cX1_init 38 = .ok (.new 9, 3) := by decide +kernel
theorem dX1_init_41 : decode cX1_init 41 = .ok (.dup, 1) := by decide +kernel
theorem dX1_init_42 : decode cX1_init 42 = .ok (.invokespecial 24, 3) := by decide +kernel
theorem dX1_init_45 : decode cX1_init 45 = .ok (.aastore, 1) := by decide +kernel
theorem dX1_init_46 : decode cX1_init 46 = .ok (.iinc 1 1, 3) := by decide +kernel
theorem dX1_init_49 : decode cX1_init 49 = .ok (.goto (-25), 3) := by decide +kernel
theorem dX1_init_52 : decode cX1_init 52 = .ok (.return_, 1) := by decide +kernel
theorem dX1_size_0 : decode cX1_size 0 = .ok (.aload_n 0, 1) := by decide +kernel
theorem dX1_size_1 : decode cX1_size 1 = .ok (.getfield 21, 3) := by decide +kernel
theorem dX1_size_4 : decode cX1_size 4 = .ok (.ireturn, 1) := by decide +kernel
theorem dX1_stateAt_0 : decode cX1_stateAt 0 = .ok (.iload_n 1, 1) := by decide +kernel
theorem dX1_stateAt_1 : decode cX1_stateAt 1 = .ok (.ifCond .lt 21, 3) := by decide +kernel
theorem dX1_stateAt_4 : decode cX1_stateAt 4 = .ok (.iload_n 1, 1) := by decide +kernel
theorem dX1_stateAt_5 : decode cX1_stateAt 5 = .ok (.aload_n 0, 1) := by decide +kernel
theorem dX1_stateAt_6 : decode cX1_stateAt 6 = .ok (.getfield 11, 3) := by decide +kernel
theorem dX1_stateAt_9 : decode cX1_stateAt 9 = .ok (.arraylength, 1) := by decide +kernel
theorem dX1_stateAt_10 : decode cX1_stateAt 10 = .ok (.if_icmp .ge 12, 3) := by decide +kernel
theorem dX1_stateAt_13 : decode cX1_stateAt 13 = .ok (.aload_n 0, 1) := by decide +kernel
theorem dX1_stateAt_14 : decode cX1_stateAt 14 = .ok (.getfield 11, 3) := by decide +kernel
theorem dX1_stateAt_17 : decode cX1_stateAt 17 = .ok (.iload_n 1, 1) := by decide +kernel
theorem dX1_stateAt_18 : decode cX1_stateAt 18 = .ok (.aaload, 1) := by decide +kernel
theorem dX1_stateAt_19 : decode cX1_stateAt 19 = .ok (.goto 4, 3) := by decide +kernel
theorem dX1_stateAt_22 : decode cX1_stateAt 22 = .ok (.aconst_null, 1) := by decide +kernel
theorem dX1_stateAt_23 : decode cX1_stateAt 23 = .ok (.areturn, 1) := by decide +kernel
theorem dX1_record_0 : decode cX1_record 0 = .ok (.aload_n 0, 1) := by decide +kernel
theorem dX1_record_1 : decode cX1_record 1 = .ok (.aload_n 0, 1) := by decide +kernel
theorem dX1_record_2 : decode cX1_record 2 = .ok (.getfield 17, 3) := by decide +kernel
theorem dX1_record_5 : decode cX1_record 5 = .ok (.invokevirtual 25, 3) := by decide +kernel
theorem dX1_record_8 : decode cX1_record 8 = .ok (.astore_n 2, 1) := by decide +kernel
theorem dX1_record_9 : decode cX1_record 9 = .ok (.aload_n 2, 1) := by decide +kernel
theorem dX1_record_10 : decode cX1_record 10 = .ok (.ifnull 8, 3) := by decide +kernel
theorem dX1_record_13 : decode cX1_record 13 = .ok (.aload_n 2, 1) := by decide +kernel
theorem dX1_record_14 : decode cX1_record 14 = .ok (.aload_n 1, 1) := by decide +kernel
theorem dX1_record_15 : decode cX1_record 15 = .ok (.invokevirtual 29, 3) := by decide +kernel
theorem dX1_record_18 : decode cX1_record 18 = .ok (.aload_n 0, 1) := by decide +kernel
theorem dX1_record_19 : decode cX1_record 19 = .ok (.aload_n 0, 1) := by decide +kernel
theorem dX1_record_20 : decode cX1_record 20 = .ok (.getfield 17, 3) := by decide +kernel
theorem dX1_record_23 : decode cX1_record 23 = .ok (.iconst 1, 1) := by decide +kernel
theorem dX1_record_24 : decode cX1_record 24 = .ok (.iadd, 1) := by decide +kernel
theorem dX1_record_25 : decode cX1_record 25 = .ok (.iconst 5, 1) := by decide +kernel
theorem dX1_record_26 : decode cX1_record 26 = .ok (.irem, 1) := by decide +kernel
theorem dX1_record_27 : decode cX1_record 27 = .ok (.putfield 17, 3) := by decide +kernel
theorem dX1_record_30 : decode cX1_record 30 = .ok (.aload_n 0, 1) := by decide +kernel
theorem dX1_record_31 : decode cX1_record 31 = .ok (.aload_n 0, 1) := by decide +kernel
theorem dX1_record_32 : decode cX1_record 32 = .ok (.getfield 21, 3) := by decide +kernel
theorem dX1_record_35 : decode cX1_record 35 = .ok (.iconst 1, 1) := by decide +kernel
theorem dX1_record_36 : decode cX1_record 36 = .ok (.iadd, 1) := by decide +kernel
theorem dX1_record_37 : decode cX1_record 37 = .ok (.iconst 5, 1) := by decide +kernel
theorem dX1_record_38 : decode cX1_record 38 = .ok (.invokestatic 33, 3) := by decide +kernel
theorem dX1_record_41 : decode cX1_record 41 = .ok (.putfield 21, 3) := by decide +kernel
theorem dX1_record_44 : decode cX1_record 44 = .ok (.return_, 1) := by decide +kernel
theorem dX1_restore_0 : decode cX1_restore 0 = .ok (.aload_n 0, 1) := by decide +kernel
theorem dX1_restore_1 : decode cX1_restore 1 = .ok (.aload_n 0, 1) := by decide +kernel
theorem dX1_restore_2 : decode cX1_restore 2 = .ok (.getfield 17, 3) := by decide +kernel
theorem dX1_restore_5 : decode cX1_restore 5 = .ok (.iconst 5, 1) := by decide +kernel
theorem dX1_restore_6 : decode cX1_restore 6 = .ok (.iadd, 1) := by decide +kernel
theorem dX1_restore_7 : decode cX1_restore 7 = .ok (.iconst 1, 1) := by decide +kernel
theorem dX1_restore_8 : decode cX1_restore 8 = .ok (.isub, 1) := by decide +kernel
theorem dX1_restore_9 : decode cX1_restore 9 = .ok (.iconst 5, 1) := by decide +kernel
theorem dX1_restore_10 : decode cX1_restore 10 = .ok (.irem, 1) := by decide +kernel
theorem dX1_restore_11 : decode cX1_restore 11 = .ok (.putfield 17, 3) := by decide +kernel
theorem dX1_restore_14 : decode cX1_restore 14 = .ok (.aload_n 0, 1) := by decide +kernel
theorem dX1_restore_15 : decode cX1_restore 15 = .ok (.aload_n 0, 1) := by decide +kernel
theorem dX1_restore_16 : decode cX1_restore 16 = .ok (.getfield 21, 3) := by decide +kernel
theorem dX1_restore_19 : decode cX1_restore 19 = .ok (.iconst 1, 1) := by decide +kernel
theorem dX1_restore_20 : decode cX1_restore 20 = .ok (.isub, 1) := by decide +kernel
theorem dX1_restore_21 : decode cX1_restore 21 = .ok (.iconst 0, 1) := by decide +kernel
theorem dX1_restore_22 : decode cX1_restore 22 = .ok (.invokestatic 39, 3) := by decide +kernel
theorem dX1_restore_25 : decode cX1_restore 25 = .ok (.putfield 21, 3) := by decide +kernel
theorem dX1_restore_28 : decode cX1_restore 28 = .ok (.aload_n 1, 1) := by decide +kernel
theorem dX1_restore_29 : decode cX1_restore 29 = .ok (.ifnull 15, 3) := by decide +kernel
theorem dX1_restore_32 : decode cX1_restore 32 = .ok (.aload_n 1, 1) := by decide +kernel
theorem dX1_restore_33 : decode cX1_restore 33 = .ok (.aload_n 0, 1) := by decide +kernel
theorem dX1_restore_34 : decode cX1_restore 34 = .ok (.aload_n 0, 1) := by decide +kernel
theorem dX1_restore_35 : decode cX1_restore 35 = .ok (.getfield 17, 3) := by decide +kernel
theorem dX1_restore_38 : decode cX1_restore 38 = .ok (.invokevirtual 25, 3) := by decide +kernel
theorem dX1_restore_41 : decode cX1_restore 41 = .ok (.invokevirtual 29, 3) := by decide +kernel
theorem dX1_restore_44 : decode cX1_restore 44 = .ok (.return_, 1) := by decide +kernel
theorem dX2_init_0 : decode cX2_init 0 = .ok (.aload_n 0, 1) := by decide +kernel
theorem dX2_init_1 : decode cX2_init 1 = .ok (.invokespecial 3, 3) := by decide +kernel
theorem dX2_init_4 : decode cX2_init 4 = .ok (.aload_n 0, 1) := by decide +kernel
theorem dX2_init_5 : decode cX2_init 5 = .ok (.new 9, 3) := by decide +kernel
theorem dX2_init_8 : decode cX2_init 8 = .ok (.dup, 1) := by decide +kernel
theorem dX2_init_9 : decode cX2_init 9 = .ok (.bipush 40, 2) := by decide +kernel
theorem dX2_init_11 : decode cX2_init 11 = .ok (.invokespecial 11, 3) := by decide +kernel
theorem dX2_init_14 : decode cX2_init 14 = .ok (.putfield 14, 3) := by decide +kernel
theorem dX2_init_17 : decode cX2_init 17 = .ok (.aload_n 0, 1) := by decide +kernel
theorem dX2_init_18 : decode cX2_init 18 = .ok (.new 9, 3) := by decide +kernel
theorem dX2_init_21 : decode cX2_init 21 = .ok (.dup, 1) := by decide +kernel
theorem dX2_init_22 : decode cX2_init 22 = .ok (.bipush 40, 2) := by decide +kernel
theorem dX2_init_24 : decode cX2_init 24 = .ok (.invokespecial 11, 3) := by decide +kernel
theorem dX2_init_27 : decode cX2_init 27 = .ok (.putfield 20, 3) := by decide +kernel
theorem dX2_init_30 : decode cX2_init 30 = .ok (.aload_n 0, 1) := by decide +kernel
theorem dX2_init_31 : decode cX2_init 31 = .ok (.new 9, 3) := by decide +kernel
theorem dX2_init_34 : decode cX2_init 34 = .ok (.dup, 1) := by decide +kernel
theorem dX2_init_35 : decode cX2_init 35 = .ok (.bipush 40, 2) := by decide +kernel
theorem dX2_init_37 : decode cX2_init 37 = .ok (.invokespecial 11, 3) := by decide +kernel
theorem dX2_init_40 : decode cX2_init 40 = .ok (.putfield 23, 3) := by decide +kernel
theorem dX2_init_43 : decode cX2_init 43 = .ok (.aload_n 0, 1) := by decide +kernel
theorem dX2_init_44 : decode cX2_init 44 = .ok (.new 9, 3) := by decide +kernel
theorem dX2_init_47 : decode cX2_init 47 = .ok (.dup, 1) := by decide +kernel
theorem dX2_init_48 : decode cX2_init 48 = .ok (.bipush 40, 2) := by decide +kernel
theorem dX2_init_50 : decode cX2_init 50 = .ok (.invokespecial 11, 3) := by decide +kernel
theorem dX2_init_53 : decode cX2_init 53 = .ok (.putfield 26, 3) := by decide +kernel
theorem dX2_init_56 : decode cX2_init 56 = .ok (.aload_n 0, 1) := by decide +kernel
theorem dX2_init_57 : decode cX2_init 57 = .ok (.new 9, 3) := by decide +kernel
theorem dX2_init_60 : decode cX2_init 60 = .ok (.dup, 1) := by decide +kernel
theorem dX2_init_61 : decode cX2_init 61 = .ok (.bipush 40, 2) := by decide +kernel
theorem dX2_init_63 : decode cX2_init 63 = .ok (.invokespecial 11, 3) := by decide +kernel
theorem dX2_init_66 : decode cX2_init 66 = .ok (.putfield 29, 3) := by decide +kernel
theorem dX2_init_69 : decode cX2_init 69 = .ok (.aload_n 0, 1) := by decide +kernel
theorem dX2_init_70 : decode cX2_init 70 = .ok (.iconst 0, 1) := by decide +kernel
theorem dX2_init_71 : decode cX2_init 71 = .ok (.putfield 32, 3) := by decide +kernel
theorem dX2_init_74 : decode cX2_init 74 = .ok (.return_, 1) := by decide +kernel
theorem dX2_size_0 : decode cX2_size 0 = .ok (.aload_n 0, 1) := by decide +kernel
theorem dX2_size_1 : decode cX2_size 1 = .ok (.getfield 32, 3) := by decide +kernel
theorem dX2_size_4 : decode cX2_size 4 = .ok (.ireturn, 1) := by decide +kernel
theorem dX2_has_0 : decode cX2_has 0 = .ok (.iload_n 1, 1) := by decide +kernel
theorem dX2_has_1 : decode cX2_has 1 = .ok (.ifCond .lt 15, 3) := by decide +kernel
theorem dX2_has_4 : decode cX2_has 4 = .ok (.iload_n 1, 1) := by decide +kernel
theorem dX2_has_5 : decode cX2_has 5 = .ok (.aload_n 0, 1) := by decide +kernel
theorem dX2_has_6 : decode cX2_has 6 = .ok (.getfield 32, 3) := by decide +kernel
theorem dX2_has_9 : decode cX2_has 9 = .ok (.if_icmp .ge 7, 3) := by decide +kernel
theorem dX2_has_12 : decode cX2_has 12 = .ok (.iconst 1, 1) := by decide +kernel
theorem dX2_has_13 : decode cX2_has 13 = .ok (.goto 4, 3) := by decide +kernel
theorem dX2_has_16 : decode cX2_has 16 = .ok (.iconst 0, 1) := by decide +kernel
theorem dX2_has_17 : decode cX2_has 17 = .ok (.ireturn, 1) := by decide +kernel
theorem dX2_isFull_0 : decode cX2_isFull 0 = .ok (.aload_n 0, 1) := by decide +kernel
theorem dX2_isFull_1 : decode cX2_isFull 1 = .ok (.getfield 32, 3) := by decide +kernel
theorem dX2_isFull_4 : decode cX2_isFull 4 = .ok (.bipush 40, 2) := by decide +kernel
theorem dX2_isFull_6 : decode cX2_isFull 6 = .ok (.if_icmp .lt 7, 3) := by decide +kernel
theorem dX2_isFull_9 : decode cX2_isFull 9 = .ok (.iconst 1, 1) := by decide +kernel
theorem dX2_isFull_10 : decode cX2_isFull 10 = .ok (.goto 4, 3) := by decide +kernel
theorem dX2_isFull_13 : decode cX2_isFull 13 = .ok (.iconst 0, 1) := by decide +kernel
theorem dX2_isFull_14 : decode cX2_isFull 14 = .ok (.ireturn, 1) := by decide +kernel
theorem dX2_timeOf_0 : decode cX2_timeOf 0 = .ok (.aload_n 0, 1) := by decide +kernel
theorem dX2_timeOf_1 : decode cX2_timeOf 1 = .ok (.getfield 14, 3) := by decide +kernel
theorem dX2_timeOf_4 : decode cX2_timeOf 4 = .ok (.iload_n 1, 1) := by decide +kernel
theorem dX2_timeOf_5 : decode cX2_timeOf 5 = .ok (.invokevirtual 36, 3) := by decide +kernel
theorem dX2_timeOf_8 : decode cX2_timeOf 8 = .ok (.ireturn, 1) := by decide +kernel
theorem dX2_pitchOf_0 : decode cX2_pitchOf 0 = .ok (.aload_n 0, 1) := by decide +kernel
theorem dX2_pitchOf_1 : decode cX2_pitchOf 1 = .ok (.getfield 20, 3) := by decide +kernel
theorem dX2_pitchOf_4 : decode cX2_pitchOf 4 = .ok (.iload_n 1, 1) := by decide +kernel
theorem dX2_pitchOf_5 : decode cX2_pitchOf 5 = .ok (.invokevirtual 36, 3) := by decide +kernel
theorem dX2_pitchOf_8 : decode cX2_pitchOf 8 = .ok (.ireturn, 1) := by decide +kernel
theorem dX2_errorOf_0 : decode cX2_errorOf 0 = .ok (.aload_n 0, 1) := by decide +kernel
theorem dX2_errorOf_1 : decode cX2_errorOf 1 = .ok (.getfield 29, 3) := by decide +kernel
theorem dX2_errorOf_4 : decode cX2_errorOf 4 = .ok (.iload_n 1, 1) := by decide +kernel
theorem dX2_errorOf_5 : decode cX2_errorOf 5 = .ok (.invokevirtual 36, 3) := by decide +kernel
theorem dX2_errorOf_8 : decode cX2_errorOf 8 = .ok (.ireturn, 1) := by decide +kernel
theorem dX2_placeFor_0 : decode cX2_placeFor 0 = .ok (.iconst 0, 1) := by decide +kernel
theorem dX2_placeFor_1 : decode cX2_placeFor 1 = .ok (.istore_n 2, 1) := by decide +kernel
theorem dX2_placeFor_2 : decode cX2_placeFor 2 = .ok (.iload_n 2, 1) := by decide +kernel
theorem dX2_placeFor_3 : decode cX2_placeFor 3 = .ok (.aload_n 0, 1) := by decide +kernel
theorem dX2_placeFor_4 : decode cX2_placeFor 4 = .ok (.getfield 32, 3) := by decide +kernel
theorem dX2_placeFor_7 : decode cX2_placeFor 7 = .ok (.if_icmp .ge 21, 3) := by decide +kernel
theorem dX2_placeFor_10 : decode cX2_placeFor 10 = .ok (.aload_n 0, 1) := by decide +kernel
theorem dX2_placeFor_11 : decode cX2_placeFor 11 = .ok (.getfield 14, 3) := by decide +kernel
theorem dX2_placeFor_14 : decode cX2_placeFor 14 = .ok (.iload_n 2, 1) := by decide +kernel
theorem dX2_placeFor_15 : decode cX2_placeFor 15 = .ok (.invokevirtual 36, 3) := by decide +kernel
theorem dX2_placeFor_18 : decode cX2_placeFor 18 = .ok (.iload_n 1, 1) := by decide +kernel
theorem dX2_placeFor_19 : decode cX2_placeFor 19 = .ok (.if_icmp .ge 9, 3) := by decide +kernel
theorem dX2_placeFor_22 : decode cX2_placeFor 22 = .ok (.iinc 2 1, 3) := by decide +kernel
theorem dX2_placeFor_25 : decode cX2_placeFor 25 = .ok (.goto (-23), 3) := by decide +kernel
theorem dX2_placeFor_28 : decode cX2_placeFor 28 = .ok (.iload_n 2, 1) := by decide +kernel
theorem dX2_placeFor_29 : decode cX2_placeFor 29 = .ok (.ireturn, 1) := by decide +kernel
theorem dX2_hasNoteAt_0 : decode cX2_hasNoteAt 0 = .ok (.aload_n 0, 1) := by decide +kernel
theorem dX2_hasNoteAt_1 : decode cX2_hasNoteAt 1 = .ok (.iload_n 1, 1) := by decide +kernel
theorem dX2_hasNoteAt_2 : decode cX2_hasNoteAt 2 = .ok (.invokevirtual 40, 3) := by decide +kernel
theorem dX2_hasNoteAt_5 : decode cX2_hasNoteAt 5 = .ok (.istore_n 2, 1) := by decide +kernel
theorem dX2_hasNoteAt_6 : decode cX2_hasNoteAt 6 = .ok (.iload_n 2, 1) := by decide +kernel
theorem dX2_hasNoteAt_7 : decode cX2_hasNoteAt 7 = .ok (.aload_n 0, 1) := by decide +kernel
theorem dX2_hasNoteAt_8 : decode cX2_hasNoteAt 8 = .ok (.getfield 32, 3) := by decide +kernel
theorem dX2_hasNoteAt_11 : decode cX2_hasNoteAt 11 = .ok (.if_icmp .ge 19, 3) := by decide +kernel
theorem dX2_hasNoteAt_14 : decode cX2_hasNoteAt 14 = .ok (.aload_n 0, 1) := by decide +kernel
theorem dX2_hasNoteAt_15 : decode cX2_hasNoteAt 15 = .ok (.getfield 14, 3) := by decide +kernel
theorem dX2_hasNoteAt_18 : decode cX2_hasNoteAt 18 = .ok (.iload_n 2, 1) := by decide +kernel
theorem dX2_hasNoteAt_19 : decode cX2_hasNoteAt 19 = .ok (.invokevirtual 36, 3) := by decide +kernel
theorem dX2_hasNoteAt_22 : decode cX2_hasNoteAt 22 = .ok (.iload_n 1, 1) := by decide +kernel
theorem dX2_hasNoteAt_23 : decode cX2_hasNoteAt 23 = .ok (.if_icmp .ne 7, 3) := by decide +kernel
theorem dX2_hasNoteAt_26 : decode cX2_hasNoteAt 26 = .ok (.iconst 1, 1) := by decide +kernel
theorem dX2_hasNoteAt_27 : decode cX2_hasNoteAt 27 = .ok (.goto 4, 3) := by decide +kernel
theorem dX2_hasNoteAt_30 : decode cX2_hasNoteAt 30 = .ok (.iconst 0, 1) := by decide +kernel
theorem dX2_hasNoteAt_31 : decode cX2_hasNoteAt 31 = .ok (.ireturn, 1) := by decide +kernel
theorem dX2_insert_0 : decode cX2_insert 0 = .ok (.aload_n 0, 1) := by decide +kernel
theorem dX2_insert_1 : decode cX2_insert 1 = .ok (.iload_n 1, 1) := by decide +kernel
theorem dX2_insert_2 : decode cX2_insert 2 = .ok (.invokevirtual 40, 3) := by decide +kernel
theorem dX2_insert_5 : decode cX2_insert 5 = .ok (.istore_n 3, 1) := by decide +kernel
theorem dX2_insert_6 : decode cX2_insert 6 = .ok (.aload_n 0, 1) := by decide +kernel
theorem dX2_insert_7 : decode cX2_insert 7 = .ok (.getfield 14, 3) := by decide +kernel
theorem dX2_insert_10 : decode cX2_insert 10 = .ok (.iload_n 3, 1) := by decide +kernel
theorem dX2_insert_11 : decode cX2_insert 11 = .ok (.iload_n 1, 1) := by decide +kernel
theorem dX2_insert_12 : decode cX2_insert 12 = .ok (.aload_n 0, 1) := by decide +kernel
theorem dX2_insert_13 : decode cX2_insert 13 = .ok (.getfield 32, 3) := by decide +kernel
theorem dX2_insert_16 : decode cX2_insert 16 = .ok (.invokevirtual 43, 3) := by decide +kernel
theorem dX2_insert_19 : decode cX2_insert 19 = .ok (.aload_n 0, 1) := by decide +kernel
theorem dX2_insert_20 : decode cX2_insert 20 = .ok (.getfield 20, 3) := by decide +kernel
theorem dX2_insert_23 : decode cX2_insert 23 = .ok (.iload_n 3, 1) := by decide +kernel
theorem dX2_insert_24 : decode cX2_insert 24 = .ok (.iload_n 2, 1) := by decide +kernel
theorem dX2_insert_25 : decode cX2_insert 25 = .ok (.aload_n 0, 1) := by decide +kernel
theorem dX2_insert_26 : decode cX2_insert 26 = .ok (.getfield 32, 3) := by decide +kernel
theorem dX2_insert_29 : decode cX2_insert 29 = .ok (.invokevirtual 43, 3) := by decide +kernel
theorem dX2_insert_32 : decode cX2_insert 32 = .ok (.aload_n 0, 1) := by decide +kernel
theorem dX2_insert_33 : decode cX2_insert 33 = .ok (.getfield 23, 3) := by decide +kernel
theorem dX2_insert_36 : decode cX2_insert 36 = .ok (.iload_n 3, 1) := by decide +kernel
theorem dX2_insert_37 : decode cX2_insert 37 = .ok (.iconst 0, 1) := by decide +kernel
theorem dX2_insert_38 : decode cX2_insert 38 = .ok (.aload_n 0, 1) := by decide +kernel
theorem dX2_insert_39 : decode cX2_insert 39 = .ok (.getfield 32, 3) := by decide +kernel
theorem dX2_insert_42 : decode cX2_insert 42 = .ok (.invokevirtual 43, 3) := by decide +kernel
theorem dX2_insert_45 : decode cX2_insert 45 = .ok (.aload_n 0, 1) := by decide +kernel
theorem dX2_insert_46 : decode cX2_insert 46 = .ok (.getfield 26, 3) := by decide +kernel
theorem dX2_insert_49 : decode cX2_insert 49 = .ok (.iload_n 3, 1) := by decide +kernel
theorem dX2_insert_50 : decode cX2_insert 50 = .ok (.iconst 0, 1) := by decide +kernel
theorem dX2_insert_51 : decode cX2_insert 51 = .ok (.aload_n 0, 1) := by decide +kernel
theorem dX2_insert_52 : decode cX2_insert 52 = .ok (.getfield 32, 3) := by decide +kernel
theorem dX2_insert_55 : decode cX2_insert 55 = .ok (.invokevirtual 43, 3) := by decide +kernel
theorem dX2_insert_58 : decode cX2_insert 58 = .ok (.aload_n 0, 1) := by decide +kernel
theorem dX2_insert_59 : decode cX2_insert 59 = .ok (.getfield 29, 3) := by decide +kernel
theorem dX2_insert_62 : decode cX2_insert 62 = .ok (.iload_n 3, 1) := by decide +kernel
theorem dX2_insert_63 : decode cX2_insert 63 = .ok (.iconst 0, 1) := by decide +kernel
theorem dX2_insert_64 : decode cX2_insert 64 = .ok (.aload_n 0, 1) := by decide +kernel
theorem dX2_insert_65 : decode cX2_insert 65 = .ok (.getfield 32, 3) := by decide +kernel
theorem dX2_insert_68 : decode cX2_insert 68 = .ok (.invokevirtual 43, 3) := by decide +kernel
theorem dX2_insert_71 : decode cX2_insert 71 = .ok (.aload_n 0, 1) := by decide +kernel
theorem dX2_insert_72 : decode cX2_insert 72 = .ok (.dup, 1) := by decide +kernel
theorem dX2_insert_73 : decode cX2_insert 73 = .ok (.getfield 32, 3) := by decide +kernel
theorem dX2_insert_76 : decode cX2_insert 76 = .ok (.iconst 1, 1) := by decide +kernel
theorem dX2_insert_77 : decode cX2_insert 77 = .ok (.iadd, 1) := by decide +kernel
theorem dX2_insert_78 : decode cX2_insert 78 = .ok (.putfield 32, 3) := by decide +kernel
theorem dX2_insert_81 : decode cX2_insert 81 = .ok (.iload_n 3, 1) := by decide +kernel
theorem dX2_insert_82 : decode cX2_insert 82 = .ok (.ireturn, 1) := by decide +kernel
theorem dX2_takeAway_0 : decode cX2_takeAway 0 = .ok (.aload_n 0, 1) := by decide +kernel
theorem dX2_takeAway_1 : decode cX2_takeAway 1 = .ok (.getfield 14, 3) := by decide +kernel
theorem dX2_takeAway_4 : decode cX2_takeAway 4 = .ok (.iload_n 1, 1) := by decide +kernel
theorem dX2_takeAway_5 : decode cX2_takeAway 5 = .ok (.aload_n 0, 1) := by decide +kernel
theorem dX2_takeAway_6 : decode cX2_takeAway 6 = .ok (.getfield 32, 3) := by decide +kernel
theorem dX2_takeAway_9 : decode cX2_takeAway 9 = .ok (.invokevirtual 47, 3) := by decide +kernel
theorem dX2_takeAway_12 : decode cX2_takeAway 12 = .ok (.aload_n 0, 1) := by decide +kernel
theorem dX2_takeAway_13 : decode cX2_takeAway 13 = .ok (.getfield 20, 3) := by decide +kernel
theorem dX2_takeAway_16 : decode cX2_takeAway 16 = .ok (.iload_n 1, 1) := by decide +kernel
theorem dX2_takeAway_17 : decode cX2_takeAway 17 = .ok (.aload_n 0, 1) := by decide +kernel
theorem dX2_takeAway_18 : decode cX2_takeAway 18 = .ok (.getfield 32, 3) := by decide +kernel
theorem dX2_takeAway_21 : decode cX2_takeAway 21 = .ok (.invokevirtual 47, 3) := by decide +kernel
theorem dX2_takeAway_24 : decode cX2_takeAway 24 = .ok (.aload_n 0, 1) := by decide +kernel
theorem dX2_takeAway_25 : decode cX2_takeAway 25 = .ok (.getfield 23, 3) := by decide +kernel
theorem dX2_takeAway_28 : decode cX2_takeAway 28 = .ok (.iload_n 1, 1) := by decide +kernel
theorem dX2_takeAway_29 : decode cX2_takeAway 29 = .ok (.aload_n 0, 1) := by decide +kernel
theorem dX2_takeAway_30 : decode cX2_takeAway 30 = .ok (.getfield 32, 3) := by decide +kernel
theorem dX2_takeAway_33 : decode cX2_takeAway 33 = .ok (.invokevirtual 47, 3) := by decide +kernel
theorem dX2_takeAway_36 : decode cX2_takeAway 36 = .ok (.aload_n 0, 1) := by decide +kernel
theorem dX2_takeAway_37 : decode cX2_takeAway 37 = .ok (.getfield 26, 3) := by decide +kernel
theorem dX2_takeAway_40 : decode cX2_takeAway 40 = .ok (.iload_n 1, 1) := by decide +kernel
theorem dX2_takeAway_41 : decode cX2_takeAway 41 = .ok (.aload_n 0, 1) := by decide +kernel
theorem dX2_takeAway_42 : decode cX2_takeAway 42 = .ok (.getfield 32, 3) := by decide +kernel
theorem dX2_takeAway_45 : decode cX2_takeAway 45 = .ok (.invokevirtual 47, 3) := by decide +kernel
theorem dX2_takeAway_48 : decode cX2_takeAway 48 = .ok (.aload_n 0, 1) := by decide +kernel
theorem dX2_takeAway_49 : decode cX2_takeAway 49 = .ok (.getfield 29, 3) := by decide +kernel
theorem dX2_takeAway_52 : decode cX2_takeAway 52 = .ok (.iload_n 1, 1) := by decide +kernel
theorem dX2_takeAway_53 : decode cX2_takeAway 53 = .ok (.aload_n 0, 1) := by decide +kernel
theorem dX2_takeAway_54 : decode cX2_takeAway 54 = .ok (.getfield 32, 3) := by decide +kernel
theorem dX2_takeAway_57 : decode cX2_takeAway 57 = .ok (.invokevirtual 47, 3) := by decide +kernel
theorem dX2_takeAway_60 : decode cX2_takeAway 60 = .ok (.aload_n 0, 1) := by decide +kernel
theorem dX2_takeAway_61 : decode cX2_takeAway 61 = .ok (.dup, 1) := by decide +kernel
theorem dX2_takeAway_62 : decode cX2_takeAway 62 = .ok (.getfield 32, 3) := by decide +kernel
theorem dX2_takeAway_65 : decode cX2_takeAway 65 = .ok (.iconst 1, 1) := by decide +kernel
theorem dX2_takeAway_66 : decode cX2_takeAway 66 = .ok (.isub, 1) := by decide +kernel
theorem dX2_takeAway_67 : decode cX2_takeAway 67 = .ok (.putfield 32, 3) := by decide +kernel
theorem dX2_takeAway_70 : decode cX2_takeAway 70 = .ok (.return_, 1) := by decide +kernel
theorem dX2_canShift_0 : decode cX2_canShift 0 = .ok (.iload_n 1, 1) := by decide +kernel
theorem dX2_canShift_1 : decode cX2_canShift 1 = .ok (.istore 4, 2) := by decide +kernel
theorem dX2_canShift_3 : decode cX2_canShift 3 = .ok (.iload 4, 2) := by decide +kernel
theorem dX2_canShift_5 : decode cX2_canShift 5 = .ok (.iload_n 2, 1) := by decide +kernel
theorem dX2_canShift_6 : decode cX2_canShift 6 = .ok (.if_icmp .gt 32, 3) := by decide +kernel
theorem dX2_canShift_9 : decode cX2_canShift 9 = .ok (.aload_n 0, 1) := by decide +kernel
theorem dX2_canShift_10 : decode cX2_canShift 10 = .ok (.getfield 20, 3) := by decide +kernel
theorem dX2_canShift_13 : decode cX2_canShift 13 = .ok (.iload 4, 2) := by decide +kernel
theorem dX2_canShift_15 : decode cX2_canShift 15 = .ok (.invokevirtual 36, 3) := by decide +kernel
theorem dX2_canShift_18 : decode cX2_canShift 18 = .ok (.iload_n 3, 1) := by decide +kernel
theorem dX2_canShift_19 : decode cX2_canShift 19 = .ok (.iadd, 1) := by decide +kernel
theorem dX2_canShift_20 : decode cX2_canShift 20 = .ok (.iconst 0, 1) := by decide +kernel
theorem dX2_canShift_21 : decode cX2_canShift 21 = .ok (.sipush 6000, 3) := by decide +kernel
theorem dX2_canShift_24 : decode cX2_canShift 24 = .ok (.invokestatic 51, 3) := by decide +kernel
theorem dX2_canShift_27 : decode cX2_canShift 27 = .ok (.ifCond .ne 5, 3) := by decide +kernel
theorem dX2_canShift_30 : decode cX2_canShift 30 = .ok (.iconst 0, 1) := by decide +kernel
theorem dX2_canShift_31 : decode cX2_canShift 31 = .ok (.ireturn, 1) := by decide +kernel
theorem dX2_canShift_32 : decode cX2_canShift 32 = .ok (.iinc 4 1, 3) := by decide +kernel
theorem dX2_canShift_35 : decode cX2_canShift 35 = .ok (.goto (-32), 3) := by decide +kernel
theorem dX2_canShift_38 : decode cX2_canShift 38 = .ok (.iconst 1, 1) := by decide +kernel
theorem dX2_canShift_39 : decode cX2_canShift 39 = .ok (.ireturn, 1) := by decide +kernel
theorem dX2_shift_0 : decode cX2_shift 0 = .ok (.iload_n 1, 1) := by decide +kernel
theorem dX2_shift_1 : decode cX2_shift 1 = .ok (.istore 4, 2) := by decide +kernel
theorem dX2_shift_3 : decode cX2_shift 3 = .ok (.iload 4, 2) := by decide +kernel
theorem dX2_shift_5 : decode cX2_shift 5 = .ok (.iload_n 2, 1) := by decide +kernel
theorem dX2_shift_6 : decode cX2_shift 6 = .ok (.if_icmp .gt 19, 3) := by decide +kernel
theorem dX2_shift_9 : decode cX2_shift 9 = .ok (.aload_n 0, 1) := by decide +kernel
theorem dX2_shift_10 : decode cX2_shift 10 = .ok (.getfield 20, 3) := by decide +kernel
theorem dX2_shift_13 : decode cX2_shift 13 = .ok (.iload 4, 2) := by decide +kernel
theorem dX2_shift_15 : decode cX2_shift 15 = .ok (.iload_n 3, 1) := by decide +kernel
theorem dX2_shift_16 : decode cX2_shift 16 = .ok (.invokevirtual 55, 3) := by decide +kernel
theorem dX2_shift_19 : decode cX2_shift 19 = .ok (.iinc 4 1, 3) := by decide +kernel
theorem dX2_shift_22 : decode cX2_shift 22 = .ok (.goto (-19), 3) := by decide +kernel
theorem dX2_shift_25 : decode cX2_shift 25 = .ok (.return_, 1) := by decide +kernel
theorem dX2_beginsPhrase_0 : decode cX2_beginsPhrase 0 = .ok (.iload_n 1, 1) := by decide +kernel
theorem dX2_beginsPhrase_1 : decode cX2_beginsPhrase 1 = .ok (.ifCond .eq 26, 3) := by decide +kernel
theorem dX2_beginsPhrase_4 : decode cX2_beginsPhrase 4 = .ok (.aload_n 0, 1) := by decide +kernel
theorem dX2_beginsPhrase_5 : decode cX2_beginsPhrase 5 = .ok (.getfield 14, 3) := by decide +kernel
theorem dX2_beginsPhrase_8 : decode cX2_beginsPhrase 8 = .ok (.iload_n 1, 1) := by decide +kernel
theorem dX2_beginsPhrase_9 : decode cX2_beginsPhrase 9 = .ok (.invokevirtual 36, 3) := by decide +kernel
theorem dX2_beginsPhrase_12 : decode cX2_beginsPhrase 12 = .ok (.aload_n 0, 1) := by decide +kernel
theorem dX2_beginsPhrase_13 : decode cX2_beginsPhrase 13 = .ok (.getfield 14, 3) := by decide +kernel
theorem dX2_beginsPhrase_16 : decode cX2_beginsPhrase 16 = .ok (.iload_n 1, 1) := by decide +kernel
theorem dX2_beginsPhrase_17 : decode cX2_beginsPhrase 17 = .ok (.iconst 1, 1) := by decide +kernel
theorem dX2_beginsPhrase_18 : decode cX2_beginsPhrase 18 = .ok (.isub, 1) := by decide +kernel
theorem dX2_beginsPhrase_19 : decode cX2_beginsPhrase 19 = .ok (.invokevirtual 36, 3) := by decide +kernel
theorem dX2_beginsPhrase_22 : decode cX2_beginsPhrase 22 = .ok (.isub, 1) := by decide +kernel
theorem dX2_beginsPhrase_23 : decode cX2_beginsPhrase 23 = .ok (.iload_n 2, 1) := by decide +kernel
theorem dX2_beginsPhrase_24 : decode cX2_beginsPhrase 24 = .ok (.if_icmp .lt 7, 3) := by decide +kernel
theorem dX2_beginsPhrase_27 : decode cX2_beginsPhrase 27 = .ok (.iconst 1, 1) := by decide +kernel
theorem dX2_beginsPhrase_28 : decode cX2_beginsPhrase 28 = .ok (.goto 4, 3) := by decide +kernel
theorem dX2_beginsPhrase_31 : decode cX2_beginsPhrase 31 = .ok (.iconst 0, 1) := by decide +kernel
theorem dX2_beginsPhrase_32 : decode cX2_beginsPhrase 32 = .ok (.ireturn, 1) := by decide +kernel
theorem dX2_phraseOf_0 : decode cX2_phraseOf 0 = .ok (.iconst (-1), 1) := by decide +kernel
theorem dX2_phraseOf_1 : decode cX2_phraseOf 1 = .ok (.istore_n 3, 1) := by decide +kernel
theorem dX2_phraseOf_2 : decode cX2_phraseOf 2 = .ok (.iconst 0, 1) := by decide +kernel
theorem dX2_phraseOf_3 : decode cX2_phraseOf 3 = .ok (.istore 4, 2) := by decide +kernel
theorem dX2_phraseOf_5 : decode cX2_phraseOf 5 = .ok (.iload 4, 2) := by decide +kernel
theorem dX2_phraseOf_7 : decode cX2_phraseOf 7 = .ok (.iload_n 1, 1) := by decide +kernel
theorem dX2_phraseOf_8 : decode cX2_phraseOf 8 = .ok (.if_icmp .gt 22, 3) := by decide +kernel
theorem dX2_phraseOf_11 : decode cX2_phraseOf 11 = .ok (.aload_n 0, 1) := by decide +kernel
theorem dX2_phraseOf_12 : decode cX2_phraseOf 12 = .ok (.iload 4, 2) := by decide +kernel
theorem dX2_phraseOf_14 : decode cX2_phraseOf 14 = .ok (.iload_n 2, 1) := by decide +kernel
theorem dX2_phraseOf_15 : decode cX2_phraseOf 15 = .ok (.invokevirtual 58, 3) := by decide +kernel
theorem dX2_phraseOf_18 : decode cX2_phraseOf 18 = .ok (.ifCond .eq 6, 3) := by decide +kernel
theorem dX2_phraseOf_21 : decode cX2_phraseOf 21 = .ok (.iinc 3 1, 3) := by decide +kernel
theorem dX2_phraseOf_24 : decode cX2_phraseOf 24 = .ok (.iinc 4 1, 3) := by decide +kernel
theorem dX2_phraseOf_27 : decode cX2_phraseOf 27 = .ok (.goto (-22), 3) := by decide +kernel
theorem dX2_phraseOf_30 : decode cX2_phraseOf 30 = .ok (.iload_n 3, 1) := by decide +kernel
theorem dX2_phraseOf_31 : decode cX2_phraseOf 31 = .ok (.ireturn, 1) := by decide +kernel
theorem dX2_phrases_0 : decode cX2_phrases 0 = .ok (.aload_n 0, 1) := by decide +kernel
theorem dX2_phrases_1 : decode cX2_phrases 1 = .ok (.aload_n 0, 1) := by decide +kernel
theorem dX2_phrases_2 : decode cX2_phrases 2 = .ok (.getfield 32, 3) := by decide +kernel
theorem dX2_phrases_5 : decode cX2_phrases 5 = .ok (.iconst 1, 1) := by decide +kernel
theorem dX2_phrases_6 : decode cX2_phrases 6 = .ok (.isub, 1) := by decide +kernel
theorem dX2_phrases_7 : decode cX2_phrases 7 = .ok (.iload_n 1, 1) := by decide +kernel
theorem dX2_phrases_8 : decode cX2_phrases 8 = .ok (.invokevirtual 62, 3) := by decide +kernel
theorem dX2_phrases_11 : decode cX2_phrases 11 = .ok (.iconst 1, 1) := by decide +kernel
theorem dX2_phrases_12 : decode cX2_phrases 12 = .ok (.iadd, 1) := by decide +kernel
theorem dX2_phrases_13 : decode cX2_phrases 13 = .ok (.ireturn, 1) := by decide +kernel
theorem dX2_keepSilence_0 : decode cX2_keepSilence 0 = .ok (.aload_n 0, 1) := by decide +kernel
theorem dX2_keepSilence_1 : decode cX2_keepSilence 1 = .ok (.getfield 23, 3) := by decide +kernel
theorem dX2_keepSilence_4 : decode cX2_keepSilence 4 = .ok (.iload_n 1, 1) := by decide +kernel
theorem dX2_keepSilence_5 : decode cX2_keepSilence 5 = .ok (.iconst 1, 1) := by decide +kernel
theorem dX2_keepSilence_6 : decode cX2_keepSilence 6 = .ok (.invokevirtual 66, 3) := by decide +kernel
theorem dX2_keepSilence_9 : decode cX2_keepSilence 9 = .ok (.return_, 1) := by decide +kernel
theorem dX2_keepSound_0 : decode cX2_keepSound 0 = .ok (.aload_n 0, 1) := by decide +kernel
theorem dX2_keepSound_1 : decode cX2_keepSound 1 = .ok (.getfield 23, 3) := by decide +kernel
theorem dX2_keepSound_4 : decode cX2_keepSound 4 = .ok (.iload_n 1, 1) := by decide +kernel
theorem dX2_keepSound_5 : decode cX2_keepSound 5 = .ok (.iload 4, 2) := by decide +kernel
theorem dX2_keepSound_7 : decode cX2_keepSound 7 = .ok (.ifCond .eq 7, 3) := by decide +kernel
theorem dX2_keepSound_10 : decode cX2_keepSound 10 = .ok (.iconst 3, 1) := by decide +kernel
theorem dX2_keepSound_11 : decode cX2_keepSound 11 = .ok (.goto 4, 3) := by decide +kernel
theorem dX2_keepSound_14 : decode cX2_keepSound 14 = .ok (.iconst 2, 1) := by decide +kernel
theorem dX2_keepSound_15 : decode cX2_keepSound 15 = .ok (.invokevirtual 66, 3) := by decide +kernel
theorem dX2_keepSound_18 : decode cX2_keepSound 18 = .ok (.aload_n 0, 1) := by decide +kernel
theorem dX2_keepSound_19 : decode cX2_keepSound 19 = .ok (.getfield 26, 3) := by decide +kernel
theorem dX2_keepSound_22 : decode cX2_keepSound 22 = .ok (.iload_n 1, 1) := by decide +kernel
theorem dX2_keepSound_23 : decode cX2_keepSound 23 = .ok (.iload_n 2, 1) := by decide +kernel
theorem dX2_keepSound_24 : decode cX2_keepSound 24 = .ok (.invokevirtual 66, 3) := by decide +kernel
theorem dX2_keepSound_27 : decode cX2_keepSound 27 = .ok (.aload_n 0, 1) := by decide +kernel
theorem dX2_keepSound_28 : decode cX2_keepSound 28 = .ok (.getfield 29, 3) := by decide +kernel
theorem dX2_keepSound_31 : decode cX2_keepSound 31 = .ok (.iload_n 1, 1) := by decide +kernel
theorem dX2_keepSound_32 : decode cX2_keepSound 32 = .ok (.iload_n 3, 1) := by decide +kernel
theorem dX2_keepSound_33 : decode cX2_keepSound 33 = .ok (.invokevirtual 66, 3) := by decide +kernel
theorem dX2_keepSound_36 : decode cX2_keepSound 36 = .ok (.return_, 1) := by decide +kernel
theorem dX2_forgetPlaying_0 : decode cX2_forgetPlaying 0 = .ok (.iconst 0, 1) := by decide +kernel
theorem dX2_forgetPlaying_1 : decode cX2_forgetPlaying 1 = .ok (.istore_n 1, 1) := by decide +kernel
theorem dX2_forgetPlaying_2 : decode cX2_forgetPlaying 2 = .ok (.iload_n 1, 1) := by decide +kernel
theorem dX2_forgetPlaying_3 : decode cX2_forgetPlaying 3 = .ok (.aload_n 0, 1) := by decide +kernel
theorem dX2_forgetPlaying_4 : decode cX2_forgetPlaying 4 = .ok (.getfield 32, 3) := by decide +kernel
theorem dX2_forgetPlaying_7 : decode cX2_forgetPlaying 7 = .ok (.if_icmp .ge 18, 3) := by decide +kernel
theorem dX2_forgetPlaying_10 : decode cX2_forgetPlaying 10 = .ok (.aload_n 0, 1) := by decide +kernel
theorem dX2_forgetPlaying_11 : decode cX2_forgetPlaying 11 = .ok (.getfield 23, 3) := by decide +kernel
theorem dX2_forgetPlaying_14 : decode cX2_forgetPlaying 14 = .ok (.iload_n 1, 1) := by decide +kernel
theorem dX2_forgetPlaying_15 : decode cX2_forgetPlaying 15 = .ok (.iconst 0, 1) := by decide +kernel
theorem dX2_forgetPlaying_16 : decode cX2_forgetPlaying 16 = .ok (.invokevirtual 66, 3) := by decide +kernel
theorem dX2_forgetPlaying_19 : decode cX2_forgetPlaying 19 = .ok (.iinc 1 1, 3) := by decide +kernel
theorem dX2_forgetPlaying_22 : decode cX2_forgetPlaying 22 = .ok (.goto (-20), 3) := by decide +kernel
theorem dX2_forgetPlaying_25 : decode cX2_forgetPlaying 25 = .ok (.return_, 1) := by decide +kernel
theorem dX2_sounded_0 : decode cX2_sounded 0 = .ok (.aload_n 0, 1) := by decide +kernel
theorem dX2_sounded_1 : decode cX2_sounded 1 = .ok (.getfield 23, 3) := by decide +kernel
theorem dX2_sounded_4 : decode cX2_sounded 4 = .ok (.iload_n 1, 1) := by decide +kernel
theorem dX2_sounded_5 : decode cX2_sounded 5 = .ok (.invokevirtual 36, 3) := by decide +kernel
theorem dX2_sounded_8 : decode cX2_sounded 8 = .ok (.iconst 2, 1) := by decide +kernel
theorem dX2_sounded_9 : decode cX2_sounded 9 = .ok (.if_icmp .eq 15, 3) := by decide +kernel
theorem dX2_sounded_12 : decode cX2_sounded 12 = .ok (.aload_n 0, 1) := by decide +kernel
theorem dX2_sounded_13 : decode cX2_sounded 13 = .ok (.getfield 23, 3) := by decide +kernel
theorem dX2_sounded_16 : decode cX2_sounded 16 = .ok (.iload_n 1, 1) := by decide +kernel
theorem dX2_sounded_17 : decode cX2_sounded 17 = .ok (.invokevirtual 36, 3) := by decide +kernel
theorem dX2_sounded_20 : decode cX2_sounded 20 = .ok (.iconst 3, 1) := by decide +kernel
theorem dX2_sounded_21 : decode cX2_sounded 21 = .ok (.if_icmp .ne 7, 3) := by decide +kernel
theorem dX2_sounded_24 : decode cX2_sounded 24 = .ok (.iconst 1, 1) := by decide +kernel
theorem dX2_sounded_25 : decode cX2_sounded 25 = .ok (.goto 4, 3) := by decide +kernel
theorem dX2_sounded_28 : decode cX2_sounded 28 = .ok (.iconst 0, 1) := by decide +kernel
theorem dX2_sounded_29 : decode cX2_sounded 29 = .ok (.ireturn, 1) := by decide +kernel
theorem dX2_notesWith_0 : decode cX2_notesWith 0 = .ok (.iconst 0, 1) := by decide +kernel
theorem dX2_notesWith_1 : decode cX2_notesWith 1 = .ok (.istore_n 2, 1) := by decide +kernel
theorem dX2_notesWith_2 : decode cX2_notesWith 2 = .ok (.iconst 0, 1) := by decide +kernel
theorem dX2_notesWith_3 : decode cX2_notesWith 3 = .ok (.istore_n 3, 1) := by decide +kernel
theorem dX2_notesWith_4 : decode cX2_notesWith 4 = .ok (.iload_n 3, 1) := by decide +kernel
theorem dX2_notesWith_5 : decode cX2_notesWith 5 = .ok (.aload_n 0, 1) := by decide +kernel
theorem dX2_notesWith_6 : decode cX2_notesWith 6 = .ok (.getfield 32, 3) := by decide +kernel
theorem dX2_notesWith_9 : decode cX2_notesWith 9 = .ok (.if_icmp .ge 24, 3) := by decide +kernel
theorem dX2_notesWith_12 : decode cX2_notesWith 12 = .ok (.aload_n 0, 1) := by decide +kernel
theorem dX2_notesWith_13 : decode cX2_notesWith 13 = .ok (.getfield 23, 3) := by decide +kernel
theorem dX2_notesWith_16 : decode cX2_notesWith 16 = .ok (.iload_n 3, 1) := by decide +kernel
theorem dX2_notesWith_17 : decode cX2_notesWith 17 = .ok (.invokevirtual 36, 3) := by decide +kernel
theorem dX2_notesWith_20 : decode cX2_notesWith 20 = .ok (.iload_n 1, 1) := by decide +kernel
theorem dX2_notesWith_21 : decode cX2_notesWith 21 = .ok (.if_icmp .ne 6, 3) := by decide +kernel
theorem dX2_notesWith_24 : decode cX2_notesWith 24 = .ok (.iinc 2 1, 3) := by decide +kernel
theorem dX2_notesWith_27 : decode cX2_notesWith 27 = .ok (.iinc 3 1, 3) := by decide +kernel
theorem dX2_notesWith_30 : decode cX2_notesWith 30 = .ok (.goto (-26), 3) := by decide +kernel
theorem dX2_notesWith_33 : decode cX2_notesWith 33 = .ok (.iload_n 2, 1) := by decide +kernel
theorem dX2_notesWith_34 : decode cX2_notesWith 34 = .ok (.ireturn, 1) := by decide +kernel
theorem dX2_playedNotes_0 : decode cX2_playedNotes 0 = .ok (.aload_n 0, 1) := by decide +kernel
theorem dX2_playedNotes_1 : decode cX2_playedNotes 1 = .ok (.getfield 32, 3) := by decide +kernel
theorem dX2_playedNotes_4 : decode cX2_playedNotes 4 = .ok (.aload_n 0, 1) := by decide +kernel
theorem dX2_playedNotes_5 : decode cX2_playedNotes 5 = .ok (.iconst 0, 1) := by decide +kernel
theorem dX2_playedNotes_6 : decode cX2_playedNotes 6 = .ok (.invokevirtual 69, 3) := by decide +kernel
theorem dX2_playedNotes_9 : decode cX2_playedNotes 9 = .ok (.isub, 1) := by decide +kernel
theorem dX2_playedNotes_10 : decode cX2_playedNotes 10 = .ok (.ireturn, 1) := by decide +kernel
theorem dX2_property_0 : decode cX2_property 0 = .ok (.iload_n 2, 1) := by decide +kernel
theorem dX2_property_1 : decode cX2_property 1 = .ok (.tableswitch 166 0 6 #[43, 52, 61, 68, 88, 110, 132], 43) := by decide +kernel
theorem dX2_property_44 : decode cX2_property 44 = .ok (.aload_n 0, 1) := by decide +kernel
theorem dX2_property_45 : decode cX2_property 45 = .ok (.getfield 14, 3) := by decide +kernel
theorem dX2_property_48 : decode cX2_property 48 = .ok (.iload_n 1, 1) := by decide +kernel
theorem dX2_property_49 : decode cX2_property 49 = .ok (.invokevirtual 36, 3) := by decide +kernel
theorem dX2_property_52 : decode cX2_property 52 = .ok (.ireturn, 1) := by decide +kernel
theorem dX2_property_53 : decode cX2_property 53 = .ok (.aload_n 0, 1) := by decide +kernel
theorem dX2_property_54 : decode cX2_property 54 = .ok (.getfield 20, 3) := by decide +kernel
theorem dX2_property_57 : decode cX2_property 57 = .ok (.iload_n 1, 1) := by decide +kernel
theorem dX2_property_58 : decode cX2_property 58 = .ok (.invokevirtual 36, 3) := by decide +kernel
theorem dX2_property_61 : decode cX2_property 61 = .ok (.ireturn, 1) := by decide +kernel
theorem dX2_property_62 : decode cX2_property 62 = .ok (.aload_n 0, 1) := by decide +kernel
theorem dX2_property_63 : decode cX2_property 63 = .ok (.iload_n 1, 1) := by decide +kernel
theorem dX2_property_64 : decode cX2_property 64 = .ok (.iload_n 3, 1) := by decide +kernel
theorem dX2_property_65 : decode cX2_property 65 = .ok (.invokevirtual 62, 3) := by decide +kernel
theorem dX2_property_68 : decode cX2_property 68 = .ok (.ireturn, 1) := by decide +kernel
theorem dX2_property_69 : decode cX2_property 69 = .ok (.aload_n 0, 1) := by decide +kernel
theorem dX2_property_70 : decode cX2_property 70 = .ok (.getfield 23, 3) := by decide +kernel
theorem dX2_property_73 : decode cX2_property 73 = .ok (.iload_n 1, 1) := by decide +kernel
theorem dX2_property_74 : decode cX2_property 74 = .ok (.invokevirtual 36, 3) := by decide +kernel
theorem dX2_property_77 : decode cX2_property 77 = .ok (.ifCond .eq 7, 3) := by decide +kernel
theorem dX2_property_80 : decode cX2_property 80 = .ok (.iconst 1, 1) := by decide +kernel
theorem dX2_property_81 : decode cX2_property 81 = .ok (.goto 4, 3) := by decide +kernel
theorem dX2_property_84 : decode cX2_property 84 = .ok (.iconst 0, 1) := by decide +kernel
theorem dX2_property_85 : decode cX2_property 85 = .ok (.invokestatic 72, 3) := by decide +kernel
theorem dX2_property_88 : decode cX2_property 88 = .ok (.ireturn, 1) := by decide +kernel
theorem dX2_property_89 : decode cX2_property 89 = .ok (.aload_n 0, 1) := by decide +kernel
theorem dX2_property_90 : decode cX2_property 90 = .ok (.iload_n 1, 1) := by decide +kernel
theorem dX2_property_91 : decode cX2_property 91 = .ok (.invokevirtual 76, 3) := by decide +kernel
theorem dX2_property_94 : decode cX2_property 94 = .ok (.ifCond .eq 14, 3) := by decide +kernel
theorem dX2_property_97 : decode cX2_property 97 = .ok (.aload_n 0, 1) := by decide +kernel
theorem dX2_property_98 : decode cX2_property 98 = .ok (.getfield 26, 3) := by decide +kernel
theorem dX2_property_101 : decode cX2_property 101 = .ok (.iload_n 1, 1) := by decide +kernel
theorem dX2_property_102 : decode cX2_property 102 = .ok (.invokevirtual 36, 3) := by decide +kernel
theorem dX2_property_105 : decode cX2_property 105 = .ok (.goto 5, 3) := by decide +kernel
theorem dX2_property_108 : decode cX2_property 108 = .ok (.ldc 80, 2) := by decide +kernel
theorem dX2_property_110 : decode cX2_property 110 = .ok (.ireturn, 1) := by decide +kernel
theorem dX2_property_111 : decode cX2_property 111 = .ok (.aload_n 0, 1) := by decide +kernel
theorem dX2_property_112 : decode cX2_property 112 = .ok (.iload_n 1, 1) := by decide +kernel
theorem dX2_property_113 : decode cX2_property 113 = .ok (.invokevirtual 76, 3) := by decide +kernel
theorem dX2_property_116 : decode cX2_property 116 = .ok (.ifCond .eq 14, 3) := by decide +kernel
theorem dX2_property_119 : decode cX2_property 119 = .ok (.aload_n 0, 1) := by decide +kernel
theorem dX2_property_120 : decode cX2_property 120 = .ok (.getfield 29, 3) := by decide +kernel
theorem dX2_property_123 : decode cX2_property 123 = .ok (.iload_n 1, 1) := by decide +kernel
theorem dX2_property_124 : decode cX2_property 124 = .ok (.invokevirtual 36, 3) := by decide +kernel
theorem dX2_property_127 : decode cX2_property 127 = .ok (.goto 5, 3) := by decide +kernel
theorem dX2_property_130 : decode cX2_property 130 = .ok (.ldc 80, 2) := by decide +kernel
theorem dX2_property_132 : decode cX2_property 132 = .ok (.ireturn, 1) := by decide +kernel
theorem dX2_property_133 : decode cX2_property 133 = .ok (.aload_n 0, 1) := by decide +kernel
theorem dX2_property_134 : decode cX2_property 134 = .ok (.iload_n 1, 1) := by decide +kernel
theorem dX2_property_135 : decode cX2_property 135 = .ok (.invokevirtual 76, 3) := by decide +kernel
theorem dX2_property_138 : decode cX2_property 138 = .ok (.ifCond .eq 26, 3) := by decide +kernel
theorem dX2_property_141 : decode cX2_property 141 = .ok (.aload_n 0, 1) := by decide +kernel
theorem dX2_property_142 : decode cX2_property 142 = .ok (.getfield 23, 3) := by decide +kernel
theorem dX2_property_145 : decode cX2_property 145 = .ok (.iload_n 1, 1) := by decide +kernel
theorem dX2_property_146 : decode cX2_property 146 = .ok (.invokevirtual 36, 3) := by decide +kernel
theorem dX2_property_149 : decode cX2_property 149 = .ok (.iconst 3, 1) := by decide +kernel
theorem dX2_property_150 : decode cX2_property 150 = .ok (.if_icmp .ne 7, 3) := by decide +kernel
theorem dX2_property_153 : decode cX2_property 153 = .ok (.iconst 1, 1) := by decide +kernel
theorem dX2_property_154 : decode cX2_property 154 = .ok (.goto 4, 3) := by decide +kernel
theorem dX2_property_157 : decode cX2_property 157 = .ok (.iconst 0, 1) := by decide +kernel
theorem dX2_property_158 : decode cX2_property 158 = .ok (.invokestatic 72, 3) := by decide +kernel
theorem dX2_property_161 : decode cX2_property 161 = .ok (.goto 5, 3) := by decide +kernel
theorem dX2_property_164 : decode cX2_property 164 = .ok (.ldc 80, 2) := by decide +kernel
theorem dX2_property_166 : decode cX2_property 166 = .ok (.ireturn, 1) := by decide +kernel
theorem dX2_property_167 : decode cX2_property 167 = .ok (.ldc 81, 2) := by decide +kernel
theorem dX2_property_169 : decode cX2_property 169 = .ok (.ireturn, 1) := by decide +kernel
theorem dX2_errorSize_0 : decode cX2_errorSize 0 = .ok (.aload_n 0, 1) := by decide +kernel
theorem dX2_errorSize_1 : decode cX2_errorSize 1 = .ok (.getfield 29, 3) := by decide +kernel
theorem dX2_errorSize_4 : decode cX2_errorSize 4 = .ok (.iload_n 1, 1) := by decide +kernel
theorem dX2_errorSize_5 : decode cX2_errorSize 5 = .ok (.invokevirtual 36, 3) := by decide +kernel
theorem dX2_errorSize_8 : decode cX2_errorSize 8 = .ok (.invokestatic 82, 3) := by decide +kernel
theorem dX2_errorSize_11 : decode cX2_errorSize 11 = .ok (.ireturn, 1) := by decide +kernel
theorem dX2_noteAtRank_0 : decode cX2_noteAtRank 0 = .ok (.iconst 0, 1) := by decide +kernel
theorem dX2_noteAtRank_1 : decode cX2_noteAtRank 1 = .ok (.istore_n 2, 1) := by decide +kernel
theorem dX2_noteAtRank_2 : decode cX2_noteAtRank 2 = .ok (.iload_n 2, 1) := by decide +kernel
theorem dX2_noteAtRank_3 : decode cX2_noteAtRank 3 = .ok (.aload_n 0, 1) := by decide +kernel
theorem dX2_noteAtRank_4 : decode cX2_noteAtRank 4 = .ok (.getfield 32, 3) := by decide +kernel
theorem dX2_noteAtRank_7 : decode cX2_noteAtRank 7 = .ok (.if_icmp .ge 28, 3) := by decide +kernel
theorem dX2_noteAtRank_10 : decode cX2_noteAtRank 10 = .ok (.aload_n 0, 1) := by decide +kernel
theorem dX2_noteAtRank_11 : decode cX2_noteAtRank 11 = .ok (.iload_n 2, 1) := by decide +kernel
theorem dX2_noteAtRank_12 : decode cX2_noteAtRank 12 = .ok (.invokevirtual 76, 3) := by decide +kernel
theorem dX2_noteAtRank_15 : decode cX2_noteAtRank 15 = .ok (.ifCond .eq 14, 3) := by decide +kernel
theorem dX2_noteAtRank_18 : decode cX2_noteAtRank 18 = .ok (.aload_n 0, 1) := by decide +kernel
theorem dX2_noteAtRank_19 : decode cX2_noteAtRank 19 = .ok (.iload_n 2, 1) := by decide +kernel
theorem dX2_noteAtRank_20 : decode cX2_noteAtRank 20 = .ok (.invokevirtual 87, 3) := by decide +kernel
theorem dX2_noteAtRank_23 : decode cX2_noteAtRank 23 = .ok (.iload_n 1, 1) := by decide +kernel
theorem dX2_noteAtRank_24 : decode cX2_noteAtRank 24 = .ok (.if_icmp .ne 5, 3) := by decide +kernel
theorem dX2_noteAtRank_27 : decode cX2_noteAtRank 27 = .ok (.iload_n 2, 1) := by decide +kernel
theorem dX2_noteAtRank_28 : decode cX2_noteAtRank 28 = .ok (.ireturn, 1) := by decide +kernel
theorem dX2_noteAtRank_29 : decode cX2_noteAtRank 29 = .ok (.iinc 2 1, 3) := by decide +kernel
theorem dX2_noteAtRank_32 : decode cX2_noteAtRank 32 = .ok (.goto (-30), 3) := by decide +kernel
theorem dX2_noteAtRank_35 : decode cX2_noteAtRank 35 = .ok (.iconst (-1), 1) := by decide +kernel
theorem dX2_noteAtRank_36 : decode cX2_noteAtRank 36 = .ok (.ireturn, 1) := by decide +kernel
theorem dX2_rankOf_0 : decode cX2_rankOf 0 = .ok (.iconst 0, 1) := by decide +kernel
theorem dX2_rankOf_1 : decode cX2_rankOf 1 = .ok (.istore_n 2, 1) := by decide +kernel
theorem dX2_rankOf_2 : decode cX2_rankOf 2 = .ok (.iconst 0, 1) := by decide +kernel
theorem dX2_rankOf_3 : decode cX2_rankOf 3 = .ok (.istore_n 3, 1) := by decide +kernel
theorem dX2_rankOf_4 : decode cX2_rankOf 4 = .ok (.iload_n 3, 1) := by decide +kernel
theorem dX2_rankOf_5 : decode cX2_rankOf 5 = .ok (.aload_n 0, 1) := by decide +kernel
theorem dX2_rankOf_6 : decode cX2_rankOf 6 = .ok (.getfield 32, 3) := by decide +kernel
theorem dX2_rankOf_9 : decode cX2_rankOf 9 = .ok (.if_icmp .ge 75, 3) := by decide +kernel
theorem dX2_rankOf_12 : decode cX2_rankOf 12 = .ok (.aload_n 0, 1) := by decide +kernel
theorem dX2_rankOf_13 : decode cX2_rankOf 13 = .ok (.iload_n 3, 1) := by decide +kernel
theorem dX2_rankOf_14 : decode cX2_rankOf 14 = .ok (.invokevirtual 90, 3) := by decide +kernel
theorem dX2_rankOf_17 : decode cX2_rankOf 17 = .ok (.aload_n 0, 1) := by decide +kernel
theorem dX2_rankOf_18 : decode cX2_rankOf 18 = .ok (.iload_n 1, 1) := by decide +kernel
theorem dX2_rankOf_19 : decode cX2_rankOf 19 = .ok (.invokevirtual 90, 3) := by decide +kernel
theorem dX2_rankOf_22 : decode cX2_rankOf 22 = .ok (.if_icmp .le 7, 3) := by decide +kernel
theorem dX2_rankOf_25 : decode cX2_rankOf 25 = .ok (.iconst 1, 1) := by decide +kernel
theorem dX2_rankOf_26 : decode cX2_rankOf 26 = .ok (.goto 4, 3) := by decide +kernel
theorem dX2_rankOf_29 : decode cX2_rankOf 29 = .ok (.iconst 0, 1) := by decide +kernel
theorem dX2_rankOf_30 : decode cX2_rankOf 30 = .ok (.istore 4, 2) := by decide +kernel
theorem dX2_rankOf_32 : decode cX2_rankOf 32 = .ok (.aload_n 0, 1) := by decide +kernel
theorem dX2_rankOf_33 : decode cX2_rankOf 33 = .ok (.iload_n 3, 1) := by decide +kernel
theorem dX2_rankOf_34 : decode cX2_rankOf 34 = .ok (.invokevirtual 90, 3) := by decide +kernel
theorem dX2_rankOf_37 : decode cX2_rankOf 37 = .ok (.aload_n 0, 1) := by decide +kernel
theorem dX2_rankOf_38 : decode cX2_rankOf 38 = .ok (.iload_n 1, 1) := by decide +kernel
theorem dX2_rankOf_39 : decode cX2_rankOf 39 = .ok (.invokevirtual 90, 3) := by decide +kernel
theorem dX2_rankOf_42 : decode cX2_rankOf 42 = .ok (.if_icmp .ne 12, 3) := by decide +kernel
theorem dX2_rankOf_45 : decode cX2_rankOf 45 = .ok (.iload_n 3, 1) := by decide +kernel
theorem dX2_rankOf_46 : decode cX2_rankOf 46 = .ok (.iload_n 1, 1) := by decide +kernel
theorem dX2_rankOf_47 : decode cX2_rankOf 47 = .ok (.if_icmp .ge 7, 3) := by decide +kernel
theorem dX2_rankOf_50 : decode cX2_rankOf 50 = .ok (.iconst 1, 1) := by decide +kernel
theorem dX2_rankOf_51 : decode cX2_rankOf 51 = .ok (.goto 4, 3) := by decide +kernel
theorem dX2_rankOf_54 : decode cX2_rankOf 54 = .ok (.iconst 0, 1) := by decide +kernel
theorem dX2_rankOf_55 : decode cX2_rankOf 55 = .ok (.istore 5, 2) := by decide +kernel
theorem dX2_rankOf_57 : decode cX2_rankOf 57 = .ok (.aload_n 0, 1) := by decide +kernel
theorem dX2_rankOf_58 : decode cX2_rankOf 58 = .ok (.iload_n 3, 1) := by decide +kernel
theorem dX2_rankOf_59 : decode cX2_rankOf 59 = .ok (.invokevirtual 76, 3) := by decide +kernel
theorem dX2_rankOf_62 : decode cX2_rankOf 62 = .ok (.ifCond .eq 16, 3) := by decide +kernel
theorem dX2_rankOf_65 : decode cX2_rankOf 65 = .ok (.iload 4, 2) := by decide +kernel
theorem dX2_rankOf_67 : decode cX2_rankOf 67 = .ok (.ifCond .ne 8, 3) := by decide +kernel
theorem dX2_rankOf_70 : decode cX2_rankOf 70 = .ok (.iload 5, 2) := by decide +kernel
theorem dX2_rankOf_72 : decode cX2_rankOf 72 = .ok (.ifCond .eq 6, 3) := by decide +kernel
theorem dX2_rankOf_75 : decode cX2_rankOf 75 = .ok (.iinc 2 1, 3) := by decide +kernel
theorem dX2_rankOf_78 : decode cX2_rankOf 78 = .ok (.iinc 3 1, 3) := by decide +kernel
theorem dX2_rankOf_81 : decode cX2_rankOf 81 = .ok (.goto (-77), 3) := by decide +kernel
theorem dX2_rankOf_84 : decode cX2_rankOf 84 = .ok (.iload_n 2, 1) := by decide +kernel
theorem dX2_rankOf_85 : decode cX2_rankOf 85 = .ok (.ireturn, 1) := by decide +kernel
theorem dX2_firstFalseAfter_0 : decode cX2_firstFalseAfter 0 = .ok (.iconst 0, 1) := by decide +kernel
theorem dX2_firstFalseAfter_1 : decode cX2_firstFalseAfter 1 = .ok (.istore_n 2, 1) := by decide +kernel
theorem dX2_firstFalseAfter_2 : decode cX2_firstFalseAfter 2 = .ok (.iload_n 2, 1) := by decide +kernel
theorem dX2_firstFalseAfter_3 : decode cX2_firstFalseAfter 3 = .ok (.aload_n 0, 1) := by decide +kernel
theorem dX2_firstFalseAfter_4 : decode cX2_firstFalseAfter 4 = .ok (.getfield 32, 3) := by decide +kernel
theorem dX2_firstFalseAfter_7 : decode cX2_firstFalseAfter 7 = .ok (.if_icmp .ge 35, 3) := by decide +kernel
theorem dX2_firstFalseAfter_10 : decode cX2_firstFalseAfter 10 = .ok (.aload_n 0, 1) := by decide +kernel
theorem dX2_firstFalseAfter_11 : decode cX2_firstFalseAfter 11 = .ok (.getfield 14, 3) := by decide +kernel
theorem dX2_firstFalseAfter_14 : decode cX2_firstFalseAfter 14 = .ok (.iload_n 2, 1) := by decide +kernel
theorem dX2_firstFalseAfter_15 : decode cX2_firstFalseAfter 15 = .ok (.invokevirtual 36, 3) := by decide +kernel
theorem dX2_firstFalseAfter_18 : decode cX2_firstFalseAfter 18 = .ok (.iload_n 1, 1) := by decide +kernel
theorem dX2_firstFalseAfter_19 : decode cX2_firstFalseAfter 19 = .ok (.if_icmp .le 17, 3) := by decide +kernel
theorem dX2_firstFalseAfter_22 : decode cX2_firstFalseAfter 22 = .ok (.aload_n 0, 1) := by decide +kernel
theorem dX2_firstFalseAfter_23 : decode cX2_firstFalseAfter 23 = .ok (.getfield 23, 3) := by decide +kernel
theorem dX2_firstFalseAfter_26 : decode cX2_firstFalseAfter 26 = .ok (.iload_n 2, 1) := by decide +kernel
theorem dX2_firstFalseAfter_27 : decode cX2_firstFalseAfter 27 = .ok (.invokevirtual 36, 3) := by decide +kernel
theorem dX2_firstFalseAfter_30 : decode cX2_firstFalseAfter 30 = .ok (.iconst 2, 1) := by decide +kernel
theorem dX2_firstFalseAfter_31 : decode cX2_firstFalseAfter 31 = .ok (.if_icmp .ne 5, 3) := by decide +kernel
theorem dX2_firstFalseAfter_34 : decode cX2_firstFalseAfter 34 = .ok (.iload_n 2, 1) := by decide +kernel
theorem dX2_firstFalseAfter_35 : decode cX2_firstFalseAfter 35 = .ok (.ireturn, 1) := by decide +kernel
theorem dX2_firstFalseAfter_36 : decode cX2_firstFalseAfter 36 = .ok (.iinc 2 1, 3) := by decide +kernel
theorem dX2_firstFalseAfter_39 : decode cX2_firstFalseAfter 39 = .ok (.goto (-37), 3) := by decide +kernel
theorem dX2_firstFalseAfter_42 : decode cX2_firstFalseAfter 42 = .ok (.iconst (-1), 1) := by decide +kernel
theorem dX2_firstFalseAfter_43 : decode cX2_firstFalseAfter 43 = .ok (.ireturn, 1) := by decide +kernel
theorem dX2_greatestErrorAfter_0 : decode cX2_greatestErrorAfter 0 = .ok (.iconst (-1), 1) := by decide +kernel
theorem dX2_greatestErrorAfter_1 : decode cX2_greatestErrorAfter 1 = .ok (.istore_n 2, 1) := by decide +kernel
theorem dX2_greatestErrorAfter_2 : decode cX2_greatestErrorAfter 2 = .ok (.iconst 0, 1) := by decide +kernel
theorem dX2_greatestErrorAfter_3 : decode cX2_greatestErrorAfter 3 = .ok (.istore_n 3, 1) := by decide +kernel
theorem dX2_greatestErrorAfter_4 : decode cX2_greatestErrorAfter 4 = .ok (.iload_n 3, 1) := by decide +kernel
theorem dX2_greatestErrorAfter_5 : decode cX2_greatestErrorAfter 5 = .ok (.aload_n 0, 1) := by decide +kernel
theorem dX2_greatestErrorAfter_6 : decode cX2_greatestErrorAfter 6 = .ok (.getfield 32, 3) := by decide +kernel
theorem dX2_greatestErrorAfter_9 : decode cX2_greatestErrorAfter 9 = .ok (.if_icmp .ge 39, 3) := by decide +kernel
theorem dX2_greatestErrorAfter_12 : decode cX2_greatestErrorAfter 12 = .ok (.aload_n 0, 1) := by decide +kernel
theorem dX2_greatestErrorAfter_13 : decode cX2_greatestErrorAfter 13 = .ok (.getfield 14, 3) := by decide +kernel
theorem dX2_greatestErrorAfter_16 : decode cX2_greatestErrorAfter 16 = .ok (.iload_n 3, 1) := by decide +kernel
theorem dX2_greatestErrorAfter_17 : decode cX2_greatestErrorAfter 17 = .ok (.invokevirtual 36, 3) := by decide +kernel
theorem dX2_greatestErrorAfter_20 : decode cX2_greatestErrorAfter 20 = .ok (.iload_n 1, 1) := by decide +kernel
theorem dX2_greatestErrorAfter_21 : decode cX2_greatestErrorAfter 21 = .ok (.if_icmp .le 21, 3) := by decide +kernel
theorem dX2_greatestErrorAfter_24 : decode cX2_greatestErrorAfter 24 = .ok (.aload_n 0, 1) := by decide +kernel
theorem dX2_greatestErrorAfter_25 : decode cX2_greatestErrorAfter 25 = .ok (.iload_n 3, 1) := by decide +kernel
theorem dX2_greatestErrorAfter_26 : decode cX2_greatestErrorAfter 26 = .ok (.invokevirtual 76, 3) := by decide +kernel
theorem dX2_greatestErrorAfter_29 : decode cX2_greatestErrorAfter 29 = .ok (.ifCond .eq 13, 3) := by decide +kernel
theorem dX2_greatestErrorAfter_32 : decode cX2_greatestErrorAfter 32 = .ok (.iload_n 2, 1) := by decide +kernel
theorem dX2_greatestErrorAfter_33 : decode cX2_greatestErrorAfter 33 = .ok (.aload_n 0, 1) := by decide +kernel
theorem dX2_greatestErrorAfter_34 : decode cX2_greatestErrorAfter 34 = .ok (.iload_n 3, 1) := by decide +kernel
theorem dX2_greatestErrorAfter_35 : decode cX2_greatestErrorAfter 35 = .ok (.invokevirtual 90, 3) := by decide +kernel
theorem dX2_greatestErrorAfter_38 : decode cX2_greatestErrorAfter 38 = .ok (.invokestatic 93, 3) := by decide +kernel
theorem dX2_greatestErrorAfter_41 : decode cX2_greatestErrorAfter 41 = .ok (.istore_n 2, 1) := by decide +kernel
theorem dX2_greatestErrorAfter_42 : decode cX2_greatestErrorAfter 42 = .ok (.iinc 3 1, 3) := by decide +kernel
theorem dX2_greatestErrorAfter_45 : decode cX2_greatestErrorAfter 45 = .ok (.goto (-41), 3) := by decide +kernel
theorem dX2_greatestErrorAfter_48 : decode cX2_greatestErrorAfter 48 = .ok (.iload_n 2, 1) := by decide +kernel
theorem dX2_greatestErrorAfter_49 : decode cX2_greatestErrorAfter 49 = .ok (.ireturn, 1) := by decide +kernel
theorem dX2_copyFrom_0 : decode cX2_copyFrom 0 = .ok (.aload_n 1, 1) := by decide +kernel
theorem dX2_copyFrom_1 : decode cX2_copyFrom 1 = .ok (.ifnonnull 4, 3) := by decide +kernel
theorem dX2_copyFrom_4 : decode cX2_copyFrom 4 = .ok (.return_, 1) := by decide +kernel
theorem dX2_copyFrom_5 : decode cX2_copyFrom 5 = .ok (.aload_n 0, 1) := by decide +kernel
theorem dX2_copyFrom_6 : decode cX2_copyFrom 6 = .ok (.getfield 14, 3) := by decide +kernel
theorem dX2_copyFrom_9 : decode cX2_copyFrom 9 = .ok (.aload_n 1, 1) := by decide +kernel
theorem dX2_copyFrom_10 : decode cX2_copyFrom 10 = .ok (.getfield 14, 3) := by decide +kernel
theorem dX2_copyFrom_13 : decode cX2_copyFrom 13 = .ok (.invokevirtual 96, 3) := by decide +kernel
theorem dX2_copyFrom_16 : decode cX2_copyFrom 16 = .ok (.aload_n 0, 1) := by decide +kernel
theorem dX2_copyFrom_17 : decode cX2_copyFrom 17 = .ok (.getfield 20, 3) := by decide +kernel
theorem dX2_copyFrom_20 : decode cX2_copyFrom 20 = .ok (.aload_n 1, 1) := by decide +kernel
theorem dX2_copyFrom_21 : decode cX2_copyFrom 21 = .ok (.getfield 20, 3) := by decide +kernel
theorem dX2_copyFrom_24 : decode cX2_copyFrom 24 = .ok (.invokevirtual 96, 3) := by decide +kernel
theorem dX2_copyFrom_27 : decode cX2_copyFrom 27 = .ok (.aload_n 0, 1) := by decide +kernel
theorem dX2_copyFrom_28 : decode cX2_copyFrom 28 = .ok (.getfield 23, 3) := by decide +kernel
theorem dX2_copyFrom_31 : decode cX2_copyFrom 31 = .ok (.aload_n 1, 1) := by decide +kernel
theorem dX2_copyFrom_32 : decode cX2_copyFrom 32 = .ok (.getfield 23, 3) := by decide +kernel
theorem dX2_copyFrom_35 : decode cX2_copyFrom 35 = .ok (.invokevirtual 96, 3) := by decide +kernel
theorem dX2_copyFrom_38 : decode cX2_copyFrom 38 = .ok (.aload_n 0, 1) := by decide +kernel
theorem dX2_copyFrom_39 : decode cX2_copyFrom 39 = .ok (.getfield 26, 3) := by decide +kernel
theorem dX2_copyFrom_42 : decode cX2_copyFrom 42 = .ok (.aload_n 1, 1) := by decide +kernel
theorem dX2_copyFrom_43 : decode cX2_copyFrom 43 = .ok (.getfield 26, 3) := by decide +kernel
theorem dX2_copyFrom_46 : decode cX2_copyFrom 46 = .ok (.invokevirtual 96, 3) := by decide +kernel
theorem dX2_copyFrom_49 : decode cX2_copyFrom 49 = .ok (.aload_n 0, 1) := by decide +kernel
theorem dX2_copyFrom_50 : decode cX2_copyFrom 50 = .ok (.getfield 29, 3) := by decide +kernel
theorem dX2_copyFrom_53 : decode cX2_copyFrom 53 = .ok (.aload_n 1, 1) := by decide +kernel
theorem dX2_copyFrom_54 : decode cX2_copyFrom 54 = .ok (.getfield 29, 3) := by decide +kernel
theorem dX2_copyFrom_57 : decode cX2_copyFrom 57 = .ok (.invokevirtual 96, 3) := by decide +kernel
theorem dX2_copyFrom_60 : decode cX2_copyFrom 60 = .ok (.aload_n 0, 1) := by decide +kernel
theorem dX2_copyFrom_61 : decode cX2_copyFrom 61 = .ok (.aload_n 1, 1) := by decide +kernel
theorem dX2_copyFrom_62 : decode cX2_copyFrom 62 = .ok (.getfield 32, 3) := by decide +kernel
theorem dX2_copyFrom_65 : decode cX2_copyFrom 65 = .ok (.putfield 32, 3) := by decide +kernel
theorem dX2_copyFrom_68 : decode cX2_copyFrom 68 = .ok (.return_, 1) := by decide +kernel
theorem dX3_init_0 : decode cX3_init 0 = .ok (.aload_n 0, 1) := by decide +kernel
theorem dX3_init_1 : decode cX3_init 1 = .ok (.invokespecial 1, 3) := by decide +kernel
theorem dX3_init_4 : decode cX3_init 4 = .ok (.aload_n 0, 1) := by decide +kernel
theorem dX3_init_5 : decode cX3_init 5 = .ok (.iload_n 1, 1) := by decide +kernel
theorem dX3_init_6 : decode cX3_init 6 = .ok (.iconst 0, 1) := by decide +kernel
theorem dX3_init_7 : decode cX3_init 7 = .ok (.invokestatic 7, 3) := by decide +kernel
theorem dX3_init_10 : decode cX3_init 10 = .ok (.newarray .int, 2) := by decide +kernel
theorem dX3_init_12 : decode cX3_init 12 = .ok (.putfield 13, 3) := by decide +kernel
theorem dX3_init_15 : decode cX3_init 15 = .ok (.return_, 1) := by decide +kernel
theorem dX3_get_0 : decode cX3_get 0 = .ok (.iload_n 1, 1) := by decide +kernel
theorem dX3_get_1 : decode cX3_get 1 = .ok (.ifCond .lt 21, 3) := by decide +kernel
theorem dX3_get_4 : decode cX3_get 4 = .ok (.iload_n 1, 1) := by decide +kernel
theorem dX3_get_5 : decode cX3_get 5 = .ok (.aload_n 0, 1) := by decide +kernel
theorem dX3_get_6 : decode cX3_get 6 = .ok (.getfield 13, 3) := by decide +kernel
theorem dX3_get_9 : decode cX3_get 9 = .ok (.arraylength, 1) := by decide +kernel
theorem dX3_get_10 : decode cX3_get 10 = .ok (.if_icmp .ge 12, 3) := by decide +kernel
theorem dX3_get_13 : decode cX3_get 13 = .ok (.aload_n 0, 1) := by decide +kernel
theorem dX3_get_14 : decode cX3_get 14 = .ok (.getfield 13, 3) := by decide +kernel
theorem dX3_get_17 : decode cX3_get 17 = .ok (.iload_n 1, 1) := by decide +kernel
theorem dX3_get_18 : decode cX3_get 18 = .ok (.iaload, 1) := by decide +kernel
theorem dX3_get_19 : decode cX3_get 19 = .ok (.goto 4, 3) := by decide +kernel
theorem dX3_get_22 : decode cX3_get 22 = .ok (.iconst 0, 1) := by decide +kernel
theorem dX3_get_23 : decode cX3_get 23 = .ok (.ireturn, 1) := by decide +kernel
theorem dX3_put_0 : decode cX3_put 0 = .ok (.iload_n 1, 1) := by decide +kernel
theorem dX3_put_1 : decode cX3_put 1 = .ok (.ifCond .lt 19, 3) := by decide +kernel
theorem dX3_put_4 : decode cX3_put 4 = .ok (.iload_n 1, 1) := by decide +kernel
theorem dX3_put_5 : decode cX3_put 5 = .ok (.aload_n 0, 1) := by decide +kernel
theorem dX3_put_6 : decode cX3_put 6 = .ok (.getfield 13, 3) := by decide +kernel
theorem dX3_put_9 : decode cX3_put 9 = .ok (.arraylength, 1) := by decide +kernel
theorem dX3_put_10 : decode cX3_put 10 = .ok (.if_icmp .ge 10, 3) := by decide +kernel
theorem dX3_put_13 : decode cX3_put 13 = .ok (.aload_n 0, 1) := by decide +kernel
theorem dX3_put_14 : decode cX3_put 14 = .ok (.getfield 13, 3) := by decide +kernel
theorem dX3_put_17 : decode cX3_put 17 = .ok (.iload_n 1, 1) := by decide +kernel
theorem dX3_put_18 : decode cX3_put 18 = .ok (.iload_n 2, 1) := by decide +kernel
theorem dX3_put_19 : decode cX3_put 19 = .ok (.iastore, 1) := by decide +kernel
theorem dX3_put_20 : decode cX3_put 20 = .ok (.return_, 1) := by decide +kernel
theorem dX3_add_0 : decode cX3_add 0 = .ok (.aload_n 0, 1) := by decide +kernel
theorem dX3_add_1 : decode cX3_add 1 = .ok (.iload_n 1, 1) := by decide +kernel
theorem dX3_add_2 : decode cX3_add 2 = .ok (.aload_n 0, 1) := by decide +kernel
theorem dX3_add_3 : decode cX3_add 3 = .ok (.iload_n 1, 1) := by decide +kernel
theorem dX3_add_4 : decode cX3_add 4 = .ok (.invokevirtual 19, 3) := by decide +kernel
theorem dX3_add_7 : decode cX3_add 7 = .ok (.iload_n 2, 1) := by decide +kernel
theorem dX3_add_8 : decode cX3_add 8 = .ok (.iadd, 1) := by decide +kernel
theorem dX3_add_9 : decode cX3_add 9 = .ok (.invokevirtual 23, 3) := by decide +kernel
theorem dX3_add_12 : decode cX3_add 12 = .ok (.return_, 1) := by decide +kernel
theorem dX3_insert_0 : decode cX3_insert 0 = .ok (.iload_n 3, 1) := by decide +kernel
theorem dX3_insert_1 : decode cX3_insert 1 = .ok (.istore 4, 2) := by decide +kernel
theorem dX3_insert_3 : decode cX3_insert 3 = .ok (.iload 4, 2) := by decide +kernel
theorem dX3_insert_5 : decode cX3_insert 5 = .ok (.iload_n 1, 1) := by decide +kernel
theorem dX3_insert_6 : decode cX3_insert 6 = .ok (.if_icmp .le 23, 3) := by decide +kernel
theorem dX3_insert_9 : decode cX3_insert 9 = .ok (.aload_n 0, 1) := by decide +kernel
theorem dX3_insert_10 : decode cX3_insert 10 = .ok (.iload 4, 2) := by decide +kernel
theorem dX3_insert_12 : decode cX3_insert 12 = .ok (.aload_n 0, 1) := by decide +kernel
theorem dX3_insert_13 : decode cX3_insert 13 = .ok (.iload 4, 2) := by decide +kernel
theorem dX3_insert_15 : decode cX3_insert 15 = .ok (.iconst 1, 1) := by decide +kernel
theorem dX3_insert_16 : decode cX3_insert 16 = .ok (.isub, 1) := by decide +kernel
theorem dX3_insert_17 : decode cX3_insert 17 = .ok (.invokevirtual 19, 3) := by decide +kernel
theorem dX3_insert_20 : decode cX3_insert 20 = .ok (.invokevirtual 23, 3) := by decide +kernel
theorem dX3_insert_23 : decode cX3_insert 23 = .ok (.iinc 4 (-1), 3) := by decide +kernel
theorem dX3_insert_26 : decode cX3_insert 26 = .ok (.goto (-23), 3) := by decide +kernel
theorem dX3_insert_29 : decode cX3_insert 29 = .ok (.aload_n 0, 1) := by decide +kernel
theorem dX3_insert_30 : decode cX3_insert 30 = .ok (.iload_n 1, 1) := by decide +kernel
theorem dX3_insert_31 : decode cX3_insert 31 = .ok (.iload_n 2, 1) := by decide +kernel
theorem dX3_insert_32 : decode cX3_insert 32 = .ok (.invokevirtual 23, 3) := by decide +kernel
theorem dX3_insert_35 : decode cX3_insert 35 = .ok (.return_, 1) := by decide +kernel
theorem dX3_delete_0 : decode cX3_delete 0 = .ok (.iload_n 1, 1) := by decide +kernel
theorem dX3_delete_1 : decode cX3_delete 1 = .ok (.istore_n 3, 1) := by decide +kernel
theorem dX3_delete_2 : decode cX3_delete 2 = .ok (.iload_n 3, 1) := by decide +kernel
theorem dX3_delete_3 : decode cX3_delete 3 = .ok (.iload_n 2, 1) := by decide +kernel
theorem dX3_delete_4 : decode cX3_delete 4 = .ok (.iconst 1, 1) := by decide +kernel
theorem dX3_delete_5 : decode cX3_delete 5 = .ok (.isub, 1) := by decide +kernel
theorem dX3_delete_6 : decode cX3_delete 6 = .ok (.if_icmp .ge 21, 3) := by decide +kernel
theorem dX3_delete_9 : decode cX3_delete 9 = .ok (.aload_n 0, 1) := by decide +kernel
theorem dX3_delete_10 : decode cX3_delete 10 = .ok (.iload_n 3, 1) := by decide +kernel
theorem dX3_delete_11 : decode cX3_delete 11 = .ok (.aload_n 0, 1) := by decide +kernel
theorem dX3_delete_12 : decode cX3_delete 12 = .ok (.iload_n 3, 1) := by decide +kernel
theorem dX3_delete_13 : decode cX3_delete 13 = .ok (.iconst 1, 1) := by decide +kernel
theorem dX3_delete_14 : decode cX3_delete 14 = .ok (.iadd, 1) := by decide +kernel
theorem dX3_delete_15 : decode cX3_delete 15 = .ok (.invokevirtual 19, 3) := by decide +kernel
theorem dX3_delete_18 : decode cX3_delete 18 = .ok (.invokevirtual 23, 3) := by decide +kernel
theorem dX3_delete_21 : decode cX3_delete 21 = .ok (.iinc 3 1, 3) := by decide +kernel
theorem dX3_delete_24 : decode cX3_delete 24 = .ok (.goto (-22), 3) := by decide +kernel
theorem dX3_delete_27 : decode cX3_delete 27 = .ok (.return_, 1) := by decide +kernel
theorem dX3_copyFrom_0 : decode cX3_copyFrom 0 = .ok (.aload_n 1, 1) := by decide +kernel
theorem dX3_copyFrom_1 : decode cX3_copyFrom 1 = .ok (.ifnull 29, 3) := by decide +kernel
theorem dX3_copyFrom_4 : decode cX3_copyFrom 4 = .ok (.aload_n 1, 1) := by decide +kernel
theorem dX3_copyFrom_5 : decode cX3_copyFrom 5 = .ok (.getfield 13, 3) := by decide +kernel
theorem dX3_copyFrom_8 : decode cX3_copyFrom 8 = .ok (.iconst 0, 1) := by decide +kernel
theorem dX3_copyFrom_9 : decode cX3_copyFrom 9 = .ok (.aload_n 0, 1) := by decide +kernel
theorem dX3_copyFrom_10 : decode cX3_copyFrom 10 = .ok (.getfield 13, 3) := by decide +kernel
theorem dX3_copyFrom_13 : decode cX3_copyFrom 13 = .ok (.iconst 0, 1) := by decide +kernel
theorem dX3_copyFrom_14 : decode cX3_copyFrom 14 = .ok (.aload_n 1, 1) := by decide +kernel
theorem dX3_copyFrom_15 : decode cX3_copyFrom 15 = .ok (.getfield 13, 3) := by decide +kernel
theorem dX3_copyFrom_18 : decode cX3_copyFrom 18 = .ok (.arraylength, 1) := by decide +kernel
theorem dX3_copyFrom_19 : decode cX3_copyFrom 19 = .ok (.aload_n 0, 1) := by decide +kernel
theorem dX3_copyFrom_20 : decode cX3_copyFrom 20 = .ok (.getfield 13, 3) := by decide +kernel
theorem dX3_copyFrom_23 : decode cX3_copyFrom 23 = .ok (.arraylength, 1) := by decide +kernel
theorem dX3_copyFrom_24 : decode cX3_copyFrom 24 = .ok (.invokestatic 27, 3) := by decide +kernel
theorem dX3_copyFrom_27 : decode cX3_copyFrom 27 = .ok (.invokestatic 30, 3) := by decide +kernel
theorem dX3_copyFrom_30 : decode cX3_copyFrom 30 = .ok (.return_, 1) := by decide +kernel
theorem dX4_init_0 : decode cX4_init 0 = .ok (.aload_n 0, 1) := by decide +kernel
theorem dX4_init_1 : decode cX4_init 1 = .ok (.invokespecial 3, 3) := by decide +kernel
theorem dX4_init_4 : decode cX4_init 4 = .ok (.aload_n 0, 1) := by decide +kernel
theorem dX4_init_5 : decode cX4_init 5 = .ok (.new 9, 3) := by decide +kernel
theorem dX4_init_8 : decode cX4_init 8 = .ok (.dup, 1) := by decide +kernel
theorem dX4_init_9 : decode cX4_init 9 = .ok (.invokespecial 11, 3) := by decide +kernel
theorem dX4_init_12 : decode cX4_init 12 = .ok (.putfield 12, 3) := by decide +kernel
theorem dX4_init_15 : decode cX4_init 15 = .ok (.aload_n 0, 1) := by decide +kernel
theorem dX4_init_16 : decode cX4_init 16 = .ok (.new 18, 3) := by decide +kernel
theorem dX4_init_19 : decode cX4_init 19 = .ok (.dup, 1) := by decide +kernel
theorem dX4_init_20 : decode cX4_init 20 = .ok (.invokespecial 20, 3) := by decide +kernel
theorem dX4_init_23 : decode cX4_init 23 = .ok (.putfield 21, 3) := by decide +kernel
theorem dX4_init_26 : decode cX4_init 26 = .ok (.aload_n 0, 1) := by decide +kernel
theorem dX4_init_27 : decode cX4_init 27 = .ok (.new 25, 3) := by decide +kernel
theorem dX4_init_30 : decode cX4_init 30 = .ok (.dup, 1) := by decide +kernel
theorem dX4_init_31 : decode cX4_init 31 = .ok (.iconst 4, 1) := by decide +kernel
theorem dX4_init_32 : decode cX4_init 32 = .ok (.invokespecial 27, 3) := by decide +kernel
theorem dX4_init_35 : decode cX4_init 35 = .ok (.putfield 30, 3) := by decide +kernel
theorem dX4_init_38 : decode cX4_init 38 = .ok (.aload_n 0, 1) := by decide +kernel
theorem dX4_init_39 : decode cX4_init 39 = .ok (.iconst 0, 1) := by decide +kernel
theorem dX4_init_40 : decode cX4_init 40 = .ok (.putfield 34, 3) := by decide +kernel
theorem dX4_init_43 : decode cX4_init 43 = .ok (.aload_n 0, 1) := by decide +kernel
theorem dX4_init_44 : decode cX4_init 44 = .ok (.getfield 30, 3) := by decide +kernel
theorem dX4_init_47 : decode cX4_init 47 = .ok (.iconst 0, 1) := by decide +kernel
theorem dX4_init_48 : decode cX4_init 48 = .ok (.bipush 60, 2) := by decide +kernel
theorem dX4_init_50 : decode cX4_init 50 = .ok (.invokevirtual 38, 3) := by decide +kernel
theorem dX4_init_53 : decode cX4_init 53 = .ok (.aload_n 0, 1) := by decide +kernel
theorem dX4_init_54 : decode cX4_init 54 = .ok (.getfield 30, 3) := by decide +kernel
theorem dX4_init_57 : decode cX4_init 57 = .ok (.iconst 1, 1) := by decide +kernel
theorem dX4_init_58 : decode cX4_init 58 = .ok (.bipush 10, 2) := by decide +kernel
theorem dX4_init_60 : decode cX4_init 60 = .ok (.invokevirtual 38, 3) := by decide +kernel
theorem dX4_init_63 : decode cX4_init 63 = .ok (.aload_n 0, 1) := by decide +kernel
theorem dX4_init_64 : decode cX4_init 64 = .ok (.getfield 30, 3) := by decide +kernel
theorem dX4_init_67 : decode cX4_init 67 = .ok (.iconst 2, 1) := by decide +kernel
theorem dX4_init_68 : decode cX4_init 68 = .ok (.bipush 10, 2) := by decide +kernel
theorem dX4_init_70 : decode cX4_init 70 = .ok (.invokevirtual 38, 3) := by decide +kernel
theorem dX4_init_73 : decode cX4_init 73 = .ok (.aload_n 0, 1) := by decide +kernel
theorem dX4_init_74 : decode cX4_init 74 = .ok (.getfield 30, 3) := by decide +kernel
theorem dX4_init_77 : decode cX4_init 77 = .ok (.iconst 3, 1) := by decide +kernel
theorem dX4_init_78 : decode cX4_init 78 = .ok (.iconst 0, 1) := by decide +kernel
theorem dX4_init_79 : decode cX4_init 79 = .ok (.invokevirtual 38, 3) := by decide +kernel
theorem dX4_init_82 : decode cX4_init 82 = .ok (.return_, 1) := by decide +kernel
theorem dX4_time_0 : decode cX4_time 0 = .ok (.aload_n 0, 1) := by decide +kernel
theorem dX4_time_1 : decode cX4_time 1 = .ok (.getfield 34, 3) := by decide +kernel
theorem dX4_time_4 : decode cX4_time 4 = .ok (.ireturn, 1) := by decide +kernel
theorem dX4_setting_0 : decode cX4_setting 0 = .ok (.aload_n 0, 1) := by decide +kernel
theorem dX4_setting_1 : decode cX4_setting 1 = .ok (.getfield 30, 3) := by decide +kernel
theorem dX4_setting_4 : decode cX4_setting 4 = .ok (.iload_n 1, 1) := by decide +kernel
theorem dX4_setting_5 : decode cX4_setting 5 = .ok (.invokevirtual 42, 3) := by decide +kernel
theorem dX4_setting_8 : decode cX4_setting 8 = .ok (.ireturn, 1) := by decide +kernel
theorem dX4_changeSetting_0 : decode cX4_changeSetting 0 = .ok (.aload_n 0, 1) := by decide +kernel
theorem dX4_changeSetting_1 : decode cX4_changeSetting 1 = .ok (.getfield 30, 3) := by decide +kernel
theorem dX4_changeSetting_4 : decode cX4_changeSetting 4 = .ok (.iload_n 1, 1) := by decide +kernel
theorem dX4_changeSetting_5 : decode cX4_changeSetting 5 = .ok (.invokevirtual 42, 3) := by decide +kernel
theorem dX4_changeSetting_8 : decode cX4_changeSetting 8 = .ok (.istore_n 3, 1) := by decide +kernel
theorem dX4_changeSetting_9 : decode cX4_changeSetting 9 = .ok (.aload_n 0, 1) := by decide +kernel
theorem dX4_changeSetting_10 : decode cX4_changeSetting 10 = .ok (.getfield 30, 3) := by decide +kernel
theorem dX4_changeSetting_13 : decode cX4_changeSetting 13 = .ok (.iload_n 1, 1) := by decide +kernel
theorem dX4_changeSetting_14 : decode cX4_changeSetting 14 = .ok (.iload_n 2, 1) := by decide +kernel
theorem dX4_changeSetting_15 : decode cX4_changeSetting 15 = .ok (.invokevirtual 38, 3) := by decide +kernel
theorem dX4_changeSetting_18 : decode cX4_changeSetting 18 = .ok (.iload_n 3, 1) := by decide +kernel
theorem dX4_changeSetting_19 : decode cX4_changeSetting 19 = .ok (.ireturn, 1) := by decide +kernel
theorem dX4_startAgain_0 : decode cX4_startAgain 0 = .ok (.aload_n 0, 1) := by decide +kernel
theorem dX4_startAgain_1 : decode cX4_startAgain 1 = .ok (.iconst 0, 1) := by decide +kernel
theorem dX4_startAgain_2 : decode cX4_startAgain 2 = .ok (.putfield 34, 3) := by decide +kernel
theorem dX4_startAgain_5 : decode cX4_startAgain 5 = .ok (.aload_n 0, 1) := by decide +kernel
theorem dX4_startAgain_6 : decode cX4_startAgain 6 = .ok (.getfield 21, 3) := by decide +kernel
theorem dX4_startAgain_9 : decode cX4_startAgain 9 = .ok (.invokevirtual 46, 3) := by decide +kernel
theorem dX4_startAgain_12 : decode cX4_startAgain 12 = .ok (.return_, 1) := by decide +kernel
theorem dX4_advance_0 : decode cX4_advance 0 = .ok (.iconst 0, 1) := by decide +kernel
theorem dX4_advance_1 : decode cX4_advance 1 = .ok (.istore_n 2, 1) := by decide +kernel
theorem dX4_advance_2 : decode cX4_advance 2 = .ok (.iconst 0, 1) := by decide +kernel
theorem dX4_advance_3 : decode cX4_advance 3 = .ok (.istore_n 3, 1) := by decide +kernel
theorem dX4_advance_4 : decode cX4_advance 4 = .ok (.iload_n 3, 1) := by decide +kernel
theorem dX4_advance_5 : decode cX4_advance 5 = .ok (.aload_n 0, 1) := by decide +kernel
theorem dX4_advance_6 : decode cX4_advance 6 = .ok (.getfield 21, 3) := by decide +kernel
theorem dX4_advance_9 : decode cX4_advance 9 = .ok (.invokevirtual 49, 3) := by decide +kernel
theorem dX4_advance_12 : decode cX4_advance 12 = .ok (.if_icmp .ge 48, 3) := by decide +kernel
theorem dX4_advance_15 : decode cX4_advance 15 = .ok (.aload_n 0, 1) := by decide +kernel
theorem dX4_advance_16 : decode cX4_advance 16 = .ok (.getfield 21, 3) := by decide +kernel
theorem dX4_advance_19 : decode cX4_advance 19 = .ok (.iload_n 3, 1) := by decide +kernel
theorem dX4_advance_20 : decode cX4_advance 20 = .ok (.invokevirtual 53, 3) := by decide +kernel
theorem dX4_advance_23 : decode cX4_advance 23 = .ok (.istore 4, 2) := by decide +kernel
theorem dX4_advance_25 : decode cX4_advance 25 = .ok (.iload 4, 2) := by decide +kernel
theorem dX4_advance_27 : decode cX4_advance 27 = .ok (.aload_n 0, 1) := by decide +kernel
theorem dX4_advance_28 : decode cX4_advance 28 = .ok (.getfield 34, 3) := by decide +kernel
theorem dX4_advance_31 : decode cX4_advance 31 = .ok (.if_icmp .le 23, 3) := by decide +kernel
theorem dX4_advance_34 : decode cX4_advance 34 = .ok (.iload 4, 2) := by decide +kernel
theorem dX4_advance_36 : decode cX4_advance 36 = .ok (.iload_n 1, 1) := by decide +kernel
theorem dX4_advance_37 : decode cX4_advance 37 = .ok (.if_icmp .gt 17, 3) := by decide +kernel
theorem dX4_advance_40 : decode cX4_advance 40 = .ok (.aload_n 0, 1) := by decide +kernel
theorem dX4_advance_41 : decode cX4_advance 41 = .ok (.iload 4, 2) := by decide +kernel
theorem dX4_advance_43 : decode cX4_advance 43 = .ok (.invokevirtual 56, 3) := by decide +kernel
theorem dX4_advance_46 : decode cX4_advance 46 = .ok (.aload_n 0, 1) := by decide +kernel
theorem dX4_advance_47 : decode cX4_advance 47 = .ok (.iload_n 3, 1) := by decide +kernel
theorem dX4_advance_48 : decode cX4_advance 48 = .ok (.invokevirtual 59, 3) := by decide +kernel
theorem dX4_advance_51 : decode cX4_advance 51 = .ok (.iinc 2 1, 3) := by decide +kernel
theorem dX4_advance_54 : decode cX4_advance 54 = .ok (.iinc 3 1, 3) := by decide +kernel
theorem dX4_advance_57 : decode cX4_advance 57 = .ok (.goto (-53), 3) := by decide +kernel
theorem dX4_advance_60 : decode cX4_advance 60 = .ok (.aload_n 0, 1) := by decide +kernel
theorem dX4_advance_61 : decode cX4_advance 61 = .ok (.iload_n 1, 1) := by decide +kernel
theorem dX4_advance_62 : decode cX4_advance 62 = .ok (.invokevirtual 56, 3) := by decide +kernel
theorem dX4_advance_65 : decode cX4_advance 65 = .ok (.iload_n 2, 1) := by decide +kernel
theorem dX4_advance_66 : decode cX4_advance 66 = .ok (.ireturn, 1) := by decide +kernel
theorem dX4_dryUntil_0 : decode cX4_dryUntil 0 = .ok (.aload_n 0, 1) := by decide +kernel
theorem dX4_dryUntil_1 : decode cX4_dryUntil 1 = .ok (.getfield 30, 3) := by decide +kernel
theorem dX4_dryUntil_4 : decode cX4_dryUntil 4 = .ok (.iconst 0, 1) := by decide +kernel
theorem dX4_dryUntil_5 : decode cX4_dryUntil 5 = .ok (.invokevirtual 42, 3) := by decide +kernel
theorem dX4_dryUntil_8 : decode cX4_dryUntil 8 = .ok (.istore_n 2, 1) := by decide +kernel
theorem dX4_dryUntil_9 : decode cX4_dryUntil 9 = .ok (.iload_n 2, 1) := by decide +kernel
theorem dX4_dryUntil_10 : decode cX4_dryUntil 10 = .ok (.ifCond .le 20, 3) := by decide +kernel
theorem dX4_dryUntil_13 : decode cX4_dryUntil 13 = .ok (.aload_n 0, 1) := by decide +kernel
theorem dX4_dryUntil_14 : decode cX4_dryUntil 14 = .ok (.getfield 12, 3) := by decide +kernel
theorem dX4_dryUntil_17 : decode cX4_dryUntil 17 = .ok (.iload_n 1, 1) := by decide +kernel
theorem dX4_dryUntil_18 : decode cX4_dryUntil 18 = .ok (.iload_n 2, 1) := by decide +kernel
theorem dX4_dryUntil_19 : decode cX4_dryUntil 19 = .ok (.idiv, 1) := by decide +kernel
theorem dX4_dryUntil_20 : decode cX4_dryUntil 20 = .ok (.aload_n 0, 1) := by decide +kernel
theorem dX4_dryUntil_21 : decode cX4_dryUntil 21 = .ok (.getfield 34, 3) := by decide +kernel
theorem dX4_dryUntil_24 : decode cX4_dryUntil 24 = .ok (.iload_n 2, 1) := by decide +kernel
theorem dX4_dryUntil_25 : decode cX4_dryUntil 25 = .ok (.idiv, 1) := by decide +kernel
theorem dX4_dryUntil_26 : decode cX4_dryUntil 26 = .ok (.isub, 1) := by decide +kernel
theorem dX4_dryUntil_27 : decode cX4_dryUntil 27 = .ok (.invokevirtual 62, 3) := by decide +kernel
theorem dX4_dryUntil_30 : decode cX4_dryUntil 30 = .ok (.aload_n 0, 1) := by decide +kernel
theorem dX4_dryUntil_31 : decode cX4_dryUntil 31 = .ok (.iload_n 1, 1) := by decide +kernel
theorem dX4_dryUntil_32 : decode cX4_dryUntil 32 = .ok (.putfield 34, 3) := by decide +kernel
theorem dX4_dryUntil_35 : decode cX4_dryUntil 35 = .ok (.return_, 1) := by decide +kernel
theorem dX4_playNote_0 : decode cX4_playNote 0 = .ok (.aload_n 0, 1) := by decide +kernel
theorem dX4_playNote_1 : decode cX4_playNote 1 = .ok (.getfield 30, 3) := by decide +kernel
theorem dX4_playNote_4 : decode cX4_playNote 4 = .ok (.iconst 3, 1) := by decide +kernel
theorem dX4_playNote_5 : decode cX4_playNote 5 = .ok (.invokevirtual 42, 3) := by decide +kernel
theorem dX4_playNote_8 : decode cX4_playNote 8 = .ok (.iconst 1, 1) := by decide +kernel
theorem dX4_playNote_9 : decode cX4_playNote 9 = .ok (.if_icmp .ne 29, 3) := by decide +kernel
theorem dX4_playNote_12 : decode cX4_playNote 12 = .ok (.aload_n 0, 1) := by decide +kernel
theorem dX4_playNote_13 : decode cX4_playNote 13 = .ok (.getfield 21, 3) := by decide +kernel
theorem dX4_playNote_16 : decode cX4_playNote 16 = .ok (.iload_n 1, 1) := by decide +kernel
theorem dX4_playNote_17 : decode cX4_playNote 17 = .ok (.aload_n 0, 1) := by decide +kernel
theorem dX4_playNote_18 : decode cX4_playNote 18 = .ok (.getfield 30, 3) := by decide +kernel
theorem dX4_playNote_21 : decode cX4_playNote 21 = .ok (.iconst 1, 1) := by decide +kernel
theorem dX4_playNote_22 : decode cX4_playNote 22 = .ok (.invokevirtual 42, 3) := by decide +kernel
theorem dX4_playNote_25 : decode cX4_playNote 25 = .ok (.invokevirtual 65, 3) := by decide +kernel
theorem dX4_playNote_28 : decode cX4_playNote 28 = .ok (.ifCond .eq 10, 3) := by decide +kernel
theorem dX4_playNote_31 : decode cX4_playNote 31 = .ok (.aload_n 0, 1) := by decide +kernel
theorem dX4_playNote_32 : decode cX4_playNote 32 = .ok (.getfield 12, 3) := by decide +kernel
theorem dX4_playNote_35 : decode cX4_playNote 35 = .ok (.invokevirtual 69, 3) := by decide +kernel
theorem dX4_playNote_38 : decode cX4_playNote 38 = .ok (.aload_n 0, 1) := by decide +kernel
theorem dX4_playNote_39 : decode cX4_playNote 39 = .ok (.getfield 12, 3) := by decide +kernel
theorem dX4_playNote_42 : decode cX4_playNote 42 = .ok (.aload_n 0, 1) := by decide +kernel
theorem dX4_playNote_43 : decode cX4_playNote 43 = .ok (.getfield 21, 3) := by decide +kernel
theorem dX4_playNote_46 : decode cX4_playNote 46 = .ok (.iload_n 1, 1) := by decide +kernel
theorem dX4_playNote_47 : decode cX4_playNote 47 = .ok (.invokevirtual 72, 3) := by decide +kernel
theorem dX4_playNote_50 : decode cX4_playNote 50 = .ok (.invokevirtual 75, 3) := by decide +kernel
theorem dX4_playNote_53 : decode cX4_playNote 53 = .ok (.istore_n 2, 1) := by decide +kernel
theorem dX4_playNote_54 : decode cX4_playNote 54 = .ok (.iload_n 2, 1) := by decide +kernel
theorem dX4_playNote_55 : decode cX4_playNote 55 = .ok (.iconst (-1), 1) := by decide +kernel
theorem dX4_playNote_56 : decode cX4_playNote 56 = .ok (.if_icmp .ne 14, 3) := by decide +kernel
theorem dX4_playNote_59 : decode cX4_playNote 59 = .ok (.aload_n 0, 1) := by decide +kernel
theorem dX4_playNote_60 : decode cX4_playNote 60 = .ok (.getfield 21, 3) := by decide +kernel
theorem dX4_playNote_63 : decode cX4_playNote 63 = .ok (.iload_n 1, 1) := by decide +kernel
theorem dX4_playNote_64 : decode cX4_playNote 64 = .ok (.invokevirtual 78, 3) := by decide +kernel
theorem dX4_playNote_67 : decode cX4_playNote 67 = .ok (.goto 51, 3) := by decide +kernel
theorem dX4_playNote_70 : decode cX4_playNote 70 = .ok (.aload_n 0, 1) := by decide +kernel
theorem dX4_playNote_71 : decode cX4_playNote 71 = .ok (.getfield 12, 3) := by decide +kernel
theorem dX4_playNote_74 : decode cX4_playNote 74 = .ok (.iload_n 2, 1) := by decide +kernel
theorem dX4_playNote_75 : decode cX4_playNote 75 = .ok (.invokevirtual 81, 3) := by decide +kernel
theorem dX4_playNote_78 : decode cX4_playNote 78 = .ok (.aload_n 0, 1) := by decide +kernel
theorem dX4_playNote_79 : decode cX4_playNote 79 = .ok (.getfield 21, 3) := by decide +kernel
theorem dX4_playNote_82 : decode cX4_playNote 82 = .ok (.iload_n 1, 1) := by decide +kernel
theorem dX4_playNote_83 : decode cX4_playNote 83 = .ok (.invokevirtual 72, 3) := by decide +kernel
theorem dX4_playNote_86 : decode cX4_playNote 86 = .ok (.isub, 1) := by decide +kernel
theorem dX4_playNote_87 : decode cX4_playNote 87 = .ok (.istore_n 3, 1) := by decide +kernel
theorem dX4_playNote_88 : decode cX4_playNote 88 = .ok (.aload_n 0, 1) := by decide +kernel
theorem dX4_playNote_89 : decode cX4_playNote 89 = .ok (.getfield 21, 3) := by decide +kernel
theorem dX4_playNote_92 : decode cX4_playNote 92 = .ok (.iload_n 1, 1) := by decide +kernel
theorem dX4_playNote_93 : decode cX4_playNote 93 = .ok (.iload_n 2, 1) := by decide +kernel
theorem dX4_playNote_94 : decode cX4_playNote 94 = .ok (.iload_n 3, 1) := by decide +kernel
theorem dX4_playNote_95 : decode cX4_playNote 95 = .ok (.iload_n 3, 1) := by decide +kernel
theorem dX4_playNote_96 : decode cX4_playNote 96 = .ok (.invokestatic 82, 3) := by decide +kernel
theorem dX4_playNote_99 : decode cX4_playNote 99 = .ok (.aload_n 0, 1) := by decide +kernel
theorem dX4_playNote_100 : decode cX4_playNote 100 = .ok (.getfield 30, 3) := by decide +kernel
theorem dX4_playNote_103 : decode cX4_playNote 103 = .ok (.iconst 2, 1) := by decide +kernel
theorem dX4_playNote_104 : decode cX4_playNote 104 = .ok (.invokevirtual 42, 3) := by decide +kernel
theorem dX4_playNote_107 : decode cX4_playNote 107 = .ok (.if_icmp .gt 7, 3) := by decide +kernel
theorem dX4_playNote_110 : decode cX4_playNote 110 = .ok (.iconst 1, 1) := by decide +kernel
theorem dX4_playNote_111 : decode cX4_playNote 111 = .ok (.goto 4, 3) := by decide +kernel
theorem dX4_playNote_114 : decode cX4_playNote 114 = .ok (.iconst 0, 1) := by decide +kernel
theorem dX4_playNote_115 : decode cX4_playNote 115 = .ok (.invokevirtual 87, 3) := by decide +kernel
theorem dX4_playNote_118 : decode cX4_playNote 118 = .ok (.return_, 1) := by decide +kernel
theorem dX4_copyFrom_0 : decode cX4_copyFrom 0 = .ok (.aload_n 1, 1) := by decide +kernel
theorem dX4_copyFrom_1 : decode cX4_copyFrom 1 = .ok (.ifnonnull 4, 3) := by decide +kernel
theorem dX4_copyFrom_4 : decode cX4_copyFrom 4 = .ok (.return_, 1) := by decide +kernel
theorem dX4_copyFrom_5 : decode cX4_copyFrom 5 = .ok (.aload_n 0, 1) := by decide +kernel
theorem dX4_copyFrom_6 : decode cX4_copyFrom 6 = .ok (.getfield 12, 3) := by decide +kernel
theorem dX4_copyFrom_9 : decode cX4_copyFrom 9 = .ok (.aload_n 1, 1) := by decide +kernel
theorem dX4_copyFrom_10 : decode cX4_copyFrom 10 = .ok (.getfield 12, 3) := by decide +kernel
theorem dX4_copyFrom_13 : decode cX4_copyFrom 13 = .ok (.invokevirtual 91, 3) := by decide +kernel
theorem dX4_copyFrom_16 : decode cX4_copyFrom 16 = .ok (.aload_n 0, 1) := by decide +kernel
theorem dX4_copyFrom_17 : decode cX4_copyFrom 17 = .ok (.getfield 21, 3) := by decide +kernel
theorem dX4_copyFrom_20 : decode cX4_copyFrom 20 = .ok (.aload_n 1, 1) := by decide +kernel
theorem dX4_copyFrom_21 : decode cX4_copyFrom 21 = .ok (.getfield 21, 3) := by decide +kernel
theorem dX4_copyFrom_24 : decode cX4_copyFrom 24 = .ok (.invokevirtual 95, 3) := by decide +kernel
theorem dX4_copyFrom_27 : decode cX4_copyFrom 27 = .ok (.aload_n 0, 1) := by decide +kernel
theorem dX4_copyFrom_28 : decode cX4_copyFrom 28 = .ok (.getfield 30, 3) := by decide +kernel
theorem dX4_copyFrom_31 : decode cX4_copyFrom 31 = .ok (.aload_n 1, 1) := by decide +kernel
theorem dX4_copyFrom_32 : decode cX4_copyFrom 32 = .ok (.getfield 30, 3) := by decide +kernel
theorem dX4_copyFrom_35 : decode cX4_copyFrom 35 = .ok (.invokevirtual 98, 3) := by decide +kernel
theorem dX4_copyFrom_38 : decode cX4_copyFrom 38 = .ok (.aload_n 0, 1) := by decide +kernel
theorem dX4_copyFrom_39 : decode cX4_copyFrom 39 = .ok (.aload_n 1, 1) := by decide +kernel
theorem dX4_copyFrom_40 : decode cX4_copyFrom 40 = .ok (.getfield 34, 3) := by decide +kernel
theorem dX4_copyFrom_43 : decode cX4_copyFrom 43 = .ok (.putfield 34, 3) := by decide +kernel
theorem dX4_copyFrom_46 : decode cX4_copyFrom 46 = .ok (.return_, 1) := by decide +kernel
theorem dX5_init_0 : decode cX5_init 0 = .ok (.aload_n 0, 1) := by decide +kernel
theorem dX5_init_1 : decode cX5_init 1 = .ok (.invokespecial 3, 3) := by decide +kernel
theorem dX5_init_4 : decode cX5_init 4 = .ok (.aload_n 0, 1) := by decide +kernel
theorem dX5_init_5 : decode cX5_init 5 = .ok (.new 9, 3) := by decide +kernel
theorem dX5_init_8 : decode cX5_init 8 = .ok (.dup, 1) := by decide +kernel
theorem dX5_init_9 : decode cX5_init 9 = .ok (.bipush 100, 2) := by decide +kernel
theorem dX5_init_11 : decode cX5_init 11 = .ok (.invokespecial 11, 3) := by decide +kernel
theorem dX5_init_14 : decode cX5_init 14 = .ok (.putfield 14, 3) := by decide +kernel
theorem dX5_init_17 : decode cX5_init 17 = .ok (.aload_n 0, 1) := by decide +kernel
theorem dX5_init_18 : decode cX5_init 18 = .ok (.iconst 0, 1) := by decide +kernel
theorem dX5_init_19 : decode cX5_init 19 = .ok (.putfield 20, 3) := by decide +kernel
theorem dX5_init_22 : decode cX5_init 22 = .ok (.aload_n 0, 1) := by decide +kernel
theorem dX5_init_23 : decode cX5_init 23 = .ok (.iconst 0, 1) := by decide +kernel
theorem dX5_init_24 : decode cX5_init 24 = .ok (.putfield 24, 3) := by decide +kernel
theorem dX5_init_27 : decode cX5_init 27 = .ok (.aload_n 0, 1) := by decide +kernel
theorem dX5_init_28 : decode cX5_init 28 = .ok (.iconst 0, 1) := by decide +kernel
theorem dX5_init_29 : decode cX5_init 29 = .ok (.putfield 27, 3) := by decide +kernel
theorem dX5_init_32 : decode cX5_init 32 = .ok (.aload_n 0, 1) := by decide +kernel
theorem dX5_init_33 : decode cX5_init 33 = .ok (.iconst 0, 1) := by decide +kernel
theorem dX5_init_34 : decode cX5_init 34 = .ok (.putfield 30, 3) := by decide +kernel
theorem dX5_init_37 : decode cX5_init 37 = .ok (.aload_n 0, 1) := by decide +kernel
theorem dX5_init_38 : decode cX5_init 38 = .ok (.iconst 0, 1) := by decide +kernel
theorem dX5_init_39 : decode cX5_init 39 = .ok (.putfield 33, 3) := by decide +kernel
theorem dX5_init_42 : decode cX5_init 42 = .ok (.aload_n 0, 1) := by decide +kernel
theorem dX5_init_43 : decode cX5_init 43 = .ok (.iconst 0, 1) := by decide +kernel
theorem dX5_init_44 : decode cX5_init 44 = .ok (.putfield 36, 3) := by decide +kernel
theorem dX5_init_47 : decode cX5_init 47 = .ok (.aload_n 0, 1) := by decide +kernel
theorem dX5_init_48 : decode cX5_init 48 = .ok (.iconst 0, 1) := by decide +kernel
theorem dX5_init_49 : decode cX5_init 49 = .ok (.putfield 39, 3) := by decide +kernel
theorem dX5_init_52 : decode cX5_init 52 = .ok (.return_, 1) := by decide +kernel
theorem dX5_length_0 : decode cX5_length 0 = .ok (.aload_n 0, 1) := by decide +kernel
theorem dX5_length_1 : decode cX5_length 1 = .ok (.getfield 20, 3) := by decide +kernel
theorem dX5_length_4 : decode cX5_length 4 = .ok (.ireturn, 1) := by decide +kernel
theorem dX5_notesRead_0 : decode cX5_notesRead 0 = .ok (.aload_n 0, 1) := by decide +kernel
theorem dX5_notesRead_1 : decode cX5_notesRead 1 = .ok (.getfield 33, 3) := by decide +kernel
theorem dX5_notesRead_4 : decode cX5_notesRead 4 = .ok (.ireturn, 1) := by decide +kernel
theorem dX5_faultPlace_0 : decode cX5_faultPlace 0 = .ok (.aload_n 0, 1) := by decide +kernel
theorem dX5_faultPlace_1 : decode cX5_faultPlace 1 = .ok (.getfield 36, 3) := by decide +kernel
theorem dX5_faultPlace_4 : decode cX5_faultPlace 4 = .ok (.ireturn, 1) := by decide +kernel
theorem dX5_faultReason_0 : decode cX5_faultReason 0 = .ok (.aload_n 0, 1) := by decide +kernel
theorem dX5_faultReason_1 : decode cX5_faultReason 1 = .ok (.getfield 39, 3) := by decide +kernel
theorem dX5_faultReason_4 : decode cX5_faultReason 4 = .ok (.ireturn, 1) := by decide +kernel
theorem dX5_append_0 : decode cX5_append 0 = .ok (.aload_n 0, 1) := by decide +kernel
theorem dX5_append_1 : decode cX5_append 1 = .ok (.getfield 14, 3) := by decide +kernel
theorem dX5_append_4 : decode cX5_append 4 = .ok (.aload_n 0, 1) := by decide +kernel
theorem dX5_append_5 : decode cX5_append 5 = .ok (.getfield 20, 3) := by decide +kernel
theorem dX5_append_8 : decode cX5_append 8 = .ok (.iload_n 1, 1) := by decide +kernel
theorem dX5_append_9 : decode cX5_append 9 = .ok (.invokevirtual 42, 3) := by decide +kernel
theorem dX5_append_12 : decode cX5_append 12 = .ok (.aload_n 0, 1) := by decide +kernel
theorem dX5_append_13 : decode cX5_append 13 = .ok (.dup, 1) := by decide +kernel
theorem dX5_append_14 : decode cX5_append 14 = .ok (.getfield 20, 3) := by decide +kernel
theorem dX5_append_17 : decode cX5_append 17 = .ok (.iconst 1, 1) := by decide +kernel
theorem dX5_append_18 : decode cX5_append 18 = .ok (.iadd, 1) := by decide +kernel
theorem dX5_append_19 : decode cX5_append 19 = .ok (.putfield 20, 3) := by decide +kernel
theorem dX5_append_22 : decode cX5_append 22 = .ok (.return_, 1) := by decide +kernel
theorem dX5_empty_0 : decode cX5_empty 0 = .ok (.iconst 0, 1) := by decide +kernel
theorem dX5_empty_1 : decode cX5_empty 1 = .ok (.istore_n 1, 1) := by decide +kernel
theorem dX5_empty_2 : decode cX5_empty 2 = .ok (.iload_n 1, 1) := by decide +kernel
theorem dX5_empty_3 : decode cX5_empty 3 = .ok (.aload_n 0, 1) := by decide +kernel
theorem dX5_empty_4 : decode cX5_empty 4 = .ok (.getfield 20, 3) := by decide +kernel
theorem dX5_empty_7 : decode cX5_empty 7 = .ok (.if_icmp .ge 18, 3) := by decide +kernel
theorem dX5_empty_10 : decode cX5_empty 10 = .ok (.aload_n 0, 1) := by decide +kernel
theorem dX5_empty_11 : decode cX5_empty 11 = .ok (.getfield 14, 3) := by decide +kernel
theorem dX5_empty_14 : decode cX5_empty 14 = .ok (.iload_n 1, 1) := by decide +kernel
theorem dX5_empty_15 : decode cX5_empty 15 = .ok (.iconst 0, 1) := by decide +kernel
theorem dX5_empty_16 : decode cX5_empty 16 = .ok (.invokevirtual 42, 3) := by decide +kernel
theorem dX5_empty_19 : decode cX5_empty 19 = .ok (.iinc 1 1, 3) := by decide +kernel
theorem dX5_empty_22 : decode cX5_empty 22 = .ok (.goto (-20), 3) := by decide +kernel
theorem dX5_empty_25 : decode cX5_empty 25 = .ok (.aload_n 0, 1) := by decide +kernel
theorem dX5_empty_26 : decode cX5_empty 26 = .ok (.iconst 0, 1) := by decide +kernel
theorem dX5_empty_27 : decode cX5_empty 27 = .ok (.putfield 20, 3) := by decide +kernel
theorem dX5_empty_30 : decode cX5_empty 30 = .ok (.return_, 1) := by decide +kernel
theorem dX5_readInto_0 : decode cX5_readInto 0 = .ok (.aload_n 0, 1) := by decide +kernel
theorem dX5_readInto_1 : decode cX5_readInto 1 = .ok (.iconst 0, 1) := by decide +kernel
theorem dX5_readInto_2 : decode cX5_readInto 2 = .ok (.putfield 24, 3) := by decide +kernel
theorem dX5_readInto_5 : decode cX5_readInto 5 = .ok (.aload_n 0, 1) := by decide +kernel
theorem dX5_readInto_6 : decode cX5_readInto 6 = .ok (.iconst 0, 1) := by decide +kernel
theorem dX5_readInto_7 : decode cX5_readInto 7 = .ok (.putfield 33, 3) := by decide +kernel
theorem dX5_readInto_10 : decode cX5_readInto 10 = .ok (.aload_n 0, 1) := by decide +kernel
theorem dX5_readInto_11 : decode cX5_readInto 11 = .ok (.iconst 0, 1) := by decide +kernel
theorem dX5_readInto_12 : decode cX5_readInto 12 = .ok (.putfield 39, 3) := by decide +kernel
theorem dX5_readInto_15 : decode cX5_readInto 15 = .ok (.aload_n 1, 1) := by decide +kernel
theorem dX5_readInto_16 : decode cX5_readInto 16 = .ok (.ifnonnull 4, 3) := by decide +kernel
theorem dX5_readInto_19 : decode cX5_readInto 19 = .ok (.return_, 1) := by decide +kernel
theorem dX5_readInto_20 : decode cX5_readInto 20 = .ok (.iconst 0, 1) := by decide +kernel
theorem dX5_readInto_21 : decode cX5_readInto 21 = .ok (.istore_n 2, 1) := by decide +kernel
theorem dX5_readInto_22 : decode cX5_readInto 22 = .ok (.iload_n 2, 1) := by decide +kernel
theorem dX5_readInto_23 : decode cX5_readInto 23 = .ok (.bipush 100, 2) := by decide +kernel
theorem dX5_readInto_25 : decode cX5_readInto 25 = .ok (.if_icmp .ge 74, 3) := by decide +kernel
theorem dX5_readInto_28 : decode cX5_readInto 28 = .ok (.aload_n 0, 1) := by decide +kernel
theorem dX5_readInto_29 : decode cX5_readInto 29 = .ok (.getfield 24, 3) := by decide +kernel
theorem dX5_readInto_32 : decode cX5_readInto 32 = .ok (.aload_n 0, 1) := by decide +kernel
theorem dX5_readInto_33 : decode cX5_readInto 33 = .ok (.getfield 20, 3) := by decide +kernel
theorem dX5_readInto_36 : decode cX5_readInto 36 = .ok (.if_icmp .ge 63, 3) := by decide +kernel
theorem dX5_readInto_39 : decode cX5_readInto 39 = .ok (.aload_n 0, 1) := by decide +kernel
theorem dX5_readInto_40 : decode cX5_readInto 40 = .ok (.getfield 39, 3) := by decide +kernel
theorem dX5_readInto_43 : decode cX5_readInto 43 = .ok (.ifCond .ne 56, 3) := by decide +kernel
theorem dX5_readInto_46 : decode cX5_readInto 46 = .ok (.aload_n 0, 1) := by decide +kernel
theorem dX5_readInto_47 : decode cX5_readInto 47 = .ok (.aload_n 0, 1) := by decide +kernel
theorem dX5_readInto_48 : decode cX5_readInto 48 = .ok (.getfield 24, 3) := by decide +kernel
theorem dX5_readInto_51 : decode cX5_readInto 51 = .ok (.putfield 36, 3) := by decide +kernel
theorem dX5_readInto_54 : decode cX5_readInto 54 = .ok (.aload_n 0, 1) := by decide +kernel
theorem dX5_readInto_55 : decode cX5_readInto 55 = .ok (.aload_n 0, 1) := by decide +kernel
theorem dX5_readInto_56 : decode cX5_readInto 56 = .ok (.aload_n 1, 1) := by decide +kernel
theorem dX5_readInto_57 : decode cX5_readInto 57 = .ok (.invokevirtual 46, 3) := by decide +kernel
theorem dX5_readInto_60 : decode cX5_readInto 60 = .ok (.putfield 39, 3) := by decide +kernel
theorem dX5_readInto_63 : decode cX5_readInto 63 = .ok (.aload_n 0, 1) := by decide +kernel
theorem dX5_readInto_64 : decode cX5_readInto 64 = .ok (.getfield 39, 3) := by decide +kernel
theorem dX5_readInto_67 : decode cX5_readInto 67 = .ok (.ifCond .ne 26, 3) := by decide +kernel
theorem dX5_readInto_70 : decode cX5_readInto 70 = .ok (.aload_n 1, 1) := by decide +kernel
theorem dX5_readInto_71 : decode cX5_readInto 71 = .ok (.aload_n 0, 1) := by decide +kernel
theorem dX5_readInto_72 : decode cX5_readInto 72 = .ok (.getfield 27, 3) := by decide +kernel
theorem dX5_readInto_75 : decode cX5_readInto 75 = .ok (.aload_n 0, 1) := by decide +kernel
theorem dX5_readInto_76 : decode cX5_readInto 76 = .ok (.getfield 30, 3) := by decide +kernel
theorem dX5_readInto_79 : decode cX5_readInto 79 = .ok (.invokevirtual 50, 3) := by decide +kernel
theorem dX5_readInto_82 : decode cX5_readInto 82 = .ok (.pop, 1) := by decide +kernel
theorem dX5_readInto_83 : decode cX5_readInto 83 = .ok (.aload_n 0, 1) := by decide +kernel
theorem dX5_readInto_84 : decode cX5_readInto 84 = .ok (.dup, 1) := by decide +kernel
theorem dX5_readInto_85 : decode cX5_readInto 85 = .ok (.getfield 33, 3) := by decide +kernel
theorem dX5_readInto_88 : decode cX5_readInto 88 = .ok (.iconst 1, 1) := by decide +kernel
theorem dX5_readInto_89 : decode cX5_readInto 89 = .ok (.iadd, 1) := by decide +kernel
theorem dX5_readInto_90 : decode cX5_readInto 90 = .ok (.putfield 33, 3) := by decide +kernel
theorem dX5_readInto_93 : decode cX5_readInto 93 = .ok (.iinc 2 1, 3) := by decide +kernel
theorem dX5_readInto_96 : decode cX5_readInto 96 = .ok (.goto (-74), 3) := by decide +kernel
theorem dX5_readInto_99 : decode cX5_readInto 99 = .ok (.return_, 1) := by decide +kernel
theorem dX5_reasonAgainstNext_0 : decode cX5_reasonAgainstNext 0 = .ok (.aload_n 0, 1) := by decide +kernel
theorem dX5_reasonAgainstNext_1 : decode cX5_reasonAgainstNext 1 = .ok (.invokevirtual 56, 3) := by decide +kernel
theorem dX5_reasonAgainstNext_4 : decode cX5_reasonAgainstNext 4 = .ok (.ifCond .ne 5, 3) := by decide +kernel
theorem dX5_reasonAgainstNext_7 : decode cX5_reasonAgainstNext 7 = .ok (.iconst 1, 1) := by decide +kernel
theorem dX5_reasonAgainstNext_8 : decode cX5_reasonAgainstNext 8 = .ok (.ireturn, 1) := by decide +kernel
theorem dX5_reasonAgainstNext_9 : decode cX5_reasonAgainstNext 9 = .ok (.aload_n 0, 1) := by decide +kernel
theorem dX5_reasonAgainstNext_10 : decode cX5_reasonAgainstNext 10 = .ok (.getfield 27, 3) := by decide +kernel
theorem dX5_reasonAgainstNext_13 : decode cX5_reasonAgainstNext 13 = .ok (.sipush 3600, 3) := by decide +kernel
theorem dX5_reasonAgainstNext_16 : decode cX5_reasonAgainstNext 16 = .ok (.if_icmp .gt 13, 3) := by decide +kernel
theorem dX5_reasonAgainstNext_19 : decode cX5_reasonAgainstNext 19 = .ok (.aload_n 0, 1) := by decide +kernel
theorem dX5_reasonAgainstNext_20 : decode cX5_reasonAgainstNext 20 = .ok (.getfield 30, 3) := by decide +kernel
theorem dX5_reasonAgainstNext_23 : decode cX5_reasonAgainstNext 23 = .ok (.sipush 6000, 3) := by decide +kernel
theorem dX5_reasonAgainstNext_26 : decode cX5_reasonAgainstNext 26 = .ok (.if_icmp .le 5, 3) := by decide +kernel
theorem dX5_reasonAgainstNext_29 : decode cX5_reasonAgainstNext 29 = .ok (.iconst 2, 1) := by decide +kernel
theorem dX5_reasonAgainstNext_30 : decode cX5_reasonAgainstNext 30 = .ok (.ireturn, 1) := by decide +kernel
theorem dX5_reasonAgainstNext_31 : decode cX5_reasonAgainstNext 31 = .ok (.aload_n 1, 1) := by decide +kernel
theorem dX5_reasonAgainstNext_32 : decode cX5_reasonAgainstNext 32 = .ok (.aload_n 0, 1) := by decide +kernel
theorem dX5_reasonAgainstNext_33 : decode cX5_reasonAgainstNext 33 = .ok (.getfield 27, 3) := by decide +kernel
theorem dX5_reasonAgainstNext_36 : decode cX5_reasonAgainstNext 36 = .ok (.invokevirtual 60, 3) := by decide +kernel
theorem dX5_reasonAgainstNext_39 : decode cX5_reasonAgainstNext 39 = .ok (.ifCond .eq 5, 3) := by decide +kernel
theorem dX5_reasonAgainstNext_42 : decode cX5_reasonAgainstNext 42 = .ok (.iconst 3, 1) := by decide +kernel
theorem dX5_reasonAgainstNext_43 : decode cX5_reasonAgainstNext 43 = .ok (.ireturn, 1) := by decide +kernel
theorem dX5_reasonAgainstNext_44 : decode cX5_reasonAgainstNext 44 = .ok (.aload_n 1, 1) := by decide +kernel
theorem dX5_reasonAgainstNext_45 : decode cX5_reasonAgainstNext 45 = .ok (.invokevirtual 64, 3) := by decide +kernel
theorem dX5_reasonAgainstNext_48 : decode cX5_reasonAgainstNext 48 = .ok (.ifCond .eq 7, 3) := by decide +kernel
theorem dX5_reasonAgainstNext_51 : decode cX5_reasonAgainstNext 51 = .ok (.iconst 4, 1) := by decide +kernel
theorem dX5_reasonAgainstNext_52 : decode cX5_reasonAgainstNext 52 = .ok (.goto 4, 3) := by decide +kernel
theorem dX5_reasonAgainstNext_55 : decode cX5_reasonAgainstNext 55 = .ok (.iconst 0, 1) := by decide +kernel
theorem dX5_reasonAgainstNext_56 : decode cX5_reasonAgainstNext 56 = .ok (.ireturn, 1) := by decide +kernel
theorem dX5_readNote_0 : decode cX5_readNote 0 = .ok (.aload_n 0, 1) := by decide +kernel
theorem dX5_readNote_1 : decode cX5_readNote 1 = .ok (.aload_n 0, 1) := by decide +kernel
theorem dX5_readNote_2 : decode cX5_readNote 2 = .ok (.invokevirtual 67, 3) := by decide +kernel
theorem dX5_readNote_5 : decode cX5_readNote 5 = .ok (.putfield 27, 3) := by decide +kernel
theorem dX5_readNote_8 : decode cX5_readNote 8 = .ok (.aload_n 0, 1) := by decide +kernel
theorem dX5_readNote_9 : decode cX5_readNote 9 = .ok (.getfield 27, 3) := by decide +kernel
theorem dX5_readNote_12 : decode cX5_readNote 12 = .ok (.iconst (-1), 1) := by decide +kernel
theorem dX5_readNote_13 : decode cX5_readNote 13 = .ok (.if_icmp .eq 12, 3) := by decide +kernel
theorem dX5_readNote_16 : decode cX5_readNote 16 = .ok (.aload_n 0, 1) := by decide +kernel
theorem dX5_readNote_17 : decode cX5_readNote 17 = .ok (.bipush 58, 2) := by decide +kernel
theorem dX5_readNote_19 : decode cX5_readNote 19 = .ok (.invokevirtual 71, 3) := by decide +kernel
theorem dX5_readNote_22 : decode cX5_readNote 22 = .ok (.ifCond .ne 5, 3) := by decide +kernel
theorem dX5_readNote_25 : decode cX5_readNote 25 = .ok (.iconst 0, 1) := by decide +kernel
theorem dX5_readNote_26 : decode cX5_readNote 26 = .ok (.ireturn, 1) := by decide +kernel
theorem dX5_readNote_27 : decode cX5_readNote 27 = .ok (.aload_n 0, 1) := by decide +kernel
theorem dX5_readNote_28 : decode cX5_readNote 28 = .ok (.aload_n 0, 1) := by decide +kernel
theorem dX5_readNote_29 : decode cX5_readNote 29 = .ok (.invokevirtual 67, 3) := by decide +kernel
theorem dX5_readNote_32 : decode cX5_readNote 32 = .ok (.putfield 30, 3) := by decide +kernel
theorem dX5_readNote_35 : decode cX5_readNote 35 = .ok (.aload_n 0, 1) := by decide +kernel
theorem dX5_readNote_36 : decode cX5_readNote 36 = .ok (.getfield 30, 3) := by decide +kernel
theorem dX5_readNote_39 : decode cX5_readNote 39 = .ok (.iconst (-1), 1) := by decide +kernel
theorem dX5_readNote_40 : decode cX5_readNote 40 = .ok (.if_icmp .eq 16, 3) := by decide +kernel
theorem dX5_readNote_43 : decode cX5_readNote 43 = .ok (.aload_n 0, 1) := by decide +kernel
theorem dX5_readNote_44 : decode cX5_readNote 44 = .ok (.bipush 59, 2) := by decide +kernel
theorem dX5_readNote_46 : decode cX5_readNote 46 = .ok (.invokevirtual 71, 3) := by decide +kernel
theorem dX5_readNote_49 : decode cX5_readNote 49 = .ok (.ifCond .eq 7, 3) := by decide +kernel
theorem dX5_readNote_52 : decode cX5_readNote 52 = .ok (.iconst 1, 1) := by decide +kernel
theorem dX5_readNote_53 : decode cX5_readNote 53 = .ok (.goto 4, 3) := by decide +kernel
theorem dX5_readNote_56 : decode cX5_readNote 56 = .ok (.iconst 0, 1) := by decide +kernel
theorem dX5_readNote_57 : decode cX5_readNote 57 = .ok (.ireturn, 1) := by decide +kernel
theorem dX5_readNumber_0 : decode cX5_readNumber 0 = .ok (.iconst (-1), 1) := by decide +kernel
theorem dX5_readNumber_1 : decode cX5_readNumber 1 = .ok (.istore_n 1, 1) := by decide +kernel
theorem dX5_readNumber_2 : decode cX5_readNumber 2 = .ok (.iconst 0, 1) := by decide +kernel
theorem dX5_readNumber_3 : decode cX5_readNumber 3 = .ok (.istore_n 2, 1) := by decide +kernel
theorem dX5_readNumber_4 : decode cX5_readNumber 4 = .ok (.iload_n 2, 1) := by decide +kernel
theorem dX5_readNumber_5 : decode cX5_readNumber 5 = .ok (.iconst 4, 1) := by decide +kernel
theorem dX5_readNumber_6 : decode cX5_readNumber 6 = .ok (.if_icmp .ge 64, 3) := by decide +kernel
theorem dX5_readNumber_9 : decode cX5_readNumber 9 = .ok (.aload_n 0, 1) := by decide +kernel
theorem dX5_readNumber_10 : decode cX5_readNumber 10 = .ok (.getfield 14, 3) := by decide +kernel
theorem dX5_readNumber_13 : decode cX5_readNumber 13 = .ok (.aload_n 0, 1) := by decide +kernel
theorem dX5_readNumber_14 : decode cX5_readNumber 14 = .ok (.getfield 24, 3) := by decide +kernel
theorem dX5_readNumber_17 : decode cX5_readNumber 17 = .ok (.invokevirtual 74, 3) := by decide +kernel
theorem dX5_readNumber_20 : decode cX5_readNumber 20 = .ok (.bipush 48, 2) := by decide +kernel
theorem dX5_readNumber_22 : decode cX5_readNumber 22 = .ok (.bipush 57, 2) := by decide +kernel
theorem dX5_readNumber_24 : decode cX5_readNumber 24 = .ok (.invokestatic 78, 3) := by decide +kernel
theorem dX5_readNumber_27 : decode cX5_readNumber 27 = .ok (.ifCond .eq 43, 3) := by decide +kernel
theorem dX5_readNumber_30 : decode cX5_readNumber 30 = .ok (.iload_n 1, 1) := by decide +kernel
theorem dX5_readNumber_31 : decode cX5_readNumber 31 = .ok (.iconst 0, 1) := by decide +kernel
theorem dX5_readNumber_32 : decode cX5_readNumber 32 = .ok (.invokestatic 82, 3) := by decide +kernel
theorem dX5_readNumber_35 : decode cX5_readNumber 35 = .ok (.bipush 10, 2) := by decide +kernel
theorem dX5_readNumber_37 : decode cX5_readNumber 37 = .ok (.imul, 1) := by decide +kernel
theorem dX5_readNumber_38 : decode cX5_readNumber 38 = .ok (.aload_n 0, 1) := by decide +kernel
theorem dX5_readNumber_39 : decode cX5_readNumber 39 = .ok (.getfield 14, 3) := by decide +kernel
theorem dX5_readNumber_42 : decode cX5_readNumber 42 = .ok (.aload_n 0, 1) := by decide +kernel
theorem dX5_readNumber_43 : decode cX5_readNumber 43 = .ok (.getfield 24, 3) := by decide +kernel
theorem dX5_readNumber_46 : decode cX5_readNumber 46 = .ok (.invokevirtual 74, 3) := by decide +kernel
theorem dX5_readNumber_49 : decode cX5_readNumber 49 = .ok (.iadd, 1) := by decide +kernel
theorem dX5_readNumber_50 : decode cX5_readNumber 50 = .ok (.bipush 48, 2) := by decide +kernel
theorem dX5_readNumber_52 : decode cX5_readNumber 52 = .ok (.isub, 1) := by decide +kernel
theorem dX5_readNumber_53 : decode cX5_readNumber 53 = .ok (.istore_n 1, 1) := by decide +kernel
theorem dX5_readNumber_54 : decode cX5_readNumber 54 = .ok (.aload_n 0, 1) := by decide +kernel
theorem dX5_readNumber_55 : decode cX5_readNumber 55 = .ok (.dup, 1) := by decide +kernel
theorem dX5_readNumber_56 : decode cX5_readNumber 56 = .ok (.getfield 24, 3) := by decide +kernel
theorem dX5_readNumber_59 : decode cX5_readNumber 59 = .ok (.iconst 1, 1) := by decide +kernel
theorem dX5_readNumber_60 : decode cX5_readNumber 60 = .ok (.iadd, 1) := by decide +kernel
theorem dX5_readNumber_61 : decode cX5_readNumber 61 = .ok (.putfield 24, 3) := by decide +kernel
theorem dX5_readNumber_64 : decode cX5_readNumber 64 = .ok (.iinc 2 1, 3) := by decide +kernel
theorem dX5_readNumber_67 : decode cX5_readNumber 67 = .ok (.goto (-63), 3) := by decide +kernel
theorem dX5_readNumber_70 : decode cX5_readNumber 70 = .ok (.iload_n 1, 1) := by decide +kernel
theorem dX5_readNumber_71 : decode cX5_readNumber 71 = .ok (.ireturn, 1) := by decide +kernel
theorem dX5_readCharacter_0 : decode cX5_readCharacter 0 = .ok (.aload_n 0, 1) := by decide +kernel
theorem dX5_readCharacter_1 : decode cX5_readCharacter 1 = .ok (.getfield 14, 3) := by decide +kernel
theorem dX5_readCharacter_4 : decode cX5_readCharacter 4 = .ok (.aload_n 0, 1) := by decide +kernel
theorem dX5_readCharacter_5 : decode cX5_readCharacter 5 = .ok (.getfield 24, 3) := by decide +kernel
theorem dX5_readCharacter_8 : decode cX5_readCharacter 8 = .ok (.invokevirtual 74, 3) := by decide +kernel
theorem dX5_readCharacter_11 : decode cX5_readCharacter 11 = .ok (.iload_n 1, 1) := by decide +kernel
theorem dX5_readCharacter_12 : decode cX5_readCharacter 12 = .ok (.if_icmp .ne 7, 3) := by decide +kernel
theorem dX5_readCharacter_15 : decode cX5_readCharacter 15 = .ok (.iconst 1, 1) := by decide +kernel
theorem dX5_readCharacter_16 : decode cX5_readCharacter 16 = .ok (.goto 4, 3) := by decide +kernel
theorem dX5_readCharacter_19 : decode cX5_readCharacter 19 = .ok (.iconst 0, 1) := by decide +kernel
theorem dX5_readCharacter_20 : decode cX5_readCharacter 20 = .ok (.istore_n 2, 1) := by decide +kernel
theorem dX5_readCharacter_21 : decode cX5_readCharacter 21 = .ok (.aload_n 0, 1) := by decide +kernel
theorem dX5_readCharacter_22 : decode cX5_readCharacter 22 = .ok (.dup, 1) := by decide +kernel
theorem dX5_readCharacter_23 : decode cX5_readCharacter 23 = .ok (.getfield 24, 3) := by decide +kernel
theorem dX5_readCharacter_26 : decode cX5_readCharacter 26 = .ok (.iconst 1, 1) := by decide +kernel
theorem dX5_readCharacter_27 : decode cX5_readCharacter 27 = .ok (.iadd, 1) := by decide +kernel
theorem dX5_readCharacter_28 : decode cX5_readCharacter 28 = .ok (.putfield 24, 3) := by decide +kernel
theorem dX5_readCharacter_31 : decode cX5_readCharacter 31 = .ok (.iload_n 2, 1) := by decide +kernel
theorem dX5_readCharacter_32 : decode cX5_readCharacter 32 = .ok (.ireturn, 1) := by decide +kernel
end
section
theorem dX6_init_0 : decode cX6_init 0 = .ok (.aload_n 0, 1) := by decide +kernel
theorem dX6_init_1 : decode cX6_init 1 = .ok (.invokespecial 1, 3) := by decide +kernel
theorem dX6_init_4 : decode cX6_init 4 = .ok (.aload_n 0, 1) := by decide +kernel
theorem dX6_init_5 : decode cX6_init 5 = .ok (.new 7, 3) := by decide +kernel
theorem dX6_init_8 : decode cX6_init 8 = .ok (.dup, 1) := by decide +kernel
theorem dX6_init_9 : decode cX6_init 9 = .ok (.invokespecial 9, 3) := by decide +kernel
theorem dX6_init_12 : decode cX6_init 12 = .ok (.putfield 10, 3) := by decide +kernel
theorem dX6_init_15 : decode cX6_init 15 = .ok (.aload_n 0, 1) := by decide +kernel
theorem dX6_init_16 : decode cX6_init 16 = .ok (.new 7, 3) := by decide +kernel
theorem dX6_init_19 : decode cX6_init 19 = .ok (.dup, 1) := by decide +kernel
theorem dX6_init_20 : decode cX6_init 20 = .ok (.invokespecial 9, 3) := by decide +kernel
theorem dX6_init_23 : decode cX6_init 23 = .ok (.putfield 16, 3) := by decide +kernel
theorem dX6_init_26 : decode cX6_init 26 = .ok (.aload_n 0, 1) := by decide +kernel
theorem dX6_init_27 : decode cX6_init 27 = .ok (.new 19, 3) := by decide +kernel
theorem dX6_init_30 : decode cX6_init 30 = .ok (.dup, 1) := by decide +kernel
theorem dX6_init_31 : decode cX6_init 31 = .ok (.invokespecial 21, 3) := by decide +kernel
theorem dX6_init_34 : decode cX6_init 34 = .ok (.putfield 22, 3) := by decide +kernel
theorem dX6_init_37 : decode cX6_init 37 = .ok (.aload_n 0, 1) := by decide +kernel
theorem dX6_init_38 : decode cX6_init 38 = .ok (.new 26, 3) := by decide +kernel
theorem dX6_init_41 : decode cX6_init 41 = .ok (.dup, 1) := by decide +kernel
theorem dX6_init_42 : decode cX6_init 42 = .ok (.invokespecial 28, 3) := by decide +kernel
theorem dX6_init_45 : decode cX6_init 45 = .ok (.putfield 29, 3) := by decide +kernel
theorem dX6_init_48 : decode cX6_init 48 = .ok (.return_, 1) := by decide +kernel
theorem dX6_bowl_0 : decode cX6_bowl 0 = .ok (.iload_n 1, 1) := by decide +kernel
theorem dX6_bowl_1 : decode cX6_bowl 1 = .ok (.iconst 0, 1) := by decide +kernel
theorem dX6_bowl_2 : decode cX6_bowl 2 = .ok (.sipush 6000, 3) := by decide +kernel
theorem dX6_bowl_5 : decode cX6_bowl 5 = .ok (.invokestatic 33, 3) := by decide +kernel
theorem dX6_bowl_8 : decode cX6_bowl 8 = .ok (.ifCond .eq 14, 3) := by decide +kernel
theorem dX6_bowl_11 : decode cX6_bowl 11 = .ok (.iload_n 2, 1) := by decide +kernel
theorem dX6_bowl_12 : decode cX6_bowl 12 = .ok (.iconst 1, 1) := by decide +kernel
theorem dX6_bowl_13 : decode cX6_bowl 13 = .ok (.sipush 2400, 3) := by decide +kernel
theorem dX6_bowl_16 : decode cX6_bowl 16 = .ok (.invokestatic 33, 3) := by decide +kernel
theorem dX6_bowl_19 : decode cX6_bowl 19 = .ok (.ifCond .ne 6, 3) := by decide +kernel
theorem dX6_bowl_22 : decode cX6_bowl 22 = .ok (.ldc 37, 2) := by decide +kernel
theorem dX6_bowl_24 : decode cX6_bowl 24 = .ok (.ireturn, 1) := by decide +kernel
theorem dX6_bowl_25 : decode cX6_bowl 25 = .ok (.aload_n 0, 1) := by decide +kernel
theorem dX6_bowl_26 : decode cX6_bowl 26 = .ok (.getfield 10, 3) := by decide +kernel
theorem dX6_bowl_29 : decode cX6_bowl 29 = .ok (.getfield 38, 3) := by decide +kernel
theorem dX6_bowl_32 : decode cX6_bowl 32 = .ok (.invokevirtual 42, 3) := by decide +kernel
theorem dX6_bowl_35 : decode cX6_bowl 35 = .ok (.bipush 10, 2) := by decide +kernel
theorem dX6_bowl_37 : decode cX6_bowl 37 = .ok (.if_icmp .lt 6, 3) := by decide +kernel
theorem dX6_bowl_40 : decode cX6_bowl 40 = .ok (.ldc 48, 2) := by decide +kernel
theorem dX6_bowl_42 : decode cX6_bowl 42 = .ok (.ireturn, 1) := by decide +kernel
theorem dX6_bowl_43 : decode cX6_bowl 43 = .ok (.aload_n 0, 1) := by decide +kernel
theorem dX6_bowl_44 : decode cX6_bowl 44 = .ok (.getfield 22, 3) := by decide +kernel
theorem dX6_bowl_47 : decode cX6_bowl 47 = .ok (.aload_n 0, 1) := by decide +kernel
theorem dX6_bowl_48 : decode cX6_bowl 48 = .ok (.getfield 10, 3) := by decide +kernel
theorem dX6_bowl_51 : decode cX6_bowl 51 = .ok (.invokevirtual 49, 3) := by decide +kernel
theorem dX6_bowl_54 : decode cX6_bowl 54 = .ok (.aload_n 0, 1) := by decide +kernel
theorem dX6_bowl_55 : decode cX6_bowl 55 = .ok (.getfield 10, 3) := by decide +kernel
theorem dX6_bowl_58 : decode cX6_bowl 58 = .ok (.getfield 38, 3) := by decide +kernel
theorem dX6_bowl_61 : decode cX6_bowl 61 = .ok (.iload_n 1, 1) := by decide +kernel
theorem dX6_bowl_62 : decode cX6_bowl 62 = .ok (.iload_n 2, 1) := by decide +kernel
theorem dX6_bowl_63 : decode cX6_bowl 63 = .ok (.invokevirtual 53, 3) := by decide +kernel
theorem dX6_bowl_66 : decode cX6_bowl 66 = .ok (.aload_n 0, 1) := by decide +kernel
theorem dX6_bowl_67 : decode cX6_bowl 67 = .ok (.getfield 10, 3) := by decide +kernel
theorem dX6_bowl_70 : decode cX6_bowl 70 = .ok (.getfield 38, 3) := by decide +kernel
theorem dX6_bowl_73 : decode cX6_bowl 73 = .ok (.invokevirtual 42, 3) := by decide +kernel
theorem dX6_bowl_76 : decode cX6_bowl 76 = .ok (.iconst 1, 1) := by decide +kernel
theorem dX6_bowl_77 : decode cX6_bowl 77 = .ok (.isub, 1) := by decide +kernel
theorem dX6_bowl_78 : decode cX6_bowl 78 = .ok (.ireturn, 1) := by decide +kernel
theorem dX6_remove_0 : decode cX6_remove 0 = .ok (.aload_n 0, 1) := by decide +kernel
theorem dX6_remove_1 : decode cX6_remove 1 = .ok (.getfield 10, 3) := by decide +kernel
theorem dX6_remove_4 : decode cX6_remove 4 = .ok (.getfield 38, 3) := by decide +kernel
theorem dX6_remove_7 : decode cX6_remove 7 = .ok (.iload_n 1, 1) := by decide +kernel
theorem dX6_remove_8 : decode cX6_remove 8 = .ok (.invokevirtual 57, 3) := by decide +kernel
theorem dX6_remove_11 : decode cX6_remove 11 = .ok (.ifCond .ne 6, 3) := by decide +kernel
theorem dX6_remove_14 : decode cX6_remove 14 = .ok (.ldc 37, 2) := by decide +kernel
theorem dX6_remove_16 : decode cX6_remove 16 = .ok (.ireturn, 1) := by decide +kernel
theorem dX6_remove_17 : decode cX6_remove 17 = .ok (.aload_n 0, 1) := by decide +kernel
theorem dX6_remove_18 : decode cX6_remove 18 = .ok (.getfield 22, 3) := by decide +kernel
theorem dX6_remove_21 : decode cX6_remove 21 = .ok (.aload_n 0, 1) := by decide +kernel
theorem dX6_remove_22 : decode cX6_remove 22 = .ok (.getfield 10, 3) := by decide +kernel
theorem dX6_remove_25 : decode cX6_remove 25 = .ok (.invokevirtual 49, 3) := by decide +kernel
theorem dX6_remove_28 : decode cX6_remove 28 = .ok (.aload_n 0, 1) := by decide +kernel
theorem dX6_remove_29 : decode cX6_remove 29 = .ok (.getfield 10, 3) := by decide +kernel
theorem dX6_remove_32 : decode cX6_remove 32 = .ok (.getfield 38, 3) := by decide +kernel
theorem dX6_remove_35 : decode cX6_remove 35 = .ok (.iload_n 1, 1) := by decide +kernel
theorem dX6_remove_36 : decode cX6_remove 36 = .ok (.invokevirtual 61, 3) := by decide +kernel
theorem dX6_remove_39 : decode cX6_remove 39 = .ok (.aload_n 0, 1) := by decide +kernel
theorem dX6_remove_40 : decode cX6_remove 40 = .ok (.getfield 10, 3) := by decide +kernel
theorem dX6_remove_43 : decode cX6_remove 43 = .ok (.getfield 38, 3) := by decide +kernel
theorem dX6_remove_46 : decode cX6_remove 46 = .ok (.invokevirtual 42, 3) := by decide +kernel
theorem dX6_remove_49 : decode cX6_remove 49 = .ok (.ireturn, 1) := by decide +kernel
theorem dX6_pour_0 : decode cX6_pour 0 = .ok (.aload_n 0, 1) := by decide +kernel
theorem dX6_pour_1 : decode cX6_pour 1 = .ok (.getfield 10, 3) := by decide +kernel
theorem dX6_pour_4 : decode cX6_pour 4 = .ok (.getfield 38, 3) := by decide +kernel
theorem dX6_pour_7 : decode cX6_pour 7 = .ok (.iload_n 1, 1) := by decide +kernel
theorem dX6_pour_8 : decode cX6_pour 8 = .ok (.invokevirtual 57, 3) := by decide +kernel
theorem dX6_pour_11 : decode cX6_pour 11 = .ok (.ifCond .eq 14, 3) := by decide +kernel
theorem dX6_pour_14 : decode cX6_pour 14 = .ok (.iload_n 2, 1) := by decide +kernel
theorem dX6_pour_15 : decode cX6_pour 15 = .ok (.iconst 1, 1) := by decide +kernel
theorem dX6_pour_16 : decode cX6_pour 16 = .ok (.sipush 1000, 3) := by decide +kernel
theorem dX6_pour_19 : decode cX6_pour 19 = .ok (.invokestatic 33, 3) := by decide +kernel
theorem dX6_pour_22 : decode cX6_pour 22 = .ok (.ifCond .ne 6, 3) := by decide +kernel
theorem dX6_pour_25 : decode cX6_pour 25 = .ok (.ldc 37, 2) := by decide +kernel
theorem dX6_pour_27 : decode cX6_pour 27 = .ok (.ireturn, 1) := by decide +kernel
theorem dX6_pour_28 : decode cX6_pour 28 = .ok (.aload_n 0, 1) := by decide +kernel
theorem dX6_pour_29 : decode cX6_pour 29 = .ok (.getfield 10, 3) := by decide +kernel
theorem dX6_pour_32 : decode cX6_pour 32 = .ok (.getfield 38, 3) := by decide +kernel
theorem dX6_pour_35 : decode cX6_pour 35 = .ok (.iload_n 1, 1) := by decide +kernel
theorem dX6_pour_36 : decode cX6_pour 36 = .ok (.invokevirtual 65, 3) := by decide +kernel
theorem dX6_pour_39 : decode cX6_pour 39 = .ok (.iload_n 2, 1) := by decide +kernel
theorem dX6_pour_40 : decode cX6_pour 40 = .ok (.iadd, 1) := by decide +kernel
theorem dX6_pour_41 : decode cX6_pour 41 = .ok (.sipush 1000, 3) := by decide +kernel
theorem dX6_pour_44 : decode cX6_pour 44 = .ok (.if_icmp .le 6, 3) := by decide +kernel
theorem dX6_pour_47 : decode cX6_pour 47 = .ok (.ldc 48, 2) := by decide +kernel
theorem dX6_pour_49 : decode cX6_pour 49 = .ok (.ireturn, 1) := by decide +kernel
theorem dX6_pour_50 : decode cX6_pour 50 = .ok (.aload_n 0, 1) := by decide +kernel
theorem dX6_pour_51 : decode cX6_pour 51 = .ok (.getfield 22, 3) := by decide +kernel
theorem dX6_pour_54 : decode cX6_pour 54 = .ok (.aload_n 0, 1) := by decide +kernel
theorem dX6_pour_55 : decode cX6_pour 55 = .ok (.getfield 10, 3) := by decide +kernel
theorem dX6_pour_58 : decode cX6_pour 58 = .ok (.invokevirtual 49, 3) := by decide +kernel
theorem dX6_pour_61 : decode cX6_pour 61 = .ok (.aload_n 0, 1) := by decide +kernel
theorem dX6_pour_62 : decode cX6_pour 62 = .ok (.getfield 10, 3) := by decide +kernel
theorem dX6_pour_65 : decode cX6_pour 65 = .ok (.getfield 38, 3) := by decide +kernel
theorem dX6_pour_68 : decode cX6_pour 68 = .ok (.iload_n 1, 1) := by decide +kernel
theorem dX6_pour_69 : decode cX6_pour 69 = .ok (.iload_n 2, 1) := by decide +kernel
theorem dX6_pour_70 : decode cX6_pour 70 = .ok (.invokevirtual 69, 3) := by decide +kernel
theorem dX6_pour_73 : decode cX6_pour 73 = .ok (.aload_n 0, 1) := by decide +kernel
theorem dX6_pour_74 : decode cX6_pour 74 = .ok (.getfield 10, 3) := by decide +kernel
theorem dX6_pour_77 : decode cX6_pour 77 = .ok (.getfield 38, 3) := by decide +kernel
theorem dX6_pour_80 : decode cX6_pour 80 = .ok (.iload_n 1, 1) := by decide +kernel
theorem dX6_pour_81 : decode cX6_pour 81 = .ok (.invokevirtual 65, 3) := by decide +kernel
theorem dX6_pour_84 : decode cX6_pour 84 = .ok (.ireturn, 1) := by decide +kernel
theorem dX6_spill_0 : decode cX6_spill 0 = .ok (.aload_n 0, 1) := by decide +kernel
theorem dX6_spill_1 : decode cX6_spill 1 = .ok (.getfield 10, 3) := by decide +kernel
theorem dX6_spill_4 : decode cX6_spill 4 = .ok (.getfield 38, 3) := by decide +kernel
theorem dX6_spill_7 : decode cX6_spill 7 = .ok (.iload_n 1, 1) := by decide +kernel
theorem dX6_spill_8 : decode cX6_spill 8 = .ok (.invokevirtual 57, 3) := by decide +kernel
theorem dX6_spill_11 : decode cX6_spill 11 = .ok (.ifCond .eq 14, 3) := by decide +kernel
theorem dX6_spill_14 : decode cX6_spill 14 = .ok (.iload_n 2, 1) := by decide +kernel
theorem dX6_spill_15 : decode cX6_spill 15 = .ok (.iconst 1, 1) := by decide +kernel
theorem dX6_spill_16 : decode cX6_spill 16 = .ok (.sipush 1000, 3) := by decide +kernel
theorem dX6_spill_19 : decode cX6_spill 19 = .ok (.invokestatic 33, 3) := by decide +kernel
theorem dX6_spill_22 : decode cX6_spill 22 = .ok (.ifCond .ne 6, 3) := by decide +kernel
theorem dX6_spill_25 : decode cX6_spill 25 = .ok (.ldc 37, 2) := by decide +kernel
theorem dX6_spill_27 : decode cX6_spill 27 = .ok (.ireturn, 1) := by decide +kernel
theorem dX6_spill_28 : decode cX6_spill 28 = .ok (.aload_n 0, 1) := by decide +kernel
theorem dX6_spill_29 : decode cX6_spill 29 = .ok (.getfield 10, 3) := by decide +kernel
theorem dX6_spill_32 : decode cX6_spill 32 = .ok (.getfield 38, 3) := by decide +kernel
theorem dX6_spill_35 : decode cX6_spill 35 = .ok (.iload_n 1, 1) := by decide +kernel
theorem dX6_spill_36 : decode cX6_spill 36 = .ok (.invokevirtual 65, 3) := by decide +kernel
theorem dX6_spill_39 : decode cX6_spill 39 = .ok (.iload_n 2, 1) := by decide +kernel
theorem dX6_spill_40 : decode cX6_spill 40 = .ok (.if_icmp .ge 6, 3) := by decide +kernel
theorem dX6_spill_43 : decode cX6_spill 43 = .ok (.ldc 72, 2) := by decide +kernel
theorem dX6_spill_45 : decode cX6_spill 45 = .ok (.ireturn, 1) := by decide +kernel
theorem dX6_spill_46 : decode cX6_spill 46 = .ok (.aload_n 0, 1) := by decide +kernel
theorem dX6_spill_47 : decode cX6_spill 47 = .ok (.getfield 22, 3) := by decide +kernel
theorem dX6_spill_50 : decode cX6_spill 50 = .ok (.aload_n 0, 1) := by decide +kernel
theorem dX6_spill_51 : decode cX6_spill 51 = .ok (.getfield 10, 3) := by decide +kernel
theorem dX6_spill_54 : decode cX6_spill 54 = .ok (.invokevirtual 49, 3) := by decide +kernel
theorem dX6_spill_57 : decode cX6_spill 57 = .ok (.aload_n 0, 1) := by decide +kernel
theorem dX6_spill_58 : decode cX6_spill 58 = .ok (.getfield 10, 3) := by decide +kernel
theorem dX6_spill_61 : decode cX6_spill 61 = .ok (.getfield 38, 3) := by decide +kernel
theorem dX6_spill_64 : decode cX6_spill 64 = .ok (.iload_n 1, 1) := by decide +kernel
theorem dX6_spill_65 : decode cX6_spill 65 = .ok (.iload_n 2, 1) := by decide +kernel
theorem dX6_spill_66 : decode cX6_spill 66 = .ok (.invokevirtual 73, 3) := by decide +kernel
theorem dX6_spill_69 : decode cX6_spill 69 = .ok (.aload_n 0, 1) := by decide +kernel
theorem dX6_spill_70 : decode cX6_spill 70 = .ok (.getfield 10, 3) := by decide +kernel
theorem dX6_spill_73 : decode cX6_spill 73 = .ok (.getfield 38, 3) := by decide +kernel
theorem dX6_spill_76 : decode cX6_spill 76 = .ok (.iload_n 1, 1) := by decide +kernel
theorem dX6_spill_77 : decode cX6_spill 77 = .ok (.invokevirtual 65, 3) := by decide +kernel
theorem dX6_spill_80 : decode cX6_spill 80 = .ok (.ireturn, 1) := by decide +kernel
theorem dX6_crack_0 : decode cX6_crack 0 = .ok (.aload_n 0, 1) := by decide +kernel
theorem dX6_crack_1 : decode cX6_crack 1 = .ok (.getfield 10, 3) := by decide +kernel
theorem dX6_crack_4 : decode cX6_crack 4 = .ok (.getfield 38, 3) := by decide +kernel
theorem dX6_crack_7 : decode cX6_crack 7 = .ok (.iload_n 1, 1) := by decide +kernel
theorem dX6_crack_8 : decode cX6_crack 8 = .ok (.invokevirtual 57, 3) := by decide +kernel
theorem dX6_crack_11 : decode cX6_crack 11 = .ok (.ifCond .eq 14, 3) := by decide +kernel
theorem dX6_crack_14 : decode cX6_crack 14 = .ok (.iload_n 2, 1) := by decide +kernel
theorem dX6_crack_15 : decode cX6_crack 15 = .ok (.iconst 0, 1) := by decide +kernel
theorem dX6_crack_16 : decode cX6_crack 16 = .ok (.sipush 1000, 3) := by decide +kernel
theorem dX6_crack_19 : decode cX6_crack 19 = .ok (.invokestatic 33, 3) := by decide +kernel
theorem dX6_crack_22 : decode cX6_crack 22 = .ok (.ifCond .ne 6, 3) := by decide +kernel
theorem dX6_crack_25 : decode cX6_crack 25 = .ok (.ldc 37, 2) := by decide +kernel
theorem dX6_crack_27 : decode cX6_crack 27 = .ok (.ireturn, 1) := by decide +kernel
theorem dX6_crack_28 : decode cX6_crack 28 = .ok (.aload_n 0, 1) := by decide +kernel
theorem dX6_crack_29 : decode cX6_crack 29 = .ok (.getfield 22, 3) := by decide +kernel
theorem dX6_crack_32 : decode cX6_crack 32 = .ok (.aload_n 0, 1) := by decide +kernel
theorem dX6_crack_33 : decode cX6_crack 33 = .ok (.getfield 10, 3) := by decide +kernel
theorem dX6_crack_36 : decode cX6_crack 36 = .ok (.invokevirtual 49, 3) := by decide +kernel
theorem dX6_crack_39 : decode cX6_crack 39 = .ok (.aload_n 0, 1) := by decide +kernel
theorem dX6_crack_40 : decode cX6_crack 40 = .ok (.getfield 10, 3) := by decide +kernel
theorem dX6_crack_43 : decode cX6_crack 43 = .ok (.getfield 38, 3) := by decide +kernel
theorem dX6_crack_46 : decode cX6_crack 46 = .ok (.iload_n 1, 1) := by decide +kernel
theorem dX6_crack_47 : decode cX6_crack 47 = .ok (.invokevirtual 65, 3) := by decide +kernel
theorem dX6_crack_50 : decode cX6_crack 50 = .ok (.istore_n 3, 1) := by decide +kernel
theorem dX6_crack_51 : decode cX6_crack 51 = .ok (.aload_n 0, 1) := by decide +kernel
theorem dX6_crack_52 : decode cX6_crack 52 = .ok (.getfield 10, 3) := by decide +kernel
theorem dX6_crack_55 : decode cX6_crack 55 = .ok (.getfield 38, 3) := by decide +kernel
theorem dX6_crack_58 : decode cX6_crack 58 = .ok (.iload_n 1, 1) := by decide +kernel
theorem dX6_crack_59 : decode cX6_crack 59 = .ok (.iload_n 2, 1) := by decide +kernel
theorem dX6_crack_60 : decode cX6_crack 60 = .ok (.invokevirtual 76, 3) := by decide +kernel
theorem dX6_crack_63 : decode cX6_crack 63 = .ok (.iload_n 3, 1) := by decide +kernel
theorem dX6_crack_64 : decode cX6_crack 64 = .ok (.aload_n 0, 1) := by decide +kernel
theorem dX6_crack_65 : decode cX6_crack 65 = .ok (.getfield 10, 3) := by decide +kernel
theorem dX6_crack_68 : decode cX6_crack 68 = .ok (.getfield 38, 3) := by decide +kernel
theorem dX6_crack_71 : decode cX6_crack 71 = .ok (.iload_n 1, 1) := by decide +kernel
theorem dX6_crack_72 : decode cX6_crack 72 = .ok (.invokevirtual 65, 3) := by decide +kernel
theorem dX6_crack_75 : decode cX6_crack 75 = .ok (.isub, 1) := by decide +kernel
theorem dX6_crack_76 : decode cX6_crack 76 = .ok (.ireturn, 1) := by decide +kernel
theorem dX6_mark_0 : decode cX6_mark 0 = .ok (.aload_n 0, 1) := by decide +kernel
theorem dX6_mark_1 : decode cX6_mark 1 = .ok (.getfield 10, 3) := by decide +kernel
theorem dX6_mark_4 : decode cX6_mark 4 = .ok (.getfield 38, 3) := by decide +kernel
theorem dX6_mark_7 : decode cX6_mark 7 = .ok (.iload_n 1, 1) := by decide +kernel
theorem dX6_mark_8 : decode cX6_mark 8 = .ok (.invokevirtual 57, 3) := by decide +kernel
theorem dX6_mark_11 : decode cX6_mark 11 = .ok (.ifCond .eq 14, 3) := by decide +kernel
theorem dX6_mark_14 : decode cX6_mark 14 = .ok (.iload_n 2, 1) := by decide +kernel
theorem dX6_mark_15 : decode cX6_mark 15 = .ok (.iconst 0, 1) := by decide +kernel
theorem dX6_mark_16 : decode cX6_mark 16 = .ok (.sipush 1000, 3) := by decide +kernel
theorem dX6_mark_19 : decode cX6_mark 19 = .ok (.invokestatic 33, 3) := by decide +kernel
theorem dX6_mark_22 : decode cX6_mark 22 = .ok (.ifCond .ne 6, 3) := by decide +kernel
theorem dX6_mark_25 : decode cX6_mark 25 = .ok (.ldc 37, 2) := by decide +kernel
theorem dX6_mark_27 : decode cX6_mark 27 = .ok (.ireturn, 1) := by decide +kernel
theorem dX6_mark_28 : decode cX6_mark 28 = .ok (.aload_n 0, 1) := by decide +kernel
theorem dX6_mark_29 : decode cX6_mark 29 = .ok (.getfield 22, 3) := by decide +kernel
theorem dX6_mark_32 : decode cX6_mark 32 = .ok (.aload_n 0, 1) := by decide +kernel
theorem dX6_mark_33 : decode cX6_mark 33 = .ok (.getfield 10, 3) := by decide +kernel
theorem dX6_mark_36 : decode cX6_mark 36 = .ok (.invokevirtual 49, 3) := by decide +kernel
theorem dX6_mark_39 : decode cX6_mark 39 = .ok (.aload_n 0, 1) := by decide +kernel
theorem dX6_mark_40 : decode cX6_mark 40 = .ok (.getfield 10, 3) := by decide +kernel
theorem dX6_mark_43 : decode cX6_mark 43 = .ok (.getfield 38, 3) := by decide +kernel
theorem dX6_mark_46 : decode cX6_mark 46 = .ok (.iload_n 1, 1) := by decide +kernel
theorem dX6_mark_47 : decode cX6_mark 47 = .ok (.iload_n 2, 1) := by decide +kernel
theorem dX6_mark_48 : decode cX6_mark 48 = .ok (.invokevirtual 79, 3) := by decide +kernel
theorem dX6_mark_51 : decode cX6_mark 51 = .ok (.ireturn, 1) := by decide +kernel
theorem dX6_bowlOf_0 : decode cX6_bowlOf 0 = .ok (.aload_n 0, 1) := by decide +kernel
theorem dX6_bowlOf_1 : decode cX6_bowlOf 1 = .ok (.getfield 10, 3) := by decide +kernel
theorem dX6_bowlOf_4 : decode cX6_bowlOf 4 = .ok (.getfield 38, 3) := by decide +kernel
theorem dX6_bowlOf_7 : decode cX6_bowlOf 7 = .ok (.iload_n 1, 1) := by decide +kernel
theorem dX6_bowlOf_8 : decode cX6_bowlOf 8 = .ok (.invokevirtual 57, 3) := by decide +kernel
theorem dX6_bowlOf_11 : decode cX6_bowlOf 11 = .ok (.ifCond .ne 6, 3) := by decide +kernel
theorem dX6_bowlOf_14 : decode cX6_bowlOf 14 = .ok (.ldc 37, 2) := by decide +kernel
theorem dX6_bowlOf_16 : decode cX6_bowlOf 16 = .ok (.ireturn, 1) := by decide +kernel
theorem dX6_bowlOf_17 : decode cX6_bowlOf 17 = .ok (.aload_n 0, 1) := by decide +kernel
theorem dX6_bowlOf_18 : decode cX6_bowlOf 18 = .ok (.getfield 10, 3) := by decide +kernel
theorem dX6_bowlOf_21 : decode cX6_bowlOf 21 = .ok (.getfield 38, 3) := by decide +kernel
theorem dX6_bowlOf_24 : decode cX6_bowlOf 24 = .ok (.iload_n 1, 1) := by decide +kernel
theorem dX6_bowlOf_25 : decode cX6_bowlOf 25 = .ok (.iload_n 2, 1) := by decide +kernel
theorem dX6_bowlOf_26 : decode cX6_bowlOf 26 = .ok (.invokevirtual 83, 3) := by decide +kernel
theorem dX6_bowlOf_29 : decode cX6_bowlOf 29 = .ok (.ireturn, 1) := by decide +kernel
theorem dX6_levelFor_0 : decode cX6_levelFor 0 = .ok (.aload_n 0, 1) := by decide +kernel
theorem dX6_levelFor_1 : decode cX6_levelFor 1 = .ok (.getfield 10, 3) := by decide +kernel
theorem dX6_levelFor_4 : decode cX6_levelFor 4 = .ok (.getfield 38, 3) := by decide +kernel
theorem dX6_levelFor_7 : decode cX6_levelFor 7 = .ok (.iload_n 1, 1) := by decide +kernel
theorem dX6_levelFor_8 : decode cX6_levelFor 8 = .ok (.invokevirtual 57, 3) := by decide +kernel
theorem dX6_levelFor_11 : decode cX6_levelFor 11 = .ok (.ifCond .eq 16, 3) := by decide +kernel
theorem dX6_levelFor_14 : decode cX6_levelFor 14 = .ok (.iload_n 2, 1) := by decide +kernel
theorem dX6_levelFor_15 : decode cX6_levelFor 15 = .ok (.sipush (-3000), 3) := by decide +kernel
theorem dX6_levelFor_18 : decode cX6_levelFor 18 = .ok (.sipush 6000, 3) := by decide +kernel
theorem dX6_levelFor_21 : decode cX6_levelFor 21 = .ok (.invokestatic 33, 3) := by decide +kernel
theorem dX6_levelFor_24 : decode cX6_levelFor 24 = .ok (.ifCond .ne 6, 3) := by decide +kernel
theorem dX6_levelFor_27 : decode cX6_levelFor 27 = .ok (.ldc 37, 2) := by decide +kernel
theorem dX6_levelFor_29 : decode cX6_levelFor 29 = .ok (.ireturn, 1) := by decide +kernel
theorem dX6_levelFor_30 : decode cX6_levelFor 30 = .ok (.aload_n 0, 1) := by decide +kernel
theorem dX6_levelFor_31 : decode cX6_levelFor 31 = .ok (.getfield 10, 3) := by decide +kernel
theorem dX6_levelFor_34 : decode cX6_levelFor 34 = .ok (.getfield 38, 3) := by decide +kernel
theorem dX6_levelFor_37 : decode cX6_levelFor 37 = .ok (.iload_n 1, 1) := by decide +kernel
theorem dX6_levelFor_38 : decode cX6_levelFor 38 = .ok (.iload_n 2, 1) := by decide +kernel
theorem dX6_levelFor_39 : decode cX6_levelFor 39 = .ok (.invokevirtual 86, 3) := by decide +kernel
theorem dX6_levelFor_42 : decode cX6_levelFor 42 = .ok (.ireturn, 1) := by decide +kernel
theorem dX6_nearest_0 : decode cX6_nearest 0 = .ok (.iload_n 1, 1) := by decide +kernel
theorem dX6_nearest_1 : decode cX6_nearest 1 = .ok (.iconst 0, 1) := by decide +kernel
theorem dX6_nearest_2 : decode cX6_nearest 2 = .ok (.sipush 6000, 3) := by decide +kernel
theorem dX6_nearest_5 : decode cX6_nearest 5 = .ok (.invokestatic 33, 3) := by decide +kernel
theorem dX6_nearest_8 : decode cX6_nearest 8 = .ok (.ifCond .ne 6, 3) := by decide +kernel
theorem dX6_nearest_11 : decode cX6_nearest 11 = .ok (.ldc 37, 2) := by decide +kernel
theorem dX6_nearest_13 : decode cX6_nearest 13 = .ok (.ireturn, 1) := by decide +kernel
theorem dX6_nearest_14 : decode cX6_nearest 14 = .ok (.aload_n 0, 1) := by decide +kernel
theorem dX6_nearest_15 : decode cX6_nearest 15 = .ok (.getfield 10, 3) := by decide +kernel
theorem dX6_nearest_18 : decode cX6_nearest 18 = .ok (.getfield 38, 3) := by decide +kernel
theorem dX6_nearest_21 : decode cX6_nearest 21 = .ok (.iload_n 1, 1) := by decide +kernel
theorem dX6_nearest_22 : decode cX6_nearest 22 = .ok (.invokevirtual 89, 3) := by decide +kernel
theorem dX6_nearest_25 : decode cX6_nearest 25 = .ok (.invokestatic 92, 3) := by decide +kernel
theorem dX6_nearest_28 : decode cX6_nearest 28 = .ok (.ireturn, 1) := by decide +kernel
theorem dX6_set_0 : decode cX6_set 0 = .ok (.iload_n 1, 1) := by decide +kernel
theorem dX6_set_1 : decode cX6_set 1 = .ok (.iload_n 2, 1) := by decide +kernel
theorem dX6_set_2 : decode cX6_set 2 = .ok (.invokestatic 95, 3) := by decide +kernel
theorem dX6_set_5 : decode cX6_set 5 = .ok (.ifCond .ne 6, 3) := by decide +kernel
theorem dX6_set_8 : decode cX6_set 8 = .ok (.ldc 37, 2) := by decide +kernel
theorem dX6_set_10 : decode cX6_set 10 = .ok (.ireturn, 1) := by decide +kernel
theorem dX6_set_11 : decode cX6_set 11 = .ok (.aload_n 0, 1) := by decide +kernel
theorem dX6_set_12 : decode cX6_set 12 = .ok (.getfield 22, 3) := by decide +kernel
theorem dX6_set_15 : decode cX6_set 15 = .ok (.aload_n 0, 1) := by decide +kernel
theorem dX6_set_16 : decode cX6_set 16 = .ok (.getfield 10, 3) := by decide +kernel
theorem dX6_set_19 : decode cX6_set 19 = .ok (.invokevirtual 49, 3) := by decide +kernel
theorem dX6_set_22 : decode cX6_set 22 = .ok (.aload_n 0, 1) := by decide +kernel
theorem dX6_set_23 : decode cX6_set 23 = .ok (.getfield 10, 3) := by decide +kernel
theorem dX6_set_26 : decode cX6_set 26 = .ok (.iload_n 1, 1) := by decide +kernel
theorem dX6_set_27 : decode cX6_set 27 = .ok (.iload_n 2, 1) := by decide +kernel
theorem dX6_set_28 : decode cX6_set 28 = .ok (.invokevirtual 99, 3) := by decide +kernel
theorem dX6_set_31 : decode cX6_set 31 = .ok (.ireturn, 1) := by decide +kernel
theorem dX6_count_0 : decode cX6_count 0 = .ok (.iload_n 1, 1) := by decide +kernel
theorem dX6_count_1 : decode cX6_count 1 = .ok (.bipush 10, 2) := by decide +kernel
theorem dX6_count_3 : decode cX6_count 3 = .ok (.bipush 13, 2) := by decide +kernel
theorem dX6_count_5 : decode cX6_count 5 = .ok (.invokestatic 33, 3) := by decide +kernel
theorem dX6_count_8 : decode cX6_count 8 = .ok (.ifCond .eq 15, 3) := by decide +kernel
theorem dX6_count_11 : decode cX6_count 11 = .ok (.aload_n 0, 1) := by decide +kernel
theorem dX6_count_12 : decode cX6_count 12 = .ok (.getfield 10, 3) := by decide +kernel
theorem dX6_count_15 : decode cX6_count 15 = .ok (.iload_n 1, 1) := by decide +kernel
theorem dX6_count_16 : decode cX6_count 16 = .ok (.bipush 10, 2) := by decide +kernel
theorem dX6_count_18 : decode cX6_count 18 = .ok (.isub, 1) := by decide +kernel
theorem dX6_count_19 : decode cX6_count 19 = .ok (.invokevirtual 102, 3) := by decide +kernel
theorem dX6_count_22 : decode cX6_count 22 = .ok (.ireturn, 1) := by decide +kernel
theorem dX6_count_23 : decode cX6_count 23 = .ok (.iload_n 1, 1) := by decide +kernel
theorem dX6_count_24 : decode cX6_count 24 = .ok (.bipush 20, 2) := by decide +kernel
theorem dX6_count_26 : decode cX6_count 26 = .ok (.bipush 24, 2) := by decide +kernel
theorem dX6_count_28 : decode cX6_count 28 = .ok (.invokestatic 33, 3) := by decide +kernel
theorem dX6_count_31 : decode cX6_count 31 = .ok (.ifCond .eq 18, 3) := by decide +kernel
theorem dX6_count_34 : decode cX6_count 34 = .ok (.aload_n 0, 1) := by decide +kernel
theorem dX6_count_35 : decode cX6_count 35 = .ok (.getfield 10, 3) := by decide +kernel
theorem dX6_count_38 : decode cX6_count 38 = .ok (.getfield 38, 3) := by decide +kernel
theorem dX6_count_41 : decode cX6_count 41 = .ok (.iload_n 1, 1) := by decide +kernel
theorem dX6_count_42 : decode cX6_count 42 = .ok (.bipush 20, 2) := by decide +kernel
theorem dX6_count_44 : decode cX6_count 44 = .ok (.isub, 1) := by decide +kernel
theorem dX6_count_45 : decode cX6_count 45 = .ok (.invokevirtual 105, 3) := by decide +kernel
theorem dX6_count_48 : decode cX6_count 48 = .ok (.ireturn, 1) := by decide +kernel
theorem dX6_count_49 : decode cX6_count 49 = .ok (.iload_n 1, 1) := by decide +kernel
theorem dX6_count_50 : decode cX6_count 50 = .ok (.tableswitch 150 0 8 #[50, 58, 69, 80, 99, 110, 122, 134, 142], 50) := by decide +kernel
theorem dX6_count_100 : decode cX6_count 100 = .ok (.aload_n 0, 1) := by decide +kernel
theorem dX6_count_101 : decode cX6_count 101 = .ok (.getfield 10, 3) := by decide +kernel
theorem dX6_count_104 : decode cX6_count 104 = .ok (.invokevirtual 108, 3) := by decide +kernel
theorem dX6_count_107 : decode cX6_count 107 = .ok (.ireturn, 1) := by decide +kernel
theorem dX6_count_108 : decode cX6_count 108 = .ok (.aload_n 0, 1) := by decide +kernel
theorem dX6_count_109 : decode cX6_count 109 = .ok (.getfield 10, 3) := by decide +kernel
theorem dX6_count_112 : decode cX6_count 112 = .ok (.getfield 38, 3) := by decide +kernel
theorem dX6_count_115 : decode cX6_count 115 = .ok (.invokevirtual 42, 3) := by decide +kernel
theorem dX6_count_118 : decode cX6_count 118 = .ok (.ireturn, 1) := by decide +kernel
theorem dX6_count_119 : decode cX6_count 119 = .ok (.aload_n 0, 1) := by decide +kernel
theorem dX6_count_120 : decode cX6_count 120 = .ok (.getfield 10, 3) := by decide +kernel
theorem dX6_count_123 : decode cX6_count 123 = .ok (.getfield 111, 3) := by decide +kernel
theorem dX6_count_126 : decode cX6_count 126 = .ok (.invokevirtual 115, 3) := by decide +kernel
theorem dX6_count_129 : decode cX6_count 129 = .ok (.ireturn, 1) := by decide +kernel
theorem dX6_count_130 : decode cX6_count 130 = .ok (.aload_n 0, 1) := by decide +kernel
theorem dX6_count_131 : decode cX6_count 131 = .ok (.getfield 10, 3) := by decide +kernel
theorem dX6_count_134 : decode cX6_count 134 = .ok (.getfield 111, 3) := by decide +kernel
theorem dX6_count_137 : decode cX6_count 137 = .ok (.aload_n 0, 1) := by decide +kernel
theorem dX6_count_138 : decode cX6_count 138 = .ok (.getfield 10, 3) := by decide +kernel
theorem dX6_count_141 : decode cX6_count 141 = .ok (.iconst 1, 1) := by decide +kernel
theorem dX6_count_142 : decode cX6_count 142 = .ok (.invokevirtual 102, 3) := by decide +kernel
theorem dX6_count_145 : decode cX6_count 145 = .ok (.invokevirtual 118, 3) := by decide +kernel
theorem dX6_count_148 : decode cX6_count 148 = .ok (.ireturn, 1) := by decide +kernel
theorem dX6_count_149 : decode cX6_count 149 = .ok (.aload_n 0, 1) := by decide +kernel
theorem dX6_count_150 : decode cX6_count 150 = .ok (.getfield 10, 3) := by decide +kernel
theorem dX6_count_153 : decode cX6_count 153 = .ok (.getfield 111, 3) := by decide +kernel
theorem dX6_count_156 : decode cX6_count 156 = .ok (.invokevirtual 121, 3) := by decide +kernel
theorem dX6_count_159 : decode cX6_count 159 = .ok (.ireturn, 1) := by decide +kernel
theorem dX6_count_160 : decode cX6_count 160 = .ok (.aload_n 0, 1) := by decide +kernel
theorem dX6_count_161 : decode cX6_count 161 = .ok (.getfield 10, 3) := by decide +kernel
theorem dX6_count_164 : decode cX6_count 164 = .ok (.getfield 111, 3) := by decide +kernel
theorem dX6_count_167 : decode cX6_count 167 = .ok (.iconst 3, 1) := by decide +kernel
theorem dX6_count_168 : decode cX6_count 168 = .ok (.invokevirtual 124, 3) := by decide +kernel
theorem dX6_count_171 : decode cX6_count 171 = .ok (.ireturn, 1) := by decide +kernel
theorem dX6_count_172 : decode cX6_count 172 = .ok (.aload_n 0, 1) := by decide +kernel
theorem dX6_count_173 : decode cX6_count 173 = .ok (.getfield 10, 3) := by decide +kernel
theorem dX6_count_176 : decode cX6_count 176 = .ok (.getfield 111, 3) := by decide +kernel
theorem dX6_count_179 : decode cX6_count 179 = .ok (.iconst 1, 1) := by decide +kernel
theorem dX6_count_180 : decode cX6_count 180 = .ok (.invokevirtual 124, 3) := by decide +kernel
theorem dX6_count_183 : decode cX6_count 183 = .ok (.ireturn, 1) := by decide +kernel
theorem dX6_count_184 : decode cX6_count 184 = .ok (.aload_n 0, 1) := by decide +kernel
theorem dX6_count_185 : decode cX6_count 185 = .ok (.getfield 22, 3) := by decide +kernel
theorem dX6_count_188 : decode cX6_count 188 = .ok (.invokevirtual 127, 3) := by decide +kernel
theorem dX6_count_191 : decode cX6_count 191 = .ok (.ireturn, 1) := by decide +kernel
theorem dX6_count_192 : decode cX6_count 192 = .ok (.aload_n 0, 1) := by decide +kernel
theorem dX6_count_193 : decode cX6_count 193 = .ok (.getfield 29, 3) := by decide +kernel
theorem dX6_count_196 : decode cX6_count 196 = .ok (.invokevirtual 128, 3) := by decide +kernel
theorem dX6_count_199 : decode cX6_count 199 = .ok (.ireturn, 1) := by decide +kernel
theorem dX6_count_200 : decode cX6_count 200 = .ok (.ldc 37, 2) := by decide +kernel
theorem dX6_count_202 : decode cX6_count 202 = .ok (.ireturn, 1) := by decide +kernel
theorem dX6_undo_0 : decode cX6_undo 0 = .ok (.aload_n 0, 1) := by decide +kernel
theorem dX6_undo_1 : decode cX6_undo 1 = .ok (.getfield 22, 3) := by decide +kernel
theorem dX6_undo_4 : decode cX6_undo 4 = .ok (.invokevirtual 127, 3) := by decide +kernel
theorem dX6_undo_7 : decode cX6_undo 7 = .ok (.ifCond .ne 6, 3) := by decide +kernel
theorem dX6_undo_10 : decode cX6_undo 10 = .ok (.ldc 72, 2) := by decide +kernel
theorem dX6_undo_12 : decode cX6_undo 12 = .ok (.ireturn, 1) := by decide +kernel
theorem dX6_undo_13 : decode cX6_undo 13 = .ok (.aload_n 0, 1) := by decide +kernel
theorem dX6_undo_14 : decode cX6_undo 14 = .ok (.getfield 22, 3) := by decide +kernel
theorem dX6_undo_17 : decode cX6_undo 17 = .ok (.aload_n 0, 1) := by decide +kernel
theorem dX6_undo_18 : decode cX6_undo 18 = .ok (.getfield 10, 3) := by decide +kernel
theorem dX6_undo_21 : decode cX6_undo 21 = .ok (.invokevirtual 131, 3) := by decide +kernel
theorem dX6_undo_24 : decode cX6_undo 24 = .ok (.aload_n 0, 1) := by decide +kernel
theorem dX6_undo_25 : decode cX6_undo 25 = .ok (.getfield 22, 3) := by decide +kernel
theorem dX6_undo_28 : decode cX6_undo 28 = .ok (.invokevirtual 127, 3) := by decide +kernel
theorem dX6_undo_31 : decode cX6_undo 31 = .ok (.ireturn, 1) := by decide +kernel
theorem dX6_note_0 : decode cX6_note 0 = .ok (.iload_n 1, 1) := by decide +kernel
theorem dX6_note_1 : decode cX6_note 1 = .ok (.iconst 0, 1) := by decide +kernel
theorem dX6_note_2 : decode cX6_note 2 = .ok (.sipush 3600, 3) := by decide +kernel
theorem dX6_note_5 : decode cX6_note 5 = .ok (.invokestatic 33, 3) := by decide +kernel
theorem dX6_note_8 : decode cX6_note 8 = .ok (.ifCond .eq 14, 3) := by decide +kernel
theorem dX6_note_11 : decode cX6_note 11 = .ok (.iload_n 2, 1) := by decide +kernel
theorem dX6_note_12 : decode cX6_note 12 = .ok (.iconst 0, 1) := by decide +kernel
theorem dX6_note_13 : decode cX6_note 13 = .ok (.sipush 6000, 3) := by decide +kernel
theorem dX6_note_16 : decode cX6_note 16 = .ok (.invokestatic 33, 3) := by decide +kernel
theorem dX6_note_19 : decode cX6_note 19 = .ok (.ifCond .ne 6, 3) := by decide +kernel
theorem dX6_note_22 : decode cX6_note 22 = .ok (.ldc 37, 2) := by decide +kernel
theorem dX6_note_24 : decode cX6_note 24 = .ok (.ireturn, 1) := by decide +kernel
theorem dX6_note_25 : decode cX6_note 25 = .ok (.aload_n 0, 1) := by decide +kernel
theorem dX6_note_26 : decode cX6_note 26 = .ok (.getfield 10, 3) := by decide +kernel
theorem dX6_note_29 : decode cX6_note 29 = .ok (.getfield 111, 3) := by decide +kernel
theorem dX6_note_32 : decode cX6_note 32 = .ok (.iload_n 1, 1) := by decide +kernel
theorem dX6_note_33 : decode cX6_note 33 = .ok (.invokevirtual 134, 3) := by decide +kernel
theorem dX6_note_36 : decode cX6_note 36 = .ok (.ifCond .eq 6, 3) := by decide +kernel
theorem dX6_note_39 : decode cX6_note 39 = .ok (.ldc 72, 2) := by decide +kernel
theorem dX6_note_41 : decode cX6_note 41 = .ok (.ireturn, 1) := by decide +kernel
theorem dX6_note_42 : decode cX6_note 42 = .ok (.aload_n 0, 1) := by decide +kernel
theorem dX6_note_43 : decode cX6_note 43 = .ok (.getfield 10, 3) := by decide +kernel
theorem dX6_note_46 : decode cX6_note 46 = .ok (.getfield 111, 3) := by decide +kernel
theorem dX6_note_49 : decode cX6_note 49 = .ok (.invokevirtual 137, 3) := by decide +kernel
theorem dX6_note_52 : decode cX6_note 52 = .ok (.ifCond .eq 6, 3) := by decide +kernel
theorem dX6_note_55 : decode cX6_note 55 = .ok (.ldc 48, 2) := by decide +kernel
theorem dX6_note_57 : decode cX6_note 57 = .ok (.ireturn, 1) := by decide +kernel
theorem dX6_note_58 : decode cX6_note 58 = .ok (.aload_n 0, 1) := by decide +kernel
theorem dX6_note_59 : decode cX6_note 59 = .ok (.getfield 22, 3) := by decide +kernel
theorem dX6_note_62 : decode cX6_note 62 = .ok (.aload_n 0, 1) := by decide +kernel
theorem dX6_note_63 : decode cX6_note 63 = .ok (.getfield 10, 3) := by decide +kernel
theorem dX6_note_66 : decode cX6_note 66 = .ok (.invokevirtual 49, 3) := by decide +kernel
theorem dX6_note_69 : decode cX6_note 69 = .ok (.aload_n 0, 1) := by decide +kernel
theorem dX6_note_70 : decode cX6_note 70 = .ok (.getfield 10, 3) := by decide +kernel
theorem dX6_note_73 : decode cX6_note 73 = .ok (.getfield 111, 3) := by decide +kernel
theorem dX6_note_76 : decode cX6_note 76 = .ok (.iload_n 1, 1) := by decide +kernel
theorem dX6_note_77 : decode cX6_note 77 = .ok (.iload_n 2, 1) := by decide +kernel
theorem dX6_note_78 : decode cX6_note 78 = .ok (.invokevirtual 141, 3) := by decide +kernel
theorem dX6_note_81 : decode cX6_note 81 = .ok (.ireturn, 1) := by decide +kernel
theorem dX6_drop_0 : decode cX6_drop 0 = .ok (.aload_n 0, 1) := by decide +kernel
theorem dX6_drop_1 : decode cX6_drop 1 = .ok (.getfield 10, 3) := by decide +kernel
theorem dX6_drop_4 : decode cX6_drop 4 = .ok (.getfield 111, 3) := by decide +kernel
theorem dX6_drop_7 : decode cX6_drop 7 = .ok (.iload_n 1, 1) := by decide +kernel
theorem dX6_drop_8 : decode cX6_drop 8 = .ok (.invokevirtual 144, 3) := by decide +kernel
theorem dX6_drop_11 : decode cX6_drop 11 = .ok (.ifCond .ne 6, 3) := by decide +kernel
theorem dX6_drop_14 : decode cX6_drop 14 = .ok (.ldc 37, 2) := by decide +kernel
theorem dX6_drop_16 : decode cX6_drop 16 = .ok (.ireturn, 1) := by decide +kernel
theorem dX6_drop_17 : decode cX6_drop 17 = .ok (.aload_n 0, 1) := by decide +kernel
theorem dX6_drop_18 : decode cX6_drop 18 = .ok (.getfield 22, 3) := by decide +kernel
theorem dX6_drop_21 : decode cX6_drop 21 = .ok (.aload_n 0, 1) := by decide +kernel
theorem dX6_drop_22 : decode cX6_drop 22 = .ok (.getfield 10, 3) := by decide +kernel
theorem dX6_drop_25 : decode cX6_drop 25 = .ok (.invokevirtual 49, 3) := by decide +kernel
theorem dX6_drop_28 : decode cX6_drop 28 = .ok (.aload_n 0, 1) := by decide +kernel
theorem dX6_drop_29 : decode cX6_drop 29 = .ok (.getfield 10, 3) := by decide +kernel
theorem dX6_drop_32 : decode cX6_drop 32 = .ok (.getfield 111, 3) := by decide +kernel
theorem dX6_drop_35 : decode cX6_drop 35 = .ok (.iload_n 1, 1) := by decide +kernel
theorem dX6_drop_36 : decode cX6_drop 36 = .ok (.invokevirtual 145, 3) := by decide +kernel
theorem dX6_drop_39 : decode cX6_drop 39 = .ok (.aload_n 0, 1) := by decide +kernel
theorem dX6_drop_40 : decode cX6_drop 40 = .ok (.getfield 10, 3) := by decide +kernel
theorem dX6_drop_43 : decode cX6_drop 43 = .ok (.getfield 111, 3) := by decide +kernel
theorem dX6_drop_46 : decode cX6_drop 46 = .ok (.invokevirtual 115, 3) := by decide +kernel
theorem dX6_drop_49 : decode cX6_drop 49 = .ok (.ireturn, 1) := by decide +kernel
theorem dX6_transpose_0 : decode cX6_transpose 0 = .ok (.aload_n 0, 1) := by decide +kernel
theorem dX6_transpose_1 : decode cX6_transpose 1 = .ok (.getfield 10, 3) := by decide +kernel
theorem dX6_transpose_4 : decode cX6_transpose 4 = .ok (.getfield 111, 3) := by decide +kernel
theorem dX6_transpose_7 : decode cX6_transpose 7 = .ok (.iload_n 1, 1) := by decide +kernel
theorem dX6_transpose_8 : decode cX6_transpose 8 = .ok (.invokevirtual 144, 3) := by decide +kernel
theorem dX6_transpose_11 : decode cX6_transpose 11 = .ok (.ifCond .eq 39, 3) := by decide +kernel
theorem dX6_transpose_14 : decode cX6_transpose 14 = .ok (.aload_n 0, 1) := by decide +kernel
theorem dX6_transpose_15 : decode cX6_transpose 15 = .ok (.getfield 10, 3) := by decide +kernel
theorem dX6_transpose_18 : decode cX6_transpose 18 = .ok (.getfield 111, 3) := by decide +kernel
theorem dX6_transpose_21 : decode cX6_transpose 21 = .ok (.iload_n 2, 1) := by decide +kernel
theorem dX6_transpose_22 : decode cX6_transpose 22 = .ok (.invokevirtual 144, 3) := by decide +kernel
theorem dX6_transpose_25 : decode cX6_transpose 25 = .ok (.ifCond .eq 25, 3) := by decide +kernel
theorem dX6_transpose_28 : decode cX6_transpose 28 = .ok (.iload_n 2, 1) := by decide +kernel
theorem dX6_transpose_29 : decode cX6_transpose 29 = .ok (.iload_n 1, 1) := by decide +kernel
theorem dX6_transpose_30 : decode cX6_transpose 30 = .ok (.if_icmp .lt 20, 3) := by decide +kernel
theorem dX6_transpose_33 : decode cX6_transpose 33 = .ok (.iload_n 3, 1) := by decide +kernel
theorem dX6_transpose_34 : decode cX6_transpose 34 = .ok (.sipush (-6000), 3) := by decide +kernel
theorem dX6_transpose_37 : decode cX6_transpose 37 = .ok (.sipush 6000, 3) := by decide +kernel
theorem dX6_transpose_40 : decode cX6_transpose 40 = .ok (.invokestatic 33, 3) := by decide +kernel
theorem dX6_transpose_43 : decode cX6_transpose 43 = .ok (.ifCond .eq 7, 3) := by decide +kernel
theorem dX6_transpose_46 : decode cX6_transpose 46 = .ok (.iload_n 3, 1) := by decide +kernel
theorem dX6_transpose_47 : decode cX6_transpose 47 = .ok (.ifCond .ne 6, 3) := by decide +kernel
theorem dX6_transpose_50 : decode cX6_transpose 50 = .ok (.ldc 37, 2) := by decide +kernel
theorem dX6_transpose_52 : decode cX6_transpose 52 = .ok (.ireturn, 1) := by decide +kernel
theorem dX6_transpose_53 : decode cX6_transpose 53 = .ok (.aload_n 0, 1) := by decide +kernel
theorem dX6_transpose_54 : decode cX6_transpose 54 = .ok (.getfield 10, 3) := by decide +kernel
theorem dX6_transpose_57 : decode cX6_transpose 57 = .ok (.getfield 111, 3) := by decide +kernel
theorem dX6_transpose_60 : decode cX6_transpose 60 = .ok (.iload_n 1, 1) := by decide +kernel
theorem dX6_transpose_61 : decode cX6_transpose 61 = .ok (.iload_n 2, 1) := by decide +kernel
theorem dX6_transpose_62 : decode cX6_transpose 62 = .ok (.iload_n 3, 1) := by decide +kernel
theorem dX6_transpose_63 : decode cX6_transpose 63 = .ok (.invokevirtual 146, 3) := by decide +kernel
theorem dX6_transpose_66 : decode cX6_transpose 66 = .ok (.ifCond .ne 6, 3) := by decide +kernel
theorem dX6_transpose_69 : decode cX6_transpose 69 = .ok (.ldc 72, 2) := by decide +kernel
theorem dX6_transpose_71 : decode cX6_transpose 71 = .ok (.ireturn, 1) := by decide +kernel
theorem dX6_transpose_72 : decode cX6_transpose 72 = .ok (.aload_n 0, 1) := by decide +kernel
theorem dX6_transpose_73 : decode cX6_transpose 73 = .ok (.getfield 22, 3) := by decide +kernel
theorem dX6_transpose_76 : decode cX6_transpose 76 = .ok (.aload_n 0, 1) := by decide +kernel
theorem dX6_transpose_77 : decode cX6_transpose 77 = .ok (.getfield 10, 3) := by decide +kernel
theorem dX6_transpose_80 : decode cX6_transpose 80 = .ok (.invokevirtual 49, 3) := by decide +kernel
theorem dX6_transpose_83 : decode cX6_transpose 83 = .ok (.aload_n 0, 1) := by decide +kernel
theorem dX6_transpose_84 : decode cX6_transpose 84 = .ok (.getfield 10, 3) := by decide +kernel
theorem dX6_transpose_87 : decode cX6_transpose 87 = .ok (.getfield 111, 3) := by decide +kernel
theorem dX6_transpose_90 : decode cX6_transpose 90 = .ok (.iload_n 1, 1) := by decide +kernel
theorem dX6_transpose_91 : decode cX6_transpose 91 = .ok (.iload_n 2, 1) := by decide +kernel
theorem dX6_transpose_92 : decode cX6_transpose 92 = .ok (.iload_n 3, 1) := by decide +kernel
theorem dX6_transpose_93 : decode cX6_transpose 93 = .ok (.invokevirtual 149, 3) := by decide +kernel
theorem dX6_transpose_96 : decode cX6_transpose 96 = .ok (.iload_n 2, 1) := by decide +kernel
theorem dX6_transpose_97 : decode cX6_transpose 97 = .ok (.iload_n 1, 1) := by decide +kernel
theorem dX6_transpose_98 : decode cX6_transpose 98 = .ok (.isub, 1) := by decide +kernel
theorem dX6_transpose_99 : decode cX6_transpose 99 = .ok (.iconst 1, 1) := by decide +kernel
theorem dX6_transpose_100 : decode cX6_transpose 100 = .ok (.iadd, 1) := by decide +kernel
theorem dX6_transpose_101 : decode cX6_transpose 101 = .ok (.ireturn, 1) := by decide +kernel
theorem dX6_noteOf_0 : decode cX6_noteOf 0 = .ok (.aload_n 0, 1) := by decide +kernel
theorem dX6_noteOf_1 : decode cX6_noteOf 1 = .ok (.getfield 10, 3) := by decide +kernel
theorem dX6_noteOf_4 : decode cX6_noteOf 4 = .ok (.getfield 111, 3) := by decide +kernel
theorem dX6_noteOf_7 : decode cX6_noteOf 7 = .ok (.iload_n 1, 1) := by decide +kernel
theorem dX6_noteOf_8 : decode cX6_noteOf 8 = .ok (.invokevirtual 144, 3) := by decide +kernel
theorem dX6_noteOf_11 : decode cX6_noteOf 11 = .ok (.ifCond .ne 6, 3) := by decide +kernel
theorem dX6_noteOf_14 : decode cX6_noteOf 14 = .ok (.ldc 37, 2) := by decide +kernel
theorem dX6_noteOf_16 : decode cX6_noteOf 16 = .ok (.ireturn, 1) := by decide +kernel
theorem dX6_noteOf_17 : decode cX6_noteOf 17 = .ok (.aload_n 0, 1) := by decide +kernel
theorem dX6_noteOf_18 : decode cX6_noteOf 18 = .ok (.getfield 10, 3) := by decide +kernel
theorem dX6_noteOf_21 : decode cX6_noteOf 21 = .ok (.getfield 111, 3) := by decide +kernel
theorem dX6_noteOf_24 : decode cX6_noteOf 24 = .ok (.iload_n 1, 1) := by decide +kernel
theorem dX6_noteOf_25 : decode cX6_noteOf 25 = .ok (.iload_n 2, 1) := by decide +kernel
theorem dX6_noteOf_26 : decode cX6_noteOf 26 = .ok (.aload_n 0, 1) := by decide +kernel
theorem dX6_noteOf_27 : decode cX6_noteOf 27 = .ok (.getfield 10, 3) := by decide +kernel
theorem dX6_noteOf_30 : decode cX6_noteOf 30 = .ok (.iconst 1, 1) := by decide +kernel
theorem dX6_noteOf_31 : decode cX6_noteOf 31 = .ok (.invokevirtual 102, 3) := by decide +kernel
theorem dX6_noteOf_34 : decode cX6_noteOf 34 = .ok (.invokevirtual 153, 3) := by decide +kernel
theorem dX6_noteOf_37 : decode cX6_noteOf 37 = .ok (.ireturn, 1) := by decide +kernel
theorem dX6_run_0 : decode cX6_run 0 = .ok (.iload_n 1, 1) := by decide +kernel
theorem dX6_run_1 : decode cX6_run 1 = .ok (.iconst 1, 1) := by decide +kernel
theorem dX6_run_2 : decode cX6_run 2 = .ok (.sipush 600, 3) := by decide +kernel
theorem dX6_run_5 : decode cX6_run 5 = .ok (.invokestatic 33, 3) := by decide +kernel
theorem dX6_run_8 : decode cX6_run 8 = .ok (.ifCond .ne 6, 3) := by decide +kernel
theorem dX6_run_11 : decode cX6_run 11 = .ok (.ldc 37, 2) := by decide +kernel
theorem dX6_run_13 : decode cX6_run 13 = .ok (.ireturn, 1) := by decide +kernel
theorem dX6_run_14 : decode cX6_run 14 = .ok (.aload_n 0, 1) := by decide +kernel
theorem dX6_run_15 : decode cX6_run 15 = .ok (.getfield 10, 3) := by decide +kernel
theorem dX6_run_18 : decode cX6_run 18 = .ok (.invokevirtual 108, 3) := by decide +kernel
theorem dX6_run_21 : decode cX6_run 21 = .ok (.iload_n 1, 1) := by decide +kernel
theorem dX6_run_22 : decode cX6_run 22 = .ok (.iadd, 1) := by decide +kernel
theorem dX6_run_23 : decode cX6_run 23 = .ok (.istore_n 2, 1) := by decide +kernel
theorem dX6_run_24 : decode cX6_run 24 = .ok (.iload_n 2, 1) := by decide +kernel
theorem dX6_run_25 : decode cX6_run 25 = .ok (.sipush 3600, 3) := by decide +kernel
theorem dX6_run_28 : decode cX6_run 28 = .ok (.if_icmp .le 6, 3) := by decide +kernel
theorem dX6_run_31 : decode cX6_run 31 = .ok (.ldc 48, 2) := by decide +kernel
theorem dX6_run_33 : decode cX6_run 33 = .ok (.ireturn, 1) := by decide +kernel
theorem dX6_run_34 : decode cX6_run 34 = .ok (.aload_n 0, 1) := by decide +kernel
theorem dX6_run_35 : decode cX6_run 35 = .ok (.getfield 22, 3) := by decide +kernel
theorem dX6_run_38 : decode cX6_run 38 = .ok (.aload_n 0, 1) := by decide +kernel
theorem dX6_run_39 : decode cX6_run 39 = .ok (.getfield 10, 3) := by decide +kernel
theorem dX6_run_42 : decode cX6_run 42 = .ok (.invokevirtual 49, 3) := by decide +kernel
theorem dX6_run_45 : decode cX6_run 45 = .ok (.aload_n 0, 1) := by decide +kernel
theorem dX6_run_46 : decode cX6_run 46 = .ok (.getfield 10, 3) := by decide +kernel
theorem dX6_run_49 : decode cX6_run 49 = .ok (.iload_n 2, 1) := by decide +kernel
theorem dX6_run_50 : decode cX6_run 50 = .ok (.invokevirtual 156, 3) := by decide +kernel
theorem dX6_run_53 : decode cX6_run 53 = .ok (.ireturn, 1) := by decide +kernel
theorem dX6_rewind_0 : decode cX6_rewind 0 = .ok (.aload_n 0, 1) := by decide +kernel
theorem dX6_rewind_1 : decode cX6_rewind 1 = .ok (.getfield 22, 3) := by decide +kernel
theorem dX6_rewind_4 : decode cX6_rewind 4 = .ok (.aload_n 0, 1) := by decide +kernel
theorem dX6_rewind_5 : decode cX6_rewind 5 = .ok (.getfield 10, 3) := by decide +kernel
theorem dX6_rewind_8 : decode cX6_rewind 8 = .ok (.invokevirtual 49, 3) := by decide +kernel
theorem dX6_rewind_11 : decode cX6_rewind 11 = .ok (.aload_n 0, 1) := by decide +kernel
theorem dX6_rewind_12 : decode cX6_rewind 12 = .ok (.getfield 10, 3) := by decide +kernel
theorem dX6_rewind_15 : decode cX6_rewind 15 = .ok (.invokevirtual 108, 3) := by decide +kernel
theorem dX6_rewind_18 : decode cX6_rewind 18 = .ok (.istore_n 1, 1) := by decide +kernel
theorem dX6_rewind_19 : decode cX6_rewind 19 = .ok (.aload_n 0, 1) := by decide +kernel
theorem dX6_rewind_20 : decode cX6_rewind 20 = .ok (.getfield 10, 3) := by decide +kernel
theorem dX6_rewind_23 : decode cX6_rewind 23 = .ok (.invokevirtual 159, 3) := by decide +kernel
theorem dX6_rewind_26 : decode cX6_rewind 26 = .ok (.iload_n 1, 1) := by decide +kernel
theorem dX6_rewind_27 : decode cX6_rewind 27 = .ok (.ireturn, 1) := by decide +kernel
theorem dX6_worst_0 : decode cX6_worst 0 = .ok (.iload_n 1, 1) := by decide +kernel
theorem dX6_worst_1 : decode cX6_worst 1 = .ok (.ifCond .ge 6, 3) := by decide +kernel
theorem dX6_worst_4 : decode cX6_worst 4 = .ok (.ldc 37, 2) := by decide +kernel
theorem dX6_worst_6 : decode cX6_worst 6 = .ok (.ireturn, 1) := by decide +kernel
theorem dX6_worst_7 : decode cX6_worst 7 = .ok (.aload_n 0, 1) := by decide +kernel
theorem dX6_worst_8 : decode cX6_worst 8 = .ok (.getfield 10, 3) := by decide +kernel
theorem dX6_worst_11 : decode cX6_worst 11 = .ok (.getfield 111, 3) := by decide +kernel
theorem dX6_worst_14 : decode cX6_worst 14 = .ok (.iload_n 1, 1) := by decide +kernel
theorem dX6_worst_15 : decode cX6_worst 15 = .ok (.invokevirtual 162, 3) := by decide +kernel
theorem dX6_worst_18 : decode cX6_worst 18 = .ok (.invokestatic 92, 3) := by decide +kernel
theorem dX6_worst_21 : decode cX6_worst 21 = .ok (.ireturn, 1) := by decide +kernel
theorem dX6_wouldBe_0 : decode cX6_wouldBe 0 = .ok (.aload_n 0, 1) := by decide +kernel
theorem dX6_wouldBe_1 : decode cX6_wouldBe 1 = .ok (.getfield 10, 3) := by decide +kernel
theorem dX6_wouldBe_4 : decode cX6_wouldBe 4 = .ok (.getfield 111, 3) := by decide +kernel
theorem dX6_wouldBe_7 : decode cX6_wouldBe 7 = .ok (.iload_n 1, 1) := by decide +kernel
theorem dX6_wouldBe_8 : decode cX6_wouldBe 8 = .ok (.invokevirtual 144, 3) := by decide +kernel
theorem dX6_wouldBe_11 : decode cX6_wouldBe 11 = .ok (.ifCond .ne 6, 3) := by decide +kernel
theorem dX6_wouldBe_14 : decode cX6_wouldBe 14 = .ok (.ldc 37, 2) := by decide +kernel
theorem dX6_wouldBe_16 : decode cX6_wouldBe 16 = .ok (.ireturn, 1) := by decide +kernel
theorem dX6_wouldBe_17 : decode cX6_wouldBe 17 = .ok (.aload_n 0, 1) := by decide +kernel
theorem dX6_wouldBe_18 : decode cX6_wouldBe 18 = .ok (.getfield 10, 3) := by decide +kernel
theorem dX6_wouldBe_21 : decode cX6_wouldBe 21 = .ok (.getfield 111, 3) := by decide +kernel
theorem dX6_wouldBe_24 : decode cX6_wouldBe 24 = .ok (.iload_n 1, 1) := by decide +kernel
theorem dX6_wouldBe_25 : decode cX6_wouldBe 25 = .ok (.invokevirtual 165, 3) := by decide +kernel
theorem dX6_wouldBe_28 : decode cX6_wouldBe 28 = .ok (.istore_n 2, 1) := by decide +kernel
theorem dX6_wouldBe_29 : decode cX6_wouldBe 29 = .ok (.iload_n 2, 1) := by decide +kernel
theorem dX6_wouldBe_30 : decode cX6_wouldBe 30 = .ok (.aload_n 0, 1) := by decide +kernel
theorem dX6_wouldBe_31 : decode cX6_wouldBe 31 = .ok (.getfield 10, 3) := by decide +kernel
theorem dX6_wouldBe_34 : decode cX6_wouldBe 34 = .ok (.invokevirtual 108, 3) := by decide +kernel
theorem dX6_wouldBe_37 : decode cX6_wouldBe 37 = .ok (.if_icmp .gt 6, 3) := by decide +kernel
theorem dX6_wouldBe_40 : decode cX6_wouldBe 40 = .ok (.ldc 72, 2) := by decide +kernel
theorem dX6_wouldBe_42 : decode cX6_wouldBe 42 = .ok (.ireturn, 1) := by decide +kernel
theorem dX6_wouldBe_43 : decode cX6_wouldBe 43 = .ok (.aload_n 0, 1) := by decide +kernel
theorem dX6_wouldBe_44 : decode cX6_wouldBe 44 = .ok (.getfield 10, 3) := by decide +kernel
theorem dX6_wouldBe_47 : decode cX6_wouldBe 47 = .ok (.getfield 38, 3) := by decide +kernel
theorem dX6_wouldBe_50 : decode cX6_wouldBe 50 = .ok (.invokevirtual 42, 3) := by decide +kernel
theorem dX6_wouldBe_53 : decode cX6_wouldBe 53 = .ok (.ifCond .ne 6, 3) := by decide +kernel
theorem dX6_wouldBe_56 : decode cX6_wouldBe 56 = .ok (.ldc 168, 2) := by decide +kernel
theorem dX6_wouldBe_58 : decode cX6_wouldBe 58 = .ok (.ireturn, 1) := by decide +kernel
theorem dX6_wouldBe_59 : decode cX6_wouldBe 59 = .ok (.aload_n 0, 1) := by decide +kernel
theorem dX6_wouldBe_60 : decode cX6_wouldBe 60 = .ok (.iload_n 2, 1) := by decide +kernel
theorem dX6_wouldBe_61 : decode cX6_wouldBe 61 = .ok (.invokevirtual 169, 3) := by decide +kernel
theorem dX6_wouldBe_64 : decode cX6_wouldBe 64 = .ok (.aload_n 0, 1) := by decide +kernel
theorem dX6_wouldBe_65 : decode cX6_wouldBe 65 = .ok (.getfield 16, 3) := by decide +kernel
theorem dX6_wouldBe_68 : decode cX6_wouldBe 68 = .ok (.getfield 111, 3) := by decide +kernel
theorem dX6_wouldBe_71 : decode cX6_wouldBe 71 = .ok (.iload_n 1, 1) := by decide +kernel
theorem dX6_wouldBe_72 : decode cX6_wouldBe 72 = .ok (.invokevirtual 172, 3) := by decide +kernel
theorem dX6_wouldBe_75 : decode cX6_wouldBe 75 = .ok (.ireturn, 1) := by decide +kernel
theorem dX6_firstFalse_0 : decode cX6_firstFalse 0 = .ok (.aload_n 0, 1) := by decide +kernel
theorem dX6_firstFalse_1 : decode cX6_firstFalse 1 = .ok (.sipush 3600, 3) := by decide +kernel
theorem dX6_firstFalse_4 : decode cX6_firstFalse 4 = .ok (.invokevirtual 169, 3) := by decide +kernel
theorem dX6_firstFalse_7 : decode cX6_firstFalse 7 = .ok (.aload_n 0, 1) := by decide +kernel
theorem dX6_firstFalse_8 : decode cX6_firstFalse 8 = .ok (.getfield 16, 3) := by decide +kernel
theorem dX6_firstFalse_11 : decode cX6_firstFalse 11 = .ok (.getfield 111, 3) := by decide +kernel
theorem dX6_firstFalse_14 : decode cX6_firstFalse 14 = .ok (.aload_n 0, 1) := by decide +kernel
theorem dX6_firstFalse_15 : decode cX6_firstFalse 15 = .ok (.getfield 10, 3) := by decide +kernel
theorem dX6_firstFalse_18 : decode cX6_firstFalse 18 = .ok (.invokevirtual 108, 3) := by decide +kernel
theorem dX6_firstFalse_21 : decode cX6_firstFalse 21 = .ok (.invokevirtual 175, 3) := by decide +kernel
theorem dX6_firstFalse_24 : decode cX6_firstFalse 24 = .ok (.invokestatic 92, 3) := by decide +kernel
theorem dX6_firstFalse_27 : decode cX6_firstFalse 27 = .ok (.ireturn, 1) := by decide +kernel
theorem dX6_leastTolerance_0 : decode cX6_leastTolerance 0 = .ok (.aload_n 0, 1) := by decide +kernel
theorem dX6_leastTolerance_1 : decode cX6_leastTolerance 1 = .ok (.sipush 3600, 3) := by decide +kernel
theorem dX6_leastTolerance_4 : decode cX6_leastTolerance 4 = .ok (.invokevirtual 169, 3) := by decide +kernel
theorem dX6_leastTolerance_7 : decode cX6_leastTolerance 7 = .ok (.aload_n 0, 1) := by decide +kernel
theorem dX6_leastTolerance_8 : decode cX6_leastTolerance 8 = .ok (.getfield 16, 3) := by decide +kernel
theorem dX6_leastTolerance_11 : decode cX6_leastTolerance 11 = .ok (.getfield 111, 3) := by decide +kernel
theorem dX6_leastTolerance_14 : decode cX6_leastTolerance 14 = .ok (.aload_n 0, 1) := by decide +kernel
theorem dX6_leastTolerance_15 : decode cX6_leastTolerance 15 = .ok (.getfield 10, 3) := by decide +kernel
theorem dX6_leastTolerance_18 : decode cX6_leastTolerance 18 = .ok (.invokevirtual 108, 3) := by decide +kernel
theorem dX6_leastTolerance_21 : decode cX6_leastTolerance 21 = .ok (.invokevirtual 178, 3) := by decide +kernel
theorem dX6_leastTolerance_24 : decode cX6_leastTolerance 24 = .ok (.invokestatic 92, 3) := by decide +kernel
theorem dX6_leastTolerance_27 : decode cX6_leastTolerance 27 = .ok (.ireturn, 1) := by decide +kernel
theorem dX6_pitchAt_0 : decode cX6_pitchAt 0 = .ok (.aload_n 0, 1) := by decide +kernel
theorem dX6_pitchAt_1 : decode cX6_pitchAt 1 = .ok (.getfield 10, 3) := by decide +kernel
theorem dX6_pitchAt_4 : decode cX6_pitchAt 4 = .ok (.getfield 38, 3) := by decide +kernel
theorem dX6_pitchAt_7 : decode cX6_pitchAt 7 = .ok (.iload_n 1, 1) := by decide +kernel
theorem dX6_pitchAt_8 : decode cX6_pitchAt 8 = .ok (.invokevirtual 57, 3) := by decide +kernel
theorem dX6_pitchAt_11 : decode cX6_pitchAt 11 = .ok (.ifCond .eq 20, 3) := by decide +kernel
theorem dX6_pitchAt_14 : decode cX6_pitchAt 14 = .ok (.iload_n 2, 1) := by decide +kernel
theorem dX6_pitchAt_15 : decode cX6_pitchAt 15 = .ok (.aload_n 0, 1) := by decide +kernel
theorem dX6_pitchAt_16 : decode cX6_pitchAt 16 = .ok (.getfield 10, 3) := by decide +kernel
theorem dX6_pitchAt_19 : decode cX6_pitchAt 19 = .ok (.invokevirtual 108, 3) := by decide +kernel
theorem dX6_pitchAt_22 : decode cX6_pitchAt 22 = .ok (.sipush 3600, 3) := by decide +kernel
theorem dX6_pitchAt_25 : decode cX6_pitchAt 25 = .ok (.invokestatic 33, 3) := by decide +kernel
theorem dX6_pitchAt_28 : decode cX6_pitchAt 28 = .ok (.ifCond .ne 6, 3) := by decide +kernel
theorem dX6_pitchAt_31 : decode cX6_pitchAt 31 = .ok (.ldc 37, 2) := by decide +kernel
theorem dX6_pitchAt_33 : decode cX6_pitchAt 33 = .ok (.ireturn, 1) := by decide +kernel
theorem dX6_pitchAt_34 : decode cX6_pitchAt 34 = .ok (.aload_n 0, 1) := by decide +kernel
theorem dX6_pitchAt_35 : decode cX6_pitchAt 35 = .ok (.iload_n 2, 1) := by decide +kernel
theorem dX6_pitchAt_36 : decode cX6_pitchAt 36 = .ok (.invokevirtual 169, 3) := by decide +kernel
theorem dX6_pitchAt_39 : decode cX6_pitchAt 39 = .ok (.aload_n 0, 1) := by decide +kernel
theorem dX6_pitchAt_40 : decode cX6_pitchAt 40 = .ok (.getfield 16, 3) := by decide +kernel
theorem dX6_pitchAt_43 : decode cX6_pitchAt 43 = .ok (.getfield 38, 3) := by decide +kernel
theorem dX6_pitchAt_46 : decode cX6_pitchAt 46 = .ok (.iload_n 1, 1) := by decide +kernel
theorem dX6_pitchAt_47 : decode cX6_pitchAt 47 = .ok (.invokevirtual 181, 3) := by decide +kernel
theorem dX6_pitchAt_50 : decode cX6_pitchAt 50 = .ok (.ireturn, 1) := by decide +kernel
theorem dX6_type_0 : decode cX6_type 0 = .ok (.iload_n 1, 1) := by decide +kernel
theorem dX6_type_1 : decode cX6_type 1 = .ok (.bipush 32, 2) := by decide +kernel
theorem dX6_type_3 : decode cX6_type 3 = .ok (.bipush 126, 2) := by decide +kernel
theorem dX6_type_5 : decode cX6_type 5 = .ok (.invokestatic 33, 3) := by decide +kernel
theorem dX6_type_8 : decode cX6_type 8 = .ok (.ifCond .ne 6, 3) := by decide +kernel
theorem dX6_type_11 : decode cX6_type 11 = .ok (.ldc 37, 2) := by decide +kernel
theorem dX6_type_13 : decode cX6_type 13 = .ok (.ireturn, 1) := by decide +kernel
theorem dX6_type_14 : decode cX6_type 14 = .ok (.aload_n 0, 1) := by decide +kernel
theorem dX6_type_15 : decode cX6_type 15 = .ok (.getfield 29, 3) := by decide +kernel
theorem dX6_type_18 : decode cX6_type 18 = .ok (.invokevirtual 128, 3) := by decide +kernel
theorem dX6_type_21 : decode cX6_type 21 = .ok (.bipush 100, 2) := by decide +kernel
theorem dX6_type_23 : decode cX6_type 23 = .ok (.if_icmp .lt 6, 3) := by decide +kernel
theorem dX6_type_26 : decode cX6_type 26 = .ok (.ldc 48, 2) := by decide +kernel
theorem dX6_type_28 : decode cX6_type 28 = .ok (.ireturn, 1) := by decide +kernel
theorem dX6_type_29 : decode cX6_type 29 = .ok (.aload_n 0, 1) := by decide +kernel
theorem dX6_type_30 : decode cX6_type 30 = .ok (.getfield 29, 3) := by decide +kernel
theorem dX6_type_33 : decode cX6_type 33 = .ok (.iload_n 1, 1) := by decide +kernel
theorem dX6_type_34 : decode cX6_type 34 = .ok (.invokevirtual 184, 3) := by decide +kernel
theorem dX6_type_37 : decode cX6_type 37 = .ok (.aload_n 0, 1) := by decide +kernel
theorem dX6_type_38 : decode cX6_type 38 = .ok (.getfield 29, 3) := by decide +kernel
theorem dX6_type_41 : decode cX6_type 41 = .ok (.invokevirtual 128, 3) := by decide +kernel
theorem dX6_type_44 : decode cX6_type 44 = .ok (.ireturn, 1) := by decide +kernel
theorem dX6_clearText_0 : decode cX6_clearText 0 = .ok (.aload_n 0, 1) := by decide +kernel
theorem dX6_clearText_1 : decode cX6_clearText 1 = .ok (.getfield 29, 3) := by decide +kernel
theorem dX6_clearText_4 : decode cX6_clearText 4 = .ok (.invokevirtual 128, 3) := by decide +kernel
theorem dX6_clearText_7 : decode cX6_clearText 7 = .ok (.istore_n 1, 1) := by decide +kernel
theorem dX6_clearText_8 : decode cX6_clearText 8 = .ok (.aload_n 0, 1) := by decide +kernel
theorem dX6_clearText_9 : decode cX6_clearText 9 = .ok (.getfield 29, 3) := by decide +kernel
theorem dX6_clearText_12 : decode cX6_clearText 12 = .ok (.invokevirtual 186, 3) := by decide +kernel
theorem dX6_clearText_15 : decode cX6_clearText 15 = .ok (.iload_n 1, 1) := by decide +kernel
theorem dX6_clearText_16 : decode cX6_clearText 16 = .ok (.ireturn, 1) := by decide +kernel
theorem dX6_fault_0 : decode cX6_fault 0 = .ok (.iload_n 1, 1) := by decide +kernel
theorem dX6_fault_1 : decode cX6_fault 1 = .ok (.iconst 0, 1) := by decide +kernel
theorem dX6_fault_2 : decode cX6_fault 2 = .ok (.iconst 1, 1) := by decide +kernel
theorem dX6_fault_3 : decode cX6_fault 3 = .ok (.invokestatic 33, 3) := by decide +kernel
theorem dX6_fault_6 : decode cX6_fault 6 = .ok (.ifCond .ne 6, 3) := by decide +kernel
theorem dX6_fault_9 : decode cX6_fault 9 = .ok (.ldc 37, 2) := by decide +kernel
theorem dX6_fault_11 : decode cX6_fault 11 = .ok (.ireturn, 1) := by decide +kernel
theorem dX6_fault_12 : decode cX6_fault 12 = .ok (.aload_n 0, 1) := by decide +kernel
theorem dX6_fault_13 : decode cX6_fault 13 = .ok (.invokevirtual 189, 3) := by decide +kernel
theorem dX6_fault_16 : decode cX6_fault 16 = .ok (.aload_n 0, 1) := by decide +kernel
theorem dX6_fault_17 : decode cX6_fault 17 = .ok (.getfield 29, 3) := by decide +kernel
theorem dX6_fault_20 : decode cX6_fault 20 = .ok (.invokevirtual 192, 3) := by decide +kernel
theorem dX6_fault_23 : decode cX6_fault 23 = .ok (.ifCond .ne 6, 3) := by decide +kernel
theorem dX6_fault_26 : decode cX6_fault 26 = .ok (.ldc 168, 2) := by decide +kernel
theorem dX6_fault_28 : decode cX6_fault 28 = .ok (.ireturn, 1) := by decide +kernel
theorem dX6_fault_29 : decode cX6_fault 29 = .ok (.iload_n 1, 1) := by decide +kernel
theorem dX6_fault_30 : decode cX6_fault 30 = .ok (.ifCond .ne 13, 3) := by decide +kernel
theorem dX6_fault_33 : decode cX6_fault 33 = .ok (.aload_n 0, 1) := by decide +kernel
theorem dX6_fault_34 : decode cX6_fault 34 = .ok (.getfield 29, 3) := by decide +kernel
theorem dX6_fault_37 : decode cX6_fault 37 = .ok (.invokevirtual 195, 3) := by decide +kernel
theorem dX6_fault_40 : decode cX6_fault 40 = .ok (.goto 10, 3) := by decide +kernel
theorem dX6_fault_43 : decode cX6_fault 43 = .ok (.aload_n 0, 1) := by decide +kernel
theorem dX6_fault_44 : decode cX6_fault 44 = .ok (.getfield 29, 3) := by decide +kernel
theorem dX6_fault_47 : decode cX6_fault 47 = .ok (.invokevirtual 192, 3) := by decide +kernel
theorem dX6_fault_50 : decode cX6_fault 50 = .ok (.ireturn, 1) := by decide +kernel
theorem dX6_enter_0 : decode cX6_enter 0 = .ok (.aload_n 0, 1) := by decide +kernel
theorem dX6_enter_1 : decode cX6_enter 1 = .ok (.invokevirtual 189, 3) := by decide +kernel
theorem dX6_enter_4 : decode cX6_enter 4 = .ok (.aload_n 0, 1) := by decide +kernel
theorem dX6_enter_5 : decode cX6_enter 5 = .ok (.getfield 29, 3) := by decide +kernel
theorem dX6_enter_8 : decode cX6_enter 8 = .ok (.invokevirtual 192, 3) := by decide +kernel
theorem dX6_enter_11 : decode cX6_enter 11 = .ok (.ifCond .eq 6, 3) := by decide +kernel
theorem dX6_enter_14 : decode cX6_enter 14 = .ok (.ldc 72, 2) := by decide +kernel
theorem dX6_enter_16 : decode cX6_enter 16 = .ok (.ireturn, 1) := by decide +kernel
theorem dX6_enter_17 : decode cX6_enter 17 = .ok (.aload_n 0, 1) := by decide +kernel
theorem dX6_enter_18 : decode cX6_enter 18 = .ok (.getfield 22, 3) := by decide +kernel
theorem dX6_enter_21 : decode cX6_enter 21 = .ok (.aload_n 0, 1) := by decide +kernel
theorem dX6_enter_22 : decode cX6_enter 22 = .ok (.getfield 10, 3) := by decide +kernel
theorem dX6_enter_25 : decode cX6_enter 25 = .ok (.invokevirtual 49, 3) := by decide +kernel
theorem dX6_enter_28 : decode cX6_enter 28 = .ok (.aload_n 0, 1) := by decide +kernel
theorem dX6_enter_29 : decode cX6_enter 29 = .ok (.getfield 10, 3) := by decide +kernel
theorem dX6_enter_32 : decode cX6_enter 32 = .ok (.aload_n 0, 1) := by decide +kernel
theorem dX6_enter_33 : decode cX6_enter 33 = .ok (.getfield 16, 3) := by decide +kernel
theorem dX6_enter_36 : decode cX6_enter 36 = .ok (.invokevirtual 198, 3) := by decide +kernel
theorem dX6_enter_39 : decode cX6_enter 39 = .ok (.aload_n 0, 1) := by decide +kernel
theorem dX6_enter_40 : decode cX6_enter 40 = .ok (.getfield 29, 3) := by decide +kernel
theorem dX6_enter_43 : decode cX6_enter 43 = .ok (.invokevirtual 201, 3) := by decide +kernel
theorem dX6_enter_46 : decode cX6_enter 46 = .ok (.ireturn, 1) := by decide +kernel
theorem dX6_isWithin_0 : decode cX6_isWithin 0 = .ok (.iload_n 0, 1) := by decide +kernel
theorem dX6_isWithin_1 : decode cX6_isWithin 1 = .ok (.iload_n 1, 1) := by decide +kernel
theorem dX6_isWithin_2 : decode cX6_isWithin 2 = .ok (.if_icmp .lt 12, 3) := by decide +kernel
theorem dX6_isWithin_5 : decode cX6_isWithin 5 = .ok (.iload_n 0, 1) := by decide +kernel
theorem dX6_isWithin_6 : decode cX6_isWithin 6 = .ok (.iload_n 2, 1) := by decide +kernel
theorem dX6_isWithin_7 : decode cX6_isWithin 7 = .ok (.if_icmp .gt 7, 3) := by decide +kernel
theorem dX6_isWithin_10 : decode cX6_isWithin 10 = .ok (.iconst 1, 1) := by decide +kernel
theorem dX6_isWithin_11 : decode cX6_isWithin 11 = .ok (.goto 4, 3) := by decide +kernel
theorem dX6_isWithin_14 : decode cX6_isWithin 14 = .ok (.iconst 0, 1) := by decide +kernel
theorem dX6_isWithin_15 : decode cX6_isWithin 15 = .ok (.ireturn, 1) := by decide +kernel
theorem dX6_isSetting_0 : decode cX6_isSetting 0 = .ok (.iload_n 0, 1) := by decide +kernel
theorem dX6_isSetting_1 : decode cX6_isSetting 1 = .ok (.tableswitch 65 0 3 #[31, 40, 49, 58], 31) := by decide +kernel
theorem dX6_isSetting_32 : decode cX6_isSetting 32 = .ok (.iload_n 1, 1) := by decide +kernel
theorem dX6_isSetting_33 : decode cX6_isSetting 33 = .ok (.iconst 1, 1) := by decide +kernel
theorem dX6_isSetting_34 : decode cX6_isSetting 34 = .ok (.sipush 600, 3) := by decide +kernel
theorem dX6_isSetting_37 : decode cX6_isSetting 37 = .ok (.invokestatic 33, 3) := by decide +kernel
theorem dX6_isSetting_40 : decode cX6_isSetting 40 = .ok (.ireturn, 1) := by decide +kernel
theorem dX6_isSetting_41 : decode cX6_isSetting 41 = .ok (.iload_n 1, 1) := by decide +kernel
theorem dX6_isSetting_42 : decode cX6_isSetting 42 = .ok (.iconst 1, 1) := by decide +kernel
theorem dX6_isSetting_43 : decode cX6_isSetting 43 = .ok (.sipush 600, 3) := by decide +kernel
theorem dX6_isSetting_46 : decode cX6_isSetting 46 = .ok (.invokestatic 33, 3) := by decide +kernel
theorem dX6_isSetting_49 : decode cX6_isSetting 49 = .ok (.ireturn, 1) := by decide +kernel
theorem dX6_isSetting_50 : decode cX6_isSetting 50 = .ok (.iload_n 1, 1) := by decide +kernel
theorem dX6_isSetting_51 : decode cX6_isSetting 51 = .ok (.iconst 0, 1) := by decide +kernel
theorem dX6_isSetting_52 : decode cX6_isSetting 52 = .ok (.sipush 600, 3) := by decide +kernel
theorem dX6_isSetting_55 : decode cX6_isSetting 55 = .ok (.invokestatic 33, 3) := by decide +kernel
theorem dX6_isSetting_58 : decode cX6_isSetting 58 = .ok (.ireturn, 1) := by decide +kernel
theorem dX6_isSetting_59 : decode cX6_isSetting 59 = .ok (.iload_n 1, 1) := by decide +kernel
theorem dX6_isSetting_60 : decode cX6_isSetting 60 = .ok (.iconst 0, 1) := by decide +kernel
theorem dX6_isSetting_61 : decode cX6_isSetting 61 = .ok (.iconst 1, 1) := by decide +kernel
theorem dX6_isSetting_62 : decode cX6_isSetting 62 = .ok (.invokestatic 33, 3) := by decide +kernel
theorem dX6_isSetting_65 : decode cX6_isSetting 65 = .ok (.ireturn, 1) := by decide +kernel
theorem dX6_isSetting_66 : decode cX6_isSetting 66 = .ok (.iconst 0, 1) := by decide +kernel
theorem dX6_isSetting_67 : decode cX6_isSetting 67 = .ok (.ireturn, 1) := by decide +kernel
theorem dX6_orNotFound_0 : decode cX6_orNotFound 0 = .ok (.iload_n 0, 1) := by decide +kernel
theorem dX6_orNotFound_1 : decode cX6_orNotFound 1 = .ok (.iconst (-1), 1) := by decide +kernel
theorem dX6_orNotFound_2 : decode cX6_orNotFound 2 = .ok (.if_icmp .ne 8, 3) := by decide +kernel
theorem dX6_orNotFound_5 : decode cX6_orNotFound 5 = .ok (.ldc 168, 2) := by decide +kernel
theorem dX6_orNotFound_7 : decode cX6_orNotFound 7 = .ok (.goto 4, 3) := by decide +kernel
theorem dX6_orNotFound_10 : decode cX6_orNotFound 10 = .ok (.iload_n 0, 1) := by decide +kernel
theorem dX6_orNotFound_11 : decode cX6_orNotFound 11 = .ok (.ireturn, 1) := by decide +kernel
theorem dX6_oneIf_0 : decode cX6_oneIf 0 = .ok (.iload_n 0, 1) := by decide +kernel
theorem dX6_oneIf_1 : decode cX6_oneIf 1 = .ok (.ifCond .eq 7, 3) := by decide +kernel
theorem dX6_oneIf_4 : decode cX6_oneIf 4 = .ok (.iconst 1, 1) := by decide +kernel
theorem dX6_oneIf_5 : decode cX6_oneIf 5 = .ok (.goto 4, 3) := by decide +kernel
theorem dX6_oneIf_8 : decode cX6_oneIf 8 = .ok (.iconst 0, 1) := by decide +kernel
theorem dX6_oneIf_9 : decode cX6_oneIf 9 = .ok (.ireturn, 1) := by decide +kernel
theorem dX6_tryOut_0 : decode cX6_tryOut 0 = .ok (.aload_n 0, 1) := by decide +kernel
theorem dX6_tryOut_1 : decode cX6_tryOut 1 = .ok (.getfield 16, 3) := by decide +kernel
theorem dX6_tryOut_4 : decode cX6_tryOut 4 = .ok (.aload_n 0, 1) := by decide +kernel
theorem dX6_tryOut_5 : decode cX6_tryOut 5 = .ok (.getfield 10, 3) := by decide +kernel
theorem dX6_tryOut_8 : decode cX6_tryOut 8 = .ok (.invokevirtual 198, 3) := by decide +kernel
theorem dX6_tryOut_11 : decode cX6_tryOut 11 = .ok (.aload_n 0, 1) := by decide +kernel
theorem dX6_tryOut_12 : decode cX6_tryOut 12 = .ok (.getfield 16, 3) := by decide +kernel
theorem dX6_tryOut_15 : decode cX6_tryOut 15 = .ok (.iload_n 1, 1) := by decide +kernel
theorem dX6_tryOut_16 : decode cX6_tryOut 16 = .ok (.invokevirtual 156, 3) := by decide +kernel
theorem dX6_tryOut_19 : decode cX6_tryOut 19 = .ok (.pop, 1) := by decide +kernel
theorem dX6_tryOut_20 : decode cX6_tryOut 20 = .ok (.return_, 1) := by decide +kernel
theorem dX6_tryText_0 : decode cX6_tryText 0 = .ok (.aload_n 0, 1) := by decide +kernel
theorem dX6_tryText_1 : decode cX6_tryText 1 = .ok (.getfield 16, 3) := by decide +kernel
theorem dX6_tryText_4 : decode cX6_tryText 4 = .ok (.aload_n 0, 1) := by decide +kernel
theorem dX6_tryText_5 : decode cX6_tryText 5 = .ok (.getfield 10, 3) := by decide +kernel
theorem dX6_tryText_8 : decode cX6_tryText 8 = .ok (.invokevirtual 198, 3) := by decide +kernel
theorem dX6_tryText_11 : decode cX6_tryText 11 = .ok (.aload_n 0, 1) := by decide +kernel
theorem dX6_tryText_12 : decode cX6_tryText 12 = .ok (.getfield 29, 3) := by decide +kernel
theorem dX6_tryText_15 : decode cX6_tryText 15 = .ok (.aload_n 0, 1) := by decide +kernel
theorem dX6_tryText_16 : decode cX6_tryText 16 = .ok (.getfield 16, 3) := by decide +kernel
theorem dX6_tryText_19 : decode cX6_tryText 19 = .ok (.getfield 111, 3) := by decide +kernel
theorem dX6_tryText_22 : decode cX6_tryText 22 = .ok (.invokevirtual 204, 3) := by decide +kernel
theorem dX6_tryText_25 : decode cX6_tryText 25 = .ok (.return_, 1) := by decide +kernel
end
section
theorem dX7_init_0 : decode cX7_init 0 = .ok (.aload_n 0, 1) := by decide +kernel
theorem dX7_init_1 : decode cX7_init 1 = .ok (.invokespecial 1, 3) := by decide +kernel
theorem dX7_init_4 : decode cX7_init 4 = .ok (.aload_n 0, 1) := by decide +kernel
theorem dX7_init_5 : decode cX7_init 5 = .ok (.sipush 301, 3) := by decide +kernel
theorem dX7_init_8 : decode cX7_init 8 = .ok (.newarray .int, 2) := by decide +kernel
theorem dX7_init_10 : decode cX7_init 10 = .ok (.putfield 7, 3) := by decide +kernel
theorem dX7_init_13 : decode cX7_init 13 = .ok (.aload_n 0, 1) := by decide +kernel
theorem dX7_init_14 : decode cX7_init 14 = .ok (.sipush 1505, 3) := by decide +kernel
theorem dX7_init_17 : decode cX7_init 17 = .ok (.newarray .int, 2) := by decide +kernel
theorem dX7_init_19 : decode cX7_init 19 = .ok (.putfield 13, 3) := by decide +kernel
theorem dX7_init_22 : decode cX7_init 22 = .ok (.aload_n 0, 1) := by decide +kernel
theorem dX7_init_23 : decode cX7_init 23 = .ok (.sipush 301, 3) := by decide +kernel
theorem dX7_init_26 : decode cX7_init 26 = .ok (.newarray .int, 2) := by decide +kernel
theorem dX7_init_28 : decode cX7_init 28 = .ok (.putfield 16, 3) := by decide +kernel
theorem dX7_init_31 : decode cX7_init 31 = .ok (.aload_n 0, 1) := by decide +kernel
theorem dX7_init_32 : decode cX7_init 32 = .ok (.bipush 100, 2) := by decide +kernel
theorem dX7_init_34 : decode cX7_init 34 = .ok (.newarray .int, 2) := by decide +kernel
theorem dX7_init_36 : decode cX7_init 36 = .ok (.putfield 19, 3) := by decide +kernel
theorem dX7_init_39 : decode cX7_init 39 = .ok (.aload_n 0, 1) := by decide +kernel
theorem dX7_init_40 : decode cX7_init 40 = .ok (.bipush 25, 2) := by decide +kernel
theorem dX7_init_42 : decode cX7_init 42 = .ok (.newarray .int, 2) := by decide +kernel
theorem dX7_init_44 : decode cX7_init 44 = .ok (.putfield 22, 3) := by decide +kernel
theorem dX7_init_47 : decode cX7_init 47 = .ok (.aload_n 0, 1) := by decide +kernel
theorem dX7_init_48 : decode cX7_init 48 = .ok (.getfield 7, 3) := by decide +kernel
theorem dX7_init_51 : decode cX7_init 51 = .ok (.bipush 7, 2) := by decide +kernel
theorem dX7_init_53 : decode cX7_init 53 = .ok (.bipush 60, 2) := by decide +kernel
theorem dX7_init_55 : decode cX7_init 55 = .ok (.iastore, 1) := by decide +kernel
theorem dX7_init_56 : decode cX7_init 56 = .ok (.aload_n 0, 1) := by decide +kernel
theorem dX7_init_57 : decode cX7_init 57 = .ok (.getfield 7, 3) := by decide +kernel
theorem dX7_init_60 : decode cX7_init 60 = .ok (.bipush 8, 2) := by decide +kernel
theorem dX7_init_62 : decode cX7_init 62 = .ok (.bipush 10, 2) := by decide +kernel
theorem dX7_init_64 : decode cX7_init 64 = .ok (.iastore, 1) := by decide +kernel
theorem dX7_init_65 : decode cX7_init 65 = .ok (.aload_n 0, 1) := by decide +kernel
theorem dX7_init_66 : decode cX7_init 66 = .ok (.getfield 7, 3) := by decide +kernel
theorem dX7_init_69 : decode cX7_init 69 = .ok (.bipush 9, 2) := by decide +kernel
theorem dX7_init_71 : decode cX7_init 71 = .ok (.bipush 10, 2) := by decide +kernel
theorem dX7_init_73 : decode cX7_init 73 = .ok (.iastore, 1) := by decide +kernel
theorem dX7_init_74 : decode cX7_init 74 = .ok (.return_, 1) := by decide +kernel
theorem dX7_in_0 : decode cX7_in 0 = .ok (.iload_n 0, 1) := by decide +kernel
theorem dX7_in_1 : decode cX7_in 1 = .ok (.iload_n 1, 1) := by decide +kernel
theorem dX7_in_2 : decode cX7_in 2 = .ok (.if_icmp .lt 12, 3) := by decide +kernel
theorem dX7_in_5 : decode cX7_in 5 = .ok (.iload_n 0, 1) := by decide +kernel
theorem dX7_in_6 : decode cX7_in 6 = .ok (.iload_n 2, 1) := by decide +kernel
theorem dX7_in_7 : decode cX7_in 7 = .ok (.if_icmp .gt 7, 3) := by decide +kernel
theorem dX7_in_10 : decode cX7_in 10 = .ok (.iconst 1, 1) := by decide +kernel
theorem dX7_in_11 : decode cX7_in 11 = .ok (.goto 4, 3) := by decide +kernel
theorem dX7_in_14 : decode cX7_in 14 = .ok (.iconst 0, 1) := by decide +kernel
theorem dX7_in_15 : decode cX7_in 15 = .ok (.ireturn, 1) := by decide +kernel
theorem dX7_size_0 : decode cX7_size 0 = .ok (.iload_n 0, 1) := by decide +kernel
theorem dX7_size_1 : decode cX7_size 1 = .ok (.ifCond .ge 8, 3) := by decide +kernel
theorem dX7_size_4 : decode cX7_size 4 = .ok (.iload_n 0, 1) := by decide +kernel
theorem dX7_size_5 : decode cX7_size 5 = .ok (.ineg, 1) := by decide +kernel
theorem dX7_size_6 : decode cX7_size 6 = .ok (.goto 4, 3) := by decide +kernel
theorem dX7_size_9 : decode cX7_size 9 = .ok (.iload_n 0, 1) := by decide +kernel
theorem dX7_size_10 : decode cX7_size 10 = .ok (.ireturn, 1) := by decide +kernel
theorem dX7_of_0 : decode cX7_of 0 = .ok (.aload_n 0, 1) := by decide +kernel
theorem dX7_of_1 : decode cX7_of 1 = .ok (.getfield 7, 3) := by decide +kernel
theorem dX7_of_4 : decode cX7_of 4 = .ok (.bipush 11, 2) := by decide +kernel
theorem dX7_of_6 : decode cX7_of 6 = .ok (.iconst 5, 1) := by decide +kernel
theorem dX7_of_7 : decode cX7_of 7 = .ok (.iload_n 1, 1) := by decide +kernel
theorem dX7_of_8 : decode cX7_of 8 = .ok (.imul, 1) := by decide +kernel
theorem dX7_of_9 : decode cX7_of 9 = .ok (.iadd, 1) := by decide +kernel
theorem dX7_of_10 : decode cX7_of 10 = .ok (.iload_n 2, 1) := by decide +kernel
theorem dX7_of_11 : decode cX7_of 11 = .ok (.iadd, 1) := by decide +kernel
theorem dX7_of_12 : decode cX7_of 12 = .ok (.iaload, 1) := by decide +kernel
theorem dX7_of_13 : decode cX7_of 13 = .ok (.ireturn, 1) := by decide +kernel
theorem dX7_put_0 : decode cX7_put 0 = .ok (.aload_n 0, 1) := by decide +kernel
theorem dX7_put_1 : decode cX7_put 1 = .ok (.getfield 7, 3) := by decide +kernel
theorem dX7_put_4 : decode cX7_put 4 = .ok (.bipush 11, 2) := by decide +kernel
theorem dX7_put_6 : decode cX7_put 6 = .ok (.iconst 5, 1) := by decide +kernel
theorem dX7_put_7 : decode cX7_put 7 = .ok (.iload_n 1, 1) := by decide +kernel
theorem dX7_put_8 : decode cX7_put 8 = .ok (.imul, 1) := by decide +kernel
theorem dX7_put_9 : decode cX7_put 9 = .ok (.iadd, 1) := by decide +kernel
theorem dX7_put_10 : decode cX7_put 10 = .ok (.iload_n 2, 1) := by decide +kernel
theorem dX7_put_11 : decode cX7_put 11 = .ok (.iadd, 1) := by decide +kernel
theorem dX7_put_12 : decode cX7_put 12 = .ok (.iload_n 3, 1) := by decide +kernel
theorem dX7_put_13 : decode cX7_put 13 = .ok (.iastore, 1) := by decide +kernel
theorem dX7_put_14 : decode cX7_put 14 = .ok (.return_, 1) := by decide +kernel
theorem dX7_has_0 : decode cX7_has 0 = .ok (.aload_n 0, 1) := by decide +kernel
theorem dX7_has_1 : decode cX7_has 1 = .ok (.getfield 7, 3) := by decide +kernel
theorem dX7_has_4 : decode cX7_has 4 = .ok (.bipush 61, 2) := by decide +kernel
theorem dX7_has_6 : decode cX7_has 6 = .ok (.bipush 6, 2) := by decide +kernel
theorem dX7_has_8 : decode cX7_has 8 = .ok (.iload_n 1, 1) := by decide +kernel
theorem dX7_has_9 : decode cX7_has 9 = .ok (.imul, 1) := by decide +kernel
theorem dX7_has_10 : decode cX7_has 10 = .ok (.iadd, 1) := by decide +kernel
theorem dX7_has_11 : decode cX7_has 11 = .ok (.iload_n 2, 1) := by decide +kernel
theorem dX7_has_12 : decode cX7_has 12 = .ok (.iadd, 1) := by decide +kernel
theorem dX7_has_13 : decode cX7_has 13 = .ok (.iaload, 1) := by decide +kernel
theorem dX7_has_14 : decode cX7_has 14 = .ok (.ireturn, 1) := by decide +kernel
theorem dX7_lay_0 : decode cX7_lay 0 = .ok (.aload_n 0, 1) := by decide +kernel
theorem dX7_lay_1 : decode cX7_lay 1 = .ok (.getfield 7, 3) := by decide +kernel
theorem dX7_lay_4 : decode cX7_lay 4 = .ok (.bipush 61, 2) := by decide +kernel
theorem dX7_lay_6 : decode cX7_lay 6 = .ok (.bipush 6, 2) := by decide +kernel
theorem dX7_lay_8 : decode cX7_lay 8 = .ok (.iload_n 1, 1) := by decide +kernel
theorem dX7_lay_9 : decode cX7_lay 9 = .ok (.imul, 1) := by decide +kernel
theorem dX7_lay_10 : decode cX7_lay 10 = .ok (.iadd, 1) := by decide +kernel
theorem dX7_lay_11 : decode cX7_lay 11 = .ok (.iload_n 2, 1) := by decide +kernel
theorem dX7_lay_12 : decode cX7_lay 12 = .ok (.iadd, 1) := by decide +kernel
theorem dX7_lay_13 : decode cX7_lay 13 = .ok (.iload_n 3, 1) := by decide +kernel
theorem dX7_lay_14 : decode cX7_lay 14 = .ok (.iastore, 1) := by decide +kernel
theorem dX7_lay_15 : decode cX7_lay 15 = .ok (.return_, 1) := by decide +kernel
theorem dX7_setting_0 : decode cX7_setting 0 = .ok (.aload_n 0, 1) := by decide +kernel
theorem dX7_setting_1 : decode cX7_setting 1 = .ok (.getfield 7, 3) := by decide +kernel
theorem dX7_setting_4 : decode cX7_setting 4 = .ok (.bipush 7, 2) := by decide +kernel
theorem dX7_setting_6 : decode cX7_setting 6 = .ok (.iload_n 1, 1) := by decide +kernel
theorem dX7_setting_7 : decode cX7_setting 7 = .ok (.iadd, 1) := by decide +kernel
theorem dX7_setting_8 : decode cX7_setting 8 = .ok (.iaload, 1) := by decide +kernel
theorem dX7_setting_9 : decode cX7_setting 9 = .ok (.ireturn, 1) := by decide +kernel
theorem dX7_isBowl_0 : decode cX7_isBowl 0 = .ok (.iload_n 1, 1) := by decide +kernel
theorem dX7_isBowl_1 : decode cX7_isBowl 1 = .ok (.iconst 0, 1) := by decide +kernel
theorem dX7_isBowl_2 : decode cX7_isBowl 2 = .ok (.aload_n 0, 1) := by decide +kernel
theorem dX7_isBowl_3 : decode cX7_isBowl 3 = .ok (.getfield 7, 3) := by decide +kernel
theorem dX7_isBowl_6 : decode cX7_isBowl 6 = .ok (.iconst 1, 1) := by decide +kernel
theorem dX7_isBowl_7 : decode cX7_isBowl 7 = .ok (.iaload, 1) := by decide +kernel
theorem dX7_isBowl_8 : decode cX7_isBowl 8 = .ok (.iconst 1, 1) := by decide +kernel
theorem dX7_isBowl_9 : decode cX7_isBowl 9 = .ok (.isub, 1) := by decide +kernel
theorem dX7_isBowl_10 : decode cX7_isBowl 10 = .ok (.invokestatic 25, 3) := by decide +kernel
theorem dX7_isBowl_13 : decode cX7_isBowl 13 = .ok (.ireturn, 1) := by decide +kernel
theorem dX7_isNote_0 : decode cX7_isNote 0 = .ok (.iload_n 1, 1) := by decide +kernel
theorem dX7_isNote_1 : decode cX7_isNote 1 = .ok (.iconst 0, 1) := by decide +kernel
theorem dX7_isNote_2 : decode cX7_isNote 2 = .ok (.aload_n 0, 1) := by decide +kernel
theorem dX7_isNote_3 : decode cX7_isNote 3 = .ok (.getfield 7, 3) := by decide +kernel
theorem dX7_isNote_6 : decode cX7_isNote 6 = .ok (.iconst 2, 1) := by decide +kernel
theorem dX7_isNote_7 : decode cX7_isNote 7 = .ok (.iaload, 1) := by decide +kernel
theorem dX7_isNote_8 : decode cX7_isNote 8 = .ok (.iconst 1, 1) := by decide +kernel
theorem dX7_isNote_9 : decode cX7_isNote 9 = .ok (.isub, 1) := by decide +kernel
theorem dX7_isNote_10 : decode cX7_isNote 10 = .ok (.invokestatic 25, 3) := by decide +kernel
theorem dX7_isNote_13 : decode cX7_isNote 13 = .ok (.ireturn, 1) := by decide +kernel
theorem dX7_records_0 : decode cX7_records 0 = .ok (.aload_n 0, 1) := by decide +kernel
theorem dX7_records_1 : decode cX7_records 1 = .ok (.getfield 29, 3) := by decide +kernel
theorem dX7_records_4 : decode cX7_records 4 = .ok (.iconst 5, 1) := by decide +kernel
theorem dX7_records_5 : decode cX7_records 5 = .ok (.if_icmp .ne 44, 3) := by decide +kernel
theorem dX7_records_8 : decode cX7_records 8 = .ok (.iconst 0, 1) := by decide +kernel
theorem dX7_records_9 : decode cX7_records 9 = .ok (.istore_n 1, 1) := by decide +kernel
theorem dX7_records_10 : decode cX7_records 10 = .ok (.iload_n 1, 1) := by decide +kernel
theorem dX7_records_11 : decode cX7_records 11 = .ok (.sipush 1204, 3) := by decide +kernel
theorem dX7_records_14 : decode cX7_records 14 = .ok (.if_icmp .ge 25, 3) := by decide +kernel
theorem dX7_records_17 : decode cX7_records 17 = .ok (.aload_n 0, 1) := by decide +kernel
theorem dX7_records_18 : decode cX7_records 18 = .ok (.getfield 13, 3) := by decide +kernel
theorem dX7_records_21 : decode cX7_records 21 = .ok (.iload_n 1, 1) := by decide +kernel
theorem dX7_records_22 : decode cX7_records 22 = .ok (.aload_n 0, 1) := by decide +kernel
theorem dX7_records_23 : decode cX7_records 23 = .ok (.getfield 13, 3) := by decide +kernel
theorem dX7_records_26 : decode cX7_records 26 = .ok (.iload_n 1, 1) := by decide +kernel
theorem dX7_records_27 : decode cX7_records 27 = .ok (.sipush 301, 3) := by decide +kernel
theorem dX7_records_30 : decode cX7_records 30 = .ok (.iadd, 1) := by decide +kernel
theorem dX7_records_31 : decode cX7_records 31 = .ok (.iaload, 1) := by decide +kernel
theorem dX7_records_32 : decode cX7_records 32 = .ok (.iastore, 1) := by decide +kernel
theorem dX7_records_33 : decode cX7_records 33 = .ok (.iinc 1 1, 3) := by decide +kernel
theorem dX7_records_36 : decode cX7_records 36 = .ok (.goto (-26), 3) := by decide +kernel
theorem dX7_records_39 : decode cX7_records 39 = .ok (.aload_n 0, 1) := by decide +kernel
theorem dX7_records_40 : decode cX7_records 40 = .ok (.dup, 1) := by decide +kernel
theorem dX7_records_41 : decode cX7_records 41 = .ok (.getfield 29, 3) := by decide +kernel
theorem dX7_records_44 : decode cX7_records 44 = .ok (.iconst 1, 1) := by decide +kernel
theorem dX7_records_45 : decode cX7_records 45 = .ok (.isub, 1) := by decide +kernel
theorem dX7_records_46 : decode cX7_records 46 = .ok (.putfield 29, 3) := by decide +kernel
theorem dX7_records_49 : decode cX7_records 49 = .ok (.iconst 0, 1) := by decide +kernel
theorem dX7_records_50 : decode cX7_records 50 = .ok (.istore_n 1, 1) := by decide +kernel
theorem dX7_records_51 : decode cX7_records 51 = .ok (.iload_n 1, 1) := by decide +kernel
theorem dX7_records_52 : decode cX7_records 52 = .ok (.sipush 301, 3) := by decide +kernel
theorem dX7_records_55 : decode cX7_records 55 = .ok (.if_icmp .ge 30, 3) := by decide +kernel
theorem dX7_records_58 : decode cX7_records 58 = .ok (.aload_n 0, 1) := by decide +kernel
theorem dX7_records_59 : decode cX7_records 59 = .ok (.getfield 13, 3) := by decide +kernel
theorem dX7_records_62 : decode cX7_records 62 = .ok (.sipush 301, 3) := by decide +kernel
theorem dX7_records_65 : decode cX7_records 65 = .ok (.aload_n 0, 1) := by decide +kernel
theorem dX7_records_66 : decode cX7_records 66 = .ok (.getfield 29, 3) := by decide +kernel
theorem dX7_records_69 : decode cX7_records 69 = .ok (.imul, 1) := by decide +kernel
theorem dX7_records_70 : decode cX7_records 70 = .ok (.iload_n 1, 1) := by decide +kernel
theorem dX7_records_71 : decode cX7_records 71 = .ok (.iadd, 1) := by decide +kernel
theorem dX7_records_72 : decode cX7_records 72 = .ok (.aload_n 0, 1) := by decide +kernel
theorem dX7_records_73 : decode cX7_records 73 = .ok (.getfield 7, 3) := by decide +kernel
theorem dX7_records_76 : decode cX7_records 76 = .ok (.iload_n 1, 1) := by decide +kernel
theorem dX7_records_77 : decode cX7_records 77 = .ok (.iaload, 1) := by decide +kernel
theorem dX7_records_78 : decode cX7_records 78 = .ok (.iastore, 1) := by decide +kernel
theorem dX7_records_79 : decode cX7_records 79 = .ok (.iinc 1 1, 3) := by decide +kernel
theorem dX7_records_82 : decode cX7_records 82 = .ok (.goto (-31), 3) := by decide +kernel
theorem dX7_records_85 : decode cX7_records 85 = .ok (.aload_n 0, 1) := by decide +kernel
theorem dX7_records_86 : decode cX7_records 86 = .ok (.dup, 1) := by decide +kernel
theorem dX7_records_87 : decode cX7_records 87 = .ok (.getfield 29, 3) := by decide +kernel
theorem dX7_records_90 : decode cX7_records 90 = .ok (.iconst 1, 1) := by decide +kernel
theorem dX7_records_91 : decode cX7_records 91 = .ok (.iadd, 1) := by decide +kernel
theorem dX7_records_92 : decode cX7_records 92 = .ok (.putfield 29, 3) := by decide +kernel
theorem dX7_records_95 : decode cX7_records 95 = .ok (.return_, 1) := by decide +kernel
theorem dX7_undo_0 : decode cX7_undo 0 = .ok (.aload_n 0, 1) := by decide +kernel
theorem dX7_undo_1 : decode cX7_undo 1 = .ok (.getfield 29, 3) := by decide +kernel
theorem dX7_undo_4 : decode cX7_undo 4 = .ok (.ifCond .ne 6, 3) := by decide +kernel
theorem dX7_undo_7 : decode cX7_undo 7 = .ok (.ldc 33, 2) := by decide +kernel
theorem dX7_undo_9 : decode cX7_undo 9 = .ok (.ireturn, 1) := by decide +kernel
theorem dX7_undo_10 : decode cX7_undo 10 = .ok (.aload_n 0, 1) := by decide +kernel
theorem dX7_undo_11 : decode cX7_undo 11 = .ok (.dup, 1) := by decide +kernel
theorem dX7_undo_12 : decode cX7_undo 12 = .ok (.getfield 29, 3) := by decide +kernel
theorem dX7_undo_15 : decode cX7_undo 15 = .ok (.iconst 1, 1) := by decide +kernel
theorem dX7_undo_16 : decode cX7_undo 16 = .ok (.isub, 1) := by decide +kernel
theorem dX7_undo_17 : decode cX7_undo 17 = .ok (.putfield 29, 3) := by decide +kernel
theorem dX7_undo_20 : decode cX7_undo 20 = .ok (.iconst 0, 1) := by decide +kernel
theorem dX7_undo_21 : decode cX7_undo 21 = .ok (.istore_n 1, 1) := by decide +kernel
theorem dX7_undo_22 : decode cX7_undo 22 = .ok (.iload_n 1, 1) := by decide +kernel
theorem dX7_undo_23 : decode cX7_undo 23 = .ok (.sipush 301, 3) := by decide +kernel
theorem dX7_undo_26 : decode cX7_undo 26 = .ok (.if_icmp .ge 30, 3) := by decide +kernel
theorem dX7_undo_29 : decode cX7_undo 29 = .ok (.aload_n 0, 1) := by decide +kernel
theorem dX7_undo_30 : decode cX7_undo 30 = .ok (.getfield 7, 3) := by decide +kernel
theorem dX7_undo_33 : decode cX7_undo 33 = .ok (.iload_n 1, 1) := by decide +kernel
theorem dX7_undo_34 : decode cX7_undo 34 = .ok (.aload_n 0, 1) := by decide +kernel
theorem dX7_undo_35 : decode cX7_undo 35 = .ok (.getfield 13, 3) := by decide +kernel
theorem dX7_undo_38 : decode cX7_undo 38 = .ok (.sipush 301, 3) := by decide +kernel
theorem dX7_undo_41 : decode cX7_undo 41 = .ok (.aload_n 0, 1) := by decide +kernel
theorem dX7_undo_42 : decode cX7_undo 42 = .ok (.getfield 29, 3) := by decide +kernel
theorem dX7_undo_45 : decode cX7_undo 45 = .ok (.imul, 1) := by decide +kernel
theorem dX7_undo_46 : decode cX7_undo 46 = .ok (.iload_n 1, 1) := by decide +kernel
theorem dX7_undo_47 : decode cX7_undo 47 = .ok (.iadd, 1) := by decide +kernel
theorem dX7_undo_48 : decode cX7_undo 48 = .ok (.iaload, 1) := by decide +kernel
theorem dX7_undo_49 : decode cX7_undo 49 = .ok (.iastore, 1) := by decide +kernel
theorem dX7_undo_50 : decode cX7_undo 50 = .ok (.iinc 1 1, 3) := by decide +kernel
theorem dX7_undo_53 : decode cX7_undo 53 = .ok (.goto (-31), 3) := by decide +kernel
theorem dX7_undo_56 : decode cX7_undo 56 = .ok (.aload_n 0, 1) := by decide +kernel
theorem dX7_undo_57 : decode cX7_undo 57 = .ok (.getfield 29, 3) := by decide +kernel
theorem dX7_undo_60 : decode cX7_undo 60 = .ok (.ireturn, 1) := by decide +kernel
theorem dX7_laysAside_0 : decode cX7_laysAside 0 = .ok (.iconst 0, 1) := by decide +kernel
theorem dX7_laysAside_1 : decode cX7_laysAside 1 = .ok (.istore_n 1, 1) := by decide +kernel
theorem dX7_laysAside_2 : decode cX7_laysAside 2 = .ok (.iload_n 1, 1) := by decide +kernel
theorem dX7_laysAside_3 : decode cX7_laysAside 3 = .ok (.sipush 301, 3) := by decide +kernel
theorem dX7_laysAside_6 : decode cX7_laysAside 6 = .ok (.if_icmp .ge 21, 3) := by decide +kernel
theorem dX7_laysAside_9 : decode cX7_laysAside 9 = .ok (.aload_n 0, 1) := by decide +kernel
theorem dX7_laysAside_10 : decode cX7_laysAside 10 = .ok (.getfield 16, 3) := by decide +kernel
theorem dX7_laysAside_13 : decode cX7_laysAside 13 = .ok (.iload_n 1, 1) := by decide +kernel
theorem dX7_laysAside_14 : decode cX7_laysAside 14 = .ok (.aload_n 0, 1) := by decide +kernel
theorem dX7_laysAside_15 : decode cX7_laysAside 15 = .ok (.getfield 7, 3) := by decide +kernel
theorem dX7_laysAside_18 : decode cX7_laysAside 18 = .ok (.iload_n 1, 1) := by decide +kernel
theorem dX7_laysAside_19 : decode cX7_laysAside 19 = .ok (.iaload, 1) := by decide +kernel
theorem dX7_laysAside_20 : decode cX7_laysAside 20 = .ok (.iastore, 1) := by decide +kernel
theorem dX7_laysAside_21 : decode cX7_laysAside 21 = .ok (.iinc 1 1, 3) := by decide +kernel
theorem dX7_laysAside_24 : decode cX7_laysAside 24 = .ok (.goto (-22), 3) := by decide +kernel
theorem dX7_laysAside_27 : decode cX7_laysAside 27 = .ok (.return_, 1) := by decide +kernel
theorem dX7_bringsBack_0 : decode cX7_bringsBack 0 = .ok (.iconst 0, 1) := by decide +kernel
theorem dX7_bringsBack_1 : decode cX7_bringsBack 1 = .ok (.istore_n 1, 1) := by decide +kernel
theorem dX7_bringsBack_2 : decode cX7_bringsBack 2 = .ok (.iload_n 1, 1) := by decide +kernel
theorem dX7_bringsBack_3 : decode cX7_bringsBack 3 = .ok (.sipush 301, 3) := by decide +kernel
theorem dX7_bringsBack_6 : decode cX7_bringsBack 6 = .ok (.if_icmp .ge 21, 3) := by decide +kernel
theorem dX7_bringsBack_9 : decode cX7_bringsBack 9 = .ok (.aload_n 0, 1) := by decide +kernel
theorem dX7_bringsBack_10 : decode cX7_bringsBack 10 = .ok (.getfield 7, 3) := by decide +kernel
theorem dX7_bringsBack_13 : decode cX7_bringsBack 13 = .ok (.iload_n 1, 1) := by decide +kernel
theorem dX7_bringsBack_14 : decode cX7_bringsBack 14 = .ok (.aload_n 0, 1) := by decide +kernel
theorem dX7_bringsBack_15 : decode cX7_bringsBack 15 = .ok (.getfield 16, 3) := by decide +kernel
theorem dX7_bringsBack_18 : decode cX7_bringsBack 18 = .ok (.iload_n 1, 1) := by decide +kernel
theorem dX7_bringsBack_19 : decode cX7_bringsBack 19 = .ok (.iaload, 1) := by decide +kernel
theorem dX7_bringsBack_20 : decode cX7_bringsBack 20 = .ok (.iastore, 1) := by decide +kernel
theorem dX7_bringsBack_21 : decode cX7_bringsBack 21 = .ok (.iinc 1 1, 3) := by decide +kernel
theorem dX7_bringsBack_24 : decode cX7_bringsBack 24 = .ok (.goto (-22), 3) := by decide +kernel
theorem dX7_bringsBack_27 : decode cX7_bringsBack 27 = .ok (.return_, 1) := by decide +kernel
theorem dX7_pitchBy_0 : decode cX7_pitchBy 0 = .ok (.aload_n 0, 1) := by decide +kernel
theorem dX7_pitchBy_1 : decode cX7_pitchBy 1 = .ok (.iload_n 1, 1) := by decide +kernel
theorem dX7_pitchBy_2 : decode cX7_pitchBy 2 = .ok (.iconst 0, 1) := by decide +kernel
theorem dX7_pitchBy_3 : decode cX7_pitchBy 3 = .ok (.invokevirtual 34, 3) := by decide +kernel
theorem dX7_pitchBy_6 : decode cX7_pitchBy 6 = .ok (.aload_n 0, 1) := by decide +kernel
theorem dX7_pitchBy_7 : decode cX7_pitchBy 7 = .ok (.iload_n 1, 1) := by decide +kernel
theorem dX7_pitchBy_8 : decode cX7_pitchBy 8 = .ok (.iconst 1, 1) := by decide +kernel
theorem dX7_pitchBy_9 : decode cX7_pitchBy 9 = .ok (.invokevirtual 34, 3) := by decide +kernel
theorem dX7_pitchBy_12 : decode cX7_pitchBy 12 = .ok (.i2l, 1) := by decide +kernel
theorem dX7_pitchBy_13 : decode cX7_pitchBy 13 = .ok (.iload_n 2, 1) := by decide +kernel
theorem dX7_pitchBy_14 : decode cX7_pitchBy 14 = .ok (.i2l, 1) := by decide +kernel
theorem dX7_pitchBy_15 : decode cX7_pitchBy 15 = .ok (.lmul, 1) := by decide +kernel
theorem dX7_pitchBy_16 : decode cX7_pitchBy 16 = .ok (.iload_n 2, 1) := by decide +kernel
theorem dX7_pitchBy_17 : decode cX7_pitchBy 17 = .ok (.i2l, 1) := by decide +kernel
theorem dX7_pitchBy_18 : decode cX7_pitchBy 18 = .ok (.lmul, 1) := by decide +kernel
theorem dX7_pitchBy_19 : decode cX7_pitchBy 19 = .ok (.ldc2_w 38, 3) := by decide +kernel
theorem dX7_pitchBy_22 : decode cX7_pitchBy 22 = .ok (.ldiv, 1) := by decide +kernel
theorem dX7_pitchBy_23 : decode cX7_pitchBy 23 = .ok (.l2i, 1) := by decide +kernel
theorem dX7_pitchBy_24 : decode cX7_pitchBy 24 = .ok (.isub, 1) := by decide +kernel
theorem dX7_pitchBy_25 : decode cX7_pitchBy 25 = .ok (.ireturn, 1) := by decide +kernel
theorem dX7_pitch_0 : decode cX7_pitch 0 = .ok (.aload_n 0, 1) := by decide +kernel
theorem dX7_pitch_1 : decode cX7_pitch 1 = .ok (.iload_n 1, 1) := by decide +kernel
theorem dX7_pitch_2 : decode cX7_pitch 2 = .ok (.aload_n 0, 1) := by decide +kernel
theorem dX7_pitch_3 : decode cX7_pitch 3 = .ok (.iload_n 1, 1) := by decide +kernel
theorem dX7_pitch_4 : decode cX7_pitch 4 = .ok (.iconst 2, 1) := by decide +kernel
theorem dX7_pitch_5 : decode cX7_pitch 5 = .ok (.invokevirtual 34, 3) := by decide +kernel
theorem dX7_pitch_8 : decode cX7_pitch 8 = .ok (.invokevirtual 40, 3) := by decide +kernel
theorem dX7_pitch_11 : decode cX7_pitch 11 = .ok (.ireturn, 1) := by decide +kernel
theorem dX7_loses_0 : decode cX7_loses 0 = .ok (.aload_n 0, 1) := by decide +kernel
theorem dX7_loses_1 : decode cX7_loses 1 = .ok (.iload_n 1, 1) := by decide +kernel
theorem dX7_loses_2 : decode cX7_loses 2 = .ok (.iconst 2, 1) := by decide +kernel
theorem dX7_loses_3 : decode cX7_loses 3 = .ok (.invokevirtual 34, 3) := by decide +kernel
theorem dX7_loses_6 : decode cX7_loses 6 = .ok (.aload_n 0, 1) := by decide +kernel
theorem dX7_loses_7 : decode cX7_loses 7 = .ok (.iload_n 1, 1) := by decide +kernel
theorem dX7_loses_8 : decode cX7_loses 8 = .ok (.iconst 4, 1) := by decide +kernel
theorem dX7_loses_9 : decode cX7_loses 9 = .ok (.invokevirtual 34, 3) := by decide +kernel
theorem dX7_loses_12 : decode cX7_loses 12 = .ok (.isub, 1) := by decide +kernel
theorem dX7_loses_13 : decode cX7_loses 13 = .ok (.istore_n 2, 1) := by decide +kernel
theorem dX7_loses_14 : decode cX7_loses 14 = .ok (.iload_n 2, 1) := by decide +kernel
theorem dX7_loses_15 : decode cX7_loses 15 = .ok (.ifCond .ge 7, 3) := by decide +kernel
theorem dX7_loses_18 : decode cX7_loses 18 = .ok (.iconst 0, 1) := by decide +kernel
theorem dX7_loses_19 : decode cX7_loses 19 = .ok (.goto 4, 3) := by decide +kernel
theorem dX7_loses_22 : decode cX7_loses 22 = .ok (.iload_n 2, 1) := by decide +kernel
theorem dX7_loses_23 : decode cX7_loses 23 = .ok (.istore_n 2, 1) := by decide +kernel
theorem dX7_loses_24 : decode cX7_loses 24 = .ok (.aload_n 0, 1) := by decide +kernel
theorem dX7_loses_25 : decode cX7_loses 25 = .ok (.iload_n 1, 1) := by decide +kernel
theorem dX7_loses_26 : decode cX7_loses 26 = .ok (.iconst 2, 1) := by decide +kernel
theorem dX7_loses_27 : decode cX7_loses 27 = .ok (.aload_n 0, 1) := by decide +kernel
theorem dX7_loses_28 : decode cX7_loses 28 = .ok (.iload_n 1, 1) := by decide +kernel
theorem dX7_loses_29 : decode cX7_loses 29 = .ok (.iconst 2, 1) := by decide +kernel
theorem dX7_loses_30 : decode cX7_loses 30 = .ok (.invokevirtual 34, 3) := by decide +kernel
theorem dX7_loses_33 : decode cX7_loses 33 = .ok (.iload_n 2, 1) := by decide +kernel
theorem dX7_loses_34 : decode cX7_loses 34 = .ok (.isub, 1) := by decide +kernel
theorem dX7_loses_35 : decode cX7_loses 35 = .ok (.invokevirtual 43, 3) := by decide +kernel
theorem dX7_loses_38 : decode cX7_loses 38 = .ok (.aload_n 0, 1) := by decide +kernel
theorem dX7_loses_39 : decode cX7_loses 39 = .ok (.getfield 7, 3) := by decide +kernel
theorem dX7_loses_42 : decode cX7_loses 42 = .ok (.iconst 5, 1) := by decide +kernel
theorem dX7_loses_43 : decode cX7_loses 43 = .ok (.dup2, 1) := by decide +kernel
theorem dX7_loses_44 : decode cX7_loses 44 = .ok (.iaload, 1) := by decide +kernel
theorem dX7_loses_45 : decode cX7_loses 45 = .ok (.iload_n 2, 1) := by decide +kernel
theorem dX7_loses_46 : decode cX7_loses 46 = .ok (.iadd, 1) := by decide +kernel
theorem dX7_loses_47 : decode cX7_loses 47 = .ok (.iastore, 1) := by decide +kernel
theorem dX7_loses_48 : decode cX7_loses 48 = .ok (.iload_n 2, 1) := by decide +kernel
theorem dX7_loses_49 : decode cX7_loses 49 = .ok (.ireturn, 1) := by decide +kernel
theorem dX7_comes_0 : decode cX7_comes 0 = .ok (.aload_n 0, 1) := by decide +kernel
theorem dX7_comes_1 : decode cX7_comes 1 = .ok (.iload_n 1, 1) := by decide +kernel
theorem dX7_comes_2 : decode cX7_comes 2 = .ok (.iconst 2, 1) := by decide +kernel
theorem dX7_comes_3 : decode cX7_comes 3 = .ok (.aload_n 0, 1) := by decide +kernel
theorem dX7_comes_4 : decode cX7_comes 4 = .ok (.iload_n 1, 1) := by decide +kernel
theorem dX7_comes_5 : decode cX7_comes 5 = .ok (.iconst 2, 1) := by decide +kernel
theorem dX7_comes_6 : decode cX7_comes 6 = .ok (.invokevirtual 34, 3) := by decide +kernel
theorem dX7_comes_9 : decode cX7_comes 9 = .ok (.iload_n 2, 1) := by decide +kernel
theorem dX7_comes_10 : decode cX7_comes 10 = .ok (.iadd, 1) := by decide +kernel
theorem dX7_comes_11 : decode cX7_comes 11 = .ok (.invokevirtual 43, 3) := by decide +kernel
theorem dX7_comes_14 : decode cX7_comes 14 = .ok (.aload_n 0, 1) := by decide +kernel
theorem dX7_comes_15 : decode cX7_comes 15 = .ok (.getfield 7, 3) := by decide +kernel
theorem dX7_comes_18 : decode cX7_comes 18 = .ok (.iconst 3, 1) := by decide +kernel
theorem dX7_comes_19 : decode cX7_comes 19 = .ok (.dup2, 1) := by decide +kernel
theorem dX7_comes_20 : decode cX7_comes 20 = .ok (.iaload, 1) := by decide +kernel
theorem dX7_comes_21 : decode cX7_comes 21 = .ok (.iload_n 2, 1) := by decide +kernel
theorem dX7_comes_22 : decode cX7_comes 22 = .ok (.iadd, 1) := by decide +kernel
theorem dX7_comes_23 : decode cX7_comes 23 = .ok (.iastore, 1) := by decide +kernel
theorem dX7_comes_24 : decode cX7_comes 24 = .ok (.aload_n 0, 1) := by decide +kernel
theorem dX7_comes_25 : decode cX7_comes 25 = .ok (.iload_n 1, 1) := by decide +kernel
theorem dX7_comes_26 : decode cX7_comes 26 = .ok (.invokevirtual 47, 3) := by decide +kernel
theorem dX7_comes_29 : decode cX7_comes 29 = .ok (.istore_n 3, 1) := by decide +kernel
theorem dX7_comes_30 : decode cX7_comes 30 = .ok (.return_, 1) := by decide +kernel
theorem dX7_bowl_0 : decode cX7_bowl 0 = .ok (.iload_n 1, 1) := by decide +kernel
theorem dX7_bowl_1 : decode cX7_bowl 1 = .ok (.iconst 0, 1) := by decide +kernel
theorem dX7_bowl_2 : decode cX7_bowl 2 = .ok (.sipush 6000, 3) := by decide +kernel
theorem dX7_bowl_5 : decode cX7_bowl 5 = .ok (.invokestatic 25, 3) := by decide +kernel
theorem dX7_bowl_8 : decode cX7_bowl 8 = .ok (.ifCond .eq 14, 3) := by decide +kernel
theorem dX7_bowl_11 : decode cX7_bowl 11 = .ok (.iload_n 2, 1) := by decide +kernel
theorem dX7_bowl_12 : decode cX7_bowl 12 = .ok (.iconst 1, 1) := by decide +kernel
theorem dX7_bowl_13 : decode cX7_bowl 13 = .ok (.sipush 2400, 3) := by decide +kernel
theorem dX7_bowl_16 : decode cX7_bowl 16 = .ok (.invokestatic 25, 3) := by decide +kernel
theorem dX7_bowl_19 : decode cX7_bowl 19 = .ok (.ifCond .ne 6, 3) := by decide +kernel
theorem dX7_bowl_22 : decode cX7_bowl 22 = .ok (.ldc 51, 2) := by decide +kernel
theorem dX7_bowl_24 : decode cX7_bowl 24 = .ok (.ireturn, 1) := by decide +kernel
theorem dX7_bowl_25 : decode cX7_bowl 25 = .ok (.aload_n 0, 1) := by decide +kernel
theorem dX7_bowl_26 : decode cX7_bowl 26 = .ok (.getfield 7, 3) := by decide +kernel
theorem dX7_bowl_29 : decode cX7_bowl 29 = .ok (.iconst 1, 1) := by decide +kernel
theorem dX7_bowl_30 : decode cX7_bowl 30 = .ok (.iaload, 1) := by decide +kernel
theorem dX7_bowl_31 : decode cX7_bowl 31 = .ok (.bipush 10, 2) := by decide +kernel
theorem dX7_bowl_33 : decode cX7_bowl 33 = .ok (.if_icmp .ne 6, 3) := by decide +kernel
theorem dX7_bowl_36 : decode cX7_bowl 36 = .ok (.ldc 52, 2) := by decide +kernel
theorem dX7_bowl_38 : decode cX7_bowl 38 = .ok (.ireturn, 1) := by decide +kernel
theorem dX7_bowl_39 : decode cX7_bowl 39 = .ok (.aload_n 0, 1) := by decide +kernel
theorem dX7_bowl_40 : decode cX7_bowl 40 = .ok (.invokevirtual 53, 3) := by decide +kernel
theorem dX7_bowl_43 : decode cX7_bowl 43 = .ok (.aload_n 0, 1) := by decide +kernel
theorem dX7_bowl_44 : decode cX7_bowl 44 = .ok (.getfield 7, 3) := by decide +kernel
theorem dX7_bowl_47 : decode cX7_bowl 47 = .ok (.iconst 1, 1) := by decide +kernel
theorem dX7_bowl_48 : decode cX7_bowl 48 = .ok (.iaload, 1) := by decide +kernel
theorem dX7_bowl_49 : decode cX7_bowl 49 = .ok (.istore_n 3, 1) := by decide +kernel
theorem dX7_bowl_50 : decode cX7_bowl 50 = .ok (.aload_n 0, 1) := by decide +kernel
theorem dX7_bowl_51 : decode cX7_bowl 51 = .ok (.iload_n 3, 1) := by decide +kernel
theorem dX7_bowl_52 : decode cX7_bowl 52 = .ok (.iconst 0, 1) := by decide +kernel
theorem dX7_bowl_53 : decode cX7_bowl 53 = .ok (.iload_n 1, 1) := by decide +kernel
theorem dX7_bowl_54 : decode cX7_bowl 54 = .ok (.invokevirtual 43, 3) := by decide +kernel
theorem dX7_bowl_57 : decode cX7_bowl 57 = .ok (.aload_n 0, 1) := by decide +kernel
theorem dX7_bowl_58 : decode cX7_bowl 58 = .ok (.iload_n 3, 1) := by decide +kernel
theorem dX7_bowl_59 : decode cX7_bowl 59 = .ok (.iconst 1, 1) := by decide +kernel
theorem dX7_bowl_60 : decode cX7_bowl 60 = .ok (.iload_n 2, 1) := by decide +kernel
theorem dX7_bowl_61 : decode cX7_bowl 61 = .ok (.invokevirtual 43, 3) := by decide +kernel
theorem dX7_bowl_64 : decode cX7_bowl 64 = .ok (.aload_n 0, 1) := by decide +kernel
theorem dX7_bowl_65 : decode cX7_bowl 65 = .ok (.iload_n 3, 1) := by decide +kernel
theorem dX7_bowl_66 : decode cX7_bowl 66 = .ok (.iconst 2, 1) := by decide +kernel
theorem dX7_bowl_67 : decode cX7_bowl 67 = .ok (.iconst 0, 1) := by decide +kernel
theorem dX7_bowl_68 : decode cX7_bowl 68 = .ok (.invokevirtual 43, 3) := by decide +kernel
theorem dX7_bowl_71 : decode cX7_bowl 71 = .ok (.aload_n 0, 1) := by decide +kernel
theorem dX7_bowl_72 : decode cX7_bowl 72 = .ok (.iload_n 3, 1) := by decide +kernel
theorem dX7_bowl_73 : decode cX7_bowl 73 = .ok (.iconst 3, 1) := by decide +kernel
theorem dX7_bowl_74 : decode cX7_bowl 74 = .ok (.iconst 0, 1) := by decide +kernel
theorem dX7_bowl_75 : decode cX7_bowl 75 = .ok (.invokevirtual 43, 3) := by decide +kernel
theorem dX7_bowl_78 : decode cX7_bowl 78 = .ok (.aload_n 0, 1) := by decide +kernel
theorem dX7_bowl_79 : decode cX7_bowl 79 = .ok (.iload_n 3, 1) := by decide +kernel
theorem dX7_bowl_80 : decode cX7_bowl 80 = .ok (.iconst 4, 1) := by decide +kernel
theorem dX7_bowl_81 : decode cX7_bowl 81 = .ok (.sipush 1000, 3) := by decide +kernel
theorem dX7_bowl_84 : decode cX7_bowl 84 = .ok (.invokevirtual 43, 3) := by decide +kernel
theorem dX7_bowl_87 : decode cX7_bowl 87 = .ok (.aload_n 0, 1) := by decide +kernel
theorem dX7_bowl_88 : decode cX7_bowl 88 = .ok (.getfield 7, 3) := by decide +kernel
theorem dX7_bowl_91 : decode cX7_bowl 91 = .ok (.iconst 1, 1) := by decide +kernel
theorem dX7_bowl_92 : decode cX7_bowl 92 = .ok (.dup2, 1) := by decide +kernel
theorem dX7_bowl_93 : decode cX7_bowl 93 = .ok (.iaload, 1) := by decide +kernel
theorem dX7_bowl_94 : decode cX7_bowl 94 = .ok (.iconst 1, 1) := by decide +kernel
theorem dX7_bowl_95 : decode cX7_bowl 95 = .ok (.iadd, 1) := by decide +kernel
theorem dX7_bowl_96 : decode cX7_bowl 96 = .ok (.iastore, 1) := by decide +kernel
theorem dX7_bowl_97 : decode cX7_bowl 97 = .ok (.iload_n 3, 1) := by decide +kernel
theorem dX7_bowl_98 : decode cX7_bowl 98 = .ok (.ireturn, 1) := by decide +kernel
theorem dX7_remove_0 : decode cX7_remove 0 = .ok (.aload_n 0, 1) := by decide +kernel
theorem dX7_remove_1 : decode cX7_remove 1 = .ok (.iload_n 1, 1) := by decide +kernel
theorem dX7_remove_2 : decode cX7_remove 2 = .ok (.invokevirtual 56, 3) := by decide +kernel
theorem dX7_remove_5 : decode cX7_remove 5 = .ok (.ifCond .ne 6, 3) := by decide +kernel
theorem dX7_remove_8 : decode cX7_remove 8 = .ok (.ldc 51, 2) := by decide +kernel
theorem dX7_remove_10 : decode cX7_remove 10 = .ok (.ireturn, 1) := by decide +kernel
theorem dX7_remove_11 : decode cX7_remove 11 = .ok (.aload_n 0, 1) := by decide +kernel
theorem dX7_remove_12 : decode cX7_remove 12 = .ok (.invokevirtual 53, 3) := by decide +kernel
theorem dX7_remove_15 : decode cX7_remove 15 = .ok (.aload_n 0, 1) := by decide +kernel
theorem dX7_remove_16 : decode cX7_remove 16 = .ok (.getfield 7, 3) := by decide +kernel
theorem dX7_remove_19 : decode cX7_remove 19 = .ok (.bipush 6, 2) := by decide +kernel
theorem dX7_remove_21 : decode cX7_remove 21 = .ok (.dup2, 1) := by decide +kernel
theorem dX7_remove_22 : decode cX7_remove 22 = .ok (.iaload, 1) := by decide +kernel
theorem dX7_remove_23 : decode cX7_remove 23 = .ok (.aload_n 0, 1) := by decide +kernel
theorem dX7_remove_24 : decode cX7_remove 24 = .ok (.iload_n 1, 1) := by decide +kernel
theorem dX7_remove_25 : decode cX7_remove 25 = .ok (.iconst 2, 1) := by decide +kernel
theorem dX7_remove_26 : decode cX7_remove 26 = .ok (.invokevirtual 34, 3) := by decide +kernel
theorem dX7_remove_29 : decode cX7_remove 29 = .ok (.iadd, 1) := by decide +kernel
theorem dX7_remove_30 : decode cX7_remove 30 = .ok (.iastore, 1) := by decide +kernel
theorem dX7_remove_31 : decode cX7_remove 31 = .ok (.aload_n 0, 1) := by decide +kernel
theorem dX7_remove_32 : decode cX7_remove 32 = .ok (.getfield 7, 3) := by decide +kernel
theorem dX7_remove_35 : decode cX7_remove 35 = .ok (.iconst 1, 1) := by decide +kernel
theorem dX7_remove_36 : decode cX7_remove 36 = .ok (.dup2, 1) := by decide +kernel
theorem dX7_remove_37 : decode cX7_remove 37 = .ok (.iaload, 1) := by decide +kernel
theorem dX7_remove_38 : decode cX7_remove 38 = .ok (.iconst 1, 1) := by decide +kernel
theorem dX7_remove_39 : decode cX7_remove 39 = .ok (.isub, 1) := by decide +kernel
theorem dX7_remove_40 : decode cX7_remove 40 = .ok (.iastore, 1) := by decide +kernel
theorem dX7_remove_41 : decode cX7_remove 41 = .ok (.bipush 11, 2) := by decide +kernel
theorem dX7_remove_43 : decode cX7_remove 43 = .ok (.iconst 5, 1) := by decide +kernel
theorem dX7_remove_44 : decode cX7_remove 44 = .ok (.iload_n 1, 1) := by decide +kernel
theorem dX7_remove_45 : decode cX7_remove 45 = .ok (.imul, 1) := by decide +kernel
theorem dX7_remove_46 : decode cX7_remove 46 = .ok (.iadd, 1) := by decide +kernel
theorem dX7_remove_47 : decode cX7_remove 47 = .ok (.istore_n 2, 1) := by decide +kernel
theorem dX7_remove_48 : decode cX7_remove 48 = .ok (.iload_n 2, 1) := by decide +kernel
theorem dX7_remove_49 : decode cX7_remove 49 = .ok (.bipush 11, 2) := by decide +kernel
theorem dX7_remove_51 : decode cX7_remove 51 = .ok (.iconst 5, 1) := by decide +kernel
theorem dX7_remove_52 : decode cX7_remove 52 = .ok (.aload_n 0, 1) := by decide +kernel
theorem dX7_remove_53 : decode cX7_remove 53 = .ok (.getfield 7, 3) := by decide +kernel
theorem dX7_remove_56 : decode cX7_remove 56 = .ok (.iconst 1, 1) := by decide +kernel
theorem dX7_remove_57 : decode cX7_remove 57 = .ok (.iaload, 1) := by decide +kernel
theorem dX7_remove_58 : decode cX7_remove 58 = .ok (.imul, 1) := by decide +kernel
theorem dX7_remove_59 : decode cX7_remove 59 = .ok (.iadd, 1) := by decide +kernel
theorem dX7_remove_60 : decode cX7_remove 60 = .ok (.if_icmp .ge 23, 3) := by decide +kernel
theorem dX7_remove_63 : decode cX7_remove 63 = .ok (.aload_n 0, 1) := by decide +kernel
theorem dX7_remove_64 : decode cX7_remove 64 = .ok (.getfield 7, 3) := by decide +kernel
theorem dX7_remove_67 : decode cX7_remove 67 = .ok (.iload_n 2, 1) := by decide +kernel
theorem dX7_remove_68 : decode cX7_remove 68 = .ok (.aload_n 0, 1) := by decide +kernel
theorem dX7_remove_69 : decode cX7_remove 69 = .ok (.getfield 7, 3) := by decide +kernel
theorem dX7_remove_72 : decode cX7_remove 72 = .ok (.iload_n 2, 1) := by decide +kernel
theorem dX7_remove_73 : decode cX7_remove 73 = .ok (.iconst 5, 1) := by decide +kernel
theorem dX7_remove_74 : decode cX7_remove 74 = .ok (.iadd, 1) := by decide +kernel
theorem dX7_remove_75 : decode cX7_remove 75 = .ok (.iaload, 1) := by decide +kernel
theorem dX7_remove_76 : decode cX7_remove 76 = .ok (.iastore, 1) := by decide +kernel
theorem dX7_remove_77 : decode cX7_remove 77 = .ok (.iinc 2 1, 3) := by decide +kernel
theorem dX7_remove_80 : decode cX7_remove 80 = .ok (.goto (-32), 3) := by decide +kernel
theorem dX7_remove_83 : decode cX7_remove 83 = .ok (.aload_n 0, 1) := by decide +kernel
theorem dX7_remove_84 : decode cX7_remove 84 = .ok (.getfield 7, 3) := by decide +kernel
theorem dX7_remove_87 : decode cX7_remove 87 = .ok (.iconst 1, 1) := by decide +kernel
theorem dX7_remove_88 : decode cX7_remove 88 = .ok (.iaload, 1) := by decide +kernel
theorem dX7_remove_89 : decode cX7_remove 89 = .ok (.ireturn, 1) := by decide +kernel
theorem dX7_pour_0 : decode cX7_pour 0 = .ok (.aload_n 0, 1) := by decide +kernel
theorem dX7_pour_1 : decode cX7_pour 1 = .ok (.iload_n 1, 1) := by decide +kernel
theorem dX7_pour_2 : decode cX7_pour 2 = .ok (.invokevirtual 56, 3) := by decide +kernel
theorem dX7_pour_5 : decode cX7_pour 5 = .ok (.ifCond .eq 14, 3) := by decide +kernel
theorem dX7_pour_8 : decode cX7_pour 8 = .ok (.iload_n 2, 1) := by decide +kernel
theorem dX7_pour_9 : decode cX7_pour 9 = .ok (.iconst 1, 1) := by decide +kernel
theorem dX7_pour_10 : decode cX7_pour 10 = .ok (.sipush 1000, 3) := by decide +kernel
theorem dX7_pour_13 : decode cX7_pour 13 = .ok (.invokestatic 25, 3) := by decide +kernel
theorem dX7_pour_16 : decode cX7_pour 16 = .ok (.ifCond .ne 6, 3) := by decide +kernel
theorem dX7_pour_19 : decode cX7_pour 19 = .ok (.ldc 51, 2) := by decide +kernel
theorem dX7_pour_21 : decode cX7_pour 21 = .ok (.ireturn, 1) := by decide +kernel
theorem dX7_pour_22 : decode cX7_pour 22 = .ok (.aload_n 0, 1) := by decide +kernel
theorem dX7_pour_23 : decode cX7_pour 23 = .ok (.iload_n 1, 1) := by decide +kernel
theorem dX7_pour_24 : decode cX7_pour 24 = .ok (.iconst 2, 1) := by decide +kernel
theorem dX7_pour_25 : decode cX7_pour 25 = .ok (.invokevirtual 34, 3) := by decide +kernel
theorem dX7_pour_28 : decode cX7_pour 28 = .ok (.iload_n 2, 1) := by decide +kernel
theorem dX7_pour_29 : decode cX7_pour 29 = .ok (.iadd, 1) := by decide +kernel
theorem dX7_pour_30 : decode cX7_pour 30 = .ok (.sipush 1000, 3) := by decide +kernel
theorem dX7_pour_33 : decode cX7_pour 33 = .ok (.if_icmp .le 6, 3) := by decide +kernel
theorem dX7_pour_36 : decode cX7_pour 36 = .ok (.ldc 52, 2) := by decide +kernel
theorem dX7_pour_38 : decode cX7_pour 38 = .ok (.ireturn, 1) := by decide +kernel
theorem dX7_pour_39 : decode cX7_pour 39 = .ok (.aload_n 0, 1) := by decide +kernel
theorem dX7_pour_40 : decode cX7_pour 40 = .ok (.invokevirtual 53, 3) := by decide +kernel
theorem dX7_pour_43 : decode cX7_pour 43 = .ok (.aload_n 0, 1) := by decide +kernel
theorem dX7_pour_44 : decode cX7_pour 44 = .ok (.iload_n 1, 1) := by decide +kernel
theorem dX7_pour_45 : decode cX7_pour 45 = .ok (.iload_n 2, 1) := by decide +kernel
theorem dX7_pour_46 : decode cX7_pour 46 = .ok (.invokevirtual 60, 3) := by decide +kernel
theorem dX7_pour_49 : decode cX7_pour 49 = .ok (.aload_n 0, 1) := by decide +kernel
theorem dX7_pour_50 : decode cX7_pour 50 = .ok (.iload_n 1, 1) := by decide +kernel
theorem dX7_pour_51 : decode cX7_pour 51 = .ok (.iconst 2, 1) := by decide +kernel
theorem dX7_pour_52 : decode cX7_pour 52 = .ok (.invokevirtual 34, 3) := by decide +kernel
theorem dX7_pour_55 : decode cX7_pour 55 = .ok (.ireturn, 1) := by decide +kernel
theorem dX7_spill_0 : decode cX7_spill 0 = .ok (.aload_n 0, 1) := by decide +kernel
theorem dX7_spill_1 : decode cX7_spill 1 = .ok (.iload_n 1, 1) := by decide +kernel
theorem dX7_spill_2 : decode cX7_spill 2 = .ok (.invokevirtual 56, 3) := by decide +kernel
theorem dX7_spill_5 : decode cX7_spill 5 = .ok (.ifCond .eq 14, 3) := by decide +kernel
theorem dX7_spill_8 : decode cX7_spill 8 = .ok (.iload_n 2, 1) := by decide +kernel
theorem dX7_spill_9 : decode cX7_spill 9 = .ok (.iconst 1, 1) := by decide +kernel
theorem dX7_spill_10 : decode cX7_spill 10 = .ok (.sipush 1000, 3) := by decide +kernel
theorem dX7_spill_13 : decode cX7_spill 13 = .ok (.invokestatic 25, 3) := by decide +kernel
theorem dX7_spill_16 : decode cX7_spill 16 = .ok (.ifCond .ne 6, 3) := by decide +kernel
theorem dX7_spill_19 : decode cX7_spill 19 = .ok (.ldc 51, 2) := by decide +kernel
theorem dX7_spill_21 : decode cX7_spill 21 = .ok (.ireturn, 1) := by decide +kernel
theorem dX7_spill_22 : decode cX7_spill 22 = .ok (.aload_n 0, 1) := by decide +kernel
theorem dX7_spill_23 : decode cX7_spill 23 = .ok (.iload_n 1, 1) := by decide +kernel
theorem dX7_spill_24 : decode cX7_spill 24 = .ok (.iconst 2, 1) := by decide +kernel
theorem dX7_spill_25 : decode cX7_spill 25 = .ok (.invokevirtual 34, 3) := by decide +kernel
theorem dX7_spill_28 : decode cX7_spill 28 = .ok (.iload_n 2, 1) := by decide +kernel
theorem dX7_spill_29 : decode cX7_spill 29 = .ok (.if_icmp .ge 6, 3) := by decide +kernel
theorem dX7_spill_32 : decode cX7_spill 32 = .ok (.ldc 33, 2) := by decide +kernel
theorem dX7_spill_34 : decode cX7_spill 34 = .ok (.ireturn, 1) := by decide +kernel
theorem dX7_spill_35 : decode cX7_spill 35 = .ok (.aload_n 0, 1) := by decide +kernel
theorem dX7_spill_36 : decode cX7_spill 36 = .ok (.invokevirtual 53, 3) := by decide +kernel
theorem dX7_spill_39 : decode cX7_spill 39 = .ok (.aload_n 0, 1) := by decide +kernel
theorem dX7_spill_40 : decode cX7_spill 40 = .ok (.iload_n 1, 1) := by decide +kernel
theorem dX7_spill_41 : decode cX7_spill 41 = .ok (.iconst 2, 1) := by decide +kernel
theorem dX7_spill_42 : decode cX7_spill 42 = .ok (.aload_n 0, 1) := by decide +kernel
theorem dX7_spill_43 : decode cX7_spill 43 = .ok (.iload_n 1, 1) := by decide +kernel
theorem dX7_spill_44 : decode cX7_spill 44 = .ok (.iconst 2, 1) := by decide +kernel
theorem dX7_spill_45 : decode cX7_spill 45 = .ok (.invokevirtual 34, 3) := by decide +kernel
theorem dX7_spill_48 : decode cX7_spill 48 = .ok (.iload_n 2, 1) := by decide +kernel
theorem dX7_spill_49 : decode cX7_spill 49 = .ok (.isub, 1) := by decide +kernel
theorem dX7_spill_50 : decode cX7_spill 50 = .ok (.invokevirtual 43, 3) := by decide +kernel
theorem dX7_spill_53 : decode cX7_spill 53 = .ok (.aload_n 0, 1) := by decide +kernel
theorem dX7_spill_54 : decode cX7_spill 54 = .ok (.getfield 7, 3) := by decide +kernel
theorem dX7_spill_57 : decode cX7_spill 57 = .ok (.bipush 6, 2) := by decide +kernel
theorem dX7_spill_59 : decode cX7_spill 59 = .ok (.dup2, 1) := by decide +kernel
theorem dX7_spill_60 : decode cX7_spill 60 = .ok (.iaload, 1) := by decide +kernel
theorem dX7_spill_61 : decode cX7_spill 61 = .ok (.iload_n 2, 1) := by decide +kernel
theorem dX7_spill_62 : decode cX7_spill 62 = .ok (.iadd, 1) := by decide +kernel
theorem dX7_spill_63 : decode cX7_spill 63 = .ok (.iastore, 1) := by decide +kernel
theorem dX7_spill_64 : decode cX7_spill 64 = .ok (.aload_n 0, 1) := by decide +kernel
theorem dX7_spill_65 : decode cX7_spill 65 = .ok (.iload_n 1, 1) := by decide +kernel
theorem dX7_spill_66 : decode cX7_spill 66 = .ok (.iconst 2, 1) := by decide +kernel
theorem dX7_spill_67 : decode cX7_spill 67 = .ok (.invokevirtual 34, 3) := by decide +kernel
theorem dX7_spill_70 : decode cX7_spill 70 = .ok (.ireturn, 1) := by decide +kernel
theorem dX7_crack_0 : decode cX7_crack 0 = .ok (.aload_n 0, 1) := by decide +kernel
theorem dX7_crack_1 : decode cX7_crack 1 = .ok (.iload_n 1, 1) := by decide +kernel
theorem dX7_crack_2 : decode cX7_crack 2 = .ok (.invokevirtual 56, 3) := by decide +kernel
theorem dX7_crack_5 : decode cX7_crack 5 = .ok (.ifCond .eq 14, 3) := by decide +kernel
theorem dX7_crack_8 : decode cX7_crack 8 = .ok (.iload_n 2, 1) := by decide +kernel
theorem dX7_crack_9 : decode cX7_crack 9 = .ok (.iconst 0, 1) := by decide +kernel
theorem dX7_crack_10 : decode cX7_crack 10 = .ok (.sipush 1000, 3) := by decide +kernel
theorem dX7_crack_13 : decode cX7_crack 13 = .ok (.invokestatic 25, 3) := by decide +kernel
theorem dX7_crack_16 : decode cX7_crack 16 = .ok (.ifCond .ne 6, 3) := by decide +kernel
theorem dX7_crack_19 : decode cX7_crack 19 = .ok (.ldc 51, 2) := by decide +kernel
theorem dX7_crack_21 : decode cX7_crack 21 = .ok (.ireturn, 1) := by decide +kernel
theorem dX7_crack_22 : decode cX7_crack 22 = .ok (.aload_n 0, 1) := by decide +kernel
theorem dX7_crack_23 : decode cX7_crack 23 = .ok (.invokevirtual 53, 3) := by decide +kernel
theorem dX7_crack_26 : decode cX7_crack 26 = .ok (.aload_n 0, 1) := by decide +kernel
theorem dX7_crack_27 : decode cX7_crack 27 = .ok (.iload_n 1, 1) := by decide +kernel
theorem dX7_crack_28 : decode cX7_crack 28 = .ok (.iconst 4, 1) := by decide +kernel
theorem dX7_crack_29 : decode cX7_crack 29 = .ok (.iload_n 2, 1) := by decide +kernel
theorem dX7_crack_30 : decode cX7_crack 30 = .ok (.invokevirtual 43, 3) := by decide +kernel
theorem dX7_crack_33 : decode cX7_crack 33 = .ok (.aload_n 0, 1) := by decide +kernel
theorem dX7_crack_34 : decode cX7_crack 34 = .ok (.iload_n 1, 1) := by decide +kernel
theorem dX7_crack_35 : decode cX7_crack 35 = .ok (.invokevirtual 47, 3) := by decide +kernel
theorem dX7_crack_38 : decode cX7_crack 38 = .ok (.ireturn, 1) := by decide +kernel
theorem dX7_mark_0 : decode cX7_mark 0 = .ok (.aload_n 0, 1) := by decide +kernel
theorem dX7_mark_1 : decode cX7_mark 1 = .ok (.iload_n 1, 1) := by decide +kernel
theorem dX7_mark_2 : decode cX7_mark 2 = .ok (.invokevirtual 56, 3) := by decide +kernel
theorem dX7_mark_5 : decode cX7_mark 5 = .ok (.ifCond .eq 14, 3) := by decide +kernel
theorem dX7_mark_8 : decode cX7_mark 8 = .ok (.iload_n 2, 1) := by decide +kernel
theorem dX7_mark_9 : decode cX7_mark 9 = .ok (.iconst 0, 1) := by decide +kernel
theorem dX7_mark_10 : decode cX7_mark 10 = .ok (.sipush 1000, 3) := by decide +kernel
theorem dX7_mark_13 : decode cX7_mark 13 = .ok (.invokestatic 25, 3) := by decide +kernel
theorem dX7_mark_16 : decode cX7_mark 16 = .ok (.ifCond .ne 6, 3) := by decide +kernel
theorem dX7_mark_19 : decode cX7_mark 19 = .ok (.ldc 51, 2) := by decide +kernel
theorem dX7_mark_21 : decode cX7_mark 21 = .ok (.ireturn, 1) := by decide +kernel
theorem dX7_mark_22 : decode cX7_mark 22 = .ok (.aload_n 0, 1) := by decide +kernel
theorem dX7_mark_23 : decode cX7_mark 23 = .ok (.invokevirtual 53, 3) := by decide +kernel
theorem dX7_mark_26 : decode cX7_mark 26 = .ok (.aload_n 0, 1) := by decide +kernel
theorem dX7_mark_27 : decode cX7_mark 27 = .ok (.iload_n 1, 1) := by decide +kernel
theorem dX7_mark_28 : decode cX7_mark 28 = .ok (.iconst 3, 1) := by decide +kernel
theorem dX7_mark_29 : decode cX7_mark 29 = .ok (.invokevirtual 34, 3) := by decide +kernel
theorem dX7_mark_32 : decode cX7_mark 32 = .ok (.istore_n 3, 1) := by decide +kernel
theorem dX7_mark_33 : decode cX7_mark 33 = .ok (.aload_n 0, 1) := by decide +kernel
theorem dX7_mark_34 : decode cX7_mark 34 = .ok (.iload_n 1, 1) := by decide +kernel
theorem dX7_mark_35 : decode cX7_mark 35 = .ok (.iconst 3, 1) := by decide +kernel
theorem dX7_mark_36 : decode cX7_mark 36 = .ok (.iload_n 2, 1) := by decide +kernel
theorem dX7_mark_37 : decode cX7_mark 37 = .ok (.invokevirtual 43, 3) := by decide +kernel
theorem dX7_mark_40 : decode cX7_mark 40 = .ok (.iload_n 3, 1) := by decide +kernel
theorem dX7_mark_41 : decode cX7_mark 41 = .ok (.ireturn, 1) := by decide +kernel
theorem dX7_bowlOf_0 : decode cX7_bowlOf 0 = .ok (.aload_n 0, 1) := by decide +kernel
theorem dX7_bowlOf_1 : decode cX7_bowlOf 1 = .ok (.iload_n 1, 1) := by decide +kernel
theorem dX7_bowlOf_2 : decode cX7_bowlOf 2 = .ok (.invokevirtual 56, 3) := by decide +kernel
theorem dX7_bowlOf_5 : decode cX7_bowlOf 5 = .ok (.ifCond .eq 13, 3) := by decide +kernel
theorem dX7_bowlOf_8 : decode cX7_bowlOf 8 = .ok (.iload_n 2, 1) := by decide +kernel
theorem dX7_bowlOf_9 : decode cX7_bowlOf 9 = .ok (.iconst 0, 1) := by decide +kernel
theorem dX7_bowlOf_10 : decode cX7_bowlOf 10 = .ok (.bipush 6, 2) := by decide +kernel
theorem dX7_bowlOf_12 : decode cX7_bowlOf 12 = .ok (.invokestatic 25, 3) := by decide +kernel
theorem dX7_bowlOf_15 : decode cX7_bowlOf 15 = .ok (.ifCond .ne 6, 3) := by decide +kernel
theorem dX7_bowlOf_18 : decode cX7_bowlOf 18 = .ok (.ldc 51, 2) := by decide +kernel
theorem dX7_bowlOf_20 : decode cX7_bowlOf 20 = .ok (.ireturn, 1) := by decide +kernel
theorem dX7_bowlOf_21 : decode cX7_bowlOf 21 = .ok (.aload_n 0, 1) := by decide +kernel
theorem dX7_bowlOf_22 : decode cX7_bowlOf 22 = .ok (.iload_n 1, 1) := by decide +kernel
theorem dX7_bowlOf_23 : decode cX7_bowlOf 23 = .ok (.iconst 3, 1) := by decide +kernel
theorem dX7_bowlOf_24 : decode cX7_bowlOf 24 = .ok (.invokevirtual 34, 3) := by decide +kernel
theorem dX7_bowlOf_27 : decode cX7_bowlOf 27 = .ok (.aload_n 0, 1) := by decide +kernel
theorem dX7_bowlOf_28 : decode cX7_bowlOf 28 = .ok (.iload_n 1, 1) := by decide +kernel
theorem dX7_bowlOf_29 : decode cX7_bowlOf 29 = .ok (.iconst 4, 1) := by decide +kernel
theorem dX7_bowlOf_30 : decode cX7_bowlOf 30 = .ok (.invokevirtual 34, 3) := by decide +kernel
theorem dX7_bowlOf_33 : decode cX7_bowlOf 33 = .ok (.if_icmp .ge 12, 3) := by decide +kernel
theorem dX7_bowlOf_36 : decode cX7_bowlOf 36 = .ok (.aload_n 0, 1) := by decide +kernel
theorem dX7_bowlOf_37 : decode cX7_bowlOf 37 = .ok (.iload_n 1, 1) := by decide +kernel
theorem dX7_bowlOf_38 : decode cX7_bowlOf 38 = .ok (.iconst 3, 1) := by decide +kernel
theorem dX7_bowlOf_39 : decode cX7_bowlOf 39 = .ok (.invokevirtual 34, 3) := by decide +kernel
theorem dX7_bowlOf_42 : decode cX7_bowlOf 42 = .ok (.goto 9, 3) := by decide +kernel
theorem dX7_bowlOf_45 : decode cX7_bowlOf 45 = .ok (.aload_n 0, 1) := by decide +kernel
theorem dX7_bowlOf_46 : decode cX7_bowlOf 46 = .ok (.iload_n 1, 1) := by decide +kernel
theorem dX7_bowlOf_47 : decode cX7_bowlOf 47 = .ok (.iconst 4, 1) := by decide +kernel
theorem dX7_bowlOf_48 : decode cX7_bowlOf 48 = .ok (.invokevirtual 34, 3) := by decide +kernel
theorem dX7_bowlOf_51 : decode cX7_bowlOf 51 = .ok (.istore_n 3, 1) := by decide +kernel
theorem dX7_bowlOf_52 : decode cX7_bowlOf 52 = .ok (.iload_n 2, 1) := by decide +kernel
theorem dX7_bowlOf_53 : decode cX7_bowlOf 53 = .ok (.iconst 5, 1) := by decide +kernel
theorem dX7_bowlOf_54 : decode cX7_bowlOf 54 = .ok (.if_icmp .ge 12, 3) := by decide +kernel
theorem dX7_bowlOf_57 : decode cX7_bowlOf 57 = .ok (.aload_n 0, 1) := by decide +kernel
theorem dX7_bowlOf_58 : decode cX7_bowlOf 58 = .ok (.iload_n 1, 1) := by decide +kernel
theorem dX7_bowlOf_59 : decode cX7_bowlOf 59 = .ok (.iload_n 2, 1) := by decide +kernel
theorem dX7_bowlOf_60 : decode cX7_bowlOf 60 = .ok (.invokevirtual 34, 3) := by decide +kernel
theorem dX7_bowlOf_63 : decode cX7_bowlOf 63 = .ok (.goto 22, 3) := by decide +kernel
theorem dX7_bowlOf_66 : decode cX7_bowlOf 66 = .ok (.iload_n 2, 1) := by decide +kernel
theorem dX7_bowlOf_67 : decode cX7_bowlOf 67 = .ok (.iconst 5, 1) := by decide +kernel
theorem dX7_bowlOf_68 : decode cX7_bowlOf 68 = .ok (.if_icmp .ne 11, 3) := by decide +kernel
theorem dX7_bowlOf_71 : decode cX7_bowlOf 71 = .ok (.aload_n 0, 1) := by decide +kernel
theorem dX7_bowlOf_72 : decode cX7_bowlOf 72 = .ok (.iload_n 1, 1) := by decide +kernel
theorem dX7_bowlOf_73 : decode cX7_bowlOf 73 = .ok (.invokevirtual 64, 3) := by decide +kernel
theorem dX7_bowlOf_76 : decode cX7_bowlOf 76 = .ok (.goto 9, 3) := by decide +kernel
theorem dX7_bowlOf_79 : decode cX7_bowlOf 79 = .ok (.aload_n 0, 1) := by decide +kernel
theorem dX7_bowlOf_80 : decode cX7_bowlOf 80 = .ok (.iload_n 1, 1) := by decide +kernel
theorem dX7_bowlOf_81 : decode cX7_bowlOf 81 = .ok (.iload_n 3, 1) := by decide +kernel
theorem dX7_bowlOf_82 : decode cX7_bowlOf 82 = .ok (.invokevirtual 40, 3) := by decide +kernel
theorem dX7_bowlOf_85 : decode cX7_bowlOf 85 = .ok (.ireturn, 1) := by decide +kernel
theorem dX7_levelFor_0 : decode cX7_levelFor 0 = .ok (.aload_n 0, 1) := by decide +kernel
theorem dX7_levelFor_1 : decode cX7_levelFor 1 = .ok (.iload_n 1, 1) := by decide +kernel
theorem dX7_levelFor_2 : decode cX7_levelFor 2 = .ok (.invokevirtual 56, 3) := by decide +kernel
theorem dX7_levelFor_5 : decode cX7_levelFor 5 = .ok (.ifCond .eq 16, 3) := by decide +kernel
theorem dX7_levelFor_8 : decode cX7_levelFor 8 = .ok (.iload_n 2, 1) := by decide +kernel
theorem dX7_levelFor_9 : decode cX7_levelFor 9 = .ok (.sipush (-3000), 3) := by decide +kernel
theorem dX7_levelFor_12 : decode cX7_levelFor 12 = .ok (.sipush 6000, 3) := by decide +kernel
theorem dX7_levelFor_15 : decode cX7_levelFor 15 = .ok (.invokestatic 25, 3) := by decide +kernel
theorem dX7_levelFor_18 : decode cX7_levelFor 18 = .ok (.ifCond .ne 6, 3) := by decide +kernel
theorem dX7_levelFor_21 : decode cX7_levelFor 21 = .ok (.ldc 51, 2) := by decide +kernel
theorem dX7_levelFor_23 : decode cX7_levelFor 23 = .ok (.ireturn, 1) := by decide +kernel
theorem dX7_levelFor_24 : decode cX7_levelFor 24 = .ok (.iconst 0, 1) := by decide +kernel
theorem dX7_levelFor_25 : decode cX7_levelFor 25 = .ok (.istore_n 3, 1) := by decide +kernel
theorem dX7_levelFor_26 : decode cX7_levelFor 26 = .ok (.iconst 1, 1) := by decide +kernel
theorem dX7_levelFor_27 : decode cX7_levelFor 27 = .ok (.istore 4, 2) := by decide +kernel
theorem dX7_levelFor_29 : decode cX7_levelFor 29 = .ok (.iload 4, 2) := by decide +kernel
theorem dX7_levelFor_31 : decode cX7_levelFor 31 = .ok (.aload_n 0, 1) := by decide +kernel
theorem dX7_levelFor_32 : decode cX7_levelFor 32 = .ok (.iload_n 1, 1) := by decide +kernel
theorem dX7_levelFor_33 : decode cX7_levelFor 33 = .ok (.iconst 4, 1) := by decide +kernel
theorem dX7_levelFor_34 : decode cX7_levelFor 34 = .ok (.invokevirtual 34, 3) := by decide +kernel
theorem dX7_levelFor_37 : decode cX7_levelFor 37 = .ok (.if_icmp .gt 42, 3) := by decide +kernel
theorem dX7_levelFor_40 : decode cX7_levelFor 40 = .ok (.aload_n 0, 1) := by decide +kernel
theorem dX7_levelFor_41 : decode cX7_levelFor 41 = .ok (.iload_n 1, 1) := by decide +kernel
theorem dX7_levelFor_42 : decode cX7_levelFor 42 = .ok (.iload 4, 2) := by decide +kernel
theorem dX7_levelFor_44 : decode cX7_levelFor 44 = .ok (.invokevirtual 40, 3) := by decide +kernel
theorem dX7_levelFor_47 : decode cX7_levelFor 47 = .ok (.iload_n 2, 1) := by decide +kernel
theorem dX7_levelFor_48 : decode cX7_levelFor 48 = .ok (.isub, 1) := by decide +kernel
theorem dX7_levelFor_49 : decode cX7_levelFor 49 = .ok (.invokestatic 67, 3) := by decide +kernel
theorem dX7_levelFor_52 : decode cX7_levelFor 52 = .ok (.aload_n 0, 1) := by decide +kernel
theorem dX7_levelFor_53 : decode cX7_levelFor 53 = .ok (.iload_n 1, 1) := by decide +kernel
theorem dX7_levelFor_54 : decode cX7_levelFor 54 = .ok (.iload_n 3, 1) := by decide +kernel
theorem dX7_levelFor_55 : decode cX7_levelFor 55 = .ok (.invokevirtual 40, 3) := by decide +kernel
theorem dX7_levelFor_58 : decode cX7_levelFor 58 = .ok (.iload_n 2, 1) := by decide +kernel
theorem dX7_levelFor_59 : decode cX7_levelFor 59 = .ok (.isub, 1) := by decide +kernel
theorem dX7_levelFor_60 : decode cX7_levelFor 60 = .ok (.invokestatic 67, 3) := by decide +kernel
theorem dX7_levelFor_63 : decode cX7_levelFor 63 = .ok (.if_icmp .ge 8, 3) := by decide +kernel
theorem dX7_levelFor_66 : decode cX7_levelFor 66 = .ok (.iload 4, 2) := by decide +kernel
theorem dX7_levelFor_68 : decode cX7_levelFor 68 = .ok (.goto 4, 3) := by decide +kernel
theorem dX7_levelFor_71 : decode cX7_levelFor 71 = .ok (.iload_n 3, 1) := by decide +kernel
theorem dX7_levelFor_72 : decode cX7_levelFor 72 = .ok (.istore_n 3, 1) := by decide +kernel
theorem dX7_levelFor_73 : decode cX7_levelFor 73 = .ok (.iinc 4 1, 3) := by decide +kernel
theorem dX7_levelFor_76 : decode cX7_levelFor 76 = .ok (.goto (-47), 3) := by decide +kernel
theorem dX7_levelFor_79 : decode cX7_levelFor 79 = .ok (.iload_n 3, 1) := by decide +kernel
theorem dX7_levelFor_80 : decode cX7_levelFor 80 = .ok (.ireturn, 1) := by decide +kernel
theorem dX7_sounds_0 : decode cX7_sounds 0 = .ok (.iconst (-1), 1) := by decide +kernel
theorem dX7_sounds_1 : decode cX7_sounds 1 = .ok (.istore_n 2, 1) := by decide +kernel
theorem dX7_sounds_2 : decode cX7_sounds 2 = .ok (.iconst 0, 1) := by decide +kernel
theorem dX7_sounds_3 : decode cX7_sounds 3 = .ok (.istore_n 3, 1) := by decide +kernel
theorem dX7_sounds_4 : decode cX7_sounds 4 = .ok (.iload_n 3, 1) := by decide +kernel
theorem dX7_sounds_5 : decode cX7_sounds 5 = .ok (.aload_n 0, 1) := by decide +kernel
theorem dX7_sounds_6 : decode cX7_sounds 6 = .ok (.getfield 7, 3) := by decide +kernel
theorem dX7_sounds_9 : decode cX7_sounds 9 = .ok (.iconst 1, 1) := by decide +kernel
theorem dX7_sounds_10 : decode cX7_sounds 10 = .ok (.iaload, 1) := by decide +kernel
theorem dX7_sounds_11 : decode cX7_sounds 11 = .ok (.if_icmp .ge 43, 3) := by decide +kernel
theorem dX7_sounds_14 : decode cX7_sounds 14 = .ok (.iload_n 2, 1) := by decide +kernel
theorem dX7_sounds_15 : decode cX7_sounds 15 = .ok (.iconst (-1), 1) := by decide +kernel
theorem dX7_sounds_16 : decode cX7_sounds 16 = .ok (.if_icmp .eq 26, 3) := by decide +kernel
theorem dX7_sounds_19 : decode cX7_sounds 19 = .ok (.aload_n 0, 1) := by decide +kernel
theorem dX7_sounds_20 : decode cX7_sounds 20 = .ok (.iload_n 3, 1) := by decide +kernel
theorem dX7_sounds_21 : decode cX7_sounds 21 = .ok (.invokevirtual 64, 3) := by decide +kernel
theorem dX7_sounds_24 : decode cX7_sounds 24 = .ok (.iload_n 1, 1) := by decide +kernel
theorem dX7_sounds_25 : decode cX7_sounds 25 = .ok (.isub, 1) := by decide +kernel
theorem dX7_sounds_26 : decode cX7_sounds 26 = .ok (.invokestatic 67, 3) := by decide +kernel
theorem dX7_sounds_29 : decode cX7_sounds 29 = .ok (.aload_n 0, 1) := by decide +kernel
theorem dX7_sounds_30 : decode cX7_sounds 30 = .ok (.iload_n 2, 1) := by decide +kernel
theorem dX7_sounds_31 : decode cX7_sounds 31 = .ok (.invokevirtual 64, 3) := by decide +kernel
theorem dX7_sounds_34 : decode cX7_sounds 34 = .ok (.iload_n 1, 1) := by decide +kernel
theorem dX7_sounds_35 : decode cX7_sounds 35 = .ok (.isub, 1) := by decide +kernel
theorem dX7_sounds_36 : decode cX7_sounds 36 = .ok (.invokestatic 67, 3) := by decide +kernel
theorem dX7_sounds_39 : decode cX7_sounds 39 = .ok (.if_icmp .ge 7, 3) := by decide +kernel
theorem dX7_sounds_42 : decode cX7_sounds 42 = .ok (.iload_n 3, 1) := by decide +kernel
theorem dX7_sounds_43 : decode cX7_sounds 43 = .ok (.goto 4, 3) := by decide +kernel
theorem dX7_sounds_46 : decode cX7_sounds 46 = .ok (.iload_n 2, 1) := by decide +kernel
theorem dX7_sounds_47 : decode cX7_sounds 47 = .ok (.istore_n 2, 1) := by decide +kernel
theorem dX7_sounds_48 : decode cX7_sounds 48 = .ok (.iinc 3 1, 3) := by decide +kernel
theorem dX7_sounds_51 : decode cX7_sounds 51 = .ok (.goto (-47), 3) := by decide +kernel
theorem dX7_sounds_54 : decode cX7_sounds 54 = .ok (.iload_n 2, 1) := by decide +kernel
theorem dX7_sounds_55 : decode cX7_sounds 55 = .ok (.ireturn, 1) := by decide +kernel
theorem dX7_nearest_0 : decode cX7_nearest 0 = .ok (.iload_n 1, 1) := by decide +kernel
theorem dX7_nearest_1 : decode cX7_nearest 1 = .ok (.iconst 0, 1) := by decide +kernel
theorem dX7_nearest_2 : decode cX7_nearest 2 = .ok (.sipush 6000, 3) := by decide +kernel
theorem dX7_nearest_5 : decode cX7_nearest 5 = .ok (.invokestatic 25, 3) := by decide +kernel
theorem dX7_nearest_8 : decode cX7_nearest 8 = .ok (.ifCond .ne 6, 3) := by decide +kernel
theorem dX7_nearest_11 : decode cX7_nearest 11 = .ok (.ldc 51, 2) := by decide +kernel
theorem dX7_nearest_13 : decode cX7_nearest 13 = .ok (.ireturn, 1) := by decide +kernel
theorem dX7_nearest_14 : decode cX7_nearest 14 = .ok (.aload_n 0, 1) := by decide +kernel
theorem dX7_nearest_15 : decode cX7_nearest 15 = .ok (.getfield 7, 3) := by decide +kernel
theorem dX7_nearest_18 : decode cX7_nearest 18 = .ok (.iconst 1, 1) := by decide +kernel
theorem dX7_nearest_19 : decode cX7_nearest 19 = .ok (.iaload, 1) := by decide +kernel
theorem dX7_nearest_20 : decode cX7_nearest 20 = .ok (.ifCond .ne 8, 3) := by decide +kernel
theorem dX7_nearest_23 : decode cX7_nearest 23 = .ok (.ldc 70, 2) := by decide +kernel
theorem dX7_nearest_25 : decode cX7_nearest 25 = .ok (.goto 8, 3) := by decide +kernel
theorem dX7_nearest_28 : decode cX7_nearest 28 = .ok (.aload_n 0, 1) := by decide +kernel
theorem dX7_nearest_29 : decode cX7_nearest 29 = .ok (.iload_n 1, 1) := by decide +kernel
theorem dX7_nearest_30 : decode cX7_nearest 30 = .ok (.invokevirtual 71, 3) := by decide +kernel
theorem dX7_nearest_33 : decode cX7_nearest 33 = .ok (.ireturn, 1) := by decide +kernel
theorem dX7_canBe_0 : decode cX7_canBe 0 = .ok (.iload_n 0, 1) := by decide +kernel
theorem dX7_canBe_1 : decode cX7_canBe 1 = .ok (.ifCond .eq 8, 3) := by decide +kernel
theorem dX7_canBe_4 : decode cX7_canBe 4 = .ok (.iload_n 0, 1) := by decide +kernel
theorem dX7_canBe_5 : decode cX7_canBe 5 = .ok (.iconst 1, 1) := by decide +kernel
theorem dX7_canBe_6 : decode cX7_canBe 6 = .ok (.if_icmp .ne 14, 3) := by decide +kernel
theorem dX7_canBe_9 : decode cX7_canBe 9 = .ok (.iload_n 1, 1) := by decide +kernel
theorem dX7_canBe_10 : decode cX7_canBe 10 = .ok (.iconst 1, 1) := by decide +kernel
theorem dX7_canBe_11 : decode cX7_canBe 11 = .ok (.sipush 600, 3) := by decide +kernel
theorem dX7_canBe_14 : decode cX7_canBe 14 = .ok (.invokestatic 25, 3) := by decide +kernel
theorem dX7_canBe_17 : decode cX7_canBe 17 = .ok (.goto 38, 3) := by decide +kernel
theorem dX7_canBe_20 : decode cX7_canBe 20 = .ok (.iload_n 0, 1) := by decide +kernel
theorem dX7_canBe_21 : decode cX7_canBe 21 = .ok (.iconst 2, 1) := by decide +kernel
theorem dX7_canBe_22 : decode cX7_canBe 22 = .ok (.if_icmp .ne 14, 3) := by decide +kernel
theorem dX7_canBe_25 : decode cX7_canBe 25 = .ok (.iload_n 1, 1) := by decide +kernel
theorem dX7_canBe_26 : decode cX7_canBe 26 = .ok (.iconst 0, 1) := by decide +kernel
theorem dX7_canBe_27 : decode cX7_canBe 27 = .ok (.sipush 600, 3) := by decide +kernel
theorem dX7_canBe_30 : decode cX7_canBe 30 = .ok (.invokestatic 25, 3) := by decide +kernel
theorem dX7_canBe_33 : decode cX7_canBe 33 = .ok (.goto 22, 3) := by decide +kernel
theorem dX7_canBe_36 : decode cX7_canBe 36 = .ok (.iload_n 0, 1) := by decide +kernel
theorem dX7_canBe_37 : decode cX7_canBe 37 = .ok (.iconst 3, 1) := by decide +kernel
theorem dX7_canBe_38 : decode cX7_canBe 38 = .ok (.if_icmp .ne 16, 3) := by decide +kernel
theorem dX7_canBe_41 : decode cX7_canBe 41 = .ok (.iload_n 1, 1) := by decide +kernel
theorem dX7_canBe_42 : decode cX7_canBe 42 = .ok (.iconst 0, 1) := by decide +kernel
theorem dX7_canBe_43 : decode cX7_canBe 43 = .ok (.iconst 1, 1) := by decide +kernel
theorem dX7_canBe_44 : decode cX7_canBe 44 = .ok (.invokestatic 25, 3) := by decide +kernel
theorem dX7_canBe_47 : decode cX7_canBe 47 = .ok (.ifCond .eq 7, 3) := by decide +kernel
theorem dX7_canBe_50 : decode cX7_canBe 50 = .ok (.iconst 1, 1) := by decide +kernel
theorem dX7_canBe_51 : decode cX7_canBe 51 = .ok (.goto 4, 3) := by decide +kernel
theorem dX7_canBe_54 : decode cX7_canBe 54 = .ok (.iconst 0, 1) := by decide +kernel
theorem dX7_canBe_55 : decode cX7_canBe 55 = .ok (.ireturn, 1) := by decide +kernel
theorem dX7_set_0 : decode cX7_set 0 = .ok (.iload_n 1, 1) := by decide +kernel
theorem dX7_set_1 : decode cX7_set 1 = .ok (.iload_n 2, 1) := by decide +kernel
theorem dX7_set_2 : decode cX7_set 2 = .ok (.invokestatic 74, 3) := by decide +kernel
theorem dX7_set_5 : decode cX7_set 5 = .ok (.ifCond .ne 6, 3) := by decide +kernel
theorem dX7_set_8 : decode cX7_set 8 = .ok (.ldc 51, 2) := by decide +kernel
theorem dX7_set_10 : decode cX7_set 10 = .ok (.ireturn, 1) := by decide +kernel
theorem dX7_set_11 : decode cX7_set 11 = .ok (.aload_n 0, 1) := by decide +kernel
theorem dX7_set_12 : decode cX7_set 12 = .ok (.invokevirtual 53, 3) := by decide +kernel
theorem dX7_set_15 : decode cX7_set 15 = .ok (.aload_n 0, 1) := by decide +kernel
theorem dX7_set_16 : decode cX7_set 16 = .ok (.iload_n 1, 1) := by decide +kernel
theorem dX7_set_17 : decode cX7_set 17 = .ok (.invokevirtual 78, 3) := by decide +kernel
theorem dX7_set_20 : decode cX7_set 20 = .ok (.istore_n 3, 1) := by decide +kernel
theorem dX7_set_21 : decode cX7_set 21 = .ok (.aload_n 0, 1) := by decide +kernel
theorem dX7_set_22 : decode cX7_set 22 = .ok (.getfield 7, 3) := by decide +kernel
theorem dX7_set_25 : decode cX7_set 25 = .ok (.bipush 7, 2) := by decide +kernel
theorem dX7_set_27 : decode cX7_set 27 = .ok (.iload_n 1, 1) := by decide +kernel
theorem dX7_set_28 : decode cX7_set 28 = .ok (.iadd, 1) := by decide +kernel
theorem dX7_set_29 : decode cX7_set 29 = .ok (.iload_n 2, 1) := by decide +kernel
theorem dX7_set_30 : decode cX7_set 30 = .ok (.iastore, 1) := by decide +kernel
theorem dX7_set_31 : decode cX7_set 31 = .ok (.iload_n 3, 1) := by decide +kernel
theorem dX7_set_32 : decode cX7_set 32 = .ok (.ireturn, 1) := by decide +kernel
theorem dX7_water_0 : decode cX7_water 0 = .ok (.iconst 0, 1) := by decide +kernel
theorem dX7_water_1 : decode cX7_water 1 = .ok (.istore_n 1, 1) := by decide +kernel
theorem dX7_water_2 : decode cX7_water 2 = .ok (.iconst 0, 1) := by decide +kernel
theorem dX7_water_3 : decode cX7_water 3 = .ok (.istore_n 2, 1) := by decide +kernel
theorem dX7_water_4 : decode cX7_water 4 = .ok (.iload_n 2, 1) := by decide +kernel
theorem dX7_water_5 : decode cX7_water 5 = .ok (.aload_n 0, 1) := by decide +kernel
theorem dX7_water_6 : decode cX7_water 6 = .ok (.getfield 7, 3) := by decide +kernel
theorem dX7_water_9 : decode cX7_water 9 = .ok (.iconst 1, 1) := by decide +kernel
theorem dX7_water_10 : decode cX7_water 10 = .ok (.iaload, 1) := by decide +kernel
theorem dX7_water_11 : decode cX7_water 11 = .ok (.if_icmp .ge 18, 3) := by decide +kernel
theorem dX7_water_14 : decode cX7_water 14 = .ok (.iload_n 1, 1) := by decide +kernel
theorem dX7_water_15 : decode cX7_water 15 = .ok (.aload_n 0, 1) := by decide +kernel
theorem dX7_water_16 : decode cX7_water 16 = .ok (.iload_n 2, 1) := by decide +kernel
theorem dX7_water_17 : decode cX7_water 17 = .ok (.iconst 2, 1) := by decide +kernel
theorem dX7_water_18 : decode cX7_water 18 = .ok (.invokevirtual 34, 3) := by decide +kernel
theorem dX7_water_21 : decode cX7_water 21 = .ok (.iadd, 1) := by decide +kernel
theorem dX7_water_22 : decode cX7_water 22 = .ok (.istore_n 1, 1) := by decide +kernel
theorem dX7_water_23 : decode cX7_water 23 = .ok (.iinc 2 1, 3) := by decide +kernel
theorem dX7_water_26 : decode cX7_water 26 = .ok (.goto (-22), 3) := by decide +kernel
theorem dX7_water_29 : decode cX7_water 29 = .ok (.iload_n 1, 1) := by decide +kernel
theorem dX7_water_30 : decode cX7_water 30 = .ok (.ireturn, 1) := by decide +kernel
theorem dX7_notesThat_0 : decode cX7_notesThat 0 = .ok (.iconst 0, 1) := by decide +kernel
theorem dX7_notesThat_1 : decode cX7_notesThat 1 = .ok (.istore_n 2, 1) := by decide +kernel
theorem dX7_notesThat_2 : decode cX7_notesThat 2 = .ok (.iconst 0, 1) := by decide +kernel
theorem dX7_notesThat_3 : decode cX7_notesThat 3 = .ok (.istore_n 3, 1) := by decide +kernel
theorem dX7_notesThat_4 : decode cX7_notesThat 4 = .ok (.iload_n 3, 1) := by decide +kernel
theorem dX7_notesThat_5 : decode cX7_notesThat 5 = .ok (.aload_n 0, 1) := by decide +kernel
theorem dX7_notesThat_6 : decode cX7_notesThat 6 = .ok (.getfield 7, 3) := by decide +kernel
theorem dX7_notesThat_9 : decode cX7_notesThat 9 = .ok (.iconst 2, 1) := by decide +kernel
theorem dX7_notesThat_10 : decode cX7_notesThat 10 = .ok (.iaload, 1) := by decide +kernel
theorem dX7_notesThat_11 : decode cX7_notesThat 11 = .ok (.if_icmp .ge 85, 3) := by decide +kernel
theorem dX7_notesThat_14 : decode cX7_notesThat 14 = .ok (.aload_n 0, 1) := by decide +kernel
theorem dX7_notesThat_15 : decode cX7_notesThat 15 = .ok (.iload_n 3, 1) := by decide +kernel
theorem dX7_notesThat_16 : decode cX7_notesThat 16 = .ok (.iconst 2, 1) := by decide +kernel
theorem dX7_notesThat_17 : decode cX7_notesThat 17 = .ok (.invokevirtual 81, 3) := by decide +kernel
theorem dX7_notesThat_20 : decode cX7_notesThat 20 = .ok (.iconst 1, 1) := by decide +kernel
theorem dX7_notesThat_21 : decode cX7_notesThat 21 = .ok (.if_icmp .ne 7, 3) := by decide +kernel
theorem dX7_notesThat_24 : decode cX7_notesThat 24 = .ok (.iconst 1, 1) := by decide +kernel
theorem dX7_notesThat_25 : decode cX7_notesThat 25 = .ok (.goto 4, 3) := by decide +kernel
theorem dX7_notesThat_28 : decode cX7_notesThat 28 = .ok (.iconst 0, 1) := by decide +kernel
theorem dX7_notesThat_29 : decode cX7_notesThat 29 = .ok (.istore 4, 2) := by decide +kernel
theorem dX7_notesThat_31 : decode cX7_notesThat 31 = .ok (.iload_n 2, 1) := by decide +kernel
theorem dX7_notesThat_32 : decode cX7_notesThat 32 = .ok (.iload_n 1, 1) := by decide +kernel
theorem dX7_notesThat_33 : decode cX7_notesThat 33 = .ok (.iconst 4, 1) := by decide +kernel
theorem dX7_notesThat_34 : decode cX7_notesThat 34 = .ok (.if_icmp .ne 8, 3) := by decide +kernel
theorem dX7_notesThat_37 : decode cX7_notesThat 37 = .ok (.iload 4, 2) := by decide +kernel
theorem dX7_notesThat_39 : decode cX7_notesThat 39 = .ok (.ifCond .ne 44, 3) := by decide +kernel
theorem dX7_notesThat_42 : decode cX7_notesThat 42 = .ok (.iload_n 1, 1) := by decide +kernel
theorem dX7_notesThat_43 : decode cX7_notesThat 43 = .ok (.iconst 5, 1) := by decide +kernel
theorem dX7_notesThat_44 : decode cX7_notesThat 44 = .ok (.if_icmp .ne 18, 3) := by decide +kernel
theorem dX7_notesThat_47 : decode cX7_notesThat 47 = .ok (.iload 4, 2) := by decide +kernel
theorem dX7_notesThat_49 : decode cX7_notesThat 49 = .ok (.ifCond .eq 13, 3) := by decide +kernel
theorem dX7_notesThat_52 : decode cX7_notesThat 52 = .ok (.aload_n 0, 1) := by decide +kernel
theorem dX7_notesThat_53 : decode cX7_notesThat 53 = .ok (.iload_n 3, 1) := by decide +kernel
theorem dX7_notesThat_54 : decode cX7_notesThat 54 = .ok (.iconst 5, 1) := by decide +kernel
theorem dX7_notesThat_55 : decode cX7_notesThat 55 = .ok (.invokevirtual 81, 3) := by decide +kernel
theorem dX7_notesThat_58 : decode cX7_notesThat 58 = .ok (.iconst 1, 1) := by decide +kernel
theorem dX7_notesThat_59 : decode cX7_notesThat 59 = .ok (.if_icmp .eq 24, 3) := by decide +kernel
theorem dX7_notesThat_62 : decode cX7_notesThat 62 = .ok (.iload_n 1, 1) := by decide +kernel
theorem dX7_notesThat_63 : decode cX7_notesThat 63 = .ok (.bipush 6, 2) := by decide +kernel
theorem dX7_notesThat_65 : decode cX7_notesThat 65 = .ok (.if_icmp .ne 22, 3) := by decide +kernel
theorem dX7_notesThat_68 : decode cX7_notesThat 68 = .ok (.iload 4, 2) := by decide +kernel
theorem dX7_notesThat_70 : decode cX7_notesThat 70 = .ok (.ifCond .eq 17, 3) := by decide +kernel
theorem dX7_notesThat_73 : decode cX7_notesThat 73 = .ok (.aload_n 0, 1) := by decide +kernel
theorem dX7_notesThat_74 : decode cX7_notesThat 74 = .ok (.iload_n 3, 1) := by decide +kernel
theorem dX7_notesThat_75 : decode cX7_notesThat 75 = .ok (.iconst 3, 1) := by decide +kernel
theorem dX7_notesThat_76 : decode cX7_notesThat 76 = .ok (.invokevirtual 81, 3) := by decide +kernel
theorem dX7_notesThat_79 : decode cX7_notesThat 79 = .ok (.iconst (-1), 1) := by decide +kernel
theorem dX7_notesThat_80 : decode cX7_notesThat 80 = .ok (.if_icmp .ne 7, 3) := by decide +kernel
theorem dX7_notesThat_83 : decode cX7_notesThat 83 = .ok (.iconst 1, 1) := by decide +kernel
theorem dX7_notesThat_84 : decode cX7_notesThat 84 = .ok (.goto 4, 3) := by decide +kernel
theorem dX7_notesThat_87 : decode cX7_notesThat 87 = .ok (.iconst 0, 1) := by decide +kernel
theorem dX7_notesThat_88 : decode cX7_notesThat 88 = .ok (.iadd, 1) := by decide +kernel
theorem dX7_notesThat_89 : decode cX7_notesThat 89 = .ok (.istore_n 2, 1) := by decide +kernel
theorem dX7_notesThat_90 : decode cX7_notesThat 90 = .ok (.iinc 3 1, 3) := by decide +kernel
theorem dX7_notesThat_93 : decode cX7_notesThat 93 = .ok (.goto (-89), 3) := by decide +kernel
theorem dX7_notesThat_96 : decode cX7_notesThat 96 = .ok (.iload_n 2, 1) := by decide +kernel
theorem dX7_notesThat_97 : decode cX7_notesThat 97 = .ok (.ireturn, 1) := by decide +kernel
theorem dX7_count_0 : decode cX7_count 0 = .ok (.iload_n 1, 1) := by decide +kernel
theorem dX7_count_1 : decode cX7_count 1 = .ok (.tableswitch 204 0 24 #[115, 122, 129, 136, 164, 164, 164, 170, 175, 204, 204, 204, 204, 204, 204, 204, 204, 204, 204, 204, 180, 187, 192, 192, 192], 115) := by decide +kernel
theorem dX7_count_116 : decode cX7_count 116 = .ok (.aload_n 0, 1) := by decide +kernel
theorem dX7_count_117 : decode cX7_count 117 = .ok (.getfield 7, 3) := by decide +kernel
theorem dX7_count_120 : decode cX7_count 120 = .ok (.iconst 0, 1) := by decide +kernel
theorem dX7_count_121 : decode cX7_count 121 = .ok (.iaload, 1) := by decide +kernel
theorem dX7_count_122 : decode cX7_count 122 = .ok (.ireturn, 1) := by decide +kernel
theorem dX7_count_123 : decode cX7_count 123 = .ok (.aload_n 0, 1) := by decide +kernel
theorem dX7_count_124 : decode cX7_count 124 = .ok (.getfield 7, 3) := by decide +kernel
theorem dX7_count_127 : decode cX7_count 127 = .ok (.iconst 1, 1) := by decide +kernel
theorem dX7_count_128 : decode cX7_count 128 = .ok (.iaload, 1) := by decide +kernel
theorem dX7_count_129 : decode cX7_count 129 = .ok (.ireturn, 1) := by decide +kernel
theorem dX7_count_130 : decode cX7_count 130 = .ok (.aload_n 0, 1) := by decide +kernel
theorem dX7_count_131 : decode cX7_count 131 = .ok (.getfield 7, 3) := by decide +kernel
theorem dX7_count_134 : decode cX7_count 134 = .ok (.iconst 2, 1) := by decide +kernel
theorem dX7_count_135 : decode cX7_count 135 = .ok (.iaload, 1) := by decide +kernel
theorem dX7_count_136 : decode cX7_count 136 = .ok (.ireturn, 1) := by decide +kernel
theorem dX7_count_137 : decode cX7_count 137 = .ok (.aload_n 0, 1) := by decide +kernel
theorem dX7_count_138 : decode cX7_count 138 = .ok (.getfield 7, 3) := by decide +kernel
theorem dX7_count_141 : decode cX7_count 141 = .ok (.iconst 2, 1) := by decide +kernel
theorem dX7_count_142 : decode cX7_count 142 = .ok (.iaload, 1) := by decide +kernel
theorem dX7_count_143 : decode cX7_count 143 = .ok (.ifCond .ne 7, 3) := by decide +kernel
theorem dX7_count_146 : decode cX7_count 146 = .ok (.iconst 0, 1) := by decide +kernel
theorem dX7_count_147 : decode cX7_count 147 = .ok (.goto 17, 3) := by decide +kernel
theorem dX7_count_150 : decode cX7_count 150 = .ok (.aload_n 0, 1) := by decide +kernel
theorem dX7_count_151 : decode cX7_count 151 = .ok (.aload_n 0, 1) := by decide +kernel
theorem dX7_count_152 : decode cX7_count 152 = .ok (.getfield 7, 3) := by decide +kernel
theorem dX7_count_155 : decode cX7_count 155 = .ok (.iconst 2, 1) := by decide +kernel
theorem dX7_count_156 : decode cX7_count 156 = .ok (.iaload, 1) := by decide +kernel
theorem dX7_count_157 : decode cX7_count 157 = .ok (.iconst 1, 1) := by decide +kernel
theorem dX7_count_158 : decode cX7_count 158 = .ok (.isub, 1) := by decide +kernel
theorem dX7_count_159 : decode cX7_count 159 = .ok (.invokevirtual 84, 3) := by decide +kernel
theorem dX7_count_162 : decode cX7_count 162 = .ok (.iconst 1, 1) := by decide +kernel
theorem dX7_count_163 : decode cX7_count 163 = .ok (.iadd, 1) := by decide +kernel
theorem dX7_count_164 : decode cX7_count 164 = .ok (.ireturn, 1) := by decide +kernel
theorem dX7_count_165 : decode cX7_count 165 = .ok (.aload_n 0, 1) := by decide +kernel
theorem dX7_count_166 : decode cX7_count 166 = .ok (.iload_n 1, 1) := by decide +kernel
theorem dX7_count_167 : decode cX7_count 167 = .ok (.invokevirtual 87, 3) := by decide +kernel
theorem dX7_count_170 : decode cX7_count 170 = .ok (.ireturn, 1) := by decide +kernel
theorem dX7_count_171 : decode cX7_count 171 = .ok (.aload_n 0, 1) := by decide +kernel
theorem dX7_count_172 : decode cX7_count 172 = .ok (.getfield 29, 3) := by decide +kernel
theorem dX7_count_175 : decode cX7_count 175 = .ok (.ireturn, 1) := by decide +kernel
theorem dX7_count_176 : decode cX7_count 176 = .ok (.aload_n 0, 1) := by decide +kernel
theorem dX7_count_177 : decode cX7_count 177 = .ok (.getfield 90, 3) := by decide +kernel
theorem dX7_count_180 : decode cX7_count 180 = .ok (.ireturn, 1) := by decide +kernel
theorem dX7_count_181 : decode cX7_count 181 = .ok (.aload_n 0, 1) := by decide +kernel
theorem dX7_count_182 : decode cX7_count 182 = .ok (.getfield 7, 3) := by decide +kernel
theorem dX7_count_185 : decode cX7_count 185 = .ok (.iconst 3, 1) := by decide +kernel
theorem dX7_count_186 : decode cX7_count 186 = .ok (.iaload, 1) := by decide +kernel
theorem dX7_count_187 : decode cX7_count 187 = .ok (.ireturn, 1) := by decide +kernel
theorem dX7_count_188 : decode cX7_count 188 = .ok (.aload_n 0, 1) := by decide +kernel
theorem dX7_count_189 : decode cX7_count 189 = .ok (.invokevirtual 93, 3) := by decide +kernel
theorem dX7_count_192 : decode cX7_count 192 = .ok (.ireturn, 1) := by decide +kernel
theorem dX7_count_193 : decode cX7_count 193 = .ok (.aload_n 0, 1) := by decide +kernel
theorem dX7_count_194 : decode cX7_count 194 = .ok (.getfield 7, 3) := by decide +kernel
theorem dX7_count_197 : decode cX7_count 197 = .ok (.iconst 4, 1) := by decide +kernel
theorem dX7_count_198 : decode cX7_count 198 = .ok (.iload_n 1, 1) := by decide +kernel
theorem dX7_count_199 : decode cX7_count 199 = .ok (.iadd, 1) := by decide +kernel
theorem dX7_count_200 : decode cX7_count 200 = .ok (.bipush 22, 2) := by decide +kernel
theorem dX7_count_202 : decode cX7_count 202 = .ok (.isub, 1) := by decide +kernel
theorem dX7_count_203 : decode cX7_count 203 = .ok (.iaload, 1) := by decide +kernel
theorem dX7_count_204 : decode cX7_count 204 = .ok (.ireturn, 1) := by decide +kernel
theorem dX7_count_205 : decode cX7_count 205 = .ok (.iload_n 1, 1) := by decide +kernel
theorem dX7_count_206 : decode cX7_count 206 = .ok (.bipush 10, 2) := by decide +kernel
theorem dX7_count_208 : decode cX7_count 208 = .ok (.bipush 13, 2) := by decide +kernel
theorem dX7_count_210 : decode cX7_count 210 = .ok (.invokestatic 25, 3) := by decide +kernel
theorem dX7_count_213 : decode cX7_count 213 = .ok (.ifCond .eq 14, 3) := by decide +kernel
theorem dX7_count_216 : decode cX7_count 216 = .ok (.aload_n 0, 1) := by decide +kernel
theorem dX7_count_217 : decode cX7_count 217 = .ok (.iload_n 1, 1) := by decide +kernel
theorem dX7_count_218 : decode cX7_count 218 = .ok (.bipush 10, 2) := by decide +kernel
theorem dX7_count_220 : decode cX7_count 220 = .ok (.isub, 1) := by decide +kernel
theorem dX7_count_221 : decode cX7_count 221 = .ok (.invokevirtual 78, 3) := by decide +kernel
theorem dX7_count_224 : decode cX7_count 224 = .ok (.goto 5, 3) := by decide +kernel
theorem dX7_count_227 : decode cX7_count 227 = .ok (.ldc 51, 2) := by decide +kernel
theorem dX7_count_229 : decode cX7_count 229 = .ok (.ireturn, 1) := by decide +kernel
theorem dX7_begins_0 : decode cX7_begins 0 = .ok (.iload_n 1, 1) := by decide +kernel
theorem dX7_begins_1 : decode cX7_begins 1 = .ok (.ifCond .eq 26, 3) := by decide +kernel
theorem dX7_begins_4 : decode cX7_begins 4 = .ok (.aload_n 0, 1) := by decide +kernel
theorem dX7_begins_5 : decode cX7_begins 5 = .ok (.iload_n 1, 1) := by decide +kernel
theorem dX7_begins_6 : decode cX7_begins 6 = .ok (.iconst 0, 1) := by decide +kernel
theorem dX7_begins_7 : decode cX7_begins 7 = .ok (.invokevirtual 81, 3) := by decide +kernel
theorem dX7_begins_10 : decode cX7_begins 10 = .ok (.aload_n 0, 1) := by decide +kernel
theorem dX7_begins_11 : decode cX7_begins 11 = .ok (.iload_n 1, 1) := by decide +kernel
theorem dX7_begins_12 : decode cX7_begins 12 = .ok (.iconst 1, 1) := by decide +kernel
theorem dX7_begins_13 : decode cX7_begins 13 = .ok (.isub, 1) := by decide +kernel
theorem dX7_begins_14 : decode cX7_begins 14 = .ok (.iconst 0, 1) := by decide +kernel
theorem dX7_begins_15 : decode cX7_begins 15 = .ok (.invokevirtual 81, 3) := by decide +kernel
theorem dX7_begins_18 : decode cX7_begins 18 = .ok (.isub, 1) := by decide +kernel
theorem dX7_begins_19 : decode cX7_begins 19 = .ok (.aload_n 0, 1) := by decide +kernel
theorem dX7_begins_20 : decode cX7_begins 20 = .ok (.iconst 1, 1) := by decide +kernel
theorem dX7_begins_21 : decode cX7_begins 21 = .ok (.invokevirtual 78, 3) := by decide +kernel
theorem dX7_begins_24 : decode cX7_begins 24 = .ok (.if_icmp .lt 7, 3) := by decide +kernel
theorem dX7_begins_27 : decode cX7_begins 27 = .ok (.iconst 1, 1) := by decide +kernel
theorem dX7_begins_28 : decode cX7_begins 28 = .ok (.goto 4, 3) := by decide +kernel
theorem dX7_begins_31 : decode cX7_begins 31 = .ok (.iconst 0, 1) := by decide +kernel
theorem dX7_begins_32 : decode cX7_begins 32 = .ok (.ireturn, 1) := by decide +kernel
theorem dX7_phraseOf_0 : decode cX7_phraseOf 0 = .ok (.iconst 0, 1) := by decide +kernel
theorem dX7_phraseOf_1 : decode cX7_phraseOf 1 = .ok (.istore_n 2, 1) := by decide +kernel
theorem dX7_phraseOf_2 : decode cX7_phraseOf 2 = .ok (.iconst 0, 1) := by decide +kernel
theorem dX7_phraseOf_3 : decode cX7_phraseOf 3 = .ok (.istore_n 3, 1) := by decide +kernel
theorem dX7_phraseOf_4 : decode cX7_phraseOf 4 = .ok (.iload_n 3, 1) := by decide +kernel
theorem dX7_phraseOf_5 : decode cX7_phraseOf 5 = .ok (.iload_n 1, 1) := by decide +kernel
theorem dX7_phraseOf_6 : decode cX7_phraseOf 6 = .ok (.if_icmp .gt 25, 3) := by decide +kernel
theorem dX7_phraseOf_9 : decode cX7_phraseOf 9 = .ok (.iload_n 2, 1) := by decide +kernel
theorem dX7_phraseOf_10 : decode cX7_phraseOf 10 = .ok (.aload_n 0, 1) := by decide +kernel
theorem dX7_phraseOf_11 : decode cX7_phraseOf 11 = .ok (.iload_n 3, 1) := by decide +kernel
theorem dX7_phraseOf_12 : decode cX7_phraseOf 12 = .ok (.invokevirtual 97, 3) := by decide +kernel
theorem dX7_phraseOf_15 : decode cX7_phraseOf 15 = .ok (.ifCond .eq 7, 3) := by decide +kernel
theorem dX7_phraseOf_18 : decode cX7_phraseOf 18 = .ok (.iconst 1, 1) := by decide +kernel
theorem dX7_phraseOf_19 : decode cX7_phraseOf 19 = .ok (.goto 4, 3) := by decide +kernel
theorem dX7_phraseOf_22 : decode cX7_phraseOf 22 = .ok (.iconst 0, 1) := by decide +kernel
theorem dX7_phraseOf_23 : decode cX7_phraseOf 23 = .ok (.iadd, 1) := by decide +kernel
theorem dX7_phraseOf_24 : decode cX7_phraseOf 24 = .ok (.istore_n 2, 1) := by decide +kernel
theorem dX7_phraseOf_25 : decode cX7_phraseOf 25 = .ok (.iinc 3 1, 3) := by decide +kernel
theorem dX7_phraseOf_28 : decode cX7_phraseOf 28 = .ok (.goto (-24), 3) := by decide +kernel
theorem dX7_phraseOf_31 : decode cX7_phraseOf 31 = .ok (.iload_n 2, 1) := by decide +kernel
theorem dX7_phraseOf_32 : decode cX7_phraseOf 32 = .ok (.iconst 1, 1) := by decide +kernel
theorem dX7_phraseOf_33 : decode cX7_phraseOf 33 = .ok (.isub, 1) := by decide +kernel
theorem dX7_phraseOf_34 : decode cX7_phraseOf 34 = .ok (.ireturn, 1) := by decide +kernel
theorem dX7_noteAt_0 : decode cX7_noteAt 0 = .ok (.iconst 0, 1) := by decide +kernel
theorem dX7_noteAt_1 : decode cX7_noteAt 1 = .ok (.istore_n 2, 1) := by decide +kernel
theorem dX7_noteAt_2 : decode cX7_noteAt 2 = .ok (.iload_n 2, 1) := by decide +kernel
theorem dX7_noteAt_3 : decode cX7_noteAt 3 = .ok (.aload_n 0, 1) := by decide +kernel
theorem dX7_noteAt_4 : decode cX7_noteAt 4 = .ok (.getfield 7, 3) := by decide +kernel
theorem dX7_noteAt_7 : decode cX7_noteAt 7 = .ok (.iconst 2, 1) := by decide +kernel
theorem dX7_noteAt_8 : decode cX7_noteAt 8 = .ok (.iaload, 1) := by decide +kernel
theorem dX7_noteAt_9 : decode cX7_noteAt 9 = .ok (.if_icmp .ge 21, 3) := by decide +kernel
theorem dX7_noteAt_12 : decode cX7_noteAt 12 = .ok (.aload_n 0, 1) := by decide +kernel
theorem dX7_noteAt_13 : decode cX7_noteAt 13 = .ok (.iload_n 2, 1) := by decide +kernel
theorem dX7_noteAt_14 : decode cX7_noteAt 14 = .ok (.iconst 0, 1) := by decide +kernel
theorem dX7_noteAt_15 : decode cX7_noteAt 15 = .ok (.invokevirtual 81, 3) := by decide +kernel
theorem dX7_noteAt_18 : decode cX7_noteAt 18 = .ok (.iload_n 1, 1) := by decide +kernel
theorem dX7_noteAt_19 : decode cX7_noteAt 19 = .ok (.if_icmp .ne 5, 3) := by decide +kernel
theorem dX7_noteAt_22 : decode cX7_noteAt 22 = .ok (.iload_n 2, 1) := by decide +kernel
theorem dX7_noteAt_23 : decode cX7_noteAt 23 = .ok (.ireturn, 1) := by decide +kernel
theorem dX7_noteAt_24 : decode cX7_noteAt 24 = .ok (.iinc 2 1, 3) := by decide +kernel
theorem dX7_noteAt_27 : decode cX7_noteAt 27 = .ok (.goto (-25), 3) := by decide +kernel
theorem dX7_noteAt_30 : decode cX7_noteAt 30 = .ok (.iconst (-1), 1) := by decide +kernel
theorem dX7_noteAt_31 : decode cX7_noteAt 31 = .ok (.ireturn, 1) := by decide +kernel
theorem dX7_newNote_0 : decode cX7_newNote 0 = .ok (.aload_n 0, 1) := by decide +kernel
theorem dX7_newNote_1 : decode cX7_newNote 1 = .ok (.getfield 7, 3) := by decide +kernel
theorem dX7_newNote_4 : decode cX7_newNote 4 = .ok (.iconst 2, 1) := by decide +kernel
theorem dX7_newNote_5 : decode cX7_newNote 5 = .ok (.iaload, 1) := by decide +kernel
theorem dX7_newNote_6 : decode cX7_newNote 6 = .ok (.istore_n 3, 1) := by decide +kernel
theorem dX7_newNote_7 : decode cX7_newNote 7 = .ok (.iload_n 3, 1) := by decide +kernel
theorem dX7_newNote_8 : decode cX7_newNote 8 = .ok (.ifCond .le 53, 3) := by decide +kernel
theorem dX7_newNote_11 : decode cX7_newNote 11 = .ok (.aload_n 0, 1) := by decide +kernel
theorem dX7_newNote_12 : decode cX7_newNote 12 = .ok (.iload_n 3, 1) := by decide +kernel
theorem dX7_newNote_13 : decode cX7_newNote 13 = .ok (.iconst 1, 1) := by decide +kernel
theorem dX7_newNote_14 : decode cX7_newNote 14 = .ok (.isub, 1) := by decide +kernel
theorem dX7_newNote_15 : decode cX7_newNote 15 = .ok (.iconst 0, 1) := by decide +kernel
theorem dX7_newNote_16 : decode cX7_newNote 16 = .ok (.invokevirtual 81, 3) := by decide +kernel
theorem dX7_newNote_19 : decode cX7_newNote 19 = .ok (.iload_n 1, 1) := by decide +kernel
theorem dX7_newNote_20 : decode cX7_newNote 20 = .ok (.if_icmp .le 41, 3) := by decide +kernel
theorem dX7_newNote_23 : decode cX7_newNote 23 = .ok (.iconst 0, 1) := by decide +kernel
theorem dX7_newNote_24 : decode cX7_newNote 24 = .ok (.istore 4, 2) := by decide +kernel
theorem dX7_newNote_26 : decode cX7_newNote 26 = .ok (.iload 4, 2) := by decide +kernel
theorem dX7_newNote_28 : decode cX7_newNote 28 = .ok (.bipush 6, 2) := by decide +kernel
theorem dX7_newNote_30 : decode cX7_newNote 30 = .ok (.if_icmp .ge 25, 3) := by decide +kernel
theorem dX7_newNote_33 : decode cX7_newNote 33 = .ok (.aload_n 0, 1) := by decide +kernel
theorem dX7_newNote_34 : decode cX7_newNote 34 = .ok (.iload_n 3, 1) := by decide +kernel
theorem dX7_newNote_35 : decode cX7_newNote 35 = .ok (.iload 4, 2) := by decide +kernel
theorem dX7_newNote_37 : decode cX7_newNote 37 = .ok (.aload_n 0, 1) := by decide +kernel
theorem dX7_newNote_38 : decode cX7_newNote 38 = .ok (.iload_n 3, 1) := by decide +kernel
theorem dX7_newNote_39 : decode cX7_newNote 39 = .ok (.iconst 1, 1) := by decide +kernel
theorem dX7_newNote_40 : decode cX7_newNote 40 = .ok (.isub, 1) := by decide +kernel
theorem dX7_newNote_41 : decode cX7_newNote 41 = .ok (.iload 4, 2) := by decide +kernel
theorem dX7_newNote_43 : decode cX7_newNote 43 = .ok (.invokevirtual 81, 3) := by decide +kernel
theorem dX7_newNote_46 : decode cX7_newNote 46 = .ok (.invokevirtual 100, 3) := by decide +kernel
theorem dX7_newNote_49 : decode cX7_newNote 49 = .ok (.iinc 4 1, 3) := by decide +kernel
theorem dX7_newNote_52 : decode cX7_newNote 52 = .ok (.goto (-26), 3) := by decide +kernel
theorem dX7_newNote_55 : decode cX7_newNote 55 = .ok (.iinc 3 (-1), 3) := by decide +kernel
theorem dX7_newNote_58 : decode cX7_newNote 58 = .ok (.goto (-51), 3) := by decide +kernel
theorem dX7_newNote_61 : decode cX7_newNote 61 = .ok (.aload_n 0, 1) := by decide +kernel
theorem dX7_newNote_62 : decode cX7_newNote 62 = .ok (.iload_n 3, 1) := by decide +kernel
theorem dX7_newNote_63 : decode cX7_newNote 63 = .ok (.iconst 0, 1) := by decide +kernel
theorem dX7_newNote_64 : decode cX7_newNote 64 = .ok (.iload_n 1, 1) := by decide +kernel
theorem dX7_newNote_65 : decode cX7_newNote 65 = .ok (.invokevirtual 100, 3) := by decide +kernel
theorem dX7_newNote_68 : decode cX7_newNote 68 = .ok (.aload_n 0, 1) := by decide +kernel
theorem dX7_newNote_69 : decode cX7_newNote 69 = .ok (.iload_n 3, 1) := by decide +kernel
theorem dX7_newNote_70 : decode cX7_newNote 70 = .ok (.iconst 1, 1) := by decide +kernel
theorem dX7_newNote_71 : decode cX7_newNote 71 = .ok (.iload_n 2, 1) := by decide +kernel
theorem dX7_newNote_72 : decode cX7_newNote 72 = .ok (.invokevirtual 100, 3) := by decide +kernel
theorem dX7_newNote_75 : decode cX7_newNote 75 = .ok (.aload_n 0, 1) := by decide +kernel
theorem dX7_newNote_76 : decode cX7_newNote 76 = .ok (.iload_n 3, 1) := by decide +kernel
theorem dX7_newNote_77 : decode cX7_newNote 77 = .ok (.iconst 2, 1) := by decide +kernel
theorem dX7_newNote_78 : decode cX7_newNote 78 = .ok (.iconst 0, 1) := by decide +kernel
theorem dX7_newNote_79 : decode cX7_newNote 79 = .ok (.invokevirtual 100, 3) := by decide +kernel
theorem dX7_newNote_82 : decode cX7_newNote 82 = .ok (.aload_n 0, 1) := by decide +kernel
theorem dX7_newNote_83 : decode cX7_newNote 83 = .ok (.iload_n 3, 1) := by decide +kernel
theorem dX7_newNote_84 : decode cX7_newNote 84 = .ok (.iconst 3, 1) := by decide +kernel
theorem dX7_newNote_85 : decode cX7_newNote 85 = .ok (.iconst (-1), 1) := by decide +kernel
theorem dX7_newNote_86 : decode cX7_newNote 86 = .ok (.invokevirtual 100, 3) := by decide +kernel
theorem dX7_newNote_89 : decode cX7_newNote 89 = .ok (.aload_n 0, 1) := by decide +kernel
theorem dX7_newNote_90 : decode cX7_newNote 90 = .ok (.iload_n 3, 1) := by decide +kernel
theorem dX7_newNote_91 : decode cX7_newNote 91 = .ok (.iconst 4, 1) := by decide +kernel
theorem dX7_newNote_92 : decode cX7_newNote 92 = .ok (.iconst 0, 1) := by decide +kernel
theorem dX7_newNote_93 : decode cX7_newNote 93 = .ok (.invokevirtual 100, 3) := by decide +kernel
theorem dX7_newNote_96 : decode cX7_newNote 96 = .ok (.aload_n 0, 1) := by decide +kernel
theorem dX7_newNote_97 : decode cX7_newNote 97 = .ok (.iload_n 3, 1) := by decide +kernel
theorem dX7_newNote_98 : decode cX7_newNote 98 = .ok (.iconst 5, 1) := by decide +kernel
theorem dX7_newNote_99 : decode cX7_newNote 99 = .ok (.iconst 0, 1) := by decide +kernel
theorem dX7_newNote_100 : decode cX7_newNote 100 = .ok (.invokevirtual 100, 3) := by decide +kernel
theorem dX7_newNote_103 : decode cX7_newNote 103 = .ok (.aload_n 0, 1) := by decide +kernel
theorem dX7_newNote_104 : decode cX7_newNote 104 = .ok (.getfield 7, 3) := by decide +kernel
theorem dX7_newNote_107 : decode cX7_newNote 107 = .ok (.iconst 2, 1) := by decide +kernel
theorem dX7_newNote_108 : decode cX7_newNote 108 = .ok (.dup2, 1) := by decide +kernel
theorem dX7_newNote_109 : decode cX7_newNote 109 = .ok (.iaload, 1) := by decide +kernel
theorem dX7_newNote_110 : decode cX7_newNote 110 = .ok (.iconst 1, 1) := by decide +kernel
theorem dX7_newNote_111 : decode cX7_newNote 111 = .ok (.iadd, 1) := by decide +kernel
theorem dX7_newNote_112 : decode cX7_newNote 112 = .ok (.iastore, 1) := by decide +kernel
theorem dX7_newNote_113 : decode cX7_newNote 113 = .ok (.iload_n 3, 1) := by decide +kernel
theorem dX7_newNote_114 : decode cX7_newNote 114 = .ok (.ireturn, 1) := by decide +kernel
theorem dX7_note_0 : decode cX7_note 0 = .ok (.iload_n 1, 1) := by decide +kernel
theorem dX7_note_1 : decode cX7_note 1 = .ok (.iconst 0, 1) := by decide +kernel
theorem dX7_note_2 : decode cX7_note 2 = .ok (.sipush 3600, 3) := by decide +kernel
theorem dX7_note_5 : decode cX7_note 5 = .ok (.invokestatic 25, 3) := by decide +kernel
theorem dX7_note_8 : decode cX7_note 8 = .ok (.ifCond .eq 14, 3) := by decide +kernel
theorem dX7_note_11 : decode cX7_note 11 = .ok (.iload_n 2, 1) := by decide +kernel
theorem dX7_note_12 : decode cX7_note 12 = .ok (.iconst 0, 1) := by decide +kernel
theorem dX7_note_13 : decode cX7_note 13 = .ok (.sipush 6000, 3) := by decide +kernel
theorem dX7_note_16 : decode cX7_note 16 = .ok (.invokestatic 25, 3) := by decide +kernel
theorem dX7_note_19 : decode cX7_note 19 = .ok (.ifCond .ne 6, 3) := by decide +kernel
theorem dX7_note_22 : decode cX7_note 22 = .ok (.ldc 51, 2) := by decide +kernel
theorem dX7_note_24 : decode cX7_note 24 = .ok (.ireturn, 1) := by decide +kernel
theorem dX7_note_25 : decode cX7_note 25 = .ok (.aload_n 0, 1) := by decide +kernel
theorem dX7_note_26 : decode cX7_note 26 = .ok (.iload_n 1, 1) := by decide +kernel
theorem dX7_note_27 : decode cX7_note 27 = .ok (.invokevirtual 103, 3) := by decide +kernel
theorem dX7_note_30 : decode cX7_note 30 = .ok (.ifCond .lt 6, 3) := by decide +kernel
theorem dX7_note_33 : decode cX7_note 33 = .ok (.ldc 33, 2) := by decide +kernel
theorem dX7_note_35 : decode cX7_note 35 = .ok (.ireturn, 1) := by decide +kernel
theorem dX7_note_36 : decode cX7_note 36 = .ok (.aload_n 0, 1) := by decide +kernel
theorem dX7_note_37 : decode cX7_note 37 = .ok (.getfield 7, 3) := by decide +kernel
theorem dX7_note_40 : decode cX7_note 40 = .ok (.iconst 2, 1) := by decide +kernel
theorem dX7_note_41 : decode cX7_note 41 = .ok (.iaload, 1) := by decide +kernel
theorem dX7_note_42 : decode cX7_note 42 = .ok (.bipush 40, 2) := by decide +kernel
theorem dX7_note_44 : decode cX7_note 44 = .ok (.if_icmp .ne 6, 3) := by decide +kernel
theorem dX7_note_47 : decode cX7_note 47 = .ok (.ldc 52, 2) := by decide +kernel
theorem dX7_note_49 : decode cX7_note 49 = .ok (.ireturn, 1) := by decide +kernel
theorem dX7_note_50 : decode cX7_note 50 = .ok (.aload_n 0, 1) := by decide +kernel
theorem dX7_note_51 : decode cX7_note 51 = .ok (.invokevirtual 53, 3) := by decide +kernel
theorem dX7_note_54 : decode cX7_note 54 = .ok (.aload_n 0, 1) := by decide +kernel
theorem dX7_note_55 : decode cX7_note 55 = .ok (.iload_n 1, 1) := by decide +kernel
theorem dX7_note_56 : decode cX7_note 56 = .ok (.iload_n 2, 1) := by decide +kernel
theorem dX7_note_57 : decode cX7_note 57 = .ok (.invokevirtual 106, 3) := by decide +kernel
theorem dX7_note_60 : decode cX7_note 60 = .ok (.ireturn, 1) := by decide +kernel
theorem dX7_drop_0 : decode cX7_drop 0 = .ok (.aload_n 0, 1) := by decide +kernel
theorem dX7_drop_1 : decode cX7_drop 1 = .ok (.iload_n 1, 1) := by decide +kernel
theorem dX7_drop_2 : decode cX7_drop 2 = .ok (.invokevirtual 109, 3) := by decide +kernel
theorem dX7_drop_5 : decode cX7_drop 5 = .ok (.ifCond .ne 6, 3) := by decide +kernel
theorem dX7_drop_8 : decode cX7_drop 8 = .ok (.ldc 51, 2) := by decide +kernel
theorem dX7_drop_10 : decode cX7_drop 10 = .ok (.ireturn, 1) := by decide +kernel
theorem dX7_drop_11 : decode cX7_drop 11 = .ok (.aload_n 0, 1) := by decide +kernel
theorem dX7_drop_12 : decode cX7_drop 12 = .ok (.invokevirtual 53, 3) := by decide +kernel
theorem dX7_drop_15 : decode cX7_drop 15 = .ok (.aload_n 0, 1) := by decide +kernel
theorem dX7_drop_16 : decode cX7_drop 16 = .ok (.getfield 7, 3) := by decide +kernel
theorem dX7_drop_19 : decode cX7_drop 19 = .ok (.iconst 2, 1) := by decide +kernel
theorem dX7_drop_20 : decode cX7_drop 20 = .ok (.dup2, 1) := by decide +kernel
theorem dX7_drop_21 : decode cX7_drop 21 = .ok (.iaload, 1) := by decide +kernel
theorem dX7_drop_22 : decode cX7_drop 22 = .ok (.iconst 1, 1) := by decide +kernel
theorem dX7_drop_23 : decode cX7_drop 23 = .ok (.isub, 1) := by decide +kernel
theorem dX7_drop_24 : decode cX7_drop 24 = .ok (.iastore, 1) := by decide +kernel
theorem dX7_drop_25 : decode cX7_drop 25 = .ok (.bipush 61, 2) := by decide +kernel
theorem dX7_drop_27 : decode cX7_drop 27 = .ok (.bipush 6, 2) := by decide +kernel
theorem dX7_drop_29 : decode cX7_drop 29 = .ok (.iload_n 1, 1) := by decide +kernel
theorem dX7_drop_30 : decode cX7_drop 30 = .ok (.imul, 1) := by decide +kernel
theorem dX7_drop_31 : decode cX7_drop 31 = .ok (.iadd, 1) := by decide +kernel
theorem dX7_drop_32 : decode cX7_drop 32 = .ok (.istore_n 2, 1) := by decide +kernel
theorem dX7_drop_33 : decode cX7_drop 33 = .ok (.iload_n 2, 1) := by decide +kernel
theorem dX7_drop_34 : decode cX7_drop 34 = .ok (.bipush 61, 2) := by decide +kernel
theorem dX7_drop_36 : decode cX7_drop 36 = .ok (.bipush 6, 2) := by decide +kernel
theorem dX7_drop_38 : decode cX7_drop 38 = .ok (.aload_n 0, 1) := by decide +kernel
theorem dX7_drop_39 : decode cX7_drop 39 = .ok (.getfield 7, 3) := by decide +kernel
theorem dX7_drop_42 : decode cX7_drop 42 = .ok (.iconst 2, 1) := by decide +kernel
theorem dX7_drop_43 : decode cX7_drop 43 = .ok (.iaload, 1) := by decide +kernel
theorem dX7_drop_44 : decode cX7_drop 44 = .ok (.imul, 1) := by decide +kernel
theorem dX7_drop_45 : decode cX7_drop 45 = .ok (.iadd, 1) := by decide +kernel
theorem dX7_drop_46 : decode cX7_drop 46 = .ok (.if_icmp .ge 24, 3) := by decide +kernel
theorem dX7_drop_49 : decode cX7_drop 49 = .ok (.aload_n 0, 1) := by decide +kernel
theorem dX7_drop_50 : decode cX7_drop 50 = .ok (.getfield 7, 3) := by decide +kernel
theorem dX7_drop_53 : decode cX7_drop 53 = .ok (.iload_n 2, 1) := by decide +kernel
theorem dX7_drop_54 : decode cX7_drop 54 = .ok (.aload_n 0, 1) := by decide +kernel
theorem dX7_drop_55 : decode cX7_drop 55 = .ok (.getfield 7, 3) := by decide +kernel
theorem dX7_drop_58 : decode cX7_drop 58 = .ok (.iload_n 2, 1) := by decide +kernel
theorem dX7_drop_59 : decode cX7_drop 59 = .ok (.bipush 6, 2) := by decide +kernel
theorem dX7_drop_61 : decode cX7_drop 61 = .ok (.iadd, 1) := by decide +kernel
theorem dX7_drop_62 : decode cX7_drop 62 = .ok (.iaload, 1) := by decide +kernel
theorem dX7_drop_63 : decode cX7_drop 63 = .ok (.iastore, 1) := by decide +kernel
theorem dX7_drop_64 : decode cX7_drop 64 = .ok (.iinc 2 1, 3) := by decide +kernel
theorem dX7_drop_67 : decode cX7_drop 67 = .ok (.goto (-34), 3) := by decide +kernel
theorem dX7_drop_70 : decode cX7_drop 70 = .ok (.aload_n 0, 1) := by decide +kernel
theorem dX7_drop_71 : decode cX7_drop 71 = .ok (.getfield 7, 3) := by decide +kernel
theorem dX7_drop_74 : decode cX7_drop 74 = .ok (.iconst 2, 1) := by decide +kernel
theorem dX7_drop_75 : decode cX7_drop 75 = .ok (.iaload, 1) := by decide +kernel
theorem dX7_drop_76 : decode cX7_drop 76 = .ok (.ireturn, 1) := by decide +kernel
theorem dX7_transpose_0 : decode cX7_transpose 0 = .ok (.aload_n 0, 1) := by decide +kernel
theorem dX7_transpose_1 : decode cX7_transpose 1 = .ok (.iload_n 1, 1) := by decide +kernel
theorem dX7_transpose_2 : decode cX7_transpose 2 = .ok (.invokevirtual 109, 3) := by decide +kernel
theorem dX7_transpose_5 : decode cX7_transpose 5 = .ok (.ifCond .eq 33, 3) := by decide +kernel
theorem dX7_transpose_8 : decode cX7_transpose 8 = .ok (.aload_n 0, 1) := by decide +kernel
theorem dX7_transpose_9 : decode cX7_transpose 9 = .ok (.iload_n 2, 1) := by decide +kernel
theorem dX7_transpose_10 : decode cX7_transpose 10 = .ok (.invokevirtual 109, 3) := by decide +kernel
theorem dX7_transpose_13 : decode cX7_transpose 13 = .ok (.ifCond .eq 25, 3) := by decide +kernel
theorem dX7_transpose_16 : decode cX7_transpose 16 = .ok (.iload_n 2, 1) := by decide +kernel
theorem dX7_transpose_17 : decode cX7_transpose 17 = .ok (.iload_n 1, 1) := by decide +kernel
theorem dX7_transpose_18 : decode cX7_transpose 18 = .ok (.if_icmp .lt 20, 3) := by decide +kernel
theorem dX7_transpose_21 : decode cX7_transpose 21 = .ok (.iload_n 3, 1) := by decide +kernel
theorem dX7_transpose_22 : decode cX7_transpose 22 = .ok (.ifCond .eq 16, 3) := by decide +kernel
theorem dX7_transpose_25 : decode cX7_transpose 25 = .ok (.iload_n 3, 1) := by decide +kernel
theorem dX7_transpose_26 : decode cX7_transpose 26 = .ok (.sipush (-6000), 3) := by decide +kernel
theorem dX7_transpose_29 : decode cX7_transpose 29 = .ok (.sipush 6000, 3) := by decide +kernel
theorem dX7_transpose_32 : decode cX7_transpose 32 = .ok (.invokestatic 25, 3) := by decide +kernel
theorem dX7_transpose_35 : decode cX7_transpose 35 = .ok (.ifCond .ne 6, 3) := by decide +kernel
theorem dX7_transpose_38 : decode cX7_transpose 38 = .ok (.ldc 51, 2) := by decide +kernel
theorem dX7_transpose_40 : decode cX7_transpose 40 = .ok (.ireturn, 1) := by decide +kernel
theorem dX7_transpose_41 : decode cX7_transpose 41 = .ok (.iload_n 1, 1) := by decide +kernel
theorem dX7_transpose_42 : decode cX7_transpose 42 = .ok (.istore 4, 2) := by decide +kernel
theorem dX7_transpose_44 : decode cX7_transpose 44 = .ok (.iload 4, 2) := by decide +kernel
theorem dX7_transpose_46 : decode cX7_transpose 46 = .ok (.iload_n 2, 1) := by decide +kernel
theorem dX7_transpose_47 : decode cX7_transpose 47 = .ok (.if_icmp .gt 31, 3) := by decide +kernel
theorem dX7_transpose_50 : decode cX7_transpose 50 = .ok (.aload_n 0, 1) := by decide +kernel
theorem dX7_transpose_51 : decode cX7_transpose 51 = .ok (.iload 4, 2) := by decide +kernel
theorem dX7_transpose_53 : decode cX7_transpose 53 = .ok (.iconst 1, 1) := by decide +kernel
theorem dX7_transpose_54 : decode cX7_transpose 54 = .ok (.invokevirtual 81, 3) := by decide +kernel
theorem dX7_transpose_57 : decode cX7_transpose 57 = .ok (.iload_n 3, 1) := by decide +kernel
theorem dX7_transpose_58 : decode cX7_transpose 58 = .ok (.iadd, 1) := by decide +kernel
theorem dX7_transpose_59 : decode cX7_transpose 59 = .ok (.iconst 0, 1) := by decide +kernel
theorem dX7_transpose_60 : decode cX7_transpose 60 = .ok (.sipush 6000, 3) := by decide +kernel
theorem dX7_transpose_63 : decode cX7_transpose 63 = .ok (.invokestatic 25, 3) := by decide +kernel
theorem dX7_transpose_66 : decode cX7_transpose 66 = .ok (.ifCond .ne 6, 3) := by decide +kernel
theorem dX7_transpose_69 : decode cX7_transpose 69 = .ok (.ldc 33, 2) := by decide +kernel
theorem dX7_transpose_71 : decode cX7_transpose 71 = .ok (.ireturn, 1) := by decide +kernel
theorem dX7_transpose_72 : decode cX7_transpose 72 = .ok (.iinc 4 1, 3) := by decide +kernel
theorem dX7_transpose_75 : decode cX7_transpose 75 = .ok (.goto (-31), 3) := by decide +kernel
theorem dX7_transpose_78 : decode cX7_transpose 78 = .ok (.aload_n 0, 1) := by decide +kernel
theorem dX7_transpose_79 : decode cX7_transpose 79 = .ok (.invokevirtual 53, 3) := by decide +kernel
theorem dX7_transpose_82 : decode cX7_transpose 82 = .ok (.iload_n 1, 1) := by decide +kernel
theorem dX7_transpose_83 : decode cX7_transpose 83 = .ok (.istore 4, 2) := by decide +kernel
theorem dX7_transpose_85 : decode cX7_transpose 85 = .ok (.iload 4, 2) := by decide +kernel
theorem dX7_transpose_87 : decode cX7_transpose 87 = .ok (.iload_n 2, 1) := by decide +kernel
theorem dX7_transpose_88 : decode cX7_transpose 88 = .ok (.if_icmp .gt 25, 3) := by decide +kernel
theorem dX7_transpose_91 : decode cX7_transpose 91 = .ok (.aload_n 0, 1) := by decide +kernel
theorem dX7_transpose_92 : decode cX7_transpose 92 = .ok (.iload 4, 2) := by decide +kernel
theorem dX7_transpose_94 : decode cX7_transpose 94 = .ok (.iconst 1, 1) := by decide +kernel
theorem dX7_transpose_95 : decode cX7_transpose 95 = .ok (.aload_n 0, 1) := by decide +kernel
theorem dX7_transpose_96 : decode cX7_transpose 96 = .ok (.iload 4, 2) := by decide +kernel
theorem dX7_transpose_98 : decode cX7_transpose 98 = .ok (.iconst 1, 1) := by decide +kernel
theorem dX7_transpose_99 : decode cX7_transpose 99 = .ok (.invokevirtual 81, 3) := by decide +kernel
theorem dX7_transpose_102 : decode cX7_transpose 102 = .ok (.iload_n 3, 1) := by decide +kernel
theorem dX7_transpose_103 : decode cX7_transpose 103 = .ok (.iadd, 1) := by decide +kernel
theorem dX7_transpose_104 : decode cX7_transpose 104 = .ok (.invokevirtual 100, 3) := by decide +kernel
theorem dX7_transpose_107 : decode cX7_transpose 107 = .ok (.iinc 4 1, 3) := by decide +kernel
theorem dX7_transpose_110 : decode cX7_transpose 110 = .ok (.goto (-25), 3) := by decide +kernel
theorem dX7_transpose_113 : decode cX7_transpose 113 = .ok (.iload_n 2, 1) := by decide +kernel
theorem dX7_transpose_114 : decode cX7_transpose 114 = .ok (.iload_n 1, 1) := by decide +kernel
theorem dX7_transpose_115 : decode cX7_transpose 115 = .ok (.isub, 1) := by decide +kernel
theorem dX7_transpose_116 : decode cX7_transpose 116 = .ok (.iconst 1, 1) := by decide +kernel
theorem dX7_transpose_117 : decode cX7_transpose 117 = .ok (.iadd, 1) := by decide +kernel
theorem dX7_transpose_118 : decode cX7_transpose 118 = .ok (.ireturn, 1) := by decide +kernel
theorem dX7_noteOf_0 : decode cX7_noteOf 0 = .ok (.aload_n 0, 1) := by decide +kernel
theorem dX7_noteOf_1 : decode cX7_noteOf 1 = .ok (.iload_n 1, 1) := by decide +kernel
theorem dX7_noteOf_2 : decode cX7_noteOf 2 = .ok (.invokevirtual 109, 3) := by decide +kernel
theorem dX7_noteOf_5 : decode cX7_noteOf 5 = .ok (.ifCond .eq 13, 3) := by decide +kernel
theorem dX7_noteOf_8 : decode cX7_noteOf 8 = .ok (.iload_n 2, 1) := by decide +kernel
theorem dX7_noteOf_9 : decode cX7_noteOf 9 = .ok (.iconst 0, 1) := by decide +kernel
theorem dX7_noteOf_10 : decode cX7_noteOf 10 = .ok (.bipush 6, 2) := by decide +kernel
theorem dX7_noteOf_12 : decode cX7_noteOf 12 = .ok (.invokestatic 25, 3) := by decide +kernel
theorem dX7_noteOf_15 : decode cX7_noteOf 15 = .ok (.ifCond .ne 6, 3) := by decide +kernel
theorem dX7_noteOf_18 : decode cX7_noteOf 18 = .ok (.ldc 51, 2) := by decide +kernel
theorem dX7_noteOf_20 : decode cX7_noteOf 20 = .ok (.ireturn, 1) := by decide +kernel
theorem dX7_noteOf_21 : decode cX7_noteOf 21 = .ok (.aload_n 0, 1) := by decide +kernel
theorem dX7_noteOf_22 : decode cX7_noteOf 22 = .ok (.iload_n 1, 1) := by decide +kernel
theorem dX7_noteOf_23 : decode cX7_noteOf 23 = .ok (.iconst 2, 1) := by decide +kernel
theorem dX7_noteOf_24 : decode cX7_noteOf 24 = .ok (.invokevirtual 81, 3) := by decide +kernel
theorem dX7_noteOf_27 : decode cX7_noteOf 27 = .ok (.iconst 1, 1) := by decide +kernel
theorem dX7_noteOf_28 : decode cX7_noteOf 28 = .ok (.if_icmp .ne 17, 3) := by decide +kernel
theorem dX7_noteOf_31 : decode cX7_noteOf 31 = .ok (.aload_n 0, 1) := by decide +kernel
theorem dX7_noteOf_32 : decode cX7_noteOf 32 = .ok (.iload_n 1, 1) := by decide +kernel
theorem dX7_noteOf_33 : decode cX7_noteOf 33 = .ok (.iconst 3, 1) := by decide +kernel
theorem dX7_noteOf_34 : decode cX7_noteOf 34 = .ok (.invokevirtual 81, 3) := by decide +kernel
theorem dX7_noteOf_37 : decode cX7_noteOf 37 = .ok (.iconst (-1), 1) := by decide +kernel
theorem dX7_noteOf_38 : decode cX7_noteOf 38 = .ok (.if_icmp .eq 7, 3) := by decide +kernel
theorem dX7_noteOf_41 : decode cX7_noteOf 41 = .ok (.iconst 1, 1) := by decide +kernel
theorem dX7_noteOf_42 : decode cX7_noteOf 42 = .ok (.goto 4, 3) := by decide +kernel
theorem dX7_noteOf_45 : decode cX7_noteOf 45 = .ok (.iconst 0, 1) := by decide +kernel
theorem dX7_noteOf_46 : decode cX7_noteOf 46 = .ok (.istore_n 3, 1) := by decide +kernel
theorem dX7_noteOf_47 : decode cX7_noteOf 47 = .ok (.iload_n 2, 1) := by decide +kernel
theorem dX7_noteOf_48 : decode cX7_noteOf 48 = .ok (.tableswitch 52 0 3 #[32, 32, 39, 45], 32) := by decide +kernel
theorem dX7_noteOf_80 : decode cX7_noteOf 80 = .ok (.aload_n 0, 1) := by decide +kernel
theorem dX7_noteOf_81 : decode cX7_noteOf 81 = .ok (.iload_n 1, 1) := by decide +kernel
theorem dX7_noteOf_82 : decode cX7_noteOf 82 = .ok (.iload_n 2, 1) := by decide +kernel
theorem dX7_noteOf_83 : decode cX7_noteOf 83 = .ok (.invokevirtual 81, 3) := by decide +kernel
theorem dX7_noteOf_86 : decode cX7_noteOf 86 = .ok (.ireturn, 1) := by decide +kernel
theorem dX7_noteOf_87 : decode cX7_noteOf 87 = .ok (.aload_n 0, 1) := by decide +kernel
theorem dX7_noteOf_88 : decode cX7_noteOf 88 = .ok (.iload_n 1, 1) := by decide +kernel
theorem dX7_noteOf_89 : decode cX7_noteOf 89 = .ok (.invokevirtual 84, 3) := by decide +kernel
theorem dX7_noteOf_92 : decode cX7_noteOf 92 = .ok (.ireturn, 1) := by decide +kernel
theorem dX7_noteOf_93 : decode cX7_noteOf 93 = .ok (.aload_n 0, 1) := by decide +kernel
theorem dX7_noteOf_94 : decode cX7_noteOf 94 = .ok (.iload_n 1, 1) := by decide +kernel
theorem dX7_noteOf_95 : decode cX7_noteOf 95 = .ok (.iconst 2, 1) := by decide +kernel
theorem dX7_noteOf_96 : decode cX7_noteOf 96 = .ok (.invokevirtual 81, 3) := by decide +kernel
theorem dX7_noteOf_99 : decode cX7_noteOf 99 = .ok (.ireturn, 1) := by decide +kernel
theorem dX7_noteOf_100 : decode cX7_noteOf 100 = .ok (.iload_n 3, 1) := by decide +kernel
theorem dX7_noteOf_101 : decode cX7_noteOf 101 = .ok (.ifCond .eq 14, 3) := by decide +kernel
theorem dX7_noteOf_104 : decode cX7_noteOf 104 = .ok (.aload_n 0, 1) := by decide +kernel
theorem dX7_noteOf_105 : decode cX7_noteOf 105 = .ok (.iload_n 1, 1) := by decide +kernel
theorem dX7_noteOf_106 : decode cX7_noteOf 106 = .ok (.iload_n 2, 1) := by decide +kernel
theorem dX7_noteOf_107 : decode cX7_noteOf 107 = .ok (.iconst 1, 1) := by decide +kernel
theorem dX7_noteOf_108 : decode cX7_noteOf 108 = .ok (.isub, 1) := by decide +kernel
theorem dX7_noteOf_109 : decode cX7_noteOf 109 = .ok (.invokevirtual 81, 3) := by decide +kernel
theorem dX7_noteOf_112 : decode cX7_noteOf 112 = .ok (.goto 5, 3) := by decide +kernel
theorem dX7_noteOf_115 : decode cX7_noteOf 115 = .ok (.ldc 70, 2) := by decide +kernel
theorem dX7_noteOf_117 : decode cX7_noteOf 117 = .ok (.ireturn, 1) := by decide +kernel
theorem dX7_dries_0 : decode cX7_dries 0 = .ok (.iconst 0, 1) := by decide +kernel
theorem dX7_dries_1 : decode cX7_dries 1 = .ok (.istore_n 1, 1) := by decide +kernel
theorem dX7_dries_2 : decode cX7_dries 2 = .ok (.iload_n 1, 1) := by decide +kernel
theorem dX7_dries_3 : decode cX7_dries 3 = .ok (.aload_n 0, 1) := by decide +kernel
theorem dX7_dries_4 : decode cX7_dries 4 = .ok (.getfield 7, 3) := by decide +kernel
theorem dX7_dries_7 : decode cX7_dries 7 = .ok (.iconst 1, 1) := by decide +kernel
theorem dX7_dries_8 : decode cX7_dries 8 = .ok (.iaload, 1) := by decide +kernel
theorem dX7_dries_9 : decode cX7_dries 9 = .ok (.if_icmp .ge 48, 3) := by decide +kernel
theorem dX7_dries_12 : decode cX7_dries 12 = .ok (.aload_n 0, 1) := by decide +kernel
theorem dX7_dries_13 : decode cX7_dries 13 = .ok (.iload_n 1, 1) := by decide +kernel
theorem dX7_dries_14 : decode cX7_dries 14 = .ok (.iconst 2, 1) := by decide +kernel
theorem dX7_dries_15 : decode cX7_dries 15 = .ok (.invokevirtual 34, 3) := by decide +kernel
theorem dX7_dries_18 : decode cX7_dries 18 = .ok (.ifCond .le 7, 3) := by decide +kernel
theorem dX7_dries_21 : decode cX7_dries 21 = .ok (.iconst 1, 1) := by decide +kernel
theorem dX7_dries_22 : decode cX7_dries 22 = .ok (.goto 4, 3) := by decide +kernel
theorem dX7_dries_25 : decode cX7_dries 25 = .ok (.iconst 0, 1) := by decide +kernel
theorem dX7_dries_26 : decode cX7_dries 26 = .ok (.istore_n 2, 1) := by decide +kernel
theorem dX7_dries_27 : decode cX7_dries 27 = .ok (.aload_n 0, 1) := by decide +kernel
theorem dX7_dries_28 : decode cX7_dries 28 = .ok (.iload_n 1, 1) := by decide +kernel
theorem dX7_dries_29 : decode cX7_dries 29 = .ok (.iconst 2, 1) := by decide +kernel
theorem dX7_dries_30 : decode cX7_dries 30 = .ok (.aload_n 0, 1) := by decide +kernel
theorem dX7_dries_31 : decode cX7_dries 31 = .ok (.iload_n 1, 1) := by decide +kernel
theorem dX7_dries_32 : decode cX7_dries 32 = .ok (.iconst 2, 1) := by decide +kernel
theorem dX7_dries_33 : decode cX7_dries 33 = .ok (.invokevirtual 34, 3) := by decide +kernel
theorem dX7_dries_36 : decode cX7_dries 36 = .ok (.iload_n 2, 1) := by decide +kernel
theorem dX7_dries_37 : decode cX7_dries 37 = .ok (.isub, 1) := by decide +kernel
theorem dX7_dries_38 : decode cX7_dries 38 = .ok (.invokevirtual 43, 3) := by decide +kernel
theorem dX7_dries_41 : decode cX7_dries 41 = .ok (.aload_n 0, 1) := by decide +kernel
theorem dX7_dries_42 : decode cX7_dries 42 = .ok (.getfield 7, 3) := by decide +kernel
theorem dX7_dries_45 : decode cX7_dries 45 = .ok (.iconst 4, 1) := by decide +kernel
theorem dX7_dries_46 : decode cX7_dries 46 = .ok (.dup2, 1) := by decide +kernel
theorem dX7_dries_47 : decode cX7_dries 47 = .ok (.iaload, 1) := by decide +kernel
theorem dX7_dries_48 : decode cX7_dries 48 = .ok (.iload_n 2, 1) := by decide +kernel
theorem dX7_dries_49 : decode cX7_dries 49 = .ok (.iadd, 1) := by decide +kernel
theorem dX7_dries_50 : decode cX7_dries 50 = .ok (.iastore, 1) := by decide +kernel
theorem dX7_dries_51 : decode cX7_dries 51 = .ok (.iinc 1 1, 3) := by decide +kernel
theorem dX7_dries_54 : decode cX7_dries 54 = .ok (.goto (-52), 3) := by decide +kernel
theorem dX7_dries_57 : decode cX7_dries 57 = .ok (.return_, 1) := by decide +kernel
theorem dX7_fills_0 : decode cX7_fills 0 = .ok (.iconst 0, 1) := by decide +kernel
theorem dX7_fills_1 : decode cX7_fills 1 = .ok (.istore_n 1, 1) := by decide +kernel
theorem dX7_fills_2 : decode cX7_fills 2 = .ok (.iload_n 1, 1) := by decide +kernel
theorem dX7_fills_3 : decode cX7_fills 3 = .ok (.aload_n 0, 1) := by decide +kernel
theorem dX7_fills_4 : decode cX7_fills 4 = .ok (.getfield 7, 3) := by decide +kernel
theorem dX7_fills_7 : decode cX7_fills 7 = .ok (.iconst 1, 1) := by decide +kernel
theorem dX7_fills_8 : decode cX7_fills 8 = .ok (.iaload, 1) := by decide +kernel
theorem dX7_fills_9 : decode cX7_fills 9 = .ok (.if_icmp .ge 42, 3) := by decide +kernel
theorem dX7_fills_12 : decode cX7_fills 12 = .ok (.aload_n 0, 1) := by decide +kernel
theorem dX7_fills_13 : decode cX7_fills 13 = .ok (.iload_n 1, 1) := by decide +kernel
theorem dX7_fills_14 : decode cX7_fills 14 = .ok (.iconst 2, 1) := by decide +kernel
theorem dX7_fills_15 : decode cX7_fills 15 = .ok (.invokevirtual 34, 3) := by decide +kernel
theorem dX7_fills_18 : decode cX7_fills 18 = .ok (.aload_n 0, 1) := by decide +kernel
theorem dX7_fills_19 : decode cX7_fills 19 = .ok (.iload_n 1, 1) := by decide +kernel
theorem dX7_fills_20 : decode cX7_fills 20 = .ok (.iconst 3, 1) := by decide +kernel
theorem dX7_fills_21 : decode cX7_fills 21 = .ok (.invokevirtual 34, 3) := by decide +kernel
theorem dX7_fills_24 : decode cX7_fills 24 = .ok (.if_icmp .ge 21, 3) := by decide +kernel
theorem dX7_fills_27 : decode cX7_fills 27 = .ok (.aload_n 0, 1) := by decide +kernel
theorem dX7_fills_28 : decode cX7_fills 28 = .ok (.iload_n 1, 1) := by decide +kernel
theorem dX7_fills_29 : decode cX7_fills 29 = .ok (.aload_n 0, 1) := by decide +kernel
theorem dX7_fills_30 : decode cX7_fills 30 = .ok (.iload_n 1, 1) := by decide +kernel
theorem dX7_fills_31 : decode cX7_fills 31 = .ok (.iconst 3, 1) := by decide +kernel
theorem dX7_fills_32 : decode cX7_fills 32 = .ok (.invokevirtual 34, 3) := by decide +kernel
theorem dX7_fills_35 : decode cX7_fills 35 = .ok (.aload_n 0, 1) := by decide +kernel
theorem dX7_fills_36 : decode cX7_fills 36 = .ok (.iload_n 1, 1) := by decide +kernel
theorem dX7_fills_37 : decode cX7_fills 37 = .ok (.iconst 2, 1) := by decide +kernel
theorem dX7_fills_38 : decode cX7_fills 38 = .ok (.invokevirtual 34, 3) := by decide +kernel
theorem dX7_fills_41 : decode cX7_fills 41 = .ok (.isub, 1) := by decide +kernel
theorem dX7_fills_42 : decode cX7_fills 42 = .ok (.invokevirtual 60, 3) := by decide +kernel
theorem dX7_fills_45 : decode cX7_fills 45 = .ok (.iinc 1 1, 3) := by decide +kernel
theorem dX7_fills_48 : decode cX7_fills 48 = .ok (.goto (-46), 3) := by decide +kernel
theorem dX7_fills_51 : decode cX7_fills 51 = .ok (.return_, 1) := by decide +kernel
theorem dX7_plays_0 : decode cX7_plays 0 = .ok (.aload_n 0, 1) := by decide +kernel
theorem dX7_plays_1 : decode cX7_plays 1 = .ok (.iconst 3, 1) := by decide +kernel
theorem dX7_plays_2 : decode cX7_plays 2 = .ok (.invokevirtual 78, 3) := by decide +kernel
theorem dX7_plays_5 : decode cX7_plays 5 = .ok (.iconst 1, 1) := by decide +kernel
theorem dX7_plays_6 : decode cX7_plays 6 = .ok (.if_icmp .ne 15, 3) := by decide +kernel
theorem dX7_plays_9 : decode cX7_plays 9 = .ok (.aload_n 0, 1) := by decide +kernel
theorem dX7_plays_10 : decode cX7_plays 10 = .ok (.iload_n 1, 1) := by decide +kernel
theorem dX7_plays_11 : decode cX7_plays 11 = .ok (.invokevirtual 97, 3) := by decide +kernel
theorem dX7_plays_14 : decode cX7_plays 14 = .ok (.ifCond .eq 7, 3) := by decide +kernel
theorem dX7_plays_17 : decode cX7_plays 17 = .ok (.aload_n 0, 1) := by decide +kernel
theorem dX7_plays_18 : decode cX7_plays 18 = .ok (.invokevirtual 112, 3) := by decide +kernel
theorem dX7_plays_21 : decode cX7_plays 21 = .ok (.aload_n 0, 1) := by decide +kernel
theorem dX7_plays_22 : decode cX7_plays 22 = .ok (.aload_n 0, 1) := by decide +kernel
theorem dX7_plays_23 : decode cX7_plays 23 = .ok (.iload_n 1, 1) := by decide +kernel
theorem dX7_plays_24 : decode cX7_plays 24 = .ok (.iconst 1, 1) := by decide +kernel
theorem dX7_plays_25 : decode cX7_plays 25 = .ok (.invokevirtual 81, 3) := by decide +kernel
theorem dX7_plays_28 : decode cX7_plays 28 = .ok (.invokevirtual 71, 3) := by decide +kernel
theorem dX7_plays_31 : decode cX7_plays 31 = .ok (.istore_n 2, 1) := by decide +kernel
theorem dX7_plays_32 : decode cX7_plays 32 = .ok (.iload_n 2, 1) := by decide +kernel
theorem dX7_plays_33 : decode cX7_plays 33 = .ok (.iconst (-1), 1) := by decide +kernel
theorem dX7_plays_34 : decode cX7_plays 34 = .ok (.if_icmp .ne 7, 3) := by decide +kernel
theorem dX7_plays_37 : decode cX7_plays 37 = .ok (.iconst 0, 1) := by decide +kernel
theorem dX7_plays_38 : decode cX7_plays 38 = .ok (.goto 15, 3) := by decide +kernel
theorem dX7_plays_41 : decode cX7_plays 41 = .ok (.aload_n 0, 1) := by decide +kernel
theorem dX7_plays_42 : decode cX7_plays 42 = .ok (.iload_n 2, 1) := by decide +kernel
theorem dX7_plays_43 : decode cX7_plays 43 = .ok (.invokevirtual 64, 3) := by decide +kernel
theorem dX7_plays_46 : decode cX7_plays 46 = .ok (.aload_n 0, 1) := by decide +kernel
theorem dX7_plays_47 : decode cX7_plays 47 = .ok (.iload_n 1, 1) := by decide +kernel
theorem dX7_plays_48 : decode cX7_plays 48 = .ok (.iconst 1, 1) := by decide +kernel
theorem dX7_plays_49 : decode cX7_plays 49 = .ok (.invokevirtual 81, 3) := by decide +kernel
theorem dX7_plays_52 : decode cX7_plays 52 = .ok (.isub, 1) := by decide +kernel
theorem dX7_plays_53 : decode cX7_plays 53 = .ok (.istore_n 3, 1) := by decide +kernel
theorem dX7_plays_54 : decode cX7_plays 54 = .ok (.aload_n 0, 1) := by decide +kernel
theorem dX7_plays_55 : decode cX7_plays 55 = .ok (.iload_n 1, 1) := by decide +kernel
theorem dX7_plays_56 : decode cX7_plays 56 = .ok (.iconst 2, 1) := by decide +kernel
theorem dX7_plays_57 : decode cX7_plays 57 = .ok (.iconst 1, 1) := by decide +kernel
theorem dX7_plays_58 : decode cX7_plays 58 = .ok (.invokevirtual 100, 3) := by decide +kernel
theorem dX7_plays_61 : decode cX7_plays 61 = .ok (.aload_n 0, 1) := by decide +kernel
theorem dX7_plays_62 : decode cX7_plays 62 = .ok (.iload_n 1, 1) := by decide +kernel
theorem dX7_plays_63 : decode cX7_plays 63 = .ok (.iconst 3, 1) := by decide +kernel
theorem dX7_plays_64 : decode cX7_plays 64 = .ok (.iload_n 2, 1) := by decide +kernel
theorem dX7_plays_65 : decode cX7_plays 65 = .ok (.invokevirtual 100, 3) := by decide +kernel
theorem dX7_plays_68 : decode cX7_plays 68 = .ok (.aload_n 0, 1) := by decide +kernel
theorem dX7_plays_69 : decode cX7_plays 69 = .ok (.iload_n 1, 1) := by decide +kernel
theorem dX7_plays_70 : decode cX7_plays 70 = .ok (.iconst 4, 1) := by decide +kernel
theorem dX7_plays_71 : decode cX7_plays 71 = .ok (.iload_n 3, 1) := by decide +kernel
theorem dX7_plays_72 : decode cX7_plays 72 = .ok (.invokevirtual 100, 3) := by decide +kernel
theorem dX7_plays_75 : decode cX7_plays 75 = .ok (.aload_n 0, 1) := by decide +kernel
theorem dX7_plays_76 : decode cX7_plays 76 = .ok (.iload_n 1, 1) := by decide +kernel
theorem dX7_plays_77 : decode cX7_plays 77 = .ok (.iconst 5, 1) := by decide +kernel
theorem dX7_plays_78 : decode cX7_plays 78 = .ok (.iload_n 2, 1) := by decide +kernel
theorem dX7_plays_79 : decode cX7_plays 79 = .ok (.iconst (-1), 1) := by decide +kernel
theorem dX7_plays_80 : decode cX7_plays 80 = .ok (.if_icmp .eq 19, 3) := by decide +kernel
theorem dX7_plays_83 : decode cX7_plays 83 = .ok (.iload_n 3, 1) := by decide +kernel
theorem dX7_plays_84 : decode cX7_plays 84 = .ok (.invokestatic 67, 3) := by decide +kernel
theorem dX7_plays_87 : decode cX7_plays 87 = .ok (.aload_n 0, 1) := by decide +kernel
theorem dX7_plays_88 : decode cX7_plays 88 = .ok (.iconst 2, 1) := by decide +kernel
theorem dX7_plays_89 : decode cX7_plays 89 = .ok (.invokevirtual 78, 3) := by decide +kernel
theorem dX7_plays_92 : decode cX7_plays 92 = .ok (.if_icmp .gt 7, 3) := by decide +kernel
theorem dX7_plays_95 : decode cX7_plays 95 = .ok (.iconst 1, 1) := by decide +kernel
theorem dX7_plays_96 : decode cX7_plays 96 = .ok (.goto 4, 3) := by decide +kernel
theorem dX7_plays_99 : decode cX7_plays 99 = .ok (.iconst 0, 1) := by decide +kernel
theorem dX7_plays_100 : decode cX7_plays 100 = .ok (.invokevirtual 100, 3) := by decide +kernel
theorem dX7_plays_103 : decode cX7_plays 103 = .ok (.return_, 1) := by decide +kernel
theorem dX7_second_0 : decode cX7_second 0 = .ok (.aload_n 0, 1) := by decide +kernel
theorem dX7_second_1 : decode cX7_second 1 = .ok (.getfield 7, 3) := by decide +kernel
theorem dX7_second_4 : decode cX7_second 4 = .ok (.iconst 0, 1) := by decide +kernel
theorem dX7_second_5 : decode cX7_second 5 = .ok (.dup2, 1) := by decide +kernel
theorem dX7_second_6 : decode cX7_second 6 = .ok (.iaload, 1) := by decide +kernel
theorem dX7_second_7 : decode cX7_second 7 = .ok (.iconst 1, 1) := by decide +kernel
theorem dX7_second_8 : decode cX7_second 8 = .ok (.iadd, 1) := by decide +kernel
theorem dX7_second_9 : decode cX7_second 9 = .ok (.iastore, 1) := by decide +kernel
theorem dX7_second_10 : decode cX7_second 10 = .ok (.aload_n 0, 1) := by decide +kernel
theorem dX7_second_11 : decode cX7_second 11 = .ok (.getfield 7, 3) := by decide +kernel
theorem dX7_second_14 : decode cX7_second 14 = .ok (.iconst 0, 1) := by decide +kernel
theorem dX7_second_15 : decode cX7_second 15 = .ok (.iaload, 1) := by decide +kernel
theorem dX7_second_16 : decode cX7_second 16 = .ok (.aload_n 0, 1) := by decide +kernel
theorem dX7_second_17 : decode cX7_second 17 = .ok (.iconst 0, 1) := by decide +kernel
theorem dX7_second_18 : decode cX7_second 18 = .ok (.invokevirtual 78, 3) := by decide +kernel
theorem dX7_second_21 : decode cX7_second 21 = .ok (.irem, 1) := by decide +kernel
theorem dX7_second_22 : decode cX7_second 22 = .ok (.ifCond .ne 7, 3) := by decide +kernel
theorem dX7_second_25 : decode cX7_second 25 = .ok (.aload_n 0, 1) := by decide +kernel
theorem dX7_second_26 : decode cX7_second 26 = .ok (.invokevirtual 115, 3) := by decide +kernel
theorem dX7_second_29 : decode cX7_second 29 = .ok (.aload_n 0, 1) := by decide +kernel
theorem dX7_second_30 : decode cX7_second 30 = .ok (.aload_n 0, 1) := by decide +kernel
theorem dX7_second_31 : decode cX7_second 31 = .ok (.getfield 7, 3) := by decide +kernel
theorem dX7_second_34 : decode cX7_second 34 = .ok (.iconst 0, 1) := by decide +kernel
theorem dX7_second_35 : decode cX7_second 35 = .ok (.iaload, 1) := by decide +kernel
theorem dX7_second_36 : decode cX7_second 36 = .ok (.invokevirtual 103, 3) := by decide +kernel
theorem dX7_second_39 : decode cX7_second 39 = .ok (.istore_n 1, 1) := by decide +kernel
theorem dX7_second_40 : decode cX7_second 40 = .ok (.iload_n 1, 1) := by decide +kernel
theorem dX7_second_41 : decode cX7_second 41 = .ok (.ifCond .lt 8, 3) := by decide +kernel
theorem dX7_second_44 : decode cX7_second 44 = .ok (.aload_n 0, 1) := by decide +kernel
theorem dX7_second_45 : decode cX7_second 45 = .ok (.iload_n 1, 1) := by decide +kernel
theorem dX7_second_46 : decode cX7_second 46 = .ok (.invokevirtual 118, 3) := by decide +kernel
theorem dX7_second_49 : decode cX7_second 49 = .ok (.iload_n 1, 1) := by decide +kernel
theorem dX7_second_50 : decode cX7_second 50 = .ok (.ireturn, 1) := by decide +kernel
theorem dX7_run_0 : decode cX7_run 0 = .ok (.iload_n 1, 1) := by decide +kernel
theorem dX7_run_1 : decode cX7_run 1 = .ok (.iconst 1, 1) := by decide +kernel
theorem dX7_run_2 : decode cX7_run 2 = .ok (.sipush 600, 3) := by decide +kernel
theorem dX7_run_5 : decode cX7_run 5 = .ok (.invokestatic 25, 3) := by decide +kernel
theorem dX7_run_8 : decode cX7_run 8 = .ok (.ifCond .ne 6, 3) := by decide +kernel
theorem dX7_run_11 : decode cX7_run 11 = .ok (.ldc 51, 2) := by decide +kernel
theorem dX7_run_13 : decode cX7_run 13 = .ok (.ireturn, 1) := by decide +kernel
theorem dX7_run_14 : decode cX7_run 14 = .ok (.aload_n 0, 1) := by decide +kernel
theorem dX7_run_15 : decode cX7_run 15 = .ok (.getfield 7, 3) := by decide +kernel
theorem dX7_run_18 : decode cX7_run 18 = .ok (.iconst 0, 1) := by decide +kernel
theorem dX7_run_19 : decode cX7_run 19 = .ok (.iaload, 1) := by decide +kernel
theorem dX7_run_20 : decode cX7_run 20 = .ok (.iload_n 1, 1) := by decide +kernel
theorem dX7_run_21 : decode cX7_run 21 = .ok (.iadd, 1) := by decide +kernel
theorem dX7_run_22 : decode cX7_run 22 = .ok (.sipush 3600, 3) := by decide +kernel
theorem dX7_run_25 : decode cX7_run 25 = .ok (.if_icmp .le 6, 3) := by decide +kernel
theorem dX7_run_28 : decode cX7_run 28 = .ok (.ldc 52, 2) := by decide +kernel
theorem dX7_run_30 : decode cX7_run 30 = .ok (.ireturn, 1) := by decide +kernel
theorem dX7_run_31 : decode cX7_run 31 = .ok (.aload_n 0, 1) := by decide +kernel
theorem dX7_run_32 : decode cX7_run 32 = .ok (.invokevirtual 53, 3) := by decide +kernel
theorem dX7_run_35 : decode cX7_run 35 = .ok (.iconst 0, 1) := by decide +kernel
theorem dX7_run_36 : decode cX7_run 36 = .ok (.istore_n 2, 1) := by decide +kernel
theorem dX7_run_37 : decode cX7_run 37 = .ok (.iconst 0, 1) := by decide +kernel
theorem dX7_run_38 : decode cX7_run 38 = .ok (.istore_n 3, 1) := by decide +kernel
theorem dX7_run_39 : decode cX7_run 39 = .ok (.iload_n 3, 1) := by decide +kernel
theorem dX7_run_40 : decode cX7_run 40 = .ok (.iload_n 1, 1) := by decide +kernel
theorem dX7_run_41 : decode cX7_run 41 = .ok (.if_icmp .ge 24, 3) := by decide +kernel
theorem dX7_run_44 : decode cX7_run 44 = .ok (.iload_n 2, 1) := by decide +kernel
theorem dX7_run_45 : decode cX7_run 45 = .ok (.aload_n 0, 1) := by decide +kernel
theorem dX7_run_46 : decode cX7_run 46 = .ok (.invokevirtual 122, 3) := by decide +kernel
theorem dX7_run_49 : decode cX7_run 49 = .ok (.ifCond .lt 7, 3) := by decide +kernel
theorem dX7_run_52 : decode cX7_run 52 = .ok (.iconst 1, 1) := by decide +kernel
theorem dX7_run_53 : decode cX7_run 53 = .ok (.goto 4, 3) := by decide +kernel
theorem dX7_run_56 : decode cX7_run 56 = .ok (.iconst 0, 1) := by decide +kernel
theorem dX7_run_57 : decode cX7_run 57 = .ok (.iadd, 1) := by decide +kernel
theorem dX7_run_58 : decode cX7_run 58 = .ok (.istore_n 2, 1) := by decide +kernel
theorem dX7_run_59 : decode cX7_run 59 = .ok (.iinc 3 1, 3) := by decide +kernel
theorem dX7_run_62 : decode cX7_run 62 = .ok (.goto (-23), 3) := by decide +kernel
theorem dX7_run_65 : decode cX7_run 65 = .ok (.iload_n 2, 1) := by decide +kernel
theorem dX7_run_66 : decode cX7_run 66 = .ok (.ireturn, 1) := by decide +kernel
theorem dX7_rewind_0 : decode cX7_rewind 0 = .ok (.aload_n 0, 1) := by decide +kernel
theorem dX7_rewind_1 : decode cX7_rewind 1 = .ok (.invokevirtual 53, 3) := by decide +kernel
theorem dX7_rewind_4 : decode cX7_rewind 4 = .ok (.aload_n 0, 1) := by decide +kernel
theorem dX7_rewind_5 : decode cX7_rewind 5 = .ok (.getfield 7, 3) := by decide +kernel
theorem dX7_rewind_8 : decode cX7_rewind 8 = .ok (.iconst 0, 1) := by decide +kernel
theorem dX7_rewind_9 : decode cX7_rewind 9 = .ok (.iaload, 1) := by decide +kernel
theorem dX7_rewind_10 : decode cX7_rewind 10 = .ok (.istore_n 1, 1) := by decide +kernel
theorem dX7_rewind_11 : decode cX7_rewind 11 = .ok (.aload_n 0, 1) := by decide +kernel
theorem dX7_rewind_12 : decode cX7_rewind 12 = .ok (.getfield 7, 3) := by decide +kernel
theorem dX7_rewind_15 : decode cX7_rewind 15 = .ok (.iconst 0, 1) := by decide +kernel
theorem dX7_rewind_16 : decode cX7_rewind 16 = .ok (.iconst 0, 1) := by decide +kernel
theorem dX7_rewind_17 : decode cX7_rewind 17 = .ok (.iastore, 1) := by decide +kernel
theorem dX7_rewind_18 : decode cX7_rewind 18 = .ok (.iconst 0, 1) := by decide +kernel
theorem dX7_rewind_19 : decode cX7_rewind 19 = .ok (.istore_n 2, 1) := by decide +kernel
theorem dX7_rewind_20 : decode cX7_rewind 20 = .ok (.iload_n 2, 1) := by decide +kernel
theorem dX7_rewind_21 : decode cX7_rewind 21 = .ok (.aload_n 0, 1) := by decide +kernel
theorem dX7_rewind_22 : decode cX7_rewind 22 = .ok (.getfield 7, 3) := by decide +kernel
theorem dX7_rewind_25 : decode cX7_rewind 25 = .ok (.iconst 2, 1) := by decide +kernel
theorem dX7_rewind_26 : decode cX7_rewind 26 = .ok (.iaload, 1) := by decide +kernel
theorem dX7_rewind_27 : decode cX7_rewind 27 = .ok (.if_icmp .ge 23, 3) := by decide +kernel
theorem dX7_rewind_30 : decode cX7_rewind 30 = .ok (.aload_n 0, 1) := by decide +kernel
theorem dX7_rewind_31 : decode cX7_rewind 31 = .ok (.iload_n 2, 1) := by decide +kernel
theorem dX7_rewind_32 : decode cX7_rewind 32 = .ok (.iconst 2, 1) := by decide +kernel
theorem dX7_rewind_33 : decode cX7_rewind 33 = .ok (.iconst 0, 1) := by decide +kernel
theorem dX7_rewind_34 : decode cX7_rewind 34 = .ok (.invokevirtual 100, 3) := by decide +kernel
theorem dX7_rewind_37 : decode cX7_rewind 37 = .ok (.aload_n 0, 1) := by decide +kernel
theorem dX7_rewind_38 : decode cX7_rewind 38 = .ok (.iload_n 2, 1) := by decide +kernel
theorem dX7_rewind_39 : decode cX7_rewind 39 = .ok (.iconst 3, 1) := by decide +kernel
theorem dX7_rewind_40 : decode cX7_rewind 40 = .ok (.iconst (-1), 1) := by decide +kernel
theorem dX7_rewind_41 : decode cX7_rewind 41 = .ok (.invokevirtual 100, 3) := by decide +kernel
theorem dX7_rewind_44 : decode cX7_rewind 44 = .ok (.iinc 2 1, 3) := by decide +kernel
theorem dX7_rewind_47 : decode cX7_rewind 47 = .ok (.goto (-27), 3) := by decide +kernel
theorem dX7_rewind_50 : decode cX7_rewind 50 = .ok (.iload_n 1, 1) := by decide +kernel
theorem dX7_rewind_51 : decode cX7_rewind 51 = .ok (.ireturn, 1) := by decide +kernel
theorem dX7_hasSounded_0 : decode cX7_hasSounded 0 = .ok (.aload_n 0, 1) := by decide +kernel
theorem dX7_hasSounded_1 : decode cX7_hasSounded 1 = .ok (.iload_n 1, 1) := by decide +kernel
theorem dX7_hasSounded_2 : decode cX7_hasSounded 2 = .ok (.iconst 2, 1) := by decide +kernel
theorem dX7_hasSounded_3 : decode cX7_hasSounded 3 = .ok (.invokevirtual 81, 3) := by decide +kernel
theorem dX7_hasSounded_6 : decode cX7_hasSounded 6 = .ok (.iconst 1, 1) := by decide +kernel
theorem dX7_hasSounded_7 : decode cX7_hasSounded 7 = .ok (.if_icmp .ne 17, 3) := by decide +kernel
theorem dX7_hasSounded_10 : decode cX7_hasSounded 10 = .ok (.aload_n 0, 1) := by decide +kernel
theorem dX7_hasSounded_11 : decode cX7_hasSounded 11 = .ok (.iload_n 1, 1) := by decide +kernel
theorem dX7_hasSounded_12 : decode cX7_hasSounded 12 = .ok (.iconst 3, 1) := by decide +kernel
theorem dX7_hasSounded_13 : decode cX7_hasSounded 13 = .ok (.invokevirtual 81, 3) := by decide +kernel
theorem dX7_hasSounded_16 : decode cX7_hasSounded 16 = .ok (.iconst (-1), 1) := by decide +kernel
theorem dX7_hasSounded_17 : decode cX7_hasSounded 17 = .ok (.if_icmp .eq 7, 3) := by decide +kernel
theorem dX7_hasSounded_20 : decode cX7_hasSounded 20 = .ok (.iconst 1, 1) := by decide +kernel
theorem dX7_hasSounded_21 : decode cX7_hasSounded 21 = .ok (.goto 4, 3) := by decide +kernel
theorem dX7_hasSounded_24 : decode cX7_hasSounded 24 = .ok (.iconst 0, 1) := by decide +kernel
theorem dX7_hasSounded_25 : decode cX7_hasSounded 25 = .ok (.ireturn, 1) := by decide +kernel
theorem dX7_standAhead_0 : decode cX7_standAhead 0 = .ok (.iconst 0, 1) := by decide +kernel
theorem dX7_standAhead_1 : decode cX7_standAhead 1 = .ok (.istore_n 2, 1) := by decide +kernel
theorem dX7_standAhead_2 : decode cX7_standAhead 2 = .ok (.iconst 0, 1) := by decide +kernel
theorem dX7_standAhead_3 : decode cX7_standAhead 3 = .ok (.istore_n 3, 1) := by decide +kernel
theorem dX7_standAhead_4 : decode cX7_standAhead 4 = .ok (.iload_n 3, 1) := by decide +kernel
theorem dX7_standAhead_5 : decode cX7_standAhead 5 = .ok (.aload_n 0, 1) := by decide +kernel
theorem dX7_standAhead_6 : decode cX7_standAhead 6 = .ok (.getfield 7, 3) := by decide +kernel
theorem dX7_standAhead_9 : decode cX7_standAhead 9 = .ok (.iconst 2, 1) := by decide +kernel
theorem dX7_standAhead_10 : decode cX7_standAhead 10 = .ok (.iaload, 1) := by decide +kernel
theorem dX7_standAhead_11 : decode cX7_standAhead 11 = .ok (.if_icmp .ge 61, 3) := by decide +kernel
theorem dX7_standAhead_14 : decode cX7_standAhead 14 = .ok (.aload_n 0, 1) := by decide +kernel
theorem dX7_standAhead_15 : decode cX7_standAhead 15 = .ok (.iload_n 3, 1) := by decide +kernel
theorem dX7_standAhead_16 : decode cX7_standAhead 16 = .ok (.iconst 4, 1) := by decide +kernel
theorem dX7_standAhead_17 : decode cX7_standAhead 17 = .ok (.invokevirtual 81, 3) := by decide +kernel
theorem dX7_standAhead_20 : decode cX7_standAhead 20 = .ok (.invokestatic 67, 3) := by decide +kernel
theorem dX7_standAhead_23 : decode cX7_standAhead 23 = .ok (.aload_n 0, 1) := by decide +kernel
theorem dX7_standAhead_24 : decode cX7_standAhead 24 = .ok (.iload_n 1, 1) := by decide +kernel
theorem dX7_standAhead_25 : decode cX7_standAhead 25 = .ok (.iconst 4, 1) := by decide +kernel
theorem dX7_standAhead_26 : decode cX7_standAhead 26 = .ok (.invokevirtual 81, 3) := by decide +kernel
theorem dX7_standAhead_29 : decode cX7_standAhead 29 = .ok (.invokestatic 67, 3) := by decide +kernel
theorem dX7_standAhead_32 : decode cX7_standAhead 32 = .ok (.isub, 1) := by decide +kernel
theorem dX7_standAhead_33 : decode cX7_standAhead 33 = .ok (.istore 4, 2) := by decide +kernel
theorem dX7_standAhead_35 : decode cX7_standAhead 35 = .ok (.iload_n 2, 1) := by decide +kernel
theorem dX7_standAhead_36 : decode cX7_standAhead 36 = .ok (.aload_n 0, 1) := by decide +kernel
theorem dX7_standAhead_37 : decode cX7_standAhead 37 = .ok (.iload_n 3, 1) := by decide +kernel
theorem dX7_standAhead_38 : decode cX7_standAhead 38 = .ok (.invokevirtual 125, 3) := by decide +kernel
theorem dX7_standAhead_41 : decode cX7_standAhead 41 = .ok (.ifCond .eq 22, 3) := by decide +kernel
theorem dX7_standAhead_44 : decode cX7_standAhead 44 = .ok (.iload 4, 2) := by decide +kernel
theorem dX7_standAhead_46 : decode cX7_standAhead 46 = .ok (.ifCond .gt 13, 3) := by decide +kernel
theorem dX7_standAhead_49 : decode cX7_standAhead 49 = .ok (.iload 4, 2) := by decide +kernel
theorem dX7_standAhead_51 : decode cX7_standAhead 51 = .ok (.ifCond .ne 12, 3) := by decide +kernel
theorem dX7_standAhead_54 : decode cX7_standAhead 54 = .ok (.iload_n 3, 1) := by decide +kernel
theorem dX7_standAhead_55 : decode cX7_standAhead 55 = .ok (.iload_n 1, 1) := by decide +kernel
theorem dX7_standAhead_56 : decode cX7_standAhead 56 = .ok (.if_icmp .ge 7, 3) := by decide +kernel
theorem dX7_standAhead_59 : decode cX7_standAhead 59 = .ok (.iconst 1, 1) := by decide +kernel
theorem dX7_standAhead_60 : decode cX7_standAhead 60 = .ok (.goto 4, 3) := by decide +kernel
theorem dX7_standAhead_63 : decode cX7_standAhead 63 = .ok (.iconst 0, 1) := by decide +kernel
theorem dX7_standAhead_64 : decode cX7_standAhead 64 = .ok (.iadd, 1) := by decide +kernel
theorem dX7_standAhead_65 : decode cX7_standAhead 65 = .ok (.istore_n 2, 1) := by decide +kernel
theorem dX7_standAhead_66 : decode cX7_standAhead 66 = .ok (.iinc 3 1, 3) := by decide +kernel
theorem dX7_standAhead_69 : decode cX7_standAhead 69 = .ok (.goto (-65), 3) := by decide +kernel
theorem dX7_standAhead_72 : decode cX7_standAhead 72 = .ok (.iload_n 2, 1) := by decide +kernel
theorem dX7_standAhead_73 : decode cX7_standAhead 73 = .ok (.ireturn, 1) := by decide +kernel
theorem dX7_worst_0 : decode cX7_worst 0 = .ok (.iload_n 1, 1) := by decide +kernel
theorem dX7_worst_1 : decode cX7_worst 1 = .ok (.ifCond .ge 6, 3) := by decide +kernel
theorem dX7_worst_4 : decode cX7_worst 4 = .ok (.ldc 51, 2) := by decide +kernel
theorem dX7_worst_6 : decode cX7_worst 6 = .ok (.ireturn, 1) := by decide +kernel
theorem dX7_worst_7 : decode cX7_worst 7 = .ok (.iconst 0, 1) := by decide +kernel
theorem dX7_worst_8 : decode cX7_worst 8 = .ok (.istore_n 2, 1) := by decide +kernel
theorem dX7_worst_9 : decode cX7_worst 9 = .ok (.iload_n 2, 1) := by decide +kernel
theorem dX7_worst_10 : decode cX7_worst 10 = .ok (.aload_n 0, 1) := by decide +kernel
theorem dX7_worst_11 : decode cX7_worst 11 = .ok (.getfield 7, 3) := by decide +kernel
theorem dX7_worst_14 : decode cX7_worst 14 = .ok (.iconst 2, 1) := by decide +kernel
theorem dX7_worst_15 : decode cX7_worst 15 = .ok (.iaload, 1) := by decide +kernel
theorem dX7_worst_16 : decode cX7_worst 16 = .ok (.if_icmp .ge 28, 3) := by decide +kernel
theorem dX7_worst_19 : decode cX7_worst 19 = .ok (.aload_n 0, 1) := by decide +kernel
theorem dX7_worst_20 : decode cX7_worst 20 = .ok (.iload_n 2, 1) := by decide +kernel
theorem dX7_worst_21 : decode cX7_worst 21 = .ok (.invokevirtual 125, 3) := by decide +kernel
theorem dX7_worst_24 : decode cX7_worst 24 = .ok (.ifCond .eq 14, 3) := by decide +kernel
theorem dX7_worst_27 : decode cX7_worst 27 = .ok (.aload_n 0, 1) := by decide +kernel
theorem dX7_worst_28 : decode cX7_worst 28 = .ok (.iload_n 2, 1) := by decide +kernel
theorem dX7_worst_29 : decode cX7_worst 29 = .ok (.invokevirtual 128, 3) := by decide +kernel
theorem dX7_worst_32 : decode cX7_worst 32 = .ok (.iload_n 1, 1) := by decide +kernel
theorem dX7_worst_33 : decode cX7_worst 33 = .ok (.if_icmp .ne 5, 3) := by decide +kernel
theorem dX7_worst_36 : decode cX7_worst 36 = .ok (.iload_n 2, 1) := by decide +kernel
theorem dX7_worst_37 : decode cX7_worst 37 = .ok (.ireturn, 1) := by decide +kernel
theorem dX7_worst_38 : decode cX7_worst 38 = .ok (.iinc 2 1, 3) := by decide +kernel
theorem dX7_worst_41 : decode cX7_worst 41 = .ok (.goto (-32), 3) := by decide +kernel
theorem dX7_worst_44 : decode cX7_worst 44 = .ok (.ldc 70, 2) := by decide +kernel
theorem dX7_worst_46 : decode cX7_worst 46 = .ok (.ireturn, 1) := by decide +kernel
theorem dX7_isToCome_0 : decode cX7_isToCome 0 = .ok (.aload_n 0, 1) := by decide +kernel
theorem dX7_isToCome_1 : decode cX7_isToCome 1 = .ok (.iload_n 1, 1) := by decide +kernel
theorem dX7_isToCome_2 : decode cX7_isToCome 2 = .ok (.iconst 0, 1) := by decide +kernel
theorem dX7_isToCome_3 : decode cX7_isToCome 3 = .ok (.invokevirtual 81, 3) := by decide +kernel
theorem dX7_isToCome_6 : decode cX7_isToCome 6 = .ok (.aload_n 0, 1) := by decide +kernel
theorem dX7_isToCome_7 : decode cX7_isToCome 7 = .ok (.getfield 7, 3) := by decide +kernel
theorem dX7_isToCome_10 : decode cX7_isToCome 10 = .ok (.iconst 0, 1) := by decide +kernel
theorem dX7_isToCome_11 : decode cX7_isToCome 11 = .ok (.iaload, 1) := by decide +kernel
theorem dX7_isToCome_12 : decode cX7_isToCome 12 = .ok (.if_icmp .le 7, 3) := by decide +kernel
theorem dX7_isToCome_15 : decode cX7_isToCome 15 = .ok (.iconst 1, 1) := by decide +kernel
theorem dX7_isToCome_16 : decode cX7_isToCome 16 = .ok (.goto 4, 3) := by decide +kernel
theorem dX7_isToCome_19 : decode cX7_isToCome 19 = .ok (.iconst 0, 1) := by decide +kernel
theorem dX7_isToCome_20 : decode cX7_isToCome 20 = .ok (.ireturn, 1) := by decide +kernel
theorem dX7_goesTo_0 : decode cX7_goesTo 0 = .ok (.aload_n 0, 1) := by decide +kernel
theorem dX7_goesTo_1 : decode cX7_goesTo 1 = .ok (.getfield 7, 3) := by decide +kernel
theorem dX7_goesTo_4 : decode cX7_goesTo 4 = .ok (.iconst 0, 1) := by decide +kernel
theorem dX7_goesTo_5 : decode cX7_goesTo 5 = .ok (.iaload, 1) := by decide +kernel
theorem dX7_goesTo_6 : decode cX7_goesTo 6 = .ok (.iload_n 1, 1) := by decide +kernel
theorem dX7_goesTo_7 : decode cX7_goesTo 7 = .ok (.if_icmp .ge 11, 3) := by decide +kernel
theorem dX7_goesTo_10 : decode cX7_goesTo 10 = .ok (.aload_n 0, 1) := by decide +kernel
theorem dX7_goesTo_11 : decode cX7_goesTo 11 = .ok (.invokevirtual 122, 3) := by decide +kernel
theorem dX7_goesTo_14 : decode cX7_goesTo 14 = .ok (.istore_n 2, 1) := by decide +kernel
theorem dX7_goesTo_15 : decode cX7_goesTo 15 = .ok (.goto (-15), 3) := by decide +kernel
theorem dX7_goesTo_18 : decode cX7_goesTo 18 = .ok (.return_, 1) := by decide +kernel
theorem dX7_wouldBe_0 : decode cX7_wouldBe 0 = .ok (.aload_n 0, 1) := by decide +kernel
theorem dX7_wouldBe_1 : decode cX7_wouldBe 1 = .ok (.iload_n 1, 1) := by decide +kernel
theorem dX7_wouldBe_2 : decode cX7_wouldBe 2 = .ok (.invokevirtual 109, 3) := by decide +kernel
theorem dX7_wouldBe_5 : decode cX7_wouldBe 5 = .ok (.ifCond .ne 6, 3) := by decide +kernel
theorem dX7_wouldBe_8 : decode cX7_wouldBe 8 = .ok (.ldc 51, 2) := by decide +kernel
theorem dX7_wouldBe_10 : decode cX7_wouldBe 10 = .ok (.ireturn, 1) := by decide +kernel
theorem dX7_wouldBe_11 : decode cX7_wouldBe 11 = .ok (.aload_n 0, 1) := by decide +kernel
theorem dX7_wouldBe_12 : decode cX7_wouldBe 12 = .ok (.iload_n 1, 1) := by decide +kernel
theorem dX7_wouldBe_13 : decode cX7_wouldBe 13 = .ok (.invokevirtual 131, 3) := by decide +kernel
theorem dX7_wouldBe_16 : decode cX7_wouldBe 16 = .ok (.ifCond .ne 6, 3) := by decide +kernel
theorem dX7_wouldBe_19 : decode cX7_wouldBe 19 = .ok (.ldc 33, 2) := by decide +kernel
theorem dX7_wouldBe_21 : decode cX7_wouldBe 21 = .ok (.ireturn, 1) := by decide +kernel
theorem dX7_wouldBe_22 : decode cX7_wouldBe 22 = .ok (.aload_n 0, 1) := by decide +kernel
theorem dX7_wouldBe_23 : decode cX7_wouldBe 23 = .ok (.getfield 7, 3) := by decide +kernel
theorem dX7_wouldBe_26 : decode cX7_wouldBe 26 = .ok (.iconst 1, 1) := by decide +kernel
theorem dX7_wouldBe_27 : decode cX7_wouldBe 27 = .ok (.iaload, 1) := by decide +kernel
theorem dX7_wouldBe_28 : decode cX7_wouldBe 28 = .ok (.ifCond .ne 6, 3) := by decide +kernel
theorem dX7_wouldBe_31 : decode cX7_wouldBe 31 = .ok (.ldc 70, 2) := by decide +kernel
theorem dX7_wouldBe_33 : decode cX7_wouldBe 33 = .ok (.ireturn, 1) := by decide +kernel
theorem dX7_wouldBe_34 : decode cX7_wouldBe 34 = .ok (.aload_n 0, 1) := by decide +kernel
theorem dX7_wouldBe_35 : decode cX7_wouldBe 35 = .ok (.invokevirtual 134, 3) := by decide +kernel
theorem dX7_wouldBe_38 : decode cX7_wouldBe 38 = .ok (.aload_n 0, 1) := by decide +kernel
theorem dX7_wouldBe_39 : decode cX7_wouldBe 39 = .ok (.aload_n 0, 1) := by decide +kernel
theorem dX7_wouldBe_40 : decode cX7_wouldBe 40 = .ok (.iload_n 1, 1) := by decide +kernel
theorem dX7_wouldBe_41 : decode cX7_wouldBe 41 = .ok (.iconst 0, 1) := by decide +kernel
theorem dX7_wouldBe_42 : decode cX7_wouldBe 42 = .ok (.invokevirtual 81, 3) := by decide +kernel
theorem dX7_wouldBe_45 : decode cX7_wouldBe 45 = .ok (.invokevirtual 137, 3) := by decide +kernel
theorem dX7_wouldBe_48 : decode cX7_wouldBe 48 = .ok (.aload_n 0, 1) := by decide +kernel
theorem dX7_wouldBe_49 : decode cX7_wouldBe 49 = .ok (.iload_n 1, 1) := by decide +kernel
theorem dX7_wouldBe_50 : decode cX7_wouldBe 50 = .ok (.iconst 4, 1) := by decide +kernel
theorem dX7_wouldBe_51 : decode cX7_wouldBe 51 = .ok (.invokevirtual 81, 3) := by decide +kernel
theorem dX7_wouldBe_54 : decode cX7_wouldBe 54 = .ok (.istore_n 2, 1) := by decide +kernel
theorem dX7_wouldBe_55 : decode cX7_wouldBe 55 = .ok (.aload_n 0, 1) := by decide +kernel
theorem dX7_wouldBe_56 : decode cX7_wouldBe 56 = .ok (.invokevirtual 140, 3) := by decide +kernel
theorem dX7_wouldBe_59 : decode cX7_wouldBe 59 = .ok (.iload_n 2, 1) := by decide +kernel
theorem dX7_wouldBe_60 : decode cX7_wouldBe 60 = .ok (.ireturn, 1) := by decide +kernel
theorem dX7_firstFalse_0 : decode cX7_firstFalse 0 = .ok (.aload_n 0, 1) := by decide +kernel
theorem dX7_firstFalse_1 : decode cX7_firstFalse 1 = .ok (.invokevirtual 134, 3) := by decide +kernel
theorem dX7_firstFalse_4 : decode cX7_firstFalse 4 = .ok (.ldc 70, 2) := by decide +kernel
theorem dX7_firstFalse_6 : decode cX7_firstFalse 6 = .ok (.istore_n 1, 1) := by decide +kernel
theorem dX7_firstFalse_7 : decode cX7_firstFalse 7 = .ok (.aload_n 0, 1) := by decide +kernel
theorem dX7_firstFalse_8 : decode cX7_firstFalse 8 = .ok (.getfield 7, 3) := by decide +kernel
theorem dX7_firstFalse_11 : decode cX7_firstFalse 11 = .ok (.iconst 1, 1) := by decide +kernel
theorem dX7_firstFalse_12 : decode cX7_firstFalse 12 = .ok (.iaload, 1) := by decide +kernel
theorem dX7_firstFalse_13 : decode cX7_firstFalse 13 = .ok (.ifCond .le 47, 3) := by decide +kernel
theorem dX7_firstFalse_16 : decode cX7_firstFalse 16 = .ok (.aload_n 0, 1) := by decide +kernel
theorem dX7_firstFalse_17 : decode cX7_firstFalse 17 = .ok (.getfield 7, 3) := by decide +kernel
theorem dX7_firstFalse_20 : decode cX7_firstFalse 20 = .ok (.iconst 0, 1) := by decide +kernel
theorem dX7_firstFalse_21 : decode cX7_firstFalse 21 = .ok (.iaload, 1) := by decide +kernel
theorem dX7_firstFalse_22 : decode cX7_firstFalse 22 = .ok (.sipush 3600, 3) := by decide +kernel
theorem dX7_firstFalse_25 : decode cX7_firstFalse 25 = .ok (.if_icmp .ge 35, 3) := by decide +kernel
theorem dX7_firstFalse_28 : decode cX7_firstFalse 28 = .ok (.iload_n 1, 1) := by decide +kernel
theorem dX7_firstFalse_29 : decode cX7_firstFalse 29 = .ok (.ifCond .ge 31, 3) := by decide +kernel
theorem dX7_firstFalse_32 : decode cX7_firstFalse 32 = .ok (.aload_n 0, 1) := by decide +kernel
theorem dX7_firstFalse_33 : decode cX7_firstFalse 33 = .ok (.invokevirtual 122, 3) := by decide +kernel
theorem dX7_firstFalse_36 : decode cX7_firstFalse 36 = .ok (.istore_n 2, 1) := by decide +kernel
theorem dX7_firstFalse_37 : decode cX7_firstFalse 37 = .ok (.iload_n 2, 1) := by decide +kernel
theorem dX7_firstFalse_38 : decode cX7_firstFalse 38 = .ok (.ifCond .lt 16, 3) := by decide +kernel
theorem dX7_firstFalse_41 : decode cX7_firstFalse 41 = .ok (.aload_n 0, 1) := by decide +kernel
theorem dX7_firstFalse_42 : decode cX7_firstFalse 42 = .ok (.iload_n 2, 1) := by decide +kernel
theorem dX7_firstFalse_43 : decode cX7_firstFalse 43 = .ok (.iconst 5, 1) := by decide +kernel
theorem dX7_firstFalse_44 : decode cX7_firstFalse 44 = .ok (.invokevirtual 81, 3) := by decide +kernel
theorem dX7_firstFalse_47 : decode cX7_firstFalse 47 = .ok (.ifCond .ne 7, 3) := by decide +kernel
theorem dX7_firstFalse_50 : decode cX7_firstFalse 50 = .ok (.iload_n 2, 1) := by decide +kernel
theorem dX7_firstFalse_51 : decode cX7_firstFalse 51 = .ok (.goto 5, 3) := by decide +kernel
theorem dX7_firstFalse_54 : decode cX7_firstFalse 54 = .ok (.ldc 70, 2) := by decide +kernel
theorem dX7_firstFalse_56 : decode cX7_firstFalse 56 = .ok (.istore_n 1, 1) := by decide +kernel
theorem dX7_firstFalse_57 : decode cX7_firstFalse 57 = .ok (.goto (-50), 3) := by decide +kernel
theorem dX7_firstFalse_60 : decode cX7_firstFalse 60 = .ok (.aload_n 0, 1) := by decide +kernel
theorem dX7_firstFalse_61 : decode cX7_firstFalse 61 = .ok (.invokevirtual 140, 3) := by decide +kernel
theorem dX7_firstFalse_64 : decode cX7_firstFalse 64 = .ok (.iload_n 1, 1) := by decide +kernel
theorem dX7_firstFalse_65 : decode cX7_firstFalse 65 = .ok (.ireturn, 1) := by decide +kernel
theorem dX7_leastTolerance_0 : decode cX7_leastTolerance 0 = .ok (.aload_n 0, 1) := by decide +kernel
theorem dX7_leastTolerance_1 : decode cX7_leastTolerance 1 = .ok (.invokevirtual 134, 3) := by decide +kernel
theorem dX7_leastTolerance_4 : decode cX7_leastTolerance 4 = .ok (.ldc 70, 2) := by decide +kernel
theorem dX7_leastTolerance_6 : decode cX7_leastTolerance 6 = .ok (.istore_n 1, 1) := by decide +kernel
theorem dX7_leastTolerance_7 : decode cX7_leastTolerance 7 = .ok (.aload_n 0, 1) := by decide +kernel
theorem dX7_leastTolerance_8 : decode cX7_leastTolerance 8 = .ok (.getfield 7, 3) := by decide +kernel
theorem dX7_leastTolerance_11 : decode cX7_leastTolerance 11 = .ok (.iconst 1, 1) := by decide +kernel
theorem dX7_leastTolerance_12 : decode cX7_leastTolerance 12 = .ok (.iaload, 1) := by decide +kernel
theorem dX7_leastTolerance_13 : decode cX7_leastTolerance 13 = .ok (.ifCond .le 54, 3) := by decide +kernel
theorem dX7_leastTolerance_16 : decode cX7_leastTolerance 16 = .ok (.aload_n 0, 1) := by decide +kernel
theorem dX7_leastTolerance_17 : decode cX7_leastTolerance 17 = .ok (.getfield 7, 3) := by decide +kernel
theorem dX7_leastTolerance_20 : decode cX7_leastTolerance 20 = .ok (.iconst 0, 1) := by decide +kernel
theorem dX7_leastTolerance_21 : decode cX7_leastTolerance 21 = .ok (.iaload, 1) := by decide +kernel
theorem dX7_leastTolerance_22 : decode cX7_leastTolerance 22 = .ok (.sipush 3600, 3) := by decide +kernel
theorem dX7_leastTolerance_25 : decode cX7_leastTolerance 25 = .ok (.if_icmp .ge 42, 3) := by decide +kernel
theorem dX7_leastTolerance_28 : decode cX7_leastTolerance 28 = .ok (.aload_n 0, 1) := by decide +kernel
theorem dX7_leastTolerance_29 : decode cX7_leastTolerance 29 = .ok (.invokevirtual 122, 3) := by decide +kernel
theorem dX7_leastTolerance_32 : decode cX7_leastTolerance 32 = .ok (.istore_n 2, 1) := by decide +kernel
theorem dX7_leastTolerance_33 : decode cX7_leastTolerance 33 = .ok (.iload_n 2, 1) := by decide +kernel
theorem dX7_leastTolerance_34 : decode cX7_leastTolerance 34 = .ok (.ifCond .lt 28, 3) := by decide +kernel
theorem dX7_leastTolerance_37 : decode cX7_leastTolerance 37 = .ok (.aload_n 0, 1) := by decide +kernel
theorem dX7_leastTolerance_38 : decode cX7_leastTolerance 38 = .ok (.iload_n 2, 1) := by decide +kernel
theorem dX7_leastTolerance_39 : decode cX7_leastTolerance 39 = .ok (.iconst 4, 1) := by decide +kernel
theorem dX7_leastTolerance_40 : decode cX7_leastTolerance 40 = .ok (.invokevirtual 81, 3) := by decide +kernel
theorem dX7_leastTolerance_43 : decode cX7_leastTolerance 43 = .ok (.invokestatic 67, 3) := by decide +kernel
theorem dX7_leastTolerance_46 : decode cX7_leastTolerance 46 = .ok (.iload_n 1, 1) := by decide +kernel
theorem dX7_leastTolerance_47 : decode cX7_leastTolerance 47 = .ok (.if_icmp .le 15, 3) := by decide +kernel
theorem dX7_leastTolerance_50 : decode cX7_leastTolerance 50 = .ok (.aload_n 0, 1) := by decide +kernel
theorem dX7_leastTolerance_51 : decode cX7_leastTolerance 51 = .ok (.iload_n 2, 1) := by decide +kernel
theorem dX7_leastTolerance_52 : decode cX7_leastTolerance 52 = .ok (.iconst 4, 1) := by decide +kernel
theorem dX7_leastTolerance_53 : decode cX7_leastTolerance 53 = .ok (.invokevirtual 81, 3) := by decide +kernel
theorem dX7_leastTolerance_56 : decode cX7_leastTolerance 56 = .ok (.invokestatic 67, 3) := by decide +kernel
theorem dX7_leastTolerance_59 : decode cX7_leastTolerance 59 = .ok (.goto 4, 3) := by decide +kernel
theorem dX7_leastTolerance_62 : decode cX7_leastTolerance 62 = .ok (.iload_n 1, 1) := by decide +kernel
theorem dX7_leastTolerance_63 : decode cX7_leastTolerance 63 = .ok (.istore_n 1, 1) := by decide +kernel
theorem dX7_leastTolerance_64 : decode cX7_leastTolerance 64 = .ok (.goto (-57), 3) := by decide +kernel
theorem dX7_leastTolerance_67 : decode cX7_leastTolerance 67 = .ok (.aload_n 0, 1) := by decide +kernel
theorem dX7_leastTolerance_68 : decode cX7_leastTolerance 68 = .ok (.invokevirtual 140, 3) := by decide +kernel
theorem dX7_leastTolerance_71 : decode cX7_leastTolerance 71 = .ok (.iload_n 1, 1) := by decide +kernel
theorem dX7_leastTolerance_72 : decode cX7_leastTolerance 72 = .ok (.ireturn, 1) := by decide +kernel
theorem dX7_pitchAt_0 : decode cX7_pitchAt 0 = .ok (.aload_n 0, 1) := by decide +kernel
theorem dX7_pitchAt_1 : decode cX7_pitchAt 1 = .ok (.iload_n 1, 1) := by decide +kernel
theorem dX7_pitchAt_2 : decode cX7_pitchAt 2 = .ok (.invokevirtual 56, 3) := by decide +kernel
theorem dX7_pitchAt_5 : decode cX7_pitchAt 5 = .ok (.ifCond .eq 19, 3) := by decide +kernel
theorem dX7_pitchAt_8 : decode cX7_pitchAt 8 = .ok (.iload_n 2, 1) := by decide +kernel
theorem dX7_pitchAt_9 : decode cX7_pitchAt 9 = .ok (.aload_n 0, 1) := by decide +kernel
theorem dX7_pitchAt_10 : decode cX7_pitchAt 10 = .ok (.getfield 7, 3) := by decide +kernel
theorem dX7_pitchAt_13 : decode cX7_pitchAt 13 = .ok (.iconst 0, 1) := by decide +kernel
theorem dX7_pitchAt_14 : decode cX7_pitchAt 14 = .ok (.iaload, 1) := by decide +kernel
theorem dX7_pitchAt_15 : decode cX7_pitchAt 15 = .ok (.sipush 3600, 3) := by decide +kernel
theorem dX7_pitchAt_18 : decode cX7_pitchAt 18 = .ok (.invokestatic 25, 3) := by decide +kernel
theorem dX7_pitchAt_21 : decode cX7_pitchAt 21 = .ok (.ifCond .ne 6, 3) := by decide +kernel
theorem dX7_pitchAt_24 : decode cX7_pitchAt 24 = .ok (.ldc 51, 2) := by decide +kernel
theorem dX7_pitchAt_26 : decode cX7_pitchAt 26 = .ok (.ireturn, 1) := by decide +kernel
theorem dX7_pitchAt_27 : decode cX7_pitchAt 27 = .ok (.aload_n 0, 1) := by decide +kernel
theorem dX7_pitchAt_28 : decode cX7_pitchAt 28 = .ok (.invokevirtual 134, 3) := by decide +kernel
theorem dX7_pitchAt_31 : decode cX7_pitchAt 31 = .ok (.aload_n 0, 1) := by decide +kernel
theorem dX7_pitchAt_32 : decode cX7_pitchAt 32 = .ok (.iload_n 2, 1) := by decide +kernel
theorem dX7_pitchAt_33 : decode cX7_pitchAt 33 = .ok (.invokevirtual 137, 3) := by decide +kernel
theorem dX7_pitchAt_36 : decode cX7_pitchAt 36 = .ok (.aload_n 0, 1) := by decide +kernel
theorem dX7_pitchAt_37 : decode cX7_pitchAt 37 = .ok (.iload_n 1, 1) := by decide +kernel
theorem dX7_pitchAt_38 : decode cX7_pitchAt 38 = .ok (.invokevirtual 64, 3) := by decide +kernel
theorem dX7_pitchAt_41 : decode cX7_pitchAt 41 = .ok (.istore_n 3, 1) := by decide +kernel
theorem dX7_pitchAt_42 : decode cX7_pitchAt 42 = .ok (.aload_n 0, 1) := by decide +kernel
theorem dX7_pitchAt_43 : decode cX7_pitchAt 43 = .ok (.invokevirtual 140, 3) := by decide +kernel
theorem dX7_pitchAt_46 : decode cX7_pitchAt 46 = .ok (.iload_n 3, 1) := by decide +kernel
theorem dX7_pitchAt_47 : decode cX7_pitchAt 47 = .ok (.ireturn, 1) := by decide +kernel
theorem dX7_type_0 : decode cX7_type 0 = .ok (.iload_n 1, 1) := by decide +kernel
theorem dX7_type_1 : decode cX7_type 1 = .ok (.bipush 32, 2) := by decide +kernel
theorem dX7_type_3 : decode cX7_type 3 = .ok (.bipush 126, 2) := by decide +kernel
theorem dX7_type_5 : decode cX7_type 5 = .ok (.invokestatic 25, 3) := by decide +kernel
theorem dX7_type_8 : decode cX7_type 8 = .ok (.ifCond .ne 6, 3) := by decide +kernel
theorem dX7_type_11 : decode cX7_type 11 = .ok (.ldc 51, 2) := by decide +kernel
theorem dX7_type_13 : decode cX7_type 13 = .ok (.ireturn, 1) := by decide +kernel
theorem dX7_type_14 : decode cX7_type 14 = .ok (.aload_n 0, 1) := by decide +kernel
theorem dX7_type_15 : decode cX7_type 15 = .ok (.getfield 90, 3) := by decide +kernel
theorem dX7_type_18 : decode cX7_type 18 = .ok (.bipush 100, 2) := by decide +kernel
theorem dX7_type_20 : decode cX7_type 20 = .ok (.if_icmp .ne 6, 3) := by decide +kernel
theorem dX7_type_23 : decode cX7_type 23 = .ok (.ldc 52, 2) := by decide +kernel
theorem dX7_type_25 : decode cX7_type 25 = .ok (.ireturn, 1) := by decide +kernel
theorem dX7_type_26 : decode cX7_type 26 = .ok (.aload_n 0, 1) := by decide +kernel
theorem dX7_type_27 : decode cX7_type 27 = .ok (.getfield 19, 3) := by decide +kernel
theorem dX7_type_30 : decode cX7_type 30 = .ok (.aload_n 0, 1) := by decide +kernel
theorem dX7_type_31 : decode cX7_type 31 = .ok (.getfield 90, 3) := by decide +kernel
theorem dX7_type_34 : decode cX7_type 34 = .ok (.iload_n 1, 1) := by decide +kernel
theorem dX7_type_35 : decode cX7_type 35 = .ok (.iastore, 1) := by decide +kernel
theorem dX7_type_36 : decode cX7_type 36 = .ok (.aload_n 0, 1) := by decide +kernel
theorem dX7_type_37 : decode cX7_type 37 = .ok (.dup, 1) := by decide +kernel
theorem dX7_type_38 : decode cX7_type 38 = .ok (.getfield 90, 3) := by decide +kernel
theorem dX7_type_41 : decode cX7_type 41 = .ok (.iconst 1, 1) := by decide +kernel
theorem dX7_type_42 : decode cX7_type 42 = .ok (.iadd, 1) := by decide +kernel
theorem dX7_type_43 : decode cX7_type 43 = .ok (.putfield 90, 3) := by decide +kernel
theorem dX7_type_46 : decode cX7_type 46 = .ok (.aload_n 0, 1) := by decide +kernel
theorem dX7_type_47 : decode cX7_type 47 = .ok (.getfield 90, 3) := by decide +kernel
theorem dX7_type_50 : decode cX7_type 50 = .ok (.ireturn, 1) := by decide +kernel
theorem dX7_clearText_0 : decode cX7_clearText 0 = .ok (.aload_n 0, 1) := by decide +kernel
theorem dX7_clearText_1 : decode cX7_clearText 1 = .ok (.getfield 90, 3) := by decide +kernel
theorem dX7_clearText_4 : decode cX7_clearText 4 = .ok (.istore_n 1, 1) := by decide +kernel
theorem dX7_clearText_5 : decode cX7_clearText 5 = .ok (.aload_n 0, 1) := by decide +kernel
theorem dX7_clearText_6 : decode cX7_clearText 6 = .ok (.iconst 0, 1) := by decide +kernel
theorem dX7_clearText_7 : decode cX7_clearText 7 = .ok (.putfield 90, 3) := by decide +kernel
theorem dX7_clearText_10 : decode cX7_clearText 10 = .ok (.iload_n 1, 1) := by decide +kernel
theorem dX7_clearText_11 : decode cX7_clearText 11 = .ok (.ireturn, 1) := by decide +kernel
theorem dX7_takes_0 : decode cX7_takes 0 = .ok (.aload_n 0, 1) := by decide +kernel
theorem dX7_takes_1 : decode cX7_takes 1 = .ok (.getfield 143, 3) := by decide +kernel
theorem dX7_takes_4 : decode cX7_takes 4 = .ok (.aload_n 0, 1) := by decide +kernel
theorem dX7_takes_5 : decode cX7_takes 5 = .ok (.getfield 90, 3) := by decide +kernel
theorem dX7_takes_8 : decode cX7_takes 8 = .ok (.if_icmp .ge 20, 3) := by decide +kernel
theorem dX7_takes_11 : decode cX7_takes 11 = .ok (.aload_n 0, 1) := by decide +kernel
theorem dX7_takes_12 : decode cX7_takes 12 = .ok (.getfield 19, 3) := by decide +kernel
theorem dX7_takes_15 : decode cX7_takes 15 = .ok (.aload_n 0, 1) := by decide +kernel
theorem dX7_takes_16 : decode cX7_takes 16 = .ok (.getfield 143, 3) := by decide +kernel
theorem dX7_takes_19 : decode cX7_takes 19 = .ok (.iaload, 1) := by decide +kernel
theorem dX7_takes_20 : decode cX7_takes 20 = .ok (.iload_n 1, 1) := by decide +kernel
theorem dX7_takes_21 : decode cX7_takes 21 = .ok (.if_icmp .ne 7, 3) := by decide +kernel
theorem dX7_takes_24 : decode cX7_takes 24 = .ok (.iconst 1, 1) := by decide +kernel
theorem dX7_takes_25 : decode cX7_takes 25 = .ok (.goto 4, 3) := by decide +kernel
theorem dX7_takes_28 : decode cX7_takes 28 = .ok (.iconst 0, 1) := by decide +kernel
theorem dX7_takes_29 : decode cX7_takes 29 = .ok (.istore_n 2, 1) := by decide +kernel
theorem dX7_takes_30 : decode cX7_takes 30 = .ok (.aload_n 0, 1) := by decide +kernel
theorem dX7_takes_31 : decode cX7_takes 31 = .ok (.dup, 1) := by decide +kernel
theorem dX7_takes_32 : decode cX7_takes 32 = .ok (.getfield 143, 3) := by decide +kernel
theorem dX7_takes_35 : decode cX7_takes 35 = .ok (.iload_n 2, 1) := by decide +kernel
theorem dX7_takes_36 : decode cX7_takes 36 = .ok (.ifCond .eq 7, 3) := by decide +kernel
theorem dX7_takes_39 : decode cX7_takes 39 = .ok (.iconst 1, 1) := by decide +kernel
theorem dX7_takes_40 : decode cX7_takes 40 = .ok (.goto 4, 3) := by decide +kernel
theorem dX7_takes_43 : decode cX7_takes 43 = .ok (.iconst 0, 1) := by decide +kernel
theorem dX7_takes_44 : decode cX7_takes 44 = .ok (.iadd, 1) := by decide +kernel
theorem dX7_takes_45 : decode cX7_takes 45 = .ok (.putfield 143, 3) := by decide +kernel
theorem dX7_takes_48 : decode cX7_takes 48 = .ok (.iload_n 2, 1) := by decide +kernel
theorem dX7_takes_49 : decode cX7_takes 49 = .ok (.ireturn, 1) := by decide +kernel
theorem dX7_digits_0 : decode cX7_digits 0 = .ok (.iconst 0, 1) := by decide +kernel
theorem dX7_digits_1 : decode cX7_digits 1 = .ok (.istore_n 1, 1) := by decide +kernel
theorem dX7_digits_2 : decode cX7_digits 2 = .ok (.aload_n 0, 1) := by decide +kernel
theorem dX7_digits_3 : decode cX7_digits 3 = .ok (.getfield 143, 3) := by decide +kernel
theorem dX7_digits_6 : decode cX7_digits 6 = .ok (.istore_n 2, 1) := by decide +kernel
theorem dX7_digits_7 : decode cX7_digits 7 = .ok (.aload_n 0, 1) := by decide +kernel
theorem dX7_digits_8 : decode cX7_digits 8 = .ok (.getfield 143, 3) := by decide +kernel
theorem dX7_digits_11 : decode cX7_digits 11 = .ok (.iload_n 2, 1) := by decide +kernel
theorem dX7_digits_12 : decode cX7_digits 12 = .ok (.iconst 4, 1) := by decide +kernel
theorem dX7_digits_13 : decode cX7_digits 13 = .ok (.iadd, 1) := by decide +kernel
theorem dX7_digits_14 : decode cX7_digits 14 = .ok (.if_icmp .ge 64, 3) := by decide +kernel
theorem dX7_digits_17 : decode cX7_digits 17 = .ok (.aload_n 0, 1) := by decide +kernel
theorem dX7_digits_18 : decode cX7_digits 18 = .ok (.getfield 143, 3) := by decide +kernel
theorem dX7_digits_21 : decode cX7_digits 21 = .ok (.aload_n 0, 1) := by decide +kernel
theorem dX7_digits_22 : decode cX7_digits 22 = .ok (.getfield 90, 3) := by decide +kernel
theorem dX7_digits_25 : decode cX7_digits 25 = .ok (.if_icmp .ge 53, 3) := by decide +kernel
theorem dX7_digits_28 : decode cX7_digits 28 = .ok (.aload_n 0, 1) := by decide +kernel
theorem dX7_digits_29 : decode cX7_digits 29 = .ok (.getfield 19, 3) := by decide +kernel
theorem dX7_digits_32 : decode cX7_digits 32 = .ok (.aload_n 0, 1) := by decide +kernel
theorem dX7_digits_33 : decode cX7_digits 33 = .ok (.getfield 143, 3) := by decide +kernel
theorem dX7_digits_36 : decode cX7_digits 36 = .ok (.iaload, 1) := by decide +kernel
theorem dX7_digits_37 : decode cX7_digits 37 = .ok (.bipush 48, 2) := by decide +kernel
theorem dX7_digits_39 : decode cX7_digits 39 = .ok (.bipush 57, 2) := by decide +kernel
theorem dX7_digits_41 : decode cX7_digits 41 = .ok (.invokestatic 25, 3) := by decide +kernel
theorem dX7_digits_44 : decode cX7_digits 44 = .ok (.ifCond .eq 34, 3) := by decide +kernel
theorem dX7_digits_47 : decode cX7_digits 47 = .ok (.bipush 10, 2) := by decide +kernel
theorem dX7_digits_49 : decode cX7_digits 49 = .ok (.iload_n 1, 1) := by decide +kernel
theorem dX7_digits_50 : decode cX7_digits 50 = .ok (.imul, 1) := by decide +kernel
theorem dX7_digits_51 : decode cX7_digits 51 = .ok (.aload_n 0, 1) := by decide +kernel
theorem dX7_digits_52 : decode cX7_digits 52 = .ok (.getfield 19, 3) := by decide +kernel
theorem dX7_digits_55 : decode cX7_digits 55 = .ok (.aload_n 0, 1) := by decide +kernel
theorem dX7_digits_56 : decode cX7_digits 56 = .ok (.getfield 143, 3) := by decide +kernel
theorem dX7_digits_59 : decode cX7_digits 59 = .ok (.iaload, 1) := by decide +kernel
theorem dX7_digits_60 : decode cX7_digits 60 = .ok (.iadd, 1) := by decide +kernel
theorem dX7_digits_61 : decode cX7_digits 61 = .ok (.bipush 48, 2) := by decide +kernel
theorem dX7_digits_63 : decode cX7_digits 63 = .ok (.isub, 1) := by decide +kernel
theorem dX7_digits_64 : decode cX7_digits 64 = .ok (.istore_n 1, 1) := by decide +kernel
theorem dX7_digits_65 : decode cX7_digits 65 = .ok (.aload_n 0, 1) := by decide +kernel
theorem dX7_digits_66 : decode cX7_digits 66 = .ok (.dup, 1) := by decide +kernel
theorem dX7_digits_67 : decode cX7_digits 67 = .ok (.getfield 143, 3) := by decide +kernel
theorem dX7_digits_70 : decode cX7_digits 70 = .ok (.iconst 1, 1) := by decide +kernel
theorem dX7_digits_71 : decode cX7_digits 71 = .ok (.iadd, 1) := by decide +kernel
theorem dX7_digits_72 : decode cX7_digits 72 = .ok (.putfield 143, 3) := by decide +kernel
theorem dX7_digits_75 : decode cX7_digits 75 = .ok (.goto (-68), 3) := by decide +kernel
theorem dX7_digits_78 : decode cX7_digits 78 = .ok (.aload_n 0, 1) := by decide +kernel
theorem dX7_digits_79 : decode cX7_digits 79 = .ok (.getfield 143, 3) := by decide +kernel
theorem dX7_digits_82 : decode cX7_digits 82 = .ok (.iload_n 2, 1) := by decide +kernel
theorem dX7_digits_83 : decode cX7_digits 83 = .ok (.if_icmp .ne 7, 3) := by decide +kernel
theorem dX7_digits_86 : decode cX7_digits 86 = .ok (.iconst (-1), 1) := by decide +kernel
theorem dX7_digits_87 : decode cX7_digits 87 = .ok (.goto 4, 3) := by decide +kernel
theorem dX7_digits_90 : decode cX7_digits 90 = .ok (.iload_n 1, 1) := by decide +kernel
theorem dX7_digits_91 : decode cX7_digits 91 = .ok (.ireturn, 1) := by decide +kernel
theorem dX7_isFormed_0 : decode cX7_isFormed 0 = .ok (.aload_n 0, 1) := by decide +kernel
theorem dX7_isFormed_1 : decode cX7_isFormed 1 = .ok (.aload_n 0, 1) := by decide +kernel
theorem dX7_isFormed_2 : decode cX7_isFormed 2 = .ok (.invokevirtual 146, 3) := by decide +kernel
theorem dX7_isFormed_5 : decode cX7_isFormed 5 = .ok (.putfield 149, 3) := by decide +kernel
theorem dX7_isFormed_8 : decode cX7_isFormed 8 = .ok (.aload_n 0, 1) := by decide +kernel
theorem dX7_isFormed_9 : decode cX7_isFormed 9 = .ok (.getfield 149, 3) := by decide +kernel
theorem dX7_isFormed_12 : decode cX7_isFormed 12 = .ok (.ifCond .lt 12, 3) := by decide +kernel
theorem dX7_isFormed_15 : decode cX7_isFormed 15 = .ok (.aload_n 0, 1) := by decide +kernel
theorem dX7_isFormed_16 : decode cX7_isFormed 16 = .ok (.bipush 58, 2) := by decide +kernel
theorem dX7_isFormed_18 : decode cX7_isFormed 18 = .ok (.invokevirtual 152, 3) := by decide +kernel
theorem dX7_isFormed_21 : decode cX7_isFormed 21 = .ok (.ifCond .ne 5, 3) := by decide +kernel
theorem dX7_isFormed_24 : decode cX7_isFormed 24 = .ok (.iconst 0, 1) := by decide +kernel
theorem dX7_isFormed_25 : decode cX7_isFormed 25 = .ok (.ireturn, 1) := by decide +kernel
theorem dX7_isFormed_26 : decode cX7_isFormed 26 = .ok (.aload_n 0, 1) := by decide +kernel
theorem dX7_isFormed_27 : decode cX7_isFormed 27 = .ok (.aload_n 0, 1) := by decide +kernel
theorem dX7_isFormed_28 : decode cX7_isFormed 28 = .ok (.invokevirtual 146, 3) := by decide +kernel
theorem dX7_isFormed_31 : decode cX7_isFormed 31 = .ok (.putfield 155, 3) := by decide +kernel
theorem dX7_isFormed_34 : decode cX7_isFormed 34 = .ok (.aload_n 0, 1) := by decide +kernel
theorem dX7_isFormed_35 : decode cX7_isFormed 35 = .ok (.getfield 155, 3) := by decide +kernel
theorem dX7_isFormed_38 : decode cX7_isFormed 38 = .ok (.ifCond .lt 16, 3) := by decide +kernel
theorem dX7_isFormed_41 : decode cX7_isFormed 41 = .ok (.aload_n 0, 1) := by decide +kernel
theorem dX7_isFormed_42 : decode cX7_isFormed 42 = .ok (.bipush 59, 2) := by decide +kernel
theorem dX7_isFormed_44 : decode cX7_isFormed 44 = .ok (.invokevirtual 152, 3) := by decide +kernel
theorem dX7_isFormed_47 : decode cX7_isFormed 47 = .ok (.ifCond .eq 7, 3) := by decide +kernel
theorem dX7_isFormed_50 : decode cX7_isFormed 50 = .ok (.iconst 1, 1) := by decide +kernel
theorem dX7_isFormed_51 : decode cX7_isFormed 51 = .ok (.goto 4, 3) := by decide +kernel
theorem dX7_isFormed_54 : decode cX7_isFormed 54 = .ok (.iconst 0, 1) := by decide +kernel
theorem dX7_isFormed_55 : decode cX7_isFormed 55 = .ok (.ireturn, 1) := by decide +kernel
theorem dX7_isTaken_0 : decode cX7_isTaken 0 = .ok (.aload_n 0, 1) := by decide +kernel
theorem dX7_isTaken_1 : decode cX7_isTaken 1 = .ok (.aload_n 0, 1) := by decide +kernel
theorem dX7_isTaken_2 : decode cX7_isTaken 2 = .ok (.getfield 149, 3) := by decide +kernel
theorem dX7_isTaken_5 : decode cX7_isTaken 5 = .ok (.invokevirtual 103, 3) := by decide +kernel
theorem dX7_isTaken_8 : decode cX7_isTaken 8 = .ok (.ifCond .lt 7, 3) := by decide +kernel
theorem dX7_isTaken_11 : decode cX7_isTaken 11 = .ok (.iconst 1, 1) := by decide +kernel
theorem dX7_isTaken_12 : decode cX7_isTaken 12 = .ok (.goto 4, 3) := by decide +kernel
theorem dX7_isTaken_15 : decode cX7_isTaken 15 = .ok (.iconst 0, 1) := by decide +kernel
theorem dX7_isTaken_16 : decode cX7_isTaken 16 = .ok (.istore_n 2, 1) := by decide +kernel
theorem dX7_isTaken_17 : decode cX7_isTaken 17 = .ok (.iconst 0, 1) := by decide +kernel
theorem dX7_isTaken_18 : decode cX7_isTaken 18 = .ok (.istore_n 3, 1) := by decide +kernel
theorem dX7_isTaken_19 : decode cX7_isTaken 19 = .ok (.iload_n 3, 1) := by decide +kernel
theorem dX7_isTaken_20 : decode cX7_isTaken 20 = .ok (.iload_n 1, 1) := by decide +kernel
theorem dX7_isTaken_21 : decode cX7_isTaken 21 = .ok (.if_icmp .ge 32, 3) := by decide +kernel
theorem dX7_isTaken_24 : decode cX7_isTaken 24 = .ok (.iload_n 2, 1) := by decide +kernel
theorem dX7_isTaken_25 : decode cX7_isTaken 25 = .ok (.ifCond .ne 16, 3) := by decide +kernel
theorem dX7_isTaken_28 : decode cX7_isTaken 28 = .ok (.aload_n 0, 1) := by decide +kernel
theorem dX7_isTaken_29 : decode cX7_isTaken 29 = .ok (.getfield 22, 3) := by decide +kernel
theorem dX7_isTaken_32 : decode cX7_isTaken 32 = .ok (.iload_n 3, 1) := by decide +kernel
theorem dX7_isTaken_33 : decode cX7_isTaken 33 = .ok (.iaload, 1) := by decide +kernel
theorem dX7_isTaken_34 : decode cX7_isTaken 34 = .ok (.aload_n 0, 1) := by decide +kernel
theorem dX7_isTaken_35 : decode cX7_isTaken 35 = .ok (.getfield 149, 3) := by decide +kernel
theorem dX7_isTaken_38 : decode cX7_isTaken 38 = .ok (.if_icmp .ne 7, 3) := by decide +kernel
theorem dX7_isTaken_41 : decode cX7_isTaken 41 = .ok (.iconst 1, 1) := by decide +kernel
theorem dX7_isTaken_42 : decode cX7_isTaken 42 = .ok (.goto 4, 3) := by decide +kernel
theorem dX7_isTaken_45 : decode cX7_isTaken 45 = .ok (.iconst 0, 1) := by decide +kernel
theorem dX7_isTaken_46 : decode cX7_isTaken 46 = .ok (.istore_n 2, 1) := by decide +kernel
theorem dX7_isTaken_47 : decode cX7_isTaken 47 = .ok (.iinc 3 1, 3) := by decide +kernel
theorem dX7_isTaken_50 : decode cX7_isTaken 50 = .ok (.goto (-31), 3) := by decide +kernel
theorem dX7_isTaken_53 : decode cX7_isTaken 53 = .ok (.iload_n 2, 1) := by decide +kernel
theorem dX7_isTaken_54 : decode cX7_isTaken 54 = .ok (.ireturn, 1) := by decide +kernel
theorem dX7_reasonOfText_0 : decode cX7_reasonOfText 0 = .ok (.aload_n 0, 1) := by decide +kernel
theorem dX7_reasonOfText_1 : decode cX7_reasonOfText 1 = .ok (.iconst 0, 1) := by decide +kernel
theorem dX7_reasonOfText_2 : decode cX7_reasonOfText 2 = .ok (.putfield 143, 3) := by decide +kernel
theorem dX7_reasonOfText_5 : decode cX7_reasonOfText 5 = .ok (.iconst 0, 1) := by decide +kernel
theorem dX7_reasonOfText_6 : decode cX7_reasonOfText 6 = .ok (.istore_n 1, 1) := by decide +kernel
theorem dX7_reasonOfText_7 : decode cX7_reasonOfText 7 = .ok (.aload_n 0, 1) := by decide +kernel
theorem dX7_reasonOfText_8 : decode cX7_reasonOfText 8 = .ok (.getfield 143, 3) := by decide +kernel
theorem dX7_reasonOfText_11 : decode cX7_reasonOfText 11 = .ok (.aload_n 0, 1) := by decide +kernel
theorem dX7_reasonOfText_12 : decode cX7_reasonOfText 12 = .ok (.getfield 90, 3) := by decide +kernel
theorem dX7_reasonOfText_15 : decode cX7_reasonOfText 15 = .ok (.if_icmp .ge 91, 3) := by decide +kernel
theorem dX7_reasonOfText_18 : decode cX7_reasonOfText 18 = .ok (.aload_n 0, 1) := by decide +kernel
theorem dX7_reasonOfText_19 : decode cX7_reasonOfText 19 = .ok (.aload_n 0, 1) := by decide +kernel
theorem dX7_reasonOfText_20 : decode cX7_reasonOfText 20 = .ok (.getfield 143, 3) := by decide +kernel
theorem dX7_reasonOfText_23 : decode cX7_reasonOfText 23 = .ok (.putfield 158, 3) := by decide +kernel
theorem dX7_reasonOfText_26 : decode cX7_reasonOfText 26 = .ok (.aload_n 0, 1) := by decide +kernel
theorem dX7_reasonOfText_27 : decode cX7_reasonOfText 27 = .ok (.invokevirtual 161, 3) := by decide +kernel
theorem dX7_reasonOfText_30 : decode cX7_reasonOfText 30 = .ok (.ifCond .ne 5, 3) := by decide +kernel
theorem dX7_reasonOfText_33 : decode cX7_reasonOfText 33 = .ok (.iconst 1, 1) := by decide +kernel
theorem dX7_reasonOfText_34 : decode cX7_reasonOfText 34 = .ok (.ireturn, 1) := by decide +kernel
theorem dX7_reasonOfText_35 : decode cX7_reasonOfText 35 = .ok (.aload_n 0, 1) := by decide +kernel
theorem dX7_reasonOfText_36 : decode cX7_reasonOfText 36 = .ok (.getfield 149, 3) := by decide +kernel
theorem dX7_reasonOfText_39 : decode cX7_reasonOfText 39 = .ok (.iconst 0, 1) := by decide +kernel
theorem dX7_reasonOfText_40 : decode cX7_reasonOfText 40 = .ok (.sipush 3600, 3) := by decide +kernel
theorem dX7_reasonOfText_43 : decode cX7_reasonOfText 43 = .ok (.invokestatic 25, 3) := by decide +kernel
theorem dX7_reasonOfText_46 : decode cX7_reasonOfText 46 = .ok (.ifCond .eq 17, 3) := by decide +kernel
theorem dX7_reasonOfText_49 : decode cX7_reasonOfText 49 = .ok (.aload_n 0, 1) := by decide +kernel
theorem dX7_reasonOfText_50 : decode cX7_reasonOfText 50 = .ok (.getfield 155, 3) := by decide +kernel
theorem dX7_reasonOfText_53 : decode cX7_reasonOfText 53 = .ok (.iconst 0, 1) := by decide +kernel
theorem dX7_reasonOfText_54 : decode cX7_reasonOfText 54 = .ok (.sipush 6000, 3) := by decide +kernel
theorem dX7_reasonOfText_57 : decode cX7_reasonOfText 57 = .ok (.invokestatic 25, 3) := by decide +kernel
theorem dX7_reasonOfText_60 : decode cX7_reasonOfText 60 = .ok (.ifCond .ne 5, 3) := by decide +kernel
theorem dX7_reasonOfText_63 : decode cX7_reasonOfText 63 = .ok (.iconst 2, 1) := by decide +kernel
theorem dX7_reasonOfText_64 : decode cX7_reasonOfText 64 = .ok (.ireturn, 1) := by decide +kernel
theorem dX7_reasonOfText_65 : decode cX7_reasonOfText 65 = .ok (.aload_n 0, 1) := by decide +kernel
theorem dX7_reasonOfText_66 : decode cX7_reasonOfText 66 = .ok (.iload_n 1, 1) := by decide +kernel
theorem dX7_reasonOfText_67 : decode cX7_reasonOfText 67 = .ok (.invokevirtual 165, 3) := by decide +kernel
theorem dX7_reasonOfText_70 : decode cX7_reasonOfText 70 = .ok (.ifCond .eq 5, 3) := by decide +kernel
theorem dX7_reasonOfText_73 : decode cX7_reasonOfText 73 = .ok (.iconst 3, 1) := by decide +kernel
theorem dX7_reasonOfText_74 : decode cX7_reasonOfText 74 = .ok (.ireturn, 1) := by decide +kernel
theorem dX7_reasonOfText_75 : decode cX7_reasonOfText 75 = .ok (.aload_n 0, 1) := by decide +kernel
theorem dX7_reasonOfText_76 : decode cX7_reasonOfText 76 = .ok (.getfield 7, 3) := by decide +kernel
theorem dX7_reasonOfText_79 : decode cX7_reasonOfText 79 = .ok (.iconst 2, 1) := by decide +kernel
theorem dX7_reasonOfText_80 : decode cX7_reasonOfText 80 = .ok (.iaload, 1) := by decide +kernel
theorem dX7_reasonOfText_81 : decode cX7_reasonOfText 81 = .ok (.iload_n 1, 1) := by decide +kernel
theorem dX7_reasonOfText_82 : decode cX7_reasonOfText 82 = .ok (.iadd, 1) := by decide +kernel
theorem dX7_reasonOfText_83 : decode cX7_reasonOfText 83 = .ok (.bipush 40, 2) := by decide +kernel
theorem dX7_reasonOfText_85 : decode cX7_reasonOfText 85 = .ok (.if_icmp .ne 5, 3) := by decide +kernel
theorem dX7_reasonOfText_88 : decode cX7_reasonOfText 88 = .ok (.iconst 4, 1) := by decide +kernel
theorem dX7_reasonOfText_89 : decode cX7_reasonOfText 89 = .ok (.ireturn, 1) := by decide +kernel
theorem dX7_reasonOfText_90 : decode cX7_reasonOfText 90 = .ok (.aload_n 0, 1) := by decide +kernel
theorem dX7_reasonOfText_91 : decode cX7_reasonOfText 91 = .ok (.getfield 22, 3) := by decide +kernel
theorem dX7_reasonOfText_94 : decode cX7_reasonOfText 94 = .ok (.iload_n 1, 1) := by decide +kernel
theorem dX7_reasonOfText_95 : decode cX7_reasonOfText 95 = .ok (.aload_n 0, 1) := by decide +kernel
theorem dX7_reasonOfText_96 : decode cX7_reasonOfText 96 = .ok (.getfield 149, 3) := by decide +kernel
theorem dX7_reasonOfText_99 : decode cX7_reasonOfText 99 = .ok (.iastore, 1) := by decide +kernel
theorem dX7_reasonOfText_100 : decode cX7_reasonOfText 100 = .ok (.iinc 1 1, 3) := by decide +kernel
theorem dX7_reasonOfText_103 : decode cX7_reasonOfText 103 = .ok (.goto (-96), 3) := by decide +kernel
theorem dX7_reasonOfText_106 : decode cX7_reasonOfText 106 = .ok (.iconst 0, 1) := by decide +kernel
theorem dX7_reasonOfText_107 : decode cX7_reasonOfText 107 = .ok (.ireturn, 1) := by decide +kernel
theorem dX7_fault_0 : decode cX7_fault 0 = .ok (.iload_n 1, 1) := by decide +kernel
theorem dX7_fault_1 : decode cX7_fault 1 = .ok (.iconst 0, 1) := by decide +kernel
theorem dX7_fault_2 : decode cX7_fault 2 = .ok (.iconst 1, 1) := by decide +kernel
theorem dX7_fault_3 : decode cX7_fault 3 = .ok (.invokestatic 25, 3) := by decide +kernel
theorem dX7_fault_6 : decode cX7_fault 6 = .ok (.ifCond .ne 6, 3) := by decide +kernel
theorem dX7_fault_9 : decode cX7_fault 9 = .ok (.ldc 51, 2) := by decide +kernel
theorem dX7_fault_11 : decode cX7_fault 11 = .ok (.ireturn, 1) := by decide +kernel
theorem dX7_fault_12 : decode cX7_fault 12 = .ok (.aload_n 0, 1) := by decide +kernel
theorem dX7_fault_13 : decode cX7_fault 13 = .ok (.invokevirtual 168, 3) := by decide +kernel
theorem dX7_fault_16 : decode cX7_fault 16 = .ok (.istore_n 2, 1) := by decide +kernel
theorem dX7_fault_17 : decode cX7_fault 17 = .ok (.iload_n 2, 1) := by decide +kernel
theorem dX7_fault_18 : decode cX7_fault 18 = .ok (.ifCond .ne 8, 3) := by decide +kernel
theorem dX7_fault_21 : decode cX7_fault 21 = .ok (.ldc 70, 2) := by decide +kernel
theorem dX7_fault_23 : decode cX7_fault 23 = .ok (.goto 15, 3) := by decide +kernel
theorem dX7_fault_26 : decode cX7_fault 26 = .ok (.iload_n 1, 1) := by decide +kernel
theorem dX7_fault_27 : decode cX7_fault 27 = .ok (.ifCond .ne 10, 3) := by decide +kernel
theorem dX7_fault_30 : decode cX7_fault 30 = .ok (.aload_n 0, 1) := by decide +kernel
theorem dX7_fault_31 : decode cX7_fault 31 = .ok (.getfield 158, 3) := by decide +kernel
theorem dX7_fault_34 : decode cX7_fault 34 = .ok (.goto 4, 3) := by decide +kernel
theorem dX7_fault_37 : decode cX7_fault 37 = .ok (.iload_n 2, 1) := by decide +kernel
theorem dX7_fault_38 : decode cX7_fault 38 = .ok (.ireturn, 1) := by decide +kernel
theorem dX7_enter_0 : decode cX7_enter 0 = .ok (.aload_n 0, 1) := by decide +kernel
theorem dX7_enter_1 : decode cX7_enter 1 = .ok (.invokevirtual 168, 3) := by decide +kernel
theorem dX7_enter_4 : decode cX7_enter 4 = .ok (.ifCond .eq 6, 3) := by decide +kernel
theorem dX7_enter_7 : decode cX7_enter 7 = .ok (.ldc 33, 2) := by decide +kernel
theorem dX7_enter_9 : decode cX7_enter 9 = .ok (.ireturn, 1) := by decide +kernel
theorem dX7_enter_10 : decode cX7_enter 10 = .ok (.aload_n 0, 1) := by decide +kernel
theorem dX7_enter_11 : decode cX7_enter 11 = .ok (.invokevirtual 53, 3) := by decide +kernel
theorem dX7_enter_14 : decode cX7_enter 14 = .ok (.aload_n 0, 1) := by decide +kernel
theorem dX7_enter_15 : decode cX7_enter 15 = .ok (.iconst 0, 1) := by decide +kernel
theorem dX7_enter_16 : decode cX7_enter 16 = .ok (.putfield 143, 3) := by decide +kernel
theorem dX7_enter_19 : decode cX7_enter 19 = .ok (.iconst 0, 1) := by decide +kernel
theorem dX7_enter_20 : decode cX7_enter 20 = .ok (.istore_n 1, 1) := by decide +kernel
theorem dX7_enter_21 : decode cX7_enter 21 = .ok (.aload_n 0, 1) := by decide +kernel
theorem dX7_enter_22 : decode cX7_enter 22 = .ok (.getfield 143, 3) := by decide +kernel
theorem dX7_enter_25 : decode cX7_enter 25 = .ok (.aload_n 0, 1) := by decide +kernel
theorem dX7_enter_26 : decode cX7_enter 26 = .ok (.getfield 90, 3) := by decide +kernel
theorem dX7_enter_29 : decode cX7_enter 29 = .ok (.if_icmp .ge 38, 3) := by decide +kernel
theorem dX7_enter_32 : decode cX7_enter 32 = .ok (.aload_n 0, 1) := by decide +kernel
theorem dX7_enter_33 : decode cX7_enter 33 = .ok (.invokevirtual 161, 3) := by decide +kernel
theorem dX7_enter_36 : decode cX7_enter 36 = .ok (.ifCond .eq 31, 3) := by decide +kernel
theorem dX7_enter_39 : decode cX7_enter 39 = .ok (.aload_n 0, 1) := by decide +kernel
theorem dX7_enter_40 : decode cX7_enter 40 = .ok (.aload_n 0, 1) := by decide +kernel
theorem dX7_enter_41 : decode cX7_enter 41 = .ok (.getfield 149, 3) := by decide +kernel
theorem dX7_enter_44 : decode cX7_enter 44 = .ok (.aload_n 0, 1) := by decide +kernel
theorem dX7_enter_45 : decode cX7_enter 45 = .ok (.getfield 155, 3) := by decide +kernel
theorem dX7_enter_48 : decode cX7_enter 48 = .ok (.invokevirtual 106, 3) := by decide +kernel
theorem dX7_enter_51 : decode cX7_enter 51 = .ok (.istore_n 2, 1) := by decide +kernel
theorem dX7_enter_52 : decode cX7_enter 52 = .ok (.iload_n 1, 1) := by decide +kernel
theorem dX7_enter_53 : decode cX7_enter 53 = .ok (.iload_n 2, 1) := by decide +kernel
theorem dX7_enter_54 : decode cX7_enter 54 = .ok (.ifCond .lt 7, 3) := by decide +kernel
theorem dX7_enter_57 : decode cX7_enter 57 = .ok (.iconst 1, 1) := by decide +kernel
theorem dX7_enter_58 : decode cX7_enter 58 = .ok (.goto 4, 3) := by decide +kernel
theorem dX7_enter_61 : decode cX7_enter 61 = .ok (.iconst 0, 1) := by decide +kernel
theorem dX7_enter_62 : decode cX7_enter 62 = .ok (.iadd, 1) := by decide +kernel
theorem dX7_enter_63 : decode cX7_enter 63 = .ok (.istore_n 1, 1) := by decide +kernel
theorem dX7_enter_64 : decode cX7_enter 64 = .ok (.goto (-43), 3) := by decide +kernel
theorem dX7_enter_67 : decode cX7_enter 67 = .ok (.iload_n 1, 1) := by decide +kernel
theorem dX7_enter_68 : decode cX7_enter 68 = .ok (.ireturn, 1) := by decide +kernel
end
section
theorem dL_law_0 : decode cL_law 0 = .ok (.new 7, 3) := by decide +kernel
theorem dL_law_3 : decode cL_law 3 = .ok (.dup, 1) := by decide +kernel
theorem dL_law_4 : decode cL_law 4 = .ok (.invokespecial 9, 3) := by decide +kernel
theorem dL_law_7 : decode cL_law 7 = .ok (.astore_n 1, 1) := by decide +kernel
theorem dL_law_8 : decode cL_law 8 = .ok (.new 10, 3) := by decide +kernel
theorem dL_law_11 : decode cL_law 11 = .ok (.dup, 1) := by decide +kernel
theorem dL_law_12 : decode cL_law 12 = .ok (.invokespecial 12, 3) := by decide +kernel
theorem dL_law_15 : decode cL_law 15 = .ok (.astore_n 2, 1) := by decide +kernel
theorem dL_law_16 : decode cL_law 16 = .ok (.iconst 0, 1) := by decide +kernel
theorem dL_law_17 : decode cL_law 17 = .ok (.istore_n 3, 1) := by decide +kernel
theorem dL_law_18 : decode cL_law 18 = .ok (.iload_n 3, 1) := by decide +kernel
theorem dL_law_19 : decode cL_law 19 = .ok (.aload_n 0, 1) := by decide +kernel
theorem dL_law_20 : decode cL_law 20 = .ok (.arraylength, 1) := by decide +kernel
theorem dL_law_21 : decode cL_law 21 = .ok (.iconst 4, 1) := by decide +kernel
theorem dL_law_22 : decode cL_law 22 = .ok (.isub, 1) := by decide +kernel
theorem dL_law_23 : decode cL_law 23 = .ok (.if_icmp .gt 830, 3) := by decide +kernel
theorem dL_law_26 : decode cL_law 26 = .ok (.aload_n 0, 1) := by decide +kernel
theorem dL_law_27 : decode cL_law 27 = .ok (.iload_n 3, 1) := by decide +kernel
theorem dL_law_28 : decode cL_law 28 = .ok (.iaload, 1) := by decide +kernel
theorem dL_law_29 : decode cL_law 29 = .ok (.bipush 31, 2) := by decide +kernel
theorem dL_law_31 : decode cL_law 31 = .ok (.iand, 1) := by decide +kernel
theorem dL_law_32 : decode cL_law 32 = .ok (.tableswitch 815 0 26 #[124, 157, 180, 213, 246, 279, 312, 345, 378, 401, 434, 457, 470, 503, 526, 569, 602, 625, 638, 661, 684, 697, 710, 743, 766, 779, 802], 124) := by decide +kernel
theorem dL_law_156 : decode cL_law 156 = .ok (.aload_n 1, 1) := by decide +kernel
theorem dL_law_157 : decode cL_law 157 = .ok (.aload_n 0, 1) := by decide +kernel
theorem dL_law_158 : decode cL_law 158 = .ok (.iload_n 3, 1) := by decide +kernel
theorem dL_law_159 : decode cL_law 159 = .ok (.iconst 1, 1) := by decide +kernel
theorem dL_law_160 : decode cL_law 160 = .ok (.iadd, 1) := by decide +kernel
theorem dL_law_161 : decode cL_law 161 = .ok (.iaload, 1) := by decide +kernel
theorem dL_law_162 : decode cL_law 162 = .ok (.aload_n 0, 1) := by decide +kernel
theorem dL_law_163 : decode cL_law 163 = .ok (.iload_n 3, 1) := by decide +kernel
theorem dL_law_164 : decode cL_law 164 = .ok (.iconst 2, 1) := by decide +kernel
theorem dL_law_165 : decode cL_law 165 = .ok (.iadd, 1) := by decide +kernel
theorem dL_law_166 : decode cL_law 166 = .ok (.iaload, 1) := by decide +kernel
theorem dL_law_167 : decode cL_law 167 = .ok (.invokevirtual 13, 3) := by decide +kernel
theorem dL_law_170 : decode cL_law 170 = .ok (.aload_n 2, 1) := by decide +kernel
theorem dL_law_171 : decode cL_law 171 = .ok (.aload_n 0, 1) := by decide +kernel
theorem dL_law_172 : decode cL_law 172 = .ok (.iload_n 3, 1) := by decide +kernel
theorem dL_law_173 : decode cL_law 173 = .ok (.iconst 1, 1) := by decide +kernel
theorem dL_law_174 : decode cL_law 174 = .ok (.iadd, 1) := by decide +kernel
theorem dL_law_175 : decode cL_law 175 = .ok (.iaload, 1) := by decide +kernel
theorem dL_law_176 : decode cL_law 176 = .ok (.aload_n 0, 1) := by decide +kernel
theorem dL_law_177 : decode cL_law 177 = .ok (.iload_n 3, 1) := by decide +kernel
theorem dL_law_178 : decode cL_law 178 = .ok (.iconst 2, 1) := by decide +kernel
theorem dL_law_179 : decode cL_law 179 = .ok (.iadd, 1) := by decide +kernel
theorem dL_law_180 : decode cL_law 180 = .ok (.iaload, 1) := by decide +kernel
theorem dL_law_181 : decode cL_law 181 = .ok (.invokevirtual 17, 3) := by decide +kernel
theorem dL_law_184 : decode cL_law 184 = .ok (.if_icmp .eq 663, 3) := by decide +kernel
theorem dL_law_187 : decode cL_law 187 = .ok (.iconst 0, 1) := by decide +kernel
theorem dL_law_188 : decode cL_law 188 = .ok (.ireturn, 1) := by decide +kernel
theorem dL_law_189 : decode cL_law 189 = .ok (.aload_n 1, 1) := by decide +kernel
theorem dL_law_190 : decode cL_law 190 = .ok (.aload_n 0, 1) := by decide +kernel
theorem dL_law_191 : decode cL_law 191 = .ok (.iload_n 3, 1) := by decide +kernel
theorem dL_law_192 : decode cL_law 192 = .ok (.iconst 1, 1) := by decide +kernel
theorem dL_law_193 : decode cL_law 193 = .ok (.iadd, 1) := by decide +kernel
theorem dL_law_194 : decode cL_law 194 = .ok (.iaload, 1) := by decide +kernel
theorem dL_law_195 : decode cL_law 195 = .ok (.invokevirtual 18, 3) := by decide +kernel
theorem dL_law_198 : decode cL_law 198 = .ok (.aload_n 2, 1) := by decide +kernel
theorem dL_law_199 : decode cL_law 199 = .ok (.aload_n 0, 1) := by decide +kernel
theorem dL_law_200 : decode cL_law 200 = .ok (.iload_n 3, 1) := by decide +kernel
theorem dL_law_201 : decode cL_law 201 = .ok (.iconst 1, 1) := by decide +kernel
theorem dL_law_202 : decode cL_law 202 = .ok (.iadd, 1) := by decide +kernel
theorem dL_law_203 : decode cL_law 203 = .ok (.iaload, 1) := by decide +kernel
theorem dL_law_204 : decode cL_law 204 = .ok (.invokevirtual 22, 3) := by decide +kernel
theorem dL_law_207 : decode cL_law 207 = .ok (.if_icmp .eq 640, 3) := by decide +kernel
theorem dL_law_210 : decode cL_law 210 = .ok (.iconst 0, 1) := by decide +kernel
theorem dL_law_211 : decode cL_law 211 = .ok (.ireturn, 1) := by decide +kernel
theorem dL_law_212 : decode cL_law 212 = .ok (.aload_n 1, 1) := by decide +kernel
theorem dL_law_213 : decode cL_law 213 = .ok (.aload_n 0, 1) := by decide +kernel
theorem dL_law_214 : decode cL_law 214 = .ok (.iload_n 3, 1) := by decide +kernel
theorem dL_law_215 : decode cL_law 215 = .ok (.iconst 1, 1) := by decide +kernel
theorem dL_law_216 : decode cL_law 216 = .ok (.iadd, 1) := by decide +kernel
theorem dL_law_217 : decode cL_law 217 = .ok (.iaload, 1) := by decide +kernel
theorem dL_law_218 : decode cL_law 218 = .ok (.aload_n 0, 1) := by decide +kernel
theorem dL_law_219 : decode cL_law 219 = .ok (.iload_n 3, 1) := by decide +kernel
theorem dL_law_220 : decode cL_law 220 = .ok (.iconst 2, 1) := by decide +kernel
theorem dL_law_221 : decode cL_law 221 = .ok (.iadd, 1) := by decide +kernel
theorem dL_law_222 : decode cL_law 222 = .ok (.iaload, 1) := by decide +kernel
theorem dL_law_223 : decode cL_law 223 = .ok (.invokevirtual 23, 3) := by decide +kernel
theorem dL_law_226 : decode cL_law 226 = .ok (.aload_n 2, 1) := by decide +kernel
theorem dL_law_227 : decode cL_law 227 = .ok (.aload_n 0, 1) := by decide +kernel
theorem dL_law_228 : decode cL_law 228 = .ok (.iload_n 3, 1) := by decide +kernel
theorem dL_law_229 : decode cL_law 229 = .ok (.iconst 1, 1) := by decide +kernel
theorem dL_law_230 : decode cL_law 230 = .ok (.iadd, 1) := by decide +kernel
theorem dL_law_231 : decode cL_law 231 = .ok (.iaload, 1) := by decide +kernel
theorem dL_law_232 : decode cL_law 232 = .ok (.aload_n 0, 1) := by decide +kernel
theorem dL_law_233 : decode cL_law 233 = .ok (.iload_n 3, 1) := by decide +kernel
theorem dL_law_234 : decode cL_law 234 = .ok (.iconst 2, 1) := by decide +kernel
theorem dL_law_235 : decode cL_law 235 = .ok (.iadd, 1) := by decide +kernel
theorem dL_law_236 : decode cL_law 236 = .ok (.iaload, 1) := by decide +kernel
theorem dL_law_237 : decode cL_law 237 = .ok (.invokevirtual 26, 3) := by decide +kernel
theorem dL_law_240 : decode cL_law 240 = .ok (.if_icmp .eq 607, 3) := by decide +kernel
theorem dL_law_243 : decode cL_law 243 = .ok (.iconst 0, 1) := by decide +kernel
theorem dL_law_244 : decode cL_law 244 = .ok (.ireturn, 1) := by decide +kernel
theorem dL_law_245 : decode cL_law 245 = .ok (.aload_n 1, 1) := by decide +kernel
theorem dL_law_246 : decode cL_law 246 = .ok (.aload_n 0, 1) := by decide +kernel
theorem dL_law_247 : decode cL_law 247 = .ok (.iload_n 3, 1) := by decide +kernel
theorem dL_law_248 : decode cL_law 248 = .ok (.iconst 1, 1) := by decide +kernel
theorem dL_law_249 : decode cL_law 249 = .ok (.iadd, 1) := by decide +kernel
theorem dL_law_250 : decode cL_law 250 = .ok (.iaload, 1) := by decide +kernel
theorem dL_law_251 : decode cL_law 251 = .ok (.aload_n 0, 1) := by decide +kernel
theorem dL_law_252 : decode cL_law 252 = .ok (.iload_n 3, 1) := by decide +kernel
theorem dL_law_253 : decode cL_law 253 = .ok (.iconst 2, 1) := by decide +kernel
theorem dL_law_254 : decode cL_law 254 = .ok (.iadd, 1) := by decide +kernel
theorem dL_law_255 : decode cL_law 255 = .ok (.iaload, 1) := by decide +kernel
theorem dL_law_256 : decode cL_law 256 = .ok (.invokevirtual 27, 3) := by decide +kernel
theorem dL_law_259 : decode cL_law 259 = .ok (.aload_n 2, 1) := by decide +kernel
theorem dL_law_260 : decode cL_law 260 = .ok (.aload_n 0, 1) := by decide +kernel
theorem dL_law_261 : decode cL_law 261 = .ok (.iload_n 3, 1) := by decide +kernel
theorem dL_law_262 : decode cL_law 262 = .ok (.iconst 1, 1) := by decide +kernel
theorem dL_law_263 : decode cL_law 263 = .ok (.iadd, 1) := by decide +kernel
theorem dL_law_264 : decode cL_law 264 = .ok (.iaload, 1) := by decide +kernel
theorem dL_law_265 : decode cL_law 265 = .ok (.aload_n 0, 1) := by decide +kernel
theorem dL_law_266 : decode cL_law 266 = .ok (.iload_n 3, 1) := by decide +kernel
theorem dL_law_267 : decode cL_law 267 = .ok (.iconst 2, 1) := by decide +kernel
theorem dL_law_268 : decode cL_law 268 = .ok (.iadd, 1) := by decide +kernel
theorem dL_law_269 : decode cL_law 269 = .ok (.iaload, 1) := by decide +kernel
theorem dL_law_270 : decode cL_law 270 = .ok (.invokevirtual 30, 3) := by decide +kernel
theorem dL_law_273 : decode cL_law 273 = .ok (.if_icmp .eq 574, 3) := by decide +kernel
theorem dL_law_276 : decode cL_law 276 = .ok (.iconst 0, 1) := by decide +kernel
theorem dL_law_277 : decode cL_law 277 = .ok (.ireturn, 1) := by decide +kernel
theorem dL_law_278 : decode cL_law 278 = .ok (.aload_n 1, 1) := by decide +kernel
theorem dL_law_279 : decode cL_law 279 = .ok (.aload_n 0, 1) := by decide +kernel
theorem dL_law_280 : decode cL_law 280 = .ok (.iload_n 3, 1) := by decide +kernel
theorem dL_law_281 : decode cL_law 281 = .ok (.iconst 1, 1) := by decide +kernel
theorem dL_law_282 : decode cL_law 282 = .ok (.iadd, 1) := by decide +kernel
theorem dL_law_283 : decode cL_law 283 = .ok (.iaload, 1) := by decide +kernel
theorem dL_law_284 : decode cL_law 284 = .ok (.aload_n 0, 1) := by decide +kernel
theorem dL_law_285 : decode cL_law 285 = .ok (.iload_n 3, 1) := by decide +kernel
theorem dL_law_286 : decode cL_law 286 = .ok (.iconst 2, 1) := by decide +kernel
theorem dL_law_287 : decode cL_law 287 = .ok (.iadd, 1) := by decide +kernel
theorem dL_law_288 : decode cL_law 288 = .ok (.iaload, 1) := by decide +kernel
theorem dL_law_289 : decode cL_law 289 = .ok (.invokevirtual 31, 3) := by decide +kernel
theorem dL_law_292 : decode cL_law 292 = .ok (.aload_n 2, 1) := by decide +kernel
theorem dL_law_293 : decode cL_law 293 = .ok (.aload_n 0, 1) := by decide +kernel
theorem dL_law_294 : decode cL_law 294 = .ok (.iload_n 3, 1) := by decide +kernel
theorem dL_law_295 : decode cL_law 295 = .ok (.iconst 1, 1) := by decide +kernel
theorem dL_law_296 : decode cL_law 296 = .ok (.iadd, 1) := by decide +kernel
theorem dL_law_297 : decode cL_law 297 = .ok (.iaload, 1) := by decide +kernel
theorem dL_law_298 : decode cL_law 298 = .ok (.aload_n 0, 1) := by decide +kernel
theorem dL_law_299 : decode cL_law 299 = .ok (.iload_n 3, 1) := by decide +kernel
theorem dL_law_300 : decode cL_law 300 = .ok (.iconst 2, 1) := by decide +kernel
theorem dL_law_301 : decode cL_law 301 = .ok (.iadd, 1) := by decide +kernel
theorem dL_law_302 : decode cL_law 302 = .ok (.iaload, 1) := by decide +kernel
theorem dL_law_303 : decode cL_law 303 = .ok (.invokevirtual 34, 3) := by decide +kernel
theorem dL_law_306 : decode cL_law 306 = .ok (.if_icmp .eq 541, 3) := by decide +kernel
theorem dL_law_309 : decode cL_law 309 = .ok (.iconst 0, 1) := by decide +kernel
theorem dL_law_310 : decode cL_law 310 = .ok (.ireturn, 1) := by decide +kernel
theorem dL_law_311 : decode cL_law 311 = .ok (.aload_n 1, 1) := by decide +kernel
theorem dL_law_312 : decode cL_law 312 = .ok (.aload_n 0, 1) := by decide +kernel
theorem dL_law_313 : decode cL_law 313 = .ok (.iload_n 3, 1) := by decide +kernel
theorem dL_law_314 : decode cL_law 314 = .ok (.iconst 1, 1) := by decide +kernel
theorem dL_law_315 : decode cL_law 315 = .ok (.iadd, 1) := by decide +kernel
theorem dL_law_316 : decode cL_law 316 = .ok (.iaload, 1) := by decide +kernel
theorem dL_law_317 : decode cL_law 317 = .ok (.aload_n 0, 1) := by decide +kernel
theorem dL_law_318 : decode cL_law 318 = .ok (.iload_n 3, 1) := by decide +kernel
theorem dL_law_319 : decode cL_law 319 = .ok (.iconst 2, 1) := by decide +kernel
theorem dL_law_320 : decode cL_law 320 = .ok (.iadd, 1) := by decide +kernel
theorem dL_law_321 : decode cL_law 321 = .ok (.iaload, 1) := by decide +kernel
theorem dL_law_322 : decode cL_law 322 = .ok (.invokevirtual 35, 3) := by decide +kernel
theorem dL_law_325 : decode cL_law 325 = .ok (.aload_n 2, 1) := by decide +kernel
theorem dL_law_326 : decode cL_law 326 = .ok (.aload_n 0, 1) := by decide +kernel
theorem dL_law_327 : decode cL_law 327 = .ok (.iload_n 3, 1) := by decide +kernel
theorem dL_law_328 : decode cL_law 328 = .ok (.iconst 1, 1) := by decide +kernel
theorem dL_law_329 : decode cL_law 329 = .ok (.iadd, 1) := by decide +kernel
theorem dL_law_330 : decode cL_law 330 = .ok (.iaload, 1) := by decide +kernel
theorem dL_law_331 : decode cL_law 331 = .ok (.aload_n 0, 1) := by decide +kernel
theorem dL_law_332 : decode cL_law 332 = .ok (.iload_n 3, 1) := by decide +kernel
theorem dL_law_333 : decode cL_law 333 = .ok (.iconst 2, 1) := by decide +kernel
theorem dL_law_334 : decode cL_law 334 = .ok (.iadd, 1) := by decide +kernel
theorem dL_law_335 : decode cL_law 335 = .ok (.iaload, 1) := by decide +kernel
theorem dL_law_336 : decode cL_law 336 = .ok (.invokevirtual 38, 3) := by decide +kernel
theorem dL_law_339 : decode cL_law 339 = .ok (.if_icmp .eq 508, 3) := by decide +kernel
theorem dL_law_342 : decode cL_law 342 = .ok (.iconst 0, 1) := by decide +kernel
theorem dL_law_343 : decode cL_law 343 = .ok (.ireturn, 1) := by decide +kernel
theorem dL_law_344 : decode cL_law 344 = .ok (.aload_n 1, 1) := by decide +kernel
theorem dL_law_345 : decode cL_law 345 = .ok (.aload_n 0, 1) := by decide +kernel
theorem dL_law_346 : decode cL_law 346 = .ok (.iload_n 3, 1) := by decide +kernel
theorem dL_law_347 : decode cL_law 347 = .ok (.iconst 1, 1) := by decide +kernel
theorem dL_law_348 : decode cL_law 348 = .ok (.iadd, 1) := by decide +kernel
theorem dL_law_349 : decode cL_law 349 = .ok (.iaload, 1) := by decide +kernel
theorem dL_law_350 : decode cL_law 350 = .ok (.aload_n 0, 1) := by decide +kernel
theorem dL_law_351 : decode cL_law 351 = .ok (.iload_n 3, 1) := by decide +kernel
theorem dL_law_352 : decode cL_law 352 = .ok (.iconst 2, 1) := by decide +kernel
theorem dL_law_353 : decode cL_law 353 = .ok (.iadd, 1) := by decide +kernel
theorem dL_law_354 : decode cL_law 354 = .ok (.iaload, 1) := by decide +kernel
theorem dL_law_355 : decode cL_law 355 = .ok (.invokevirtual 39, 3) := by decide +kernel
theorem dL_law_358 : decode cL_law 358 = .ok (.aload_n 2, 1) := by decide +kernel
theorem dL_law_359 : decode cL_law 359 = .ok (.aload_n 0, 1) := by decide +kernel
theorem dL_law_360 : decode cL_law 360 = .ok (.iload_n 3, 1) := by decide +kernel
theorem dL_law_361 : decode cL_law 361 = .ok (.iconst 1, 1) := by decide +kernel
theorem dL_law_362 : decode cL_law 362 = .ok (.iadd, 1) := by decide +kernel
theorem dL_law_363 : decode cL_law 363 = .ok (.iaload, 1) := by decide +kernel
theorem dL_law_364 : decode cL_law 364 = .ok (.aload_n 0, 1) := by decide +kernel
theorem dL_law_365 : decode cL_law 365 = .ok (.iload_n 3, 1) := by decide +kernel
theorem dL_law_366 : decode cL_law 366 = .ok (.iconst 2, 1) := by decide +kernel
theorem dL_law_367 : decode cL_law 367 = .ok (.iadd, 1) := by decide +kernel
theorem dL_law_368 : decode cL_law 368 = .ok (.iaload, 1) := by decide +kernel
theorem dL_law_369 : decode cL_law 369 = .ok (.invokevirtual 42, 3) := by decide +kernel
theorem dL_law_372 : decode cL_law 372 = .ok (.if_icmp .eq 475, 3) := by decide +kernel
theorem dL_law_375 : decode cL_law 375 = .ok (.iconst 0, 1) := by decide +kernel
theorem dL_law_376 : decode cL_law 376 = .ok (.ireturn, 1) := by decide +kernel
theorem dL_law_377 : decode cL_law 377 = .ok (.aload_n 1, 1) := by decide +kernel
theorem dL_law_378 : decode cL_law 378 = .ok (.aload_n 0, 1) := by decide +kernel
theorem dL_law_379 : decode cL_law 379 = .ok (.iload_n 3, 1) := by decide +kernel
theorem dL_law_380 : decode cL_law 380 = .ok (.iconst 1, 1) := by decide +kernel
theorem dL_law_381 : decode cL_law 381 = .ok (.iadd, 1) := by decide +kernel
theorem dL_law_382 : decode cL_law 382 = .ok (.iaload, 1) := by decide +kernel
theorem dL_law_383 : decode cL_law 383 = .ok (.aload_n 0, 1) := by decide +kernel
theorem dL_law_384 : decode cL_law 384 = .ok (.iload_n 3, 1) := by decide +kernel
theorem dL_law_385 : decode cL_law 385 = .ok (.iconst 2, 1) := by decide +kernel
theorem dL_law_386 : decode cL_law 386 = .ok (.iadd, 1) := by decide +kernel
theorem dL_law_387 : decode cL_law 387 = .ok (.iaload, 1) := by decide +kernel
theorem dL_law_388 : decode cL_law 388 = .ok (.invokevirtual 43, 3) := by decide +kernel
theorem dL_law_391 : decode cL_law 391 = .ok (.aload_n 2, 1) := by decide +kernel
theorem dL_law_392 : decode cL_law 392 = .ok (.aload_n 0, 1) := by decide +kernel
theorem dL_law_393 : decode cL_law 393 = .ok (.iload_n 3, 1) := by decide +kernel
theorem dL_law_394 : decode cL_law 394 = .ok (.iconst 1, 1) := by decide +kernel
theorem dL_law_395 : decode cL_law 395 = .ok (.iadd, 1) := by decide +kernel
theorem dL_law_396 : decode cL_law 396 = .ok (.iaload, 1) := by decide +kernel
theorem dL_law_397 : decode cL_law 397 = .ok (.aload_n 0, 1) := by decide +kernel
theorem dL_law_398 : decode cL_law 398 = .ok (.iload_n 3, 1) := by decide +kernel
theorem dL_law_399 : decode cL_law 399 = .ok (.iconst 2, 1) := by decide +kernel
theorem dL_law_400 : decode cL_law 400 = .ok (.iadd, 1) := by decide +kernel
theorem dL_law_401 : decode cL_law 401 = .ok (.iaload, 1) := by decide +kernel
theorem dL_law_402 : decode cL_law 402 = .ok (.invokevirtual 46, 3) := by decide +kernel
theorem dL_law_405 : decode cL_law 405 = .ok (.if_icmp .eq 442, 3) := by decide +kernel
theorem dL_law_408 : decode cL_law 408 = .ok (.iconst 0, 1) := by decide +kernel
theorem dL_law_409 : decode cL_law 409 = .ok (.ireturn, 1) := by decide +kernel
theorem dL_law_410 : decode cL_law 410 = .ok (.aload_n 1, 1) := by decide +kernel
theorem dL_law_411 : decode cL_law 411 = .ok (.aload_n 0, 1) := by decide +kernel
theorem dL_law_412 : decode cL_law 412 = .ok (.iload_n 3, 1) := by decide +kernel
theorem dL_law_413 : decode cL_law 413 = .ok (.iconst 1, 1) := by decide +kernel
theorem dL_law_414 : decode cL_law 414 = .ok (.iadd, 1) := by decide +kernel
theorem dL_law_415 : decode cL_law 415 = .ok (.iaload, 1) := by decide +kernel
theorem dL_law_416 : decode cL_law 416 = .ok (.invokevirtual 47, 3) := by decide +kernel
theorem dL_law_419 : decode cL_law 419 = .ok (.aload_n 2, 1) := by decide +kernel
theorem dL_law_420 : decode cL_law 420 = .ok (.aload_n 0, 1) := by decide +kernel
theorem dL_law_421 : decode cL_law 421 = .ok (.iload_n 3, 1) := by decide +kernel
theorem dL_law_422 : decode cL_law 422 = .ok (.iconst 1, 1) := by decide +kernel
theorem dL_law_423 : decode cL_law 423 = .ok (.iadd, 1) := by decide +kernel
theorem dL_law_424 : decode cL_law 424 = .ok (.iaload, 1) := by decide +kernel
theorem dL_law_425 : decode cL_law 425 = .ok (.invokevirtual 50, 3) := by decide +kernel
theorem dL_law_428 : decode cL_law 428 = .ok (.if_icmp .eq 419, 3) := by decide +kernel
theorem dL_law_431 : decode cL_law 431 = .ok (.iconst 0, 1) := by decide +kernel
theorem dL_law_432 : decode cL_law 432 = .ok (.ireturn, 1) := by decide +kernel
theorem dL_law_433 : decode cL_law 433 = .ok (.aload_n 1, 1) := by decide +kernel
theorem dL_law_434 : decode cL_law 434 = .ok (.aload_n 0, 1) := by decide +kernel
theorem dL_law_435 : decode cL_law 435 = .ok (.iload_n 3, 1) := by decide +kernel
theorem dL_law_436 : decode cL_law 436 = .ok (.iconst 1, 1) := by decide +kernel
theorem dL_law_437 : decode cL_law 437 = .ok (.iadd, 1) := by decide +kernel
theorem dL_law_438 : decode cL_law 438 = .ok (.iaload, 1) := by decide +kernel
theorem dL_law_439 : decode cL_law 439 = .ok (.aload_n 0, 1) := by decide +kernel
theorem dL_law_440 : decode cL_law 440 = .ok (.iload_n 3, 1) := by decide +kernel
theorem dL_law_441 : decode cL_law 441 = .ok (.iconst 2, 1) := by decide +kernel
theorem dL_law_442 : decode cL_law 442 = .ok (.iadd, 1) := by decide +kernel
theorem dL_law_443 : decode cL_law 443 = .ok (.iaload, 1) := by decide +kernel
theorem dL_law_444 : decode cL_law 444 = .ok (.invokevirtual 51, 3) := by decide +kernel
theorem dL_law_447 : decode cL_law 447 = .ok (.aload_n 2, 1) := by decide +kernel
theorem dL_law_448 : decode cL_law 448 = .ok (.aload_n 0, 1) := by decide +kernel
theorem dL_law_449 : decode cL_law 449 = .ok (.iload_n 3, 1) := by decide +kernel
theorem dL_law_450 : decode cL_law 450 = .ok (.iconst 1, 1) := by decide +kernel
theorem dL_law_451 : decode cL_law 451 = .ok (.iadd, 1) := by decide +kernel
theorem dL_law_452 : decode cL_law 452 = .ok (.iaload, 1) := by decide +kernel
theorem dL_law_453 : decode cL_law 453 = .ok (.aload_n 0, 1) := by decide +kernel
theorem dL_law_454 : decode cL_law 454 = .ok (.iload_n 3, 1) := by decide +kernel
theorem dL_law_455 : decode cL_law 455 = .ok (.iconst 2, 1) := by decide +kernel
theorem dL_law_456 : decode cL_law 456 = .ok (.iadd, 1) := by decide +kernel
theorem dL_law_457 : decode cL_law 457 = .ok (.iaload, 1) := by decide +kernel
theorem dL_law_458 : decode cL_law 458 = .ok (.invokevirtual 54, 3) := by decide +kernel
theorem dL_law_461 : decode cL_law 461 = .ok (.if_icmp .eq 386, 3) := by decide +kernel
theorem dL_law_464 : decode cL_law 464 = .ok (.iconst 0, 1) := by decide +kernel
theorem dL_law_465 : decode cL_law 465 = .ok (.ireturn, 1) := by decide +kernel
theorem dL_law_466 : decode cL_law 466 = .ok (.aload_n 1, 1) := by decide +kernel
theorem dL_law_467 : decode cL_law 467 = .ok (.aload_n 0, 1) := by decide +kernel
theorem dL_law_468 : decode cL_law 468 = .ok (.iload_n 3, 1) := by decide +kernel
theorem dL_law_469 : decode cL_law 469 = .ok (.iconst 1, 1) := by decide +kernel
theorem dL_law_470 : decode cL_law 470 = .ok (.iadd, 1) := by decide +kernel
theorem dL_law_471 : decode cL_law 471 = .ok (.iaload, 1) := by decide +kernel
theorem dL_law_472 : decode cL_law 472 = .ok (.invokevirtual 55, 3) := by decide +kernel
theorem dL_law_475 : decode cL_law 475 = .ok (.aload_n 2, 1) := by decide +kernel
theorem dL_law_476 : decode cL_law 476 = .ok (.aload_n 0, 1) := by decide +kernel
theorem dL_law_477 : decode cL_law 477 = .ok (.iload_n 3, 1) := by decide +kernel
theorem dL_law_478 : decode cL_law 478 = .ok (.iconst 1, 1) := by decide +kernel
theorem dL_law_479 : decode cL_law 479 = .ok (.iadd, 1) := by decide +kernel
theorem dL_law_480 : decode cL_law 480 = .ok (.iaload, 1) := by decide +kernel
theorem dL_law_481 : decode cL_law 481 = .ok (.invokevirtual 58, 3) := by decide +kernel
theorem dL_law_484 : decode cL_law 484 = .ok (.if_icmp .eq 363, 3) := by decide +kernel
theorem dL_law_487 : decode cL_law 487 = .ok (.iconst 0, 1) := by decide +kernel
theorem dL_law_488 : decode cL_law 488 = .ok (.ireturn, 1) := by decide +kernel
theorem dL_law_489 : decode cL_law 489 = .ok (.aload_n 1, 1) := by decide +kernel
theorem dL_law_490 : decode cL_law 490 = .ok (.invokevirtual 59, 3) := by decide +kernel
theorem dL_law_493 : decode cL_law 493 = .ok (.aload_n 2, 1) := by decide +kernel
theorem dL_law_494 : decode cL_law 494 = .ok (.invokevirtual 63, 3) := by decide +kernel
theorem dL_law_497 : decode cL_law 497 = .ok (.if_icmp .eq 350, 3) := by decide +kernel
theorem dL_law_500 : decode cL_law 500 = .ok (.iconst 0, 1) := by decide +kernel
theorem dL_law_501 : decode cL_law 501 = .ok (.ireturn, 1) := by decide +kernel
theorem dL_law_502 : decode cL_law 502 = .ok (.aload_n 1, 1) := by decide +kernel
theorem dL_law_503 : decode cL_law 503 = .ok (.aload_n 0, 1) := by decide +kernel
theorem dL_law_504 : decode cL_law 504 = .ok (.iload_n 3, 1) := by decide +kernel
theorem dL_law_505 : decode cL_law 505 = .ok (.iconst 1, 1) := by decide +kernel
theorem dL_law_506 : decode cL_law 506 = .ok (.iadd, 1) := by decide +kernel
theorem dL_law_507 : decode cL_law 507 = .ok (.iaload, 1) := by decide +kernel
theorem dL_law_508 : decode cL_law 508 = .ok (.aload_n 0, 1) := by decide +kernel
theorem dL_law_509 : decode cL_law 509 = .ok (.iload_n 3, 1) := by decide +kernel
theorem dL_law_510 : decode cL_law 510 = .ok (.iconst 2, 1) := by decide +kernel
theorem dL_law_511 : decode cL_law 511 = .ok (.iadd, 1) := by decide +kernel
theorem dL_law_512 : decode cL_law 512 = .ok (.iaload, 1) := by decide +kernel
theorem dL_law_513 : decode cL_law 513 = .ok (.invokevirtual 64, 3) := by decide +kernel
theorem dL_law_516 : decode cL_law 516 = .ok (.aload_n 2, 1) := by decide +kernel
theorem dL_law_517 : decode cL_law 517 = .ok (.aload_n 0, 1) := by decide +kernel
theorem dL_law_518 : decode cL_law 518 = .ok (.iload_n 3, 1) := by decide +kernel
theorem dL_law_519 : decode cL_law 519 = .ok (.iconst 1, 1) := by decide +kernel
theorem dL_law_520 : decode cL_law 520 = .ok (.iadd, 1) := by decide +kernel
theorem dL_law_521 : decode cL_law 521 = .ok (.iaload, 1) := by decide +kernel
theorem dL_law_522 : decode cL_law 522 = .ok (.aload_n 0, 1) := by decide +kernel
theorem dL_law_523 : decode cL_law 523 = .ok (.iload_n 3, 1) := by decide +kernel
theorem dL_law_524 : decode cL_law 524 = .ok (.iconst 2, 1) := by decide +kernel
theorem dL_law_525 : decode cL_law 525 = .ok (.iadd, 1) := by decide +kernel
theorem dL_law_526 : decode cL_law 526 = .ok (.iaload, 1) := by decide +kernel
theorem dL_law_527 : decode cL_law 527 = .ok (.invokevirtual 67, 3) := by decide +kernel
theorem dL_law_530 : decode cL_law 530 = .ok (.if_icmp .eq 317, 3) := by decide +kernel
theorem dL_law_533 : decode cL_law 533 = .ok (.iconst 0, 1) := by decide +kernel
theorem dL_law_534 : decode cL_law 534 = .ok (.ireturn, 1) := by decide +kernel
theorem dL_law_535 : decode cL_law 535 = .ok (.aload_n 1, 1) := by decide +kernel
theorem dL_law_536 : decode cL_law 536 = .ok (.aload_n 0, 1) := by decide +kernel
theorem dL_law_537 : decode cL_law 537 = .ok (.iload_n 3, 1) := by decide +kernel
theorem dL_law_538 : decode cL_law 538 = .ok (.iconst 1, 1) := by decide +kernel
theorem dL_law_539 : decode cL_law 539 = .ok (.iadd, 1) := by decide +kernel
theorem dL_law_540 : decode cL_law 540 = .ok (.iaload, 1) := by decide +kernel
theorem dL_law_541 : decode cL_law 541 = .ok (.invokevirtual 68, 3) := by decide +kernel
theorem dL_law_544 : decode cL_law 544 = .ok (.aload_n 2, 1) := by decide +kernel
theorem dL_law_545 : decode cL_law 545 = .ok (.aload_n 0, 1) := by decide +kernel
theorem dL_law_546 : decode cL_law 546 = .ok (.iload_n 3, 1) := by decide +kernel
theorem dL_law_547 : decode cL_law 547 = .ok (.iconst 1, 1) := by decide +kernel
theorem dL_law_548 : decode cL_law 548 = .ok (.iadd, 1) := by decide +kernel
theorem dL_law_549 : decode cL_law 549 = .ok (.iaload, 1) := by decide +kernel
theorem dL_law_550 : decode cL_law 550 = .ok (.invokevirtual 71, 3) := by decide +kernel
theorem dL_law_553 : decode cL_law 553 = .ok (.if_icmp .eq 294, 3) := by decide +kernel
theorem dL_law_556 : decode cL_law 556 = .ok (.iconst 0, 1) := by decide +kernel
theorem dL_law_557 : decode cL_law 557 = .ok (.ireturn, 1) := by decide +kernel
theorem dL_law_558 : decode cL_law 558 = .ok (.aload_n 1, 1) := by decide +kernel
theorem dL_law_559 : decode cL_law 559 = .ok (.aload_n 0, 1) := by decide +kernel
theorem dL_law_560 : decode cL_law 560 = .ok (.iload_n 3, 1) := by decide +kernel
theorem dL_law_561 : decode cL_law 561 = .ok (.iconst 1, 1) := by decide +kernel
theorem dL_law_562 : decode cL_law 562 = .ok (.iadd, 1) := by decide +kernel
theorem dL_law_563 : decode cL_law 563 = .ok (.iaload, 1) := by decide +kernel
theorem dL_law_564 : decode cL_law 564 = .ok (.aload_n 0, 1) := by decide +kernel
theorem dL_law_565 : decode cL_law 565 = .ok (.iload_n 3, 1) := by decide +kernel
theorem dL_law_566 : decode cL_law 566 = .ok (.iconst 2, 1) := by decide +kernel
theorem dL_law_567 : decode cL_law 567 = .ok (.iadd, 1) := by decide +kernel
theorem dL_law_568 : decode cL_law 568 = .ok (.iaload, 1) := by decide +kernel
theorem dL_law_569 : decode cL_law 569 = .ok (.aload_n 0, 1) := by decide +kernel
theorem dL_law_570 : decode cL_law 570 = .ok (.iload_n 3, 1) := by decide +kernel
theorem dL_law_571 : decode cL_law 571 = .ok (.iconst 3, 1) := by decide +kernel
theorem dL_law_572 : decode cL_law 572 = .ok (.iadd, 1) := by decide +kernel
theorem dL_law_573 : decode cL_law 573 = .ok (.iaload, 1) := by decide +kernel
theorem dL_law_574 : decode cL_law 574 = .ok (.invokevirtual 72, 3) := by decide +kernel
theorem dL_law_577 : decode cL_law 577 = .ok (.aload_n 2, 1) := by decide +kernel
theorem dL_law_578 : decode cL_law 578 = .ok (.aload_n 0, 1) := by decide +kernel
theorem dL_law_579 : decode cL_law 579 = .ok (.iload_n 3, 1) := by decide +kernel
theorem dL_law_580 : decode cL_law 580 = .ok (.iconst 1, 1) := by decide +kernel
theorem dL_law_581 : decode cL_law 581 = .ok (.iadd, 1) := by decide +kernel
theorem dL_law_582 : decode cL_law 582 = .ok (.iaload, 1) := by decide +kernel
theorem dL_law_583 : decode cL_law 583 = .ok (.aload_n 0, 1) := by decide +kernel
theorem dL_law_584 : decode cL_law 584 = .ok (.iload_n 3, 1) := by decide +kernel
theorem dL_law_585 : decode cL_law 585 = .ok (.iconst 2, 1) := by decide +kernel
theorem dL_law_586 : decode cL_law 586 = .ok (.iadd, 1) := by decide +kernel
theorem dL_law_587 : decode cL_law 587 = .ok (.iaload, 1) := by decide +kernel
theorem dL_law_588 : decode cL_law 588 = .ok (.aload_n 0, 1) := by decide +kernel
theorem dL_law_589 : decode cL_law 589 = .ok (.iload_n 3, 1) := by decide +kernel
theorem dL_law_590 : decode cL_law 590 = .ok (.iconst 3, 1) := by decide +kernel
theorem dL_law_591 : decode cL_law 591 = .ok (.iadd, 1) := by decide +kernel
theorem dL_law_592 : decode cL_law 592 = .ok (.iaload, 1) := by decide +kernel
theorem dL_law_593 : decode cL_law 593 = .ok (.invokevirtual 76, 3) := by decide +kernel
theorem dL_law_596 : decode cL_law 596 = .ok (.if_icmp .eq 251, 3) := by decide +kernel
theorem dL_law_599 : decode cL_law 599 = .ok (.iconst 0, 1) := by decide +kernel
theorem dL_law_600 : decode cL_law 600 = .ok (.ireturn, 1) := by decide +kernel
theorem dL_law_601 : decode cL_law 601 = .ok (.aload_n 1, 1) := by decide +kernel
theorem dL_law_602 : decode cL_law 602 = .ok (.aload_n 0, 1) := by decide +kernel
theorem dL_law_603 : decode cL_law 603 = .ok (.iload_n 3, 1) := by decide +kernel
theorem dL_law_604 : decode cL_law 604 = .ok (.iconst 1, 1) := by decide +kernel
theorem dL_law_605 : decode cL_law 605 = .ok (.iadd, 1) := by decide +kernel
theorem dL_law_606 : decode cL_law 606 = .ok (.iaload, 1) := by decide +kernel
theorem dL_law_607 : decode cL_law 607 = .ok (.aload_n 0, 1) := by decide +kernel
theorem dL_law_608 : decode cL_law 608 = .ok (.iload_n 3, 1) := by decide +kernel
theorem dL_law_609 : decode cL_law 609 = .ok (.iconst 2, 1) := by decide +kernel
theorem dL_law_610 : decode cL_law 610 = .ok (.iadd, 1) := by decide +kernel
theorem dL_law_611 : decode cL_law 611 = .ok (.iaload, 1) := by decide +kernel
theorem dL_law_612 : decode cL_law 612 = .ok (.invokevirtual 77, 3) := by decide +kernel
theorem dL_law_615 : decode cL_law 615 = .ok (.aload_n 2, 1) := by decide +kernel
theorem dL_law_616 : decode cL_law 616 = .ok (.aload_n 0, 1) := by decide +kernel
theorem dL_law_617 : decode cL_law 617 = .ok (.iload_n 3, 1) := by decide +kernel
theorem dL_law_618 : decode cL_law 618 = .ok (.iconst 1, 1) := by decide +kernel
theorem dL_law_619 : decode cL_law 619 = .ok (.iadd, 1) := by decide +kernel
theorem dL_law_620 : decode cL_law 620 = .ok (.iaload, 1) := by decide +kernel
theorem dL_law_621 : decode cL_law 621 = .ok (.aload_n 0, 1) := by decide +kernel
theorem dL_law_622 : decode cL_law 622 = .ok (.iload_n 3, 1) := by decide +kernel
theorem dL_law_623 : decode cL_law 623 = .ok (.iconst 2, 1) := by decide +kernel
theorem dL_law_624 : decode cL_law 624 = .ok (.iadd, 1) := by decide +kernel
theorem dL_law_625 : decode cL_law 625 = .ok (.iaload, 1) := by decide +kernel
theorem dL_law_626 : decode cL_law 626 = .ok (.invokevirtual 80, 3) := by decide +kernel
theorem dL_law_629 : decode cL_law 629 = .ok (.if_icmp .eq 218, 3) := by decide +kernel
theorem dL_law_632 : decode cL_law 632 = .ok (.iconst 0, 1) := by decide +kernel
theorem dL_law_633 : decode cL_law 633 = .ok (.ireturn, 1) := by decide +kernel
theorem dL_law_634 : decode cL_law 634 = .ok (.aload_n 1, 1) := by decide +kernel
theorem dL_law_635 : decode cL_law 635 = .ok (.aload_n 0, 1) := by decide +kernel
theorem dL_law_636 : decode cL_law 636 = .ok (.iload_n 3, 1) := by decide +kernel
theorem dL_law_637 : decode cL_law 637 = .ok (.iconst 1, 1) := by decide +kernel
theorem dL_law_638 : decode cL_law 638 = .ok (.iadd, 1) := by decide +kernel
theorem dL_law_639 : decode cL_law 639 = .ok (.iaload, 1) := by decide +kernel
theorem dL_law_640 : decode cL_law 640 = .ok (.invokevirtual 81, 3) := by decide +kernel
theorem dL_law_643 : decode cL_law 643 = .ok (.aload_n 2, 1) := by decide +kernel
theorem dL_law_644 : decode cL_law 644 = .ok (.aload_n 0, 1) := by decide +kernel
theorem dL_law_645 : decode cL_law 645 = .ok (.iload_n 3, 1) := by decide +kernel
theorem dL_law_646 : decode cL_law 646 = .ok (.iconst 1, 1) := by decide +kernel
theorem dL_law_647 : decode cL_law 647 = .ok (.iadd, 1) := by decide +kernel
theorem dL_law_648 : decode cL_law 648 = .ok (.iaload, 1) := by decide +kernel
theorem dL_law_649 : decode cL_law 649 = .ok (.invokevirtual 84, 3) := by decide +kernel
theorem dL_law_652 : decode cL_law 652 = .ok (.if_icmp .eq 195, 3) := by decide +kernel
theorem dL_law_655 : decode cL_law 655 = .ok (.iconst 0, 1) := by decide +kernel
theorem dL_law_656 : decode cL_law 656 = .ok (.ireturn, 1) := by decide +kernel
theorem dL_law_657 : decode cL_law 657 = .ok (.aload_n 1, 1) := by decide +kernel
theorem dL_law_658 : decode cL_law 658 = .ok (.invokevirtual 85, 3) := by decide +kernel
theorem dL_law_661 : decode cL_law 661 = .ok (.aload_n 2, 1) := by decide +kernel
theorem dL_law_662 : decode cL_law 662 = .ok (.invokevirtual 88, 3) := by decide +kernel
theorem dL_law_665 : decode cL_law 665 = .ok (.if_icmp .eq 182, 3) := by decide +kernel
theorem dL_law_668 : decode cL_law 668 = .ok (.iconst 0, 1) := by decide +kernel
theorem dL_law_669 : decode cL_law 669 = .ok (.ireturn, 1) := by decide +kernel
theorem dL_law_670 : decode cL_law 670 = .ok (.aload_n 1, 1) := by decide +kernel
theorem dL_law_671 : decode cL_law 671 = .ok (.aload_n 0, 1) := by decide +kernel
theorem dL_law_672 : decode cL_law 672 = .ok (.iload_n 3, 1) := by decide +kernel
theorem dL_law_673 : decode cL_law 673 = .ok (.iconst 1, 1) := by decide +kernel
theorem dL_law_674 : decode cL_law 674 = .ok (.iadd, 1) := by decide +kernel
theorem dL_law_675 : decode cL_law 675 = .ok (.iaload, 1) := by decide +kernel
theorem dL_law_676 : decode cL_law 676 = .ok (.invokevirtual 89, 3) := by decide +kernel
theorem dL_law_679 : decode cL_law 679 = .ok (.aload_n 2, 1) := by decide +kernel
theorem dL_law_680 : decode cL_law 680 = .ok (.aload_n 0, 1) := by decide +kernel
theorem dL_law_681 : decode cL_law 681 = .ok (.iload_n 3, 1) := by decide +kernel
theorem dL_law_682 : decode cL_law 682 = .ok (.iconst 1, 1) := by decide +kernel
theorem dL_law_683 : decode cL_law 683 = .ok (.iadd, 1) := by decide +kernel
theorem dL_law_684 : decode cL_law 684 = .ok (.iaload, 1) := by decide +kernel
theorem dL_law_685 : decode cL_law 685 = .ok (.invokevirtual 92, 3) := by decide +kernel
theorem dL_law_688 : decode cL_law 688 = .ok (.if_icmp .eq 159, 3) := by decide +kernel
theorem dL_law_691 : decode cL_law 691 = .ok (.iconst 0, 1) := by decide +kernel
theorem dL_law_692 : decode cL_law 692 = .ok (.ireturn, 1) := by decide +kernel
theorem dL_law_693 : decode cL_law 693 = .ok (.aload_n 1, 1) := by decide +kernel
theorem dL_law_694 : decode cL_law 694 = .ok (.aload_n 0, 1) := by decide +kernel
theorem dL_law_695 : decode cL_law 695 = .ok (.iload_n 3, 1) := by decide +kernel
theorem dL_law_696 : decode cL_law 696 = .ok (.iconst 1, 1) := by decide +kernel
theorem dL_law_697 : decode cL_law 697 = .ok (.iadd, 1) := by decide +kernel
theorem dL_law_698 : decode cL_law 698 = .ok (.iaload, 1) := by decide +kernel
theorem dL_law_699 : decode cL_law 699 = .ok (.invokevirtual 93, 3) := by decide +kernel
theorem dL_law_702 : decode cL_law 702 = .ok (.aload_n 2, 1) := by decide +kernel
theorem dL_law_703 : decode cL_law 703 = .ok (.aload_n 0, 1) := by decide +kernel
theorem dL_law_704 : decode cL_law 704 = .ok (.iload_n 3, 1) := by decide +kernel
theorem dL_law_705 : decode cL_law 705 = .ok (.iconst 1, 1) := by decide +kernel
theorem dL_law_706 : decode cL_law 706 = .ok (.iadd, 1) := by decide +kernel
theorem dL_law_707 : decode cL_law 707 = .ok (.iaload, 1) := by decide +kernel
theorem dL_law_708 : decode cL_law 708 = .ok (.invokevirtual 96, 3) := by decide +kernel
theorem dL_law_711 : decode cL_law 711 = .ok (.if_icmp .eq 136, 3) := by decide +kernel
theorem dL_law_714 : decode cL_law 714 = .ok (.iconst 0, 1) := by decide +kernel
theorem dL_law_715 : decode cL_law 715 = .ok (.ireturn, 1) := by decide +kernel
theorem dL_law_716 : decode cL_law 716 = .ok (.aload_n 1, 1) := by decide +kernel
theorem dL_law_717 : decode cL_law 717 = .ok (.invokevirtual 97, 3) := by decide +kernel
theorem dL_law_720 : decode cL_law 720 = .ok (.aload_n 2, 1) := by decide +kernel
theorem dL_law_721 : decode cL_law 721 = .ok (.invokevirtual 100, 3) := by decide +kernel
theorem dL_law_724 : decode cL_law 724 = .ok (.if_icmp .eq 123, 3) := by decide +kernel
theorem dL_law_727 : decode cL_law 727 = .ok (.iconst 0, 1) := by decide +kernel
theorem dL_law_728 : decode cL_law 728 = .ok (.ireturn, 1) := by decide +kernel
theorem dL_law_729 : decode cL_law 729 = .ok (.aload_n 1, 1) := by decide +kernel
theorem dL_law_730 : decode cL_law 730 = .ok (.invokevirtual 101, 3) := by decide +kernel
theorem dL_law_733 : decode cL_law 733 = .ok (.aload_n 2, 1) := by decide +kernel
theorem dL_law_734 : decode cL_law 734 = .ok (.invokevirtual 104, 3) := by decide +kernel
theorem dL_law_737 : decode cL_law 737 = .ok (.if_icmp .eq 110, 3) := by decide +kernel
theorem dL_law_740 : decode cL_law 740 = .ok (.iconst 0, 1) := by decide +kernel
theorem dL_law_741 : decode cL_law 741 = .ok (.ireturn, 1) := by decide +kernel
theorem dL_law_742 : decode cL_law 742 = .ok (.aload_n 1, 1) := by decide +kernel
theorem dL_law_743 : decode cL_law 743 = .ok (.aload_n 0, 1) := by decide +kernel
theorem dL_law_744 : decode cL_law 744 = .ok (.iload_n 3, 1) := by decide +kernel
theorem dL_law_745 : decode cL_law 745 = .ok (.iconst 1, 1) := by decide +kernel
theorem dL_law_746 : decode cL_law 746 = .ok (.iadd, 1) := by decide +kernel
theorem dL_law_747 : decode cL_law 747 = .ok (.iaload, 1) := by decide +kernel
theorem dL_law_748 : decode cL_law 748 = .ok (.aload_n 0, 1) := by decide +kernel
theorem dL_law_749 : decode cL_law 749 = .ok (.iload_n 3, 1) := by decide +kernel
theorem dL_law_750 : decode cL_law 750 = .ok (.iconst 2, 1) := by decide +kernel
theorem dL_law_751 : decode cL_law 751 = .ok (.iadd, 1) := by decide +kernel
theorem dL_law_752 : decode cL_law 752 = .ok (.iaload, 1) := by decide +kernel
theorem dL_law_753 : decode cL_law 753 = .ok (.invokevirtual 105, 3) := by decide +kernel
theorem dL_law_756 : decode cL_law 756 = .ok (.aload_n 2, 1) := by decide +kernel
theorem dL_law_757 : decode cL_law 757 = .ok (.aload_n 0, 1) := by decide +kernel
theorem dL_law_758 : decode cL_law 758 = .ok (.iload_n 3, 1) := by decide +kernel
theorem dL_law_759 : decode cL_law 759 = .ok (.iconst 1, 1) := by decide +kernel
theorem dL_law_760 : decode cL_law 760 = .ok (.iadd, 1) := by decide +kernel
theorem dL_law_761 : decode cL_law 761 = .ok (.iaload, 1) := by decide +kernel
theorem dL_law_762 : decode cL_law 762 = .ok (.aload_n 0, 1) := by decide +kernel
theorem dL_law_763 : decode cL_law 763 = .ok (.iload_n 3, 1) := by decide +kernel
theorem dL_law_764 : decode cL_law 764 = .ok (.iconst 2, 1) := by decide +kernel
theorem dL_law_765 : decode cL_law 765 = .ok (.iadd, 1) := by decide +kernel
theorem dL_law_766 : decode cL_law 766 = .ok (.iaload, 1) := by decide +kernel
theorem dL_law_767 : decode cL_law 767 = .ok (.invokevirtual 108, 3) := by decide +kernel
theorem dL_law_770 : decode cL_law 770 = .ok (.if_icmp .eq 77, 3) := by decide +kernel
theorem dL_law_773 : decode cL_law 773 = .ok (.iconst 0, 1) := by decide +kernel
theorem dL_law_774 : decode cL_law 774 = .ok (.ireturn, 1) := by decide +kernel
theorem dL_law_775 : decode cL_law 775 = .ok (.aload_n 1, 1) := by decide +kernel
theorem dL_law_776 : decode cL_law 776 = .ok (.aload_n 0, 1) := by decide +kernel
theorem dL_law_777 : decode cL_law 777 = .ok (.iload_n 3, 1) := by decide +kernel
theorem dL_law_778 : decode cL_law 778 = .ok (.iconst 1, 1) := by decide +kernel
theorem dL_law_779 : decode cL_law 779 = .ok (.iadd, 1) := by decide +kernel
theorem dL_law_780 : decode cL_law 780 = .ok (.iaload, 1) := by decide +kernel
theorem dL_law_781 : decode cL_law 781 = .ok (.invokevirtual 109, 3) := by decide +kernel
theorem dL_law_784 : decode cL_law 784 = .ok (.aload_n 2, 1) := by decide +kernel
theorem dL_law_785 : decode cL_law 785 = .ok (.aload_n 0, 1) := by decide +kernel
theorem dL_law_786 : decode cL_law 786 = .ok (.iload_n 3, 1) := by decide +kernel
theorem dL_law_787 : decode cL_law 787 = .ok (.iconst 1, 1) := by decide +kernel
theorem dL_law_788 : decode cL_law 788 = .ok (.iadd, 1) := by decide +kernel
theorem dL_law_789 : decode cL_law 789 = .ok (.iaload, 1) := by decide +kernel
theorem dL_law_790 : decode cL_law 790 = .ok (.invokevirtual 112, 3) := by decide +kernel
theorem dL_law_793 : decode cL_law 793 = .ok (.if_icmp .eq 54, 3) := by decide +kernel
theorem dL_law_796 : decode cL_law 796 = .ok (.iconst 0, 1) := by decide +kernel
theorem dL_law_797 : decode cL_law 797 = .ok (.ireturn, 1) := by decide +kernel
theorem dL_law_798 : decode cL_law 798 = .ok (.aload_n 1, 1) := by decide +kernel
theorem dL_law_799 : decode cL_law 799 = .ok (.invokevirtual 113, 3) := by decide +kernel
theorem dL_law_802 : decode cL_law 802 = .ok (.aload_n 2, 1) := by decide +kernel
theorem dL_law_803 : decode cL_law 803 = .ok (.invokevirtual 116, 3) := by decide +kernel
theorem dL_law_806 : decode cL_law 806 = .ok (.if_icmp .eq 41, 3) := by decide +kernel
theorem dL_law_809 : decode cL_law 809 = .ok (.iconst 0, 1) := by decide +kernel
theorem dL_law_810 : decode cL_law 810 = .ok (.ireturn, 1) := by decide +kernel
theorem dL_law_811 : decode cL_law 811 = .ok (.aload_n 1, 1) := by decide +kernel
theorem dL_law_812 : decode cL_law 812 = .ok (.aload_n 0, 1) := by decide +kernel
theorem dL_law_813 : decode cL_law 813 = .ok (.iload_n 3, 1) := by decide +kernel
theorem dL_law_814 : decode cL_law 814 = .ok (.iconst 1, 1) := by decide +kernel
theorem dL_law_815 : decode cL_law 815 = .ok (.iadd, 1) := by decide +kernel
theorem dL_law_816 : decode cL_law 816 = .ok (.iaload, 1) := by decide +kernel
theorem dL_law_817 : decode cL_law 817 = .ok (.invokevirtual 117, 3) := by decide +kernel
theorem dL_law_820 : decode cL_law 820 = .ok (.aload_n 2, 1) := by decide +kernel
theorem dL_law_821 : decode cL_law 821 = .ok (.aload_n 0, 1) := by decide +kernel
theorem dL_law_822 : decode cL_law 822 = .ok (.iload_n 3, 1) := by decide +kernel
theorem dL_law_823 : decode cL_law 823 = .ok (.iconst 1, 1) := by decide +kernel
theorem dL_law_824 : decode cL_law 824 = .ok (.iadd, 1) := by decide +kernel
theorem dL_law_825 : decode cL_law 825 = .ok (.iaload, 1) := by decide +kernel
theorem dL_law_826 : decode cL_law 826 = .ok (.invokevirtual 120, 3) := by decide +kernel
theorem dL_law_829 : decode cL_law 829 = .ok (.if_icmp .eq 18, 3) := by decide +kernel
theorem dL_law_832 : decode cL_law 832 = .ok (.iconst 0, 1) := by decide +kernel
theorem dL_law_833 : decode cL_law 833 = .ok (.ireturn, 1) := by decide +kernel
theorem dL_law_834 : decode cL_law 834 = .ok (.aload_n 1, 1) := by decide +kernel
theorem dL_law_835 : decode cL_law 835 = .ok (.invokevirtual 121, 3) := by decide +kernel
theorem dL_law_838 : decode cL_law 838 = .ok (.aload_n 2, 1) := by decide +kernel
theorem dL_law_839 : decode cL_law 839 = .ok (.invokevirtual 124, 3) := by decide +kernel
theorem dL_law_842 : decode cL_law 842 = .ok (.if_icmp .eq 5, 3) := by decide +kernel
theorem dL_law_845 : decode cL_law 845 = .ok (.iconst 0, 1) := by decide +kernel
theorem dL_law_846 : decode cL_law 846 = .ok (.ireturn, 1) := by decide +kernel
theorem dL_law_847 : decode cL_law 847 = .ok (.iinc 3 4, 3) := by decide +kernel
theorem dL_law_850 : decode cL_law 850 = .ok (.goto (-832), 3) := by decide +kernel
theorem dL_law_853 : decode cL_law 853 = .ok (.iconst 1, 1) := by decide +kernel
theorem dL_law_854 : decode cL_law 854 = .ok (.ireturn, 1) := by decide +kernel
end
section
/-! ===== the layer: every cell that changes is an int at a code; gx_K is the judgement over such a world ===== -/
abbrev gx_M : Type := Nat → Nat → Int32
def gx_r (μ : gx_M) (c : Nat) (f : Nat → Int32) : gx_M := fun a => if a = c then f else μ a
def gx_u (μ : gx_M) (c j : Nat) (v : Int32) : gx_M := gx_r μ c (upd (μ c) j v)
theorem gx_r_s (μ : gx_M) (c : Nat) (f : Nat → Int32) : gx_r μ c f c = f := by simp [gx_r]
theorem gx_r_n {μ : gx_M} {c a : Nat} {f : Nat → Int32} (h : a ≠ c) : gx_r μ c f a = μ a := by simp [gx_r, h]
theorem gx_u_s (μ : gx_M) (c j : Nat) (v : Int32) : gx_u μ c j v c = upd (μ c) j v := gx_r_s _ _ _
theorem gx_u_n {μ : gx_M} {c a j : Nat} {v : Int32} (h : a ≠ c) : gx_u μ c j v a = μ a := gx_r_n h
/-- a layout: how many codes, the kind of each, its address, the classes of int arrays and of the array of tables, the classes' numbers and slots -/
abbrev gx_Y : Type := Nat × (Nat → Nat) × (Nat → Nat) × ClassId × ClassId × va_G
def gy_n (Y : gx_Y) : Nat := Y.1
def gy_k (Y : gx_Y) : Nat → Nat := Y.2.1
def gy_a (Y : gx_Y) : Nat → Nat := Y.2.2.1
def gy_I (Y : gx_Y) : ClassId := Y.2.2.2.1
def gy_T (Y : gx_Y) : ClassId := Y.2.2.2.2.1
def gy_D (Y : gx_Y) : va_G := Y.2.2.2.2.2
/-- kinds: 1 Table, 2 Bowls, 3 Piece, 4 Row, 5 Text, 6 History, 7 GlassBowls, 8 the reference, 9 the array of tables, 100 + n an int array of n -/
def gx_N : Nat → Nat
  | 1 => 4 | 2 => 10 | 3 => 6 | 4 => 1 | 5 => 8 | 6 => 3 | 7 => 4 | _ => 11
def gx_Ci : Nat → Nat
  | 1 => 4 | 2 => 0 | 3 => 2 | 4 => 3 | 5 => 5 | 6 => 1 | 7 => 6 | _ => 7
def gx_fld (kind : Nat) (ad : Nat → Nat) (c : Nat) (row : Nat → Int32) (k : Nat) : Value := match kind, k with
  | 1, 0 => .ref (ad (c + 1)) | 1, 1 => .ref (ad (c + 12)) | 1, 2 => .ref (ad (c + 23))
  | 2, 0 => .ref (ad (c + 1)) | 2, 1 => .ref (ad (c + 3)) | 2, 2 => .ref (ad (c + 5)) | 2, 3 => .ref (ad (c + 7)) | 2, 4 => .ref (ad (c + 9))
  | 3, 0 => .ref (ad (c + 1)) | 3, 1 => .ref (ad (c + 3)) | 3, 2 => .ref (ad (c + 5)) | 3, 3 => .ref (ad (c + 7)) | 3, 4 => .ref (ad (c + 9))
  | 4, 0 => .ref (ad (c + 1))
  | 5, 0 => .ref (ad (c + 1))
  | 6, 0 => .ref (ad (c + 1))
  | 7, 0 => .ref (ad (c + 1)) | 7, 1 => .ref (ad (c + 26)) | 7, 2 => .ref (ad (c + 51)) | 7, 3 => .ref (ad (c + 178))
  | 8, 0 => .ref (ad (c + 1)) | 8, 1 => .ref (ad (c + 2)) | 8, 2 => .ref (ad (c + 3)) | 8, 4 => .ref (ad (c + 4)) | 8, 9 => .ref (ad (c + 5))
  | _, k => .int (row k)
theorem gx_fld_dep (kind : Nat) (ad : Nat → Nat) (c : Nat) {row row' : Nat → Int32} {k : Nat} (h : row k = row' k) : gx_fld kind ad c row k = gx_fld kind ad c row' k := by
  unfold gx_fld; split <;> first | rfl | (rw [h])
def gx_fs (kind : Nat) (ad : Nat → Nat) (c : Nat) (row : Nat → Int32) : List Value := (List.range (gx_N kind)).map (gx_fld kind ad c row)
theorem gx_fs_get {kind : Nat} {ad : Nat → Nat} {c : Nat} {row : Nat → Int32} {k : Nat} (hk : k < gx_N kind) : (gx_fs kind ad c row)[k]? = some (gx_fld kind ad c row k) := by
  simp [gx_fs, List.getElem?_range hk]
theorem gx_fs_len {kind : Nat} {ad : Nat → Nat} {c : Nat} {row : Nat → Int32} : (gx_fs kind ad c row).length = gx_N kind := by simp [gx_fs]
theorem gx_fs_set {kind : Nat} {ad : Nat → Nat} {c : Nat} {row : Nat → Int32} {k : Nat} (v : Int32) (hk : k < gx_N kind) (hv : ∀ f : Nat → Int32, gx_fld kind ad c f k = .int (f k)) : (gx_fs kind ad c row).set k (.int v) = gx_fs kind ad c (upd row k v) := by
  apply List.ext_getElem?
  intro j
  by_cases hj : j = k
  · subst hj
    rw [List.getElem?_set_self (by rw [gx_fs_len]; exact hk), gx_fs_get hk, hv]
    simp [upd]
  · rw [List.getElem?_set_ne (Ne.symm hj)]
    by_cases hl : j < gx_N kind
    · rw [gx_fs_get hl, gx_fs_get hl]
      exact congrArg some (gx_fld_dep kind ad c (by simp [upd, hj]))
    · rw [List.getElem?_eq_none (by rw [gx_fs_len]; omega), List.getElem?_eq_none (by rw [gx_fs_len]; omega)]
def gx_cell (Y : gx_Y) (μ : gx_M) (c : Nat) : va_E :=
  if gy_k Y c < 9 then .inr (gx_Ci (gy_k Y c), gx_fs (gy_k Y c) (gy_a Y) c (μ c))
  else if gy_k Y c = 9 then .inl (gy_T Y, (5, .inr (.inr (.inr (.inr (fun i => some (gy_a Y (c + 1 + 25 * i))))))))
  else .inl (gy_I Y, (gy_k Y c - 100, .inl (μ c)))
theorem gx_cell_o {Y : gx_Y} {μ : gx_M} {c kind : Nat} (hk : gy_k Y c = kind) (h9 : kind < 9) : gx_cell Y μ c = .inr (gx_Ci kind, gx_fs kind (gy_a Y) c (μ c)) := by
  unfold gx_cell; rw [hk, if_pos h9]
theorem gx_cell_t {Y : gx_Y} {μ : gx_M} {c : Nat} (hk : gy_k Y c = 9) : gx_cell Y μ c = .inl (gy_T Y, (5, .inr (.inr (.inr (.inr (fun i => some (gy_a Y (c + 1 + 25 * i)))))))) := by
  unfold gx_cell; rw [hk, if_neg (by omega), if_pos rfl]
theorem gx_cell_a {Y : gx_Y} {μ : gx_M} {c : Nat} (hk : 100 ≤ gy_k Y c) : gx_cell Y μ c = .inl (gy_I Y, (gy_k Y c - 100, .inl (μ c))) := by
  unfold gx_cell; rw [if_neg (by omega), if_neg (by omega)]
theorem gx_cell_row {Y : gx_Y} {μ μ' : gx_M} {a : Nat} (h : μ' a = μ a) : gx_cell Y μ' a = gx_cell Y μ a := by unfold gx_cell; rw [h]
def gx_ws (Y : gx_Y) (μ : gx_M) : va_W := (List.range (gy_n Y)).map (fun c => (gy_a Y c, gx_cell Y μ c))
theorem gx_ws_get {Y : gx_Y} {μ : gx_M} {c : Nat} (h : c < gy_n Y) : (gx_ws Y μ)[c]? = some (gy_a Y c, gx_cell Y μ c) := by
  simp [gx_ws, List.getElem?_range h]
theorem gx_ws_inv {Y : gx_Y} {μ : gx_M} {i : Nat} {p : Nat × va_E} (h : (gx_ws Y μ)[i]? = some p) : i < gy_n Y ∧ p = (gy_a Y i, gx_cell Y μ i) := by
  by_cases hi : i < gy_n Y
  · rw [gx_ws_get hi] at h
    exact ⟨hi, (Option.some.inj h).symm⟩
  · rw [List.getElem?_eq_none (by simp [gx_ws]; omega)] at h
    cases h
theorem gx_ws_set {Y : gx_Y} {μ μ' : gx_M} {c : Nat} (h : c < gy_n Y) (e : ∀ a, a ≠ c → μ' a = μ a) : (gx_ws Y μ).set c (gy_a Y c, gx_cell Y μ' c) = gx_ws Y μ' := by
  apply List.ext_getElem?
  intro j
  by_cases hj : j = c
  · subst hj
    rw [List.getElem?_set_self (by simp [gx_ws]; exact h), gx_ws_get h]
  · rw [List.getElem?_set_ne (Ne.symm hj)]
    by_cases hl : j < gy_n Y
    · rw [gx_ws_get hl, gx_ws_get hl, gx_cell_row (e j hj)]
    · rw [List.getElem?_eq_none (by simp [gx_ws]; omega), List.getElem?_eq_none (by simp [gx_ws]; omega)]
def gx_tys (Y : gx_Y) : List (ClassId × FieldType) := [(gy_I Y, .int), (gy_T Y, .object RX4)]
def gx_A (Y : gx_Y) : Nat → Prop := fun q => ∃ c, c < gy_n Y ∧ q = gy_a Y c
def gx_Inj (Y : gx_Y) : Prop := ∀ a b, a < gy_n Y → b < gy_n Y → gy_a Y a = gy_a Y b → a = b
theorem gx_D {Y : gx_Y} {μ : gx_M} {A0 : Nat → Prop} (hI : gx_Inj Y) (hA : ∀ q, gx_A Y q → A0 q) : va_D A0 (gx_ws Y μ) := by
  refine ⟨fun i j p q hi hj hpq => ?_, fun k q hk => ?_⟩
  · obtain ⟨h1, rfl⟩ := gx_ws_inv hi
    obtain ⟨h2, rfl⟩ := gx_ws_inv hj
    exact hI i j h1 h2 hpq
  · obtain ⟨h1, rfl⟩ := gx_ws_inv hk
    exact hA _ ⟨k, h1, rfl⟩
/-- the words of nest mates -/
def gx_nest : List Cond := [.methodLinkNest RX2 51 yX6_isWithin RX6, .methodLinkNest RX2 72 yX6_oneIf RX6, .methodLinkNest RX5 78 yX6_isWithin RX6, .fieldLinkNest RX6 38 "GlassBowls$Table" "bowls" "LGlassBowls$Bowls;" RX6, .fieldLinkNest RX6 111 "GlassBowls$Table" "piece" "LGlassBowls$Piece;" RX6]
theorem gx_nest_on : ∀ w ∈ gx_nest, w.onTables = true := by
  intro w hw
  simp only [gx_nest, List.mem_cons, List.not_mem_nil, or_false] at hw
  rcases hw with rfl | rfl | rfl | rfl | rfl <;> rfl
theorem gx_nest_warm {s U : State} (hW : s.WarmedH U.vm) (h : ∀ w ∈ gx_nest, va_Nw w s) : ∀ w ∈ gx_nest, va_Nw w U := by
  intro w hw
  have h1 := h w hw
  simp only [gx_nest, List.mem_cons, List.not_mem_nil, or_false] at hw
  rcases hw with rfl | rfl | rfl | rfl | rfl
  · exact va_Nw.warmM hW h1
  · exact va_Nw.warmM hW h1
  · exact va_Nw.warmM hW h1
  · exact va_Nw.warmF hW h1
  · exact va_Nw.warmF hW h1
def gx_W (Y : gx_Y) (μ : gx_M) (U : State) : Prop := va_P (gy_D Y) vwCl (gx_ws Y μ) U.heap ∧ va_K (gy_D Y) vwCl (gx_tys Y) U ∧ gx_Inj Y ∧ ∀ w ∈ gx_nest, va_Nw w U
theorem gx_W_calling {Y : gx_Y} {μ : gx_M} {U : State} {g : JFrame} {mk : MethodId} {a : Array Value} (h : gx_W Y μ U) : gx_W Y μ (U.calling g mk a) :=
  ⟨h.1, va_K.moved (u := U) (U := U.calling g mk a) (Vm.Alike.refl U.vm) h.2.1, h.2.2.1, fun w hw => va_Nw.same (gx_nest_on w hw) (rfl : U.vm = (U.calling g mk a).vm) (h.2.2.2 w hw)⟩
theorem gx_W_blind {Y : gx_Y} {μ : gx_M} {av : List Value} : FrameBlind (va_Pc av (gx_W Y μ)) := fun _ _ _ _ q => ⟨q.1, gx_W_calling q.2⟩
def gx_Q (ret : Option FieldType) (Y : gx_Y) (res : Int32 × gx_M) : Array Value → State → Outcome → State → Prop := match ret with
  | none => va_Qv (fun _ : Unit => True) (fun _ t => gx_W Y res.2 t) (gx_A Y)
  | some _ => va_Qi (fun r (_ : Unit) => r = res.1) (fun _ t => gx_W Y res.2 t) (gx_A Y)
abbrev gx_Ws (y : MethodName) (bytes : ByteArray) (maxL : Nat) (ret : Option FieldType) : List Cond := Cond.code y bytes maxL ret :: gWs
/-- a method's contract over such a world: from μ it answers res.1 and leaves res.2 -/
def gx_Con (l : Launch) (y : MethodName) (bytes : ByteArray) (maxL : Nat) (ret : Option FieldType) (fr lo : Nat) (Y : gx_Y) (As : List Value) (μ : gx_M) (res : Int32 × gx_M) : Prop :=
  Met l y (gx_Ws y bytes maxL ret) { frames := fr, cells := 0, slots := 0, locals := lo } (va_Pc As (gx_W Y μ)) (gx_Q ret Y res) 0 0 (gx_A Y)
abbrev gx_KT : Type := gx_M → Nat → List (Nat × Value) → List Value → Prop
def gx_K (l : Launch) (own : String) (cc : ByteArray) (nL fr lo : Nat) (ret : Option FieldType) (Y : gx_Y) (Post : Int32 → gx_M → Prop) (K : gx_KT) : Prop :=
  ∃ (p : Program) (e : Env) (s : State) (m : MethodId) (args : Array Value) (below : List Frame) (meth : Method) (c : Code) (Q : State → Prop) (A0 : Nat → Prop) (cells slots cR sR : Nat),
    p.tables.exec = Jvm.exec ∧ c.code = cc ∧ c.maxLocals = nL ∧ s.vm.findClass own = some m.cls ∧ (∀ w ∈ gWs, w.before args s = true) ∧ va_K (gy_D Y) vwCl (gx_tys Y) s ∧ gx_Inj Y ∧ (∀ w ∈ gx_nest, va_Nw w s) ∧ (∀ q, gx_A Y q → A0 q) ∧ cells ≤ cR ∧ slots ≤ sR ∧
    K = (fun μ pc L st => ∀ (H : Heap) (locs : List Loc) (ls : Array Slot), va_P (gy_D Y) vwCl (gx_ws Y μ) H → va_S A0 s.heap H locs → lv_has ls nL L → W p l e { frames := fr, cells := cR, slots := sR, locals := lo } s m args below meth c H locs cells slots Q (F0 m pc ls st)) ∧
    (∀ (μ : gx_M) (pc : Nat) (L : List (Nat × Value)) (v : Int32) (ty : FieldType), ret = some ty → narrow ty (.int v) = .int v → decode cc pc = .ok (.ireturn, 1) → Post v μ → K μ pc L [.int v]) ∧
    (∀ (μ : gx_M) (pc : Nat) (L : List (Nat × Value)), ret = none → decode cc pc = .ok (.return_, 1) → Post 0 μ → K μ pc L [])
theorem gx_Con_of {l : Launch} {own name desc : String} {cc : ByteArray} {nL fr lo : Nat} {ret : Option FieldType} {Y : gx_Y} {As : List Value} {L0 : List (Nat × Value)} {μ : gx_M} {res : Int32 × gx_M} (hp : plainName own = true) (hsz : (lg_sl As).length ≤ nL) (hL : lv_args 0 As = L0)
    (body : ∀ K : gx_KT, gx_K l own cc nL fr lo ret Y (fun r m => (r, m) = res) K → K μ 0 L0 []) : gx_Con l ⟨own, name, desc⟩ cc nL ret fr lo Y As μ res := by
  refine Met.ofW (cc := cc) (maxL := nL) (ret := ret) hp rfl ?_
  intro p e s m args below meth c s₁ B hml hv
  obtain ⟨rfl, hP, hK, hI, hN⟩ := hv
  have hts0 := atoms_spec (ws := gx_Ws ⟨own, name, desc⟩ cc nL ret) B.pre
  have hts : ∀ w ∈ gWs, w.before As.toArray s = true := fun w hw => hts0 w (List.mem_cons_of_mem _ hw)
  have hown : s.vm.findClass own = some m.cls := findClass_of_methodNamed B.named
  have hx := B.exec
  have hb := B.bytes
  have hr := B.returns
  have hlocks := B.notSynchronized
  rw [lg_entry_eq]
  have hl := lv_entry As (n := nL) hsz
  rw [hL] at hl
  refine body _ ⟨p, e, s, m, As.toArray, below, meth, c, MQ below (gx_Q ret Y res) As.toArray s 0 0 (gx_A Y), gx_A Y, 0, 0, 0, 0, hx, hb, hml, hown, hts, hK, hI, hN, fun _ h => h, Nat.le_refl _, Nat.le_refl _, rfl, ?_, ?_⟩ s.heap [] _ hP va_S.rf hl
  · intro μ1 pc L v ty hret hn d hpost H locs ls hP1 hS hl1
    subst hret
    have e1 : (v, μ1) = res := hpost
    subst e1
    exact W.zret hx hb hr hn (fun t ht hW => ⟨⟨v, (), rfl, rfl, by rw [ht]; exact hP1, va_K.moved hW.alike hK, hI, gx_nest_warm hW hN⟩, hS.F ht⟩) hS.2.2 d
  · intro μ1 pc L hret d hpost H locs ls hP1 hS hl1
    subst hret
    have e1 : ((0 : Int32), μ1) = res := hpost
    subst e1
    exact W.vret hx hb hr (fun t ht hW => ⟨⟨(), rfl, trivial, by rw [ht]; exact hP1, va_K.moved hW.alike hK, hI, gx_nest_warm hW hN⟩, hS.F ht⟩) hS.2.2 d
/-- the spec's words: a bind over a call's answer, an index that is in -/
def gx_b {β : Type} (x : Option (Int32 × gx_M)) (k : Int32 → gx_M → Option β) : Option β := match x with
  | some (r, m) => k r m
  | none => none
theorem gx_b_some {β : Type} {x : Option (Int32 × gx_M)} {k : Int32 → gx_M → Option β} {res : β} (h : gx_b x k = some res) : ∃ r m, x = some (r, m) ∧ k r m = some res := by
  cases x with
  | none => cases h
  | some q => exact ⟨q.1, q.2, rfl, h⟩
def gx_ix (i : Int32) (n : Nat) : Bool := decide (¬ (i < 0 ∨ n ≤ i.toNatClampNeg))
theorem gx_ix_in {i : Int32} {n : Nat} (h : gx_ix i n = true) : vp_in i n := of_decide_eq_true (p := ¬ (i < 0 ∨ n ≤ i.toNatClampNeg)) h
theorem gx_pos {c : Prop} [Decidable c] {α : Type} {a b : Option α} {r : α} (h : c) (hf : (if c then a else b) = some r) : a = some r := by rwa [if_pos h] at hf
theorem gx_neg {c : Prop} [Decidable c] {α : Type} {a b : Option α} {r : α} (h : ¬ c) (hf : (if c then a else b) = some r) : b = some r := by rwa [if_neg h] at hf
theorem gx_must {c : Prop} [Decidable c] {α : Type} {a : Option α} {r : α} (hf : (if c then a else none) = some r) : c ∧ a = some r := by
  by_cases h : c
  · exact ⟨h, gx_pos h hf⟩
  · rw [if_neg h] at hf; cases hf
def gx_pu (ret : Option FieldType) (r : Int32) (st : List Value) : List Value := match ret with
  | none => st
  | some _ => .int r :: st
/-- how many turns a loop's spec may take -/
def gx_F : Nat := 5000
abbrev gk_o (Y : gx_Y) (c k : Nat) : Prop := c < gy_n Y ∧ gy_k Y c = k
abbrev gk_arr (Y : gx_Y) (c n : Nat) : Prop := c < gy_n Y ∧ gy_k Y c = 100 + n
abbrev gk_row (Y : gx_Y) (c n : Nat) : Prop := gk_o Y c 4 ∧ gk_arr Y (c + 1) n
abbrev gk_bowls (Y : gx_Y) (c : Nat) : Prop := gk_o Y c 2 ∧ gk_row Y (c + 1) 10 ∧ gk_row Y (c + 3) 10 ∧ gk_row Y (c + 5) 10 ∧ gk_row Y (c + 7) 10 ∧ gk_row Y (c + 9) 10
abbrev gk_piece (Y : gx_Y) (c : Nat) : Prop := gk_o Y c 3 ∧ gk_row Y (c + 1) 40 ∧ gk_row Y (c + 3) 40 ∧ gk_row Y (c + 5) 40 ∧ gk_row Y (c + 7) 40 ∧ gk_row Y (c + 9) 40
abbrev gk_tab (Y : gx_Y) (c : Nat) : Prop := gk_o Y c 1 ∧ gk_bowls Y (c + 1) ∧ gk_piece Y (c + 12) ∧ gk_row Y (c + 23) 4
abbrev gk_text (Y : gx_Y) (c : Nat) : Prop := gk_o Y c 5 ∧ gk_row Y (c + 1) 100
abbrev gk_hist (Y : gx_Y) (c : Nat) : Prop := gk_o Y c 6 ∧ gk_o Y (c + 1) 9 ∧ ∀ i, i < 5 → gk_tab Y (c + 1 + 1 + 25 * i)
abbrev gk_bow (Y : gx_Y) (c : Nat) : Prop := gk_o Y c 7 ∧ gk_tab Y (c + 1) ∧ gk_tab Y (c + 26) ∧ gk_hist Y (c + 51) ∧ gk_text Y (c + 178)
abbrev gk_mod (Y : gx_Y) (c : Nat) : Prop := gk_o Y c 8 ∧ gk_arr Y (c + 1) 301 ∧ gk_arr Y (c + 2) 1505 ∧ gk_arr Y (c + 3) 301 ∧ gk_arr Y (c + 4) 100 ∧ gk_arr Y (c + 5) 25
theorem gk_100 {Y : gx_Y} {c n : Nat} (h : gk_arr Y c n) : 100 ≤ gy_k Y c := by rw [h.2]; omega
section GXR
variable {l : Launch} {own : String} {cc : ByteArray} {nL fr lo : Nat} {ret : Option FieldType} {Y : gx_Y} {Post : Int32 → gx_M → Prop} {K : gx_KT} {pc : Nat} {μ : gx_M} {L L' : List (Nat × Value)} {st : List Value} {rr : Int32 × gx_M}
theorem gw_iconst (h : gx_K l own cc nL fr lo ret Y Post K) {n : Int} {v : Int32} (d : decode cc pc = .ok (.iconst n, 1)) (hv : Int32.ofInt n = v) (kk : K μ (pc + 1) L (.int v :: st)) : K μ pc L st := by
  obtain ⟨p, e, s, m, args, below, meth, c0, Q, A0, cells, slots, cR, sR, hx, hb, hml, hown, hts, hK, hI, hN, hA, hcs, hss, rfl, hri, hrv⟩ := h
  intro H locs ls hP hS hl
  exact lv_iconst hx hb d hv (kk H locs ls hP hS hl)
theorem gw_bipush (h : gx_K l own cc nL fr lo ret Y Post K) {n : Int} {v : Int32} (d : decode cc pc = .ok (.bipush n, 2)) (hv : (Int8.ofInt n).toInt32 = v) (kk : K μ (pc + 2) L (.int v :: st)) : K μ pc L st := by
  obtain ⟨p, e, s, m, args, below, meth, c0, Q, A0, cells, slots, cR, sR, hx, hb, hml, hown, hts, hK, hI, hN, hA, hcs, hss, rfl, hri, hrv⟩ := h
  intro H locs ls hP hS hl
  exact lv_bipush hx hb d hv (kk H locs ls hP hS hl)
theorem gw_sipush (h : gx_K l own cc nL fr lo ret Y Post K) {n : Int} {v : Int32} (d : decode cc pc = .ok (.sipush n, 3)) (hv : (Int16.ofInt n).toInt32 = v) (kk : K μ (pc + 3) L (.int v :: st)) : K μ pc L st := by
  obtain ⟨p, e, s, m, args, below, meth, c0, Q, A0, cells, slots, cR, sR, hx, hb, hml, hown, hts, hK, hI, hN, hA, hcs, hss, rfl, hri, hrv⟩ := h
  intro H locs ls hP hS hl
  exact lv_sipush hx hb d hv (kk H locs ls hP hS hl)
theorem gw_ldc (h : gx_K l own cc nL fr lo ret Y Post K) {idx : Nat} {v : Int32} (d : decode cc pc = .ok (.ldc idx, 2)) (hk : Cond.constant own idx v ∈ gWs) (kk : K μ (pc + 2) L (.int v :: st)) : K μ pc L st := by
  obtain ⟨p, e, s, m, args, below, meth, c0, Q, A0, cells, slots, cR, sR, hx, hb, hml, hown, hts, hK, hI, hN, hA, hcs, hss, rfl, hri, hrv⟩ := h
  intro H locs ls hP hS hl
  exact lv_ldc hx hb hown (hts _ hk) d (kk H locs ls hP hS hl)
theorem gw_ldc2 (h : gx_K l own cc nL fr lo ret Y Post K) {idx : Nat} {v : Int64} (d : decode cc pc = .ok (.ldc2_w idx, 3)) (hk : Cond.constantLong own idx v ∈ gWs) (kk : K μ (pc + 3) L (.long v :: st)) : K μ pc L st := by
  obtain ⟨p, e, s, m, args, below, meth, c0, Q, A0, cells, slots, cR, sR, hx, hb, hml, hown, hts, hK, hI, hN, hA, hcs, hss, rfl, hri, hrv⟩ := h
  intro H locs ls hP hS hl
  exact lv_ldc2 hx hb hown (hts _ hk) d (kk H locs ls hP hS hl)
theorem gw_iload_n (h : gx_K l own cc nL fr lo ret Y Post K) {k : Fin 4} {i : Nat} {x : Int32} (j : Nat) (d : decode cc pc = .ok (.iload_n k, 1)) (hj : L[j]? = some (i, .int x)) (hi : (k : Nat) = i) (kk : K μ (pc + 1) L (.int x :: st)) : K μ pc L st := by
  obtain ⟨p, e, s, m, args, below, meth, c0, Q, A0, cells, slots, cR, sR, hx, hb, hml, hown, hts, hK, hI, hN, hA, hcs, hss, rfl, hri, hrv⟩ := h
  intro H locs ls hP hS hl
  exact lv_iload_n hx hb d hi (lv_at hl j hj) (kk H locs ls hP hS hl)
theorem gw_aload_n (h : gx_K l own cc nL fr lo ret Y Post K) {k : Fin 4} {i : Nat} {x : Nat} (j : Nat) (d : decode cc pc = .ok (.aload_n k, 1)) (hj : L[j]? = some (i, .ref x)) (hi : (k : Nat) = i) (kk : K μ (pc + 1) L (.ref x :: st)) : K μ pc L st := by
  obtain ⟨p, e, s, m, args, below, meth, c0, Q, A0, cells, slots, cR, sR, hx, hb, hml, hown, hts, hK, hI, hN, hA, hcs, hss, rfl, hri, hrv⟩ := h
  intro H locs ls hP hS hl
  exact lv_aload_n hx hb d hi (lv_at hl j hj) (kk H locs ls hP hS hl)
theorem gw_lload_n (h : gx_K l own cc nL fr lo ret Y Post K) {k : Fin 4} {i : Nat} {x : Int64} (j : Nat) (d : decode cc pc = .ok (.lload_n k, 1)) (hj : L[j]? = some (i, .long x)) (hi : (k : Nat) = i) (kk : K μ (pc + 1) L (.long x :: st)) : K μ pc L st := by
  obtain ⟨p, e, s, m, args, below, meth, c0, Q, A0, cells, slots, cR, sR, hx, hb, hml, hown, hts, hK, hI, hN, hA, hcs, hss, rfl, hri, hrv⟩ := h
  intro H locs ls hP hS hl
  exact lv_lload_n hx hb d hi (lv_at hl j hj) (kk H locs ls hP hS hl)
theorem gw_iload (h : gx_K l own cc nL fr lo ret Y Post K) {i : Nat} {x : Int32} (j : Nat) (d : decode cc pc = .ok (.iload i, 2)) (hj : L[j]? = some (i, .int x)) (kk : K μ (pc + 2) L (.int x :: st)) : K μ pc L st := by
  obtain ⟨p, e, s, m, args, below, meth, c0, Q, A0, cells, slots, cR, sR, hx, hb, hml, hown, hts, hK, hI, hN, hA, hcs, hss, rfl, hri, hrv⟩ := h
  intro H locs ls hP hS hl
  exact lv_iload hx hb d (lv_at hl j hj) (kk H locs ls hP hS hl)
theorem gw_aload (h : gx_K l own cc nL fr lo ret Y Post K) {i : Nat} {x : Nat} (j : Nat) (d : decode cc pc = .ok (.aload i, 2)) (hj : L[j]? = some (i, .ref x)) (kk : K μ (pc + 2) L (.ref x :: st)) : K μ pc L st := by
  obtain ⟨p, e, s, m, args, below, meth, c0, Q, A0, cells, slots, cR, sR, hx, hb, hml, hown, hts, hK, hI, hN, hA, hcs, hss, rfl, hri, hrv⟩ := h
  intro H locs ls hP hS hl
  exact lv_aload hx hb d (lv_at hl j hj) (kk H locs ls hP hS hl)
theorem gw_istore_n (h : gx_K l own cc nL fr lo ret Y Post K) {k : Fin 4} {i : Nat} {x : Int32} (d : decode cc pc = .ok (.istore_n k, 1)) (hi : (k : Nat) = i) (hn : i < nL) (hL : (i, Value.int x) :: L.filter (fun q => !(q.1 == i) && !(q.1 + 1 == i && q.2.category == 2)) = L') (kk : K μ (pc + 1) L' st) : K μ pc L (.int x :: st) := by
  obtain ⟨p, e, s, m, args, below, meth, c0, Q, A0, cells, slots, cR, sR, hx, hb, hml, hown, hts, hK, hI, hN, hA, hcs, hss, rfl, hri, hrv⟩ := h
  intro H locs ls hP hS hl
  exact lv_istore_n hx hb d hi hl hn hL (fun ls1 hl1 => kk H locs ls1 hP hS hl1)
theorem gw_astore_n (h : gx_K l own cc nL fr lo ret Y Post K) {k : Fin 4} {i : Nat} {x : Nat} (d : decode cc pc = .ok (.astore_n k, 1)) (hi : (k : Nat) = i) (hn : i < nL) (hL : (i, Value.ref x) :: L.filter (fun q => !(q.1 == i) && !(q.1 + 1 == i && q.2.category == 2)) = L') (kk : K μ (pc + 1) L' st) : K μ pc L (.ref x :: st) := by
  obtain ⟨p, e, s, m, args, below, meth, c0, Q, A0, cells, slots, cR, sR, hx, hb, hml, hown, hts, hK, hI, hN, hA, hcs, hss, rfl, hri, hrv⟩ := h
  intro H locs ls hP hS hl
  exact lv_astore_n hx hb d hi hl hn hL (fun ls1 hl1 => kk H locs ls1 hP hS hl1)
theorem gw_lstore_n (h : gx_K l own cc nL fr lo ret Y Post K) {k : Fin 4} {i : Nat} {x : Int64} (d : decode cc pc = .ok (.lstore_n k, 1)) (hi : (k : Nat) = i) (hn : i + 1 < nL) (hL : (i, Value.long x) :: L.filter (fun q => !(q.1 == i) && (!(q.1 == i + 1) && !(q.1 + 1 == i && q.2.category == 2))) = L') (kk : K μ (pc + 1) L' st) : K μ pc L (.long x :: st) := by
  obtain ⟨p, e, s, m, args, below, meth, c0, Q, A0, cells, slots, cR, sR, hx, hb, hml, hown, hts, hK, hI, hN, hA, hcs, hss, rfl, hri, hrv⟩ := h
  intro H locs ls hP hS hl
  exact lv_lstore_n hx hb d hi hl hn hL (fun ls1 hl1 => kk H locs ls1 hP hS hl1)
theorem gw_istore (h : gx_K l own cc nL fr lo ret Y Post K) {i : Nat} {x : Int32} (d : decode cc pc = .ok (.istore i, 2)) (hn : i < nL) (hL : (i, Value.int x) :: L.filter (fun q => !(q.1 == i) && !(q.1 + 1 == i && q.2.category == 2)) = L') (kk : K μ (pc + 2) L' st) : K μ pc L (.int x :: st) := by
  obtain ⟨p, e, s, m, args, below, meth, c0, Q, A0, cells, slots, cR, sR, hx, hb, hml, hown, hts, hK, hI, hN, hA, hcs, hss, rfl, hri, hrv⟩ := h
  intro H locs ls hP hS hl
  exact lv_istore hx hb d hl hn hL (fun ls1 hl1 => kk H locs ls1 hP hS hl1)
theorem gw_astore (h : gx_K l own cc nL fr lo ret Y Post K) {i : Nat} {x : Nat} (d : decode cc pc = .ok (.astore i, 2)) (hn : i < nL) (hL : (i, Value.ref x) :: L.filter (fun q => !(q.1 == i) && !(q.1 + 1 == i && q.2.category == 2)) = L') (kk : K μ (pc + 2) L' st) : K μ pc L (.ref x :: st) := by
  obtain ⟨p, e, s, m, args, below, meth, c0, Q, A0, cells, slots, cR, sR, hx, hb, hml, hown, hts, hK, hI, hN, hA, hcs, hss, rfl, hri, hrv⟩ := h
  intro H locs ls hP hS hl
  exact lv_astore hx hb d hl hn hL (fun ls1 hl1 => kk H locs ls1 hP hS hl1)
theorem gw_iinc (h : gx_K l own cc nL fr lo ret Y Post K) {i : Nat} {n : Int} {x v : Int32} (j : Nat) (d : decode cc pc = .ok (.iinc i n, 3)) (hj : L[j]? = some (i, .int x)) (hv : x + Int32.ofInt n = v) (hn : i < nL) (hL : (i, Value.int v) :: L.filter (fun q => !(q.1 == i) && !(q.1 + 1 == i && q.2.category == 2)) = L') (kk : K μ (pc + 3) L' st) : K μ pc L st := by
  obtain ⟨p, e, s, m, args, below, meth, c0, Q, A0, cells, slots, cR, sR, hx, hb, hml, hown, hts, hK, hI, hN, hA, hcs, hss, rfl, hri, hrv⟩ := h
  intro H locs ls hP hS hl
  exact lv_iinc hx hb d hl hj hv hn hL (fun ls1 hl1 => kk H locs ls1 hP hS hl1)
theorem gw_sub (h : gx_K l own cc nL fr lo ret Y Post K) (ks : List Nat) (hL : lv_pick L ks = L') (kk : K μ pc L' st) : K μ pc L st := by
  obtain ⟨p, e, s, m, args, below, meth, c0, Q, A0, cells, slots, cR, sR, hx, hb, hml, hown, hts, hK, hI, hN, hA, hcs, hss, rfl, hri, hrv⟩ := h
  intro H locs ls hP hS hl
  exact kk H locs ls hP hS (lv_sub hl ks hL)
theorem gw_iadd (h : gx_K l own cc nL fr lo ret Y Post K) {x y : Int32} (d : decode cc pc = .ok (.iadd, 1)) (kk : K μ (pc + 1) L (.int (x + y) :: st)) : K μ pc L (.int y :: .int x :: st) := by
  obtain ⟨p, e, s, m, args, below, meth, c0, Q, A0, cells, slots, cR, sR, hx, hb, hml, hown, hts, hK, hI, hN, hA, hcs, hss, rfl, hri, hrv⟩ := h
  intro H locs ls hP hS hl
  exact lv_iadd hx hb d (kk H locs ls hP hS hl)
theorem gw_isub (h : gx_K l own cc nL fr lo ret Y Post K) {x y : Int32} (d : decode cc pc = .ok (.isub, 1)) (kk : K μ (pc + 1) L (.int (x - y) :: st)) : K μ pc L (.int y :: .int x :: st) := by
  obtain ⟨p, e, s, m, args, below, meth, c0, Q, A0, cells, slots, cR, sR, hx, hb, hml, hown, hts, hK, hI, hN, hA, hcs, hss, rfl, hri, hrv⟩ := h
  intro H locs ls hP hS hl
  exact lv_isub hx hb d (kk H locs ls hP hS hl)
theorem gw_imul (h : gx_K l own cc nL fr lo ret Y Post K) {x y : Int32} (d : decode cc pc = .ok (.imul, 1)) (kk : K μ (pc + 1) L (.int (x * y) :: st)) : K μ pc L (.int y :: .int x :: st) := by
  obtain ⟨p, e, s, m, args, below, meth, c0, Q, A0, cells, slots, cR, sR, hx, hb, hml, hown, hts, hK, hI, hN, hA, hcs, hss, rfl, hri, hrv⟩ := h
  intro H locs ls hP hS hl
  exact lv_imul hx hb d (kk H locs ls hP hS hl)
theorem gw_iand (h : gx_K l own cc nL fr lo ret Y Post K) {x y : Int32} (d : decode cc pc = .ok (.iand, 1)) (kk : K μ (pc + 1) L (.int (x &&& y) :: st)) : K μ pc L (.int y :: .int x :: st) := by
  obtain ⟨p, e, s, m, args, below, meth, c0, Q, A0, cells, slots, cR, sR, hx, hb, hml, hown, hts, hK, hI, hN, hA, hcs, hss, rfl, hri, hrv⟩ := h
  intro H locs ls hP hS hl
  exact lv_iand hx hb d (kk H locs ls hP hS hl)
theorem gw_lmul (h : gx_K l own cc nL fr lo ret Y Post K) {x y : Int64} (d : decode cc pc = .ok (.lmul, 1)) (kk : K μ (pc + 1) L (.long (x * y) :: st)) : K μ pc L (.long y :: .long x :: st) := by
  obtain ⟨p, e, s, m, args, below, meth, c0, Q, A0, cells, slots, cR, sR, hx, hb, hml, hown, hts, hK, hI, hN, hA, hcs, hss, rfl, hri, hrv⟩ := h
  intro H locs ls hP hS hl
  exact lv_lmul hx hb d (kk H locs ls hP hS hl)
theorem gw_idiv (h : gx_K l own cc nL fr lo ret Y Post K) {x y : Int32} (d : decode cc pc = .ok (.idiv, 1)) (hne : ¬ y = 0) (kk : K μ (pc + 1) L (.int (x / y) :: st)) : K μ pc L (.int y :: .int x :: st) := by
  obtain ⟨p, e, s, m, args, below, meth, c0, Q, A0, cells, slots, cR, sR, hx, hb, hml, hown, hts, hK, hI, hN, hA, hcs, hss, rfl, hri, hrv⟩ := h
  intro H locs ls hP hS hl
  exact lv_idiv hx hb d hne (kk H locs ls hP hS hl)
theorem gw_irem (h : gx_K l own cc nL fr lo ret Y Post K) {x y : Int32} (d : decode cc pc = .ok (.irem, 1)) (hne : ¬ y = 0) (kk : K μ (pc + 1) L (.int (x - x / y * y) :: st)) : K μ pc L (.int y :: .int x :: st) := by
  obtain ⟨p, e, s, m, args, below, meth, c0, Q, A0, cells, slots, cR, sR, hx, hb, hml, hown, hts, hK, hI, hN, hA, hcs, hss, rfl, hri, hrv⟩ := h
  intro H locs ls hP hS hl
  exact lv_irem hx hb d hne (kk H locs ls hP hS hl)
theorem gw_ldiv (h : gx_K l own cc nL fr lo ret Y Post K) {x y : Int64} (d : decode cc pc = .ok (.ldiv, 1)) (hne : ¬ y = 0) (kk : K μ (pc + 1) L (.long (x / y) :: st)) : K μ pc L (.long y :: .long x :: st) := by
  obtain ⟨p, e, s, m, args, below, meth, c0, Q, A0, cells, slots, cR, sR, hx, hb, hml, hown, hts, hK, hI, hN, hA, hcs, hss, rfl, hri, hrv⟩ := h
  intro H locs ls hP hS hl
  exact lv_ldiv hx hb d hne (kk H locs ls hP hS hl)
theorem gw_ineg (h : gx_K l own cc nL fr lo ret Y Post K) {x : Int32} (d : decode cc pc = .ok (.ineg, 1)) (kk : K μ (pc + 1) L (.int (-x) :: st)) : K μ pc L (.int x :: st) := by
  obtain ⟨p, e, s, m, args, below, meth, c0, Q, A0, cells, slots, cR, sR, hx, hb, hml, hown, hts, hK, hI, hN, hA, hcs, hss, rfl, hri, hrv⟩ := h
  intro H locs ls hP hS hl
  exact lv_ineg hx hb d (kk H locs ls hP hS hl)
theorem gw_i2l (h : gx_K l own cc nL fr lo ret Y Post K) {x : Int32} (d : decode cc pc = .ok (.i2l, 1)) (kk : K μ (pc + 1) L (.long x.toInt64 :: st)) : K μ pc L (.int x :: st) := by
  obtain ⟨p, e, s, m, args, below, meth, c0, Q, A0, cells, slots, cR, sR, hx, hb, hml, hown, hts, hK, hI, hN, hA, hcs, hss, rfl, hri, hrv⟩ := h
  intro H locs ls hP hS hl
  exact lv_i2l hx hb d rfl (kk H locs ls hP hS hl)
theorem gw_l2i (h : gx_K l own cc nL fr lo ret Y Post K) {x : Int64} (d : decode cc pc = .ok (.l2i, 1)) (kk : K μ (pc + 1) L (.int x.toInt32 :: st)) : K μ pc L (.long x :: st) := by
  obtain ⟨p, e, s, m, args, below, meth, c0, Q, A0, cells, slots, cR, sR, hx, hb, hml, hown, hts, hK, hI, hN, hA, hcs, hss, rfl, hri, hrv⟩ := h
  intro H locs ls hP hS hl
  exact lv_l2i hx hb d rfl (kk H locs ls hP hS hl)
theorem gw_dup (h : gx_K l own cc nL fr lo ret Y Post K) {x : Value} (d : decode cc pc = .ok (.dup, 1)) (hv : x.category = 1) (kk : K μ (pc + 1) L (x :: x :: st)) : K μ pc L (x :: st) := by
  obtain ⟨p, e, s, m, args, below, meth, c0, Q, A0, cells, slots, cR, sR, hx, hb, hml, hown, hts, hK, hI, hN, hA, hcs, hss, rfl, hri, hrv⟩ := h
  intro H locs ls hP hS hl
  exact lv_dup hx hb d hv (kk H locs ls hP hS hl)
theorem gw_pop (h : gx_K l own cc nL fr lo ret Y Post K) {x : Value} (d : decode cc pc = .ok (.pop, 1)) (hv : x.category = 1) (kk : K μ (pc + 1) L st) : K μ pc L (x :: st) := by
  obtain ⟨p, e, s, m, args, below, meth, c0, Q, A0, cells, slots, cR, sR, hx, hb, hml, hown, hts, hK, hI, hN, hA, hcs, hss, rfl, hri, hrv⟩ := h
  intro H locs ls hP hS hl
  exact lv_pop hx hb d hv (kk H locs ls hP hS hl)
theorem gw_dup2 (h : gx_K l own cc nL fr lo ret Y Post K) {x y : Value} (d : decode cc pc = .ok (.dup2, 1)) (hv : x.category = 1) (hw : y.category = 1) (kk : K μ (pc + 1) L (x :: y :: x :: y :: st)) : K μ pc L (x :: y :: st) := by
  obtain ⟨p, e, s, m, args, below, meth, c0, Q, A0, cells, slots, cR, sR, hx, hb, hml, hown, hts, hK, hI, hN, hA, hcs, hss, rfl, hri, hrv⟩ := h
  intro H locs ls hP hS hl
  exact lv_dup2_11 hx hb d hv hw (kk H locs ls hP hS hl)
theorem gw_goto (h : gx_K l own cc nL fr lo ret Y Post K) {off : Int} {tgt : Nat} (d : decode cc pc = .ok (.goto off, 3)) (ht : (pc : Int) + off = (tgt : Int)) (kk : K μ tgt L st) : K μ pc L st := by
  obtain ⟨p, e, s, m, args, below, meth, c0, Q, A0, cells, slots, cR, sR, hx, hb, hml, hown, hts, hK, hI, hN, hA, hcs, hss, rfl, hri, hrv⟩ := h
  intro H locs ls hP hS hl
  exact lv_goto hx hb d ht (kk H locs ls hP hS hl)
theorem gw_ifnonnull (h : gx_K l own cc nL fr lo ret Y Post K) {off : Int} {x tgt : Nat} (d : decode cc pc = .ok (.ifnonnull off, 3)) (ht : (pc : Int) + off = (tgt : Int)) (kk : K μ tgt L st) : K μ pc L (.ref x :: st) := by
  obtain ⟨p, e, s, m, args, below, meth, c0, Q, A0, cells, slots, cR, sR, hx, hb, hml, hown, hts, hK, hI, hN, hA, hcs, hss, rfl, hri, hrv⟩ := h
  intro H locs ls hP hS hl
  exact lv_ifnonnull hx hb d ht (kk H locs ls hP hS hl)
theorem gw_ifnull (h : gx_K l own cc nL fr lo ret Y Post K) {off : Int} {x : Nat} (d : decode cc pc = .ok (.ifnull off, 3)) (kk : K μ (pc + 3) L st) : K μ pc L (.ref x :: st) := by
  obtain ⟨p, e, s, m, args, below, meth, c0, Q, A0, cells, slots, cR, sR, hx, hb, hml, hown, hts, hK, hI, hN, hA, hcs, hss, rfl, hri, hrv⟩ := h
  intro H locs ls hP hS hl
  exact lv_ifnull hx hb d (kk H locs ls hP hS hl)
theorem gw_if_eq (h : gx_K l own cc nL fr lo ret Y Post K) {x : Int32} {off : Int} {tgt : Nat} {a b : Option (Int32 × gx_M)} (d : decode cc pc = .ok (.ifCond .eq off, 3)) (ht : (pc : Int) + off = (tgt : Int)) (hf : (if x = 0 then a else b) = some rr) (kt : x = 0 → a = some rr → K μ tgt L st) (kf : ¬ (x = 0) → b = some rr → K μ (pc + 3) L st) : K μ pc L (.int x :: st) := by
  obtain ⟨p, e, s, m, args, below, meth, c0, Q, A0, cells, slots, cR, sR, hx, hb, hml, hown, hts, hK, hI, hN, hA, hcs, hss, rfl, hri, hrv⟩ := h
  intro H locs ls hP hS hl
  exact lv_if_eq hx hb d ht (fun q => kt q (gx_pos q hf) H locs ls hP hS hl) (fun q => kf q (gx_neg q hf) H locs ls hP hS hl)
theorem gw_if_eq_c (h : gx_K l own cc nL fr lo ret Y Post K) {x : Int32} {off : Int} {tgt : Nat} (d : decode cc pc = .ok (.ifCond .eq off, 3)) (ht : (pc : Int) + off = (tgt : Int)) (kt : x = 0 → K μ tgt L st) (kf : ¬ (x = 0) → K μ (pc + 3) L st) : K μ pc L (.int x :: st) := by
  obtain ⟨p, e, s, m, args, below, meth, c0, Q, A0, cells, slots, cR, sR, hx, hb, hml, hown, hts, hK, hI, hN, hA, hcs, hss, rfl, hri, hrv⟩ := h
  intro H locs ls hP hS hl
  exact lv_if_eq hx hb d ht (fun q => kt q H locs ls hP hS hl) (fun q => kf q H locs ls hP hS hl)
theorem gw_icmp_eq (h : gx_K l own cc nL fr lo ret Y Post K) {x y : Int32} {off : Int} {tgt : Nat} {a b : Option (Int32 × gx_M)} (d : decode cc pc = .ok (.if_icmp .eq off, 3)) (ht : (pc : Int) + off = (tgt : Int)) (hf : (if x = y then a else b) = some rr) (kt : x = y → a = some rr → K μ tgt L st) (kf : ¬ (x = y) → b = some rr → K μ (pc + 3) L st) : K μ pc L (.int y :: .int x :: st) := by
  obtain ⟨p, e, s, m, args, below, meth, c0, Q, A0, cells, slots, cR, sR, hx, hb, hml, hown, hts, hK, hI, hN, hA, hcs, hss, rfl, hri, hrv⟩ := h
  intro H locs ls hP hS hl
  exact lv_icmp_eq hx hb d ht (fun q => kt q (gx_pos q hf) H locs ls hP hS hl) (fun q => kf q (gx_neg q hf) H locs ls hP hS hl)
theorem gw_icmp_eq_c (h : gx_K l own cc nL fr lo ret Y Post K) {x y : Int32} {off : Int} {tgt : Nat} (d : decode cc pc = .ok (.if_icmp .eq off, 3)) (ht : (pc : Int) + off = (tgt : Int)) (kt : x = y → K μ tgt L st) (kf : ¬ (x = y) → K μ (pc + 3) L st) : K μ pc L (.int y :: .int x :: st) := by
  obtain ⟨p, e, s, m, args, below, meth, c0, Q, A0, cells, slots, cR, sR, hx, hb, hml, hown, hts, hK, hI, hN, hA, hcs, hss, rfl, hri, hrv⟩ := h
  intro H locs ls hP hS hl
  exact lv_icmp_eq hx hb d ht (fun q => kt q H locs ls hP hS hl) (fun q => kf q H locs ls hP hS hl)
theorem gw_if_ne (h : gx_K l own cc nL fr lo ret Y Post K) {x : Int32} {off : Int} {tgt : Nat} {a b : Option (Int32 × gx_M)} (d : decode cc pc = .ok (.ifCond .ne off, 3)) (ht : (pc : Int) + off = (tgt : Int)) (hf : (if x = 0 then b else a) = some rr) (kt : ¬ (x = 0) → a = some rr → K μ tgt L st) (kf : x = 0 → b = some rr → K μ (pc + 3) L st) : K μ pc L (.int x :: st) := by
  obtain ⟨p, e, s, m, args, below, meth, c0, Q, A0, cells, slots, cR, sR, hx, hb, hml, hown, hts, hK, hI, hN, hA, hcs, hss, rfl, hri, hrv⟩ := h
  intro H locs ls hP hS hl
  exact lv_if_ne hx hb d ht (fun q => kt q (gx_neg q hf) H locs ls hP hS hl) (fun q => kf q (gx_pos q hf) H locs ls hP hS hl)
theorem gw_if_ne_c (h : gx_K l own cc nL fr lo ret Y Post K) {x : Int32} {off : Int} {tgt : Nat} (d : decode cc pc = .ok (.ifCond .ne off, 3)) (ht : (pc : Int) + off = (tgt : Int)) (kt : ¬ (x = 0) → K μ tgt L st) (kf : x = 0 → K μ (pc + 3) L st) : K μ pc L (.int x :: st) := by
  obtain ⟨p, e, s, m, args, below, meth, c0, Q, A0, cells, slots, cR, sR, hx, hb, hml, hown, hts, hK, hI, hN, hA, hcs, hss, rfl, hri, hrv⟩ := h
  intro H locs ls hP hS hl
  exact lv_if_ne hx hb d ht (fun q => kt q H locs ls hP hS hl) (fun q => kf q H locs ls hP hS hl)
theorem gw_icmp_ne (h : gx_K l own cc nL fr lo ret Y Post K) {x y : Int32} {off : Int} {tgt : Nat} {a b : Option (Int32 × gx_M)} (d : decode cc pc = .ok (.if_icmp .ne off, 3)) (ht : (pc : Int) + off = (tgt : Int)) (hf : (if x = y then b else a) = some rr) (kt : ¬ (x = y) → a = some rr → K μ tgt L st) (kf : x = y → b = some rr → K μ (pc + 3) L st) : K μ pc L (.int y :: .int x :: st) := by
  obtain ⟨p, e, s, m, args, below, meth, c0, Q, A0, cells, slots, cR, sR, hx, hb, hml, hown, hts, hK, hI, hN, hA, hcs, hss, rfl, hri, hrv⟩ := h
  intro H locs ls hP hS hl
  exact lv_icmp_ne hx hb d ht (fun q => kt q (gx_neg q hf) H locs ls hP hS hl) (fun q => kf q (gx_pos q hf) H locs ls hP hS hl)
theorem gw_icmp_ne_c (h : gx_K l own cc nL fr lo ret Y Post K) {x y : Int32} {off : Int} {tgt : Nat} (d : decode cc pc = .ok (.if_icmp .ne off, 3)) (ht : (pc : Int) + off = (tgt : Int)) (kt : ¬ (x = y) → K μ tgt L st) (kf : x = y → K μ (pc + 3) L st) : K μ pc L (.int y :: .int x :: st) := by
  obtain ⟨p, e, s, m, args, below, meth, c0, Q, A0, cells, slots, cR, sR, hx, hb, hml, hown, hts, hK, hI, hN, hA, hcs, hss, rfl, hri, hrv⟩ := h
  intro H locs ls hP hS hl
  exact lv_icmp_ne hx hb d ht (fun q => kt q H locs ls hP hS hl) (fun q => kf q H locs ls hP hS hl)
theorem gw_if_lt (h : gx_K l own cc nL fr lo ret Y Post K) {x : Int32} {off : Int} {tgt : Nat} {a b : Option (Int32 × gx_M)} (d : decode cc pc = .ok (.ifCond .lt off, 3)) (ht : (pc : Int) + off = (tgt : Int)) (hf : (if x < 0 then a else b) = some rr) (kt : x < 0 → a = some rr → K μ tgt L st) (kf : ¬ (x < 0) → b = some rr → K μ (pc + 3) L st) : K μ pc L (.int x :: st) := by
  obtain ⟨p, e, s, m, args, below, meth, c0, Q, A0, cells, slots, cR, sR, hx, hb, hml, hown, hts, hK, hI, hN, hA, hcs, hss, rfl, hri, hrv⟩ := h
  intro H locs ls hP hS hl
  exact lv_if_lt hx hb d ht (fun q => kt q (gx_pos q hf) H locs ls hP hS hl) (fun q => kf q (gx_neg q hf) H locs ls hP hS hl)
theorem gw_if_lt_c (h : gx_K l own cc nL fr lo ret Y Post K) {x : Int32} {off : Int} {tgt : Nat} (d : decode cc pc = .ok (.ifCond .lt off, 3)) (ht : (pc : Int) + off = (tgt : Int)) (kt : x < 0 → K μ tgt L st) (kf : ¬ (x < 0) → K μ (pc + 3) L st) : K μ pc L (.int x :: st) := by
  obtain ⟨p, e, s, m, args, below, meth, c0, Q, A0, cells, slots, cR, sR, hx, hb, hml, hown, hts, hK, hI, hN, hA, hcs, hss, rfl, hri, hrv⟩ := h
  intro H locs ls hP hS hl
  exact lv_if_lt hx hb d ht (fun q => kt q H locs ls hP hS hl) (fun q => kf q H locs ls hP hS hl)
theorem gw_icmp_lt (h : gx_K l own cc nL fr lo ret Y Post K) {x y : Int32} {off : Int} {tgt : Nat} {a b : Option (Int32 × gx_M)} (d : decode cc pc = .ok (.if_icmp .lt off, 3)) (ht : (pc : Int) + off = (tgt : Int)) (hf : (if x < y then a else b) = some rr) (kt : x < y → a = some rr → K μ tgt L st) (kf : ¬ (x < y) → b = some rr → K μ (pc + 3) L st) : K μ pc L (.int y :: .int x :: st) := by
  obtain ⟨p, e, s, m, args, below, meth, c0, Q, A0, cells, slots, cR, sR, hx, hb, hml, hown, hts, hK, hI, hN, hA, hcs, hss, rfl, hri, hrv⟩ := h
  intro H locs ls hP hS hl
  exact lv_icmp_lt hx hb d ht (fun q => kt q (gx_pos q hf) H locs ls hP hS hl) (fun q => kf q (gx_neg q hf) H locs ls hP hS hl)
theorem gw_icmp_lt_c (h : gx_K l own cc nL fr lo ret Y Post K) {x y : Int32} {off : Int} {tgt : Nat} (d : decode cc pc = .ok (.if_icmp .lt off, 3)) (ht : (pc : Int) + off = (tgt : Int)) (kt : x < y → K μ tgt L st) (kf : ¬ (x < y) → K μ (pc + 3) L st) : K μ pc L (.int y :: .int x :: st) := by
  obtain ⟨p, e, s, m, args, below, meth, c0, Q, A0, cells, slots, cR, sR, hx, hb, hml, hown, hts, hK, hI, hN, hA, hcs, hss, rfl, hri, hrv⟩ := h
  intro H locs ls hP hS hl
  exact lv_icmp_lt hx hb d ht (fun q => kt q H locs ls hP hS hl) (fun q => kf q H locs ls hP hS hl)
theorem gw_if_ge (h : gx_K l own cc nL fr lo ret Y Post K) {x : Int32} {off : Int} {tgt : Nat} {a b : Option (Int32 × gx_M)} (d : decode cc pc = .ok (.ifCond .ge off, 3)) (ht : (pc : Int) + off = (tgt : Int)) (hf : (if 0 ≤ x then a else b) = some rr) (kt : 0 ≤ x → a = some rr → K μ tgt L st) (kf : ¬ (0 ≤ x) → b = some rr → K μ (pc + 3) L st) : K μ pc L (.int x :: st) := by
  obtain ⟨p, e, s, m, args, below, meth, c0, Q, A0, cells, slots, cR, sR, hx, hb, hml, hown, hts, hK, hI, hN, hA, hcs, hss, rfl, hri, hrv⟩ := h
  intro H locs ls hP hS hl
  exact lv_if_ge hx hb d ht (fun q => kt q (gx_pos q hf) H locs ls hP hS hl) (fun q => kf q (gx_neg q hf) H locs ls hP hS hl)
theorem gw_if_ge_c (h : gx_K l own cc nL fr lo ret Y Post K) {x : Int32} {off : Int} {tgt : Nat} (d : decode cc pc = .ok (.ifCond .ge off, 3)) (ht : (pc : Int) + off = (tgt : Int)) (kt : 0 ≤ x → K μ tgt L st) (kf : ¬ (0 ≤ x) → K μ (pc + 3) L st) : K μ pc L (.int x :: st) := by
  obtain ⟨p, e, s, m, args, below, meth, c0, Q, A0, cells, slots, cR, sR, hx, hb, hml, hown, hts, hK, hI, hN, hA, hcs, hss, rfl, hri, hrv⟩ := h
  intro H locs ls hP hS hl
  exact lv_if_ge hx hb d ht (fun q => kt q H locs ls hP hS hl) (fun q => kf q H locs ls hP hS hl)
theorem gw_icmp_ge (h : gx_K l own cc nL fr lo ret Y Post K) {x y : Int32} {off : Int} {tgt : Nat} {a b : Option (Int32 × gx_M)} (d : decode cc pc = .ok (.if_icmp .ge off, 3)) (ht : (pc : Int) + off = (tgt : Int)) (hf : (if y ≤ x then a else b) = some rr) (kt : y ≤ x → a = some rr → K μ tgt L st) (kf : ¬ (y ≤ x) → b = some rr → K μ (pc + 3) L st) : K μ pc L (.int y :: .int x :: st) := by
  obtain ⟨p, e, s, m, args, below, meth, c0, Q, A0, cells, slots, cR, sR, hx, hb, hml, hown, hts, hK, hI, hN, hA, hcs, hss, rfl, hri, hrv⟩ := h
  intro H locs ls hP hS hl
  exact lv_icmp_ge hx hb d ht (fun q => kt q (gx_pos q hf) H locs ls hP hS hl) (fun q => kf q (gx_neg q hf) H locs ls hP hS hl)
theorem gw_icmp_ge_c (h : gx_K l own cc nL fr lo ret Y Post K) {x y : Int32} {off : Int} {tgt : Nat} (d : decode cc pc = .ok (.if_icmp .ge off, 3)) (ht : (pc : Int) + off = (tgt : Int)) (kt : y ≤ x → K μ tgt L st) (kf : ¬ (y ≤ x) → K μ (pc + 3) L st) : K μ pc L (.int y :: .int x :: st) := by
  obtain ⟨p, e, s, m, args, below, meth, c0, Q, A0, cells, slots, cR, sR, hx, hb, hml, hown, hts, hK, hI, hN, hA, hcs, hss, rfl, hri, hrv⟩ := h
  intro H locs ls hP hS hl
  exact lv_icmp_ge hx hb d ht (fun q => kt q H locs ls hP hS hl) (fun q => kf q H locs ls hP hS hl)
theorem gw_if_gt (h : gx_K l own cc nL fr lo ret Y Post K) {x : Int32} {off : Int} {tgt : Nat} {a b : Option (Int32 × gx_M)} (d : decode cc pc = .ok (.ifCond .gt off, 3)) (ht : (pc : Int) + off = (tgt : Int)) (hf : (if 0 < x then a else b) = some rr) (kt : 0 < x → a = some rr → K μ tgt L st) (kf : ¬ (0 < x) → b = some rr → K μ (pc + 3) L st) : K μ pc L (.int x :: st) := by
  obtain ⟨p, e, s, m, args, below, meth, c0, Q, A0, cells, slots, cR, sR, hx, hb, hml, hown, hts, hK, hI, hN, hA, hcs, hss, rfl, hri, hrv⟩ := h
  intro H locs ls hP hS hl
  exact lv_if_gt hx hb d ht (fun q => kt q (gx_pos q hf) H locs ls hP hS hl) (fun q => kf q (gx_neg q hf) H locs ls hP hS hl)
theorem gw_if_gt_c (h : gx_K l own cc nL fr lo ret Y Post K) {x : Int32} {off : Int} {tgt : Nat} (d : decode cc pc = .ok (.ifCond .gt off, 3)) (ht : (pc : Int) + off = (tgt : Int)) (kt : 0 < x → K μ tgt L st) (kf : ¬ (0 < x) → K μ (pc + 3) L st) : K μ pc L (.int x :: st) := by
  obtain ⟨p, e, s, m, args, below, meth, c0, Q, A0, cells, slots, cR, sR, hx, hb, hml, hown, hts, hK, hI, hN, hA, hcs, hss, rfl, hri, hrv⟩ := h
  intro H locs ls hP hS hl
  exact lv_if_gt hx hb d ht (fun q => kt q H locs ls hP hS hl) (fun q => kf q H locs ls hP hS hl)
theorem gw_icmp_gt (h : gx_K l own cc nL fr lo ret Y Post K) {x y : Int32} {off : Int} {tgt : Nat} {a b : Option (Int32 × gx_M)} (d : decode cc pc = .ok (.if_icmp .gt off, 3)) (ht : (pc : Int) + off = (tgt : Int)) (hf : (if y < x then a else b) = some rr) (kt : y < x → a = some rr → K μ tgt L st) (kf : ¬ (y < x) → b = some rr → K μ (pc + 3) L st) : K μ pc L (.int y :: .int x :: st) := by
  obtain ⟨p, e, s, m, args, below, meth, c0, Q, A0, cells, slots, cR, sR, hx, hb, hml, hown, hts, hK, hI, hN, hA, hcs, hss, rfl, hri, hrv⟩ := h
  intro H locs ls hP hS hl
  exact lv_icmp_gt hx hb d ht (fun q => kt q (gx_pos q hf) H locs ls hP hS hl) (fun q => kf q (gx_neg q hf) H locs ls hP hS hl)
theorem gw_icmp_gt_c (h : gx_K l own cc nL fr lo ret Y Post K) {x y : Int32} {off : Int} {tgt : Nat} (d : decode cc pc = .ok (.if_icmp .gt off, 3)) (ht : (pc : Int) + off = (tgt : Int)) (kt : y < x → K μ tgt L st) (kf : ¬ (y < x) → K μ (pc + 3) L st) : K μ pc L (.int y :: .int x :: st) := by
  obtain ⟨p, e, s, m, args, below, meth, c0, Q, A0, cells, slots, cR, sR, hx, hb, hml, hown, hts, hK, hI, hN, hA, hcs, hss, rfl, hri, hrv⟩ := h
  intro H locs ls hP hS hl
  exact lv_icmp_gt hx hb d ht (fun q => kt q H locs ls hP hS hl) (fun q => kf q H locs ls hP hS hl)
theorem gw_if_le (h : gx_K l own cc nL fr lo ret Y Post K) {x : Int32} {off : Int} {tgt : Nat} {a b : Option (Int32 × gx_M)} (d : decode cc pc = .ok (.ifCond .le off, 3)) (ht : (pc : Int) + off = (tgt : Int)) (hf : (if x ≤ 0 then a else b) = some rr) (kt : x ≤ 0 → a = some rr → K μ tgt L st) (kf : ¬ (x ≤ 0) → b = some rr → K μ (pc + 3) L st) : K μ pc L (.int x :: st) := by
  obtain ⟨p, e, s, m, args, below, meth, c0, Q, A0, cells, slots, cR, sR, hx, hb, hml, hown, hts, hK, hI, hN, hA, hcs, hss, rfl, hri, hrv⟩ := h
  intro H locs ls hP hS hl
  exact lv_if_le hx hb d ht (fun q => kt q (gx_pos q hf) H locs ls hP hS hl) (fun q => kf q (gx_neg q hf) H locs ls hP hS hl)
theorem gw_if_le_c (h : gx_K l own cc nL fr lo ret Y Post K) {x : Int32} {off : Int} {tgt : Nat} (d : decode cc pc = .ok (.ifCond .le off, 3)) (ht : (pc : Int) + off = (tgt : Int)) (kt : x ≤ 0 → K μ tgt L st) (kf : ¬ (x ≤ 0) → K μ (pc + 3) L st) : K μ pc L (.int x :: st) := by
  obtain ⟨p, e, s, m, args, below, meth, c0, Q, A0, cells, slots, cR, sR, hx, hb, hml, hown, hts, hK, hI, hN, hA, hcs, hss, rfl, hri, hrv⟩ := h
  intro H locs ls hP hS hl
  exact lv_if_le hx hb d ht (fun q => kt q H locs ls hP hS hl) (fun q => kf q H locs ls hP hS hl)
theorem gw_icmp_le (h : gx_K l own cc nL fr lo ret Y Post K) {x y : Int32} {off : Int} {tgt : Nat} {a b : Option (Int32 × gx_M)} (d : decode cc pc = .ok (.if_icmp .le off, 3)) (ht : (pc : Int) + off = (tgt : Int)) (hf : (if x ≤ y then a else b) = some rr) (kt : x ≤ y → a = some rr → K μ tgt L st) (kf : ¬ (x ≤ y) → b = some rr → K μ (pc + 3) L st) : K μ pc L (.int y :: .int x :: st) := by
  obtain ⟨p, e, s, m, args, below, meth, c0, Q, A0, cells, slots, cR, sR, hx, hb, hml, hown, hts, hK, hI, hN, hA, hcs, hss, rfl, hri, hrv⟩ := h
  intro H locs ls hP hS hl
  exact lv_icmp_le hx hb d ht (fun q => kt q (gx_pos q hf) H locs ls hP hS hl) (fun q => kf q (gx_neg q hf) H locs ls hP hS hl)
theorem gw_icmp_le_c (h : gx_K l own cc nL fr lo ret Y Post K) {x y : Int32} {off : Int} {tgt : Nat} (d : decode cc pc = .ok (.if_icmp .le off, 3)) (ht : (pc : Int) + off = (tgt : Int)) (kt : x ≤ y → K μ tgt L st) (kf : ¬ (x ≤ y) → K μ (pc + 3) L st) : K μ pc L (.int y :: .int x :: st) := by
  obtain ⟨p, e, s, m, args, below, meth, c0, Q, A0, cells, slots, cR, sR, hx, hb, hml, hown, hts, hK, hI, hN, hA, hcs, hss, rfl, hri, hrv⟩ := h
  intro H locs ls hP hS hl
  exact lv_icmp_le hx hb d ht (fun q => kt q H locs ls hP hS hl) (fun q => kf q H locs ls hP hS hl)
theorem gw_tblIn (h : gx_K l own cc nL fr lo ret Y Post K) {dflt lo9 hi9 : Int} {offs : Array Int} {len : Nat} {x : Int32} {off : Int} {tgt : Nat} (d : decode cc pc = .ok (.tableswitch dflt lo9 hi9 offs, len)) (h1 : ¬ x.toInt < lo9) (h2 : ¬ hi9 < x.toInt) (ho : offs[(x.toInt - lo9).toNat]? = some off) (ht : (pc : Int) + off = (tgt : Int)) (kk : K μ tgt L st) : K μ pc L (.int x :: st) := by
  obtain ⟨p, e, s, m, args, below, meth, c0, Q, A0, cells, slots, cR, sR, hx, hb, hml, hown, hts, hK, hI, hN, hA, hcs, hss, rfl, hri, hrv⟩ := h
  intro H locs ls hP hS hl
  exact lv_tableIn hx hb d h1 h2 ho ht (kk H locs ls hP hS hl)
theorem gw_tblOut (h : gx_K l own cc nL fr lo ret Y Post K) {dflt lo9 hi9 : Int} {offs : Array Int} {len : Nat} {x : Int32} {tgt : Nat} (d : decode cc pc = .ok (.tableswitch dflt lo9 hi9 offs, len)) (h1 : x.toInt < lo9 ∨ hi9 < x.toInt) (ht : (pc : Int) + dflt = (tgt : Int)) (kk : K μ tgt L st) : K μ pc L (.int x :: st) := by
  obtain ⟨p, e, s, m, args, below, meth, c0, Q, A0, cells, slots, cR, sR, hx, hb, hml, hown, hts, hK, hI, hN, hA, hcs, hss, rfl, hri, hrv⟩ := h
  intro H locs ls hP hS hl
  exact lv_tableOut hx hb d h1 ht (kk H locs ls hP hS hl)
theorem gw_get (h : gx_K l own cc nL fr lo ret Y Post K) {kind idx c : Nat} (k : Nat) {C : String} {T : u_T} {N : Nat} {x : Value} (hc : gk_o Y c kind) (h9 : kind < 9) (hcl : vwCl[gx_Ci kind]? = some (C, T, N)) (hin : ∀ w ∈ u_ws C T N, w ∈ gWs) (hkN : k < N) (hkg : k < gx_N kind) (hl9 : Cond.fieldLink own idx (T k).1 (T k).2.1 (T k).2.2.1 ∈ gWs) (hv : gx_fld kind (gy_a Y) c (μ c) k = x) (d : decode cc pc = .ok (.getfield idx, 3)) (kk : K μ (pc + 3) L (x :: st)) : K μ pc L (.ref (gy_a Y c) :: st) := by
  obtain ⟨p, e, s, m, args, below, meth, c0, Q, A0, cells, slots, cR, sR, hx, hb, hml, hown, hts, hK, hI, hN, hA, hcs, hss, rfl, hri, hrv⟩ := h
  intro H locs ls hP hS hl
  have he : (gx_ws Y μ)[c]? = some (gy_a Y c, .inr (gx_Ci kind, gx_fs kind (gy_a Y) c (μ c))) := by rw [gx_ws_get hc.1, gx_cell_o hc.2 h9]
  exact va_get (D := gy_D Y) (ci := gx_Ci kind) (v := x) hx hb hts hin hown hK hP c he hcl k hkN (hts _ hl9) (fun _ h9 => h9) (by rw [gx_fs_get hkg, hv]) d (kk H locs ls hP hS hl)
theorem gw_getN (h : gx_K l own cc nL fr lo ret Y Post K) {kind idx c : Nat} (k : Nat) {C : String} {T : u_T} {N : Nat} {x : Value} (hc : gk_o Y c kind) (h9 : kind < 9) (hcl : vwCl[gx_Ci kind]? = some (C, T, N)) (hin : ∀ w ∈ u_ws C T N, w ∈ gWs) (hkN : k < N) (hkg : k < gx_N kind) {host : String} (hl9 : Cond.fieldLinkNest own idx (T k).1 (T k).2.1 (T k).2.2.1 host ∈ gx_nest) (hv : gx_fld kind (gy_a Y) c (μ c) k = x) (d : decode cc pc = .ok (.getfield idx, 3)) (kk : K μ (pc + 3) L (x :: st)) : K μ pc L (.ref (gy_a Y c) :: st) := by
  obtain ⟨p, e, s, m, args, below, meth, c0, Q, A0, cells, slots, cR, sR, hx, hb, hml, hown, hts, hK, hI, hN, hA, hcs, hss, rfl, hri, hrv⟩ := h
  intro H locs ls hP hS hl
  have he : (gx_ws Y μ)[c]? = some (gy_a Y c, .inr (gx_Ci kind, gx_fs kind (gy_a Y) c (μ c))) := by rw [gx_ws_get hc.1, gx_cell_o hc.2 h9]
  exact va_getN (D := gy_D Y) (ci := gx_Ci kind) (v := x) hx hb hts hin hown hK hP c he hcl k hkN (va_Nw.use (gx_nest_on _ hl9) (hN _ hl9)) (fun _ h9 => h9) (by rw [gx_fs_get hkg, hv]) d (kk H locs ls hP hS hl)
theorem gw_put (h : gx_K l own cc nL fr lo ret Y Post K) {kind idx c : Nat} (k : Nat) {C : String} {T : u_T} {N : Nat} {v : Int32} (hc : gk_o Y c kind) (h9 : kind < 9) (hcl : vwCl[gx_Ci kind]? = some (C, T, N)) (hin : ∀ w ∈ u_ws C T N, w ∈ gWs) (hkN : k < N) (hkg : k < gx_N kind) (ty0 : Nat → FieldType) (hty : ∀ k, k < N → parseFieldDescriptor (T k).2.2.1 = some (ty0 k)) (hnm : ∀ a, a < N → ∀ b, b < N → a ≠ b → (T a).2.1 ≠ (T b).2.1) (hfin : (T k).2.2.2 = false) {ty : FieldType} (hd9 : parseFieldDescriptor (T k).2.2.1 = some ty) (hn9 : narrow ty (.int v) = .int v) (hft : fits ty (.int v) = true) (hl9 : Cond.fieldLink own idx (T k).1 (T k).2.1 (T k).2.2.1 ∈ gWs) (hv : ∀ (ad : Nat → Nat) (f : Nat → Int32), gx_fld kind ad c f k = .int (f k)) (d : decode cc pc = .ok (.putfield idx, 3)) (kk : K (gx_u μ c k v) (pc + 3) L st) : K μ pc L (.int v :: .ref (gy_a Y c) :: st) := by
  obtain ⟨p, e, s, m, args, below, meth, c0, Q, A0, cells, slots, cR, sR, hx, hb, hml, hown, hts, hK, hI, hN, hA, hcs, hss, rfl, hri, hrv⟩ := h
  intro H locs ls hP hS hl
  have he : (gx_ws Y μ)[c]? = some (gy_a Y c, .inr (gx_Ci kind, gx_fs kind (gy_a Y) c (μ c))) := by rw [gx_ws_get hc.1, gx_cell_o hc.2 h9]
  have hD := gx_D (μ := μ) hI hA
  refine va_put (D := gy_D Y) (ci := gx_Ci kind) (v := .int v) hx hb hts hin ty0 hty hnm hown hK hP hD hS c he hcl k hkN (hts _ hl9) (fun _ h9 => h9) hfin hd9 hn9 hft (by rw [gx_fs_len]; exact hkg) d (fun H1 locs1 hP1 hD1 hS1 => ?_)
  have e1 : (gx_ws Y μ).set c (gy_a Y c, .inr (gx_Ci kind, (gx_fs kind (gy_a Y) c (μ c)).set k (.int v))) = gx_ws Y (gx_u μ c k v) := by
    rw [gx_fs_set v hkg (hv _), ← gx_ws_set (μ := μ) (μ' := gx_u μ c k v) hc.1 (fun a ha => gx_u_n ha), gx_cell_o hc.2 h9, gx_u_s]
  rw [e1] at hP1
  exact kk H1 locs1 ls hP1 hS1 hl
theorem gw_iald (h : gx_K l own cc nL fr lo ret Y Post K) {c : Nat} {i : Int32} {a : Option (Int32 × gx_M)} (hc : c < gy_n Y) (hk : 100 ≤ gy_k Y c) (d : decode cc pc = .ok (.iaload, 1)) (hf : (if gx_ix i (gy_k Y c - 100) = true then a else none) = some rr) (kk : a = some rr → K μ (pc + 1) L (.int (μ c i.toNatClampNeg) :: st)) : K μ pc L (.int i :: .ref (gy_a Y c) :: st) := by
  obtain ⟨p, e, s, m, args, below, meth, c0, Q, A0, cells, slots, cR, sR, hx, hb, hml, hown, hts, hK, hI, hN, hA, hcs, hss, rfl, hri, hrv⟩ := h
  intro H locs ls hP hS hl
  have ha : (gx_ws Y μ)[c]? = some (gy_a Y c, .inl (gy_I Y, (gy_k Y c - 100, .inl (μ c)))) := by rw [gx_ws_get hc, gx_cell_a hk]
  exact va_iald (D := gy_D Y) hx hb hK hP c 0 ha rfl (gx_ix_in (gx_must hf).1) d (kk (gx_must hf).2 H locs ls hP hS hl)
theorem gw_iast (h : gx_K l own cc nL fr lo ret Y Post K) {c : Nat} {i x : Int32} {a : Option (Int32 × gx_M)} (hc : c < gy_n Y) (hk : 100 ≤ gy_k Y c) (d : decode cc pc = .ok (.iastore, 1)) (hf : (if gx_ix i (gy_k Y c - 100) = true then a else none) = some rr) (kk : a = some rr → K (gx_u μ c i.toNatClampNeg x) (pc + 1) L st) : K μ pc L (.int x :: .int i :: .ref (gy_a Y c) :: st) := by
  obtain ⟨p, e, s, m, args, below, meth, c0, Q, A0, cells, slots, cR, sR, hx, hb, hml, hown, hts, hK, hI, hN, hA, hcs, hss, rfl, hri, hrv⟩ := h
  intro H locs ls hP hS hl
  have ha : (gx_ws Y μ)[c]? = some (gy_a Y c, .inl (gy_I Y, (gy_k Y c - 100, .inl (μ c)))) := by rw [gx_ws_get hc, gx_cell_a hk]
  have hD := gx_D (μ := μ) hI hA
  refine va_iast (D := gy_D Y) hx hb hK hP hD hS c 0 ha rfl (gx_ix_in (gx_must hf).1) d (fun H1 locs1 hP1 hD1 hS1 => ?_)
  have e1 : (gx_ws Y μ).set c (gy_a Y c, .inl (gy_I Y, (gy_k Y c - 100, .inl (upd (μ c) i.toNatClampNeg x)))) = gx_ws Y (gx_u μ c i.toNatClampNeg x) := by
    rw [← gx_ws_set (μ := μ) (μ' := gx_u μ c i.toNatClampNeg x) hc (fun a ha => gx_u_n ha), gx_cell_a hk, gx_u_s]
  rw [e1] at hP1
  exact kk (gx_must hf).2 H1 locs1 ls hP1 hS1 hl
theorem gw_alen (h : gx_K l own cc nL fr lo ret Y Post K) {c : Nat} (hc : c < gy_n Y) (hk : 100 ≤ gy_k Y c) (d : decode cc pc = .ok (.arraylength, 1)) (kk : K μ (pc + 1) L (.int (nI (gy_k Y c - 100)) :: st)) : K μ pc L (.ref (gy_a Y c) :: st) := by
  obtain ⟨p, e, s, m, args, below, meth, c0, Q, A0, cells, slots, cR, sR, hx, hb, hml, hown, hts, hK, hI, hN, hA, hcs, hss, rfl, hri, hrv⟩ := h
  intro H locs ls hP hS hl
  have ha : (gx_ws Y μ)[c]? = some (gy_a Y c, .inl (gy_I Y, (gy_k Y c - 100, .inl (μ c)))) := by rw [gx_ws_get hc, gx_cell_a hk]
  exact va_alen (D := gy_D Y) hx hb hK hP c 0 ha rfl rfl d (kk H locs ls hP hS hl)
theorem gw_tald (h : gx_K l own cc nL fr lo ret Y Post K) {c : Nat} {i : Int32} (hc : gk_o Y c 9) (hin : vp_in i 5) (d : decode cc pc = .ok (.aaload, 1)) (kk : K μ (pc + 1) L (.ref (gy_a Y (c + 1 + 25 * i.toNatClampNeg)) :: st)) : K μ pc L (.int i :: .ref (gy_a Y c) :: st) := by
  obtain ⟨p, e, s, m, args, below, meth, c0, Q, A0, cells, slots, cR, sR, hx, hb, hml, hown, hts, hK, hI, hN, hA, hcs, hss, rfl, hri, hrv⟩ := h
  intro H locs ls hP hS hl
  have ha : (gx_ws Y μ)[c]? = some (gy_a Y c, .inl (gy_T Y, (5, .inr (.inr (.inr (.inr (fun i => some (gy_a Y (c + 1 + 25 * i))))))))) := by rw [gx_ws_get hc.1, gx_cell_t hc.2]
  exact va_aldq (D := gy_D Y) hx hb hK hP c 1 ha rfl hin d (kk H locs ls hP hS hl)
theorem gw_tlen (h : gx_K l own cc nL fr lo ret Y Post K) {c : Nat} (hc : gk_o Y c 9) (d : decode cc pc = .ok (.arraylength, 1)) (kk : K μ (pc + 1) L (.int 5 :: st)) : K μ pc L (.ref (gy_a Y c) :: st) := by
  obtain ⟨p, e, s, m, args, below, meth, c0, Q, A0, cells, slots, cR, sR, hx, hb, hml, hown, hts, hK, hI, hN, hA, hcs, hss, rfl, hri, hrv⟩ := h
  intro H locs ls hP hS hl
  have ha : (gx_ws Y μ)[c]? = some (gy_a Y c, .inl (gy_T Y, (5, .inr (.inr (.inr (.inr (fun i => some (gy_a Y (c + 1 + 25 * i))))))))) := by rw [gx_ws_get hc.1, gx_cell_t hc.2]
  exact va_alen (D := gy_D Y) hx hb hK hP c 1 ha rfl (show Int32.ofNat 5 = 5 by decide) d (kk H locs ls hP hS hl)
theorem gw_mmax (h : gx_K l own cc nL fr lo ret Y Post K) {idx : Nat} {x y : Int32} (k1 : Cond.methodLink own idx Lib.Math.max.name ∈ gWs) (d : decode cc pc = .ok (.invokestatic idx, 3)) (hfr : 1 ≤ fr) (hlo : (st.map fun v => v.category).sum + 13 ≤ lo) (kk : K μ (pc + 3) L (.int (if x < y then y else x) :: st)) : K μ pc L (.int y :: .int x :: st) := by
  obtain ⟨p, e, s, m, args, below, meth, c0, Q, A0, cells, slots, cR, sR, hx, hb, hml, hown, hts, hK, hI, hN, hA, hcs, hss, rfl, hri, hrv⟩ := h
  intro H locs ls hP hS hl
  exact va_mmax hx hb (hml.trans hl.1.symm) hown (hts _ k1) (hts _ kw_st_max) (hts _ kw_in_RJ9) (hts _ kw_co_max) hfr hlo hcs hss d (kk H locs ls hP hS hl)
theorem gw_mmin (h : gx_K l own cc nL fr lo ret Y Post K) {idx : Nat} {x y : Int32} (k1 : Cond.methodLink own idx Lib.Math.min.name ∈ gWs) (d : decode cc pc = .ok (.invokestatic idx, 3)) (hfr : 1 ≤ fr) (hlo : (st.map fun v => v.category).sum + 13 ≤ lo) (kk : K μ (pc + 3) L (.int (if y < x then y else x) :: st)) : K μ pc L (.int y :: .int x :: st) := by
  obtain ⟨p, e, s, m, args, below, meth, c0, Q, A0, cells, slots, cR, sR, hx, hb, hml, hown, hts, hK, hI, hN, hA, hcs, hss, rfl, hri, hrv⟩ := h
  intro H locs ls hP hS hl
  exact va_mmin hx hb (hml.trans hl.1.symm) hown (hts _ k1) (hts _ kw_st_min) (hts _ kw_in_RJ9) (hts _ kw_co_min) hfr hlo hcs hss d (kk H locs ls hP hS hl)
theorem gw_mabs (h : gx_K l own cc nL fr lo ret Y Post K) {idx : Nat} {x : Int32} (k1 : Cond.methodLink own idx Lib.Math.abs.name ∈ gWs) (d : decode cc pc = .ok (.invokestatic idx, 3)) (hfr : 1 ≤ fr) (hlo : (st.map fun v => v.category).sum + 13 ≤ lo) (kk : K μ (pc + 3) L (.int (if 0 ≤ x then x else 0 - x) :: st)) : K μ pc L (.int x :: st) := by
  obtain ⟨p, e, s, m, args, below, meth, c0, Q, A0, cells, slots, cR, sR, hx, hb, hml, hown, hts, hK, hI, hN, hA, hcs, hss, rfl, hri, hrv⟩ := h
  intro H locs ls hP hS hl
  exact va_mabs hx hb (hml.trans hl.1.symm) hown (hts _ k1) (hts _ kw_st_abs) (hts _ kw_in_RJ9) (hts _ kw_co_abs) hfr hlo hcs hss d (kk H locs ls hP hS hl)
theorem gw_copy (h : gx_K l own cc nL fr lo ret Y Post K) {idx ca c : Nat} {n : Int32} {a : Option (Int32 × gx_M)} (hca : ca < gy_n Y) (hka : 100 ≤ gy_k Y ca) (hc : c < gy_n Y) (hk : 100 ≤ gy_k Y c) (k1 : Cond.methodLink own idx arraycopyName ∈ gWs) (d : decode cc pc = .ok (.invokestatic idx, 3)) (hfr : 1 ≤ fr) (hlo : (st.map fun v => v.category).sum + (nativeFrameWords "java/lang/System" "arraycopy" 5 + 11) ≤ lo) (hf : (if ¬ n < 0 ∧ n.toNatClampNeg ≤ gy_k Y ca - 100 ∧ n.toNatClampNeg ≤ gy_k Y c - 100 then a else none) = some rr) (kk : a = some rr → K (gx_r μ c (va_cpy (μ ca) (μ c) 0 0 n.toNatClampNeg)) (pc + 3) L st) : K μ pc L (.int n :: .int 0 :: .ref (gy_a Y c) :: .int 0 :: .ref (gy_a Y ca) :: st) := by
  obtain ⟨p, e, s, m, args, below, meth, c0, Q, A0, cells, slots, cR, sR, hx, hb, hml, hown, hts, hK, hI, hN, hA, hcs, hss, rfl, hri, hrv⟩ := h
  intro H locs ls hP hS hl
  have ha0 : (gx_ws Y μ)[ca]? = some (gy_a Y ca, .inl (gy_I Y, (gy_k Y ca - 100, .inl (μ ca)))) := by rw [gx_ws_get hca, gx_cell_a hka]
  have ha : (gx_ws Y μ)[c]? = some (gy_a Y c, .inl (gy_I Y, (gy_k Y c - 100, .inl (μ c)))) := by rw [gx_ws_get hc, gx_cell_a hk]
  have hD := gx_D (μ := μ) hI hA
  obtain ⟨⟨q1, q2, q3⟩, hf⟩ := gx_must hf
  refine va_copyi (D := gy_D Y) hx hb (hml.trans hl.1.symm) hown (hts _ k1) (hts _ kw_na_copy) (hts _ kw_st_copy) (hts _ kw_in_RJ10) hK hP hD hS ca c 0 0 ha0 ha rfl rfl rfl (by decide) (by decide) q1 (by simpa using q2) (by simpa using q3) (fun i _ => rfl) hfr hlo d (fun H1 locs1 hP1 hD1 hS1 => ?_)
  have e1 : (gx_ws Y μ).set c (gy_a Y c, .inl (gy_I Y, (gy_k Y c - 100, .inl (va_cpy (μ ca) (μ c) (0 : Int32).toNatClampNeg (0 : Int32).toNatClampNeg n.toNatClampNeg)))) = gx_ws Y (gx_r μ c (va_cpy (μ ca) (μ c) 0 0 n.toNatClampNeg)) := by
    rw [← gx_ws_set (μ := μ) (μ' := gx_r μ c (va_cpy (μ ca) (μ c) 0 0 n.toNatClampNeg)) hc (fun a ha => gx_r_n ha), gx_cell_a hk, gx_r_s]
    rfl
  rw [e1] at hP1
  exact kk hf H1 locs1 ls hP1 hS1 hl
theorem gw_callV (h : gx_K l own cc nL fr lo ret Y Post K) {idx : Nat} {y : MethodName} {bytes : ByteArray} {maxL : Nat} {retC : Option FieldType} {frC loC : Nat} {As : List Value} {q : Int32 × gx_M} {c kind : Nat} {C : String} {T : u_T} {N : Nat} (hc : gk_o Y c kind) (h9 : kind < 9) (hcl : vwCl[gx_Ci kind]? = some (C, T, N)) (hy : y.cls = C ∧ y.cls ≠ "java/lang/invoke/MethodHandle" ∧ y.cls ≠ "java/lang/invoke/VarHandle" ∧ (parseMethodDescriptor y.desc).map (fun d => d.parameters.length) = some As.length) (k1 : Cond.methodLink own idx y ∈ gWs) (k2 : Cond.instanceMethod y ∈ gWs) (k3 : Cond.selects C y y ∈ gWs) (k4 : Cond.initialized C ∈ gWs) (k5 : Cond.code y bytes maxL retC ∈ gWs) (hR : frC + 1 ≤ fr ∧ 8 + (maxL + 11) + loC ≤ lo) (hst : (st.map fun v => v.category).sum ≤ 8) (d : decode cc pc = .ok (.invokevirtual idx, 3)) (hM : gx_Con l y bytes maxL retC frC loC Y (.ref (gy_a Y c) :: As) μ q) (kk : K q.2 (pc + 3) L (gx_pu retC q.1 st)) : K μ pc L (As.reverse ++ .ref (gy_a Y c) :: st) := by
  obtain ⟨p, e, s, m, args, below, meth, c0, Q, A0, cells, slots, cR, sR, hx, hb, hml, hown, hts, hK, hI, hN, hA, hcs, hss, rfl, hri, hrv⟩ := h
  intro H locs ls hP hS hl
  have he : (gx_ws Y μ)[c]? = some (gy_a Y c, .inr (gx_Ci kind, gx_fs kind (gy_a Y) c (μ c))) := by rw [gx_ws_get hc.1, gx_cell_o hc.2 h9]
  have hG : GoodIn gWs (wsV own idx C y (gx_Ws y bytes maxL retC)) := gWs_self (fun w hw => by
    simp only [wsV, gx_Ws, List.cons_append, List.nil_append, List.mem_cons] at hw
    rcases hw with rfl | rfl | rfl | rfl | rfl | hw
    · exact k1
    · exact k2
    · exact k3
    · exact k4
    · exact k5
    · exact hw)
  have hrun := va_runV (l := l) (R := { frames := fr, cells := cR, slots := sR, locals := lo }) (below := below) (meth := meth) (e := e) (locs := locs) (cells := cells) (slots := slots) (g := F0 m pc ls (As.reverse ++ .ref (gy_a Y c) :: st)) (As := As) (rest := st) ⟨hx, hb, hml, hown, hts⟩ hM (cwV As.length hts hG rfl rfl rfl hy hR) ⟨gx_W_blind, va_recv hK hP hcl he, fun U hU hW => ⟨rfl, by rw [hU]; exact hP, va_K.moved hW.alike hK, hI, gx_nest_warm hW hN⟩⟩ rfl rfl hl.1 rfl (lv_room (pc := pc) (m := m) (ls := ls) (rest := As.reverse ++ .ref (gy_a Y c) :: st) hst) d ⟨hcs, hss⟩
  cases retC with
  | none => exact va_callv (post := fun _ : Unit => True) (B := fun _ t => gx_W Y q.2 t) (A1 := gx_A Y) (a := (Value.ref (gy_a Y c) :: As).toArray) hrun hS (fun q _ hq => hA q hq) hA (fun u t H1 locs1 ht hvm hw hB hz1 hk1 hS1 => kk H1 locs1 ls (by rw [← ht]; exact hB.1) hS1 hl)
  | some ty => exact va_calli (post := fun r (_ : Unit) => r = q.1) (B := fun _ t => gx_W Y q.2 t) (A1 := gx_A Y) (a := (Value.ref (gy_a Y c) :: As).toArray) hrun hS (fun q _ hq => hA q hq) hA (fun r u t H1 locs1 ht hvm hw hB hz1 hk1 hS1 => by rw [hw]; exact kk H1 locs1 ls (by rw [← ht]; exact hB.1) hS1 hl)
theorem gw_callS (h : gx_K l own cc nL fr lo ret Y Post K) {idx : Nat} {y : MethodName} {bytes : ByteArray} {maxL : Nat} {retC : Option FieldType} {frC loC : Nat} {As : List Value} {q : Int32 × gx_M} (hy : y.cls = own ∧ y.cls ≠ "java/lang/invoke/MethodHandle" ∧ y.cls ≠ "java/lang/invoke/VarHandle" ∧ (parseMethodDescriptor y.desc).map (fun d => d.parameters.length) = some As.length) (k1 : Cond.methodLink own idx y ∈ gWs) (k2 : Cond.static y ∈ gWs) (k4 : Cond.initialized own ∈ gWs) (k5 : Cond.code y bytes maxL retC ∈ gWs) (hR : frC + 1 ≤ fr ∧ 8 + (maxL + 11) + loC ≤ lo) (hst : (st.map fun v => v.category).sum ≤ 8) (d : decode cc pc = .ok (.invokestatic idx, 3)) (hM : gx_Con l y bytes maxL retC frC loC Y As μ q) (kk : K q.2 (pc + 3) L (gx_pu retC q.1 st)) : K μ pc L (As.reverse ++ st) := by
  obtain ⟨p, e, s, m, args, below, meth, c0, Q, A0, cells, slots, cR, sR, hx, hb, hml, hown, hts, hK, hI, hN, hA, hcs, hss, rfl, hri, hrv⟩ := h
  intro H locs ls hP hS hl
  have hG : GoodIn gWs (wsS own idx y (gx_Ws y bytes maxL retC)) := gWs_self (fun w hw => by
    simp only [wsS, gx_Ws, List.cons_append, List.nil_append, List.mem_cons] at hw
    rcases hw with rfl | rfl | rfl | rfl | hw
    · exact k1
    · exact k2
    · exact k4
    · exact k5
    · exact hw)
  have hrun := va_runS (l := l) (R := { frames := fr, cells := cR, slots := sR, locals := lo }) (below := below) (meth := meth) (e := e) (locs := locs) (cells := cells) (slots := slots) (g := F0 m pc ls (As.reverse ++ st)) (As := As) (rest := st) ⟨hx, hb, hml, hown, hts⟩ hM (cwS As.length hts hG rfl rfl rfl hy hR) ⟨gx_W_blind, fun U hU hW => ⟨rfl, by rw [hU]; exact hP, va_K.moved hW.alike hK, hI, gx_nest_warm hW hN⟩⟩ rfl rfl hl.1 rfl (lv_room (pc := pc) (m := m) (ls := ls) (rest := As.reverse ++ st) hst) d ⟨hcs, hss⟩
  cases retC with
  | none => exact va_callv (post := fun _ : Unit => True) (B := fun _ t => gx_W Y q.2 t) (A1 := gx_A Y) (a := As.toArray) hrun hS (fun q _ hq => hA q hq) hA (fun u t H1 locs1 ht hvm hw hB hz1 hk1 hS1 => kk H1 locs1 ls (by rw [← ht]; exact hB.1) hS1 hl)
  | some ty => exact va_calli (post := fun r (_ : Unit) => r = q.1) (B := fun _ t => gx_W Y q.2 t) (A1 := gx_A Y) (a := As.toArray) hrun hS (fun q _ hq => hA q hq) hA (fun r u t H1 locs1 ht hvm hw hB hz1 hk1 hS1 => by rw [hw]; exact kk H1 locs1 ls (by rw [← ht]; exact hB.1) hS1 hl)
theorem gw_callSN (h : gx_K l own cc nL fr lo ret Y Post K) {idx : Nat} {y : MethodName} {bytes : ByteArray} {maxL : Nat} {retC : Option FieldType} {frC loC : Nat} {As : List Value} {q : Int32 × gx_M} {host : String} (hy : y.cls ≠ "java/lang/invoke/MethodHandle" ∧ y.cls ≠ "java/lang/invoke/VarHandle" ∧ (parseMethodDescriptor y.desc).map (fun d => d.parameters.length) = some As.length) (k1 : Cond.methodLinkNest own idx y host ∈ gx_nest) (k2 : Cond.static y ∈ gWs) (k4 : Cond.initialized y.cls ∈ gWs) (k5 : Cond.code y bytes maxL retC ∈ gWs) (hR : frC + 1 ≤ fr ∧ 8 + (maxL + 11) + loC ≤ lo) (hst : (st.map fun v => v.category).sum ≤ 8) (d : decode cc pc = .ok (.invokestatic idx, 3)) (hM : gx_Con l y bytes maxL retC frC loC Y As μ q) (kk : K q.2 (pc + 3) L (gx_pu retC q.1 st)) : K μ pc L (As.reverse ++ st) := by
  obtain ⟨p, e, s, m, args, below, meth, c0, Q, A0, cells, slots, cR, sR, hx, hb, hml, hown, hts, hK, hI, hN, hA, hcs, hss, rfl, hri, hrv⟩ := h
  intro H locs ls hP hS hl
  have hG : GoodIn gWs (gx_Ws y bytes maxL retC) := gWs_self (fun w hw => by
    rcases List.mem_cons.mp hw with rfl | hw
    · exact k5
    · exact hw)
  have hrun := va_runSN (l := l) (R := { frames := fr, cells := cR, slots := sR, locals := lo }) (below := below) (meth := meth) (e := e) (locs := locs) (cells := cells) (slots := slots) (g := F0 m pc ls (As.reverse ++ st)) (As := As) (rest := st) ⟨hx, hb, hml, hown, hts⟩ hM ⟨va_cnB As.length hts hG rfl rfl rfl (hN _ k1) (hts _ k4) hy hR, hts _ k2, trivial⟩ ⟨gx_W_blind, fun U hU hW => ⟨rfl, by rw [hU]; exact hP, va_K.moved hW.alike hK, hI, gx_nest_warm hW hN⟩⟩ rfl rfl hl.1 rfl (lv_room (pc := pc) (m := m) (ls := ls) (rest := As.reverse ++ st) hst) d ⟨hcs, hss⟩
  cases retC with
  | none => exact va_callv (post := fun _ : Unit => True) (B := fun _ t => gx_W Y q.2 t) (A1 := gx_A Y) (a := As.toArray) hrun hS (fun q _ hq => hA q hq) hA (fun u t H1 locs1 ht hvm hw hB hz1 hk1 hS1 => kk H1 locs1 ls (by rw [← ht]; exact hB.1) hS1 hl)
  | some ty => exact va_calli (post := fun r (_ : Unit) => r = q.1) (B := fun _ t => gx_W Y q.2 t) (A1 := gx_A Y) (a := As.toArray) hrun hS (fun q _ hq => hA q hq) hA (fun r u t H1 locs1 ht hvm hw hB hz1 hk1 hS1 => by rw [hw]; exact kk H1 locs1 ls (by rw [← ht]; exact hB.1) hS1 hl)
theorem gw_ret_i (h : gx_K l own cc nL fr lo (some .int) Y Post K) {v : Int32} (d : decode cc pc = .ok (.ireturn, 1)) (hp : Post v μ) : K μ pc L [.int v] := by
  obtain ⟨p, e, s, m, args, below, meth, c0, Q, A0, cells, slots, cR, sR, hx, hb, hml, hown, hts, hK, hI, hN, hA, hcs, hss, hKe, hri, hrv⟩ := h
  exact hri μ pc L v .int rfl rfl d hp
theorem gw_ret_z (h : gx_K l own cc nL fr lo (some .boolean) Y Post K) {v : Int32} (d : decode cc pc = .ok (.ireturn, 1)) (hn : narrow .boolean (.int v) = .int v) (hp : Post v μ) : K μ pc L [.int v] := by
  obtain ⟨p, e, s, m, args, below, meth, c0, Q, A0, cells, slots, cR, sR, hx, hb, hml, hown, hts, hK, hI, hN, hA, hcs, hss, hKe, hri, hrv⟩ := h
  exact hri μ pc L v .boolean rfl hn d hp
theorem gw_ret_v (h : gx_K l own cc nL fr lo none Y Post K) (d : decode cc pc = .ok (.return_, 1)) (hp : Post 0 μ) : K μ pc L [] := by
  obtain ⟨p, e, s, m, args, below, meth, c0, Q, A0, cells, slots, cR, sR, hx, hb, hml, hown, hts, hK, hI, hN, hA, hcs, hss, hKe, hri, hrv⟩ := h
  exact hrv μ pc L rfl d hp
end GXR
end
