section
-- ===== PART A: goes FIRST, ahead of the names: the tables' words, and 'selects' of the private methods out of them =====
/-- a private method of a class that the tables say can be made, by its rows of tables_1 -/
def lw_okq (q : MethodName × Nat) : Prop := (q.1.cls ≠ "java/lang/invoke/MethodHandle" ∧ q.1.cls ≠ "java/lang/invoke/VarHandle") ∧ Cond.instantiable q.1.cls q.2 ∈ tables_1 ∧ Cond.privateMethod q.1 ∈ tables_1 ∧ Cond.instanceMethod q.1 ∈ tables_1
theorem lw_p0 : lw_okq (⟨"GlassBowls$History", "stateAt", "(I)LGlassBowls$Table;"⟩, 3) := ⟨⟨by decide +kernel, by decide +kernel⟩, List.mem_of_getElem? (i := 125) (by decide +kernel), List.mem_of_getElem? (i := 207) (by decide +kernel), List.mem_of_getElem? (i := 208) (by decide +kernel)⟩
theorem lw_p1 : lw_okq (⟨"GlassBowls$Bowls", "hold", "(II)V"⟩, 10) := ⟨⟨by decide +kernel, by decide +kernel⟩, List.mem_of_getElem? (i := 26) (by decide +kernel), List.mem_of_getElem? (i := 275) (by decide +kernel), List.mem_of_getElem? (i := 276) (by decide +kernel)⟩
theorem lw_p2 : lw_okq (⟨"GlassBowls$Bowls", "pitchWith", "(II)I"⟩, 10) := ⟨⟨by decide +kernel, by decide +kernel⟩, List.mem_of_getElem? (i := 26) (by decide +kernel), List.mem_of_getElem? (i := 321) (by decide +kernel), List.mem_of_getElem? (i := 322) (by decide +kernel)⟩
theorem lw_p3 : lw_okq (⟨"GlassBowls$Bowls", "inBowls", "()I"⟩, 10) := ⟨⟨by decide +kernel, by decide +kernel⟩, List.mem_of_getElem? (i := 26) (by decide +kernel), List.mem_of_getElem? (i := 374) (by decide +kernel), List.mem_of_getElem? (i := 375) (by decide +kernel)⟩
theorem lw_p4 : lw_okq (⟨"GlassBowls$Piece", "phraseOf", "(II)I"⟩, 6) := ⟨⟨by decide +kernel, by decide +kernel⟩, List.mem_of_getElem? (i := 77) (by decide +kernel), List.mem_of_getElem? (i := 390) (by decide +kernel), List.mem_of_getElem? (i := 391) (by decide +kernel)⟩
theorem lw_p5 : lw_okq (⟨"GlassBowls$Piece", "placeFor", "(I)I"⟩, 6) := ⟨⟨by decide +kernel, by decide +kernel⟩, List.mem_of_getElem? (i := 77) (by decide +kernel), List.mem_of_getElem? (i := 433) (by decide +kernel), List.mem_of_getElem? (i := 434) (by decide +kernel)⟩
theorem lw_p6 : lw_okq (⟨"GlassBowls$Piece", "sounded", "(I)Z"⟩, 6) := ⟨⟨by decide +kernel, by decide +kernel⟩, List.mem_of_getElem? (i := 77) (by decide +kernel), List.mem_of_getElem? (i := 487) (by decide +kernel), List.mem_of_getElem? (i := 488) (by decide +kernel)⟩
theorem lw_p7 : lw_okq (⟨"GlassBowls$Table", "dryUntil", "(I)V"⟩, 4) := ⟨⟨by decide +kernel, by decide +kernel⟩, List.mem_of_getElem? (i := 20) (by decide +kernel), List.mem_of_getElem? (i := 506) (by decide +kernel), List.mem_of_getElem? (i := 507) (by decide +kernel)⟩
theorem lw_p8 : lw_okq (⟨"GlassBowls$Table", "playNote", "(I)V"⟩, 4) := ⟨⟨by decide +kernel, by decide +kernel⟩, List.mem_of_getElem? (i := 20) (by decide +kernel), List.mem_of_getElem? (i := 514) (by decide +kernel), List.mem_of_getElem? (i := 515) (by decide +kernel)⟩
theorem lw_p9 : lw_okq (⟨"GlassBowls$Piece", "rankOf", "(I)I"⟩, 6) := ⟨⟨by decide +kernel, by decide +kernel⟩, List.mem_of_getElem? (i := 77) (by decide +kernel), List.mem_of_getElem? (i := 559) (by decide +kernel), List.mem_of_getElem? (i := 560) (by decide +kernel)⟩
theorem lw_p10 : lw_okq (⟨"GlassBowls$Piece", "errorSize", "(I)I"⟩, 6) := ⟨⟨by decide +kernel, by decide +kernel⟩, List.mem_of_getElem? (i := 77) (by decide +kernel), List.mem_of_getElem? (i := 563) (by decide +kernel), List.mem_of_getElem? (i := 564) (by decide +kernel)⟩
theorem lw_p11 : lw_okq (⟨"GlassBowls", "tryOut", "(I)V"⟩, 4) := ⟨⟨by decide +kernel, by decide +kernel⟩, List.mem_of_getElem? (i := 12) (by decide +kernel), List.mem_of_getElem? (i := 573) (by decide +kernel), List.mem_of_getElem? (i := 574) (by decide +kernel)⟩
theorem lw_p12 : lw_okq (⟨"GlassBowls", "tryText", "()V"⟩, 4) := ⟨⟨by decide +kernel, by decide +kernel⟩, List.mem_of_getElem? (i := 12) (by decide +kernel), List.mem_of_getElem? (i := 625) (by decide +kernel), List.mem_of_getElem? (i := 626) (by decide +kernel)⟩
theorem lw_p13 : lw_okq (⟨"GlassBowls$Text", "reasonAgainstNext", "(LGlassBowls$Piece;)I"⟩, 8) := ⟨⟨by decide +kernel, by decide +kernel⟩, List.mem_of_getElem? (i := 144) (by decide +kernel), List.mem_of_getElem? (i := 633) (by decide +kernel), List.mem_of_getElem? (i := 634) (by decide +kernel)⟩
theorem lw_p14 : lw_okq (⟨"GlassBowls$Text", "readNote", "()Z"⟩, 8) := ⟨⟨by decide +kernel, by decide +kernel⟩, List.mem_of_getElem? (i := 144) (by decide +kernel), List.mem_of_getElem? (i := 637) (by decide +kernel), List.mem_of_getElem? (i := 638) (by decide +kernel)⟩
theorem lw_p15 : lw_okq (⟨"GlassBowls$Text", "readNumber", "()I"⟩, 8) := ⟨⟨by decide +kernel, by decide +kernel⟩, List.mem_of_getElem? (i := 144) (by decide +kernel), List.mem_of_getElem? (i := 641) (by decide +kernel), List.mem_of_getElem? (i := 642) (by decide +kernel)⟩
def lw_privs_1 : List (MethodName × Nat) := [(⟨"GlassBowls$History", "stateAt", "(I)LGlassBowls$Table;"⟩, 3), (⟨"GlassBowls$Bowls", "hold", "(II)V"⟩, 10), (⟨"GlassBowls$Bowls", "pitchWith", "(II)I"⟩, 10), (⟨"GlassBowls$Bowls", "inBowls", "()I"⟩, 10), (⟨"GlassBowls$Piece", "phraseOf", "(II)I"⟩, 6), (⟨"GlassBowls$Piece", "placeFor", "(I)I"⟩, 6), (⟨"GlassBowls$Piece", "sounded", "(I)Z"⟩, 6), (⟨"GlassBowls$Table", "dryUntil", "(I)V"⟩, 4), (⟨"GlassBowls$Table", "playNote", "(I)V"⟩, 4), (⟨"GlassBowls$Piece", "rankOf", "(I)I"⟩, 6), (⟨"GlassBowls$Piece", "errorSize", "(I)I"⟩, 6), (⟨"GlassBowls", "tryOut", "(I)V"⟩, 4), (⟨"GlassBowls", "tryText", "()V"⟩, 4), (⟨"GlassBowls$Text", "reasonAgainstNext", "(LGlassBowls$Piece;)I"⟩, 8), (⟨"GlassBowls$Text", "readNote", "()Z"⟩, 8), (⟨"GlassBowls$Text", "readNumber", "()I"⟩, 8)]
theorem lw_r1 : ∀ q ∈ lw_privs_1, lw_okq q := List.forall_mem_cons.mpr ⟨lw_p0, List.forall_mem_cons.mpr ⟨lw_p1, List.forall_mem_cons.mpr ⟨lw_p2, List.forall_mem_cons.mpr ⟨lw_p3, List.forall_mem_cons.mpr ⟨lw_p4, List.forall_mem_cons.mpr ⟨lw_p5, List.forall_mem_cons.mpr ⟨lw_p6, List.forall_mem_cons.mpr ⟨lw_p7, List.forall_mem_cons.mpr ⟨lw_p8, List.forall_mem_cons.mpr ⟨lw_p9, List.forall_mem_cons.mpr ⟨lw_p10, List.forall_mem_cons.mpr ⟨lw_p11, List.forall_mem_cons.mpr ⟨lw_p12, List.forall_mem_cons.mpr ⟨lw_p13, List.forall_mem_cons.mpr ⟨lw_p14, List.forall_mem_cons.mpr ⟨lw_p15, fun _ h => absurd h List.not_mem_nil⟩⟩⟩⟩⟩⟩⟩⟩⟩⟩⟩⟩⟩⟩⟩⟩
theorem lw_p16 : lw_okq (⟨"GlassBowls$Text", "readCharacter", "(I)Z"⟩, 8) := ⟨⟨by decide +kernel, by decide +kernel⟩, List.mem_of_getElem? (i := 144) (by decide +kernel), List.mem_of_getElem? (i := 648) (by decide +kernel), List.mem_of_getElem? (i := 649) (by decide +kernel)⟩
theorem lw_p17 : lw_okq (⟨"GlassBowlsModel", "records", "()V"⟩, 11) := ⟨⟨by decide +kernel, by decide +kernel⟩, List.mem_of_getElem? (i := 671) (by decide +kernel), List.mem_of_getElem? (i := 725) (by decide +kernel), List.mem_of_getElem? (i := 726) (by decide +kernel)⟩
theorem lw_p18 : lw_okq (⟨"GlassBowlsModel", "put", "(III)V"⟩, 11) := ⟨⟨by decide +kernel, by decide +kernel⟩, List.mem_of_getElem? (i := 671) (by decide +kernel), List.mem_of_getElem? (i := 729) (by decide +kernel), List.mem_of_getElem? (i := 730) (by decide +kernel)⟩
theorem lw_p19 : lw_okq (⟨"GlassBowlsModel", "isBowl", "(I)Z"⟩, 11) := ⟨⟨by decide +kernel, by decide +kernel⟩, List.mem_of_getElem? (i := 671) (by decide +kernel), List.mem_of_getElem? (i := 737) (by decide +kernel), List.mem_of_getElem? (i := 738) (by decide +kernel)⟩
theorem lw_p20 : lw_okq (⟨"GlassBowlsModel", "of", "(II)I"⟩, 11) := ⟨⟨by decide +kernel, by decide +kernel⟩, List.mem_of_getElem? (i := 671) (by decide +kernel), List.mem_of_getElem? (i := 741) (by decide +kernel), List.mem_of_getElem? (i := 742) (by decide +kernel)⟩
theorem lw_p21 : lw_okq (⟨"GlassBowlsModel", "comes", "(II)V"⟩, 11) := ⟨⟨by decide +kernel, by decide +kernel⟩, List.mem_of_getElem? (i := 671) (by decide +kernel), List.mem_of_getElem? (i := 749) (by decide +kernel), List.mem_of_getElem? (i := 750) (by decide +kernel)⟩
theorem lw_p22 : lw_okq (⟨"GlassBowlsModel", "loses", "(I)I"⟩, 11) := ⟨⟨by decide +kernel, by decide +kernel⟩, List.mem_of_getElem? (i := 671) (by decide +kernel), List.mem_of_getElem? (i := 753) (by decide +kernel), List.mem_of_getElem? (i := 754) (by decide +kernel)⟩
theorem lw_p23 : lw_okq (⟨"GlassBowlsModel", "pitch", "(I)I"⟩, 11) := ⟨⟨by decide +kernel, by decide +kernel⟩, List.mem_of_getElem? (i := 671) (by decide +kernel), List.mem_of_getElem? (i := 773) (by decide +kernel), List.mem_of_getElem? (i := 774) (by decide +kernel)⟩
theorem lw_p24 : lw_okq (⟨"GlassBowlsModel", "pitchBy", "(II)I"⟩, 11) := ⟨⟨by decide +kernel, by decide +kernel⟩, List.mem_of_getElem? (i := 671) (by decide +kernel), List.mem_of_getElem? (i := 777) (by decide +kernel), List.mem_of_getElem? (i := 778) (by decide +kernel)⟩
theorem lw_p25 : lw_okq (⟨"GlassBowlsModel", "sounds", "(I)I"⟩, 11) := ⟨⟨by decide +kernel, by decide +kernel⟩, List.mem_of_getElem? (i := 671) (by decide +kernel), List.mem_of_getElem? (i := 794) (by decide +kernel), List.mem_of_getElem? (i := 795) (by decide +kernel)⟩
theorem lw_p26 : lw_okq (⟨"GlassBowlsModel", "setting", "(I)I"⟩, 11) := ⟨⟨by decide +kernel, by decide +kernel⟩, List.mem_of_getElem? (i := 671) (by decide +kernel), List.mem_of_getElem? (i := 805) (by decide +kernel), List.mem_of_getElem? (i := 806) (by decide +kernel)⟩
theorem lw_p27 : lw_okq (⟨"GlassBowlsModel", "phraseOf", "(I)I"⟩, 11) := ⟨⟨by decide +kernel, by decide +kernel⟩, List.mem_of_getElem? (i := 671) (by decide +kernel), List.mem_of_getElem? (i := 813) (by decide +kernel), List.mem_of_getElem? (i := 814) (by decide +kernel)⟩
theorem lw_p28 : lw_okq (⟨"GlassBowlsModel", "begins", "(I)Z"⟩, 11) := ⟨⟨by decide +kernel, by decide +kernel⟩, List.mem_of_getElem? (i := 671) (by decide +kernel), List.mem_of_getElem? (i := 817) (by decide +kernel), List.mem_of_getElem? (i := 818) (by decide +kernel)⟩
theorem lw_p29 : lw_okq (⟨"GlassBowlsModel", "has", "(II)I"⟩, 11) := ⟨⟨by decide +kernel, by decide +kernel⟩, List.mem_of_getElem? (i := 671) (by decide +kernel), List.mem_of_getElem? (i := 821) (by decide +kernel), List.mem_of_getElem? (i := 822) (by decide +kernel)⟩
theorem lw_p30 : lw_okq (⟨"GlassBowlsModel", "notesThat", "(I)I"⟩, 11) := ⟨⟨by decide +kernel, by decide +kernel⟩, List.mem_of_getElem? (i := 671) (by decide +kernel), List.mem_of_getElem? (i := 825) (by decide +kernel), List.mem_of_getElem? (i := 826) (by decide +kernel)⟩
theorem lw_p31 : lw_okq (⟨"GlassBowlsModel", "water", "()I"⟩, 11) := ⟨⟨by decide +kernel, by decide +kernel⟩, List.mem_of_getElem? (i := 671) (by decide +kernel), List.mem_of_getElem? (i := 829) (by decide +kernel), List.mem_of_getElem? (i := 830) (by decide +kernel)⟩
def lw_privs_2 : List (MethodName × Nat) := [(⟨"GlassBowls$Text", "readCharacter", "(I)Z"⟩, 8), (⟨"GlassBowlsModel", "records", "()V"⟩, 11), (⟨"GlassBowlsModel", "put", "(III)V"⟩, 11), (⟨"GlassBowlsModel", "isBowl", "(I)Z"⟩, 11), (⟨"GlassBowlsModel", "of", "(II)I"⟩, 11), (⟨"GlassBowlsModel", "comes", "(II)V"⟩, 11), (⟨"GlassBowlsModel", "loses", "(I)I"⟩, 11), (⟨"GlassBowlsModel", "pitch", "(I)I"⟩, 11), (⟨"GlassBowlsModel", "pitchBy", "(II)I"⟩, 11), (⟨"GlassBowlsModel", "sounds", "(I)I"⟩, 11), (⟨"GlassBowlsModel", "setting", "(I)I"⟩, 11), (⟨"GlassBowlsModel", "phraseOf", "(I)I"⟩, 11), (⟨"GlassBowlsModel", "begins", "(I)Z"⟩, 11), (⟨"GlassBowlsModel", "has", "(II)I"⟩, 11), (⟨"GlassBowlsModel", "notesThat", "(I)I"⟩, 11), (⟨"GlassBowlsModel", "water", "()I"⟩, 11)]
theorem lw_r2 : ∀ q ∈ lw_privs_2, lw_okq q := List.forall_mem_cons.mpr ⟨lw_p16, List.forall_mem_cons.mpr ⟨lw_p17, List.forall_mem_cons.mpr ⟨lw_p18, List.forall_mem_cons.mpr ⟨lw_p19, List.forall_mem_cons.mpr ⟨lw_p20, List.forall_mem_cons.mpr ⟨lw_p21, List.forall_mem_cons.mpr ⟨lw_p22, List.forall_mem_cons.mpr ⟨lw_p23, List.forall_mem_cons.mpr ⟨lw_p24, List.forall_mem_cons.mpr ⟨lw_p25, List.forall_mem_cons.mpr ⟨lw_p26, List.forall_mem_cons.mpr ⟨lw_p27, List.forall_mem_cons.mpr ⟨lw_p28, List.forall_mem_cons.mpr ⟨lw_p29, List.forall_mem_cons.mpr ⟨lw_p30, List.forall_mem_cons.mpr ⟨lw_p31, fun _ h => absurd h List.not_mem_nil⟩⟩⟩⟩⟩⟩⟩⟩⟩⟩⟩⟩⟩⟩⟩⟩
theorem lw_p32 : lw_okq (⟨"GlassBowlsModel", "noteAt", "(I)I"⟩, 11) := ⟨⟨by decide +kernel, by decide +kernel⟩, List.mem_of_getElem? (i := 671) (by decide +kernel), List.mem_of_getElem? (i := 837) (by decide +kernel), List.mem_of_getElem? (i := 838) (by decide +kernel)⟩
theorem lw_p33 : lw_okq (⟨"GlassBowlsModel", "newNote", "(II)I"⟩, 11) := ⟨⟨by decide +kernel, by decide +kernel⟩, List.mem_of_getElem? (i := 671) (by decide +kernel), List.mem_of_getElem? (i := 841) (by decide +kernel), List.mem_of_getElem? (i := 842) (by decide +kernel)⟩
theorem lw_p34 : lw_okq (⟨"GlassBowlsModel", "lay", "(III)V"⟩, 11) := ⟨⟨by decide +kernel, by decide +kernel⟩, List.mem_of_getElem? (i := 671) (by decide +kernel), List.mem_of_getElem? (i := 845) (by decide +kernel), List.mem_of_getElem? (i := 846) (by decide +kernel)⟩
theorem lw_p35 : lw_okq (⟨"GlassBowlsModel", "isNote", "(I)Z"⟩, 11) := ⟨⟨by decide +kernel, by decide +kernel⟩, List.mem_of_getElem? (i := 671) (by decide +kernel), List.mem_of_getElem? (i := 853) (by decide +kernel), List.mem_of_getElem? (i := 854) (by decide +kernel)⟩
theorem lw_p36 : lw_okq (⟨"GlassBowlsModel", "second", "()I"⟩, 11) := ⟨⟨by decide +kernel, by decide +kernel⟩, List.mem_of_getElem? (i := 671) (by decide +kernel), List.mem_of_getElem? (i := 869) (by decide +kernel), List.mem_of_getElem? (i := 870) (by decide +kernel)⟩
theorem lw_p37 : lw_okq (⟨"GlassBowlsModel", "dries", "()V"⟩, 11) := ⟨⟨by decide +kernel, by decide +kernel⟩, List.mem_of_getElem? (i := 671) (by decide +kernel), List.mem_of_getElem? (i := 873) (by decide +kernel), List.mem_of_getElem? (i := 874) (by decide +kernel)⟩
theorem lw_p38 : lw_okq (⟨"GlassBowlsModel", "plays", "(I)V"⟩, 11) := ⟨⟨by decide +kernel, by decide +kernel⟩, List.mem_of_getElem? (i := 671) (by decide +kernel), List.mem_of_getElem? (i := 877) (by decide +kernel), List.mem_of_getElem? (i := 878) (by decide +kernel)⟩
theorem lw_p39 : lw_okq (⟨"GlassBowlsModel", "fills", "()V"⟩, 11) := ⟨⟨by decide +kernel, by decide +kernel⟩, List.mem_of_getElem? (i := 671) (by decide +kernel), List.mem_of_getElem? (i := 881) (by decide +kernel), List.mem_of_getElem? (i := 882) (by decide +kernel)⟩
theorem lw_p40 : lw_okq (⟨"GlassBowlsModel", "hasSounded", "(I)Z"⟩, 11) := ⟨⟨by decide +kernel, by decide +kernel⟩, List.mem_of_getElem? (i := 671) (by decide +kernel), List.mem_of_getElem? (i := 893) (by decide +kernel), List.mem_of_getElem? (i := 894) (by decide +kernel)⟩
theorem lw_p41 : lw_okq (⟨"GlassBowlsModel", "standAhead", "(I)I"⟩, 11) := ⟨⟨by decide +kernel, by decide +kernel⟩, List.mem_of_getElem? (i := 671) (by decide +kernel), List.mem_of_getElem? (i := 897) (by decide +kernel), List.mem_of_getElem? (i := 898) (by decide +kernel)⟩
theorem lw_p42 : lw_okq (⟨"GlassBowlsModel", "isToCome", "(I)Z"⟩, 11) := ⟨⟨by decide +kernel, by decide +kernel⟩, List.mem_of_getElem? (i := 671) (by decide +kernel), List.mem_of_getElem? (i := 905) (by decide +kernel), List.mem_of_getElem? (i := 906) (by decide +kernel)⟩
theorem lw_p43 : lw_okq (⟨"GlassBowlsModel", "laysAside", "()V"⟩, 11) := ⟨⟨by decide +kernel, by decide +kernel⟩, List.mem_of_getElem? (i := 671) (by decide +kernel), List.mem_of_getElem? (i := 909) (by decide +kernel), List.mem_of_getElem? (i := 910) (by decide +kernel)⟩
theorem lw_p44 : lw_okq (⟨"GlassBowlsModel", "goesTo", "(I)V"⟩, 11) := ⟨⟨by decide +kernel, by decide +kernel⟩, List.mem_of_getElem? (i := 671) (by decide +kernel), List.mem_of_getElem? (i := 913) (by decide +kernel), List.mem_of_getElem? (i := 914) (by decide +kernel)⟩
theorem lw_p45 : lw_okq (⟨"GlassBowlsModel", "bringsBack", "()V"⟩, 11) := ⟨⟨by decide +kernel, by decide +kernel⟩, List.mem_of_getElem? (i := 671) (by decide +kernel), List.mem_of_getElem? (i := 917) (by decide +kernel), List.mem_of_getElem? (i := 918) (by decide +kernel)⟩
theorem lw_p46 : lw_okq (⟨"GlassBowlsModel", "reasonOfText", "()I"⟩, 11) := ⟨⟨by decide +kernel, by decide +kernel⟩, List.mem_of_getElem? (i := 671) (by decide +kernel), List.mem_of_getElem? (i := 945) (by decide +kernel), List.mem_of_getElem? (i := 946) (by decide +kernel)⟩
theorem lw_p47 : lw_okq (⟨"GlassBowlsModel", "isFormed", "()Z"⟩, 11) := ⟨⟨by decide +kernel, by decide +kernel⟩, List.mem_of_getElem? (i := 671) (by decide +kernel), List.mem_of_getElem? (i := 949) (by decide +kernel), List.mem_of_getElem? (i := 950) (by decide +kernel)⟩
def lw_privs_3 : List (MethodName × Nat) := [(⟨"GlassBowlsModel", "noteAt", "(I)I"⟩, 11), (⟨"GlassBowlsModel", "newNote", "(II)I"⟩, 11), (⟨"GlassBowlsModel", "lay", "(III)V"⟩, 11), (⟨"GlassBowlsModel", "isNote", "(I)Z"⟩, 11), (⟨"GlassBowlsModel", "second", "()I"⟩, 11), (⟨"GlassBowlsModel", "dries", "()V"⟩, 11), (⟨"GlassBowlsModel", "plays", "(I)V"⟩, 11), (⟨"GlassBowlsModel", "fills", "()V"⟩, 11), (⟨"GlassBowlsModel", "hasSounded", "(I)Z"⟩, 11), (⟨"GlassBowlsModel", "standAhead", "(I)I"⟩, 11), (⟨"GlassBowlsModel", "isToCome", "(I)Z"⟩, 11), (⟨"GlassBowlsModel", "laysAside", "()V"⟩, 11), (⟨"GlassBowlsModel", "goesTo", "(I)V"⟩, 11), (⟨"GlassBowlsModel", "bringsBack", "()V"⟩, 11), (⟨"GlassBowlsModel", "reasonOfText", "()I"⟩, 11), (⟨"GlassBowlsModel", "isFormed", "()Z"⟩, 11)]
theorem lw_r3 : ∀ q ∈ lw_privs_3, lw_okq q := List.forall_mem_cons.mpr ⟨lw_p32, List.forall_mem_cons.mpr ⟨lw_p33, List.forall_mem_cons.mpr ⟨lw_p34, List.forall_mem_cons.mpr ⟨lw_p35, List.forall_mem_cons.mpr ⟨lw_p36, List.forall_mem_cons.mpr ⟨lw_p37, List.forall_mem_cons.mpr ⟨lw_p38, List.forall_mem_cons.mpr ⟨lw_p39, List.forall_mem_cons.mpr ⟨lw_p40, List.forall_mem_cons.mpr ⟨lw_p41, List.forall_mem_cons.mpr ⟨lw_p42, List.forall_mem_cons.mpr ⟨lw_p43, List.forall_mem_cons.mpr ⟨lw_p44, List.forall_mem_cons.mpr ⟨lw_p45, List.forall_mem_cons.mpr ⟨lw_p46, List.forall_mem_cons.mpr ⟨lw_p47, fun _ h => absurd h List.not_mem_nil⟩⟩⟩⟩⟩⟩⟩⟩⟩⟩⟩⟩⟩⟩⟩⟩
theorem lw_p48 : lw_okq (⟨"GlassBowlsModel", "digits", "()I"⟩, 11) := ⟨⟨by decide +kernel, by decide +kernel⟩, List.mem_of_getElem? (i := 671) (by decide +kernel), List.mem_of_getElem? (i := 953) (by decide +kernel), List.mem_of_getElem? (i := 954) (by decide +kernel)⟩
theorem lw_p49 : lw_okq (⟨"GlassBowlsModel", "takes", "(I)Z"⟩, 11) := ⟨⟨by decide +kernel, by decide +kernel⟩, List.mem_of_getElem? (i := 671) (by decide +kernel), List.mem_of_getElem? (i := 957) (by decide +kernel), List.mem_of_getElem? (i := 958) (by decide +kernel)⟩
theorem lw_p50 : lw_okq (⟨"GlassBowlsModel", "isTaken", "(I)Z"⟩, 11) := ⟨⟨by decide +kernel, by decide +kernel⟩, List.mem_of_getElem? (i := 671) (by decide +kernel), List.mem_of_getElem? (i := 961) (by decide +kernel), List.mem_of_getElem? (i := 962) (by decide +kernel)⟩
def lw_privs_4 : List (MethodName × Nat) := [(⟨"GlassBowlsModel", "digits", "()I"⟩, 11), (⟨"GlassBowlsModel", "takes", "(I)Z"⟩, 11), (⟨"GlassBowlsModel", "isTaken", "(I)Z"⟩, 11)]
theorem lw_r4 : ∀ q ∈ lw_privs_4, lw_okq q := List.forall_mem_cons.mpr ⟨lw_p48, List.forall_mem_cons.mpr ⟨lw_p49, List.forall_mem_cons.mpr ⟨lw_p50, fun _ h => absurd h List.not_mem_nil⟩⟩⟩
def lw_privs : List (MethodName × Nat) := lw_privs_1 ++ (lw_privs_2 ++ (lw_privs_3 ++ (lw_privs_4)))
def lw_tbl : List Cond := k2_sels lw_privs ++ tables_1
theorem lw_privs_ok : ∀ q ∈ lw_privs, lw_okq q := by
  show ∀ q ∈ lw_privs_1 ++ (lw_privs_2 ++ (lw_privs_3 ++ (lw_privs_4))), lw_okq q
  exact List.forall_mem_append.mpr ⟨lw_r1, List.forall_mem_append.mpr ⟨lw_r2, List.forall_mem_append.mpr ⟨lw_r3, lw_r4⟩⟩⟩
-- ===== end of PART A; then your names; then what follows =====
end
section
def RX0 : String := "GlassBowls$Bowls"
def TX0 : u_T := fun k => match k with
  | 0 => ("GlassBowls$Bowls", "base", "LGlassBowls$Row;", true)
  | 1 => ("GlassBowls$Bowls", "depth", "LGlassBowls$Row;", true)
  | 2 => ("GlassBowls$Bowls", "level", "LGlassBowls$Row;", true)
  | 3 => ("GlassBowls$Bowls", "mark", "LGlassBowls$Row;", true)
  | 4 => ("GlassBowls$Bowls", "crack", "LGlassBowls$Row;", true)
  | 5 => ("GlassBowls$Bowls", "size", "I", false)
  | 6 => ("GlassBowls$Bowls", "poured", "I", false)
  | 7 => ("GlassBowls$Bowls", "dried", "I", false)
  | 8 => ("GlassBowls$Bowls", "lost", "I", false)
  | _ => ("GlassBowls$Bowls", "takenOut", "I", false)
def tyX0 : Nat → FieldType := fun k => match k with
  | 0 => .object "GlassBowls$Row"
  | 1 => .object "GlassBowls$Row"
  | 2 => .object "GlassBowls$Row"
  | 3 => .object "GlassBowls$Row"
  | 4 => .object "GlassBowls$Row"
  | 5 => .int
  | 6 => .int
  | 7 => .int
  | 8 => .int
  | _ => .int
abbrev wsX00 : List Cond := u_ws RX0 TX0 10
theorem nmX0 : ∀ a, a < 10 → ∀ b, b < 10 → a ≠ b → (TX0 a).2.1 ≠ (TX0 b).2.1 := by decide +kernel
theorem tyX0_ok : ∀ k, k < 10 → parseFieldDescriptor (TX0 k).2.2.1 = some (tyX0 k) := by decide +kernel
abbrev cX0_init : ByteArray := prog_2_method_1_code
def yX0_init : MethodName := ⟨RX0, "<init>", "()V"⟩
abbrev cX0_size : ByteArray := prog_2_method_2_code
def yX0_size : MethodName := ⟨RX0, "size", "()I"⟩
abbrev cX0_has : ByteArray := prog_2_method_3_code
def yX0_has : MethodName := ⟨RX0, "has", "(I)Z"⟩
abbrev cX0_levelIn : ByteArray := prog_2_method_4_code
def yX0_levelIn : MethodName := ⟨RX0, "levelIn", "(I)I"⟩
abbrev cX0_append : ByteArray := prog_2_method_5_code
def yX0_append : MethodName := ⟨RX0, "append", "(II)V"⟩
abbrev cX0_takeAway : ByteArray := prog_2_method_6_code
def yX0_takeAway : MethodName := ⟨RX0, "takeAway", "(I)V"⟩
abbrev cX0_addWater : ByteArray := prog_2_method_7_code
def yX0_addWater : MethodName := ⟨RX0, "addWater", "(II)V"⟩
abbrev cX0_takeWater : ByteArray := prog_2_method_8_code
def yX0_takeWater : MethodName := ⟨RX0, "takeWater", "(II)V"⟩
abbrev cX0_moveCrack : ByteArray := prog_2_method_9_code
def yX0_moveCrack : MethodName := ⟨RX0, "moveCrack", "(II)V"⟩
abbrev cX0_moveMark : ByteArray := prog_2_method_10_code
def yX0_moveMark : MethodName := ⟨RX0, "moveMark", "(II)I"⟩
abbrev cX0_hold : ByteArray := prog_2_method_11_code
def yX0_hold : MethodName := ⟨RX0, "hold", "(II)V"⟩
abbrev cX0_fillToMarks : ByteArray := prog_2_method_12_code
def yX0_fillToMarks : MethodName := ⟨RX0, "fillToMarks", "()V"⟩
abbrev cX0_dry : ByteArray := prog_2_method_13_code
def yX0_dry : MethodName := ⟨RX0, "dry", "(I)V"⟩
abbrev cX0_property : ByteArray := prog_2_method_14_code
def yX0_property : MethodName := ⟨RX0, "property", "(II)I"⟩
abbrev cX0_pitchOf : ByteArray := prog_2_method_15_code
def yX0_pitchOf : MethodName := ⟨RX0, "pitchOf", "(I)I"⟩
abbrev cX0_pitchWith : ByteArray := prog_2_method_16_code
def yX0_pitchWith : MethodName := ⟨RX0, "pitchWith", "(II)I"⟩
abbrev cX0_nearestLevel : ByteArray := prog_2_method_17_code
def yX0_nearestLevel : MethodName := ⟨RX0, "nearestLevel", "(II)I"⟩
abbrev cX0_nearestBowl : ByteArray := prog_2_method_18_code
def yX0_nearestBowl : MethodName := ⟨RX0, "nearestBowl", "(I)I"⟩
abbrev cX0_account : ByteArray := prog_2_method_19_code
def yX0_account : MethodName := ⟨RX0, "account", "(I)I"⟩
abbrev cX0_inBowls : ByteArray := prog_2_method_20_code
def yX0_inBowls : MethodName := ⟨RX0, "inBowls", "()I"⟩
abbrev cX0_copyFrom : ByteArray := prog_2_method_21_code
def yX0_copyFrom : MethodName := ⟨RX0, "copyFrom", "(LGlassBowls$Bowls;)V"⟩
def RX1 : String := "GlassBowls$History"
def TX1 : u_T := fun k => match k with
  | 0 => ("GlassBowls$History", "states", "[LGlassBowls$Table;", true)
  | 1 => ("GlassBowls$History", "next", "I", false)
  | _ => ("GlassBowls$History", "size", "I", false)
def tyX1 : Nat → FieldType := fun k => match k with
  | 0 => .array (.object "GlassBowls$Table")
  | 1 => .int
  | _ => .int
abbrev wsX10 : List Cond := u_ws RX1 TX1 3
theorem nmX1 : ∀ a, a < 3 → ∀ b, b < 3 → a ≠ b → (TX1 a).2.1 ≠ (TX1 b).2.1 := by decide +kernel
theorem tyX1_ok : ∀ k, k < 3 → parseFieldDescriptor (TX1 k).2.2.1 = some (tyX1 k) := by decide +kernel
abbrev cX1_init : ByteArray := prog_3_method_1_code
def yX1_init : MethodName := ⟨RX1, "<init>", "()V"⟩
abbrev cX1_size : ByteArray := prog_3_method_2_code
def yX1_size : MethodName := ⟨RX1, "size", "()I"⟩
abbrev cX1_stateAt : ByteArray := prog_3_method_3_code
def yX1_stateAt : MethodName := ⟨RX1, "stateAt", "(I)LGlassBowls$Table;"⟩
abbrev cX1_record : ByteArray := prog_3_method_4_code
def yX1_record : MethodName := ⟨RX1, "record", "(LGlassBowls$Table;)V"⟩
abbrev cX1_restore : ByteArray := prog_3_method_5_code
def yX1_restore : MethodName := ⟨RX1, "restore", "(LGlassBowls$Table;)V"⟩
def RX2 : String := "GlassBowls$Piece"
def TX2 : u_T := fun k => match k with
  | 0 => ("GlassBowls$Piece", "time", "LGlassBowls$Row;", true)
  | 1 => ("GlassBowls$Piece", "pitch", "LGlassBowls$Row;", true)
  | 2 => ("GlassBowls$Piece", "outcome", "LGlassBowls$Row;", true)
  | 3 => ("GlassBowls$Piece", "bowl", "LGlassBowls$Row;", true)
  | 4 => ("GlassBowls$Piece", "error", "LGlassBowls$Row;", true)
  | _ => ("GlassBowls$Piece", "size", "I", false)
def tyX2 : Nat → FieldType := fun k => match k with
  | 0 => .object "GlassBowls$Row"
  | 1 => .object "GlassBowls$Row"
  | 2 => .object "GlassBowls$Row"
  | 3 => .object "GlassBowls$Row"
  | 4 => .object "GlassBowls$Row"
  | _ => .int
abbrev wsX20 : List Cond := u_ws RX2 TX2 6
theorem nmX2 : ∀ a, a < 6 → ∀ b, b < 6 → a ≠ b → (TX2 a).2.1 ≠ (TX2 b).2.1 := by decide +kernel
theorem tyX2_ok : ∀ k, k < 6 → parseFieldDescriptor (TX2 k).2.2.1 = some (tyX2 k) := by decide +kernel
abbrev cX2_init : ByteArray := prog_4_method_1_code
def yX2_init : MethodName := ⟨RX2, "<init>", "()V"⟩
abbrev cX2_size : ByteArray := prog_4_method_2_code
def yX2_size : MethodName := ⟨RX2, "size", "()I"⟩
abbrev cX2_has : ByteArray := prog_4_method_3_code
def yX2_has : MethodName := ⟨RX2, "has", "(I)Z"⟩
abbrev cX2_isFull : ByteArray := prog_4_method_4_code
def yX2_isFull : MethodName := ⟨RX2, "isFull", "()Z"⟩
abbrev cX2_timeOf : ByteArray := prog_4_method_5_code
def yX2_timeOf : MethodName := ⟨RX2, "timeOf", "(I)I"⟩
abbrev cX2_pitchOf : ByteArray := prog_4_method_6_code
def yX2_pitchOf : MethodName := ⟨RX2, "pitchOf", "(I)I"⟩
abbrev cX2_errorOf : ByteArray := prog_4_method_7_code
def yX2_errorOf : MethodName := ⟨RX2, "errorOf", "(I)I"⟩
abbrev cX2_placeFor : ByteArray := prog_4_method_8_code
def yX2_placeFor : MethodName := ⟨RX2, "placeFor", "(I)I"⟩
abbrev cX2_hasNoteAt : ByteArray := prog_4_method_9_code
def yX2_hasNoteAt : MethodName := ⟨RX2, "hasNoteAt", "(I)Z"⟩
abbrev cX2_insert : ByteArray := prog_4_method_10_code
def yX2_insert : MethodName := ⟨RX2, "insert", "(II)I"⟩
abbrev cX2_takeAway : ByteArray := prog_4_method_11_code
def yX2_takeAway : MethodName := ⟨RX2, "takeAway", "(I)V"⟩
abbrev cX2_canShift : ByteArray := prog_4_method_12_code
def yX2_canShift : MethodName := ⟨RX2, "canShift", "(III)Z"⟩
abbrev cX2_shift : ByteArray := prog_4_method_13_code
def yX2_shift : MethodName := ⟨RX2, "shift", "(III)V"⟩
abbrev cX2_beginsPhrase : ByteArray := prog_4_method_14_code
def yX2_beginsPhrase : MethodName := ⟨RX2, "beginsPhrase", "(II)Z"⟩
abbrev cX2_phraseOf : ByteArray := prog_4_method_15_code
def yX2_phraseOf : MethodName := ⟨RX2, "phraseOf", "(II)I"⟩
abbrev cX2_phrases : ByteArray := prog_4_method_16_code
def yX2_phrases : MethodName := ⟨RX2, "phrases", "(I)I"⟩
abbrev cX2_keepSilence : ByteArray := prog_4_method_17_code
def yX2_keepSilence : MethodName := ⟨RX2, "keepSilence", "(I)V"⟩
abbrev cX2_keepSound : ByteArray := prog_4_method_18_code
def yX2_keepSound : MethodName := ⟨RX2, "keepSound", "(IIIZ)V"⟩
abbrev cX2_forgetPlaying : ByteArray := prog_4_method_19_code
def yX2_forgetPlaying : MethodName := ⟨RX2, "forgetPlaying", "()V"⟩
abbrev cX2_sounded : ByteArray := prog_4_method_20_code
def yX2_sounded : MethodName := ⟨RX2, "sounded", "(I)Z"⟩
abbrev cX2_notesWith : ByteArray := prog_4_method_21_code
def yX2_notesWith : MethodName := ⟨RX2, "notesWith", "(I)I"⟩
abbrev cX2_playedNotes : ByteArray := prog_4_method_22_code
def yX2_playedNotes : MethodName := ⟨RX2, "playedNotes", "()I"⟩
abbrev cX2_property : ByteArray := prog_4_method_23_code
def yX2_property : MethodName := ⟨RX2, "property", "(III)I"⟩
abbrev cX2_errorSize : ByteArray := prog_4_method_24_code
def yX2_errorSize : MethodName := ⟨RX2, "errorSize", "(I)I"⟩
abbrev cX2_noteAtRank : ByteArray := prog_4_method_25_code
def yX2_noteAtRank : MethodName := ⟨RX2, "noteAtRank", "(I)I"⟩
abbrev cX2_rankOf : ByteArray := prog_4_method_26_code
def yX2_rankOf : MethodName := ⟨RX2, "rankOf", "(I)I"⟩
abbrev cX2_firstFalseAfter : ByteArray := prog_4_method_27_code
def yX2_firstFalseAfter : MethodName := ⟨RX2, "firstFalseAfter", "(I)I"⟩
abbrev cX2_greatestErrorAfter : ByteArray := prog_4_method_28_code
def yX2_greatestErrorAfter : MethodName := ⟨RX2, "greatestErrorAfter", "(I)I"⟩
abbrev cX2_copyFrom : ByteArray := prog_4_method_29_code
def yX2_copyFrom : MethodName := ⟨RX2, "copyFrom", "(LGlassBowls$Piece;)V"⟩
def RX3 : String := "GlassBowls$Row"
def TX3 : u_T := fun k => match k with
  | _ => ("GlassBowls$Row", "cells", "[I", true)
def tyX3 : Nat → FieldType := fun k => match k with
  | _ => .array .int
abbrev wsX30 : List Cond := u_ws RX3 TX3 1
theorem nmX3 : ∀ a, a < 1 → ∀ b, b < 1 → a ≠ b → (TX3 a).2.1 ≠ (TX3 b).2.1 := by decide +kernel
theorem tyX3_ok : ∀ k, k < 1 → parseFieldDescriptor (TX3 k).2.2.1 = some (tyX3 k) := by decide +kernel
abbrev cX3_init : ByteArray := prog_5_method_1_code
def yX3_init : MethodName := ⟨RX3, "<init>", "(I)V"⟩
abbrev cX3_get : ByteArray := prog_5_method_2_code
def yX3_get : MethodName := ⟨RX3, "get", "(I)I"⟩
abbrev cX3_put : ByteArray := prog_5_method_3_code
def yX3_put : MethodName := ⟨RX3, "put", "(II)V"⟩
abbrev cX3_add : ByteArray := prog_5_method_4_code
def yX3_add : MethodName := ⟨RX3, "add", "(II)V"⟩
abbrev cX3_insert : ByteArray := prog_5_method_5_code
def yX3_insert : MethodName := ⟨RX3, "insert", "(III)V"⟩
abbrev cX3_delete : ByteArray := prog_5_method_6_code
def yX3_delete : MethodName := ⟨RX3, "delete", "(II)V"⟩
abbrev cX3_copyFrom : ByteArray := prog_5_method_7_code
def yX3_copyFrom : MethodName := ⟨RX3, "copyFrom", "(LGlassBowls$Row;)V"⟩
def RX4 : String := "GlassBowls$Table"
def TX4 : u_T := fun k => match k with
  | 0 => ("GlassBowls$Table", "bowls", "LGlassBowls$Bowls;", true)
  | 1 => ("GlassBowls$Table", "piece", "LGlassBowls$Piece;", true)
  | 2 => ("GlassBowls$Table", "settings", "LGlassBowls$Row;", true)
  | _ => ("GlassBowls$Table", "time", "I", false)
def tyX4 : Nat → FieldType := fun k => match k with
  | 0 => .object "GlassBowls$Bowls"
  | 1 => .object "GlassBowls$Piece"
  | 2 => .object "GlassBowls$Row"
  | _ => .int
abbrev wsX40 : List Cond := u_ws RX4 TX4 4
theorem nmX4 : ∀ a, a < 4 → ∀ b, b < 4 → a ≠ b → (TX4 a).2.1 ≠ (TX4 b).2.1 := by decide +kernel
theorem tyX4_ok : ∀ k, k < 4 → parseFieldDescriptor (TX4 k).2.2.1 = some (tyX4 k) := by decide +kernel
abbrev cX4_init : ByteArray := prog_6_method_1_code
def yX4_init : MethodName := ⟨RX4, "<init>", "()V"⟩
abbrev cX4_time : ByteArray := prog_6_method_2_code
def yX4_time : MethodName := ⟨RX4, "time", "()I"⟩
abbrev cX4_setting : ByteArray := prog_6_method_3_code
def yX4_setting : MethodName := ⟨RX4, "setting", "(I)I"⟩
abbrev cX4_changeSetting : ByteArray := prog_6_method_4_code
def yX4_changeSetting : MethodName := ⟨RX4, "changeSetting", "(II)I"⟩
abbrev cX4_startAgain : ByteArray := prog_6_method_5_code
def yX4_startAgain : MethodName := ⟨RX4, "startAgain", "()V"⟩
abbrev cX4_advance : ByteArray := prog_6_method_6_code
def yX4_advance : MethodName := ⟨RX4, "advance", "(I)I"⟩
abbrev cX4_dryUntil : ByteArray := prog_6_method_7_code
def yX4_dryUntil : MethodName := ⟨RX4, "dryUntil", "(I)V"⟩
abbrev cX4_playNote : ByteArray := prog_6_method_8_code
def yX4_playNote : MethodName := ⟨RX4, "playNote", "(I)V"⟩
abbrev cX4_copyFrom : ByteArray := prog_6_method_9_code
def yX4_copyFrom : MethodName := ⟨RX4, "copyFrom", "(LGlassBowls$Table;)V"⟩
def RX5 : String := "GlassBowls$Text"
def TX5 : u_T := fun k => match k with
  | 0 => ("GlassBowls$Text", "characters", "LGlassBowls$Row;", true)
  | 1 => ("GlassBowls$Text", "length", "I", false)
  | 2 => ("GlassBowls$Text", "place", "I", false)
  | 3 => ("GlassBowls$Text", "time", "I", false)
  | 4 => ("GlassBowls$Text", "pitch", "I", false)
  | 5 => ("GlassBowls$Text", "notesRead", "I", false)
  | 6 => ("GlassBowls$Text", "faultPlace", "I", false)
  | _ => ("GlassBowls$Text", "faultReason", "I", false)
def tyX5 : Nat → FieldType := fun k => match k with
  | 0 => .object "GlassBowls$Row"
  | 1 => .int
  | 2 => .int
  | 3 => .int
  | 4 => .int
  | 5 => .int
  | 6 => .int
  | _ => .int
abbrev wsX50 : List Cond := u_ws RX5 TX5 8
theorem nmX5 : ∀ a, a < 8 → ∀ b, b < 8 → a ≠ b → (TX5 a).2.1 ≠ (TX5 b).2.1 := by decide +kernel
theorem tyX5_ok : ∀ k, k < 8 → parseFieldDescriptor (TX5 k).2.2.1 = some (tyX5 k) := by decide +kernel
abbrev cX5_init : ByteArray := prog_7_method_1_code
def yX5_init : MethodName := ⟨RX5, "<init>", "()V"⟩
abbrev cX5_length : ByteArray := prog_7_method_2_code
def yX5_length : MethodName := ⟨RX5, "length", "()I"⟩
abbrev cX5_notesRead : ByteArray := prog_7_method_3_code
def yX5_notesRead : MethodName := ⟨RX5, "notesRead", "()I"⟩
abbrev cX5_faultPlace : ByteArray := prog_7_method_4_code
def yX5_faultPlace : MethodName := ⟨RX5, "faultPlace", "()I"⟩
abbrev cX5_faultReason : ByteArray := prog_7_method_5_code
def yX5_faultReason : MethodName := ⟨RX5, "faultReason", "()I"⟩
abbrev cX5_append : ByteArray := prog_7_method_6_code
def yX5_append : MethodName := ⟨RX5, "append", "(I)V"⟩
abbrev cX5_empty : ByteArray := prog_7_method_7_code
def yX5_empty : MethodName := ⟨RX5, "empty", "()V"⟩
abbrev cX5_readInto : ByteArray := prog_7_method_8_code
def yX5_readInto : MethodName := ⟨RX5, "readInto", "(LGlassBowls$Piece;)V"⟩
abbrev cX5_reasonAgainstNext : ByteArray := prog_7_method_9_code
def yX5_reasonAgainstNext : MethodName := ⟨RX5, "reasonAgainstNext", "(LGlassBowls$Piece;)I"⟩
abbrev cX5_readNote : ByteArray := prog_7_method_10_code
def yX5_readNote : MethodName := ⟨RX5, "readNote", "()Z"⟩
abbrev cX5_readNumber : ByteArray := prog_7_method_11_code
def yX5_readNumber : MethodName := ⟨RX5, "readNumber", "()I"⟩
abbrev cX5_readCharacter : ByteArray := prog_7_method_12_code
def yX5_readCharacter : MethodName := ⟨RX5, "readCharacter", "(I)Z"⟩
def RX6 : String := "GlassBowls"
def TX6 : u_T := fun k => match k with
  | 0 => ("GlassBowls", "table", "LGlassBowls$Table;", true)
  | 1 => ("GlassBowls", "trial", "LGlassBowls$Table;", true)
  | 2 => ("GlassBowls", "history", "LGlassBowls$History;", true)
  | _ => ("GlassBowls", "text", "LGlassBowls$Text;", true)
def tyX6 : Nat → FieldType := fun k => match k with
  | 0 => .object "GlassBowls$Table"
  | 1 => .object "GlassBowls$Table"
  | 2 => .object "GlassBowls$History"
  | _ => .object "GlassBowls$Text"
abbrev wsX60 : List Cond := u_ws RX6 TX6 4
theorem nmX6 : ∀ a, a < 4 → ∀ b, b < 4 → a ≠ b → (TX6 a).2.1 ≠ (TX6 b).2.1 := by decide +kernel
theorem tyX6_ok : ∀ k, k < 4 → parseFieldDescriptor (TX6 k).2.2.1 = some (tyX6 k) := by decide +kernel
abbrev cX6_init : ByteArray := prog_1_method_1_code
def yX6_init : MethodName := ⟨RX6, "<init>", "()V"⟩
abbrev cX6_bowl : ByteArray := prog_1_method_2_code
def yX6_bowl : MethodName := ⟨RX6, "bowl", "(II)I"⟩
abbrev cX6_remove : ByteArray := prog_1_method_3_code
def yX6_remove : MethodName := ⟨RX6, "remove", "(I)I"⟩
abbrev cX6_pour : ByteArray := prog_1_method_4_code
def yX6_pour : MethodName := ⟨RX6, "pour", "(II)I"⟩
abbrev cX6_spill : ByteArray := prog_1_method_5_code
def yX6_spill : MethodName := ⟨RX6, "spill", "(II)I"⟩
abbrev cX6_crack : ByteArray := prog_1_method_6_code
def yX6_crack : MethodName := ⟨RX6, "crack", "(II)I"⟩
abbrev cX6_mark : ByteArray := prog_1_method_7_code
def yX6_mark : MethodName := ⟨RX6, "mark", "(II)I"⟩
abbrev cX6_bowlOf : ByteArray := prog_1_method_8_code
def yX6_bowlOf : MethodName := ⟨RX6, "bowlOf", "(II)I"⟩
abbrev cX6_levelFor : ByteArray := prog_1_method_9_code
def yX6_levelFor : MethodName := ⟨RX6, "levelFor", "(II)I"⟩
abbrev cX6_nearest : ByteArray := prog_1_method_10_code
def yX6_nearest : MethodName := ⟨RX6, "nearest", "(I)I"⟩
abbrev cX6_set : ByteArray := prog_1_method_11_code
def yX6_set : MethodName := ⟨RX6, "set", "(II)I"⟩
abbrev cX6_count : ByteArray := prog_1_method_12_code
def yX6_count : MethodName := ⟨RX6, "count", "(I)I"⟩
abbrev cX6_undo : ByteArray := prog_1_method_13_code
def yX6_undo : MethodName := ⟨RX6, "undo", "()I"⟩
abbrev cX6_note : ByteArray := prog_1_method_14_code
def yX6_note : MethodName := ⟨RX6, "note", "(II)I"⟩
abbrev cX6_drop : ByteArray := prog_1_method_15_code
def yX6_drop : MethodName := ⟨RX6, "drop", "(I)I"⟩
abbrev cX6_transpose : ByteArray := prog_1_method_16_code
def yX6_transpose : MethodName := ⟨RX6, "transpose", "(III)I"⟩
abbrev cX6_noteOf : ByteArray := prog_1_method_17_code
def yX6_noteOf : MethodName := ⟨RX6, "noteOf", "(II)I"⟩
abbrev cX6_run : ByteArray := prog_1_method_18_code
def yX6_run : MethodName := ⟨RX6, "run", "(I)I"⟩
abbrev cX6_rewind : ByteArray := prog_1_method_19_code
def yX6_rewind : MethodName := ⟨RX6, "rewind", "()I"⟩
abbrev cX6_worst : ByteArray := prog_1_method_20_code
def yX6_worst : MethodName := ⟨RX6, "worst", "(I)I"⟩
abbrev cX6_wouldBe : ByteArray := prog_1_method_21_code
def yX6_wouldBe : MethodName := ⟨RX6, "wouldBe", "(I)I"⟩
abbrev cX6_firstFalse : ByteArray := prog_1_method_22_code
def yX6_firstFalse : MethodName := ⟨RX6, "firstFalse", "()I"⟩
abbrev cX6_leastTolerance : ByteArray := prog_1_method_23_code
def yX6_leastTolerance : MethodName := ⟨RX6, "leastTolerance", "()I"⟩
abbrev cX6_pitchAt : ByteArray := prog_1_method_24_code
def yX6_pitchAt : MethodName := ⟨RX6, "pitchAt", "(II)I"⟩
abbrev cX6_type : ByteArray := prog_1_method_25_code
def yX6_type : MethodName := ⟨RX6, "type", "(I)I"⟩
abbrev cX6_clearText : ByteArray := prog_1_method_26_code
def yX6_clearText : MethodName := ⟨RX6, "clearText", "()I"⟩
abbrev cX6_fault : ByteArray := prog_1_method_27_code
def yX6_fault : MethodName := ⟨RX6, "fault", "(I)I"⟩
abbrev cX6_enter : ByteArray := prog_1_method_28_code
def yX6_enter : MethodName := ⟨RX6, "enter", "()I"⟩
abbrev cX6_isWithin : ByteArray := prog_1_method_29_code
def yX6_isWithin : MethodName := ⟨RX6, "isWithin", "(III)Z"⟩
abbrev cX6_isSetting : ByteArray := prog_1_method_30_code
def yX6_isSetting : MethodName := ⟨RX6, "isSetting", "(II)Z"⟩
abbrev cX6_orNotFound : ByteArray := prog_1_method_31_code
def yX6_orNotFound : MethodName := ⟨RX6, "orNotFound", "(I)I"⟩
abbrev cX6_oneIf : ByteArray := prog_1_method_32_code
def yX6_oneIf : MethodName := ⟨RX6, "oneIf", "(Z)I"⟩
abbrev cX6_tryOut : ByteArray := prog_1_method_33_code
def yX6_tryOut : MethodName := ⟨RX6, "tryOut", "(I)V"⟩
abbrev cX6_tryText : ByteArray := prog_1_method_34_code
def yX6_tryText : MethodName := ⟨RX6, "tryText", "()V"⟩
def RX7 : String := "GlassBowlsModel"
def TX7 : u_T := fun k => match k with
  | 0 => ("GlassBowlsModel", "st", "[I", true)
  | 1 => ("GlassBowlsModel", "past", "[I", true)
  | 2 => ("GlassBowlsModel", "aside", "[I", true)
  | 3 => ("GlassBowlsModel", "pasts", "I", false)
  | 4 => ("GlassBowlsModel", "text", "[I", true)
  | 5 => ("GlassBowlsModel", "length", "I", false)
  | 6 => ("GlassBowlsModel", "spot", "I", false)
  | 7 => ("GlassBowlsModel", "itsTime", "I", false)
  | 8 => ("GlassBowlsModel", "itsPitch", "I", false)
  | 9 => ("GlassBowlsModel", "times", "[I", true)
  | _ => ("GlassBowlsModel", "from", "I", false)
def tyX7 : Nat → FieldType := fun k => match k with
  | 0 => .array .int
  | 1 => .array .int
  | 2 => .array .int
  | 3 => .int
  | 4 => .array .int
  | 5 => .int
  | 6 => .int
  | 7 => .int
  | 8 => .int
  | 9 => .array .int
  | _ => .int
abbrev wsX70 : List Cond := u_ws RX7 TX7 11
theorem nmX7 : ∀ a, a < 11 → ∀ b, b < 11 → a ≠ b → (TX7 a).2.1 ≠ (TX7 b).2.1 := by decide +kernel
theorem tyX7_ok : ∀ k, k < 11 → parseFieldDescriptor (TX7 k).2.2.1 = some (tyX7 k) := by decide +kernel
abbrev cX7_init : ByteArray := prog_9_method_1_code
def yX7_init : MethodName := ⟨RX7, "<init>", "()V"⟩
abbrev cX7_in : ByteArray := prog_9_method_3_code
def yX7_in : MethodName := ⟨RX7, "in", "(III)Z"⟩
abbrev cX7_size : ByteArray := prog_9_method_4_code
def yX7_size : MethodName := ⟨RX7, "size", "(I)I"⟩
abbrev cX7_of : ByteArray := prog_9_method_5_code
def yX7_of : MethodName := ⟨RX7, "of", "(II)I"⟩
abbrev cX7_put : ByteArray := prog_9_method_6_code
def yX7_put : MethodName := ⟨RX7, "put", "(III)V"⟩
abbrev cX7_has : ByteArray := prog_9_method_7_code
def yX7_has : MethodName := ⟨RX7, "has", "(II)I"⟩
abbrev cX7_lay : ByteArray := prog_9_method_8_code
def yX7_lay : MethodName := ⟨RX7, "lay", "(III)V"⟩
abbrev cX7_setting : ByteArray := prog_9_method_9_code
def yX7_setting : MethodName := ⟨RX7, "setting", "(I)I"⟩
abbrev cX7_isBowl : ByteArray := prog_9_method_10_code
def yX7_isBowl : MethodName := ⟨RX7, "isBowl", "(I)Z"⟩
abbrev cX7_isNote : ByteArray := prog_9_method_11_code
def yX7_isNote : MethodName := ⟨RX7, "isNote", "(I)Z"⟩
abbrev cX7_records : ByteArray := prog_9_method_12_code
def yX7_records : MethodName := ⟨RX7, "records", "()V"⟩
abbrev cX7_undo : ByteArray := prog_9_method_13_code
def yX7_undo : MethodName := ⟨RX7, "undo", "()I"⟩
abbrev cX7_laysAside : ByteArray := prog_9_method_14_code
def yX7_laysAside : MethodName := ⟨RX7, "laysAside", "()V"⟩
abbrev cX7_bringsBack : ByteArray := prog_9_method_15_code
def yX7_bringsBack : MethodName := ⟨RX7, "bringsBack", "()V"⟩
abbrev cX7_pitchBy : ByteArray := prog_9_method_16_code
def yX7_pitchBy : MethodName := ⟨RX7, "pitchBy", "(II)I"⟩
abbrev cX7_pitch : ByteArray := prog_9_method_17_code
def yX7_pitch : MethodName := ⟨RX7, "pitch", "(I)I"⟩
abbrev cX7_loses : ByteArray := prog_9_method_18_code
def yX7_loses : MethodName := ⟨RX7, "loses", "(I)I"⟩
abbrev cX7_comes : ByteArray := prog_9_method_19_code
def yX7_comes : MethodName := ⟨RX7, "comes", "(II)V"⟩
abbrev cX7_bowl : ByteArray := prog_9_method_20_code
def yX7_bowl : MethodName := ⟨RX7, "bowl", "(II)I"⟩
abbrev cX7_remove : ByteArray := prog_9_method_21_code
def yX7_remove : MethodName := ⟨RX7, "remove", "(I)I"⟩
abbrev cX7_pour : ByteArray := prog_9_method_22_code
def yX7_pour : MethodName := ⟨RX7, "pour", "(II)I"⟩
abbrev cX7_spill : ByteArray := prog_9_method_23_code
def yX7_spill : MethodName := ⟨RX7, "spill", "(II)I"⟩
abbrev cX7_crack : ByteArray := prog_9_method_24_code
def yX7_crack : MethodName := ⟨RX7, "crack", "(II)I"⟩
abbrev cX7_mark : ByteArray := prog_9_method_25_code
def yX7_mark : MethodName := ⟨RX7, "mark", "(II)I"⟩
abbrev cX7_bowlOf : ByteArray := prog_9_method_26_code
def yX7_bowlOf : MethodName := ⟨RX7, "bowlOf", "(II)I"⟩
abbrev cX7_levelFor : ByteArray := prog_9_method_27_code
def yX7_levelFor : MethodName := ⟨RX7, "levelFor", "(II)I"⟩
abbrev cX7_sounds : ByteArray := prog_9_method_28_code
def yX7_sounds : MethodName := ⟨RX7, "sounds", "(I)I"⟩
abbrev cX7_nearest : ByteArray := prog_9_method_29_code
def yX7_nearest : MethodName := ⟨RX7, "nearest", "(I)I"⟩
abbrev cX7_canBe : ByteArray := prog_9_method_30_code
def yX7_canBe : MethodName := ⟨RX7, "canBe", "(II)Z"⟩
abbrev cX7_set : ByteArray := prog_9_method_31_code
def yX7_set : MethodName := ⟨RX7, "set", "(II)I"⟩
abbrev cX7_water : ByteArray := prog_9_method_32_code
def yX7_water : MethodName := ⟨RX7, "water", "()I"⟩
abbrev cX7_notesThat : ByteArray := prog_9_method_33_code
def yX7_notesThat : MethodName := ⟨RX7, "notesThat", "(I)I"⟩
abbrev cX7_count : ByteArray := prog_9_method_34_code
def yX7_count : MethodName := ⟨RX7, "count", "(I)I"⟩
abbrev cX7_begins : ByteArray := prog_9_method_35_code
def yX7_begins : MethodName := ⟨RX7, "begins", "(I)Z"⟩
abbrev cX7_phraseOf : ByteArray := prog_9_method_36_code
def yX7_phraseOf : MethodName := ⟨RX7, "phraseOf", "(I)I"⟩
abbrev cX7_noteAt : ByteArray := prog_9_method_37_code
def yX7_noteAt : MethodName := ⟨RX7, "noteAt", "(I)I"⟩
abbrev cX7_newNote : ByteArray := prog_9_method_38_code
def yX7_newNote : MethodName := ⟨RX7, "newNote", "(II)I"⟩
abbrev cX7_note : ByteArray := prog_9_method_39_code
def yX7_note : MethodName := ⟨RX7, "note", "(II)I"⟩
abbrev cX7_drop : ByteArray := prog_9_method_40_code
def yX7_drop : MethodName := ⟨RX7, "drop", "(I)I"⟩
abbrev cX7_transpose : ByteArray := prog_9_method_41_code
def yX7_transpose : MethodName := ⟨RX7, "transpose", "(III)I"⟩
abbrev cX7_noteOf : ByteArray := prog_9_method_42_code
def yX7_noteOf : MethodName := ⟨RX7, "noteOf", "(II)I"⟩
abbrev cX7_dries : ByteArray := prog_9_method_43_code
def yX7_dries : MethodName := ⟨RX7, "dries", "()V"⟩
abbrev cX7_fills : ByteArray := prog_9_method_44_code
def yX7_fills : MethodName := ⟨RX7, "fills", "()V"⟩
abbrev cX7_plays : ByteArray := prog_9_method_45_code
def yX7_plays : MethodName := ⟨RX7, "plays", "(I)V"⟩
abbrev cX7_second : ByteArray := prog_9_method_46_code
def yX7_second : MethodName := ⟨RX7, "second", "()I"⟩
abbrev cX7_run : ByteArray := prog_9_method_47_code
def yX7_run : MethodName := ⟨RX7, "run", "(I)I"⟩
abbrev cX7_rewind : ByteArray := prog_9_method_48_code
def yX7_rewind : MethodName := ⟨RX7, "rewind", "()I"⟩
abbrev cX7_hasSounded : ByteArray := prog_9_method_49_code
def yX7_hasSounded : MethodName := ⟨RX7, "hasSounded", "(I)Z"⟩
abbrev cX7_standAhead : ByteArray := prog_9_method_50_code
def yX7_standAhead : MethodName := ⟨RX7, "standAhead", "(I)I"⟩
abbrev cX7_worst : ByteArray := prog_9_method_51_code
def yX7_worst : MethodName := ⟨RX7, "worst", "(I)I"⟩
abbrev cX7_isToCome : ByteArray := prog_9_method_52_code
def yX7_isToCome : MethodName := ⟨RX7, "isToCome", "(I)Z"⟩
abbrev cX7_goesTo : ByteArray := prog_9_method_53_code
def yX7_goesTo : MethodName := ⟨RX7, "goesTo", "(I)V"⟩
abbrev cX7_wouldBe : ByteArray := prog_9_method_54_code
def yX7_wouldBe : MethodName := ⟨RX7, "wouldBe", "(I)I"⟩
abbrev cX7_firstFalse : ByteArray := prog_9_method_55_code
def yX7_firstFalse : MethodName := ⟨RX7, "firstFalse", "()I"⟩
abbrev cX7_leastTolerance : ByteArray := prog_9_method_56_code
def yX7_leastTolerance : MethodName := ⟨RX7, "leastTolerance", "()I"⟩
abbrev cX7_pitchAt : ByteArray := prog_9_method_57_code
def yX7_pitchAt : MethodName := ⟨RX7, "pitchAt", "(II)I"⟩
abbrev cX7_type : ByteArray := prog_9_method_58_code
def yX7_type : MethodName := ⟨RX7, "type", "(I)I"⟩
abbrev cX7_clearText : ByteArray := prog_9_method_59_code
def yX7_clearText : MethodName := ⟨RX7, "clearText", "()I"⟩
abbrev cX7_takes : ByteArray := prog_9_method_60_code
def yX7_takes : MethodName := ⟨RX7, "takes", "(I)Z"⟩
abbrev cX7_digits : ByteArray := prog_9_method_61_code
def yX7_digits : MethodName := ⟨RX7, "digits", "()I"⟩
abbrev cX7_isFormed : ByteArray := prog_9_method_62_code
def yX7_isFormed : MethodName := ⟨RX7, "isFormed", "()Z"⟩
abbrev cX7_isTaken : ByteArray := prog_9_method_63_code
def yX7_isTaken : MethodName := ⟨RX7, "isTaken", "(I)Z"⟩
abbrev cX7_reasonOfText : ByteArray := prog_9_method_64_code
def yX7_reasonOfText : MethodName := ⟨RX7, "reasonOfText", "()I"⟩
abbrev cX7_fault : ByteArray := prog_9_method_65_code
def yX7_fault : MethodName := ⟨RX7, "fault", "(I)I"⟩
abbrev cX7_enter : ByteArray := prog_9_method_66_code
def yX7_enter : MethodName := ⟨RX7, "enter", "()I"⟩
def RJ9 : String := "java/lang/Math"
def TJ9 : u_T := fun k => match k with
  | _ => ("", "", "", false)
def tyJ9 : Nat → FieldType := fun k => match k with
  | _ => .int
abbrev wsJ90 : List Cond := u_ws RJ9 TJ9 0
theorem nmJ9 : ∀ a, a < 0 → ∀ b, b < 0 → a ≠ b → (TJ9 a).2.1 ≠ (TJ9 b).2.1 := by decide +kernel
theorem tyJ9_ok : ∀ k, k < 0 → parseFieldDescriptor (TJ9 k).2.2.1 = some (tyJ9 k) := by decide +kernel
abbrev cJ9_abs_0f7a4 : ByteArray := prog_10_method_59_code
def yJ9_abs_0f7a4 : MethodName := ⟨RJ9, "abs", "(I)I"⟩
abbrev cJ9_max_7cf53 : ByteArray := prog_10_method_65_code
def yJ9_max_7cf53 : MethodName := ⟨RJ9, "max", "(II)I"⟩
abbrev cJ9_min_7cf53 : ByteArray := prog_10_method_69_code
def yJ9_min_7cf53 : MethodName := ⟨RJ9, "min", "(II)I"⟩
def RJ10 : String := "java/lang/System"
def TJ10 : u_T := fun k => match k with
  | _ => ("", "", "", false)
def tyJ10 : Nat → FieldType := fun k => match k with
  | _ => .int
abbrev wsJ100 : List Cond := u_ws RJ10 TJ10 0
theorem nmJ10 : ∀ a, a < 0 → ∀ b, b < 0 → a ≠ b → (TJ10 a).2.1 ≠ (TJ10 b).2.1 := by decide +kernel
theorem tyJ10_ok : ∀ k, k < 0 → parseFieldDescriptor (TJ10 k).2.2.1 = some (tyJ10 k) := by decide +kernel
def RL : String := "GlassBowlsLaw"
abbrev cL_law : ByteArray := code
def yL_law : MethodName := ⟨RL, "law", "([I)Z"⟩
abbrev vwCl : List vw_C := [(RX0, TX0, 10), (RX1, TX1, 3), (RX2, TX2, 6), (RX3, TX3, 1), (RX4, TX4, 4), (RX5, TX5, 8), (RX6, TX6, 4), (RX7, TX7, 11)]
def gWs : List Cond := lw_tbl.filter goodWord
theorem gWs_of {w : Cond} {i : Nat} (h : lw_tbl[i]? = some w) (hg : goodWord w = true) : w ∈ gWs := List.mem_filter.mpr ⟨List.mem_of_getElem? h, hg⟩
theorem gWs_self {ws : List Cond} (h : ∀ w ∈ ws, w ∈ gWs) : GoodIn gWs ws := fun w hw => ⟨h w hw, good_of_word (List.mem_filter.mp (h w hw)).2⟩
theorem gWs_in : ∀ w ∈ gWs, w ∈ lw_tbl := fun _ h => (List.mem_filter.mp h).1
theorem inX0 : ∀ w ∈ wsX00, w ∈ gWs := fun w h => List.mem_filter.mpr ⟨(by decide +kernel : ∀ w ∈ wsX00, w ∈ lw_tbl) w h, (by decide +kernel : ∀ w ∈ wsX00, goodWord w = true) w h⟩
theorem inX1 : ∀ w ∈ wsX10, w ∈ gWs := fun w h => List.mem_filter.mpr ⟨(by decide +kernel : ∀ w ∈ wsX10, w ∈ lw_tbl) w h, (by decide +kernel : ∀ w ∈ wsX10, goodWord w = true) w h⟩
theorem inX2 : ∀ w ∈ wsX20, w ∈ gWs := fun w h => List.mem_filter.mpr ⟨(by decide +kernel : ∀ w ∈ wsX20, w ∈ lw_tbl) w h, (by decide +kernel : ∀ w ∈ wsX20, goodWord w = true) w h⟩
theorem inX3 : ∀ w ∈ wsX30, w ∈ gWs := fun w h => List.mem_filter.mpr ⟨(by decide +kernel : ∀ w ∈ wsX30, w ∈ lw_tbl) w h, (by decide +kernel : ∀ w ∈ wsX30, goodWord w = true) w h⟩
theorem inX4 : ∀ w ∈ wsX40, w ∈ gWs := fun w h => List.mem_filter.mpr ⟨(by decide +kernel : ∀ w ∈ wsX40, w ∈ lw_tbl) w h, (by decide +kernel : ∀ w ∈ wsX40, goodWord w = true) w h⟩
theorem inX5 : ∀ w ∈ wsX50, w ∈ gWs := fun w h => List.mem_filter.mpr ⟨(by decide +kernel : ∀ w ∈ wsX50, w ∈ lw_tbl) w h, (by decide +kernel : ∀ w ∈ wsX50, goodWord w = true) w h⟩
theorem inX6 : ∀ w ∈ wsX60, w ∈ gWs := fun w h => List.mem_filter.mpr ⟨(by decide +kernel : ∀ w ∈ wsX60, w ∈ lw_tbl) w h, (by decide +kernel : ∀ w ∈ wsX60, goodWord w = true) w h⟩
theorem inX7 : ∀ w ∈ wsX70, w ∈ gWs := fun w h => List.mem_filter.mpr ⟨(by decide +kernel : ∀ w ∈ wsX70, w ∈ lw_tbl) w h, (by decide +kernel : ∀ w ∈ wsX70, goodWord w = true) w h⟩
end
section
theorem kw_in_RL : Cond.initialized RL ∈ gWs := gWs_of (i := 51) (by decide +kernel) (by decide +kernel)
theorem kw_in_RX6 : Cond.initialized RX6 ∈ gWs := gWs_of (i := 52) (by decide +kernel) (by decide +kernel)
theorem kw_in_RX4 : Cond.initialized RX4 ∈ gWs := gWs_of (i := 53) (by decide +kernel) (by decide +kernel)
theorem kw_in_RX0 : Cond.initialized RX0 ∈ gWs := gWs_of (i := 54) (by decide +kernel) (by decide +kernel)
theorem kw_in_RX3 : Cond.initialized RX3 ∈ gWs := gWs_of (i := 55) (by decide +kernel) (by decide +kernel)
theorem kw_in_RJ9 : Cond.initialized "java/lang/Math" ∈ gWs := gWs_of (i := 56) (by decide +kernel) (by decide +kernel)
theorem kw_in_RX2 : Cond.initialized RX2 ∈ gWs := gWs_of (i := 57) (by decide +kernel) (by decide +kernel)
theorem kw_in_RX1 : Cond.initialized RX1 ∈ gWs := gWs_of (i := 58) (by decide +kernel) (by decide +kernel)
theorem kw_in_RX5 : Cond.initialized RX5 ∈ gWs := gWs_of (i := 59) (by decide +kernel) (by decide +kernel)
theorem kw_in_RX7 : Cond.initialized RX7 ∈ gWs := gWs_of (i := 60) (by decide +kernel) (by decide +kernel)
theorem kw_in_RJ10 : Cond.initialized "java/lang/System" ∈ gWs := gWs_of (i := 61) (by decide +kernel) (by decide +kernel)
theorem kw_cl_RL_7 : Cond.classLink RL 7 RX6 ∈ gWs := gWs_of (i := 62) (by decide +kernel) (by decide +kernel)
theorem kw_it_RX6 : Cond.instantiable RX6 4 ∈ gWs := gWs_of (i := 63) (by decide +kernel) (by decide +kernel)
theorem kw_ml_RL_9 : Cond.methodLink RL 9 yX6_init ∈ gWs := gWs_of (i := 64) (by decide +kernel) (by decide +kernel)
theorem kw_im_X6_init : Cond.instanceMethod yX6_init ∈ gWs := gWs_of (i := 65) (by decide +kernel) (by decide +kernel)
theorem kw_co_X6_init : Cond.code yX6_init cX6_init 1 none ∈ gWs := gWs_of (i := 66) (by decide +kernel) (by decide +kernel)
theorem kw_ml_RX6_1 : Cond.methodLink RX6 1 objectInit ∈ gWs := gWs_of (i := 67) (by decide +kernel) (by decide +kernel)
theorem kw_im_obj : Cond.instanceMethod objectInit ∈ gWs := gWs_of (i := 68) (by decide +kernel) (by decide +kernel)
theorem kw_co_obj : Cond.code objectInit ⟨#[0xb1]⟩ 1 none ∈ gWs := gWs_of (i := 69) (by decide +kernel) (by decide +kernel)
theorem kw_cl_RX6_7 : Cond.classLink RX6 7 RX4 ∈ gWs := gWs_of (i := 70) (by decide +kernel) (by decide +kernel)
theorem kw_it_RX4 : Cond.instantiable RX4 4 ∈ gWs := gWs_of (i := 71) (by decide +kernel) (by decide +kernel)
theorem kw_ml_RX6_9 : Cond.methodLink RX6 9 yX4_init ∈ gWs := gWs_of (i := 72) (by decide +kernel) (by decide +kernel)
theorem kw_im_X4_init : Cond.instanceMethod yX4_init ∈ gWs := gWs_of (i := 73) (by decide +kernel) (by decide +kernel)
theorem kw_co_X4_init : Cond.code yX4_init cX4_init 1 none ∈ gWs := gWs_of (i := 74) (by decide +kernel) (by decide +kernel)
theorem kw_ml_RX4_3 : Cond.methodLink RX4 3 objectInit ∈ gWs := gWs_of (i := 75) (by decide +kernel) (by decide +kernel)
theorem kw_cl_RX4_9 : Cond.classLink RX4 9 RX0 ∈ gWs := gWs_of (i := 76) (by decide +kernel) (by decide +kernel)
theorem kw_it_RX0 : Cond.instantiable RX0 10 ∈ gWs := gWs_of (i := 77) (by decide +kernel) (by decide +kernel)
theorem kw_im_X0_init : Cond.instanceMethod yX0_init ∈ gWs := gWs_of (i := 79) (by decide +kernel) (by decide +kernel)
theorem kw_co_X0_init : Cond.code yX0_init cX0_init 1 none ∈ gWs := gWs_of (i := 80) (by decide +kernel) (by decide +kernel)
theorem kw_ml_RX0_3 : Cond.methodLink RX0 3 objectInit ∈ gWs := gWs_of (i := 81) (by decide +kernel) (by decide +kernel)
theorem kw_cl_RX0_9 : Cond.classLink RX0 9 RX3 ∈ gWs := gWs_of (i := 82) (by decide +kernel) (by decide +kernel)
theorem kw_it_RX3 : Cond.instantiable RX3 1 ∈ gWs := gWs_of (i := 83) (by decide +kernel) (by decide +kernel)
theorem kw_ml_RX0_11 : Cond.methodLink RX0 11 yX3_init ∈ gWs := gWs_of (i := 84) (by decide +kernel) (by decide +kernel)
theorem kw_im_X3_init : Cond.instanceMethod yX3_init ∈ gWs := gWs_of (i := 85) (by decide +kernel) (by decide +kernel)
theorem kw_co_X3_init : Cond.code yX3_init cX3_init 2 none ∈ gWs := gWs_of (i := 86) (by decide +kernel) (by decide +kernel)
theorem kw_ml_RX3_1 : Cond.methodLink RX3 1 objectInit ∈ gWs := gWs_of (i := 87) (by decide +kernel) (by decide +kernel)
theorem kw_ml_RX3_7 : Cond.methodLink RX3 7 Lib.Math.max.name ∈ gWs := gWs_of (i := 88) (by decide +kernel) (by decide +kernel)
theorem kw_st_max : Cond.static Lib.Math.max.name ∈ gWs := gWs_of (i := 89) (by decide +kernel) (by decide +kernel)
theorem kw_co_max : Cond.code Lib.Math.max.name Lib.Math.max.code 2 (some .int) ∈ gWs := gWs_of (i := 90) (by decide +kernel) (by decide +kernel)
theorem kw_fl_RX3_13 : Cond.fieldLink RX3 13 "GlassBowls$Row" "cells" "[I" ∈ gWs := gWs_of (i := 91) (by decide +kernel) (by decide +kernel)
theorem kw_ac_int : Cond.arrayClass .int ∈ gWs := gWs_of (i := 95) (by decide +kernel) (by decide +kernel)
theorem kw_fl_RX0_14 : Cond.fieldLink RX0 14 "GlassBowls$Bowls" "base" "LGlassBowls$Row;" ∈ gWs := gWs_of (i := 96) (by decide +kernel) (by decide +kernel)
theorem kw_fl_RX0_20 : Cond.fieldLink RX0 20 "GlassBowls$Bowls" "depth" "LGlassBowls$Row;" ∈ gWs := gWs_of (i := 97) (by decide +kernel) (by decide +kernel)
theorem kw_fl_RX0_23 : Cond.fieldLink RX0 23 "GlassBowls$Bowls" "level" "LGlassBowls$Row;" ∈ gWs := gWs_of (i := 98) (by decide +kernel) (by decide +kernel)
theorem kw_fl_RX0_26 : Cond.fieldLink RX0 26 "GlassBowls$Bowls" "mark" "LGlassBowls$Row;" ∈ gWs := gWs_of (i := 99) (by decide +kernel) (by decide +kernel)
theorem kw_fl_RX0_29 : Cond.fieldLink RX0 29 "GlassBowls$Bowls" "crack" "LGlassBowls$Row;" ∈ gWs := gWs_of (i := 100) (by decide +kernel) (by decide +kernel)
theorem kw_fl_RX0_32 : Cond.fieldLink RX0 32 "GlassBowls$Bowls" "size" "I" ∈ gWs := gWs_of (i := 101) (by decide +kernel) (by decide +kernel)
theorem kw_fl_RX0_36 : Cond.fieldLink RX0 36 "GlassBowls$Bowls" "poured" "I" ∈ gWs := gWs_of (i := 102) (by decide +kernel) (by decide +kernel)
theorem kw_fl_RX0_39 : Cond.fieldLink RX0 39 "GlassBowls$Bowls" "dried" "I" ∈ gWs := gWs_of (i := 103) (by decide +kernel) (by decide +kernel)
theorem kw_fl_RX0_42 : Cond.fieldLink RX0 42 "GlassBowls$Bowls" "lost" "I" ∈ gWs := gWs_of (i := 104) (by decide +kernel) (by decide +kernel)
theorem kw_fl_RX0_45 : Cond.fieldLink RX0 45 "GlassBowls$Bowls" "takenOut" "I" ∈ gWs := gWs_of (i := 105) (by decide +kernel) (by decide +kernel)
theorem kw_cl_RX4_18 : Cond.classLink RX4 18 RX2 ∈ gWs := gWs_of (i := 127) (by decide +kernel) (by decide +kernel)
theorem kw_it_RX2 : Cond.instantiable RX2 6 ∈ gWs := gWs_of (i := 128) (by decide +kernel) (by decide +kernel)
theorem kw_im_X2_init : Cond.instanceMethod yX2_init ∈ gWs := gWs_of (i := 130) (by decide +kernel) (by decide +kernel)
theorem kw_co_X2_init : Cond.code yX2_init cX2_init 1 none ∈ gWs := gWs_of (i := 131) (by decide +kernel) (by decide +kernel)
theorem kw_ml_RX2_3 : Cond.methodLink RX2 3 objectInit ∈ gWs := gWs_of (i := 132) (by decide +kernel) (by decide +kernel)
theorem kw_cl_RX2_9 : Cond.classLink RX2 9 RX3 ∈ gWs := gWs_of (i := 133) (by decide +kernel) (by decide +kernel)
theorem kw_ml_RX2_11 : Cond.methodLink RX2 11 yX3_init ∈ gWs := gWs_of (i := 134) (by decide +kernel) (by decide +kernel)
theorem kw_fl_RX2_14 : Cond.fieldLink RX2 14 "GlassBowls$Piece" "time" "LGlassBowls$Row;" ∈ gWs := gWs_of (i := 135) (by decide +kernel) (by decide +kernel)
theorem kw_fl_RX2_20 : Cond.fieldLink RX2 20 "GlassBowls$Piece" "pitch" "LGlassBowls$Row;" ∈ gWs := gWs_of (i := 136) (by decide +kernel) (by decide +kernel)
theorem kw_fl_RX2_23 : Cond.fieldLink RX2 23 "GlassBowls$Piece" "outcome" "LGlassBowls$Row;" ∈ gWs := gWs_of (i := 137) (by decide +kernel) (by decide +kernel)
theorem kw_fl_RX2_26 : Cond.fieldLink RX2 26 "GlassBowls$Piece" "bowl" "LGlassBowls$Row;" ∈ gWs := gWs_of (i := 138) (by decide +kernel) (by decide +kernel)
theorem kw_fl_RX2_29 : Cond.fieldLink RX2 29 "GlassBowls$Piece" "error" "LGlassBowls$Row;" ∈ gWs := gWs_of (i := 139) (by decide +kernel) (by decide +kernel)
theorem kw_fl_RX2_32 : Cond.fieldLink RX2 32 "GlassBowls$Piece" "size" "I" ∈ gWs := gWs_of (i := 140) (by decide +kernel) (by decide +kernel)
theorem kw_cl_RX4_25 : Cond.classLink RX4 25 RX3 ∈ gWs := gWs_of (i := 154) (by decide +kernel) (by decide +kernel)
theorem kw_ml_RX4_27 : Cond.methodLink RX4 27 yX3_init ∈ gWs := gWs_of (i := 155) (by decide +kernel) (by decide +kernel)
theorem kw_ml_RX4_38 : Cond.methodLink RX4 38 yX3_put ∈ gWs := gWs_of (i := 156) (by decide +kernel) (by decide +kernel)
theorem kw_im_X3_put : Cond.instanceMethod yX3_put ∈ gWs := gWs_of (i := 157) (by decide +kernel) (by decide +kernel)
theorem kw_se_X3_put : Cond.selects RX3 yX3_put yX3_put ∈ gWs := gWs_of (i := 158) (by decide +kernel) (by decide +kernel)
theorem kw_co_X3_put : Cond.code yX3_put cX3_put 3 none ∈ gWs := gWs_of (i := 159) (by decide +kernel) (by decide +kernel)
theorem kw_fl_RX4_12 : Cond.fieldLink RX4 12 "GlassBowls$Table" "bowls" "LGlassBowls$Bowls;" ∈ gWs := gWs_of (i := 160) (by decide +kernel) (by decide +kernel)
theorem kw_fl_RX4_21 : Cond.fieldLink RX4 21 "GlassBowls$Table" "piece" "LGlassBowls$Piece;" ∈ gWs := gWs_of (i := 162) (by decide +kernel) (by decide +kernel)
theorem kw_fl_RX4_30 : Cond.fieldLink RX4 30 "GlassBowls$Table" "settings" "LGlassBowls$Row;" ∈ gWs := gWs_of (i := 164) (by decide +kernel) (by decide +kernel)
theorem kw_fl_RX4_34 : Cond.fieldLink RX4 34 "GlassBowls$Table" "time" "I" ∈ gWs := gWs_of (i := 165) (by decide +kernel) (by decide +kernel)
theorem kw_cl_RX6_19 : Cond.classLink RX6 19 RX1 ∈ gWs := gWs_of (i := 175) (by decide +kernel) (by decide +kernel)
theorem kw_it_RX1 : Cond.instantiable RX1 3 ∈ gWs := gWs_of (i := 176) (by decide +kernel) (by decide +kernel)
theorem kw_ml_RX6_21 : Cond.methodLink RX6 21 yX1_init ∈ gWs := gWs_of (i := 177) (by decide +kernel) (by decide +kernel)
theorem kw_im_X1_init : Cond.instanceMethod yX1_init ∈ gWs := gWs_of (i := 178) (by decide +kernel) (by decide +kernel)
theorem kw_co_X1_init : Cond.code yX1_init cX1_init 2 none ∈ gWs := gWs_of (i := 179) (by decide +kernel) (by decide +kernel)
theorem kw_ml_RX1_3 : Cond.methodLink RX1 3 objectInit ∈ gWs := gWs_of (i := 180) (by decide +kernel) (by decide +kernel)
theorem kw_cl_RX1_9 : Cond.classLink RX1 9 RX4 ∈ gWs := gWs_of (i := 181) (by decide +kernel) (by decide +kernel)
theorem kw_ml_RX1_24 : Cond.methodLink RX1 24 yX4_init ∈ gWs := gWs_of (i := 183) (by decide +kernel) (by decide +kernel)
theorem kw_fl_RX1_11 : Cond.fieldLink RX1 11 "GlassBowls$History" "states" "[LGlassBowls$Table;" ∈ gWs := gWs_of (i := 184) (by decide +kernel) (by decide +kernel)
theorem kw_fl_RX1_17 : Cond.fieldLink RX1 17 "GlassBowls$History" "next" "I" ∈ gWs := gWs_of (i := 185) (by decide +kernel) (by decide +kernel)
theorem kw_fl_RX1_21 : Cond.fieldLink RX1 21 "GlassBowls$History" "size" "I" ∈ gWs := gWs_of (i := 186) (by decide +kernel) (by decide +kernel)
theorem kw_cl_RX6_26 : Cond.classLink RX6 26 RX5 ∈ gWs := gWs_of (i := 194) (by decide +kernel) (by decide +kernel)
theorem kw_it_RX5 : Cond.instantiable RX5 8 ∈ gWs := gWs_of (i := 195) (by decide +kernel) (by decide +kernel)
theorem kw_im_X5_init : Cond.instanceMethod yX5_init ∈ gWs := gWs_of (i := 197) (by decide +kernel) (by decide +kernel)
theorem kw_co_X5_init : Cond.code yX5_init cX5_init 1 none ∈ gWs := gWs_of (i := 198) (by decide +kernel) (by decide +kernel)
theorem kw_ml_RX5_3 : Cond.methodLink RX5 3 objectInit ∈ gWs := gWs_of (i := 199) (by decide +kernel) (by decide +kernel)
theorem kw_cl_RX5_9 : Cond.classLink RX5 9 RX3 ∈ gWs := gWs_of (i := 200) (by decide +kernel) (by decide +kernel)
theorem kw_ml_RX5_11 : Cond.methodLink RX5 11 yX3_init ∈ gWs := gWs_of (i := 201) (by decide +kernel) (by decide +kernel)
theorem kw_fl_RX5_14 : Cond.fieldLink RX5 14 "GlassBowls$Text" "characters" "LGlassBowls$Row;" ∈ gWs := gWs_of (i := 202) (by decide +kernel) (by decide +kernel)
theorem kw_fl_RX5_20 : Cond.fieldLink RX5 20 "GlassBowls$Text" "length" "I" ∈ gWs := gWs_of (i := 203) (by decide +kernel) (by decide +kernel)
theorem kw_fl_RX5_24 : Cond.fieldLink RX5 24 "GlassBowls$Text" "place" "I" ∈ gWs := gWs_of (i := 204) (by decide +kernel) (by decide +kernel)
theorem kw_fl_RX5_27 : Cond.fieldLink RX5 27 "GlassBowls$Text" "time" "I" ∈ gWs := gWs_of (i := 205) (by decide +kernel) (by decide +kernel)
theorem kw_fl_RX5_30 : Cond.fieldLink RX5 30 "GlassBowls$Text" "pitch" "I" ∈ gWs := gWs_of (i := 206) (by decide +kernel) (by decide +kernel)
theorem kw_fl_RX5_33 : Cond.fieldLink RX5 33 "GlassBowls$Text" "notesRead" "I" ∈ gWs := gWs_of (i := 207) (by decide +kernel) (by decide +kernel)
theorem kw_fl_RX5_36 : Cond.fieldLink RX5 36 "GlassBowls$Text" "faultPlace" "I" ∈ gWs := gWs_of (i := 208) (by decide +kernel) (by decide +kernel)
theorem kw_fl_RX5_39 : Cond.fieldLink RX5 39 "GlassBowls$Text" "faultReason" "I" ∈ gWs := gWs_of (i := 209) (by decide +kernel) (by decide +kernel)
theorem kw_fl_RX6_10 : Cond.fieldLink RX6 10 "GlassBowls" "table" "LGlassBowls$Table;" ∈ gWs := gWs_of (i := 227) (by decide +kernel) (by decide +kernel)
theorem kw_fl_RX6_16 : Cond.fieldLink RX6 16 "GlassBowls" "trial" "LGlassBowls$Table;" ∈ gWs := gWs_of (i := 228) (by decide +kernel) (by decide +kernel)
theorem kw_fl_RX6_22 : Cond.fieldLink RX6 22 "GlassBowls" "history" "LGlassBowls$History;" ∈ gWs := gWs_of (i := 229) (by decide +kernel) (by decide +kernel)
theorem kw_fl_RX6_29 : Cond.fieldLink RX6 29 "GlassBowls" "text" "LGlassBowls$Text;" ∈ gWs := gWs_of (i := 230) (by decide +kernel) (by decide +kernel)
theorem kw_ml_RL_13 : Cond.methodLink RL 13 yX6_bowl ∈ gWs := gWs_of (i := 240) (by decide +kernel) (by decide +kernel)
theorem kw_im_X6_bowl : Cond.instanceMethod yX6_bowl ∈ gWs := gWs_of (i := 241) (by decide +kernel) (by decide +kernel)
theorem kw_se_X6_bowl : Cond.selects RX6 yX6_bowl yX6_bowl ∈ gWs := gWs_of (i := 242) (by decide +kernel) (by decide +kernel)
theorem kw_co_X6_bowl : Cond.code yX6_bowl cX6_bowl 3 (some .int) ∈ gWs := gWs_of (i := 243) (by decide +kernel) (by decide +kernel)
theorem kw_ml_RX6_33 : Cond.methodLink RX6 33 yX6_isWithin ∈ gWs := gWs_of (i := 244) (by decide +kernel) (by decide +kernel)
theorem kw_st_X6_isWithin : Cond.static yX6_isWithin ∈ gWs := gWs_of (i := 245) (by decide +kernel) (by decide +kernel)
theorem kw_co_X6_isWithin : Cond.code yX6_isWithin cX6_isWithin 3 (some .boolean) ∈ gWs := gWs_of (i := 246) (by decide +kernel) (by decide +kernel)
theorem kw_k_RX6_37 : Cond.constant RX6 37 (-100001) ∈ gWs := gWs_of (i := 247) (by decide +kernel) (by decide +kernel)
theorem kw_ml_RX6_42 : Cond.methodLink RX6 42 yX0_size ∈ gWs := gWs_of (i := 248) (by decide +kernel) (by decide +kernel)
theorem kw_im_X0_size : Cond.instanceMethod yX0_size ∈ gWs := gWs_of (i := 249) (by decide +kernel) (by decide +kernel)
theorem kw_se_X0_size : Cond.selects RX0 yX0_size yX0_size ∈ gWs := gWs_of (i := 250) (by decide +kernel) (by decide +kernel)
theorem kw_co_X0_size : Cond.code yX0_size cX0_size 1 (some .int) ∈ gWs := gWs_of (i := 251) (by decide +kernel) (by decide +kernel)
theorem kw_k_RX6_48 : Cond.constant RX6 48 (-100003) ∈ gWs := gWs_of (i := 252) (by decide +kernel) (by decide +kernel)
theorem kw_ml_RX6_49 : Cond.methodLink RX6 49 yX1_record ∈ gWs := gWs_of (i := 253) (by decide +kernel) (by decide +kernel)
theorem kw_im_X1_record : Cond.instanceMethod yX1_record ∈ gWs := gWs_of (i := 254) (by decide +kernel) (by decide +kernel)
theorem kw_se_X1_record : Cond.selects RX1 yX1_record yX1_record ∈ gWs := gWs_of (i := 255) (by decide +kernel) (by decide +kernel)
theorem kw_co_X1_record : Cond.code yX1_record cX1_record 3 none ∈ gWs := gWs_of (i := 256) (by decide +kernel) (by decide +kernel)
theorem kw_ml_RX1_25 : Cond.methodLink RX1 25 yX1_stateAt ∈ gWs := gWs_of (i := 257) (by decide +kernel) (by decide +kernel)
theorem kw_im_X1_stateAt : Cond.instanceMethod yX1_stateAt ∈ gWs := gWs_of (i := 259) (by decide +kernel) (by decide +kernel)
theorem kw_co_X1_stateAt : Cond.code yX1_stateAt cX1_stateAt 2 (some (.object "GlassBowls$Table")) ∈ gWs := gWs_of (i := 260) (by decide +kernel) (by decide +kernel)
theorem kw_ml_RX1_29 : Cond.methodLink RX1 29 yX4_copyFrom ∈ gWs := gWs_of (i := 261) (by decide +kernel) (by decide +kernel)
theorem kw_im_X4_copyFrom : Cond.instanceMethod yX4_copyFrom ∈ gWs := gWs_of (i := 262) (by decide +kernel) (by decide +kernel)
theorem kw_se_X4_copyFrom : Cond.selects RX4 yX4_copyFrom yX4_copyFrom ∈ gWs := gWs_of (i := 263) (by decide +kernel) (by decide +kernel)
theorem kw_co_X4_copyFrom : Cond.code yX4_copyFrom cX4_copyFrom 2 none ∈ gWs := gWs_of (i := 264) (by decide +kernel) (by decide +kernel)
theorem kw_ml_RX4_91 : Cond.methodLink RX4 91 yX0_copyFrom ∈ gWs := gWs_of (i := 265) (by decide +kernel) (by decide +kernel)
theorem kw_im_X0_copyFrom : Cond.instanceMethod yX0_copyFrom ∈ gWs := gWs_of (i := 266) (by decide +kernel) (by decide +kernel)
theorem kw_se_X0_copyFrom : Cond.selects RX0 yX0_copyFrom yX0_copyFrom ∈ gWs := gWs_of (i := 267) (by decide +kernel) (by decide +kernel)
theorem kw_co_X0_copyFrom : Cond.code yX0_copyFrom cX0_copyFrom 2 none ∈ gWs := gWs_of (i := 268) (by decide +kernel) (by decide +kernel)
theorem kw_ml_RX0_87 : Cond.methodLink RX0 87 yX3_copyFrom ∈ gWs := gWs_of (i := 269) (by decide +kernel) (by decide +kernel)
theorem kw_im_X3_copyFrom : Cond.instanceMethod yX3_copyFrom ∈ gWs := gWs_of (i := 270) (by decide +kernel) (by decide +kernel)
theorem kw_se_X3_copyFrom : Cond.selects RX3 yX3_copyFrom yX3_copyFrom ∈ gWs := gWs_of (i := 271) (by decide +kernel) (by decide +kernel)
theorem kw_co_X3_copyFrom : Cond.code yX3_copyFrom cX3_copyFrom 2 none ∈ gWs := gWs_of (i := 272) (by decide +kernel) (by decide +kernel)
theorem kw_ml_RX3_27 : Cond.methodLink RX3 27 Lib.Math.min.name ∈ gWs := gWs_of (i := 273) (by decide +kernel) (by decide +kernel)
theorem kw_st_min : Cond.static Lib.Math.min.name ∈ gWs := gWs_of (i := 274) (by decide +kernel) (by decide +kernel)
theorem kw_co_min : Cond.code Lib.Math.min.name Lib.Math.min.code 2 (some .int) ∈ gWs := gWs_of (i := 275) (by decide +kernel) (by decide +kernel)
theorem kw_ml_RX3_30 : Cond.methodLink RX3 30 arraycopyName ∈ gWs := gWs_of (i := 276) (by decide +kernel) (by decide +kernel)
theorem kw_st_copy : Cond.static arraycopyName ∈ gWs := gWs_of (i := 277) (by decide +kernel) (by decide +kernel)
theorem kw_na_copy : Cond.native arraycopyName ∈ gWs := gWs_of (i := 278) (by decide +kernel) (by decide +kernel)
theorem kw_ml_RX4_95 : Cond.methodLink RX4 95 yX2_copyFrom ∈ gWs := gWs_of (i := 279) (by decide +kernel) (by decide +kernel)
theorem kw_im_X2_copyFrom : Cond.instanceMethod yX2_copyFrom ∈ gWs := gWs_of (i := 280) (by decide +kernel) (by decide +kernel)
theorem kw_se_X2_copyFrom : Cond.selects RX2 yX2_copyFrom yX2_copyFrom ∈ gWs := gWs_of (i := 281) (by decide +kernel) (by decide +kernel)
theorem kw_co_X2_copyFrom : Cond.code yX2_copyFrom cX2_copyFrom 2 none ∈ gWs := gWs_of (i := 282) (by decide +kernel) (by decide +kernel)
theorem kw_ml_RX2_96 : Cond.methodLink RX2 96 yX3_copyFrom ∈ gWs := gWs_of (i := 283) (by decide +kernel) (by decide +kernel)
theorem kw_ml_RX4_98 : Cond.methodLink RX4 98 yX3_copyFrom ∈ gWs := gWs_of (i := 284) (by decide +kernel) (by decide +kernel)
theorem kw_ml_RX1_33 : Cond.methodLink RX1 33 Lib.Math.min.name ∈ gWs := gWs_of (i := 285) (by decide +kernel) (by decide +kernel)
theorem kw_ml_RX6_53 : Cond.methodLink RX6 53 yX0_append ∈ gWs := gWs_of (i := 286) (by decide +kernel) (by decide +kernel)
theorem kw_im_X0_append : Cond.instanceMethod yX0_append ∈ gWs := gWs_of (i := 287) (by decide +kernel) (by decide +kernel)
theorem kw_se_X0_append : Cond.selects RX0 yX0_append yX0_append ∈ gWs := gWs_of (i := 288) (by decide +kernel) (by decide +kernel)
theorem kw_co_X0_append : Cond.code yX0_append cX0_append 3 none ∈ gWs := gWs_of (i := 289) (by decide +kernel) (by decide +kernel)
theorem kw_ml_RX0_52 : Cond.methodLink RX0 52 yX3_put ∈ gWs := gWs_of (i := 290) (by decide +kernel) (by decide +kernel)
theorem kw_ml_RL_18 : Cond.methodLink RL 18 yX6_remove ∈ gWs := gWs_of (i := 291) (by decide +kernel) (by decide +kernel)
theorem kw_im_X6_remove : Cond.instanceMethod yX6_remove ∈ gWs := gWs_of (i := 292) (by decide +kernel) (by decide +kernel)
theorem kw_se_X6_remove : Cond.selects RX6 yX6_remove yX6_remove ∈ gWs := gWs_of (i := 293) (by decide +kernel) (by decide +kernel)
theorem kw_co_X6_remove : Cond.code yX6_remove cX6_remove 2 (some .int) ∈ gWs := gWs_of (i := 294) (by decide +kernel) (by decide +kernel)
theorem kw_ml_RX6_57 : Cond.methodLink RX6 57 yX0_has ∈ gWs := gWs_of (i := 295) (by decide +kernel) (by decide +kernel)
theorem kw_im_X0_has : Cond.instanceMethod yX0_has ∈ gWs := gWs_of (i := 296) (by decide +kernel) (by decide +kernel)
theorem kw_se_X0_has : Cond.selects RX0 yX0_has yX0_has ∈ gWs := gWs_of (i := 297) (by decide +kernel) (by decide +kernel)
theorem kw_co_X0_has : Cond.code yX0_has cX0_has 2 (some .boolean) ∈ gWs := gWs_of (i := 298) (by decide +kernel) (by decide +kernel)
theorem kw_ml_RX6_61 : Cond.methodLink RX6 61 yX0_takeAway ∈ gWs := gWs_of (i := 299) (by decide +kernel) (by decide +kernel)
theorem kw_im_X0_takeAway : Cond.instanceMethod yX0_takeAway ∈ gWs := gWs_of (i := 300) (by decide +kernel) (by decide +kernel)
theorem kw_se_X0_takeAway : Cond.selects RX0 yX0_takeAway yX0_takeAway ∈ gWs := gWs_of (i := 301) (by decide +kernel) (by decide +kernel)
theorem kw_co_X0_takeAway : Cond.code yX0_takeAway cX0_takeAway 2 none ∈ gWs := gWs_of (i := 302) (by decide +kernel) (by decide +kernel)
theorem kw_ml_RX0_48 : Cond.methodLink RX0 48 yX3_get ∈ gWs := gWs_of (i := 303) (by decide +kernel) (by decide +kernel)
theorem kw_im_X3_get : Cond.instanceMethod yX3_get ∈ gWs := gWs_of (i := 304) (by decide +kernel) (by decide +kernel)
theorem kw_se_X3_get : Cond.selects RX3 yX3_get yX3_get ∈ gWs := gWs_of (i := 305) (by decide +kernel) (by decide +kernel)
theorem kw_co_X3_get : Cond.code yX3_get cX3_get 2 (some .int) ∈ gWs := gWs_of (i := 306) (by decide +kernel) (by decide +kernel)
theorem kw_ml_RX0_56 : Cond.methodLink RX0 56 yX3_delete ∈ gWs := gWs_of (i := 307) (by decide +kernel) (by decide +kernel)
theorem kw_im_X3_delete : Cond.instanceMethod yX3_delete ∈ gWs := gWs_of (i := 308) (by decide +kernel) (by decide +kernel)
theorem kw_se_X3_delete : Cond.selects RX3 yX3_delete yX3_delete ∈ gWs := gWs_of (i := 309) (by decide +kernel) (by decide +kernel)
theorem kw_co_X3_delete : Cond.code yX3_delete cX3_delete 4 none ∈ gWs := gWs_of (i := 310) (by decide +kernel) (by decide +kernel)
theorem kw_ml_RX3_19 : Cond.methodLink RX3 19 yX3_get ∈ gWs := gWs_of (i := 311) (by decide +kernel) (by decide +kernel)
theorem kw_ml_RX3_23 : Cond.methodLink RX3 23 yX3_put ∈ gWs := gWs_of (i := 312) (by decide +kernel) (by decide +kernel)
theorem kw_ml_RL_23 : Cond.methodLink RL 23 yX6_pour ∈ gWs := gWs_of (i := 313) (by decide +kernel) (by decide +kernel)
theorem kw_im_X6_pour : Cond.instanceMethod yX6_pour ∈ gWs := gWs_of (i := 314) (by decide +kernel) (by decide +kernel)
theorem kw_se_X6_pour : Cond.selects RX6 yX6_pour yX6_pour ∈ gWs := gWs_of (i := 315) (by decide +kernel) (by decide +kernel)
theorem kw_co_X6_pour : Cond.code yX6_pour cX6_pour 3 (some .int) ∈ gWs := gWs_of (i := 316) (by decide +kernel) (by decide +kernel)
theorem kw_ml_RX6_65 : Cond.methodLink RX6 65 yX0_levelIn ∈ gWs := gWs_of (i := 317) (by decide +kernel) (by decide +kernel)
theorem kw_im_X0_levelIn : Cond.instanceMethod yX0_levelIn ∈ gWs := gWs_of (i := 318) (by decide +kernel) (by decide +kernel)
theorem kw_se_X0_levelIn : Cond.selects RX0 yX0_levelIn yX0_levelIn ∈ gWs := gWs_of (i := 319) (by decide +kernel) (by decide +kernel)
theorem kw_co_X0_levelIn : Cond.code yX0_levelIn cX0_levelIn 2 (some .int) ∈ gWs := gWs_of (i := 320) (by decide +kernel) (by decide +kernel)
theorem kw_ml_RX6_69 : Cond.methodLink RX6 69 yX0_addWater ∈ gWs := gWs_of (i := 321) (by decide +kernel) (by decide +kernel)
theorem kw_im_X0_addWater : Cond.instanceMethod yX0_addWater ∈ gWs := gWs_of (i := 322) (by decide +kernel) (by decide +kernel)
theorem kw_se_X0_addWater : Cond.selects RX0 yX0_addWater yX0_addWater ∈ gWs := gWs_of (i := 323) (by decide +kernel) (by decide +kernel)
theorem kw_co_X0_addWater : Cond.code yX0_addWater cX0_addWater 3 none ∈ gWs := gWs_of (i := 324) (by decide +kernel) (by decide +kernel)
theorem kw_ml_RX0_59 : Cond.methodLink RX0 59 yX0_hold ∈ gWs := gWs_of (i := 325) (by decide +kernel) (by decide +kernel)
theorem kw_im_X0_hold : Cond.instanceMethod yX0_hold ∈ gWs := gWs_of (i := 327) (by decide +kernel) (by decide +kernel)
theorem kw_co_X0_hold : Cond.code yX0_hold cX0_hold 4 none ∈ gWs := gWs_of (i := 328) (by decide +kernel) (by decide +kernel)
theorem kw_ml_RX0_65 : Cond.methodLink RX0 65 Lib.Math.min.name ∈ gWs := gWs_of (i := 329) (by decide +kernel) (by decide +kernel)
theorem kw_ml_RL_27 : Cond.methodLink RL 27 yX6_spill ∈ gWs := gWs_of (i := 330) (by decide +kernel) (by decide +kernel)
theorem kw_im_X6_spill : Cond.instanceMethod yX6_spill ∈ gWs := gWs_of (i := 331) (by decide +kernel) (by decide +kernel)
theorem kw_se_X6_spill : Cond.selects RX6 yX6_spill yX6_spill ∈ gWs := gWs_of (i := 332) (by decide +kernel) (by decide +kernel)
theorem kw_co_X6_spill : Cond.code yX6_spill cX6_spill 3 (some .int) ∈ gWs := gWs_of (i := 333) (by decide +kernel) (by decide +kernel)
theorem kw_k_RX6_72 : Cond.constant RX6 72 (-100002) ∈ gWs := gWs_of (i := 334) (by decide +kernel) (by decide +kernel)
theorem kw_ml_RX6_73 : Cond.methodLink RX6 73 yX0_takeWater ∈ gWs := gWs_of (i := 335) (by decide +kernel) (by decide +kernel)
theorem kw_im_X0_takeWater : Cond.instanceMethod yX0_takeWater ∈ gWs := gWs_of (i := 336) (by decide +kernel) (by decide +kernel)
theorem kw_se_X0_takeWater : Cond.selects RX0 yX0_takeWater yX0_takeWater ∈ gWs := gWs_of (i := 337) (by decide +kernel) (by decide +kernel)
theorem kw_co_X0_takeWater : Cond.code yX0_takeWater cX0_takeWater 3 none ∈ gWs := gWs_of (i := 338) (by decide +kernel) (by decide +kernel)
theorem kw_ml_RX0_62 : Cond.methodLink RX0 62 yX3_add ∈ gWs := gWs_of (i := 339) (by decide +kernel) (by decide +kernel)
theorem kw_im_X3_add : Cond.instanceMethod yX3_add ∈ gWs := gWs_of (i := 340) (by decide +kernel) (by decide +kernel)
theorem kw_se_X3_add : Cond.selects RX3 yX3_add yX3_add ∈ gWs := gWs_of (i := 341) (by decide +kernel) (by decide +kernel)
theorem kw_co_X3_add : Cond.code yX3_add cX3_add 3 none ∈ gWs := gWs_of (i := 342) (by decide +kernel) (by decide +kernel)
theorem kw_ml_RL_31 : Cond.methodLink RL 31 yX6_crack ∈ gWs := gWs_of (i := 343) (by decide +kernel) (by decide +kernel)
theorem kw_im_X6_crack : Cond.instanceMethod yX6_crack ∈ gWs := gWs_of (i := 344) (by decide +kernel) (by decide +kernel)
theorem kw_se_X6_crack : Cond.selects RX6 yX6_crack yX6_crack ∈ gWs := gWs_of (i := 345) (by decide +kernel) (by decide +kernel)
theorem kw_co_X6_crack : Cond.code yX6_crack cX6_crack 4 (some .int) ∈ gWs := gWs_of (i := 346) (by decide +kernel) (by decide +kernel)
theorem kw_ml_RX6_76 : Cond.methodLink RX6 76 yX0_moveCrack ∈ gWs := gWs_of (i := 347) (by decide +kernel) (by decide +kernel)
theorem kw_im_X0_moveCrack : Cond.instanceMethod yX0_moveCrack ∈ gWs := gWs_of (i := 348) (by decide +kernel) (by decide +kernel)
theorem kw_se_X0_moveCrack : Cond.selects RX0 yX0_moveCrack yX0_moveCrack ∈ gWs := gWs_of (i := 349) (by decide +kernel) (by decide +kernel)
theorem kw_co_X0_moveCrack : Cond.code yX0_moveCrack cX0_moveCrack 3 none ∈ gWs := gWs_of (i := 350) (by decide +kernel) (by decide +kernel)
theorem kw_ml_RL_35 : Cond.methodLink RL 35 yX6_mark ∈ gWs := gWs_of (i := 351) (by decide +kernel) (by decide +kernel)
theorem kw_im_X6_mark : Cond.instanceMethod yX6_mark ∈ gWs := gWs_of (i := 352) (by decide +kernel) (by decide +kernel)
theorem kw_se_X6_mark : Cond.selects RX6 yX6_mark yX6_mark ∈ gWs := gWs_of (i := 353) (by decide +kernel) (by decide +kernel)
theorem kw_co_X6_mark : Cond.code yX6_mark cX6_mark 3 (some .int) ∈ gWs := gWs_of (i := 354) (by decide +kernel) (by decide +kernel)
theorem kw_ml_RX6_79 : Cond.methodLink RX6 79 yX0_moveMark ∈ gWs := gWs_of (i := 355) (by decide +kernel) (by decide +kernel)
theorem kw_im_X0_moveMark : Cond.instanceMethod yX0_moveMark ∈ gWs := gWs_of (i := 356) (by decide +kernel) (by decide +kernel)
theorem kw_se_X0_moveMark : Cond.selects RX0 yX0_moveMark yX0_moveMark ∈ gWs := gWs_of (i := 357) (by decide +kernel) (by decide +kernel)
theorem kw_co_X0_moveMark : Cond.code yX0_moveMark cX0_moveMark 4 (some .int) ∈ gWs := gWs_of (i := 358) (by decide +kernel) (by decide +kernel)
theorem kw_ml_RL_39 : Cond.methodLink RL 39 yX6_bowlOf ∈ gWs := gWs_of (i := 359) (by decide +kernel) (by decide +kernel)
theorem kw_im_X6_bowlOf : Cond.instanceMethod yX6_bowlOf ∈ gWs := gWs_of (i := 360) (by decide +kernel) (by decide +kernel)
theorem kw_se_X6_bowlOf : Cond.selects RX6 yX6_bowlOf yX6_bowlOf ∈ gWs := gWs_of (i := 361) (by decide +kernel) (by decide +kernel)
theorem kw_co_X6_bowlOf : Cond.code yX6_bowlOf cX6_bowlOf 3 (some .int) ∈ gWs := gWs_of (i := 362) (by decide +kernel) (by decide +kernel)
theorem kw_ml_RX6_83 : Cond.methodLink RX6 83 yX0_property ∈ gWs := gWs_of (i := 363) (by decide +kernel) (by decide +kernel)
theorem kw_im_X0_property : Cond.instanceMethod yX0_property ∈ gWs := gWs_of (i := 364) (by decide +kernel) (by decide +kernel)
theorem kw_se_X0_property : Cond.selects RX0 yX0_property yX0_property ∈ gWs := gWs_of (i := 365) (by decide +kernel) (by decide +kernel)
theorem kw_co_X0_property : Cond.code yX0_property cX0_property 3 (some .int) ∈ gWs := gWs_of (i := 366) (by decide +kernel) (by decide +kernel)
theorem kw_ml_RX0_71 : Cond.methodLink RX0 71 yX0_pitchOf ∈ gWs := gWs_of (i := 367) (by decide +kernel) (by decide +kernel)
theorem kw_im_X0_pitchOf : Cond.instanceMethod yX0_pitchOf ∈ gWs := gWs_of (i := 368) (by decide +kernel) (by decide +kernel)
theorem kw_se_X0_pitchOf : Cond.selects RX0 yX0_pitchOf yX0_pitchOf ∈ gWs := gWs_of (i := 369) (by decide +kernel) (by decide +kernel)
theorem kw_co_X0_pitchOf : Cond.code yX0_pitchOf cX0_pitchOf 2 (some .int) ∈ gWs := gWs_of (i := 370) (by decide +kernel) (by decide +kernel)
theorem kw_ml_RX0_74 : Cond.methodLink RX0 74 yX0_pitchWith ∈ gWs := gWs_of (i := 371) (by decide +kernel) (by decide +kernel)
theorem kw_im_X0_pitchWith : Cond.instanceMethod yX0_pitchWith ∈ gWs := gWs_of (i := 373) (by decide +kernel) (by decide +kernel)
theorem kw_co_X0_pitchWith : Cond.code yX0_pitchWith cX0_pitchWith 5 (some .int) ∈ gWs := gWs_of (i := 374) (by decide +kernel) (by decide +kernel)
theorem kw_kl_RX0_78 : Cond.constantLong RX0 78 (1000000) ∈ gWs := gWs_of (i := 375) (by decide +kernel) (by decide +kernel)
theorem kw_k_RX0_77 : Cond.constant RX0 77 (-100001) ∈ gWs := gWs_of (i := 376) (by decide +kernel) (by decide +kernel)
theorem kw_ml_RL_43 : Cond.methodLink RL 43 yX6_levelFor ∈ gWs := gWs_of (i := 377) (by decide +kernel) (by decide +kernel)
theorem kw_im_X6_levelFor : Cond.instanceMethod yX6_levelFor ∈ gWs := gWs_of (i := 378) (by decide +kernel) (by decide +kernel)
theorem kw_se_X6_levelFor : Cond.selects RX6 yX6_levelFor yX6_levelFor ∈ gWs := gWs_of (i := 379) (by decide +kernel) (by decide +kernel)
theorem kw_co_X6_levelFor : Cond.code yX6_levelFor cX6_levelFor 3 (some .int) ∈ gWs := gWs_of (i := 380) (by decide +kernel) (by decide +kernel)
theorem kw_ml_RX6_86 : Cond.methodLink RX6 86 yX0_nearestLevel ∈ gWs := gWs_of (i := 381) (by decide +kernel) (by decide +kernel)
theorem kw_im_X0_nearestLevel : Cond.instanceMethod yX0_nearestLevel ∈ gWs := gWs_of (i := 382) (by decide +kernel) (by decide +kernel)
theorem kw_se_X0_nearestLevel : Cond.selects RX0 yX0_nearestLevel yX0_nearestLevel ∈ gWs := gWs_of (i := 383) (by decide +kernel) (by decide +kernel)
theorem kw_co_X0_nearestLevel : Cond.code yX0_nearestLevel cX0_nearestLevel 8 (some .int) ∈ gWs := gWs_of (i := 384) (by decide +kernel) (by decide +kernel)
theorem kw_ml_RX0_80 : Cond.methodLink RX0 80 Lib.Math.abs.name ∈ gWs := gWs_of (i := 385) (by decide +kernel) (by decide +kernel)
theorem kw_st_abs : Cond.static Lib.Math.abs.name ∈ gWs := gWs_of (i := 386) (by decide +kernel) (by decide +kernel)
theorem kw_co_abs : Cond.code Lib.Math.abs.name Lib.Math.abs.code 1 (some .int) ∈ gWs := gWs_of (i := 387) (by decide +kernel) (by decide +kernel)
theorem kw_ml_RL_47 : Cond.methodLink RL 47 yX6_nearest ∈ gWs := gWs_of (i := 388) (by decide +kernel) (by decide +kernel)
theorem kw_im_X6_nearest : Cond.instanceMethod yX6_nearest ∈ gWs := gWs_of (i := 389) (by decide +kernel) (by decide +kernel)
theorem kw_se_X6_nearest : Cond.selects RX6 yX6_nearest yX6_nearest ∈ gWs := gWs_of (i := 390) (by decide +kernel) (by decide +kernel)
theorem kw_co_X6_nearest : Cond.code yX6_nearest cX6_nearest 2 (some .int) ∈ gWs := gWs_of (i := 391) (by decide +kernel) (by decide +kernel)
theorem kw_ml_RX6_89 : Cond.methodLink RX6 89 yX0_nearestBowl ∈ gWs := gWs_of (i := 392) (by decide +kernel) (by decide +kernel)
theorem kw_im_X0_nearestBowl : Cond.instanceMethod yX0_nearestBowl ∈ gWs := gWs_of (i := 393) (by decide +kernel) (by decide +kernel)
theorem kw_se_X0_nearestBowl : Cond.selects RX0 yX0_nearestBowl yX0_nearestBowl ∈ gWs := gWs_of (i := 394) (by decide +kernel) (by decide +kernel)
theorem kw_co_X0_nearestBowl : Cond.code yX0_nearestBowl cX0_nearestBowl 6 (some .int) ∈ gWs := gWs_of (i := 395) (by decide +kernel) (by decide +kernel)
theorem kw_ml_RX6_92 : Cond.methodLink RX6 92 yX6_orNotFound ∈ gWs := gWs_of (i := 396) (by decide +kernel) (by decide +kernel)
theorem kw_st_X6_orNotFound : Cond.static yX6_orNotFound ∈ gWs := gWs_of (i := 397) (by decide +kernel) (by decide +kernel)
theorem kw_co_X6_orNotFound : Cond.code yX6_orNotFound cX6_orNotFound 1 (some .int) ∈ gWs := gWs_of (i := 398) (by decide +kernel) (by decide +kernel)
theorem kw_k_RX6_168 : Cond.constant RX6 168 (-100004) ∈ gWs := gWs_of (i := 399) (by decide +kernel) (by decide +kernel)
theorem kw_ml_RL_51 : Cond.methodLink RL 51 yX6_set ∈ gWs := gWs_of (i := 400) (by decide +kernel) (by decide +kernel)
theorem kw_im_X6_set : Cond.instanceMethod yX6_set ∈ gWs := gWs_of (i := 401) (by decide +kernel) (by decide +kernel)
theorem kw_se_X6_set : Cond.selects RX6 yX6_set yX6_set ∈ gWs := gWs_of (i := 402) (by decide +kernel) (by decide +kernel)
theorem kw_co_X6_set : Cond.code yX6_set cX6_set 3 (some .int) ∈ gWs := gWs_of (i := 403) (by decide +kernel) (by decide +kernel)
theorem kw_ml_RX6_95 : Cond.methodLink RX6 95 yX6_isSetting ∈ gWs := gWs_of (i := 404) (by decide +kernel) (by decide +kernel)
theorem kw_st_X6_isSetting : Cond.static yX6_isSetting ∈ gWs := gWs_of (i := 405) (by decide +kernel) (by decide +kernel)
theorem kw_co_X6_isSetting : Cond.code yX6_isSetting cX6_isSetting 2 (some .boolean) ∈ gWs := gWs_of (i := 406) (by decide +kernel) (by decide +kernel)
theorem kw_ml_RX6_99 : Cond.methodLink RX6 99 yX4_changeSetting ∈ gWs := gWs_of (i := 407) (by decide +kernel) (by decide +kernel)
theorem kw_im_X4_changeSetting : Cond.instanceMethod yX4_changeSetting ∈ gWs := gWs_of (i := 408) (by decide +kernel) (by decide +kernel)
theorem kw_se_X4_changeSetting : Cond.selects RX4 yX4_changeSetting yX4_changeSetting ∈ gWs := gWs_of (i := 409) (by decide +kernel) (by decide +kernel)
theorem kw_co_X4_changeSetting : Cond.code yX4_changeSetting cX4_changeSetting 4 (some .int) ∈ gWs := gWs_of (i := 410) (by decide +kernel) (by decide +kernel)
theorem kw_ml_RX4_42 : Cond.methodLink RX4 42 yX3_get ∈ gWs := gWs_of (i := 411) (by decide +kernel) (by decide +kernel)
theorem kw_ml_RL_55 : Cond.methodLink RL 55 yX6_count ∈ gWs := gWs_of (i := 412) (by decide +kernel) (by decide +kernel)
theorem kw_im_X6_count : Cond.instanceMethod yX6_count ∈ gWs := gWs_of (i := 413) (by decide +kernel) (by decide +kernel)
theorem kw_se_X6_count : Cond.selects RX6 yX6_count yX6_count ∈ gWs := gWs_of (i := 414) (by decide +kernel) (by decide +kernel)
theorem kw_co_X6_count : Cond.code yX6_count cX6_count 2 (some .int) ∈ gWs := gWs_of (i := 415) (by decide +kernel) (by decide +kernel)
theorem kw_ml_RX6_102 : Cond.methodLink RX6 102 yX4_setting ∈ gWs := gWs_of (i := 416) (by decide +kernel) (by decide +kernel)
theorem kw_im_X4_setting : Cond.instanceMethod yX4_setting ∈ gWs := gWs_of (i := 417) (by decide +kernel) (by decide +kernel)
theorem kw_se_X4_setting : Cond.selects RX4 yX4_setting yX4_setting ∈ gWs := gWs_of (i := 418) (by decide +kernel) (by decide +kernel)
theorem kw_co_X4_setting : Cond.code yX4_setting cX4_setting 2 (some .int) ∈ gWs := gWs_of (i := 419) (by decide +kernel) (by decide +kernel)
theorem kw_ml_RX6_105 : Cond.methodLink RX6 105 yX0_account ∈ gWs := gWs_of (i := 420) (by decide +kernel) (by decide +kernel)
theorem kw_im_X0_account : Cond.instanceMethod yX0_account ∈ gWs := gWs_of (i := 421) (by decide +kernel) (by decide +kernel)
theorem kw_se_X0_account : Cond.selects RX0 yX0_account yX0_account ∈ gWs := gWs_of (i := 422) (by decide +kernel) (by decide +kernel)
theorem kw_co_X0_account : Cond.code yX0_account cX0_account 2 (some .int) ∈ gWs := gWs_of (i := 423) (by decide +kernel) (by decide +kernel)
theorem kw_ml_RX0_83 : Cond.methodLink RX0 83 yX0_inBowls ∈ gWs := gWs_of (i := 424) (by decide +kernel) (by decide +kernel)
theorem kw_im_X0_inBowls : Cond.instanceMethod yX0_inBowls ∈ gWs := gWs_of (i := 426) (by decide +kernel) (by decide +kernel)
theorem kw_co_X0_inBowls : Cond.code yX0_inBowls cX0_inBowls 3 (some .int) ∈ gWs := gWs_of (i := 427) (by decide +kernel) (by decide +kernel)
theorem kw_ml_RX6_108 : Cond.methodLink RX6 108 yX4_time ∈ gWs := gWs_of (i := 428) (by decide +kernel) (by decide +kernel)
theorem kw_im_X4_time : Cond.instanceMethod yX4_time ∈ gWs := gWs_of (i := 429) (by decide +kernel) (by decide +kernel)
theorem kw_se_X4_time : Cond.selects RX4 yX4_time yX4_time ∈ gWs := gWs_of (i := 430) (by decide +kernel) (by decide +kernel)
theorem kw_co_X4_time : Cond.code yX4_time cX4_time 1 (some .int) ∈ gWs := gWs_of (i := 431) (by decide +kernel) (by decide +kernel)
theorem kw_ml_RX6_115 : Cond.methodLink RX6 115 yX2_size ∈ gWs := gWs_of (i := 432) (by decide +kernel) (by decide +kernel)
theorem kw_im_X2_size : Cond.instanceMethod yX2_size ∈ gWs := gWs_of (i := 433) (by decide +kernel) (by decide +kernel)
theorem kw_se_X2_size : Cond.selects RX2 yX2_size yX2_size ∈ gWs := gWs_of (i := 434) (by decide +kernel) (by decide +kernel)
theorem kw_co_X2_size : Cond.code yX2_size cX2_size 1 (some .int) ∈ gWs := gWs_of (i := 435) (by decide +kernel) (by decide +kernel)
theorem kw_ml_RX6_118 : Cond.methodLink RX6 118 yX2_phrases ∈ gWs := gWs_of (i := 436) (by decide +kernel) (by decide +kernel)
theorem kw_im_X2_phrases : Cond.instanceMethod yX2_phrases ∈ gWs := gWs_of (i := 437) (by decide +kernel) (by decide +kernel)
theorem kw_se_X2_phrases : Cond.selects RX2 yX2_phrases yX2_phrases ∈ gWs := gWs_of (i := 438) (by decide +kernel) (by decide +kernel)
theorem kw_co_X2_phrases : Cond.code yX2_phrases cX2_phrases 2 (some .int) ∈ gWs := gWs_of (i := 439) (by decide +kernel) (by decide +kernel)
theorem kw_ml_RX2_62 : Cond.methodLink RX2 62 yX2_phraseOf ∈ gWs := gWs_of (i := 440) (by decide +kernel) (by decide +kernel)
theorem kw_im_X2_phraseOf : Cond.instanceMethod yX2_phraseOf ∈ gWs := gWs_of (i := 442) (by decide +kernel) (by decide +kernel)
theorem kw_co_X2_phraseOf : Cond.code yX2_phraseOf cX2_phraseOf 5 (some .int) ∈ gWs := gWs_of (i := 443) (by decide +kernel) (by decide +kernel)
theorem kw_ml_RX2_58 : Cond.methodLink RX2 58 yX2_beginsPhrase ∈ gWs := gWs_of (i := 444) (by decide +kernel) (by decide +kernel)
theorem kw_im_X2_beginsPhrase : Cond.instanceMethod yX2_beginsPhrase ∈ gWs := gWs_of (i := 445) (by decide +kernel) (by decide +kernel)
theorem kw_se_X2_beginsPhrase : Cond.selects RX2 yX2_beginsPhrase yX2_beginsPhrase ∈ gWs := gWs_of (i := 446) (by decide +kernel) (by decide +kernel)
theorem kw_co_X2_beginsPhrase : Cond.code yX2_beginsPhrase cX2_beginsPhrase 3 (some .boolean) ∈ gWs := gWs_of (i := 447) (by decide +kernel) (by decide +kernel)
theorem kw_ml_RX2_36 : Cond.methodLink RX2 36 yX3_get ∈ gWs := gWs_of (i := 448) (by decide +kernel) (by decide +kernel)
theorem kw_ml_RX6_121 : Cond.methodLink RX6 121 yX2_playedNotes ∈ gWs := gWs_of (i := 449) (by decide +kernel) (by decide +kernel)
theorem kw_im_X2_playedNotes : Cond.instanceMethod yX2_playedNotes ∈ gWs := gWs_of (i := 450) (by decide +kernel) (by decide +kernel)
theorem kw_se_X2_playedNotes : Cond.selects RX2 yX2_playedNotes yX2_playedNotes ∈ gWs := gWs_of (i := 451) (by decide +kernel) (by decide +kernel)
theorem kw_co_X2_playedNotes : Cond.code yX2_playedNotes cX2_playedNotes 1 (some .int) ∈ gWs := gWs_of (i := 452) (by decide +kernel) (by decide +kernel)
theorem kw_ml_RX2_69 : Cond.methodLink RX2 69 yX2_notesWith ∈ gWs := gWs_of (i := 453) (by decide +kernel) (by decide +kernel)
theorem kw_im_X2_notesWith : Cond.instanceMethod yX2_notesWith ∈ gWs := gWs_of (i := 454) (by decide +kernel) (by decide +kernel)
theorem kw_se_X2_notesWith : Cond.selects RX2 yX2_notesWith yX2_notesWith ∈ gWs := gWs_of (i := 455) (by decide +kernel) (by decide +kernel)
theorem kw_co_X2_notesWith : Cond.code yX2_notesWith cX2_notesWith 4 (some .int) ∈ gWs := gWs_of (i := 456) (by decide +kernel) (by decide +kernel)
theorem kw_ml_RX6_124 : Cond.methodLink RX6 124 yX2_notesWith ∈ gWs := gWs_of (i := 457) (by decide +kernel) (by decide +kernel)
theorem kw_ml_RX6_127 : Cond.methodLink RX6 127 yX1_size ∈ gWs := gWs_of (i := 458) (by decide +kernel) (by decide +kernel)
theorem kw_im_X1_size : Cond.instanceMethod yX1_size ∈ gWs := gWs_of (i := 459) (by decide +kernel) (by decide +kernel)
theorem kw_se_X1_size : Cond.selects RX1 yX1_size yX1_size ∈ gWs := gWs_of (i := 460) (by decide +kernel) (by decide +kernel)
theorem kw_co_X1_size : Cond.code yX1_size cX1_size 1 (some .int) ∈ gWs := gWs_of (i := 461) (by decide +kernel) (by decide +kernel)
theorem kw_ml_RX6_128 : Cond.methodLink RX6 128 yX5_length ∈ gWs := gWs_of (i := 462) (by decide +kernel) (by decide +kernel)
theorem kw_im_X5_length : Cond.instanceMethod yX5_length ∈ gWs := gWs_of (i := 463) (by decide +kernel) (by decide +kernel)
theorem kw_se_X5_length : Cond.selects RX5 yX5_length yX5_length ∈ gWs := gWs_of (i := 464) (by decide +kernel) (by decide +kernel)
theorem kw_co_X5_length : Cond.code yX5_length cX5_length 1 (some .int) ∈ gWs := gWs_of (i := 465) (by decide +kernel) (by decide +kernel)
theorem kw_ml_RL_59 : Cond.methodLink RL 59 yX6_undo ∈ gWs := gWs_of (i := 466) (by decide +kernel) (by decide +kernel)
theorem kw_im_X6_undo : Cond.instanceMethod yX6_undo ∈ gWs := gWs_of (i := 467) (by decide +kernel) (by decide +kernel)
theorem kw_se_X6_undo : Cond.selects RX6 yX6_undo yX6_undo ∈ gWs := gWs_of (i := 468) (by decide +kernel) (by decide +kernel)
theorem kw_co_X6_undo : Cond.code yX6_undo cX6_undo 1 (some .int) ∈ gWs := gWs_of (i := 469) (by decide +kernel) (by decide +kernel)
theorem kw_ml_RX6_131 : Cond.methodLink RX6 131 yX1_restore ∈ gWs := gWs_of (i := 470) (by decide +kernel) (by decide +kernel)
theorem kw_im_X1_restore : Cond.instanceMethod yX1_restore ∈ gWs := gWs_of (i := 471) (by decide +kernel) (by decide +kernel)
theorem kw_se_X1_restore : Cond.selects RX1 yX1_restore yX1_restore ∈ gWs := gWs_of (i := 472) (by decide +kernel) (by decide +kernel)
theorem kw_co_X1_restore : Cond.code yX1_restore cX1_restore 2 none ∈ gWs := gWs_of (i := 473) (by decide +kernel) (by decide +kernel)
theorem kw_ml_RX1_39 : Cond.methodLink RX1 39 Lib.Math.max.name ∈ gWs := gWs_of (i := 474) (by decide +kernel) (by decide +kernel)
theorem kw_ml_RL_64 : Cond.methodLink RL 64 yX6_note ∈ gWs := gWs_of (i := 475) (by decide +kernel) (by decide +kernel)
theorem kw_im_X6_note : Cond.instanceMethod yX6_note ∈ gWs := gWs_of (i := 476) (by decide +kernel) (by decide +kernel)
theorem kw_se_X6_note : Cond.selects RX6 yX6_note yX6_note ∈ gWs := gWs_of (i := 477) (by decide +kernel) (by decide +kernel)
theorem kw_co_X6_note : Cond.code yX6_note cX6_note 3 (some .int) ∈ gWs := gWs_of (i := 478) (by decide +kernel) (by decide +kernel)
theorem kw_ml_RX6_134 : Cond.methodLink RX6 134 yX2_hasNoteAt ∈ gWs := gWs_of (i := 479) (by decide +kernel) (by decide +kernel)
theorem kw_im_X2_hasNoteAt : Cond.instanceMethod yX2_hasNoteAt ∈ gWs := gWs_of (i := 480) (by decide +kernel) (by decide +kernel)
theorem kw_se_X2_hasNoteAt : Cond.selects RX2 yX2_hasNoteAt yX2_hasNoteAt ∈ gWs := gWs_of (i := 481) (by decide +kernel) (by decide +kernel)
theorem kw_co_X2_hasNoteAt : Cond.code yX2_hasNoteAt cX2_hasNoteAt 3 (some .boolean) ∈ gWs := gWs_of (i := 482) (by decide +kernel) (by decide +kernel)
theorem kw_ml_RX2_40 : Cond.methodLink RX2 40 yX2_placeFor ∈ gWs := gWs_of (i := 483) (by decide +kernel) (by decide +kernel)
theorem kw_im_X2_placeFor : Cond.instanceMethod yX2_placeFor ∈ gWs := gWs_of (i := 485) (by decide +kernel) (by decide +kernel)
theorem kw_co_X2_placeFor : Cond.code yX2_placeFor cX2_placeFor 3 (some .int) ∈ gWs := gWs_of (i := 486) (by decide +kernel) (by decide +kernel)
theorem kw_ml_RX6_137 : Cond.methodLink RX6 137 yX2_isFull ∈ gWs := gWs_of (i := 487) (by decide +kernel) (by decide +kernel)
theorem kw_im_X2_isFull : Cond.instanceMethod yX2_isFull ∈ gWs := gWs_of (i := 488) (by decide +kernel) (by decide +kernel)
theorem kw_se_X2_isFull : Cond.selects RX2 yX2_isFull yX2_isFull ∈ gWs := gWs_of (i := 489) (by decide +kernel) (by decide +kernel)
theorem kw_co_X2_isFull : Cond.code yX2_isFull cX2_isFull 1 (some .boolean) ∈ gWs := gWs_of (i := 490) (by decide +kernel) (by decide +kernel)
theorem kw_ml_RX6_141 : Cond.methodLink RX6 141 yX2_insert ∈ gWs := gWs_of (i := 491) (by decide +kernel) (by decide +kernel)
theorem kw_im_X2_insert : Cond.instanceMethod yX2_insert ∈ gWs := gWs_of (i := 492) (by decide +kernel) (by decide +kernel)
theorem kw_se_X2_insert : Cond.selects RX2 yX2_insert yX2_insert ∈ gWs := gWs_of (i := 493) (by decide +kernel) (by decide +kernel)
theorem kw_co_X2_insert : Cond.code yX2_insert cX2_insert 4 (some .int) ∈ gWs := gWs_of (i := 494) (by decide +kernel) (by decide +kernel)
theorem kw_ml_RX2_43 : Cond.methodLink RX2 43 yX3_insert ∈ gWs := gWs_of (i := 495) (by decide +kernel) (by decide +kernel)
theorem kw_im_X3_insert : Cond.instanceMethod yX3_insert ∈ gWs := gWs_of (i := 496) (by decide +kernel) (by decide +kernel)
theorem kw_se_X3_insert : Cond.selects RX3 yX3_insert yX3_insert ∈ gWs := gWs_of (i := 497) (by decide +kernel) (by decide +kernel)
theorem kw_co_X3_insert : Cond.code yX3_insert cX3_insert 5 none ∈ gWs := gWs_of (i := 498) (by decide +kernel) (by decide +kernel)
theorem kw_ml_RL_68 : Cond.methodLink RL 68 yX6_drop ∈ gWs := gWs_of (i := 499) (by decide +kernel) (by decide +kernel)
theorem kw_im_X6_drop : Cond.instanceMethod yX6_drop ∈ gWs := gWs_of (i := 500) (by decide +kernel) (by decide +kernel)
theorem kw_se_X6_drop : Cond.selects RX6 yX6_drop yX6_drop ∈ gWs := gWs_of (i := 501) (by decide +kernel) (by decide +kernel)
theorem kw_co_X6_drop : Cond.code yX6_drop cX6_drop 2 (some .int) ∈ gWs := gWs_of (i := 502) (by decide +kernel) (by decide +kernel)
theorem kw_ml_RX6_144 : Cond.methodLink RX6 144 yX2_has ∈ gWs := gWs_of (i := 503) (by decide +kernel) (by decide +kernel)
theorem kw_im_X2_has : Cond.instanceMethod yX2_has ∈ gWs := gWs_of (i := 504) (by decide +kernel) (by decide +kernel)
theorem kw_se_X2_has : Cond.selects RX2 yX2_has yX2_has ∈ gWs := gWs_of (i := 505) (by decide +kernel) (by decide +kernel)
theorem kw_co_X2_has : Cond.code yX2_has cX2_has 2 (some .boolean) ∈ gWs := gWs_of (i := 506) (by decide +kernel) (by decide +kernel)
theorem kw_ml_RX6_145 : Cond.methodLink RX6 145 yX2_takeAway ∈ gWs := gWs_of (i := 507) (by decide +kernel) (by decide +kernel)
theorem kw_im_X2_takeAway : Cond.instanceMethod yX2_takeAway ∈ gWs := gWs_of (i := 508) (by decide +kernel) (by decide +kernel)
theorem kw_se_X2_takeAway : Cond.selects RX2 yX2_takeAway yX2_takeAway ∈ gWs := gWs_of (i := 509) (by decide +kernel) (by decide +kernel)
theorem kw_co_X2_takeAway : Cond.code yX2_takeAway cX2_takeAway 2 none ∈ gWs := gWs_of (i := 510) (by decide +kernel) (by decide +kernel)
theorem kw_ml_RX2_47 : Cond.methodLink RX2 47 yX3_delete ∈ gWs := gWs_of (i := 511) (by decide +kernel) (by decide +kernel)
theorem kw_ml_RL_72 : Cond.methodLink RL 72 yX6_transpose ∈ gWs := gWs_of (i := 512) (by decide +kernel) (by decide +kernel)
theorem kw_im_X6_transpose : Cond.instanceMethod yX6_transpose ∈ gWs := gWs_of (i := 513) (by decide +kernel) (by decide +kernel)
theorem kw_se_X6_transpose : Cond.selects RX6 yX6_transpose yX6_transpose ∈ gWs := gWs_of (i := 514) (by decide +kernel) (by decide +kernel)
theorem kw_co_X6_transpose : Cond.code yX6_transpose cX6_transpose 4 (some .int) ∈ gWs := gWs_of (i := 515) (by decide +kernel) (by decide +kernel)
theorem kw_ml_RX6_146 : Cond.methodLink RX6 146 yX2_canShift ∈ gWs := gWs_of (i := 516) (by decide +kernel) (by decide +kernel)
theorem kw_im_X2_canShift : Cond.instanceMethod yX2_canShift ∈ gWs := gWs_of (i := 517) (by decide +kernel) (by decide +kernel)
theorem kw_se_X2_canShift : Cond.selects RX2 yX2_canShift yX2_canShift ∈ gWs := gWs_of (i := 518) (by decide +kernel) (by decide +kernel)
theorem kw_co_X2_canShift : Cond.code yX2_canShift cX2_canShift 5 (some .boolean) ∈ gWs := gWs_of (i := 519) (by decide +kernel) (by decide +kernel)
theorem kw_ml_RX6_149 : Cond.methodLink RX6 149 yX2_shift ∈ gWs := gWs_of (i := 521) (by decide +kernel) (by decide +kernel)
theorem kw_im_X2_shift : Cond.instanceMethod yX2_shift ∈ gWs := gWs_of (i := 522) (by decide +kernel) (by decide +kernel)
theorem kw_se_X2_shift : Cond.selects RX2 yX2_shift yX2_shift ∈ gWs := gWs_of (i := 523) (by decide +kernel) (by decide +kernel)
theorem kw_co_X2_shift : Cond.code yX2_shift cX2_shift 5 none ∈ gWs := gWs_of (i := 524) (by decide +kernel) (by decide +kernel)
theorem kw_ml_RX2_55 : Cond.methodLink RX2 55 yX3_add ∈ gWs := gWs_of (i := 525) (by decide +kernel) (by decide +kernel)
theorem kw_ml_RL_77 : Cond.methodLink RL 77 yX6_noteOf ∈ gWs := gWs_of (i := 526) (by decide +kernel) (by decide +kernel)
theorem kw_im_X6_noteOf : Cond.instanceMethod yX6_noteOf ∈ gWs := gWs_of (i := 527) (by decide +kernel) (by decide +kernel)
theorem kw_se_X6_noteOf : Cond.selects RX6 yX6_noteOf yX6_noteOf ∈ gWs := gWs_of (i := 528) (by decide +kernel) (by decide +kernel)
theorem kw_co_X6_noteOf : Cond.code yX6_noteOf cX6_noteOf 3 (some .int) ∈ gWs := gWs_of (i := 529) (by decide +kernel) (by decide +kernel)
theorem kw_ml_RX6_153 : Cond.methodLink RX6 153 yX2_property ∈ gWs := gWs_of (i := 530) (by decide +kernel) (by decide +kernel)
theorem kw_im_X2_property : Cond.instanceMethod yX2_property ∈ gWs := gWs_of (i := 531) (by decide +kernel) (by decide +kernel)
theorem kw_se_X2_property : Cond.selects RX2 yX2_property yX2_property ∈ gWs := gWs_of (i := 532) (by decide +kernel) (by decide +kernel)
theorem kw_co_X2_property : Cond.code yX2_property cX2_property 4 (some .int) ∈ gWs := gWs_of (i := 533) (by decide +kernel) (by decide +kernel)
theorem kw_st_X6_oneIf : Cond.static yX6_oneIf ∈ gWs := gWs_of (i := 535) (by decide +kernel) (by decide +kernel)
theorem kw_co_X6_oneIf : Cond.code yX6_oneIf cX6_oneIf 1 (some .int) ∈ gWs := gWs_of (i := 536) (by decide +kernel) (by decide +kernel)
theorem kw_ml_RX2_76 : Cond.methodLink RX2 76 yX2_sounded ∈ gWs := gWs_of (i := 537) (by decide +kernel) (by decide +kernel)
theorem kw_im_X2_sounded : Cond.instanceMethod yX2_sounded ∈ gWs := gWs_of (i := 539) (by decide +kernel) (by decide +kernel)
theorem kw_co_X2_sounded : Cond.code yX2_sounded cX2_sounded 2 (some .boolean) ∈ gWs := gWs_of (i := 540) (by decide +kernel) (by decide +kernel)
theorem kw_k_RX2_80 : Cond.constant RX2 80 (-100004) ∈ gWs := gWs_of (i := 541) (by decide +kernel) (by decide +kernel)
theorem kw_k_RX2_81 : Cond.constant RX2 81 (-100001) ∈ gWs := gWs_of (i := 542) (by decide +kernel) (by decide +kernel)
theorem kw_ml_RL_81 : Cond.methodLink RL 81 yX6_run ∈ gWs := gWs_of (i := 543) (by decide +kernel) (by decide +kernel)
theorem kw_im_X6_run : Cond.instanceMethod yX6_run ∈ gWs := gWs_of (i := 544) (by decide +kernel) (by decide +kernel)
theorem kw_se_X6_run : Cond.selects RX6 yX6_run yX6_run ∈ gWs := gWs_of (i := 545) (by decide +kernel) (by decide +kernel)
theorem kw_co_X6_run : Cond.code yX6_run cX6_run 3 (some .int) ∈ gWs := gWs_of (i := 546) (by decide +kernel) (by decide +kernel)
theorem kw_ml_RX6_156 : Cond.methodLink RX6 156 yX4_advance ∈ gWs := gWs_of (i := 547) (by decide +kernel) (by decide +kernel)
theorem kw_im_X4_advance : Cond.instanceMethod yX4_advance ∈ gWs := gWs_of (i := 548) (by decide +kernel) (by decide +kernel)
theorem kw_se_X4_advance : Cond.selects RX4 yX4_advance yX4_advance ∈ gWs := gWs_of (i := 549) (by decide +kernel) (by decide +kernel)
theorem kw_co_X4_advance : Cond.code yX4_advance cX4_advance 5 (some .int) ∈ gWs := gWs_of (i := 550) (by decide +kernel) (by decide +kernel)
theorem kw_ml_RX4_49 : Cond.methodLink RX4 49 yX2_size ∈ gWs := gWs_of (i := 551) (by decide +kernel) (by decide +kernel)
theorem kw_ml_RX4_53 : Cond.methodLink RX4 53 yX2_timeOf ∈ gWs := gWs_of (i := 552) (by decide +kernel) (by decide +kernel)
theorem kw_im_X2_timeOf : Cond.instanceMethod yX2_timeOf ∈ gWs := gWs_of (i := 553) (by decide +kernel) (by decide +kernel)
theorem kw_se_X2_timeOf : Cond.selects RX2 yX2_timeOf yX2_timeOf ∈ gWs := gWs_of (i := 554) (by decide +kernel) (by decide +kernel)
theorem kw_co_X2_timeOf : Cond.code yX2_timeOf cX2_timeOf 2 (some .int) ∈ gWs := gWs_of (i := 555) (by decide +kernel) (by decide +kernel)
theorem kw_ml_RX4_56 : Cond.methodLink RX4 56 yX4_dryUntil ∈ gWs := gWs_of (i := 556) (by decide +kernel) (by decide +kernel)
theorem kw_im_X4_dryUntil : Cond.instanceMethod yX4_dryUntil ∈ gWs := gWs_of (i := 558) (by decide +kernel) (by decide +kernel)
theorem kw_co_X4_dryUntil : Cond.code yX4_dryUntil cX4_dryUntil 3 none ∈ gWs := gWs_of (i := 559) (by decide +kernel) (by decide +kernel)
theorem kw_ml_RX4_62 : Cond.methodLink RX4 62 yX0_dry ∈ gWs := gWs_of (i := 560) (by decide +kernel) (by decide +kernel)
theorem kw_im_X0_dry : Cond.instanceMethod yX0_dry ∈ gWs := gWs_of (i := 561) (by decide +kernel) (by decide +kernel)
theorem kw_se_X0_dry : Cond.selects RX0 yX0_dry yX0_dry ∈ gWs := gWs_of (i := 562) (by decide +kernel) (by decide +kernel)
theorem kw_co_X0_dry : Cond.code yX0_dry cX0_dry 4 none ∈ gWs := gWs_of (i := 563) (by decide +kernel) (by decide +kernel)
theorem kw_ml_RX4_59 : Cond.methodLink RX4 59 yX4_playNote ∈ gWs := gWs_of (i := 564) (by decide +kernel) (by decide +kernel)
theorem kw_im_X4_playNote : Cond.instanceMethod yX4_playNote ∈ gWs := gWs_of (i := 566) (by decide +kernel) (by decide +kernel)
theorem kw_co_X4_playNote : Cond.code yX4_playNote cX4_playNote 4 none ∈ gWs := gWs_of (i := 567) (by decide +kernel) (by decide +kernel)
theorem kw_ml_RX4_65 : Cond.methodLink RX4 65 yX2_beginsPhrase ∈ gWs := gWs_of (i := 568) (by decide +kernel) (by decide +kernel)
theorem kw_ml_RX4_69 : Cond.methodLink RX4 69 yX0_fillToMarks ∈ gWs := gWs_of (i := 569) (by decide +kernel) (by decide +kernel)
theorem kw_im_X0_fillToMarks : Cond.instanceMethod yX0_fillToMarks ∈ gWs := gWs_of (i := 570) (by decide +kernel) (by decide +kernel)
theorem kw_se_X0_fillToMarks : Cond.selects RX0 yX0_fillToMarks yX0_fillToMarks ∈ gWs := gWs_of (i := 571) (by decide +kernel) (by decide +kernel)
theorem kw_co_X0_fillToMarks : Cond.code yX0_fillToMarks cX0_fillToMarks 3 none ∈ gWs := gWs_of (i := 572) (by decide +kernel) (by decide +kernel)
theorem kw_ml_RX4_72 : Cond.methodLink RX4 72 yX2_pitchOf ∈ gWs := gWs_of (i := 573) (by decide +kernel) (by decide +kernel)
theorem kw_im_X2_pitchOf : Cond.instanceMethod yX2_pitchOf ∈ gWs := gWs_of (i := 574) (by decide +kernel) (by decide +kernel)
end
