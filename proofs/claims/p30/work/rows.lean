section
-- ===== PART A: goes FIRST, ahead of the names: the tables' words, and 'selects' of the private methods out of them =====
/-- a private method of a class that the tables say can be made, by its rows of tables_1 -/
def lw_okq (q : MethodName × Nat) : Prop := (q.1.cls ≠ "java/lang/invoke/MethodHandle" ∧ q.1.cls ≠ "java/lang/invoke/VarHandle") ∧ Cond.instantiable q.1.cls q.2 ∈ tables_1 ∧ Cond.privateMethod q.1 ∈ tables_1 ∧ Cond.instanceMethod q.1 ∈ tables_1
theorem lw_p0 : lw_okq (⟨"GlassBowls$History", "stateAt", "(I)LGlassBowls$Table;"⟩, 3) := ⟨⟨by decide +kernel, by decide +kernel⟩, List.mem_of_getElem? (i := 124) (by decide +kernel), List.mem_of_getElem? (i := 206) (by decide +kernel), List.mem_of_getElem? (i := 207) (by decide +kernel)⟩
theorem lw_p1 : lw_okq (⟨"GlassBowls$Bowls", "hold", "(II)V"⟩, 10) := ⟨⟨by decide +kernel, by decide +kernel⟩, List.mem_of_getElem? (i := 25) (by decide +kernel), List.mem_of_getElem? (i := 274) (by decide +kernel), List.mem_of_getElem? (i := 275) (by decide +kernel)⟩
theorem lw_p2 : lw_okq (⟨"GlassBowls$Bowls", "inBowls", "()I"⟩, 10) := ⟨⟨by decide +kernel, by decide +kernel⟩, List.mem_of_getElem? (i := 25) (by decide +kernel), List.mem_of_getElem? (i := 332) (by decide +kernel), List.mem_of_getElem? (i := 333) (by decide +kernel)⟩
theorem lw_p3 : lw_okq (⟨"GlassBowls$Piece", "phraseOf", "(II)I"⟩, 6) := ⟨⟨by decide +kernel, by decide +kernel⟩, List.mem_of_getElem? (i := 76) (by decide +kernel), List.mem_of_getElem? (i := 349) (by decide +kernel), List.mem_of_getElem? (i := 350) (by decide +kernel)⟩
theorem lw_p4 : lw_okq (⟨"GlassBowls$Piece", "placeFor", "(I)I"⟩, 6) := ⟨⟨by decide +kernel, by decide +kernel⟩, List.mem_of_getElem? (i := 76) (by decide +kernel), List.mem_of_getElem? (i := 392) (by decide +kernel), List.mem_of_getElem? (i := 393) (by decide +kernel)⟩
theorem lw_p5 : lw_okq (⟨"GlassBowls$Table", "dryUntil", "(I)V"⟩, 4) := ⟨⟨by decide +kernel, by decide +kernel⟩, List.mem_of_getElem? (i := 19) (by decide +kernel), List.mem_of_getElem? (i := 448) (by decide +kernel), List.mem_of_getElem? (i := 449) (by decide +kernel)⟩
theorem lw_p6 : lw_okq (⟨"GlassBowls$Table", "playNote", "(I)V"⟩, 4) := ⟨⟨by decide +kernel, by decide +kernel⟩, List.mem_of_getElem? (i := 19) (by decide +kernel), List.mem_of_getElem? (i := 456) (by decide +kernel), List.mem_of_getElem? (i := 457) (by decide +kernel)⟩
theorem lw_p7 : lw_okq (⟨"GlassBowls$Bowls", "pitchWith", "(II)I"⟩, 10) := ⟨⟨by decide +kernel, by decide +kernel⟩, List.mem_of_getElem? (i := 25) (by decide +kernel), List.mem_of_getElem? (i := 473) (by decide +kernel), List.mem_of_getElem? (i := 474) (by decide +kernel)⟩
theorem lw_p8 : lw_okq (⟨"GlassBowls$Piece", "sounded", "(I)Z"⟩, 6) := ⟨⟨by decide +kernel, by decide +kernel⟩, List.mem_of_getElem? (i := 76) (by decide +kernel), List.mem_of_getElem? (i := 543) (by decide +kernel), List.mem_of_getElem? (i := 544) (by decide +kernel)⟩
theorem lw_p9 : lw_okq (⟨"GlassBowls", "tryOut", "(I)V"⟩, 4) := ⟨⟨by decide +kernel, by decide +kernel⟩, List.mem_of_getElem? (i := 11) (by decide +kernel), List.mem_of_getElem? (i := 577) (by decide +kernel), List.mem_of_getElem? (i := 578) (by decide +kernel)⟩
theorem lw_p10 : lw_okq (⟨"GlassBowls$Piece", "errorSize", "(I)I"⟩, 6) := ⟨⟨by decide +kernel, by decide +kernel⟩, List.mem_of_getElem? (i := 76) (by decide +kernel), List.mem_of_getElem? (i := 600) (by decide +kernel), List.mem_of_getElem? (i := 601) (by decide +kernel)⟩
theorem lw_p11 : lw_okq (⟨"GlassBowls$Piece", "rankOf", "(I)I"⟩, 6) := ⟨⟨by decide +kernel, by decide +kernel⟩, List.mem_of_getElem? (i := 76) (by decide +kernel), List.mem_of_getElem? (i := 617) (by decide +kernel), List.mem_of_getElem? (i := 618) (by decide +kernel)⟩
theorem lw_p12 : lw_okq (⟨"GlassBowls", "tryText", "()V"⟩, 4) := ⟨⟨by decide +kernel, by decide +kernel⟩, List.mem_of_getElem? (i := 11) (by decide +kernel), List.mem_of_getElem? (i := 644) (by decide +kernel), List.mem_of_getElem? (i := 645) (by decide +kernel)⟩
theorem lw_p13 : lw_okq (⟨"GlassBowls$Text", "reasonAgainstNext", "(LGlassBowls$Piece;)I"⟩, 8) := ⟨⟨by decide +kernel, by decide +kernel⟩, List.mem_of_getElem? (i := 143) (by decide +kernel), List.mem_of_getElem? (i := 652) (by decide +kernel), List.mem_of_getElem? (i := 653) (by decide +kernel)⟩
theorem lw_p14 : lw_okq (⟨"GlassBowls$Text", "readNote", "()Z"⟩, 8) := ⟨⟨by decide +kernel, by decide +kernel⟩, List.mem_of_getElem? (i := 143) (by decide +kernel), List.mem_of_getElem? (i := 656) (by decide +kernel), List.mem_of_getElem? (i := 657) (by decide +kernel)⟩
theorem lw_p15 : lw_okq (⟨"GlassBowls$Text", "readNumber", "()I"⟩, 8) := ⟨⟨by decide +kernel, by decide +kernel⟩, List.mem_of_getElem? (i := 143) (by decide +kernel), List.mem_of_getElem? (i := 660) (by decide +kernel), List.mem_of_getElem? (i := 661) (by decide +kernel)⟩
def lw_privs_1 : List (MethodName × Nat) := [(⟨"GlassBowls$History", "stateAt", "(I)LGlassBowls$Table;"⟩, 3), (⟨"GlassBowls$Bowls", "hold", "(II)V"⟩, 10), (⟨"GlassBowls$Bowls", "inBowls", "()I"⟩, 10), (⟨"GlassBowls$Piece", "phraseOf", "(II)I"⟩, 6), (⟨"GlassBowls$Piece", "placeFor", "(I)I"⟩, 6), (⟨"GlassBowls$Table", "dryUntil", "(I)V"⟩, 4), (⟨"GlassBowls$Table", "playNote", "(I)V"⟩, 4), (⟨"GlassBowls$Bowls", "pitchWith", "(II)I"⟩, 10), (⟨"GlassBowls$Piece", "sounded", "(I)Z"⟩, 6), (⟨"GlassBowls", "tryOut", "(I)V"⟩, 4), (⟨"GlassBowls$Piece", "errorSize", "(I)I"⟩, 6), (⟨"GlassBowls$Piece", "rankOf", "(I)I"⟩, 6), (⟨"GlassBowls", "tryText", "()V"⟩, 4), (⟨"GlassBowls$Text", "reasonAgainstNext", "(LGlassBowls$Piece;)I"⟩, 8), (⟨"GlassBowls$Text", "readNote", "()Z"⟩, 8), (⟨"GlassBowls$Text", "readNumber", "()I"⟩, 8)]
theorem lw_r1 : ∀ q ∈ lw_privs_1, lw_okq q := List.forall_mem_cons.mpr ⟨lw_p0, List.forall_mem_cons.mpr ⟨lw_p1, List.forall_mem_cons.mpr ⟨lw_p2, List.forall_mem_cons.mpr ⟨lw_p3, List.forall_mem_cons.mpr ⟨lw_p4, List.forall_mem_cons.mpr ⟨lw_p5, List.forall_mem_cons.mpr ⟨lw_p6, List.forall_mem_cons.mpr ⟨lw_p7, List.forall_mem_cons.mpr ⟨lw_p8, List.forall_mem_cons.mpr ⟨lw_p9, List.forall_mem_cons.mpr ⟨lw_p10, List.forall_mem_cons.mpr ⟨lw_p11, List.forall_mem_cons.mpr ⟨lw_p12, List.forall_mem_cons.mpr ⟨lw_p13, List.forall_mem_cons.mpr ⟨lw_p14, List.forall_mem_cons.mpr ⟨lw_p15, fun _ h => absurd h List.not_mem_nil⟩⟩⟩⟩⟩⟩⟩⟩⟩⟩⟩⟩⟩⟩⟩⟩
theorem lw_p16 : lw_okq (⟨"GlassBowls$Text", "readCharacter", "(I)Z"⟩, 8) := ⟨⟨by decide +kernel, by decide +kernel⟩, List.mem_of_getElem? (i := 143) (by decide +kernel), List.mem_of_getElem? (i := 667) (by decide +kernel), List.mem_of_getElem? (i := 668) (by decide +kernel)⟩
def lw_privs_2 : List (MethodName × Nat) := [(⟨"GlassBowls$Text", "readCharacter", "(I)Z"⟩, 8)]
theorem lw_r2 : ∀ q ∈ lw_privs_2, lw_okq q := List.forall_mem_cons.mpr ⟨lw_p16, fun _ h => absurd h List.not_mem_nil⟩
def lw_privs : List (MethodName × Nat) := lw_privs_1 ++ (lw_privs_2)
def lw_tbl : List Cond := k2_sels lw_privs ++ tables_1
theorem lw_privs_ok : ∀ q ∈ lw_privs, lw_okq q := by
  show ∀ q ∈ lw_privs_1 ++ (lw_privs_2), lw_okq q
  exact List.forall_mem_append.mpr ⟨lw_r1, lw_r2⟩
-- ===== end of PART A; then your names; then what follows =====
end
section
def RX0 : String := "GlassBowls$Bowls"
def TX0 : u_T := fun k => match k with
  | 0 => ("GlassBowls$Bowls", "base", "LGlassBowls$Row;", true)
  | 1 => ("GlassBowls$Bowls", "depth", "LGlassBowls$Row;", true)
  | 2 => ("GlassBowls$Bowls", "level", "LGlassBowls$Row;", true)
  | 3 => ("GlassBowls$Bowls", "mark", "LGlassBowls$Row;", true)
  | 4 => ("GlassBowls$Bowls", "crack", "LGlassBowls$Row;", true)
  | 5 => ("GlassBowls$Bowls", "size", "I", false)
  | 6 => ("GlassBowls$Bowls", "poured", "I", false)
  | 7 => ("GlassBowls$Bowls", "dried", "I", false)
  | 8 => ("GlassBowls$Bowls", "lost", "I", false)
  | _ => ("GlassBowls$Bowls", "takenOut", "I", false)
def tyX0 : Nat → FieldType := fun k => match k with
  | 0 => .object "GlassBowls$Row"
  | 1 => .object "GlassBowls$Row"
  | 2 => .object "GlassBowls$Row"
  | 3 => .object "GlassBowls$Row"
  | 4 => .object "GlassBowls$Row"
  | 5 => .int
  | 6 => .int
  | 7 => .int
  | 8 => .int
  | _ => .int
abbrev wsX00 : List Cond := u_ws RX0 TX0 10
theorem nmX0 : ∀ a, a < 10 → ∀ b, b < 10 → a ≠ b → (TX0 a).2.1 ≠ (TX0 b).2.1 := by decide +kernel
theorem tyX0_ok : ∀ k, k < 10 → parseFieldDescriptor (TX0 k).2.2.1 = some (tyX0 k) := by decide +kernel
abbrev cX0_init : ByteArray := prog_2_method_1_code
def yX0_init : MethodName := ⟨RX0, "<init>", "()V"⟩
abbrev cX0_size : ByteArray := prog_2_method_2_code
def yX0_size : MethodName := ⟨RX0, "size", "()I"⟩
abbrev cX0_has : ByteArray := prog_2_method_3_code
def yX0_has : MethodName := ⟨RX0, "has", "(I)Z"⟩
abbrev cX0_levelIn : ByteArray := prog_2_method_4_code
def yX0_levelIn : MethodName := ⟨RX0, "levelIn", "(I)I"⟩
abbrev cX0_append : ByteArray := prog_2_method_5_code
def yX0_append : MethodName := ⟨RX0, "append", "(II)V"⟩
abbrev cX0_takeAway : ByteArray := prog_2_method_6_code
def yX0_takeAway : MethodName := ⟨RX0, "takeAway", "(I)V"⟩
abbrev cX0_addWater : ByteArray := prog_2_method_7_code
def yX0_addWater : MethodName := ⟨RX0, "addWater", "(II)V"⟩
abbrev cX0_takeWater : ByteArray := prog_2_method_8_code
def yX0_takeWater : MethodName := ⟨RX0, "takeWater", "(II)V"⟩
abbrev cX0_moveCrack : ByteArray := prog_2_method_9_code
def yX0_moveCrack : MethodName := ⟨RX0, "moveCrack", "(II)V"⟩
abbrev cX0_moveMark : ByteArray := prog_2_method_10_code
def yX0_moveMark : MethodName := ⟨RX0, "moveMark", "(II)I"⟩
abbrev cX0_hold : ByteArray := prog_2_method_11_code
def yX0_hold : MethodName := ⟨RX0, "hold", "(II)V"⟩
abbrev cX0_fillToMarks : ByteArray := prog_2_method_12_code
def yX0_fillToMarks : MethodName := ⟨RX0, "fillToMarks", "()V"⟩
abbrev cX0_dry : ByteArray := prog_2_method_13_code
def yX0_dry : MethodName := ⟨RX0, "dry", "(I)V"⟩
abbrev cX0_property : ByteArray := prog_2_method_14_code
def yX0_property : MethodName := ⟨RX0, "property", "(II)I"⟩
abbrev cX0_pitchOf : ByteArray := prog_2_method_15_code
def yX0_pitchOf : MethodName := ⟨RX0, "pitchOf", "(I)I"⟩
abbrev cX0_pitchWith : ByteArray := prog_2_method_16_code
def yX0_pitchWith : MethodName := ⟨RX0, "pitchWith", "(II)I"⟩
abbrev cX0_nearestLevel : ByteArray := prog_2_method_17_code
def yX0_nearestLevel : MethodName := ⟨RX0, "nearestLevel", "(II)I"⟩
abbrev cX0_nearestBowl : ByteArray := prog_2_method_18_code
def yX0_nearestBowl : MethodName := ⟨RX0, "nearestBowl", "(I)I"⟩
abbrev cX0_account : ByteArray := prog_2_method_19_code
def yX0_account : MethodName := ⟨RX0, "account", "(I)I"⟩
abbrev cX0_inBowls : ByteArray := prog_2_method_20_code
def yX0_inBowls : MethodName := ⟨RX0, "inBowls", "()I"⟩
abbrev cX0_copyFrom : ByteArray := prog_2_method_21_code
def yX0_copyFrom : MethodName := ⟨RX0, "copyFrom", "(LGlassBowls$Bowls;)V"⟩
def RX1 : String := "GlassBowls$History"
def TX1 : u_T := fun k => match k with
  | 0 => ("GlassBowls$History", "states", "[LGlassBowls$Table;", true)
  | 1 => ("GlassBowls$History", "next", "I", false)
  | _ => ("GlassBowls$History", "size", "I", false)
def tyX1 : Nat → FieldType := fun k => match k with
  | 0 => .array (.object "GlassBowls$Table")
  | 1 => .int
  | _ => .int
abbrev wsX10 : List Cond := u_ws RX1 TX1 3
theorem nmX1 : ∀ a, a < 3 → ∀ b, b < 3 → a ≠ b → (TX1 a).2.1 ≠ (TX1 b).2.1 := by decide +kernel
theorem tyX1_ok : ∀ k, k < 3 → parseFieldDescriptor (TX1 k).2.2.1 = some (tyX1 k) := by decide +kernel
abbrev cX1_init : ByteArray := prog_3_method_1_code
def yX1_init : MethodName := ⟨RX1, "<init>", "()V"⟩
abbrev cX1_size : ByteArray := prog_3_method_2_code
def yX1_size : MethodName := ⟨RX1, "size", "()I"⟩
abbrev cX1_stateAt : ByteArray := prog_3_method_3_code
def yX1_stateAt : MethodName := ⟨RX1, "stateAt", "(I)LGlassBowls$Table;"⟩
abbrev cX1_record : ByteArray := prog_3_method_4_code
def yX1_record : MethodName := ⟨RX1, "record", "(LGlassBowls$Table;)V"⟩
abbrev cX1_restore : ByteArray := prog_3_method_5_code
def yX1_restore : MethodName := ⟨RX1, "restore", "(LGlassBowls$Table;)V"⟩
def RX2 : String := "GlassBowls$Piece"
def TX2 : u_T := fun k => match k with
  | 0 => ("GlassBowls$Piece", "time", "LGlassBowls$Row;", true)
  | 1 => ("GlassBowls$Piece", "pitch", "LGlassBowls$Row;", true)
  | 2 => ("GlassBowls$Piece", "outcome", "LGlassBowls$Row;", true)
  | 3 => ("GlassBowls$Piece", "bowl", "LGlassBowls$Row;", true)
  | 4 => ("GlassBowls$Piece", "error", "LGlassBowls$Row;", true)
  | _ => ("GlassBowls$Piece", "size", "I", false)
def tyX2 : Nat → FieldType := fun k => match k with
  | 0 => .object "GlassBowls$Row"
  | 1 => .object "GlassBowls$Row"
  | 2 => .object "GlassBowls$Row"
  | 3 => .object "GlassBowls$Row"
  | 4 => .object "GlassBowls$Row"
  | _ => .int
abbrev wsX20 : List Cond := u_ws RX2 TX2 6
theorem nmX2 : ∀ a, a < 6 → ∀ b, b < 6 → a ≠ b → (TX2 a).2.1 ≠ (TX2 b).2.1 := by decide +kernel
theorem tyX2_ok : ∀ k, k < 6 → parseFieldDescriptor (TX2 k).2.2.1 = some (tyX2 k) := by decide +kernel
abbrev cX2_init : ByteArray := prog_4_method_1_code
def yX2_init : MethodName := ⟨RX2, "<init>", "()V"⟩
abbrev cX2_size : ByteArray := prog_4_method_2_code
def yX2_size : MethodName := ⟨RX2, "size", "()I"⟩
abbrev cX2_has : ByteArray := prog_4_method_3_code
def yX2_has : MethodName := ⟨RX2, "has", "(I)Z"⟩
abbrev cX2_isFull : ByteArray := prog_4_method_4_code
def yX2_isFull : MethodName := ⟨RX2, "isFull", "()Z"⟩
abbrev cX2_timeOf : ByteArray := prog_4_method_5_code
def yX2_timeOf : MethodName := ⟨RX2, "timeOf", "(I)I"⟩
abbrev cX2_pitchOf : ByteArray := prog_4_method_6_code
def yX2_pitchOf : MethodName := ⟨RX2, "pitchOf", "(I)I"⟩
abbrev cX2_errorOf : ByteArray := prog_4_method_7_code
def yX2_errorOf : MethodName := ⟨RX2, "errorOf", "(I)I"⟩
abbrev cX2_placeFor : ByteArray := prog_4_method_8_code
def yX2_placeFor : MethodName := ⟨RX2, "placeFor", "(I)I"⟩
abbrev cX2_hasNoteAt : ByteArray := prog_4_method_9_code
def yX2_hasNoteAt : MethodName := ⟨RX2, "hasNoteAt", "(I)Z"⟩
abbrev cX2_insert : ByteArray := prog_4_method_10_code
def yX2_insert : MethodName := ⟨RX2, "insert", "(II)I"⟩
abbrev cX2_takeAway : ByteArray := prog_4_method_11_code
def yX2_takeAway : MethodName := ⟨RX2, "takeAway", "(I)V"⟩
abbrev cX2_canShift : ByteArray := prog_4_method_12_code
def yX2_canShift : MethodName := ⟨RX2, "canShift", "(III)Z"⟩
abbrev cX2_shift : ByteArray := prog_4_method_13_code
def yX2_shift : MethodName := ⟨RX2, "shift", "(III)V"⟩
abbrev cX2_beginsPhrase : ByteArray := prog_4_method_14_code
def yX2_beginsPhrase : MethodName := ⟨RX2, "beginsPhrase", "(II)Z"⟩
abbrev cX2_phraseOf : ByteArray := prog_4_method_15_code
def yX2_phraseOf : MethodName := ⟨RX2, "phraseOf", "(II)I"⟩
abbrev cX2_phrases : ByteArray := prog_4_method_16_code
def yX2_phrases : MethodName := ⟨RX2, "phrases", "(I)I"⟩
abbrev cX2_keepSilence : ByteArray := prog_4_method_17_code
def yX2_keepSilence : MethodName := ⟨RX2, "keepSilence", "(I)V"⟩
abbrev cX2_keepSound : ByteArray := prog_4_method_18_code
def yX2_keepSound : MethodName := ⟨RX2, "keepSound", "(IIIZ)V"⟩
abbrev cX2_forgetPlaying : ByteArray := prog_4_method_19_code
def yX2_forgetPlaying : MethodName := ⟨RX2, "forgetPlaying", "()V"⟩
abbrev cX2_sounded : ByteArray := prog_4_method_20_code
def yX2_sounded : MethodName := ⟨RX2, "sounded", "(I)Z"⟩
abbrev cX2_notesWith : ByteArray := prog_4_method_21_code
def yX2_notesWith : MethodName := ⟨RX2, "notesWith", "(I)I"⟩
abbrev cX2_playedNotes : ByteArray := prog_4_method_22_code
def yX2_playedNotes : MethodName := ⟨RX2, "playedNotes", "()I"⟩
abbrev cX2_property : ByteArray := prog_4_method_23_code
def yX2_property : MethodName := ⟨RX2, "property", "(III)I"⟩
abbrev cX2_errorSize : ByteArray := prog_4_method_24_code
def yX2_errorSize : MethodName := ⟨RX2, "errorSize", "(I)I"⟩
abbrev cX2_noteAtRank : ByteArray := prog_4_method_25_code
def yX2_noteAtRank : MethodName := ⟨RX2, "noteAtRank", "(I)I"⟩
abbrev cX2_rankOf : ByteArray := prog_4_method_26_code
def yX2_rankOf : MethodName := ⟨RX2, "rankOf", "(I)I"⟩
abbrev cX2_firstFalseAfter : ByteArray := prog_4_method_27_code
def yX2_firstFalseAfter : MethodName := ⟨RX2, "firstFalseAfter", "(I)I"⟩
abbrev cX2_greatestErrorAfter : ByteArray := prog_4_method_28_code
def yX2_greatestErrorAfter : MethodName := ⟨RX2, "greatestErrorAfter", "(I)I"⟩
abbrev cX2_copyFrom : ByteArray := prog_4_method_29_code
def yX2_copyFrom : MethodName := ⟨RX2, "copyFrom", "(LGlassBowls$Piece;)V"⟩
def RX3 : String := "GlassBowls$Row"
def TX3 : u_T := fun k => match k with
  | _ => ("GlassBowls$Row", "cells", "[I", true)
def tyX3 : Nat → FieldType := fun k => match k with
  | _ => .array .int
abbrev wsX30 : List Cond := u_ws RX3 TX3 1
theorem nmX3 : ∀ a, a < 1 → ∀ b, b < 1 → a ≠ b → (TX3 a).2.1 ≠ (TX3 b).2.1 := by decide +kernel
theorem tyX3_ok : ∀ k, k < 1 → parseFieldDescriptor (TX3 k).2.2.1 = some (tyX3 k) := by decide +kernel
abbrev cX3_init : ByteArray := prog_5_method_1_code
def yX3_init : MethodName := ⟨RX3, "<init>", "(I)V"⟩
abbrev cX3_get : ByteArray := prog_5_method_2_code
def yX3_get : MethodName := ⟨RX3, "get", "(I)I"⟩
abbrev cX3_put : ByteArray := prog_5_method_3_code
def yX3_put : MethodName := ⟨RX3, "put", "(II)V"⟩
abbrev cX3_add : ByteArray := prog_5_method_4_code
def yX3_add : MethodName := ⟨RX3, "add", "(II)V"⟩
abbrev cX3_insert : ByteArray := prog_5_method_5_code
def yX3_insert : MethodName := ⟨RX3, "insert", "(III)V"⟩
abbrev cX3_delete : ByteArray := prog_5_method_6_code
def yX3_delete : MethodName := ⟨RX3, "delete", "(II)V"⟩
abbrev cX3_copyFrom : ByteArray := prog_5_method_7_code
def yX3_copyFrom : MethodName := ⟨RX3, "copyFrom", "(LGlassBowls$Row;)V"⟩
def RX4 : String := "GlassBowls$Table"
def TX4 : u_T := fun k => match k with
  | 0 => ("GlassBowls$Table", "bowls", "LGlassBowls$Bowls;", true)
  | 1 => ("GlassBowls$Table", "piece", "LGlassBowls$Piece;", true)
  | 2 => ("GlassBowls$Table", "settings", "LGlassBowls$Row;", true)
  | _ => ("GlassBowls$Table", "time", "I", false)
def tyX4 : Nat → FieldType := fun k => match k with
  | 0 => .object "GlassBowls$Bowls"
  | 1 => .object "GlassBowls$Piece"
  | 2 => .object "GlassBowls$Row"
  | _ => .int
abbrev wsX40 : List Cond := u_ws RX4 TX4 4
theorem nmX4 : ∀ a, a < 4 → ∀ b, b < 4 → a ≠ b → (TX4 a).2.1 ≠ (TX4 b).2.1 := by decide +kernel
theorem tyX4_ok : ∀ k, k < 4 → parseFieldDescriptor (TX4 k).2.2.1 = some (tyX4 k) := by decide +kernel
abbrev cX4_init : ByteArray := prog_6_method_1_code
def yX4_init : MethodName := ⟨RX4, "<init>", "()V"⟩
abbrev cX4_time : ByteArray := prog_6_method_2_code
def yX4_time : MethodName := ⟨RX4, "time", "()I"⟩
abbrev cX4_setting : ByteArray := prog_6_method_3_code
def yX4_setting : MethodName := ⟨RX4, "setting", "(I)I"⟩
abbrev cX4_changeSetting : ByteArray := prog_6_method_4_code
def yX4_changeSetting : MethodName := ⟨RX4, "changeSetting", "(II)I"⟩
abbrev cX4_startAgain : ByteArray := prog_6_method_5_code
def yX4_startAgain : MethodName := ⟨RX4, "startAgain", "()V"⟩
abbrev cX4_advance : ByteArray := prog_6_method_6_code
def yX4_advance : MethodName := ⟨RX4, "advance", "(I)I"⟩
abbrev cX4_dryUntil : ByteArray := prog_6_method_7_code
def yX4_dryUntil : MethodName := ⟨RX4, "dryUntil", "(I)V"⟩
abbrev cX4_playNote : ByteArray := prog_6_method_8_code
def yX4_playNote : MethodName := ⟨RX4, "playNote", "(I)V"⟩
abbrev cX4_copyFrom : ByteArray := prog_6_method_9_code
def yX4_copyFrom : MethodName := ⟨RX4, "copyFrom", "(LGlassBowls$Table;)V"⟩
def RX5 : String := "GlassBowls$Text"
def TX5 : u_T := fun k => match k with
  | 0 => ("GlassBowls$Text", "characters", "LGlassBowls$Row;", true)
  | 1 => ("GlassBowls$Text", "length", "I", false)
  | 2 => ("GlassBowls$Text", "place", "I", false)
  | 3 => ("GlassBowls$Text", "time", "I", false)
  | 4 => ("GlassBowls$Text", "pitch", "I", false)
  | 5 => ("GlassBowls$Text", "notesRead", "I", false)
  | 6 => ("GlassBowls$Text", "faultPlace", "I", false)
  | _ => ("GlassBowls$Text", "faultReason", "I", false)
def tyX5 : Nat → FieldType := fun k => match k with
  | 0 => .object "GlassBowls$Row"
  | 1 => .int
  | 2 => .int
  | 3 => .int
  | 4 => .int
  | 5 => .int
  | 6 => .int
  | _ => .int
abbrev wsX50 : List Cond := u_ws RX5 TX5 8
theorem nmX5 : ∀ a, a < 8 → ∀ b, b < 8 → a ≠ b → (TX5 a).2.1 ≠ (TX5 b).2.1 := by decide +kernel
theorem tyX5_ok : ∀ k, k < 8 → parseFieldDescriptor (TX5 k).2.2.1 = some (tyX5 k) := by decide +kernel
abbrev cX5_init : ByteArray := prog_7_method_1_code
def yX5_init : MethodName := ⟨RX5, "<init>", "()V"⟩
abbrev cX5_length : ByteArray := prog_7_method_2_code
def yX5_length : MethodName := ⟨RX5, "length", "()I"⟩
abbrev cX5_notesRead : ByteArray := prog_7_method_3_code
def yX5_notesRead : MethodName := ⟨RX5, "notesRead", "()I"⟩
abbrev cX5_faultPlace : ByteArray := prog_7_method_4_code
def yX5_faultPlace : MethodName := ⟨RX5, "faultPlace", "()I"⟩
abbrev cX5_faultReason : ByteArray := prog_7_method_5_code
def yX5_faultReason : MethodName := ⟨RX5, "faultReason", "()I"⟩
abbrev cX5_append : ByteArray := prog_7_method_6_code
def yX5_append : MethodName := ⟨RX5, "append", "(I)V"⟩
abbrev cX5_empty : ByteArray := prog_7_method_7_code
def yX5_empty : MethodName := ⟨RX5, "empty", "()V"⟩
abbrev cX5_readInto : ByteArray := prog_7_method_8_code
def yX5_readInto : MethodName := ⟨RX5, "readInto", "(LGlassBowls$Piece;)V"⟩
abbrev cX5_reasonAgainstNext : ByteArray := prog_7_method_9_code
def yX5_reasonAgainstNext : MethodName := ⟨RX5, "reasonAgainstNext", "(LGlassBowls$Piece;)I"⟩
abbrev cX5_readNote : ByteArray := prog_7_method_10_code
def yX5_readNote : MethodName := ⟨RX5, "readNote", "()Z"⟩
abbrev cX5_readNumber : ByteArray := prog_7_method_11_code
def yX5_readNumber : MethodName := ⟨RX5, "readNumber", "()I"⟩
abbrev cX5_readCharacter : ByteArray := prog_7_method_12_code
def yX5_readCharacter : MethodName := ⟨RX5, "readCharacter", "(I)Z"⟩
def RX6 : String := "GlassBowls"
def TX6 : u_T := fun k => match k with
  | 0 => ("GlassBowls", "table", "LGlassBowls$Table;", true)
  | 1 => ("GlassBowls", "trial", "LGlassBowls$Table;", true)
  | 2 => ("GlassBowls", "history", "LGlassBowls$History;", true)
  | _ => ("GlassBowls", "text", "LGlassBowls$Text;", true)
def tyX6 : Nat → FieldType := fun k => match k with
  | 0 => .object "GlassBowls$Table"
  | 1 => .object "GlassBowls$Table"
  | 2 => .object "GlassBowls$History"
  | _ => .object "GlassBowls$Text"
abbrev wsX60 : List Cond := u_ws RX6 TX6 4
theorem nmX6 : ∀ a, a < 4 → ∀ b, b < 4 → a ≠ b → (TX6 a).2.1 ≠ (TX6 b).2.1 := by decide +kernel
theorem tyX6_ok : ∀ k, k < 4 → parseFieldDescriptor (TX6 k).2.2.1 = some (tyX6 k) := by decide +kernel
abbrev cX6_init : ByteArray := prog_1_method_1_code
def yX6_init : MethodName := ⟨RX6, "<init>", "()V"⟩
abbrev cX6_bowl : ByteArray := prog_1_method_2_code
def yX6_bowl : MethodName := ⟨RX6, "bowl", "(II)I"⟩
abbrev cX6_remove : ByteArray := prog_1_method_3_code
def yX6_remove : MethodName := ⟨RX6, "remove", "(I)I"⟩
abbrev cX6_pour : ByteArray := prog_1_method_4_code
def yX6_pour : MethodName := ⟨RX6, "pour", "(II)I"⟩
abbrev cX6_spill : ByteArray := prog_1_method_5_code
def yX6_spill : MethodName := ⟨RX6, "spill", "(II)I"⟩
abbrev cX6_crack : ByteArray := prog_1_method_6_code
def yX6_crack : MethodName := ⟨RX6, "crack", "(II)I"⟩
abbrev cX6_mark : ByteArray := prog_1_method_7_code
def yX6_mark : MethodName := ⟨RX6, "mark", "(II)I"⟩
abbrev cX6_bowlOf : ByteArray := prog_1_method_8_code
def yX6_bowlOf : MethodName := ⟨RX6, "bowlOf", "(II)I"⟩
abbrev cX6_levelFor : ByteArray := prog_1_method_9_code
def yX6_levelFor : MethodName := ⟨RX6, "levelFor", "(II)I"⟩
abbrev cX6_nearest : ByteArray := prog_1_method_10_code
def yX6_nearest : MethodName := ⟨RX6, "nearest", "(I)I"⟩
abbrev cX6_set : ByteArray := prog_1_method_11_code
def yX6_set : MethodName := ⟨RX6, "set", "(II)I"⟩
abbrev cX6_count : ByteArray := prog_1_method_12_code
def yX6_count : MethodName := ⟨RX6, "count", "(I)I"⟩
abbrev cX6_undo : ByteArray := prog_1_method_13_code
def yX6_undo : MethodName := ⟨RX6, "undo", "()I"⟩
abbrev cX6_note : ByteArray := prog_1_method_14_code
def yX6_note : MethodName := ⟨RX6, "note", "(II)I"⟩
abbrev cX6_drop : ByteArray := prog_1_method_15_code
def yX6_drop : MethodName := ⟨RX6, "drop", "(I)I"⟩
abbrev cX6_transpose : ByteArray := prog_1_method_16_code
def yX6_transpose : MethodName := ⟨RX6, "transpose", "(III)I"⟩
abbrev cX6_noteOf : ByteArray := prog_1_method_17_code
def yX6_noteOf : MethodName := ⟨RX6, "noteOf", "(II)I"⟩
abbrev cX6_run : ByteArray := prog_1_method_18_code
def yX6_run : MethodName := ⟨RX6, "run", "(I)I"⟩
abbrev cX6_rewind : ByteArray := prog_1_method_19_code
def yX6_rewind : MethodName := ⟨RX6, "rewind", "()I"⟩
abbrev cX6_worst : ByteArray := prog_1_method_20_code
def yX6_worst : MethodName := ⟨RX6, "worst", "(I)I"⟩
abbrev cX6_wouldBe : ByteArray := prog_1_method_21_code
def yX6_wouldBe : MethodName := ⟨RX6, "wouldBe", "(I)I"⟩
abbrev cX6_firstFalse : ByteArray := prog_1_method_22_code
def yX6_firstFalse : MethodName := ⟨RX6, "firstFalse", "()I"⟩
abbrev cX6_leastTolerance : ByteArray := prog_1_method_23_code
def yX6_leastTolerance : MethodName := ⟨RX6, "leastTolerance", "()I"⟩
abbrev cX6_pitchAt : ByteArray := prog_1_method_24_code
def yX6_pitchAt : MethodName := ⟨RX6, "pitchAt", "(II)I"⟩
abbrev cX6_type : ByteArray := prog_1_method_25_code
def yX6_type : MethodName := ⟨RX6, "type", "(I)I"⟩
abbrev cX6_clearText : ByteArray := prog_1_method_26_code
def yX6_clearText : MethodName := ⟨RX6, "clearText", "()I"⟩
abbrev cX6_fault : ByteArray := prog_1_method_27_code
def yX6_fault : MethodName := ⟨RX6, "fault", "(I)I"⟩
abbrev cX6_enter : ByteArray := prog_1_method_28_code
def yX6_enter : MethodName := ⟨RX6, "enter", "()I"⟩
abbrev cX6_isWithin : ByteArray := prog_1_method_29_code
def yX6_isWithin : MethodName := ⟨RX6, "isWithin", "(III)Z"⟩
abbrev cX6_isSetting : ByteArray := prog_1_method_30_code
def yX6_isSetting : MethodName := ⟨RX6, "isSetting", "(II)Z"⟩
abbrev cX6_orNotFound : ByteArray := prog_1_method_31_code
def yX6_orNotFound : MethodName := ⟨RX6, "orNotFound", "(I)I"⟩
abbrev cX6_oneIf : ByteArray := prog_1_method_32_code
def yX6_oneIf : MethodName := ⟨RX6, "oneIf", "(Z)I"⟩
abbrev cX6_tryOut : ByteArray := prog_1_method_33_code
def yX6_tryOut : MethodName := ⟨RX6, "tryOut", "(I)V"⟩
abbrev cX6_tryText : ByteArray := prog_1_method_34_code
def yX6_tryText : MethodName := ⟨RX6, "tryText", "()V"⟩
def RX7 : String := "GlassBowlsModel"
def TX7 : u_T := fun k => match k with
  | _ => ("", "", "", false)
def tyX7 : Nat → FieldType := fun k => match k with
  | _ => .int
abbrev wsX70 : List Cond := u_ws RX7 TX7 0
theorem nmX7 : ∀ a, a < 0 → ∀ b, b < 0 → a ≠ b → (TX7 a).2.1 ≠ (TX7 b).2.1 := by decide +kernel
theorem tyX7_ok : ∀ k, k < 0 → parseFieldDescriptor (TX7 k).2.2.1 = some (tyX7 k) := by decide +kernel
def RJ9 : String := "java/lang/Math"
def TJ9 : u_T := fun k => match k with
  | _ => ("", "", "", false)
def tyJ9 : Nat → FieldType := fun k => match k with
  | _ => .int
abbrev wsJ90 : List Cond := u_ws RJ9 TJ9 0
theorem nmJ9 : ∀ a, a < 0 → ∀ b, b < 0 → a ≠ b → (TJ9 a).2.1 ≠ (TJ9 b).2.1 := by decide +kernel
theorem tyJ9_ok : ∀ k, k < 0 → parseFieldDescriptor (TJ9 k).2.2.1 = some (tyJ9 k) := by decide +kernel
abbrev cJ9_abs_0f7a4 : ByteArray := prog_10_method_59_code
def yJ9_abs_0f7a4 : MethodName := ⟨RJ9, "abs", "(I)I"⟩
abbrev cJ9_max_7cf53 : ByteArray := prog_10_method_65_code
def yJ9_max_7cf53 : MethodName := ⟨RJ9, "max", "(II)I"⟩
abbrev cJ9_min_7cf53 : ByteArray := prog_10_method_69_code
def yJ9_min_7cf53 : MethodName := ⟨RJ9, "min", "(II)I"⟩
def RJ10 : String := "java/lang/System"
def TJ10 : u_T := fun k => match k with
  | _ => ("", "", "", false)
def tyJ10 : Nat → FieldType := fun k => match k with
  | _ => .int
abbrev wsJ100 : List Cond := u_ws RJ10 TJ10 0
theorem nmJ10 : ∀ a, a < 0 → ∀ b, b < 0 → a ≠ b → (TJ10 a).2.1 ≠ (TJ10 b).2.1 := by decide +kernel
theorem tyJ10_ok : ∀ k, k < 0 → parseFieldDescriptor (TJ10 k).2.2.1 = some (tyJ10 k) := by decide +kernel
def RL : String := "GlassBowlsLaw"
abbrev cL_part : ByteArray := method_2_code
def yL_part : MethodName := ⟨RL, "part", "(II)I"⟩
abbrev cL_take : ByteArray := method_3_code
def yL_take : MethodName := ⟨RL, "take", "([II)I"⟩
abbrev cL_mixed : ByteArray := method_4_code
def yL_mixed : MethodName := ⟨RL, "mixed", "(JJ)J"⟩
abbrev cL_state : ByteArray := method_5_code
def yL_state : MethodName := ⟨RL, "state", "(LGlassBowls;)J"⟩
abbrev cL_refusesBowls : ByteArray := method_6_code
def yL_refusesBowls : MethodName := ⟨RL, "refusesBowls", "(LGlassBowls;)Z"⟩
abbrev cL_refusesNotes : ByteArray := method_7_code
def yL_refusesNotes : MethodName := ⟨RL, "refusesNotes", "(LGlassBowls;)Z"⟩
abbrev cL_refused : ByteArray := method_8_code
def yL_refused : MethodName := ⟨RL, "refused", "(LGlassBowls;)Z"⟩
abbrev cL_types : ByteArray := method_9_code
def yL_types : MethodName := ⟨RL, "types", "(LGlassBowls;J)V"⟩
abbrev cL_isFault : ByteArray := method_10_code
def yL_isFault : MethodName := ⟨RL, "isFault", "(LGlassBowls;JJII)Z"⟩
abbrev cL_texts : ByteArray := method_11_code
def yL_texts : MethodName := ⟨RL, "texts", "()Z"⟩
abbrev cL_known : ByteArray := method_12_code
def yL_known : MethodName := ⟨RL, "known", "()Z"⟩
abbrev cL_law : ByteArray := code
def yL_law : MethodName := ⟨RL, "law", "([I)Z"⟩
abbrev vwCl : List vw_C := [(RX0, TX0, 10), (RX1, TX1, 3), (RX2, TX2, 6), (RX3, TX3, 1), (RX4, TX4, 4), (RX5, TX5, 8), (RX6, TX6, 4)]
def gWs : List Cond := lw_tbl.filter goodWord
theorem gWs_of {w : Cond} {i : Nat} (h : lw_tbl[i]? = some w) (hg : goodWord w = true) : w ∈ gWs := List.mem_filter.mpr ⟨List.mem_of_getElem? h, hg⟩
theorem gWs_self {ws : List Cond} (h : ∀ w ∈ ws, w ∈ gWs) : GoodIn gWs ws := fun w hw => ⟨h w hw, good_of_word (List.mem_filter.mp (h w hw)).2⟩
theorem gWs_in : ∀ w ∈ gWs, w ∈ lw_tbl := fun _ h => (List.mem_filter.mp h).1
theorem inX0 : ∀ w ∈ wsX00, w ∈ gWs := fun w h => List.mem_filter.mpr ⟨(by decide +kernel : ∀ w ∈ wsX00, w ∈ lw_tbl) w h, (by decide +kernel : ∀ w ∈ wsX00, goodWord w = true) w h⟩
theorem inX1 : ∀ w ∈ wsX10, w ∈ gWs := fun w h => List.mem_filter.mpr ⟨(by decide +kernel : ∀ w ∈ wsX10, w ∈ lw_tbl) w h, (by decide +kernel : ∀ w ∈ wsX10, goodWord w = true) w h⟩
theorem inX2 : ∀ w ∈ wsX20, w ∈ gWs := fun w h => List.mem_filter.mpr ⟨(by decide +kernel : ∀ w ∈ wsX20, w ∈ lw_tbl) w h, (by decide +kernel : ∀ w ∈ wsX20, goodWord w = true) w h⟩
theorem inX3 : ∀ w ∈ wsX30, w ∈ gWs := fun w h => List.mem_filter.mpr ⟨(by decide +kernel : ∀ w ∈ wsX30, w ∈ lw_tbl) w h, (by decide +kernel : ∀ w ∈ wsX30, goodWord w = true) w h⟩
theorem inX4 : ∀ w ∈ wsX40, w ∈ gWs := fun w h => List.mem_filter.mpr ⟨(by decide +kernel : ∀ w ∈ wsX40, w ∈ lw_tbl) w h, (by decide +kernel : ∀ w ∈ wsX40, goodWord w = true) w h⟩
theorem inX5 : ∀ w ∈ wsX50, w ∈ gWs := fun w h => List.mem_filter.mpr ⟨(by decide +kernel : ∀ w ∈ wsX50, w ∈ lw_tbl) w h, (by decide +kernel : ∀ w ∈ wsX50, goodWord w = true) w h⟩
theorem inX6 : ∀ w ∈ wsX60, w ∈ gWs := fun w h => List.mem_filter.mpr ⟨(by decide +kernel : ∀ w ∈ wsX60, w ∈ lw_tbl) w h, (by decide +kernel : ∀ w ∈ wsX60, goodWord w = true) w h⟩
end
section
theorem kw_in_RL : Cond.initialized RL ∈ gWs := gWs_of (i := 17) (by decide +kernel) (by decide +kernel)
theorem kw_in_RX6 : Cond.initialized RX6 ∈ gWs := gWs_of (i := 18) (by decide +kernel) (by decide +kernel)
theorem kw_in_RX4 : Cond.initialized RX4 ∈ gWs := gWs_of (i := 19) (by decide +kernel) (by decide +kernel)
theorem kw_in_RX0 : Cond.initialized RX0 ∈ gWs := gWs_of (i := 20) (by decide +kernel) (by decide +kernel)
theorem kw_in_RX3 : Cond.initialized RX3 ∈ gWs := gWs_of (i := 21) (by decide +kernel) (by decide +kernel)
theorem kw_in_RJ9 : Cond.initialized "java/lang/Math" ∈ gWs := gWs_of (i := 22) (by decide +kernel) (by decide +kernel)
theorem kw_in_RX2 : Cond.initialized RX2 ∈ gWs := gWs_of (i := 23) (by decide +kernel) (by decide +kernel)
theorem kw_in_RX1 : Cond.initialized RX1 ∈ gWs := gWs_of (i := 24) (by decide +kernel) (by decide +kernel)
theorem kw_in_RX5 : Cond.initialized RX5 ∈ gWs := gWs_of (i := 25) (by decide +kernel) (by decide +kernel)
theorem kw_in_RJ10 : Cond.initialized "java/lang/System" ∈ gWs := gWs_of (i := 26) (by decide +kernel) (by decide +kernel)
theorem kw_cl_RL_14 : Cond.classLink RL 14 RX6 ∈ gWs := gWs_of (i := 27) (by decide +kernel) (by decide +kernel)
theorem kw_it_RX6 : Cond.instantiable RX6 4 ∈ gWs := gWs_of (i := 28) (by decide +kernel) (by decide +kernel)
theorem kw_ml_RL_117 : Cond.methodLink RL 117 yX6_init ∈ gWs := gWs_of (i := 29) (by decide +kernel) (by decide +kernel)
theorem kw_im_X6_init : Cond.instanceMethod yX6_init ∈ gWs := gWs_of (i := 30) (by decide +kernel) (by decide +kernel)
theorem kw_co_X6_init : Cond.code yX6_init cX6_init 1 none ∈ gWs := gWs_of (i := 31) (by decide +kernel) (by decide +kernel)
theorem kw_ml_RX6_1 : Cond.methodLink RX6 1 objectInit ∈ gWs := gWs_of (i := 32) (by decide +kernel) (by decide +kernel)
theorem kw_im_obj : Cond.instanceMethod objectInit ∈ gWs := gWs_of (i := 33) (by decide +kernel) (by decide +kernel)
theorem kw_co_obj : Cond.code objectInit ⟨#[0xb1]⟩ 1 none ∈ gWs := gWs_of (i := 34) (by decide +kernel) (by decide +kernel)
theorem kw_cl_RX6_7 : Cond.classLink RX6 7 RX4 ∈ gWs := gWs_of (i := 35) (by decide +kernel) (by decide +kernel)
theorem kw_it_RX4 : Cond.instantiable RX4 4 ∈ gWs := gWs_of (i := 36) (by decide +kernel) (by decide +kernel)
theorem kw_ml_RX6_9 : Cond.methodLink RX6 9 yX4_init ∈ gWs := gWs_of (i := 37) (by decide +kernel) (by decide +kernel)
theorem kw_im_X4_init : Cond.instanceMethod yX4_init ∈ gWs := gWs_of (i := 38) (by decide +kernel) (by decide +kernel)
theorem kw_co_X4_init : Cond.code yX4_init cX4_init 1 none ∈ gWs := gWs_of (i := 39) (by decide +kernel) (by decide +kernel)
theorem kw_ml_RX4_3 : Cond.methodLink RX4 3 objectInit ∈ gWs := gWs_of (i := 40) (by decide +kernel) (by decide +kernel)
theorem kw_cl_RX4_9 : Cond.classLink RX4 9 RX0 ∈ gWs := gWs_of (i := 41) (by decide +kernel) (by decide +kernel)
theorem kw_it_RX0 : Cond.instantiable RX0 10 ∈ gWs := gWs_of (i := 42) (by decide +kernel) (by decide +kernel)
theorem kw_im_X0_init : Cond.instanceMethod yX0_init ∈ gWs := gWs_of (i := 44) (by decide +kernel) (by decide +kernel)
theorem kw_co_X0_init : Cond.code yX0_init cX0_init 1 none ∈ gWs := gWs_of (i := 45) (by decide +kernel) (by decide +kernel)
theorem kw_ml_RX0_3 : Cond.methodLink RX0 3 objectInit ∈ gWs := gWs_of (i := 46) (by decide +kernel) (by decide +kernel)
theorem kw_cl_RX0_9 : Cond.classLink RX0 9 RX3 ∈ gWs := gWs_of (i := 47) (by decide +kernel) (by decide +kernel)
theorem kw_it_RX3 : Cond.instantiable RX3 1 ∈ gWs := gWs_of (i := 48) (by decide +kernel) (by decide +kernel)
theorem kw_ml_RX0_11 : Cond.methodLink RX0 11 yX3_init ∈ gWs := gWs_of (i := 49) (by decide +kernel) (by decide +kernel)
theorem kw_im_X3_init : Cond.instanceMethod yX3_init ∈ gWs := gWs_of (i := 50) (by decide +kernel) (by decide +kernel)
theorem kw_co_X3_init : Cond.code yX3_init cX3_init 2 none ∈ gWs := gWs_of (i := 51) (by decide +kernel) (by decide +kernel)
theorem kw_ml_RX3_1 : Cond.methodLink RX3 1 objectInit ∈ gWs := gWs_of (i := 52) (by decide +kernel) (by decide +kernel)
theorem kw_ml_RX3_7 : Cond.methodLink RX3 7 Lib.Math.max.name ∈ gWs := gWs_of (i := 53) (by decide +kernel) (by decide +kernel)
theorem kw_st_max : Cond.static Lib.Math.max.name ∈ gWs := gWs_of (i := 54) (by decide +kernel) (by decide +kernel)
theorem kw_co_max : Cond.code Lib.Math.max.name Lib.Math.max.code 2 (some .int) ∈ gWs := gWs_of (i := 55) (by decide +kernel) (by decide +kernel)
theorem kw_fl_RX3_13 : Cond.fieldLink RX3 13 "GlassBowls$Row" "cells" "[I" ∈ gWs := gWs_of (i := 56) (by decide +kernel) (by decide +kernel)
theorem kw_ac_int : Cond.arrayClass .int ∈ gWs := gWs_of (i := 60) (by decide +kernel) (by decide +kernel)
theorem kw_fl_RX0_14 : Cond.fieldLink RX0 14 "GlassBowls$Bowls" "base" "LGlassBowls$Row;" ∈ gWs := gWs_of (i := 61) (by decide +kernel) (by decide +kernel)
theorem kw_fl_RX0_20 : Cond.fieldLink RX0 20 "GlassBowls$Bowls" "depth" "LGlassBowls$Row;" ∈ gWs := gWs_of (i := 62) (by decide +kernel) (by decide +kernel)
theorem kw_fl_RX0_23 : Cond.fieldLink RX0 23 "GlassBowls$Bowls" "level" "LGlassBowls$Row;" ∈ gWs := gWs_of (i := 63) (by decide +kernel) (by decide +kernel)
theorem kw_fl_RX0_26 : Cond.fieldLink RX0 26 "GlassBowls$Bowls" "mark" "LGlassBowls$Row;" ∈ gWs := gWs_of (i := 64) (by decide +kernel) (by decide +kernel)
theorem kw_fl_RX0_29 : Cond.fieldLink RX0 29 "GlassBowls$Bowls" "crack" "LGlassBowls$Row;" ∈ gWs := gWs_of (i := 65) (by decide +kernel) (by decide +kernel)
theorem kw_fl_RX0_32 : Cond.fieldLink RX0 32 "GlassBowls$Bowls" "size" "I" ∈ gWs := gWs_of (i := 66) (by decide +kernel) (by decide +kernel)
theorem kw_fl_RX0_36 : Cond.fieldLink RX0 36 "GlassBowls$Bowls" "poured" "I" ∈ gWs := gWs_of (i := 67) (by decide +kernel) (by decide +kernel)
theorem kw_fl_RX0_39 : Cond.fieldLink RX0 39 "GlassBowls$Bowls" "dried" "I" ∈ gWs := gWs_of (i := 68) (by decide +kernel) (by decide +kernel)
theorem kw_fl_RX0_42 : Cond.fieldLink RX0 42 "GlassBowls$Bowls" "lost" "I" ∈ gWs := gWs_of (i := 69) (by decide +kernel) (by decide +kernel)
theorem kw_fl_RX0_45 : Cond.fieldLink RX0 45 "GlassBowls$Bowls" "takenOut" "I" ∈ gWs := gWs_of (i := 70) (by decide +kernel) (by decide +kernel)
theorem kw_cl_RX4_18 : Cond.classLink RX4 18 RX2 ∈ gWs := gWs_of (i := 92) (by decide +kernel) (by decide +kernel)
theorem kw_it_RX2 : Cond.instantiable RX2 6 ∈ gWs := gWs_of (i := 93) (by decide +kernel) (by decide +kernel)
theorem kw_im_X2_init : Cond.instanceMethod yX2_init ∈ gWs := gWs_of (i := 95) (by decide +kernel) (by decide +kernel)
theorem kw_co_X2_init : Cond.code yX2_init cX2_init 1 none ∈ gWs := gWs_of (i := 96) (by decide +kernel) (by decide +kernel)
theorem kw_ml_RX2_3 : Cond.methodLink RX2 3 objectInit ∈ gWs := gWs_of (i := 97) (by decide +kernel) (by decide +kernel)
theorem kw_cl_RX2_9 : Cond.classLink RX2 9 RX3 ∈ gWs := gWs_of (i := 98) (by decide +kernel) (by decide +kernel)
theorem kw_ml_RX2_11 : Cond.methodLink RX2 11 yX3_init ∈ gWs := gWs_of (i := 99) (by decide +kernel) (by decide +kernel)
theorem kw_fl_RX2_14 : Cond.fieldLink RX2 14 "GlassBowls$Piece" "time" "LGlassBowls$Row;" ∈ gWs := gWs_of (i := 100) (by decide +kernel) (by decide +kernel)
theorem kw_fl_RX2_20 : Cond.fieldLink RX2 20 "GlassBowls$Piece" "pitch" "LGlassBowls$Row;" ∈ gWs := gWs_of (i := 101) (by decide +kernel) (by decide +kernel)
theorem kw_fl_RX2_23 : Cond.fieldLink RX2 23 "GlassBowls$Piece" "outcome" "LGlassBowls$Row;" ∈ gWs := gWs_of (i := 102) (by decide +kernel) (by decide +kernel)
theorem kw_fl_RX2_26 : Cond.fieldLink RX2 26 "GlassBowls$Piece" "bowl" "LGlassBowls$Row;" ∈ gWs := gWs_of (i := 103) (by decide +kernel) (by decide +kernel)
theorem kw_fl_RX2_29 : Cond.fieldLink RX2 29 "GlassBowls$Piece" "error" "LGlassBowls$Row;" ∈ gWs := gWs_of (i := 104) (by decide +kernel) (by decide +kernel)
theorem kw_fl_RX2_32 : Cond.fieldLink RX2 32 "GlassBowls$Piece" "size" "I" ∈ gWs := gWs_of (i := 105) (by decide +kernel) (by decide +kernel)
theorem kw_cl_RX4_25 : Cond.classLink RX4 25 RX3 ∈ gWs := gWs_of (i := 119) (by decide +kernel) (by decide +kernel)
theorem kw_ml_RX4_27 : Cond.methodLink RX4 27 yX3_init ∈ gWs := gWs_of (i := 120) (by decide +kernel) (by decide +kernel)
theorem kw_ml_RX4_38 : Cond.methodLink RX4 38 yX3_put ∈ gWs := gWs_of (i := 121) (by decide +kernel) (by decide +kernel)
theorem kw_im_X3_put : Cond.instanceMethod yX3_put ∈ gWs := gWs_of (i := 122) (by decide +kernel) (by decide +kernel)
theorem kw_se_X3_put : Cond.selects RX3 yX3_put yX3_put ∈ gWs := gWs_of (i := 123) (by decide +kernel) (by decide +kernel)
theorem kw_co_X3_put : Cond.code yX3_put cX3_put 3 none ∈ gWs := gWs_of (i := 124) (by decide +kernel) (by decide +kernel)
theorem kw_fl_RX4_12 : Cond.fieldLink RX4 12 "GlassBowls$Table" "bowls" "LGlassBowls$Bowls;" ∈ gWs := gWs_of (i := 125) (by decide +kernel) (by decide +kernel)
theorem kw_fl_RX4_21 : Cond.fieldLink RX4 21 "GlassBowls$Table" "piece" "LGlassBowls$Piece;" ∈ gWs := gWs_of (i := 127) (by decide +kernel) (by decide +kernel)
theorem kw_fl_RX4_30 : Cond.fieldLink RX4 30 "GlassBowls$Table" "settings" "LGlassBowls$Row;" ∈ gWs := gWs_of (i := 129) (by decide +kernel) (by decide +kernel)
theorem kw_fl_RX4_34 : Cond.fieldLink RX4 34 "GlassBowls$Table" "time" "I" ∈ gWs := gWs_of (i := 130) (by decide +kernel) (by decide +kernel)
theorem kw_cl_RX6_19 : Cond.classLink RX6 19 RX1 ∈ gWs := gWs_of (i := 140) (by decide +kernel) (by decide +kernel)
theorem kw_it_RX1 : Cond.instantiable RX1 3 ∈ gWs := gWs_of (i := 141) (by decide +kernel) (by decide +kernel)
theorem kw_ml_RX6_21 : Cond.methodLink RX6 21 yX1_init ∈ gWs := gWs_of (i := 142) (by decide +kernel) (by decide +kernel)
theorem kw_im_X1_init : Cond.instanceMethod yX1_init ∈ gWs := gWs_of (i := 143) (by decide +kernel) (by decide +kernel)
theorem kw_co_X1_init : Cond.code yX1_init cX1_init 2 none ∈ gWs := gWs_of (i := 144) (by decide +kernel) (by decide +kernel)
theorem kw_ml_RX1_3 : Cond.methodLink RX1 3 objectInit ∈ gWs := gWs_of (i := 145) (by decide +kernel) (by decide +kernel)
theorem kw_cl_RX1_9 : Cond.classLink RX1 9 RX4 ∈ gWs := gWs_of (i := 146) (by decide +kernel) (by decide +kernel)
theorem kw_ml_RX1_24 : Cond.methodLink RX1 24 yX4_init ∈ gWs := gWs_of (i := 148) (by decide +kernel) (by decide +kernel)
theorem kw_fl_RX1_11 : Cond.fieldLink RX1 11 "GlassBowls$History" "states" "[LGlassBowls$Table;" ∈ gWs := gWs_of (i := 149) (by decide +kernel) (by decide +kernel)
theorem kw_fl_RX1_17 : Cond.fieldLink RX1 17 "GlassBowls$History" "next" "I" ∈ gWs := gWs_of (i := 150) (by decide +kernel) (by decide +kernel)
theorem kw_fl_RX1_21 : Cond.fieldLink RX1 21 "GlassBowls$History" "size" "I" ∈ gWs := gWs_of (i := 151) (by decide +kernel) (by decide +kernel)
theorem kw_cl_RX6_26 : Cond.classLink RX6 26 RX5 ∈ gWs := gWs_of (i := 159) (by decide +kernel) (by decide +kernel)
theorem kw_it_RX5 : Cond.instantiable RX5 8 ∈ gWs := gWs_of (i := 160) (by decide +kernel) (by decide +kernel)
theorem kw_im_X5_init : Cond.instanceMethod yX5_init ∈ gWs := gWs_of (i := 162) (by decide +kernel) (by decide +kernel)
theorem kw_co_X5_init : Cond.code yX5_init cX5_init 1 none ∈ gWs := gWs_of (i := 163) (by decide +kernel) (by decide +kernel)
theorem kw_ml_RX5_3 : Cond.methodLink RX5 3 objectInit ∈ gWs := gWs_of (i := 164) (by decide +kernel) (by decide +kernel)
theorem kw_cl_RX5_9 : Cond.classLink RX5 9 RX3 ∈ gWs := gWs_of (i := 165) (by decide +kernel) (by decide +kernel)
theorem kw_ml_RX5_11 : Cond.methodLink RX5 11 yX3_init ∈ gWs := gWs_of (i := 166) (by decide +kernel) (by decide +kernel)
theorem kw_fl_RX5_14 : Cond.fieldLink RX5 14 "GlassBowls$Text" "characters" "LGlassBowls$Row;" ∈ gWs := gWs_of (i := 167) (by decide +kernel) (by decide +kernel)
theorem kw_fl_RX5_20 : Cond.fieldLink RX5 20 "GlassBowls$Text" "length" "I" ∈ gWs := gWs_of (i := 168) (by decide +kernel) (by decide +kernel)
theorem kw_fl_RX5_24 : Cond.fieldLink RX5 24 "GlassBowls$Text" "place" "I" ∈ gWs := gWs_of (i := 169) (by decide +kernel) (by decide +kernel)
theorem kw_fl_RX5_27 : Cond.fieldLink RX5 27 "GlassBowls$Text" "time" "I" ∈ gWs := gWs_of (i := 170) (by decide +kernel) (by decide +kernel)
theorem kw_fl_RX5_30 : Cond.fieldLink RX5 30 "GlassBowls$Text" "pitch" "I" ∈ gWs := gWs_of (i := 171) (by decide +kernel) (by decide +kernel)
theorem kw_fl_RX5_33 : Cond.fieldLink RX5 33 "GlassBowls$Text" "notesRead" "I" ∈ gWs := gWs_of (i := 172) (by decide +kernel) (by decide +kernel)
theorem kw_fl_RX5_36 : Cond.fieldLink RX5 36 "GlassBowls$Text" "faultPlace" "I" ∈ gWs := gWs_of (i := 173) (by decide +kernel) (by decide +kernel)
theorem kw_fl_RX5_39 : Cond.fieldLink RX5 39 "GlassBowls$Text" "faultReason" "I" ∈ gWs := gWs_of (i := 174) (by decide +kernel) (by decide +kernel)
theorem kw_fl_RX6_10 : Cond.fieldLink RX6 10 "GlassBowls" "table" "LGlassBowls$Table;" ∈ gWs := gWs_of (i := 192) (by decide +kernel) (by decide +kernel)
theorem kw_fl_RX6_16 : Cond.fieldLink RX6 16 "GlassBowls" "trial" "LGlassBowls$Table;" ∈ gWs := gWs_of (i := 193) (by decide +kernel) (by decide +kernel)
theorem kw_fl_RX6_22 : Cond.fieldLink RX6 22 "GlassBowls" "history" "LGlassBowls$History;" ∈ gWs := gWs_of (i := 194) (by decide +kernel) (by decide +kernel)
theorem kw_fl_RX6_29 : Cond.fieldLink RX6 29 "GlassBowls" "text" "LGlassBowls$Text;" ∈ gWs := gWs_of (i := 195) (by decide +kernel) (by decide +kernel)
theorem kw_ml_RL_32 : Cond.methodLink RL 32 yX6_bowl ∈ gWs := gWs_of (i := 205) (by decide +kernel) (by decide +kernel)
theorem kw_im_X6_bowl : Cond.instanceMethod yX6_bowl ∈ gWs := gWs_of (i := 206) (by decide +kernel) (by decide +kernel)
theorem kw_se_X6_bowl : Cond.selects RX6 yX6_bowl yX6_bowl ∈ gWs := gWs_of (i := 207) (by decide +kernel) (by decide +kernel)
theorem kw_co_X6_bowl : Cond.code yX6_bowl cX6_bowl 3 (some .int) ∈ gWs := gWs_of (i := 208) (by decide +kernel) (by decide +kernel)
theorem kw_ml_RX6_33 : Cond.methodLink RX6 33 yX6_isWithin ∈ gWs := gWs_of (i := 209) (by decide +kernel) (by decide +kernel)
theorem kw_st_X6_isWithin : Cond.static yX6_isWithin ∈ gWs := gWs_of (i := 210) (by decide +kernel) (by decide +kernel)
theorem kw_co_X6_isWithin : Cond.code yX6_isWithin cX6_isWithin 3 (some .boolean) ∈ gWs := gWs_of (i := 211) (by decide +kernel) (by decide +kernel)
theorem kw_k_RX6_37 : Cond.constant RX6 37 (-100001) ∈ gWs := gWs_of (i := 212) (by decide +kernel) (by decide +kernel)
theorem kw_ml_RX6_42 : Cond.methodLink RX6 42 yX0_size ∈ gWs := gWs_of (i := 213) (by decide +kernel) (by decide +kernel)
theorem kw_im_X0_size : Cond.instanceMethod yX0_size ∈ gWs := gWs_of (i := 214) (by decide +kernel) (by decide +kernel)
theorem kw_se_X0_size : Cond.selects RX0 yX0_size yX0_size ∈ gWs := gWs_of (i := 215) (by decide +kernel) (by decide +kernel)
theorem kw_co_X0_size : Cond.code yX0_size cX0_size 1 (some .int) ∈ gWs := gWs_of (i := 216) (by decide +kernel) (by decide +kernel)
theorem kw_k_RX6_48 : Cond.constant RX6 48 (-100003) ∈ gWs := gWs_of (i := 217) (by decide +kernel) (by decide +kernel)
theorem kw_ml_RX6_49 : Cond.methodLink RX6 49 yX1_record ∈ gWs := gWs_of (i := 218) (by decide +kernel) (by decide +kernel)
theorem kw_im_X1_record : Cond.instanceMethod yX1_record ∈ gWs := gWs_of (i := 219) (by decide +kernel) (by decide +kernel)
theorem kw_se_X1_record : Cond.selects RX1 yX1_record yX1_record ∈ gWs := gWs_of (i := 220) (by decide +kernel) (by decide +kernel)
theorem kw_co_X1_record : Cond.code yX1_record cX1_record 3 none ∈ gWs := gWs_of (i := 221) (by decide +kernel) (by decide +kernel)
theorem kw_ml_RX1_25 : Cond.methodLink RX1 25 yX1_stateAt ∈ gWs := gWs_of (i := 222) (by decide +kernel) (by decide +kernel)
theorem kw_im_X1_stateAt : Cond.instanceMethod yX1_stateAt ∈ gWs := gWs_of (i := 224) (by decide +kernel) (by decide +kernel)
theorem kw_co_X1_stateAt : Cond.code yX1_stateAt cX1_stateAt 2 (some (.object "GlassBowls$Table")) ∈ gWs := gWs_of (i := 225) (by decide +kernel) (by decide +kernel)
theorem kw_ml_RX1_29 : Cond.methodLink RX1 29 yX4_copyFrom ∈ gWs := gWs_of (i := 226) (by decide +kernel) (by decide +kernel)
theorem kw_im_X4_copyFrom : Cond.instanceMethod yX4_copyFrom ∈ gWs := gWs_of (i := 227) (by decide +kernel) (by decide +kernel)
theorem kw_se_X4_copyFrom : Cond.selects RX4 yX4_copyFrom yX4_copyFrom ∈ gWs := gWs_of (i := 228) (by decide +kernel) (by decide +kernel)
theorem kw_co_X4_copyFrom : Cond.code yX4_copyFrom cX4_copyFrom 2 none ∈ gWs := gWs_of (i := 229) (by decide +kernel) (by decide +kernel)
theorem kw_ml_RX4_91 : Cond.methodLink RX4 91 yX0_copyFrom ∈ gWs := gWs_of (i := 230) (by decide +kernel) (by decide +kernel)
theorem kw_im_X0_copyFrom : Cond.instanceMethod yX0_copyFrom ∈ gWs := gWs_of (i := 231) (by decide +kernel) (by decide +kernel)
theorem kw_se_X0_copyFrom : Cond.selects RX0 yX0_copyFrom yX0_copyFrom ∈ gWs := gWs_of (i := 232) (by decide +kernel) (by decide +kernel)
theorem kw_co_X0_copyFrom : Cond.code yX0_copyFrom cX0_copyFrom 2 none ∈ gWs := gWs_of (i := 233) (by decide +kernel) (by decide +kernel)
theorem kw_ml_RX0_87 : Cond.methodLink RX0 87 yX3_copyFrom ∈ gWs := gWs_of (i := 234) (by decide +kernel) (by decide +kernel)
theorem kw_im_X3_copyFrom : Cond.instanceMethod yX3_copyFrom ∈ gWs := gWs_of (i := 235) (by decide +kernel) (by decide +kernel)
theorem kw_se_X3_copyFrom : Cond.selects RX3 yX3_copyFrom yX3_copyFrom ∈ gWs := gWs_of (i := 236) (by decide +kernel) (by decide +kernel)
theorem kw_co_X3_copyFrom : Cond.code yX3_copyFrom cX3_copyFrom 2 none ∈ gWs := gWs_of (i := 237) (by decide +kernel) (by decide +kernel)
theorem kw_ml_RX3_27 : Cond.methodLink RX3 27 Lib.Math.min.name ∈ gWs := gWs_of (i := 238) (by decide +kernel) (by decide +kernel)
theorem kw_st_min : Cond.static Lib.Math.min.name ∈ gWs := gWs_of (i := 239) (by decide +kernel) (by decide +kernel)
theorem kw_co_min : Cond.code Lib.Math.min.name Lib.Math.min.code 2 (some .int) ∈ gWs := gWs_of (i := 240) (by decide +kernel) (by decide +kernel)
theorem kw_ml_RX3_30 : Cond.methodLink RX3 30 arraycopyName ∈ gWs := gWs_of (i := 241) (by decide +kernel) (by decide +kernel)
theorem kw_st_copy : Cond.static arraycopyName ∈ gWs := gWs_of (i := 242) (by decide +kernel) (by decide +kernel)
theorem kw_na_copy : Cond.native arraycopyName ∈ gWs := gWs_of (i := 243) (by decide +kernel) (by decide +kernel)
theorem kw_ml_RX4_95 : Cond.methodLink RX4 95 yX2_copyFrom ∈ gWs := gWs_of (i := 244) (by decide +kernel) (by decide +kernel)
theorem kw_im_X2_copyFrom : Cond.instanceMethod yX2_copyFrom ∈ gWs := gWs_of (i := 245) (by decide +kernel) (by decide +kernel)
theorem kw_se_X2_copyFrom : Cond.selects RX2 yX2_copyFrom yX2_copyFrom ∈ gWs := gWs_of (i := 246) (by decide +kernel) (by decide +kernel)
theorem kw_co_X2_copyFrom : Cond.code yX2_copyFrom cX2_copyFrom 2 none ∈ gWs := gWs_of (i := 247) (by decide +kernel) (by decide +kernel)
theorem kw_ml_RX2_96 : Cond.methodLink RX2 96 yX3_copyFrom ∈ gWs := gWs_of (i := 248) (by decide +kernel) (by decide +kernel)
theorem kw_ml_RX4_98 : Cond.methodLink RX4 98 yX3_copyFrom ∈ gWs := gWs_of (i := 249) (by decide +kernel) (by decide +kernel)
theorem kw_ml_RX1_33 : Cond.methodLink RX1 33 Lib.Math.min.name ∈ gWs := gWs_of (i := 250) (by decide +kernel) (by decide +kernel)
theorem kw_ml_RX6_53 : Cond.methodLink RX6 53 yX0_append ∈ gWs := gWs_of (i := 251) (by decide +kernel) (by decide +kernel)
theorem kw_im_X0_append : Cond.instanceMethod yX0_append ∈ gWs := gWs_of (i := 252) (by decide +kernel) (by decide +kernel)
theorem kw_se_X0_append : Cond.selects RX0 yX0_append yX0_append ∈ gWs := gWs_of (i := 253) (by decide +kernel) (by decide +kernel)
theorem kw_co_X0_append : Cond.code yX0_append cX0_append 3 none ∈ gWs := gWs_of (i := 254) (by decide +kernel) (by decide +kernel)
theorem kw_ml_RX0_52 : Cond.methodLink RX0 52 yX3_put ∈ gWs := gWs_of (i := 255) (by decide +kernel) (by decide +kernel)
theorem kw_ml_RL_39 : Cond.methodLink RL 39 yX6_remove ∈ gWs := gWs_of (i := 256) (by decide +kernel) (by decide +kernel)
theorem kw_im_X6_remove : Cond.instanceMethod yX6_remove ∈ gWs := gWs_of (i := 257) (by decide +kernel) (by decide +kernel)
theorem kw_se_X6_remove : Cond.selects RX6 yX6_remove yX6_remove ∈ gWs := gWs_of (i := 258) (by decide +kernel) (by decide +kernel)
theorem kw_co_X6_remove : Cond.code yX6_remove cX6_remove 2 (some .int) ∈ gWs := gWs_of (i := 259) (by decide +kernel) (by decide +kernel)
theorem kw_ml_RX6_57 : Cond.methodLink RX6 57 yX0_has ∈ gWs := gWs_of (i := 260) (by decide +kernel) (by decide +kernel)
theorem kw_im_X0_has : Cond.instanceMethod yX0_has ∈ gWs := gWs_of (i := 261) (by decide +kernel) (by decide +kernel)
theorem kw_se_X0_has : Cond.selects RX0 yX0_has yX0_has ∈ gWs := gWs_of (i := 262) (by decide +kernel) (by decide +kernel)
theorem kw_co_X0_has : Cond.code yX0_has cX0_has 2 (some .boolean) ∈ gWs := gWs_of (i := 263) (by decide +kernel) (by decide +kernel)
theorem kw_ml_RX6_61 : Cond.methodLink RX6 61 yX0_takeAway ∈ gWs := gWs_of (i := 264) (by decide +kernel) (by decide +kernel)
theorem kw_im_X0_takeAway : Cond.instanceMethod yX0_takeAway ∈ gWs := gWs_of (i := 265) (by decide +kernel) (by decide +kernel)
theorem kw_se_X0_takeAway : Cond.selects RX0 yX0_takeAway yX0_takeAway ∈ gWs := gWs_of (i := 266) (by decide +kernel) (by decide +kernel)
theorem kw_co_X0_takeAway : Cond.code yX0_takeAway cX0_takeAway 2 none ∈ gWs := gWs_of (i := 267) (by decide +kernel) (by decide +kernel)
theorem kw_ml_RX0_48 : Cond.methodLink RX0 48 yX3_get ∈ gWs := gWs_of (i := 268) (by decide +kernel) (by decide +kernel)
theorem kw_im_X3_get : Cond.instanceMethod yX3_get ∈ gWs := gWs_of (i := 269) (by decide +kernel) (by decide +kernel)
theorem kw_se_X3_get : Cond.selects RX3 yX3_get yX3_get ∈ gWs := gWs_of (i := 270) (by decide +kernel) (by decide +kernel)
theorem kw_co_X3_get : Cond.code yX3_get cX3_get 2 (some .int) ∈ gWs := gWs_of (i := 271) (by decide +kernel) (by decide +kernel)
theorem kw_ml_RX0_56 : Cond.methodLink RX0 56 yX3_delete ∈ gWs := gWs_of (i := 272) (by decide +kernel) (by decide +kernel)
theorem kw_im_X3_delete : Cond.instanceMethod yX3_delete ∈ gWs := gWs_of (i := 273) (by decide +kernel) (by decide +kernel)
theorem kw_se_X3_delete : Cond.selects RX3 yX3_delete yX3_delete ∈ gWs := gWs_of (i := 274) (by decide +kernel) (by decide +kernel)
theorem kw_co_X3_delete : Cond.code yX3_delete cX3_delete 4 none ∈ gWs := gWs_of (i := 275) (by decide +kernel) (by decide +kernel)
theorem kw_ml_RX3_19 : Cond.methodLink RX3 19 yX3_get ∈ gWs := gWs_of (i := 276) (by decide +kernel) (by decide +kernel)
theorem kw_ml_RX3_23 : Cond.methodLink RX3 23 yX3_put ∈ gWs := gWs_of (i := 277) (by decide +kernel) (by decide +kernel)
theorem kw_ml_RL_42 : Cond.methodLink RL 42 yX6_pour ∈ gWs := gWs_of (i := 278) (by decide +kernel) (by decide +kernel)
theorem kw_im_X6_pour : Cond.instanceMethod yX6_pour ∈ gWs := gWs_of (i := 279) (by decide +kernel) (by decide +kernel)
theorem kw_se_X6_pour : Cond.selects RX6 yX6_pour yX6_pour ∈ gWs := gWs_of (i := 280) (by decide +kernel) (by decide +kernel)
theorem kw_co_X6_pour : Cond.code yX6_pour cX6_pour 3 (some .int) ∈ gWs := gWs_of (i := 281) (by decide +kernel) (by decide +kernel)
theorem kw_ml_RX6_65 : Cond.methodLink RX6 65 yX0_levelIn ∈ gWs := gWs_of (i := 282) (by decide +kernel) (by decide +kernel)
theorem kw_im_X0_levelIn : Cond.instanceMethod yX0_levelIn ∈ gWs := gWs_of (i := 283) (by decide +kernel) (by decide +kernel)
theorem kw_se_X0_levelIn : Cond.selects RX0 yX0_levelIn yX0_levelIn ∈ gWs := gWs_of (i := 284) (by decide +kernel) (by decide +kernel)
theorem kw_co_X0_levelIn : Cond.code yX0_levelIn cX0_levelIn 2 (some .int) ∈ gWs := gWs_of (i := 285) (by decide +kernel) (by decide +kernel)
theorem kw_ml_RX6_69 : Cond.methodLink RX6 69 yX0_addWater ∈ gWs := gWs_of (i := 286) (by decide +kernel) (by decide +kernel)
theorem kw_im_X0_addWater : Cond.instanceMethod yX0_addWater ∈ gWs := gWs_of (i := 287) (by decide +kernel) (by decide +kernel)
theorem kw_se_X0_addWater : Cond.selects RX0 yX0_addWater yX0_addWater ∈ gWs := gWs_of (i := 288) (by decide +kernel) (by decide +kernel)
theorem kw_co_X0_addWater : Cond.code yX0_addWater cX0_addWater 3 none ∈ gWs := gWs_of (i := 289) (by decide +kernel) (by decide +kernel)
theorem kw_ml_RX0_59 : Cond.methodLink RX0 59 yX0_hold ∈ gWs := gWs_of (i := 290) (by decide +kernel) (by decide +kernel)
theorem kw_im_X0_hold : Cond.instanceMethod yX0_hold ∈ gWs := gWs_of (i := 292) (by decide +kernel) (by decide +kernel)
theorem kw_co_X0_hold : Cond.code yX0_hold cX0_hold 4 none ∈ gWs := gWs_of (i := 293) (by decide +kernel) (by decide +kernel)
theorem kw_ml_RX0_65 : Cond.methodLink RX0 65 Lib.Math.min.name ∈ gWs := gWs_of (i := 294) (by decide +kernel) (by decide +kernel)
theorem kw_ml_RL_45 : Cond.methodLink RL 45 yX6_spill ∈ gWs := gWs_of (i := 295) (by decide +kernel) (by decide +kernel)
theorem kw_im_X6_spill : Cond.instanceMethod yX6_spill ∈ gWs := gWs_of (i := 296) (by decide +kernel) (by decide +kernel)
theorem kw_se_X6_spill : Cond.selects RX6 yX6_spill yX6_spill ∈ gWs := gWs_of (i := 297) (by decide +kernel) (by decide +kernel)
theorem kw_co_X6_spill : Cond.code yX6_spill cX6_spill 3 (some .int) ∈ gWs := gWs_of (i := 298) (by decide +kernel) (by decide +kernel)
theorem kw_k_RX6_72 : Cond.constant RX6 72 (-100002) ∈ gWs := gWs_of (i := 299) (by decide +kernel) (by decide +kernel)
theorem kw_ml_RX6_73 : Cond.methodLink RX6 73 yX0_takeWater ∈ gWs := gWs_of (i := 300) (by decide +kernel) (by decide +kernel)
theorem kw_im_X0_takeWater : Cond.instanceMethod yX0_takeWater ∈ gWs := gWs_of (i := 301) (by decide +kernel) (by decide +kernel)
theorem kw_se_X0_takeWater : Cond.selects RX0 yX0_takeWater yX0_takeWater ∈ gWs := gWs_of (i := 302) (by decide +kernel) (by decide +kernel)
theorem kw_co_X0_takeWater : Cond.code yX0_takeWater cX0_takeWater 3 none ∈ gWs := gWs_of (i := 303) (by decide +kernel) (by decide +kernel)
theorem kw_ml_RX0_62 : Cond.methodLink RX0 62 yX3_add ∈ gWs := gWs_of (i := 304) (by decide +kernel) (by decide +kernel)
theorem kw_im_X3_add : Cond.instanceMethod yX3_add ∈ gWs := gWs_of (i := 305) (by decide +kernel) (by decide +kernel)
theorem kw_se_X3_add : Cond.selects RX3 yX3_add yX3_add ∈ gWs := gWs_of (i := 306) (by decide +kernel) (by decide +kernel)
theorem kw_co_X3_add : Cond.code yX3_add cX3_add 3 none ∈ gWs := gWs_of (i := 307) (by decide +kernel) (by decide +kernel)
theorem kw_ml_RL_48 : Cond.methodLink RL 48 yX6_crack ∈ gWs := gWs_of (i := 308) (by decide +kernel) (by decide +kernel)
theorem kw_im_X6_crack : Cond.instanceMethod yX6_crack ∈ gWs := gWs_of (i := 309) (by decide +kernel) (by decide +kernel)
theorem kw_se_X6_crack : Cond.selects RX6 yX6_crack yX6_crack ∈ gWs := gWs_of (i := 310) (by decide +kernel) (by decide +kernel)
theorem kw_co_X6_crack : Cond.code yX6_crack cX6_crack 4 (some .int) ∈ gWs := gWs_of (i := 311) (by decide +kernel) (by decide +kernel)
theorem kw_ml_RX6_76 : Cond.methodLink RX6 76 yX0_moveCrack ∈ gWs := gWs_of (i := 312) (by decide +kernel) (by decide +kernel)
theorem kw_im_X0_moveCrack : Cond.instanceMethod yX0_moveCrack ∈ gWs := gWs_of (i := 313) (by decide +kernel) (by decide +kernel)
theorem kw_se_X0_moveCrack : Cond.selects RX0 yX0_moveCrack yX0_moveCrack ∈ gWs := gWs_of (i := 314) (by decide +kernel) (by decide +kernel)
theorem kw_co_X0_moveCrack : Cond.code yX0_moveCrack cX0_moveCrack 3 none ∈ gWs := gWs_of (i := 315) (by decide +kernel) (by decide +kernel)
theorem kw_ml_RL_51 : Cond.methodLink RL 51 yX6_mark ∈ gWs := gWs_of (i := 316) (by decide +kernel) (by decide +kernel)
theorem kw_im_X6_mark : Cond.instanceMethod yX6_mark ∈ gWs := gWs_of (i := 317) (by decide +kernel) (by decide +kernel)
theorem kw_se_X6_mark : Cond.selects RX6 yX6_mark yX6_mark ∈ gWs := gWs_of (i := 318) (by decide +kernel) (by decide +kernel)
theorem kw_co_X6_mark : Cond.code yX6_mark cX6_mark 3 (some .int) ∈ gWs := gWs_of (i := 319) (by decide +kernel) (by decide +kernel)
theorem kw_ml_RX6_79 : Cond.methodLink RX6 79 yX0_moveMark ∈ gWs := gWs_of (i := 320) (by decide +kernel) (by decide +kernel)
theorem kw_im_X0_moveMark : Cond.instanceMethod yX0_moveMark ∈ gWs := gWs_of (i := 321) (by decide +kernel) (by decide +kernel)
theorem kw_se_X0_moveMark : Cond.selects RX0 yX0_moveMark yX0_moveMark ∈ gWs := gWs_of (i := 322) (by decide +kernel) (by decide +kernel)
theorem kw_co_X0_moveMark : Cond.code yX0_moveMark cX0_moveMark 4 (some .int) ∈ gWs := gWs_of (i := 323) (by decide +kernel) (by decide +kernel)
theorem kw_ml_RL_96 : Cond.methodLink RL 96 yX6_set ∈ gWs := gWs_of (i := 324) (by decide +kernel) (by decide +kernel)
theorem kw_im_X6_set : Cond.instanceMethod yX6_set ∈ gWs := gWs_of (i := 325) (by decide +kernel) (by decide +kernel)
theorem kw_se_X6_set : Cond.selects RX6 yX6_set yX6_set ∈ gWs := gWs_of (i := 326) (by decide +kernel) (by decide +kernel)
theorem kw_co_X6_set : Cond.code yX6_set cX6_set 3 (some .int) ∈ gWs := gWs_of (i := 327) (by decide +kernel) (by decide +kernel)
theorem kw_ml_RX6_95 : Cond.methodLink RX6 95 yX6_isSetting ∈ gWs := gWs_of (i := 328) (by decide +kernel) (by decide +kernel)
theorem kw_st_X6_isSetting : Cond.static yX6_isSetting ∈ gWs := gWs_of (i := 329) (by decide +kernel) (by decide +kernel)
theorem kw_co_X6_isSetting : Cond.code yX6_isSetting cX6_isSetting 2 (some .boolean) ∈ gWs := gWs_of (i := 330) (by decide +kernel) (by decide +kernel)
theorem kw_ml_RX6_99 : Cond.methodLink RX6 99 yX4_changeSetting ∈ gWs := gWs_of (i := 331) (by decide +kernel) (by decide +kernel)
theorem kw_im_X4_changeSetting : Cond.instanceMethod yX4_changeSetting ∈ gWs := gWs_of (i := 332) (by decide +kernel) (by decide +kernel)
theorem kw_se_X4_changeSetting : Cond.selects RX4 yX4_changeSetting yX4_changeSetting ∈ gWs := gWs_of (i := 333) (by decide +kernel) (by decide +kernel)
theorem kw_co_X4_changeSetting : Cond.code yX4_changeSetting cX4_changeSetting 4 (some .int) ∈ gWs := gWs_of (i := 334) (by decide +kernel) (by decide +kernel)
theorem kw_ml_RX4_42 : Cond.methodLink RX4 42 yX3_get ∈ gWs := gWs_of (i := 335) (by decide +kernel) (by decide +kernel)
theorem kw_ml_RL_13 : Cond.methodLink RL 13 yX6_count ∈ gWs := gWs_of (i := 336) (by decide +kernel) (by decide +kernel)
theorem kw_im_X6_count : Cond.instanceMethod yX6_count ∈ gWs := gWs_of (i := 337) (by decide +kernel) (by decide +kernel)
theorem kw_se_X6_count : Cond.selects RX6 yX6_count yX6_count ∈ gWs := gWs_of (i := 338) (by decide +kernel) (by decide +kernel)
theorem kw_co_X6_count : Cond.code yX6_count cX6_count 2 (some .int) ∈ gWs := gWs_of (i := 339) (by decide +kernel) (by decide +kernel)
theorem kw_ml_RX6_102 : Cond.methodLink RX6 102 yX4_setting ∈ gWs := gWs_of (i := 340) (by decide +kernel) (by decide +kernel)
theorem kw_im_X4_setting : Cond.instanceMethod yX4_setting ∈ gWs := gWs_of (i := 341) (by decide +kernel) (by decide +kernel)
theorem kw_se_X4_setting : Cond.selects RX4 yX4_setting yX4_setting ∈ gWs := gWs_of (i := 342) (by decide +kernel) (by decide +kernel)
theorem kw_co_X4_setting : Cond.code yX4_setting cX4_setting 2 (some .int) ∈ gWs := gWs_of (i := 343) (by decide +kernel) (by decide +kernel)
theorem kw_ml_RX6_105 : Cond.methodLink RX6 105 yX0_account ∈ gWs := gWs_of (i := 344) (by decide +kernel) (by decide +kernel)
theorem kw_im_X0_account : Cond.instanceMethod yX0_account ∈ gWs := gWs_of (i := 345) (by decide +kernel) (by decide +kernel)
theorem kw_se_X0_account : Cond.selects RX0 yX0_account yX0_account ∈ gWs := gWs_of (i := 346) (by decide +kernel) (by decide +kernel)
theorem kw_co_X0_account : Cond.code yX0_account cX0_account 2 (some .int) ∈ gWs := gWs_of (i := 347) (by decide +kernel) (by decide +kernel)
theorem kw_ml_RX0_83 : Cond.methodLink RX0 83 yX0_inBowls ∈ gWs := gWs_of (i := 348) (by decide +kernel) (by decide +kernel)
theorem kw_im_X0_inBowls : Cond.instanceMethod yX0_inBowls ∈ gWs := gWs_of (i := 350) (by decide +kernel) (by decide +kernel)
theorem kw_co_X0_inBowls : Cond.code yX0_inBowls cX0_inBowls 3 (some .int) ∈ gWs := gWs_of (i := 351) (by decide +kernel) (by decide +kernel)
theorem kw_k_RX0_77 : Cond.constant RX0 77 (-100001) ∈ gWs := gWs_of (i := 352) (by decide +kernel) (by decide +kernel)
theorem kw_ml_RX6_108 : Cond.methodLink RX6 108 yX4_time ∈ gWs := gWs_of (i := 353) (by decide +kernel) (by decide +kernel)
theorem kw_im_X4_time : Cond.instanceMethod yX4_time ∈ gWs := gWs_of (i := 354) (by decide +kernel) (by decide +kernel)
theorem kw_se_X4_time : Cond.selects RX4 yX4_time yX4_time ∈ gWs := gWs_of (i := 355) (by decide +kernel) (by decide +kernel)
theorem kw_co_X4_time : Cond.code yX4_time cX4_time 1 (some .int) ∈ gWs := gWs_of (i := 356) (by decide +kernel) (by decide +kernel)
theorem kw_ml_RX6_115 : Cond.methodLink RX6 115 yX2_size ∈ gWs := gWs_of (i := 357) (by decide +kernel) (by decide +kernel)
theorem kw_im_X2_size : Cond.instanceMethod yX2_size ∈ gWs := gWs_of (i := 358) (by decide +kernel) (by decide +kernel)
theorem kw_se_X2_size : Cond.selects RX2 yX2_size yX2_size ∈ gWs := gWs_of (i := 359) (by decide +kernel) (by decide +kernel)
theorem kw_co_X2_size : Cond.code yX2_size cX2_size 1 (some .int) ∈ gWs := gWs_of (i := 360) (by decide +kernel) (by decide +kernel)
theorem kw_ml_RX6_118 : Cond.methodLink RX6 118 yX2_phrases ∈ gWs := gWs_of (i := 361) (by decide +kernel) (by decide +kernel)
theorem kw_im_X2_phrases : Cond.instanceMethod yX2_phrases ∈ gWs := gWs_of (i := 362) (by decide +kernel) (by decide +kernel)
theorem kw_se_X2_phrases : Cond.selects RX2 yX2_phrases yX2_phrases ∈ gWs := gWs_of (i := 363) (by decide +kernel) (by decide +kernel)
theorem kw_co_X2_phrases : Cond.code yX2_phrases cX2_phrases 2 (some .int) ∈ gWs := gWs_of (i := 364) (by decide +kernel) (by decide +kernel)
theorem kw_ml_RX2_62 : Cond.methodLink RX2 62 yX2_phraseOf ∈ gWs := gWs_of (i := 365) (by decide +kernel) (by decide +kernel)
theorem kw_im_X2_phraseOf : Cond.instanceMethod yX2_phraseOf ∈ gWs := gWs_of (i := 367) (by decide +kernel) (by decide +kernel)
theorem kw_co_X2_phraseOf : Cond.code yX2_phraseOf cX2_phraseOf 5 (some .int) ∈ gWs := gWs_of (i := 368) (by decide +kernel) (by decide +kernel)
theorem kw_ml_RX2_58 : Cond.methodLink RX2 58 yX2_beginsPhrase ∈ gWs := gWs_of (i := 369) (by decide +kernel) (by decide +kernel)
theorem kw_im_X2_beginsPhrase : Cond.instanceMethod yX2_beginsPhrase ∈ gWs := gWs_of (i := 370) (by decide +kernel) (by decide +kernel)
theorem kw_se_X2_beginsPhrase : Cond.selects RX2 yX2_beginsPhrase yX2_beginsPhrase ∈ gWs := gWs_of (i := 371) (by decide +kernel) (by decide +kernel)
theorem kw_co_X2_beginsPhrase : Cond.code yX2_beginsPhrase cX2_beginsPhrase 3 (some .boolean) ∈ gWs := gWs_of (i := 372) (by decide +kernel) (by decide +kernel)
theorem kw_ml_RX2_36 : Cond.methodLink RX2 36 yX3_get ∈ gWs := gWs_of (i := 373) (by decide +kernel) (by decide +kernel)
theorem kw_ml_RX6_121 : Cond.methodLink RX6 121 yX2_playedNotes ∈ gWs := gWs_of (i := 374) (by decide +kernel) (by decide +kernel)
theorem kw_im_X2_playedNotes : Cond.instanceMethod yX2_playedNotes ∈ gWs := gWs_of (i := 375) (by decide +kernel) (by decide +kernel)
theorem kw_se_X2_playedNotes : Cond.selects RX2 yX2_playedNotes yX2_playedNotes ∈ gWs := gWs_of (i := 376) (by decide +kernel) (by decide +kernel)
theorem kw_co_X2_playedNotes : Cond.code yX2_playedNotes cX2_playedNotes 1 (some .int) ∈ gWs := gWs_of (i := 377) (by decide +kernel) (by decide +kernel)
theorem kw_ml_RX2_69 : Cond.methodLink RX2 69 yX2_notesWith ∈ gWs := gWs_of (i := 378) (by decide +kernel) (by decide +kernel)
theorem kw_im_X2_notesWith : Cond.instanceMethod yX2_notesWith ∈ gWs := gWs_of (i := 379) (by decide +kernel) (by decide +kernel)
theorem kw_se_X2_notesWith : Cond.selects RX2 yX2_notesWith yX2_notesWith ∈ gWs := gWs_of (i := 380) (by decide +kernel) (by decide +kernel)
theorem kw_co_X2_notesWith : Cond.code yX2_notesWith cX2_notesWith 4 (some .int) ∈ gWs := gWs_of (i := 381) (by decide +kernel) (by decide +kernel)
theorem kw_ml_RX6_124 : Cond.methodLink RX6 124 yX2_notesWith ∈ gWs := gWs_of (i := 382) (by decide +kernel) (by decide +kernel)
theorem kw_ml_RX6_127 : Cond.methodLink RX6 127 yX1_size ∈ gWs := gWs_of (i := 383) (by decide +kernel) (by decide +kernel)
theorem kw_im_X1_size : Cond.instanceMethod yX1_size ∈ gWs := gWs_of (i := 384) (by decide +kernel) (by decide +kernel)
theorem kw_se_X1_size : Cond.selects RX1 yX1_size yX1_size ∈ gWs := gWs_of (i := 385) (by decide +kernel) (by decide +kernel)
theorem kw_co_X1_size : Cond.code yX1_size cX1_size 1 (some .int) ∈ gWs := gWs_of (i := 386) (by decide +kernel) (by decide +kernel)
theorem kw_ml_RX6_128 : Cond.methodLink RX6 128 yX5_length ∈ gWs := gWs_of (i := 387) (by decide +kernel) (by decide +kernel)
theorem kw_im_X5_length : Cond.instanceMethod yX5_length ∈ gWs := gWs_of (i := 388) (by decide +kernel) (by decide +kernel)
theorem kw_se_X5_length : Cond.selects RX5 yX5_length yX5_length ∈ gWs := gWs_of (i := 389) (by decide +kernel) (by decide +kernel)
theorem kw_co_X5_length : Cond.code yX5_length cX5_length 1 (some .int) ∈ gWs := gWs_of (i := 390) (by decide +kernel) (by decide +kernel)
theorem kw_ml_RL_179 : Cond.methodLink RL 179 yX6_undo ∈ gWs := gWs_of (i := 391) (by decide +kernel) (by decide +kernel)
theorem kw_im_X6_undo : Cond.instanceMethod yX6_undo ∈ gWs := gWs_of (i := 392) (by decide +kernel) (by decide +kernel)
theorem kw_se_X6_undo : Cond.selects RX6 yX6_undo yX6_undo ∈ gWs := gWs_of (i := 393) (by decide +kernel) (by decide +kernel)
theorem kw_co_X6_undo : Cond.code yX6_undo cX6_undo 1 (some .int) ∈ gWs := gWs_of (i := 394) (by decide +kernel) (by decide +kernel)
theorem kw_ml_RX6_131 : Cond.methodLink RX6 131 yX1_restore ∈ gWs := gWs_of (i := 395) (by decide +kernel) (by decide +kernel)
theorem kw_im_X1_restore : Cond.instanceMethod yX1_restore ∈ gWs := gWs_of (i := 396) (by decide +kernel) (by decide +kernel)
theorem kw_se_X1_restore : Cond.selects RX1 yX1_restore yX1_restore ∈ gWs := gWs_of (i := 397) (by decide +kernel) (by decide +kernel)
theorem kw_co_X1_restore : Cond.code yX1_restore cX1_restore 2 none ∈ gWs := gWs_of (i := 398) (by decide +kernel) (by decide +kernel)
theorem kw_ml_RX1_39 : Cond.methodLink RX1 39 Lib.Math.max.name ∈ gWs := gWs_of (i := 399) (by decide +kernel) (by decide +kernel)
theorem kw_ml_RL_68 : Cond.methodLink RL 68 yX6_note ∈ gWs := gWs_of (i := 400) (by decide +kernel) (by decide +kernel)
theorem kw_im_X6_note : Cond.instanceMethod yX6_note ∈ gWs := gWs_of (i := 401) (by decide +kernel) (by decide +kernel)
theorem kw_se_X6_note : Cond.selects RX6 yX6_note yX6_note ∈ gWs := gWs_of (i := 402) (by decide +kernel) (by decide +kernel)
theorem kw_co_X6_note : Cond.code yX6_note cX6_note 3 (some .int) ∈ gWs := gWs_of (i := 403) (by decide +kernel) (by decide +kernel)
theorem kw_ml_RX6_134 : Cond.methodLink RX6 134 yX2_hasNoteAt ∈ gWs := gWs_of (i := 404) (by decide +kernel) (by decide +kernel)
theorem kw_im_X2_hasNoteAt : Cond.instanceMethod yX2_hasNoteAt ∈ gWs := gWs_of (i := 405) (by decide +kernel) (by decide +kernel)
theorem kw_se_X2_hasNoteAt : Cond.selects RX2 yX2_hasNoteAt yX2_hasNoteAt ∈ gWs := gWs_of (i := 406) (by decide +kernel) (by decide +kernel)
theorem kw_co_X2_hasNoteAt : Cond.code yX2_hasNoteAt cX2_hasNoteAt 3 (some .boolean) ∈ gWs := gWs_of (i := 407) (by decide +kernel) (by decide +kernel)
theorem kw_ml_RX2_40 : Cond.methodLink RX2 40 yX2_placeFor ∈ gWs := gWs_of (i := 408) (by decide +kernel) (by decide +kernel)
theorem kw_im_X2_placeFor : Cond.instanceMethod yX2_placeFor ∈ gWs := gWs_of (i := 410) (by decide +kernel) (by decide +kernel)
theorem kw_co_X2_placeFor : Cond.code yX2_placeFor cX2_placeFor 3 (some .int) ∈ gWs := gWs_of (i := 411) (by decide +kernel) (by decide +kernel)
theorem kw_ml_RX6_137 : Cond.methodLink RX6 137 yX2_isFull ∈ gWs := gWs_of (i := 412) (by decide +kernel) (by decide +kernel)
theorem kw_im_X2_isFull : Cond.instanceMethod yX2_isFull ∈ gWs := gWs_of (i := 413) (by decide +kernel) (by decide +kernel)
theorem kw_se_X2_isFull : Cond.selects RX2 yX2_isFull yX2_isFull ∈ gWs := gWs_of (i := 414) (by decide +kernel) (by decide +kernel)
theorem kw_co_X2_isFull : Cond.code yX2_isFull cX2_isFull 1 (some .boolean) ∈ gWs := gWs_of (i := 415) (by decide +kernel) (by decide +kernel)
theorem kw_ml_RX6_141 : Cond.methodLink RX6 141 yX2_insert ∈ gWs := gWs_of (i := 416) (by decide +kernel) (by decide +kernel)
theorem kw_im_X2_insert : Cond.instanceMethod yX2_insert ∈ gWs := gWs_of (i := 417) (by decide +kernel) (by decide +kernel)
theorem kw_se_X2_insert : Cond.selects RX2 yX2_insert yX2_insert ∈ gWs := gWs_of (i := 418) (by decide +kernel) (by decide +kernel)
theorem kw_co_X2_insert : Cond.code yX2_insert cX2_insert 4 (some .int) ∈ gWs := gWs_of (i := 419) (by decide +kernel) (by decide +kernel)
theorem kw_ml_RX2_43 : Cond.methodLink RX2 43 yX3_insert ∈ gWs := gWs_of (i := 420) (by decide +kernel) (by decide +kernel)
theorem kw_im_X3_insert : Cond.instanceMethod yX3_insert ∈ gWs := gWs_of (i := 421) (by decide +kernel) (by decide +kernel)
theorem kw_se_X3_insert : Cond.selects RX3 yX3_insert yX3_insert ∈ gWs := gWs_of (i := 422) (by decide +kernel) (by decide +kernel)
theorem kw_co_X3_insert : Cond.code yX3_insert cX3_insert 5 none ∈ gWs := gWs_of (i := 423) (by decide +kernel) (by decide +kernel)
theorem kw_ml_RL_78 : Cond.methodLink RL 78 yX6_drop ∈ gWs := gWs_of (i := 424) (by decide +kernel) (by decide +kernel)
theorem kw_im_X6_drop : Cond.instanceMethod yX6_drop ∈ gWs := gWs_of (i := 425) (by decide +kernel) (by decide +kernel)
theorem kw_se_X6_drop : Cond.selects RX6 yX6_drop yX6_drop ∈ gWs := gWs_of (i := 426) (by decide +kernel) (by decide +kernel)
theorem kw_co_X6_drop : Cond.code yX6_drop cX6_drop 2 (some .int) ∈ gWs := gWs_of (i := 427) (by decide +kernel) (by decide +kernel)
theorem kw_ml_RX6_144 : Cond.methodLink RX6 144 yX2_has ∈ gWs := gWs_of (i := 428) (by decide +kernel) (by decide +kernel)
theorem kw_im_X2_has : Cond.instanceMethod yX2_has ∈ gWs := gWs_of (i := 429) (by decide +kernel) (by decide +kernel)
theorem kw_se_X2_has : Cond.selects RX2 yX2_has yX2_has ∈ gWs := gWs_of (i := 430) (by decide +kernel) (by decide +kernel)
theorem kw_co_X2_has : Cond.code yX2_has cX2_has 2 (some .boolean) ∈ gWs := gWs_of (i := 431) (by decide +kernel) (by decide +kernel)
end
section
theorem kw_ml_RX6_145 : Cond.methodLink RX6 145 yX2_takeAway ∈ gWs := gWs_of (i := 432) (by decide +kernel) (by decide +kernel)
theorem kw_im_X2_takeAway : Cond.instanceMethod yX2_takeAway ∈ gWs := gWs_of (i := 433) (by decide +kernel) (by decide +kernel)
theorem kw_se_X2_takeAway : Cond.selects RX2 yX2_takeAway yX2_takeAway ∈ gWs := gWs_of (i := 434) (by decide +kernel) (by decide +kernel)
theorem kw_co_X2_takeAway : Cond.code yX2_takeAway cX2_takeAway 2 none ∈ gWs := gWs_of (i := 435) (by decide +kernel) (by decide +kernel)
theorem kw_ml_RX2_47 : Cond.methodLink RX2 47 yX3_delete ∈ gWs := gWs_of (i := 436) (by decide +kernel) (by decide +kernel)
theorem kw_ml_RL_71 : Cond.methodLink RL 71 yX6_transpose ∈ gWs := gWs_of (i := 437) (by decide +kernel) (by decide +kernel)
theorem kw_im_X6_transpose : Cond.instanceMethod yX6_transpose ∈ gWs := gWs_of (i := 438) (by decide +kernel) (by decide +kernel)
theorem kw_se_X6_transpose : Cond.selects RX6 yX6_transpose yX6_transpose ∈ gWs := gWs_of (i := 439) (by decide +kernel) (by decide +kernel)
theorem kw_co_X6_transpose : Cond.code yX6_transpose cX6_transpose 4 (some .int) ∈ gWs := gWs_of (i := 440) (by decide +kernel) (by decide +kernel)
theorem kw_ml_RX6_146 : Cond.methodLink RX6 146 yX2_canShift ∈ gWs := gWs_of (i := 441) (by decide +kernel) (by decide +kernel)
theorem kw_im_X2_canShift : Cond.instanceMethod yX2_canShift ∈ gWs := gWs_of (i := 442) (by decide +kernel) (by decide +kernel)
theorem kw_se_X2_canShift : Cond.selects RX2 yX2_canShift yX2_canShift ∈ gWs := gWs_of (i := 443) (by decide +kernel) (by decide +kernel)
theorem kw_co_X2_canShift : Cond.code yX2_canShift cX2_canShift 5 (some .boolean) ∈ gWs := gWs_of (i := 444) (by decide +kernel) (by decide +kernel)
theorem kw_ml_RX6_149 : Cond.methodLink RX6 149 yX2_shift ∈ gWs := gWs_of (i := 446) (by decide +kernel) (by decide +kernel)
theorem kw_im_X2_shift : Cond.instanceMethod yX2_shift ∈ gWs := gWs_of (i := 447) (by decide +kernel) (by decide +kernel)
theorem kw_se_X2_shift : Cond.selects RX2 yX2_shift yX2_shift ∈ gWs := gWs_of (i := 448) (by decide +kernel) (by decide +kernel)
theorem kw_co_X2_shift : Cond.code yX2_shift cX2_shift 5 none ∈ gWs := gWs_of (i := 449) (by decide +kernel) (by decide +kernel)
theorem kw_ml_RX2_55 : Cond.methodLink RX2 55 yX3_add ∈ gWs := gWs_of (i := 450) (by decide +kernel) (by decide +kernel)
theorem kw_ml_RL_99 : Cond.methodLink RL 99 yX6_run ∈ gWs := gWs_of (i := 451) (by decide +kernel) (by decide +kernel)
theorem kw_im_X6_run : Cond.instanceMethod yX6_run ∈ gWs := gWs_of (i := 452) (by decide +kernel) (by decide +kernel)
theorem kw_se_X6_run : Cond.selects RX6 yX6_run yX6_run ∈ gWs := gWs_of (i := 453) (by decide +kernel) (by decide +kernel)
theorem kw_co_X6_run : Cond.code yX6_run cX6_run 3 (some .int) ∈ gWs := gWs_of (i := 454) (by decide +kernel) (by decide +kernel)
theorem kw_ml_RX6_156 : Cond.methodLink RX6 156 yX4_advance ∈ gWs := gWs_of (i := 455) (by decide +kernel) (by decide +kernel)
theorem kw_im_X4_advance : Cond.instanceMethod yX4_advance ∈ gWs := gWs_of (i := 456) (by decide +kernel) (by decide +kernel)
theorem kw_se_X4_advance : Cond.selects RX4 yX4_advance yX4_advance ∈ gWs := gWs_of (i := 457) (by decide +kernel) (by decide +kernel)
theorem kw_co_X4_advance : Cond.code yX4_advance cX4_advance 5 (some .int) ∈ gWs := gWs_of (i := 458) (by decide +kernel) (by decide +kernel)
theorem kw_ml_RX4_49 : Cond.methodLink RX4 49 yX2_size ∈ gWs := gWs_of (i := 459) (by decide +kernel) (by decide +kernel)
theorem kw_ml_RX4_53 : Cond.methodLink RX4 53 yX2_timeOf ∈ gWs := gWs_of (i := 460) (by decide +kernel) (by decide +kernel)
theorem kw_im_X2_timeOf : Cond.instanceMethod yX2_timeOf ∈ gWs := gWs_of (i := 461) (by decide +kernel) (by decide +kernel)
theorem kw_se_X2_timeOf : Cond.selects RX2 yX2_timeOf yX2_timeOf ∈ gWs := gWs_of (i := 462) (by decide +kernel) (by decide +kernel)
theorem kw_co_X2_timeOf : Cond.code yX2_timeOf cX2_timeOf 2 (some .int) ∈ gWs := gWs_of (i := 463) (by decide +kernel) (by decide +kernel)
theorem kw_ml_RX4_56 : Cond.methodLink RX4 56 yX4_dryUntil ∈ gWs := gWs_of (i := 464) (by decide +kernel) (by decide +kernel)
theorem kw_im_X4_dryUntil : Cond.instanceMethod yX4_dryUntil ∈ gWs := gWs_of (i := 466) (by decide +kernel) (by decide +kernel)
theorem kw_co_X4_dryUntil : Cond.code yX4_dryUntil cX4_dryUntil 3 none ∈ gWs := gWs_of (i := 467) (by decide +kernel) (by decide +kernel)
theorem kw_ml_RX4_62 : Cond.methodLink RX4 62 yX0_dry ∈ gWs := gWs_of (i := 468) (by decide +kernel) (by decide +kernel)
theorem kw_im_X0_dry : Cond.instanceMethod yX0_dry ∈ gWs := gWs_of (i := 469) (by decide +kernel) (by decide +kernel)
theorem kw_se_X0_dry : Cond.selects RX0 yX0_dry yX0_dry ∈ gWs := gWs_of (i := 470) (by decide +kernel) (by decide +kernel)
theorem kw_co_X0_dry : Cond.code yX0_dry cX0_dry 4 none ∈ gWs := gWs_of (i := 471) (by decide +kernel) (by decide +kernel)
theorem kw_ml_RX4_59 : Cond.methodLink RX4 59 yX4_playNote ∈ gWs := gWs_of (i := 472) (by decide +kernel) (by decide +kernel)
theorem kw_im_X4_playNote : Cond.instanceMethod yX4_playNote ∈ gWs := gWs_of (i := 474) (by decide +kernel) (by decide +kernel)
theorem kw_co_X4_playNote : Cond.code yX4_playNote cX4_playNote 4 none ∈ gWs := gWs_of (i := 475) (by decide +kernel) (by decide +kernel)
theorem kw_ml_RX4_65 : Cond.methodLink RX4 65 yX2_beginsPhrase ∈ gWs := gWs_of (i := 476) (by decide +kernel) (by decide +kernel)
theorem kw_ml_RX4_69 : Cond.methodLink RX4 69 yX0_fillToMarks ∈ gWs := gWs_of (i := 477) (by decide +kernel) (by decide +kernel)
theorem kw_im_X0_fillToMarks : Cond.instanceMethod yX0_fillToMarks ∈ gWs := gWs_of (i := 478) (by decide +kernel) (by decide +kernel)
theorem kw_se_X0_fillToMarks : Cond.selects RX0 yX0_fillToMarks yX0_fillToMarks ∈ gWs := gWs_of (i := 479) (by decide +kernel) (by decide +kernel)
theorem kw_co_X0_fillToMarks : Cond.code yX0_fillToMarks cX0_fillToMarks 3 none ∈ gWs := gWs_of (i := 480) (by decide +kernel) (by decide +kernel)
theorem kw_ml_RX4_72 : Cond.methodLink RX4 72 yX2_pitchOf ∈ gWs := gWs_of (i := 481) (by decide +kernel) (by decide +kernel)
theorem kw_im_X2_pitchOf : Cond.instanceMethod yX2_pitchOf ∈ gWs := gWs_of (i := 482) (by decide +kernel) (by decide +kernel)
theorem kw_se_X2_pitchOf : Cond.selects RX2 yX2_pitchOf yX2_pitchOf ∈ gWs := gWs_of (i := 483) (by decide +kernel) (by decide +kernel)
theorem kw_co_X2_pitchOf : Cond.code yX2_pitchOf cX2_pitchOf 2 (some .int) ∈ gWs := gWs_of (i := 484) (by decide +kernel) (by decide +kernel)
theorem kw_ml_RX4_75 : Cond.methodLink RX4 75 yX0_nearestBowl ∈ gWs := gWs_of (i := 485) (by decide +kernel) (by decide +kernel)
theorem kw_im_X0_nearestBowl : Cond.instanceMethod yX0_nearestBowl ∈ gWs := gWs_of (i := 486) (by decide +kernel) (by decide +kernel)
theorem kw_se_X0_nearestBowl : Cond.selects RX0 yX0_nearestBowl yX0_nearestBowl ∈ gWs := gWs_of (i := 487) (by decide +kernel) (by decide +kernel)
theorem kw_co_X0_nearestBowl : Cond.code yX0_nearestBowl cX0_nearestBowl 6 (some .int) ∈ gWs := gWs_of (i := 488) (by decide +kernel) (by decide +kernel)
theorem kw_ml_RX0_74 : Cond.methodLink RX0 74 yX0_pitchWith ∈ gWs := gWs_of (i := 489) (by decide +kernel) (by decide +kernel)
theorem kw_im_X0_pitchWith : Cond.instanceMethod yX0_pitchWith ∈ gWs := gWs_of (i := 491) (by decide +kernel) (by decide +kernel)
theorem kw_co_X0_pitchWith : Cond.code yX0_pitchWith cX0_pitchWith 5 (some .int) ∈ gWs := gWs_of (i := 492) (by decide +kernel) (by decide +kernel)
theorem kw_kl_RX0_78 : Cond.constantLong RX0 78 (1000000) ∈ gWs := gWs_of (i := 493) (by decide +kernel) (by decide +kernel)
theorem kw_ml_RX0_80 : Cond.methodLink RX0 80 Lib.Math.abs.name ∈ gWs := gWs_of (i := 494) (by decide +kernel) (by decide +kernel)
theorem kw_st_abs : Cond.static Lib.Math.abs.name ∈ gWs := gWs_of (i := 495) (by decide +kernel) (by decide +kernel)
theorem kw_co_abs : Cond.code Lib.Math.abs.name Lib.Math.abs.code 1 (some .int) ∈ gWs := gWs_of (i := 496) (by decide +kernel) (by decide +kernel)
theorem kw_ml_RX4_78 : Cond.methodLink RX4 78 yX2_keepSilence ∈ gWs := gWs_of (i := 497) (by decide +kernel) (by decide +kernel)
theorem kw_im_X2_keepSilence : Cond.instanceMethod yX2_keepSilence ∈ gWs := gWs_of (i := 498) (by decide +kernel) (by decide +kernel)
theorem kw_se_X2_keepSilence : Cond.selects RX2 yX2_keepSilence yX2_keepSilence ∈ gWs := gWs_of (i := 499) (by decide +kernel) (by decide +kernel)
theorem kw_co_X2_keepSilence : Cond.code yX2_keepSilence cX2_keepSilence 2 none ∈ gWs := gWs_of (i := 500) (by decide +kernel) (by decide +kernel)
theorem kw_ml_RX2_66 : Cond.methodLink RX2 66 yX3_put ∈ gWs := gWs_of (i := 501) (by decide +kernel) (by decide +kernel)
theorem kw_ml_RX4_81 : Cond.methodLink RX4 81 yX0_pitchOf ∈ gWs := gWs_of (i := 502) (by decide +kernel) (by decide +kernel)
theorem kw_im_X0_pitchOf : Cond.instanceMethod yX0_pitchOf ∈ gWs := gWs_of (i := 503) (by decide +kernel) (by decide +kernel)
theorem kw_se_X0_pitchOf : Cond.selects RX0 yX0_pitchOf yX0_pitchOf ∈ gWs := gWs_of (i := 504) (by decide +kernel) (by decide +kernel)
theorem kw_co_X0_pitchOf : Cond.code yX0_pitchOf cX0_pitchOf 2 (some .int) ∈ gWs := gWs_of (i := 505) (by decide +kernel) (by decide +kernel)
theorem kw_ml_RX4_82 : Cond.methodLink RX4 82 Lib.Math.abs.name ∈ gWs := gWs_of (i := 506) (by decide +kernel) (by decide +kernel)
theorem kw_ml_RX4_87 : Cond.methodLink RX4 87 yX2_keepSound ∈ gWs := gWs_of (i := 507) (by decide +kernel) (by decide +kernel)
theorem kw_im_X2_keepSound : Cond.instanceMethod yX2_keepSound ∈ gWs := gWs_of (i := 508) (by decide +kernel) (by decide +kernel)
theorem kw_se_X2_keepSound : Cond.selects RX2 yX2_keepSound yX2_keepSound ∈ gWs := gWs_of (i := 509) (by decide +kernel) (by decide +kernel)
theorem kw_co_X2_keepSound : Cond.code yX2_keepSound cX2_keepSound 5 none ∈ gWs := gWs_of (i := 510) (by decide +kernel) (by decide +kernel)
theorem kw_ml_RL_182 : Cond.methodLink RL 182 yX6_rewind ∈ gWs := gWs_of (i := 511) (by decide +kernel) (by decide +kernel)
theorem kw_im_X6_rewind : Cond.instanceMethod yX6_rewind ∈ gWs := gWs_of (i := 512) (by decide +kernel) (by decide +kernel)
theorem kw_se_X6_rewind : Cond.selects RX6 yX6_rewind yX6_rewind ∈ gWs := gWs_of (i := 513) (by decide +kernel) (by decide +kernel)
theorem kw_co_X6_rewind : Cond.code yX6_rewind cX6_rewind 2 (some .int) ∈ gWs := gWs_of (i := 514) (by decide +kernel) (by decide +kernel)
theorem kw_ml_RX6_159 : Cond.methodLink RX6 159 yX4_startAgain ∈ gWs := gWs_of (i := 515) (by decide +kernel) (by decide +kernel)
theorem kw_im_X4_startAgain : Cond.instanceMethod yX4_startAgain ∈ gWs := gWs_of (i := 516) (by decide +kernel) (by decide +kernel)
theorem kw_se_X4_startAgain : Cond.selects RX4 yX4_startAgain yX4_startAgain ∈ gWs := gWs_of (i := 517) (by decide +kernel) (by decide +kernel)
theorem kw_co_X4_startAgain : Cond.code yX4_startAgain cX4_startAgain 1 none ∈ gWs := gWs_of (i := 518) (by decide +kernel) (by decide +kernel)
theorem kw_ml_RX4_46 : Cond.methodLink RX4 46 yX2_forgetPlaying ∈ gWs := gWs_of (i := 519) (by decide +kernel) (by decide +kernel)
theorem kw_im_X2_forgetPlaying : Cond.instanceMethod yX2_forgetPlaying ∈ gWs := gWs_of (i := 520) (by decide +kernel) (by decide +kernel)
theorem kw_se_X2_forgetPlaying : Cond.selects RX2 yX2_forgetPlaying yX2_forgetPlaying ∈ gWs := gWs_of (i := 521) (by decide +kernel) (by decide +kernel)
theorem kw_co_X2_forgetPlaying : Cond.code yX2_forgetPlaying cX2_forgetPlaying 2 none ∈ gWs := gWs_of (i := 522) (by decide +kernel) (by decide +kernel)
theorem kw_ml_RL_196 : Cond.methodLink RL 196 yL_part ∈ gWs := gWs_of (i := 523) (by decide +kernel) (by decide +kernel)
theorem kw_st_L_part : Cond.static yL_part ∈ gWs := gWs_of (i := 524) (by decide +kernel) (by decide +kernel)
theorem kw_co_L_part : Cond.code yL_part cL_part 2 (some .int) ∈ gWs := gWs_of (i := 525) (by decide +kernel) (by decide +kernel)
theorem kw_k_RL_7 : Cond.constant RL 7 (2147483647) ∈ gWs := gWs_of (i := 526) (by decide +kernel) (by decide +kernel)
theorem kw_ml_RL_192 : Cond.methodLink RL 192 yL_take ∈ gWs := gWs_of (i := 527) (by decide +kernel) (by decide +kernel)
theorem kw_st_L_take : Cond.static yL_take ∈ gWs := gWs_of (i := 528) (by decide +kernel) (by decide +kernel)
theorem kw_co_L_take : Cond.code yL_take cL_take 2 (some .int) ∈ gWs := gWs_of (i := 529) (by decide +kernel) (by decide +kernel)
theorem kw_k_RL_8 : Cond.constant RL 8 (2654435) ∈ gWs := gWs_of (i := 530) (by decide +kernel) (by decide +kernel)
theorem kw_ml_RL_85 : Cond.methodLink RL 85 yL_state ∈ gWs := gWs_of (i := 531) (by decide +kernel) (by decide +kernel)
theorem kw_st_L_state : Cond.static yL_state ∈ gWs := gWs_of (i := 532) (by decide +kernel) (by decide +kernel)
theorem kw_co_L_state : Cond.code yL_state cL_state 4 (some .long) ∈ gWs := gWs_of (i := 533) (by decide +kernel) (by decide +kernel)
theorem kw_kl_RL_11 : Cond.constantLong RL 11 (5) ∈ gWs := gWs_of (i := 534) (by decide +kernel) (by decide +kernel)
theorem kw_ml_RL_19 : Cond.methodLink RL 19 yL_mixed ∈ gWs := gWs_of (i := 535) (by decide +kernel) (by decide +kernel)
theorem kw_st_L_mixed : Cond.static yL_mixed ∈ gWs := gWs_of (i := 536) (by decide +kernel) (by decide +kernel)
theorem kw_co_L_mixed : Cond.code yL_mixed cL_mixed 4 (some .long) ∈ gWs := gWs_of (i := 537) (by decide +kernel) (by decide +kernel)
theorem kw_kl_RL_9 : Cond.constantLong RL 9 (31) ∈ gWs := gWs_of (i := 538) (by decide +kernel) (by decide +kernel)
theorem kw_ml_RL_25 : Cond.methodLink RL 25 yX6_bowlOf ∈ gWs := gWs_of (i := 539) (by decide +kernel) (by decide +kernel)
theorem kw_im_X6_bowlOf : Cond.instanceMethod yX6_bowlOf ∈ gWs := gWs_of (i := 540) (by decide +kernel) (by decide +kernel)
theorem kw_se_X6_bowlOf : Cond.selects RX6 yX6_bowlOf yX6_bowlOf ∈ gWs := gWs_of (i := 541) (by decide +kernel) (by decide +kernel)
theorem kw_co_X6_bowlOf : Cond.code yX6_bowlOf cX6_bowlOf 3 (some .int) ∈ gWs := gWs_of (i := 542) (by decide +kernel) (by decide +kernel)
theorem kw_ml_RX6_83 : Cond.methodLink RX6 83 yX0_property ∈ gWs := gWs_of (i := 543) (by decide +kernel) (by decide +kernel)
theorem kw_im_X0_property : Cond.instanceMethod yX0_property ∈ gWs := gWs_of (i := 544) (by decide +kernel) (by decide +kernel)
theorem kw_se_X0_property : Cond.selects RX0 yX0_property yX0_property ∈ gWs := gWs_of (i := 545) (by decide +kernel) (by decide +kernel)
theorem kw_co_X0_property : Cond.code yX0_property cX0_property 3 (some .int) ∈ gWs := gWs_of (i := 546) (by decide +kernel) (by decide +kernel)
theorem kw_ml_RX0_71 : Cond.methodLink RX0 71 yX0_pitchOf ∈ gWs := gWs_of (i := 547) (by decide +kernel) (by decide +kernel)
theorem kw_ml_RL_29 : Cond.methodLink RL 29 yX6_noteOf ∈ gWs := gWs_of (i := 548) (by decide +kernel) (by decide +kernel)
theorem kw_im_X6_noteOf : Cond.instanceMethod yX6_noteOf ∈ gWs := gWs_of (i := 549) (by decide +kernel) (by decide +kernel)
theorem kw_se_X6_noteOf : Cond.selects RX6 yX6_noteOf yX6_noteOf ∈ gWs := gWs_of (i := 550) (by decide +kernel) (by decide +kernel)
theorem kw_co_X6_noteOf : Cond.code yX6_noteOf cX6_noteOf 3 (some .int) ∈ gWs := gWs_of (i := 551) (by decide +kernel) (by decide +kernel)
theorem kw_ml_RX6_153 : Cond.methodLink RX6 153 yX2_property ∈ gWs := gWs_of (i := 552) (by decide +kernel) (by decide +kernel)
theorem kw_im_X2_property : Cond.instanceMethod yX2_property ∈ gWs := gWs_of (i := 553) (by decide +kernel) (by decide +kernel)
theorem kw_se_X2_property : Cond.selects RX2 yX2_property yX2_property ∈ gWs := gWs_of (i := 554) (by decide +kernel) (by decide +kernel)
theorem kw_co_X2_property : Cond.code yX2_property cX2_property 4 (some .int) ∈ gWs := gWs_of (i := 555) (by decide +kernel) (by decide +kernel)
theorem kw_st_X6_oneIf : Cond.static yX6_oneIf ∈ gWs := gWs_of (i := 557) (by decide +kernel) (by decide +kernel)
theorem kw_co_X6_oneIf : Cond.code yX6_oneIf cX6_oneIf 1 (some .int) ∈ gWs := gWs_of (i := 558) (by decide +kernel) (by decide +kernel)
theorem kw_ml_RX2_76 : Cond.methodLink RX2 76 yX2_sounded ∈ gWs := gWs_of (i := 559) (by decide +kernel) (by decide +kernel)
theorem kw_im_X2_sounded : Cond.instanceMethod yX2_sounded ∈ gWs := gWs_of (i := 561) (by decide +kernel) (by decide +kernel)
theorem kw_co_X2_sounded : Cond.code yX2_sounded cX2_sounded 2 (some .boolean) ∈ gWs := gWs_of (i := 562) (by decide +kernel) (by decide +kernel)
theorem kw_k_RX2_80 : Cond.constant RX2 80 (-100004) ∈ gWs := gWs_of (i := 563) (by decide +kernel) (by decide +kernel)
theorem kw_k_RX2_81 : Cond.constant RX2 81 (-100001) ∈ gWs := gWs_of (i := 564) (by decide +kernel) (by decide +kernel)
theorem kw_ml_RL_176 : Cond.methodLink RL 176 yL_refused ∈ gWs := gWs_of (i := 565) (by decide +kernel) (by decide +kernel)
theorem kw_st_L_refused : Cond.static yL_refused ∈ gWs := gWs_of (i := 566) (by decide +kernel) (by decide +kernel)
theorem kw_co_L_refused : Cond.code yL_refused cL_refused 3 (some .boolean) ∈ gWs := gWs_of (i := 567) (by decide +kernel) (by decide +kernel)
theorem kw_ml_RL_89 : Cond.methodLink RL 89 yL_refusesBowls ∈ gWs := gWs_of (i := 568) (by decide +kernel) (by decide +kernel)
theorem kw_st_L_refusesBowls : Cond.static yL_refusesBowls ∈ gWs := gWs_of (i := 569) (by decide +kernel) (by decide +kernel)
theorem kw_co_L_refusesBowls : Cond.code yL_refusesBowls cL_refusesBowls 4 (some .boolean) ∈ gWs := gWs_of (i := 570) (by decide +kernel) (by decide +kernel)
theorem kw_k_RL_35 : Cond.constant RL 35 (-100001) ∈ gWs := gWs_of (i := 571) (by decide +kernel) (by decide +kernel)
theorem kw_ml_RL_36 : Cond.methodLink RL 36 yX6_nearest ∈ gWs := gWs_of (i := 572) (by decide +kernel) (by decide +kernel)
theorem kw_im_X6_nearest : Cond.instanceMethod yX6_nearest ∈ gWs := gWs_of (i := 573) (by decide +kernel) (by decide +kernel)
theorem kw_se_X6_nearest : Cond.selects RX6 yX6_nearest yX6_nearest ∈ gWs := gWs_of (i := 574) (by decide +kernel) (by decide +kernel)
theorem kw_co_X6_nearest : Cond.code yX6_nearest cX6_nearest 2 (some .int) ∈ gWs := gWs_of (i := 575) (by decide +kernel) (by decide +kernel)
theorem kw_ml_RX6_89 : Cond.methodLink RX6 89 yX0_nearestBowl ∈ gWs := gWs_of (i := 576) (by decide +kernel) (by decide +kernel)
theorem kw_ml_RX6_92 : Cond.methodLink RX6 92 yX6_orNotFound ∈ gWs := gWs_of (i := 577) (by decide +kernel) (by decide +kernel)
theorem kw_st_X6_orNotFound : Cond.static yX6_orNotFound ∈ gWs := gWs_of (i := 578) (by decide +kernel) (by decide +kernel)
theorem kw_co_X6_orNotFound : Cond.code yX6_orNotFound cX6_orNotFound 1 (some .int) ∈ gWs := gWs_of (i := 579) (by decide +kernel) (by decide +kernel)
theorem kw_k_RX6_168 : Cond.constant RX6 168 (-100004) ∈ gWs := gWs_of (i := 580) (by decide +kernel) (by decide +kernel)
theorem kw_ml_RL_54 : Cond.methodLink RL 54 yX6_levelFor ∈ gWs := gWs_of (i := 581) (by decide +kernel) (by decide +kernel)
theorem kw_im_X6_levelFor : Cond.instanceMethod yX6_levelFor ∈ gWs := gWs_of (i := 582) (by decide +kernel) (by decide +kernel)
theorem kw_se_X6_levelFor : Cond.selects RX6 yX6_levelFor yX6_levelFor ∈ gWs := gWs_of (i := 583) (by decide +kernel) (by decide +kernel)
theorem kw_co_X6_levelFor : Cond.code yX6_levelFor cX6_levelFor 3 (some .int) ∈ gWs := gWs_of (i := 584) (by decide +kernel) (by decide +kernel)
theorem kw_ml_RX6_86 : Cond.methodLink RX6 86 yX0_nearestLevel ∈ gWs := gWs_of (i := 585) (by decide +kernel) (by decide +kernel)
theorem kw_im_X0_nearestLevel : Cond.instanceMethod yX0_nearestLevel ∈ gWs := gWs_of (i := 586) (by decide +kernel) (by decide +kernel)
theorem kw_se_X0_nearestLevel : Cond.selects RX0 yX0_nearestLevel yX0_nearestLevel ∈ gWs := gWs_of (i := 587) (by decide +kernel) (by decide +kernel)
theorem kw_co_X0_nearestLevel : Cond.code yX0_nearestLevel cX0_nearestLevel 8 (some .int) ∈ gWs := gWs_of (i := 588) (by decide +kernel) (by decide +kernel)
theorem kw_ml_RL_57 : Cond.methodLink RL 57 yX6_pitchAt ∈ gWs := gWs_of (i := 589) (by decide +kernel) (by decide +kernel)
theorem kw_im_X6_pitchAt : Cond.instanceMethod yX6_pitchAt ∈ gWs := gWs_of (i := 590) (by decide +kernel) (by decide +kernel)
theorem kw_se_X6_pitchAt : Cond.selects RX6 yX6_pitchAt yX6_pitchAt ∈ gWs := gWs_of (i := 591) (by decide +kernel) (by decide +kernel)
theorem kw_co_X6_pitchAt : Cond.code yX6_pitchAt cX6_pitchAt 3 (some .int) ∈ gWs := gWs_of (i := 592) (by decide +kernel) (by decide +kernel)
theorem kw_ml_RX6_169 : Cond.methodLink RX6 169 yX6_tryOut ∈ gWs := gWs_of (i := 593) (by decide +kernel) (by decide +kernel)
theorem kw_im_X6_tryOut : Cond.instanceMethod yX6_tryOut ∈ gWs := gWs_of (i := 595) (by decide +kernel) (by decide +kernel)
theorem kw_co_X6_tryOut : Cond.code yX6_tryOut cX6_tryOut 2 none ∈ gWs := gWs_of (i := 596) (by decide +kernel) (by decide +kernel)
theorem kw_ml_RX6_198 : Cond.methodLink RX6 198 yX4_copyFrom ∈ gWs := gWs_of (i := 597) (by decide +kernel) (by decide +kernel)
theorem kw_ml_RX6_181 : Cond.methodLink RX6 181 yX0_pitchOf ∈ gWs := gWs_of (i := 598) (by decide +kernel) (by decide +kernel)
theorem kw_k_RL_60 : Cond.constant RL 60 (-100004) ∈ gWs := gWs_of (i := 599) (by decide +kernel) (by decide +kernel)
theorem kw_ml_RL_61 : Cond.methodLink RL 61 yX6_firstFalse ∈ gWs := gWs_of (i := 600) (by decide +kernel) (by decide +kernel)
theorem kw_im_X6_firstFalse : Cond.instanceMethod yX6_firstFalse ∈ gWs := gWs_of (i := 601) (by decide +kernel) (by decide +kernel)
theorem kw_se_X6_firstFalse : Cond.selects RX6 yX6_firstFalse yX6_firstFalse ∈ gWs := gWs_of (i := 602) (by decide +kernel) (by decide +kernel)
theorem kw_co_X6_firstFalse : Cond.code yX6_firstFalse cX6_firstFalse 1 (some .int) ∈ gWs := gWs_of (i := 603) (by decide +kernel) (by decide +kernel)
theorem kw_ml_RX6_175 : Cond.methodLink RX6 175 yX2_firstFalseAfter ∈ gWs := gWs_of (i := 604) (by decide +kernel) (by decide +kernel)
theorem kw_im_X2_firstFalseAfter : Cond.instanceMethod yX2_firstFalseAfter ∈ gWs := gWs_of (i := 605) (by decide +kernel) (by decide +kernel)
theorem kw_se_X2_firstFalseAfter : Cond.selects RX2 yX2_firstFalseAfter yX2_firstFalseAfter ∈ gWs := gWs_of (i := 606) (by decide +kernel) (by decide +kernel)
theorem kw_co_X2_firstFalseAfter : Cond.code yX2_firstFalseAfter cX2_firstFalseAfter 3 (some .int) ∈ gWs := gWs_of (i := 607) (by decide +kernel) (by decide +kernel)
theorem kw_ml_RL_65 : Cond.methodLink RL 65 yX6_leastTolerance ∈ gWs := gWs_of (i := 608) (by decide +kernel) (by decide +kernel)
theorem kw_im_X6_leastTolerance : Cond.instanceMethod yX6_leastTolerance ∈ gWs := gWs_of (i := 609) (by decide +kernel) (by decide +kernel)
theorem kw_se_X6_leastTolerance : Cond.selects RX6 yX6_leastTolerance yX6_leastTolerance ∈ gWs := gWs_of (i := 610) (by decide +kernel) (by decide +kernel)
theorem kw_co_X6_leastTolerance : Cond.code yX6_leastTolerance cX6_leastTolerance 1 (some .int) ∈ gWs := gWs_of (i := 611) (by decide +kernel) (by decide +kernel)
theorem kw_ml_RX6_178 : Cond.methodLink RX6 178 yX2_greatestErrorAfter ∈ gWs := gWs_of (i := 612) (by decide +kernel) (by decide +kernel)
theorem kw_im_X2_greatestErrorAfter : Cond.instanceMethod yX2_greatestErrorAfter ∈ gWs := gWs_of (i := 613) (by decide +kernel) (by decide +kernel)
theorem kw_se_X2_greatestErrorAfter : Cond.selects RX2 yX2_greatestErrorAfter yX2_greatestErrorAfter ∈ gWs := gWs_of (i := 614) (by decide +kernel) (by decide +kernel)
theorem kw_co_X2_greatestErrorAfter : Cond.code yX2_greatestErrorAfter cX2_greatestErrorAfter 4 (some .int) ∈ gWs := gWs_of (i := 615) (by decide +kernel) (by decide +kernel)
theorem kw_ml_RX2_90 : Cond.methodLink RX2 90 yX2_errorSize ∈ gWs := gWs_of (i := 616) (by decide +kernel) (by decide +kernel)
theorem kw_im_X2_errorSize : Cond.instanceMethod yX2_errorSize ∈ gWs := gWs_of (i := 618) (by decide +kernel) (by decide +kernel)
theorem kw_co_X2_errorSize : Cond.code yX2_errorSize cX2_errorSize 2 (some .int) ∈ gWs := gWs_of (i := 619) (by decide +kernel) (by decide +kernel)
theorem kw_ml_RX2_82 : Cond.methodLink RX2 82 Lib.Math.abs.name ∈ gWs := gWs_of (i := 620) (by decide +kernel) (by decide +kernel)
theorem kw_ml_RX2_93 : Cond.methodLink RX2 93 Lib.Math.max.name ∈ gWs := gWs_of (i := 621) (by decide +kernel) (by decide +kernel)
theorem kw_ml_RL_93 : Cond.methodLink RL 93 yL_refusesNotes ∈ gWs := gWs_of (i := 622) (by decide +kernel) (by decide +kernel)
theorem kw_st_L_refusesNotes : Cond.static yL_refusesNotes ∈ gWs := gWs_of (i := 623) (by decide +kernel) (by decide +kernel)
theorem kw_co_L_refusesNotes : Cond.code yL_refusesNotes cL_refusesNotes 4 (some .boolean) ∈ gWs := gWs_of (i := 624) (by decide +kernel) (by decide +kernel)
theorem kw_ml_RL_75 : Cond.methodLink RL 75 yX6_worst ∈ gWs := gWs_of (i := 625) (by decide +kernel) (by decide +kernel)
theorem kw_im_X6_worst : Cond.instanceMethod yX6_worst ∈ gWs := gWs_of (i := 626) (by decide +kernel) (by decide +kernel)
theorem kw_se_X6_worst : Cond.selects RX6 yX6_worst yX6_worst ∈ gWs := gWs_of (i := 627) (by decide +kernel) (by decide +kernel)
theorem kw_co_X6_worst : Cond.code yX6_worst cX6_worst 2 (some .int) ∈ gWs := gWs_of (i := 628) (by decide +kernel) (by decide +kernel)
theorem kw_ml_RX6_162 : Cond.methodLink RX6 162 yX2_noteAtRank ∈ gWs := gWs_of (i := 629) (by decide +kernel) (by decide +kernel)
theorem kw_im_X2_noteAtRank : Cond.instanceMethod yX2_noteAtRank ∈ gWs := gWs_of (i := 630) (by decide +kernel) (by decide +kernel)
theorem kw_se_X2_noteAtRank : Cond.selects RX2 yX2_noteAtRank yX2_noteAtRank ∈ gWs := gWs_of (i := 631) (by decide +kernel) (by decide +kernel)
theorem kw_co_X2_noteAtRank : Cond.code yX2_noteAtRank cX2_noteAtRank 3 (some .int) ∈ gWs := gWs_of (i := 632) (by decide +kernel) (by decide +kernel)
theorem kw_ml_RX2_87 : Cond.methodLink RX2 87 yX2_rankOf ∈ gWs := gWs_of (i := 633) (by decide +kernel) (by decide +kernel)
theorem kw_im_X2_rankOf : Cond.instanceMethod yX2_rankOf ∈ gWs := gWs_of (i := 635) (by decide +kernel) (by decide +kernel)
theorem kw_co_X2_rankOf : Cond.code yX2_rankOf cX2_rankOf 6 (some .int) ∈ gWs := gWs_of (i := 636) (by decide +kernel) (by decide +kernel)
theorem kw_ml_RL_81 : Cond.methodLink RL 81 yX6_wouldBe ∈ gWs := gWs_of (i := 637) (by decide +kernel) (by decide +kernel)
theorem kw_im_X6_wouldBe : Cond.instanceMethod yX6_wouldBe ∈ gWs := gWs_of (i := 638) (by decide +kernel) (by decide +kernel)
theorem kw_se_X6_wouldBe : Cond.selects RX6 yX6_wouldBe yX6_wouldBe ∈ gWs := gWs_of (i := 639) (by decide +kernel) (by decide +kernel)
theorem kw_co_X6_wouldBe : Cond.code yX6_wouldBe cX6_wouldBe 3 (some .int) ∈ gWs := gWs_of (i := 640) (by decide +kernel) (by decide +kernel)
theorem kw_ml_RX6_165 : Cond.methodLink RX6 165 yX2_timeOf ∈ gWs := gWs_of (i := 641) (by decide +kernel) (by decide +kernel)
theorem kw_ml_RX6_172 : Cond.methodLink RX6 172 yX2_errorOf ∈ gWs := gWs_of (i := 642) (by decide +kernel) (by decide +kernel)
theorem kw_im_X2_errorOf : Cond.instanceMethod yX2_errorOf ∈ gWs := gWs_of (i := 643) (by decide +kernel) (by decide +kernel)
theorem kw_se_X2_errorOf : Cond.selects RX2 yX2_errorOf yX2_errorOf ∈ gWs := gWs_of (i := 644) (by decide +kernel) (by decide +kernel)
theorem kw_co_X2_errorOf : Cond.code yX2_errorOf cX2_errorOf 2 (some .int) ∈ gWs := gWs_of (i := 645) (by decide +kernel) (by decide +kernel)
theorem kw_k_RL_84 : Cond.constant RL 84 (-100002) ∈ gWs := gWs_of (i := 646) (by decide +kernel) (by decide +kernel)
theorem kw_ml_RL_102 : Cond.methodLink RL 102 yX6_type ∈ gWs := gWs_of (i := 647) (by decide +kernel) (by decide +kernel)
theorem kw_im_X6_type : Cond.instanceMethod yX6_type ∈ gWs := gWs_of (i := 648) (by decide +kernel) (by decide +kernel)
theorem kw_se_X6_type : Cond.selects RX6 yX6_type yX6_type ∈ gWs := gWs_of (i := 649) (by decide +kernel) (by decide +kernel)
theorem kw_co_X6_type : Cond.code yX6_type cX6_type 2 (some .int) ∈ gWs := gWs_of (i := 650) (by decide +kernel) (by decide +kernel)
theorem kw_ml_RX6_184 : Cond.methodLink RX6 184 yX5_append ∈ gWs := gWs_of (i := 651) (by decide +kernel) (by decide +kernel)
theorem kw_im_X5_append : Cond.instanceMethod yX5_append ∈ gWs := gWs_of (i := 652) (by decide +kernel) (by decide +kernel)
theorem kw_se_X5_append : Cond.selects RX5 yX5_append yX5_append ∈ gWs := gWs_of (i := 653) (by decide +kernel) (by decide +kernel)
theorem kw_co_X5_append : Cond.code yX5_append cX5_append 2 none ∈ gWs := gWs_of (i := 654) (by decide +kernel) (by decide +kernel)
theorem kw_ml_RX5_42 : Cond.methodLink RX5 42 yX3_put ∈ gWs := gWs_of (i := 655) (by decide +kernel) (by decide +kernel)
theorem kw_ml_RL_105 : Cond.methodLink RL 105 yX6_fault ∈ gWs := gWs_of (i := 656) (by decide +kernel) (by decide +kernel)
theorem kw_im_X6_fault : Cond.instanceMethod yX6_fault ∈ gWs := gWs_of (i := 657) (by decide +kernel) (by decide +kernel)
theorem kw_se_X6_fault : Cond.selects RX6 yX6_fault yX6_fault ∈ gWs := gWs_of (i := 658) (by decide +kernel) (by decide +kernel)
theorem kw_co_X6_fault : Cond.code yX6_fault cX6_fault 2 (some .int) ∈ gWs := gWs_of (i := 659) (by decide +kernel) (by decide +kernel)
theorem kw_ml_RX6_189 : Cond.methodLink RX6 189 yX6_tryText ∈ gWs := gWs_of (i := 660) (by decide +kernel) (by decide +kernel)
theorem kw_im_X6_tryText : Cond.instanceMethod yX6_tryText ∈ gWs := gWs_of (i := 662) (by decide +kernel) (by decide +kernel)
theorem kw_co_X6_tryText : Cond.code yX6_tryText cX6_tryText 1 none ∈ gWs := gWs_of (i := 663) (by decide +kernel) (by decide +kernel)
theorem kw_ml_RX6_204 : Cond.methodLink RX6 204 yX5_readInto ∈ gWs := gWs_of (i := 664) (by decide +kernel) (by decide +kernel)
theorem kw_im_X5_readInto : Cond.instanceMethod yX5_readInto ∈ gWs := gWs_of (i := 665) (by decide +kernel) (by decide +kernel)
theorem kw_se_X5_readInto : Cond.selects RX5 yX5_readInto yX5_readInto ∈ gWs := gWs_of (i := 666) (by decide +kernel) (by decide +kernel)
theorem kw_co_X5_readInto : Cond.code yX5_readInto cX5_readInto 3 none ∈ gWs := gWs_of (i := 667) (by decide +kernel) (by decide +kernel)
theorem kw_ml_RX5_46 : Cond.methodLink RX5 46 yX5_reasonAgainstNext ∈ gWs := gWs_of (i := 668) (by decide +kernel) (by decide +kernel)
theorem kw_im_X5_reasonAgainstNext : Cond.instanceMethod yX5_reasonAgainstNext ∈ gWs := gWs_of (i := 670) (by decide +kernel) (by decide +kernel)
theorem kw_co_X5_reasonAgainstNext : Cond.code yX5_reasonAgainstNext cX5_reasonAgainstNext 2 (some .int) ∈ gWs := gWs_of (i := 671) (by decide +kernel) (by decide +kernel)
theorem kw_ml_RX5_56 : Cond.methodLink RX5 56 yX5_readNote ∈ gWs := gWs_of (i := 672) (by decide +kernel) (by decide +kernel)
theorem kw_im_X5_readNote : Cond.instanceMethod yX5_readNote ∈ gWs := gWs_of (i := 674) (by decide +kernel) (by decide +kernel)
theorem kw_co_X5_readNote : Cond.code yX5_readNote cX5_readNote 1 (some .boolean) ∈ gWs := gWs_of (i := 675) (by decide +kernel) (by decide +kernel)
theorem kw_ml_RX5_67 : Cond.methodLink RX5 67 yX5_readNumber ∈ gWs := gWs_of (i := 676) (by decide +kernel) (by decide +kernel)
theorem kw_im_X5_readNumber : Cond.instanceMethod yX5_readNumber ∈ gWs := gWs_of (i := 678) (by decide +kernel) (by decide +kernel)
theorem kw_co_X5_readNumber : Cond.code yX5_readNumber cX5_readNumber 3 (some .int) ∈ gWs := gWs_of (i := 679) (by decide +kernel) (by decide +kernel)
theorem kw_ml_RX5_74 : Cond.methodLink RX5 74 yX3_get ∈ gWs := gWs_of (i := 680) (by decide +kernel) (by decide +kernel)
theorem kw_ml_RX5_82 : Cond.methodLink RX5 82 Lib.Math.max.name ∈ gWs := gWs_of (i := 682) (by decide +kernel) (by decide +kernel)
theorem kw_ml_RX5_71 : Cond.methodLink RX5 71 yX5_readCharacter ∈ gWs := gWs_of (i := 683) (by decide +kernel) (by decide +kernel)
theorem kw_im_X5_readCharacter : Cond.instanceMethod yX5_readCharacter ∈ gWs := gWs_of (i := 685) (by decide +kernel) (by decide +kernel)
theorem kw_co_X5_readCharacter : Cond.code yX5_readCharacter cX5_readCharacter 3 (some .boolean) ∈ gWs := gWs_of (i := 686) (by decide +kernel) (by decide +kernel)
theorem kw_ml_RX5_60 : Cond.methodLink RX5 60 yX2_hasNoteAt ∈ gWs := gWs_of (i := 687) (by decide +kernel) (by decide +kernel)
theorem kw_ml_RX5_64 : Cond.methodLink RX5 64 yX2_isFull ∈ gWs := gWs_of (i := 688) (by decide +kernel) (by decide +kernel)
theorem kw_ml_RX5_50 : Cond.methodLink RX5 50 yX2_insert ∈ gWs := gWs_of (i := 689) (by decide +kernel) (by decide +kernel)
theorem kw_ml_RX6_192 : Cond.methodLink RX6 192 yX5_faultReason ∈ gWs := gWs_of (i := 690) (by decide +kernel) (by decide +kernel)
theorem kw_im_X5_faultReason : Cond.instanceMethod yX5_faultReason ∈ gWs := gWs_of (i := 691) (by decide +kernel) (by decide +kernel)
theorem kw_se_X5_faultReason : Cond.selects RX5 yX5_faultReason yX5_faultReason ∈ gWs := gWs_of (i := 692) (by decide +kernel) (by decide +kernel)
theorem kw_co_X5_faultReason : Cond.code yX5_faultReason cX5_faultReason 1 (some .int) ∈ gWs := gWs_of (i := 693) (by decide +kernel) (by decide +kernel)
theorem kw_ml_RX6_195 : Cond.methodLink RX6 195 yX5_faultPlace ∈ gWs := gWs_of (i := 694) (by decide +kernel) (by decide +kernel)
theorem kw_im_X5_faultPlace : Cond.instanceMethod yX5_faultPlace ∈ gWs := gWs_of (i := 695) (by decide +kernel) (by decide +kernel)
theorem kw_se_X5_faultPlace : Cond.selects RX5 yX5_faultPlace yX5_faultPlace ∈ gWs := gWs_of (i := 696) (by decide +kernel) (by decide +kernel)
theorem kw_co_X5_faultPlace : Cond.code yX5_faultPlace cX5_faultPlace 1 (some .int) ∈ gWs := gWs_of (i := 697) (by decide +kernel) (by decide +kernel)
theorem kw_ml_RL_185 : Cond.methodLink RL 185 yL_texts ∈ gWs := gWs_of (i := 698) (by decide +kernel) (by decide +kernel)
theorem kw_st_L_texts : Cond.static yL_texts ∈ gWs := gWs_of (i := 699) (by decide +kernel) (by decide +kernel)
set_option maxRecDepth 100000 in
theorem kw_co_L_texts : Cond.code yL_texts cL_texts 2 (some .boolean) ∈ gWs := gWs_of (i := 700) (by rfl) (by decide +kernel)
theorem kw_ml_RL_118 : Cond.methodLink RL 118 yX6_enter ∈ gWs := gWs_of (i := 701) (by decide +kernel) (by decide +kernel)
theorem kw_im_X6_enter : Cond.instanceMethod yX6_enter ∈ gWs := gWs_of (i := 702) (by decide +kernel) (by decide +kernel)
theorem kw_se_X6_enter : Cond.selects RX6 yX6_enter yX6_enter ∈ gWs := gWs_of (i := 703) (by decide +kernel) (by decide +kernel)
theorem kw_co_X6_enter : Cond.code yX6_enter cX6_enter 1 (some .int) ∈ gWs := gWs_of (i := 704) (by decide +kernel) (by decide +kernel)
theorem kw_ml_RX6_201 : Cond.methodLink RX6 201 yX5_notesRead ∈ gWs := gWs_of (i := 705) (by decide +kernel) (by decide +kernel)
theorem kw_im_X5_notesRead : Cond.instanceMethod yX5_notesRead ∈ gWs := gWs_of (i := 706) (by decide +kernel) (by decide +kernel)
theorem kw_se_X5_notesRead : Cond.selects RX5 yX5_notesRead yX5_notesRead ∈ gWs := gWs_of (i := 707) (by decide +kernel) (by decide +kernel)
theorem kw_co_X5_notesRead : Cond.code yX5_notesRead cX5_notesRead 1 (some .int) ∈ gWs := gWs_of (i := 708) (by decide +kernel) (by decide +kernel)
theorem kw_kl_RL_121 : Cond.constantLong RL 121 (825897531) ∈ gWs := gWs_of (i := 709) (by decide +kernel) (by decide +kernel)
theorem kw_ml_RL_123 : Cond.methodLink RL 123 yL_isFault ∈ gWs := gWs_of (i := 710) (by decide +kernel) (by decide +kernel)
theorem kw_st_L_isFault : Cond.static yL_isFault ∈ gWs := gWs_of (i := 711) (by decide +kernel) (by decide +kernel)
theorem kw_co_L_isFault : Cond.code yL_isFault cL_isFault 7 (some .boolean) ∈ gWs := gWs_of (i := 712) (by decide +kernel) (by decide +kernel)
theorem kw_ml_RL_110 : Cond.methodLink RL 110 yX6_clearText ∈ gWs := gWs_of (i := 713) (by decide +kernel) (by decide +kernel)
theorem kw_im_X6_clearText : Cond.instanceMethod yX6_clearText ∈ gWs := gWs_of (i := 714) (by decide +kernel) (by decide +kernel)
theorem kw_se_X6_clearText : Cond.selects RX6 yX6_clearText yX6_clearText ∈ gWs := gWs_of (i := 715) (by decide +kernel) (by decide +kernel)
theorem kw_co_X6_clearText : Cond.code yX6_clearText cX6_clearText 2 (some .int) ∈ gWs := gWs_of (i := 716) (by decide +kernel) (by decide +kernel)
theorem kw_ml_RX6_186 : Cond.methodLink RX6 186 yX5_empty ∈ gWs := gWs_of (i := 717) (by decide +kernel) (by decide +kernel)
theorem kw_im_X5_empty : Cond.instanceMethod yX5_empty ∈ gWs := gWs_of (i := 718) (by decide +kernel) (by decide +kernel)
theorem kw_se_X5_empty : Cond.selects RX5 yX5_empty yX5_empty ∈ gWs := gWs_of (i := 719) (by decide +kernel) (by decide +kernel)
theorem kw_co_X5_empty : Cond.code yX5_empty cX5_empty 2 none ∈ gWs := gWs_of (i := 720) (by decide +kernel) (by decide +kernel)
theorem kw_ml_RL_113 : Cond.methodLink RL 113 yL_types ∈ gWs := gWs_of (i := 721) (by decide +kernel) (by decide +kernel)
theorem kw_st_L_types : Cond.static yL_types ∈ gWs := gWs_of (i := 722) (by decide +kernel) (by decide +kernel)
theorem kw_co_L_types : Cond.code yL_types cL_types 5 none ∈ gWs := gWs_of (i := 723) (by decide +kernel) (by decide +kernel)
theorem kw_kl_RL_108 : Cond.constantLong RL 108 (255) ∈ gWs := gWs_of (i := 724) (by decide +kernel) (by decide +kernel)
theorem kw_kl_RL_127 : Cond.constantLong RL 127 (3226162) ∈ gWs := gWs_of (i := 725) (by decide +kernel) (by decide +kernel)
theorem kw_kl_RL_129 : Cond.constantLong RL 129 (825963067) ∈ gWs := gWs_of (i := 726) (by decide +kernel) (by decide +kernel)
theorem kw_kl_RL_131 : Cond.constantLong RL 131 (3547202886351335473) ∈ gWs := gWs_of (i := 727) (by decide +kernel) (by decide +kernel)
theorem kw_kl_RL_133 : Cond.constantLong RL 133 (3813435) ∈ gWs := gWs_of (i := 728) (by decide +kernel) (by decide +kernel)
theorem kw_kl_RL_135 : Cond.constantLong RL 135 (13856278269931835) ∈ gWs := gWs_of (i := 729) (by decide +kernel) (by decide +kernel)
theorem kw_kl_RL_137 : Cond.constantLong RL 137 (3544952156018323771) ∈ gWs := gWs_of (i := 730) (by decide +kernel) (by decide +kernel)
theorem kw_kl_RL_139 : Cond.constantLong RL 139 (3547201748184872251) ∈ gWs := gWs_of (i := 731) (by decide +kernel) (by decide +kernel)
theorem kw_kl_RL_141 : Cond.constantLong RL 141 (54083037311291) ∈ gWs := gWs_of (i := 732) (by decide +kernel) (by decide +kernel)
theorem kw_kl_RL_143 : Cond.constantLong RL 143 (3547202886300610609) ∈ gWs := gWs_of (i := 733) (by decide +kernel) (by decide +kernel)
theorem kw_kl_RL_145 : Cond.constantLong RL 145 (3814203) ∈ gWs := gWs_of (i := 734) (by decide +kernel) (by decide +kernel)
theorem kw_kl_RL_147 : Cond.constantLong RL 147 (138264851003) ∈ gWs := gWs_of (i := 735) (by decide +kernel) (by decide +kernel)
theorem kw_kl_RL_149 : Cond.constantLong RL 149 (211429767968) ∈ gWs := gWs_of (i := 736) (by decide +kernel) (by decide +kernel)
theorem kw_kl_RL_151 : Cond.constantLong RL 151 (3472328296395452464) ∈ gWs := gWs_of (i := 737) (by decide +kernel) (by decide +kernel)
theorem kw_kl_RL_153 : Cond.constantLong RL 153 (12347) ∈ gWs := gWs_of (i := 738) (by decide +kernel) (by decide +kernel)
theorem kw_kl_RL_155 : Cond.constantLong RL 155 (3690189928369893424) ∈ gWs := gWs_of (i := 739) (by decide +kernel) (by decide +kernel)
theorem kw_kl_RL_157 : Cond.constantLong RL 157 (14907) ∈ gWs := gWs_of (i := 740) (by decide +kernel) (by decide +kernel)
theorem kw_kl_RL_159 : Cond.constantLong RL 159 (211429767995) ∈ gWs := gWs_of (i := 741) (by decide +kernel) (by decide +kernel)
theorem kw_kl_RL_161 : Cond.constantLong RL 161 (3544385933315944497) ∈ gWs := gWs_of (i := 742) (by decide +kernel) (by decide +kernel)
theorem kw_kl_RL_163 : Cond.constantLong RL 163 (59) ∈ gWs := gWs_of (i := 743) (by decide +kernel) (by decide +kernel)
theorem kw_kl_RL_165 : Cond.constantLong RL 165 (3547202886334821179) ∈ gWs := gWs_of (i := 744) (by decide +kernel) (by decide +kernel)
theorem kw_kl_RL_167 : Cond.constantLong RL 167 (220019833720) ∈ gWs := gWs_of (i := 745) (by decide +kernel) (by decide +kernel)
theorem kw_kl_RL_169 : Cond.constantLong RL 169 (13856261274810932) ∈ gWs := gWs_of (i := 746) (by decide +kernel) (by decide +kernel)
theorem kw_kl_RL_171 : Cond.constantLong RL 171 (3750459) ∈ gWs := gWs_of (i := 747) (by decide +kernel) (by decide +kernel)
theorem kw_kl_RL_173 : Cond.constantLong RL 173 (3979555047648932923) ∈ gWs := gWs_of (i := 748) (by decide +kernel) (by decide +kernel)
theorem kw_k_RL_175 : Cond.constant RL 175 (-100003) ∈ gWs := gWs_of (i := 749) (by decide +kernel) (by decide +kernel)
theorem kw_ml_RL_189 : Cond.methodLink RL 189 yL_known ∈ gWs := gWs_of (i := 750) (by decide +kernel) (by decide +kernel)
theorem kw_st_L_known : Cond.static yL_known ∈ gWs := gWs_of (i := 751) (by decide +kernel) (by decide +kernel)
set_option maxRecDepth 100000 in
theorem kw_co_L_known : Cond.code yL_known cL_known 1 (some .boolean) ∈ gWs := gWs_of (i := 752) (by rfl) (by decide +kernel)
theorem kw_k_RL_199 : Cond.constant RL 199 (-100000) ∈ gWs := gWs_of (i := 753) (by decide +kernel) (by decide +kernel)
theorem kw_ac_long : Cond.arrayClass .long ∈ gWs := gWs_of (i := 754) (by decide +kernel) (by decide +kernel)
theorem kw_se_X1_stateAt : Cond.selects RX1 yX1_stateAt yX1_stateAt ∈ gWs := gWs_of (i := 0) (by decide +kernel) (by decide +kernel)
theorem kw_se_X0_hold : Cond.selects RX0 yX0_hold yX0_hold ∈ gWs := gWs_of (i := 1) (by decide +kernel) (by decide +kernel)
theorem kw_se_X0_inBowls : Cond.selects RX0 yX0_inBowls yX0_inBowls ∈ gWs := gWs_of (i := 2) (by decide +kernel) (by decide +kernel)
theorem kw_se_X2_phraseOf : Cond.selects RX2 yX2_phraseOf yX2_phraseOf ∈ gWs := gWs_of (i := 3) (by decide +kernel) (by decide +kernel)
theorem kw_se_X2_placeFor : Cond.selects RX2 yX2_placeFor yX2_placeFor ∈ gWs := gWs_of (i := 4) (by decide +kernel) (by decide +kernel)
theorem kw_se_X4_dryUntil : Cond.selects RX4 yX4_dryUntil yX4_dryUntil ∈ gWs := gWs_of (i := 5) (by decide +kernel) (by decide +kernel)
theorem kw_se_X4_playNote : Cond.selects RX4 yX4_playNote yX4_playNote ∈ gWs := gWs_of (i := 6) (by decide +kernel) (by decide +kernel)
theorem kw_se_X0_pitchWith : Cond.selects RX0 yX0_pitchWith yX0_pitchWith ∈ gWs := gWs_of (i := 7) (by decide +kernel) (by decide +kernel)
theorem kw_se_X2_sounded : Cond.selects RX2 yX2_sounded yX2_sounded ∈ gWs := gWs_of (i := 8) (by decide +kernel) (by decide +kernel)
theorem kw_se_X6_tryOut : Cond.selects RX6 yX6_tryOut yX6_tryOut ∈ gWs := gWs_of (i := 9) (by decide +kernel) (by decide +kernel)
theorem kw_se_X2_errorSize : Cond.selects RX2 yX2_errorSize yX2_errorSize ∈ gWs := gWs_of (i := 10) (by decide +kernel) (by decide +kernel)
theorem kw_se_X2_rankOf : Cond.selects RX2 yX2_rankOf yX2_rankOf ∈ gWs := gWs_of (i := 11) (by decide +kernel) (by decide +kernel)
theorem kw_se_X6_tryText : Cond.selects RX6 yX6_tryText yX6_tryText ∈ gWs := gWs_of (i := 12) (by decide +kernel) (by decide +kernel)
theorem kw_se_X5_reasonAgainstNext : Cond.selects RX5 yX5_reasonAgainstNext yX5_reasonAgainstNext ∈ gWs := gWs_of (i := 13) (by decide +kernel) (by decide +kernel)
theorem kw_se_X5_readNote : Cond.selects RX5 yX5_readNote yX5_readNote ∈ gWs := gWs_of (i := 14) (by decide +kernel) (by decide +kernel)
theorem kw_se_X5_readNumber : Cond.selects RX5 yX5_readNumber yX5_readNumber ∈ gWs := gWs_of (i := 15) (by decide +kernel) (by decide +kernel)
theorem kw_se_X5_readCharacter : Cond.selects RX5 yX5_readCharacter yX5_readCharacter ∈ gWs := gWs_of (i := 16) (by decide +kernel) (by decide +kernel)
end
section
theorem dX0_init_0 : decode cX0_init 0 = .ok (.aload_n 0, 1) := by decide +kernel
theorem dX0_init_1 : decode cX0_init 1 = .ok (.invokespecial 3, 3) := by decide +kernel
theorem dX0_init_4 : decode cX0_init 4 = .ok (.aload_n 0, 1) := by decide +kernel
theorem dX0_init_5 : decode cX0_init 5 = .ok (.new 9, 3) := by decide +kernel
theorem dX0_init_8 : decode cX0_init 8 = .ok (.dup, 1) := by decide +kernel
theorem dX0_init_9 : decode cX0_init 9 = .ok (.bipush 10, 2) := by decide +kernel
theorem dX0_init_11 : decode cX0_init 11 = .ok (.invokespecial 11, 3) := by decide +kernel
theorem dX0_init_14 : decode cX0_init 14 = .ok (.putfield 14, 3) := by decide +kernel
theorem dX0_init_17 : decode cX0_init 17 = .ok (.aload_n 0, 1) := by decide +kernel
theorem dX0_init_18 : decode cX0_init 18 = .ok (.new 9, 3) := by decide +kernel
theorem dX0_init_21 : decode cX0_init 21 = .ok (.dup, 1) := by decide +kernel
theorem dX0_init_22 : decode cX0_init 22 = .ok (.bipush 10, 2) := by decide +kernel
theorem dX0_init_24 : decode cX0_init 24 = .ok (.invokespecial 11, 3) := by decide +kernel
theorem dX0_init_27 : decode cX0_init 27 = .ok (.putfield 20, 3) := by decide +kernel
theorem dX0_init_30 : decode cX0_init 30 = .ok (.aload_n 0, 1) := by decide +kernel
theorem dX0_init_31 : decode cX0_init 31 = .ok (.new 9, 3) := by decide +kernel
theorem dX0_init_34 : decode cX0_init 34 = .ok (.dup, 1) := by decide +kernel
theorem dX0_init_35 : decode cX0_init 35 = .ok (.bipush 10, 2) := by decide +kernel
theorem dX0_init_37 : decode cX0_init 37 = .ok (.invokespecial 11, 3) := by decide +kernel
theorem dX0_init_40 : decode cX0_init 40 = .ok (.putfield 23, 3) := by decide +kernel
theorem dX0_init_43 : decode cX0_init 43 = .ok (.aload_n 0, 1) := by decide +kernel
theorem dX0_init_44 : decode cX0_init 44 = .ok (.new 9, 3) := by decide +kernel
theorem dX0_init_47 : decode cX0_init 47 = .ok (.dup, 1) := by decide +kernel
theorem dX0_init_48 : decode cX0_init 48 = .ok (.bipush 10, 2) := by decide +kernel
theorem dX0_init_50 : decode cX0_init 50 = .ok (.invokespecial 11, 3) := by decide +kernel
theorem dX0_init_53 : decode cX0_init 53 = .ok (.putfield 26, 3) := by decide +kernel
theorem dX0_init_56 : decode cX0_init 56 = .ok (.aload_n 0, 1) := by decide +kernel
theorem dX0_init_57 : decode cX0_init 57 = .ok (.new 9, 3) := by decide +kernel
theorem dX0_init_60 : decode cX0_init 60 = .ok (.dup, 1) := by decide +kernel
theorem dX0_init_61 : decode cX0_init 61 = .ok (.bipush 10, 2) := by decide +kernel
theorem dX0_init_63 : decode cX0_init 63 = .ok (.invokespecial 11, 3) := by decide +kernel
theorem dX0_init_66 : decode cX0_init 66 = .ok (.putfield 29, 3) := by decide +kernel
theorem dX0_init_69 : decode cX0_init 69 = .ok (.aload_n 0, 1) := by decide +kernel
theorem dX0_init_70 : decode cX0_init 70 = .ok (.iconst 0, 1) := by decide +kernel
theorem dX0_init_71 : decode cX0_init 71 = .ok (.putfield 32, 3) := by decide +kernel
theorem dX0_init_74 : decode cX0_init 74 = .ok (.aload_n 0, 1) := by decide +kernel
theorem dX0_init_75 : decode cX0_init 75 = .ok (.iconst 0, 1) := by decide +kernel
theorem dX0_init_76 : decode cX0_init 76 = .ok (.putfield 36, 3) := by decide +kernel
theorem dX0_init_79 : decode cX0_init 79 = .ok (.aload_n 0, 1) := by decide +kernel
theorem dX0_init_80 : decode cX0_init 80 = .ok (.iconst 0, 1) := by decide +kernel
theorem dX0_init_81 : decode cX0_init 81 = .ok (.putfield 39, 3) := by decide +kernel
theorem dX0_init_84 : decode cX0_init 84 = .ok (.aload_n 0, 1) := by decide +kernel
theorem dX0_init_85 : decode cX0_init 85 = .ok (.iconst 0, 1) := by decide +kernel
theorem dX0_init_86 : decode cX0_init 86 = .ok (.putfield 42, 3) := by decide +kernel
theorem dX0_init_89 : decode cX0_init 89 = .ok (.aload_n 0, 1) := by decide +kernel
theorem dX0_init_90 : decode cX0_init 90 = .ok (.iconst 0, 1) := by decide +kernel
theorem dX0_init_91 : decode cX0_init 91 = .ok (.putfield 45, 3) := by decide +kernel
theorem dX0_init_94 : decode cX0_init 94 = .ok (.return_, 1) := by decide +kernel
theorem dX0_size_0 : decode cX0_size 0 = .ok (.aload_n 0, 1) := by decide +kernel
theorem dX0_size_1 : decode cX0_size 1 = .ok (.getfield 32, 3) := by decide +kernel
theorem dX0_size_4 : decode cX0_size 4 = .ok (.ireturn, 1) := by decide +kernel
theorem dX0_has_0 : decode cX0_has 0 = .ok (.iload_n 1, 1) := by decide +kernel
theorem dX0_has_1 : decode cX0_has 1 = .ok (.ifCond .lt 15, 3) := by decide +kernel
theorem dX0_has_4 : decode cX0_has 4 = .ok (.iload_n 1, 1) := by decide +kernel
theorem dX0_has_5 : decode cX0_has 5 = .ok (.aload_n 0, 1) := by decide +kernel
theorem dX0_has_6 : decode cX0_has 6 = .ok (.getfield 32, 3) := by decide +kernel
theorem dX0_has_9 : decode cX0_has 9 = .ok (.if_icmp .ge 7, 3) := by decide +kernel
theorem dX0_has_12 : decode cX0_has 12 = .ok (.iconst 1, 1) := by decide +kernel
theorem dX0_has_13 : decode cX0_has 13 = .ok (.goto 4, 3) := by decide +kernel
theorem dX0_has_16 : decode cX0_has 16 = .ok (.iconst 0, 1) := by decide +kernel
theorem dX0_has_17 : decode cX0_has 17 = .ok (.ireturn, 1) := by decide +kernel
theorem dX0_levelIn_0 : decode cX0_levelIn 0 = .ok (.aload_n 0, 1) := by decide +kernel
theorem dX0_levelIn_1 : decode cX0_levelIn 1 = .ok (.getfield 23, 3) := by decide +kernel
theorem dX0_levelIn_4 : decode cX0_levelIn 4 = .ok (.iload_n 1, 1) := by decide +kernel
theorem dX0_levelIn_5 : decode cX0_levelIn 5 = .ok (.invokevirtual 48, 3) := by decide +kernel
theorem dX0_levelIn_8 : decode cX0_levelIn 8 = .ok (.ireturn, 1) := by decide +kernel
theorem dX0_append_0 : decode cX0_append 0 = .ok (.aload_n 0, 1) := by decide +kernel
theorem dX0_append_1 : decode cX0_append 1 = .ok (.getfield 14, 3) := by decide +kernel
theorem dX0_append_4 : decode cX0_append 4 = .ok (.aload_n 0, 1) := by decide +kernel
theorem dX0_append_5 : decode cX0_append 5 = .ok (.getfield 32, 3) := by decide +kernel
theorem dX0_append_8 : decode cX0_append 8 = .ok (.iload_n 1, 1) := by decide +kernel
theorem dX0_append_9 : decode cX0_append 9 = .ok (.invokevirtual 52, 3) := by decide +kernel
theorem dX0_append_12 : decode cX0_append 12 = .ok (.aload_n 0, 1) := by decide +kernel
theorem dX0_append_13 : decode cX0_append 13 = .ok (.getfield 20, 3) := by decide +kernel
theorem dX0_append_16 : decode cX0_append 16 = .ok (.aload_n 0, 1) := by decide +kernel
theorem dX0_append_17 : decode cX0_append 17 = .ok (.getfield 32, 3) := by decide +kernel
theorem dX0_append_20 : decode cX0_append 20 = .ok (.iload_n 2, 1) := by decide +kernel
theorem dX0_append_21 : decode cX0_append 21 = .ok (.invokevirtual 52, 3) := by decide +kernel
theorem dX0_append_24 : decode cX0_append 24 = .ok (.aload_n 0, 1) := by decide +kernel
theorem dX0_append_25 : decode cX0_append 25 = .ok (.getfield 23, 3) := by decide +kernel
theorem dX0_append_28 : decode cX0_append 28 = .ok (.aload_n 0, 1) := by decide +kernel
theorem dX0_append_29 : decode cX0_append 29 = .ok (.getfield 32, 3) := by decide +kernel
theorem dX0_append_32 : decode cX0_append 32 = .ok (.iconst 0, 1) := by decide +kernel
theorem dX0_append_33 : decode cX0_append 33 = .ok (.invokevirtual 52, 3) := by decide +kernel
theorem dX0_append_36 : decode cX0_append 36 = .ok (.aload_n 0, 1) := by decide +kernel
theorem dX0_append_37 : decode cX0_append 37 = .ok (.getfield 26, 3) := by decide +kernel
theorem dX0_append_40 : decode cX0_append 40 = .ok (.aload_n 0, 1) := by decide +kernel
theorem dX0_append_41 : decode cX0_append 41 = .ok (.getfield 32, 3) := by decide +kernel
theorem dX0_append_44 : decode cX0_append 44 = .ok (.iconst 0, 1) := by decide +kernel
theorem dX0_append_45 : decode cX0_append 45 = .ok (.invokevirtual 52, 3) := by decide +kernel
theorem dX0_append_48 : decode cX0_append 48 = .ok (.aload_n 0, 1) := by decide +kernel
theorem dX0_append_49 : decode cX0_append 49 = .ok (.getfield 29, 3) := by decide +kernel
theorem dX0_append_52 : decode cX0_append 52 = .ok (.aload_n 0, 1) := by decide +kernel
theorem dX0_append_53 : decode cX0_append 53 = .ok (.getfield 32, 3) := by decide +kernel
theorem dX0_append_56 : decode cX0_append 56 = .ok (.sipush 1000, 3) := by decide +kernel
theorem dX0_append_59 : decode cX0_append 59 = .ok (.invokevirtual 52, 3) := by decide +kernel
theorem dX0_append_62 : decode cX0_append 62 = .ok (.aload_n 0, 1) := by decide +kernel
theorem dX0_append_63 : decode cX0_append 63 = .ok (.dup, 1) := by decide +kernel
theorem dX0_append_64 : decode cX0_append 64 = .ok (.getfield 32, 3) := by decide +kernel
theorem dX0_append_67 : decode cX0_append 67 = .ok (.iconst 1, 1) := by decide +kernel
theorem dX0_append_68 : decode cX0_append 68 = .ok (.iadd, 1) := by decide +kernel
theorem dX0_append_69 : decode cX0_append 69 = .ok (.putfield 32, 3) := by decide +kernel
theorem dX0_append_72 : decode cX0_append 72 = .ok (.return_, 1) := by decide +kernel
theorem dX0_takeAway_0 : decode cX0_takeAway 0 = .ok (.aload_n 0, 1) := by decide +kernel
theorem dX0_takeAway_1 : decode cX0_takeAway 1 = .ok (.dup, 1) := by decide +kernel
theorem dX0_takeAway_2 : decode cX0_takeAway 2 = .ok (.getfield 45, 3) := by decide +kernel
theorem dX0_takeAway_5 : decode cX0_takeAway 5 = .ok (.aload_n 0, 1) := by decide +kernel
theorem dX0_takeAway_6 : decode cX0_takeAway 6 = .ok (.getfield 23, 3) := by decide +kernel
theorem dX0_takeAway_9 : decode cX0_takeAway 9 = .ok (.iload_n 1, 1) := by decide +kernel
theorem dX0_takeAway_10 : decode cX0_takeAway 10 = .ok (.invokevirtual 48, 3) := by decide +kernel
theorem dX0_takeAway_13 : decode cX0_takeAway 13 = .ok (.iadd, 1) := by decide +kernel
theorem dX0_takeAway_14 : decode cX0_takeAway 14 = .ok (.putfield 45, 3) := by decide +kernel
theorem dX0_takeAway_17 : decode cX0_takeAway 17 = .ok (.aload_n 0, 1) := by decide +kernel
theorem dX0_takeAway_18 : decode cX0_takeAway 18 = .ok (.getfield 14, 3) := by decide +kernel
theorem dX0_takeAway_21 : decode cX0_takeAway 21 = .ok (.iload_n 1, 1) := by decide +kernel
theorem dX0_takeAway_22 : decode cX0_takeAway 22 = .ok (.aload_n 0, 1) := by decide +kernel
theorem dX0_takeAway_23 : decode cX0_takeAway 23 = .ok (.getfield 32, 3) := by decide +kernel
theorem dX0_takeAway_26 : decode cX0_takeAway 26 = .ok (.invokevirtual 56, 3) := by decide +kernel
theorem dX0_takeAway_29 : decode cX0_takeAway 29 = .ok (.aload_n 0, 1) := by decide +kernel
theorem dX0_takeAway_30 : decode cX0_takeAway 30 = .ok (.getfield 20, 3) := by decide +kernel
theorem dX0_takeAway_33 : decode cX0_takeAway 33 = .ok (.iload_n 1, 1) := by decide +kernel
theorem dX0_takeAway_34 : decode cX0_takeAway 34 = .ok (.aload_n 0, 1) := by decide +kernel
theorem dX0_takeAway_35 : decode cX0_takeAway 35 = .ok (.getfield 32, 3) := by decide +kernel
theorem dX0_takeAway_38 : decode cX0_takeAway 38 = .ok (.invokevirtual 56, 3) := by decide +kernel
theorem dX0_takeAway_41 : decode cX0_takeAway 41 = .ok (.aload_n 0, 1) := by decide +kernel
theorem dX0_takeAway_42 : decode cX0_takeAway 42 = .ok (.getfield 23, 3) := by decide +kernel
theorem dX0_takeAway_45 : decode cX0_takeAway 45 = .ok (.iload_n 1, 1) := by decide +kernel
theorem dX0_takeAway_46 : decode cX0_takeAway 46 = .ok (.aload_n 0, 1) := by decide +kernel
theorem dX0_takeAway_47 : decode cX0_takeAway 47 = .ok (.getfield 32, 3) := by decide +kernel
theorem dX0_takeAway_50 : decode cX0_takeAway 50 = .ok (.invokevirtual 56, 3) := by decide +kernel
theorem dX0_takeAway_53 : decode cX0_takeAway 53 = .ok (.aload_n 0, 1) := by decide +kernel
theorem dX0_takeAway_54 : decode cX0_takeAway 54 = .ok (.getfield 26, 3) := by decide +kernel
theorem dX0_takeAway_57 : decode cX0_takeAway 57 = .ok (.iload_n 1, 1) := by decide +kernel
theorem dX0_takeAway_58 : decode cX0_takeAway 58 = .ok (.aload_n 0, 1) := by decide +kernel
theorem dX0_takeAway_59 : decode cX0_takeAway 59 = .ok (.getfield 32, 3) := by decide +kernel
theorem dX0_takeAway_62 : decode cX0_takeAway 62 = .ok (.invokevirtual 56, 3) := by decide +kernel
theorem dX0_takeAway_65 : decode cX0_takeAway 65 = .ok (.aload_n 0, 1) := by decide +kernel
theorem dX0_takeAway_66 : decode cX0_takeAway 66 = .ok (.getfield 29, 3) := by decide +kernel
theorem dX0_takeAway_69 : decode cX0_takeAway 69 = .ok (.iload_n 1, 1) := by decide +kernel
theorem dX0_takeAway_70 : decode cX0_takeAway 70 = .ok (.aload_n 0, 1) := by decide +kernel
theorem dX0_takeAway_71 : decode cX0_takeAway 71 = .ok (.getfield 32, 3) := by decide +kernel
theorem dX0_takeAway_74 : decode cX0_takeAway 74 = .ok (.invokevirtual 56, 3) := by decide +kernel
theorem dX0_takeAway_77 : decode cX0_takeAway 77 = .ok (.aload_n 0, 1) := by decide +kernel
theorem dX0_takeAway_78 : decode cX0_takeAway 78 = .ok (.dup, 1) := by decide +kernel
theorem dX0_takeAway_79 : decode cX0_takeAway 79 = .ok (.getfield 32, 3) := by decide +kernel
theorem dX0_takeAway_82 : decode cX0_takeAway 82 = .ok (.iconst 1, 1) := by decide +kernel
theorem dX0_takeAway_83 : decode cX0_takeAway 83 = .ok (.isub, 1) := by decide +kernel
theorem dX0_takeAway_84 : decode cX0_takeAway 84 = .ok (.putfield 32, 3) := by decide +kernel
theorem dX0_takeAway_87 : decode cX0_takeAway 87 = .ok (.return_, 1) := by decide +kernel
theorem dX0_addWater_0 : decode cX0_addWater 0 = .ok (.aload_n 0, 1) := by decide +kernel
theorem dX0_addWater_1 : decode cX0_addWater 1 = .ok (.dup, 1) := by decide +kernel
theorem dX0_addWater_2 : decode cX0_addWater 2 = .ok (.getfield 36, 3) := by decide +kernel
theorem dX0_addWater_5 : decode cX0_addWater 5 = .ok (.iload_n 2, 1) := by decide +kernel
theorem dX0_addWater_6 : decode cX0_addWater 6 = .ok (.iadd, 1) := by decide +kernel
theorem dX0_addWater_7 : decode cX0_addWater 7 = .ok (.putfield 36, 3) := by decide +kernel
theorem dX0_addWater_10 : decode cX0_addWater 10 = .ok (.aload_n 0, 1) := by decide +kernel
theorem dX0_addWater_11 : decode cX0_addWater 11 = .ok (.iload_n 1, 1) := by decide +kernel
theorem dX0_addWater_12 : decode cX0_addWater 12 = .ok (.aload_n 0, 1) := by decide +kernel
theorem dX0_addWater_13 : decode cX0_addWater 13 = .ok (.getfield 23, 3) := by decide +kernel
theorem dX0_addWater_16 : decode cX0_addWater 16 = .ok (.iload_n 1, 1) := by decide +kernel
theorem dX0_addWater_17 : decode cX0_addWater 17 = .ok (.invokevirtual 48, 3) := by decide +kernel
theorem dX0_addWater_20 : decode cX0_addWater 20 = .ok (.iload_n 2, 1) := by decide +kernel
theorem dX0_addWater_21 : decode cX0_addWater 21 = .ok (.iadd, 1) := by decide +kernel
theorem dX0_addWater_22 : decode cX0_addWater 22 = .ok (.invokevirtual 59, 3) := by decide +kernel
theorem dX0_addWater_25 : decode cX0_addWater 25 = .ok (.return_, 1) := by decide +kernel
theorem dX0_takeWater_0 : decode cX0_takeWater 0 = .ok (.aload_n 0, 1) := by decide +kernel
theorem dX0_takeWater_1 : decode cX0_takeWater 1 = .ok (.dup, 1) := by decide +kernel
theorem dX0_takeWater_2 : decode cX0_takeWater 2 = .ok (.getfield 45, 3) := by decide +kernel
theorem dX0_takeWater_5 : decode cX0_takeWater 5 = .ok (.iload_n 2, 1) := by decide +kernel
theorem dX0_takeWater_6 : decode cX0_takeWater 6 = .ok (.iadd, 1) := by decide +kernel
theorem dX0_takeWater_7 : decode cX0_takeWater 7 = .ok (.putfield 45, 3) := by decide +kernel
theorem dX0_takeWater_10 : decode cX0_takeWater 10 = .ok (.aload_n 0, 1) := by decide +kernel
theorem dX0_takeWater_11 : decode cX0_takeWater 11 = .ok (.getfield 23, 3) := by decide +kernel
theorem dX0_takeWater_14 : decode cX0_takeWater 14 = .ok (.iload_n 1, 1) := by decide +kernel
theorem dX0_takeWater_15 : decode cX0_takeWater 15 = .ok (.iload_n 2, 1) := by decide +kernel
theorem dX0_takeWater_16 : decode cX0_takeWater 16 = .ok (.ineg, 1) := by decide +kernel
theorem dX0_takeWater_17 : decode cX0_takeWater 17 = .ok (.invokevirtual 62, 3) := by decide +kernel
theorem dX0_takeWater_20 : decode cX0_takeWater 20 = .ok (.return_, 1) := by decide +kernel
theorem dX0_moveCrack_0 : decode cX0_moveCrack 0 = .ok (.aload_n 0, 1) := by decide +kernel
theorem dX0_moveCrack_1 : decode cX0_moveCrack 1 = .ok (.getfield 29, 3) := by decide +kernel
theorem dX0_moveCrack_4 : decode cX0_moveCrack 4 = .ok (.iload_n 1, 1) := by decide +kernel
theorem dX0_moveCrack_5 : decode cX0_moveCrack 5 = .ok (.iload_n 2, 1) := by decide +kernel
theorem dX0_moveCrack_6 : decode cX0_moveCrack 6 = .ok (.invokevirtual 52, 3) := by decide +kernel
theorem dX0_moveCrack_9 : decode cX0_moveCrack 9 = .ok (.aload_n 0, 1) := by decide +kernel
theorem dX0_moveCrack_10 : decode cX0_moveCrack 10 = .ok (.iload_n 1, 1) := by decide +kernel
theorem dX0_moveCrack_11 : decode cX0_moveCrack 11 = .ok (.aload_n 0, 1) := by decide +kernel
theorem dX0_moveCrack_12 : decode cX0_moveCrack 12 = .ok (.getfield 23, 3) := by decide +kernel
theorem dX0_moveCrack_15 : decode cX0_moveCrack 15 = .ok (.iload_n 1, 1) := by decide +kernel
theorem dX0_moveCrack_16 : decode cX0_moveCrack 16 = .ok (.invokevirtual 48, 3) := by decide +kernel
theorem dX0_moveCrack_19 : decode cX0_moveCrack 19 = .ok (.invokevirtual 59, 3) := by decide +kernel
theorem dX0_moveCrack_22 : decode cX0_moveCrack 22 = .ok (.return_, 1) := by decide +kernel
theorem dX0_moveMark_0 : decode cX0_moveMark 0 = .ok (.aload_n 0, 1) := by decide +kernel
theorem dX0_moveMark_1 : decode cX0_moveMark 1 = .ok (.getfield 26, 3) := by decide +kernel
theorem dX0_moveMark_4 : decode cX0_moveMark 4 = .ok (.iload_n 1, 1) := by decide +kernel
theorem dX0_moveMark_5 : decode cX0_moveMark 5 = .ok (.invokevirtual 48, 3) := by decide +kernel
theorem dX0_moveMark_8 : decode cX0_moveMark 8 = .ok (.istore_n 3, 1) := by decide +kernel
theorem dX0_moveMark_9 : decode cX0_moveMark 9 = .ok (.aload_n 0, 1) := by decide +kernel
theorem dX0_moveMark_10 : decode cX0_moveMark 10 = .ok (.getfield 26, 3) := by decide +kernel
theorem dX0_moveMark_13 : decode cX0_moveMark 13 = .ok (.iload_n 1, 1) := by decide +kernel
theorem dX0_moveMark_14 : decode cX0_moveMark 14 = .ok (.iload_n 2, 1) := by decide +kernel
theorem dX0_moveMark_15 : decode cX0_moveMark 15 = .ok (.invokevirtual 52, 3) := by decide +kernel
theorem dX0_moveMark_18 : decode cX0_moveMark 18 = .ok (.iload_n 3, 1) := by decide +kernel
theorem dX0_moveMark_19 : decode cX0_moveMark 19 = .ok (.ireturn, 1) := by decide +kernel
theorem dX0_hold_0 : decode cX0_hold 0 = .ok (.iload_n 2, 1) := by decide +kernel
theorem dX0_hold_1 : decode cX0_hold 1 = .ok (.aload_n 0, 1) := by decide +kernel
theorem dX0_hold_2 : decode cX0_hold 2 = .ok (.getfield 29, 3) := by decide +kernel
theorem dX0_hold_5 : decode cX0_hold 5 = .ok (.iload_n 1, 1) := by decide +kernel
theorem dX0_hold_6 : decode cX0_hold 6 = .ok (.invokevirtual 48, 3) := by decide +kernel
theorem dX0_hold_9 : decode cX0_hold 9 = .ok (.invokestatic 65, 3) := by decide +kernel
theorem dX0_hold_12 : decode cX0_hold 12 = .ok (.istore_n 3, 1) := by decide +kernel
theorem dX0_hold_13 : decode cX0_hold 13 = .ok (.aload_n 0, 1) := by decide +kernel
theorem dX0_hold_14 : decode cX0_hold 14 = .ok (.dup, 1) := by decide +kernel
theorem dX0_hold_15 : decode cX0_hold 15 = .ok (.getfield 42, 3) := by decide +kernel
theorem dX0_hold_18 : decode cX0_hold 18 = .ok (.iload_n 2, 1) := by decide +kernel
theorem dX0_hold_19 : decode cX0_hold 19 = .ok (.iload_n 3, 1) := by decide +kernel
theorem dX0_hold_20 : decode cX0_hold 20 = .ok (.isub, 1) := by decide +kernel
theorem dX0_hold_21 : decode cX0_hold 21 = .ok (.iadd, 1) := by decide +kernel
theorem dX0_hold_22 : decode cX0_hold 22 = .ok (.putfield 42, 3) := by decide +kernel
theorem dX0_hold_25 : decode cX0_hold 25 = .ok (.aload_n 0, 1) := by decide +kernel
theorem dX0_hold_26 : decode cX0_hold 26 = .ok (.getfield 23, 3) := by decide +kernel
theorem dX0_hold_29 : decode cX0_hold 29 = .ok (.iload_n 1, 1) := by decide +kernel
theorem dX0_hold_30 : decode cX0_hold 30 = .ok (.iload_n 3, 1) := by decide +kernel
theorem dX0_hold_31 : decode cX0_hold 31 = .ok (.invokevirtual 52, 3) := by decide +kernel
theorem dX0_hold_34 : decode cX0_hold 34 = .ok (.return_, 1) := by decide +kernel
theorem dX0_fillToMarks_0 : decode cX0_fillToMarks 0 = .ok (.iconst 0, 1) := by decide +kernel
theorem dX0_fillToMarks_1 : decode cX0_fillToMarks 1 = .ok (.istore_n 1, 1) := by decide +kernel
theorem dX0_fillToMarks_2 : decode cX0_fillToMarks 2 = .ok (.iload_n 1, 1) := by decide +kernel
theorem dX0_fillToMarks_3 : decode cX0_fillToMarks 3 = .ok (.aload_n 0, 1) := by decide +kernel
theorem dX0_fillToMarks_4 : decode cX0_fillToMarks 4 = .ok (.getfield 32, 3) := by decide +kernel
theorem dX0_fillToMarks_7 : decode cX0_fillToMarks 7 = .ok (.if_icmp .ge 54, 3) := by decide +kernel
theorem dX0_fillToMarks_10 : decode cX0_fillToMarks 10 = .ok (.aload_n 0, 1) := by decide +kernel
theorem dX0_fillToMarks_11 : decode cX0_fillToMarks 11 = .ok (.getfield 26, 3) := by decide +kernel
theorem dX0_fillToMarks_14 : decode cX0_fillToMarks 14 = .ok (.iload_n 1, 1) := by decide +kernel
theorem dX0_fillToMarks_15 : decode cX0_fillToMarks 15 = .ok (.invokevirtual 48, 3) := by decide +kernel
theorem dX0_fillToMarks_18 : decode cX0_fillToMarks 18 = .ok (.aload_n 0, 1) := by decide +kernel
theorem dX0_fillToMarks_19 : decode cX0_fillToMarks 19 = .ok (.getfield 23, 3) := by decide +kernel
theorem dX0_fillToMarks_22 : decode cX0_fillToMarks 22 = .ok (.iload_n 1, 1) := by decide +kernel
theorem dX0_fillToMarks_23 : decode cX0_fillToMarks 23 = .ok (.invokevirtual 48, 3) := by decide +kernel
theorem dX0_fillToMarks_26 : decode cX0_fillToMarks 26 = .ok (.isub, 1) := by decide +kernel
theorem dX0_fillToMarks_27 : decode cX0_fillToMarks 27 = .ok (.istore_n 2, 1) := by decide +kernel
theorem dX0_fillToMarks_28 : decode cX0_fillToMarks 28 = .ok (.iload_n 2, 1) := by decide +kernel
theorem dX0_fillToMarks_29 : decode cX0_fillToMarks 29 = .ok (.ifCond .le 26, 3) := by decide +kernel
theorem dX0_fillToMarks_32 : decode cX0_fillToMarks 32 = .ok (.aload_n 0, 1) := by decide +kernel
theorem dX0_fillToMarks_33 : decode cX0_fillToMarks 33 = .ok (.dup, 1) := by decide +kernel
theorem dX0_fillToMarks_34 : decode cX0_fillToMarks 34 = .ok (.getfield 36, 3) := by decide +kernel
theorem dX0_fillToMarks_37 : decode cX0_fillToMarks 37 = .ok (.iload_n 2, 1) := by decide +kernel
theorem dX0_fillToMarks_38 : decode cX0_fillToMarks 38 = .ok (.iadd, 1) := by decide +kernel
theorem dX0_fillToMarks_39 : decode cX0_fillToMarks 39 = .ok (.putfield 36, 3) := by decide +kernel
theorem dX0_fillToMarks_42 : decode cX0_fillToMarks 42 = .ok (.aload_n 0, 1) := by decide +kernel
theorem dX0_fillToMarks_43 : decode cX0_fillToMarks 43 = .ok (.iload_n 1, 1) := by decide +kernel
theorem dX0_fillToMarks_44 : decode cX0_fillToMarks 44 = .ok (.aload_n 0, 1) := by decide +kernel
theorem dX0_fillToMarks_45 : decode cX0_fillToMarks 45 = .ok (.getfield 26, 3) := by decide +kernel
theorem dX0_fillToMarks_48 : decode cX0_fillToMarks 48 = .ok (.iload_n 1, 1) := by decide +kernel
theorem dX0_fillToMarks_49 : decode cX0_fillToMarks 49 = .ok (.invokevirtual 48, 3) := by decide +kernel
theorem dX0_fillToMarks_52 : decode cX0_fillToMarks 52 = .ok (.invokevirtual 59, 3) := by decide +kernel
theorem dX0_fillToMarks_55 : decode cX0_fillToMarks 55 = .ok (.iinc 1 1, 3) := by decide +kernel
theorem dX0_fillToMarks_58 : decode cX0_fillToMarks 58 = .ok (.goto (-56), 3) := by decide +kernel
theorem dX0_fillToMarks_61 : decode cX0_fillToMarks 61 = .ok (.return_, 1) := by decide +kernel
theorem dX0_dry_0 : decode cX0_dry 0 = .ok (.iconst 0, 1) := by decide +kernel
theorem dX0_dry_1 : decode cX0_dry 1 = .ok (.istore_n 2, 1) := by decide +kernel
theorem dX0_dry_2 : decode cX0_dry 2 = .ok (.iload_n 2, 1) := by decide +kernel
theorem dX0_dry_3 : decode cX0_dry 3 = .ok (.aload_n 0, 1) := by decide +kernel
theorem dX0_dry_4 : decode cX0_dry 4 = .ok (.getfield 32, 3) := by decide +kernel
theorem dX0_dry_7 : decode cX0_dry 7 = .ok (.if_icmp .ge 42, 3) := by decide +kernel
theorem dX0_dry_10 : decode cX0_dry 10 = .ok (.aload_n 0, 1) := by decide +kernel
theorem dX0_dry_11 : decode cX0_dry 11 = .ok (.getfield 23, 3) := by decide +kernel
theorem dX0_dry_14 : decode cX0_dry 14 = .ok (.iload_n 2, 1) := by decide +kernel
theorem dX0_dry_15 : decode cX0_dry 15 = .ok (.invokevirtual 48, 3) := by decide +kernel
theorem dX0_dry_18 : decode cX0_dry 18 = .ok (.iload_n 1, 1) := by decide +kernel
theorem dX0_dry_19 : decode cX0_dry 19 = .ok (.invokestatic 65, 3) := by decide +kernel
theorem dX0_dry_22 : decode cX0_dry 22 = .ok (.istore_n 3, 1) := by decide +kernel
theorem dX0_dry_23 : decode cX0_dry 23 = .ok (.aload_n 0, 1) := by decide +kernel
theorem dX0_dry_24 : decode cX0_dry 24 = .ok (.dup, 1) := by decide +kernel
theorem dX0_dry_25 : decode cX0_dry 25 = .ok (.getfield 39, 3) := by decide +kernel
theorem dX0_dry_28 : decode cX0_dry 28 = .ok (.iload_n 3, 1) := by decide +kernel
theorem dX0_dry_29 : decode cX0_dry 29 = .ok (.iadd, 1) := by decide +kernel
theorem dX0_dry_30 : decode cX0_dry 30 = .ok (.putfield 39, 3) := by decide +kernel
theorem dX0_dry_33 : decode cX0_dry 33 = .ok (.aload_n 0, 1) := by decide +kernel
theorem dX0_dry_34 : decode cX0_dry 34 = .ok (.getfield 23, 3) := by decide +kernel
theorem dX0_dry_37 : decode cX0_dry 37 = .ok (.iload_n 2, 1) := by decide +kernel
theorem dX0_dry_38 : decode cX0_dry 38 = .ok (.iload_n 3, 1) := by decide +kernel
theorem dX0_dry_39 : decode cX0_dry 39 = .ok (.ineg, 1) := by decide +kernel
theorem dX0_dry_40 : decode cX0_dry 40 = .ok (.invokevirtual 62, 3) := by decide +kernel
theorem dX0_dry_43 : decode cX0_dry 43 = .ok (.iinc 2 1, 3) := by decide +kernel
theorem dX0_dry_46 : decode cX0_dry 46 = .ok (.goto (-44), 3) := by decide +kernel
theorem dX0_dry_49 : decode cX0_dry 49 = .ok (.return_, 1) := by decide +kernel
theorem dX0_property_0 : decode cX0_property 0 = .ok (.iload_n 2, 1) := by decide +kernel
theorem dX0_property_1 : decode cX0_property 1 = .ok (.tableswitch 119 0 6 #[43, 52, 61, 70, 79, 88, 94], 43) := by decide +kernel
theorem dX0_property_44 : decode cX0_property 44 = .ok (.aload_n 0, 1) := by decide +kernel
theorem dX0_property_45 : decode cX0_property 45 = .ok (.getfield 14, 3) := by decide +kernel
theorem dX0_property_48 : decode cX0_property 48 = .ok (.iload_n 1, 1) := by decide +kernel
theorem dX0_property_49 : decode cX0_property 49 = .ok (.invokevirtual 48, 3) := by decide +kernel
theorem dX0_property_52 : decode cX0_property 52 = .ok (.ireturn, 1) := by decide +kernel
theorem dX0_property_53 : decode cX0_property 53 = .ok (.aload_n 0, 1) := by decide +kernel
theorem dX0_property_54 : decode cX0_property 54 = .ok (.getfield 20, 3) := by decide +kernel
theorem dX0_property_57 : decode cX0_property 57 = .ok (.iload_n 1, 1) := by decide +kernel
theorem dX0_property_58 : decode cX0_property 58 = .ok (.invokevirtual 48, 3) := by decide +kernel
theorem dX0_property_61 : decode cX0_property 61 = .ok (.ireturn, 1) := by decide +kernel
theorem dX0_property_62 : decode cX0_property 62 = .ok (.aload_n 0, 1) := by decide +kernel
theorem dX0_property_63 : decode cX0_property 63 = .ok (.getfield 23, 3) := by decide +kernel
theorem dX0_property_66 : decode cX0_property 66 = .ok (.iload_n 1, 1) := by decide +kernel
theorem dX0_property_67 : decode cX0_property 67 = .ok (.invokevirtual 48, 3) := by decide +kernel
theorem dX0_property_70 : decode cX0_property 70 = .ok (.ireturn, 1) := by decide +kernel
theorem dX0_property_71 : decode cX0_property 71 = .ok (.aload_n 0, 1) := by decide +kernel
theorem dX0_property_72 : decode cX0_property 72 = .ok (.getfield 26, 3) := by decide +kernel
theorem dX0_property_75 : decode cX0_property 75 = .ok (.iload_n 1, 1) := by decide +kernel
theorem dX0_property_76 : decode cX0_property 76 = .ok (.invokevirtual 48, 3) := by decide +kernel
theorem dX0_property_79 : decode cX0_property 79 = .ok (.ireturn, 1) := by decide +kernel
theorem dX0_property_80 : decode cX0_property 80 = .ok (.aload_n 0, 1) := by decide +kernel
theorem dX0_property_81 : decode cX0_property 81 = .ok (.getfield 29, 3) := by decide +kernel
theorem dX0_property_84 : decode cX0_property 84 = .ok (.iload_n 1, 1) := by decide +kernel
theorem dX0_property_85 : decode cX0_property 85 = .ok (.invokevirtual 48, 3) := by decide +kernel
theorem dX0_property_88 : decode cX0_property 88 = .ok (.ireturn, 1) := by decide +kernel
theorem dX0_property_89 : decode cX0_property 89 = .ok (.aload_n 0, 1) := by decide +kernel
theorem dX0_property_90 : decode cX0_property 90 = .ok (.iload_n 1, 1) := by decide +kernel
theorem dX0_property_91 : decode cX0_property 91 = .ok (.invokevirtual 71, 3) := by decide +kernel
theorem dX0_property_94 : decode cX0_property 94 = .ok (.ireturn, 1) := by decide +kernel
theorem dX0_property_95 : decode cX0_property 95 = .ok (.aload_n 0, 1) := by decide +kernel
theorem dX0_property_96 : decode cX0_property 96 = .ok (.iload_n 1, 1) := by decide +kernel
theorem dX0_property_97 : decode cX0_property 97 = .ok (.aload_n 0, 1) := by decide +kernel
theorem dX0_property_98 : decode cX0_property 98 = .ok (.getfield 26, 3) := by decide +kernel
theorem dX0_property_101 : decode cX0_property 101 = .ok (.iload_n 1, 1) := by decide +kernel
theorem dX0_property_102 : decode cX0_property 102 = .ok (.invokevirtual 48, 3) := by decide +kernel
theorem dX0_property_105 : decode cX0_property 105 = .ok (.aload_n 0, 1) := by decide +kernel
theorem dX0_property_106 : decode cX0_property 106 = .ok (.getfield 29, 3) := by decide +kernel
theorem dX0_property_109 : decode cX0_property 109 = .ok (.iload_n 1, 1) := by decide +kernel
theorem dX0_property_110 : decode cX0_property 110 = .ok (.invokevirtual 48, 3) := by decide +kernel
theorem dX0_property_113 : decode cX0_property 113 = .ok (.invokestatic 65, 3) := by decide +kernel
theorem dX0_property_116 : decode cX0_property 116 = .ok (.invokevirtual 74, 3) := by decide +kernel
theorem dX0_property_119 : decode cX0_property 119 = .ok (.ireturn, 1) := by decide +kernel
theorem dX0_property_120 : decode cX0_property 120 = .ok (.ldc 77, 2) := by decide +kernel
theorem dX0_property_122 : decode cX0_property 122 = .ok (.ireturn, 1) := by decide +kernel
theorem dX0_pitchOf_0 : decode cX0_pitchOf 0 = .ok (.aload_n 0, 1) := by decide +kernel
theorem dX0_pitchOf_1 : decode cX0_pitchOf 1 = .ok (.iload_n 1, 1) := by decide +kernel
theorem dX0_pitchOf_2 : decode cX0_pitchOf 2 = .ok (.aload_n 0, 1) := by decide +kernel
theorem dX0_pitchOf_3 : decode cX0_pitchOf 3 = .ok (.getfield 23, 3) := by decide +kernel
theorem dX0_pitchOf_6 : decode cX0_pitchOf 6 = .ok (.iload_n 1, 1) := by decide +kernel
theorem dX0_pitchOf_7 : decode cX0_pitchOf 7 = .ok (.invokevirtual 48, 3) := by decide +kernel
theorem dX0_pitchOf_10 : decode cX0_pitchOf 10 = .ok (.invokevirtual 74, 3) := by decide +kernel
theorem dX0_pitchOf_13 : decode cX0_pitchOf 13 = .ok (.ireturn, 1) := by decide +kernel
theorem dX0_pitchWith_0 : decode cX0_pitchWith 0 = .ok (.aload_n 0, 1) := by decide +kernel
theorem dX0_pitchWith_1 : decode cX0_pitchWith 1 = .ok (.getfield 20, 3) := by decide +kernel
theorem dX0_pitchWith_4 : decode cX0_pitchWith 4 = .ok (.iload_n 1, 1) := by decide +kernel
theorem dX0_pitchWith_5 : decode cX0_pitchWith 5 = .ok (.invokevirtual 48, 3) := by decide +kernel
theorem dX0_pitchWith_8 : decode cX0_pitchWith 8 = .ok (.i2l, 1) := by decide +kernel
theorem dX0_pitchWith_9 : decode cX0_pitchWith 9 = .ok (.iload_n 2, 1) := by decide +kernel
theorem dX0_pitchWith_10 : decode cX0_pitchWith 10 = .ok (.i2l, 1) := by decide +kernel
theorem dX0_pitchWith_11 : decode cX0_pitchWith 11 = .ok (.lmul, 1) := by decide +kernel
theorem dX0_pitchWith_12 : decode cX0_pitchWith 12 = .ok (.iload_n 2, 1) := by decide +kernel
theorem dX0_pitchWith_13 : decode cX0_pitchWith 13 = .ok (.i2l, 1) := by decide +kernel
theorem dX0_pitchWith_14 : decode cX0_pitchWith 14 = .ok (.lmul, 1) := by decide +kernel
theorem dX0_pitchWith_15 : decode cX0_pitchWith 15 = .ok (.ldc2_w 78, 3) := by decide +kernel
theorem dX0_pitchWith_18 : decode cX0_pitchWith 18 = .ok (.ldiv, 1) := by decide +kernel
theorem dX0_pitchWith_19 : decode cX0_pitchWith 19 = .ok (.lstore_n 3, 1) := by decide +kernel
theorem dX0_pitchWith_20 : decode cX0_pitchWith 20 = .ok (.aload_n 0, 1) := by decide +kernel
theorem dX0_pitchWith_21 : decode cX0_pitchWith 21 = .ok (.getfield 14, 3) := by decide +kernel
theorem dX0_pitchWith_24 : decode cX0_pitchWith 24 = .ok (.iload_n 1, 1) := by decide +kernel
theorem dX0_pitchWith_25 : decode cX0_pitchWith 25 = .ok (.invokevirtual 48, 3) := by decide +kernel
theorem dX0_pitchWith_28 : decode cX0_pitchWith 28 = .ok (.lload_n 3, 1) := by decide +kernel
theorem dX0_pitchWith_29 : decode cX0_pitchWith 29 = .ok (.l2i, 1) := by decide +kernel
theorem dX0_pitchWith_30 : decode cX0_pitchWith 30 = .ok (.isub, 1) := by decide +kernel
theorem dX0_pitchWith_31 : decode cX0_pitchWith 31 = .ok (.ireturn, 1) := by decide +kernel
theorem dX0_nearestLevel_0 : decode cX0_nearestLevel 0 = .ok (.iconst 0, 1) := by decide +kernel
theorem dX0_nearestLevel_1 : decode cX0_nearestLevel 1 = .ok (.istore_n 3, 1) := by decide +kernel
theorem dX0_nearestLevel_2 : decode cX0_nearestLevel 2 = .ok (.aload_n 0, 1) := by decide +kernel
theorem dX0_nearestLevel_3 : decode cX0_nearestLevel 3 = .ok (.iload_n 1, 1) := by decide +kernel
theorem dX0_nearestLevel_4 : decode cX0_nearestLevel 4 = .ok (.iload_n 3, 1) := by decide +kernel
theorem dX0_nearestLevel_5 : decode cX0_nearestLevel 5 = .ok (.invokevirtual 74, 3) := by decide +kernel
theorem dX0_nearestLevel_8 : decode cX0_nearestLevel 8 = .ok (.iload_n 2, 1) := by decide +kernel
theorem dX0_nearestLevel_9 : decode cX0_nearestLevel 9 = .ok (.isub, 1) := by decide +kernel
theorem dX0_nearestLevel_10 : decode cX0_nearestLevel 10 = .ok (.invokestatic 80, 3) := by decide +kernel
theorem dX0_nearestLevel_13 : decode cX0_nearestLevel 13 = .ok (.istore 4, 2) := by decide +kernel
theorem dX0_nearestLevel_15 : decode cX0_nearestLevel 15 = .ok (.aload_n 0, 1) := by decide +kernel
theorem dX0_nearestLevel_16 : decode cX0_nearestLevel 16 = .ok (.getfield 29, 3) := by decide +kernel
theorem dX0_nearestLevel_19 : decode cX0_nearestLevel 19 = .ok (.iload_n 1, 1) := by decide +kernel
theorem dX0_nearestLevel_20 : decode cX0_nearestLevel 20 = .ok (.invokevirtual 48, 3) := by decide +kernel
theorem dX0_nearestLevel_23 : decode cX0_nearestLevel 23 = .ok (.istore 5, 2) := by decide +kernel
theorem dX0_nearestLevel_25 : decode cX0_nearestLevel 25 = .ok (.iconst 1, 1) := by decide +kernel
theorem dX0_nearestLevel_26 : decode cX0_nearestLevel 26 = .ok (.istore 6, 2) := by decide +kernel
theorem dX0_nearestLevel_28 : decode cX0_nearestLevel 28 = .ok (.iload 6, 2) := by decide +kernel
theorem dX0_nearestLevel_30 : decode cX0_nearestLevel 30 = .ok (.iload 5, 2) := by decide +kernel
theorem dX0_nearestLevel_32 : decode cX0_nearestLevel 32 = .ok (.if_icmp .gt 37, 3) := by decide +kernel
theorem dX0_nearestLevel_35 : decode cX0_nearestLevel 35 = .ok (.aload_n 0, 1) := by decide +kernel
theorem dX0_nearestLevel_36 : decode cX0_nearestLevel 36 = .ok (.iload_n 1, 1) := by decide +kernel
theorem dX0_nearestLevel_37 : decode cX0_nearestLevel 37 = .ok (.iload 6, 2) := by decide +kernel
theorem dX0_nearestLevel_39 : decode cX0_nearestLevel 39 = .ok (.invokevirtual 74, 3) := by decide +kernel
theorem dX0_nearestLevel_42 : decode cX0_nearestLevel 42 = .ok (.iload_n 2, 1) := by decide +kernel
theorem dX0_nearestLevel_43 : decode cX0_nearestLevel 43 = .ok (.isub, 1) := by decide +kernel
theorem dX0_nearestLevel_44 : decode cX0_nearestLevel 44 = .ok (.invokestatic 80, 3) := by decide +kernel
theorem dX0_nearestLevel_47 : decode cX0_nearestLevel 47 = .ok (.istore 7, 2) := by decide +kernel
theorem dX0_nearestLevel_49 : decode cX0_nearestLevel 49 = .ok (.iload 7, 2) := by decide +kernel
theorem dX0_nearestLevel_51 : decode cX0_nearestLevel 51 = .ok (.iload 4, 2) := by decide +kernel
theorem dX0_nearestLevel_53 : decode cX0_nearestLevel 53 = .ok (.if_icmp .ge 10, 3) := by decide +kernel
theorem dX0_nearestLevel_56 : decode cX0_nearestLevel 56 = .ok (.iload 6, 2) := by decide +kernel
theorem dX0_nearestLevel_58 : decode cX0_nearestLevel 58 = .ok (.istore_n 3, 1) := by decide +kernel
theorem dX0_nearestLevel_59 : decode cX0_nearestLevel 59 = .ok (.iload 7, 2) := by decide +kernel
theorem dX0_nearestLevel_61 : decode cX0_nearestLevel 61 = .ok (.istore 4, 2) := by decide +kernel
theorem dX0_nearestLevel_63 : decode cX0_nearestLevel 63 = .ok (.iinc 6 1, 3) := by decide +kernel
theorem dX0_nearestLevel_66 : decode cX0_nearestLevel 66 = .ok (.goto (-38), 3) := by decide +kernel
theorem dX0_nearestLevel_69 : decode cX0_nearestLevel 69 = .ok (.iload_n 3, 1) := by decide +kernel
theorem dX0_nearestLevel_70 : decode cX0_nearestLevel 70 = .ok (.ireturn, 1) := by decide +kernel
theorem dX0_nearestBowl_0 : decode cX0_nearestBowl 0 = .ok (.iconst (-1), 1) := by decide +kernel
theorem dX0_nearestBowl_1 : decode cX0_nearestBowl 1 = .ok (.istore_n 2, 1) := by decide +kernel
theorem dX0_nearestBowl_2 : decode cX0_nearestBowl 2 = .ok (.iconst 0, 1) := by decide +kernel
theorem dX0_nearestBowl_3 : decode cX0_nearestBowl 3 = .ok (.istore_n 3, 1) := by decide +kernel
theorem dX0_nearestBowl_4 : decode cX0_nearestBowl 4 = .ok (.iconst 0, 1) := by decide +kernel
theorem dX0_nearestBowl_5 : decode cX0_nearestBowl 5 = .ok (.istore 4, 2) := by decide +kernel
theorem dX0_nearestBowl_7 : decode cX0_nearestBowl 7 = .ok (.iload 4, 2) := by decide +kernel
theorem dX0_nearestBowl_9 : decode cX0_nearestBowl 9 = .ok (.aload_n 0, 1) := by decide +kernel
theorem dX0_nearestBowl_10 : decode cX0_nearestBowl 10 = .ok (.getfield 32, 3) := by decide +kernel
theorem dX0_nearestBowl_13 : decode cX0_nearestBowl 13 = .ok (.if_icmp .ge 48, 3) := by decide +kernel
theorem dX0_nearestBowl_16 : decode cX0_nearestBowl 16 = .ok (.aload_n 0, 1) := by decide +kernel
theorem dX0_nearestBowl_17 : decode cX0_nearestBowl 17 = .ok (.iload 4, 2) := by decide +kernel
theorem dX0_nearestBowl_19 : decode cX0_nearestBowl 19 = .ok (.aload_n 0, 1) := by decide +kernel
theorem dX0_nearestBowl_20 : decode cX0_nearestBowl 20 = .ok (.getfield 23, 3) := by decide +kernel
theorem dX0_nearestBowl_23 : decode cX0_nearestBowl 23 = .ok (.iload 4, 2) := by decide +kernel
theorem dX0_nearestBowl_25 : decode cX0_nearestBowl 25 = .ok (.invokevirtual 48, 3) := by decide +kernel
theorem dX0_nearestBowl_28 : decode cX0_nearestBowl 28 = .ok (.invokevirtual 74, 3) := by decide +kernel
theorem dX0_nearestBowl_31 : decode cX0_nearestBowl 31 = .ok (.iload_n 1, 1) := by decide +kernel
theorem dX0_nearestBowl_32 : decode cX0_nearestBowl 32 = .ok (.isub, 1) := by decide +kernel
theorem dX0_nearestBowl_33 : decode cX0_nearestBowl 33 = .ok (.invokestatic 80, 3) := by decide +kernel
theorem dX0_nearestBowl_36 : decode cX0_nearestBowl 36 = .ok (.istore 5, 2) := by decide +kernel
theorem dX0_nearestBowl_38 : decode cX0_nearestBowl 38 = .ok (.iload_n 2, 1) := by decide +kernel
theorem dX0_nearestBowl_39 : decode cX0_nearestBowl 39 = .ok (.iconst (-1), 1) := by decide +kernel
theorem dX0_nearestBowl_40 : decode cX0_nearestBowl 40 = .ok (.if_icmp .eq 9, 3) := by decide +kernel
theorem dX0_nearestBowl_43 : decode cX0_nearestBowl 43 = .ok (.iload 5, 2) := by decide +kernel
theorem dX0_nearestBowl_45 : decode cX0_nearestBowl 45 = .ok (.iload_n 3, 1) := by decide +kernel
theorem dX0_nearestBowl_46 : decode cX0_nearestBowl 46 = .ok (.if_icmp .ge 9, 3) := by decide +kernel
theorem dX0_nearestBowl_49 : decode cX0_nearestBowl 49 = .ok (.iload 4, 2) := by decide +kernel
theorem dX0_nearestBowl_51 : decode cX0_nearestBowl 51 = .ok (.istore_n 2, 1) := by decide +kernel
theorem dX0_nearestBowl_52 : decode cX0_nearestBowl 52 = .ok (.iload 5, 2) := by decide +kernel
theorem dX0_nearestBowl_54 : decode cX0_nearestBowl 54 = .ok (.istore_n 3, 1) := by decide +kernel
theorem dX0_nearestBowl_55 : decode cX0_nearestBowl 55 = .ok (.iinc 4 1, 3) := by decide +kernel
theorem dX0_nearestBowl_58 : decode cX0_nearestBowl 58 = .ok (.goto (-51), 3) := by decide +kernel
theorem dX0_nearestBowl_61 : decode cX0_nearestBowl 61 = .ok (.iload_n 2, 1) := by decide +kernel
theorem dX0_nearestBowl_62 : decode cX0_nearestBowl 62 = .ok (.ireturn, 1) := by decide +kernel
theorem dX0_account_0 : decode cX0_account 0 = .ok (.iload_n 1, 1) := by decide +kernel
theorem dX0_account_1 : decode cX0_account 1 = .ok (.tableswitch 60 0 4 #[35, 40, 45, 50, 55], 35) := by decide +kernel
theorem dX0_account_36 : decode cX0_account 36 = .ok (.aload_n 0, 1) := by decide +kernel
theorem dX0_account_37 : decode cX0_account 37 = .ok (.getfield 36, 3) := by decide +kernel
theorem dX0_account_40 : decode cX0_account 40 = .ok (.ireturn, 1) := by decide +kernel
theorem dX0_account_41 : decode cX0_account 41 = .ok (.aload_n 0, 1) := by decide +kernel
theorem dX0_account_42 : decode cX0_account 42 = .ok (.invokevirtual 83, 3) := by decide +kernel
theorem dX0_account_45 : decode cX0_account 45 = .ok (.ireturn, 1) := by decide +kernel
theorem dX0_account_46 : decode cX0_account 46 = .ok (.aload_n 0, 1) := by decide +kernel
theorem dX0_account_47 : decode cX0_account 47 = .ok (.getfield 39, 3) := by decide +kernel
theorem dX0_account_50 : decode cX0_account 50 = .ok (.ireturn, 1) := by decide +kernel
theorem dX0_account_51 : decode cX0_account 51 = .ok (.aload_n 0, 1) := by decide +kernel
theorem dX0_account_52 : decode cX0_account 52 = .ok (.getfield 42, 3) := by decide +kernel
theorem dX0_account_55 : decode cX0_account 55 = .ok (.ireturn, 1) := by decide +kernel
theorem dX0_account_56 : decode cX0_account 56 = .ok (.aload_n 0, 1) := by decide +kernel
theorem dX0_account_57 : decode cX0_account 57 = .ok (.getfield 45, 3) := by decide +kernel
theorem dX0_account_60 : decode cX0_account 60 = .ok (.ireturn, 1) := by decide +kernel
theorem dX0_account_61 : decode cX0_account 61 = .ok (.ldc 77, 2) := by decide +kernel
theorem dX0_account_63 : decode cX0_account 63 = .ok (.ireturn, 1) := by decide +kernel
theorem dX0_inBowls_0 : decode cX0_inBowls 0 = .ok (.iconst 0, 1) := by decide +kernel
theorem dX0_inBowls_1 : decode cX0_inBowls 1 = .ok (.istore_n 1, 1) := by decide +kernel
theorem dX0_inBowls_2 : decode cX0_inBowls 2 = .ok (.iconst 0, 1) := by decide +kernel
theorem dX0_inBowls_3 : decode cX0_inBowls 3 = .ok (.istore_n 2, 1) := by decide +kernel
theorem dX0_inBowls_4 : decode cX0_inBowls 4 = .ok (.iload_n 2, 1) := by decide +kernel
theorem dX0_inBowls_5 : decode cX0_inBowls 5 = .ok (.aload_n 0, 1) := by decide +kernel
theorem dX0_inBowls_6 : decode cX0_inBowls 6 = .ok (.getfield 32, 3) := by decide +kernel
theorem dX0_inBowls_9 : decode cX0_inBowls 9 = .ok (.if_icmp .ge 20, 3) := by decide +kernel
theorem dX0_inBowls_12 : decode cX0_inBowls 12 = .ok (.iload_n 1, 1) := by decide +kernel
theorem dX0_inBowls_13 : decode cX0_inBowls 13 = .ok (.aload_n 0, 1) := by decide +kernel
theorem dX0_inBowls_14 : decode cX0_inBowls 14 = .ok (.getfield 23, 3) := by decide +kernel
theorem dX0_inBowls_17 : decode cX0_inBowls 17 = .ok (.iload_n 2, 1) := by decide +kernel
theorem dX0_inBowls_18 : decode cX0_inBowls 18 = .ok (.invokevirtual 48, 3) := by decide +kernel
theorem dX0_inBowls_21 : decode cX0_inBowls 21 = .ok (.iadd, 1) := by decide +kernel
theorem dX0_inBowls_22 : decode cX0_inBowls 22 = .ok (.istore_n 1, 1) := by decide +kernel
theorem dX0_inBowls_23 : decode cX0_inBowls 23 = .ok (.iinc 2 1, 3) := by decide +kernel
theorem dX0_inBowls_26 : decode cX0_inBowls 26 = .ok (.goto (-22), 3) := by decide +kernel
theorem dX0_inBowls_29 : decode cX0_inBowls 29 = .ok (.iload_n 1, 1) := by decide +kernel
theorem dX0_inBowls_30 : decode cX0_inBowls 30 = .ok (.ireturn, 1) := by decide +kernel
theorem dX0_copyFrom_0 : decode cX0_copyFrom 0 = .ok (.aload_n 1, 1) := by decide +kernel
theorem dX0_copyFrom_1 : decode cX0_copyFrom 1 = .ok (.ifnonnull 4, 3) := by decide +kernel
theorem dX0_copyFrom_4 : decode cX0_copyFrom 4 = .ok (.return_, 1) := by decide +kernel
theorem dX0_copyFrom_5 : decode cX0_copyFrom 5 = .ok (.aload_n 0, 1) := by decide +kernel
theorem dX0_copyFrom_6 : decode cX0_copyFrom 6 = .ok (.getfield 14, 3) := by decide +kernel
theorem dX0_copyFrom_9 : decode cX0_copyFrom 9 = .ok (.aload_n 1, 1) := by decide +kernel
theorem dX0_copyFrom_10 : decode cX0_copyFrom 10 = .ok (.getfield 14, 3) := by decide +kernel
theorem dX0_copyFrom_13 : decode cX0_copyFrom 13 = .ok (.invokevirtual 87, 3) := by decide +kernel
theorem dX0_copyFrom_16 : decode cX0_copyFrom 16 = .ok (.aload_n 0, 1) := by decide +kernel
theorem dX0_copyFrom_17 : decode cX0_copyFrom 17 = .ok (.getfield 20, 3) := by decide +kernel
theorem dX0_copyFrom_20 : decode cX0_copyFrom 20 = .ok (.aload_n 1, 1) := by decide +kernel
theorem dX0_copyFrom_21 : decode cX0_copyFrom 21 = .ok (.getfield 20, 3) := by decide +kernel
theorem dX0_copyFrom_24 : decode cX0_copyFrom 24 = .ok (.invokevirtual 87, 3) := by decide +kernel
theorem dX0_copyFrom_27 : decode cX0_copyFrom 27 = .ok (.aload_n 0, 1) := by decide +kernel
theorem dX0_copyFrom_28 : decode cX0_copyFrom 28 = .ok (.getfield 23, 3) := by decide +kernel
theorem dX0_copyFrom_31 : decode cX0_copyFrom 31 = .ok (.aload_n 1, 1) := by decide +kernel
theorem dX0_copyFrom_32 : decode cX0_copyFrom 32 = .ok (.getfield 23, 3) := by decide +kernel
theorem dX0_copyFrom_35 : decode cX0_copyFrom 35 = .ok (.invokevirtual 87, 3) := by decide +kernel
theorem dX0_copyFrom_38 : decode cX0_copyFrom 38 = .ok (.aload_n 0, 1) := by decide +kernel
theorem dX0_copyFrom_39 : decode cX0_copyFrom 39 = .ok (.getfield 26, 3) := by decide +kernel
theorem dX0_copyFrom_42 : decode cX0_copyFrom 42 = .ok (.aload_n 1, 1) := by decide +kernel
theorem dX0_copyFrom_43 : decode cX0_copyFrom 43 = .ok (.getfield 26, 3) := by decide +kernel
theorem dX0_copyFrom_46 : decode cX0_copyFrom 46 = .ok (.invokevirtual 87, 3) := by decide +kernel
theorem dX0_copyFrom_49 : decode cX0_copyFrom 49 = .ok (.aload_n 0, 1) := by decide +kernel
theorem dX0_copyFrom_50 : decode cX0_copyFrom 50 = .ok (.getfield 29, 3) := by decide +kernel
theorem dX0_copyFrom_53 : decode cX0_copyFrom 53 = .ok (.aload_n 1, 1) := by decide +kernel
theorem dX0_copyFrom_54 : decode cX0_copyFrom 54 = .ok (.getfield 29, 3) := by decide +kernel
theorem dX0_copyFrom_57 : decode cX0_copyFrom 57 = .ok (.invokevirtual 87, 3) := by decide +kernel
theorem dX0_copyFrom_60 : decode cX0_copyFrom 60 = .ok (.aload_n 0, 1) := by decide +kernel
theorem dX0_copyFrom_61 : decode cX0_copyFrom 61 = .ok (.aload_n 1, 1) := by decide +kernel
theorem dX0_copyFrom_62 : decode cX0_copyFrom 62 = .ok (.getfield 32, 3) := by decide +kernel
theorem dX0_copyFrom_65 : decode cX0_copyFrom 65 = .ok (.putfield 32, 3) := by decide +kernel
theorem dX0_copyFrom_68 : decode cX0_copyFrom 68 = .ok (.aload_n 0, 1) := by decide +kernel
theorem dX0_copyFrom_69 : decode cX0_copyFrom 69 = .ok (.aload_n 1, 1) := by decide +kernel
theorem dX0_copyFrom_70 : decode cX0_copyFrom 70 = .ok (.getfield 36, 3) := by decide +kernel
theorem dX0_copyFrom_73 : decode cX0_copyFrom 73 = .ok (.putfield 36, 3) := by decide +kernel
theorem dX0_copyFrom_76 : decode cX0_copyFrom 76 = .ok (.aload_n 0, 1) := by decide +kernel
theorem dX0_copyFrom_77 : decode cX0_copyFrom 77 = .ok (.aload_n 1, 1) := by decide +kernel
theorem dX0_copyFrom_78 : decode cX0_copyFrom 78 = .ok (.getfield 39, 3) := by decide +kernel
theorem dX0_copyFrom_81 : decode cX0_copyFrom 81 = .ok (.putfield 39, 3) := by decide +kernel
theorem dX0_copyFrom_84 : decode cX0_copyFrom 84 = .ok (.aload_n 0, 1) := by decide +kernel
theorem dX0_copyFrom_85 : decode cX0_copyFrom 85 = .ok (.aload_n 1, 1) := by decide +kernel
theorem dX0_copyFrom_86 : decode cX0_copyFrom 86 = .ok (.getfield 42, 3) := by decide +kernel
theorem dX0_copyFrom_89 : decode cX0_copyFrom 89 = .ok (.putfield 42, 3) := by decide +kernel
theorem dX0_copyFrom_92 : decode cX0_copyFrom 92 = .ok (.aload_n 0, 1) := by decide +kernel
theorem dX0_copyFrom_93 : decode cX0_copyFrom 93 = .ok (.aload_n 1, 1) := by decide +kernel
theorem dX0_copyFrom_94 : decode cX0_copyFrom 94 = .ok (.getfield 45, 3) := by decide +kernel
theorem dX0_copyFrom_97 : decode cX0_copyFrom 97 = .ok (.putfield 45, 3) := by decide +kernel
theorem dX0_copyFrom_100 : decode cX0_copyFrom 100 = .ok (.return_, 1) := by decide +kernel
theorem dX1_init_0 : decode cX1_init 0 = .ok (.aload_n 0, 1) := by decide +kernel
theorem dX1_init_1 : decode cX1_init 1 = .ok (.invokespecial 3, 3) := by decide +kernel
theorem dX1_init_4 : decode cX1_init 4 = .ok (.aload_n 0, 1) := by decide +kernel
theorem dX1_init_5 : decode cX1_init 5 = .ok (.iconst 5, 1) := by decide +kernel
theorem dX1_init_6 : decode cX1_init 6 = .ok (.anewarray 9, 3) := by decide +kernel
theorem dX1_init_9 : decode cX1_init 9 = .ok (.putfield 11, 3) := by decide +kernel
theorem dX1_init_12 : decode cX1_init 12 = .ok (.aload_n 0, 1) := by decide +kernel
theorem dX1_init_13 : decode cX1_init 13 = .ok (.iconst 0, 1) := by decide +kernel
theorem dX1_init_14 : decode cX1_init 14 = .ok (.putfield 17, 3) := by decide +kernel
theorem dX1_init_17 : decode cX1_init 17 = .ok (.aload_n 0, 1) := by decide +kernel
theorem dX1_init_18 : decode cX1_init 18 = .ok (.iconst 0, 1) := by decide +kernel
theorem dX1_init_19 : decode cX1_init 19 = .ok (.putfield 21, 3) := by decide +kernel
theorem dX1_init_22 : decode cX1_init 22 = .ok (.iconst 0, 1) := by decide +kernel
theorem dX1_init_23 : decode cX1_init 23 = .ok (.istore_n 1, 1) := by decide +kernel
theorem dX1_init_24 : decode cX1_init 24 = .ok (.iload_n 1, 1) := by decide +kernel
theorem dX1_init_25 : decode cX1_init 25 = .ok (.aload_n 0, 1) := by decide +kernel
theorem dX1_init_26 : decode cX1_init 26 = .ok (.getfield 11, 3) := by decide +kernel
theorem dX1_init_29 : decode cX1_init 29 = .ok (.arraylength, 1) := by decide +kernel
theorem dX1_init_30 : decode cX1_init 30 = .ok (.if_icmp .ge 22, 3) := by decide +kernel
theorem dX1_init_33 : decode cX1_init 33 = .ok (.aload_n 0, 1) := by decide +kernel
theorem dX1_init_34 : decode cX1_init 34 = .ok (.getfield 11, 3) := by decide +kernel
theorem dX1_init_37 : decode cX1_init 37 = .ok (.iload_n 1, 1) := by decide +kernel
theorem dX1_init_38 : decode cX1_init 38 = .ok (.new 9, 3) := by decide +kernel
theorem dX1_init_41 : decode cX1_init 41 = .ok (.dup, 1) := by decide +kernel
theorem dX1_init_42 : decode cX1_init 42 = .ok (.invokespecial 24, 3) := by decide +kernel
theorem dX1_init_45 : decode cX1_init 45 = .ok (.aastore, 1) := by decide +kernel
theorem dX1_init_46 : decode cX1_init 46 = .ok (.iinc 1 1, 3) := by decide +kernel
theorem dX1_init_49 : decode cX1_init 49 = .ok (.goto (-25), 3) := by decide +kernel
theorem dX1_init_52 : decode cX1_init 52 = .ok (.return_, 1) := by decide +kernel
theorem dX1_size_0 : decode cX1_size 0 = .ok (.aload_n 0, 1) := by decide +kernel
theorem dX1_size_1 : decode cX1_size 1 = .ok (.getfield 21, 3) := by decide +kernel
theorem dX1_size_4 : decode cX1_size 4 = .ok (.ireturn, 1) := by decide +kernel
theorem dX1_stateAt_0 : decode cX1_stateAt 0 = .ok (.iload_n 1, 1) := by decide +kernel
theorem dX1_stateAt_1 : decode cX1_stateAt 1 = .ok (.ifCond .lt 21, 3) := by decide +kernel
theorem dX1_stateAt_4 : decode cX1_stateAt 4 = .ok (.iload_n 1, 1) := by decide +kernel
theorem dX1_stateAt_5 : decode cX1_stateAt 5 = .ok (.aload_n 0, 1) := by decide +kernel
theorem dX1_stateAt_6 : decode cX1_stateAt 6 = .ok (.getfield 11, 3) := by decide +kernel
theorem dX1_stateAt_9 : decode cX1_stateAt 9 = .ok (.arraylength, 1) := by decide +kernel
theorem dX1_stateAt_10 : decode cX1_stateAt 10 = .ok (.if_icmp .ge 12, 3) := by decide +kernel
theorem dX1_stateAt_13 : decode cX1_stateAt 13 = .ok (.aload_n 0, 1) := by decide +kernel
theorem dX1_stateAt_14 : decode cX1_stateAt 14 = .ok (.getfield 11, 3) := by decide +kernel
theorem dX1_stateAt_17 : decode cX1_stateAt 17 = .ok (.iload_n 1, 1) := by decide +kernel
theorem dX1_stateAt_18 : decode cX1_stateAt 18 = .ok (.aaload, 1) := by decide +kernel
theorem dX1_stateAt_19 : decode cX1_stateAt 19 = .ok (.goto 4, 3) := by decide +kernel
theorem dX1_stateAt_22 : decode cX1_stateAt 22 = .ok (.aconst_null, 1) := by decide +kernel
theorem dX1_stateAt_23 : decode cX1_stateAt 23 = .ok (.areturn, 1) := by decide +kernel
theorem dX1_record_0 : decode cX1_record 0 = .ok (.aload_n 0, 1) := by decide +kernel
theorem dX1_record_1 : decode cX1_record 1 = .ok (.aload_n 0, 1) := by decide +kernel
theorem dX1_record_2 : decode cX1_record 2 = .ok (.getfield 17, 3) := by decide +kernel
theorem dX1_record_5 : decode cX1_record 5 = .ok (.invokevirtual 25, 3) := by decide +kernel
theorem dX1_record_8 : decode cX1_record 8 = .ok (.astore_n 2, 1) := by decide +kernel
theorem dX1_record_9 : decode cX1_record 9 = .ok (.aload_n 2, 1) := by decide +kernel
theorem dX1_record_10 : decode cX1_record 10 = .ok (.ifnull 8, 3) := by decide +kernel
theorem dX1_record_13 : decode cX1_record 13 = .ok (.aload_n 2, 1) := by decide +kernel
theorem dX1_record_14 : decode cX1_record 14 = .ok (.aload_n 1, 1) := by decide +kernel
theorem dX1_record_15 : decode cX1_record 15 = .ok (.invokevirtual 29, 3) := by decide +kernel
theorem dX1_record_18 : decode cX1_record 18 = .ok (.aload_n 0, 1) := by decide +kernel
theorem dX1_record_19 : decode cX1_record 19 = .ok (.aload_n 0, 1) := by decide +kernel
theorem dX1_record_20 : decode cX1_record 20 = .ok (.getfield 17, 3) := by decide +kernel
theorem dX1_record_23 : decode cX1_record 23 = .ok (.iconst 1, 1) := by decide +kernel
theorem dX1_record_24 : decode cX1_record 24 = .ok (.iadd, 1) := by decide +kernel
theorem dX1_record_25 : decode cX1_record 25 = .ok (.iconst 5, 1) := by decide +kernel
theorem dX1_record_26 : decode cX1_record 26 = .ok (.irem, 1) := by decide +kernel
theorem dX1_record_27 : decode cX1_record 27 = .ok (.putfield 17, 3) := by decide +kernel
theorem dX1_record_30 : decode cX1_record 30 = .ok (.aload_n 0, 1) := by decide +kernel
theorem dX1_record_31 : decode cX1_record 31 = .ok (.aload_n 0, 1) := by decide +kernel
theorem dX1_record_32 : decode cX1_record 32 = .ok (.getfield 21, 3) := by decide +kernel
theorem dX1_record_35 : decode cX1_record 35 = .ok (.iconst 1, 1) := by decide +kernel
theorem dX1_record_36 : decode cX1_record 36 = .ok (.iadd, 1) := by decide +kernel
theorem dX1_record_37 : decode cX1_record 37 = .ok (.iconst 5, 1) := by decide +kernel
theorem dX1_record_38 : decode cX1_record 38 = .ok (.invokestatic 33, 3) := by decide +kernel
theorem dX1_record_41 : decode cX1_record 41 = .ok (.putfield 21, 3) := by decide +kernel
theorem dX1_record_44 : decode cX1_record 44 = .ok (.return_, 1) := by decide +kernel
theorem dX1_restore_0 : decode cX1_restore 0 = .ok (.aload_n 0, 1) := by decide +kernel
theorem dX1_restore_1 : decode cX1_restore 1 = .ok (.aload_n 0, 1) := by decide +kernel
theorem dX1_restore_2 : decode cX1_restore 2 = .ok (.getfield 17, 3) := by decide +kernel
theorem dX1_restore_5 : decode cX1_restore 5 = .ok (.iconst 5, 1) := by decide +kernel
theorem dX1_restore_6 : decode cX1_restore 6 = .ok (.iadd, 1) := by decide +kernel
theorem dX1_restore_7 : decode cX1_restore 7 = .ok (.iconst 1, 1) := by decide +kernel
theorem dX1_restore_8 : decode cX1_restore 8 = .ok (.isub, 1) := by decide +kernel
theorem dX1_restore_9 : decode cX1_restore 9 = .ok (.iconst 5, 1) := by decide +kernel
theorem dX1_restore_10 : decode cX1_restore 10 = .ok (.irem, 1) := by decide +kernel
theorem dX1_restore_11 : decode cX1_restore 11 = .ok (.putfield 17, 3) := by decide +kernel
theorem dX1_restore_14 : decode cX1_restore 14 = .ok (.aload_n 0, 1) := by decide +kernel
theorem dX1_restore_15 : decode cX1_restore 15 = .ok (.aload_n 0, 1) := by decide +kernel
theorem dX1_restore_16 : decode cX1_restore 16 = .ok (.getfield 21, 3) := by decide +kernel
theorem dX1_restore_19 : decode cX1_restore 19 = .ok (.iconst 1, 1) := by decide +kernel
theorem dX1_restore_20 : decode cX1_restore 20 = .ok (.isub, 1) := by decide +kernel
theorem dX1_restore_21 : decode cX1_restore 21 = .ok (.iconst 0, 1) := by decide +kernel
theorem dX1_restore_22 : decode cX1_restore 22 = .ok (.invokestatic 39, 3) := by decide +kernel
theorem dX1_restore_25 : decode cX1_restore 25 = .ok (.putfield 21, 3) := by decide +kernel
theorem dX1_restore_28 : decode cX1_restore 28 = .ok (.aload_n 1, 1) := by decide +kernel
theorem dX1_restore_29 : decode cX1_restore 29 = .ok (.ifnull 15, 3) := by decide +kernel
theorem dX1_restore_32 : decode cX1_restore 32 = .ok (.aload_n 1, 1) := by decide +kernel
theorem dX1_restore_33 : decode cX1_restore 33 = .ok (.aload_n 0, 1) := by decide +kernel
theorem dX1_restore_34 : decode cX1_restore 34 = .ok (.aload_n 0, 1) := by decide +kernel
theorem dX1_restore_35 : decode cX1_restore 35 = .ok (.getfield 17, 3) := by decide +kernel
theorem dX1_restore_38 : decode cX1_restore 38 = .ok (.invokevirtual 25, 3) := by decide +kernel
theorem dX1_restore_41 : decode cX1_restore 41 = .ok (.invokevirtual 29, 3) := by decide +kernel
theorem dX1_restore_44 : decode cX1_restore 44 = .ok (.return_, 1) := by decide +kernel
theorem dX2_init_0 : decode cX2_init 0 = .ok (.aload_n 0, 1) := by decide +kernel
theorem dX2_init_1 : decode cX2_init 1 = .ok (.invokespecial 3, 3) := by decide +kernel
theorem dX2_init_4 : decode cX2_init 4 = .ok (.aload_n 0, 1) := by decide +kernel
theorem dX2_init_5 : decode cX2_init 5 = .ok (.new 9, 3) := by decide +kernel
theorem dX2_init_8 : decode cX2_init 8 = .ok (.dup, 1) := by decide +kernel
theorem dX2_init_9 : decode cX2_init 9 = .ok (.bipush 40, 2) := by decide +kernel
theorem dX2_init_11 : decode cX2_init 11 = .ok (.invokespecial 11, 3) := by decide +kernel
theorem dX2_init_14 : decode cX2_init 14 = .ok (.putfield 14, 3) := by decide +kernel
theorem dX2_init_17 : decode cX2_init 17 = .ok (.aload_n 0, 1) := by decide +kernel
theorem dX2_init_18 : decode cX2_init 18 = .ok (.new 9, 3) := by decide +kernel
theorem dX2_init_21 : decode cX2_init 21 = .ok (.dup, 1) := by decide +kernel
theorem dX2_init_22 : decode cX2_init 22 = .ok (.bipush 40, 2) := by decide +kernel
theorem dX2_init_24 : decode cX2_init 24 = .ok (.invokespecial 11, 3) := by decide +kernel
theorem dX2_init_27 : decode cX2_init 27 = .ok (.putfield 20, 3) := by decide +kernel
theorem dX2_init_30 : decode cX2_init 30 = .ok (.aload_n 0, 1) := by decide +kernel
theorem dX2_init_31 : decode cX2_init 31 = .ok (.new 9, 3) := by decide +kernel
theorem dX2_init_34 : decode cX2_init 34 = .ok (.dup, 1) := by decide +kernel
theorem dX2_init_35 : decode cX2_init 35 = .ok (.bipush 40, 2) := by decide +kernel
theorem dX2_init_37 : decode cX2_init 37 = .ok (.invokespecial 11, 3) := by decide +kernel
theorem dX2_init_40 : decode cX2_init 40 = .ok (.putfield 23, 3) := by decide +kernel
theorem dX2_init_43 : decode cX2_init 43 = .ok (.aload_n 0, 1) := by decide +kernel
theorem dX2_init_44 : decode cX2_init 44 = .ok (.new 9, 3) := by decide +kernel
theorem dX2_init_47 : decode cX2_init 47 = .ok (.dup, 1) := by decide +kernel
theorem dX2_init_48 : decode cX2_init 48 = .ok (.bipush 40, 2) := by decide +kernel
theorem dX2_init_50 : decode cX2_init 50 = .ok (.invokespecial 11, 3) := by decide +kernel
theorem dX2_init_53 : decode cX2_init 53 = .ok (.putfield 26, 3) := by decide +kernel
theorem dX2_init_56 : decode cX2_init 56 = .ok (.aload_n 0, 1) := by decide +kernel
theorem dX2_init_57 : decode cX2_init 57 = .ok (.new 9, 3) := by decide +kernel
theorem dX2_init_60 : decode cX2_init 60 = .ok (.dup, 1) := by decide +kernel
theorem dX2_init_61 : decode cX2_init 61 = .ok (.bipush 40, 2) := by decide +kernel
theorem dX2_init_63 : decode cX2_init 63 = .ok (.invokespecial 11, 3) := by decide +kernel
theorem dX2_init_66 : decode cX2_init 66 = .ok (.putfield 29, 3) := by decide +kernel
theorem dX2_init_69 : decode cX2_init 69 = .ok (.aload_n 0, 1) := by decide +kernel
theorem dX2_init_70 : decode cX2_init 70 = .ok (.iconst 0, 1) := by decide +kernel
theorem dX2_init_71 : decode cX2_init 71 = .ok (.putfield 32, 3) := by decide +kernel
theorem dX2_init_74 : decode cX2_init 74 = .ok (.return_, 1) := by decide +kernel
theorem dX2_size_0 : decode cX2_size 0 = .ok (.aload_n 0, 1) := by decide +kernel
theorem dX2_size_1 : decode cX2_size 1 = .ok (.getfield 32, 3) := by decide +kernel
theorem dX2_size_4 : decode cX2_size 4 = .ok (.ireturn, 1) := by decide +kernel
theorem dX2_has_0 : decode cX2_has 0 = .ok (.iload_n 1, 1) := by decide +kernel
theorem dX2_has_1 : decode cX2_has 1 = .ok (.ifCond .lt 15, 3) := by decide +kernel
theorem dX2_has_4 : decode cX2_has 4 = .ok (.iload_n 1, 1) := by decide +kernel
theorem dX2_has_5 : decode cX2_has 5 = .ok (.aload_n 0, 1) := by decide +kernel
theorem dX2_has_6 : decode cX2_has 6 = .ok (.getfield 32, 3) := by decide +kernel
theorem dX2_has_9 : decode cX2_has 9 = .ok (.if_icmp .ge 7, 3) := by decide +kernel
theorem dX2_has_12 : decode cX2_has 12 = .ok (.iconst 1, 1) := by decide +kernel
theorem dX2_has_13 : decode cX2_has 13 = .ok (.goto 4, 3) := by decide +kernel
theorem dX2_has_16 : decode cX2_has 16 = .ok (.iconst 0, 1) := by decide +kernel
theorem dX2_has_17 : decode cX2_has 17 = .ok (.ireturn, 1) := by decide +kernel
theorem dX2_isFull_0 : decode cX2_isFull 0 = .ok (.aload_n 0, 1) := by decide +kernel
theorem dX2_isFull_1 : decode cX2_isFull 1 = .ok (.getfield 32, 3) := by decide +kernel
theorem dX2_isFull_4 : decode cX2_isFull 4 = .ok (.bipush 40, 2) := by decide +kernel
theorem dX2_isFull_6 : decode cX2_isFull 6 = .ok (.if_icmp .lt 7, 3) := by decide +kernel
theorem dX2_isFull_9 : decode cX2_isFull 9 = .ok (.iconst 1, 1) := by decide +kernel
theorem dX2_isFull_10 : decode cX2_isFull 10 = .ok (.goto 4, 3) := by decide +kernel
theorem dX2_isFull_13 : decode cX2_isFull 13 = .ok (.iconst 0, 1) := by decide +kernel
theorem dX2_isFull_14 : decode cX2_isFull 14 = .ok (.ireturn, 1) := by decide +kernel
theorem dX2_timeOf_0 : decode cX2_timeOf 0 = .ok (.aload_n 0, 1) := by decide +kernel
theorem dX2_timeOf_1 : decode cX2_timeOf 1 = .ok (.getfield 14, 3) := by decide +kernel
theorem dX2_timeOf_4 : decode cX2_timeOf 4 = .ok (.iload_n 1, 1) := by decide +kernel
theorem dX2_timeOf_5 : decode cX2_timeOf 5 = .ok (.invokevirtual 36, 3) := by decide +kernel
theorem dX2_timeOf_8 : decode cX2_timeOf 8 = .ok (.ireturn, 1) := by decide +kernel
theorem dX2_pitchOf_0 : decode cX2_pitchOf 0 = .ok (.aload_n 0, 1) := by decide +kernel
theorem dX2_pitchOf_1 : decode cX2_pitchOf 1 = .ok (.getfield 20, 3) := by decide +kernel
theorem dX2_pitchOf_4 : decode cX2_pitchOf 4 = .ok (.iload_n 1, 1) := by decide +kernel
theorem dX2_pitchOf_5 : decode cX2_pitchOf 5 = .ok (.invokevirtual 36, 3) := by decide +kernel
theorem dX2_pitchOf_8 : decode cX2_pitchOf 8 = .ok (.ireturn, 1) := by decide +kernel
theorem dX2_errorOf_0 : decode cX2_errorOf 0 = .ok (.aload_n 0, 1) := by decide +kernel
theorem dX2_errorOf_1 : decode cX2_errorOf 1 = .ok (.getfield 29, 3) := by decide +kernel
theorem dX2_errorOf_4 : decode cX2_errorOf 4 = .ok (.iload_n 1, 1) := by decide +kernel
theorem dX2_errorOf_5 : decode cX2_errorOf 5 = .ok (.invokevirtual 36, 3) := by decide +kernel
theorem dX2_errorOf_8 : decode cX2_errorOf 8 = .ok (.ireturn, 1) := by decide +kernel
theorem dX2_placeFor_0 : decode cX2_placeFor 0 = .ok (.iconst 0, 1) := by decide +kernel
theorem dX2_placeFor_1 : decode cX2_placeFor 1 = .ok (.istore_n 2, 1) := by decide +kernel
theorem dX2_placeFor_2 : decode cX2_placeFor 2 = .ok (.iload_n 2, 1) := by decide +kernel
theorem dX2_placeFor_3 : decode cX2_placeFor 3 = .ok (.aload_n 0, 1) := by decide +kernel
theorem dX2_placeFor_4 : decode cX2_placeFor 4 = .ok (.getfield 32, 3) := by decide +kernel
theorem dX2_placeFor_7 : decode cX2_placeFor 7 = .ok (.if_icmp .ge 21, 3) := by decide +kernel
theorem dX2_placeFor_10 : decode cX2_placeFor 10 = .ok (.aload_n 0, 1) := by decide +kernel
theorem dX2_placeFor_11 : decode cX2_placeFor 11 = .ok (.getfield 14, 3) := by decide +kernel
theorem dX2_placeFor_14 : decode cX2_placeFor 14 = .ok (.iload_n 2, 1) := by decide +kernel
theorem dX2_placeFor_15 : decode cX2_placeFor 15 = .ok (.invokevirtual 36, 3) := by decide +kernel
theorem dX2_placeFor_18 : decode cX2_placeFor 18 = .ok (.iload_n 1, 1) := by decide +kernel
theorem dX2_placeFor_19 : decode cX2_placeFor 19 = .ok (.if_icmp .ge 9, 3) := by decide +kernel
theorem dX2_placeFor_22 : decode cX2_placeFor 22 = .ok (.iinc 2 1, 3) := by decide +kernel
theorem dX2_placeFor_25 : decode cX2_placeFor 25 = .ok (.goto (-23), 3) := by decide +kernel
theorem dX2_placeFor_28 : decode cX2_placeFor 28 = .ok (.iload_n 2, 1) := by decide +kernel
theorem dX2_placeFor_29 : decode cX2_placeFor 29 = .ok (.ireturn, 1) := by decide +kernel
theorem dX2_hasNoteAt_0 : decode cX2_hasNoteAt 0 = .ok (.aload_n 0, 1) := by decide +kernel
theorem dX2_hasNoteAt_1 : decode cX2_hasNoteAt 1 = .ok (.iload_n 1, 1) := by decide +kernel
theorem dX2_hasNoteAt_2 : decode cX2_hasNoteAt 2 = .ok (.invokevirtual 40, 3) := by decide +kernel
theorem dX2_hasNoteAt_5 : decode cX2_hasNoteAt 5 = .ok (.istore_n 2, 1) := by decide +kernel
theorem dX2_hasNoteAt_6 : decode cX2_hasNoteAt 6 = .ok (.iload_n 2, 1) := by decide +kernel
theorem dX2_hasNoteAt_7 : decode cX2_hasNoteAt 7 = .ok (.aload_n 0, 1) := by decide +kernel
theorem dX2_hasNoteAt_8 : decode cX2_hasNoteAt 8 = .ok (.getfield 32, 3) := by decide +kernel
theorem dX2_hasNoteAt_11 : decode cX2_hasNoteAt 11 = .ok (.if_icmp .ge 19, 3) := by decide +kernel
theorem dX2_hasNoteAt_14 : decode cX2_hasNoteAt 14 = .ok (.aload_n 0, 1) := by decide +kernel
theorem dX2_hasNoteAt_15 : decode cX2_hasNoteAt 15 = .ok (.getfield 14, 3) := by decide +kernel
theorem dX2_hasNoteAt_18 : decode cX2_hasNoteAt 18 = .ok (.iload_n 2, 1) := by decide +kernel
theorem dX2_hasNoteAt_19 : decode cX2_hasNoteAt 19 = .ok (.invokevirtual 36, 3) := by decide +kernel
theorem dX2_hasNoteAt_22 : decode cX2_hasNoteAt 22 = .ok (.iload_n 1, 1) := by decide +kernel
theorem dX2_hasNoteAt_23 : decode cX2_hasNoteAt 23 = .ok (.if_icmp .ne 7, 3) := by decide +kernel
theorem dX2_hasNoteAt_26 : decode cX2_hasNoteAt 26 = .ok (.iconst 1, 1) := by decide +kernel
theorem dX2_hasNoteAt_27 : decode cX2_hasNoteAt 27 = .ok (.goto 4, 3) := by decide +kernel
theorem dX2_hasNoteAt_30 : decode cX2_hasNoteAt 30 = .ok (.iconst 0, 1) := by decide +kernel
theorem dX2_hasNoteAt_31 : decode cX2_hasNoteAt 31 = .ok (.ireturn, 1) := by decide +kernel
theorem dX2_insert_0 : decode cX2_insert 0 = .ok (.aload_n 0, 1) := by decide +kernel
theorem dX2_insert_1 : decode cX2_insert 1 = .ok (.iload_n 1, 1) := by decide +kernel
theorem dX2_insert_2 : decode cX2_insert 2 = .ok (.invokevirtual 40, 3) := by decide +kernel
theorem dX2_insert_5 : decode cX2_insert 5 = .ok (.istore_n 3, 1) := by decide +kernel
theorem dX2_insert_6 : decode cX2_insert 6 = .ok (.aload_n 0, 1) := by decide +kernel
theorem dX2_insert_7 : decode cX2_insert 7 = .ok (.getfield 14, 3) := by decide +kernel
theorem dX2_insert_10 : decode cX2_insert 10 = .ok (.iload_n 3, 1) := by decide +kernel
theorem dX2_insert_11 : decode cX2_insert 11 = .ok (.iload_n 1, 1) := by decide +kernel
theorem dX2_insert_12 : decode cX2_insert 12 = .ok (.aload_n 0, 1) := by decide +kernel
theorem dX2_insert_13 : decode cX2_insert 13 = .ok (.getfield 32, 3) := by decide +kernel
theorem dX2_insert_16 : decode cX2_insert 16 = .ok (.invokevirtual 43, 3) := by decide +kernel
theorem dX2_insert_19 : decode cX2_insert 19 = .ok (.aload_n 0, 1) := by decide +kernel
theorem dX2_insert_20 : decode cX2_insert 20 = .ok (.getfield 20, 3) := by decide +kernel
theorem dX2_insert_23 : decode cX2_insert 23 = .ok (.iload_n 3, 1) := by decide +kernel
theorem dX2_insert_24 : decode cX2_insert 24 = .ok (.iload_n 2, 1) := by decide +kernel
theorem dX2_insert_25 : decode cX2_insert 25 = .ok (.aload_n 0, 1) := by decide +kernel
theorem dX2_insert_26 : decode cX2_insert 26 = .ok (.getfield 32, 3) := by decide +kernel
theorem dX2_insert_29 : decode cX2_insert 29 = .ok (.invokevirtual 43, 3) := by decide +kernel
theorem dX2_insert_32 : decode cX2_insert 32 = .ok (.aload_n 0, 1) := by decide +kernel
theorem dX2_insert_33 : decode cX2_insert 33 = .ok (.getfield 23, 3) := by decide +kernel
theorem dX2_insert_36 : decode cX2_insert 36 = .ok (.iload_n 3, 1) := by decide +kernel
theorem dX2_insert_37 : decode cX2_insert 37 = .ok (.iconst 0, 1) := by decide +kernel
theorem dX2_insert_38 : decode cX2_insert 38 = .ok (.aload_n 0, 1) := by decide +kernel
theorem dX2_insert_39 : decode cX2_insert 39 = .ok (.getfield 32, 3) := by decide +kernel
theorem dX2_insert_42 : decode cX2_insert 42 = .ok (.invokevirtual 43, 3) := by decide +kernel
theorem dX2_insert_45 : decode cX2_insert 45 = .ok (.aload_n 0, 1) := by decide +kernel
theorem dX2_insert_46 : decode cX2_insert 46 = .ok (.getfield 26, 3) := by decide +kernel
theorem dX2_insert_49 : decode cX2_insert 49 = .ok (.iload_n 3, 1) := by decide +kernel
theorem dX2_insert_50 : decode cX2_insert 50 = .ok (.iconst 0, 1) := by decide +kernel
theorem dX2_insert_51 : decode cX2_insert 51 = .ok (.aload_n 0, 1) := by decide +kernel
theorem dX2_insert_52 : decode cX2_insert 52 = .ok (.getfield 32, 3) := by decide +kernel
theorem dX2_insert_55 : decode cX2_insert 55 = .ok (.invokevirtual 43, 3) := by decide +kernel
theorem dX2_insert_58 : decode cX2_insert 58 = .ok (.aload_n 0, 1) := by decide +kernel
theorem dX2_insert_59 : decode cX2_insert 59 = .ok (.getfield 29, 3) := by decide +kernel
theorem dX2_insert_62 : decode cX2_insert 62 = .ok (.iload_n 3, 1) := by decide +kernel
theorem dX2_insert_63 : decode cX2_insert 63 = .ok (.iconst 0, 1) := by decide +kernel
theorem dX2_insert_64 : decode cX2_insert 64 = .ok (.aload_n 0, 1) := by decide +kernel
theorem dX2_insert_65 : decode cX2_insert 65 = .ok (.getfield 32, 3) := by decide +kernel
theorem dX2_insert_68 : decode cX2_insert 68 = .ok (.invokevirtual 43, 3) := by decide +kernel
theorem dX2_insert_71 : decode cX2_insert 71 = .ok (.aload_n 0, 1) := by decide +kernel
theorem dX2_insert_72 : decode cX2_insert 72 = .ok (.dup, 1) := by decide +kernel
theorem dX2_insert_73 : decode cX2_insert 73 = .ok (.getfield 32, 3) := by decide +kernel
theorem dX2_insert_76 : decode cX2_insert 76 = .ok (.iconst 1, 1) := by decide +kernel
theorem dX2_insert_77 : decode cX2_insert 77 = .ok (.iadd, 1) := by decide +kernel
theorem dX2_insert_78 : decode cX2_insert 78 = .ok (.putfield 32, 3) := by decide +kernel
theorem dX2_insert_81 : decode cX2_insert 81 = .ok (.iload_n 3, 1) := by decide +kernel
theorem dX2_insert_82 : decode cX2_insert 82 = .ok (.ireturn, 1) := by decide +kernel
theorem dX2_takeAway_0 : decode cX2_takeAway 0 = .ok (.aload_n 0, 1) := by decide +kernel
theorem dX2_takeAway_1 : decode cX2_takeAway 1 = .ok (.getfield 14, 3) := by decide +kernel
theorem dX2_takeAway_4 : decode cX2_takeAway 4 = .ok (.iload_n 1, 1) := by decide +kernel
theorem dX2_takeAway_5 : decode cX2_takeAway 5 = .ok (.aload_n 0, 1) := by decide +kernel
theorem dX2_takeAway_6 : decode cX2_takeAway 6 = .ok (.getfield 32, 3) := by decide +kernel
theorem dX2_takeAway_9 : decode cX2_takeAway 9 = .ok (.invokevirtual 47, 3) := by decide +kernel
theorem dX2_takeAway_12 : decode cX2_takeAway 12 = .ok (.aload_n 0, 1) := by decide +kernel
theorem dX2_takeAway_13 : decode cX2_takeAway 13 = .ok (.getfield 20, 3) := by decide +kernel
theorem dX2_takeAway_16 : decode cX2_takeAway 16 = .ok (.iload_n 1, 1) := by decide +kernel
theorem dX2_takeAway_17 : decode cX2_takeAway 17 = .ok (.aload_n 0, 1) := by decide +kernel
theorem dX2_takeAway_18 : decode cX2_takeAway 18 = .ok (.getfield 32, 3) := by decide +kernel
theorem dX2_takeAway_21 : decode cX2_takeAway 21 = .ok (.invokevirtual 47, 3) := by decide +kernel
theorem dX2_takeAway_24 : decode cX2_takeAway 24 = .ok (.aload_n 0, 1) := by decide +kernel
theorem dX2_takeAway_25 : decode cX2_takeAway 25 = .ok (.getfield 23, 3) := by decide +kernel
theorem dX2_takeAway_28 : decode cX2_takeAway 28 = .ok (.iload_n 1, 1) := by decide +kernel
theorem dX2_takeAway_29 : decode cX2_takeAway 29 = .ok (.aload_n 0, 1) := by decide +kernel
theorem dX2_takeAway_30 : decode cX2_takeAway 30 = .ok (.getfield 32, 3) := by decide +kernel
theorem dX2_takeAway_33 : decode cX2_takeAway 33 = .ok (.invokevirtual 47, 3) := by decide +kernel
theorem dX2_takeAway_36 : decode cX2_takeAway 36 = .ok (.aload_n 0, 1) := by decide +kernel
theorem dX2_takeAway_37 : decode cX2_takeAway 37 = .ok (.getfield 26, 3) := by decide +kernel
theorem dX2_takeAway_40 : decode cX2_takeAway 40 = .ok (.iload_n 1, 1) := by decide +kernel
theorem dX2_takeAway_41 : decode cX2_takeAway 41 = .ok (.aload_n 0, 1) := by decide +kernel
theorem dX2_takeAway_42 : decode cX2_takeAway 42 = .ok (.getfield 32, 3) := by decide +kernel
theorem dX2_takeAway_45 : decode cX2_takeAway 45 = .ok (.invokevirtual 47, 3) := by decide +kernel
theorem dX2_takeAway_48 : decode cX2_takeAway 48 = .ok (.aload_n 0, 1) := by decide +kernel
theorem dX2_takeAway_49 : decode cX2_takeAway 49 = .ok (.getfield 29, 3) := by decide +kernel
theorem dX2_takeAway_52 : decode cX2_takeAway 52 = .ok (.iload_n 1, 1) := by decide +kernel
theorem dX2_takeAway_53 : decode cX2_takeAway 53 = .ok (.aload_n 0, 1) := by decide +kernel
theorem dX2_takeAway_54 : decode cX2_takeAway 54 = .ok (.getfield 32, 3) := by decide +kernel
theorem dX2_takeAway_57 : decode cX2_takeAway 57 = .ok (.invokevirtual 47, 3) := by decide +kernel
theorem dX2_takeAway_60 : decode cX2_takeAway 60 = .ok (.aload_n 0, 1) := by decide +kernel
theorem dX2_takeAway_61 : decode cX2_takeAway 61 = .ok (.dup, 1) := by decide +kernel
theorem dX2_takeAway_62 : decode cX2_takeAway 62 = .ok (.getfield 32, 3) := by decide +kernel
theorem dX2_takeAway_65 : decode cX2_takeAway 65 = .ok (.iconst 1, 1) := by decide +kernel
theorem dX2_takeAway_66 : decode cX2_takeAway 66 = .ok (.isub, 1) := by decide +kernel
theorem dX2_takeAway_67 : decode cX2_takeAway 67 = .ok (.putfield 32, 3) := by decide +kernel
theorem dX2_takeAway_70 : decode cX2_takeAway 70 = .ok (.return_, 1) := by decide +kernel
theorem dX2_canShift_0 : decode cX2_canShift 0 = .ok (.iload_n 1, 1) := by decide +kernel
theorem dX2_canShift_1 : decode cX2_canShift 1 = .ok (.istore 4, 2) := by decide +kernel
theorem dX2_canShift_3 : decode cX2_canShift 3 = .ok (.iload 4, 2) := by decide +kernel
theorem dX2_canShift_5 : decode cX2_canShift 5 = .ok (.iload_n 2, 1) := by decide +kernel
theorem dX2_canShift_6 : decode cX2_canShift 6 = .ok (.if_icmp .gt 32, 3) := by decide +kernel
theorem dX2_canShift_9 : decode cX2_canShift 9 = .ok (.aload_n 0, 1) := by decide +kernel
theorem dX2_canShift_10 : decode cX2_canShift 10 = .ok (.getfield 20, 3) := by decide +kernel
theorem dX2_canShift_13 : decode cX2_canShift 13 = .ok (.iload 4, 2) := by decide +kernel
theorem dX2_canShift_15 : decode cX2_canShift 15 = .ok (.invokevirtual 36, 3) := by decide +kernel
theorem dX2_canShift_18 : decode cX2_canShift 18 = .ok (.iload_n 3, 1) := by decide +kernel
theorem dX2_canShift_19 : decode cX2_canShift 19 = .ok (.iadd, 1) := by decide +kernel
theorem dX2_canShift_20 : decode cX2_canShift 20 = .ok (.iconst 0, 1) := by decide +kernel
theorem dX2_canShift_21 : decode cX2_canShift 21 = .ok (.sipush 6000, 3) := by decide +kernel
theorem dX2_canShift_24 : decode cX2_canShift 24 = .ok (.invokestatic 51, 3) := by decide +kernel
theorem dX2_canShift_27 : decode cX2_canShift 27 = .ok (.ifCond .ne 5, 3) := by decide +kernel
theorem dX2_canShift_30 : decode cX2_canShift 30 = .ok (.iconst 0, 1) := by decide +kernel
theorem dX2_canShift_31 : decode cX2_canShift 31 = .ok (.ireturn, 1) := by decide +kernel
theorem dX2_canShift_32 : decode cX2_canShift 32 = .ok (.iinc 4 1, 3) := by decide +kernel
theorem dX2_canShift_35 : decode cX2_canShift 35 = .ok (.goto (-32), 3) := by decide +kernel
theorem dX2_canShift_38 : decode cX2_canShift 38 = .ok (.iconst 1, 1) := by decide +kernel
theorem dX2_canShift_39 : decode cX2_canShift 39 = .ok (.ireturn, 1) := by decide +kernel
theorem dX2_shift_0 : decode cX2_shift 0 = .ok (.iload_n 1, 1) := by decide +kernel
theorem dX2_shift_1 : decode cX2_shift 1 = .ok (.istore 4, 2) := by decide +kernel
theorem dX2_shift_3 : decode cX2_shift 3 = .ok (.iload 4, 2) := by decide +kernel
theorem dX2_shift_5 : decode cX2_shift 5 = .ok (.iload_n 2, 1) := by decide +kernel
theorem dX2_shift_6 : decode cX2_shift 6 = .ok (.if_icmp .gt 19, 3) := by decide +kernel
theorem dX2_shift_9 : decode cX2_shift 9 = .ok (.aload_n 0, 1) := by decide +kernel
theorem dX2_shift_10 : decode cX2_shift 10 = .ok (.getfield 20, 3) := by decide +kernel
theorem dX2_shift_13 : decode cX2_shift 13 = .ok (.iload 4, 2) := by decide +kernel
theorem dX2_shift_15 : decode cX2_shift 15 = .ok (.iload_n 3, 1) := by decide +kernel
theorem dX2_shift_16 : decode cX2_shift 16 = .ok (.invokevirtual 55, 3) := by decide +kernel
theorem dX2_shift_19 : decode cX2_shift 19 = .ok (.iinc 4 1, 3) := by decide +kernel
theorem dX2_shift_22 : decode cX2_shift 22 = .ok (.goto (-19), 3) := by decide +kernel
theorem dX2_shift_25 : decode cX2_shift 25 = .ok (.return_, 1) := by decide +kernel
theorem dX2_beginsPhrase_0 : decode cX2_beginsPhrase 0 = .ok (.iload_n 1, 1) := by decide +kernel
theorem dX2_beginsPhrase_1 : decode cX2_beginsPhrase 1 = .ok (.ifCond .eq 26, 3) := by decide +kernel
theorem dX2_beginsPhrase_4 : decode cX2_beginsPhrase 4 = .ok (.aload_n 0, 1) := by decide +kernel
theorem dX2_beginsPhrase_5 : decode cX2_beginsPhrase 5 = .ok (.getfield 14, 3) := by decide +kernel
theorem dX2_beginsPhrase_8 : decode cX2_beginsPhrase 8 = .ok (.iload_n 1, 1) := by decide +kernel
theorem dX2_beginsPhrase_9 : decode cX2_beginsPhrase 9 = .ok (.invokevirtual 36, 3) := by decide +kernel
theorem dX2_beginsPhrase_12 : decode cX2_beginsPhrase 12 = .ok (.aload_n 0, 1) := by decide +kernel
theorem dX2_beginsPhrase_13 : decode cX2_beginsPhrase 13 = .ok (.getfield 14, 3) := by decide +kernel
theorem dX2_beginsPhrase_16 : decode cX2_beginsPhrase 16 = .ok (.iload_n 1, 1) := by decide +kernel
theorem dX2_beginsPhrase_17 : decode cX2_beginsPhrase 17 = .ok (.iconst 1, 1) := by decide +kernel
theorem dX2_beginsPhrase_18 : decode cX2_beginsPhrase 18 = .ok (.isub, 1) := by decide +kernel
theorem dX2_beginsPhrase_19 : decode cX2_beginsPhrase 19 = .ok (.invokevirtual 36, 3) := by decide +kernel
theorem dX2_beginsPhrase_22 : decode cX2_beginsPhrase 22 = .ok (.isub, 1) := by decide +kernel
theorem dX2_beginsPhrase_23 : decode cX2_beginsPhrase 23 = .ok (.iload_n 2, 1) := by decide +kernel
theorem dX2_beginsPhrase_24 : decode cX2_beginsPhrase 24 = .ok (.if_icmp .lt 7, 3) := by decide +kernel
theorem dX2_beginsPhrase_27 : decode cX2_beginsPhrase 27 = .ok (.iconst 1, 1) := by decide +kernel
theorem dX2_beginsPhrase_28 : decode cX2_beginsPhrase 28 = .ok (.goto 4, 3) := by decide +kernel
theorem dX2_beginsPhrase_31 : decode cX2_beginsPhrase 31 = .ok (.iconst 0, 1) := by decide +kernel
theorem dX2_beginsPhrase_32 : decode cX2_beginsPhrase 32 = .ok (.ireturn, 1) := by decide +kernel
theorem dX2_phraseOf_0 : decode cX2_phraseOf 0 = .ok (.iconst (-1), 1) := by decide +kernel
theorem dX2_phraseOf_1 : decode cX2_phraseOf 1 = .ok (.istore_n 3, 1) := by decide +kernel
theorem dX2_phraseOf_2 : decode cX2_phraseOf 2 = .ok (.iconst 0, 1) := by decide +kernel
theorem dX2_phraseOf_3 : decode cX2_phraseOf 3 = .ok (.istore 4, 2) := by decide +kernel
theorem dX2_phraseOf_5 : decode cX2_phraseOf 5 = .ok (.iload 4, 2) := by decide +kernel
theorem dX2_phraseOf_7 : decode cX2_phraseOf 7 = .ok (.iload_n 1, 1) := by decide +kernel
theorem dX2_phraseOf_8 : decode cX2_phraseOf 8 = .ok (.if_icmp .gt 22, 3) := by decide +kernel
theorem dX2_phraseOf_11 : decode cX2_phraseOf 11 = .ok (.aload_n 0, 1) := by decide +kernel
theorem dX2_phraseOf_12 : decode cX2_phraseOf 12 = .ok (.iload 4, 2) := by decide +kernel
theorem dX2_phraseOf_14 : decode cX2_phraseOf 14 = .ok (.iload_n 2, 1) := by decide +kernel
theorem dX2_phraseOf_15 : decode cX2_phraseOf 15 = .ok (.invokevirtual 58, 3) := by decide +kernel
theorem dX2_phraseOf_18 : decode cX2_phraseOf 18 = .ok (.ifCond .eq 6, 3) := by decide +kernel
theorem dX2_phraseOf_21 : decode cX2_phraseOf 21 = .ok (.iinc 3 1, 3) := by decide +kernel
theorem dX2_phraseOf_24 : decode cX2_phraseOf 24 = .ok (.iinc 4 1, 3) := by decide +kernel
theorem dX2_phraseOf_27 : decode cX2_phraseOf 27 = .ok (.goto (-22), 3) := by decide +kernel
theorem dX2_phraseOf_30 : decode cX2_phraseOf 30 = .ok (.iload_n 3, 1) := by decide +kernel
theorem dX2_phraseOf_31 : decode cX2_phraseOf 31 = .ok (.ireturn, 1) := by decide +kernel
theorem dX2_phrases_0 : decode cX2_phrases 0 = .ok (.aload_n 0, 1) := by decide +kernel
theorem dX2_phrases_1 : decode cX2_phrases 1 = .ok (.aload_n 0, 1) := by decide +kernel
theorem dX2_phrases_2 : decode cX2_phrases 2 = .ok (.getfield 32, 3) := by decide +kernel
theorem dX2_phrases_5 : decode cX2_phrases 5 = .ok (.iconst 1, 1) := by decide +kernel
theorem dX2_phrases_6 : decode cX2_phrases 6 = .ok (.isub, 1) := by decide +kernel
theorem dX2_phrases_7 : decode cX2_phrases 7 = .ok (.iload_n 1, 1) := by decide +kernel
theorem dX2_phrases_8 : decode cX2_phrases 8 = .ok (.invokevirtual 62, 3) := by decide +kernel
theorem dX2_phrases_11 : decode cX2_phrases 11 = .ok (.iconst 1, 1) := by decide +kernel
theorem dX2_phrases_12 : decode cX2_phrases 12 = .ok (.iadd, 1) := by decide +kernel
theorem dX2_phrases_13 : decode cX2_phrases 13 = .ok (.ireturn, 1) := by decide +kernel
theorem dX2_keepSilence_0 : decode cX2_keepSilence 0 = .ok (.aload_n 0, 1) := by decide +kernel
theorem dX2_keepSilence_1 : decode cX2_keepSilence 1 = .ok (.getfield 23, 3) := by decide +kernel
theorem dX2_keepSilence_4 : decode cX2_keepSilence 4 = .ok (.iload_n 1, 1) := by decide +kernel
theorem dX2_keepSilence_5 : decode cX2_keepSilence 5 = .ok (.iconst 1, 1) := by decide +kernel
theorem dX2_keepSilence_6 : decode cX2_keepSilence 6 = .ok (.invokevirtual 66, 3) := by decide +kernel
theorem dX2_keepSilence_9 : decode cX2_keepSilence 9 = .ok (.return_, 1) := by decide +kernel
theorem dX2_keepSound_0 : decode cX2_keepSound 0 = .ok (.aload_n 0, 1) := by decide +kernel
theorem dX2_keepSound_1 : decode cX2_keepSound 1 = .ok (.getfield 23, 3) := by decide +kernel
theorem dX2_keepSound_4 : decode cX2_keepSound 4 = .ok (.iload_n 1, 1) := by decide +kernel
theorem dX2_keepSound_5 : decode cX2_keepSound 5 = .ok (.iload 4, 2) := by decide +kernel
theorem dX2_keepSound_7 : decode cX2_keepSound 7 = .ok (.ifCond .eq 7, 3) := by decide +kernel
theorem dX2_keepSound_10 : decode cX2_keepSound 10 = .ok (.iconst 3, 1) := by decide +kernel
theorem dX2_keepSound_11 : decode cX2_keepSound 11 = .ok (.goto 4, 3) := by decide +kernel
theorem dX2_keepSound_14 : decode cX2_keepSound 14 = .ok (.iconst 2, 1) := by decide +kernel
theorem dX2_keepSound_15 : decode cX2_keepSound 15 = .ok (.invokevirtual 66, 3) := by decide +kernel
theorem dX2_keepSound_18 : decode cX2_keepSound 18 = .ok (.aload_n 0, 1) := by decide +kernel
theorem dX2_keepSound_19 : decode cX2_keepSound 19 = .ok (.getfield 26, 3) := by decide +kernel
theorem dX2_keepSound_22 : decode cX2_keepSound 22 = .ok (.iload_n 1, 1) := by decide +kernel
theorem dX2_keepSound_23 : decode cX2_keepSound 23 = .ok (.iload_n 2, 1) := by decide +kernel
theorem dX2_keepSound_24 : decode cX2_keepSound 24 = .ok (.invokevirtual 66, 3) := by decide +kernel
theorem dX2_keepSound_27 : decode cX2_keepSound 27 = .ok (.aload_n 0, 1) := by decide +kernel
theorem dX2_keepSound_28 : decode cX2_keepSound 28 = .ok (.getfield 29, 3) := by decide +kernel
theorem dX2_keepSound_31 : decode cX2_keepSound 31 = .ok (.iload_n 1, 1) := by decide +kernel
theorem dX2_keepSound_32 : decode cX2_keepSound 32 = .ok (.iload_n 3, 1) := by decide +kernel
theorem dX2_keepSound_33 : decode cX2_keepSound 33 = .ok (.invokevirtual 66, 3) := by decide +kernel
theorem dX2_keepSound_36 : decode cX2_keepSound 36 = .ok (.return_, 1) := by decide +kernel
theorem dX2_forgetPlaying_0 : decode cX2_forgetPlaying 0 = .ok (.iconst 0, 1) := by decide +kernel
theorem dX2_forgetPlaying_1 : decode cX2_forgetPlaying 1 = .ok (.istore_n 1, 1) := by decide +kernel
theorem dX2_forgetPlaying_2 : decode cX2_forgetPlaying 2 = .ok (.iload_n 1, 1) := by decide +kernel
theorem dX2_forgetPlaying_3 : decode cX2_forgetPlaying 3 = .ok (.aload_n 0, 1) := by decide +kernel
theorem dX2_forgetPlaying_4 : decode cX2_forgetPlaying 4 = .ok (.getfield 32, 3) := by decide +kernel
theorem dX2_forgetPlaying_7 : decode cX2_forgetPlaying 7 = .ok (.if_icmp .ge 18, 3) := by decide +kernel
theorem dX2_forgetPlaying_10 : decode cX2_forgetPlaying 10 = .ok (.aload_n 0, 1) := by decide +kernel
theorem dX2_forgetPlaying_11 : decode cX2_forgetPlaying 11 = .ok (.getfield 23, 3) := by decide +kernel
theorem dX2_forgetPlaying_14 : decode cX2_forgetPlaying 14 = .ok (.iload_n 1, 1) := by decide +kernel
theorem dX2_forgetPlaying_15 : decode cX2_forgetPlaying 15 = .ok (.iconst 0, 1) := by decide +kernel
theorem dX2_forgetPlaying_16 : decode cX2_forgetPlaying 16 = .ok (.invokevirtual 66, 3) := by decide +kernel
theorem dX2_forgetPlaying_19 : decode cX2_forgetPlaying 19 = .ok (.iinc 1 1, 3) := by decide +kernel
theorem dX2_forgetPlaying_22 : decode cX2_forgetPlaying 22 = .ok (.goto (-20), 3) := by decide +kernel
theorem dX2_forgetPlaying_25 : decode cX2_forgetPlaying 25 = .ok (.return_, 1) := by decide +kernel
theorem dX2_sounded_0 : decode cX2_sounded 0 = .ok (.aload_n 0, 1) := by decide +kernel
theorem dX2_sounded_1 : decode cX2_sounded 1 = .ok (.getfield 23, 3) := by decide +kernel
theorem dX2_sounded_4 : decode cX2_sounded 4 = .ok (.iload_n 1, 1) := by decide +kernel
theorem dX2_sounded_5 : decode cX2_sounded 5 = .ok (.invokevirtual 36, 3) := by decide +kernel
theorem dX2_sounded_8 : decode cX2_sounded 8 = .ok (.iconst 2, 1) := by decide +kernel
theorem dX2_sounded_9 : decode cX2_sounded 9 = .ok (.if_icmp .eq 15, 3) := by decide +kernel
theorem dX2_sounded_12 : decode cX2_sounded 12 = .ok (.aload_n 0, 1) := by decide +kernel
theorem dX2_sounded_13 : decode cX2_sounded 13 = .ok (.getfield 23, 3) := by decide +kernel
theorem dX2_sounded_16 : decode cX2_sounded 16 = .ok (.iload_n 1, 1) := by decide +kernel
theorem dX2_sounded_17 : decode cX2_sounded 17 = .ok (.invokevirtual 36, 3) := by decide +kernel
theorem dX2_sounded_20 : decode cX2_sounded 20 = .ok (.iconst 3, 1) := by decide +kernel
theorem dX2_sounded_21 : decode cX2_sounded 21 = .ok (.if_icmp .ne 7, 3) := by decide +kernel
theorem dX2_sounded_24 : decode cX2_sounded 24 = .ok (.iconst 1, 1) := by decide +kernel
theorem dX2_sounded_25 : decode cX2_sounded 25 = .ok (.goto 4, 3) := by decide +kernel
theorem dX2_sounded_28 : decode cX2_sounded 28 = .ok (.iconst 0, 1) := by decide +kernel
theorem dX2_sounded_29 : decode cX2_sounded 29 = .ok (.ireturn, 1) := by decide +kernel
theorem dX2_notesWith_0 : decode cX2_notesWith 0 = .ok (.iconst 0, 1) := by decide +kernel
theorem dX2_notesWith_1 : decode cX2_notesWith 1 = .ok (.istore_n 2, 1) := by decide +kernel
theorem dX2_notesWith_2 : decode cX2_notesWith 2 = .ok (.iconst 0, 1) := by decide +kernel
theorem dX2_notesWith_3 : decode cX2_notesWith 3 = .ok (.istore_n 3, 1) := by decide +kernel
theorem dX2_notesWith_4 : decode cX2_notesWith 4 = .ok (.iload_n 3, 1) := by decide +kernel
theorem dX2_notesWith_5 : decode cX2_notesWith 5 = .ok (.aload_n 0, 1) := by decide +kernel
theorem dX2_notesWith_6 : decode cX2_notesWith 6 = .ok (.getfield 32, 3) := by decide +kernel
theorem dX2_notesWith_9 : decode cX2_notesWith 9 = .ok (.if_icmp .ge 24, 3) := by decide +kernel
theorem dX2_notesWith_12 : decode cX2_notesWith 12 = .ok (.aload_n 0, 1) := by decide +kernel
theorem dX2_notesWith_13 : decode cX2_notesWith 13 = .ok (.getfield 23, 3) := by decide +kernel
theorem dX2_notesWith_16 : decode cX2_notesWith 16 = .ok (.iload_n 3, 1) := by decide +kernel
theorem dX2_notesWith_17 : decode cX2_notesWith 17 = .ok (.invokevirtual 36, 3) := by decide +kernel
theorem dX2_notesWith_20 : decode cX2_notesWith 20 = .ok (.iload_n 1, 1) := by decide +kernel
theorem dX2_notesWith_21 : decode cX2_notesWith 21 = .ok (.if_icmp .ne 6, 3) := by decide +kernel
theorem dX2_notesWith_24 : decode cX2_notesWith 24 = .ok (.iinc 2 1, 3) := by decide +kernel
theorem dX2_notesWith_27 : decode cX2_notesWith 27 = .ok (.iinc 3 1, 3) := by decide +kernel
theorem dX2_notesWith_30 : decode cX2_notesWith 30 = .ok (.goto (-26), 3) := by decide +kernel
theorem dX2_notesWith_33 : decode cX2_notesWith 33 = .ok (.iload_n 2, 1) := by decide +kernel
theorem dX2_notesWith_34 : decode cX2_notesWith 34 = .ok (.ireturn, 1) := by decide +kernel
theorem dX2_playedNotes_0 : decode cX2_playedNotes 0 = .ok (.aload_n 0, 1) := by decide +kernel
theorem dX2_playedNotes_1 : decode cX2_playedNotes 1 = .ok (.getfield 32, 3) := by decide +kernel
theorem dX2_playedNotes_4 : decode cX2_playedNotes 4 = .ok (.aload_n 0, 1) := by decide +kernel
theorem dX2_playedNotes_5 : decode cX2_playedNotes 5 = .ok (.iconst 0, 1) := by decide +kernel
theorem dX2_playedNotes_6 : decode cX2_playedNotes 6 = .ok (.invokevirtual 69, 3) := by decide +kernel
theorem dX2_playedNotes_9 : decode cX2_playedNotes 9 = .ok (.isub, 1) := by decide +kernel
theorem dX2_playedNotes_10 : decode cX2_playedNotes 10 = .ok (.ireturn, 1) := by decide +kernel
theorem dX2_property_0 : decode cX2_property 0 = .ok (.iload_n 2, 1) := by decide +kernel
theorem dX2_property_1 : decode cX2_property 1 = .ok (.tableswitch 166 0 6 #[43, 52, 61, 68, 88, 110, 132], 43) := by decide +kernel
theorem dX2_property_44 : decode cX2_property 44 = .ok (.aload_n 0, 1) := by decide +kernel
theorem dX2_property_45 : decode cX2_property 45 = .ok (.getfield 14, 3) := by decide +kernel
theorem dX2_property_48 : decode cX2_property 48 = .ok (.iload_n 1, 1) := by decide +kernel
theorem dX2_property_49 : decode cX2_property 49 = .ok (.invokevirtual 36, 3) := by decide +kernel
theorem dX2_property_52 : decode cX2_property 52 = .ok (.ireturn, 1) := by decide +kernel
theorem dX2_property_53 : decode cX2_property 53 = .ok (.aload_n 0, 1) := by decide +kernel
theorem dX2_property_54 : decode cX2_property 54 = .ok (.getfield 20, 3) := by decide +kernel
theorem dX2_property_57 : decode cX2_property 57 = .ok (.iload_n 1, 1) := by decide +kernel
theorem dX2_property_58 : decode cX2_property 58 = .ok (.invokevirtual 36, 3) := by decide +kernel
theorem dX2_property_61 : decode cX2_property 61 = .ok (.ireturn, 1) := by decide +kernel
theorem dX2_property_62 : decode cX2_property 62 = .ok (.aload_n 0, 1) := by decide +kernel
theorem dX2_property_63 : decode cX2_property 63 = .ok (.iload_n 1, 1) := by decide +kernel
theorem dX2_property_64 : decode cX2_property 64 = .ok (.iload_n 3, 1) := by decide +kernel
theorem dX2_property_65 : decode cX2_property 65 = .ok (.invokevirtual 62, 3) := by decide +kernel
theorem dX2_property_68 : decode cX2_property 68 = .ok (.ireturn, 1) := by decide +kernel
theorem dX2_property_69 : decode cX2_property 69 = .ok (.aload_n 0, 1) := by decide +kernel
theorem dX2_property_70 : decode cX2_property 70 = .ok (.getfield 23, 3) := by decide +kernel
theorem dX2_property_73 : decode cX2_property 73 = .ok (.iload_n 1, 1) := by decide +kernel
theorem dX2_property_74 : decode cX2_property 74 = .ok (.invokevirtual 36, 3) := by decide +kernel
theorem dX2_property_77 : decode cX2_property 77 = .ok (.ifCond .eq 7, 3) := by decide +kernel
theorem dX2_property_80 : decode cX2_property 80 = .ok (.iconst 1, 1) := by decide +kernel
theorem dX2_property_81 : decode cX2_property 81 = .ok (.goto 4, 3) := by decide +kernel
theorem dX2_property_84 : decode cX2_property 84 = .ok (.iconst 0, 1) := by decide +kernel
theorem dX2_property_85 : decode cX2_property 85 = .ok (.invokestatic 72, 3) := by decide +kernel
theorem dX2_property_88 : decode cX2_property 88 = .ok (.ireturn, 1) := by decide +kernel
theorem dX2_property_89 : decode cX2_property 89 = .ok (.aload_n 0, 1) := by decide +kernel
theorem dX2_property_90 : decode cX2_property 90 = .ok (.iload_n 1, 1) := by decide +kernel
theorem dX2_property_91 : decode cX2_property 91 = .ok (.invokevirtual 76, 3) := by decide +kernel
theorem dX2_property_94 : decode cX2_property 94 = .ok (.ifCond .eq 14, 3) := by decide +kernel
theorem dX2_property_97 : decode cX2_property 97 = .ok (.aload_n 0, 1) := by decide +kernel
theorem dX2_property_98 : decode cX2_property 98 = .ok (.getfield 26, 3) := by decide +kernel
theorem dX2_property_101 : decode cX2_property 101 = .ok (.iload_n 1, 1) := by decide +kernel
theorem dX2_property_102 : decode cX2_property 102 = .ok (.invokevirtual 36, 3) := by decide +kernel
theorem dX2_property_105 : decode cX2_property 105 = .ok (.goto 5, 3) := by decide +kernel
theorem dX2_property_108 : decode cX2_property 108 = .ok (.ldc 80, 2) := by decide +kernel
theorem dX2_property_110 : decode cX2_property 110 = .ok (.ireturn, 1) := by decide +kernel
theorem dX2_property_111 : decode cX2_property 111 = .ok (.aload_n 0, 1) := by decide +kernel
theorem dX2_property_112 : decode cX2_property 112 = .ok (.iload_n 1, 1) := by decide +kernel
theorem dX2_property_113 : decode cX2_property 113 = .ok (.invokevirtual 76, 3) := by decide +kernel
theorem dX2_property_116 : decode cX2_property 116 = .ok (.ifCond .eq 14, 3) := by decide +kernel
theorem dX2_property_119 : decode cX2_property 119 = .ok (.aload_n 0, 1) := by decide +kernel
theorem dX2_property_120 : decode cX2_property 120 = .ok (.getfield 29, 3) := by decide +kernel
theorem dX2_property_123 : decode cX2_property 123 = .ok (.iload_n 1, 1) := by decide +kernel
theorem dX2_property_124 : decode cX2_property 124 = .ok (.invokevirtual 36, 3) := by decide +kernel
theorem dX2_property_127 : decode cX2_property 127 = .ok (.goto 5, 3) := by decide +kernel
theorem dX2_property_130 : decode cX2_property 130 = .ok (.ldc 80, 2) := by decide +kernel
theorem dX2_property_132 : decode cX2_property 132 = .ok (.ireturn, 1) := by decide +kernel
theorem dX2_property_133 : decode cX2_property 133 = .ok (.aload_n 0, 1) := by decide +kernel
theorem dX2_property_134 : decode cX2_property 134 = .ok (.iload_n 1, 1) := by decide +kernel
theorem dX2_property_135 : decode cX2_property 135 = .ok (.invokevirtual 76, 3) := by decide +kernel
theorem dX2_property_138 : decode cX2_property 138 = .ok (.ifCond .eq 26, 3) := by decide +kernel
theorem dX2_property_141 : decode cX2_property 141 = .ok (.aload_n 0, 1) := by decide +kernel
theorem dX2_property_142 : decode cX2_property 142 = .ok (.getfield 23, 3) := by decide +kernel
theorem dX2_property_145 : decode cX2_property 145 = .ok (.iload_n 1, 1) := by decide +kernel
theorem dX2_property_146 : decode cX2_property 146 = .ok (.invokevirtual 36, 3) := by decide +kernel
theorem dX2_property_149 : decode cX2_property 149 = .ok (.iconst 3, 1) := by decide +kernel
theorem dX2_property_150 : decode cX2_property 150 = .ok (.if_icmp .ne 7, 3) := by decide +kernel
theorem dX2_property_153 : decode cX2_property 153 = .ok (.iconst 1, 1) := by decide +kernel
theorem dX2_property_154 : decode cX2_property 154 = .ok (.goto 4, 3) := by decide +kernel
theorem dX2_property_157 : decode cX2_property 157 = .ok (.iconst 0, 1) := by decide +kernel
theorem dX2_property_158 : decode cX2_property 158 = .ok (.invokestatic 72, 3) := by decide +kernel
theorem dX2_property_161 : decode cX2_property 161 = .ok (.goto 5, 3) := by decide +kernel
theorem dX2_property_164 : decode cX2_property 164 = .ok (.ldc 80, 2) := by decide +kernel
theorem dX2_property_166 : decode cX2_property 166 = .ok (.ireturn, 1) := by decide +kernel
theorem dX2_property_167 : decode cX2_property 167 = .ok (.ldc 81, 2) := by decide +kernel
theorem dX2_property_169 : decode cX2_property 169 = .ok (.ireturn, 1) := by decide +kernel
theorem dX2_errorSize_0 : decode cX2_errorSize 0 = .ok (.aload_n 0, 1) := by decide +kernel
theorem dX2_errorSize_1 : decode cX2_errorSize 1 = .ok (.getfield 29, 3) := by decide +kernel
theorem dX2_errorSize_4 : decode cX2_errorSize 4 = .ok (.iload_n 1, 1) := by decide +kernel
theorem dX2_errorSize_5 : decode cX2_errorSize 5 = .ok (.invokevirtual 36, 3) := by decide +kernel
theorem dX2_errorSize_8 : decode cX2_errorSize 8 = .ok (.invokestatic 82, 3) := by decide +kernel
theorem dX2_errorSize_11 : decode cX2_errorSize 11 = .ok (.ireturn, 1) := by decide +kernel
theorem dX2_noteAtRank_0 : decode cX2_noteAtRank 0 = .ok (.iconst 0, 1) := by decide +kernel
theorem dX2_noteAtRank_1 : decode cX2_noteAtRank 1 = .ok (.istore_n 2, 1) := by decide +kernel
theorem dX2_noteAtRank_2 : decode cX2_noteAtRank 2 = .ok (.iload_n 2, 1) := by decide +kernel
theorem dX2_noteAtRank_3 : decode cX2_noteAtRank 3 = .ok (.aload_n 0, 1) := by decide +kernel
theorem dX2_noteAtRank_4 : decode cX2_noteAtRank 4 = .ok (.getfield 32, 3) := by decide +kernel
theorem dX2_noteAtRank_7 : decode cX2_noteAtRank 7 = .ok (.if_icmp .ge 28, 3) := by decide +kernel
theorem dX2_noteAtRank_10 : decode cX2_noteAtRank 10 = .ok (.aload_n 0, 1) := by decide +kernel
theorem dX2_noteAtRank_11 : decode cX2_noteAtRank 11 = .ok (.iload_n 2, 1) := by decide +kernel
theorem dX2_noteAtRank_12 : decode cX2_noteAtRank 12 = .ok (.invokevirtual 76, 3) := by decide +kernel
theorem dX2_noteAtRank_15 : decode cX2_noteAtRank 15 = .ok (.ifCond .eq 14, 3) := by decide +kernel
theorem dX2_noteAtRank_18 : decode cX2_noteAtRank 18 = .ok (.aload_n 0, 1) := by decide +kernel
theorem dX2_noteAtRank_19 : decode cX2_noteAtRank 19 = .ok (.iload_n 2, 1) := by decide +kernel
theorem dX2_noteAtRank_20 : decode cX2_noteAtRank 20 = .ok (.invokevirtual 87, 3) := by decide +kernel
theorem dX2_noteAtRank_23 : decode cX2_noteAtRank 23 = .ok (.iload_n 1, 1) := by decide +kernel
theorem dX2_noteAtRank_24 : decode cX2_noteAtRank 24 = .ok (.if_icmp .ne 5, 3) := by decide +kernel
theorem dX2_noteAtRank_27 : decode cX2_noteAtRank 27 = .ok (.iload_n 2, 1) := by decide +kernel
theorem dX2_noteAtRank_28 : decode cX2_noteAtRank 28 = .ok (.ireturn, 1) := by decide +kernel
theorem dX2_noteAtRank_29 : decode cX2_noteAtRank 29 = .ok (.iinc 2 1, 3) := by decide +kernel
theorem dX2_noteAtRank_32 : decode cX2_noteAtRank 32 = .ok (.goto (-30), 3) := by decide +kernel
theorem dX2_noteAtRank_35 : decode cX2_noteAtRank 35 = .ok (.iconst (-1), 1) := by decide +kernel
theorem dX2_noteAtRank_36 : decode cX2_noteAtRank 36 = .ok (.ireturn, 1) := by decide +kernel
theorem dX2_rankOf_0 : decode cX2_rankOf 0 = .ok (.iconst 0, 1) := by decide +kernel
theorem dX2_rankOf_1 : decode cX2_rankOf 1 = .ok (.istore_n 2, 1) := by decide +kernel
theorem dX2_rankOf_2 : decode cX2_rankOf 2 = .ok (.iconst 0, 1) := by decide +kernel
theorem dX2_rankOf_3 : decode cX2_rankOf 3 = .ok (.istore_n 3, 1) := by decide +kernel
theorem dX2_rankOf_4 : decode cX2_rankOf 4 = .ok (.iload_n 3, 1) := by decide +kernel
theorem dX2_rankOf_5 : decode cX2_rankOf 5 = .ok (.aload_n 0, 1) := by decide +kernel
theorem dX2_rankOf_6 : decode cX2_rankOf 6 = .ok (.getfield 32, 3) := by decide +kernel
theorem dX2_rankOf_9 : decode cX2_rankOf 9 = .ok (.if_icmp .ge 75, 3) := by decide +kernel
theorem dX2_rankOf_12 : decode cX2_rankOf 12 = .ok (.aload_n 0, 1) := by decide +kernel
theorem dX2_rankOf_13 : decode cX2_rankOf 13 = .ok (.iload_n 3, 1) := by decide +kernel
theorem dX2_rankOf_14 : decode cX2_rankOf 14 = .ok (.invokevirtual 90, 3) := by decide +kernel
theorem dX2_rankOf_17 : decode cX2_rankOf 17 = .ok (.aload_n 0, 1) := by decide +kernel
theorem dX2_rankOf_18 : decode cX2_rankOf 18 = .ok (.iload_n 1, 1) := by decide +kernel
theorem dX2_rankOf_19 : decode cX2_rankOf 19 = .ok (.invokevirtual 90, 3) := by decide +kernel
theorem dX2_rankOf_22 : decode cX2_rankOf 22 = .ok (.if_icmp .le 7, 3) := by decide +kernel
theorem dX2_rankOf_25 : decode cX2_rankOf 25 = .ok (.iconst 1, 1) := by decide +kernel
theorem dX2_rankOf_26 : decode cX2_rankOf 26 = .ok (.goto 4, 3) := by decide +kernel
theorem dX2_rankOf_29 : decode cX2_rankOf 29 = .ok (.iconst 0, 1) := by decide +kernel
theorem dX2_rankOf_30 : decode cX2_rankOf 30 = .ok (.istore 4, 2) := by decide +kernel
theorem dX2_rankOf_32 : decode cX2_rankOf 32 = .ok (.aload_n 0, 1) := by decide +kernel
theorem dX2_rankOf_33 : decode cX2_rankOf 33 = .ok (.iload_n 3, 1) := by decide +kernel
theorem dX2_rankOf_34 : decode cX2_rankOf 34 = .ok (.invokevirtual 90, 3) := by decide +kernel
theorem dX2_rankOf_37 : decode cX2_rankOf 37 = .ok (.aload_n 0, 1) := by decide +kernel
theorem dX2_rankOf_38 : decode cX2_rankOf 38 = .ok (.iload_n 1, 1) := by decide +kernel
theorem dX2_rankOf_39 : decode cX2_rankOf 39 = .ok (.invokevirtual 90, 3) := by decide +kernel
theorem dX2_rankOf_42 : decode cX2_rankOf 42 = .ok (.if_icmp .ne 12, 3) := by decide +kernel
theorem dX2_rankOf_45 : decode cX2_rankOf 45 = .ok (.iload_n 3, 1) := by decide +kernel
theorem dX2_rankOf_46 : decode cX2_rankOf 46 = .ok (.iload_n 1, 1) := by decide +kernel
theorem dX2_rankOf_47 : decode cX2_rankOf 47 = .ok (.if_icmp .ge 7, 3) := by decide +kernel
theorem dX2_rankOf_50 : decode cX2_rankOf 50 = .ok (.iconst 1, 1) := by decide +kernel
theorem dX2_rankOf_51 : decode cX2_rankOf 51 = .ok (.goto 4, 3) := by decide +kernel
theorem dX2_rankOf_54 : decode cX2_rankOf 54 = .ok (.iconst 0, 1) := by decide +kernel
theorem dX2_rankOf_55 : decode cX2_rankOf 55 = .ok (.istore 5, 2) := by decide +kernel
theorem dX2_rankOf_57 : decode cX2_rankOf 57 = .ok (.aload_n 0, 1) := by decide +kernel
theorem dX2_rankOf_58 : decode cX2_rankOf 58 = .ok (.iload_n 3, 1) := by decide +kernel
theorem dX2_rankOf_59 : decode cX2_rankOf 59 = .ok (.invokevirtual 76, 3) := by decide +kernel
theorem dX2_rankOf_62 : decode cX2_rankOf 62 = .ok (.ifCond .eq 16, 3) := by decide +kernel
theorem dX2_rankOf_65 : decode cX2_rankOf 65 = .ok (.iload 4, 2) := by decide +kernel
theorem dX2_rankOf_67 : decode cX2_rankOf 67 = .ok (.ifCond .ne 8, 3) := by decide +kernel
theorem dX2_rankOf_70 : decode cX2_rankOf 70 = .ok (.iload 5, 2) := by decide +kernel
theorem dX2_rankOf_72 : decode cX2_rankOf 72 = .ok (.ifCond .eq 6, 3) := by decide +kernel
theorem dX2_rankOf_75 : decode cX2_rankOf 75 = .ok (.iinc 2 1, 3) := by decide +kernel
theorem dX2_rankOf_78 : decode cX2_rankOf 78 = .ok (.iinc 3 1, 3) := by decide +kernel
theorem dX2_rankOf_81 : decode cX2_rankOf 81 = .ok (.goto (-77), 3) := by decide +kernel
theorem dX2_rankOf_84 : decode cX2_rankOf 84 = .ok (.iload_n 2, 1) := by decide +kernel
theorem dX2_rankOf_85 : decode cX2_rankOf 85 = .ok (.ireturn, 1) := by decide +kernel
theorem dX2_firstFalseAfter_0 : decode cX2_firstFalseAfter 0 = .ok (.iconst 0, 1) := by decide +kernel
theorem dX2_firstFalseAfter_1 : decode cX2_firstFalseAfter 1 = .ok (.istore_n 2, 1) := by decide +kernel
theorem dX2_firstFalseAfter_2 : decode cX2_firstFalseAfter 2 = .ok (.iload_n 2, 1) := by decide +kernel
theorem dX2_firstFalseAfter_3 : decode cX2_firstFalseAfter 3 = .ok (.aload_n 0, 1) := by decide +kernel
theorem dX2_firstFalseAfter_4 : decode cX2_firstFalseAfter 4 = .ok (.getfield 32, 3) := by decide +kernel
theorem dX2_firstFalseAfter_7 : decode cX2_firstFalseAfter 7 = .ok (.if_icmp .ge 35, 3) := by decide +kernel
theorem dX2_firstFalseAfter_10 : decode cX2_firstFalseAfter 10 = .ok (.aload_n 0, 1) := by decide +kernel
theorem dX2_firstFalseAfter_11 : decode cX2_firstFalseAfter 11 = .ok (.getfield 14, 3) := by decide +kernel
theorem dX2_firstFalseAfter_14 : decode cX2_firstFalseAfter 14 = .ok (.iload_n 2, 1) := by decide +kernel
theorem dX2_firstFalseAfter_15 : decode cX2_firstFalseAfter 15 = .ok (.invokevirtual 36, 3) := by decide +kernel
theorem dX2_firstFalseAfter_18 : decode cX2_firstFalseAfter 18 = .ok (.iload_n 1, 1) := by decide +kernel
theorem dX2_firstFalseAfter_19 : decode cX2_firstFalseAfter 19 = .ok (.if_icmp .le 17, 3) := by decide +kernel
theorem dX2_firstFalseAfter_22 : decode cX2_firstFalseAfter 22 = .ok (.aload_n 0, 1) := by decide +kernel
theorem dX2_firstFalseAfter_23 : decode cX2_firstFalseAfter 23 = .ok (.getfield 23, 3) := by decide +kernel
theorem dX2_firstFalseAfter_26 : decode cX2_firstFalseAfter 26 = .ok (.iload_n 2, 1) := by decide +kernel
theorem dX2_firstFalseAfter_27 : decode cX2_firstFalseAfter 27 = .ok (.invokevirtual 36, 3) := by decide +kernel
theorem dX2_firstFalseAfter_30 : decode cX2_firstFalseAfter 30 = .ok (.iconst 2, 1) := by decide +kernel
theorem dX2_firstFalseAfter_31 : decode cX2_firstFalseAfter 31 = .ok (.if_icmp .ne 5, 3) := by decide +kernel
theorem dX2_firstFalseAfter_34 : decode cX2_firstFalseAfter 34 = .ok (.iload_n 2, 1) := by decide +kernel
theorem dX2_firstFalseAfter_35 : decode cX2_firstFalseAfter 35 = .ok (.ireturn, 1) := by decide +kernel
theorem dX2_firstFalseAfter_36 : decode cX2_firstFalseAfter 36 = .ok (.iinc 2 1, 3) := by decide +kernel
theorem dX2_firstFalseAfter_39 : decode cX2_firstFalseAfter 39 = .ok (.goto (-37), 3) := by decide +kernel
theorem dX2_firstFalseAfter_42 : decode cX2_firstFalseAfter 42 = .ok (.iconst (-1), 1) := by decide +kernel
theorem dX2_firstFalseAfter_43 : decode cX2_firstFalseAfter 43 = .ok (.ireturn, 1) := by decide +kernel
theorem dX2_greatestErrorAfter_0 : decode cX2_greatestErrorAfter 0 = .ok (.iconst (-1), 1) := by decide +kernel
theorem dX2_greatestErrorAfter_1 : decode cX2_greatestErrorAfter 1 = .ok (.istore_n 2, 1) := by decide +kernel
theorem dX2_greatestErrorAfter_2 : decode cX2_greatestErrorAfter 2 = .ok (.iconst 0, 1) := by decide +kernel
theorem dX2_greatestErrorAfter_3 : decode cX2_greatestErrorAfter 3 = .ok (.istore_n 3, 1) := by decide +kernel
theorem dX2_greatestErrorAfter_4 : decode cX2_greatestErrorAfter 4 = .ok (.iload_n 3, 1) := by decide +kernel
theorem dX2_greatestErrorAfter_5 : decode cX2_greatestErrorAfter 5 = .ok (.aload_n 0, 1) := by decide +kernel
theorem dX2_greatestErrorAfter_6 : decode cX2_greatestErrorAfter 6 = .ok (.getfield 32, 3) := by decide +kernel
theorem dX2_greatestErrorAfter_9 : decode cX2_greatestErrorAfter 9 = .ok (.if_icmp .ge 39, 3) := by decide +kernel
theorem dX2_greatestErrorAfter_12 : decode cX2_greatestErrorAfter 12 = .ok (.aload_n 0, 1) := by decide +kernel
theorem dX2_greatestErrorAfter_13 : decode cX2_greatestErrorAfter 13 = .ok (.getfield 14, 3) := by decide +kernel
theorem dX2_greatestErrorAfter_16 : decode cX2_greatestErrorAfter 16 = .ok (.iload_n 3, 1) := by decide +kernel
theorem dX2_greatestErrorAfter_17 : decode cX2_greatestErrorAfter 17 = .ok (.invokevirtual 36, 3) := by decide +kernel
theorem dX2_greatestErrorAfter_20 : decode cX2_greatestErrorAfter 20 = .ok (.iload_n 1, 1) := by decide +kernel
theorem dX2_greatestErrorAfter_21 : decode cX2_greatestErrorAfter 21 = .ok (.if_icmp .le 21, 3) := by decide +kernel
theorem dX2_greatestErrorAfter_24 : decode cX2_greatestErrorAfter 24 = .ok (.aload_n 0, 1) := by decide +kernel
theorem dX2_greatestErrorAfter_25 : decode cX2_greatestErrorAfter 25 = .ok (.iload_n 3, 1) := by decide +kernel
theorem dX2_greatestErrorAfter_26 : decode cX2_greatestErrorAfter 26 = .ok (.invokevirtual 76, 3) := by decide +kernel
theorem dX2_greatestErrorAfter_29 : decode cX2_greatestErrorAfter 29 = .ok (.ifCond .eq 13, 3) := by decide +kernel
theorem dX2_greatestErrorAfter_32 : decode cX2_greatestErrorAfter 32 = .ok (.iload_n 2, 1) := by decide +kernel
theorem dX2_greatestErrorAfter_33 : decode cX2_greatestErrorAfter 33 = .ok (.aload_n 0, 1) := by decide +kernel
theorem dX2_greatestErrorAfter_34 : decode cX2_greatestErrorAfter 34 = .ok (.iload_n 3, 1) := by decide +kernel
theorem dX2_greatestErrorAfter_35 : decode cX2_greatestErrorAfter 35 = .ok (.invokevirtual 90, 3) := by decide +kernel
theorem dX2_greatestErrorAfter_38 : decode cX2_greatestErrorAfter 38 = .ok (.invokestatic 93, 3) := by decide +kernel
theorem dX2_greatestErrorAfter_41 : decode cX2_greatestErrorAfter 41 = .ok (.istore_n 2, 1) := by decide +kernel
theorem dX2_greatestErrorAfter_42 : decode cX2_greatestErrorAfter 42 = .ok (.iinc 3 1, 3) := by decide +kernel
theorem dX2_greatestErrorAfter_45 : decode cX2_greatestErrorAfter 45 = .ok (.goto (-41), 3) := by decide +kernel
theorem dX2_greatestErrorAfter_48 : decode cX2_greatestErrorAfter 48 = .ok (.iload_n 2, 1) := by decide +kernel
theorem dX2_greatestErrorAfter_49 : decode cX2_greatestErrorAfter 49 = .ok (.ireturn, 1) := by decide +kernel
theorem dX2_copyFrom_0 : decode cX2_copyFrom 0 = .ok (.aload_n 1, 1) := by decide +kernel
theorem dX2_copyFrom_1 : decode cX2_copyFrom 1 = .ok (.ifnonnull 4, 3) := by decide +kernel
theorem dX2_copyFrom_4 : decode cX2_copyFrom 4 = .ok (.return_, 1) := by decide +kernel
theorem dX2_copyFrom_5 : decode cX2_copyFrom 5 = .ok (.aload_n 0, 1) := by decide +kernel
theorem dX2_copyFrom_6 : decode cX2_copyFrom 6 = .ok (.getfield 14, 3) := by decide +kernel
theorem dX2_copyFrom_9 : decode cX2_copyFrom 9 = .ok (.aload_n 1, 1) := by decide +kernel
theorem dX2_copyFrom_10 : decode cX2_copyFrom 10 = .ok (.getfield 14, 3) := by decide +kernel
theorem dX2_copyFrom_13 : decode cX2_copyFrom 13 = .ok (.invokevirtual 96, 3) := by decide +kernel
theorem dX2_copyFrom_16 : decode cX2_copyFrom 16 = .ok (.aload_n 0, 1) := by decide +kernel
theorem dX2_copyFrom_17 : decode cX2_copyFrom 17 = .ok (.getfield 20, 3) := by decide +kernel
theorem dX2_copyFrom_20 : decode cX2_copyFrom 20 = .ok (.aload_n 1, 1) := by decide +kernel
theorem dX2_copyFrom_21 : decode cX2_copyFrom 21 = .ok (.getfield 20, 3) := by decide +kernel
theorem dX2_copyFrom_24 : decode cX2_copyFrom 24 = .ok (.invokevirtual 96, 3) := by decide +kernel
theorem dX2_copyFrom_27 : decode cX2_copyFrom 27 = .ok (.aload_n 0, 1) := by decide +kernel
theorem dX2_copyFrom_28 : decode cX2_copyFrom 28 = .ok (.getfield 23, 3) := by decide +kernel
theorem dX2_copyFrom_31 : decode cX2_copyFrom 31 = .ok (.aload_n 1, 1) := by decide +kernel
theorem dX2_copyFrom_32 : decode cX2_copyFrom 32 = .ok (.getfield 23, 3) := by decide +kernel
theorem dX2_copyFrom_35 : decode cX2_copyFrom 35 = .ok (.invokevirtual 96, 3) := by decide +kernel
theorem dX2_copyFrom_38 : decode cX2_copyFrom 38 = .ok (.aload_n 0, 1) := by decide +kernel
theorem dX2_copyFrom_39 : decode cX2_copyFrom 39 = .ok (.getfield 26, 3) := by decide +kernel
theorem dX2_copyFrom_42 : decode cX2_copyFrom 42 = .ok (.aload_n 1, 1) := by decide +kernel
theorem dX2_copyFrom_43 : decode cX2_copyFrom 43 = .ok (.getfield 26, 3) := by decide +kernel
theorem dX2_copyFrom_46 : decode cX2_copyFrom 46 = .ok (.invokevirtual 96, 3) := by decide +kernel
theorem dX2_copyFrom_49 : decode cX2_copyFrom 49 = .ok (.aload_n 0, 1) := by decide +kernel
theorem dX2_copyFrom_50 : decode cX2_copyFrom 50 = .ok (.getfield 29, 3) := by decide +kernel
theorem dX2_copyFrom_53 : decode cX2_copyFrom 53 = .ok (.aload_n 1, 1) := by decide +kernel
theorem dX2_copyFrom_54 : decode cX2_copyFrom 54 = .ok (.getfield 29, 3) := by decide +kernel
theorem dX2_copyFrom_57 : decode cX2_copyFrom 57 = .ok (.invokevirtual 96, 3) := by decide +kernel
theorem dX2_copyFrom_60 : decode cX2_copyFrom 60 = .ok (.aload_n 0, 1) := by decide +kernel
theorem dX2_copyFrom_61 : decode cX2_copyFrom 61 = .ok (.aload_n 1, 1) := by decide +kernel
theorem dX2_copyFrom_62 : decode cX2_copyFrom 62 = .ok (.getfield 32, 3) := by decide +kernel
theorem dX2_copyFrom_65 : decode cX2_copyFrom 65 = .ok (.putfield 32, 3) := by decide +kernel
theorem dX2_copyFrom_68 : decode cX2_copyFrom 68 = .ok (.return_, 1) := by decide +kernel
theorem dX3_init_0 : decode cX3_init 0 = .ok (.aload_n 0, 1) := by decide +kernel
theorem dX3_init_1 : decode cX3_init 1 = .ok (.invokespecial 1, 3) := by decide +kernel
theorem dX3_init_4 : decode cX3_init 4 = .ok (.aload_n 0, 1) := by decide +kernel
theorem dX3_init_5 : decode cX3_init 5 = .ok (.iload_n 1, 1) := by decide +kernel
theorem dX3_init_6 : decode cX3_init 6 = .ok (.iconst 0, 1) := by decide +kernel
theorem dX3_init_7 : decode cX3_init 7 = .ok (.invokestatic 7, 3) := by decide +kernel
theorem dX3_init_10 : decode cX3_init 10 = .ok (.newarray .int, 2) := by decide +kernel
theorem dX3_init_12 : decode cX3_init 12 = .ok (.putfield 13, 3) := by decide +kernel
theorem dX3_init_15 : decode cX3_init 15 = .ok (.return_, 1) := by decide +kernel
theorem dX3_get_0 : decode cX3_get 0 = .ok (.iload_n 1, 1) := by decide +kernel
theorem dX3_get_1 : decode cX3_get 1 = .ok (.ifCond .lt 21, 3) := by decide +kernel
theorem dX3_get_4 : decode cX3_get 4 = .ok (.iload_n 1, 1) := by decide +kernel
theorem dX3_get_5 : decode cX3_get 5 = .ok (.aload_n 0, 1) := by decide +kernel
theorem dX3_get_6 : decode cX3_get 6 = .ok (.getfield 13, 3) := by decide +kernel
theorem dX3_get_9 : decode cX3_get 9 = .ok (.arraylength, 1) := by decide +kernel
theorem dX3_get_10 : decode cX3_get 10 = .ok (.if_icmp .ge 12, 3) := by decide +kernel
theorem dX3_get_13 : decode cX3_get 13 = .ok (.aload_n 0, 1) := by decide +kernel
theorem dX3_get_14 : decode cX3_get 14 = .ok (.getfield 13, 3) := by decide +kernel
theorem dX3_get_17 : decode cX3_get 17 = .ok (.iload_n 1, 1) := by decide +kernel
theorem dX3_get_18 : decode cX3_get 18 = .ok (.iaload, 1) := by decide +kernel
theorem dX3_get_19 : decode cX3_get 19 = .ok (.goto 4, 3) := by decide +kernel
theorem dX3_get_22 : decode cX3_get 22 = .ok (.iconst 0, 1) := by decide +kernel
theorem dX3_get_23 : decode cX3_get 23 = .ok (.ireturn, 1) := by decide +kernel
theorem dX3_put_0 : decode cX3_put 0 = .ok (.iload_n 1, 1) := by decide +kernel
theorem dX3_put_1 : decode cX3_put 1 = .ok (.ifCond .lt 19, 3) := by decide +kernel
theorem dX3_put_4 : decode cX3_put 4 = .ok (.iload_n 1, 1) := by decide +kernel
theorem dX3_put_5 : decode cX3_put 5 = .ok (.aload_n 0, 1) := by decide +kernel
theorem dX3_put_6 : decode cX3_put 6 = .ok (.getfield 13, 3) := by decide +kernel
theorem dX3_put_9 : decode cX3_put 9 = .ok (.arraylength, 1) := by decide +kernel
theorem dX3_put_10 : decode cX3_put 10 = .ok (.if_icmp .ge 10, 3) := by decide +kernel
theorem dX3_put_13 : decode cX3_put 13 = .ok (.aload_n 0, 1) := by decide +kernel
theorem dX3_put_14 : decode cX3_put 14 = .ok (.getfield 13, 3) := by decide +kernel
theorem dX3_put_17 : decode cX3_put 17 = .ok (.iload_n 1, 1) := by decide +kernel
theorem dX3_put_18 : decode cX3_put 18 = .ok (.iload_n 2, 1) := by decide +kernel
theorem dX3_put_19 : decode cX3_put 19 = .ok (.iastore, 1) := by decide +kernel
theorem dX3_put_20 : decode cX3_put 20 = .ok (.return_, 1) := by decide +kernel
theorem dX3_add_0 : decode cX3_add 0 = .ok (.aload_n 0, 1) := by decide +kernel
theorem dX3_add_1 : decode cX3_add 1 = .ok (.iload_n 1, 1) := by decide +kernel
theorem dX3_add_2 : decode cX3_add 2 = .ok (.aload_n 0, 1) := by decide +kernel
theorem dX3_add_3 : decode cX3_add 3 = .ok (.iload_n 1, 1) := by decide +kernel
theorem dX3_add_4 : decode cX3_add 4 = .ok (.invokevirtual 19, 3) := by decide +kernel
theorem dX3_add_7 : decode cX3_add 7 = .ok (.iload_n 2, 1) := by decide +kernel
theorem dX3_add_8 : decode cX3_add 8 = .ok (.iadd, 1) := by decide +kernel
theorem dX3_add_9 : decode cX3_add 9 = .ok (.invokevirtual 23, 3) := by decide +kernel
theorem dX3_add_12 : decode cX3_add 12 = .ok (.return_, 1) := by decide +kernel
theorem dX3_insert_0 : decode cX3_insert 0 = .ok (.iload_n 3, 1) := by decide +kernel
theorem dX3_insert_1 : decode cX3_insert 1 = .ok (.istore 4, 2) := by decide +kernel
theorem dX3_insert_3 : decode cX3_insert 3 = .ok (.iload 4, 2) := by decide +kernel
theorem dX3_insert_5 : decode cX3_insert 5 = .ok (.iload_n 1, 1) := by decide +kernel
theorem dX3_insert_6 : decode cX3_insert 6 = .ok (.if_icmp .le 23, 3) := by decide +kernel
theorem dX3_insert_9 : decode cX3_insert 9 = .ok (.aload_n 0, 1) := by decide +kernel
theorem dX3_insert_10 : decode cX3_insert 10 = .ok (.iload 4, 2) := by decide +kernel
theorem dX3_insert_12 : decode cX3_insert 12 = .ok (.aload_n 0, 1) := by decide +kernel
theorem dX3_insert_13 : decode cX3_insert 13 = .ok (.iload 4, 2) := by decide +kernel
theorem dX3_insert_15 : decode cX3_insert 15 = .ok (.iconst 1, 1) := by decide +kernel
theorem dX3_insert_16 : decode cX3_insert 16 = .ok (.isub, 1) := by decide +kernel
theorem dX3_insert_17 : decode cX3_insert 17 = .ok (.invokevirtual 19, 3) := by decide +kernel
theorem dX3_insert_20 : decode cX3_insert 20 = .ok (.invokevirtual 23, 3) := by decide +kernel
theorem dX3_insert_23 : decode cX3_insert 23 = .ok (.iinc 4 (-1), 3) := by decide +kernel
theorem dX3_insert_26 : decode cX3_insert 26 = .ok (.goto (-23), 3) := by decide +kernel
theorem dX3_insert_29 : decode cX3_insert 29 = .ok (.aload_n 0, 1) := by decide +kernel
theorem dX3_insert_30 : decode cX3_insert 30 = .ok (.iload_n 1, 1) := by decide +kernel
theorem dX3_insert_31 : decode cX3_insert 31 = .ok (.iload_n 2, 1) := by decide +kernel
theorem dX3_insert_32 : decode cX3_insert 32 = .ok (.invokevirtual 23, 3) := by decide +kernel
theorem dX3_insert_35 : decode cX3_insert 35 = .ok (.return_, 1) := by decide +kernel
theorem dX3_delete_0 : decode cX3_delete 0 = .ok (.iload_n 1, 1) := by decide +kernel
theorem dX3_delete_1 : decode cX3_delete 1 = .ok (.istore_n 3, 1) := by decide +kernel
theorem dX3_delete_2 : decode cX3_delete 2 = .ok (.iload_n 3, 1) := by decide +kernel
theorem dX3_delete_3 : decode cX3_delete 3 = .ok (.iload_n 2, 1) := by decide +kernel
theorem dX3_delete_4 : decode cX3_delete 4 = .ok (.iconst 1, 1) := by decide +kernel
theorem dX3_delete_5 : decode cX3_delete 5 = .ok (.isub, 1) := by decide +kernel
theorem dX3_delete_6 : decode cX3_delete 6 = .ok (.if_icmp .ge 21, 3) := by decide +kernel
theorem dX3_delete_9 : decode cX3_delete 9 = .ok (.aload_n 0, 1) := by decide +kernel
theorem dX3_delete_10 : decode cX3_delete 10 = .ok (.iload_n 3, 1) := by decide +kernel
theorem dX3_delete_11 : decode cX3_delete 11 = .ok (.aload_n 0, 1) := by decide +kernel
theorem dX3_delete_12 : decode cX3_delete 12 = .ok (.iload_n 3, 1) := by decide +kernel
theorem dX3_delete_13 : decode cX3_delete 13 = .ok (.iconst 1, 1) := by decide +kernel
theorem dX3_delete_14 : decode cX3_delete 14 = .ok (.iadd, 1) := by decide +kernel
theorem dX3_delete_15 : decode cX3_delete 15 = .ok (.invokevirtual 19, 3) := by decide +kernel
theorem dX3_delete_18 : decode cX3_delete 18 = .ok (.invokevirtual 23, 3) := by decide +kernel
theorem dX3_delete_21 : decode cX3_delete 21 = .ok (.iinc 3 1, 3) := by decide +kernel
theorem dX3_delete_24 : decode cX3_delete 24 = .ok (.goto (-22), 3) := by decide +kernel
theorem dX3_delete_27 : decode cX3_delete 27 = .ok (.return_, 1) := by decide +kernel
theorem dX3_copyFrom_0 : decode cX3_copyFrom 0 = .ok (.aload_n 1, 1) := by decide +kernel
theorem dX3_copyFrom_1 : decode cX3_copyFrom 1 = .ok (.ifnull 29, 3) := by decide +kernel
theorem dX3_copyFrom_4 : decode cX3_copyFrom 4 = .ok (.aload_n 1, 1) := by decide +kernel
theorem dX3_copyFrom_5 : decode cX3_copyFrom 5 = .ok (.getfield 13, 3) := by decide +kernel
theorem dX3_copyFrom_8 : decode cX3_copyFrom 8 = .ok (.iconst 0, 1) := by decide +kernel
theorem dX3_copyFrom_9 : decode cX3_copyFrom 9 = .ok (.aload_n 0, 1) := by decide +kernel
theorem dX3_copyFrom_10 : decode cX3_copyFrom 10 = .ok (.getfield 13, 3) := by decide +kernel
theorem dX3_copyFrom_13 : decode cX3_copyFrom 13 = .ok (.iconst 0, 1) := by decide +kernel
theorem dX3_copyFrom_14 : decode cX3_copyFrom 14 = .ok (.aload_n 1, 1) := by decide +kernel
theorem dX3_copyFrom_15 : decode cX3_copyFrom 15 = .ok (.getfield 13, 3) := by decide +kernel
theorem dX3_copyFrom_18 : decode cX3_copyFrom 18 = .ok (.arraylength, 1) := by decide +kernel
theorem dX3_copyFrom_19 : decode cX3_copyFrom 19 = .ok (.aload_n 0, 1) := by decide +kernel
theorem dX3_copyFrom_20 : decode cX3_copyFrom 20 = .ok (.getfield 13, 3) := by decide +kernel
theorem dX3_copyFrom_23 : decode cX3_copyFrom 23 = .ok (.arraylength, 1) := by decide +kernel
theorem dX3_copyFrom_24 : decode cX3_copyFrom 24 = .ok (.invokestatic 27, 3) := by decide +kernel
theorem dX3_copyFrom_27 : decode cX3_copyFrom 27 = .ok (.invokestatic 30, 3) := by decide +kernel
theorem dX3_copyFrom_30 : decode cX3_copyFrom 30 = .ok (.return_, 1) := by decide +kernel
theorem dX4_init_0 : decode cX4_init 0 = .ok (.aload_n 0, 1) := by decide +kernel
theorem dX4_init_1 : decode cX4_init 1 = .ok (.invokespecial 3, 3) := by decide +kernel
theorem dX4_init_4 : decode cX4_init 4 = .ok (.aload_n 0, 1) := by decide +kernel
theorem dX4_init_5 : decode cX4_init 5 = .ok (.new 9, 3) := by decide +kernel
theorem dX4_init_8 : decode cX4_init 8 = .ok (.dup, 1) := by decide +kernel
theorem dX4_init_9 : decode cX4_init 9 = .ok (.invokespecial 11, 3) := by decide +kernel
theorem dX4_init_12 : decode cX4_init 12 = .ok (.putfield 12, 3) := by decide +kernel
theorem dX4_init_15 : decode cX4_init 15 = .ok (.aload_n 0, 1) := by decide +kernel
theorem dX4_init_16 : decode cX4_init 16 = .ok (.new 18, 3) := by decide +kernel
theorem dX4_init_19 : decode cX4_init 19 = .ok (.dup, 1) := by decide +kernel
theorem dX4_init_20 : decode cX4_init 20 = .ok (.invokespecial 20, 3) := by decide +kernel
theorem dX4_init_23 : decode cX4_init 23 = .ok (.putfield 21, 3) := by decide +kernel
theorem dX4_init_26 : decode cX4_init 26 = .ok (.aload_n 0, 1) := by decide +kernel
theorem dX4_init_27 : decode cX4_init 27 = .ok (.new 25, 3) := by decide +kernel
theorem dX4_init_30 : decode cX4_init 30 = .ok (.dup, 1) := by decide +kernel
theorem dX4_init_31 : decode cX4_init 31 = .ok (.iconst 4, 1) := by decide +kernel
theorem dX4_init_32 : decode cX4_init 32 = .ok (.invokespecial 27, 3) := by decide +kernel
theorem dX4_init_35 : decode cX4_init 35 = .ok (.putfield 30, 3) := by decide +kernel
theorem dX4_init_38 : decode cX4_init 38 = .ok (.aload_n 0, 1) := by decide +kernel
theorem dX4_init_39 : decode cX4_init 39 = .ok (.iconst 0, 1) := by decide +kernel
theorem dX4_init_40 : decode cX4_init 40 = .ok (.putfield 34, 3) := by decide +kernel
theorem dX4_init_43 : decode cX4_init 43 = .ok (.aload_n 0, 1) := by decide +kernel
theorem dX4_init_44 : decode cX4_init 44 = .ok (.getfield 30, 3) := by decide +kernel
theorem dX4_init_47 : decode cX4_init 47 = .ok (.iconst 0, 1) := by decide +kernel
theorem dX4_init_48 : decode cX4_init 48 = .ok (.bipush 60, 2) := by decide +kernel
theorem dX4_init_50 : decode cX4_init 50 = .ok (.invokevirtual 38, 3) := by decide +kernel
theorem dX4_init_53 : decode cX4_init 53 = .ok (.aload_n 0, 1) := by decide +kernel
theorem dX4_init_54 : decode cX4_init 54 = .ok (.getfield 30, 3) := by decide +kernel
theorem dX4_init_57 : decode cX4_init 57 = .ok (.iconst 1, 1) := by decide +kernel
theorem dX4_init_58 : decode cX4_init 58 = .ok (.bipush 10, 2) := by decide +kernel
theorem dX4_init_60 : decode cX4_init 60 = .ok (.invokevirtual 38, 3) := by decide +kernel
theorem dX4_init_63 : decode cX4_init 63 = .ok (.aload_n 0, 1) := by decide +kernel
theorem dX4_init_64 : decode cX4_init 64 = .ok (.getfield 30, 3) := by decide +kernel
theorem dX4_init_67 : decode cX4_init 67 = .ok (.iconst 2, 1) := by decide +kernel
theorem dX4_init_68 : decode cX4_init 68 = .ok (.bipush 10, 2) := by decide +kernel
theorem dX4_init_70 : decode cX4_init 70 = .ok (.invokevirtual 38, 3) := by decide +kernel
theorem dX4_init_73 : decode cX4_init 73 = .ok (.aload_n 0, 1) := by decide +kernel
theorem dX4_init_74 : decode cX4_init 74 = .ok (.getfield 30, 3) := by decide +kernel
theorem dX4_init_77 : decode cX4_init 77 = .ok (.iconst 3, 1) := by decide +kernel
theorem dX4_init_78 : decode cX4_init 78 = .ok (.iconst 0, 1) := by decide +kernel
theorem dX4_init_79 : decode cX4_init 79 = .ok (.invokevirtual 38, 3) := by decide +kernel
theorem dX4_init_82 : decode cX4_init 82 = .ok (.return_, 1) := by decide +kernel
theorem dX4_time_0 : decode cX4_time 0 = .ok (.aload_n 0, 1) := by decide +kernel
theorem dX4_time_1 : decode cX4_time 1 = .ok (.getfield 34, 3) := by decide +kernel
theorem dX4_time_4 : decode cX4_time 4 = .ok (.ireturn, 1) := by decide +kernel
theorem dX4_setting_0 : decode cX4_setting 0 = .ok (.aload_n 0, 1) := by decide +kernel
theorem dX4_setting_1 : decode cX4_setting 1 = .ok (.getfield 30, 3) := by decide +kernel
theorem dX4_setting_4 : decode cX4_setting 4 = .ok (.iload_n 1, 1) := by decide +kernel
theorem dX4_setting_5 : decode cX4_setting 5 = .ok (.invokevirtual 42, 3) := by decide +kernel
theorem dX4_setting_8 : decode cX4_setting 8 = .ok (.ireturn, 1) := by decide +kernel
theorem dX4_changeSetting_0 : decode cX4_changeSetting 0 = .ok (.aload_n 0, 1) := by decide +kernel
theorem dX4_changeSetting_1 : decode cX4_changeSetting 1 = .ok (.getfield 30, 3) := by decide +kernel
theorem dX4_changeSetting_4 : decode cX4_changeSetting 4 = .ok (.iload_n 1, 1) := by decide +kernel
theorem dX4_changeSetting_5 : decode cX4_changeSetting 5 = .ok (.invokevirtual 42, 3) := by decide +kernel
theorem dX4_changeSetting_8 : decode cX4_changeSetting 8 = .ok (.istore_n 3, 1) := by decide +kernel
theorem dX4_changeSetting_9 : decode cX4_changeSetting 9 = .ok (.aload_n 0, 1) := by decide +kernel
theorem dX4_changeSetting_10 : decode cX4_changeSetting 10 = .ok (.getfield 30, 3) := by decide +kernel
theorem dX4_changeSetting_13 : decode cX4_changeSetting 13 = .ok (.iload_n 1, 1) := by decide +kernel
theorem dX4_changeSetting_14 : decode cX4_changeSetting 14 = .ok (.iload_n 2, 1) := by decide +kernel
theorem dX4_changeSetting_15 : decode cX4_changeSetting 15 = .ok (.invokevirtual 38, 3) := by decide +kernel
theorem dX4_changeSetting_18 : decode cX4_changeSetting 18 = .ok (.iload_n 3, 1) := by decide +kernel
theorem dX4_changeSetting_19 : decode cX4_changeSetting 19 = .ok (.ireturn, 1) := by decide +kernel
theorem dX4_startAgain_0 : decode cX4_startAgain 0 = .ok (.aload_n 0, 1) := by decide +kernel
theorem dX4_startAgain_1 : decode cX4_startAgain 1 = .ok (.iconst 0, 1) := by decide +kernel
theorem dX4_startAgain_2 : decode cX4_startAgain 2 = .ok (.putfield 34, 3) := by decide +kernel
theorem dX4_startAgain_5 : decode cX4_startAgain 5 = .ok (.aload_n 0, 1) := by decide +kernel
theorem dX4_startAgain_6 : decode cX4_startAgain 6 = .ok (.getfield 21, 3) := by decide +kernel
theorem dX4_startAgain_9 : decode cX4_startAgain 9 = .ok (.invokevirtual 46, 3) := by decide +kernel
theorem dX4_startAgain_12 : decode cX4_startAgain 12 = .ok (.return_, 1) := by decide +kernel
theorem dX4_advance_0 : decode cX4_advance 0 = .ok (.iconst 0, 1) := by decide +kernel
theorem dX4_advance_1 : decode cX4_advance 1 = .ok (.istore_n 2, 1) := by decide +kernel
theorem dX4_advance_2 : decode cX4_advance 2 = .ok (.iconst 0, 1) := by decide +kernel
theorem dX4_advance_3 : decode cX4_advance 3 = .ok (.istore_n 3, 1) := by decide +kernel
theorem dX4_advance_4 : decode cX4_advance 4 = .ok (.iload_n 3, 1) := by decide +kernel
theorem dX4_advance_5 : decode cX4_advance 5 = .ok (.aload_n 0, 1) := by decide +kernel
theorem dX4_advance_6 : decode cX4_advance 6 = .ok (.getfield 21, 3) := by decide +kernel
theorem dX4_advance_9 : decode cX4_advance 9 = .ok (.invokevirtual 49, 3) := by decide +kernel
theorem dX4_advance_12 : decode cX4_advance 12 = .ok (.if_icmp .ge 48, 3) := by decide +kernel
theorem dX4_advance_15 : decode cX4_advance 15 = .ok (.aload_n 0, 1) := by decide +kernel
theorem dX4_advance_16 : decode cX4_advance 16 = .ok (.getfield 21, 3) := by decide +kernel
theorem dX4_advance_19 : decode cX4_advance 19 = .ok (.iload_n 3, 1) := by decide +kernel
theorem dX4_advance_20 : decode cX4_advance 20 = .ok (.invokevirtual 53, 3) := by decide +kernel
theorem dX4_advance_23 : decode cX4_advance 23 = .ok (.istore 4, 2) := by decide +kernel
theorem dX4_advance_25 : decode cX4_advance 25 = .ok (.iload 4, 2) := by decide +kernel
theorem dX4_advance_27 : decode cX4_advance 27 = .ok (.aload_n 0, 1) := by decide +kernel
theorem dX4_advance_28 : decode cX4_advance 28 = .ok (.getfield 34, 3) := by decide +kernel
theorem dX4_advance_31 : decode cX4_advance 31 = .ok (.if_icmp .le 23, 3) := by decide +kernel
theorem dX4_advance_34 : decode cX4_advance 34 = .ok (.iload 4, 2) := by decide +kernel
theorem dX4_advance_36 : decode cX4_advance 36 = .ok (.iload_n 1, 1) := by decide +kernel
theorem dX4_advance_37 : decode cX4_advance 37 = .ok (.if_icmp .gt 17, 3) := by decide +kernel
theorem dX4_advance_40 : decode cX4_advance 40 = .ok (.aload_n 0, 1) := by decide +kernel
theorem dX4_advance_41 : decode cX4_advance 41 = .ok (.iload 4, 2) := by decide +kernel
theorem dX4_advance_43 : decode cX4_advance 43 = .ok (.invokevirtual 56, 3) := by decide +kernel
theorem dX4_advance_46 : decode cX4_advance 46 = .ok (.aload_n 0, 1) := by decide +kernel
theorem dX4_advance_47 : decode cX4_advance 47 = .ok (.iload_n 3, 1) := by decide +kernel
theorem dX4_advance_48 : decode cX4_advance 48 = .ok (.invokevirtual 59, 3) := by decide +kernel
theorem dX4_advance_51 : decode cX4_advance 51 = .ok (.iinc 2 1, 3) := by decide +kernel
theorem dX4_advance_54 : decode cX4_advance 54 = .ok (.iinc 3 1, 3) := by decide +kernel
theorem dX4_advance_57 : decode cX4_advance 57 = .ok (.goto (-53), 3) := by decide +kernel
theorem dX4_advance_60 : decode cX4_advance 60 = .ok (.aload_n 0, 1) := by decide +kernel
theorem dX4_advance_61 : decode cX4_advance 61 = .ok (.iload_n 1, 1) := by decide +kernel
theorem dX4_advance_62 : decode cX4_advance 62 = .ok (.invokevirtual 56, 3) := by decide +kernel
theorem dX4_advance_65 : decode cX4_advance 65 = .ok (.iload_n 2, 1) := by decide +kernel
theorem dX4_advance_66 : decode cX4_advance 66 = .ok (.ireturn, 1) := by decide +kernel
theorem dX4_dryUntil_0 : decode cX4_dryUntil 0 = .ok (.aload_n 0, 1) := by decide +kernel
theorem dX4_dryUntil_1 : decode cX4_dryUntil 1 = .ok (.getfield 30, 3) := by decide +kernel
theorem dX4_dryUntil_4 : decode cX4_dryUntil 4 = .ok (.iconst 0, 1) := by decide +kernel
theorem dX4_dryUntil_5 : decode cX4_dryUntil 5 = .ok (.invokevirtual 42, 3) := by decide +kernel
theorem dX4_dryUntil_8 : decode cX4_dryUntil 8 = .ok (.istore_n 2, 1) := by decide +kernel
theorem dX4_dryUntil_9 : decode cX4_dryUntil 9 = .ok (.iload_n 2, 1) := by decide +kernel
theorem dX4_dryUntil_10 : decode cX4_dryUntil 10 = .ok (.ifCond .le 20, 3) := by decide +kernel
theorem dX4_dryUntil_13 : decode cX4_dryUntil 13 = .ok (.aload_n 0, 1) := by decide +kernel
theorem dX4_dryUntil_14 : decode cX4_dryUntil 14 = .ok (.getfield 12, 3) := by decide +kernel
theorem dX4_dryUntil_17 : decode cX4_dryUntil 17 = .ok (.iload_n 1, 1) := by decide +kernel
theorem dX4_dryUntil_18 : decode cX4_dryUntil 18 = .ok (.iload_n 2, 1) := by decide +kernel
theorem dX4_dryUntil_19 : decode cX4_dryUntil 19 = .ok (.idiv, 1) := by decide +kernel
theorem dX4_dryUntil_20 : decode cX4_dryUntil 20 = .ok (.aload_n 0, 1) := by decide +kernel
theorem dX4_dryUntil_21 : decode cX4_dryUntil 21 = .ok (.getfield 34, 3) := by decide +kernel
theorem dX4_dryUntil_24 : decode cX4_dryUntil 24 = .ok (.iload_n 2, 1) := by decide +kernel
theorem dX4_dryUntil_25 : decode cX4_dryUntil 25 = .ok (.idiv, 1) := by decide +kernel
theorem dX4_dryUntil_26 : decode cX4_dryUntil 26 = .ok (.isub, 1) := by decide +kernel
theorem dX4_dryUntil_27 : decode cX4_dryUntil 27 = .ok (.invokevirtual 62, 3) := by decide +kernel
theorem dX4_dryUntil_30 : decode cX4_dryUntil 30 = .ok (.aload_n 0, 1) := by decide +kernel
theorem dX4_dryUntil_31 : decode cX4_dryUntil 31 = .ok (.iload_n 1, 1) := by decide +kernel
theorem dX4_dryUntil_32 : decode cX4_dryUntil 32 = .ok (.putfield 34, 3) := by decide +kernel
theorem dX4_dryUntil_35 : decode cX4_dryUntil 35 = .ok (.return_, 1) := by decide +kernel
theorem dX4_playNote_0 : decode cX4_playNote 0 = .ok (.aload_n 0, 1) := by decide +kernel
theorem dX4_playNote_1 : decode cX4_playNote 1 = .ok (.getfield 30, 3) := by decide +kernel
theorem dX4_playNote_4 : decode cX4_playNote 4 = .ok (.iconst 3, 1) := by decide +kernel
theorem dX4_playNote_5 : decode cX4_playNote 5 = .ok (.invokevirtual 42, 3) := by decide +kernel
theorem dX4_playNote_8 : decode cX4_playNote 8 = .ok (.iconst 1, 1) := by decide +kernel
theorem dX4_playNote_9 : decode cX4_playNote 9 = .ok (.if_icmp .ne 29, 3) := by decide +kernel
theorem dX4_playNote_12 : decode cX4_playNote 12 = .ok (.aload_n 0, 1) := by decide +kernel
theorem dX4_playNote_13 : decode cX4_playNote 13 = .ok (.getfield 21, 3) := by decide +kernel
theorem dX4_playNote_16 : decode cX4_playNote 16 = .ok (.iload_n 1, 1) := by decide +kernel
theorem dX4_playNote_17 : decode cX4_playNote 17 = .ok (.aload_n 0, 1) := by decide +kernel
theorem dX4_playNote_18 : decode cX4_playNote 18 = .ok (.getfield 30, 3) := by decide +kernel
theorem dX4_playNote_21 : decode cX4_playNote 21 = .ok (.iconst 1, 1) := by decide +kernel
theorem dX4_playNote_22 : decode cX4_playNote 22 = .ok (.invokevirtual 42, 3) := by decide +kernel
theorem dX4_playNote_25 : decode cX4_playNote 25 = .ok (.invokevirtual 65, 3) := by decide +kernel
theorem dX4_playNote_28 : decode cX4_playNote 28 = .ok (.ifCond .eq 10, 3) := by decide +kernel
theorem dX4_playNote_31 : decode cX4_playNote 31 = .ok (.aload_n 0, 1) := by decide +kernel
theorem dX4_playNote_32 : decode cX4_playNote 32 = .ok (.getfield 12, 3) := by decide +kernel
theorem dX4_playNote_35 : decode cX4_playNote 35 = .ok (.invokevirtual 69, 3) := by decide +kernel
theorem dX4_playNote_38 : decode cX4_playNote 38 = .ok (.aload_n 0, 1) := by decide +kernel
theorem dX4_playNote_39 : decode cX4_playNote 39 = .ok (.getfield 12, 3) := by decide +kernel
theorem dX4_playNote_42 : decode cX4_playNote 42 = .ok (.aload_n 0, 1) := by decide +kernel
theorem dX4_playNote_43 : decode cX4_playNote 43 = .ok (.getfield 21, 3) := by decide +kernel
theorem dX4_playNote_46 : decode cX4_playNote 46 = .ok (.iload_n 1, 1) := by decide +kernel
theorem dX4_playNote_47 : decode cX4_playNote 47 = .ok (.invokevirtual 72, 3) := by decide +kernel
theorem dX4_playNote_50 : decode cX4_playNote 50 = .ok (.invokevirtual 75, 3) := by decide +kernel
theorem dX4_playNote_53 : decode cX4_playNote 53 = .ok (.istore_n 2, 1) := by decide +kernel
theorem dX4_playNote_54 : decode cX4_playNote 54 = .ok (.iload_n 2, 1) := by decide +kernel
theorem dX4_playNote_55 : decode cX4_playNote 55 = .ok (.iconst (-1), 1) := by decide +kernel
theorem dX4_playNote_56 : decode cX4_playNote 56 = .ok (.if_icmp .ne 14, 3) := by decide +kernel
theorem dX4_playNote_59 : decode cX4_playNote 59 = .ok (.aload_n 0, 1) := by decide +kernel
theorem dX4_playNote_60 : decode cX4_playNote 60 = .ok (.getfield 21, 3) := by decide +kernel
theorem dX4_playNote_63 : decode cX4_playNote 63 = .ok (.iload_n 1, 1) := by decide +kernel
theorem dX4_playNote_64 : decode cX4_playNote 64 = .ok (.invokevirtual 78, 3) := by decide +kernel
theorem dX4_playNote_67 : decode cX4_playNote 67 = .ok (.goto 51, 3) := by decide +kernel
theorem dX4_playNote_70 : decode cX4_playNote 70 = .ok (.aload_n 0, 1) := by decide +kernel
theorem dX4_playNote_71 : decode cX4_playNote 71 = .ok (.getfield 12, 3) := by decide +kernel
theorem dX4_playNote_74 : decode cX4_playNote 74 = .ok (.iload_n 2, 1) := by decide +kernel
theorem dX4_playNote_75 : decode cX4_playNote 75 = .ok (.invokevirtual 81, 3) := by decide +kernel
theorem dX4_playNote_78 : decode cX4_playNote 78 = .ok (.aload_n 0, 1) := by decide +kernel
theorem dX4_playNote_79 : decode cX4_playNote 79 = .ok (.getfield 21, 3) := by decide +kernel
theorem dX4_playNote_82 : decode cX4_playNote 82 = .ok (.iload_n 1, 1) := by decide +kernel
theorem dX4_playNote_83 : decode cX4_playNote 83 = .ok (.invokevirtual 72, 3) := by decide +kernel
theorem dX4_playNote_86 : decode cX4_playNote 86 = .ok (.isub, 1) := by decide +kernel
theorem dX4_playNote_87 : decode cX4_playNote 87 = .ok (.istore_n 3, 1) := by decide +kernel
theorem dX4_playNote_88 : decode cX4_playNote 88 = .ok (.aload_n 0, 1) := by decide +kernel
theorem dX4_playNote_89 : decode cX4_playNote 89 = .ok (.getfield 21, 3) := by decide +kernel
theorem dX4_playNote_92 : decode cX4_playNote 92 = .ok (.iload_n 1, 1) := by decide +kernel
theorem dX4_playNote_93 : decode cX4_playNote 93 = .ok (.iload_n 2, 1) := by decide +kernel
theorem dX4_playNote_94 : decode cX4_playNote 94 = .ok (.iload_n 3, 1) := by decide +kernel
theorem dX4_playNote_95 : decode cX4_playNote 95 = .ok (.iload_n 3, 1) := by decide +kernel
theorem dX4_playNote_96 : decode cX4_playNote 96 = .ok (.invokestatic 82, 3) := by decide +kernel
theorem dX4_playNote_99 : decode cX4_playNote 99 = .ok (.aload_n 0, 1) := by decide +kernel
theorem dX4_playNote_100 : decode cX4_playNote 100 = .ok (.getfield 30, 3) := by decide +kernel
theorem dX4_playNote_103 : decode cX4_playNote 103 = .ok (.iconst 2, 1) := by decide +kernel
theorem dX4_playNote_104 : decode cX4_playNote 104 = .ok (.invokevirtual 42, 3) := by decide +kernel
theorem dX4_playNote_107 : decode cX4_playNote 107 = .ok (.if_icmp .gt 7, 3) := by decide +kernel
theorem dX4_playNote_110 : decode cX4_playNote 110 = .ok (.iconst 1, 1) := by decide +kernel
theorem dX4_playNote_111 : decode cX4_playNote 111 = .ok (.goto 4, 3) := by decide +kernel
theorem dX4_playNote_114 : decode cX4_playNote 114 = .ok (.iconst 0, 1) := by decide +kernel
theorem dX4_playNote_115 : decode cX4_playNote 115 = .ok (.invokevirtual 87, 3) := by decide +kernel
theorem dX4_playNote_118 : decode cX4_playNote 118 = .ok (.return_, 1) := by decide +kernel
theorem dX4_copyFrom_0 : decode cX4_copyFrom 0 = .ok (.aload_n 1, 1) := by decide +kernel
theorem dX4_copyFrom_1 : decode cX4_copyFrom 1 = .ok (.ifnonnull 4, 3) := by decide +kernel
theorem dX4_copyFrom_4 : decode cX4_copyFrom 4 = .ok (.return_, 1) := by decide +kernel
theorem dX4_copyFrom_5 : decode cX4_copyFrom 5 = .ok (.aload_n 0, 1) := by decide +kernel
theorem dX4_copyFrom_6 : decode cX4_copyFrom 6 = .ok (.getfield 12, 3) := by decide +kernel
theorem dX4_copyFrom_9 : decode cX4_copyFrom 9 = .ok (.aload_n 1, 1) := by decide +kernel
theorem dX4_copyFrom_10 : decode cX4_copyFrom 10 = .ok (.getfield 12, 3) := by decide +kernel
theorem dX4_copyFrom_13 : decode cX4_copyFrom 13 = .ok (.invokevirtual 91, 3) := by decide +kernel
theorem dX4_copyFrom_16 : decode cX4_copyFrom 16 = .ok (.aload_n 0, 1) := by decide +kernel
theorem dX4_copyFrom_17 : decode cX4_copyFrom 17 = .ok (.getfield 21, 3) := by decide +kernel
theorem dX4_copyFrom_20 : decode cX4_copyFrom 20 = .ok (.aload_n 1, 1) := by decide +kernel
theorem dX4_copyFrom_21 : decode cX4_copyFrom 21 = .ok (.getfield 21, 3) := by decide +kernel
theorem dX4_copyFrom_24 : decode cX4_copyFrom 24 = .ok (.invokevirtual 95, 3) := by decide +kernel
theorem dX4_copyFrom_27 : decode cX4_copyFrom 27 = .ok (.aload_n 0, 1) := by decide +kernel
theorem dX4_copyFrom_28 : decode cX4_copyFrom 28 = .ok (.getfield 30, 3) := by decide +kernel
theorem dX4_copyFrom_31 : decode cX4_copyFrom 31 = .ok (.aload_n 1, 1) := by decide +kernel
theorem dX4_copyFrom_32 : decode cX4_copyFrom 32 = .ok (.getfield 30, 3) := by decide +kernel
theorem dX4_copyFrom_35 : decode cX4_copyFrom 35 = .ok (.invokevirtual 98, 3) := by decide +kernel
theorem dX4_copyFrom_38 : decode cX4_copyFrom 38 = .ok (.aload_n 0, 1) := by decide +kernel
theorem dX4_copyFrom_39 : decode cX4_copyFrom 39 = .ok (.aload_n 1, 1) := by decide +kernel
theorem dX4_copyFrom_40 : decode cX4_copyFrom 40 = .ok (.getfield 34, 3) := by decide +kernel
theorem dX4_copyFrom_43 : decode cX4_copyFrom 43 = .ok (.putfield 34, 3) := by decide +kernel
theorem dX4_copyFrom_46 : decode cX4_copyFrom 46 = .ok (.return_, 1) := by decide +kernel
theorem dX5_init_0 : decode cX5_init 0 = .ok (.aload_n 0, 1) := by decide +kernel
theorem dX5_init_1 : decode cX5_init 1 = .ok (.invokespecial 3, 3) := by decide +kernel
theorem dX5_init_4 : decode cX5_init 4 = .ok (.aload_n 0, 1) := by decide +kernel
theorem dX5_init_5 : decode cX5_init 5 = .ok (.new 9, 3) := by decide +kernel
theorem dX5_init_8 : decode cX5_init 8 = .ok (.dup, 1) := by decide +kernel
theorem dX5_init_9 : decode cX5_init 9 = .ok (.bipush 100, 2) := by decide +kernel
theorem dX5_init_11 : decode cX5_init 11 = .ok (.invokespecial 11, 3) := by decide +kernel
theorem dX5_init_14 : decode cX5_init 14 = .ok (.putfield 14, 3) := by decide +kernel
theorem dX5_init_17 : decode cX5_init 17 = .ok (.aload_n 0, 1) := by decide +kernel
theorem dX5_init_18 : decode cX5_init 18 = .ok (.iconst 0, 1) := by decide +kernel
theorem dX5_init_19 : decode cX5_init 19 = .ok (.putfield 20, 3) := by decide +kernel
theorem dX5_init_22 : decode cX5_init 22 = .ok (.aload_n 0, 1) := by decide +kernel
theorem dX5_init_23 : decode cX5_init 23 = .ok (.iconst 0, 1) := by decide +kernel
theorem dX5_init_24 : decode cX5_init 24 = .ok (.putfield 24, 3) := by decide +kernel
theorem dX5_init_27 : decode cX5_init 27 = .ok (.aload_n 0, 1) := by decide +kernel
theorem dX5_init_28 : decode cX5_init 28 = .ok (.iconst 0, 1) := by decide +kernel
theorem dX5_init_29 : decode cX5_init 29 = .ok (.putfield 27, 3) := by decide +kernel
theorem dX5_init_32 : decode cX5_init 32 = .ok (.aload_n 0, 1) := by decide +kernel
theorem dX5_init_33 : decode cX5_init 33 = .ok (.iconst 0, 1) := by decide +kernel
theorem dX5_init_34 : decode cX5_init 34 = .ok (.putfield 30, 3) := by decide +kernel
theorem dX5_init_37 : decode cX5_init 37 = .ok (.aload_n 0, 1) := by decide +kernel
theorem dX5_init_38 : decode cX5_init 38 = .ok (.iconst 0, 1) := by decide +kernel
theorem dX5_init_39 : decode cX5_init 39 = .ok (.putfield 33, 3) := by decide +kernel
theorem dX5_init_42 : decode cX5_init 42 = .ok (.aload_n 0, 1) := by decide +kernel
theorem dX5_init_43 : decode cX5_init 43 = .ok (.iconst 0, 1) := by decide +kernel
theorem dX5_init_44 : decode cX5_init 44 = .ok (.putfield 36, 3) := by decide +kernel
theorem dX5_init_47 : decode cX5_init 47 = .ok (.aload_n 0, 1) := by decide +kernel
theorem dX5_init_48 : decode cX5_init 48 = .ok (.iconst 0, 1) := by decide +kernel
theorem dX5_init_49 : decode cX5_init 49 = .ok (.putfield 39, 3) := by decide +kernel
theorem dX5_init_52 : decode cX5_init 52 = .ok (.return_, 1) := by decide +kernel
theorem dX5_length_0 : decode cX5_length 0 = .ok (.aload_n 0, 1) := by decide +kernel
theorem dX5_length_1 : decode cX5_length 1 = .ok (.getfield 20, 3) := by decide +kernel
theorem dX5_length_4 : decode cX5_length 4 = .ok (.ireturn, 1) := by decide +kernel
theorem dX5_notesRead_0 : decode cX5_notesRead 0 = .ok (.aload_n 0, 1) := by decide +kernel
theorem dX5_notesRead_1 : decode cX5_notesRead 1 = .ok (.getfield 33, 3) := by decide +kernel
theorem dX5_notesRead_4 : decode cX5_notesRead 4 = .ok (.ireturn, 1) := by decide +kernel
theorem dX5_faultPlace_0 : decode cX5_faultPlace 0 = .ok (.aload_n 0, 1) := by decide +kernel
theorem dX5_faultPlace_1 : decode cX5_faultPlace 1 = .ok (.getfield 36, 3) := by decide +kernel
theorem dX5_faultPlace_4 : decode cX5_faultPlace 4 = .ok (.ireturn, 1) := by decide +kernel
theorem dX5_faultReason_0 : decode cX5_faultReason 0 = .ok (.aload_n 0, 1) := by decide +kernel
theorem dX5_faultReason_1 : decode cX5_faultReason 1 = .ok (.getfield 39, 3) := by decide +kernel
theorem dX5_faultReason_4 : decode cX5_faultReason 4 = .ok (.ireturn, 1) := by decide +kernel
theorem dX5_append_0 : decode cX5_append 0 = .ok (.aload_n 0, 1) := by decide +kernel
theorem dX5_append_1 : decode cX5_append 1 = .ok (.getfield 14, 3) := by decide +kernel
theorem dX5_append_4 : decode cX5_append 4 = .ok (.aload_n 0, 1) := by decide +kernel
theorem dX5_append_5 : decode cX5_append 5 = .ok (.getfield 20, 3) := by decide +kernel
theorem dX5_append_8 : decode cX5_append 8 = .ok (.iload_n 1, 1) := by decide +kernel
theorem dX5_append_9 : decode cX5_append 9 = .ok (.invokevirtual 42, 3) := by decide +kernel
theorem dX5_append_12 : decode cX5_append 12 = .ok (.aload_n 0, 1) := by decide +kernel
theorem dX5_append_13 : decode cX5_append 13 = .ok (.dup, 1) := by decide +kernel
theorem dX5_append_14 : decode cX5_append 14 = .ok (.getfield 20, 3) := by decide +kernel
theorem dX5_append_17 : decode cX5_append 17 = .ok (.iconst 1, 1) := by decide +kernel
theorem dX5_append_18 : decode cX5_append 18 = .ok (.iadd, 1) := by decide +kernel
theorem dX5_append_19 : decode cX5_append 19 = .ok (.putfield 20, 3) := by decide +kernel
theorem dX5_append_22 : decode cX5_append 22 = .ok (.return_, 1) := by decide +kernel
theorem dX5_empty_0 : decode cX5_empty 0 = .ok (.iconst 0, 1) := by decide +kernel
theorem dX5_empty_1 : decode cX5_empty 1 = .ok (.istore_n 1, 1) := by decide +kernel
theorem dX5_empty_2 : decode cX5_empty 2 = .ok (.iload_n 1, 1) := by decide +kernel
theorem dX5_empty_3 : decode cX5_empty 3 = .ok (.aload_n 0, 1) := by decide +kernel
theorem dX5_empty_4 : decode cX5_empty 4 = .ok (.getfield 20, 3) := by decide +kernel
theorem dX5_empty_7 : decode cX5_empty 7 = .ok (.if_icmp .ge 18, 3) := by decide +kernel
theorem dX5_empty_10 : decode cX5_empty 10 = .ok (.aload_n 0, 1) := by decide +kernel
theorem dX5_empty_11 : decode cX5_empty 11 = .ok (.getfield 14, 3) := by decide +kernel
theorem dX5_empty_14 : decode cX5_empty 14 = .ok (.iload_n 1, 1) := by decide +kernel
theorem dX5_empty_15 : decode cX5_empty 15 = .ok (.iconst 0, 1) := by decide +kernel
theorem dX5_empty_16 : decode cX5_empty 16 = .ok (.invokevirtual 42, 3) := by decide +kernel
theorem dX5_empty_19 : decode cX5_empty 19 = .ok (.iinc 1 1, 3) := by decide +kernel
theorem dX5_empty_22 : decode cX5_empty 22 = .ok (.goto (-20), 3) := by decide +kernel
theorem dX5_empty_25 : decode cX5_empty 25 = .ok (.aload_n 0, 1) := by decide +kernel
theorem dX5_empty_26 : decode cX5_empty 26 = .ok (.iconst 0, 1) := by decide +kernel
theorem dX5_empty_27 : decode cX5_empty 27 = .ok (.putfield 20, 3) := by decide +kernel
theorem dX5_empty_30 : decode cX5_empty 30 = .ok (.return_, 1) := by decide +kernel
theorem dX5_readInto_0 : decode cX5_readInto 0 = .ok (.aload_n 0, 1) := by decide +kernel
theorem dX5_readInto_1 : decode cX5_readInto 1 = .ok (.iconst 0, 1) := by decide +kernel
theorem dX5_readInto_2 : decode cX5_readInto 2 = .ok (.putfield 24, 3) := by decide +kernel
theorem dX5_readInto_5 : decode cX5_readInto 5 = .ok (.aload_n 0, 1) := by decide +kernel
theorem dX5_readInto_6 : decode cX5_readInto 6 = .ok (.iconst 0, 1) := by decide +kernel
theorem dX5_readInto_7 : decode cX5_readInto 7 = .ok (.putfield 33, 3) := by decide +kernel
theorem dX5_readInto_10 : decode cX5_readInto 10 = .ok (.aload_n 0, 1) := by decide +kernel
theorem dX5_readInto_11 : decode cX5_readInto 11 = .ok (.iconst 0, 1) := by decide +kernel
theorem dX5_readInto_12 : decode cX5_readInto 12 = .ok (.putfield 39, 3) := by decide +kernel
theorem dX5_readInto_15 : decode cX5_readInto 15 = .ok (.aload_n 1, 1) := by decide +kernel
theorem dX5_readInto_16 : decode cX5_readInto 16 = .ok (.ifnonnull 4, 3) := by decide +kernel
theorem dX5_readInto_19 : decode cX5_readInto 19 = .ok (.return_, 1) := by decide +kernel
theorem dX5_readInto_20 : decode cX5_readInto 20 = .ok (.iconst 0, 1) := by decide +kernel
theorem dX5_readInto_21 : decode cX5_readInto 21 = .ok (.istore_n 2, 1) := by decide +kernel
theorem dX5_readInto_22 : decode cX5_readInto 22 = .ok (.iload_n 2, 1) := by decide +kernel
theorem dX5_readInto_23 : decode cX5_readInto 23 = .ok (.bipush 100, 2) := by decide +kernel
theorem dX5_readInto_25 : decode cX5_readInto 25 = .ok (.if_icmp .ge 74, 3) := by decide +kernel
theorem dX5_readInto_28 : decode cX5_readInto 28 = .ok (.aload_n 0, 1) := by decide +kernel
theorem dX5_readInto_29 : decode cX5_readInto 29 = .ok (.getfield 24, 3) := by decide +kernel
theorem dX5_readInto_32 : decode cX5_readInto 32 = .ok (.aload_n 0, 1) := by decide +kernel
theorem dX5_readInto_33 : decode cX5_readInto 33 = .ok (.getfield 20, 3) := by decide +kernel
theorem dX5_readInto_36 : decode cX5_readInto 36 = .ok (.if_icmp .ge 63, 3) := by decide +kernel
theorem dX5_readInto_39 : decode cX5_readInto 39 = .ok (.aload_n 0, 1) := by decide +kernel
theorem dX5_readInto_40 : decode cX5_readInto 40 = .ok (.getfield 39, 3) := by decide +kernel
theorem dX5_readInto_43 : decode cX5_readInto 43 = .ok (.ifCond .ne 56, 3) := by decide +kernel
theorem dX5_readInto_46 : decode cX5_readInto 46 = .ok (.aload_n 0, 1) := by decide +kernel
theorem dX5_readInto_47 : decode cX5_readInto 47 = .ok (.aload_n 0, 1) := by decide +kernel
theorem dX5_readInto_48 : decode cX5_readInto 48 = .ok (.getfield 24, 3) := by decide +kernel
theorem dX5_readInto_51 : decode cX5_readInto 51 = .ok (.putfield 36, 3) := by decide +kernel
theorem dX5_readInto_54 : decode cX5_readInto 54 = .ok (.aload_n 0, 1) := by decide +kernel
theorem dX5_readInto_55 : decode cX5_readInto 55 = .ok (.aload_n 0, 1) := by decide +kernel
theorem dX5_readInto_56 : decode cX5_readInto 56 = .ok (.aload_n 1, 1) := by decide +kernel
theorem dX5_readInto_57 : decode cX5_readInto 57 = .ok (.invokevirtual 46, 3) := by decide +kernel
theorem dX5_readInto_60 : decode cX5_readInto 60 = .ok (.putfield 39, 3) := by decide +kernel
theorem dX5_readInto_63 : decode cX5_readInto 63 = .ok (.aload_n 0, 1) := by decide +kernel
theorem dX5_readInto_64 : decode cX5_readInto 64 = .ok (.getfield 39, 3) := by decide +kernel
theorem dX5_readInto_67 : decode cX5_readInto 67 = .ok (.ifCond .ne 26, 3) := by decide +kernel
theorem dX5_readInto_70 : decode cX5_readInto 70 = .ok (.aload_n 1, 1) := by decide +kernel
theorem dX5_readInto_71 : decode cX5_readInto 71 = .ok (.aload_n 0, 1) := by decide +kernel
theorem dX5_readInto_72 : decode cX5_readInto 72 = .ok (.getfield 27, 3) := by decide +kernel
theorem dX5_readInto_75 : decode cX5_readInto 75 = .ok (.aload_n 0, 1) := by decide +kernel
theorem dX5_readInto_76 : decode cX5_readInto 76 = .ok (.getfield 30, 3) := by decide +kernel
theorem dX5_readInto_79 : decode cX5_readInto 79 = .ok (.invokevirtual 50, 3) := by decide +kernel
theorem dX5_readInto_82 : decode cX5_readInto 82 = .ok (.pop, 1) := by decide +kernel
theorem dX5_readInto_83 : decode cX5_readInto 83 = .ok (.aload_n 0, 1) := by decide +kernel
theorem dX5_readInto_84 : decode cX5_readInto 84 = .ok (.dup, 1) := by decide +kernel
theorem dX5_readInto_85 : decode cX5_readInto 85 = .ok (.getfield 33, 3) := by decide +kernel
theorem dX5_readInto_88 : decode cX5_readInto 88 = .ok (.iconst 1, 1) := by decide +kernel
theorem dX5_readInto_89 : decode cX5_readInto 89 = .ok (.iadd, 1) := by decide +kernel
theorem dX5_readInto_90 : decode cX5_readInto 90 = .ok (.putfield 33, 3) := by decide +kernel
theorem dX5_readInto_93 : decode cX5_readInto 93 = .ok (.iinc 2 1, 3) := by decide +kernel
theorem dX5_readInto_96 : decode cX5_readInto 96 = .ok (.goto (-74), 3) := by decide +kernel
theorem dX5_readInto_99 : decode cX5_readInto 99 = .ok (.return_, 1) := by decide +kernel
theorem dX5_reasonAgainstNext_0 : decode cX5_reasonAgainstNext 0 = .ok (.aload_n 0, 1) := by decide +kernel
theorem dX5_reasonAgainstNext_1 : decode cX5_reasonAgainstNext 1 = .ok (.invokevirtual 56, 3) := by decide +kernel
theorem dX5_reasonAgainstNext_4 : decode cX5_reasonAgainstNext 4 = .ok (.ifCond .ne 5, 3) := by decide +kernel
theorem dX5_reasonAgainstNext_7 : decode cX5_reasonAgainstNext 7 = .ok (.iconst 1, 1) := by decide +kernel
theorem dX5_reasonAgainstNext_8 : decode cX5_reasonAgainstNext 8 = .ok (.ireturn, 1) := by decide +kernel
theorem dX5_reasonAgainstNext_9 : decode cX5_reasonAgainstNext 9 = .ok (.aload_n 0, 1) := by decide +kernel
theorem dX5_reasonAgainstNext_10 : decode cX5_reasonAgainstNext 10 = .ok (.getfield 27, 3) := by decide +kernel
theorem dX5_reasonAgainstNext_13 : decode cX5_reasonAgainstNext 13 = .ok (.sipush 3600, 3) := by decide +kernel
theorem dX5_reasonAgainstNext_16 : decode cX5_reasonAgainstNext 16 = .ok (.if_icmp .gt 13, 3) := by decide +kernel
theorem dX5_reasonAgainstNext_19 : decode cX5_reasonAgainstNext 19 = .ok (.aload_n 0, 1) := by decide +kernel
theorem dX5_reasonAgainstNext_20 : decode cX5_reasonAgainstNext 20 = .ok (.getfield 30, 3) := by decide +kernel
theorem dX5_reasonAgainstNext_23 : decode cX5_reasonAgainstNext 23 = .ok (.sipush 6000, 3) := by decide +kernel
theorem dX5_reasonAgainstNext_26 : decode cX5_reasonAgainstNext 26 = .ok (.if_icmp .le 5, 3) := by decide +kernel
theorem dX5_reasonAgainstNext_29 : decode cX5_reasonAgainstNext 29 = .ok (.iconst 2, 1) := by decide +kernel
theorem dX5_reasonAgainstNext_30 : decode cX5_reasonAgainstNext 30 = .ok (.ireturn, 1) := by decide +kernel
theorem dX5_reasonAgainstNext_31 : decode cX5_reasonAgainstNext 31 = .ok (.aload_n 1, 1) := by decide +kernel
theorem dX5_reasonAgainstNext_32 : decode cX5_reasonAgainstNext 32 = .ok (.aload_n 0, 1) := by decide +kernel
theorem dX5_reasonAgainstNext_33 : decode cX5_reasonAgainstNext 33 = .ok (.getfield 27, 3) := by decide +kernel
theorem dX5_reasonAgainstNext_36 : decode cX5_reasonAgainstNext 36 = .ok (.invokevirtual 60, 3) := by decide +kernel
theorem dX5_reasonAgainstNext_39 : decode cX5_reasonAgainstNext 39 = .ok (.ifCond .eq 5, 3) := by decide +kernel
theorem dX5_reasonAgainstNext_42 : decode cX5_reasonAgainstNext 42 = .ok (.iconst 3, 1) := by decide +kernel
theorem dX5_reasonAgainstNext_43 : decode cX5_reasonAgainstNext 43 = .ok (.ireturn, 1) := by decide +kernel
theorem dX5_reasonAgainstNext_44 : decode cX5_reasonAgainstNext 44 = .ok (.aload_n 1, 1) := by decide +kernel
theorem dX5_reasonAgainstNext_45 : decode cX5_reasonAgainstNext 45 = .ok (.invokevirtual 64, 3) := by decide +kernel
theorem dX5_reasonAgainstNext_48 : decode cX5_reasonAgainstNext 48 = .ok (.ifCond .eq 7, 3) := by decide +kernel
theorem dX5_reasonAgainstNext_51 : decode cX5_reasonAgainstNext 51 = .ok (.iconst 4, 1) := by decide +kernel
theorem dX5_reasonAgainstNext_52 : decode cX5_reasonAgainstNext 52 = .ok (.goto 4, 3) := by decide +kernel
theorem dX5_reasonAgainstNext_55 : decode cX5_reasonAgainstNext 55 = .ok (.iconst 0, 1) := by decide +kernel
theorem dX5_reasonAgainstNext_56 : decode cX5_reasonAgainstNext 56 = .ok (.ireturn, 1) := by decide +kernel
theorem dX5_readNote_0 : decode cX5_readNote 0 = .ok (.aload_n 0, 1) := by decide +kernel
theorem dX5_readNote_1 : decode cX5_readNote 1 = .ok (.aload_n 0, 1) := by decide +kernel
theorem dX5_readNote_2 : decode cX5_readNote 2 = .ok (.invokevirtual 67, 3) := by decide +kernel
theorem dX5_readNote_5 : decode cX5_readNote 5 = .ok (.putfield 27, 3) := by decide +kernel
theorem dX5_readNote_8 : decode cX5_readNote 8 = .ok (.aload_n 0, 1) := by decide +kernel
theorem dX5_readNote_9 : decode cX5_readNote 9 = .ok (.getfield 27, 3) := by decide +kernel
theorem dX5_readNote_12 : decode cX5_readNote 12 = .ok (.iconst (-1), 1) := by decide +kernel
theorem dX5_readNote_13 : decode cX5_readNote 13 = .ok (.if_icmp .eq 12, 3) := by decide +kernel
theorem dX5_readNote_16 : decode cX5_readNote 16 = .ok (.aload_n 0, 1) := by decide +kernel
theorem dX5_readNote_17 : decode cX5_readNote 17 = .ok (.bipush 58, 2) := by decide +kernel
theorem dX5_readNote_19 : decode cX5_readNote 19 = .ok (.invokevirtual 71, 3) := by decide +kernel
theorem dX5_readNote_22 : decode cX5_readNote 22 = .ok (.ifCond .ne 5, 3) := by decide +kernel
theorem dX5_readNote_25 : decode cX5_readNote 25 = .ok (.iconst 0, 1) := by decide +kernel
theorem dX5_readNote_26 : decode cX5_readNote 26 = .ok (.ireturn, 1) := by decide +kernel
theorem dX5_readNote_27 : decode cX5_readNote 27 = .ok (.aload_n 0, 1) := by decide +kernel
theorem dX5_readNote_28 : decode cX5_readNote 28 = .ok (.aload_n 0, 1) := by decide +kernel
theorem dX5_readNote_29 : decode cX5_readNote 29 = .ok (.invokevirtual 67, 3) := by decide +kernel
theorem dX5_readNote_32 : decode cX5_readNote 32 = .ok (.putfield 30, 3) := by decide +kernel
theorem dX5_readNote_35 : decode cX5_readNote 35 = .ok (.aload_n 0, 1) := by decide +kernel
theorem dX5_readNote_36 : decode cX5_readNote 36 = .ok (.getfield 30, 3) := by decide +kernel
theorem dX5_readNote_39 : decode cX5_readNote 39 = .ok (.iconst (-1), 1) := by decide +kernel
theorem dX5_readNote_40 : decode cX5_readNote 40 = .ok (.if_icmp .eq 16, 3) := by decide +kernel
theorem dX5_readNote_43 : decode cX5_readNote 43 = .ok (.aload_n 0, 1) := by decide +kernel
theorem dX5_readNote_44 : decode cX5_readNote 44 = .ok (.bipush 59, 2) := by decide +kernel
theorem dX5_readNote_46 : decode cX5_readNote 46 = .ok (.invokevirtual 71, 3) := by decide +kernel
theorem dX5_readNote_49 : decode cX5_readNote 49 = .ok (.ifCond .eq 7, 3) := by decide +kernel
theorem dX5_readNote_52 : decode cX5_readNote 52 = .ok (.iconst 1, 1) := by decide +kernel
theorem dX5_readNote_53 : decode cX5_readNote 53 = .ok (.goto 4, 3) := by decide +kernel
theorem dX5_readNote_56 : decode cX5_readNote 56 = .ok (.iconst 0, 1) := by decide +kernel
theorem dX5_readNote_57 : decode cX5_readNote 57 = .ok (.ireturn, 1) := by decide +kernel
theorem dX5_readNumber_0 : decode cX5_readNumber 0 = .ok (.iconst (-1), 1) := by decide +kernel
theorem dX5_readNumber_1 : decode cX5_readNumber 1 = .ok (.istore_n 1, 1) := by decide +kernel
theorem dX5_readNumber_2 : decode cX5_readNumber 2 = .ok (.iconst 0, 1) := by decide +kernel
theorem dX5_readNumber_3 : decode cX5_readNumber 3 = .ok (.istore_n 2, 1) := by decide +kernel
theorem dX5_readNumber_4 : decode cX5_readNumber 4 = .ok (.iload_n 2, 1) := by decide +kernel
theorem dX5_readNumber_5 : decode cX5_readNumber 5 = .ok (.iconst 4, 1) := by decide +kernel
theorem dX5_readNumber_6 : decode cX5_readNumber 6 = .ok (.if_icmp .ge 64, 3) := by decide +kernel
theorem dX5_readNumber_9 : decode cX5_readNumber 9 = .ok (.aload_n 0, 1) := by decide +kernel
theorem dX5_readNumber_10 : decode cX5_readNumber 10 = .ok (.getfield 14, 3) := by decide +kernel
theorem dX5_readNumber_13 : decode cX5_readNumber 13 = .ok (.aload_n 0, 1) := by decide +kernel
theorem dX5_readNumber_14 : decode cX5_readNumber 14 = .ok (.getfield 24, 3) := by decide +kernel
theorem dX5_readNumber_17 : decode cX5_readNumber 17 = .ok (.invokevirtual 74, 3) := by decide +kernel
theorem dX5_readNumber_20 : decode cX5_readNumber 20 = .ok (.bipush 48, 2) := by decide +kernel
theorem dX5_readNumber_22 : decode cX5_readNumber 22 = .ok (.bipush 57, 2) := by decide +kernel
theorem dX5_readNumber_24 : decode cX5_readNumber 24 = .ok (.invokestatic 78, 3) := by decide +kernel
theorem dX5_readNumber_27 : decode cX5_readNumber 27 = .ok (.ifCond .eq 43, 3) := by decide +kernel
theorem dX5_readNumber_30 : decode cX5_readNumber 30 = .ok (.iload_n 1, 1) := by decide +kernel
theorem dX5_readNumber_31 : decode cX5_readNumber 31 = .ok (.iconst 0, 1) := by decide +kernel
theorem dX5_readNumber_32 : decode cX5_readNumber 32 = .ok (.invokestatic 82, 3) := by decide +kernel
theorem dX5_readNumber_35 : decode cX5_readNumber 35 = .ok (.bipush 10, 2) := by decide +kernel
theorem dX5_readNumber_37 : decode cX5_readNumber 37 = .ok (.imul, 1) := by decide +kernel
theorem dX5_readNumber_38 : decode cX5_readNumber 38 = .ok (.aload_n 0, 1) := by decide +kernel
theorem dX5_readNumber_39 : decode cX5_readNumber 39 = .ok (.getfield 14, 3) := by decide +kernel
theorem dX5_readNumber_42 : decode cX5_readNumber 42 = .ok (.aload_n 0, 1) := by decide +kernel
theorem dX5_readNumber_43 : decode cX5_readNumber 43 = .ok (.getfield 24, 3) := by decide +kernel
theorem dX5_readNumber_46 : decode cX5_readNumber 46 = .ok (.invokevirtual 74, 3) := by decide +kernel
theorem dX5_readNumber_49 : decode cX5_readNumber 49 = .ok (.iadd, 1) := by decide +kernel
theorem dX5_readNumber_50 : decode cX5_readNumber 50 = .ok (.bipush 48, 2) := by decide +kernel
theorem dX5_readNumber_52 : decode cX5_readNumber 52 = .ok (.isub, 1) := by decide +kernel
theorem dX5_readNumber_53 : decode cX5_readNumber 53 = .ok (.istore_n 1, 1) := by decide +kernel
theorem dX5_readNumber_54 : decode cX5_readNumber 54 = .ok (.aload_n 0, 1) := by decide +kernel
theorem dX5_readNumber_55 : decode cX5_readNumber 55 = .ok (.dup, 1) := by decide +kernel
theorem dX5_readNumber_56 : decode cX5_readNumber 56 = .ok (.getfield 24, 3) := by decide +kernel
theorem dX5_readNumber_59 : decode cX5_readNumber 59 = .ok (.iconst 1, 1) := by decide +kernel
theorem dX5_readNumber_60 : decode cX5_readNumber 60 = .ok (.iadd, 1) := by decide +kernel
theorem dX5_readNumber_61 : decode cX5_readNumber 61 = .ok (.putfield 24, 3) := by decide +kernel
theorem dX5_readNumber_64 : decode cX5_readNumber 64 = .ok (.iinc 2 1, 3) := by decide +kernel
theorem dX5_readNumber_67 : decode cX5_readNumber 67 = .ok (.goto (-63), 3) := by decide +kernel
theorem dX5_readNumber_70 : decode cX5_readNumber 70 = .ok (.iload_n 1, 1) := by decide +kernel
theorem dX5_readNumber_71 : decode cX5_readNumber 71 = .ok (.ireturn, 1) := by decide +kernel
theorem dX5_readCharacter_0 : decode cX5_readCharacter 0 = .ok (.aload_n 0, 1) := by decide +kernel
theorem dX5_readCharacter_1 : decode cX5_readCharacter 1 = .ok (.getfield 14, 3) := by decide +kernel
theorem dX5_readCharacter_4 : decode cX5_readCharacter 4 = .ok (.aload_n 0, 1) := by decide +kernel
theorem dX5_readCharacter_5 : decode cX5_readCharacter 5 = .ok (.getfield 24, 3) := by decide +kernel
theorem dX5_readCharacter_8 : decode cX5_readCharacter 8 = .ok (.invokevirtual 74, 3) := by decide +kernel
theorem dX5_readCharacter_11 : decode cX5_readCharacter 11 = .ok (.iload_n 1, 1) := by decide +kernel
theorem dX5_readCharacter_12 : decode cX5_readCharacter 12 = .ok (.if_icmp .ne 7, 3) := by decide +kernel
theorem dX5_readCharacter_15 : decode cX5_readCharacter 15 = .ok (.iconst 1, 1) := by decide +kernel
theorem dX5_readCharacter_16 : decode cX5_readCharacter 16 = .ok (.goto 4, 3) := by decide +kernel
theorem dX5_readCharacter_19 : decode cX5_readCharacter 19 = .ok (.iconst 0, 1) := by decide +kernel
theorem dX5_readCharacter_20 : decode cX5_readCharacter 20 = .ok (.istore_n 2, 1) := by decide +kernel
theorem dX5_readCharacter_21 : decode cX5_readCharacter 21 = .ok (.aload_n 0, 1) := by decide +kernel
theorem dX5_readCharacter_22 : decode cX5_readCharacter 22 = .ok (.dup, 1) := by decide +kernel
theorem dX5_readCharacter_23 : decode cX5_readCharacter 23 = .ok (.getfield 24, 3) := by decide +kernel
theorem dX5_readCharacter_26 : decode cX5_readCharacter 26 = .ok (.iconst 1, 1) := by decide +kernel
theorem dX5_readCharacter_27 : decode cX5_readCharacter 27 = .ok (.iadd, 1) := by decide +kernel
theorem dX5_readCharacter_28 : decode cX5_readCharacter 28 = .ok (.putfield 24, 3) := by decide +kernel
theorem dX5_readCharacter_31 : decode cX5_readCharacter 31 = .ok (.iload_n 2, 1) := by decide +kernel
theorem dX5_readCharacter_32 : decode cX5_readCharacter 32 = .ok (.ireturn, 1) := by decide +kernel
end
section
theorem dX6_init_0 : decode cX6_init 0 = .ok (.aload_n 0, 1) := by decide +kernel
theorem dX6_init_1 : decode cX6_init 1 = .ok (.invokespecial 1, 3) := by decide +kernel
theorem dX6_init_4 : decode cX6_init 4 = .ok (.aload_n 0, 1) := by decide +kernel
theorem dX6_init_5 : decode cX6_init 5 = .ok (.new 7, 3) := by decide +kernel
theorem dX6_init_8 : decode cX6_init 8 = .ok (.dup, 1) := by decide +kernel
theorem dX6_init_9 : decode cX6_init 9 = .ok (.invokespecial 9, 3) := by decide +kernel
theorem dX6_init_12 : decode cX6_init 12 = .ok (.putfield 10, 3) := by decide +kernel
theorem dX6_init_15 : decode cX6_init 15 = .ok (.aload_n 0, 1) := by decide +kernel
theorem dX6_init_16 : decode cX6_init 16 = .ok (.new 7, 3) := by decide +kernel
theorem dX6_init_19 : decode cX6_init 19 = .ok (.dup, 1) := by decide +kernel
theorem dX6_init_20 : decode cX6_init 20 = .ok (.invokespecial 9, 3) := by decide +kernel
theorem dX6_init_23 : decode cX6_init 23 = .ok (.putfield 16, 3) := by decide +kernel
theorem dX6_init_26 : decode cX6_init 26 = .ok (.aload_n 0, 1) := by decide +kernel
theorem dX6_init_27 : decode cX6_init 27 = .ok (.new 19, 3) := by decide +kernel
theorem dX6_init_30 : decode cX6_init 30 = .ok (.dup, 1) := by decide +kernel
theorem dX6_init_31 : decode cX6_init 31 = .ok (.invokespecial 21, 3) := by decide +kernel
theorem dX6_init_34 : decode cX6_init 34 = .ok (.putfield 22, 3) := by decide +kernel
theorem dX6_init_37 : decode cX6_init 37 = .ok (.aload_n 0, 1) := by decide +kernel
theorem dX6_init_38 : decode cX6_init 38 = .ok (.new 26, 3) := by decide +kernel
theorem dX6_init_41 : decode cX6_init 41 = .ok (.dup, 1) := by decide +kernel
theorem dX6_init_42 : decode cX6_init 42 = .ok (.invokespecial 28, 3) := by decide +kernel
theorem dX6_init_45 : decode cX6_init 45 = .ok (.putfield 29, 3) := by decide +kernel
theorem dX6_init_48 : decode cX6_init 48 = .ok (.return_, 1) := by decide +kernel
theorem dX6_bowl_0 : decode cX6_bowl 0 = .ok (.iload_n 1, 1) := by decide +kernel
theorem dX6_bowl_1 : decode cX6_bowl 1 = .ok (.iconst 0, 1) := by decide +kernel
theorem dX6_bowl_2 : decode cX6_bowl 2 = .ok (.sipush 6000, 3) := by decide +kernel
theorem dX6_bowl_5 : decode cX6_bowl 5 = .ok (.invokestatic 33, 3) := by decide +kernel
theorem dX6_bowl_8 : decode cX6_bowl 8 = .ok (.ifCond .eq 14, 3) := by decide +kernel
theorem dX6_bowl_11 : decode cX6_bowl 11 = .ok (.iload_n 2, 1) := by decide +kernel
theorem dX6_bowl_12 : decode cX6_bowl 12 = .ok (.iconst 1, 1) := by decide +kernel
theorem dX6_bowl_13 : decode cX6_bowl 13 = .ok (.sipush 2400, 3) := by decide +kernel
theorem dX6_bowl_16 : decode cX6_bowl 16 = .ok (.invokestatic 33, 3) := by decide +kernel
theorem dX6_bowl_19 : decode cX6_bowl 19 = .ok (.ifCond .ne 6, 3) := by decide +kernel
theorem dX6_bowl_22 : decode cX6_bowl 22 = .ok (.ldc 37, 2) := by decide +kernel
theorem dX6_bowl_24 : decode cX6_bowl 24 = .ok (.ireturn, 1) := by decide +kernel
theorem dX6_bowl_25 : decode cX6_bowl 25 = .ok (.aload_n 0, 1) := by decide +kernel
theorem dX6_bowl_26 : decode cX6_bowl 26 = .ok (.getfield 10, 3) := by decide +kernel
theorem dX6_bowl_29 : decode cX6_bowl 29 = .ok (.getfield 38, 3) := by decide +kernel
theorem dX6_bowl_32 : decode cX6_bowl 32 = .ok (.invokevirtual 42, 3) := by decide +kernel
theorem dX6_bowl_35 : decode cX6_bowl 35 = .ok (.bipush 10, 2) := by decide +kernel
theorem dX6_bowl_37 : decode cX6_bowl 37 = .ok (.if_icmp .lt 6, 3) := by decide +kernel
theorem dX6_bowl_40 : decode cX6_bowl 40 = .ok (.ldc 48, 2) := by decide +kernel
theorem dX6_bowl_42 : decode cX6_bowl 42 = .ok (.ireturn, 1) := by decide +kernel
theorem dX6_bowl_43 : decode cX6_bowl 43 = .ok (.aload_n 0, 1) := by decide +kernel
theorem dX6_bowl_44 : decode cX6_bowl 44 = .ok (.getfield 22, 3) := by decide +kernel
theorem dX6_bowl_47 : decode cX6_bowl 47 = .ok (.aload_n 0, 1) := by decide +kernel
theorem dX6_bowl_48 : decode cX6_bowl 48 = .ok (.getfield 10, 3) := by decide +kernel
theorem dX6_bowl_51 : decode cX6_bowl 51 = .ok (.invokevirtual 49, 3) := by decide +kernel
theorem dX6_bowl_54 : decode cX6_bowl 54 = .ok (.aload_n 0, 1) := by decide +kernel
theorem dX6_bowl_55 : decode cX6_bowl 55 = .ok (.getfield 10, 3) := by decide +kernel
theorem dX6_bowl_58 : decode cX6_bowl 58 = .ok (.getfield 38, 3) := by decide +kernel
theorem dX6_bowl_61 : decode cX6_bowl 61 = .ok (.iload_n 1, 1) := by decide +kernel
theorem dX6_bowl_62 : decode cX6_bowl 62 = .ok (.iload_n 2, 1) := by decide +kernel
theorem dX6_bowl_63 : decode cX6_bowl 63 = .ok (.invokevirtual 53, 3) := by decide +kernel
theorem dX6_bowl_66 : decode cX6_bowl 66 = .ok (.aload_n 0, 1) := by decide +kernel
theorem dX6_bowl_67 : decode cX6_bowl 67 = .ok (.getfield 10, 3) := by decide +kernel
theorem dX6_bowl_70 : decode cX6_bowl 70 = .ok (.getfield 38, 3) := by decide +kernel
theorem dX6_bowl_73 : decode cX6_bowl 73 = .ok (.invokevirtual 42, 3) := by decide +kernel
theorem dX6_bowl_76 : decode cX6_bowl 76 = .ok (.iconst 1, 1) := by decide +kernel
theorem dX6_bowl_77 : decode cX6_bowl 77 = .ok (.isub, 1) := by decide +kernel
theorem dX6_bowl_78 : decode cX6_bowl 78 = .ok (.ireturn, 1) := by decide +kernel
theorem dX6_remove_0 : decode cX6_remove 0 = .ok (.aload_n 0, 1) := by decide +kernel
theorem dX6_remove_1 : decode cX6_remove 1 = .ok (.getfield 10, 3) := by decide +kernel
theorem dX6_remove_4 : decode cX6_remove 4 = .ok (.getfield 38, 3) := by decide +kernel
theorem dX6_remove_7 : decode cX6_remove 7 = .ok (.iload_n 1, 1) := by decide +kernel
theorem dX6_remove_8 : decode cX6_remove 8 = .ok (.invokevirtual 57, 3) := by decide +kernel
theorem dX6_remove_11 : decode cX6_remove 11 = .ok (.ifCond .ne 6, 3) := by decide +kernel
theorem dX6_remove_14 : decode cX6_remove 14 = .ok (.ldc 37, 2) := by decide +kernel
theorem dX6_remove_16 : decode cX6_remove 16 = .ok (.ireturn, 1) := by decide +kernel
theorem dX6_remove_17 : decode cX6_remove 17 = .ok (.aload_n 0, 1) := by decide +kernel
theorem dX6_remove_18 : decode cX6_remove 18 = .ok (.getfield 22, 3) := by decide +kernel
theorem dX6_remove_21 : decode cX6_remove 21 = .ok (.aload_n 0, 1) := by decide +kernel
theorem dX6_remove_22 : decode cX6_remove 22 = .ok (.getfield 10, 3) := by decide +kernel
theorem dX6_remove_25 : decode cX6_remove 25 = .ok (.invokevirtual 49, 3) := by decide +kernel
theorem dX6_remove_28 : decode cX6_remove 28 = .ok (.aload_n 0, 1) := by decide +kernel
theorem dX6_remove_29 : decode cX6_remove 29 = .ok (.getfield 10, 3) := by decide +kernel
theorem dX6_remove_32 : decode cX6_remove 32 = .ok (.getfield 38, 3) := by decide +kernel
theorem dX6_remove_35 : decode cX6_remove 35 = .ok (.iload_n 1, 1) := by decide +kernel
theorem dX6_remove_36 : decode cX6_remove 36 = .ok (.invokevirtual 61, 3) := by decide +kernel
theorem dX6_remove_39 : decode cX6_remove 39 = .ok (.aload_n 0, 1) := by decide +kernel
theorem dX6_remove_40 : decode cX6_remove 40 = .ok (.getfield 10, 3) := by decide +kernel
theorem dX6_remove_43 : decode cX6_remove 43 = .ok (.getfield 38, 3) := by decide +kernel
theorem dX6_remove_46 : decode cX6_remove 46 = .ok (.invokevirtual 42, 3) := by decide +kernel
theorem dX6_remove_49 : decode cX6_remove 49 = .ok (.ireturn, 1) := by decide +kernel
theorem dX6_pour_0 : decode cX6_pour 0 = .ok (.aload_n 0, 1) := by decide +kernel
theorem dX6_pour_1 : decode cX6_pour 1 = .ok (.getfield 10, 3) := by decide +kernel
theorem dX6_pour_4 : decode cX6_pour 4 = .ok (.getfield 38, 3) := by decide +kernel
theorem dX6_pour_7 : decode cX6_pour 7 = .ok (.iload_n 1, 1) := by decide +kernel
theorem dX6_pour_8 : decode cX6_pour 8 = .ok (.invokevirtual 57, 3) := by decide +kernel
theorem dX6_pour_11 : decode cX6_pour 11 = .ok (.ifCond .eq 14, 3) := by decide +kernel
theorem dX6_pour_14 : decode cX6_pour 14 = .ok (.iload_n 2, 1) := by decide +kernel
theorem dX6_pour_15 : decode cX6_pour 15 = .ok (.iconst 1, 1) := by decide +kernel
theorem dX6_pour_16 : decode cX6_pour 16 = .ok (.sipush 1000, 3) := by decide +kernel
theorem dX6_pour_19 : decode cX6_pour 19 = .ok (.invokestatic 33, 3) := by decide +kernel
theorem dX6_pour_22 : decode cX6_pour 22 = .ok (.ifCond .ne 6, 3) := by decide +kernel
theorem dX6_pour_25 : decode cX6_pour 25 = .ok (.ldc 37, 2) := by decide +kernel
theorem dX6_pour_27 : decode cX6_pour 27 = .ok (.ireturn, 1) := by decide +kernel
theorem dX6_pour_28 : decode cX6_pour 28 = .ok (.aload_n 0, 1) := by decide +kernel
theorem dX6_pour_29 : decode cX6_pour 29 = .ok (.getfield 10, 3) := by decide +kernel
theorem dX6_pour_32 : decode cX6_pour 32 = .ok (.getfield 38, 3) := by decide +kernel
theorem dX6_pour_35 : decode cX6_pour 35 = .ok (.iload_n 1, 1) := by decide +kernel
theorem dX6_pour_36 : decode cX6_pour 36 = .ok (.invokevirtual 65, 3) := by decide +kernel
theorem dX6_pour_39 : decode cX6_pour 39 = .ok (.iload_n 2, 1) := by decide +kernel
theorem dX6_pour_40 : decode cX6_pour 40 = .ok (.iadd, 1) := by decide +kernel
theorem dX6_pour_41 : decode cX6_pour 41 = .ok (.sipush 1000, 3) := by decide +kernel
theorem dX6_pour_44 : decode cX6_pour 44 = .ok (.if_icmp .le 6, 3) := by decide +kernel
theorem dX6_pour_47 : decode cX6_pour 47 = .ok (.ldc 48, 2) := by decide +kernel
theorem dX6_pour_49 : decode cX6_pour 49 = .ok (.ireturn, 1) := by decide +kernel
theorem dX6_pour_50 : decode cX6_pour 50 = .ok (.aload_n 0, 1) := by decide +kernel
theorem dX6_pour_51 : decode cX6_pour 51 = .ok (.getfield 22, 3) := by decide +kernel
theorem dX6_pour_54 : decode cX6_pour 54 = .ok (.aload_n 0, 1) := by decide +kernel
theorem dX6_pour_55 : decode cX6_pour 55 = .ok (.getfield 10, 3) := by decide +kernel
theorem dX6_pour_58 : decode cX6_pour 58 = .ok (.invokevirtual 49, 3) := by decide +kernel
theorem dX6_pour_61 : decode cX6_pour 61 = .ok (.aload_n 0, 1) := by decide +kernel
theorem dX6_pour_62 : decode cX6_pour 62 = .ok (.getfield 10, 3) := by decide +kernel
theorem dX6_pour_65 : decode cX6_pour 65 = .ok (.getfield 38, 3) := by decide +kernel
theorem dX6_pour_68 : decode cX6_pour 68 = .ok (.iload_n 1, 1) := by decide +kernel
theorem dX6_pour_69 : decode cX6_pour 69 = .ok (.iload_n 2, 1) := by decide +kernel
theorem dX6_pour_70 : decode cX6_pour 70 = .ok (.invokevirtual 69, 3) := by decide +kernel
theorem dX6_pour_73 : decode cX6_pour 73 = .ok (.aload_n 0, 1) := by decide +kernel
theorem dX6_pour_74 : decode cX6_pour 74 = .ok (.getfield 10, 3) := by decide +kernel
theorem dX6_pour_77 : decode cX6_pour 77 = .ok (.getfield 38, 3) := by decide +kernel
theorem dX6_pour_80 : decode cX6_pour 80 = .ok (.iload_n 1, 1) := by decide +kernel
theorem dX6_pour_81 : decode cX6_pour 81 = .ok (.invokevirtual 65, 3) := by decide +kernel
theorem dX6_pour_84 : decode cX6_pour 84 = .ok (.ireturn, 1) := by decide +kernel
theorem dX6_spill_0 : decode cX6_spill 0 = .ok (.aload_n 0, 1) := by decide +kernel
theorem dX6_spill_1 : decode cX6_spill 1 = .ok (.getfield 10, 3) := by decide +kernel
theorem dX6_spill_4 : decode cX6_spill 4 = .ok (.getfield 38, 3) := by decide +kernel
theorem dX6_spill_7 : decode cX6_spill 7 = .ok (.iload_n 1, 1) := by decide +kernel
theorem dX6_spill_8 : decode cX6_spill 8 = .ok (.invokevirtual 57, 3) := by decide +kernel
theorem dX6_spill_11 : decode cX6_spill 11 = .ok (.ifCond .eq 14, 3) := by decide +kernel
theorem dX6_spill_14 : decode cX6_spill 14 = .ok (.iload_n 2, 1) := by decide +kernel
theorem dX6_spill_15 : decode cX6_spill 15 = .ok (.iconst 1, 1) := by decide +kernel
theorem dX6_spill_16 : decode cX6_spill 16 = .ok (.sipush 1000, 3) := by decide +kernel
theorem dX6_spill_19 : decode cX6_spill 19 = .ok (.invokestatic 33, 3) := by decide +kernel
theorem dX6_spill_22 : decode cX6_spill 22 = .ok (.ifCond .ne 6, 3) := by decide +kernel
theorem dX6_spill_25 : decode cX6_spill 25 = .ok (.ldc 37, 2) := by decide +kernel
theorem dX6_spill_27 : decode cX6_spill 27 = .ok (.ireturn, 1) := by decide +kernel
theorem dX6_spill_28 : decode cX6_spill 28 = .ok (.aload_n 0, 1) := by decide +kernel
theorem dX6_spill_29 : decode cX6_spill 29 = .ok (.getfield 10, 3) := by decide +kernel
theorem dX6_spill_32 : decode cX6_spill 32 = .ok (.getfield 38, 3) := by decide +kernel
theorem dX6_spill_35 : decode cX6_spill 35 = .ok (.iload_n 1, 1) := by decide +kernel
theorem dX6_spill_36 : decode cX6_spill 36 = .ok (.invokevirtual 65, 3) := by decide +kernel
theorem dX6_spill_39 : decode cX6_spill 39 = .ok (.iload_n 2, 1) := by decide +kernel
theorem dX6_spill_40 : decode cX6_spill 40 = .ok (.if_icmp .ge 6, 3) := by decide +kernel
theorem dX6_spill_43 : decode cX6_spill 43 = .ok (.ldc 72, 2) := by decide +kernel
theorem dX6_spill_45 : decode cX6_spill 45 = .ok (.ireturn, 1) := by decide +kernel
theorem dX6_spill_46 : decode cX6_spill 46 = .ok (.aload_n 0, 1) := by decide +kernel
theorem dX6_spill_47 : decode cX6_spill 47 = .ok (.getfield 22, 3) := by decide +kernel
theorem dX6_spill_50 : decode cX6_spill 50 = .ok (.aload_n 0, 1) := by decide +kernel
theorem dX6_spill_51 : decode cX6_spill 51 = .ok (.getfield 10, 3) := by decide +kernel
theorem dX6_spill_54 : decode cX6_spill 54 = .ok (.invokevirtual 49, 3) := by decide +kernel
theorem dX6_spill_57 : decode cX6_spill 57 = .ok (.aload_n 0, 1) := by decide +kernel
theorem dX6_spill_58 : decode cX6_spill 58 = .ok (.getfield 10, 3) := by decide +kernel
theorem dX6_spill_61 : decode cX6_spill 61 = .ok (.getfield 38, 3) := by decide +kernel
theorem dX6_spill_64 : decode cX6_spill 64 = .ok (.iload_n 1, 1) := by decide +kernel
theorem dX6_spill_65 : decode cX6_spill 65 = .ok (.iload_n 2, 1) := by decide +kernel
theorem dX6_spill_66 : decode cX6_spill 66 = .ok (.invokevirtual 73, 3) := by decide +kernel
theorem dX6_spill_69 : decode cX6_spill 69 = .ok (.aload_n 0, 1) := by decide +kernel
theorem dX6_spill_70 : decode cX6_spill 70 = .ok (.getfield 10, 3) := by decide +kernel
theorem dX6_spill_73 : decode cX6_spill 73 = .ok (.getfield 38, 3) := by decide +kernel
theorem dX6_spill_76 : decode cX6_spill 76 = .ok (.iload_n 1, 1) := by decide +kernel
theorem dX6_spill_77 : decode cX6_spill 77 = .ok (.invokevirtual 65, 3) := by decide +kernel
theorem dX6_spill_80 : decode cX6_spill 80 = .ok (.ireturn, 1) := by decide +kernel
theorem dX6_crack_0 : decode cX6_crack 0 = .ok (.aload_n 0, 1) := by decide +kernel
theorem dX6_crack_1 : decode cX6_crack 1 = .ok (.getfield 10, 3) := by decide +kernel
theorem dX6_crack_4 : decode cX6_crack 4 = .ok (.getfield 38, 3) := by decide +kernel
theorem dX6_crack_7 : decode cX6_crack 7 = .ok (.iload_n 1, 1) := by decide +kernel
theorem dX6_crack_8 : decode cX6_crack 8 = .ok (.invokevirtual 57, 3) := by decide +kernel
theorem dX6_crack_11 : decode cX6_crack 11 = .ok (.ifCond .eq 14, 3) := by decide +kernel
theorem dX6_crack_14 : decode cX6_crack 14 = .ok (.iload_n 2, 1) := by decide +kernel
theorem dX6_crack_15 : decode cX6_crack 15 = .ok (.iconst 0, 1) := by decide +kernel
theorem dX6_crack_16 : decode cX6_crack 16 = .ok (.sipush 1000, 3) := by decide +kernel
theorem dX6_crack_19 : decode cX6_crack 19 = .ok (.invokestatic 33, 3) := by decide +kernel
theorem dX6_crack_22 : decode cX6_crack 22 = .ok (.ifCond .ne 6, 3) := by decide +kernel
theorem dX6_crack_25 : decode cX6_crack 25 = .ok (.ldc 37, 2) := by decide +kernel
theorem dX6_crack_27 : decode cX6_crack 27 = .ok (.ireturn, 1) := by decide +kernel
theorem dX6_crack_28 : decode cX6_crack 28 = .ok (.aload_n 0, 1) := by decide +kernel
theorem dX6_crack_29 : decode cX6_crack 29 = .ok (.getfield 22, 3) := by decide +kernel
theorem dX6_crack_32 : decode cX6_crack 32 = .ok (.aload_n 0, 1) := by decide +kernel
theorem dX6_crack_33 : decode cX6_crack 33 = .ok (.getfield 10, 3) := by decide +kernel
theorem dX6_crack_36 : decode cX6_crack 36 = .ok (.invokevirtual 49, 3) := by decide +kernel
theorem dX6_crack_39 : decode cX6_crack 39 = .ok (.aload_n 0, 1) := by decide +kernel
theorem dX6_crack_40 : decode cX6_crack 40 = .ok (.getfield 10, 3) := by decide +kernel
theorem dX6_crack_43 : decode cX6_crack 43 = .ok (.getfield 38, 3) := by decide +kernel
theorem dX6_crack_46 : decode cX6_crack 46 = .ok (.iload_n 1, 1) := by decide +kernel
theorem dX6_crack_47 : decode cX6_crack 47 = .ok (.invokevirtual 65, 3) := by decide +kernel
theorem dX6_crack_50 : decode cX6_crack 50 = .ok (.istore_n 3, 1) := by decide +kernel
theorem dX6_crack_51 : decode cX6_crack 51 = .ok (.aload_n 0, 1) := by decide +kernel
theorem dX6_crack_52 : decode cX6_crack 52 = .ok (.getfield 10, 3) := by decide +kernel
theorem dX6_crack_55 : decode cX6_crack 55 = .ok (.getfield 38, 3) := by decide +kernel
theorem dX6_crack_58 : decode cX6_crack 58 = .ok (.iload_n 1, 1) := by decide +kernel
theorem dX6_crack_59 : decode cX6_crack 59 = .ok (.iload_n 2, 1) := by decide +kernel
theorem dX6_crack_60 : decode cX6_crack 60 = .ok (.invokevirtual 76, 3) := by decide +kernel
theorem dX6_crack_63 : decode cX6_crack 63 = .ok (.iload_n 3, 1) := by decide +kernel
theorem dX6_crack_64 : decode cX6_crack 64 = .ok (.aload_n 0, 1) := by decide +kernel
theorem dX6_crack_65 : decode cX6_crack 65 = .ok (.getfield 10, 3) := by decide +kernel
theorem dX6_crack_68 : decode cX6_crack 68 = .ok (.getfield 38, 3) := by decide +kernel
theorem dX6_crack_71 : decode cX6_crack 71 = .ok (.iload_n 1, 1) := by decide +kernel
theorem dX6_crack_72 : decode cX6_crack 72 = .ok (.invokevirtual 65, 3) := by decide +kernel
theorem dX6_crack_75 : decode cX6_crack 75 = .ok (.isub, 1) := by decide +kernel
theorem dX6_crack_76 : decode cX6_crack 76 = .ok (.ireturn, 1) := by decide +kernel
theorem dX6_mark_0 : decode cX6_mark 0 = .ok (.aload_n 0, 1) := by decide +kernel
theorem dX6_mark_1 : decode cX6_mark 1 = .ok (.getfield 10, 3) := by decide +kernel
theorem dX6_mark_4 : decode cX6_mark 4 = .ok (.getfield 38, 3) := by decide +kernel
theorem dX6_mark_7 : decode cX6_mark 7 = .ok (.iload_n 1, 1) := by decide +kernel
theorem dX6_mark_8 : decode cX6_mark 8 = .ok (.invokevirtual 57, 3) := by decide +kernel
theorem dX6_mark_11 : decode cX6_mark 11 = .ok (.ifCond .eq 14, 3) := by decide +kernel
theorem dX6_mark_14 : decode cX6_mark 14 = .ok (.iload_n 2, 1) := by decide +kernel
theorem dX6_mark_15 : decode cX6_mark 15 = .ok (.iconst 0, 1) := by decide +kernel
theorem dX6_mark_16 : decode cX6_mark 16 = .ok (.sipush 1000, 3) := by decide +kernel
theorem dX6_mark_19 : decode cX6_mark 19 = .ok (.invokestatic 33, 3) := by decide +kernel
theorem dX6_mark_22 : decode cX6_mark 22 = .ok (.ifCond .ne 6, 3) := by decide +kernel
theorem dX6_mark_25 : decode cX6_mark 25 = .ok (.ldc 37, 2) := by decide +kernel
theorem dX6_mark_27 : decode cX6_mark 27 = .ok (.ireturn, 1) := by decide +kernel
theorem dX6_mark_28 : decode cX6_mark 28 = .ok (.aload_n 0, 1) := by decide +kernel
theorem dX6_mark_29 : decode cX6_mark 29 = .ok (.getfield 22, 3) := by decide +kernel
theorem dX6_mark_32 : decode cX6_mark 32 = .ok (.aload_n 0, 1) := by decide +kernel
theorem dX6_mark_33 : decode cX6_mark 33 = .ok (.getfield 10, 3) := by decide +kernel
theorem dX6_mark_36 : decode cX6_mark 36 = .ok (.invokevirtual 49, 3) := by decide +kernel
theorem dX6_mark_39 : decode cX6_mark 39 = .ok (.aload_n 0, 1) := by decide +kernel
theorem dX6_mark_40 : decode cX6_mark 40 = .ok (.getfield 10, 3) := by decide +kernel
theorem dX6_mark_43 : decode cX6_mark 43 = .ok (.getfield 38, 3) := by decide +kernel
theorem dX6_mark_46 : decode cX6_mark 46 = .ok (.iload_n 1, 1) := by decide +kernel
theorem dX6_mark_47 : decode cX6_mark 47 = .ok (.iload_n 2, 1) := by decide +kernel
theorem dX6_mark_48 : decode cX6_mark 48 = .ok (.invokevirtual 79, 3) := by decide +kernel
theorem dX6_mark_51 : decode cX6_mark 51 = .ok (.ireturn, 1) := by decide +kernel
theorem dX6_bowlOf_0 : decode cX6_bowlOf 0 = .ok (.aload_n 0, 1) := by decide +kernel
theorem dX6_bowlOf_1 : decode cX6_bowlOf 1 = .ok (.getfield 10, 3) := by decide +kernel
theorem dX6_bowlOf_4 : decode cX6_bowlOf 4 = .ok (.getfield 38, 3) := by decide +kernel
theorem dX6_bowlOf_7 : decode cX6_bowlOf 7 = .ok (.iload_n 1, 1) := by decide +kernel
theorem dX6_bowlOf_8 : decode cX6_bowlOf 8 = .ok (.invokevirtual 57, 3) := by decide +kernel
theorem dX6_bowlOf_11 : decode cX6_bowlOf 11 = .ok (.ifCond .ne 6, 3) := by decide +kernel
theorem dX6_bowlOf_14 : decode cX6_bowlOf 14 = .ok (.ldc 37, 2) := by decide +kernel
theorem dX6_bowlOf_16 : decode cX6_bowlOf 16 = .ok (.ireturn, 1) := by decide +kernel
theorem dX6_bowlOf_17 : decode cX6_bowlOf 17 = .ok (.aload_n 0, 1) := by decide +kernel
theorem dX6_bowlOf_18 : decode cX6_bowlOf 18 = .ok (.getfield 10, 3) := by decide +kernel
theorem dX6_bowlOf_21 : decode cX6_bowlOf 21 = .ok (.getfield 38, 3) := by decide +kernel
theorem dX6_bowlOf_24 : decode cX6_bowlOf 24 = .ok (.iload_n 1, 1) := by decide +kernel
theorem dX6_bowlOf_25 : decode cX6_bowlOf 25 = .ok (.iload_n 2, 1) := by decide +kernel
theorem dX6_bowlOf_26 : decode cX6_bowlOf 26 = .ok (.invokevirtual 83, 3) := by decide +kernel
theorem dX6_bowlOf_29 : decode cX6_bowlOf 29 = .ok (.ireturn, 1) := by decide +kernel
theorem dX6_levelFor_0 : decode cX6_levelFor 0 = .ok (.aload_n 0, 1) := by decide +kernel
theorem dX6_levelFor_1 : decode cX6_levelFor 1 = .ok (.getfield 10, 3) := by decide +kernel
theorem dX6_levelFor_4 : decode cX6_levelFor 4 = .ok (.getfield 38, 3) := by decide +kernel
theorem dX6_levelFor_7 : decode cX6_levelFor 7 = .ok (.iload_n 1, 1) := by decide +kernel
theorem dX6_levelFor_8 : decode cX6_levelFor 8 = .ok (.invokevirtual 57, 3) := by decide +kernel
theorem dX6_levelFor_11 : decode cX6_levelFor 11 = .ok (.ifCond .eq 16, 3) := by decide +kernel
theorem dX6_levelFor_14 : decode cX6_levelFor 14 = .ok (.iload_n 2, 1) := by decide +kernel
theorem dX6_levelFor_15 : decode cX6_levelFor 15 = .ok (.sipush (-3000), 3) := by decide +kernel
theorem dX6_levelFor_18 : decode cX6_levelFor 18 = .ok (.sipush 6000, 3) := by decide +kernel
theorem dX6_levelFor_21 : decode cX6_levelFor 21 = .ok (.invokestatic 33, 3) := by decide +kernel
theorem dX6_levelFor_24 : decode cX6_levelFor 24 = .ok (.ifCond .ne 6, 3) := by decide +kernel
theorem dX6_levelFor_27 : decode cX6_levelFor 27 = .ok (.ldc 37, 2) := by decide +kernel
theorem dX6_levelFor_29 : decode cX6_levelFor 29 = .ok (.ireturn, 1) := by decide +kernel
theorem dX6_levelFor_30 : decode cX6_levelFor 30 = .ok (.aload_n 0, 1) := by decide +kernel
theorem dX6_levelFor_31 : decode cX6_levelFor 31 = .ok (.getfield 10, 3) := by decide +kernel
theorem dX6_levelFor_34 : decode cX6_levelFor 34 = .ok (.getfield 38, 3) := by decide +kernel
theorem dX6_levelFor_37 : decode cX6_levelFor 37 = .ok (.iload_n 1, 1) := by decide +kernel
theorem dX6_levelFor_38 : decode cX6_levelFor 38 = .ok (.iload_n 2, 1) := by decide +kernel
theorem dX6_levelFor_39 : decode cX6_levelFor 39 = .ok (.invokevirtual 86, 3) := by decide +kernel
theorem dX6_levelFor_42 : decode cX6_levelFor 42 = .ok (.ireturn, 1) := by decide +kernel
theorem dX6_nearest_0 : decode cX6_nearest 0 = .ok (.iload_n 1, 1) := by decide +kernel
theorem dX6_nearest_1 : decode cX6_nearest 1 = .ok (.iconst 0, 1) := by decide +kernel
theorem dX6_nearest_2 : decode cX6_nearest 2 = .ok (.sipush 6000, 3) := by decide +kernel
theorem dX6_nearest_5 : decode cX6_nearest 5 = .ok (.invokestatic 33, 3) := by decide +kernel
theorem dX6_nearest_8 : decode cX6_nearest 8 = .ok (.ifCond .ne 6, 3) := by decide +kernel
theorem dX6_nearest_11 : decode cX6_nearest 11 = .ok (.ldc 37, 2) := by decide +kernel
theorem dX6_nearest_13 : decode cX6_nearest 13 = .ok (.ireturn, 1) := by decide +kernel
theorem dX6_nearest_14 : decode cX6_nearest 14 = .ok (.aload_n 0, 1) := by decide +kernel
theorem dX6_nearest_15 : decode cX6_nearest 15 = .ok (.getfield 10, 3) := by decide +kernel
theorem dX6_nearest_18 : decode cX6_nearest 18 = .ok (.getfield 38, 3) := by decide +kernel
theorem dX6_nearest_21 : decode cX6_nearest 21 = .ok (.iload_n 1, 1) := by decide +kernel
theorem dX6_nearest_22 : decode cX6_nearest 22 = .ok (.invokevirtual 89, 3) := by decide +kernel
theorem dX6_nearest_25 : decode cX6_nearest 25 = .ok (.invokestatic 92, 3) := by decide +kernel
theorem dX6_nearest_28 : decode cX6_nearest 28 = .ok (.ireturn, 1) := by decide +kernel
theorem dX6_set_0 : decode cX6_set 0 = .ok (.iload_n 1, 1) := by decide +kernel
theorem dX6_set_1 : decode cX6_set 1 = .ok (.iload_n 2, 1) := by decide +kernel
theorem dX6_set_2 : decode cX6_set 2 = .ok (.invokestatic 95, 3) := by decide +kernel
theorem dX6_set_5 : decode cX6_set 5 = .ok (.ifCond .ne 6, 3) := by decide +kernel
theorem dX6_set_8 : decode cX6_set 8 = .ok (.ldc 37, 2) := by decide +kernel
theorem dX6_set_10 : decode cX6_set 10 = .ok (.ireturn, 1) := by decide +kernel
theorem dX6_set_11 : decode cX6_set 11 = .ok (.aload_n 0, 1) := by decide +kernel
theorem dX6_set_12 : decode cX6_set 12 = .ok (.getfield 22, 3) := by decide +kernel
theorem dX6_set_15 : decode cX6_set 15 = .ok (.aload_n 0, 1) := by decide +kernel
theorem dX6_set_16 : decode cX6_set 16 = .ok (.getfield 10, 3) := by decide +kernel
theorem dX6_set_19 : decode cX6_set 19 = .ok (.invokevirtual 49, 3) := by decide +kernel
theorem dX6_set_22 : decode cX6_set 22 = .ok (.aload_n 0, 1) := by decide +kernel
theorem dX6_set_23 : decode cX6_set 23 = .ok (.getfield 10, 3) := by decide +kernel
theorem dX6_set_26 : decode cX6_set 26 = .ok (.iload_n 1, 1) := by decide +kernel
theorem dX6_set_27 : decode cX6_set 27 = .ok (.iload_n 2, 1) := by decide +kernel
theorem dX6_set_28 : decode cX6_set 28 = .ok (.invokevirtual 99, 3) := by decide +kernel
theorem dX6_set_31 : decode cX6_set 31 = .ok (.ireturn, 1) := by decide +kernel
theorem dX6_count_0 : decode cX6_count 0 = .ok (.iload_n 1, 1) := by decide +kernel
theorem dX6_count_1 : decode cX6_count 1 = .ok (.bipush 10, 2) := by decide +kernel
theorem dX6_count_3 : decode cX6_count 3 = .ok (.bipush 13, 2) := by decide +kernel
theorem dX6_count_5 : decode cX6_count 5 = .ok (.invokestatic 33, 3) := by decide +kernel
theorem dX6_count_8 : decode cX6_count 8 = .ok (.ifCond .eq 15, 3) := by decide +kernel
theorem dX6_count_11 : decode cX6_count 11 = .ok (.aload_n 0, 1) := by decide +kernel
theorem dX6_count_12 : decode cX6_count 12 = .ok (.getfield 10, 3) := by decide +kernel
theorem dX6_count_15 : decode cX6_count 15 = .ok (.iload_n 1, 1) := by decide +kernel
theorem dX6_count_16 : decode cX6_count 16 = .ok (.bipush 10, 2) := by decide +kernel
theorem dX6_count_18 : decode cX6_count 18 = .ok (.isub, 1) := by decide +kernel
theorem dX6_count_19 : decode cX6_count 19 = .ok (.invokevirtual 102, 3) := by decide +kernel
theorem dX6_count_22 : decode cX6_count 22 = .ok (.ireturn, 1) := by decide +kernel
theorem dX6_count_23 : decode cX6_count 23 = .ok (.iload_n 1, 1) := by decide +kernel
theorem dX6_count_24 : decode cX6_count 24 = .ok (.bipush 20, 2) := by decide +kernel
theorem dX6_count_26 : decode cX6_count 26 = .ok (.bipush 24, 2) := by decide +kernel
theorem dX6_count_28 : decode cX6_count 28 = .ok (.invokestatic 33, 3) := by decide +kernel
theorem dX6_count_31 : decode cX6_count 31 = .ok (.ifCond .eq 18, 3) := by decide +kernel
theorem dX6_count_34 : decode cX6_count 34 = .ok (.aload_n 0, 1) := by decide +kernel
theorem dX6_count_35 : decode cX6_count 35 = .ok (.getfield 10, 3) := by decide +kernel
theorem dX6_count_38 : decode cX6_count 38 = .ok (.getfield 38, 3) := by decide +kernel
theorem dX6_count_41 : decode cX6_count 41 = .ok (.iload_n 1, 1) := by decide +kernel
theorem dX6_count_42 : decode cX6_count 42 = .ok (.bipush 20, 2) := by decide +kernel
theorem dX6_count_44 : decode cX6_count 44 = .ok (.isub, 1) := by decide +kernel
theorem dX6_count_45 : decode cX6_count 45 = .ok (.invokevirtual 105, 3) := by decide +kernel
theorem dX6_count_48 : decode cX6_count 48 = .ok (.ireturn, 1) := by decide +kernel
theorem dX6_count_49 : decode cX6_count 49 = .ok (.iload_n 1, 1) := by decide +kernel
theorem dX6_count_50 : decode cX6_count 50 = .ok (.tableswitch 150 0 8 #[50, 58, 69, 80, 99, 110, 122, 134, 142], 50) := by decide +kernel
theorem dX6_count_100 : decode cX6_count 100 = .ok (.aload_n 0, 1) := by decide +kernel
theorem dX6_count_101 : decode cX6_count 101 = .ok (.getfield 10, 3) := by decide +kernel
theorem dX6_count_104 : decode cX6_count 104 = .ok (.invokevirtual 108, 3) := by decide +kernel
theorem dX6_count_107 : decode cX6_count 107 = .ok (.ireturn, 1) := by decide +kernel
theorem dX6_count_108 : decode cX6_count 108 = .ok (.aload_n 0, 1) := by decide +kernel
theorem dX6_count_109 : decode cX6_count 109 = .ok (.getfield 10, 3) := by decide +kernel
theorem dX6_count_112 : decode cX6_count 112 = .ok (.getfield 38, 3) := by decide +kernel
theorem dX6_count_115 : decode cX6_count 115 = .ok (.invokevirtual 42, 3) := by decide +kernel
theorem dX6_count_118 : decode cX6_count 118 = .ok (.ireturn, 1) := by decide +kernel
theorem dX6_count_119 : decode cX6_count 119 = .ok (.aload_n 0, 1) := by decide +kernel
theorem dX6_count_120 : decode cX6_count 120 = .ok (.getfield 10, 3) := by decide +kernel
theorem dX6_count_123 : decode cX6_count 123 = .ok (.getfield 111, 3) := by decide +kernel
theorem dX6_count_126 : decode cX6_count 126 = .ok (.invokevirtual 115, 3) := by decide +kernel
theorem dX6_count_129 : decode cX6_count 129 = .ok (.ireturn, 1) := by decide +kernel
theorem dX6_count_130 : decode cX6_count 130 = .ok (.aload_n 0, 1) := by decide +kernel
theorem dX6_count_131 : decode cX6_count 131 = .ok (.getfield 10, 3) := by decide +kernel
theorem dX6_count_134 : decode cX6_count 134 = .ok (.getfield 111, 3) := by decide +kernel
theorem dX6_count_137 : decode cX6_count 137 = .ok (.aload_n 0, 1) := by decide +kernel
theorem dX6_count_138 : decode cX6_count 138 = .ok (.getfield 10, 3) := by decide +kernel
theorem dX6_count_141 : decode cX6_count 141 = .ok (.iconst 1, 1) := by decide +kernel
theorem dX6_count_142 : decode cX6_count 142 = .ok (.invokevirtual 102, 3) := by decide +kernel
theorem dX6_count_145 : decode cX6_count 145 = .ok (.invokevirtual 118, 3) := by decide +kernel
theorem dX6_count_148 : decode cX6_count 148 = .ok (.ireturn, 1) := by decide +kernel
theorem dX6_count_149 : decode cX6_count 149 = .ok (.aload_n 0, 1) := by decide +kernel
theorem dX6_count_150 : decode cX6_count 150 = .ok (.getfield 10, 3) := by decide +kernel
theorem dX6_count_153 : decode cX6_count 153 = .ok (.getfield 111, 3) := by decide +kernel
theorem dX6_count_156 : decode cX6_count 156 = .ok (.invokevirtual 121, 3) := by decide +kernel
theorem dX6_count_159 : decode cX6_count 159 = .ok (.ireturn, 1) := by decide +kernel
theorem dX6_count_160 : decode cX6_count 160 = .ok (.aload_n 0, 1) := by decide +kernel
theorem dX6_count_161 : decode cX6_count 161 = .ok (.getfield 10, 3) := by decide +kernel
theorem dX6_count_164 : decode cX6_count 164 = .ok (.getfield 111, 3) := by decide +kernel
theorem dX6_count_167 : decode cX6_count 167 = .ok (.iconst 3, 1) := by decide +kernel
theorem dX6_count_168 : decode cX6_count 168 = .ok (.invokevirtual 124, 3) := by decide +kernel
theorem dX6_count_171 : decode cX6_count 171 = .ok (.ireturn, 1) := by decide +kernel
theorem dX6_count_172 : decode cX6_count 172 = .ok (.aload_n 0, 1) := by decide +kernel
theorem dX6_count_173 : decode cX6_count 173 = .ok (.getfield 10, 3) := by decide +kernel
theorem dX6_count_176 : decode cX6_count 176 = .ok (.getfield 111, 3) := by decide +kernel
theorem dX6_count_179 : decode cX6_count 179 = .ok (.iconst 1, 1) := by decide +kernel
theorem dX6_count_180 : decode cX6_count 180 = .ok (.invokevirtual 124, 3) := by decide +kernel
theorem dX6_count_183 : decode cX6_count 183 = .ok (.ireturn, 1) := by decide +kernel
theorem dX6_count_184 : decode cX6_count 184 = .ok (.aload_n 0, 1) := by decide +kernel
theorem dX6_count_185 : decode cX6_count 185 = .ok (.getfield 22, 3) := by decide +kernel
theorem dX6_count_188 : decode cX6_count 188 = .ok (.invokevirtual 127, 3) := by decide +kernel
theorem dX6_count_191 : decode cX6_count 191 = .ok (.ireturn, 1) := by decide +kernel
theorem dX6_count_192 : decode cX6_count 192 = .ok (.aload_n 0, 1) := by decide +kernel
theorem dX6_count_193 : decode cX6_count 193 = .ok (.getfield 29, 3) := by decide +kernel
theorem dX6_count_196 : decode cX6_count 196 = .ok (.invokevirtual 128, 3) := by decide +kernel
theorem dX6_count_199 : decode cX6_count 199 = .ok (.ireturn, 1) := by decide +kernel
theorem dX6_count_200 : decode cX6_count 200 = .ok (.ldc 37, 2) := by decide +kernel
theorem dX6_count_202 : decode cX6_count 202 = .ok (.ireturn, 1) := by decide +kernel
theorem dX6_undo_0 : decode cX6_undo 0 = .ok (.aload_n 0, 1) := by decide +kernel
theorem dX6_undo_1 : decode cX6_undo 1 = .ok (.getfield 22, 3) := by decide +kernel
theorem dX6_undo_4 : decode cX6_undo 4 = .ok (.invokevirtual 127, 3) := by decide +kernel
theorem dX6_undo_7 : decode cX6_undo 7 = .ok (.ifCond .ne 6, 3) := by decide +kernel
theorem dX6_undo_10 : decode cX6_undo 10 = .ok (.ldc 72, 2) := by decide +kernel
theorem dX6_undo_12 : decode cX6_undo 12 = .ok (.ireturn, 1) := by decide +kernel
theorem dX6_undo_13 : decode cX6_undo 13 = .ok (.aload_n 0, 1) := by decide +kernel
theorem dX6_undo_14 : decode cX6_undo 14 = .ok (.getfield 22, 3) := by decide +kernel
theorem dX6_undo_17 : decode cX6_undo 17 = .ok (.aload_n 0, 1) := by decide +kernel
theorem dX6_undo_18 : decode cX6_undo 18 = .ok (.getfield 10, 3) := by decide +kernel
theorem dX6_undo_21 : decode cX6_undo 21 = .ok (.invokevirtual 131, 3) := by decide +kernel
theorem dX6_undo_24 : decode cX6_undo 24 = .ok (.aload_n 0, 1) := by decide +kernel
theorem dX6_undo_25 : decode cX6_undo 25 = .ok (.getfield 22, 3) := by decide +kernel
theorem dX6_undo_28 : decode cX6_undo 28 = .ok (.invokevirtual 127, 3) := by decide +kernel
theorem dX6_undo_31 : decode cX6_undo 31 = .ok (.ireturn, 1) := by decide +kernel
theorem dX6_note_0 : decode cX6_note 0 = .ok (.iload_n 1, 1) := by decide +kernel
theorem dX6_note_1 : decode cX6_note 1 = .ok (.iconst 0, 1) := by decide +kernel
theorem dX6_note_2 : decode cX6_note 2 = .ok (.sipush 3600, 3) := by decide +kernel
theorem dX6_note_5 : decode cX6_note 5 = .ok (.invokestatic 33, 3) := by decide +kernel
theorem dX6_note_8 : decode cX6_note 8 = .ok (.ifCond .eq 14, 3) := by decide +kernel
theorem dX6_note_11 : decode cX6_note 11 = .ok (.iload_n 2, 1) := by decide +kernel
theorem dX6_note_12 : decode cX6_note 12 = .ok (.iconst 0, 1) := by decide +kernel
theorem dX6_note_13 : decode cX6_note 13 = .ok (.sipush 6000, 3) := by decide +kernel
theorem dX6_note_16 : decode cX6_note 16 = .ok (.invokestatic 33, 3) := by decide +kernel
theorem dX6_note_19 : decode cX6_note 19 = .ok (.ifCond .ne 6, 3) := by decide +kernel
theorem dX6_note_22 : decode cX6_note 22 = .ok (.ldc 37, 2) := by decide +kernel
theorem dX6_note_24 : decode cX6_note 24 = .ok (.ireturn, 1) := by decide +kernel
theorem dX6_note_25 : decode cX6_note 25 = .ok (.aload_n 0, 1) := by decide +kernel
theorem dX6_note_26 : decode cX6_note 26 = .ok (.getfield 10, 3) := by decide +kernel
theorem dX6_note_29 : decode cX6_note 29 = .ok (.getfield 111, 3) := by decide +kernel
theorem dX6_note_32 : decode cX6_note 32 = .ok (.iload_n 1, 1) := by decide +kernel
theorem dX6_note_33 : decode cX6_note 33 = .ok (.invokevirtual 134, 3) := by decide +kernel
theorem dX6_note_36 : decode cX6_note 36 = .ok (.ifCond .eq 6, 3) := by decide +kernel
theorem dX6_note_39 : decode cX6_note 39 = .ok (.ldc 72, 2) := by decide +kernel
theorem dX6_note_41 : decode cX6_note 41 = .ok (.ireturn, 1) := by decide +kernel
theorem dX6_note_42 : decode cX6_note 42 = .ok (.aload_n 0, 1) := by decide +kernel
theorem dX6_note_43 : decode cX6_note 43 = .ok (.getfield 10, 3) := by decide +kernel
theorem dX6_note_46 : decode cX6_note 46 = .ok (.getfield 111, 3) := by decide +kernel
theorem dX6_note_49 : decode cX6_note 49 = .ok (.invokevirtual 137, 3) := by decide +kernel
theorem dX6_note_52 : decode cX6_note 52 = .ok (.ifCond .eq 6, 3) := by decide +kernel
theorem dX6_note_55 : decode cX6_note 55 = .ok (.ldc 48, 2) := by decide +kernel
theorem dX6_note_57 : decode cX6_note 57 = .ok (.ireturn, 1) := by decide +kernel
theorem dX6_note_58 : decode cX6_note 58 = .ok (.aload_n 0, 1) := by decide +kernel
theorem dX6_note_59 : decode cX6_note 59 = .ok (.getfield 22, 3) := by decide +kernel
theorem dX6_note_62 : decode cX6_note 62 = .ok (.aload_n 0, 1) := by decide +kernel
theorem dX6_note_63 : decode cX6_note 63 = .ok (.getfield 10, 3) := by decide +kernel
theorem dX6_note_66 : decode cX6_note 66 = .ok (.invokevirtual 49, 3) := by decide +kernel
theorem dX6_note_69 : decode cX6_note 69 = .ok (.aload_n 0, 1) := by decide +kernel
theorem dX6_note_70 : decode cX6_note 70 = .ok (.getfield 10, 3) := by decide +kernel
theorem dX6_note_73 : decode cX6_note 73 = .ok (.getfield 111, 3) := by decide +kernel
theorem dX6_note_76 : decode cX6_note 76 = .ok (.iload_n 1, 1) := by decide +kernel
theorem dX6_note_77 : decode cX6_note 77 = .ok (.iload_n 2, 1) := by decide +kernel
theorem dX6_note_78 : decode cX6_note 78 = .ok (.invokevirtual 141, 3) := by decide +kernel
theorem dX6_note_81 : decode cX6_note 81 = .ok (.ireturn, 1) := by decide +kernel
theorem dX6_drop_0 : decode cX6_drop 0 = .ok (.aload_n 0, 1) := by decide +kernel
theorem dX6_drop_1 : decode cX6_drop 1 = .ok (.getfield 10, 3) := by decide +kernel
theorem dX6_drop_4 : decode cX6_drop 4 = .ok (.getfield 111, 3) := by decide +kernel
theorem dX6_drop_7 : decode cX6_drop 7 = .ok (.iload_n 1, 1) := by decide +kernel
theorem dX6_drop_8 : decode cX6_drop 8 = .ok (.invokevirtual 144, 3) := by decide +kernel
theorem dX6_drop_11 : decode cX6_drop 11 = .ok (.ifCond .ne 6, 3) := by decide +kernel
theorem dX6_drop_14 : decode cX6_drop 14 = .ok (.ldc 37, 2) := by decide +kernel
theorem dX6_drop_16 : decode cX6_drop 16 = .ok (.ireturn, 1) := by decide +kernel
theorem dX6_drop_17 : decode cX6_drop 17 = .ok (.aload_n 0, 1) := by decide +kernel
theorem dX6_drop_18 : decode cX6_drop 18 = .ok (.getfield 22, 3) := by decide +kernel
theorem dX6_drop_21 : decode cX6_drop 21 = .ok (.aload_n 0, 1) := by decide +kernel
theorem dX6_drop_22 : decode cX6_drop 22 = .ok (.getfield 10, 3) := by decide +kernel
theorem dX6_drop_25 : decode cX6_drop 25 = .ok (.invokevirtual 49, 3) := by decide +kernel
theorem dX6_drop_28 : decode cX6_drop 28 = .ok (.aload_n 0, 1) := by decide +kernel
theorem dX6_drop_29 : decode cX6_drop 29 = .ok (.getfield 10, 3) := by decide +kernel
theorem dX6_drop_32 : decode cX6_drop 32 = .ok (.getfield 111, 3) := by decide +kernel
theorem dX6_drop_35 : decode cX6_drop 35 = .ok (.iload_n 1, 1) := by decide +kernel
theorem dX6_drop_36 : decode cX6_drop 36 = .ok (.invokevirtual 145, 3) := by decide +kernel
theorem dX6_drop_39 : decode cX6_drop 39 = .ok (.aload_n 0, 1) := by decide +kernel
theorem dX6_drop_40 : decode cX6_drop 40 = .ok (.getfield 10, 3) := by decide +kernel
theorem dX6_drop_43 : decode cX6_drop 43 = .ok (.getfield 111, 3) := by decide +kernel
theorem dX6_drop_46 : decode cX6_drop 46 = .ok (.invokevirtual 115, 3) := by decide +kernel
theorem dX6_drop_49 : decode cX6_drop 49 = .ok (.ireturn, 1) := by decide +kernel
theorem dX6_transpose_0 : decode cX6_transpose 0 = .ok (.aload_n 0, 1) := by decide +kernel
theorem dX6_transpose_1 : decode cX6_transpose 1 = .ok (.getfield 10, 3) := by decide +kernel
theorem dX6_transpose_4 : decode cX6_transpose 4 = .ok (.getfield 111, 3) := by decide +kernel
theorem dX6_transpose_7 : decode cX6_transpose 7 = .ok (.iload_n 1, 1) := by decide +kernel
theorem dX6_transpose_8 : decode cX6_transpose 8 = .ok (.invokevirtual 144, 3) := by decide +kernel
theorem dX6_transpose_11 : decode cX6_transpose 11 = .ok (.ifCond .eq 39, 3) := by decide +kernel
theorem dX6_transpose_14 : decode cX6_transpose 14 = .ok (.aload_n 0, 1) := by decide +kernel
theorem dX6_transpose_15 : decode cX6_transpose 15 = .ok (.getfield 10, 3) := by decide +kernel
theorem dX6_transpose_18 : decode cX6_transpose 18 = .ok (.getfield 111, 3) := by decide +kernel
theorem dX6_transpose_21 : decode cX6_transpose 21 = .ok (.iload_n 2, 1) := by decide +kernel
theorem dX6_transpose_22 : decode cX6_transpose 22 = .ok (.invokevirtual 144, 3) := by decide +kernel
theorem dX6_transpose_25 : decode cX6_transpose 25 = .ok (.ifCond .eq 25, 3) := by decide +kernel
theorem dX6_transpose_28 : decode cX6_transpose 28 = .ok (.iload_n 2, 1) := by decide +kernel
theorem dX6_transpose_29 : decode cX6_transpose 29 = .ok (.iload_n 1, 1) := by decide +kernel
theorem dX6_transpose_30 : decode cX6_transpose 30 = .ok (.if_icmp .lt 20, 3) := by decide +kernel
theorem dX6_transpose_33 : decode cX6_transpose 33 = .ok (.iload_n 3, 1) := by decide +kernel
theorem dX6_transpose_34 : decode cX6_transpose 34 = .ok (.sipush (-6000), 3) := by decide +kernel
theorem dX6_transpose_37 : decode cX6_transpose 37 = .ok (.sipush 6000, 3) := by decide +kernel
theorem dX6_transpose_40 : decode cX6_transpose 40 = .ok (.invokestatic 33, 3) := by decide +kernel
theorem dX6_transpose_43 : decode cX6_transpose 43 = .ok (.ifCond .eq 7, 3) := by decide +kernel
theorem dX6_transpose_46 : decode cX6_transpose 46 = .ok (.iload_n 3, 1) := by decide +kernel
theorem dX6_transpose_47 : decode cX6_transpose 47 = .ok (.ifCond .ne 6, 3) := by decide +kernel
theorem dX6_transpose_50 : decode cX6_transpose 50 = .ok (.ldc 37, 2) := by decide +kernel
theorem dX6_transpose_52 : decode cX6_transpose 52 = .ok (.ireturn, 1) := by decide +kernel
theorem dX6_transpose_53 : decode cX6_transpose 53 = .ok (.aload_n 0, 1) := by decide +kernel
theorem dX6_transpose_54 : decode cX6_transpose 54 = .ok (.getfield 10, 3) := by decide +kernel
theorem dX6_transpose_57 : decode cX6_transpose 57 = .ok (.getfield 111, 3) := by decide +kernel
theorem dX6_transpose_60 : decode cX6_transpose 60 = .ok (.iload_n 1, 1) := by decide +kernel
theorem dX6_transpose_61 : decode cX6_transpose 61 = .ok (.iload_n 2, 1) := by decide +kernel
theorem dX6_transpose_62 : decode cX6_transpose 62 = .ok (.iload_n 3, 1) := by decide +kernel
theorem dX6_transpose_63 : decode cX6_transpose 63 = .ok (.invokevirtual 146, 3) := by decide +kernel
theorem dX6_transpose_66 : decode cX6_transpose 66 = .ok (.ifCond .ne 6, 3) := by decide +kernel
theorem dX6_transpose_69 : decode cX6_transpose 69 = .ok (.ldc 72, 2) := by decide +kernel
theorem dX6_transpose_71 : decode cX6_transpose 71 = .ok (.ireturn, 1) := by decide +kernel
theorem dX6_transpose_72 : decode cX6_transpose 72 = .ok (.aload_n 0, 1) := by decide +kernel
theorem dX6_transpose_73 : decode cX6_transpose 73 = .ok (.getfield 22, 3) := by decide +kernel
theorem dX6_transpose_76 : decode cX6_transpose 76 = .ok (.aload_n 0, 1) := by decide +kernel
theorem dX6_transpose_77 : decode cX6_transpose 77 = .ok (.getfield 10, 3) := by decide +kernel
theorem dX6_transpose_80 : decode cX6_transpose 80 = .ok (.invokevirtual 49, 3) := by decide +kernel
theorem dX6_transpose_83 : decode cX6_transpose 83 = .ok (.aload_n 0, 1) := by decide +kernel
theorem dX6_transpose_84 : decode cX6_transpose 84 = .ok (.getfield 10, 3) := by decide +kernel
theorem dX6_transpose_87 : decode cX6_transpose 87 = .ok (.getfield 111, 3) := by decide +kernel
theorem dX6_transpose_90 : decode cX6_transpose 90 = .ok (.iload_n 1, 1) := by decide +kernel
theorem dX6_transpose_91 : decode cX6_transpose 91 = .ok (.iload_n 2, 1) := by decide +kernel
theorem dX6_transpose_92 : decode cX6_transpose 92 = .ok (.iload_n 3, 1) := by decide +kernel
theorem dX6_transpose_93 : decode cX6_transpose 93 = .ok (.invokevirtual 149, 3) := by decide +kernel
theorem dX6_transpose_96 : decode cX6_transpose 96 = .ok (.iload_n 2, 1) := by decide +kernel
theorem dX6_transpose_97 : decode cX6_transpose 97 = .ok (.iload_n 1, 1) := by decide +kernel
theorem dX6_transpose_98 : decode cX6_transpose 98 = .ok (.isub, 1) := by decide +kernel
theorem dX6_transpose_99 : decode cX6_transpose 99 = .ok (.iconst 1, 1) := by decide +kernel
theorem dX6_transpose_100 : decode cX6_transpose 100 = .ok (.iadd, 1) := by decide +kernel
theorem dX6_transpose_101 : decode cX6_transpose 101 = .ok (.ireturn, 1) := by decide +kernel
theorem dX6_noteOf_0 : decode cX6_noteOf 0 = .ok (.aload_n 0, 1) := by decide +kernel
theorem dX6_noteOf_1 : decode cX6_noteOf 1 = .ok (.getfield 10, 3) := by decide +kernel
theorem dX6_noteOf_4 : decode cX6_noteOf 4 = .ok (.getfield 111, 3) := by decide +kernel
theorem dX6_noteOf_7 : decode cX6_noteOf 7 = .ok (.iload_n 1, 1) := by decide +kernel
theorem dX6_noteOf_8 : decode cX6_noteOf 8 = .ok (.invokevirtual 144, 3) := by decide +kernel
theorem dX6_noteOf_11 : decode cX6_noteOf 11 = .ok (.ifCond .ne 6, 3) := by decide +kernel
theorem dX6_noteOf_14 : decode cX6_noteOf 14 = .ok (.ldc 37, 2) := by decide +kernel
theorem dX6_noteOf_16 : decode cX6_noteOf 16 = .ok (.ireturn, 1) := by decide +kernel
theorem dX6_noteOf_17 : decode cX6_noteOf 17 = .ok (.aload_n 0, 1) := by decide +kernel
theorem dX6_noteOf_18 : decode cX6_noteOf 18 = .ok (.getfield 10, 3) := by decide +kernel
theorem dX6_noteOf_21 : decode cX6_noteOf 21 = .ok (.getfield 111, 3) := by decide +kernel
theorem dX6_noteOf_24 : decode cX6_noteOf 24 = .ok (.iload_n 1, 1) := by decide +kernel
theorem dX6_noteOf_25 : decode cX6_noteOf 25 = .ok (.iload_n 2, 1) := by decide +kernel
theorem dX6_noteOf_26 : decode cX6_noteOf 26 = .ok (.aload_n 0, 1) := by decide +kernel
theorem dX6_noteOf_27 : decode cX6_noteOf 27 = .ok (.getfield 10, 3) := by decide +kernel
theorem dX6_noteOf_30 : decode cX6_noteOf 30 = .ok (.iconst 1, 1) := by decide +kernel
theorem dX6_noteOf_31 : decode cX6_noteOf 31 = .ok (.invokevirtual 102, 3) := by decide +kernel
theorem dX6_noteOf_34 : decode cX6_noteOf 34 = .ok (.invokevirtual 153, 3) := by decide +kernel
theorem dX6_noteOf_37 : decode cX6_noteOf 37 = .ok (.ireturn, 1) := by decide +kernel
theorem dX6_run_0 : decode cX6_run 0 = .ok (.iload_n 1, 1) := by decide +kernel
theorem dX6_run_1 : decode cX6_run 1 = .ok (.iconst 1, 1) := by decide +kernel
theorem dX6_run_2 : decode cX6_run 2 = .ok (.sipush 600, 3) := by decide +kernel
theorem dX6_run_5 : decode cX6_run 5 = .ok (.invokestatic 33, 3) := by decide +kernel
theorem dX6_run_8 : decode cX6_run 8 = .ok (.ifCond .ne 6, 3) := by decide +kernel
theorem dX6_run_11 : decode cX6_run 11 = .ok (.ldc 37, 2) := by decide +kernel
theorem dX6_run_13 : decode cX6_run 13 = .ok (.ireturn, 1) := by decide +kernel
theorem dX6_run_14 : decode cX6_run 14 = .ok (.aload_n 0, 1) := by decide +kernel
theorem dX6_run_15 : decode cX6_run 15 = .ok (.getfield 10, 3) := by decide +kernel
theorem dX6_run_18 : decode cX6_run 18 = .ok (.invokevirtual 108, 3) := by decide +kernel
theorem dX6_run_21 : decode cX6_run 21 = .ok (.iload_n 1, 1) := by decide +kernel
theorem dX6_run_22 : decode cX6_run 22 = .ok (.iadd, 1) := by decide +kernel
theorem dX6_run_23 : decode cX6_run 23 = .ok (.istore_n 2, 1) := by decide +kernel
theorem dX6_run_24 : decode cX6_run 24 = .ok (.iload_n 2, 1) := by decide +kernel
theorem dX6_run_25 : decode cX6_run 25 = .ok (.sipush 3600, 3) := by decide +kernel
theorem dX6_run_28 : decode cX6_run 28 = .ok (.if_icmp .le 6, 3) := by decide +kernel
theorem dX6_run_31 : decode cX6_run 31 = .ok (.ldc 48, 2) := by decide +kernel
theorem dX6_run_33 : decode cX6_run 33 = .ok (.ireturn, 1) := by decide +kernel
theorem dX6_run_34 : decode cX6_run 34 = .ok (.aload_n 0, 1) := by decide +kernel
theorem dX6_run_35 : decode cX6_run 35 = .ok (.getfield 22, 3) := by decide +kernel
theorem dX6_run_38 : decode cX6_run 38 = .ok (.aload_n 0, 1) := by decide +kernel
theorem dX6_run_39 : decode cX6_run 39 = .ok (.getfield 10, 3) := by decide +kernel
theorem dX6_run_42 : decode cX6_run 42 = .ok (.invokevirtual 49, 3) := by decide +kernel
theorem dX6_run_45 : decode cX6_run 45 = .ok (.aload_n 0, 1) := by decide +kernel
theorem dX6_run_46 : decode cX6_run 46 = .ok (.getfield 10, 3) := by decide +kernel
theorem dX6_run_49 : decode cX6_run 49 = .ok (.iload_n 2, 1) := by decide +kernel
theorem dX6_run_50 : decode cX6_run 50 = .ok (.invokevirtual 156, 3) := by decide +kernel
theorem dX6_run_53 : decode cX6_run 53 = .ok (.ireturn, 1) := by decide +kernel
theorem dX6_rewind_0 : decode cX6_rewind 0 = .ok (.aload_n 0, 1) := by decide +kernel
theorem dX6_rewind_1 : decode cX6_rewind 1 = .ok (.getfield 22, 3) := by decide +kernel
theorem dX6_rewind_4 : decode cX6_rewind 4 = .ok (.aload_n 0, 1) := by decide +kernel
theorem dX6_rewind_5 : decode cX6_rewind 5 = .ok (.getfield 10, 3) := by decide +kernel
theorem dX6_rewind_8 : decode cX6_rewind 8 = .ok (.invokevirtual 49, 3) := by decide +kernel
theorem dX6_rewind_11 : decode cX6_rewind 11 = .ok (.aload_n 0, 1) := by decide +kernel
theorem dX6_rewind_12 : decode cX6_rewind 12 = .ok (.getfield 10, 3) := by decide +kernel
theorem dX6_rewind_15 : decode cX6_rewind 15 = .ok (.invokevirtual 108, 3) := by decide +kernel
theorem dX6_rewind_18 : decode cX6_rewind 18 = .ok (.istore_n 1, 1) := by decide +kernel
theorem dX6_rewind_19 : decode cX6_rewind 19 = .ok (.aload_n 0, 1) := by decide +kernel
theorem dX6_rewind_20 : decode cX6_rewind 20 = .ok (.getfield 10, 3) := by decide +kernel
theorem dX6_rewind_23 : decode cX6_rewind 23 = .ok (.invokevirtual 159, 3) := by decide +kernel
theorem dX6_rewind_26 : decode cX6_rewind 26 = .ok (.iload_n 1, 1) := by decide +kernel
theorem dX6_rewind_27 : decode cX6_rewind 27 = .ok (.ireturn, 1) := by decide +kernel
theorem dX6_worst_0 : decode cX6_worst 0 = .ok (.iload_n 1, 1) := by decide +kernel
theorem dX6_worst_1 : decode cX6_worst 1 = .ok (.ifCond .ge 6, 3) := by decide +kernel
theorem dX6_worst_4 : decode cX6_worst 4 = .ok (.ldc 37, 2) := by decide +kernel
theorem dX6_worst_6 : decode cX6_worst 6 = .ok (.ireturn, 1) := by decide +kernel
theorem dX6_worst_7 : decode cX6_worst 7 = .ok (.aload_n 0, 1) := by decide +kernel
theorem dX6_worst_8 : decode cX6_worst 8 = .ok (.getfield 10, 3) := by decide +kernel
theorem dX6_worst_11 : decode cX6_worst 11 = .ok (.getfield 111, 3) := by decide +kernel
theorem dX6_worst_14 : decode cX6_worst 14 = .ok (.iload_n 1, 1) := by decide +kernel
theorem dX6_worst_15 : decode cX6_worst 15 = .ok (.invokevirtual 162, 3) := by decide +kernel
theorem dX6_worst_18 : decode cX6_worst 18 = .ok (.invokestatic 92, 3) := by decide +kernel
theorem dX6_worst_21 : decode cX6_worst 21 = .ok (.ireturn, 1) := by decide +kernel
theorem dX6_wouldBe_0 : decode cX6_wouldBe 0 = .ok (.aload_n 0, 1) := by decide +kernel
theorem dX6_wouldBe_1 : decode cX6_wouldBe 1 = .ok (.getfield 10, 3) := by decide +kernel
theorem dX6_wouldBe_4 : decode cX6_wouldBe 4 = .ok (.getfield 111, 3) := by decide +kernel
theorem dX6_wouldBe_7 : decode cX6_wouldBe 7 = .ok (.iload_n 1, 1) := by decide +kernel
theorem dX6_wouldBe_8 : decode cX6_wouldBe 8 = .ok (.invokevirtual 144, 3) := by decide +kernel
theorem dX6_wouldBe_11 : decode cX6_wouldBe 11 = .ok (.ifCond .ne 6, 3) := by decide +kernel
theorem dX6_wouldBe_14 : decode cX6_wouldBe 14 = .ok (.ldc 37, 2) := by decide +kernel
theorem dX6_wouldBe_16 : decode cX6_wouldBe 16 = .ok (.ireturn, 1) := by decide +kernel
theorem dX6_wouldBe_17 : decode cX6_wouldBe 17 = .ok (.aload_n 0, 1) := by decide +kernel
theorem dX6_wouldBe_18 : decode cX6_wouldBe 18 = .ok (.getfield 10, 3) := by decide +kernel
theorem dX6_wouldBe_21 : decode cX6_wouldBe 21 = .ok (.getfield 111, 3) := by decide +kernel
theorem dX6_wouldBe_24 : decode cX6_wouldBe 24 = .ok (.iload_n 1, 1) := by decide +kernel
theorem dX6_wouldBe_25 : decode cX6_wouldBe 25 = .ok (.invokevirtual 165, 3) := by decide +kernel
theorem dX6_wouldBe_28 : decode cX6_wouldBe 28 = .ok (.istore_n 2, 1) := by decide +kernel
theorem dX6_wouldBe_29 : decode cX6_wouldBe 29 = .ok (.iload_n 2, 1) := by decide +kernel
theorem dX6_wouldBe_30 : decode cX6_wouldBe 30 = .ok (.aload_n 0, 1) := by decide +kernel
theorem dX6_wouldBe_31 : decode cX6_wouldBe 31 = .ok (.getfield 10, 3) := by decide +kernel
theorem dX6_wouldBe_34 : decode cX6_wouldBe 34 = .ok (.invokevirtual 108, 3) := by decide +kernel
theorem dX6_wouldBe_37 : decode cX6_wouldBe 37 = .ok (.if_icmp .gt 6, 3) := by decide +kernel
theorem dX6_wouldBe_40 : decode cX6_wouldBe 40 = .ok (.ldc 72, 2) := by decide +kernel
theorem dX6_wouldBe_42 : decode cX6_wouldBe 42 = .ok (.ireturn, 1) := by decide +kernel
theorem dX6_wouldBe_43 : decode cX6_wouldBe 43 = .ok (.aload_n 0, 1) := by decide +kernel
theorem dX6_wouldBe_44 : decode cX6_wouldBe 44 = .ok (.getfield 10, 3) := by decide +kernel
theorem dX6_wouldBe_47 : decode cX6_wouldBe 47 = .ok (.getfield 38, 3) := by decide +kernel
theorem dX6_wouldBe_50 : decode cX6_wouldBe 50 = .ok (.invokevirtual 42, 3) := by decide +kernel
theorem dX6_wouldBe_53 : decode cX6_wouldBe 53 = .ok (.ifCond .ne 6, 3) := by decide +kernel
theorem dX6_wouldBe_56 : decode cX6_wouldBe 56 = .ok (.ldc 168, 2) := by decide +kernel
theorem dX6_wouldBe_58 : decode cX6_wouldBe 58 = .ok (.ireturn, 1) := by decide +kernel
theorem dX6_wouldBe_59 : decode cX6_wouldBe 59 = .ok (.aload_n 0, 1) := by decide +kernel
theorem dX6_wouldBe_60 : decode cX6_wouldBe 60 = .ok (.iload_n 2, 1) := by decide +kernel
theorem dX6_wouldBe_61 : decode cX6_wouldBe 61 = .ok (.invokevirtual 169, 3) := by decide +kernel
theorem dX6_wouldBe_64 : decode cX6_wouldBe 64 = .ok (.aload_n 0, 1) := by decide +kernel
theorem dX6_wouldBe_65 : decode cX6_wouldBe 65 = .ok (.getfield 16, 3) := by decide +kernel
theorem dX6_wouldBe_68 : decode cX6_wouldBe 68 = .ok (.getfield 111, 3) := by decide +kernel
theorem dX6_wouldBe_71 : decode cX6_wouldBe 71 = .ok (.iload_n 1, 1) := by decide +kernel
theorem dX6_wouldBe_72 : decode cX6_wouldBe 72 = .ok (.invokevirtual 172, 3) := by decide +kernel
theorem dX6_wouldBe_75 : decode cX6_wouldBe 75 = .ok (.ireturn, 1) := by decide +kernel
theorem dX6_firstFalse_0 : decode cX6_firstFalse 0 = .ok (.aload_n 0, 1) := by decide +kernel
theorem dX6_firstFalse_1 : decode cX6_firstFalse 1 = .ok (.sipush 3600, 3) := by decide +kernel
theorem dX6_firstFalse_4 : decode cX6_firstFalse 4 = .ok (.invokevirtual 169, 3) := by decide +kernel
theorem dX6_firstFalse_7 : decode cX6_firstFalse 7 = .ok (.aload_n 0, 1) := by decide +kernel
theorem dX6_firstFalse_8 : decode cX6_firstFalse 8 = .ok (.getfield 16, 3) := by decide +kernel
theorem dX6_firstFalse_11 : decode cX6_firstFalse 11 = .ok (.getfield 111, 3) := by decide +kernel
theorem dX6_firstFalse_14 : decode cX6_firstFalse 14 = .ok (.aload_n 0, 1) := by decide +kernel
theorem dX6_firstFalse_15 : decode cX6_firstFalse 15 = .ok (.getfield 10, 3) := by decide +kernel
theorem dX6_firstFalse_18 : decode cX6_firstFalse 18 = .ok (.invokevirtual 108, 3) := by decide +kernel
theorem dX6_firstFalse_21 : decode cX6_firstFalse 21 = .ok (.invokevirtual 175, 3) := by decide +kernel
theorem dX6_firstFalse_24 : decode cX6_firstFalse 24 = .ok (.invokestatic 92, 3) := by decide +kernel
theorem dX6_firstFalse_27 : decode cX6_firstFalse 27 = .ok (.ireturn, 1) := by decide +kernel
theorem dX6_leastTolerance_0 : decode cX6_leastTolerance 0 = .ok (.aload_n 0, 1) := by decide +kernel
theorem dX6_leastTolerance_1 : decode cX6_leastTolerance 1 = .ok (.sipush 3600, 3) := by decide +kernel
theorem dX6_leastTolerance_4 : decode cX6_leastTolerance 4 = .ok (.invokevirtual 169, 3) := by decide +kernel
theorem dX6_leastTolerance_7 : decode cX6_leastTolerance 7 = .ok (.aload_n 0, 1) := by decide +kernel
theorem dX6_leastTolerance_8 : decode cX6_leastTolerance 8 = .ok (.getfield 16, 3) := by decide +kernel
theorem dX6_leastTolerance_11 : decode cX6_leastTolerance 11 = .ok (.getfield 111, 3) := by decide +kernel
theorem dX6_leastTolerance_14 : decode cX6_leastTolerance 14 = .ok (.aload_n 0, 1) := by decide +kernel
theorem dX6_leastTolerance_15 : decode cX6_leastTolerance 15 = .ok (.getfield 10, 3) := by decide +kernel
theorem dX6_leastTolerance_18 : decode cX6_leastTolerance 18 = .ok (.invokevirtual 108, 3) := by decide +kernel
theorem dX6_leastTolerance_21 : decode cX6_leastTolerance 21 = .ok (.invokevirtual 178, 3) := by decide +kernel
theorem dX6_leastTolerance_24 : decode cX6_leastTolerance 24 = .ok (.invokestatic 92, 3) := by decide +kernel
theorem dX6_leastTolerance_27 : decode cX6_leastTolerance 27 = .ok (.ireturn, 1) := by decide +kernel
theorem dX6_pitchAt_0 : decode cX6_pitchAt 0 = .ok (.aload_n 0, 1) := by decide +kernel
theorem dX6_pitchAt_1 : decode cX6_pitchAt 1 = .ok (.getfield 10, 3) := by decide +kernel
theorem dX6_pitchAt_4 : decode cX6_pitchAt 4 = .ok (.getfield 38, 3) := by decide +kernel
theorem dX6_pitchAt_7 : decode cX6_pitchAt 7 = .ok (.iload_n 1, 1) := by decide +kernel
theorem dX6_pitchAt_8 : decode cX6_pitchAt 8 = .ok (.invokevirtual 57, 3) := by decide +kernel
theorem dX6_pitchAt_11 : decode cX6_pitchAt 11 = .ok (.ifCond .eq 20, 3) := by decide +kernel
theorem dX6_pitchAt_14 : decode cX6_pitchAt 14 = .ok (.iload_n 2, 1) := by decide +kernel
theorem dX6_pitchAt_15 : decode cX6_pitchAt 15 = .ok (.aload_n 0, 1) := by decide +kernel
theorem dX6_pitchAt_16 : decode cX6_pitchAt 16 = .ok (.getfield 10, 3) := by decide +kernel
theorem dX6_pitchAt_19 : decode cX6_pitchAt 19 = .ok (.invokevirtual 108, 3) := by decide +kernel
theorem dX6_pitchAt_22 : decode cX6_pitchAt 22 = .ok (.sipush 3600, 3) := by decide +kernel
theorem dX6_pitchAt_25 : decode cX6_pitchAt 25 = .ok (.invokestatic 33, 3) := by decide +kernel
theorem dX6_pitchAt_28 : decode cX6_pitchAt 28 = .ok (.ifCond .ne 6, 3) := by decide +kernel
theorem dX6_pitchAt_31 : decode cX6_pitchAt 31 = .ok (.ldc 37, 2) := by decide +kernel
theorem dX6_pitchAt_33 : decode cX6_pitchAt 33 = .ok (.ireturn, 1) := by decide +kernel
theorem dX6_pitchAt_34 : decode cX6_pitchAt 34 = .ok (.aload_n 0, 1) := by decide +kernel
theorem dX6_pitchAt_35 : decode cX6_pitchAt 35 = .ok (.iload_n 2, 1) := by decide +kernel
theorem dX6_pitchAt_36 : decode cX6_pitchAt 36 = .ok (.invokevirtual 169, 3) := by decide +kernel
theorem dX6_pitchAt_39 : decode cX6_pitchAt 39 = .ok (.aload_n 0, 1) := by decide +kernel
theorem dX6_pitchAt_40 : decode cX6_pitchAt 40 = .ok (.getfield 16, 3) := by decide +kernel
theorem dX6_pitchAt_43 : decode cX6_pitchAt 43 = .ok (.getfield 38, 3) := by decide +kernel
theorem dX6_pitchAt_46 : decode cX6_pitchAt 46 = .ok (.iload_n 1, 1) := by decide +kernel
theorem dX6_pitchAt_47 : decode cX6_pitchAt 47 = .ok (.invokevirtual 181, 3) := by decide +kernel
theorem dX6_pitchAt_50 : decode cX6_pitchAt 50 = .ok (.ireturn, 1) := by decide +kernel
theorem dX6_type_0 : decode cX6_type 0 = .ok (.iload_n 1, 1) := by decide +kernel
theorem dX6_type_1 : decode cX6_type 1 = .ok (.bipush 32, 2) := by decide +kernel
theorem dX6_type_3 : decode cX6_type 3 = .ok (.bipush 126, 2) := by decide +kernel
theorem dX6_type_5 : decode cX6_type 5 = .ok (.invokestatic 33, 3) := by decide +kernel
theorem dX6_type_8 : decode cX6_type 8 = .ok (.ifCond .ne 6, 3) := by decide +kernel
theorem dX6_type_11 : decode cX6_type 11 = .ok (.ldc 37, 2) := by decide +kernel
theorem dX6_type_13 : decode cX6_type 13 = .ok (.ireturn, 1) := by decide +kernel
theorem dX6_type_14 : decode cX6_type 14 = .ok (.aload_n 0, 1) := by decide +kernel
theorem dX6_type_15 : decode cX6_type 15 = .ok (.getfield 29, 3) := by decide +kernel
theorem dX6_type_18 : decode cX6_type 18 = .ok (.invokevirtual 128, 3) := by decide +kernel
theorem dX6_type_21 : decode cX6_type 21 = .ok (.bipush 100, 2) := by decide +kernel
theorem dX6_type_23 : decode cX6_type 23 = .ok (.if_icmp .lt 6, 3) := by decide +kernel
theorem dX6_type_26 : decode cX6_type 26 = .ok (.ldc 48, 2) := by decide +kernel
theorem dX6_type_28 : decode cX6_type 28 = .ok (.ireturn, 1) := by decide +kernel
theorem dX6_type_29 : decode cX6_type 29 = .ok (.aload_n 0, 1) := by decide +kernel
theorem dX6_type_30 : decode cX6_type 30 = .ok (.getfield 29, 3) := by decide +kernel
theorem dX6_type_33 : decode cX6_type 33 = .ok (.iload_n 1, 1) := by decide +kernel
theorem dX6_type_34 : decode cX6_type 34 = .ok (.invokevirtual 184, 3) := by decide +kernel
theorem dX6_type_37 : decode cX6_type 37 = .ok (.aload_n 0, 1) := by decide +kernel
theorem dX6_type_38 : decode cX6_type 38 = .ok (.getfield 29, 3) := by decide +kernel
theorem dX6_type_41 : decode cX6_type 41 = .ok (.invokevirtual 128, 3) := by decide +kernel
theorem dX6_type_44 : decode cX6_type 44 = .ok (.ireturn, 1) := by decide +kernel
theorem dX6_clearText_0 : decode cX6_clearText 0 = .ok (.aload_n 0, 1) := by decide +kernel
theorem dX6_clearText_1 : decode cX6_clearText 1 = .ok (.getfield 29, 3) := by decide +kernel
theorem dX6_clearText_4 : decode cX6_clearText 4 = .ok (.invokevirtual 128, 3) := by decide +kernel
theorem dX6_clearText_7 : decode cX6_clearText 7 = .ok (.istore_n 1, 1) := by decide +kernel
theorem dX6_clearText_8 : decode cX6_clearText 8 = .ok (.aload_n 0, 1) := by decide +kernel
theorem dX6_clearText_9 : decode cX6_clearText 9 = .ok (.getfield 29, 3) := by decide +kernel
theorem dX6_clearText_12 : decode cX6_clearText 12 = .ok (.invokevirtual 186, 3) := by decide +kernel
theorem dX6_clearText_15 : decode cX6_clearText 15 = .ok (.iload_n 1, 1) := by decide +kernel
theorem dX6_clearText_16 : decode cX6_clearText 16 = .ok (.ireturn, 1) := by decide +kernel
theorem dX6_fault_0 : decode cX6_fault 0 = .ok (.iload_n 1, 1) := by decide +kernel
theorem dX6_fault_1 : decode cX6_fault 1 = .ok (.iconst 0, 1) := by decide +kernel
theorem dX6_fault_2 : decode cX6_fault 2 = .ok (.iconst 1, 1) := by decide +kernel
theorem dX6_fault_3 : decode cX6_fault 3 = .ok (.invokestatic 33, 3) := by decide +kernel
theorem dX6_fault_6 : decode cX6_fault 6 = .ok (.ifCond .ne 6, 3) := by decide +kernel
theorem dX6_fault_9 : decode cX6_fault 9 = .ok (.ldc 37, 2) := by decide +kernel
theorem dX6_fault_11 : decode cX6_fault 11 = .ok (.ireturn, 1) := by decide +kernel
theorem dX6_fault_12 : decode cX6_fault 12 = .ok (.aload_n 0, 1) := by decide +kernel
theorem dX6_fault_13 : decode cX6_fault 13 = .ok (.invokevirtual 189, 3) := by decide +kernel
theorem dX6_fault_16 : decode cX6_fault 16 = .ok (.aload_n 0, 1) := by decide +kernel
theorem dX6_fault_17 : decode cX6_fault 17 = .ok (.getfield 29, 3) := by decide +kernel
theorem dX6_fault_20 : decode cX6_fault 20 = .ok (.invokevirtual 192, 3) := by decide +kernel
theorem dX6_fault_23 : decode cX6_fault 23 = .ok (.ifCond .ne 6, 3) := by decide +kernel
theorem dX6_fault_26 : decode cX6_fault 26 = .ok (.ldc 168, 2) := by decide +kernel
theorem dX6_fault_28 : decode cX6_fault 28 = .ok (.ireturn, 1) := by decide +kernel
theorem dX6_fault_29 : decode cX6_fault 29 = .ok (.iload_n 1, 1) := by decide +kernel
theorem dX6_fault_30 : decode cX6_fault 30 = .ok (.ifCond .ne 13, 3) := by decide +kernel
theorem dX6_fault_33 : decode cX6_fault 33 = .ok (.aload_n 0, 1) := by decide +kernel
theorem dX6_fault_34 : decode cX6_fault 34 = .ok (.getfield 29, 3) := by decide +kernel
theorem dX6_fault_37 : decode cX6_fault 37 = .ok (.invokevirtual 195, 3) := by decide +kernel
theorem dX6_fault_40 : decode cX6_fault 40 = .ok (.goto 10, 3) := by decide +kernel
theorem dX6_fault_43 : decode cX6_fault 43 = .ok (.aload_n 0, 1) := by decide +kernel
theorem dX6_fault_44 : decode cX6_fault 44 = .ok (.getfield 29, 3) := by decide +kernel
theorem dX6_fault_47 : decode cX6_fault 47 = .ok (.invokevirtual 192, 3) := by decide +kernel
theorem dX6_fault_50 : decode cX6_fault 50 = .ok (.ireturn, 1) := by decide +kernel
theorem dX6_enter_0 : decode cX6_enter 0 = .ok (.aload_n 0, 1) := by decide +kernel
theorem dX6_enter_1 : decode cX6_enter 1 = .ok (.invokevirtual 189, 3) := by decide +kernel
theorem dX6_enter_4 : decode cX6_enter 4 = .ok (.aload_n 0, 1) := by decide +kernel
theorem dX6_enter_5 : decode cX6_enter 5 = .ok (.getfield 29, 3) := by decide +kernel
theorem dX6_enter_8 : decode cX6_enter 8 = .ok (.invokevirtual 192, 3) := by decide +kernel
theorem dX6_enter_11 : decode cX6_enter 11 = .ok (.ifCond .eq 6, 3) := by decide +kernel
theorem dX6_enter_14 : decode cX6_enter 14 = .ok (.ldc 72, 2) := by decide +kernel
theorem dX6_enter_16 : decode cX6_enter 16 = .ok (.ireturn, 1) := by decide +kernel
theorem dX6_enter_17 : decode cX6_enter 17 = .ok (.aload_n 0, 1) := by decide +kernel
theorem dX6_enter_18 : decode cX6_enter 18 = .ok (.getfield 22, 3) := by decide +kernel
theorem dX6_enter_21 : decode cX6_enter 21 = .ok (.aload_n 0, 1) := by decide +kernel
theorem dX6_enter_22 : decode cX6_enter 22 = .ok (.getfield 10, 3) := by decide +kernel
theorem dX6_enter_25 : decode cX6_enter 25 = .ok (.invokevirtual 49, 3) := by decide +kernel
theorem dX6_enter_28 : decode cX6_enter 28 = .ok (.aload_n 0, 1) := by decide +kernel
theorem dX6_enter_29 : decode cX6_enter 29 = .ok (.getfield 10, 3) := by decide +kernel
theorem dX6_enter_32 : decode cX6_enter 32 = .ok (.aload_n 0, 1) := by decide +kernel
theorem dX6_enter_33 : decode cX6_enter 33 = .ok (.getfield 16, 3) := by decide +kernel
theorem dX6_enter_36 : decode cX6_enter 36 = .ok (.invokevirtual 198, 3) := by decide +kernel
theorem dX6_enter_39 : decode cX6_enter 39 = .ok (.aload_n 0, 1) := by decide +kernel
theorem dX6_enter_40 : decode cX6_enter 40 = .ok (.getfield 29, 3) := by decide +kernel
theorem dX6_enter_43 : decode cX6_enter 43 = .ok (.invokevirtual 201, 3) := by decide +kernel
theorem dX6_enter_46 : decode cX6_enter 46 = .ok (.ireturn, 1) := by decide +kernel
theorem dX6_isWithin_0 : decode cX6_isWithin 0 = .ok (.iload_n 0, 1) := by decide +kernel
theorem dX6_isWithin_1 : decode cX6_isWithin 1 = .ok (.iload_n 1, 1) := by decide +kernel
theorem dX6_isWithin_2 : decode cX6_isWithin 2 = .ok (.if_icmp .lt 12, 3) := by decide +kernel
theorem dX6_isWithin_5 : decode cX6_isWithin 5 = .ok (.iload_n 0, 1) := by decide +kernel
theorem dX6_isWithin_6 : decode cX6_isWithin 6 = .ok (.iload_n 2, 1) := by decide +kernel
theorem dX6_isWithin_7 : decode cX6_isWithin 7 = .ok (.if_icmp .gt 7, 3) := by decide +kernel
theorem dX6_isWithin_10 : decode cX6_isWithin 10 = .ok (.iconst 1, 1) := by decide +kernel
theorem dX6_isWithin_11 : decode cX6_isWithin 11 = .ok (.goto 4, 3) := by decide +kernel
theorem dX6_isWithin_14 : decode cX6_isWithin 14 = .ok (.iconst 0, 1) := by decide +kernel
theorem dX6_isWithin_15 : decode cX6_isWithin 15 = .ok (.ireturn, 1) := by decide +kernel
theorem dX6_isSetting_0 : decode cX6_isSetting 0 = .ok (.iload_n 0, 1) := by decide +kernel
theorem dX6_isSetting_1 : decode cX6_isSetting 1 = .ok (.tableswitch 65 0 3 #[31, 40, 49, 58], 31) := by decide +kernel
theorem dX6_isSetting_32 : decode cX6_isSetting 32 = .ok (.iload_n 1, 1) := by decide +kernel
theorem dX6_isSetting_33 : decode cX6_isSetting 33 = .ok (.iconst 1, 1) := by decide +kernel
theorem dX6_isSetting_34 : decode cX6_isSetting 34 = .ok (.sipush 600, 3) := by decide +kernel
theorem dX6_isSetting_37 : decode cX6_isSetting 37 = .ok (.invokestatic 33, 3) := by decide +kernel
theorem dX6_isSetting_40 : decode cX6_isSetting 40 = .ok (.ireturn, 1) := by decide +kernel
theorem dX6_isSetting_41 : decode cX6_isSetting 41 = .ok (.iload_n 1, 1) := by decide +kernel
theorem dX6_isSetting_42 : decode cX6_isSetting 42 = .ok (.iconst 1, 1) := by decide +kernel
theorem dX6_isSetting_43 : decode cX6_isSetting 43 = .ok (.sipush 600, 3) := by decide +kernel
theorem dX6_isSetting_46 : decode cX6_isSetting 46 = .ok (.invokestatic 33, 3) := by decide +kernel
theorem dX6_isSetting_49 : decode cX6_isSetting 49 = .ok (.ireturn, 1) := by decide +kernel
theorem dX6_isSetting_50 : decode cX6_isSetting 50 = .ok (.iload_n 1, 1) := by decide +kernel
theorem dX6_isSetting_51 : decode cX6_isSetting 51 = .ok (.iconst 0, 1) := by decide +kernel
theorem dX6_isSetting_52 : decode cX6_isSetting 52 = .ok (.sipush 600, 3) := by decide +kernel
theorem dX6_isSetting_55 : decode cX6_isSetting 55 = .ok (.invokestatic 33, 3) := by decide +kernel
theorem dX6_isSetting_58 : decode cX6_isSetting 58 = .ok (.ireturn, 1) := by decide +kernel
theorem dX6_isSetting_59 : decode cX6_isSetting 59 = .ok (.iload_n 1, 1) := by decide +kernel
theorem dX6_isSetting_60 : decode cX6_isSetting 60 = .ok (.iconst 0, 1) := by decide +kernel
theorem dX6_isSetting_61 : decode cX6_isSetting 61 = .ok (.iconst 1, 1) := by decide +kernel
theorem dX6_isSetting_62 : decode cX6_isSetting 62 = .ok (.invokestatic 33, 3) := by decide +kernel
theorem dX6_isSetting_65 : decode cX6_isSetting 65 = .ok (.ireturn, 1) := by decide +kernel
theorem dX6_isSetting_66 : decode cX6_isSetting 66 = .ok (.iconst 0, 1) := by decide +kernel
theorem dX6_isSetting_67 : decode cX6_isSetting 67 = .ok (.ireturn, 1) := by decide +kernel
theorem dX6_orNotFound_0 : decode cX6_orNotFound 0 = .ok (.iload_n 0, 1) := by decide +kernel
theorem dX6_orNotFound_1 : decode cX6_orNotFound 1 = .ok (.iconst (-1), 1) := by decide +kernel
theorem dX6_orNotFound_2 : decode cX6_orNotFound 2 = .ok (.if_icmp .ne 8, 3) := by decide +kernel
theorem dX6_orNotFound_5 : decode cX6_orNotFound 5 = .ok (.ldc 168, 2) := by decide +kernel
theorem dX6_orNotFound_7 : decode cX6_orNotFound 7 = .ok (.goto 4, 3) := by decide +kernel
theorem dX6_orNotFound_10 : decode cX6_orNotFound 10 = .ok (.iload_n 0, 1) := by decide +kernel
theorem dX6_orNotFound_11 : decode cX6_orNotFound 11 = .ok (.ireturn, 1) := by decide +kernel
theorem dX6_oneIf_0 : decode cX6_oneIf 0 = .ok (.iload_n 0, 1) := by decide +kernel
theorem dX6_oneIf_1 : decode cX6_oneIf 1 = .ok (.ifCond .eq 7, 3) := by decide +kernel
theorem dX6_oneIf_4 : decode cX6_oneIf 4 = .ok (.iconst 1, 1) := by decide +kernel
theorem dX6_oneIf_5 : decode cX6_oneIf 5 = .ok (.goto 4, 3) := by decide +kernel
theorem dX6_oneIf_8 : decode cX6_oneIf 8 = .ok (.iconst 0, 1) := by decide +kernel
theorem dX6_oneIf_9 : decode cX6_oneIf 9 = .ok (.ireturn, 1) := by decide +kernel
theorem dX6_tryOut_0 : decode cX6_tryOut 0 = .ok (.aload_n 0, 1) := by decide +kernel
theorem dX6_tryOut_1 : decode cX6_tryOut 1 = .ok (.getfield 16, 3) := by decide +kernel
theorem dX6_tryOut_4 : decode cX6_tryOut 4 = .ok (.aload_n 0, 1) := by decide +kernel
theorem dX6_tryOut_5 : decode cX6_tryOut 5 = .ok (.getfield 10, 3) := by decide +kernel
theorem dX6_tryOut_8 : decode cX6_tryOut 8 = .ok (.invokevirtual 198, 3) := by decide +kernel
theorem dX6_tryOut_11 : decode cX6_tryOut 11 = .ok (.aload_n 0, 1) := by decide +kernel
theorem dX6_tryOut_12 : decode cX6_tryOut 12 = .ok (.getfield 16, 3) := by decide +kernel
theorem dX6_tryOut_15 : decode cX6_tryOut 15 = .ok (.iload_n 1, 1) := by decide +kernel
theorem dX6_tryOut_16 : decode cX6_tryOut 16 = .ok (.invokevirtual 156, 3) := by decide +kernel
theorem dX6_tryOut_19 : decode cX6_tryOut 19 = .ok (.pop, 1) := by decide +kernel
theorem dX6_tryOut_20 : decode cX6_tryOut 20 = .ok (.return_, 1) := by decide +kernel
theorem dX6_tryText_0 : decode cX6_tryText 0 = .ok (.aload_n 0, 1) := by decide +kernel
theorem dX6_tryText_1 : decode cX6_tryText 1 = .ok (.getfield 16, 3) := by decide +kernel
theorem dX6_tryText_4 : decode cX6_tryText 4 = .ok (.aload_n 0, 1) := by decide +kernel
theorem dX6_tryText_5 : decode cX6_tryText 5 = .ok (.getfield 10, 3) := by decide +kernel
theorem dX6_tryText_8 : decode cX6_tryText 8 = .ok (.invokevirtual 198, 3) := by decide +kernel
theorem dX6_tryText_11 : decode cX6_tryText 11 = .ok (.aload_n 0, 1) := by decide +kernel
theorem dX6_tryText_12 : decode cX6_tryText 12 = .ok (.getfield 29, 3) := by decide +kernel
theorem dX6_tryText_15 : decode cX6_tryText 15 = .ok (.aload_n 0, 1) := by decide +kernel
theorem dX6_tryText_16 : decode cX6_tryText 16 = .ok (.getfield 16, 3) := by decide +kernel
theorem dX6_tryText_19 : decode cX6_tryText 19 = .ok (.getfield 111, 3) := by decide +kernel
theorem dX6_tryText_22 : decode cX6_tryText 22 = .ok (.invokevirtual 204, 3) := by decide +kernel
theorem dX6_tryText_25 : decode cX6_tryText 25 = .ok (.return_, 1) := by decide +kernel
end
section
theorem dL_known_0 : decode cL_known 0 = .ok (.new 14, 3) := by decide +kernel
theorem dL_known_3 : decode cL_known 3 = .ok (.dup, 1) := by decide +kernel
theorem dL_known_4 : decode cL_known 4 = .ok (.invokespecial 117, 3) := by decide +kernel
theorem dL_known_7 : decode cL_known 7 = .ok (.astore_n 0, 1) := by decide +kernel
theorem dL_known_8 : decode cL_known 8 = .ok (.aload_n 0, 1) := by decide +kernel
theorem dL_known_9 : decode cL_known 9 = .ok (.invokestatic 176, 3) := by decide +kernel
theorem dL_known_12 : decode cL_known 12 = .ok (.ifCond .eq 223, 3) := by decide +kernel
theorem dL_known_15 : decode cL_known 15 = .ok (.aload_n 0, 1) := by decide +kernel
theorem dL_known_16 : decode cL_known 16 = .ok (.invokevirtual 179, 3) := by decide +kernel
theorem dL_known_19 : decode cL_known 19 = .ok (.ldc 84, 2) := by decide +kernel
theorem dL_known_21 : decode cL_known 21 = .ok (.if_icmp .ne 214, 3) := by decide +kernel
theorem dL_known_24 : decode cL_known 24 = .ok (.aload_n 0, 1) := by decide +kernel
theorem dL_known_25 : decode cL_known 25 = .ok (.sipush 1000, 3) := by decide +kernel
theorem dL_known_28 : decode cL_known 28 = .ok (.sipush 1000, 3) := by decide +kernel
theorem dL_known_31 : decode cL_known 31 = .ok (.invokevirtual 32, 3) := by decide +kernel
theorem dL_known_34 : decode cL_known 34 = .ok (.ifCond .ne 201, 3) := by decide +kernel
theorem dL_known_37 : decode cL_known 37 = .ok (.aload_n 0, 1) := by decide +kernel
theorem dL_known_38 : decode cL_known 38 = .ok (.sipush 2000, 3) := by decide +kernel
theorem dL_known_41 : decode cL_known 41 = .ok (.sipush 500, 3) := by decide +kernel
theorem dL_known_44 : decode cL_known 44 = .ok (.invokevirtual 32, 3) := by decide +kernel
theorem dL_known_47 : decode cL_known 47 = .ok (.iconst 1, 1) := by decide +kernel
theorem dL_known_48 : decode cL_known 48 = .ok (.if_icmp .ne 187, 3) := by decide +kernel
theorem dL_known_51 : decode cL_known 51 = .ok (.aload_n 0, 1) := by decide +kernel
theorem dL_known_52 : decode cL_known 52 = .ok (.iconst 0, 1) := by decide +kernel
theorem dL_known_53 : decode cL_known 53 = .ok (.iconst 5, 1) := by decide +kernel
theorem dL_known_54 : decode cL_known 54 = .ok (.invokevirtual 25, 3) := by decide +kernel
theorem dL_known_57 : decode cL_known 57 = .ok (.sipush 1000, 3) := by decide +kernel
theorem dL_known_60 : decode cL_known 60 = .ok (.if_icmp .ne 175, 3) := by decide +kernel
theorem dL_known_63 : decode cL_known 63 = .ok (.aload_n 0, 1) := by decide +kernel
theorem dL_known_64 : decode cL_known 64 = .ok (.iconst 0, 1) := by decide +kernel
theorem dL_known_65 : decode cL_known 65 = .ok (.iconst 4, 1) := by decide +kernel
theorem dL_known_66 : decode cL_known 66 = .ok (.invokevirtual 25, 3) := by decide +kernel
theorem dL_known_69 : decode cL_known 69 = .ok (.sipush 1000, 3) := by decide +kernel
theorem dL_known_72 : decode cL_known 72 = .ok (.if_icmp .ne 163, 3) := by decide +kernel
theorem dL_known_75 : decode cL_known 75 = .ok (.aload_n 0, 1) := by decide +kernel
theorem dL_known_76 : decode cL_known 76 = .ok (.iconst 0, 1) := by decide +kernel
theorem dL_known_77 : decode cL_known 77 = .ok (.bipush 100, 2) := by decide +kernel
theorem dL_known_79 : decode cL_known 79 = .ok (.invokevirtual 42, 3) := by decide +kernel
theorem dL_known_82 : decode cL_known 82 = .ok (.bipush 100, 2) := by decide +kernel
theorem dL_known_84 : decode cL_known 84 = .ok (.if_icmp .ne 151, 3) := by decide +kernel
theorem dL_known_87 : decode cL_known 87 = .ok (.aload_n 0, 1) := by decide +kernel
theorem dL_known_88 : decode cL_known 88 = .ok (.iconst 0, 1) := by decide +kernel
theorem dL_known_89 : decode cL_known 89 = .ok (.iconst 5, 1) := by decide +kernel
theorem dL_known_90 : decode cL_known 90 = .ok (.invokevirtual 25, 3) := by decide +kernel
theorem dL_known_93 : decode cL_known 93 = .ok (.sipush 990, 3) := by decide +kernel
theorem dL_known_96 : decode cL_known 96 = .ok (.if_icmp .ne 139, 3) := by decide +kernel
theorem dL_known_99 : decode cL_known 99 = .ok (.aload_n 0, 1) := by decide +kernel
theorem dL_known_100 : decode cL_known 100 = .ok (.iconst 0, 1) := by decide +kernel
theorem dL_known_101 : decode cL_known 101 = .ok (.sipush 901, 3) := by decide +kernel
theorem dL_known_104 : decode cL_known 104 = .ok (.invokevirtual 42, 3) := by decide +kernel
theorem dL_known_107 : decode cL_known 107 = .ok (.ldc 175, 2) := by decide +kernel
theorem dL_known_109 : decode cL_known 109 = .ok (.if_icmp .ne 126, 3) := by decide +kernel
theorem dL_known_112 : decode cL_known 112 = .ok (.aload_n 0, 1) := by decide +kernel
theorem dL_known_113 : decode cL_known 113 = .ok (.iconst 0, 1) := by decide +kernel
theorem dL_known_114 : decode cL_known 114 = .ok (.bipush 101, 2) := by decide +kernel
theorem dL_known_116 : decode cL_known 116 = .ok (.invokevirtual 45, 3) := by decide +kernel
theorem dL_known_119 : decode cL_known 119 = .ok (.ldc 84, 2) := by decide +kernel
theorem dL_known_121 : decode cL_known 121 = .ok (.if_icmp .ne 114, 3) := by decide +kernel
theorem dL_known_124 : decode cL_known 124 = .ok (.aload_n 0, 1) := by decide +kernel
theorem dL_known_125 : decode cL_known 125 = .ok (.iconst 0, 1) := by decide +kernel
theorem dL_known_126 : decode cL_known 126 = .ok (.iconst 1, 1) := by decide +kernel
theorem dL_known_127 : decode cL_known 127 = .ok (.invokevirtual 45, 3) := by decide +kernel
theorem dL_known_130 : decode cL_known 130 = .ok (.bipush 99, 2) := by decide +kernel
theorem dL_known_132 : decode cL_known 132 = .ok (.if_icmp .ne 103, 3) := by decide +kernel
theorem dL_known_135 : decode cL_known 135 = .ok (.aload_n 0, 1) := by decide +kernel
theorem dL_known_136 : decode cL_known 136 = .ok (.iconst 0, 1) := by decide +kernel
theorem dL_known_137 : decode cL_known 137 = .ok (.iconst 5, 1) := by decide +kernel
theorem dL_known_138 : decode cL_known 138 = .ok (.invokevirtual 25, 3) := by decide +kernel
theorem dL_known_141 : decode cL_known 141 = .ok (.sipush 991, 3) := by decide +kernel
theorem dL_known_144 : decode cL_known 144 = .ok (.if_icmp .ne 91, 3) := by decide +kernel
theorem dL_known_147 : decode cL_known 147 = .ok (.aload_n 0, 1) := by decide +kernel
theorem dL_known_148 : decode cL_known 148 = .ok (.iconst 0, 1) := by decide +kernel
theorem dL_known_149 : decode cL_known 149 = .ok (.bipush 50, 2) := by decide +kernel
theorem dL_known_151 : decode cL_known 151 = .ok (.invokevirtual 48, 3) := by decide +kernel
theorem dL_known_154 : decode cL_known 154 = .ok (.bipush 49, 2) := by decide +kernel
theorem dL_known_156 : decode cL_known 156 = .ok (.if_icmp .ne 79, 3) := by decide +kernel
theorem dL_known_159 : decode cL_known 159 = .ok (.aload_n 0, 1) := by decide +kernel
theorem dL_known_160 : decode cL_known 160 = .ok (.iconst 0, 1) := by decide +kernel
theorem dL_known_161 : decode cL_known 161 = .ok (.iconst 5, 1) := by decide +kernel
theorem dL_known_162 : decode cL_known 162 = .ok (.invokevirtual 25, 3) := by decide +kernel
theorem dL_known_165 : decode cL_known 165 = .ok (.sipush 998, 3) := by decide +kernel
theorem dL_known_168 : decode cL_known 168 = .ok (.if_icmp .ne 67, 3) := by decide +kernel
theorem dL_known_171 : decode cL_known 171 = .ok (.aload_n 0, 1) := by decide +kernel
theorem dL_known_172 : decode cL_known 172 = .ok (.iconst 0, 1) := by decide +kernel
theorem dL_known_173 : decode cL_known 173 = .ok (.bipush 10, 2) := by decide +kernel
theorem dL_known_175 : decode cL_known 175 = .ok (.invokevirtual 42, 3) := by decide +kernel
theorem dL_known_178 : decode cL_known 178 = .ok (.bipush 50, 2) := by decide +kernel
theorem dL_known_180 : decode cL_known 180 = .ok (.if_icmp .ne 55, 3) := by decide +kernel
theorem dL_known_183 : decode cL_known 183 = .ok (.aload_n 0, 1) := by decide +kernel
theorem dL_known_184 : decode cL_known 184 = .ok (.bipush 20, 2) := by decide +kernel
theorem dL_known_186 : decode cL_known 186 = .ok (.invokevirtual 13, 3) := by decide +kernel
theorem dL_known_189 : decode cL_known 189 = .ok (.bipush 110, 2) := by decide +kernel
theorem dL_known_191 : decode cL_known 191 = .ok (.if_icmp .ne 44, 3) := by decide +kernel
theorem dL_known_194 : decode cL_known 194 = .ok (.aload_n 0, 1) := by decide +kernel
theorem dL_known_195 : decode cL_known 195 = .ok (.bipush 21, 2) := by decide +kernel
theorem dL_known_197 : decode cL_known 197 = .ok (.invokevirtual 13, 3) := by decide +kernel
theorem dL_known_200 : decode cL_known 200 = .ok (.bipush 50, 2) := by decide +kernel
theorem dL_known_202 : decode cL_known 202 = .ok (.if_icmp .ne 33, 3) := by decide +kernel
theorem dL_known_205 : decode cL_known 205 = .ok (.aload_n 0, 1) := by decide +kernel
theorem dL_known_206 : decode cL_known 206 = .ok (.bipush 22, 2) := by decide +kernel
theorem dL_known_208 : decode cL_known 208 = .ok (.invokevirtual 13, 3) := by decide +kernel
theorem dL_known_211 : decode cL_known 211 = .ok (.ifCond .ne 24, 3) := by decide +kernel
theorem dL_known_214 : decode cL_known 214 = .ok (.aload_n 0, 1) := by decide +kernel
theorem dL_known_215 : decode cL_known 215 = .ok (.bipush 23, 2) := by decide +kernel
theorem dL_known_217 : decode cL_known 217 = .ok (.invokevirtual 13, 3) := by decide +kernel
theorem dL_known_220 : decode cL_known 220 = .ok (.bipush 59, 2) := by decide +kernel
theorem dL_known_222 : decode cL_known 222 = .ok (.if_icmp .ne 13, 3) := by decide +kernel
theorem dL_known_225 : decode cL_known 225 = .ok (.aload_n 0, 1) := by decide +kernel
theorem dL_known_226 : decode cL_known 226 = .ok (.bipush 24, 2) := by decide +kernel
theorem dL_known_228 : decode cL_known 228 = .ok (.invokevirtual 13, 3) := by decide +kernel
theorem dL_known_231 : decode cL_known 231 = .ok (.iconst 1, 1) := by decide +kernel
theorem dL_known_232 : decode cL_known 232 = .ok (.if_icmp .eq 5, 3) := by decide +kernel
theorem dL_known_235 : decode cL_known 235 = .ok (.iconst 0, 1) := by decide +kernel
theorem dL_known_236 : decode cL_known 236 = .ok (.ireturn, 1) := by decide +kernel
theorem dL_known_237 : decode cL_known 237 = .ok (.aload_n 0, 1) := by decide +kernel
theorem dL_known_238 : decode cL_known 238 = .ok (.iconst 0, 1) := by decide +kernel
theorem dL_known_239 : decode cL_known 239 = .ok (.sipush 998, 3) := by decide +kernel
theorem dL_known_242 : decode cL_known 242 = .ok (.invokevirtual 54, 3) := by decide +kernel
theorem dL_known_245 : decode cL_known 245 = .ok (.bipush 45, 2) := by decide +kernel
theorem dL_known_247 : decode cL_known 247 = .ok (.if_icmp .ne 149, 3) := by decide +kernel
theorem dL_known_250 : decode cL_known 250 = .ok (.aload_n 0, 1) := by decide +kernel
theorem dL_known_251 : decode cL_known 251 = .ok (.iconst 0, 1) := by decide +kernel
theorem dL_known_252 : decode cL_known 252 = .ok (.sipush (-3000), 3) := by decide +kernel
theorem dL_known_255 : decode cL_known 255 = .ok (.invokevirtual 54, 3) := by decide +kernel
theorem dL_known_258 : decode cL_known 258 = .ok (.bipush 45, 2) := by decide +kernel
theorem dL_known_260 : decode cL_known 260 = .ok (.if_icmp .ne 136, 3) := by decide +kernel
theorem dL_known_263 : decode cL_known 263 = .ok (.aload_n 0, 1) := by decide +kernel
theorem dL_known_264 : decode cL_known 264 = .ok (.iconst 0, 1) := by decide +kernel
theorem dL_known_265 : decode cL_known 265 = .ok (.sipush 6000, 3) := by decide +kernel
theorem dL_known_268 : decode cL_known 268 = .ok (.invokevirtual 54, 3) := by decide +kernel
theorem dL_known_271 : decode cL_known 271 = .ok (.ifCond .ne 125, 3) := by decide +kernel
theorem dL_known_274 : decode cL_known 274 = .ok (.aload_n 0, 1) := by decide +kernel
theorem dL_known_275 : decode cL_known 275 = .ok (.sipush 1500, 3) := by decide +kernel
theorem dL_known_278 : decode cL_known 278 = .ok (.invokevirtual 36, 3) := by decide +kernel
theorem dL_known_281 : decode cL_known 281 = .ok (.iconst 1, 1) := by decide +kernel
theorem dL_known_282 : decode cL_known 282 = .ok (.if_icmp .ne 114, 3) := by decide +kernel
theorem dL_known_285 : decode cL_known 285 = .ok (.aload_n 0, 1) := by decide +kernel
theorem dL_known_286 : decode cL_known 286 = .ok (.sipush 1499, 3) := by decide +kernel
theorem dL_known_289 : decode cL_known 289 = .ok (.invokevirtual 36, 3) := by decide +kernel
theorem dL_known_292 : decode cL_known 292 = .ok (.ifCond .ne 104, 3) := by decide +kernel
theorem dL_known_295 : decode cL_known 295 = .ok (.aload_n 0, 1) := by decide +kernel
theorem dL_known_296 : decode cL_known 296 = .ok (.iconst 5, 1) := by decide +kernel
theorem dL_known_297 : decode cL_known 297 = .ok (.sipush 1000, 3) := by decide +kernel
theorem dL_known_300 : decode cL_known 300 = .ok (.invokevirtual 68, 3) := by decide +kernel
theorem dL_known_303 : decode cL_known 303 = .ok (.ifCond .ne 93, 3) := by decide +kernel
theorem dL_known_306 : decode cL_known 306 = .ok (.aload_n 0, 1) := by decide +kernel
theorem dL_known_307 : decode cL_known 307 = .ok (.iconst 2, 1) := by decide +kernel
theorem dL_known_308 : decode cL_known 308 = .ok (.sipush 2010, 3) := by decide +kernel
theorem dL_known_311 : decode cL_known 311 = .ok (.invokevirtual 68, 3) := by decide +kernel
theorem dL_known_314 : decode cL_known 314 = .ok (.ifCond .ne 82, 3) := by decide +kernel
theorem dL_known_317 : decode cL_known 317 = .ok (.aload_n 0, 1) := by decide +kernel
theorem dL_known_318 : decode cL_known 318 = .ok (.iconst 5, 1) := by decide +kernel
theorem dL_known_319 : decode cL_known 319 = .ok (.iconst 1, 1) := by decide +kernel
theorem dL_known_320 : decode cL_known 320 = .ok (.invokevirtual 68, 3) := by decide +kernel
theorem dL_known_323 : decode cL_known 323 = .ok (.ldc 84, 2) := by decide +kernel
theorem dL_known_325 : decode cL_known 325 = .ok (.if_icmp .ne 71, 3) := by decide +kernel
theorem dL_known_328 : decode cL_known 328 = .ok (.aload_n 0, 1) := by decide +kernel
theorem dL_known_329 : decode cL_known 329 = .ok (.iconst 0, 1) := by decide +kernel
theorem dL_known_330 : decode cL_known 330 = .ok (.iconst 0, 1) := by decide +kernel
theorem dL_known_331 : decode cL_known 331 = .ok (.invokevirtual 29, 3) := by decide +kernel
theorem dL_known_334 : decode cL_known 334 = .ok (.iconst 2, 1) := by decide +kernel
theorem dL_known_335 : decode cL_known 335 = .ok (.if_icmp .ne 61, 3) := by decide +kernel
theorem dL_known_338 : decode cL_known 338 = .ok (.aload_n 0, 1) := by decide +kernel
theorem dL_known_339 : decode cL_known 339 = .ok (.iconst 1, 1) := by decide +kernel
theorem dL_known_340 : decode cL_known 340 = .ok (.iconst 0, 1) := by decide +kernel
theorem dL_known_341 : decode cL_known 341 = .ok (.invokevirtual 29, 3) := by decide +kernel
theorem dL_known_344 : decode cL_known 344 = .ok (.iconst 5, 1) := by decide +kernel
theorem dL_known_345 : decode cL_known 345 = .ok (.if_icmp .ne 51, 3) := by decide +kernel
theorem dL_known_348 : decode cL_known 348 = .ok (.aload_n 0, 1) := by decide +kernel
theorem dL_known_349 : decode cL_known 349 = .ok (.iconst 3, 1) := by decide +kernel
theorem dL_known_350 : decode cL_known 350 = .ok (.invokevirtual 13, 3) := by decide +kernel
theorem dL_known_353 : decode cL_known 353 = .ok (.iconst 1, 1) := by decide +kernel
theorem dL_known_354 : decode cL_known 354 = .ok (.if_icmp .ne 42, 3) := by decide +kernel
theorem dL_known_357 : decode cL_known 357 = .ok (.aload_n 0, 1) := by decide +kernel
theorem dL_known_358 : decode cL_known 358 = .ok (.iconst 1, 1) := by decide +kernel
theorem dL_known_359 : decode cL_known 359 = .ok (.iconst 2, 1) := by decide +kernel
theorem dL_known_360 : decode cL_known 360 = .ok (.invokevirtual 29, 3) := by decide +kernel
theorem dL_known_363 : decode cL_known 363 = .ok (.ifCond .ne 33, 3) := by decide +kernel
theorem dL_known_366 : decode cL_known 366 = .ok (.aload_n 0, 1) := by decide +kernel
theorem dL_known_367 : decode cL_known 367 = .ok (.iconst 1, 1) := by decide +kernel
theorem dL_known_368 : decode cL_known 368 = .ok (.iconst 3, 1) := by decide +kernel
theorem dL_known_369 : decode cL_known 369 = .ok (.invokevirtual 96, 3) := by decide +kernel
theorem dL_known_372 : decode cL_known 372 = .ok (.bipush 10, 2) := by decide +kernel
theorem dL_known_374 : decode cL_known 374 = .ok (.if_icmp .ne 22, 3) := by decide +kernel
theorem dL_known_377 : decode cL_known 377 = .ok (.aload_n 0, 1) := by decide +kernel
theorem dL_known_378 : decode cL_known 378 = .ok (.iconst 3, 1) := by decide +kernel
theorem dL_known_379 : decode cL_known 379 = .ok (.invokevirtual 13, 3) := by decide +kernel
theorem dL_known_382 : decode cL_known 382 = .ok (.iconst 2, 1) := by decide +kernel
theorem dL_known_383 : decode cL_known 383 = .ok (.if_icmp .ne 13, 3) := by decide +kernel
theorem dL_known_386 : decode cL_known 386 = .ok (.aload_n 0, 1) := by decide +kernel
theorem dL_known_387 : decode cL_known 387 = .ok (.iconst 1, 1) := by decide +kernel
theorem dL_known_388 : decode cL_known 388 = .ok (.iconst 2, 1) := by decide +kernel
theorem dL_known_389 : decode cL_known 389 = .ok (.invokevirtual 29, 3) := by decide +kernel
theorem dL_known_392 : decode cL_known 392 = .ok (.iconst 1, 1) := by decide +kernel
theorem dL_known_393 : decode cL_known 393 = .ok (.if_icmp .eq 5, 3) := by decide +kernel
theorem dL_known_396 : decode cL_known 396 = .ok (.iconst 0, 1) := by decide +kernel
theorem dL_known_397 : decode cL_known 397 = .ok (.ireturn, 1) := by decide +kernel
theorem dL_known_398 : decode cL_known 398 = .ok (.aload_n 0, 1) := by decide +kernel
theorem dL_known_399 : decode cL_known 399 = .ok (.iconst 0, 1) := by decide +kernel
theorem dL_known_400 : decode cL_known 400 = .ok (.invokevirtual 81, 3) := by decide +kernel
theorem dL_known_403 : decode cL_known 403 = .ok (.bipush (-10), 2) := by decide +kernel
theorem dL_known_405 : decode cL_known 405 = .ok (.if_icmp .ne 203, 3) := by decide +kernel
theorem dL_known_408 : decode cL_known 408 = .ok (.aload_n 0, 1) := by decide +kernel
theorem dL_known_409 : decode cL_known 409 = .ok (.iconst 1, 1) := by decide +kernel
theorem dL_known_410 : decode cL_known 410 = .ok (.invokevirtual 81, 3) := by decide +kernel
theorem dL_known_413 : decode cL_known 413 = .ok (.bipush (-2), 2) := by decide +kernel
theorem dL_known_415 : decode cL_known 415 = .ok (.if_icmp .ne 193, 3) := by decide +kernel
theorem dL_known_418 : decode cL_known 418 = .ok (.aload_n 0, 1) := by decide +kernel
theorem dL_known_419 : decode cL_known 419 = .ok (.invokevirtual 61, 3) := by decide +kernel
theorem dL_known_422 : decode cL_known 422 = .ok (.ldc 60, 2) := by decide +kernel
theorem dL_known_424 : decode cL_known 424 = .ok (.if_icmp .ne 184, 3) := by decide +kernel
theorem dL_known_427 : decode cL_known 427 = .ok (.aload_n 0, 1) := by decide +kernel
theorem dL_known_428 : decode cL_known 428 = .ok (.iconst 2, 1) := by decide +kernel
theorem dL_known_429 : decode cL_known 429 = .ok (.bipush 9, 2) := by decide +kernel
theorem dL_known_431 : decode cL_known 431 = .ok (.invokevirtual 96, 3) := by decide +kernel
theorem dL_known_434 : decode cL_known 434 = .ok (.bipush 10, 2) := by decide +kernel
theorem dL_known_436 : decode cL_known 436 = .ok (.if_icmp .ne 172, 3) := by decide +kernel
theorem dL_known_439 : decode cL_known 439 = .ok (.aload_n 0, 1) := by decide +kernel
theorem dL_known_440 : decode cL_known 440 = .ok (.invokevirtual 61, 3) := by decide +kernel
theorem dL_known_443 : decode cL_known 443 = .ok (.ifCond .ne 165, 3) := by decide +kernel
theorem dL_known_446 : decode cL_known 446 = .ok (.aload_n 0, 1) := by decide +kernel
theorem dL_known_447 : decode cL_known 447 = .ok (.invokevirtual 65, 3) := by decide +kernel
theorem dL_known_450 : decode cL_known 450 = .ok (.bipush 10, 2) := by decide +kernel
theorem dL_known_452 : decode cL_known 452 = .ok (.if_icmp .ne 156, 3) := by decide +kernel
theorem dL_known_455 : decode cL_known 455 = .ok (.aload_n 0, 1) := by decide +kernel
theorem dL_known_456 : decode cL_known 456 = .ok (.iconst 0, 1) := by decide +kernel
theorem dL_known_457 : decode cL_known 457 = .ok (.iconst 3, 1) := by decide +kernel
theorem dL_known_458 : decode cL_known 458 = .ok (.invokevirtual 29, 3) := by decide +kernel
theorem dL_known_461 : decode cL_known 461 = .ok (.ifCond .ne 147, 3) := by decide +kernel
theorem dL_known_464 : decode cL_known 464 = .ok (.aload_n 0, 1) := by decide +kernel
theorem dL_known_465 : decode cL_known 465 = .ok (.iconst 4, 1) := by decide +kernel
theorem dL_known_466 : decode cL_known 466 = .ok (.invokevirtual 99, 3) := by decide +kernel
theorem dL_known_469 : decode cL_known 469 = .ok (.iconst 1, 1) := by decide +kernel
theorem dL_known_470 : decode cL_known 470 = .ok (.if_icmp .ne 138, 3) := by decide +kernel
theorem dL_known_473 : decode cL_known 473 = .ok (.aload_n 0, 1) := by decide +kernel
theorem dL_known_474 : decode cL_known 474 = .ok (.iconst 0, 1) := by decide +kernel
theorem dL_known_475 : decode cL_known 475 = .ok (.iconst 3, 1) := by decide +kernel
theorem dL_known_476 : decode cL_known 476 = .ok (.invokevirtual 29, 3) := by decide +kernel
theorem dL_known_479 : decode cL_known 479 = .ok (.iconst 1, 1) := by decide +kernel
theorem dL_known_480 : decode cL_known 480 = .ok (.if_icmp .ne 128, 3) := by decide +kernel
theorem dL_known_483 : decode cL_known 483 = .ok (.aload_n 0, 1) := by decide +kernel
theorem dL_known_484 : decode cL_known 484 = .ok (.iconst 0, 1) := by decide +kernel
theorem dL_known_485 : decode cL_known 485 = .ok (.iconst 4, 1) := by decide +kernel
theorem dL_known_486 : decode cL_known 486 = .ok (.invokevirtual 29, 3) := by decide +kernel
theorem dL_known_489 : decode cL_known 489 = .ok (.iconst 1, 1) := by decide +kernel
theorem dL_known_490 : decode cL_known 490 = .ok (.if_icmp .ne 118, 3) := by decide +kernel
theorem dL_known_493 : decode cL_known 493 = .ok (.aload_n 0, 1) := by decide +kernel
theorem dL_known_494 : decode cL_known 494 = .ok (.iconst 0, 1) := by decide +kernel
theorem dL_known_495 : decode cL_known 495 = .ok (.iconst 5, 1) := by decide +kernel
theorem dL_known_496 : decode cL_known 496 = .ok (.invokevirtual 29, 3) := by decide +kernel
theorem dL_known_499 : decode cL_known 499 = .ok (.bipush (-10), 2) := by decide +kernel
theorem dL_known_501 : decode cL_known 501 = .ok (.if_icmp .ne 107, 3) := by decide +kernel
theorem dL_known_504 : decode cL_known 504 = .ok (.aload_n 0, 1) := by decide +kernel
theorem dL_known_505 : decode cL_known 505 = .ok (.iconst 0, 1) := by decide +kernel
theorem dL_known_506 : decode cL_known 506 = .ok (.bipush 6, 2) := by decide +kernel
theorem dL_known_508 : decode cL_known 508 = .ok (.invokevirtual 29, 3) := by decide +kernel
theorem dL_known_511 : decode cL_known 511 = .ok (.ifCond .ne 97, 3) := by decide +kernel
theorem dL_known_514 : decode cL_known 514 = .ok (.aload_n 0, 1) := by decide +kernel
theorem dL_known_515 : decode cL_known 515 = .ok (.iconst 1, 1) := by decide +kernel
theorem dL_known_516 : decode cL_known 516 = .ok (.iconst 4, 1) := by decide +kernel
theorem dL_known_517 : decode cL_known 517 = .ok (.invokevirtual 29, 3) := by decide +kernel
theorem dL_known_520 : decode cL_known 520 = .ok (.ldc 60, 2) := by decide +kernel
theorem dL_known_522 : decode cL_known 522 = .ok (.if_icmp .ne 86, 3) := by decide +kernel
theorem dL_known_525 : decode cL_known 525 = .ok (.aload_n 0, 1) := by decide +kernel
theorem dL_known_526 : decode cL_known 526 = .ok (.iconst 1, 1) := by decide +kernel
theorem dL_known_527 : decode cL_known 527 = .ok (.bipush 6, 2) := by decide +kernel
theorem dL_known_529 : decode cL_known 529 = .ok (.invokevirtual 29, 3) := by decide +kernel
theorem dL_known_532 : decode cL_known 532 = .ok (.ldc 60, 2) := by decide +kernel
theorem dL_known_534 : decode cL_known 534 = .ok (.if_icmp .ne 74, 3) := by decide +kernel
theorem dL_known_537 : decode cL_known 537 = .ok (.aload_n 0, 1) := by decide +kernel
theorem dL_known_538 : decode cL_known 538 = .ok (.iconst 0, 1) := by decide +kernel
theorem dL_known_539 : decode cL_known 539 = .ok (.invokevirtual 81, 3) := by decide +kernel
theorem dL_known_542 : decode cL_known 542 = .ok (.ldc 84, 2) := by decide +kernel
theorem dL_known_544 : decode cL_known 544 = .ok (.if_icmp .ne 64, 3) := by decide +kernel
theorem dL_known_547 : decode cL_known 547 = .ok (.aload_n 0, 1) := by decide +kernel
theorem dL_known_548 : decode cL_known 548 = .ok (.iconst 4, 1) := by decide +kernel
theorem dL_known_549 : decode cL_known 549 = .ok (.invokevirtual 13, 3) := by decide +kernel
theorem dL_known_552 : decode cL_known 552 = .ok (.iconst 1, 1) := by decide +kernel
theorem dL_known_553 : decode cL_known 553 = .ok (.if_icmp .ne 55, 3) := by decide +kernel
theorem dL_known_556 : decode cL_known 556 = .ok (.aload_n 0, 1) := by decide +kernel
theorem dL_known_557 : decode cL_known 557 = .ok (.iconst 5, 1) := by decide +kernel
theorem dL_known_558 : decode cL_known 558 = .ok (.invokevirtual 13, 3) := by decide +kernel
theorem dL_known_561 : decode cL_known 561 = .ok (.ifCond .ne 47, 3) := by decide +kernel
theorem dL_known_564 : decode cL_known 564 = .ok (.aload_n 0, 1) := by decide +kernel
theorem dL_known_565 : decode cL_known 565 = .ok (.bipush 6, 2) := by decide +kernel
theorem dL_known_567 : decode cL_known 567 = .ok (.invokevirtual 13, 3) := by decide +kernel
theorem dL_known_570 : decode cL_known 570 = .ok (.ifCond .ne 38, 3) := by decide +kernel
theorem dL_known_573 : decode cL_known 573 = .ok (.aload_n 0, 1) := by decide +kernel
theorem dL_known_574 : decode cL_known 574 = .ok (.iconst 0, 1) := by decide +kernel
theorem dL_known_575 : decode cL_known 575 = .ok (.invokevirtual 75, 3) := by decide +kernel
theorem dL_known_578 : decode cL_known 578 = .ok (.ifCond .ne 30, 3) := by decide +kernel
theorem dL_known_581 : decode cL_known 581 = .ok (.aload_n 0, 1) := by decide +kernel
theorem dL_known_582 : decode cL_known 582 = .ok (.iconst 1, 1) := by decide +kernel
theorem dL_known_583 : decode cL_known 583 = .ok (.invokevirtual 75, 3) := by decide +kernel
theorem dL_known_586 : decode cL_known 586 = .ok (.ldc 60, 2) := by decide +kernel
theorem dL_known_588 : decode cL_known 588 = .ok (.if_icmp .ne 20, 3) := by decide +kernel
theorem dL_known_591 : decode cL_known 591 = .ok (.aload_n 0, 1) := by decide +kernel
theorem dL_known_592 : decode cL_known 592 = .ok (.invokevirtual 61, 3) := by decide +kernel
theorem dL_known_595 : decode cL_known 595 = .ok (.ldc 60, 2) := by decide +kernel
theorem dL_known_597 : decode cL_known 597 = .ok (.if_icmp .ne 11, 3) := by decide +kernel
theorem dL_known_600 : decode cL_known 600 = .ok (.aload_n 0, 1) := by decide +kernel
theorem dL_known_601 : decode cL_known 601 = .ok (.invokevirtual 65, 3) := by decide +kernel
theorem dL_known_604 : decode cL_known 604 = .ok (.iconst 2, 1) := by decide +kernel
theorem dL_known_605 : decode cL_known 605 = .ok (.if_icmp .eq 5, 3) := by decide +kernel
theorem dL_known_608 : decode cL_known 608 = .ok (.iconst 0, 1) := by decide +kernel
theorem dL_known_609 : decode cL_known 609 = .ok (.ireturn, 1) := by decide +kernel
theorem dL_known_610 : decode cL_known 610 = .ok (.aload_n 0, 1) := by decide +kernel
theorem dL_known_611 : decode cL_known 611 = .ok (.iconst 3, 1) := by decide +kernel
theorem dL_known_612 : decode cL_known 612 = .ok (.sipush 500, 3) := by decide +kernel
theorem dL_known_615 : decode cL_known 615 = .ok (.invokevirtual 68, 3) := by decide +kernel
theorem dL_known_618 : decode cL_known 618 = .ok (.iconst 1, 1) := by decide +kernel
theorem dL_known_619 : decode cL_known 619 = .ok (.if_icmp .ne 180, 3) := by decide +kernel
theorem dL_known_622 : decode cL_known 622 = .ok (.aload_n 0, 1) := by decide +kernel
theorem dL_known_623 : decode cL_known 623 = .ok (.iconst 3, 1) := by decide +kernel
theorem dL_known_624 : decode cL_known 624 = .ok (.invokevirtual 13, 3) := by decide +kernel
theorem dL_known_627 : decode cL_known 627 = .ok (.iconst 1, 1) := by decide +kernel
theorem dL_known_628 : decode cL_known 628 = .ok (.if_icmp .ne 171, 3) := by decide +kernel
theorem dL_known_631 : decode cL_known 631 = .ok (.aload_n 0, 1) := by decide +kernel
theorem dL_known_632 : decode cL_known 632 = .ok (.iconst 1, 1) := by decide +kernel
theorem dL_known_633 : decode cL_known 633 = .ok (.invokevirtual 78, 3) := by decide +kernel
theorem dL_known_636 : decode cL_known 636 = .ok (.iconst 2, 1) := by decide +kernel
theorem dL_known_637 : decode cL_known 637 = .ok (.if_icmp .ne 162, 3) := by decide +kernel
theorem dL_known_640 : decode cL_known 640 = .ok (.aload_n 0, 1) := by decide +kernel
theorem dL_known_641 : decode cL_known 641 = .ok (.iconst 0, 1) := by decide +kernel
theorem dL_known_642 : decode cL_known 642 = .ok (.bipush 60, 2) := by decide +kernel
theorem dL_known_644 : decode cL_known 644 = .ok (.invokevirtual 51, 3) := by decide +kernel
theorem dL_known_647 : decode cL_known 647 = .ok (.ifCond .ne 152, 3) := by decide +kernel
theorem dL_known_650 : decode cL_known 650 = .ok (.aload_n 0, 1) := by decide +kernel
theorem dL_known_651 : decode cL_known 651 = .ok (.iconst 0, 1) := by decide +kernel
theorem dL_known_652 : decode cL_known 652 = .ok (.bipush 6, 2) := by decide +kernel
theorem dL_known_654 : decode cL_known 654 = .ok (.invokevirtual 25, 3) := by decide +kernel
theorem dL_known_657 : decode cL_known 657 = .ok (.sipush 998, 3) := by decide +kernel
theorem dL_known_660 : decode cL_known 660 = .ok (.if_icmp .ne 139, 3) := by decide +kernel
theorem dL_known_663 : decode cL_known 663 = .ok (.aload_n 0, 1) := by decide +kernel
theorem dL_known_664 : decode cL_known 664 = .ok (.iconst 3, 1) := by decide +kernel
theorem dL_known_665 : decode cL_known 665 = .ok (.iconst 1, 1) := by decide +kernel
theorem dL_known_666 : decode cL_known 666 = .ok (.invokevirtual 96, 3) := by decide +kernel
theorem dL_known_669 : decode cL_known 669 = .ok (.ifCond .ne 130, 3) := by decide +kernel
theorem dL_known_672 : decode cL_known 672 = .ok (.aload_n 0, 1) := by decide +kernel
theorem dL_known_673 : decode cL_known 673 = .ok (.iconst 1, 1) := by decide +kernel
theorem dL_known_674 : decode cL_known 674 = .ok (.invokevirtual 99, 3) := by decide +kernel
theorem dL_known_677 : decode cL_known 677 = .ok (.iconst 1, 1) := by decide +kernel
theorem dL_known_678 : decode cL_known 678 = .ok (.if_icmp .ne 121, 3) := by decide +kernel
theorem dL_known_681 : decode cL_known 681 = .ok (.aload_n 0, 1) := by decide +kernel
theorem dL_known_682 : decode cL_known 682 = .ok (.iconst 1, 1) := by decide +kernel
theorem dL_known_683 : decode cL_known 683 = .ok (.iconst 4, 1) := by decide +kernel
theorem dL_known_684 : decode cL_known 684 = .ok (.invokevirtual 29, 3) := by decide +kernel
theorem dL_known_687 : decode cL_known 687 = .ok (.ifCond .ne 112, 3) := by decide +kernel
theorem dL_known_690 : decode cL_known 690 = .ok (.aload_n 0, 1) := by decide +kernel
theorem dL_known_691 : decode cL_known 691 = .ok (.iconst 1, 1) := by decide +kernel
theorem dL_known_692 : decode cL_known 692 = .ok (.iconst 5, 1) := by decide +kernel
theorem dL_known_693 : decode cL_known 693 = .ok (.invokevirtual 29, 3) := by decide +kernel
theorem dL_known_696 : decode cL_known 696 = .ok (.bipush (-2), 2) := by decide +kernel
theorem dL_known_698 : decode cL_known 698 = .ok (.if_icmp .ne 101, 3) := by decide +kernel
theorem dL_known_701 : decode cL_known 701 = .ok (.aload_n 0, 1) := by decide +kernel
theorem dL_known_702 : decode cL_known 702 = .ok (.iconst 1, 1) := by decide +kernel
theorem dL_known_703 : decode cL_known 703 = .ok (.bipush 6, 2) := by decide +kernel
theorem dL_known_705 : decode cL_known 705 = .ok (.invokevirtual 29, 3) := by decide +kernel
theorem dL_known_708 : decode cL_known 708 = .ok (.iconst 1, 1) := by decide +kernel
theorem dL_known_709 : decode cL_known 709 = .ok (.if_icmp .ne 90, 3) := by decide +kernel
theorem dL_known_712 : decode cL_known 712 = .ok (.aload_n 0, 1) := by decide +kernel
theorem dL_known_713 : decode cL_known 713 = .ok (.bipush 20, 2) := by decide +kernel
theorem dL_known_715 : decode cL_known 715 = .ok (.invokevirtual 13, 3) := by decide +kernel
theorem dL_known_718 : decode cL_known 718 = .ok (.bipush 120, 2) := by decide +kernel
theorem dL_known_720 : decode cL_known 720 = .ok (.if_icmp .ne 79, 3) := by decide +kernel
theorem dL_known_723 : decode cL_known 723 = .ok (.aload_n 0, 1) := by decide +kernel
theorem dL_known_724 : decode cL_known 724 = .ok (.bipush 23, 2) := by decide +kernel
theorem dL_known_726 : decode cL_known 726 = .ok (.invokevirtual 13, 3) := by decide +kernel
theorem dL_known_729 : decode cL_known 729 = .ok (.bipush 69, 2) := by decide +kernel
theorem dL_known_731 : decode cL_known 731 = .ok (.if_icmp .ne 68, 3) := by decide +kernel
theorem dL_known_734 : decode cL_known 734 = .ok (.aload_n 0, 1) := by decide +kernel
theorem dL_known_735 : decode cL_known 735 = .ok (.iconst 0, 1) := by decide +kernel
theorem dL_known_736 : decode cL_known 736 = .ok (.invokevirtual 75, 3) := by decide +kernel
theorem dL_known_739 : decode cL_known 739 = .ok (.ifCond .ne 60, 3) := by decide +kernel
theorem dL_known_742 : decode cL_known 742 = .ok (.aload_n 0, 1) := by decide +kernel
theorem dL_known_743 : decode cL_known 743 = .ok (.iconst 1, 1) := by decide +kernel
theorem dL_known_744 : decode cL_known 744 = .ok (.invokevirtual 75, 3) := by decide +kernel
theorem dL_known_747 : decode cL_known 747 = .ok (.iconst 1, 1) := by decide +kernel
theorem dL_known_748 : decode cL_known 748 = .ok (.if_icmp .ne 51, 3) := by decide +kernel
theorem dL_known_751 : decode cL_known 751 = .ok (.aload_n 0, 1) := by decide +kernel
theorem dL_known_752 : decode cL_known 752 = .ok (.iconst 0, 1) := by decide +kernel
theorem dL_known_753 : decode cL_known 753 = .ok (.iconst 1, 1) := by decide +kernel
theorem dL_known_754 : decode cL_known 754 = .ok (.sipush (-1001), 3) := by decide +kernel
theorem dL_known_757 : decode cL_known 757 = .ok (.invokevirtual 71, 3) := by decide +kernel
theorem dL_known_760 : decode cL_known 760 = .ok (.ldc 84, 2) := by decide +kernel
theorem dL_known_762 : decode cL_known 762 = .ok (.if_icmp .ne 37, 3) := by decide +kernel
theorem dL_known_765 : decode cL_known 765 = .ok (.aload_n 0, 1) := by decide +kernel
theorem dL_known_766 : decode cL_known 766 = .ok (.iconst 0, 1) := by decide +kernel
theorem dL_known_767 : decode cL_known 767 = .ok (.iconst 1, 1) := by decide +kernel
theorem dL_known_768 : decode cL_known 768 = .ok (.iconst 5, 1) := by decide +kernel
theorem dL_known_769 : decode cL_known 769 = .ok (.invokevirtual 71, 3) := by decide +kernel
theorem dL_known_772 : decode cL_known 772 = .ok (.iconst 2, 1) := by decide +kernel
theorem dL_known_773 : decode cL_known 773 = .ok (.if_icmp .ne 26, 3) := by decide +kernel
theorem dL_known_776 : decode cL_known 776 = .ok (.aload_n 0, 1) := by decide +kernel
theorem dL_known_777 : decode cL_known 777 = .ok (.iconst 1, 1) := by decide +kernel
theorem dL_known_778 : decode cL_known 778 = .ok (.iconst 1, 1) := by decide +kernel
theorem dL_known_779 : decode cL_known 779 = .ok (.invokevirtual 29, 3) := by decide +kernel
theorem dL_known_782 : decode cL_known 782 = .ok (.sipush 1005, 3) := by decide +kernel
theorem dL_known_785 : decode cL_known 785 = .ok (.if_icmp .ne 14, 3) := by decide +kernel
theorem dL_known_788 : decode cL_known 788 = .ok (.aload_n 0, 1) := by decide +kernel
theorem dL_known_789 : decode cL_known 789 = .ok (.iconst 1, 1) := by decide +kernel
theorem dL_known_790 : decode cL_known 790 = .ok (.iconst 5, 1) := by decide +kernel
theorem dL_known_791 : decode cL_known 791 = .ok (.invokevirtual 29, 3) := by decide +kernel
theorem dL_known_794 : decode cL_known 794 = .ok (.bipush (-2), 2) := by decide +kernel
theorem dL_known_796 : decode cL_known 796 = .ok (.if_icmp .eq 5, 3) := by decide +kernel
theorem dL_known_799 : decode cL_known 799 = .ok (.iconst 0, 1) := by decide +kernel
theorem dL_known_800 : decode cL_known 800 = .ok (.ireturn, 1) := by decide +kernel
theorem dL_known_801 : decode cL_known 801 = .ok (.aload_n 0, 1) := by decide +kernel
theorem dL_known_802 : decode cL_known 802 = .ok (.invokevirtual 65, 3) := by decide +kernel
theorem dL_known_805 : decode cL_known 805 = .ok (.ldc 60, 2) := by decide +kernel
theorem dL_known_807 : decode cL_known 807 = .ok (.if_icmp .ne 192, 3) := by decide +kernel
theorem dL_known_810 : decode cL_known 810 = .ok (.aload_n 0, 1) := by decide +kernel
theorem dL_known_811 : decode cL_known 811 = .ok (.invokevirtual 182, 3) := by decide +kernel
theorem dL_known_814 : decode cL_known 814 = .ok (.iconst 5, 1) := by decide +kernel
theorem dL_known_815 : decode cL_known 815 = .ok (.if_icmp .ne 184, 3) := by decide +kernel
theorem dL_known_818 : decode cL_known 818 = .ok (.aload_n 0, 1) := by decide +kernel
theorem dL_known_819 : decode cL_known 819 = .ok (.iconst 0, 1) := by decide +kernel
theorem dL_known_820 : decode cL_known 820 = .ok (.invokevirtual 13, 3) := by decide +kernel
theorem dL_known_823 : decode cL_known 823 = .ok (.ifCond .ne 176, 3) := by decide +kernel
theorem dL_known_826 : decode cL_known 826 = .ok (.aload_n 0, 1) := by decide +kernel
theorem dL_known_827 : decode cL_known 827 = .ok (.iconst 0, 1) := by decide +kernel
theorem dL_known_828 : decode cL_known 828 = .ok (.iconst 3, 1) := by decide +kernel
theorem dL_known_829 : decode cL_known 829 = .ok (.invokevirtual 29, 3) := by decide +kernel
theorem dL_known_832 : decode cL_known 832 = .ok (.ifCond .ne 167, 3) := by decide +kernel
theorem dL_known_835 : decode cL_known 835 = .ok (.aload_n 0, 1) := by decide +kernel
theorem dL_known_836 : decode cL_known 836 = .ok (.iconst 0, 1) := by decide +kernel
theorem dL_known_837 : decode cL_known 837 = .ok (.iconst 4, 1) := by decide +kernel
theorem dL_known_838 : decode cL_known 838 = .ok (.invokevirtual 29, 3) := by decide +kernel
theorem dL_known_841 : decode cL_known 841 = .ok (.ldc 60, 2) := by decide +kernel
theorem dL_known_843 : decode cL_known 843 = .ok (.if_icmp .ne 156, 3) := by decide +kernel
theorem dL_known_846 : decode cL_known 846 = .ok (.aload_n 0, 1) := by decide +kernel
theorem dL_known_847 : decode cL_known 847 = .ok (.iconst 0, 1) := by decide +kernel
theorem dL_known_848 : decode cL_known 848 = .ok (.invokevirtual 75, 3) := by decide +kernel
theorem dL_known_851 : decode cL_known 851 = .ok (.ldc 60, 2) := by decide +kernel
theorem dL_known_853 : decode cL_known 853 = .ok (.if_icmp .ne 146, 3) := by decide +kernel
theorem dL_known_856 : decode cL_known 856 = .ok (.aload_n 0, 1) := by decide +kernel
theorem dL_known_857 : decode cL_known 857 = .ok (.iconst 0, 1) := by decide +kernel
theorem dL_known_858 : decode cL_known 858 = .ok (.iconst 2, 1) := by decide +kernel
theorem dL_known_859 : decode cL_known 859 = .ok (.invokevirtual 96, 3) := by decide +kernel
theorem dL_known_862 : decode cL_known 862 = .ok (.bipush 60, 2) := by decide +kernel
theorem dL_known_864 : decode cL_known 864 = .ok (.if_icmp .ne 135, 3) := by decide +kernel
theorem dL_known_867 : decode cL_known 867 = .ok (.aload_n 0, 1) := by decide +kernel
theorem dL_known_868 : decode cL_known 868 = .ok (.iconst 0, 1) := by decide +kernel
theorem dL_known_869 : decode cL_known 869 = .ok (.iconst 2, 1) := by decide +kernel
theorem dL_known_870 : decode cL_known 870 = .ok (.invokevirtual 57, 3) := by decide +kernel
theorem dL_known_873 : decode cL_known 873 = .ok (.sipush 998, 3) := by decide +kernel
theorem dL_known_876 : decode cL_known 876 = .ok (.if_icmp .ne 123, 3) := by decide +kernel
theorem dL_known_879 : decode cL_known 879 = .ok (.aload_n 0, 1) := by decide +kernel
theorem dL_known_880 : decode cL_known 880 = .ok (.iconst 1, 1) := by decide +kernel
theorem dL_known_881 : decode cL_known 881 = .ok (.sipush 3600, 3) := by decide +kernel
theorem dL_known_884 : decode cL_known 884 = .ok (.invokevirtual 57, 3) := by decide +kernel
theorem dL_known_887 : decode cL_known 887 = .ok (.sipush 2000, 3) := by decide +kernel
theorem dL_known_890 : decode cL_known 890 = .ok (.if_icmp .ne 109, 3) := by decide +kernel
theorem dL_known_893 : decode cL_known 893 = .ok (.aload_n 0, 1) := by decide +kernel
theorem dL_known_894 : decode cL_known 894 = .ok (.iconst 4, 1) := by decide +kernel
theorem dL_known_895 : decode cL_known 895 = .ok (.invokevirtual 99, 3) := by decide +kernel
theorem dL_known_898 : decode cL_known 898 = .ok (.iconst 1, 1) := by decide +kernel
theorem dL_known_899 : decode cL_known 899 = .ok (.if_icmp .ne 100, 3) := by decide +kernel
theorem dL_known_902 : decode cL_known 902 = .ok (.aload_n 0, 1) := by decide +kernel
theorem dL_known_903 : decode cL_known 903 = .ok (.iconst 0, 1) := by decide +kernel
theorem dL_known_904 : decode cL_known 904 = .ok (.iconst 2, 1) := by decide +kernel
theorem dL_known_905 : decode cL_known 905 = .ok (.invokevirtual 25, 3) := by decide +kernel
theorem dL_known_908 : decode cL_known 908 = .ok (.bipush 49, 2) := by decide +kernel
theorem dL_known_910 : decode cL_known 910 = .ok (.if_icmp .ne 89, 3) := by decide +kernel
theorem dL_known_913 : decode cL_known 913 = .ok (.aload_n 0, 1) := by decide +kernel
theorem dL_known_914 : decode cL_known 914 = .ok (.bipush 20, 2) := by decide +kernel
theorem dL_known_916 : decode cL_known 916 = .ok (.invokevirtual 13, 3) := by decide +kernel
theorem dL_known_919 : decode cL_known 919 = .ok (.sipush 131, 3) := by decide +kernel
theorem dL_known_922 : decode cL_known 922 = .ok (.if_icmp .ne 77, 3) := by decide +kernel
theorem dL_known_925 : decode cL_known 925 = .ok (.aload_n 0, 1) := by decide +kernel
theorem dL_known_926 : decode cL_known 926 = .ok (.bipush 21, 2) := by decide +kernel
theorem dL_known_928 : decode cL_known 928 = .ok (.invokevirtual 13, 3) := by decide +kernel
theorem dL_known_931 : decode cL_known 931 = .ok (.bipush 49, 2) := by decide +kernel
theorem dL_known_933 : decode cL_known 933 = .ok (.if_icmp .ne 66, 3) := by decide +kernel
theorem dL_known_936 : decode cL_known 936 = .ok (.aload_n 0, 1) := by decide +kernel
theorem dL_known_937 : decode cL_known 937 = .ok (.bipush 22, 2) := by decide +kernel
theorem dL_known_939 : decode cL_known 939 = .ok (.invokevirtual 13, 3) := by decide +kernel
theorem dL_known_942 : decode cL_known 942 = .ok (.iconst 2, 1) := by decide +kernel
theorem dL_known_943 : decode cL_known 943 = .ok (.if_icmp .ne 56, 3) := by decide +kernel
theorem dL_known_946 : decode cL_known 946 = .ok (.aload_n 0, 1) := by decide +kernel
theorem dL_known_947 : decode cL_known 947 = .ok (.bipush 23, 2) := by decide +kernel
theorem dL_known_949 : decode cL_known 949 = .ok (.invokevirtual 13, 3) := by decide +kernel
theorem dL_known_952 : decode cL_known 952 = .ok (.bipush 79, 2) := by decide +kernel
theorem dL_known_954 : decode cL_known 954 = .ok (.if_icmp .ne 45, 3) := by decide +kernel
theorem dL_known_957 : decode cL_known 957 = .ok (.aload_n 0, 1) := by decide +kernel
theorem dL_known_958 : decode cL_known 958 = .ok (.iconst 0, 1) := by decide +kernel
theorem dL_known_959 : decode cL_known 959 = .ok (.invokevirtual 39, 3) := by decide +kernel
theorem dL_known_962 : decode cL_known 962 = .ok (.iconst 1, 1) := by decide +kernel
theorem dL_known_963 : decode cL_known 963 = .ok (.if_icmp .ne 36, 3) := by decide +kernel
theorem dL_known_966 : decode cL_known 966 = .ok (.aload_n 0, 1) := by decide +kernel
theorem dL_known_967 : decode cL_known 967 = .ok (.bipush 24, 2) := by decide +kernel
theorem dL_known_969 : decode cL_known 969 = .ok (.invokevirtual 13, 3) := by decide +kernel
theorem dL_known_972 : decode cL_known 972 = .ok (.bipush 50, 2) := by decide +kernel
theorem dL_known_974 : decode cL_known 974 = .ok (.if_icmp .ne 25, 3) := by decide +kernel
theorem dL_known_977 : decode cL_known 977 = .ok (.aload_n 0, 1) := by decide +kernel
theorem dL_known_978 : decode cL_known 978 = .ok (.iconst 0, 1) := by decide +kernel
theorem dL_known_979 : decode cL_known 979 = .ok (.iconst 4, 1) := by decide +kernel
theorem dL_known_980 : decode cL_known 980 = .ok (.invokevirtual 29, 3) := by decide +kernel
theorem dL_known_983 : decode cL_known 983 = .ok (.iconst 1, 1) := by decide +kernel
theorem dL_known_984 : decode cL_known 984 = .ok (.if_icmp .ne 15, 3) := by decide +kernel
theorem dL_known_987 : decode cL_known 987 = .ok (.aload_n 0, 1) := by decide +kernel
theorem dL_known_988 : decode cL_known 988 = .ok (.iconst 0, 1) := by decide +kernel
theorem dL_known_989 : decode cL_known 989 = .ok (.iconst 0, 1) := by decide +kernel
theorem dL_known_990 : decode cL_known 990 = .ok (.invokevirtual 25, 3) := by decide +kernel
theorem dL_known_993 : decode cL_known 993 = .ok (.sipush 2000, 3) := by decide +kernel
theorem dL_known_996 : decode cL_known 996 = .ok (.if_icmp .eq 5, 3) := by decide +kernel
theorem dL_known_999 : decode cL_known 999 = .ok (.iconst 0, 1) := by decide +kernel
theorem dL_known_1000 : decode cL_known 1000 = .ok (.ireturn, 1) := by decide +kernel
theorem dL_known_1001 : decode cL_known 1001 = .ok (.aload_n 0, 1) := by decide +kernel
theorem dL_known_1002 : decode cL_known 1002 = .ok (.iconst 0, 1) := by decide +kernel
theorem dL_known_1003 : decode cL_known 1003 = .ok (.invokevirtual 39, 3) := by decide +kernel
theorem dL_known_1006 : decode cL_known 1006 = .ok (.ifCond .ne 95, 3) := by decide +kernel
theorem dL_known_1009 : decode cL_known 1009 = .ok (.aload_n 0, 1) := by decide +kernel
theorem dL_known_1010 : decode cL_known 1010 = .ok (.iconst 1, 1) := by decide +kernel
theorem dL_known_1011 : decode cL_known 1011 = .ok (.invokevirtual 81, 3) := by decide +kernel
theorem dL_known_1014 : decode cL_known 1014 = .ok (.ldc 60, 2) := by decide +kernel
theorem dL_known_1016 : decode cL_known 1016 = .ok (.if_icmp .ne 85, 3) := by decide +kernel
theorem dL_known_1019 : decode cL_known 1019 = .ok (.aload_n 0, 1) := by decide +kernel
theorem dL_known_1020 : decode cL_known 1020 = .ok (.iconst 1, 1) := by decide +kernel
theorem dL_known_1021 : decode cL_known 1021 = .ok (.invokevirtual 99, 3) := by decide +kernel
theorem dL_known_1024 : decode cL_known 1024 = .ok (.iconst 1, 1) := by decide +kernel
theorem dL_known_1025 : decode cL_known 1025 = .ok (.if_icmp .ne 76, 3) := by decide +kernel
theorem dL_known_1028 : decode cL_known 1028 = .ok (.aload_n 0, 1) := by decide +kernel
theorem dL_known_1029 : decode cL_known 1029 = .ok (.iconst 1, 1) := by decide +kernel
theorem dL_known_1030 : decode cL_known 1030 = .ok (.iconst 3, 1) := by decide +kernel
theorem dL_known_1031 : decode cL_known 1031 = .ok (.invokevirtual 29, 3) := by decide +kernel
theorem dL_known_1034 : decode cL_known 1034 = .ok (.iconst 1, 1) := by decide +kernel
theorem dL_known_1035 : decode cL_known 1035 = .ok (.if_icmp .ne 66, 3) := by decide +kernel
theorem dL_known_1038 : decode cL_known 1038 = .ok (.aload_n 0, 1) := by decide +kernel
theorem dL_known_1039 : decode cL_known 1039 = .ok (.iconst 1, 1) := by decide +kernel
theorem dL_known_1040 : decode cL_known 1040 = .ok (.iconst 4, 1) := by decide +kernel
theorem dL_known_1041 : decode cL_known 1041 = .ok (.invokevirtual 29, 3) := by decide +kernel
theorem dL_known_1044 : decode cL_known 1044 = .ok (.ldc 60, 2) := by decide +kernel
theorem dL_known_1046 : decode cL_known 1046 = .ok (.if_icmp .ne 55, 3) := by decide +kernel
theorem dL_known_1049 : decode cL_known 1049 = .ok (.aload_n 0, 1) := by decide +kernel
theorem dL_known_1050 : decode cL_known 1050 = .ok (.iconst 1, 1) := by decide +kernel
theorem dL_known_1051 : decode cL_known 1051 = .ok (.iconst 5, 1) := by decide +kernel
theorem dL_known_1052 : decode cL_known 1052 = .ok (.invokevirtual 29, 3) := by decide +kernel
theorem dL_known_1055 : decode cL_known 1055 = .ok (.ldc 60, 2) := by decide +kernel
theorem dL_known_1057 : decode cL_known 1057 = .ok (.if_icmp .ne 44, 3) := by decide +kernel
theorem dL_known_1060 : decode cL_known 1060 = .ok (.aload_n 0, 1) := by decide +kernel
theorem dL_known_1061 : decode cL_known 1061 = .ok (.iconst 4, 1) := by decide +kernel
theorem dL_known_1062 : decode cL_known 1062 = .ok (.invokevirtual 13, 3) := by decide +kernel
theorem dL_known_1065 : decode cL_known 1065 = .ok (.iconst 2, 1) := by decide +kernel
theorem dL_known_1066 : decode cL_known 1066 = .ok (.if_icmp .ne 35, 3) := by decide +kernel
theorem dL_known_1069 : decode cL_known 1069 = .ok (.aload_n 0, 1) := by decide +kernel
theorem dL_known_1070 : decode cL_known 1070 = .ok (.bipush 6, 2) := by decide +kernel
theorem dL_known_1072 : decode cL_known 1072 = .ok (.invokevirtual 13, 3) := by decide +kernel
theorem dL_known_1075 : decode cL_known 1075 = .ok (.iconst 1, 1) := by decide +kernel
theorem dL_known_1076 : decode cL_known 1076 = .ok (.if_icmp .ne 25, 3) := by decide +kernel
theorem dL_known_1079 : decode cL_known 1079 = .ok (.aload_n 0, 1) := by decide +kernel
theorem dL_known_1080 : decode cL_known 1080 = .ok (.iconst 5, 1) := by decide +kernel
theorem dL_known_1081 : decode cL_known 1081 = .ok (.invokevirtual 13, 3) := by decide +kernel
theorem dL_known_1084 : decode cL_known 1084 = .ok (.ifCond .ne 17, 3) := by decide +kernel
theorem dL_known_1087 : decode cL_known 1087 = .ok (.aload_n 0, 1) := by decide +kernel
theorem dL_known_1088 : decode cL_known 1088 = .ok (.iconst 0, 1) := by decide +kernel
theorem dL_known_1089 : decode cL_known 1089 = .ok (.invokevirtual 36, 3) := by decide +kernel
theorem dL_known_1092 : decode cL_known 1092 = .ok (.ldc 60, 2) := by decide +kernel
theorem dL_known_1094 : decode cL_known 1094 = .ok (.if_icmp .ne 7, 3) := by decide +kernel
theorem dL_known_1097 : decode cL_known 1097 = .ok (.iconst 1, 1) := by decide +kernel
theorem dL_known_1098 : decode cL_known 1098 = .ok (.goto 4, 3) := by decide +kernel
theorem dL_known_1101 : decode cL_known 1101 = .ok (.iconst 0, 1) := by decide +kernel
theorem dL_known_1102 : decode cL_known 1102 = .ok (.ireturn, 1) := by decide +kernel
theorem dL_law_0 : decode cL_law 0 = .ok (.invokestatic 185, 3) := by decide +kernel
theorem dL_law_3 : decode cL_law 3 = .ok (.ifCond .eq 9, 3) := by decide +kernel
theorem dL_law_6 : decode cL_law 6 = .ok (.invokestatic 189, 3) := by decide +kernel
theorem dL_law_9 : decode cL_law 9 = .ok (.ifCond .ne 5, 3) := by decide +kernel
theorem dL_law_12 : decode cL_law 12 = .ok (.iconst 0, 1) := by decide +kernel
theorem dL_law_13 : decode cL_law 13 = .ok (.ireturn, 1) := by decide +kernel
theorem dL_law_14 : decode cL_law 14 = .ok (.new 14, 3) := by decide +kernel
theorem dL_law_17 : decode cL_law 17 = .ok (.dup, 1) := by decide +kernel
theorem dL_law_18 : decode cL_law 18 = .ok (.invokespecial 117, 3) := by decide +kernel
theorem dL_law_21 : decode cL_law 21 = .ok (.astore_n 1, 1) := by decide +kernel
theorem dL_law_22 : decode cL_law 22 = .ok (.iconst 0, 1) := by decide +kernel
theorem dL_law_23 : decode cL_law 23 = .ok (.istore_n 2, 1) := by decide +kernel
theorem dL_law_24 : decode cL_law 24 = .ok (.iload_n 2, 1) := by decide +kernel
theorem dL_law_25 : decode cL_law 25 = .ok (.bipush 10, 2) := by decide +kernel
theorem dL_law_27 : decode cL_law 27 = .ok (.if_icmp .ge 46, 3) := by decide +kernel
theorem dL_law_30 : decode cL_law 30 = .ok (.aload_n 1, 1) := by decide +kernel
theorem dL_law_31 : decode cL_law 31 = .ok (.aload_n 0, 1) := by decide +kernel
theorem dL_law_32 : decode cL_law 32 = .ok (.iload_n 2, 1) := by decide +kernel
theorem dL_law_33 : decode cL_law 33 = .ok (.invokestatic 192, 3) := by decide +kernel
theorem dL_law_36 : decode cL_law 36 = .ok (.sipush 6001, 3) := by decide +kernel
theorem dL_law_39 : decode cL_law 39 = .ok (.invokestatic 196, 3) := by decide +kernel
theorem dL_law_42 : decode cL_law 42 = .ok (.iconst 1, 1) := by decide +kernel
theorem dL_law_43 : decode cL_law 43 = .ok (.aload_n 0, 1) := by decide +kernel
theorem dL_law_44 : decode cL_law 44 = .ok (.bipush 10, 2) := by decide +kernel
theorem dL_law_46 : decode cL_law 46 = .ok (.iload_n 2, 1) := by decide +kernel
theorem dL_law_47 : decode cL_law 47 = .ok (.iadd, 1) := by decide +kernel
theorem dL_law_48 : decode cL_law 48 = .ok (.invokestatic 192, 3) := by decide +kernel
theorem dL_law_51 : decode cL_law 51 = .ok (.sipush 2400, 3) := by decide +kernel
theorem dL_law_54 : decode cL_law 54 = .ok (.invokestatic 196, 3) := by decide +kernel
theorem dL_law_57 : decode cL_law 57 = .ok (.iadd, 1) := by decide +kernel
theorem dL_law_58 : decode cL_law 58 = .ok (.invokevirtual 32, 3) := by decide +kernel
theorem dL_law_61 : decode cL_law 61 = .ok (.iload_n 2, 1) := by decide +kernel
theorem dL_law_62 : decode cL_law 62 = .ok (.if_icmp .eq 5, 3) := by decide +kernel
theorem dL_law_65 : decode cL_law 65 = .ok (.iconst 0, 1) := by decide +kernel
theorem dL_law_66 : decode cL_law 66 = .ok (.ireturn, 1) := by decide +kernel
theorem dL_law_67 : decode cL_law 67 = .ok (.iinc 2 1, 3) := by decide +kernel
theorem dL_law_70 : decode cL_law 70 = .ok (.goto (-46), 3) := by decide +kernel
theorem dL_law_73 : decode cL_law 73 = .ok (.aload_n 1, 1) := by decide +kernel
theorem dL_law_74 : decode cL_law 74 = .ok (.iconst 0, 1) := by decide +kernel
theorem dL_law_75 : decode cL_law 75 = .ok (.iconst 1, 1) := by decide +kernel
theorem dL_law_76 : decode cL_law 76 = .ok (.invokevirtual 32, 3) := by decide +kernel
theorem dL_law_79 : decode cL_law 79 = .ok (.ldc 175, 2) := by decide +kernel
theorem dL_law_81 : decode cL_law 81 = .ok (.if_icmp .ne 14, 3) := by decide +kernel
theorem dL_law_84 : decode cL_law 84 = .ok (.aload_n 1, 1) := by decide +kernel
theorem dL_law_85 : decode cL_law 85 = .ok (.iconst 0, 1) := by decide +kernel
theorem dL_law_86 : decode cL_law 86 = .ok (.iconst 0, 1) := by decide +kernel
theorem dL_law_87 : decode cL_law 87 = .ok (.invokevirtual 32, 3) := by decide +kernel
theorem dL_law_90 : decode cL_law 90 = .ok (.ldc 35, 2) := by decide +kernel
theorem dL_law_92 : decode cL_law 92 = .ok (.if_icmp .eq 5, 3) := by decide +kernel
theorem dL_law_95 : decode cL_law 95 = .ok (.iconst 0, 1) := by decide +kernel
theorem dL_law_96 : decode cL_law 96 = .ok (.ireturn, 1) := by decide +kernel
theorem dL_law_97 : decode cL_law 97 = .ok (.iconst 0, 1) := by decide +kernel
theorem dL_law_98 : decode cL_law 98 = .ok (.istore_n 2, 1) := by decide +kernel
theorem dL_law_99 : decode cL_law 99 = .ok (.iload_n 2, 1) := by decide +kernel
theorem dL_law_100 : decode cL_law 100 = .ok (.bipush 14, 2) := by decide +kernel
theorem dL_law_102 : decode cL_law 102 = .ok (.if_icmp .ge 42, 3) := by decide +kernel
theorem dL_law_105 : decode cL_law 105 = .ok (.aload_n 1, 1) := by decide +kernel
theorem dL_law_106 : decode cL_law 106 = .ok (.aload_n 0, 1) := by decide +kernel
theorem dL_law_107 : decode cL_law 107 = .ok (.bipush 20, 2) := by decide +kernel
theorem dL_law_109 : decode cL_law 109 = .ok (.iload_n 2, 1) := by decide +kernel
theorem dL_law_110 : decode cL_law 110 = .ok (.iadd, 1) := by decide +kernel
theorem dL_law_111 : decode cL_law 111 = .ok (.invokestatic 192, 3) := by decide +kernel
theorem dL_law_114 : decode cL_law 114 = .ok (.sipush 600, 3) := by decide +kernel
theorem dL_law_117 : decode cL_law 117 = .ok (.invokestatic 196, 3) := by decide +kernel
theorem dL_law_120 : decode cL_law 120 = .ok (.aload_n 0, 1) := by decide +kernel
theorem dL_law_121 : decode cL_law 121 = .ok (.bipush 40, 2) := by decide +kernel
theorem dL_law_123 : decode cL_law 123 = .ok (.iload_n 2, 1) := by decide +kernel
theorem dL_law_124 : decode cL_law 124 = .ok (.iadd, 1) := by decide +kernel
theorem dL_law_125 : decode cL_law 125 = .ok (.invokestatic 192, 3) := by decide +kernel
theorem dL_law_128 : decode cL_law 128 = .ok (.sipush 6001, 3) := by decide +kernel
theorem dL_law_131 : decode cL_law 131 = .ok (.invokestatic 196, 3) := by decide +kernel
theorem dL_law_134 : decode cL_law 134 = .ok (.invokevirtual 68, 3) := by decide +kernel
theorem dL_law_137 : decode cL_law 137 = .ok (.istore_n 3, 1) := by decide +kernel
theorem dL_law_138 : decode cL_law 138 = .ok (.iinc 2 1, 3) := by decide +kernel
theorem dL_law_141 : decode cL_law 141 = .ok (.goto (-42), 3) := by decide +kernel
theorem dL_law_144 : decode cL_law 144 = .ok (.aload_n 1, 1) := by decide +kernel
theorem dL_law_145 : decode cL_law 145 = .ok (.invokestatic 176, 3) := by decide +kernel
theorem dL_law_148 : decode cL_law 148 = .ok (.ifCond .ne 5, 3) := by decide +kernel
theorem dL_law_151 : decode cL_law 151 = .ok (.iconst 0, 1) := by decide +kernel
theorem dL_law_152 : decode cL_law 152 = .ok (.ireturn, 1) := by decide +kernel
theorem dL_law_153 : decode cL_law 153 = .ok (.bipush 32, 2) := by decide +kernel
theorem dL_law_155 : decode cL_law 155 = .ok (.newarray .long, 2) := by decide +kernel
theorem dL_law_157 : decode cL_law 157 = .ok (.astore_n 2, 1) := by decide +kernel
theorem dL_law_158 : decode cL_law 158 = .ok (.iconst 0, 1) := by decide +kernel
theorem dL_law_159 : decode cL_law 159 = .ok (.istore_n 3, 1) := by decide +kernel
theorem dL_law_160 : decode cL_law 160 = .ok (.iconst 0, 1) := by decide +kernel
theorem dL_law_161 : decode cL_law 161 = .ok (.istore 4, 2) := by decide +kernel
theorem dL_law_163 : decode cL_law 163 = .ok (.iload 4, 2) := by decide +kernel
theorem dL_law_165 : decode cL_law 165 = .ok (.bipush 24, 2) := by decide +kernel
theorem dL_law_167 : decode cL_law 167 = .ok (.if_icmp .ge 384, 3) := by decide +kernel
theorem dL_law_170 : decode cL_law 170 = .ok (.aload_n 0, 1) := by decide +kernel
theorem dL_law_171 : decode cL_law 171 = .ok (.bipush 60, 2) := by decide +kernel
theorem dL_law_173 : decode cL_law 173 = .ok (.iload 4, 2) := by decide +kernel
theorem dL_law_175 : decode cL_law 175 = .ok (.iadd, 1) := by decide +kernel
theorem dL_law_176 : decode cL_law 176 = .ok (.invokestatic 192, 3) := by decide +kernel
theorem dL_law_179 : decode cL_law 179 = .ok (.istore 5, 2) := by decide +kernel
theorem dL_law_181 : decode cL_law 181 = .ok (.iload 5, 2) := by decide +kernel
theorem dL_law_183 : decode cL_law 183 = .ok (.iconst 4, 1) := by decide +kernel
theorem dL_law_184 : decode cL_law 184 = .ok (.ishr, 1) := by decide +kernel
theorem dL_law_185 : decode cL_law 185 = .ok (.bipush 10, 2) := by decide +kernel
theorem dL_law_187 : decode cL_law 187 = .ok (.invokestatic 196, 3) := by decide +kernel
theorem dL_law_190 : decode cL_law 190 = .ok (.istore 6, 2) := by decide +kernel
theorem dL_law_192 : decode cL_law 192 = .ok (.iload 5, 2) := by decide +kernel
theorem dL_law_194 : decode cL_law 194 = .ok (.bipush 12, 2) := by decide +kernel
theorem dL_law_196 : decode cL_law 196 = .ok (.invokestatic 196, 3) := by decide +kernel
theorem dL_law_199 : decode cL_law 199 = .ok (.istore 7, 2) := by decide +kernel
theorem dL_law_201 : decode cL_law 201 = .ok (.aload_n 2, 1) := by decide +kernel
theorem dL_law_202 : decode cL_law 202 = .ok (.iload_n 3, 1) := by decide +kernel
theorem dL_law_203 : decode cL_law 203 = .ok (.aload_n 1, 1) := by decide +kernel
theorem dL_law_204 : decode cL_law 204 = .ok (.invokestatic 85, 3) := by decide +kernel
theorem dL_law_207 : decode cL_law 207 = .ok (.lastore, 1) := by decide +kernel
theorem dL_law_208 : decode cL_law 208 = .ok (.iload 7, 2) := by decide +kernel
theorem dL_law_210 : decode cL_law 210 = .ok (.iconst 2, 1) := by decide +kernel
theorem dL_law_211 : decode cL_law 211 = .ok (.if_icmp .ge 25, 3) := by decide +kernel
theorem dL_law_214 : decode cL_law 214 = .ok (.aload_n 1, 1) := by decide +kernel
theorem dL_law_215 : decode cL_law 215 = .ok (.iload 6, 2) := by decide +kernel
theorem dL_law_217 : decode cL_law 217 = .ok (.iconst 1, 1) := by decide +kernel
theorem dL_law_218 : decode cL_law 218 = .ok (.iload 5, 2) := by decide +kernel
theorem dL_law_220 : decode cL_law 220 = .ok (.bipush 7, 2) := by decide +kernel
theorem dL_law_222 : decode cL_law 222 = .ok (.ishr, 1) := by decide +kernel
theorem dL_law_223 : decode cL_law 223 = .ok (.sipush 600, 3) := by decide +kernel
theorem dL_law_226 : decode cL_law 226 = .ok (.invokestatic 196, 3) := by decide +kernel
theorem dL_law_229 : decode cL_law 229 = .ok (.iadd, 1) := by decide +kernel
theorem dL_law_230 : decode cL_law 230 = .ok (.invokevirtual 42, 3) := by decide +kernel
theorem dL_law_233 : decode cL_law 233 = .ok (.goto 239, 3) := by decide +kernel
theorem dL_law_236 : decode cL_law 236 = .ok (.iload 7, 2) := by decide +kernel
theorem dL_law_238 : decode cL_law 238 = .ok (.iconst 2, 1) := by decide +kernel
theorem dL_law_239 : decode cL_law 239 = .ok (.if_icmp .ne 25, 3) := by decide +kernel
theorem dL_law_242 : decode cL_law 242 = .ok (.aload_n 1, 1) := by decide +kernel
theorem dL_law_243 : decode cL_law 243 = .ok (.iload 6, 2) := by decide +kernel
theorem dL_law_245 : decode cL_law 245 = .ok (.iconst 1, 1) := by decide +kernel
theorem dL_law_246 : decode cL_law 246 = .ok (.iload 5, 2) := by decide +kernel
theorem dL_law_248 : decode cL_law 248 = .ok (.bipush 7, 2) := by decide +kernel
theorem dL_law_250 : decode cL_law 250 = .ok (.ishr, 1) := by decide +kernel
theorem dL_law_251 : decode cL_law 251 = .ok (.sipush 300, 3) := by decide +kernel
theorem dL_law_254 : decode cL_law 254 = .ok (.invokestatic 196, 3) := by decide +kernel
theorem dL_law_257 : decode cL_law 257 = .ok (.iadd, 1) := by decide +kernel
theorem dL_law_258 : decode cL_law 258 = .ok (.invokevirtual 45, 3) := by decide +kernel
theorem dL_law_261 : decode cL_law 261 = .ok (.goto 211, 3) := by decide +kernel
theorem dL_law_264 : decode cL_law 264 = .ok (.iload 7, 2) := by decide +kernel
theorem dL_law_266 : decode cL_law 266 = .ok (.iconst 3, 1) := by decide +kernel
theorem dL_law_267 : decode cL_law 267 = .ok (.if_icmp .ne 23, 3) := by decide +kernel
theorem dL_law_270 : decode cL_law 270 = .ok (.aload_n 1, 1) := by decide +kernel
theorem dL_law_271 : decode cL_law 271 = .ok (.iload 6, 2) := by decide +kernel
theorem dL_law_273 : decode cL_law 273 = .ok (.iload 5, 2) := by decide +kernel
theorem dL_law_275 : decode cL_law 275 = .ok (.bipush 7, 2) := by decide +kernel
theorem dL_law_277 : decode cL_law 277 = .ok (.ishr, 1) := by decide +kernel
theorem dL_law_278 : decode cL_law 278 = .ok (.sipush 1001, 3) := by decide +kernel
theorem dL_law_281 : decode cL_law 281 = .ok (.invokestatic 196, 3) := by decide +kernel
theorem dL_law_284 : decode cL_law 284 = .ok (.invokevirtual 48, 3) := by decide +kernel
theorem dL_law_287 : decode cL_law 287 = .ok (.goto 185, 3) := by decide +kernel
theorem dL_law_290 : decode cL_law 290 = .ok (.iload 7, 2) := by decide +kernel
theorem dL_law_292 : decode cL_law 292 = .ok (.iconst 4, 1) := by decide +kernel
theorem dL_law_293 : decode cL_law 293 = .ok (.if_icmp .ne 23, 3) := by decide +kernel
theorem dL_law_296 : decode cL_law 296 = .ok (.aload_n 1, 1) := by decide +kernel
theorem dL_law_297 : decode cL_law 297 = .ok (.iload 6, 2) := by decide +kernel
theorem dL_law_299 : decode cL_law 299 = .ok (.iload 5, 2) := by decide +kernel
theorem dL_law_301 : decode cL_law 301 = .ok (.bipush 7, 2) := by decide +kernel
theorem dL_law_303 : decode cL_law 303 = .ok (.ishr, 1) := by decide +kernel
theorem dL_law_304 : decode cL_law 304 = .ok (.sipush 1001, 3) := by decide +kernel
theorem dL_law_307 : decode cL_law 307 = .ok (.invokestatic 196, 3) := by decide +kernel
theorem dL_law_310 : decode cL_law 310 = .ok (.invokevirtual 51, 3) := by decide +kernel
theorem dL_law_313 : decode cL_law 313 = .ok (.goto 159, 3) := by decide +kernel
theorem dL_law_316 : decode cL_law 316 = .ok (.iload 7, 2) := by decide +kernel
theorem dL_law_318 : decode cL_law 318 = .ok (.iconst 5, 1) := by decide +kernel
theorem dL_law_319 : decode cL_law 319 = .ok (.if_icmp .ne 24, 3) := by decide +kernel
theorem dL_law_322 : decode cL_law 322 = .ok (.aload_n 1, 1) := by decide +kernel
theorem dL_law_323 : decode cL_law 323 = .ok (.iload 6, 2) := by decide +kernel
theorem dL_law_325 : decode cL_law 325 = .ok (.iconst 4, 1) := by decide +kernel
theorem dL_law_326 : decode cL_law 326 = .ok (.irem, 1) := by decide +kernel
theorem dL_law_327 : decode cL_law 327 = .ok (.iload 5, 2) := by decide +kernel
theorem dL_law_329 : decode cL_law 329 = .ok (.bipush 7, 2) := by decide +kernel
theorem dL_law_331 : decode cL_law 331 = .ok (.ishr, 1) := by decide +kernel
theorem dL_law_332 : decode cL_law 332 = .ok (.bipush 30, 2) := by decide +kernel
theorem dL_law_334 : decode cL_law 334 = .ok (.invokestatic 196, 3) := by decide +kernel
theorem dL_law_337 : decode cL_law 337 = .ok (.invokevirtual 96, 3) := by decide +kernel
theorem dL_law_340 : decode cL_law 340 = .ok (.goto 132, 3) := by decide +kernel
theorem dL_law_343 : decode cL_law 343 = .ok (.iload 7, 2) := by decide +kernel
theorem dL_law_345 : decode cL_law 345 = .ok (.bipush 6, 2) := by decide +kernel
theorem dL_law_347 : decode cL_law 347 = .ok (.if_icmp .ne 32, 3) := by decide +kernel
theorem dL_law_350 : decode cL_law 350 = .ok (.aload_n 1, 1) := by decide +kernel
theorem dL_law_351 : decode cL_law 351 = .ok (.iload 5, 2) := by decide +kernel
theorem dL_law_353 : decode cL_law 353 = .ok (.bipush 7, 2) := by decide +kernel
theorem dL_law_355 : decode cL_law 355 = .ok (.ishr, 1) := by decide +kernel
theorem dL_law_356 : decode cL_law 356 = .ok (.sipush 3601, 3) := by decide +kernel
theorem dL_law_359 : decode cL_law 359 = .ok (.invokestatic 196, 3) := by decide +kernel
theorem dL_law_362 : decode cL_law 362 = .ok (.iload 5, 2) := by decide +kernel
theorem dL_law_364 : decode cL_law 364 = .ok (.bipush 8, 2) := by decide +kernel
theorem dL_law_366 : decode cL_law 366 = .ok (.ishr, 1) := by decide +kernel
theorem dL_law_367 : decode cL_law 367 = .ok (.sipush 6001, 3) := by decide +kernel
theorem dL_law_370 : decode cL_law 370 = .ok (.invokestatic 196, 3) := by decide +kernel
theorem dL_law_373 : decode cL_law 373 = .ok (.invokevirtual 68, 3) := by decide +kernel
theorem dL_law_376 : decode cL_law 376 = .ok (.goto 96, 3) := by decide +kernel
theorem dL_law_379 : decode cL_law 379 = .ok (.iload 7, 2) := by decide +kernel
theorem dL_law_381 : decode cL_law 381 = .ok (.bipush 7, 2) := by decide +kernel
theorem dL_law_383 : decode cL_law 383 = .ok (.if_icmp .ne 12, 3) := by decide +kernel
theorem dL_law_386 : decode cL_law 386 = .ok (.aload_n 1, 1) := by decide +kernel
theorem dL_law_387 : decode cL_law 387 = .ok (.iload 6, 2) := by decide +kernel
theorem dL_law_389 : decode cL_law 389 = .ok (.invokevirtual 78, 3) := by decide +kernel
theorem dL_law_392 : decode cL_law 392 = .ok (.goto 80, 3) := by decide +kernel
theorem dL_law_395 : decode cL_law 395 = .ok (.iload 7, 2) := by decide +kernel
theorem dL_law_397 : decode cL_law 397 = .ok (.bipush 8, 2) := by decide +kernel
theorem dL_law_399 : decode cL_law 399 = .ok (.if_icmp .ne 26, 3) := by decide +kernel
theorem dL_law_402 : decode cL_law 402 = .ok (.aload_n 1, 1) := by decide +kernel
theorem dL_law_403 : decode cL_law 403 = .ok (.iconst 0, 1) := by decide +kernel
theorem dL_law_404 : decode cL_law 404 = .ok (.iload 6, 2) := by decide +kernel
theorem dL_law_406 : decode cL_law 406 = .ok (.iconst 1, 1) := by decide +kernel
theorem dL_law_407 : decode cL_law 407 = .ok (.iload 5, 2) := by decide +kernel
theorem dL_law_409 : decode cL_law 409 = .ok (.bipush 7, 2) := by decide +kernel
theorem dL_law_411 : decode cL_law 411 = .ok (.ishr, 1) := by decide +kernel
theorem dL_law_412 : decode cL_law 412 = .ok (.sipush 200, 3) := by decide +kernel
theorem dL_law_415 : decode cL_law 415 = .ok (.invokestatic 196, 3) := by decide +kernel
theorem dL_law_418 : decode cL_law 418 = .ok (.isub, 1) := by decide +kernel
theorem dL_law_419 : decode cL_law 419 = .ok (.invokevirtual 71, 3) := by decide +kernel
theorem dL_law_422 : decode cL_law 422 = .ok (.goto 50, 3) := by decide +kernel
theorem dL_law_425 : decode cL_law 425 = .ok (.iload 7, 2) := by decide +kernel
theorem dL_law_427 : decode cL_law 427 = .ok (.bipush 9, 2) := by decide +kernel
theorem dL_law_429 : decode cL_law 429 = .ok (.if_icmp .ne 10, 3) := by decide +kernel
theorem dL_law_432 : decode cL_law 432 = .ok (.aload_n 1, 1) := by decide +kernel
theorem dL_law_433 : decode cL_law 433 = .ok (.invokevirtual 182, 3) := by decide +kernel
theorem dL_law_436 : decode cL_law 436 = .ok (.goto 36, 3) := by decide +kernel
theorem dL_law_439 : decode cL_law 439 = .ok (.iload 7, 2) := by decide +kernel
theorem dL_law_441 : decode cL_law 441 = .ok (.bipush 10, 2) := by decide +kernel
theorem dL_law_443 : decode cL_law 443 = .ok (.if_icmp .ne 12, 3) := by decide +kernel
theorem dL_law_446 : decode cL_law 446 = .ok (.aload_n 1, 1) := by decide +kernel
theorem dL_law_447 : decode cL_law 447 = .ok (.iload 6, 2) := by decide +kernel
theorem dL_law_449 : decode cL_law 449 = .ok (.invokevirtual 39, 3) := by decide +kernel
theorem dL_law_452 : decode cL_law 452 = .ok (.goto 20, 3) := by decide +kernel
theorem dL_law_455 : decode cL_law 455 = .ok (.aload_n 1, 1) := by decide +kernel
theorem dL_law_456 : decode cL_law 456 = .ok (.iconst 1, 1) := by decide +kernel
theorem dL_law_457 : decode cL_law 457 = .ok (.iload 5, 2) := by decide +kernel
theorem dL_law_459 : decode cL_law 459 = .ok (.bipush 7, 2) := by decide +kernel
theorem dL_law_461 : decode cL_law 461 = .ok (.ishr, 1) := by decide +kernel
theorem dL_law_462 : decode cL_law 462 = .ok (.sipush 200, 3) := by decide +kernel
theorem dL_law_465 : decode cL_law 465 = .ok (.invokestatic 196, 3) := by decide +kernel
theorem dL_law_468 : decode cL_law 468 = .ok (.iadd, 1) := by decide +kernel
theorem dL_law_469 : decode cL_law 469 = .ok (.invokevirtual 99, 3) := by decide +kernel
theorem dL_law_472 : decode cL_law 472 = .ok (.istore 8, 2) := by decide +kernel
theorem dL_law_474 : decode cL_law 474 = .ok (.iload_n 3, 1) := by decide +kernel
theorem dL_law_475 : decode cL_law 475 = .ok (.iload 8, 2) := by decide +kernel
theorem dL_law_477 : decode cL_law 477 = .ok (.ldc 199, 2) := by decide +kernel
theorem dL_law_479 : decode cL_law 479 = .ok (.if_icmp .le 7, 3) := by decide +kernel
theorem dL_law_482 : decode cL_law 482 = .ok (.iconst 1, 1) := by decide +kernel
theorem dL_law_483 : decode cL_law 483 = .ok (.goto 4, 3) := by decide +kernel
theorem dL_law_486 : decode cL_law 486 = .ok (.iconst 0, 1) := by decide +kernel
theorem dL_law_487 : decode cL_law 487 = .ok (.iadd, 1) := by decide +kernel
theorem dL_law_488 : decode cL_law 488 = .ok (.istore_n 3, 1) := by decide +kernel
theorem dL_law_489 : decode cL_law 489 = .ok (.iload 8, 2) := by decide +kernel
theorem dL_law_491 : decode cL_law 491 = .ok (.ldc 199, 2) := by decide +kernel
theorem dL_law_493 : decode cL_law 493 = .ok (.if_icmp .ge 14, 3) := by decide +kernel
theorem dL_law_496 : decode cL_law 496 = .ok (.aload_n 1, 1) := by decide +kernel
theorem dL_law_497 : decode cL_law 497 = .ok (.invokestatic 85, 3) := by decide +kernel
theorem dL_law_500 : decode cL_law 500 = .ok (.aload_n 2, 1) := by decide +kernel
theorem dL_law_501 : decode cL_law 501 = .ok (.iload_n 3, 1) := by decide +kernel
theorem dL_law_502 : decode cL_law 502 = .ok (.laload, 1) := by decide +kernel
theorem dL_law_503 : decode cL_law 503 = .ok (.lcmp, 1) := by decide +kernel
theorem dL_law_504 : decode cL_law 504 = .ok (.ifCond .ne 39, 3) := by decide +kernel
theorem dL_law_507 : decode cL_law 507 = .ok (.aload_n 1, 1) := by decide +kernel
theorem dL_law_508 : decode cL_law 508 = .ok (.bipush 20, 2) := by decide +kernel
theorem dL_law_510 : decode cL_law 510 = .ok (.invokevirtual 13, 3) := by decide +kernel
theorem dL_law_513 : decode cL_law 513 = .ok (.aload_n 1, 1) := by decide +kernel
theorem dL_law_514 : decode cL_law 514 = .ok (.bipush 21, 2) := by decide +kernel
theorem dL_law_516 : decode cL_law 516 = .ok (.invokevirtual 13, 3) := by decide +kernel
theorem dL_law_519 : decode cL_law 519 = .ok (.aload_n 1, 1) := by decide +kernel
theorem dL_law_520 : decode cL_law 520 = .ok (.bipush 22, 2) := by decide +kernel
theorem dL_law_522 : decode cL_law 522 = .ok (.invokevirtual 13, 3) := by decide +kernel
theorem dL_law_525 : decode cL_law 525 = .ok (.iadd, 1) := by decide +kernel
theorem dL_law_526 : decode cL_law 526 = .ok (.aload_n 1, 1) := by decide +kernel
theorem dL_law_527 : decode cL_law 527 = .ok (.bipush 23, 2) := by decide +kernel
theorem dL_law_529 : decode cL_law 529 = .ok (.invokevirtual 13, 3) := by decide +kernel
theorem dL_law_532 : decode cL_law 532 = .ok (.iadd, 1) := by decide +kernel
theorem dL_law_533 : decode cL_law 533 = .ok (.aload_n 1, 1) := by decide +kernel
theorem dL_law_534 : decode cL_law 534 = .ok (.bipush 24, 2) := by decide +kernel
theorem dL_law_536 : decode cL_law 536 = .ok (.invokevirtual 13, 3) := by decide +kernel
theorem dL_law_539 : decode cL_law 539 = .ok (.iadd, 1) := by decide +kernel
theorem dL_law_540 : decode cL_law 540 = .ok (.if_icmp .eq 5, 3) := by decide +kernel
theorem dL_law_543 : decode cL_law 543 = .ok (.iconst 0, 1) := by decide +kernel
theorem dL_law_544 : decode cL_law 544 = .ok (.ireturn, 1) := by decide +kernel
theorem dL_law_545 : decode cL_law 545 = .ok (.iinc 4 1, 3) := by decide +kernel
theorem dL_law_548 : decode cL_law 548 = .ok (.goto (-385), 3) := by decide +kernel
theorem dL_law_551 : decode cL_law 551 = .ok (.aload_n 1, 1) := by decide +kernel
theorem dL_law_552 : decode cL_law 552 = .ok (.invokestatic 176, 3) := by decide +kernel
theorem dL_law_555 : decode cL_law 555 = .ok (.ifCond .ne 5, 3) := by decide +kernel
theorem dL_law_558 : decode cL_law 558 = .ok (.iconst 0, 1) := by decide +kernel
theorem dL_law_559 : decode cL_law 559 = .ok (.ireturn, 1) := by decide +kernel
theorem dL_law_560 : decode cL_law 560 = .ok (.iconst 1, 1) := by decide +kernel
theorem dL_law_561 : decode cL_law 561 = .ok (.istore 4, 2) := by decide +kernel
theorem dL_law_563 : decode cL_law 563 = .ok (.iload 4, 2) := by decide +kernel
theorem dL_law_565 : decode cL_law 565 = .ok (.iconst 5, 1) := by decide +kernel
theorem dL_law_566 : decode cL_law 566 = .ok (.if_icmp .gt 56, 3) := by decide +kernel
theorem dL_law_569 : decode cL_law 569 = .ok (.iload 4, 2) := by decide +kernel
theorem dL_law_571 : decode cL_law 571 = .ok (.iload_n 3, 1) := by decide +kernel
theorem dL_law_572 : decode cL_law 572 = .ok (.if_icmp .gt 50, 3) := by decide +kernel
theorem dL_law_575 : decode cL_law 575 = .ok (.aload_n 1, 1) := by decide +kernel
theorem dL_law_576 : decode cL_law 576 = .ok (.invokevirtual 179, 3) := by decide +kernel
theorem dL_law_579 : decode cL_law 579 = .ok (.istore 5, 2) := by decide +kernel
theorem dL_law_581 : decode cL_law 581 = .ok (.iload 5, 2) := by decide +kernel
theorem dL_law_583 : decode cL_law 583 = .ok (.ifCond .lt 31, 3) := by decide +kernel
theorem dL_law_586 : decode cL_law 586 = .ok (.aload_n 1, 1) := by decide +kernel
theorem dL_law_587 : decode cL_law 587 = .ok (.invokestatic 85, 3) := by decide +kernel
theorem dL_law_590 : decode cL_law 590 = .ok (.aload_n 2, 1) := by decide +kernel
theorem dL_law_591 : decode cL_law 591 = .ok (.iload_n 3, 1) := by decide +kernel
theorem dL_law_592 : decode cL_law 592 = .ok (.iload 4, 2) := by decide +kernel
theorem dL_law_594 : decode cL_law 594 = .ok (.isub, 1) := by decide +kernel
theorem dL_law_595 : decode cL_law 595 = .ok (.laload, 1) := by decide +kernel
theorem dL_law_596 : decode cL_law 596 = .ok (.lcmp, 1) := by decide +kernel
theorem dL_law_597 : decode cL_law 597 = .ok (.ifCond .ne 17, 3) := by decide +kernel
theorem dL_law_600 : decode cL_law 600 = .ok (.iload_n 3, 1) := by decide +kernel
theorem dL_law_601 : decode cL_law 601 = .ok (.iconst 4, 1) := by decide +kernel
theorem dL_law_602 : decode cL_law 602 = .ok (.if_icmp .le 14, 3) := by decide +kernel
theorem dL_law_605 : decode cL_law 605 = .ok (.iload 5, 2) := by decide +kernel
theorem dL_law_607 : decode cL_law 607 = .ok (.iconst 5, 1) := by decide +kernel
theorem dL_law_608 : decode cL_law 608 = .ok (.iload 4, 2) := by decide +kernel
theorem dL_law_610 : decode cL_law 610 = .ok (.isub, 1) := by decide +kernel
theorem dL_law_611 : decode cL_law 611 = .ok (.if_icmp .eq 5, 3) := by decide +kernel
theorem dL_law_614 : decode cL_law 614 = .ok (.iconst 0, 1) := by decide +kernel
theorem dL_law_615 : decode cL_law 615 = .ok (.ireturn, 1) := by decide +kernel
theorem dL_law_616 : decode cL_law 616 = .ok (.iinc 4 1, 3) := by decide +kernel
theorem dL_law_619 : decode cL_law 619 = .ok (.goto (-56), 3) := by decide +kernel
theorem dL_law_622 : decode cL_law 622 = .ok (.iload_n 3, 1) := by decide +kernel
theorem dL_law_623 : decode cL_law 623 = .ok (.iconst 4, 1) := by decide +kernel
theorem dL_law_624 : decode cL_law 624 = .ok (.if_icmp .le 14, 3) := by decide +kernel
theorem dL_law_627 : decode cL_law 627 = .ok (.aload_n 1, 1) := by decide +kernel
theorem dL_law_628 : decode cL_law 628 = .ok (.invokevirtual 179, 3) := by decide +kernel
theorem dL_law_631 : decode cL_law 631 = .ok (.ldc 84, 2) := by decide +kernel
theorem dL_law_633 : decode cL_law 633 = .ok (.if_icmp .eq 5, 3) := by decide +kernel
theorem dL_law_636 : decode cL_law 636 = .ok (.iconst 0, 1) := by decide +kernel
theorem dL_law_637 : decode cL_law 637 = .ok (.ireturn, 1) := by decide +kernel
theorem dL_law_638 : decode cL_law 638 = .ok (.new 14, 3) := by decide +kernel
theorem dL_law_641 : decode cL_law 641 = .ok (.dup, 1) := by decide +kernel
theorem dL_law_642 : decode cL_law 642 = .ok (.invokespecial 117, 3) := by decide +kernel
theorem dL_law_645 : decode cL_law 645 = .ok (.astore 4, 2) := by decide +kernel
theorem dL_law_647 : decode cL_law 647 = .ok (.iconst 0, 1) := by decide +kernel
theorem dL_law_648 : decode cL_law 648 = .ok (.istore 5, 2) := by decide +kernel
theorem dL_law_650 : decode cL_law 650 = .ok (.iload 5, 2) := by decide +kernel
theorem dL_law_652 : decode cL_law 652 = .ok (.bipush 6, 2) := by decide +kernel
theorem dL_law_654 : decode cL_law 654 = .ok (.if_icmp .ge 22, 3) := by decide +kernel
theorem dL_law_657 : decode cL_law 657 = .ok (.aload 4, 2) := by decide +kernel
theorem dL_law_659 : decode cL_law 659 = .ok (.sipush 600, 3) := by decide +kernel
theorem dL_law_662 : decode cL_law 662 = .ok (.invokevirtual 99, 3) := by decide +kernel
theorem dL_law_665 : decode cL_law 665 = .ok (.ifCond .eq 5, 3) := by decide +kernel
theorem dL_law_668 : decode cL_law 668 = .ok (.iconst 0, 1) := by decide +kernel
theorem dL_law_669 : decode cL_law 669 = .ok (.ireturn, 1) := by decide +kernel
theorem dL_law_670 : decode cL_law 670 = .ok (.iinc 5 1, 3) := by decide +kernel
theorem dL_law_673 : decode cL_law 673 = .ok (.goto (-23), 3) := by decide +kernel
theorem dL_law_676 : decode cL_law 676 = .ok (.aload 4, 2) := by decide +kernel
theorem dL_law_678 : decode cL_law 678 = .ok (.iconst 1, 1) := by decide +kernel
theorem dL_law_679 : decode cL_law 679 = .ok (.invokevirtual 99, 3) := by decide +kernel
theorem dL_law_682 : decode cL_law 682 = .ok (.ldc 175, 2) := by decide +kernel
theorem dL_law_684 : decode cL_law 684 = .ok (.if_icmp .ne 61, 3) := by decide +kernel
theorem dL_law_687 : decode cL_law 687 = .ok (.aload 4, 2) := by decide +kernel
theorem dL_law_689 : decode cL_law 689 = .ok (.iconst 0, 1) := by decide +kernel
theorem dL_law_690 : decode cL_law 690 = .ok (.invokevirtual 99, 3) := by decide +kernel
theorem dL_law_693 : decode cL_law 693 = .ok (.ldc 35, 2) := by decide +kernel
theorem dL_law_695 : decode cL_law 695 = .ok (.if_icmp .ne 50, 3) := by decide +kernel
theorem dL_law_698 : decode cL_law 698 = .ok (.aload 4, 2) := by decide +kernel
theorem dL_law_700 : decode cL_law 700 = .ok (.iconst 0, 1) := by decide +kernel
theorem dL_law_701 : decode cL_law 701 = .ok (.invokevirtual 13, 3) := by decide +kernel
theorem dL_law_704 : decode cL_law 704 = .ok (.sipush 3600, 3) := by decide +kernel
theorem dL_law_707 : decode cL_law 707 = .ok (.if_icmp .ne 38, 3) := by decide +kernel
theorem dL_law_710 : decode cL_law 710 = .ok (.aload 4, 2) := by decide +kernel
theorem dL_law_712 : decode cL_law 712 = .ok (.invokevirtual 182, 3) := by decide +kernel
theorem dL_law_715 : decode cL_law 715 = .ok (.sipush 3600, 3) := by decide +kernel
theorem dL_law_718 : decode cL_law 718 = .ok (.if_icmp .ne 27, 3) := by decide +kernel
theorem dL_law_721 : decode cL_law 721 = .ok (.aload 4, 2) := by decide +kernel
theorem dL_law_723 : decode cL_law 723 = .ok (.sipush 600, 3) := by decide +kernel
theorem dL_law_726 : decode cL_law 726 = .ok (.invokevirtual 99, 3) := by decide +kernel
theorem dL_law_729 : decode cL_law 729 = .ok (.ifCond .ne 16, 3) := by decide +kernel
theorem dL_law_732 : decode cL_law 732 = .ok (.aload 4, 2) := by decide +kernel
theorem dL_law_734 : decode cL_law 734 = .ok (.invokevirtual 179, 3) := by decide +kernel
theorem dL_law_737 : decode cL_law 737 = .ok (.iconst 4, 1) := by decide +kernel
theorem dL_law_738 : decode cL_law 738 = .ok (.if_icmp .ne 7, 3) := by decide +kernel
theorem dL_law_741 : decode cL_law 741 = .ok (.iconst 1, 1) := by decide +kernel
theorem dL_law_742 : decode cL_law 742 = .ok (.goto 4, 3) := by decide +kernel
theorem dL_law_745 : decode cL_law 745 = .ok (.iconst 0, 1) := by decide +kernel
theorem dL_law_746 : decode cL_law 746 = .ok (.ireturn, 1) := by decide +kernel
end
section
theorem dL_part_0 : decode cL_part 0 = .ok (.iload_n 0, 1) := by decide +kernel
theorem dL_part_1 : decode cL_part 1 = .ok (.ldc 7, 2) := by decide +kernel
theorem dL_part_3 : decode cL_part 3 = .ok (.iand, 1) := by decide +kernel
theorem dL_part_4 : decode cL_part 4 = .ok (.iload_n 1, 1) := by decide +kernel
theorem dL_part_5 : decode cL_part 5 = .ok (.irem, 1) := by decide +kernel
theorem dL_part_6 : decode cL_part 6 = .ok (.ireturn, 1) := by decide +kernel
theorem dL_take_0 : decode cL_take 0 = .ok (.aload_n 0, 1) := by decide +kernel
theorem dL_take_1 : decode cL_take 1 = .ok (.arraylength, 1) := by decide +kernel
theorem dL_take_2 : decode cL_take 2 = .ok (.ifCond .ne 13, 3) := by decide +kernel
theorem dL_take_5 : decode cL_take 5 = .ok (.sipush 7919, 3) := by decide +kernel
theorem dL_take_8 : decode cL_take 8 = .ok (.iload_n 1, 1) := by decide +kernel
theorem dL_take_9 : decode cL_take 9 = .ok (.imul, 1) := by decide +kernel
theorem dL_take_10 : decode cL_take 10 = .ok (.iconst 3, 1) := by decide +kernel
theorem dL_take_11 : decode cL_take 11 = .ok (.iadd, 1) := by decide +kernel
theorem dL_take_12 : decode cL_take 12 = .ok (.goto 27, 3) := by decide +kernel
theorem dL_take_15 : decode cL_take 15 = .ok (.aload_n 0, 1) := by decide +kernel
theorem dL_take_16 : decode cL_take 16 = .ok (.iload_n 1, 1) := by decide +kernel
theorem dL_take_17 : decode cL_take 17 = .ok (.aload_n 0, 1) := by decide +kernel
theorem dL_take_18 : decode cL_take 18 = .ok (.arraylength, 1) := by decide +kernel
theorem dL_take_19 : decode cL_take 19 = .ok (.irem, 1) := by decide +kernel
theorem dL_take_20 : decode cL_take 20 = .ok (.iaload, 1) := by decide +kernel
theorem dL_take_21 : decode cL_take 21 = .ok (.iload_n 1, 1) := by decide +kernel
theorem dL_take_22 : decode cL_take 22 = .ok (.bipush 7, 2) := by decide +kernel
theorem dL_take_24 : decode cL_take 24 = .ok (.irem, 1) := by decide +kernel
theorem dL_take_25 : decode cL_take 25 = .ok (.ishr, 1) := by decide +kernel
theorem dL_take_26 : decode cL_take 26 = .ok (.iload_n 1, 1) := by decide +kernel
theorem dL_take_27 : decode cL_take 27 = .ok (.aload_n 0, 1) := by decide +kernel
theorem dL_take_28 : decode cL_take 28 = .ok (.arraylength, 1) := by decide +kernel
theorem dL_take_29 : decode cL_take 29 = .ok (.idiv, 1) := by decide +kernel
theorem dL_take_30 : decode cL_take 30 = .ok (.bipush 31, 2) := by decide +kernel
theorem dL_take_32 : decode cL_take 32 = .ok (.imul, 1) := by decide +kernel
theorem dL_take_33 : decode cL_take 33 = .ok (.ixor, 1) := by decide +kernel
theorem dL_take_34 : decode cL_take 34 = .ok (.iload_n 1, 1) := by decide +kernel
theorem dL_take_35 : decode cL_take 35 = .ok (.ldc 8, 2) := by decide +kernel
theorem dL_take_37 : decode cL_take 37 = .ok (.imul, 1) := by decide +kernel
theorem dL_take_38 : decode cL_take 38 = .ok (.ixor, 1) := by decide +kernel
theorem dL_take_39 : decode cL_take 39 = .ok (.ireturn, 1) := by decide +kernel
theorem dL_mixed_0 : decode cL_mixed 0 = .ok (.ldc2_w 9, 3) := by decide +kernel
theorem dL_mixed_3 : decode cL_mixed 3 = .ok (.lload_n 0, 1) := by decide +kernel
theorem dL_mixed_4 : decode cL_mixed 4 = .ok (.lmul, 1) := by decide +kernel
theorem dL_mixed_5 : decode cL_mixed 5 = .ok (.lload_n 2, 1) := by decide +kernel
theorem dL_mixed_6 : decode cL_mixed 6 = .ok (.ladd, 1) := by decide +kernel
theorem dL_mixed_7 : decode cL_mixed 7 = .ok (.lreturn, 1) := by decide +kernel
theorem dL_state_0 : decode cL_state 0 = .ok (.ldc2_w 11, 3) := by decide +kernel
theorem dL_state_3 : decode cL_state 3 = .ok (.lstore_n 1, 1) := by decide +kernel
theorem dL_state_4 : decode cL_state 4 = .ok (.iconst 0, 1) := by decide +kernel
theorem dL_state_5 : decode cL_state 5 = .ok (.istore_n 3, 1) := by decide +kernel
theorem dL_state_6 : decode cL_state 6 = .ok (.iload_n 3, 1) := by decide +kernel
theorem dL_state_7 : decode cL_state 7 = .ok (.bipush 25, 2) := by decide +kernel
theorem dL_state_9 : decode cL_state 9 = .ok (.if_icmp .ge 32, 3) := by decide +kernel
theorem dL_state_12 : decode cL_state 12 = .ok (.iload_n 3, 1) := by decide +kernel
theorem dL_state_13 : decode cL_state 13 = .ok (.bipush 7, 2) := by decide +kernel
theorem dL_state_15 : decode cL_state 15 = .ok (.if_icmp .eq 20, 3) := by decide +kernel
theorem dL_state_18 : decode cL_state 18 = .ok (.iload_n 3, 1) := by decide +kernel
theorem dL_state_19 : decode cL_state 19 = .ok (.bipush 8, 2) := by decide +kernel
theorem dL_state_21 : decode cL_state 21 = .ok (.if_icmp .eq 14, 3) := by decide +kernel
theorem dL_state_24 : decode cL_state 24 = .ok (.lload_n 1, 1) := by decide +kernel
theorem dL_state_25 : decode cL_state 25 = .ok (.aload_n 0, 1) := by decide +kernel
theorem dL_state_26 : decode cL_state 26 = .ok (.iload_n 3, 1) := by decide +kernel
theorem dL_state_27 : decode cL_state 27 = .ok (.invokevirtual 13, 3) := by decide +kernel
theorem dL_state_30 : decode cL_state 30 = .ok (.i2l, 1) := by decide +kernel
theorem dL_state_31 : decode cL_state 31 = .ok (.invokestatic 19, 3) := by decide +kernel
theorem dL_state_34 : decode cL_state 34 = .ok (.lstore_n 1, 1) := by decide +kernel
theorem dL_state_35 : decode cL_state 35 = .ok (.iinc 3 1, 3) := by decide +kernel
theorem dL_state_38 : decode cL_state 38 = .ok (.goto (-32), 3) := by decide +kernel
theorem dL_state_41 : decode cL_state 41 = .ok (.iconst 0, 1) := by decide +kernel
theorem dL_state_42 : decode cL_state 42 = .ok (.istore_n 3, 1) := by decide +kernel
theorem dL_state_43 : decode cL_state 43 = .ok (.iload_n 3, 1) := by decide +kernel
theorem dL_state_44 : decode cL_state 44 = .ok (.bipush 7, 2) := by decide +kernel
theorem dL_state_46 : decode cL_state 46 = .ok (.aload_n 0, 1) := by decide +kernel
theorem dL_state_47 : decode cL_state 47 = .ok (.iconst 1, 1) := by decide +kernel
theorem dL_state_48 : decode cL_state 48 = .ok (.invokevirtual 13, 3) := by decide +kernel
theorem dL_state_51 : decode cL_state 51 = .ok (.imul, 1) := by decide +kernel
theorem dL_state_52 : decode cL_state 52 = .ok (.if_icmp .ge 27, 3) := by decide +kernel
theorem dL_state_55 : decode cL_state 55 = .ok (.lload_n 1, 1) := by decide +kernel
theorem dL_state_56 : decode cL_state 56 = .ok (.aload_n 0, 1) := by decide +kernel
theorem dL_state_57 : decode cL_state 57 = .ok (.iload_n 3, 1) := by decide +kernel
theorem dL_state_58 : decode cL_state 58 = .ok (.bipush 7, 2) := by decide +kernel
theorem dL_state_60 : decode cL_state 60 = .ok (.idiv, 1) := by decide +kernel
theorem dL_state_61 : decode cL_state 61 = .ok (.iload_n 3, 1) := by decide +kernel
theorem dL_state_62 : decode cL_state 62 = .ok (.bipush 7, 2) := by decide +kernel
theorem dL_state_64 : decode cL_state 64 = .ok (.irem, 1) := by decide +kernel
theorem dL_state_65 : decode cL_state 65 = .ok (.invokevirtual 25, 3) := by decide +kernel
theorem dL_state_68 : decode cL_state 68 = .ok (.i2l, 1) := by decide +kernel
theorem dL_state_69 : decode cL_state 69 = .ok (.invokestatic 19, 3) := by decide +kernel
theorem dL_state_72 : decode cL_state 72 = .ok (.lstore_n 1, 1) := by decide +kernel
theorem dL_state_73 : decode cL_state 73 = .ok (.iinc 3 1, 3) := by decide +kernel
theorem dL_state_76 : decode cL_state 76 = .ok (.goto (-33), 3) := by decide +kernel
theorem dL_state_79 : decode cL_state 79 = .ok (.iconst 0, 1) := by decide +kernel
theorem dL_state_80 : decode cL_state 80 = .ok (.istore_n 3, 1) := by decide +kernel
theorem dL_state_81 : decode cL_state 81 = .ok (.iload_n 3, 1) := by decide +kernel
theorem dL_state_82 : decode cL_state 82 = .ok (.bipush 7, 2) := by decide +kernel
theorem dL_state_84 : decode cL_state 84 = .ok (.aload_n 0, 1) := by decide +kernel
theorem dL_state_85 : decode cL_state 85 = .ok (.iconst 2, 1) := by decide +kernel
theorem dL_state_86 : decode cL_state 86 = .ok (.invokevirtual 13, 3) := by decide +kernel
theorem dL_state_89 : decode cL_state 89 = .ok (.imul, 1) := by decide +kernel
theorem dL_state_90 : decode cL_state 90 = .ok (.if_icmp .ge 27, 3) := by decide +kernel
theorem dL_state_93 : decode cL_state 93 = .ok (.lload_n 1, 1) := by decide +kernel
theorem dL_state_94 : decode cL_state 94 = .ok (.aload_n 0, 1) := by decide +kernel
theorem dL_state_95 : decode cL_state 95 = .ok (.iload_n 3, 1) := by decide +kernel
theorem dL_state_96 : decode cL_state 96 = .ok (.bipush 7, 2) := by decide +kernel
theorem dL_state_98 : decode cL_state 98 = .ok (.idiv, 1) := by decide +kernel
theorem dL_state_99 : decode cL_state 99 = .ok (.iload_n 3, 1) := by decide +kernel
theorem dL_state_100 : decode cL_state 100 = .ok (.bipush 7, 2) := by decide +kernel
theorem dL_state_102 : decode cL_state 102 = .ok (.irem, 1) := by decide +kernel
theorem dL_state_103 : decode cL_state 103 = .ok (.invokevirtual 29, 3) := by decide +kernel
theorem dL_state_106 : decode cL_state 106 = .ok (.i2l, 1) := by decide +kernel
theorem dL_state_107 : decode cL_state 107 = .ok (.invokestatic 19, 3) := by decide +kernel
theorem dL_state_110 : decode cL_state 110 = .ok (.lstore_n 1, 1) := by decide +kernel
theorem dL_state_111 : decode cL_state 111 = .ok (.iinc 3 1, 3) := by decide +kernel
theorem dL_state_114 : decode cL_state 114 = .ok (.goto (-33), 3) := by decide +kernel
theorem dL_state_117 : decode cL_state 117 = .ok (.lload_n 1, 1) := by decide +kernel
theorem dL_state_118 : decode cL_state 118 = .ok (.lreturn, 1) := by decide +kernel
theorem dL_refusesBowls_0 : decode cL_refusesBowls 0 = .ok (.aload_n 0, 1) := by decide +kernel
theorem dL_refusesBowls_1 : decode cL_refusesBowls 1 = .ok (.iconst 1, 1) := by decide +kernel
theorem dL_refusesBowls_2 : decode cL_refusesBowls 2 = .ok (.invokevirtual 13, 3) := by decide +kernel
theorem dL_refusesBowls_5 : decode cL_refusesBowls 5 = .ok (.istore_n 1, 1) := by decide +kernel
theorem dL_refusesBowls_6 : decode cL_refusesBowls 6 = .ok (.aload_n 0, 1) := by decide +kernel
theorem dL_refusesBowls_7 : decode cL_refusesBowls 7 = .ok (.iconst (-1), 1) := by decide +kernel
theorem dL_refusesBowls_8 : decode cL_refusesBowls 8 = .ok (.iconst 1, 1) := by decide +kernel
theorem dL_refusesBowls_9 : decode cL_refusesBowls 9 = .ok (.invokevirtual 32, 3) := by decide +kernel
theorem dL_refusesBowls_12 : decode cL_refusesBowls 12 = .ok (.ldc 35, 2) := by decide +kernel
theorem dL_refusesBowls_14 : decode cL_refusesBowls 14 = .ok (.if_icmp .ne 62, 3) := by decide +kernel
theorem dL_refusesBowls_17 : decode cL_refusesBowls 17 = .ok (.aload_n 0, 1) := by decide +kernel
theorem dL_refusesBowls_18 : decode cL_refusesBowls 18 = .ok (.sipush 6001, 3) := by decide +kernel
theorem dL_refusesBowls_21 : decode cL_refusesBowls 21 = .ok (.iconst 1, 1) := by decide +kernel
theorem dL_refusesBowls_22 : decode cL_refusesBowls 22 = .ok (.invokevirtual 32, 3) := by decide +kernel
theorem dL_refusesBowls_25 : decode cL_refusesBowls 25 = .ok (.ldc 35, 2) := by decide +kernel
theorem dL_refusesBowls_27 : decode cL_refusesBowls 27 = .ok (.if_icmp .ne 49, 3) := by decide +kernel
theorem dL_refusesBowls_30 : decode cL_refusesBowls 30 = .ok (.aload_n 0, 1) := by decide +kernel
theorem dL_refusesBowls_31 : decode cL_refusesBowls 31 = .ok (.iconst 0, 1) := by decide +kernel
theorem dL_refusesBowls_32 : decode cL_refusesBowls 32 = .ok (.iconst 0, 1) := by decide +kernel
theorem dL_refusesBowls_33 : decode cL_refusesBowls 33 = .ok (.invokevirtual 32, 3) := by decide +kernel
theorem dL_refusesBowls_36 : decode cL_refusesBowls 36 = .ok (.ldc 35, 2) := by decide +kernel
theorem dL_refusesBowls_38 : decode cL_refusesBowls 38 = .ok (.if_icmp .ne 38, 3) := by decide +kernel
theorem dL_refusesBowls_41 : decode cL_refusesBowls 41 = .ok (.aload_n 0, 1) := by decide +kernel
theorem dL_refusesBowls_42 : decode cL_refusesBowls 42 = .ok (.iconst 0, 1) := by decide +kernel
theorem dL_refusesBowls_43 : decode cL_refusesBowls 43 = .ok (.sipush 2401, 3) := by decide +kernel
theorem dL_refusesBowls_46 : decode cL_refusesBowls 46 = .ok (.invokevirtual 32, 3) := by decide +kernel
theorem dL_refusesBowls_49 : decode cL_refusesBowls 49 = .ok (.ldc 35, 2) := by decide +kernel
theorem dL_refusesBowls_51 : decode cL_refusesBowls 51 = .ok (.if_icmp .ne 25, 3) := by decide +kernel
theorem dL_refusesBowls_54 : decode cL_refusesBowls 54 = .ok (.aload_n 0, 1) := by decide +kernel
theorem dL_refusesBowls_55 : decode cL_refusesBowls 55 = .ok (.iconst (-1), 1) := by decide +kernel
theorem dL_refusesBowls_56 : decode cL_refusesBowls 56 = .ok (.invokevirtual 36, 3) := by decide +kernel
theorem dL_refusesBowls_59 : decode cL_refusesBowls 59 = .ok (.ldc 35, 2) := by decide +kernel
theorem dL_refusesBowls_61 : decode cL_refusesBowls 61 = .ok (.if_icmp .ne 15, 3) := by decide +kernel
theorem dL_refusesBowls_64 : decode cL_refusesBowls 64 = .ok (.aload_n 0, 1) := by decide +kernel
theorem dL_refusesBowls_65 : decode cL_refusesBowls 65 = .ok (.sipush 6001, 3) := by decide +kernel
theorem dL_refusesBowls_68 : decode cL_refusesBowls 68 = .ok (.invokevirtual 36, 3) := by decide +kernel
theorem dL_refusesBowls_71 : decode cL_refusesBowls 71 = .ok (.ldc 35, 2) := by decide +kernel
theorem dL_refusesBowls_73 : decode cL_refusesBowls 73 = .ok (.if_icmp .eq 5, 3) := by decide +kernel
theorem dL_refusesBowls_76 : decode cL_refusesBowls 76 = .ok (.iconst 0, 1) := by decide +kernel
theorem dL_refusesBowls_77 : decode cL_refusesBowls 77 = .ok (.ireturn, 1) := by decide +kernel
theorem dL_refusesBowls_78 : decode cL_refusesBowls 78 = .ok (.iconst 0, 1) := by decide +kernel
theorem dL_refusesBowls_79 : decode cL_refusesBowls 79 = .ok (.istore_n 2, 1) := by decide +kernel
theorem dL_refusesBowls_80 : decode cL_refusesBowls 80 = .ok (.iload_n 2, 1) := by decide +kernel
theorem dL_refusesBowls_81 : decode cL_refusesBowls 81 = .ok (.iconst 2, 1) := by decide +kernel
theorem dL_refusesBowls_82 : decode cL_refusesBowls 82 = .ok (.if_icmp .ge 110, 3) := by decide +kernel
theorem dL_refusesBowls_85 : decode cL_refusesBowls 85 = .ok (.iload_n 2, 1) := by decide +kernel
theorem dL_refusesBowls_86 : decode cL_refusesBowls 86 = .ok (.ifCond .ne 7, 3) := by decide +kernel
theorem dL_refusesBowls_89 : decode cL_refusesBowls 89 = .ok (.iload_n 1, 1) := by decide +kernel
theorem dL_refusesBowls_90 : decode cL_refusesBowls 90 = .ok (.goto 4, 3) := by decide +kernel
theorem dL_refusesBowls_93 : decode cL_refusesBowls 93 = .ok (.iconst (-1), 1) := by decide +kernel
theorem dL_refusesBowls_94 : decode cL_refusesBowls 94 = .ok (.istore_n 3, 1) := by decide +kernel
theorem dL_refusesBowls_95 : decode cL_refusesBowls 95 = .ok (.aload_n 0, 1) := by decide +kernel
theorem dL_refusesBowls_96 : decode cL_refusesBowls 96 = .ok (.iload_n 3, 1) := by decide +kernel
theorem dL_refusesBowls_97 : decode cL_refusesBowls 97 = .ok (.invokevirtual 39, 3) := by decide +kernel
theorem dL_refusesBowls_100 : decode cL_refusesBowls 100 = .ok (.ldc 35, 2) := by decide +kernel
theorem dL_refusesBowls_102 : decode cL_refusesBowls 102 = .ok (.if_icmp .ne 82, 3) := by decide +kernel
theorem dL_refusesBowls_105 : decode cL_refusesBowls 105 = .ok (.aload_n 0, 1) := by decide +kernel
theorem dL_refusesBowls_106 : decode cL_refusesBowls 106 = .ok (.iload_n 3, 1) := by decide +kernel
theorem dL_refusesBowls_107 : decode cL_refusesBowls 107 = .ok (.iconst 1, 1) := by decide +kernel
theorem dL_refusesBowls_108 : decode cL_refusesBowls 108 = .ok (.invokevirtual 42, 3) := by decide +kernel
theorem dL_refusesBowls_111 : decode cL_refusesBowls 111 = .ok (.ldc 35, 2) := by decide +kernel
theorem dL_refusesBowls_113 : decode cL_refusesBowls 113 = .ok (.if_icmp .ne 71, 3) := by decide +kernel
theorem dL_refusesBowls_116 : decode cL_refusesBowls 116 = .ok (.aload_n 0, 1) := by decide +kernel
theorem dL_refusesBowls_117 : decode cL_refusesBowls 117 = .ok (.iload_n 3, 1) := by decide +kernel
theorem dL_refusesBowls_118 : decode cL_refusesBowls 118 = .ok (.iconst 1, 1) := by decide +kernel
theorem dL_refusesBowls_119 : decode cL_refusesBowls 119 = .ok (.invokevirtual 45, 3) := by decide +kernel
theorem dL_refusesBowls_122 : decode cL_refusesBowls 122 = .ok (.ldc 35, 2) := by decide +kernel
theorem dL_refusesBowls_124 : decode cL_refusesBowls 124 = .ok (.if_icmp .ne 60, 3) := by decide +kernel
theorem dL_refusesBowls_127 : decode cL_refusesBowls 127 = .ok (.aload_n 0, 1) := by decide +kernel
theorem dL_refusesBowls_128 : decode cL_refusesBowls 128 = .ok (.iload_n 3, 1) := by decide +kernel
theorem dL_refusesBowls_129 : decode cL_refusesBowls 129 = .ok (.iconst 0, 1) := by decide +kernel
theorem dL_refusesBowls_130 : decode cL_refusesBowls 130 = .ok (.invokevirtual 48, 3) := by decide +kernel
theorem dL_refusesBowls_133 : decode cL_refusesBowls 133 = .ok (.ldc 35, 2) := by decide +kernel
theorem dL_refusesBowls_135 : decode cL_refusesBowls 135 = .ok (.if_icmp .ne 49, 3) := by decide +kernel
theorem dL_refusesBowls_138 : decode cL_refusesBowls 138 = .ok (.aload_n 0, 1) := by decide +kernel
theorem dL_refusesBowls_139 : decode cL_refusesBowls 139 = .ok (.iload_n 3, 1) := by decide +kernel
theorem dL_refusesBowls_140 : decode cL_refusesBowls 140 = .ok (.iconst 0, 1) := by decide +kernel
theorem dL_refusesBowls_141 : decode cL_refusesBowls 141 = .ok (.invokevirtual 51, 3) := by decide +kernel
theorem dL_refusesBowls_144 : decode cL_refusesBowls 144 = .ok (.ldc 35, 2) := by decide +kernel
theorem dL_refusesBowls_146 : decode cL_refusesBowls 146 = .ok (.if_icmp .ne 38, 3) := by decide +kernel
theorem dL_refusesBowls_149 : decode cL_refusesBowls 149 = .ok (.aload_n 0, 1) := by decide +kernel
theorem dL_refusesBowls_150 : decode cL_refusesBowls 150 = .ok (.iload_n 3, 1) := by decide +kernel
theorem dL_refusesBowls_151 : decode cL_refusesBowls 151 = .ok (.iconst 0, 1) := by decide +kernel
theorem dL_refusesBowls_152 : decode cL_refusesBowls 152 = .ok (.invokevirtual 25, 3) := by decide +kernel
theorem dL_refusesBowls_155 : decode cL_refusesBowls 155 = .ok (.ldc 35, 2) := by decide +kernel
theorem dL_refusesBowls_157 : decode cL_refusesBowls 157 = .ok (.if_icmp .ne 27, 3) := by decide +kernel
theorem dL_refusesBowls_160 : decode cL_refusesBowls 160 = .ok (.aload_n 0, 1) := by decide +kernel
theorem dL_refusesBowls_161 : decode cL_refusesBowls 161 = .ok (.iload_n 3, 1) := by decide +kernel
theorem dL_refusesBowls_162 : decode cL_refusesBowls 162 = .ok (.iconst 0, 1) := by decide +kernel
theorem dL_refusesBowls_163 : decode cL_refusesBowls 163 = .ok (.invokevirtual 54, 3) := by decide +kernel
theorem dL_refusesBowls_166 : decode cL_refusesBowls 166 = .ok (.ldc 35, 2) := by decide +kernel
theorem dL_refusesBowls_168 : decode cL_refusesBowls 168 = .ok (.if_icmp .ne 16, 3) := by decide +kernel
theorem dL_refusesBowls_171 : decode cL_refusesBowls 171 = .ok (.aload_n 0, 1) := by decide +kernel
theorem dL_refusesBowls_172 : decode cL_refusesBowls 172 = .ok (.iload_n 3, 1) := by decide +kernel
theorem dL_refusesBowls_173 : decode cL_refusesBowls 173 = .ok (.sipush 3600, 3) := by decide +kernel
theorem dL_refusesBowls_176 : decode cL_refusesBowls 176 = .ok (.invokevirtual 57, 3) := by decide +kernel
theorem dL_refusesBowls_179 : decode cL_refusesBowls 179 = .ok (.ldc 35, 2) := by decide +kernel
theorem dL_refusesBowls_181 : decode cL_refusesBowls 181 = .ok (.if_icmp .eq 5, 3) := by decide +kernel
theorem dL_refusesBowls_184 : decode cL_refusesBowls 184 = .ok (.iconst 0, 1) := by decide +kernel
theorem dL_refusesBowls_185 : decode cL_refusesBowls 185 = .ok (.ireturn, 1) := by decide +kernel
theorem dL_refusesBowls_186 : decode cL_refusesBowls 186 = .ok (.iinc 2 1, 3) := by decide +kernel
theorem dL_refusesBowls_189 : decode cL_refusesBowls 189 = .ok (.goto (-109), 3) := by decide +kernel
theorem dL_refusesBowls_192 : decode cL_refusesBowls 192 = .ok (.iload_n 1, 1) := by decide +kernel
theorem dL_refusesBowls_193 : decode cL_refusesBowls 193 = .ok (.ifCond .le 199, 3) := by decide +kernel
theorem dL_refusesBowls_196 : decode cL_refusesBowls 196 = .ok (.aload_n 0, 1) := by decide +kernel
theorem dL_refusesBowls_197 : decode cL_refusesBowls 197 = .ok (.iconst 0, 1) := by decide +kernel
theorem dL_refusesBowls_198 : decode cL_refusesBowls 198 = .ok (.iconst 0, 1) := by decide +kernel
theorem dL_refusesBowls_199 : decode cL_refusesBowls 199 = .ok (.invokevirtual 42, 3) := by decide +kernel
theorem dL_refusesBowls_202 : decode cL_refusesBowls 202 = .ok (.ldc 35, 2) := by decide +kernel
theorem dL_refusesBowls_204 : decode cL_refusesBowls 204 = .ok (.if_icmp .ne 186, 3) := by decide +kernel
theorem dL_refusesBowls_207 : decode cL_refusesBowls 207 = .ok (.aload_n 0, 1) := by decide +kernel
theorem dL_refusesBowls_208 : decode cL_refusesBowls 208 = .ok (.iconst 0, 1) := by decide +kernel
theorem dL_refusesBowls_209 : decode cL_refusesBowls 209 = .ok (.sipush 1001, 3) := by decide +kernel
theorem dL_refusesBowls_212 : decode cL_refusesBowls 212 = .ok (.invokevirtual 42, 3) := by decide +kernel
theorem dL_refusesBowls_215 : decode cL_refusesBowls 215 = .ok (.ldc 35, 2) := by decide +kernel
theorem dL_refusesBowls_217 : decode cL_refusesBowls 217 = .ok (.if_icmp .ne 173, 3) := by decide +kernel
theorem dL_refusesBowls_220 : decode cL_refusesBowls 220 = .ok (.aload_n 0, 1) := by decide +kernel
theorem dL_refusesBowls_221 : decode cL_refusesBowls 221 = .ok (.iconst 0, 1) := by decide +kernel
theorem dL_refusesBowls_222 : decode cL_refusesBowls 222 = .ok (.iconst 0, 1) := by decide +kernel
theorem dL_refusesBowls_223 : decode cL_refusesBowls 223 = .ok (.invokevirtual 45, 3) := by decide +kernel
theorem dL_refusesBowls_226 : decode cL_refusesBowls 226 = .ok (.ldc 35, 2) := by decide +kernel
theorem dL_refusesBowls_228 : decode cL_refusesBowls 228 = .ok (.if_icmp .ne 162, 3) := by decide +kernel
theorem dL_refusesBowls_231 : decode cL_refusesBowls 231 = .ok (.aload_n 0, 1) := by decide +kernel
theorem dL_refusesBowls_232 : decode cL_refusesBowls 232 = .ok (.iconst 0, 1) := by decide +kernel
theorem dL_refusesBowls_233 : decode cL_refusesBowls 233 = .ok (.sipush 1001, 3) := by decide +kernel
theorem dL_refusesBowls_236 : decode cL_refusesBowls 236 = .ok (.invokevirtual 45, 3) := by decide +kernel
theorem dL_refusesBowls_239 : decode cL_refusesBowls 239 = .ok (.ldc 35, 2) := by decide +kernel
theorem dL_refusesBowls_241 : decode cL_refusesBowls 241 = .ok (.if_icmp .ne 149, 3) := by decide +kernel
theorem dL_refusesBowls_244 : decode cL_refusesBowls 244 = .ok (.aload_n 0, 1) := by decide +kernel
theorem dL_refusesBowls_245 : decode cL_refusesBowls 245 = .ok (.iconst 0, 1) := by decide +kernel
theorem dL_refusesBowls_246 : decode cL_refusesBowls 246 = .ok (.iconst (-1), 1) := by decide +kernel
theorem dL_refusesBowls_247 : decode cL_refusesBowls 247 = .ok (.invokevirtual 48, 3) := by decide +kernel
theorem dL_refusesBowls_250 : decode cL_refusesBowls 250 = .ok (.ldc 35, 2) := by decide +kernel
theorem dL_refusesBowls_252 : decode cL_refusesBowls 252 = .ok (.if_icmp .ne 138, 3) := by decide +kernel
theorem dL_refusesBowls_255 : decode cL_refusesBowls 255 = .ok (.aload_n 0, 1) := by decide +kernel
theorem dL_refusesBowls_256 : decode cL_refusesBowls 256 = .ok (.iconst 0, 1) := by decide +kernel
theorem dL_refusesBowls_257 : decode cL_refusesBowls 257 = .ok (.sipush 1001, 3) := by decide +kernel
theorem dL_refusesBowls_260 : decode cL_refusesBowls 260 = .ok (.invokevirtual 48, 3) := by decide +kernel
theorem dL_refusesBowls_263 : decode cL_refusesBowls 263 = .ok (.ldc 35, 2) := by decide +kernel
theorem dL_refusesBowls_265 : decode cL_refusesBowls 265 = .ok (.if_icmp .ne 125, 3) := by decide +kernel
theorem dL_refusesBowls_268 : decode cL_refusesBowls 268 = .ok (.aload_n 0, 1) := by decide +kernel
theorem dL_refusesBowls_269 : decode cL_refusesBowls 269 = .ok (.iconst 0, 1) := by decide +kernel
theorem dL_refusesBowls_270 : decode cL_refusesBowls 270 = .ok (.iconst (-1), 1) := by decide +kernel
theorem dL_refusesBowls_271 : decode cL_refusesBowls 271 = .ok (.invokevirtual 51, 3) := by decide +kernel
theorem dL_refusesBowls_274 : decode cL_refusesBowls 274 = .ok (.ldc 35, 2) := by decide +kernel
theorem dL_refusesBowls_276 : decode cL_refusesBowls 276 = .ok (.if_icmp .ne 114, 3) := by decide +kernel
theorem dL_refusesBowls_279 : decode cL_refusesBowls 279 = .ok (.aload_n 0, 1) := by decide +kernel
theorem dL_refusesBowls_280 : decode cL_refusesBowls 280 = .ok (.iconst 0, 1) := by decide +kernel
theorem dL_refusesBowls_281 : decode cL_refusesBowls 281 = .ok (.sipush 1001, 3) := by decide +kernel
theorem dL_refusesBowls_284 : decode cL_refusesBowls 284 = .ok (.invokevirtual 51, 3) := by decide +kernel
theorem dL_refusesBowls_287 : decode cL_refusesBowls 287 = .ok (.ldc 35, 2) := by decide +kernel
theorem dL_refusesBowls_289 : decode cL_refusesBowls 289 = .ok (.if_icmp .ne 101, 3) := by decide +kernel
theorem dL_refusesBowls_292 : decode cL_refusesBowls 292 = .ok (.aload_n 0, 1) := by decide +kernel
theorem dL_refusesBowls_293 : decode cL_refusesBowls 293 = .ok (.iconst 0, 1) := by decide +kernel
theorem dL_refusesBowls_294 : decode cL_refusesBowls 294 = .ok (.bipush 7, 2) := by decide +kernel
theorem dL_refusesBowls_296 : decode cL_refusesBowls 296 = .ok (.invokevirtual 25, 3) := by decide +kernel
theorem dL_refusesBowls_299 : decode cL_refusesBowls 299 = .ok (.ldc 35, 2) := by decide +kernel
theorem dL_refusesBowls_301 : decode cL_refusesBowls 301 = .ok (.if_icmp .ne 89, 3) := by decide +kernel
theorem dL_refusesBowls_304 : decode cL_refusesBowls 304 = .ok (.aload_n 0, 1) := by decide +kernel
theorem dL_refusesBowls_305 : decode cL_refusesBowls 305 = .ok (.iconst 0, 1) := by decide +kernel
theorem dL_refusesBowls_306 : decode cL_refusesBowls 306 = .ok (.iconst (-1), 1) := by decide +kernel
theorem dL_refusesBowls_307 : decode cL_refusesBowls 307 = .ok (.invokevirtual 25, 3) := by decide +kernel
theorem dL_refusesBowls_310 : decode cL_refusesBowls 310 = .ok (.ldc 35, 2) := by decide +kernel
theorem dL_refusesBowls_312 : decode cL_refusesBowls 312 = .ok (.if_icmp .ne 78, 3) := by decide +kernel
theorem dL_refusesBowls_315 : decode cL_refusesBowls 315 = .ok (.aload_n 0, 1) := by decide +kernel
theorem dL_refusesBowls_316 : decode cL_refusesBowls 316 = .ok (.iconst 0, 1) := by decide +kernel
theorem dL_refusesBowls_317 : decode cL_refusesBowls 317 = .ok (.sipush (-3001), 3) := by decide +kernel
theorem dL_refusesBowls_320 : decode cL_refusesBowls 320 = .ok (.invokevirtual 54, 3) := by decide +kernel
theorem dL_refusesBowls_323 : decode cL_refusesBowls 323 = .ok (.ldc 35, 2) := by decide +kernel
theorem dL_refusesBowls_325 : decode cL_refusesBowls 325 = .ok (.if_icmp .ne 65, 3) := by decide +kernel
theorem dL_refusesBowls_328 : decode cL_refusesBowls 328 = .ok (.aload_n 0, 1) := by decide +kernel
theorem dL_refusesBowls_329 : decode cL_refusesBowls 329 = .ok (.iconst 0, 1) := by decide +kernel
theorem dL_refusesBowls_330 : decode cL_refusesBowls 330 = .ok (.sipush 6001, 3) := by decide +kernel
theorem dL_refusesBowls_333 : decode cL_refusesBowls 333 = .ok (.invokevirtual 54, 3) := by decide +kernel
theorem dL_refusesBowls_336 : decode cL_refusesBowls 336 = .ok (.ldc 35, 2) := by decide +kernel
theorem dL_refusesBowls_338 : decode cL_refusesBowls 338 = .ok (.if_icmp .ne 52, 3) := by decide +kernel
theorem dL_refusesBowls_341 : decode cL_refusesBowls 341 = .ok (.aload_n 0, 1) := by decide +kernel
theorem dL_refusesBowls_342 : decode cL_refusesBowls 342 = .ok (.iconst 0, 1) := by decide +kernel
theorem dL_refusesBowls_343 : decode cL_refusesBowls 343 = .ok (.sipush 3601, 3) := by decide +kernel
theorem dL_refusesBowls_346 : decode cL_refusesBowls 346 = .ok (.invokevirtual 57, 3) := by decide +kernel
theorem dL_refusesBowls_349 : decode cL_refusesBowls 349 = .ok (.ldc 35, 2) := by decide +kernel
theorem dL_refusesBowls_351 : decode cL_refusesBowls 351 = .ok (.if_icmp .ne 39, 3) := by decide +kernel
theorem dL_refusesBowls_354 : decode cL_refusesBowls 354 = .ok (.aload_n 0, 1) := by decide +kernel
theorem dL_refusesBowls_355 : decode cL_refusesBowls 355 = .ok (.iconst 0, 1) := by decide +kernel
theorem dL_refusesBowls_356 : decode cL_refusesBowls 356 = .ok (.aload_n 0, 1) := by decide +kernel
theorem dL_refusesBowls_357 : decode cL_refusesBowls 357 = .ok (.iconst 0, 1) := by decide +kernel
theorem dL_refusesBowls_358 : decode cL_refusesBowls 358 = .ok (.invokevirtual 13, 3) := by decide +kernel
theorem dL_refusesBowls_361 : decode cL_refusesBowls 361 = .ok (.iconst 1, 1) := by decide +kernel
theorem dL_refusesBowls_362 : decode cL_refusesBowls 362 = .ok (.isub, 1) := by decide +kernel
theorem dL_refusesBowls_363 : decode cL_refusesBowls 363 = .ok (.invokevirtual 57, 3) := by decide +kernel
theorem dL_refusesBowls_366 : decode cL_refusesBowls 366 = .ok (.ldc 35, 2) := by decide +kernel
theorem dL_refusesBowls_368 : decode cL_refusesBowls 368 = .ok (.if_icmp .ne 22, 3) := by decide +kernel
theorem dL_refusesBowls_371 : decode cL_refusesBowls 371 = .ok (.aload_n 0, 1) := by decide +kernel
theorem dL_refusesBowls_372 : decode cL_refusesBowls 372 = .ok (.iconst 0, 1) := by decide +kernel
theorem dL_refusesBowls_373 : decode cL_refusesBowls 373 = .ok (.aload_n 0, 1) := by decide +kernel
theorem dL_refusesBowls_374 : decode cL_refusesBowls 374 = .ok (.iconst 0, 1) := by decide +kernel
theorem dL_refusesBowls_375 : decode cL_refusesBowls 375 = .ok (.invokevirtual 13, 3) := by decide +kernel
theorem dL_refusesBowls_378 : decode cL_refusesBowls 378 = .ok (.invokevirtual 57, 3) := by decide +kernel
theorem dL_refusesBowls_381 : decode cL_refusesBowls 381 = .ok (.aload_n 0, 1) := by decide +kernel
theorem dL_refusesBowls_382 : decode cL_refusesBowls 382 = .ok (.iconst 0, 1) := by decide +kernel
theorem dL_refusesBowls_383 : decode cL_refusesBowls 383 = .ok (.iconst 5, 1) := by decide +kernel
theorem dL_refusesBowls_384 : decode cL_refusesBowls 384 = .ok (.invokevirtual 25, 3) := by decide +kernel
theorem dL_refusesBowls_387 : decode cL_refusesBowls 387 = .ok (.if_icmp .eq 5, 3) := by decide +kernel
theorem dL_refusesBowls_390 : decode cL_refusesBowls 390 = .ok (.iconst 0, 1) := by decide +kernel
theorem dL_refusesBowls_391 : decode cL_refusesBowls 391 = .ok (.ireturn, 1) := by decide +kernel
theorem dL_refusesBowls_392 : decode cL_refusesBowls 392 = .ok (.iload_n 1, 1) := by decide +kernel
theorem dL_refusesBowls_393 : decode cL_refusesBowls 393 = .ok (.ifCond .gt 31, 3) := by decide +kernel
theorem dL_refusesBowls_396 : decode cL_refusesBowls 396 = .ok (.aload_n 0, 1) := by decide +kernel
theorem dL_refusesBowls_397 : decode cL_refusesBowls 397 = .ok (.iconst 0, 1) := by decide +kernel
theorem dL_refusesBowls_398 : decode cL_refusesBowls 398 = .ok (.invokevirtual 36, 3) := by decide +kernel
theorem dL_refusesBowls_401 : decode cL_refusesBowls 401 = .ok (.ldc 60, 2) := by decide +kernel
theorem dL_refusesBowls_403 : decode cL_refusesBowls 403 = .ok (.if_icmp .ne 25, 3) := by decide +kernel
theorem dL_refusesBowls_406 : decode cL_refusesBowls 406 = .ok (.aload_n 0, 1) := by decide +kernel
theorem dL_refusesBowls_407 : decode cL_refusesBowls 407 = .ok (.invokevirtual 61, 3) := by decide +kernel
theorem dL_refusesBowls_410 : decode cL_refusesBowls 410 = .ok (.ldc 60, 2) := by decide +kernel
theorem dL_refusesBowls_412 : decode cL_refusesBowls 412 = .ok (.if_icmp .ne 16, 3) := by decide +kernel
theorem dL_refusesBowls_415 : decode cL_refusesBowls 415 = .ok (.aload_n 0, 1) := by decide +kernel
theorem dL_refusesBowls_416 : decode cL_refusesBowls 416 = .ok (.invokevirtual 65, 3) := by decide +kernel
theorem dL_refusesBowls_419 : decode cL_refusesBowls 419 = .ok (.ldc 60, 2) := by decide +kernel
theorem dL_refusesBowls_421 : decode cL_refusesBowls 421 = .ok (.if_icmp .ne 7, 3) := by decide +kernel
theorem dL_refusesBowls_424 : decode cL_refusesBowls 424 = .ok (.iconst 1, 1) := by decide +kernel
theorem dL_refusesBowls_425 : decode cL_refusesBowls 425 = .ok (.goto 4, 3) := by decide +kernel
theorem dL_refusesBowls_428 : decode cL_refusesBowls 428 = .ok (.iconst 0, 1) := by decide +kernel
theorem dL_refusesBowls_429 : decode cL_refusesBowls 429 = .ok (.ireturn, 1) := by decide +kernel
theorem dL_refusesNotes_0 : decode cL_refusesNotes 0 = .ok (.aload_n 0, 1) := by decide +kernel
theorem dL_refusesNotes_1 : decode cL_refusesNotes 1 = .ok (.iconst 2, 1) := by decide +kernel
theorem dL_refusesNotes_2 : decode cL_refusesNotes 2 = .ok (.invokevirtual 13, 3) := by decide +kernel
theorem dL_refusesNotes_5 : decode cL_refusesNotes 5 = .ok (.istore_n 1, 1) := by decide +kernel
theorem dL_refusesNotes_6 : decode cL_refusesNotes 6 = .ok (.aload_n 0, 1) := by decide +kernel
theorem dL_refusesNotes_7 : decode cL_refusesNotes 7 = .ok (.iconst (-1), 1) := by decide +kernel
theorem dL_refusesNotes_8 : decode cL_refusesNotes 8 = .ok (.iconst 0, 1) := by decide +kernel
theorem dL_refusesNotes_9 : decode cL_refusesNotes 9 = .ok (.invokevirtual 68, 3) := by decide +kernel
theorem dL_refusesNotes_12 : decode cL_refusesNotes 12 = .ok (.ldc 35, 2) := by decide +kernel
theorem dL_refusesNotes_14 : decode cL_refusesNotes 14 = .ok (.if_icmp .ne 85, 3) := by decide +kernel
theorem dL_refusesNotes_17 : decode cL_refusesNotes 17 = .ok (.aload_n 0, 1) := by decide +kernel
theorem dL_refusesNotes_18 : decode cL_refusesNotes 18 = .ok (.sipush 3601, 3) := by decide +kernel
theorem dL_refusesNotes_21 : decode cL_refusesNotes 21 = .ok (.iconst 0, 1) := by decide +kernel
theorem dL_refusesNotes_22 : decode cL_refusesNotes 22 = .ok (.invokevirtual 68, 3) := by decide +kernel
theorem dL_refusesNotes_25 : decode cL_refusesNotes 25 = .ok (.ldc 35, 2) := by decide +kernel
theorem dL_refusesNotes_27 : decode cL_refusesNotes 27 = .ok (.if_icmp .ne 72, 3) := by decide +kernel
theorem dL_refusesNotes_30 : decode cL_refusesNotes 30 = .ok (.aload_n 0, 1) := by decide +kernel
theorem dL_refusesNotes_31 : decode cL_refusesNotes 31 = .ok (.iconst 0, 1) := by decide +kernel
theorem dL_refusesNotes_32 : decode cL_refusesNotes 32 = .ok (.iconst (-1), 1) := by decide +kernel
theorem dL_refusesNotes_33 : decode cL_refusesNotes 33 = .ok (.invokevirtual 68, 3) := by decide +kernel
theorem dL_refusesNotes_36 : decode cL_refusesNotes 36 = .ok (.ldc 35, 2) := by decide +kernel
theorem dL_refusesNotes_38 : decode cL_refusesNotes 38 = .ok (.if_icmp .ne 61, 3) := by decide +kernel
theorem dL_refusesNotes_41 : decode cL_refusesNotes 41 = .ok (.aload_n 0, 1) := by decide +kernel
theorem dL_refusesNotes_42 : decode cL_refusesNotes 42 = .ok (.iconst 0, 1) := by decide +kernel
theorem dL_refusesNotes_43 : decode cL_refusesNotes 43 = .ok (.sipush 6001, 3) := by decide +kernel
theorem dL_refusesNotes_46 : decode cL_refusesNotes 46 = .ok (.invokevirtual 68, 3) := by decide +kernel
theorem dL_refusesNotes_49 : decode cL_refusesNotes 49 = .ok (.ldc 35, 2) := by decide +kernel
theorem dL_refusesNotes_51 : decode cL_refusesNotes 51 = .ok (.if_icmp .ne 48, 3) := by decide +kernel
theorem dL_refusesNotes_54 : decode cL_refusesNotes 54 = .ok (.aload_n 0, 1) := by decide +kernel
theorem dL_refusesNotes_55 : decode cL_refusesNotes 55 = .ok (.iconst 0, 1) := by decide +kernel
theorem dL_refusesNotes_56 : decode cL_refusesNotes 56 = .ok (.iload_n 1, 1) := by decide +kernel
theorem dL_refusesNotes_57 : decode cL_refusesNotes 57 = .ok (.iconst 1, 1) := by decide +kernel
theorem dL_refusesNotes_58 : decode cL_refusesNotes 58 = .ok (.invokevirtual 71, 3) := by decide +kernel
theorem dL_refusesNotes_61 : decode cL_refusesNotes 61 = .ok (.ldc 35, 2) := by decide +kernel
theorem dL_refusesNotes_63 : decode cL_refusesNotes 63 = .ok (.if_icmp .ne 36, 3) := by decide +kernel
theorem dL_refusesNotes_66 : decode cL_refusesNotes 66 = .ok (.aload_n 0, 1) := by decide +kernel
theorem dL_refusesNotes_67 : decode cL_refusesNotes 67 = .ok (.iconst (-1), 1) := by decide +kernel
theorem dL_refusesNotes_68 : decode cL_refusesNotes 68 = .ok (.iconst 0, 1) := by decide +kernel
theorem dL_refusesNotes_69 : decode cL_refusesNotes 69 = .ok (.iconst 1, 1) := by decide +kernel
theorem dL_refusesNotes_70 : decode cL_refusesNotes 70 = .ok (.invokevirtual 71, 3) := by decide +kernel
theorem dL_refusesNotes_73 : decode cL_refusesNotes 73 = .ok (.ldc 35, 2) := by decide +kernel
theorem dL_refusesNotes_75 : decode cL_refusesNotes 75 = .ok (.if_icmp .ne 24, 3) := by decide +kernel
theorem dL_refusesNotes_78 : decode cL_refusesNotes 78 = .ok (.aload_n 0, 1) := by decide +kernel
theorem dL_refusesNotes_79 : decode cL_refusesNotes 79 = .ok (.iconst (-1), 1) := by decide +kernel
theorem dL_refusesNotes_80 : decode cL_refusesNotes 80 = .ok (.invokevirtual 75, 3) := by decide +kernel
theorem dL_refusesNotes_83 : decode cL_refusesNotes 83 = .ok (.ldc 35, 2) := by decide +kernel
theorem dL_refusesNotes_85 : decode cL_refusesNotes 85 = .ok (.if_icmp .ne 14, 3) := by decide +kernel
theorem dL_refusesNotes_88 : decode cL_refusesNotes 88 = .ok (.aload_n 0, 1) := by decide +kernel
theorem dL_refusesNotes_89 : decode cL_refusesNotes 89 = .ok (.bipush 40, 2) := by decide +kernel
theorem dL_refusesNotes_91 : decode cL_refusesNotes 91 = .ok (.invokevirtual 75, 3) := by decide +kernel
theorem dL_refusesNotes_94 : decode cL_refusesNotes 94 = .ok (.ldc 60, 2) := by decide +kernel
theorem dL_refusesNotes_96 : decode cL_refusesNotes 96 = .ok (.if_icmp .eq 5, 3) := by decide +kernel
theorem dL_refusesNotes_99 : decode cL_refusesNotes 99 = .ok (.iconst 0, 1) := by decide +kernel
theorem dL_refusesNotes_100 : decode cL_refusesNotes 100 = .ok (.ireturn, 1) := by decide +kernel
theorem dL_refusesNotes_101 : decode cL_refusesNotes 101 = .ok (.iconst 0, 1) := by decide +kernel
theorem dL_refusesNotes_102 : decode cL_refusesNotes 102 = .ok (.istore_n 2, 1) := by decide +kernel
theorem dL_refusesNotes_103 : decode cL_refusesNotes 103 = .ok (.iload_n 2, 1) := by decide +kernel
theorem dL_refusesNotes_104 : decode cL_refusesNotes 104 = .ok (.iconst 2, 1) := by decide +kernel
theorem dL_refusesNotes_105 : decode cL_refusesNotes 105 = .ok (.if_icmp .ge 52, 3) := by decide +kernel
theorem dL_refusesNotes_108 : decode cL_refusesNotes 108 = .ok (.iload_n 2, 1) := by decide +kernel
theorem dL_refusesNotes_109 : decode cL_refusesNotes 109 = .ok (.ifCond .ne 7, 3) := by decide +kernel
theorem dL_refusesNotes_112 : decode cL_refusesNotes 112 = .ok (.iload_n 1, 1) := by decide +kernel
theorem dL_refusesNotes_113 : decode cL_refusesNotes 113 = .ok (.goto 4, 3) := by decide +kernel
theorem dL_refusesNotes_116 : decode cL_refusesNotes 116 = .ok (.iconst (-1), 1) := by decide +kernel
theorem dL_refusesNotes_117 : decode cL_refusesNotes 117 = .ok (.istore_n 3, 1) := by decide +kernel
theorem dL_refusesNotes_118 : decode cL_refusesNotes 118 = .ok (.aload_n 0, 1) := by decide +kernel
theorem dL_refusesNotes_119 : decode cL_refusesNotes 119 = .ok (.iload_n 3, 1) := by decide +kernel
theorem dL_refusesNotes_120 : decode cL_refusesNotes 120 = .ok (.invokevirtual 78, 3) := by decide +kernel
theorem dL_refusesNotes_123 : decode cL_refusesNotes 123 = .ok (.ldc 35, 2) := by decide +kernel
theorem dL_refusesNotes_125 : decode cL_refusesNotes 125 = .ok (.if_icmp .ne 24, 3) := by decide +kernel
theorem dL_refusesNotes_128 : decode cL_refusesNotes 128 = .ok (.aload_n 0, 1) := by decide +kernel
theorem dL_refusesNotes_129 : decode cL_refusesNotes 129 = .ok (.iload_n 3, 1) := by decide +kernel
theorem dL_refusesNotes_130 : decode cL_refusesNotes 130 = .ok (.iconst 0, 1) := by decide +kernel
theorem dL_refusesNotes_131 : decode cL_refusesNotes 131 = .ok (.invokevirtual 29, 3) := by decide +kernel
theorem dL_refusesNotes_134 : decode cL_refusesNotes 134 = .ok (.ldc 35, 2) := by decide +kernel
theorem dL_refusesNotes_136 : decode cL_refusesNotes 136 = .ok (.if_icmp .ne 13, 3) := by decide +kernel
theorem dL_refusesNotes_139 : decode cL_refusesNotes 139 = .ok (.aload_n 0, 1) := by decide +kernel
theorem dL_refusesNotes_140 : decode cL_refusesNotes 140 = .ok (.iload_n 3, 1) := by decide +kernel
theorem dL_refusesNotes_141 : decode cL_refusesNotes 141 = .ok (.invokevirtual 81, 3) := by decide +kernel
theorem dL_refusesNotes_144 : decode cL_refusesNotes 144 = .ok (.ldc 35, 2) := by decide +kernel
theorem dL_refusesNotes_146 : decode cL_refusesNotes 146 = .ok (.if_icmp .eq 5, 3) := by decide +kernel
theorem dL_refusesNotes_149 : decode cL_refusesNotes 149 = .ok (.iconst 0, 1) := by decide +kernel
theorem dL_refusesNotes_150 : decode cL_refusesNotes 150 = .ok (.ireturn, 1) := by decide +kernel
theorem dL_refusesNotes_151 : decode cL_refusesNotes 151 = .ok (.iinc 2 1, 3) := by decide +kernel
theorem dL_refusesNotes_154 : decode cL_refusesNotes 154 = .ok (.goto (-51), 3) := by decide +kernel
theorem dL_refusesNotes_157 : decode cL_refusesNotes 157 = .ok (.iload_n 1, 1) := by decide +kernel
theorem dL_refusesNotes_158 : decode cL_refusesNotes 158 = .ok (.iconst 2, 1) := by decide +kernel
theorem dL_refusesNotes_159 : decode cL_refusesNotes 159 = .ok (.if_icmp .lt 139, 3) := by decide +kernel
theorem dL_refusesNotes_162 : decode cL_refusesNotes 162 = .ok (.aload_n 0, 1) := by decide +kernel
theorem dL_refusesNotes_163 : decode cL_refusesNotes 163 = .ok (.iconst 1, 1) := by decide +kernel
theorem dL_refusesNotes_164 : decode cL_refusesNotes 164 = .ok (.iconst 0, 1) := by decide +kernel
theorem dL_refusesNotes_165 : decode cL_refusesNotes 165 = .ok (.iconst 1, 1) := by decide +kernel
theorem dL_refusesNotes_166 : decode cL_refusesNotes 166 = .ok (.invokevirtual 71, 3) := by decide +kernel
theorem dL_refusesNotes_169 : decode cL_refusesNotes 169 = .ok (.ldc 35, 2) := by decide +kernel
theorem dL_refusesNotes_171 : decode cL_refusesNotes 171 = .ok (.if_icmp .ne 131, 3) := by decide +kernel
theorem dL_refusesNotes_174 : decode cL_refusesNotes 174 = .ok (.aload_n 0, 1) := by decide +kernel
theorem dL_refusesNotes_175 : decode cL_refusesNotes 175 = .ok (.iconst 0, 1) := by decide +kernel
theorem dL_refusesNotes_176 : decode cL_refusesNotes 176 = .ok (.iconst 0, 1) := by decide +kernel
theorem dL_refusesNotes_177 : decode cL_refusesNotes 177 = .ok (.iconst 0, 1) := by decide +kernel
theorem dL_refusesNotes_178 : decode cL_refusesNotes 178 = .ok (.invokevirtual 71, 3) := by decide +kernel
theorem dL_refusesNotes_181 : decode cL_refusesNotes 181 = .ok (.ldc 35, 2) := by decide +kernel
theorem dL_refusesNotes_183 : decode cL_refusesNotes 183 = .ok (.if_icmp .ne 119, 3) := by decide +kernel
theorem dL_refusesNotes_186 : decode cL_refusesNotes 186 = .ok (.aload_n 0, 1) := by decide +kernel
theorem dL_refusesNotes_187 : decode cL_refusesNotes 187 = .ok (.iconst 0, 1) := by decide +kernel
theorem dL_refusesNotes_188 : decode cL_refusesNotes 188 = .ok (.iconst 0, 1) := by decide +kernel
theorem dL_refusesNotes_189 : decode cL_refusesNotes 189 = .ok (.sipush 6001, 3) := by decide +kernel
theorem dL_refusesNotes_192 : decode cL_refusesNotes 192 = .ok (.invokevirtual 71, 3) := by decide +kernel
theorem dL_refusesNotes_195 : decode cL_refusesNotes 195 = .ok (.ldc 35, 2) := by decide +kernel
theorem dL_refusesNotes_197 : decode cL_refusesNotes 197 = .ok (.if_icmp .ne 105, 3) := by decide +kernel
theorem dL_refusesNotes_200 : decode cL_refusesNotes 200 = .ok (.aload_n 0, 1) := by decide +kernel
theorem dL_refusesNotes_201 : decode cL_refusesNotes 201 = .ok (.iconst 0, 1) := by decide +kernel
theorem dL_refusesNotes_202 : decode cL_refusesNotes 202 = .ok (.iconst 0, 1) := by decide +kernel
theorem dL_refusesNotes_203 : decode cL_refusesNotes 203 = .ok (.sipush (-6001), 3) := by decide +kernel
theorem dL_refusesNotes_206 : decode cL_refusesNotes 206 = .ok (.invokevirtual 71, 3) := by decide +kernel
theorem dL_refusesNotes_209 : decode cL_refusesNotes 209 = .ok (.ldc 35, 2) := by decide +kernel
theorem dL_refusesNotes_211 : decode cL_refusesNotes 211 = .ok (.if_icmp .ne 91, 3) := by decide +kernel
theorem dL_refusesNotes_214 : decode cL_refusesNotes 214 = .ok (.aload_n 0, 1) := by decide +kernel
theorem dL_refusesNotes_215 : decode cL_refusesNotes 215 = .ok (.iconst 0, 1) := by decide +kernel
theorem dL_refusesNotes_216 : decode cL_refusesNotes 216 = .ok (.bipush 7, 2) := by decide +kernel
theorem dL_refusesNotes_218 : decode cL_refusesNotes 218 = .ok (.invokevirtual 29, 3) := by decide +kernel
theorem dL_refusesNotes_221 : decode cL_refusesNotes 221 = .ok (.ldc 35, 2) := by decide +kernel
theorem dL_refusesNotes_223 : decode cL_refusesNotes 223 = .ok (.if_icmp .ne 79, 3) := by decide +kernel
theorem dL_refusesNotes_226 : decode cL_refusesNotes 226 = .ok (.aload_n 0, 1) := by decide +kernel
theorem dL_refusesNotes_227 : decode cL_refusesNotes 227 = .ok (.iconst 0, 1) := by decide +kernel
theorem dL_refusesNotes_228 : decode cL_refusesNotes 228 = .ok (.iconst (-1), 1) := by decide +kernel
theorem dL_refusesNotes_229 : decode cL_refusesNotes 229 = .ok (.invokevirtual 29, 3) := by decide +kernel
theorem dL_refusesNotes_232 : decode cL_refusesNotes 232 = .ok (.ldc 35, 2) := by decide +kernel
theorem dL_refusesNotes_234 : decode cL_refusesNotes 234 = .ok (.if_icmp .ne 68, 3) := by decide +kernel
theorem dL_refusesNotes_237 : decode cL_refusesNotes 237 = .ok (.aload_n 0, 1) := by decide +kernel
theorem dL_refusesNotes_238 : decode cL_refusesNotes 238 = .ok (.aload_n 0, 1) := by decide +kernel
theorem dL_refusesNotes_239 : decode cL_refusesNotes 239 = .ok (.iconst 0, 1) := by decide +kernel
theorem dL_refusesNotes_240 : decode cL_refusesNotes 240 = .ok (.iconst 0, 1) := by decide +kernel
theorem dL_refusesNotes_241 : decode cL_refusesNotes 241 = .ok (.invokevirtual 29, 3) := by decide +kernel
theorem dL_refusesNotes_244 : decode cL_refusesNotes 244 = .ok (.iconst 0, 1) := by decide +kernel
theorem dL_refusesNotes_245 : decode cL_refusesNotes 245 = .ok (.invokevirtual 68, 3) := by decide +kernel
theorem dL_refusesNotes_248 : decode cL_refusesNotes 248 = .ok (.ldc 84, 2) := by decide +kernel
theorem dL_refusesNotes_250 : decode cL_refusesNotes 250 = .ok (.if_icmp .ne 52, 3) := by decide +kernel
theorem dL_refusesNotes_253 : decode cL_refusesNotes 253 = .ok (.aload_n 0, 1) := by decide +kernel
theorem dL_refusesNotes_254 : decode cL_refusesNotes 254 = .ok (.iconst 0, 1) := by decide +kernel
theorem dL_refusesNotes_255 : decode cL_refusesNotes 255 = .ok (.iconst 1, 1) := by decide +kernel
theorem dL_refusesNotes_256 : decode cL_refusesNotes 256 = .ok (.invokevirtual 29, 3) := by decide +kernel
theorem dL_refusesNotes_259 : decode cL_refusesNotes 259 = .ok (.ifCond .le 27, 3) := by decide +kernel
theorem dL_refusesNotes_262 : decode cL_refusesNotes 262 = .ok (.aload_n 0, 1) := by decide +kernel
theorem dL_refusesNotes_263 : decode cL_refusesNotes 263 = .ok (.iconst 0, 1) := by decide +kernel
theorem dL_refusesNotes_264 : decode cL_refusesNotes 264 = .ok (.iconst 0, 1) := by decide +kernel
theorem dL_refusesNotes_265 : decode cL_refusesNotes 265 = .ok (.sipush 6001, 3) := by decide +kernel
theorem dL_refusesNotes_268 : decode cL_refusesNotes 268 = .ok (.aload_n 0, 1) := by decide +kernel
theorem dL_refusesNotes_269 : decode cL_refusesNotes 269 = .ok (.iconst 0, 1) := by decide +kernel
theorem dL_refusesNotes_270 : decode cL_refusesNotes 270 = .ok (.iconst 1, 1) := by decide +kernel
theorem dL_refusesNotes_271 : decode cL_refusesNotes 271 = .ok (.invokevirtual 29, 3) := by decide +kernel
theorem dL_refusesNotes_274 : decode cL_refusesNotes 274 = .ok (.isub, 1) := by decide +kernel
theorem dL_refusesNotes_275 : decode cL_refusesNotes 275 = .ok (.invokevirtual 71, 3) := by decide +kernel
theorem dL_refusesNotes_278 : decode cL_refusesNotes 278 = .ok (.ldc 84, 2) := by decide +kernel
theorem dL_refusesNotes_280 : decode cL_refusesNotes 280 = .ok (.if_icmp .ne 22, 3) := by decide +kernel
theorem dL_refusesNotes_283 : decode cL_refusesNotes 283 = .ok (.goto 15, 3) := by decide +kernel
theorem dL_refusesNotes_286 : decode cL_refusesNotes 286 = .ok (.aload_n 0, 1) := by decide +kernel
theorem dL_refusesNotes_287 : decode cL_refusesNotes 287 = .ok (.iconst 0, 1) := by decide +kernel
theorem dL_refusesNotes_288 : decode cL_refusesNotes 288 = .ok (.iconst 1, 1) := by decide +kernel
theorem dL_refusesNotes_289 : decode cL_refusesNotes 289 = .ok (.iconst (-1), 1) := by decide +kernel
theorem dL_refusesNotes_290 : decode cL_refusesNotes 290 = .ok (.invokevirtual 71, 3) := by decide +kernel
theorem dL_refusesNotes_293 : decode cL_refusesNotes 293 = .ok (.ldc 84, 2) := by decide +kernel
theorem dL_refusesNotes_295 : decode cL_refusesNotes 295 = .ok (.if_icmp .ne 7, 3) := by decide +kernel
theorem dL_refusesNotes_298 : decode cL_refusesNotes 298 = .ok (.iconst 1, 1) := by decide +kernel
theorem dL_refusesNotes_299 : decode cL_refusesNotes 299 = .ok (.goto 4, 3) := by decide +kernel
theorem dL_refusesNotes_302 : decode cL_refusesNotes 302 = .ok (.iconst 0, 1) := by decide +kernel
theorem dL_refusesNotes_303 : decode cL_refusesNotes 303 = .ok (.ireturn, 1) := by decide +kernel
theorem dL_refused_0 : decode cL_refused 0 = .ok (.aload_n 0, 1) := by decide +kernel
theorem dL_refused_1 : decode cL_refused 1 = .ok (.invokestatic 85, 3) := by decide +kernel
theorem dL_refused_4 : decode cL_refused 4 = .ok (.aload_n 0, 1) := by decide +kernel
theorem dL_refused_5 : decode cL_refused 5 = .ok (.bipush 7, 2) := by decide +kernel
theorem dL_refused_7 : decode cL_refused 7 = .ok (.invokevirtual 13, 3) := by decide +kernel
theorem dL_refused_10 : decode cL_refused 10 = .ok (.i2l, 1) := by decide +kernel
theorem dL_refused_11 : decode cL_refused 11 = .ok (.invokestatic 19, 3) := by decide +kernel
theorem dL_refused_14 : decode cL_refused 14 = .ok (.aload_n 0, 1) := by decide +kernel
theorem dL_refused_15 : decode cL_refused 15 = .ok (.bipush 8, 2) := by decide +kernel
theorem dL_refused_17 : decode cL_refused 17 = .ok (.invokevirtual 13, 3) := by decide +kernel
theorem dL_refused_20 : decode cL_refused 20 = .ok (.i2l, 1) := by decide +kernel
theorem dL_refused_21 : decode cL_refused 21 = .ok (.invokestatic 19, 3) := by decide +kernel
theorem dL_refused_24 : decode cL_refused 24 = .ok (.lstore_n 1, 1) := by decide +kernel
theorem dL_refused_25 : decode cL_refused 25 = .ok (.aload_n 0, 1) := by decide +kernel
theorem dL_refused_26 : decode cL_refused 26 = .ok (.invokestatic 89, 3) := by decide +kernel
theorem dL_refused_29 : decode cL_refused 29 = .ok (.ifCond .eq 244, 3) := by decide +kernel
theorem dL_refused_32 : decode cL_refused 32 = .ok (.aload_n 0, 1) := by decide +kernel
theorem dL_refused_33 : decode cL_refused 33 = .ok (.invokestatic 93, 3) := by decide +kernel
theorem dL_refused_36 : decode cL_refused 36 = .ok (.ifCond .eq 237, 3) := by decide +kernel
theorem dL_refused_39 : decode cL_refused 39 = .ok (.aload_n 0, 1) := by decide +kernel
theorem dL_refused_40 : decode cL_refused 40 = .ok (.iconst (-1), 1) := by decide +kernel
theorem dL_refused_41 : decode cL_refused 41 = .ok (.iconst 1, 1) := by decide +kernel
theorem dL_refused_42 : decode cL_refused 42 = .ok (.invokevirtual 96, 3) := by decide +kernel
theorem dL_refused_45 : decode cL_refused 45 = .ok (.ldc 35, 2) := by decide +kernel
theorem dL_refused_47 : decode cL_refused 47 = .ok (.if_icmp .ne 226, 3) := by decide +kernel
theorem dL_refused_50 : decode cL_refused 50 = .ok (.aload_n 0, 1) := by decide +kernel
theorem dL_refused_51 : decode cL_refused 51 = .ok (.iconst 4, 1) := by decide +kernel
theorem dL_refused_52 : decode cL_refused 52 = .ok (.iconst 1, 1) := by decide +kernel
theorem dL_refused_53 : decode cL_refused 53 = .ok (.invokevirtual 96, 3) := by decide +kernel
theorem dL_refused_56 : decode cL_refused 56 = .ok (.ldc 35, 2) := by decide +kernel
theorem dL_refused_58 : decode cL_refused 58 = .ok (.if_icmp .ne 215, 3) := by decide +kernel
theorem dL_refused_61 : decode cL_refused 61 = .ok (.aload_n 0, 1) := by decide +kernel
theorem dL_refused_62 : decode cL_refused 62 = .ok (.iconst 0, 1) := by decide +kernel
theorem dL_refused_63 : decode cL_refused 63 = .ok (.iconst 0, 1) := by decide +kernel
theorem dL_refused_64 : decode cL_refused 64 = .ok (.invokevirtual 96, 3) := by decide +kernel
theorem dL_refused_67 : decode cL_refused 67 = .ok (.ldc 35, 2) := by decide +kernel
theorem dL_refused_69 : decode cL_refused 69 = .ok (.if_icmp .ne 204, 3) := by decide +kernel
theorem dL_refused_72 : decode cL_refused 72 = .ok (.aload_n 0, 1) := by decide +kernel
theorem dL_refused_73 : decode cL_refused 73 = .ok (.iconst 0, 1) := by decide +kernel
theorem dL_refused_74 : decode cL_refused 74 = .ok (.sipush 601, 3) := by decide +kernel
theorem dL_refused_77 : decode cL_refused 77 = .ok (.invokevirtual 96, 3) := by decide +kernel
theorem dL_refused_80 : decode cL_refused 80 = .ok (.ldc 35, 2) := by decide +kernel
theorem dL_refused_82 : decode cL_refused 82 = .ok (.if_icmp .ne 191, 3) := by decide +kernel
theorem dL_refused_85 : decode cL_refused 85 = .ok (.aload_n 0, 1) := by decide +kernel
theorem dL_refused_86 : decode cL_refused 86 = .ok (.iconst 1, 1) := by decide +kernel
theorem dL_refused_87 : decode cL_refused 87 = .ok (.iconst 0, 1) := by decide +kernel
theorem dL_refused_88 : decode cL_refused 88 = .ok (.invokevirtual 96, 3) := by decide +kernel
theorem dL_refused_91 : decode cL_refused 91 = .ok (.ldc 35, 2) := by decide +kernel
theorem dL_refused_93 : decode cL_refused 93 = .ok (.if_icmp .ne 180, 3) := by decide +kernel
theorem dL_refused_96 : decode cL_refused 96 = .ok (.aload_n 0, 1) := by decide +kernel
theorem dL_refused_97 : decode cL_refused 97 = .ok (.iconst 1, 1) := by decide +kernel
theorem dL_refused_98 : decode cL_refused 98 = .ok (.sipush 601, 3) := by decide +kernel
theorem dL_refused_101 : decode cL_refused 101 = .ok (.invokevirtual 96, 3) := by decide +kernel
theorem dL_refused_104 : decode cL_refused 104 = .ok (.ldc 35, 2) := by decide +kernel
theorem dL_refused_106 : decode cL_refused 106 = .ok (.if_icmp .ne 167, 3) := by decide +kernel
theorem dL_refused_109 : decode cL_refused 109 = .ok (.aload_n 0, 1) := by decide +kernel
theorem dL_refused_110 : decode cL_refused 110 = .ok (.iconst 2, 1) := by decide +kernel
theorem dL_refused_111 : decode cL_refused 111 = .ok (.iconst (-1), 1) := by decide +kernel
theorem dL_refused_112 : decode cL_refused 112 = .ok (.invokevirtual 96, 3) := by decide +kernel
theorem dL_refused_115 : decode cL_refused 115 = .ok (.ldc 35, 2) := by decide +kernel
theorem dL_refused_117 : decode cL_refused 117 = .ok (.if_icmp .ne 156, 3) := by decide +kernel
theorem dL_refused_120 : decode cL_refused 120 = .ok (.aload_n 0, 1) := by decide +kernel
theorem dL_refused_121 : decode cL_refused 121 = .ok (.iconst 2, 1) := by decide +kernel
theorem dL_refused_122 : decode cL_refused 122 = .ok (.sipush 601, 3) := by decide +kernel
theorem dL_refused_125 : decode cL_refused 125 = .ok (.invokevirtual 96, 3) := by decide +kernel
theorem dL_refused_128 : decode cL_refused 128 = .ok (.ldc 35, 2) := by decide +kernel
theorem dL_refused_130 : decode cL_refused 130 = .ok (.if_icmp .ne 143, 3) := by decide +kernel
theorem dL_refused_133 : decode cL_refused 133 = .ok (.aload_n 0, 1) := by decide +kernel
theorem dL_refused_134 : decode cL_refused 134 = .ok (.iconst 3, 1) := by decide +kernel
theorem dL_refused_135 : decode cL_refused 135 = .ok (.iconst 2, 1) := by decide +kernel
theorem dL_refused_136 : decode cL_refused 136 = .ok (.invokevirtual 96, 3) := by decide +kernel
theorem dL_refused_139 : decode cL_refused 139 = .ok (.ldc 35, 2) := by decide +kernel
theorem dL_refused_141 : decode cL_refused 141 = .ok (.if_icmp .ne 132, 3) := by decide +kernel
theorem dL_refused_144 : decode cL_refused 144 = .ok (.aload_n 0, 1) := by decide +kernel
theorem dL_refused_145 : decode cL_refused 145 = .ok (.iconst 3, 1) := by decide +kernel
theorem dL_refused_146 : decode cL_refused 146 = .ok (.iconst (-1), 1) := by decide +kernel
theorem dL_refused_147 : decode cL_refused 147 = .ok (.invokevirtual 96, 3) := by decide +kernel
theorem dL_refused_150 : decode cL_refused 150 = .ok (.ldc 35, 2) := by decide +kernel
theorem dL_refused_152 : decode cL_refused 152 = .ok (.if_icmp .ne 121, 3) := by decide +kernel
theorem dL_refused_155 : decode cL_refused 155 = .ok (.aload_n 0, 1) := by decide +kernel
theorem dL_refused_156 : decode cL_refused 156 = .ok (.iconst (-1), 1) := by decide +kernel
theorem dL_refused_157 : decode cL_refused 157 = .ok (.invokevirtual 13, 3) := by decide +kernel
theorem dL_refused_160 : decode cL_refused 160 = .ok (.ldc 35, 2) := by decide +kernel
theorem dL_refused_162 : decode cL_refused 162 = .ok (.if_icmp .ne 111, 3) := by decide +kernel
theorem dL_refused_165 : decode cL_refused 165 = .ok (.aload_n 0, 1) := by decide +kernel
theorem dL_refused_166 : decode cL_refused 166 = .ok (.bipush 9, 2) := by decide +kernel
theorem dL_refused_168 : decode cL_refused 168 = .ok (.invokevirtual 13, 3) := by decide +kernel
theorem dL_refused_171 : decode cL_refused 171 = .ok (.ldc 35, 2) := by decide +kernel
theorem dL_refused_173 : decode cL_refused 173 = .ok (.if_icmp .ne 100, 3) := by decide +kernel
theorem dL_refused_176 : decode cL_refused 176 = .ok (.aload_n 0, 1) := by decide +kernel
theorem dL_refused_177 : decode cL_refused 177 = .ok (.bipush 14, 2) := by decide +kernel
theorem dL_refused_179 : decode cL_refused 179 = .ok (.invokevirtual 13, 3) := by decide +kernel
theorem dL_refused_182 : decode cL_refused 182 = .ok (.ldc 35, 2) := by decide +kernel
theorem dL_refused_184 : decode cL_refused 184 = .ok (.if_icmp .ne 89, 3) := by decide +kernel
theorem dL_refused_187 : decode cL_refused 187 = .ok (.aload_n 0, 1) := by decide +kernel
theorem dL_refused_188 : decode cL_refused 188 = .ok (.bipush 19, 2) := by decide +kernel
theorem dL_refused_190 : decode cL_refused 190 = .ok (.invokevirtual 13, 3) := by decide +kernel
theorem dL_refused_193 : decode cL_refused 193 = .ok (.ldc 35, 2) := by decide +kernel
theorem dL_refused_195 : decode cL_refused 195 = .ok (.if_icmp .ne 78, 3) := by decide +kernel
theorem dL_refused_198 : decode cL_refused 198 = .ok (.aload_n 0, 1) := by decide +kernel
theorem dL_refused_199 : decode cL_refused 199 = .ok (.bipush 25, 2) := by decide +kernel
theorem dL_refused_201 : decode cL_refused 201 = .ok (.invokevirtual 13, 3) := by decide +kernel
theorem dL_refused_204 : decode cL_refused 204 = .ok (.ldc 35, 2) := by decide +kernel
theorem dL_refused_206 : decode cL_refused 206 = .ok (.if_icmp .ne 67, 3) := by decide +kernel
theorem dL_refused_209 : decode cL_refused 209 = .ok (.aload_n 0, 1) := by decide +kernel
theorem dL_refused_210 : decode cL_refused 210 = .ok (.iconst 0, 1) := by decide +kernel
theorem dL_refused_211 : decode cL_refused 211 = .ok (.invokevirtual 99, 3) := by decide +kernel
theorem dL_refused_214 : decode cL_refused 214 = .ok (.ldc 35, 2) := by decide +kernel
theorem dL_refused_216 : decode cL_refused 216 = .ok (.if_icmp .ne 57, 3) := by decide +kernel
theorem dL_refused_219 : decode cL_refused 219 = .ok (.aload_n 0, 1) := by decide +kernel
theorem dL_refused_220 : decode cL_refused 220 = .ok (.sipush 601, 3) := by decide +kernel
theorem dL_refused_223 : decode cL_refused 223 = .ok (.invokevirtual 99, 3) := by decide +kernel
theorem dL_refused_226 : decode cL_refused 226 = .ok (.ldc 35, 2) := by decide +kernel
theorem dL_refused_228 : decode cL_refused 228 = .ok (.if_icmp .ne 45, 3) := by decide +kernel
theorem dL_refused_231 : decode cL_refused 231 = .ok (.aload_n 0, 1) := by decide +kernel
theorem dL_refused_232 : decode cL_refused 232 = .ok (.bipush 31, 2) := by decide +kernel
theorem dL_refused_234 : decode cL_refused 234 = .ok (.invokevirtual 102, 3) := by decide +kernel
theorem dL_refused_237 : decode cL_refused 237 = .ok (.ldc 35, 2) := by decide +kernel
theorem dL_refused_239 : decode cL_refused 239 = .ok (.if_icmp .ne 34, 3) := by decide +kernel
theorem dL_refused_242 : decode cL_refused 242 = .ok (.aload_n 0, 1) := by decide +kernel
theorem dL_refused_243 : decode cL_refused 243 = .ok (.bipush 127, 2) := by decide +kernel
theorem dL_refused_245 : decode cL_refused 245 = .ok (.invokevirtual 102, 3) := by decide +kernel
theorem dL_refused_248 : decode cL_refused 248 = .ok (.ldc 35, 2) := by decide +kernel
theorem dL_refused_250 : decode cL_refused 250 = .ok (.if_icmp .ne 23, 3) := by decide +kernel
theorem dL_refused_253 : decode cL_refused 253 = .ok (.aload_n 0, 1) := by decide +kernel
theorem dL_refused_254 : decode cL_refused 254 = .ok (.iconst (-1), 1) := by decide +kernel
theorem dL_refused_255 : decode cL_refused 255 = .ok (.invokevirtual 105, 3) := by decide +kernel
theorem dL_refused_258 : decode cL_refused 258 = .ok (.ldc 35, 2) := by decide +kernel
theorem dL_refused_260 : decode cL_refused 260 = .ok (.if_icmp .ne 13, 3) := by decide +kernel
theorem dL_refused_263 : decode cL_refused 263 = .ok (.aload_n 0, 1) := by decide +kernel
theorem dL_refused_264 : decode cL_refused 264 = .ok (.iconst 2, 1) := by decide +kernel
theorem dL_refused_265 : decode cL_refused 265 = .ok (.invokevirtual 105, 3) := by decide +kernel
theorem dL_refused_268 : decode cL_refused 268 = .ok (.ldc 35, 2) := by decide +kernel
theorem dL_refused_270 : decode cL_refused 270 = .ok (.if_icmp .eq 5, 3) := by decide +kernel
theorem dL_refused_273 : decode cL_refused 273 = .ok (.iconst 0, 1) := by decide +kernel
theorem dL_refused_274 : decode cL_refused 274 = .ok (.ireturn, 1) := by decide +kernel
theorem dL_refused_275 : decode cL_refused 275 = .ok (.aload_n 0, 1) := by decide +kernel
theorem dL_refused_276 : decode cL_refused 276 = .ok (.invokestatic 85, 3) := by decide +kernel
theorem dL_refused_279 : decode cL_refused 279 = .ok (.aload_n 0, 1) := by decide +kernel
theorem dL_refused_280 : decode cL_refused 280 = .ok (.bipush 7, 2) := by decide +kernel
theorem dL_refused_282 : decode cL_refused 282 = .ok (.invokevirtual 13, 3) := by decide +kernel
theorem dL_refused_285 : decode cL_refused 285 = .ok (.i2l, 1) := by decide +kernel
theorem dL_refused_286 : decode cL_refused 286 = .ok (.invokestatic 19, 3) := by decide +kernel
theorem dL_refused_289 : decode cL_refused 289 = .ok (.aload_n 0, 1) := by decide +kernel
theorem dL_refused_290 : decode cL_refused 290 = .ok (.bipush 8, 2) := by decide +kernel
theorem dL_refused_292 : decode cL_refused 292 = .ok (.invokevirtual 13, 3) := by decide +kernel
theorem dL_refused_295 : decode cL_refused 295 = .ok (.i2l, 1) := by decide +kernel
theorem dL_refused_296 : decode cL_refused 296 = .ok (.invokestatic 19, 3) := by decide +kernel
theorem dL_refused_299 : decode cL_refused 299 = .ok (.lload_n 1, 1) := by decide +kernel
theorem dL_refused_300 : decode cL_refused 300 = .ok (.lcmp, 1) := by decide +kernel
theorem dL_refused_301 : decode cL_refused 301 = .ok (.ifCond .ne 7, 3) := by decide +kernel
theorem dL_refused_304 : decode cL_refused 304 = .ok (.iconst 1, 1) := by decide +kernel
theorem dL_refused_305 : decode cL_refused 305 = .ok (.goto 4, 3) := by decide +kernel
theorem dL_refused_308 : decode cL_refused 308 = .ok (.iconst 0, 1) := by decide +kernel
theorem dL_refused_309 : decode cL_refused 309 = .ok (.ireturn, 1) := by decide +kernel
theorem dL_types_0 : decode cL_types 0 = .ok (.bipush 7, 2) := by decide +kernel
theorem dL_types_2 : decode cL_types 2 = .ok (.istore_n 3, 1) := by decide +kernel
theorem dL_types_3 : decode cL_types 3 = .ok (.iload_n 3, 1) := by decide +kernel
theorem dL_types_4 : decode cL_types 4 = .ok (.ifCond .lt 34, 3) := by decide +kernel
theorem dL_types_7 : decode cL_types 7 = .ok (.lload_n 1, 1) := by decide +kernel
theorem dL_types_8 : decode cL_types 8 = .ok (.bipush 8, 2) := by decide +kernel
theorem dL_types_10 : decode cL_types 10 = .ok (.iload_n 3, 1) := by decide +kernel
theorem dL_types_11 : decode cL_types 11 = .ok (.imul, 1) := by decide +kernel
theorem dL_types_12 : decode cL_types 12 = .ok (.lshr, 1) := by decide +kernel
theorem dL_types_13 : decode cL_types 13 = .ok (.ldc2_w 108, 3) := by decide +kernel
theorem dL_types_16 : decode cL_types 16 = .ok (.land, 1) := by decide +kernel
theorem dL_types_17 : decode cL_types 17 = .ok (.l2i, 1) := by decide +kernel
theorem dL_types_18 : decode cL_types 18 = .ok (.istore 4, 2) := by decide +kernel
theorem dL_types_20 : decode cL_types 20 = .ok (.iload 4, 2) := by decide +kernel
theorem dL_types_22 : decode cL_types 22 = .ok (.ifCond .eq 10, 3) := by decide +kernel
theorem dL_types_25 : decode cL_types 25 = .ok (.aload_n 0, 1) := by decide +kernel
theorem dL_types_26 : decode cL_types 26 = .ok (.iload 4, 2) := by decide +kernel
theorem dL_types_28 : decode cL_types 28 = .ok (.invokevirtual 102, 3) := by decide +kernel
theorem dL_types_31 : decode cL_types 31 = .ok (.pop, 1) := by decide +kernel
theorem dL_types_32 : decode cL_types 32 = .ok (.iinc 3 (-1), 3) := by decide +kernel
theorem dL_types_35 : decode cL_types 35 = .ok (.goto (-32), 3) := by decide +kernel
theorem dL_types_38 : decode cL_types 38 = .ok (.return_, 1) := by decide +kernel
theorem dL_isFault_0 : decode cL_isFault 0 = .ok (.aload_n 0, 1) := by decide +kernel
theorem dL_isFault_1 : decode cL_isFault 1 = .ok (.invokevirtual 110, 3) := by decide +kernel
theorem dL_isFault_4 : decode cL_isFault 4 = .ok (.pop, 1) := by decide +kernel
theorem dL_isFault_5 : decode cL_isFault 5 = .ok (.aload_n 0, 1) := by decide +kernel
theorem dL_isFault_6 : decode cL_isFault 6 = .ok (.lload_n 1, 1) := by decide +kernel
theorem dL_isFault_7 : decode cL_isFault 7 = .ok (.invokestatic 113, 3) := by decide +kernel
theorem dL_isFault_10 : decode cL_isFault 10 = .ok (.aload_n 0, 1) := by decide +kernel
theorem dL_isFault_11 : decode cL_isFault 11 = .ok (.lload_n 3, 1) := by decide +kernel
theorem dL_isFault_12 : decode cL_isFault 12 = .ok (.invokestatic 113, 3) := by decide +kernel
theorem dL_isFault_15 : decode cL_isFault 15 = .ok (.aload_n 0, 1) := by decide +kernel
theorem dL_isFault_16 : decode cL_isFault 16 = .ok (.iconst 0, 1) := by decide +kernel
theorem dL_isFault_17 : decode cL_isFault 17 = .ok (.invokevirtual 105, 3) := by decide +kernel
theorem dL_isFault_20 : decode cL_isFault 20 = .ok (.iload 5, 2) := by decide +kernel
theorem dL_isFault_22 : decode cL_isFault 22 = .ok (.if_icmp .ne 17, 3) := by decide +kernel
theorem dL_isFault_25 : decode cL_isFault 25 = .ok (.aload_n 0, 1) := by decide +kernel
theorem dL_isFault_26 : decode cL_isFault 26 = .ok (.iconst 1, 1) := by decide +kernel
theorem dL_isFault_27 : decode cL_isFault 27 = .ok (.invokevirtual 105, 3) := by decide +kernel
theorem dL_isFault_30 : decode cL_isFault 30 = .ok (.iload 6, 2) := by decide +kernel
theorem dL_isFault_32 : decode cL_isFault 32 = .ok (.if_icmp .ne 7, 3) := by decide +kernel
theorem dL_isFault_35 : decode cL_isFault 35 = .ok (.iconst 1, 1) := by decide +kernel
theorem dL_isFault_36 : decode cL_isFault 36 = .ok (.goto 4, 3) := by decide +kernel
theorem dL_isFault_39 : decode cL_isFault 39 = .ok (.iconst 0, 1) := by decide +kernel
theorem dL_isFault_40 : decode cL_isFault 40 = .ok (.ireturn, 1) := by decide +kernel
theorem dL_texts_0 : decode cL_texts 0 = .ok (.new 14, 3) := by decide +kernel
theorem dL_texts_3 : decode cL_texts 3 = .ok (.dup, 1) := by decide +kernel
theorem dL_texts_4 : decode cL_texts 4 = .ok (.invokespecial 117, 3) := by decide +kernel
theorem dL_texts_7 : decode cL_texts 7 = .ok (.astore_n 0, 1) := by decide +kernel
theorem dL_texts_8 : decode cL_texts 8 = .ok (.aload_n 0, 1) := by decide +kernel
theorem dL_texts_9 : decode cL_texts 9 = .ok (.invokevirtual 118, 3) := by decide +kernel
theorem dL_texts_12 : decode cL_texts 12 = .ok (.ifCond .ne 23, 3) := by decide +kernel
theorem dL_texts_15 : decode cL_texts 15 = .ok (.aload_n 0, 1) := by decide +kernel
theorem dL_texts_16 : decode cL_texts 16 = .ok (.bipush 7, 2) := by decide +kernel
theorem dL_texts_18 : decode cL_texts 18 = .ok (.invokevirtual 13, 3) := by decide +kernel
theorem dL_texts_21 : decode cL_texts 21 = .ok (.iconst 1, 1) := by decide +kernel
theorem dL_texts_22 : decode cL_texts 22 = .ok (.if_icmp .ne 13, 3) := by decide +kernel
theorem dL_texts_25 : decode cL_texts 25 = .ok (.aload_n 0, 1) := by decide +kernel
theorem dL_texts_26 : decode cL_texts 26 = .ok (.bipush 100, 2) := by decide +kernel
theorem dL_texts_28 : decode cL_texts 28 = .ok (.iconst 5, 1) := by decide +kernel
theorem dL_texts_29 : decode cL_texts 29 = .ok (.invokevirtual 68, 3) := by decide +kernel
theorem dL_texts_32 : decode cL_texts 32 = .ok (.ifCond .eq 5, 3) := by decide +kernel
theorem dL_texts_35 : decode cL_texts 35 = .ok (.iconst 0, 1) := by decide +kernel
theorem dL_texts_36 : decode cL_texts 36 = .ok (.ireturn, 1) := by decide +kernel
theorem dL_texts_37 : decode cL_texts 37 = .ok (.aload_n 0, 1) := by decide +kernel
theorem dL_texts_38 : decode cL_texts 38 = .ok (.ldc2_w 121, 3) := by decide +kernel
theorem dL_texts_41 : decode cL_texts 41 = .ok (.lconst 0, 1) := by decide +kernel
theorem dL_texts_42 : decode cL_texts 42 = .ok (.ldc 60, 2) := by decide +kernel
theorem dL_texts_44 : decode cL_texts 44 = .ok (.ldc 60, 2) := by decide +kernel
theorem dL_texts_46 : decode cL_texts 46 = .ok (.invokestatic 123, 3) := by decide +kernel
theorem dL_texts_49 : decode cL_texts 49 = .ok (.ifCond .eq 42, 3) := by decide +kernel
theorem dL_texts_52 : decode cL_texts 52 = .ok (.aload_n 0, 1) := by decide +kernel
theorem dL_texts_53 : decode cL_texts 53 = .ok (.lconst 0, 1) := by decide +kernel
theorem dL_texts_54 : decode cL_texts 54 = .ok (.lconst 0, 1) := by decide +kernel
theorem dL_texts_55 : decode cL_texts 55 = .ok (.ldc 60, 2) := by decide +kernel
theorem dL_texts_57 : decode cL_texts 57 = .ok (.ldc 60, 2) := by decide +kernel
theorem dL_texts_59 : decode cL_texts 59 = .ok (.invokestatic 123, 3) := by decide +kernel
theorem dL_texts_62 : decode cL_texts 62 = .ok (.ifCond .eq 29, 3) := by decide +kernel
theorem dL_texts_65 : decode cL_texts 65 = .ok (.aload_n 0, 1) := by decide +kernel
theorem dL_texts_66 : decode cL_texts 66 = .ok (.ldc2_w 127, 3) := by decide +kernel
theorem dL_texts_69 : decode cL_texts 69 = .ok (.lconst 0, 1) := by decide +kernel
theorem dL_texts_70 : decode cL_texts 70 = .ok (.iconst 0, 1) := by decide +kernel
theorem dL_texts_71 : decode cL_texts 71 = .ok (.iconst 1, 1) := by decide +kernel
theorem dL_texts_72 : decode cL_texts 72 = .ok (.invokestatic 123, 3) := by decide +kernel
theorem dL_texts_75 : decode cL_texts 75 = .ok (.ifCond .eq 16, 3) := by decide +kernel
theorem dL_texts_78 : decode cL_texts 78 = .ok (.aload_n 0, 1) := by decide +kernel
theorem dL_texts_79 : decode cL_texts 79 = .ok (.ldc2_w 129, 3) := by decide +kernel
theorem dL_texts_82 : decode cL_texts 82 = .ok (.lconst 0, 1) := by decide +kernel
theorem dL_texts_83 : decode cL_texts 83 = .ok (.iconst 0, 1) := by decide +kernel
theorem dL_texts_84 : decode cL_texts 84 = .ok (.iconst 1, 1) := by decide +kernel
theorem dL_texts_85 : decode cL_texts 85 = .ok (.invokestatic 123, 3) := by decide +kernel
theorem dL_texts_88 : decode cL_texts 88 = .ok (.ifCond .ne 5, 3) := by decide +kernel
theorem dL_texts_91 : decode cL_texts 91 = .ok (.iconst 0, 1) := by decide +kernel
theorem dL_texts_92 : decode cL_texts 92 = .ok (.ireturn, 1) := by decide +kernel
theorem dL_texts_93 : decode cL_texts 93 = .ok (.aload_n 0, 1) := by decide +kernel
theorem dL_texts_94 : decode cL_texts 94 = .ok (.ldc2_w 131, 3) := by decide +kernel
theorem dL_texts_97 : decode cL_texts 97 = .ok (.ldc2_w 133, 3) := by decide +kernel
theorem dL_texts_100 : decode cL_texts 100 = .ok (.iconst 4, 1) := by decide +kernel
theorem dL_texts_101 : decode cL_texts 101 = .ok (.iconst 2, 1) := by decide +kernel
theorem dL_texts_102 : decode cL_texts 102 = .ok (.invokestatic 123, 3) := by decide +kernel
theorem dL_texts_105 : decode cL_texts 105 = .ok (.ifCond .eq 42, 3) := by decide +kernel
theorem dL_texts_108 : decode cL_texts 108 = .ok (.aload_n 0, 1) := by decide +kernel
theorem dL_texts_109 : decode cL_texts 109 = .ok (.ldc2_w 135, 3) := by decide +kernel
theorem dL_texts_112 : decode cL_texts 112 = .ok (.lconst 0, 1) := by decide +kernel
theorem dL_texts_113 : decode cL_texts 113 = .ok (.iconst 0, 1) := by decide +kernel
theorem dL_texts_114 : decode cL_texts 114 = .ok (.iconst 2, 1) := by decide +kernel
theorem dL_texts_115 : decode cL_texts 115 = .ok (.invokestatic 123, 3) := by decide +kernel
theorem dL_texts_118 : decode cL_texts 118 = .ok (.ifCond .eq 29, 3) := by decide +kernel
theorem dL_texts_121 : decode cL_texts 121 = .ok (.aload_n 0, 1) := by decide +kernel
theorem dL_texts_122 : decode cL_texts 122 = .ok (.ldc2_w 137, 3) := by decide +kernel
theorem dL_texts_125 : decode cL_texts 125 = .ok (.lconst 0, 1) := by decide +kernel
theorem dL_texts_126 : decode cL_texts 126 = .ok (.iconst 0, 1) := by decide +kernel
theorem dL_texts_127 : decode cL_texts 127 = .ok (.iconst 1, 1) := by decide +kernel
theorem dL_texts_128 : decode cL_texts 128 = .ok (.invokestatic 123, 3) := by decide +kernel
theorem dL_texts_131 : decode cL_texts 131 = .ok (.ifCond .eq 16, 3) := by decide +kernel
theorem dL_texts_134 : decode cL_texts 134 = .ok (.aload_n 0, 1) := by decide +kernel
theorem dL_texts_135 : decode cL_texts 135 = .ok (.ldc2_w 139, 3) := by decide +kernel
theorem dL_texts_138 : decode cL_texts 138 = .ok (.lconst 0, 1) := by decide +kernel
theorem dL_texts_139 : decode cL_texts 139 = .ok (.iconst 0, 1) := by decide +kernel
theorem dL_texts_140 : decode cL_texts 140 = .ok (.iconst 1, 1) := by decide +kernel
theorem dL_texts_141 : decode cL_texts 141 = .ok (.invokestatic 123, 3) := by decide +kernel
theorem dL_texts_144 : decode cL_texts 144 = .ok (.ifCond .ne 5, 3) := by decide +kernel
theorem dL_texts_147 : decode cL_texts 147 = .ok (.iconst 0, 1) := by decide +kernel
theorem dL_texts_148 : decode cL_texts 148 = .ok (.ireturn, 1) := by decide +kernel
theorem dL_texts_149 : decode cL_texts 149 = .ok (.aload_n 0, 1) := by decide +kernel
theorem dL_texts_150 : decode cL_texts 150 = .ok (.ldc2_w 141, 3) := by decide +kernel
theorem dL_texts_153 : decode cL_texts 153 = .ok (.lconst 0, 1) := by decide +kernel
theorem dL_texts_154 : decode cL_texts 154 = .ok (.iconst 0, 1) := by decide +kernel
theorem dL_texts_155 : decode cL_texts 155 = .ok (.iconst 3, 1) := by decide +kernel
theorem dL_texts_156 : decode cL_texts 156 = .ok (.invokestatic 123, 3) := by decide +kernel
theorem dL_texts_159 : decode cL_texts 159 = .ok (.ifCond .eq 44, 3) := by decide +kernel
theorem dL_texts_162 : decode cL_texts 162 = .ok (.aload_n 0, 1) := by decide +kernel
theorem dL_texts_163 : decode cL_texts 163 = .ok (.ldc2_w 143, 3) := by decide +kernel
theorem dL_texts_166 : decode cL_texts 166 = .ok (.ldc2_w 145, 3) := by decide +kernel
theorem dL_texts_169 : decode cL_texts 169 = .ok (.iconst 4, 1) := by decide +kernel
theorem dL_texts_170 : decode cL_texts 170 = .ok (.iconst 3, 1) := by decide +kernel
theorem dL_texts_171 : decode cL_texts 171 = .ok (.invokestatic 123, 3) := by decide +kernel
theorem dL_texts_174 : decode cL_texts 174 = .ok (.ifCond .eq 29, 3) := by decide +kernel
theorem dL_texts_177 : decode cL_texts 177 = .ok (.aload_n 0, 1) := by decide +kernel
theorem dL_texts_178 : decode cL_texts 178 = .ok (.ldc2_w 147, 3) := by decide +kernel
theorem dL_texts_181 : decode cL_texts 181 = .ok (.lconst 0, 1) := by decide +kernel
theorem dL_texts_182 : decode cL_texts 182 = .ok (.iconst 0, 1) := by decide +kernel
theorem dL_texts_183 : decode cL_texts 183 = .ok (.iconst 1, 1) := by decide +kernel
theorem dL_texts_184 : decode cL_texts 184 = .ok (.invokestatic 123, 3) := by decide +kernel
theorem dL_texts_187 : decode cL_texts 187 = .ok (.ifCond .eq 16, 3) := by decide +kernel
theorem dL_texts_190 : decode cL_texts 190 = .ok (.aload_n 0, 1) := by decide +kernel
theorem dL_texts_191 : decode cL_texts 191 = .ok (.ldc2_w 149, 3) := by decide +kernel
theorem dL_texts_194 : decode cL_texts 194 = .ok (.lconst 0, 1) := by decide +kernel
theorem dL_texts_195 : decode cL_texts 195 = .ok (.iconst 4, 1) := by decide +kernel
theorem dL_texts_196 : decode cL_texts 196 = .ok (.iconst 1, 1) := by decide +kernel
theorem dL_texts_197 : decode cL_texts 197 = .ok (.invokestatic 123, 3) := by decide +kernel
theorem dL_texts_200 : decode cL_texts 200 = .ok (.ifCond .ne 5, 3) := by decide +kernel
theorem dL_texts_203 : decode cL_texts 203 = .ok (.iconst 0, 1) := by decide +kernel
theorem dL_texts_204 : decode cL_texts 204 = .ok (.ireturn, 1) := by decide +kernel
theorem dL_texts_205 : decode cL_texts 205 = .ok (.aload_n 0, 1) := by decide +kernel
theorem dL_texts_206 : decode cL_texts 206 = .ok (.ldc2_w 151, 3) := by decide +kernel
theorem dL_texts_209 : decode cL_texts 209 = .ok (.ldc2_w 153, 3) := by decide +kernel
theorem dL_texts_212 : decode cL_texts 212 = .ok (.ldc 60, 2) := by decide +kernel
theorem dL_texts_214 : decode cL_texts 214 = .ok (.ldc 60, 2) := by decide +kernel
theorem dL_texts_216 : decode cL_texts 216 = .ok (.invokestatic 123, 3) := by decide +kernel
theorem dL_texts_219 : decode cL_texts 219 = .ok (.ifCond .eq 46, 3) := by decide +kernel
theorem dL_texts_222 : decode cL_texts 222 = .ok (.aload_n 0, 1) := by decide +kernel
theorem dL_texts_223 : decode cL_texts 223 = .ok (.ldc2_w 155, 3) := by decide +kernel
theorem dL_texts_226 : decode cL_texts 226 = .ok (.ldc2_w 153, 3) := by decide +kernel
theorem dL_texts_229 : decode cL_texts 229 = .ok (.ldc 60, 2) := by decide +kernel
theorem dL_texts_231 : decode cL_texts 231 = .ok (.ldc 60, 2) := by decide +kernel
theorem dL_texts_233 : decode cL_texts 233 = .ok (.invokestatic 123, 3) := by decide +kernel
theorem dL_texts_236 : decode cL_texts 236 = .ok (.ifCond .eq 29, 3) := by decide +kernel
theorem dL_texts_239 : decode cL_texts 239 = .ok (.aload_n 0, 1) := by decide +kernel
theorem dL_texts_240 : decode cL_texts 240 = .ok (.ldc2_w 157, 3) := by decide +kernel
theorem dL_texts_243 : decode cL_texts 243 = .ok (.lconst 0, 1) := by decide +kernel
theorem dL_texts_244 : decode cL_texts 244 = .ok (.iconst 0, 1) := by decide +kernel
theorem dL_texts_245 : decode cL_texts 245 = .ok (.iconst 1, 1) := by decide +kernel
theorem dL_texts_246 : decode cL_texts 246 = .ok (.invokestatic 123, 3) := by decide +kernel
theorem dL_texts_249 : decode cL_texts 249 = .ok (.ifCond .eq 16, 3) := by decide +kernel
theorem dL_texts_252 : decode cL_texts 252 = .ok (.aload_n 0, 1) := by decide +kernel
theorem dL_texts_253 : decode cL_texts 253 = .ok (.ldc2_w 159, 3) := by decide +kernel
theorem dL_texts_256 : decode cL_texts 256 = .ok (.lconst 0, 1) := by decide +kernel
theorem dL_texts_257 : decode cL_texts 257 = .ok (.iconst 4, 1) := by decide +kernel
theorem dL_texts_258 : decode cL_texts 258 = .ok (.iconst 1, 1) := by decide +kernel
theorem dL_texts_259 : decode cL_texts 259 = .ok (.invokestatic 123, 3) := by decide +kernel
theorem dL_texts_262 : decode cL_texts 262 = .ok (.ifCond .ne 5, 3) := by decide +kernel
theorem dL_texts_265 : decode cL_texts 265 = .ok (.iconst 0, 1) := by decide +kernel
theorem dL_texts_266 : decode cL_texts 266 = .ok (.ireturn, 1) := by decide +kernel
theorem dL_texts_267 : decode cL_texts 267 = .ok (.aload_n 0, 1) := by decide +kernel
theorem dL_texts_268 : decode cL_texts 268 = .ok (.ldc2_w 161, 3) := by decide +kernel
theorem dL_texts_271 : decode cL_texts 271 = .ok (.ldc2_w 163, 3) := by decide +kernel
theorem dL_texts_274 : decode cL_texts 274 = .ok (.iconst 0, 1) := by decide +kernel
theorem dL_texts_275 : decode cL_texts 275 = .ok (.iconst 2, 1) := by decide +kernel
theorem dL_texts_276 : decode cL_texts 276 = .ok (.invokestatic 123, 3) := by decide +kernel
theorem dL_texts_279 : decode cL_texts 279 = .ok (.ifCond .eq 45, 3) := by decide +kernel
theorem dL_texts_282 : decode cL_texts 282 = .ok (.aload_n 0, 1) := by decide +kernel
theorem dL_texts_283 : decode cL_texts 283 = .ok (.ldc2_w 165, 3) := by decide +kernel
theorem dL_texts_286 : decode cL_texts 286 = .ok (.ldc2_w 167, 3) := by decide +kernel
theorem dL_texts_289 : decode cL_texts 289 = .ok (.bipush 12, 2) := by decide +kernel
theorem dL_texts_291 : decode cL_texts 291 = .ok (.iconst 1, 1) := by decide +kernel
theorem dL_texts_292 : decode cL_texts 292 = .ok (.invokestatic 123, 3) := by decide +kernel
theorem dL_texts_295 : decode cL_texts 295 = .ok (.ifCond .eq 29, 3) := by decide +kernel
theorem dL_texts_298 : decode cL_texts 298 = .ok (.aload_n 0, 1) := by decide +kernel
theorem dL_texts_299 : decode cL_texts 299 = .ok (.ldc2_w 169, 3) := by decide +kernel
theorem dL_texts_302 : decode cL_texts 302 = .ok (.lconst 0, 1) := by decide +kernel
theorem dL_texts_303 : decode cL_texts 303 = .ok (.iconst 4, 1) := by decide +kernel
theorem dL_texts_304 : decode cL_texts 304 = .ok (.iconst 1, 1) := by decide +kernel
theorem dL_texts_305 : decode cL_texts 305 = .ok (.invokestatic 123, 3) := by decide +kernel
theorem dL_texts_308 : decode cL_texts 308 = .ok (.ifCond .eq 16, 3) := by decide +kernel
theorem dL_texts_311 : decode cL_texts 311 = .ok (.aload_n 0, 1) := by decide +kernel
theorem dL_texts_312 : decode cL_texts 312 = .ok (.ldc2_w 171, 3) := by decide +kernel
theorem dL_texts_315 : decode cL_texts 315 = .ok (.lconst 0, 1) := by decide +kernel
theorem dL_texts_316 : decode cL_texts 316 = .ok (.iconst 0, 1) := by decide +kernel
theorem dL_texts_317 : decode cL_texts 317 = .ok (.iconst 1, 1) := by decide +kernel
theorem dL_texts_318 : decode cL_texts 318 = .ok (.invokestatic 123, 3) := by decide +kernel
theorem dL_texts_321 : decode cL_texts 321 = .ok (.ifCond .ne 5, 3) := by decide +kernel
theorem dL_texts_324 : decode cL_texts 324 = .ok (.iconst 0, 1) := by decide +kernel
theorem dL_texts_325 : decode cL_texts 325 = .ok (.ireturn, 1) := by decide +kernel
theorem dL_texts_326 : decode cL_texts 326 = .ok (.aload_n 0, 1) := by decide +kernel
theorem dL_texts_327 : decode cL_texts 327 = .ok (.invokevirtual 118, 3) := by decide +kernel
theorem dL_texts_330 : decode cL_texts 330 = .ok (.ldc 84, 2) := by decide +kernel
theorem dL_texts_332 : decode cL_texts 332 = .ok (.if_icmp .ne 94, 3) := by decide +kernel
theorem dL_texts_335 : decode cL_texts 335 = .ok (.aload_n 0, 1) := by decide +kernel
theorem dL_texts_336 : decode cL_texts 336 = .ok (.ldc2_w 173, 3) := by decide +kernel
theorem dL_texts_339 : decode cL_texts 339 = .ok (.lconst 0, 1) := by decide +kernel
theorem dL_texts_340 : decode cL_texts 340 = .ok (.ldc 60, 2) := by decide +kernel
theorem dL_texts_342 : decode cL_texts 342 = .ok (.ldc 60, 2) := by decide +kernel
theorem dL_texts_344 : decode cL_texts 344 = .ok (.invokestatic 123, 3) := by decide +kernel
theorem dL_texts_347 : decode cL_texts 347 = .ok (.ifCond .eq 79, 3) := by decide +kernel
theorem dL_texts_350 : decode cL_texts 350 = .ok (.aload_n 0, 1) := by decide +kernel
theorem dL_texts_351 : decode cL_texts 351 = .ok (.invokevirtual 118, 3) := by decide +kernel
theorem dL_texts_354 : decode cL_texts 354 = .ok (.iconst 2, 1) := by decide +kernel
theorem dL_texts_355 : decode cL_texts 355 = .ok (.if_icmp .ne 71, 3) := by decide +kernel
theorem dL_texts_358 : decode cL_texts 358 = .ok (.aload_n 0, 1) := by decide +kernel
theorem dL_texts_359 : decode cL_texts 359 = .ok (.iconst 0, 1) := by decide +kernel
theorem dL_texts_360 : decode cL_texts 360 = .ok (.iconst 0, 1) := by decide +kernel
theorem dL_texts_361 : decode cL_texts 361 = .ok (.invokevirtual 29, 3) := by decide +kernel
theorem dL_texts_364 : decode cL_texts 364 = .ok (.iconst 3, 1) := by decide +kernel
theorem dL_texts_365 : decode cL_texts 365 = .ok (.if_icmp .ne 61, 3) := by decide +kernel
theorem dL_texts_368 : decode cL_texts 368 = .ok (.aload_n 0, 1) := by decide +kernel
theorem dL_texts_369 : decode cL_texts 369 = .ok (.iconst 0, 1) := by decide +kernel
theorem dL_texts_370 : decode cL_texts 370 = .ok (.iconst 1, 1) := by decide +kernel
theorem dL_texts_371 : decode cL_texts 371 = .ok (.invokevirtual 29, 3) := by decide +kernel
theorem dL_texts_374 : decode cL_texts 374 = .ok (.iconst 4, 1) := by decide +kernel
theorem dL_texts_375 : decode cL_texts 375 = .ok (.if_icmp .ne 51, 3) := by decide +kernel
theorem dL_texts_378 : decode cL_texts 378 = .ok (.aload_n 0, 1) := by decide +kernel
theorem dL_texts_379 : decode cL_texts 379 = .ok (.iconst 1, 1) := by decide +kernel
theorem dL_texts_380 : decode cL_texts 380 = .ok (.iconst 1, 1) := by decide +kernel
theorem dL_texts_381 : decode cL_texts 381 = .ok (.invokevirtual 29, 3) := by decide +kernel
theorem dL_texts_384 : decode cL_texts 384 = .ok (.bipush 8, 2) := by decide +kernel
theorem dL_texts_386 : decode cL_texts 386 = .ok (.if_icmp .ne 40, 3) := by decide +kernel
theorem dL_texts_389 : decode cL_texts 389 = .ok (.aload_n 0, 1) := by decide +kernel
theorem dL_texts_390 : decode cL_texts 390 = .ok (.iconst 2, 1) := by decide +kernel
theorem dL_texts_391 : decode cL_texts 391 = .ok (.iconst 0, 1) := by decide +kernel
theorem dL_texts_392 : decode cL_texts 392 = .ok (.invokevirtual 29, 3) := by decide +kernel
theorem dL_texts_395 : decode cL_texts 395 = .ok (.bipush 100, 2) := by decide +kernel
theorem dL_texts_397 : decode cL_texts 397 = .ok (.if_icmp .ne 29, 3) := by decide +kernel
theorem dL_texts_400 : decode cL_texts 400 = .ok (.aload_n 0, 1) := by decide +kernel
theorem dL_texts_401 : decode cL_texts 401 = .ok (.invokevirtual 118, 3) := by decide +kernel
theorem dL_texts_404 : decode cL_texts 404 = .ok (.ldc 84, 2) := by decide +kernel
theorem dL_texts_406 : decode cL_texts 406 = .ok (.if_icmp .ne 20, 3) := by decide +kernel
theorem dL_texts_409 : decode cL_texts 409 = .ok (.aload_n 0, 1) := by decide +kernel
theorem dL_texts_410 : decode cL_texts 410 = .ok (.iconst 0, 1) := by decide +kernel
theorem dL_texts_411 : decode cL_texts 411 = .ok (.invokevirtual 105, 3) := by decide +kernel
theorem dL_texts_414 : decode cL_texts 414 = .ok (.ifCond .ne 12, 3) := by decide +kernel
theorem dL_texts_417 : decode cL_texts 417 = .ok (.aload_n 0, 1) := by decide +kernel
theorem dL_texts_418 : decode cL_texts 418 = .ok (.iconst 1, 1) := by decide +kernel
theorem dL_texts_419 : decode cL_texts 419 = .ok (.invokevirtual 105, 3) := by decide +kernel
theorem dL_texts_422 : decode cL_texts 422 = .ok (.iconst 3, 1) := by decide +kernel
theorem dL_texts_423 : decode cL_texts 423 = .ok (.if_icmp .eq 5, 3) := by decide +kernel
theorem dL_texts_426 : decode cL_texts 426 = .ok (.iconst 0, 1) := by decide +kernel
theorem dL_texts_427 : decode cL_texts 427 = .ok (.ireturn, 1) := by decide +kernel
theorem dL_texts_428 : decode cL_texts 428 = .ok (.iconst 0, 1) := by decide +kernel
theorem dL_texts_429 : decode cL_texts 429 = .ok (.istore_n 1, 1) := by decide +kernel
theorem dL_texts_430 : decode cL_texts 430 = .ok (.iload_n 1, 1) := by decide +kernel
theorem dL_texts_431 : decode cL_texts 431 = .ok (.bipush 36, 2) := by decide +kernel
theorem dL_texts_433 : decode cL_texts 433 = .ok (.if_icmp .ge 27, 3) := by decide +kernel
theorem dL_texts_436 : decode cL_texts 436 = .ok (.aload_n 0, 1) := by decide +kernel
theorem dL_texts_437 : decode cL_texts 437 = .ok (.sipush 200, 3) := by decide +kernel
theorem dL_texts_440 : decode cL_texts 440 = .ok (.iload_n 1, 1) := by decide +kernel
theorem dL_texts_441 : decode cL_texts 441 = .ok (.iadd, 1) := by decide +kernel
theorem dL_texts_442 : decode cL_texts 442 = .ok (.iload_n 1, 1) := by decide +kernel
theorem dL_texts_443 : decode cL_texts 443 = .ok (.invokevirtual 68, 3) := by decide +kernel
theorem dL_texts_446 : decode cL_texts 446 = .ok (.iconst 3, 1) := by decide +kernel
theorem dL_texts_447 : decode cL_texts 447 = .ok (.iload_n 1, 1) := by decide +kernel
theorem dL_texts_448 : decode cL_texts 448 = .ok (.iadd, 1) := by decide +kernel
theorem dL_texts_449 : decode cL_texts 449 = .ok (.if_icmp .eq 5, 3) := by decide +kernel
theorem dL_texts_452 : decode cL_texts 452 = .ok (.iconst 0, 1) := by decide +kernel
theorem dL_texts_453 : decode cL_texts 453 = .ok (.ireturn, 1) := by decide +kernel
theorem dL_texts_454 : decode cL_texts 454 = .ok (.iinc 1 1, 3) := by decide +kernel
theorem dL_texts_457 : decode cL_texts 457 = .ok (.goto (-27), 3) := by decide +kernel
theorem dL_texts_460 : decode cL_texts 460 = .ok (.aload_n 0, 1) := by decide +kernel
theorem dL_texts_461 : decode cL_texts 461 = .ok (.ldc2_w 165, 3) := by decide +kernel
theorem dL_texts_464 : decode cL_texts 464 = .ok (.lconst 0, 1) := by decide +kernel
theorem dL_texts_465 : decode cL_texts 465 = .ok (.iconst 4, 1) := by decide +kernel
theorem dL_texts_466 : decode cL_texts 466 = .ok (.iconst 4, 1) := by decide +kernel
theorem dL_texts_467 : decode cL_texts 467 = .ok (.invokestatic 123, 3) := by decide +kernel
theorem dL_texts_470 : decode cL_texts 470 = .ok (.ifCond .eq 73, 3) := by decide +kernel
theorem dL_texts_473 : decode cL_texts 473 = .ok (.aload_n 0, 1) := by decide +kernel
theorem dL_texts_474 : decode cL_texts 474 = .ok (.iconst 1, 1) := by decide +kernel
theorem dL_texts_475 : decode cL_texts 475 = .ok (.iconst 1, 1) := by decide +kernel
theorem dL_texts_476 : decode cL_texts 476 = .ok (.invokevirtual 68, 3) := by decide +kernel
theorem dL_texts_479 : decode cL_texts 479 = .ok (.ifCond .ne 64, 3) := by decide +kernel
theorem dL_texts_482 : decode cL_texts 482 = .ok (.aload_n 0, 1) := by decide +kernel
theorem dL_texts_483 : decode cL_texts 483 = .ok (.iconst 2, 1) := by decide +kernel
theorem dL_texts_484 : decode cL_texts 484 = .ok (.iconst 1, 1) := by decide +kernel
theorem dL_texts_485 : decode cL_texts 485 = .ok (.invokevirtual 68, 3) := by decide +kernel
theorem dL_texts_488 : decode cL_texts 488 = .ok (.ldc 175, 2) := by decide +kernel
theorem dL_texts_490 : decode cL_texts 490 = .ok (.if_icmp .ne 53, 3) := by decide +kernel
theorem dL_texts_493 : decode cL_texts 493 = .ok (.aload_n 0, 1) := by decide +kernel
theorem dL_texts_494 : decode cL_texts 494 = .ok (.iconst 1, 1) := by decide +kernel
theorem dL_texts_495 : decode cL_texts 495 = .ok (.iconst 1, 1) := by decide +kernel
theorem dL_texts_496 : decode cL_texts 496 = .ok (.invokevirtual 68, 3) := by decide +kernel
theorem dL_texts_499 : decode cL_texts 499 = .ok (.ldc 84, 2) := by decide +kernel
theorem dL_texts_501 : decode cL_texts 501 = .ok (.if_icmp .ne 42, 3) := by decide +kernel
theorem dL_texts_504 : decode cL_texts 504 = .ok (.aload_n 0, 1) := by decide +kernel
theorem dL_texts_505 : decode cL_texts 505 = .ok (.iconst 1, 1) := by decide +kernel
theorem dL_texts_506 : decode cL_texts 506 = .ok (.sipush 6001, 3) := by decide +kernel
theorem dL_texts_509 : decode cL_texts 509 = .ok (.invokevirtual 68, 3) := by decide +kernel
theorem dL_texts_512 : decode cL_texts 512 = .ok (.ldc 35, 2) := by decide +kernel
theorem dL_texts_514 : decode cL_texts 514 = .ok (.if_icmp .ne 29, 3) := by decide +kernel
theorem dL_texts_517 : decode cL_texts 517 = .ok (.aload_n 0, 1) := by decide +kernel
theorem dL_texts_518 : decode cL_texts 518 = .ok (.iconst 0, 1) := by decide +kernel
theorem dL_texts_519 : decode cL_texts 519 = .ok (.invokevirtual 105, 3) := by decide +kernel
theorem dL_texts_522 : decode cL_texts 522 = .ok (.ifCond .ne 21, 3) := by decide +kernel
theorem dL_texts_525 : decode cL_texts 525 = .ok (.aload_n 0, 1) := by decide +kernel
theorem dL_texts_526 : decode cL_texts 526 = .ok (.iconst 1, 1) := by decide +kernel
theorem dL_texts_527 : decode cL_texts 527 = .ok (.invokevirtual 105, 3) := by decide +kernel
theorem dL_texts_530 : decode cL_texts 530 = .ok (.iconst 3, 1) := by decide +kernel
theorem dL_texts_531 : decode cL_texts 531 = .ok (.if_icmp .ne 12, 3) := by decide +kernel
theorem dL_texts_534 : decode cL_texts 534 = .ok (.aload_n 0, 1) := by decide +kernel
theorem dL_texts_535 : decode cL_texts 535 = .ok (.invokevirtual 110, 3) := by decide +kernel
theorem dL_texts_538 : decode cL_texts 538 = .ok (.bipush 8, 2) := by decide +kernel
theorem dL_texts_540 : decode cL_texts 540 = .ok (.if_icmp .eq 5, 3) := by decide +kernel
theorem dL_texts_543 : decode cL_texts 543 = .ok (.iconst 0, 1) := by decide +kernel
theorem dL_texts_544 : decode cL_texts 544 = .ok (.ireturn, 1) := by decide +kernel
theorem dL_texts_545 : decode cL_texts 545 = .ok (.iconst 1, 1) := by decide +kernel
theorem dL_texts_546 : decode cL_texts 546 = .ok (.istore_n 1, 1) := by decide +kernel
theorem dL_texts_547 : decode cL_texts 547 = .ok (.iload_n 1, 1) := by decide +kernel
theorem dL_texts_548 : decode cL_texts 548 = .ok (.bipush 100, 2) := by decide +kernel
theorem dL_texts_550 : decode cL_texts 550 = .ok (.if_icmp .gt 21, 3) := by decide +kernel
theorem dL_texts_553 : decode cL_texts 553 = .ok (.aload_n 0, 1) := by decide +kernel
theorem dL_texts_554 : decode cL_texts 554 = .ok (.bipush 49, 2) := by decide +kernel
theorem dL_texts_556 : decode cL_texts 556 = .ok (.invokevirtual 102, 3) := by decide +kernel
theorem dL_texts_559 : decode cL_texts 559 = .ok (.iload_n 1, 1) := by decide +kernel
theorem dL_texts_560 : decode cL_texts 560 = .ok (.if_icmp .eq 5, 3) := by decide +kernel
theorem dL_texts_563 : decode cL_texts 563 = .ok (.iconst 0, 1) := by decide +kernel
theorem dL_texts_564 : decode cL_texts 564 = .ok (.ireturn, 1) := by decide +kernel
theorem dL_texts_565 : decode cL_texts 565 = .ok (.iinc 1 1, 3) := by decide +kernel
theorem dL_texts_568 : decode cL_texts 568 = .ok (.goto (-21), 3) := by decide +kernel
theorem dL_texts_571 : decode cL_texts 571 = .ok (.aload_n 0, 1) := by decide +kernel
theorem dL_texts_572 : decode cL_texts 572 = .ok (.bipush 49, 2) := by decide +kernel
theorem dL_texts_574 : decode cL_texts 574 = .ok (.invokevirtual 102, 3) := by decide +kernel
theorem dL_texts_577 : decode cL_texts 577 = .ok (.ldc 175, 2) := by decide +kernel
theorem dL_texts_579 : decode cL_texts 579 = .ok (.if_icmp .ne 36, 3) := by decide +kernel
theorem dL_texts_582 : decode cL_texts 582 = .ok (.aload_n 0, 1) := by decide +kernel
theorem dL_texts_583 : decode cL_texts 583 = .ok (.bipush 31, 2) := by decide +kernel
theorem dL_texts_585 : decode cL_texts 585 = .ok (.invokevirtual 102, 3) := by decide +kernel
theorem dL_texts_588 : decode cL_texts 588 = .ok (.ldc 35, 2) := by decide +kernel
theorem dL_texts_590 : decode cL_texts 590 = .ok (.if_icmp .ne 25, 3) := by decide +kernel
theorem dL_texts_593 : decode cL_texts 593 = .ok (.aload_n 0, 1) := by decide +kernel
theorem dL_texts_594 : decode cL_texts 594 = .ok (.iconst 1, 1) := by decide +kernel
theorem dL_texts_595 : decode cL_texts 595 = .ok (.invokevirtual 105, 3) := by decide +kernel
theorem dL_texts_598 : decode cL_texts 598 = .ok (.iconst 1, 1) := by decide +kernel
theorem dL_texts_599 : decode cL_texts 599 = .ok (.if_icmp .ne 16, 3) := by decide +kernel
theorem dL_texts_602 : decode cL_texts 602 = .ok (.aload_n 0, 1) := by decide +kernel
theorem dL_texts_603 : decode cL_texts 603 = .ok (.invokevirtual 118, 3) := by decide +kernel
theorem dL_texts_606 : decode cL_texts 606 = .ok (.ldc 84, 2) := by decide +kernel
theorem dL_texts_608 : decode cL_texts 608 = .ok (.if_icmp .ne 7, 3) := by decide +kernel
theorem dL_texts_611 : decode cL_texts 611 = .ok (.iconst 1, 1) := by decide +kernel
theorem dL_texts_612 : decode cL_texts 612 = .ok (.goto 4, 3) := by decide +kernel
theorem dL_texts_615 : decode cL_texts 615 = .ok (.iconst 0, 1) := by decide +kernel
theorem dL_texts_616 : decode cL_texts 616 = .ok (.ireturn, 1) := by decide +kernel
end
section
/-! ===== the layer: every cell that changes is an int at a code; gx_K is the judgement over such a world ===== -/
abbrev gx_M : Type := Nat → Nat → Int32
def gx_r (μ : gx_M) (c : Nat) (f : Nat → Int32) : gx_M := fun a => if a = c then f else μ a
def gx_u (μ : gx_M) (c j : Nat) (v : Int32) : gx_M := gx_r μ c (upd (μ c) j v)
theorem gx_r_s (μ : gx_M) (c : Nat) (f : Nat → Int32) : gx_r μ c f c = f := by simp [gx_r]
theorem gx_r_n {μ : gx_M} {c a : Nat} {f : Nat → Int32} (h : a ≠ c) : gx_r μ c f a = μ a := by simp [gx_r, h]
theorem gx_u_s (μ : gx_M) (c j : Nat) (v : Int32) : gx_u μ c j v c = upd (μ c) j v := gx_r_s _ _ _
theorem gx_u_n {μ : gx_M} {c a j : Nat} {v : Int32} (h : a ≠ c) : gx_u μ c j v a = μ a := gx_r_n h
/-- a layout: how many codes, the kind of each, its address, the classes of int arrays and of the array of tables, the classes' numbers and slots -/
abbrev gx_Y : Type := Nat × Nat × (Nat → Nat) × (Nat → Nat) × ClassId × ClassId × va_G
def gy_o (Y : gx_Y) : Nat := Y.1
def gy_n (Y : gx_Y) : Nat := Y.2.1
def gy_k (Y : gx_Y) : Nat → Nat := Y.2.2.1
def gy_a (Y : gx_Y) : Nat → Nat := Y.2.2.2.1
def gy_I (Y : gx_Y) : ClassId := Y.2.2.2.2.1
def gy_T (Y : gx_Y) : ClassId := Y.2.2.2.2.2.1
def gy_D (Y : gx_Y) : va_G := Y.2.2.2.2.2.2
def gy_J (Y : gx_Y) : ClassId := (gy_D Y).1 50
abbrev gy_in (Y : gx_Y) (c : Nat) : Prop := gy_o Y ≤ c ∧ c < gy_o Y + gy_n Y
/-- a long out of two ints -/
def gx_lo (v : Int64) : Int32 := v.toInt32
def gx_hi (v : Int64) : Int32 := (v >>> 32).toInt32
def gx_l2 (a b : Int32) : Int64 := ⟨⟨b.toBitVec ++ a.toBitVec⟩⟩
theorem gx_l2_eq (v : Int64) : gx_l2 (gx_lo v) (gx_hi v) = v := by
  apply Int64.toBitVec_inj.mp
  show (gx_hi v).toBitVec ++ (gx_lo v).toBitVec = v.toBitVec
  unfold gx_hi gx_lo
  apply BitVec.eq_of_getLsbD_eq
  intro i hi
  rw [BitVec.getLsbD_append]
  by_cases h : i < 32
  · rw [if_pos h]
    show (BitVec.signExtend 32 v.toBitVec).getLsbD i = _
    rw [BitVec.getLsbD_signExtend]
    simp only [h, decide_true, Bool.true_and, if_pos (show i < 64 by omega)]
  · have e : (v >>> 32 : Int64).toBitVec = v.toBitVec.sshiftRight 32 := by
      rw [Int64.toBitVec_shiftRight]
      rfl
    rw [if_neg h]
    show (BitVec.signExtend 32 (v >>> 32 : Int64).toBitVec).getLsbD (i - 32) = _
    rw [e, BitVec.getLsbD_signExtend, BitVec.getLsbD_sshiftRight]
    simp only [show i - 32 < 32 by omega, show i - 32 < 64 by omega, show ¬ 64 ≤ i - 32 by omega, show 32 + (i - 32) = i by omega, show i < 64 by omega, decide_true, decide_false, Bool.true_and, Bool.not_false, if_true]
def gx_lng (f : Nat → Int32) : Nat → Int64 := fun i => gx_l2 (f (2 * i)) (f (2 * i + 1))
/-- kinds: 1 Table, 2 Bowls, 3 Piece, 4 Row, 5 Text, 6 History, 7 GlassBowls, 8 the reference, 9 the array of tables, 100 + n an int array of n -/
def gx_N : Nat → Nat
  | 1 => 4 | 2 => 10 | 3 => 6 | 4 => 1 | 5 => 8 | 6 => 3 | 7 => 4 | _ => 11
def gx_Ci : Nat → Nat
  | 1 => 4 | 2 => 0 | 3 => 2 | 4 => 3 | 5 => 5 | 6 => 1 | 7 => 6 | _ => 7
def gx_fld (kind : Nat) (ad : Nat → Nat) (c : Nat) (row : Nat → Int32) (k : Nat) : Value := match kind, k with
  | 1, 0 => .ref (ad (c + 1)) | 1, 1 => .ref (ad (c + 12)) | 1, 2 => .ref (ad (c + 23))
  | 2, 0 => .ref (ad (c + 1)) | 2, 1 => .ref (ad (c + 3)) | 2, 2 => .ref (ad (c + 5)) | 2, 3 => .ref (ad (c + 7)) | 2, 4 => .ref (ad (c + 9))
  | 3, 0 => .ref (ad (c + 1)) | 3, 1 => .ref (ad (c + 3)) | 3, 2 => .ref (ad (c + 5)) | 3, 3 => .ref (ad (c + 7)) | 3, 4 => .ref (ad (c + 9))
  | 4, 0 => .ref (ad (c + 1))
  | 5, 0 => .ref (ad (c + 1))
  | 6, 0 => .ref (ad (c + 1))
  | 7, 0 => .ref (ad (c + 1)) | 7, 1 => .ref (ad (c + 26)) | 7, 2 => .ref (ad (c + 51)) | 7, 3 => .ref (ad (c + 178))
  | 8, 0 => .ref (ad (c + 1)) | 8, 1 => .ref (ad (c + 2)) | 8, 2 => .ref (ad (c + 3)) | 8, 4 => .ref (ad (c + 4)) | 8, 9 => .ref (ad (c + 5))
  | _, k => .int (row k)
theorem gx_fld_dep (kind : Nat) (ad : Nat → Nat) (c : Nat) {row row' : Nat → Int32} {k : Nat} (h : row k = row' k) : gx_fld kind ad c row k = gx_fld kind ad c row' k := by
  unfold gx_fld; split <;> first | rfl | (rw [h])
def gx_fs (kind : Nat) (ad : Nat → Nat) (c : Nat) (row : Nat → Int32) : List Value := (List.range (gx_N kind)).map (gx_fld kind ad c row)
theorem gx_fs_get {kind : Nat} {ad : Nat → Nat} {c : Nat} {row : Nat → Int32} {k : Nat} (hk : k < gx_N kind) : (gx_fs kind ad c row)[k]? = some (gx_fld kind ad c row k) := by
  simp [gx_fs, List.getElem?_range hk]
theorem gx_fs_len {kind : Nat} {ad : Nat → Nat} {c : Nat} {row : Nat → Int32} : (gx_fs kind ad c row).length = gx_N kind := by simp [gx_fs]
theorem gx_fs_set {kind : Nat} {ad : Nat → Nat} {c : Nat} {row : Nat → Int32} {k : Nat} (v : Int32) (hk : k < gx_N kind) (hv : ∀ f : Nat → Int32, gx_fld kind ad c f k = .int (f k)) : (gx_fs kind ad c row).set k (.int v) = gx_fs kind ad c (upd row k v) := by
  apply List.ext_getElem?
  intro j
  by_cases hj : j = k
  · subst hj
    rw [List.getElem?_set_self (by rw [gx_fs_len]; exact hk), gx_fs_get hk, hv]
    simp [upd]
  · rw [List.getElem?_set_ne (Ne.symm hj)]
    by_cases hl : j < gx_N kind
    · rw [gx_fs_get hl, gx_fs_get hl]
      exact congrArg some (gx_fld_dep kind ad c (by simp [upd, hj]))
    · rw [List.getElem?_eq_none (by rw [gx_fs_len]; omega), List.getElem?_eq_none (by rw [gx_fs_len]; omega)]
def gx_cell (Y : gx_Y) (μ : gx_M) (c : Nat) : va_E :=
  if gy_k Y c < 9 then .inr (gx_Ci (gy_k Y c), gx_fs (gy_k Y c) (gy_a Y) c (μ c))
  else if gy_k Y c = 9 then .inl (gy_T Y, (5, .inr (.inr (.inr (.inr (fun i => some (gy_a Y (c + 1 + 25 * i))))))))
  else if gy_k Y c = 10 then .inl (gy_J Y, (32, .inr (.inl (gx_lng (μ c)))))
  else .inl (gy_I Y, (gy_k Y c - 100, .inl (μ c)))
theorem gx_cell_o {Y : gx_Y} {μ : gx_M} {c kind : Nat} (hk : gy_k Y c = kind) (h9 : kind < 9) : gx_cell Y μ c = .inr (gx_Ci kind, gx_fs kind (gy_a Y) c (μ c)) := by
  unfold gx_cell; rw [hk, if_pos h9]
theorem gx_cell_t {Y : gx_Y} {μ : gx_M} {c : Nat} (hk : gy_k Y c = 9) : gx_cell Y μ c = .inl (gy_T Y, (5, .inr (.inr (.inr (.inr (fun i => some (gy_a Y (c + 1 + 25 * i)))))))) := by
  unfold gx_cell; rw [hk, if_neg (by omega), if_pos rfl]
theorem gx_cell_a {Y : gx_Y} {μ : gx_M} {c : Nat} (hk : 100 ≤ gy_k Y c) : gx_cell Y μ c = .inl (gy_I Y, (gy_k Y c - 100, .inl (μ c))) := by
  unfold gx_cell; rw [if_neg (by omega), if_neg (by omega), if_neg (by omega)]
theorem gx_cell_l {Y : gx_Y} {μ : gx_M} {c : Nat} (hk : gy_k Y c = 10) : gx_cell Y μ c = .inl (gy_J Y, (32, .inr (.inl (gx_lng (μ c))))) := by
  unfold gx_cell; rw [if_neg (by omega), if_neg (by omega), if_pos hk]
theorem gx_cell_row {Y : gx_Y} {μ μ' : gx_M} {a : Nat} (h : μ' a = μ a) : gx_cell Y μ' a = gx_cell Y μ a := by unfold gx_cell; rw [h]
def gx_ws (Y : gx_Y) (μ : gx_M) : va_W := (List.range (gy_n Y)).map (fun c => (gy_a Y (c + gy_o Y), gx_cell Y μ (c + gy_o Y)))
theorem gx_ws_at {Y : gx_Y} {μ : gx_M} {c : Nat} (h : c < gy_n Y) : (gx_ws Y μ)[c]? = some (gy_a Y (c + gy_o Y), gx_cell Y μ (c + gy_o Y)) := by
  simp [gx_ws, List.getElem?_range h]
theorem gx_ws_get {Y : gx_Y} {μ : gx_M} {c : Nat} (h : gy_in Y c) : (gx_ws Y μ)[c - gy_o Y]? = some (gy_a Y c, gx_cell Y μ c) := by
  have h1 := h.1
  have h2 := h.2
  rw [gx_ws_at (by omega), show c - gy_o Y + gy_o Y = c by omega]
theorem gx_ws_inv {Y : gx_Y} {μ : gx_M} {i : Nat} {p : Nat × va_E} (h : (gx_ws Y μ)[i]? = some p) : i < gy_n Y ∧ p = (gy_a Y (i + gy_o Y), gx_cell Y μ (i + gy_o Y)) := by
  by_cases hi : i < gy_n Y
  · rw [gx_ws_at hi] at h
    exact ⟨hi, (Option.some.inj h).symm⟩
  · rw [List.getElem?_eq_none (by simp [gx_ws]; omega)] at h
    cases h
theorem gx_ws_set {Y : gx_Y} {μ μ' : gx_M} {c : Nat} (h : gy_in Y c) (e : ∀ a, a ≠ c → μ' a = μ a) : (gx_ws Y μ).set (c - gy_o Y) (gy_a Y c, gx_cell Y μ' c) = gx_ws Y μ' := by
  have h1 := h.1
  have h2 := h.2
  apply List.ext_getElem?
  intro j
  by_cases hj : j = c - gy_o Y
  · subst hj
    rw [List.getElem?_set_self (by simp [gx_ws]; omega), gx_ws_get h]
  · rw [List.getElem?_set_ne (Ne.symm hj)]
    by_cases hl : j < gy_n Y
    · rw [gx_ws_at hl, gx_ws_at hl, gx_cell_row (e _ (by omega))]
    · rw [List.getElem?_eq_none (by simp [gx_ws]; omega), List.getElem?_eq_none (by simp [gx_ws]; omega)]
def gx_tys (Y : gx_Y) : List (ClassId × FieldType) := [(gy_I Y, .int), (gy_T Y, .object RX4), (gy_J Y, .long)]
def gx_A (Y : gx_Y) : Nat → Prop := fun q => ∃ c, gy_in Y c ∧ q = gy_a Y c
def gx_Inj (Y : gx_Y) : Prop := ∀ a b, gy_in Y a → gy_in Y b → gy_a Y a = gy_a Y b → a = b
theorem gx_D {Y : gx_Y} {μ : gx_M} {A0 : Nat → Prop} (hI : gx_Inj Y) (hA : ∀ q, gx_A Y q → A0 q) : va_D A0 (gx_ws Y μ) := by
  refine ⟨fun i j p q hi hj hpq => ?_, fun k q hk => ?_⟩
  · obtain ⟨h1, rfl⟩ := gx_ws_inv hi
    obtain ⟨h2, rfl⟩ := gx_ws_inv hj
    have := hI _ _ ⟨by omega, by omega⟩ ⟨by omega, by omega⟩ hpq
    omega
  · obtain ⟨h1, rfl⟩ := gx_ws_inv hk
    exact hA _ ⟨_, ⟨by omega, by omega⟩, rfl⟩
theorem gx_Inj_of {Y : gx_Y} {μ : gx_M} {A0 : Nat → Prop} (hD : va_D A0 (gx_ws Y μ)) : gx_Inj Y ∧ ∀ q, gx_A Y q → A0 q := by
  refine ⟨fun a b ha hb hab => ?_, fun q hq => ?_⟩
  · have h1 := hD.1 _ _ _ _ (gx_ws_get ha) (gx_ws_get hb) hab
    have h2 := ha.1
    have h3 := hb.1
    omega
  · obtain ⟨c, hc, rfl⟩ := hq
    exact hD.2 _ _ (gx_ws_get hc)
/-- the words of nest mates -/
def gx_nest : List Cond := [.methodLinkNest RX2 51 yX6_isWithin RX6, .methodLinkNest RX2 72 yX6_oneIf RX6, .methodLinkNest RX5 78 yX6_isWithin RX6, .fieldLinkNest RX6 38 "GlassBowls$Table" "bowls" "LGlassBowls$Bowls;" RX6, .fieldLinkNest RX6 111 "GlassBowls$Table" "piece" "LGlassBowls$Piece;" RX6]
theorem gx_nest_on : ∀ w ∈ gx_nest, w.onTables = true := by
  intro w hw
  simp only [gx_nest, List.mem_cons, List.not_mem_nil, or_false] at hw
  rcases hw with rfl | rfl | rfl | rfl | rfl <;> rfl
theorem gx_nest_warm {s U : State} (hW : s.WarmedH U.vm) (h : ∀ w ∈ gx_nest, va_Nw w s) : ∀ w ∈ gx_nest, va_Nw w U := by
  intro w hw
  have h1 := h w hw
  simp only [gx_nest, List.mem_cons, List.not_mem_nil, or_false] at hw
  rcases hw with rfl | rfl | rfl | rfl | rfl
  · exact va_Nw.warmM hW h1
  · exact va_Nw.warmM hW h1
  · exact va_Nw.warmM hW h1
  · exact va_Nw.warmF hW h1
  · exact va_Nw.warmF hW h1
def gx_W (Y : gx_Y) (μ : gx_M) (U : State) : Prop := va_P (gy_D Y) vwCl (gx_ws Y μ) U.heap ∧ va_K (gy_D Y) vwCl (gx_tys Y) U ∧ gx_Inj Y ∧ ∀ w ∈ gx_nest, va_Nw w U
theorem gx_W_calling {Y : gx_Y} {μ : gx_M} {U : State} {g : JFrame} {mk : MethodId} {a : Array Value} (h : gx_W Y μ U) : gx_W Y μ (U.calling g mk a) :=
  ⟨h.1, va_K.moved (u := U) (U := U.calling g mk a) (Vm.Alike.refl U.vm) h.2.1, h.2.2.1, fun w hw => va_Nw.same (gx_nest_on w hw) (rfl : U.vm = (U.calling g mk a).vm) (h.2.2.2 w hw)⟩
theorem gx_W_blind {Y : gx_Y} {μ : gx_M} {av : List Value} : FrameBlind (va_Pc av (gx_W Y μ)) := fun _ _ _ _ q => ⟨q.1, gx_W_calling q.2⟩
def gx_Q (ret : Option FieldType) (Y : gx_Y) (res : Int32 × gx_M) : Array Value → State → Outcome → State → Prop := match ret with
  | none => va_Qv (fun _ : Unit => True) (fun _ t => gx_W Y res.2 t) (gx_A Y)
  | some _ => va_Qi (fun r (_ : Unit) => r = res.1) (fun _ t => gx_W Y res.2 t) (gx_A Y)
abbrev gx_Ws (y : MethodName) (bytes : ByteArray) (maxL : Nat) (ret : Option FieldType) : List Cond := Cond.code y bytes maxL ret :: gWs
/-- a method's contract over such a world: from μ it answers res.1 and leaves res.2 -/
def gx_Con (l : Launch) (y : MethodName) (bytes : ByteArray) (maxL : Nat) (ret : Option FieldType) (fr lo : Nat) (Y : gx_Y) (As : List Value) (μ : gx_M) (res : Int32 × gx_M) : Prop :=
  Met l y (gx_Ws y bytes maxL ret) { frames := fr, cells := 0, slots := 0, locals := lo } (va_Pc As (gx_W Y μ)) (gx_Q ret Y res) 0 0 (gx_A Y)
abbrev gx_KT : Type := gx_M → Nat → List (Nat × Value) → List Value → Prop
def gx_K (l : Launch) (own : String) (cc : ByteArray) (nL fr lo : Nat) (ret : Option FieldType) (Y : gx_Y) (Post : Value → gx_M → Prop) (K : gx_KT) : Prop :=
  ∃ (p : Program) (e : Env) (s : State) (m : MethodId) (args : Array Value) (below : List Frame) (meth : Method) (c : Code) (Q : State → Prop) (A0 : Nat → Prop) (cells slots cR sR : Nat),
    p.tables.exec = Jvm.exec ∧ c.code = cc ∧ c.maxLocals = nL ∧ s.vm.findClass own = some m.cls ∧ (∀ w ∈ gWs, w.before args s = true) ∧ va_K (gy_D Y) vwCl (gx_tys Y) s ∧ gx_Inj Y ∧ (∀ w ∈ gx_nest, va_Nw w s) ∧ (∀ q, gx_A Y q → A0 q) ∧ cells ≤ cR ∧ slots ≤ sR ∧
    K = (fun μ pc L st => ∀ (H : Heap) (locs : List Loc) (ls : Array Slot), va_P (gy_D Y) vwCl (gx_ws Y μ) H → va_S A0 s.heap H locs → lv_has ls nL L → W p l e { frames := fr, cells := cR, slots := sR, locals := lo } s m args below meth c H locs cells slots Q (F0 m pc ls st)) ∧
    (∀ (μ : gx_M) (pc : Nat) (L : List (Nat × Value)) (v : Int32) (ty : FieldType), ret = some ty → narrow ty (.int v) = .int v → decode cc pc = .ok (.ireturn, 1) → Post (.int v) μ → K μ pc L [.int v]) ∧
    (∀ (μ : gx_M) (pc : Nat) (L : List (Nat × Value)), ret = none → decode cc pc = .ok (.return_, 1) → Post (.int 0) μ → K μ pc L []) ∧
    (∀ (μ : gx_M) (pc : Nat) (L : List (Nat × Value)) (v : Int64), ret = some .long → decode cc pc = .ok (.lreturn, 1) → Post (.long v) μ → K μ pc L [.long v])
def gx_P (rr : Int32 × gx_M) : Value → gx_M → Prop := fun r m => match r with
  | .int v => (v, m) = rr
  | _ => False
def gx_PL (rr : Int64 × gx_M) : Value → gx_M → Prop := fun r m => match r with
  | .long v => (v, m) = rr
  | _ => False
theorem gx_Con_of {l : Launch} {own name desc : String} {cc : ByteArray} {nL fr lo : Nat} {ret : Option FieldType} {Y : gx_Y} {As : List Value} {L0 : List (Nat × Value)} {μ : gx_M} {res : Int32 × gx_M} (hp : plainName own = true) (hsz : (lg_sl As).length ≤ nL) (hL : lv_args 0 As = L0)
    (body : ∀ K : gx_KT, gx_K l own cc nL fr lo ret Y (gx_P res) K → K μ 0 L0 []) : gx_Con l ⟨own, name, desc⟩ cc nL ret fr lo Y As μ res := by
  refine Met.ofW (cc := cc) (maxL := nL) (ret := ret) hp rfl ?_
  intro p e s m args below meth c s₁ B hml hv
  obtain ⟨rfl, hP, hK, hI, hN⟩ := hv
  have hts0 := atoms_spec (ws := gx_Ws ⟨own, name, desc⟩ cc nL ret) B.pre
  have hts : ∀ w ∈ gWs, w.before As.toArray s = true := fun w hw => hts0 w (List.mem_cons_of_mem _ hw)
  have hown : s.vm.findClass own = some m.cls := findClass_of_methodNamed B.named
  have hx := B.exec
  have hb := B.bytes
  have hr := B.returns
  have hlocks := B.notSynchronized
  rw [lg_entry_eq]
  have hl := lv_entry As (n := nL) hsz
  rw [hL] at hl
  refine body _ ⟨p, e, s, m, As.toArray, below, meth, c, MQ below (gx_Q ret Y res) As.toArray s 0 0 (gx_A Y), gx_A Y, 0, 0, 0, 0, hx, hb, hml, hown, hts, hK, hI, hN, fun _ h => h, Nat.le_refl _, Nat.le_refl _, rfl, ?_, ?_, fun _ _ _ _ _ _ h => h.elim⟩ s.heap [] _ hP va_S.rf hl
  · intro μ1 pc L v ty hret hn d hpost H locs ls hP1 hS hl1
    subst hret
    have e1 : (v, μ1) = res := hpost
    subst e1
    exact W.zret hx hb hr hn (fun t ht hW => ⟨⟨v, (), rfl, rfl, by rw [ht]; exact hP1, va_K.moved hW.alike hK, hI, gx_nest_warm hW hN⟩, hS.F ht⟩) hS.2.2 d
  · intro μ1 pc L hret d hpost H locs ls hP1 hS hl1
    subst hret
    have e1 : ((0 : Int32), μ1) = res := hpost
    subst e1
    exact W.vret hx hb hr (fun t ht hW => ⟨⟨(), rfl, trivial, by rw [ht]; exact hP1, va_K.moved hW.alike hK, hI, gx_nest_warm hW hN⟩, hS.F ht⟩) hS.2.2 d
/-- the same for a method that answers a long -/
def gx_ConL (l : Launch) (y : MethodName) (bytes : ByteArray) (maxL : Nat) (fr lo : Nat) (Y : gx_Y) (As : List Value) (μ : gx_M) (res : Int64 × gx_M) : Prop :=
  Met l y (gx_Ws y bytes maxL (some .long)) { frames := fr, cells := 0, slots := 0, locals := lo } (va_Pc As (gx_W Y μ)) (va_Ql (fun r (_ : Unit) => r = res.1) (fun _ t => gx_W Y res.2 t) (gx_A Y)) 0 0 (gx_A Y)
theorem gx_ConL_of {l : Launch} {own name desc : String} {cc : ByteArray} {nL fr lo : Nat} {Y : gx_Y} {As : List Value} {L0 : List (Nat × Value)} {μ : gx_M} {res : Int64 × gx_M} (hp : plainName own = true) (hsz : (lg_sl As).length ≤ nL) (hL : lv_args 0 As = L0)
    (body : ∀ K : gx_KT, gx_K l own cc nL fr lo (some .long) Y (gx_PL res) K → K μ 0 L0 []) : gx_ConL l ⟨own, name, desc⟩ cc nL fr lo Y As μ res := by
  refine Met.ofW (cc := cc) (maxL := nL) (ret := some .long) hp rfl ?_
  intro p e s m args below meth c s₁ B hml hv
  obtain ⟨rfl, hP, hK, hI, hN⟩ := hv
  have hts0 := atoms_spec (ws := gx_Ws ⟨own, name, desc⟩ cc nL (some .long)) B.pre
  have hts : ∀ w ∈ gWs, w.before As.toArray s = true := fun w hw => hts0 w (List.mem_cons_of_mem _ hw)
  have hown : s.vm.findClass own = some m.cls := findClass_of_methodNamed B.named
  have hx := B.exec
  have hb := B.bytes
  have hr := B.returns
  have hlocks := B.notSynchronized
  rw [lg_entry_eq]
  have hl := lv_entry As (n := nL) hsz
  rw [hL] at hl
  refine body _ ⟨p, e, s, m, As.toArray, below, meth, c, MQ below (va_Ql (fun r (_ : Unit) => r = res.1) (fun _ t => gx_W Y res.2 t) (gx_A Y)) As.toArray s 0 0 (gx_A Y), gx_A Y, 0, 0, 0, 0, hx, hb, hml, hown, hts, hK, hI, hN, fun _ h => h, Nat.le_refl _, Nat.le_refl _, rfl, fun _ _ _ _ _ _ _ _ h => h.elim, (fun _ _ _ h => nomatch h), ?_⟩ s.heap [] _ hP va_S.rf hl
  intro μ1 pc L v _ d hpost H locs ls hP1 hS hl1
  have e1 : (v, μ1) = res := hpost
  subst e1
  exact W.lret hx hb hr (fun t ht hW => ⟨⟨v, (), rfl, rfl, by rw [ht]; exact hP1, va_K.moved hW.alike hK, hI, gx_nest_warm hW hN⟩, hS.F ht⟩) hS.2.2 d
/-- a bind over a call's long answer -/
def gx_bL {β : Type} (x : Option (Int64 × gx_M)) (k : Int64 → gx_M → Option β) : Option β := match x with
  | some (r, m) => k r m
  | none => none
theorem gx_bL_some {β : Type} {x : Option (Int64 × gx_M)} {k : Int64 → gx_M → Option β} {res : β} (h : gx_bL x k = some res) : ∃ r m, x = some (r, m) ∧ k r m = some res := by
  cases x with
  | none => cases h
  | some q => exact ⟨q.1, q.2, rfl, h⟩
/-- the spec's words: a bind over a call's answer, an index that is in -/
def gx_b {β : Type} (x : Option (Int32 × gx_M)) (k : Int32 → gx_M → Option β) : Option β := match x with
  | some (r, m) => k r m
  | none => none
theorem gx_b_some {β : Type} {x : Option (Int32 × gx_M)} {k : Int32 → gx_M → Option β} {res : β} (h : gx_b x k = some res) : ∃ r m, x = some (r, m) ∧ k r m = some res := by
  cases x with
  | none => cases h
  | some q => exact ⟨q.1, q.2, rfl, h⟩
def gx_ix (i : Int32) (n : Nat) : Bool := decide (¬ (i < 0 ∨ n ≤ i.toNatClampNeg))
theorem gx_ix_in {i : Int32} {n : Nat} (h : gx_ix i n = true) : vp_in i n := of_decide_eq_true (p := ¬ (i < 0 ∨ n ≤ i.toNatClampNeg)) h
theorem gx_pos {c : Prop} [Decidable c] {α : Type} {a b : Option α} {r : α} (h : c) (hf : (if c then a else b) = some r) : a = some r := by rwa [if_pos h] at hf
theorem gx_neg {c : Prop} [Decidable c] {α : Type} {a b : Option α} {r : α} (h : ¬ c) (hf : (if c then a else b) = some r) : b = some r := by rwa [if_neg h] at hf
theorem gx_must {c : Prop} [Decidable c] {α : Type} {a : Option α} {r : α} (hf : (if c then a else none) = some r) : c ∧ a = some r := by
  by_cases h : c
  · exact ⟨h, gx_pos h hf⟩
  · rw [if_neg h] at hf; cases hf
def gx_pu (ret : Option FieldType) (r : Int32) (st : List Value) : List Value := match ret with
  | none => st
  | some _ => .int r :: st
/-- how many turns a loop's spec may take -/
def gx_F : Nat := 5000
abbrev gk_o (Y : gx_Y) (c k : Nat) : Prop := gy_in Y c ∧ gy_k Y c = k
abbrev gk_arr (Y : gx_Y) (c n : Nat) : Prop := gy_in Y c ∧ gy_k Y c = 100 + n
def gx_ul (μ : gx_M) (c i : Nat) (x : Int64) : gx_M := gx_u (gx_u μ c (2 * i) (gx_lo x)) c (2 * i + 1) (gx_hi x)
theorem gx_ul_s (μ : gx_M) (c i : Nat) (x : Int64) : gx_lng (gx_ul μ c i x c) = va_up (gx_lng (μ c)) i x := by
  unfold gx_ul
  rw [gx_u_s, gx_u_s]
  funext k
  by_cases h : k = i
  · subst h
    show gx_l2 _ _ = _
    simp only [upd, va_up, if_true, if_neg (show ¬ 2 * k = 2 * k + 1 by omega)]
    exact gx_l2_eq x
  · show gx_l2 _ _ = _
    simp only [upd, va_up, if_neg h, if_neg (show ¬ 2 * k = 2 * i + 1 by omega), if_neg (show ¬ 2 * k = 2 * i by omega), if_neg (show ¬ 2 * k + 1 = 2 * i + 1 by omega), if_neg (show ¬ 2 * k + 1 = 2 * i by omega)]
    rfl
abbrev gk_row (Y : gx_Y) (c n : Nat) : Prop := gk_o Y c 4 ∧ gk_arr Y (c + 1) n
abbrev gk_bowls (Y : gx_Y) (c : Nat) : Prop := gk_o Y c 2 ∧ gk_row Y (c + 1) 10 ∧ gk_row Y (c + 3) 10 ∧ gk_row Y (c + 5) 10 ∧ gk_row Y (c + 7) 10 ∧ gk_row Y (c + 9) 10
abbrev gk_piece (Y : gx_Y) (c : Nat) : Prop := gk_o Y c 3 ∧ gk_row Y (c + 1) 40 ∧ gk_row Y (c + 3) 40 ∧ gk_row Y (c + 5) 40 ∧ gk_row Y (c + 7) 40 ∧ gk_row Y (c + 9) 40
abbrev gk_tab (Y : gx_Y) (c : Nat) : Prop := gk_o Y c 1 ∧ gk_bowls Y (c + 1) ∧ gk_piece Y (c + 12) ∧ gk_row Y (c + 23) 4
abbrev gk_text (Y : gx_Y) (c : Nat) : Prop := gk_o Y c 5 ∧ gk_row Y (c + 1) 100
abbrev gk_hist (Y : gx_Y) (c : Nat) : Prop := gk_o Y c 6 ∧ gk_o Y (c + 1) 9 ∧ ∀ i, i < 5 → gk_tab Y (c + 1 + 1 + 25 * i)
abbrev gk_bow (Y : gx_Y) (c : Nat) : Prop := gk_o Y c 7 ∧ gk_tab Y (c + 1) ∧ gk_tab Y (c + 26) ∧ gk_hist Y (c + 51) ∧ gk_text Y (c + 178)
abbrev gk_mod (Y : gx_Y) (c : Nat) : Prop := gk_o Y c 8 ∧ gk_arr Y (c + 1) 301 ∧ gk_arr Y (c + 2) 1505 ∧ gk_arr Y (c + 3) 301 ∧ gk_arr Y (c + 4) 100 ∧ gk_arr Y (c + 5) 25
theorem gk_100 {Y : gx_Y} {c n : Nat} (h : gk_arr Y c n) : 100 ≤ gy_k Y c := by rw [h.2]; omega
theorem gx_arrV {cA : ClassId} {N : Nat} {f g : Nat → Value} (h : ∀ j, j < N → f j = g j) : arrV cA N f = arrV cA N g := by
  have e : (fun j : Fin N => f j.val) = fun j : Fin N => g j.val := funext fun j => h j.1 j.2
  unfold arrV
  rw [e]
theorem gx_at_int {D : va_G} {cl : List vw_C} {a : Nat} {cA : ClassId} {N : Nat} {f g : Nat → Int32} {H : Heap} (h : ∀ j, j < N → g j = f j) (h2 : va_at D cl (a, .inl (cA, (N, .inl f))) H) : va_at D cl (a, .inl (cA, (N, .inl g))) H := by
  have h3 : H[a]? = some (arrV cA N (fun j => .int (f j))) := h2
  show H[a]? = some (arrV cA N (fun j => .int (g j)))
  exact h3.trans (congrArg some (gx_arrV (fun j hj => by show Value.int (f j) = .int (g j); rw [h j hj])))
theorem gx_at_long {D : va_G} {cl : List vw_C} {a : Nat} {cA : ClassId} {N : Nat} {f g : Nat → Int64} {H : Heap} (h : ∀ j, j < N → g j = f j) (h2 : va_at D cl (a, .inl (cA, (N, .inr (.inl f)))) H) : va_at D cl (a, .inl (cA, (N, .inr (.inl g)))) H := by
  have h3 : H[a]? = some (arrV cA N (fun j => .long (f j))) := h2
  show H[a]? = some (arrV cA N (fun j => .long (g j)))
  exact h3.trans (congrArg some (gx_arrV (fun j hj => by show Value.long (f j) = .long (g j); rw [h j hj])))
section GXR
variable {l : Launch} {own : String} {cc : ByteArray} {nL fr lo : Nat} {ret : Option FieldType} {Y : gx_Y} {Post : Value → gx_M → Prop} {K : gx_KT} {pc : Nat} {μ : gx_M} {L L' : List (Nat × Value)} {st : List Value} {α : Type} {rr : α}
theorem gw_iconst (h : gx_K l own cc nL fr lo ret Y Post K) {n : Int} {v : Int32} (d : decode cc pc = .ok (.iconst n, 1)) (hv : Int32.ofInt n = v) (kk : K μ (pc + 1) L (.int v :: st)) : K μ pc L st := by
  obtain ⟨p, e, s, m, args, below, meth, c0, Q, A0, cells, slots, cR, sR, hx, hb, hml, hown, hts, hK, hI, hN, hA, hcs, hss, rfl, hri, hrv, hrl⟩ := h
  intro H locs ls hP hS hl
  exact lv_iconst hx hb d hv (kk H locs ls hP hS hl)
theorem gw_bipush (h : gx_K l own cc nL fr lo ret Y Post K) {n : Int} {v : Int32} (d : decode cc pc = .ok (.bipush n, 2)) (hv : (Int8.ofInt n).toInt32 = v) (kk : K μ (pc + 2) L (.int v :: st)) : K μ pc L st := by
  obtain ⟨p, e, s, m, args, below, meth, c0, Q, A0, cells, slots, cR, sR, hx, hb, hml, hown, hts, hK, hI, hN, hA, hcs, hss, rfl, hri, hrv, hrl⟩ := h
  intro H locs ls hP hS hl
  exact lv_bipush hx hb d hv (kk H locs ls hP hS hl)
theorem gw_sipush (h : gx_K l own cc nL fr lo ret Y Post K) {n : Int} {v : Int32} (d : decode cc pc = .ok (.sipush n, 3)) (hv : (Int16.ofInt n).toInt32 = v) (kk : K μ (pc + 3) L (.int v :: st)) : K μ pc L st := by
  obtain ⟨p, e, s, m, args, below, meth, c0, Q, A0, cells, slots, cR, sR, hx, hb, hml, hown, hts, hK, hI, hN, hA, hcs, hss, rfl, hri, hrv, hrl⟩ := h
  intro H locs ls hP hS hl
  exact lv_sipush hx hb d hv (kk H locs ls hP hS hl)
theorem gw_ldc (h : gx_K l own cc nL fr lo ret Y Post K) {idx : Nat} {v : Int32} (d : decode cc pc = .ok (.ldc idx, 2)) (hk : Cond.constant own idx v ∈ gWs) (kk : K μ (pc + 2) L (.int v :: st)) : K μ pc L st := by
  obtain ⟨p, e, s, m, args, below, meth, c0, Q, A0, cells, slots, cR, sR, hx, hb, hml, hown, hts, hK, hI, hN, hA, hcs, hss, rfl, hri, hrv, hrl⟩ := h
  intro H locs ls hP hS hl
  exact lv_ldc hx hb hown (hts _ hk) d (kk H locs ls hP hS hl)
theorem gw_ldc2 (h : gx_K l own cc nL fr lo ret Y Post K) {idx : Nat} {v : Int64} (d : decode cc pc = .ok (.ldc2_w idx, 3)) (hk : Cond.constantLong own idx v ∈ gWs) (kk : K μ (pc + 3) L (.long v :: st)) : K μ pc L st := by
  obtain ⟨p, e, s, m, args, below, meth, c0, Q, A0, cells, slots, cR, sR, hx, hb, hml, hown, hts, hK, hI, hN, hA, hcs, hss, rfl, hri, hrv, hrl⟩ := h
  intro H locs ls hP hS hl
  exact lv_ldc2 hx hb hown (hts _ hk) d (kk H locs ls hP hS hl)
theorem gw_iload_n (h : gx_K l own cc nL fr lo ret Y Post K) {k : Fin 4} {i : Nat} {x : Int32} (j : Nat) (d : decode cc pc = .ok (.iload_n k, 1)) (hj : L[j]? = some (i, .int x)) (hi : (k : Nat) = i) (kk : K μ (pc + 1) L (.int x :: st)) : K μ pc L st := by
  obtain ⟨p, e, s, m, args, below, meth, c0, Q, A0, cells, slots, cR, sR, hx, hb, hml, hown, hts, hK, hI, hN, hA, hcs, hss, rfl, hri, hrv, hrl⟩ := h
  intro H locs ls hP hS hl
  exact lv_iload_n hx hb d hi (lv_at hl j hj) (kk H locs ls hP hS hl)
theorem gw_aload_n (h : gx_K l own cc nL fr lo ret Y Post K) {k : Fin 4} {i : Nat} {x : Nat} (j : Nat) (d : decode cc pc = .ok (.aload_n k, 1)) (hj : L[j]? = some (i, .ref x)) (hi : (k : Nat) = i) (kk : K μ (pc + 1) L (.ref x :: st)) : K μ pc L st := by
  obtain ⟨p, e, s, m, args, below, meth, c0, Q, A0, cells, slots, cR, sR, hx, hb, hml, hown, hts, hK, hI, hN, hA, hcs, hss, rfl, hri, hrv, hrl⟩ := h
  intro H locs ls hP hS hl
  exact lv_aload_n hx hb d hi (lv_at hl j hj) (kk H locs ls hP hS hl)
theorem gw_lload_n (h : gx_K l own cc nL fr lo ret Y Post K) {k : Fin 4} {i : Nat} {x : Int64} (j : Nat) (d : decode cc pc = .ok (.lload_n k, 1)) (hj : L[j]? = some (i, .long x)) (hi : (k : Nat) = i) (kk : K μ (pc + 1) L (.long x :: st)) : K μ pc L st := by
  obtain ⟨p, e, s, m, args, below, meth, c0, Q, A0, cells, slots, cR, sR, hx, hb, hml, hown, hts, hK, hI, hN, hA, hcs, hss, rfl, hri, hrv, hrl⟩ := h
  intro H locs ls hP hS hl
  exact lv_lload_n hx hb d hi (lv_at hl j hj) (kk H locs ls hP hS hl)
theorem gw_iload (h : gx_K l own cc nL fr lo ret Y Post K) {i : Nat} {x : Int32} (j : Nat) (d : decode cc pc = .ok (.iload i, 2)) (hj : L[j]? = some (i, .int x)) (kk : K μ (pc + 2) L (.int x :: st)) : K μ pc L st := by
  obtain ⟨p, e, s, m, args, below, meth, c0, Q, A0, cells, slots, cR, sR, hx, hb, hml, hown, hts, hK, hI, hN, hA, hcs, hss, rfl, hri, hrv, hrl⟩ := h
  intro H locs ls hP hS hl
  exact lv_iload hx hb d (lv_at hl j hj) (kk H locs ls hP hS hl)
theorem gw_aload (h : gx_K l own cc nL fr lo ret Y Post K) {i : Nat} {x : Nat} (j : Nat) (d : decode cc pc = .ok (.aload i, 2)) (hj : L[j]? = some (i, .ref x)) (kk : K μ (pc + 2) L (.ref x :: st)) : K μ pc L st := by
  obtain ⟨p, e, s, m, args, below, meth, c0, Q, A0, cells, slots, cR, sR, hx, hb, hml, hown, hts, hK, hI, hN, hA, hcs, hss, rfl, hri, hrv, hrl⟩ := h
  intro H locs ls hP hS hl
  exact lv_aload hx hb d (lv_at hl j hj) (kk H locs ls hP hS hl)
theorem gw_istore_n (h : gx_K l own cc nL fr lo ret Y Post K) {k : Fin 4} {i : Nat} {x : Int32} (d : decode cc pc = .ok (.istore_n k, 1)) (hi : (k : Nat) = i) (hn : i < nL) (hL : (i, Value.int x) :: L.filter (fun q => !(q.1 == i) && !(q.1 + 1 == i && q.2.category == 2)) = L') (kk : K μ (pc + 1) L' st) : K μ pc L (.int x :: st) := by
  obtain ⟨p, e, s, m, args, below, meth, c0, Q, A0, cells, slots, cR, sR, hx, hb, hml, hown, hts, hK, hI, hN, hA, hcs, hss, rfl, hri, hrv, hrl⟩ := h
  intro H locs ls hP hS hl
  exact lv_istore_n hx hb d hi hl hn hL (fun ls1 hl1 => kk H locs ls1 hP hS hl1)
theorem gw_astore_n (h : gx_K l own cc nL fr lo ret Y Post K) {k : Fin 4} {i : Nat} {x : Nat} (d : decode cc pc = .ok (.astore_n k, 1)) (hi : (k : Nat) = i) (hn : i < nL) (hL : (i, Value.ref x) :: L.filter (fun q => !(q.1 == i) && !(q.1 + 1 == i && q.2.category == 2)) = L') (kk : K μ (pc + 1) L' st) : K μ pc L (.ref x :: st) := by
  obtain ⟨p, e, s, m, args, below, meth, c0, Q, A0, cells, slots, cR, sR, hx, hb, hml, hown, hts, hK, hI, hN, hA, hcs, hss, rfl, hri, hrv, hrl⟩ := h
  intro H locs ls hP hS hl
  exact lv_astore_n hx hb d hi hl hn hL (fun ls1 hl1 => kk H locs ls1 hP hS hl1)
theorem gw_lstore_n (h : gx_K l own cc nL fr lo ret Y Post K) {k : Fin 4} {i : Nat} {x : Int64} (d : decode cc pc = .ok (.lstore_n k, 1)) (hi : (k : Nat) = i) (hn : i + 1 < nL) (hL : (i, Value.long x) :: L.filter (fun q => !(q.1 == i) && (!(q.1 == i + 1) && !(q.1 + 1 == i && q.2.category == 2))) = L') (kk : K μ (pc + 1) L' st) : K μ pc L (.long x :: st) := by
  obtain ⟨p, e, s, m, args, below, meth, c0, Q, A0, cells, slots, cR, sR, hx, hb, hml, hown, hts, hK, hI, hN, hA, hcs, hss, rfl, hri, hrv, hrl⟩ := h
  intro H locs ls hP hS hl
  exact lv_lstore_n hx hb d hi hl hn hL (fun ls1 hl1 => kk H locs ls1 hP hS hl1)
theorem gw_istore (h : gx_K l own cc nL fr lo ret Y Post K) {i : Nat} {x : Int32} (d : decode cc pc = .ok (.istore i, 2)) (hn : i < nL) (hL : (i, Value.int x) :: L.filter (fun q => !(q.1 == i) && !(q.1 + 1 == i && q.2.category == 2)) = L') (kk : K μ (pc + 2) L' st) : K μ pc L (.int x :: st) := by
  obtain ⟨p, e, s, m, args, below, meth, c0, Q, A0, cells, slots, cR, sR, hx, hb, hml, hown, hts, hK, hI, hN, hA, hcs, hss, rfl, hri, hrv, hrl⟩ := h
  intro H locs ls hP hS hl
  exact lv_istore hx hb d hl hn hL (fun ls1 hl1 => kk H locs ls1 hP hS hl1)
theorem gw_astore (h : gx_K l own cc nL fr lo ret Y Post K) {i : Nat} {x : Nat} (d : decode cc pc = .ok (.astore i, 2)) (hn : i < nL) (hL : (i, Value.ref x) :: L.filter (fun q => !(q.1 == i) && !(q.1 + 1 == i && q.2.category == 2)) = L') (kk : K μ (pc + 2) L' st) : K μ pc L (.ref x :: st) := by
  obtain ⟨p, e, s, m, args, below, meth, c0, Q, A0, cells, slots, cR, sR, hx, hb, hml, hown, hts, hK, hI, hN, hA, hcs, hss, rfl, hri, hrv, hrl⟩ := h
  intro H locs ls hP hS hl
  exact lv_astore hx hb d hl hn hL (fun ls1 hl1 => kk H locs ls1 hP hS hl1)
theorem gw_iinc (h : gx_K l own cc nL fr lo ret Y Post K) {i : Nat} {n : Int} {x v : Int32} (j : Nat) (d : decode cc pc = .ok (.iinc i n, 3)) (hj : L[j]? = some (i, .int x)) (hv : x + Int32.ofInt n = v) (hn : i < nL) (hL : (i, Value.int v) :: L.filter (fun q => !(q.1 == i) && !(q.1 + 1 == i && q.2.category == 2)) = L') (kk : K μ (pc + 3) L' st) : K μ pc L st := by
  obtain ⟨p, e, s, m, args, below, meth, c0, Q, A0, cells, slots, cR, sR, hx, hb, hml, hown, hts, hK, hI, hN, hA, hcs, hss, rfl, hri, hrv, hrl⟩ := h
  intro H locs ls hP hS hl
  exact lv_iinc hx hb d hl hj hv hn hL (fun ls1 hl1 => kk H locs ls1 hP hS hl1)
theorem gw_sub (h : gx_K l own cc nL fr lo ret Y Post K) (ks : List Nat) (hL : lv_pick L ks = L') (kk : K μ pc L' st) : K μ pc L st := by
  obtain ⟨p, e, s, m, args, below, meth, c0, Q, A0, cells, slots, cR, sR, hx, hb, hml, hown, hts, hK, hI, hN, hA, hcs, hss, rfl, hri, hrv, hrl⟩ := h
  intro H locs ls hP hS hl
  exact kk H locs ls hP hS (lv_sub hl ks hL)
theorem gw_iadd (h : gx_K l own cc nL fr lo ret Y Post K) {x y : Int32} (d : decode cc pc = .ok (.iadd, 1)) (kk : K μ (pc + 1) L (.int (x + y) :: st)) : K μ pc L (.int y :: .int x :: st) := by
  obtain ⟨p, e, s, m, args, below, meth, c0, Q, A0, cells, slots, cR, sR, hx, hb, hml, hown, hts, hK, hI, hN, hA, hcs, hss, rfl, hri, hrv, hrl⟩ := h
  intro H locs ls hP hS hl
  exact lv_iadd hx hb d (kk H locs ls hP hS hl)
theorem gw_isub (h : gx_K l own cc nL fr lo ret Y Post K) {x y : Int32} (d : decode cc pc = .ok (.isub, 1)) (kk : K μ (pc + 1) L (.int (x - y) :: st)) : K μ pc L (.int y :: .int x :: st) := by
  obtain ⟨p, e, s, m, args, below, meth, c0, Q, A0, cells, slots, cR, sR, hx, hb, hml, hown, hts, hK, hI, hN, hA, hcs, hss, rfl, hri, hrv, hrl⟩ := h
  intro H locs ls hP hS hl
  exact lv_isub hx hb d (kk H locs ls hP hS hl)
theorem gw_imul (h : gx_K l own cc nL fr lo ret Y Post K) {x y : Int32} (d : decode cc pc = .ok (.imul, 1)) (kk : K μ (pc + 1) L (.int (x * y) :: st)) : K μ pc L (.int y :: .int x :: st) := by
  obtain ⟨p, e, s, m, args, below, meth, c0, Q, A0, cells, slots, cR, sR, hx, hb, hml, hown, hts, hK, hI, hN, hA, hcs, hss, rfl, hri, hrv, hrl⟩ := h
  intro H locs ls hP hS hl
  exact lv_imul hx hb d (kk H locs ls hP hS hl)
theorem gw_iand (h : gx_K l own cc nL fr lo ret Y Post K) {x y : Int32} (d : decode cc pc = .ok (.iand, 1)) (kk : K μ (pc + 1) L (.int (x &&& y) :: st)) : K μ pc L (.int y :: .int x :: st) := by
  obtain ⟨p, e, s, m, args, below, meth, c0, Q, A0, cells, slots, cR, sR, hx, hb, hml, hown, hts, hK, hI, hN, hA, hcs, hss, rfl, hri, hrv, hrl⟩ := h
  intro H locs ls hP hS hl
  exact lv_iand hx hb d (kk H locs ls hP hS hl)
theorem gw_lmul (h : gx_K l own cc nL fr lo ret Y Post K) {x y : Int64} (d : decode cc pc = .ok (.lmul, 1)) (kk : K μ (pc + 1) L (.long (x * y) :: st)) : K μ pc L (.long y :: .long x :: st) := by
  obtain ⟨p, e, s, m, args, below, meth, c0, Q, A0, cells, slots, cR, sR, hx, hb, hml, hown, hts, hK, hI, hN, hA, hcs, hss, rfl, hri, hrv, hrl⟩ := h
  intro H locs ls hP hS hl
  exact lv_lmul hx hb d (kk H locs ls hP hS hl)
theorem gw_idiv (h : gx_K l own cc nL fr lo ret Y Post K) {x y : Int32} (d : decode cc pc = .ok (.idiv, 1)) (hne : ¬ y = 0) (kk : K μ (pc + 1) L (.int (x / y) :: st)) : K μ pc L (.int y :: .int x :: st) := by
  obtain ⟨p, e, s, m, args, below, meth, c0, Q, A0, cells, slots, cR, sR, hx, hb, hml, hown, hts, hK, hI, hN, hA, hcs, hss, rfl, hri, hrv, hrl⟩ := h
  intro H locs ls hP hS hl
  exact lv_idiv hx hb d hne (kk H locs ls hP hS hl)
theorem gw_irem (h : gx_K l own cc nL fr lo ret Y Post K) {x y : Int32} (d : decode cc pc = .ok (.irem, 1)) (hne : ¬ y = 0) (kk : K μ (pc + 1) L (.int (x - x / y * y) :: st)) : K μ pc L (.int y :: .int x :: st) := by
  obtain ⟨p, e, s, m, args, below, meth, c0, Q, A0, cells, slots, cR, sR, hx, hb, hml, hown, hts, hK, hI, hN, hA, hcs, hss, rfl, hri, hrv, hrl⟩ := h
  intro H locs ls hP hS hl
  exact lv_irem hx hb d hne (kk H locs ls hP hS hl)
theorem gw_ldiv (h : gx_K l own cc nL fr lo ret Y Post K) {x y : Int64} (d : decode cc pc = .ok (.ldiv, 1)) (hne : ¬ y = 0) (kk : K μ (pc + 1) L (.long (x / y) :: st)) : K μ pc L (.long y :: .long x :: st) := by
  obtain ⟨p, e, s, m, args, below, meth, c0, Q, A0, cells, slots, cR, sR, hx, hb, hml, hown, hts, hK, hI, hN, hA, hcs, hss, rfl, hri, hrv, hrl⟩ := h
  intro H locs ls hP hS hl
  exact lv_ldiv hx hb d hne (kk H locs ls hP hS hl)
theorem gw_ixor (h : gx_K l own cc nL fr lo ret Y Post K) {x y : Int32} (d : decode cc pc = .ok (.ixor, 1)) (kk : K μ (pc + 1) L (.int (x ^^^ y) :: st)) : K μ pc L (.int y :: .int x :: st) := by
  obtain ⟨p, e, s, m, args, below, meth, c0, Q, A0, cells, slots, cR, sR, hx, hb, hml, hown, hts, hK, hI, hN, hA, hcs, hss, rfl, hri, hrv, hrl⟩ := h
  intro H locs ls hP hS hl
  exact lv_ixor hx hb d (kk H locs ls hP hS hl)
theorem gw_ishr (h : gx_K l own cc nL fr lo ret Y Post K) {x y : Int32} (d : decode cc pc = .ok (.ishr, 1)) (kk : K μ (pc + 1) L (.int (x >>> (y &&& 31)) :: st)) : K μ pc L (.int y :: .int x :: st) := by
  obtain ⟨p, e, s, m, args, below, meth, c0, Q, A0, cells, slots, cR, sR, hx, hb, hml, hown, hts, hK, hI, hN, hA, hcs, hss, rfl, hri, hrv, hrl⟩ := h
  intro H locs ls hP hS hl
  exact lv_ishr hx hb d (kk H locs ls hP hS hl)
theorem gw_ladd (h : gx_K l own cc nL fr lo ret Y Post K) {x y : Int64} (d : decode cc pc = .ok (.ladd, 1)) (kk : K μ (pc + 1) L (.long (x + y) :: st)) : K μ pc L (.long y :: .long x :: st) := by
  obtain ⟨p, e, s, m, args, below, meth, c0, Q, A0, cells, slots, cR, sR, hx, hb, hml, hown, hts, hK, hI, hN, hA, hcs, hss, rfl, hri, hrv, hrl⟩ := h
  intro H locs ls hP hS hl
  exact lv_ladd hx hb d (kk H locs ls hP hS hl)
theorem gw_land (h : gx_K l own cc nL fr lo ret Y Post K) {x y : Int64} (d : decode cc pc = .ok (.land, 1)) (kk : K μ (pc + 1) L (.long (x &&& y) :: st)) : K μ pc L (.long y :: .long x :: st) := by
  obtain ⟨p, e, s, m, args, below, meth, c0, Q, A0, cells, slots, cR, sR, hx, hb, hml, hown, hts, hK, hI, hN, hA, hcs, hss, rfl, hri, hrv, hrl⟩ := h
  intro H locs ls hP hS hl
  exact lv_land hx hb d (kk H locs ls hP hS hl)
theorem gw_lshr (h : gx_K l own cc nL fr lo ret Y Post K) {x : Int64} {y : Int32} (d : decode cc pc = .ok (.lshr, 1)) (kk : K μ (pc + 1) L (.long (x >>> (y.toInt64 &&& 63)) :: st)) : K μ pc L (.int y :: .long x :: st) := by
  obtain ⟨p, e, s, m, args, below, meth, c0, Q, A0, cells, slots, cR, sR, hx, hb, hml, hown, hts, hK, hI, hN, hA, hcs, hss, rfl, hri, hrv, hrl⟩ := h
  intro H locs ls hP hS hl
  exact lv_lshr hx hb d rfl (kk H locs ls hP hS hl)
theorem gw_lcmp (h : gx_K l own cc nL fr lo ret Y Post K) {x y : Int64} (d : decode cc pc = .ok (.lcmp, 1)) (kk : K μ (pc + 1) L (.int (lg_cmp x y) :: st)) : K μ pc L (.long y :: .long x :: st) := by
  obtain ⟨p, e, s, m, args, below, meth, c0, Q, A0, cells, slots, cR, sR, hx, hb, hml, hown, hts, hK, hI, hN, hA, hcs, hss, rfl, hri, hrv, hrl⟩ := h
  intro H locs ls hP hS hl
  exact W.lcmp hx hb d (kk H locs ls hP hS hl)
theorem gw_lconst (h : gx_K l own cc nL fr lo ret Y Post K) {n : Fin 2} {v : Int64} (d : decode cc pc = .ok (.lconst n, 1)) (hv : Int64.ofNat (n : Nat) = v) (kk : K μ (pc + 1) L (.long v :: st)) : K μ pc L st := by
  obtain ⟨p, e, s, m, args, below, meth, c0, Q, A0, cells, slots, cR, sR, hx, hb, hml, hown, hts, hK, hI, hN, hA, hcs, hss, rfl, hri, hrv, hrl⟩ := h
  intro H locs ls hP hS hl
  exact lv_lconst hx hb d hv (kk H locs ls hP hS hl)
theorem gw_ineg (h : gx_K l own cc nL fr lo ret Y Post K) {x : Int32} (d : decode cc pc = .ok (.ineg, 1)) (kk : K μ (pc + 1) L (.int (-x) :: st)) : K μ pc L (.int x :: st) := by
  obtain ⟨p, e, s, m, args, below, meth, c0, Q, A0, cells, slots, cR, sR, hx, hb, hml, hown, hts, hK, hI, hN, hA, hcs, hss, rfl, hri, hrv, hrl⟩ := h
  intro H locs ls hP hS hl
  exact lv_ineg hx hb d (kk H locs ls hP hS hl)
theorem gw_i2l (h : gx_K l own cc nL fr lo ret Y Post K) {x : Int32} (d : decode cc pc = .ok (.i2l, 1)) (kk : K μ (pc + 1) L (.long x.toInt64 :: st)) : K μ pc L (.int x :: st) := by
  obtain ⟨p, e, s, m, args, below, meth, c0, Q, A0, cells, slots, cR, sR, hx, hb, hml, hown, hts, hK, hI, hN, hA, hcs, hss, rfl, hri, hrv, hrl⟩ := h
  intro H locs ls hP hS hl
  exact lv_i2l hx hb d rfl (kk H locs ls hP hS hl)
theorem gw_l2i (h : gx_K l own cc nL fr lo ret Y Post K) {x : Int64} (d : decode cc pc = .ok (.l2i, 1)) (kk : K μ (pc + 1) L (.int x.toInt32 :: st)) : K μ pc L (.long x :: st) := by
  obtain ⟨p, e, s, m, args, below, meth, c0, Q, A0, cells, slots, cR, sR, hx, hb, hml, hown, hts, hK, hI, hN, hA, hcs, hss, rfl, hri, hrv, hrl⟩ := h
  intro H locs ls hP hS hl
  exact lv_l2i hx hb d rfl (kk H locs ls hP hS hl)
theorem gw_dup (h : gx_K l own cc nL fr lo ret Y Post K) {x : Value} (d : decode cc pc = .ok (.dup, 1)) (hv : x.category = 1) (kk : K μ (pc + 1) L (x :: x :: st)) : K μ pc L (x :: st) := by
  obtain ⟨p, e, s, m, args, below, meth, c0, Q, A0, cells, slots, cR, sR, hx, hb, hml, hown, hts, hK, hI, hN, hA, hcs, hss, rfl, hri, hrv, hrl⟩ := h
  intro H locs ls hP hS hl
  exact lv_dup hx hb d hv (kk H locs ls hP hS hl)
theorem gw_pop (h : gx_K l own cc nL fr lo ret Y Post K) {x : Value} (d : decode cc pc = .ok (.pop, 1)) (hv : x.category = 1) (kk : K μ (pc + 1) L st) : K μ pc L (x :: st) := by
  obtain ⟨p, e, s, m, args, below, meth, c0, Q, A0, cells, slots, cR, sR, hx, hb, hml, hown, hts, hK, hI, hN, hA, hcs, hss, rfl, hri, hrv, hrl⟩ := h
  intro H locs ls hP hS hl
  exact lv_pop hx hb d hv (kk H locs ls hP hS hl)
theorem gw_dup2 (h : gx_K l own cc nL fr lo ret Y Post K) {x y : Value} (d : decode cc pc = .ok (.dup2, 1)) (hv : x.category = 1) (hw : y.category = 1) (kk : K μ (pc + 1) L (x :: y :: x :: y :: st)) : K μ pc L (x :: y :: st) := by
  obtain ⟨p, e, s, m, args, below, meth, c0, Q, A0, cells, slots, cR, sR, hx, hb, hml, hown, hts, hK, hI, hN, hA, hcs, hss, rfl, hri, hrv, hrl⟩ := h
  intro H locs ls hP hS hl
  exact lv_dup2_11 hx hb d hv hw (kk H locs ls hP hS hl)
theorem gw_goto (h : gx_K l own cc nL fr lo ret Y Post K) {off : Int} {tgt : Nat} (d : decode cc pc = .ok (.goto off, 3)) (ht : (pc : Int) + off = (tgt : Int)) (kk : K μ tgt L st) : K μ pc L st := by
  obtain ⟨p, e, s, m, args, below, meth, c0, Q, A0, cells, slots, cR, sR, hx, hb, hml, hown, hts, hK, hI, hN, hA, hcs, hss, rfl, hri, hrv, hrl⟩ := h
  intro H locs ls hP hS hl
  exact lv_goto hx hb d ht (kk H locs ls hP hS hl)
theorem gw_ifnonnull (h : gx_K l own cc nL fr lo ret Y Post K) {off : Int} {x tgt : Nat} (d : decode cc pc = .ok (.ifnonnull off, 3)) (ht : (pc : Int) + off = (tgt : Int)) (kk : K μ tgt L st) : K μ pc L (.ref x :: st) := by
  obtain ⟨p, e, s, m, args, below, meth, c0, Q, A0, cells, slots, cR, sR, hx, hb, hml, hown, hts, hK, hI, hN, hA, hcs, hss, rfl, hri, hrv, hrl⟩ := h
  intro H locs ls hP hS hl
  exact lv_ifnonnull hx hb d ht (kk H locs ls hP hS hl)
theorem gw_ifnull (h : gx_K l own cc nL fr lo ret Y Post K) {off : Int} {x : Nat} (d : decode cc pc = .ok (.ifnull off, 3)) (kk : K μ (pc + 3) L st) : K μ pc L (.ref x :: st) := by
  obtain ⟨p, e, s, m, args, below, meth, c0, Q, A0, cells, slots, cR, sR, hx, hb, hml, hown, hts, hK, hI, hN, hA, hcs, hss, rfl, hri, hrv, hrl⟩ := h
  intro H locs ls hP hS hl
  exact lv_ifnull hx hb d (kk H locs ls hP hS hl)
theorem gw_if_eq (h : gx_K l own cc nL fr lo ret Y Post K) {x : Int32} {off : Int} {tgt : Nat} {a b : Option α} (d : decode cc pc = .ok (.ifCond .eq off, 3)) (ht : (pc : Int) + off = (tgt : Int)) (hf : (if x = 0 then a else b) = some rr) (kt : x = 0 → a = some rr → K μ tgt L st) (kf : ¬ (x = 0) → b = some rr → K μ (pc + 3) L st) : K μ pc L (.int x :: st) := by
  obtain ⟨p, e, s, m, args, below, meth, c0, Q, A0, cells, slots, cR, sR, hx, hb, hml, hown, hts, hK, hI, hN, hA, hcs, hss, rfl, hri, hrv, hrl⟩ := h
  intro H locs ls hP hS hl
  exact lv_if_eq hx hb d ht (fun q => kt q (gx_pos q hf) H locs ls hP hS hl) (fun q => kf q (gx_neg q hf) H locs ls hP hS hl)
theorem gw_if_eq_c (h : gx_K l own cc nL fr lo ret Y Post K) {x : Int32} {off : Int} {tgt : Nat} (d : decode cc pc = .ok (.ifCond .eq off, 3)) (ht : (pc : Int) + off = (tgt : Int)) (kt : x = 0 → K μ tgt L st) (kf : ¬ (x = 0) → K μ (pc + 3) L st) : K μ pc L (.int x :: st) := by
  obtain ⟨p, e, s, m, args, below, meth, c0, Q, A0, cells, slots, cR, sR, hx, hb, hml, hown, hts, hK, hI, hN, hA, hcs, hss, rfl, hri, hrv, hrl⟩ := h
  intro H locs ls hP hS hl
  exact lv_if_eq hx hb d ht (fun q => kt q H locs ls hP hS hl) (fun q => kf q H locs ls hP hS hl)
theorem gw_icmp_eq (h : gx_K l own cc nL fr lo ret Y Post K) {x y : Int32} {off : Int} {tgt : Nat} {a b : Option α} (d : decode cc pc = .ok (.if_icmp .eq off, 3)) (ht : (pc : Int) + off = (tgt : Int)) (hf : (if x = y then a else b) = some rr) (kt : x = y → a = some rr → K μ tgt L st) (kf : ¬ (x = y) → b = some rr → K μ (pc + 3) L st) : K μ pc L (.int y :: .int x :: st) := by
  obtain ⟨p, e, s, m, args, below, meth, c0, Q, A0, cells, slots, cR, sR, hx, hb, hml, hown, hts, hK, hI, hN, hA, hcs, hss, rfl, hri, hrv, hrl⟩ := h
  intro H locs ls hP hS hl
  exact lv_icmp_eq hx hb d ht (fun q => kt q (gx_pos q hf) H locs ls hP hS hl) (fun q => kf q (gx_neg q hf) H locs ls hP hS hl)
theorem gw_icmp_eq_c (h : gx_K l own cc nL fr lo ret Y Post K) {x y : Int32} {off : Int} {tgt : Nat} (d : decode cc pc = .ok (.if_icmp .eq off, 3)) (ht : (pc : Int) + off = (tgt : Int)) (kt : x = y → K μ tgt L st) (kf : ¬ (x = y) → K μ (pc + 3) L st) : K μ pc L (.int y :: .int x :: st) := by
  obtain ⟨p, e, s, m, args, below, meth, c0, Q, A0, cells, slots, cR, sR, hx, hb, hml, hown, hts, hK, hI, hN, hA, hcs, hss, rfl, hri, hrv, hrl⟩ := h
  intro H locs ls hP hS hl
  exact lv_icmp_eq hx hb d ht (fun q => kt q H locs ls hP hS hl) (fun q => kf q H locs ls hP hS hl)
theorem gw_if_ne (h : gx_K l own cc nL fr lo ret Y Post K) {x : Int32} {off : Int} {tgt : Nat} {a b : Option α} (d : decode cc pc = .ok (.ifCond .ne off, 3)) (ht : (pc : Int) + off = (tgt : Int)) (hf : (if x = 0 then b else a) = some rr) (kt : ¬ (x = 0) → a = some rr → K μ tgt L st) (kf : x = 0 → b = some rr → K μ (pc + 3) L st) : K μ pc L (.int x :: st) := by
  obtain ⟨p, e, s, m, args, below, meth, c0, Q, A0, cells, slots, cR, sR, hx, hb, hml, hown, hts, hK, hI, hN, hA, hcs, hss, rfl, hri, hrv, hrl⟩ := h
  intro H locs ls hP hS hl
  exact lv_if_ne hx hb d ht (fun q => kt q (gx_neg q hf) H locs ls hP hS hl) (fun q => kf q (gx_pos q hf) H locs ls hP hS hl)
theorem gw_if_ne_c (h : gx_K l own cc nL fr lo ret Y Post K) {x : Int32} {off : Int} {tgt : Nat} (d : decode cc pc = .ok (.ifCond .ne off, 3)) (ht : (pc : Int) + off = (tgt : Int)) (kt : ¬ (x = 0) → K μ tgt L st) (kf : x = 0 → K μ (pc + 3) L st) : K μ pc L (.int x :: st) := by
  obtain ⟨p, e, s, m, args, below, meth, c0, Q, A0, cells, slots, cR, sR, hx, hb, hml, hown, hts, hK, hI, hN, hA, hcs, hss, rfl, hri, hrv, hrl⟩ := h
  intro H locs ls hP hS hl
  exact lv_if_ne hx hb d ht (fun q => kt q H locs ls hP hS hl) (fun q => kf q H locs ls hP hS hl)
theorem gw_icmp_ne (h : gx_K l own cc nL fr lo ret Y Post K) {x y : Int32} {off : Int} {tgt : Nat} {a b : Option α} (d : decode cc pc = .ok (.if_icmp .ne off, 3)) (ht : (pc : Int) + off = (tgt : Int)) (hf : (if x = y then b else a) = some rr) (kt : ¬ (x = y) → a = some rr → K μ tgt L st) (kf : x = y → b = some rr → K μ (pc + 3) L st) : K μ pc L (.int y :: .int x :: st) := by
  obtain ⟨p, e, s, m, args, below, meth, c0, Q, A0, cells, slots, cR, sR, hx, hb, hml, hown, hts, hK, hI, hN, hA, hcs, hss, rfl, hri, hrv, hrl⟩ := h
  intro H locs ls hP hS hl
  exact lv_icmp_ne hx hb d ht (fun q => kt q (gx_neg q hf) H locs ls hP hS hl) (fun q => kf q (gx_pos q hf) H locs ls hP hS hl)
theorem gw_icmp_ne_c (h : gx_K l own cc nL fr lo ret Y Post K) {x y : Int32} {off : Int} {tgt : Nat} (d : decode cc pc = .ok (.if_icmp .ne off, 3)) (ht : (pc : Int) + off = (tgt : Int)) (kt : ¬ (x = y) → K μ tgt L st) (kf : x = y → K μ (pc + 3) L st) : K μ pc L (.int y :: .int x :: st) := by
  obtain ⟨p, e, s, m, args, below, meth, c0, Q, A0, cells, slots, cR, sR, hx, hb, hml, hown, hts, hK, hI, hN, hA, hcs, hss, rfl, hri, hrv, hrl⟩ := h
  intro H locs ls hP hS hl
  exact lv_icmp_ne hx hb d ht (fun q => kt q H locs ls hP hS hl) (fun q => kf q H locs ls hP hS hl)
theorem gw_if_lt (h : gx_K l own cc nL fr lo ret Y Post K) {x : Int32} {off : Int} {tgt : Nat} {a b : Option α} (d : decode cc pc = .ok (.ifCond .lt off, 3)) (ht : (pc : Int) + off = (tgt : Int)) (hf : (if x < 0 then a else b) = some rr) (kt : x < 0 → a = some rr → K μ tgt L st) (kf : ¬ (x < 0) → b = some rr → K μ (pc + 3) L st) : K μ pc L (.int x :: st) := by
  obtain ⟨p, e, s, m, args, below, meth, c0, Q, A0, cells, slots, cR, sR, hx, hb, hml, hown, hts, hK, hI, hN, hA, hcs, hss, rfl, hri, hrv, hrl⟩ := h
  intro H locs ls hP hS hl
  exact lv_if_lt hx hb d ht (fun q => kt q (gx_pos q hf) H locs ls hP hS hl) (fun q => kf q (gx_neg q hf) H locs ls hP hS hl)
theorem gw_if_lt_c (h : gx_K l own cc nL fr lo ret Y Post K) {x : Int32} {off : Int} {tgt : Nat} (d : decode cc pc = .ok (.ifCond .lt off, 3)) (ht : (pc : Int) + off = (tgt : Int)) (kt : x < 0 → K μ tgt L st) (kf : ¬ (x < 0) → K μ (pc + 3) L st) : K μ pc L (.int x :: st) := by
  obtain ⟨p, e, s, m, args, below, meth, c0, Q, A0, cells, slots, cR, sR, hx, hb, hml, hown, hts, hK, hI, hN, hA, hcs, hss, rfl, hri, hrv, hrl⟩ := h
  intro H locs ls hP hS hl
  exact lv_if_lt hx hb d ht (fun q => kt q H locs ls hP hS hl) (fun q => kf q H locs ls hP hS hl)
theorem gw_icmp_lt (h : gx_K l own cc nL fr lo ret Y Post K) {x y : Int32} {off : Int} {tgt : Nat} {a b : Option α} (d : decode cc pc = .ok (.if_icmp .lt off, 3)) (ht : (pc : Int) + off = (tgt : Int)) (hf : (if x < y then a else b) = some rr) (kt : x < y → a = some rr → K μ tgt L st) (kf : ¬ (x < y) → b = some rr → K μ (pc + 3) L st) : K μ pc L (.int y :: .int x :: st) := by
  obtain ⟨p, e, s, m, args, below, meth, c0, Q, A0, cells, slots, cR, sR, hx, hb, hml, hown, hts, hK, hI, hN, hA, hcs, hss, rfl, hri, hrv, hrl⟩ := h
  intro H locs ls hP hS hl
  exact lv_icmp_lt hx hb d ht (fun q => kt q (gx_pos q hf) H locs ls hP hS hl) (fun q => kf q (gx_neg q hf) H locs ls hP hS hl)
theorem gw_icmp_lt_c (h : gx_K l own cc nL fr lo ret Y Post K) {x y : Int32} {off : Int} {tgt : Nat} (d : decode cc pc = .ok (.if_icmp .lt off, 3)) (ht : (pc : Int) + off = (tgt : Int)) (kt : x < y → K μ tgt L st) (kf : ¬ (x < y) → K μ (pc + 3) L st) : K μ pc L (.int y :: .int x :: st) := by
  obtain ⟨p, e, s, m, args, below, meth, c0, Q, A0, cells, slots, cR, sR, hx, hb, hml, hown, hts, hK, hI, hN, hA, hcs, hss, rfl, hri, hrv, hrl⟩ := h
  intro H locs ls hP hS hl
  exact lv_icmp_lt hx hb d ht (fun q => kt q H locs ls hP hS hl) (fun q => kf q H locs ls hP hS hl)
theorem gw_if_ge (h : gx_K l own cc nL fr lo ret Y Post K) {x : Int32} {off : Int} {tgt : Nat} {a b : Option α} (d : decode cc pc = .ok (.ifCond .ge off, 3)) (ht : (pc : Int) + off = (tgt : Int)) (hf : (if 0 ≤ x then a else b) = some rr) (kt : 0 ≤ x → a = some rr → K μ tgt L st) (kf : ¬ (0 ≤ x) → b = some rr → K μ (pc + 3) L st) : K μ pc L (.int x :: st) := by
  obtain ⟨p, e, s, m, args, below, meth, c0, Q, A0, cells, slots, cR, sR, hx, hb, hml, hown, hts, hK, hI, hN, hA, hcs, hss, rfl, hri, hrv, hrl⟩ := h
  intro H locs ls hP hS hl
  exact lv_if_ge hx hb d ht (fun q => kt q (gx_pos q hf) H locs ls hP hS hl) (fun q => kf q (gx_neg q hf) H locs ls hP hS hl)
theorem gw_if_ge_c (h : gx_K l own cc nL fr lo ret Y Post K) {x : Int32} {off : Int} {tgt : Nat} (d : decode cc pc = .ok (.ifCond .ge off, 3)) (ht : (pc : Int) + off = (tgt : Int)) (kt : 0 ≤ x → K μ tgt L st) (kf : ¬ (0 ≤ x) → K μ (pc + 3) L st) : K μ pc L (.int x :: st) := by
  obtain ⟨p, e, s, m, args, below, meth, c0, Q, A0, cells, slots, cR, sR, hx, hb, hml, hown, hts, hK, hI, hN, hA, hcs, hss, rfl, hri, hrv, hrl⟩ := h
  intro H locs ls hP hS hl
  exact lv_if_ge hx hb d ht (fun q => kt q H locs ls hP hS hl) (fun q => kf q H locs ls hP hS hl)
theorem gw_icmp_ge (h : gx_K l own cc nL fr lo ret Y Post K) {x y : Int32} {off : Int} {tgt : Nat} {a b : Option α} (d : decode cc pc = .ok (.if_icmp .ge off, 3)) (ht : (pc : Int) + off = (tgt : Int)) (hf : (if y ≤ x then a else b) = some rr) (kt : y ≤ x → a = some rr → K μ tgt L st) (kf : ¬ (y ≤ x) → b = some rr → K μ (pc + 3) L st) : K μ pc L (.int y :: .int x :: st) := by
  obtain ⟨p, e, s, m, args, below, meth, c0, Q, A0, cells, slots, cR, sR, hx, hb, hml, hown, hts, hK, hI, hN, hA, hcs, hss, rfl, hri, hrv, hrl⟩ := h
  intro H locs ls hP hS hl
  exact lv_icmp_ge hx hb d ht (fun q => kt q (gx_pos q hf) H locs ls hP hS hl) (fun q => kf q (gx_neg q hf) H locs ls hP hS hl)
theorem gw_icmp_ge_c (h : gx_K l own cc nL fr lo ret Y Post K) {x y : Int32} {off : Int} {tgt : Nat} (d : decode cc pc = .ok (.if_icmp .ge off, 3)) (ht : (pc : Int) + off = (tgt : Int)) (kt : y ≤ x → K μ tgt L st) (kf : ¬ (y ≤ x) → K μ (pc + 3) L st) : K μ pc L (.int y :: .int x :: st) := by
  obtain ⟨p, e, s, m, args, below, meth, c0, Q, A0, cells, slots, cR, sR, hx, hb, hml, hown, hts, hK, hI, hN, hA, hcs, hss, rfl, hri, hrv, hrl⟩ := h
  intro H locs ls hP hS hl
  exact lv_icmp_ge hx hb d ht (fun q => kt q H locs ls hP hS hl) (fun q => kf q H locs ls hP hS hl)
theorem gw_if_gt (h : gx_K l own cc nL fr lo ret Y Post K) {x : Int32} {off : Int} {tgt : Nat} {a b : Option α} (d : decode cc pc = .ok (.ifCond .gt off, 3)) (ht : (pc : Int) + off = (tgt : Int)) (hf : (if 0 < x then a else b) = some rr) (kt : 0 < x → a = some rr → K μ tgt L st) (kf : ¬ (0 < x) → b = some rr → K μ (pc + 3) L st) : K μ pc L (.int x :: st) := by
  obtain ⟨p, e, s, m, args, below, meth, c0, Q, A0, cells, slots, cR, sR, hx, hb, hml, hown, hts, hK, hI, hN, hA, hcs, hss, rfl, hri, hrv, hrl⟩ := h
  intro H locs ls hP hS hl
  exact lv_if_gt hx hb d ht (fun q => kt q (gx_pos q hf) H locs ls hP hS hl) (fun q => kf q (gx_neg q hf) H locs ls hP hS hl)
theorem gw_if_gt_c (h : gx_K l own cc nL fr lo ret Y Post K) {x : Int32} {off : Int} {tgt : Nat} (d : decode cc pc = .ok (.ifCond .gt off, 3)) (ht : (pc : Int) + off = (tgt : Int)) (kt : 0 < x → K μ tgt L st) (kf : ¬ (0 < x) → K μ (pc + 3) L st) : K μ pc L (.int x :: st) := by
  obtain ⟨p, e, s, m, args, below, meth, c0, Q, A0, cells, slots, cR, sR, hx, hb, hml, hown, hts, hK, hI, hN, hA, hcs, hss, rfl, hri, hrv, hrl⟩ := h
  intro H locs ls hP hS hl
  exact lv_if_gt hx hb d ht (fun q => kt q H locs ls hP hS hl) (fun q => kf q H locs ls hP hS hl)
theorem gw_icmp_gt (h : gx_K l own cc nL fr lo ret Y Post K) {x y : Int32} {off : Int} {tgt : Nat} {a b : Option α} (d : decode cc pc = .ok (.if_icmp .gt off, 3)) (ht : (pc : Int) + off = (tgt : Int)) (hf : (if y < x then a else b) = some rr) (kt : y < x → a = some rr → K μ tgt L st) (kf : ¬ (y < x) → b = some rr → K μ (pc + 3) L st) : K μ pc L (.int y :: .int x :: st) := by
  obtain ⟨p, e, s, m, args, below, meth, c0, Q, A0, cells, slots, cR, sR, hx, hb, hml, hown, hts, hK, hI, hN, hA, hcs, hss, rfl, hri, hrv, hrl⟩ := h
  intro H locs ls hP hS hl
  exact lv_icmp_gt hx hb d ht (fun q => kt q (gx_pos q hf) H locs ls hP hS hl) (fun q => kf q (gx_neg q hf) H locs ls hP hS hl)
theorem gw_icmp_gt_c (h : gx_K l own cc nL fr lo ret Y Post K) {x y : Int32} {off : Int} {tgt : Nat} (d : decode cc pc = .ok (.if_icmp .gt off, 3)) (ht : (pc : Int) + off = (tgt : Int)) (kt : y < x → K μ tgt L st) (kf : ¬ (y < x) → K μ (pc + 3) L st) : K μ pc L (.int y :: .int x :: st) := by
  obtain ⟨p, e, s, m, args, below, meth, c0, Q, A0, cells, slots, cR, sR, hx, hb, hml, hown, hts, hK, hI, hN, hA, hcs, hss, rfl, hri, hrv, hrl⟩ := h
  intro H locs ls hP hS hl
  exact lv_icmp_gt hx hb d ht (fun q => kt q H locs ls hP hS hl) (fun q => kf q H locs ls hP hS hl)
theorem gw_if_le (h : gx_K l own cc nL fr lo ret Y Post K) {x : Int32} {off : Int} {tgt : Nat} {a b : Option α} (d : decode cc pc = .ok (.ifCond .le off, 3)) (ht : (pc : Int) + off = (tgt : Int)) (hf : (if x ≤ 0 then a else b) = some rr) (kt : x ≤ 0 → a = some rr → K μ tgt L st) (kf : ¬ (x ≤ 0) → b = some rr → K μ (pc + 3) L st) : K μ pc L (.int x :: st) := by
  obtain ⟨p, e, s, m, args, below, meth, c0, Q, A0, cells, slots, cR, sR, hx, hb, hml, hown, hts, hK, hI, hN, hA, hcs, hss, rfl, hri, hrv, hrl⟩ := h
  intro H locs ls hP hS hl
  exact lv_if_le hx hb d ht (fun q => kt q (gx_pos q hf) H locs ls hP hS hl) (fun q => kf q (gx_neg q hf) H locs ls hP hS hl)
theorem gw_if_le_c (h : gx_K l own cc nL fr lo ret Y Post K) {x : Int32} {off : Int} {tgt : Nat} (d : decode cc pc = .ok (.ifCond .le off, 3)) (ht : (pc : Int) + off = (tgt : Int)) (kt : x ≤ 0 → K μ tgt L st) (kf : ¬ (x ≤ 0) → K μ (pc + 3) L st) : K μ pc L (.int x :: st) := by
  obtain ⟨p, e, s, m, args, below, meth, c0, Q, A0, cells, slots, cR, sR, hx, hb, hml, hown, hts, hK, hI, hN, hA, hcs, hss, rfl, hri, hrv, hrl⟩ := h
  intro H locs ls hP hS hl
  exact lv_if_le hx hb d ht (fun q => kt q H locs ls hP hS hl) (fun q => kf q H locs ls hP hS hl)
theorem gw_icmp_le (h : gx_K l own cc nL fr lo ret Y Post K) {x y : Int32} {off : Int} {tgt : Nat} {a b : Option α} (d : decode cc pc = .ok (.if_icmp .le off, 3)) (ht : (pc : Int) + off = (tgt : Int)) (hf : (if x ≤ y then a else b) = some rr) (kt : x ≤ y → a = some rr → K μ tgt L st) (kf : ¬ (x ≤ y) → b = some rr → K μ (pc + 3) L st) : K μ pc L (.int y :: .int x :: st) := by
  obtain ⟨p, e, s, m, args, below, meth, c0, Q, A0, cells, slots, cR, sR, hx, hb, hml, hown, hts, hK, hI, hN, hA, hcs, hss, rfl, hri, hrv, hrl⟩ := h
  intro H locs ls hP hS hl
  exact lv_icmp_le hx hb d ht (fun q => kt q (gx_pos q hf) H locs ls hP hS hl) (fun q => kf q (gx_neg q hf) H locs ls hP hS hl)
theorem gw_icmp_le_c (h : gx_K l own cc nL fr lo ret Y Post K) {x y : Int32} {off : Int} {tgt : Nat} (d : decode cc pc = .ok (.if_icmp .le off, 3)) (ht : (pc : Int) + off = (tgt : Int)) (kt : x ≤ y → K μ tgt L st) (kf : ¬ (x ≤ y) → K μ (pc + 3) L st) : K μ pc L (.int y :: .int x :: st) := by
  obtain ⟨p, e, s, m, args, below, meth, c0, Q, A0, cells, slots, cR, sR, hx, hb, hml, hown, hts, hK, hI, hN, hA, hcs, hss, rfl, hri, hrv, hrl⟩ := h
  intro H locs ls hP hS hl
  exact lv_icmp_le hx hb d ht (fun q => kt q H locs ls hP hS hl) (fun q => kf q H locs ls hP hS hl)
theorem gw_tblIn (h : gx_K l own cc nL fr lo ret Y Post K) {dflt lo9 hi9 : Int} {offs : Array Int} {len : Nat} {x : Int32} {off : Int} {tgt : Nat} (d : decode cc pc = .ok (.tableswitch dflt lo9 hi9 offs, len)) (h1 : ¬ x.toInt < lo9) (h2 : ¬ hi9 < x.toInt) (ho : offs[(x.toInt - lo9).toNat]? = some off) (ht : (pc : Int) + off = (tgt : Int)) (kk : K μ tgt L st) : K μ pc L (.int x :: st) := by
  obtain ⟨p, e, s, m, args, below, meth, c0, Q, A0, cells, slots, cR, sR, hx, hb, hml, hown, hts, hK, hI, hN, hA, hcs, hss, rfl, hri, hrv, hrl⟩ := h
  intro H locs ls hP hS hl
  exact lv_tableIn hx hb d h1 h2 ho ht (kk H locs ls hP hS hl)
theorem gw_tblOut (h : gx_K l own cc nL fr lo ret Y Post K) {dflt lo9 hi9 : Int} {offs : Array Int} {len : Nat} {x : Int32} {tgt : Nat} (d : decode cc pc = .ok (.tableswitch dflt lo9 hi9 offs, len)) (h1 : x.toInt < lo9 ∨ hi9 < x.toInt) (ht : (pc : Int) + dflt = (tgt : Int)) (kk : K μ tgt L st) : K μ pc L (.int x :: st) := by
  obtain ⟨p, e, s, m, args, below, meth, c0, Q, A0, cells, slots, cR, sR, hx, hb, hml, hown, hts, hK, hI, hN, hA, hcs, hss, rfl, hri, hrv, hrl⟩ := h
  intro H locs ls hP hS hl
  exact lv_tableOut hx hb d h1 ht (kk H locs ls hP hS hl)
theorem gw_get (h : gx_K l own cc nL fr lo ret Y Post K) {kind idx c : Nat} (k : Nat) {C : String} {T : u_T} {N : Nat} {x : Value} (hc : gk_o Y c kind) (h9 : kind < 9) (hcl : vwCl[gx_Ci kind]? = some (C, T, N)) (hin : ∀ w ∈ u_ws C T N, w ∈ gWs) (hkN : k < N) (hkg : k < gx_N kind) (hl9 : Cond.fieldLink own idx (T k).1 (T k).2.1 (T k).2.2.1 ∈ gWs) (hv : gx_fld kind (gy_a Y) c (μ c) k = x) (d : decode cc pc = .ok (.getfield idx, 3)) (kk : K μ (pc + 3) L (x :: st)) : K μ pc L (.ref (gy_a Y c) :: st) := by
  obtain ⟨p, e, s, m, args, below, meth, c0, Q, A0, cells, slots, cR, sR, hx, hb, hml, hown, hts, hK, hI, hN, hA, hcs, hss, rfl, hri, hrv, hrl⟩ := h
  intro H locs ls hP hS hl
  have he : (gx_ws Y μ)[c - gy_o Y]? = some (gy_a Y c, .inr (gx_Ci kind, gx_fs kind (gy_a Y) c (μ c))) := by rw [gx_ws_get hc.1, gx_cell_o hc.2 h9]
  exact va_get (D := gy_D Y) (ci := gx_Ci kind) (v := x) hx hb hts hin hown hK hP (c - gy_o Y) he hcl k hkN (hts _ hl9) (fun _ h9 => h9) (by rw [gx_fs_get hkg, hv]) d (kk H locs ls hP hS hl)
theorem gw_getN (h : gx_K l own cc nL fr lo ret Y Post K) {kind idx c : Nat} (k : Nat) {C : String} {T : u_T} {N : Nat} {x : Value} (hc : gk_o Y c kind) (h9 : kind < 9) (hcl : vwCl[gx_Ci kind]? = some (C, T, N)) (hin : ∀ w ∈ u_ws C T N, w ∈ gWs) (hkN : k < N) (hkg : k < gx_N kind) {host : String} (hl9 : Cond.fieldLinkNest own idx (T k).1 (T k).2.1 (T k).2.2.1 host ∈ gx_nest) (hv : gx_fld kind (gy_a Y) c (μ c) k = x) (d : decode cc pc = .ok (.getfield idx, 3)) (kk : K μ (pc + 3) L (x :: st)) : K μ pc L (.ref (gy_a Y c) :: st) := by
  obtain ⟨p, e, s, m, args, below, meth, c0, Q, A0, cells, slots, cR, sR, hx, hb, hml, hown, hts, hK, hI, hN, hA, hcs, hss, rfl, hri, hrv, hrl⟩ := h
  intro H locs ls hP hS hl
  have he : (gx_ws Y μ)[c - gy_o Y]? = some (gy_a Y c, .inr (gx_Ci kind, gx_fs kind (gy_a Y) c (μ c))) := by rw [gx_ws_get hc.1, gx_cell_o hc.2 h9]
  exact va_getN (D := gy_D Y) (ci := gx_Ci kind) (v := x) hx hb hts hin hown hK hP (c - gy_o Y) he hcl k hkN (va_Nw.use (gx_nest_on _ hl9) (hN _ hl9)) (fun _ h9 => h9) (by rw [gx_fs_get hkg, hv]) d (kk H locs ls hP hS hl)
theorem gw_put (h : gx_K l own cc nL fr lo ret Y Post K) {kind idx c : Nat} (k : Nat) {C : String} {T : u_T} {N : Nat} {v : Int32} (hc : gk_o Y c kind) (h9 : kind < 9) (hcl : vwCl[gx_Ci kind]? = some (C, T, N)) (hin : ∀ w ∈ u_ws C T N, w ∈ gWs) (hkN : k < N) (hkg : k < gx_N kind) (ty0 : Nat → FieldType) (hty : ∀ k, k < N → parseFieldDescriptor (T k).2.2.1 = some (ty0 k)) (hnm : ∀ a, a < N → ∀ b, b < N → a ≠ b → (T a).2.1 ≠ (T b).2.1) (hfin : (T k).2.2.2 = false) {ty : FieldType} (hd9 : parseFieldDescriptor (T k).2.2.1 = some ty) (hn9 : narrow ty (.int v) = .int v) (hft : fits ty (.int v) = true) (hl9 : Cond.fieldLink own idx (T k).1 (T k).2.1 (T k).2.2.1 ∈ gWs) (hv : ∀ (ad : Nat → Nat) (f : Nat → Int32), gx_fld kind ad c f k = .int (f k)) (d : decode cc pc = .ok (.putfield idx, 3)) (kk : K (gx_u μ c k v) (pc + 3) L st) : K μ pc L (.int v :: .ref (gy_a Y c) :: st) := by
  obtain ⟨p, e, s, m, args, below, meth, c0, Q, A0, cells, slots, cR, sR, hx, hb, hml, hown, hts, hK, hI, hN, hA, hcs, hss, rfl, hri, hrv, hrl⟩ := h
  intro H locs ls hP hS hl
  have he : (gx_ws Y μ)[c - gy_o Y]? = some (gy_a Y c, .inr (gx_Ci kind, gx_fs kind (gy_a Y) c (μ c))) := by rw [gx_ws_get hc.1, gx_cell_o hc.2 h9]
  have hD := gx_D (μ := μ) hI hA
  refine va_put (D := gy_D Y) (ci := gx_Ci kind) (v := .int v) hx hb hts hin ty0 hty hnm hown hK hP hD hS (c - gy_o Y) he hcl k hkN (hts _ hl9) (fun _ h9 => h9) hfin hd9 hn9 hft (by rw [gx_fs_len]; exact hkg) d (fun H1 locs1 hP1 hD1 hS1 => ?_)
  have e1 : (gx_ws Y μ).set (c - gy_o Y) (gy_a Y c, .inr (gx_Ci kind, (gx_fs kind (gy_a Y) c (μ c)).set k (.int v))) = gx_ws Y (gx_u μ c k v) := by
    rw [gx_fs_set v hkg (hv _), ← gx_ws_set (μ := μ) (μ' := gx_u μ c k v) hc.1 (fun a ha => gx_u_n ha), gx_cell_o hc.2 h9, gx_u_s]
  rw [e1] at hP1
  exact kk H1 locs1 ls hP1 hS1 hl
theorem gw_iald (h : gx_K l own cc nL fr lo ret Y Post K) {c : Nat} {i : Int32} {a : Option α} (hc : gy_in Y c) (hk : 100 ≤ gy_k Y c) (d : decode cc pc = .ok (.iaload, 1)) (hf : (if gx_ix i (gy_k Y c - 100) = true then a else none) = some rr) (kk : a = some rr → K μ (pc + 1) L (.int (μ c i.toNatClampNeg) :: st)) : K μ pc L (.int i :: .ref (gy_a Y c) :: st) := by
  obtain ⟨p, e, s, m, args, below, meth, c0, Q, A0, cells, slots, cR, sR, hx, hb, hml, hown, hts, hK, hI, hN, hA, hcs, hss, rfl, hri, hrv, hrl⟩ := h
  intro H locs ls hP hS hl
  have ha : (gx_ws Y μ)[c - gy_o Y]? = some (gy_a Y c, .inl (gy_I Y, (gy_k Y c - 100, .inl (μ c)))) := by rw [gx_ws_get hc, gx_cell_a hk]
  exact va_iald (D := gy_D Y) hx hb hK hP (c - gy_o Y) 0 ha rfl (gx_ix_in (gx_must hf).1) d (kk (gx_must hf).2 H locs ls hP hS hl)
theorem gw_iast (h : gx_K l own cc nL fr lo ret Y Post K) {c : Nat} {i x : Int32} {a : Option α} (hc : gy_in Y c) (hk : 100 ≤ gy_k Y c) (d : decode cc pc = .ok (.iastore, 1)) (hf : (if gx_ix i (gy_k Y c - 100) = true then a else none) = some rr) (kk : a = some rr → K (gx_u μ c i.toNatClampNeg x) (pc + 1) L st) : K μ pc L (.int x :: .int i :: .ref (gy_a Y c) :: st) := by
  obtain ⟨p, e, s, m, args, below, meth, c0, Q, A0, cells, slots, cR, sR, hx, hb, hml, hown, hts, hK, hI, hN, hA, hcs, hss, rfl, hri, hrv, hrl⟩ := h
  intro H locs ls hP hS hl
  have ha : (gx_ws Y μ)[c - gy_o Y]? = some (gy_a Y c, .inl (gy_I Y, (gy_k Y c - 100, .inl (μ c)))) := by rw [gx_ws_get hc, gx_cell_a hk]
  have hD := gx_D (μ := μ) hI hA
  refine va_iast (D := gy_D Y) hx hb hK hP hD hS (c - gy_o Y) 0 ha rfl (gx_ix_in (gx_must hf).1) d (fun H1 locs1 hP1 hD1 hS1 => ?_)
  have e1 : (gx_ws Y μ).set (c - gy_o Y) (gy_a Y c, .inl (gy_I Y, (gy_k Y c - 100, .inl (upd (μ c) i.toNatClampNeg x)))) = gx_ws Y (gx_u μ c i.toNatClampNeg x) := by
    rw [← gx_ws_set (μ := μ) (μ' := gx_u μ c i.toNatClampNeg x) hc (fun a ha => gx_u_n ha), gx_cell_a hk, gx_u_s]
  rw [e1] at hP1
  exact kk (gx_must hf).2 H1 locs1 ls hP1 hS1 hl
theorem gw_alen (h : gx_K l own cc nL fr lo ret Y Post K) {c : Nat} (hc : gy_in Y c) (hk : 100 ≤ gy_k Y c) (d : decode cc pc = .ok (.arraylength, 1)) (kk : K μ (pc + 1) L (.int (nI (gy_k Y c - 100)) :: st)) : K μ pc L (.ref (gy_a Y c) :: st) := by
  obtain ⟨p, e, s, m, args, below, meth, c0, Q, A0, cells, slots, cR, sR, hx, hb, hml, hown, hts, hK, hI, hN, hA, hcs, hss, rfl, hri, hrv, hrl⟩ := h
  intro H locs ls hP hS hl
  have ha : (gx_ws Y μ)[c - gy_o Y]? = some (gy_a Y c, .inl (gy_I Y, (gy_k Y c - 100, .inl (μ c)))) := by rw [gx_ws_get hc, gx_cell_a hk]
  exact va_alen (D := gy_D Y) hx hb hK hP (c - gy_o Y) 0 ha rfl rfl d (kk H locs ls hP hS hl)
theorem gw_lald (h : gx_K l own cc nL fr lo ret Y Post K) {c : Nat} {i : Int32} {a : Option α} (hc : gk_o Y c 10) (d : decode cc pc = .ok (.laload, 1)) (hf : (if gx_ix i 32 = true then a else none) = some rr) (kk : a = some rr → K μ (pc + 1) L (.long (gx_lng (μ c) i.toNatClampNeg) :: st)) : K μ pc L (.int i :: .ref (gy_a Y c) :: st) := by
  obtain ⟨p, e, s, m, args, below, meth, c0, Q, A0, cells, slots, cR, sR, hx, hb, hml, hown, hts, hK, hI, hN, hA, hcs, hss, rfl, hri, hrv, hrl⟩ := h
  intro H locs ls hP hS hl
  have ha : (gx_ws Y μ)[c - gy_o Y]? = some (gy_a Y c, .inl (gy_J Y, (32, .inr (.inl (gx_lng (μ c)))))) := by rw [gx_ws_get hc.1, gx_cell_l hc.2]
  exact va_lald (D := gy_D Y) hx hb hK hP (c - gy_o Y) 2 ha rfl (gx_ix_in (gx_must hf).1) d (kk (gx_must hf).2 H locs ls hP hS hl)
theorem gw_last (h : gx_K l own cc nL fr lo ret Y Post K) {c : Nat} {i : Int32} {x : Int64} {a : Option α} (hc : gk_o Y c 10) (d : decode cc pc = .ok (.lastore, 1)) (hf : (if gx_ix i 32 = true then a else none) = some rr) (kk : a = some rr → K (gx_ul μ c i.toNatClampNeg x) (pc + 1) L st) : K μ pc L (.long x :: .int i :: .ref (gy_a Y c) :: st) := by
  obtain ⟨p, e, s, m, args, below, meth, c0, Q, A0, cells, slots, cR, sR, hx, hb, hml, hown, hts, hK, hI, hN, hA, hcs, hss, rfl, hri, hrv, hrl⟩ := h
  intro H locs ls hP hS hl
  have ha : (gx_ws Y μ)[c - gy_o Y]? = some (gy_a Y c, .inl (gy_J Y, (32, .inr (.inl (gx_lng (μ c)))))) := by rw [gx_ws_get hc.1, gx_cell_l hc.2]
  have hD := gx_D (μ := μ) hI hA
  refine va_last (D := gy_D Y) hx hb hK hP hD hS (c - gy_o Y) 2 ha rfl (gx_ix_in (gx_must hf).1) d (fun H1 locs1 hP1 hD1 hS1 => ?_)
  have e1 : (gx_ws Y μ).set (c - gy_o Y) (gy_a Y c, .inl (gy_J Y, (32, .inr (.inl (va_up (gx_lng (μ c)) i.toNatClampNeg x))))) = gx_ws Y (gx_ul μ c i.toNatClampNeg x) := by
    rw [← gx_ws_set (μ := μ) (μ' := gx_ul μ c i.toNatClampNeg x) hc.1 (fun a ha => by unfold gx_ul; rw [gx_u_n ha, gx_u_n ha]), gx_cell_l hc.2, gx_ul_s]
  rw [e1] at hP1
  exact kk (gx_must hf).2 H1 locs1 ls hP1 hS1 hl
theorem gw_tald (h : gx_K l own cc nL fr lo ret Y Post K) {c : Nat} {i : Int32} (hc : gk_o Y c 9) (hin : vp_in i 5) (d : decode cc pc = .ok (.aaload, 1)) (kk : K μ (pc + 1) L (.ref (gy_a Y (c + 1 + 25 * i.toNatClampNeg)) :: st)) : K μ pc L (.int i :: .ref (gy_a Y c) :: st) := by
  obtain ⟨p, e, s, m, args, below, meth, c0, Q, A0, cells, slots, cR, sR, hx, hb, hml, hown, hts, hK, hI, hN, hA, hcs, hss, rfl, hri, hrv, hrl⟩ := h
  intro H locs ls hP hS hl
  have ha : (gx_ws Y μ)[c - gy_o Y]? = some (gy_a Y c, .inl (gy_T Y, (5, .inr (.inr (.inr (.inr (fun i => some (gy_a Y (c + 1 + 25 * i))))))))) := by rw [gx_ws_get hc.1, gx_cell_t hc.2]
  exact va_aldq (D := gy_D Y) hx hb hK hP (c - gy_o Y) 1 ha rfl hin d (kk H locs ls hP hS hl)
theorem gw_tlen (h : gx_K l own cc nL fr lo ret Y Post K) {c : Nat} (hc : gk_o Y c 9) (d : decode cc pc = .ok (.arraylength, 1)) (kk : K μ (pc + 1) L (.int 5 :: st)) : K μ pc L (.ref (gy_a Y c) :: st) := by
  obtain ⟨p, e, s, m, args, below, meth, c0, Q, A0, cells, slots, cR, sR, hx, hb, hml, hown, hts, hK, hI, hN, hA, hcs, hss, rfl, hri, hrv, hrl⟩ := h
  intro H locs ls hP hS hl
  have ha : (gx_ws Y μ)[c - gy_o Y]? = some (gy_a Y c, .inl (gy_T Y, (5, .inr (.inr (.inr (.inr (fun i => some (gy_a Y (c + 1 + 25 * i))))))))) := by rw [gx_ws_get hc.1, gx_cell_t hc.2]
  exact va_alen (D := gy_D Y) hx hb hK hP (c - gy_o Y) 1 ha rfl (show Int32.ofNat 5 = 5 by decide) d (kk H locs ls hP hS hl)
theorem gw_mmax (h : gx_K l own cc nL fr lo ret Y Post K) {idx : Nat} {x y : Int32} (k1 : Cond.methodLink own idx Lib.Math.max.name ∈ gWs) (d : decode cc pc = .ok (.invokestatic idx, 3)) (hfr : 1 ≤ fr) (hlo : (st.map fun v => v.category).sum + 13 ≤ lo) (kk : K μ (pc + 3) L (.int (if x < y then y else x) :: st)) : K μ pc L (.int y :: .int x :: st) := by
  obtain ⟨p, e, s, m, args, below, meth, c0, Q, A0, cells, slots, cR, sR, hx, hb, hml, hown, hts, hK, hI, hN, hA, hcs, hss, rfl, hri, hrv, hrl⟩ := h
  intro H locs ls hP hS hl
  exact va_mmax hx hb (hml.trans hl.1.symm) hown (hts _ k1) (hts _ kw_st_max) (hts _ kw_in_RJ9) (hts _ kw_co_max) hfr hlo hcs hss d (kk H locs ls hP hS hl)
theorem gw_mmin (h : gx_K l own cc nL fr lo ret Y Post K) {idx : Nat} {x y : Int32} (k1 : Cond.methodLink own idx Lib.Math.min.name ∈ gWs) (d : decode cc pc = .ok (.invokestatic idx, 3)) (hfr : 1 ≤ fr) (hlo : (st.map fun v => v.category).sum + 13 ≤ lo) (kk : K μ (pc + 3) L (.int (if y < x then y else x) :: st)) : K μ pc L (.int y :: .int x :: st) := by
  obtain ⟨p, e, s, m, args, below, meth, c0, Q, A0, cells, slots, cR, sR, hx, hb, hml, hown, hts, hK, hI, hN, hA, hcs, hss, rfl, hri, hrv, hrl⟩ := h
  intro H locs ls hP hS hl
  exact va_mmin hx hb (hml.trans hl.1.symm) hown (hts _ k1) (hts _ kw_st_min) (hts _ kw_in_RJ9) (hts _ kw_co_min) hfr hlo hcs hss d (kk H locs ls hP hS hl)
theorem gw_mabs (h : gx_K l own cc nL fr lo ret Y Post K) {idx : Nat} {x : Int32} (k1 : Cond.methodLink own idx Lib.Math.abs.name ∈ gWs) (d : decode cc pc = .ok (.invokestatic idx, 3)) (hfr : 1 ≤ fr) (hlo : (st.map fun v => v.category).sum + 13 ≤ lo) (kk : K μ (pc + 3) L (.int (if 0 ≤ x then x else 0 - x) :: st)) : K μ pc L (.int x :: st) := by
  obtain ⟨p, e, s, m, args, below, meth, c0, Q, A0, cells, slots, cR, sR, hx, hb, hml, hown, hts, hK, hI, hN, hA, hcs, hss, rfl, hri, hrv, hrl⟩ := h
  intro H locs ls hP hS hl
  exact va_mabs hx hb (hml.trans hl.1.symm) hown (hts _ k1) (hts _ kw_st_abs) (hts _ kw_in_RJ9) (hts _ kw_co_abs) hfr hlo hcs hss d (kk H locs ls hP hS hl)
theorem gw_copy (h : gx_K l own cc nL fr lo ret Y Post K) {idx ca c : Nat} {n : Int32} {a : Option α} (hca : gy_in Y ca) (hka : 100 ≤ gy_k Y ca) (hc : gy_in Y c) (hk : 100 ≤ gy_k Y c) (k1 : Cond.methodLink own idx arraycopyName ∈ gWs) (d : decode cc pc = .ok (.invokestatic idx, 3)) (hfr : 1 ≤ fr) (hlo : (st.map fun v => v.category).sum + (nativeFrameWords "java/lang/System" "arraycopy" 5 + 11) ≤ lo) (hf : (if ¬ n < 0 ∧ n.toNatClampNeg ≤ gy_k Y ca - 100 ∧ n.toNatClampNeg ≤ gy_k Y c - 100 then a else none) = some rr) (kk : a = some rr → K (gx_r μ c (va_cpy (μ ca) (μ c) 0 0 n.toNatClampNeg)) (pc + 3) L st) : K μ pc L (.int n :: .int 0 :: .ref (gy_a Y c) :: .int 0 :: .ref (gy_a Y ca) :: st) := by
  obtain ⟨p, e, s, m, args, below, meth, c0, Q, A0, cells, slots, cR, sR, hx, hb, hml, hown, hts, hK, hI, hN, hA, hcs, hss, rfl, hri, hrv, hrl⟩ := h
  intro H locs ls hP hS hl
  have ha0 : (gx_ws Y μ)[ca - gy_o Y]? = some (gy_a Y ca, .inl (gy_I Y, (gy_k Y ca - 100, .inl (μ ca)))) := by rw [gx_ws_get hca, gx_cell_a hka]
  have ha : (gx_ws Y μ)[c - gy_o Y]? = some (gy_a Y c, .inl (gy_I Y, (gy_k Y c - 100, .inl (μ c)))) := by rw [gx_ws_get hc, gx_cell_a hk]
  have hD := gx_D (μ := μ) hI hA
  obtain ⟨⟨q1, q2, q3⟩, hf⟩ := gx_must hf
  refine va_copyi (D := gy_D Y) hx hb (hml.trans hl.1.symm) hown (hts _ k1) (hts _ kw_na_copy) (hts _ kw_st_copy) (hts _ kw_in_RJ10) hK hP hD hS (ca - gy_o Y) (c - gy_o Y) 0 0 ha0 ha rfl rfl rfl (by decide) (by decide) q1 (by simpa using q2) (by simpa using q3) (fun i _ => rfl) hfr hlo d (fun H1 locs1 hP1 hD1 hS1 => ?_)
  have e1 : (gx_ws Y μ).set (c - gy_o Y) (gy_a Y c, .inl (gy_I Y, (gy_k Y c - 100, .inl (va_cpy (μ ca) (μ c) (0 : Int32).toNatClampNeg (0 : Int32).toNatClampNeg n.toNatClampNeg)))) = gx_ws Y (gx_r μ c (va_cpy (μ ca) (μ c) 0 0 n.toNatClampNeg)) := by
    rw [← gx_ws_set (μ := μ) (μ' := gx_r μ c (va_cpy (μ ca) (μ c) 0 0 n.toNatClampNeg)) hc (fun a ha => gx_r_n ha), gx_cell_a hk, gx_r_s]
    rfl
  rw [e1] at hP1
  exact kk hf H1 locs1 ls hP1 hS1 hl
theorem gw_callV (h : gx_K l own cc nL fr lo ret Y Post K) {idx : Nat} {y : MethodName} {bytes : ByteArray} {maxL : Nat} {retC : Option FieldType} {frC loC : Nat} {As : List Value} {q : Int32 × gx_M} {c kind : Nat} {C : String} {T : u_T} {N : Nat} (hc : gk_o Y c kind) (h9 : kind < 9) (hcl : vwCl[gx_Ci kind]? = some (C, T, N)) (hy : y.cls = C ∧ y.cls ≠ "java/lang/invoke/MethodHandle" ∧ y.cls ≠ "java/lang/invoke/VarHandle" ∧ (parseMethodDescriptor y.desc).map (fun d => d.parameters.length) = some As.length) (k1 : Cond.methodLink own idx y ∈ gWs) (k2 : Cond.instanceMethod y ∈ gWs) (k3 : Cond.selects C y y ∈ gWs) (k4 : Cond.initialized C ∈ gWs) (k5 : Cond.code y bytes maxL retC ∈ gWs) (hR : frC + 1 ≤ fr ∧ 8 + (maxL + 11) + loC ≤ lo) (hst : (st.map fun v => v.category).sum ≤ 8) (d : decode cc pc = .ok (.invokevirtual idx, 3)) (hM : gx_Con l y bytes maxL retC frC loC Y (.ref (gy_a Y c) :: As) μ q) (kk : K q.2 (pc + 3) L (gx_pu retC q.1 st)) : K μ pc L (As.reverse ++ .ref (gy_a Y c) :: st) := by
  obtain ⟨p, e, s, m, args, below, meth, c0, Q, A0, cells, slots, cR, sR, hx, hb, hml, hown, hts, hK, hI, hN, hA, hcs, hss, rfl, hri, hrv, hrl⟩ := h
  intro H locs ls hP hS hl
  have he : (gx_ws Y μ)[c - gy_o Y]? = some (gy_a Y c, .inr (gx_Ci kind, gx_fs kind (gy_a Y) c (μ c))) := by rw [gx_ws_get hc.1, gx_cell_o hc.2 h9]
  have hG : GoodIn gWs (wsV own idx C y (gx_Ws y bytes maxL retC)) := gWs_self (fun w hw => by
    simp only [wsV, gx_Ws, List.cons_append, List.nil_append, List.mem_cons] at hw
    rcases hw with rfl | rfl | rfl | rfl | rfl | hw
    · exact k1
    · exact k2
    · exact k3
    · exact k4
    · exact k5
    · exact hw)
  have hrun := va_runV (l := l) (R := { frames := fr, cells := cR, slots := sR, locals := lo }) (below := below) (meth := meth) (e := e) (locs := locs) (cells := cells) (slots := slots) (g := F0 m pc ls (As.reverse ++ .ref (gy_a Y c) :: st)) (As := As) (rest := st) ⟨hx, hb, hml, hown, hts⟩ hM (cwV As.length hts hG rfl rfl rfl hy hR) ⟨gx_W_blind, va_recv hK hP hcl he, fun U hU hW => ⟨rfl, by rw [hU]; exact hP, va_K.moved hW.alike hK, hI, gx_nest_warm hW hN⟩⟩ rfl rfl hl.1 rfl (lv_room (pc := pc) (m := m) (ls := ls) (rest := As.reverse ++ .ref (gy_a Y c) :: st) hst) d ⟨hcs, hss⟩
  cases retC with
  | none => exact va_callv (post := fun _ : Unit => True) (B := fun _ t => gx_W Y q.2 t) (A1 := gx_A Y) (a := (Value.ref (gy_a Y c) :: As).toArray) hrun hS (fun q _ hq => hA q hq) hA (fun u t H1 locs1 ht hvm hw hB hz1 hk1 hS1 => kk H1 locs1 ls (by rw [← ht]; exact hB.1) hS1 hl)
  | some ty => exact va_calli (post := fun r (_ : Unit) => r = q.1) (B := fun _ t => gx_W Y q.2 t) (A1 := gx_A Y) (a := (Value.ref (gy_a Y c) :: As).toArray) hrun hS (fun q _ hq => hA q hq) hA (fun r u t H1 locs1 ht hvm hw hB hz1 hk1 hS1 => by rw [hw]; exact kk H1 locs1 ls (by rw [← ht]; exact hB.1) hS1 hl)
theorem gw_callS (h : gx_K l own cc nL fr lo ret Y Post K) {idx : Nat} {y : MethodName} {bytes : ByteArray} {maxL : Nat} {retC : Option FieldType} {frC loC : Nat} {As : List Value} {q : Int32 × gx_M} (hy : y.cls = own ∧ y.cls ≠ "java/lang/invoke/MethodHandle" ∧ y.cls ≠ "java/lang/invoke/VarHandle" ∧ (parseMethodDescriptor y.desc).map (fun d => d.parameters.length) = some As.length) (k1 : Cond.methodLink own idx y ∈ gWs) (k2 : Cond.static y ∈ gWs) (k4 : Cond.initialized own ∈ gWs) (k5 : Cond.code y bytes maxL retC ∈ gWs) (hR : frC + 1 ≤ fr ∧ 8 + (maxL + 11) + loC ≤ lo) (hst : (st.map fun v => v.category).sum ≤ 8) (d : decode cc pc = .ok (.invokestatic idx, 3)) (hM : gx_Con l y bytes maxL retC frC loC Y As μ q) (kk : K q.2 (pc + 3) L (gx_pu retC q.1 st)) : K μ pc L (As.reverse ++ st) := by
  obtain ⟨p, e, s, m, args, below, meth, c0, Q, A0, cells, slots, cR, sR, hx, hb, hml, hown, hts, hK, hI, hN, hA, hcs, hss, rfl, hri, hrv, hrl⟩ := h
  intro H locs ls hP hS hl
  have hG : GoodIn gWs (wsS own idx y (gx_Ws y bytes maxL retC)) := gWs_self (fun w hw => by
    simp only [wsS, gx_Ws, List.cons_append, List.nil_append, List.mem_cons] at hw
    rcases hw with rfl | rfl | rfl | rfl | hw
    · exact k1
    · exact k2
    · exact k4
    · exact k5
    · exact hw)
  have hrun := va_runS (l := l) (R := { frames := fr, cells := cR, slots := sR, locals := lo }) (below := below) (meth := meth) (e := e) (locs := locs) (cells := cells) (slots := slots) (g := F0 m pc ls (As.reverse ++ st)) (As := As) (rest := st) ⟨hx, hb, hml, hown, hts⟩ hM (cwS As.length hts hG rfl rfl rfl hy hR) ⟨gx_W_blind, fun U hU hW => ⟨rfl, by rw [hU]; exact hP, va_K.moved hW.alike hK, hI, gx_nest_warm hW hN⟩⟩ rfl rfl hl.1 rfl (lv_room (pc := pc) (m := m) (ls := ls) (rest := As.reverse ++ st) hst) d ⟨hcs, hss⟩
  cases retC with
  | none => exact va_callv (post := fun _ : Unit => True) (B := fun _ t => gx_W Y q.2 t) (A1 := gx_A Y) (a := As.toArray) hrun hS (fun q _ hq => hA q hq) hA (fun u t H1 locs1 ht hvm hw hB hz1 hk1 hS1 => kk H1 locs1 ls (by rw [← ht]; exact hB.1) hS1 hl)
  | some ty => exact va_calli (post := fun r (_ : Unit) => r = q.1) (B := fun _ t => gx_W Y q.2 t) (A1 := gx_A Y) (a := As.toArray) hrun hS (fun q _ hq => hA q hq) hA (fun r u t H1 locs1 ht hvm hw hB hz1 hk1 hS1 => by rw [hw]; exact kk H1 locs1 ls (by rw [← ht]; exact hB.1) hS1 hl)
theorem gw_callSL (h : gx_K l own cc nL fr lo ret Y Post K) {idx : Nat} {y : MethodName} {bytes : ByteArray} {maxL : Nat} {frC loC : Nat} {As : List Value} {q : Int64 × gx_M} (hy : y.cls = own ∧ y.cls ≠ "java/lang/invoke/MethodHandle" ∧ y.cls ≠ "java/lang/invoke/VarHandle" ∧ (parseMethodDescriptor y.desc).map (fun d => d.parameters.length) = some As.length) (k1 : Cond.methodLink own idx y ∈ gWs) (k2 : Cond.static y ∈ gWs) (k4 : Cond.initialized own ∈ gWs) (k5 : Cond.code y bytes maxL (some .long) ∈ gWs) (hR : frC + 1 ≤ fr ∧ 8 + (maxL + 11) + loC ≤ lo) (hst : (st.map fun v => v.category).sum ≤ 8) (d : decode cc pc = .ok (.invokestatic idx, 3)) (hM : gx_ConL l y bytes maxL frC loC Y As μ q) (kk : K q.2 (pc + 3) L (.long q.1 :: st)) : K μ pc L (As.reverse ++ st) := by
  obtain ⟨p, e, s, m, args, below, meth, c0, Q, A0, cells, slots, cR, sR, hx, hb, hml, hown, hts, hK, hI, hN, hA, hcs, hss, rfl, hri, hrv, hrl⟩ := h
  intro H locs ls hP hS hl
  have hG : GoodIn gWs (wsS own idx y (gx_Ws y bytes maxL (some .long))) := gWs_self (fun w hw => by
    simp only [wsS, gx_Ws, List.cons_append, List.nil_append, List.mem_cons] at hw
    rcases hw with rfl | rfl | rfl | rfl | hw
    · exact k1
    · exact k2
    · exact k4
    · exact k5
    · exact hw)
  have hrun := va_runS (l := l) (R := { frames := fr, cells := cR, slots := sR, locals := lo }) (below := below) (meth := meth) (e := e) (locs := locs) (cells := cells) (slots := slots) (g := F0 m pc ls (As.reverse ++ st)) (As := As) (rest := st) ⟨hx, hb, hml, hown, hts⟩ hM (cwS As.length hts hG rfl rfl rfl hy hR) ⟨gx_W_blind, fun U hU hW => ⟨rfl, by rw [hU]; exact hP, va_K.moved hW.alike hK, hI, gx_nest_warm hW hN⟩⟩ rfl rfl hl.1 rfl (lv_room (pc := pc) (m := m) (ls := ls) (rest := As.reverse ++ st) hst) d ⟨hcs, hss⟩
  exact va_calll (post := fun r (_ : Unit) => r = q.1) (B := fun _ t => gx_W Y q.2 t) (A1 := gx_A Y) (a := As.toArray) hrun hS (fun q _ hq => hA q hq) hA (fun r u t H1 locs1 ht hvm hw hB hz1 hk1 hS1 => by rw [hw]; exact kk H1 locs1 ls (by rw [← ht]; exact hB.1) hS1 hl)
theorem gw_callSN (h : gx_K l own cc nL fr lo ret Y Post K) {idx : Nat} {y : MethodName} {bytes : ByteArray} {maxL : Nat} {retC : Option FieldType} {frC loC : Nat} {As : List Value} {q : Int32 × gx_M} {host : String} (hy : y.cls ≠ "java/lang/invoke/MethodHandle" ∧ y.cls ≠ "java/lang/invoke/VarHandle" ∧ (parseMethodDescriptor y.desc).map (fun d => d.parameters.length) = some As.length) (k1 : Cond.methodLinkNest own idx y host ∈ gx_nest) (k2 : Cond.static y ∈ gWs) (k4 : Cond.initialized y.cls ∈ gWs) (k5 : Cond.code y bytes maxL retC ∈ gWs) (hR : frC + 1 ≤ fr ∧ 8 + (maxL + 11) + loC ≤ lo) (hst : (st.map fun v => v.category).sum ≤ 8) (d : decode cc pc = .ok (.invokestatic idx, 3)) (hM : gx_Con l y bytes maxL retC frC loC Y As μ q) (kk : K q.2 (pc + 3) L (gx_pu retC q.1 st)) : K μ pc L (As.reverse ++ st) := by
  obtain ⟨p, e, s, m, args, below, meth, c0, Q, A0, cells, slots, cR, sR, hx, hb, hml, hown, hts, hK, hI, hN, hA, hcs, hss, rfl, hri, hrv, hrl⟩ := h
  intro H locs ls hP hS hl
  have hG : GoodIn gWs (gx_Ws y bytes maxL retC) := gWs_self (fun w hw => by
    rcases List.mem_cons.mp hw with rfl | hw
    · exact k5
    · exact hw)
  have hrun := va_runSN (l := l) (R := { frames := fr, cells := cR, slots := sR, locals := lo }) (below := below) (meth := meth) (e := e) (locs := locs) (cells := cells) (slots := slots) (g := F0 m pc ls (As.reverse ++ st)) (As := As) (rest := st) ⟨hx, hb, hml, hown, hts⟩ hM ⟨va_cnB As.length hts hG rfl rfl rfl (hN _ k1) (hts _ k4) hy hR, hts _ k2, trivial⟩ ⟨gx_W_blind, fun U hU hW => ⟨rfl, by rw [hU]; exact hP, va_K.moved hW.alike hK, hI, gx_nest_warm hW hN⟩⟩ rfl rfl hl.1 rfl (lv_room (pc := pc) (m := m) (ls := ls) (rest := As.reverse ++ st) hst) d ⟨hcs, hss⟩
  cases retC with
  | none => exact va_callv (post := fun _ : Unit => True) (B := fun _ t => gx_W Y q.2 t) (A1 := gx_A Y) (a := As.toArray) hrun hS (fun q _ hq => hA q hq) hA (fun u t H1 locs1 ht hvm hw hB hz1 hk1 hS1 => kk H1 locs1 ls (by rw [← ht]; exact hB.1) hS1 hl)
  | some ty => exact va_calli (post := fun r (_ : Unit) => r = q.1) (B := fun _ t => gx_W Y q.2 t) (A1 := gx_A Y) (a := As.toArray) hrun hS (fun q _ hq => hA q hq) hA (fun r u t H1 locs1 ht hvm hw hB hz1 hk1 hS1 => by rw [hw]; exact kk H1 locs1 ls (by rw [← ht]; exact hB.1) hS1 hl)
theorem gw_ret_i (h : gx_K l own cc nL fr lo (some .int) Y Post K) {v : Int32} (d : decode cc pc = .ok (.ireturn, 1)) (hp : Post (.int v) μ) : K μ pc L [.int v] := by
  obtain ⟨p, e, s, m, args, below, meth, c0, Q, A0, cells, slots, cR, sR, hx, hb, hml, hown, hts, hK, hI, hN, hA, hcs, hss, hKe, hri, hrv, hrl⟩ := h
  exact hri μ pc L v .int rfl rfl d hp
theorem gw_ret_z (h : gx_K l own cc nL fr lo (some .boolean) Y Post K) {v : Int32} (d : decode cc pc = .ok (.ireturn, 1)) (hn : narrow .boolean (.int v) = .int v) (hp : Post (.int v) μ) : K μ pc L [.int v] := by
  obtain ⟨p, e, s, m, args, below, meth, c0, Q, A0, cells, slots, cR, sR, hx, hb, hml, hown, hts, hK, hI, hN, hA, hcs, hss, hKe, hri, hrv, hrl⟩ := h
  exact hri μ pc L v .boolean rfl hn d hp
theorem gw_ret_v (h : gx_K l own cc nL fr lo none Y Post K) (d : decode cc pc = .ok (.return_, 1)) (hp : Post (.int 0) μ) : K μ pc L [] := by
  obtain ⟨p, e, s, m, args, below, meth, c0, Q, A0, cells, slots, cR, sR, hx, hb, hml, hown, hts, hK, hI, hN, hA, hcs, hss, hKe, hri, hrv, hrl⟩ := h
  exact hrv μ pc L rfl d hp
theorem gw_ret_l (h : gx_K l own cc nL fr lo (some .long) Y Post K) {v : Int64} (d : decode cc pc = .ok (.lreturn, 1)) (hp : Post (.long v) μ) : K μ pc L [.long v] := by
  obtain ⟨p, e, s, m, args, below, meth, c0, Q, A0, cells, slots, cR, sR, hx, hb, hml, hown, hts, hK, hI, hN, hA, hcs, hss, hKe, hri, hrv, hrl⟩ := h
  exact hrl μ pc L v rfl d hp
/-- the world looks at the cells that are there, no further -/
def gx_len (Y : gx_Y) (c : Nat) : Nat := if gy_k Y c < 9 then gx_N (gy_k Y c) else if gy_k Y c = 10 then 64 else gy_k Y c - 100
theorem gx_ws_same {Y : gx_Y} {μ μ' : gx_M} {H : Heap} (hP : va_P (gy_D Y) vwCl (gx_ws Y μ) H) (h : ∀ c, gy_in Y c → ∀ j, j < gx_len Y c → μ' c j = μ c j) : va_P (gy_D Y) vwCl (gx_ws Y μ') H := by
  intro k q hq
  obtain ⟨h1, rfl⟩ := gx_ws_inv hq
  have h2 := hP k _ (gx_ws_at h1)
  have hh := h (k + gy_o Y) ⟨by omega, by omega⟩
  unfold gx_len at hh
  unfold gx_cell at h2 ⊢
  by_cases c1 : gy_k Y (k + gy_o Y) < 9
  · rw [if_pos c1] at h2 ⊢
    rw [if_pos c1] at hh
    have e : gx_fs (gy_k Y (k + gy_o Y)) (gy_a Y) (k + gy_o Y) (μ' (k + gy_o Y)) = gx_fs (gy_k Y (k + gy_o Y)) (gy_a Y) (k + gy_o Y) (μ (k + gy_o Y)) := by
      unfold gx_fs
      refine List.map_congr_left (fun j hj => gx_fld_dep _ _ _ (hh j (List.mem_range.mp hj)))
    rw [e]
    exact h2
  · rw [if_neg c1] at h2 ⊢
    rw [if_neg c1] at hh
    by_cases c2 : gy_k Y (k + gy_o Y) = 9
    · rw [if_pos c2] at h2 ⊢
      exact h2
    · rw [if_neg c2] at h2 ⊢
      by_cases c3 : gy_k Y (k + gy_o Y) = 10
      · rw [if_pos c3] at h2 ⊢
        rw [if_pos c3] at hh
        exact gx_at_long (fun i hi => by unfold gx_lng; rw [hh _ (by omega), hh _ (by omega)]) h2
      · rw [if_neg c3] at h2 ⊢
        rw [if_neg c3] at hh
        exact gx_at_int hh h2
theorem gw_same (h : gx_K l own cc nL fr lo ret Y Post K) {μ' : gx_M} (hm : ∀ c, gy_in Y c → ∀ j, j < gx_len Y c → μ' c j = μ c j) (kk : K μ' pc L st) : K μ pc L st := by
  obtain ⟨p, e, s, m, args, below, meth, c0, Q, A0, cells, slots, cR, sR, hx, hb, hml, hown, hts, hK, hI, hN, hA, hcs, hss, rfl, hri, hrv, hrl⟩ := h
  intro H locs ls hP hS hl
  exact kk H locs ls (gx_ws_same hP hm) hS hl
end GXR
end
