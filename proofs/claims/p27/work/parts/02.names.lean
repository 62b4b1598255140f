/-! ===== BEGIN words of one list among another's, by their places ===== -/
theorem goodIn_r {big : List Cond} (ws : List Cond) (ps : List Nat) (hp : ws = ps.filterMap (fun i => big[i]?)) (h : ws.all goodWord = true) : GoodIn big ws := by
  intro w hw
  have h1 := List.all_eq_true.mp h w hw
  rw [hp] at hw
  obtain ⟨i, -, hi⟩ := List.mem_filterMap.mp hw
  have hm : w ∈ big := by first | exact List.mem_of_getElem? hi | exact List.getElem?_mem hi
  exact ⟨hm, good_of_word h1⟩
theorem goodIn_app {big a b : List Cond} (ha : GoodIn big a) (hb : GoodIn big b) : GoodIn big (a ++ b) := fun w h => (List.mem_append.mp h).elim (ha w) (hb w)
theorem goodIn_ca {big a b : List Cond} {c : Cond} (ha : GoodIn big (c :: a)) (hb : GoodIn big b) : GoodIn big (c :: (a ++ b)) := fun w h => (List.mem_cons.mp h).elim (fun e => ha w (List.mem_cons.mpr (Or.inl e))) (fun h => (List.mem_append.mp h).elim (fun h => ha w (List.mem_cons.mpr (Or.inr h))) (hb w))
theorem goodIn_sub {big ws : List Cond} (hm : ∀ w ∈ ws, w ∈ big) (h : ws.all goodWord = true) : GoodIn big ws := fun w hw => ⟨hm w hw, good_of_word (List.all_eq_true.mp h w hw)⟩
/-! ===== END ===== -/

/-! ===== BEGIN printed: names, fields, word lists, decode rows ===== -/
def RX0 : String := "SlatCrates$History"
def TX0 : u_T := fun k => match k with
  | 0 => ("SlatCrates$History", "states", "[LSlatCrates$Stock;", true)
  | _ => ("SlatCrates$History", "length", "I", false)
def tyX0 : Nat → FieldType := fun k => match k with
  | 0 => .array (.object "SlatCrates$Stock")
  | _ => .int
abbrev wsX00 : List Cond := u_ws RX0 TX0 2
theorem nmX0 : ∀ a, a < 2 → ∀ b, b < 2 → a ≠ b → (TX0 a).2.1 ≠ (TX0 b).2.1 := by decide +kernel
theorem tyX0_ok : ∀ k, k < 2 → parseFieldDescriptor (TX0 k).2.2.1 = some (tyX0 k) := by decide +kernel
abbrev cX0_init : ByteArray := prog_2_method_1_code
def yX0_init : MethodName := ⟨RX0, "<init>", "()V"⟩
abbrev cX0_length : ByteArray := prog_2_method_2_code
def yX0_length : MethodName := ⟨RX0, "length", "()I"⟩
abbrev cX0_keep : ByteArray := prog_2_method_3_code
def yX0_keep : MethodName := ⟨RX0, "keep", "(LSlatCrates$Stock;)V"⟩
abbrev cX0_dropOldest : ByteArray := prog_2_method_4_code
def yX0_dropOldest : MethodName := ⟨RX0, "dropOldest", "()V"⟩
abbrev cX0_takeBack : ByteArray := prog_2_method_5_code
def yX0_takeBack : MethodName := ⟨RX0, "takeBack", "(LSlatCrates$Stock;)V"⟩
def RX1 : String := "SlatCrates$LooseNest"
def TX1 : u_T := fun k => match k with
  | 0 => ("SlatCrates$LooseNest", "lengthRow", "[I", true)
  | 1 => ("SlatCrates$LooseNest", "nestRow", "[I", true)
  | _ => ("SlatCrates$LooseNest", "length", "I", false)
def tyX1 : Nat → FieldType := fun k => match k with
  | 0 => .array .int
  | 1 => .array .int
  | _ => .int
abbrev wsX10 : List Cond := u_ws RX1 TX1 3
theorem nmX1 : ∀ a, a < 3 → ∀ b, b < 3 → a ≠ b → (TX1 a).2.1 ≠ (TX1 b).2.1 := by decide +kernel
theorem tyX1_ok : ∀ k, k < 3 → parseFieldDescriptor (TX1 k).2.2.1 = some (tyX1 k) := by decide +kernel
abbrev cX1_init : ByteArray := prog_3_method_1_code
def yX1_init : MethodName := ⟨RX1, "<init>", "()V"⟩
abbrev cX1_find : ByteArray := prog_3_method_2_code
def yX1_find : MethodName := ⟨RX1, "find", "(LSlatCrates$Stock;)I"⟩
abbrev cX1_measure : ByteArray := prog_3_method_3_code
def yX1_measure : MethodName := ⟨RX1, "measure", "(LSlatCrates$Stock;I)V"⟩
abbrev cX1_longestIn : ByteArray := prog_3_method_4_code
def yX1_longestIn : MethodName := ⟨RX1, "longestIn", "(LSlatCrates$Stock;II)I"⟩
abbrev cX1_firstOfLongest : ByteArray := prog_3_method_5_code
def yX1_firstOfLongest : MethodName := ⟨RX1, "firstOfLongest", "(LSlatCrates$Stock;II)I"⟩
abbrev cX1_crateAt : ByteArray := prog_3_method_6_code
def yX1_crateAt : MethodName := ⟨RX1, "crateAt", "(I)I"⟩
def RX2 : String := "SlatCrates$NestReader"
def TX2 : u_T := fun k => match k with
  | 0 => ("SlatCrates$NestReader", "found", "LSlatCrates$Stock;", true)
  | 1 => ("SlatCrates$NestReader", "part", "I", false)
  | 2 => ("SlatCrates$NestReader", "signs", "I", false)
  | 3 => ("SlatCrates$NestReader", "value", "I", false)
  | 4 => ("SlatCrates$NestReader", "latest", "I", false)
  | _ => ("SlatCrates$NestReader", "inside", "I", false)
def tyX2 : Nat → FieldType := fun k => match k with
  | 0 => .object "SlatCrates$Stock"
  | 1 => .int
  | 2 => .int
  | 3 => .int
  | 4 => .int
  | _ => .int
abbrev wsX20 : List Cond := u_ws RX2 TX2 6
theorem nmX2 : ∀ a, a < 6 → ∀ b, b < 6 → a ≠ b → (TX2 a).2.1 ≠ (TX2 b).2.1 := by decide +kernel
theorem tyX2_ok : ∀ k, k < 6 → parseFieldDescriptor (TX2 k).2.2.1 = some (tyX2 k) := by decide +kernel
abbrev cX2_init : ByteArray := prog_4_method_1_code
def yX2_init : MethodName := ⟨RX2, "<init>", "()V"⟩
abbrev cX2_found : ByteArray := prog_4_method_2_code
def yX2_found : MethodName := ⟨RX2, "found", "()LSlatCrates$Stock;"⟩
abbrev cX2_read : ByteArray := prog_4_method_3_code
def yX2_read : MethodName := ⟨RX2, "read", "(LSlatCrates$Pad;)I"⟩
abbrev cX2_isComplete : ByteArray := prog_4_method_4_code
def yX2_isComplete : MethodName := ⟨RX2, "isComplete", "()Z"⟩
abbrev cX2_begin : ByteArray := prog_4_method_5_code
def yX2_begin : MethodName := ⟨RX2, "begin", "(I)V"⟩
abbrev cX2_take : ByteArray := prog_4_method_6_code
def yX2_take : MethodName := ⟨RX2, "take", "(C)Z"⟩
abbrev cX2_takeLetter : ByteArray := prog_4_method_7_code
def yX2_takeLetter : MethodName := ⟨RX2, "takeLetter", "(C)Z"⟩
abbrev cX2_weightOf : ByteArray := prog_4_method_8_code
def yX2_weightOf : MethodName := ⟨RX2, "weightOf", "(I)I"⟩
abbrev cX2_takeMark : ByteArray := prog_4_method_9_code
def yX2_takeMark : MethodName := ⟨RX2, "takeMark", "(CCI)Z"⟩
abbrev cX2_takeDigit : ByteArray := prog_4_method_10_code
def yX2_takeDigit : MethodName := ⟨RX2, "takeDigit", "(CII)Z"⟩
abbrev cX2_setNumber : ByteArray := prog_4_method_11_code
def yX2_setNumber : MethodName := ⟨RX2, "setNumber", "()V"⟩
abbrev cX2_takeOpening : ByteArray := prog_4_method_12_code
def yX2_takeOpening : MethodName := ⟨RX2, "takeOpening", "(C)Z"⟩
abbrev cX2_takeBehindNest : ByteArray := prog_4_method_13_code
def yX2_takeBehindNest : MethodName := ⟨RX2, "takeBehindNest", "(C)Z"⟩
def RX3 : String := "SlatCrates$NestWriter"
def TX3 : u_T := fun k => match k with
  | 0 => ("SlatCrates$NestWriter", "signs", "[C", true)
  | _ => ("SlatCrates$NestWriter", "length", "I", false)
def tyX3 : Nat → FieldType := fun k => match k with
  | 0 => .array .char
  | _ => .int
abbrev wsX30 : List Cond := u_ws RX3 TX3 2
theorem nmX3 : ∀ a, a < 2 → ∀ b, b < 2 → a ≠ b → (TX3 a).2.1 ≠ (TX3 b).2.1 := by decide +kernel
theorem tyX3_ok : ∀ k, k < 2 → parseFieldDescriptor (TX3 k).2.2.1 = some (tyX3 k) := by decide +kernel
abbrev cX3_init : ByteArray := prog_5_method_1_code
def yX3_init : MethodName := ⟨RX3, "<init>", "()V"⟩
abbrev cX3_write : ByteArray := prog_5_method_2_code
def yX3_write : MethodName := ⟨RX3, "write", "(LSlatCrates$Stock;I)V"⟩
abbrev cX3_signAt : ByteArray := prog_5_method_3_code
def yX3_signAt : MethodName := ⟨RX3, "signAt", "(I)I"⟩
abbrev cX3_writeNest : ByteArray := prog_5_method_4_code
def yX3_writeNest : MethodName := ⟨RX3, "writeNest", "(LSlatCrates$Stock;II)V"⟩
abbrev cX3_writeLabel : ByteArray := prog_5_method_5_code
def yX3_writeLabel : MethodName := ⟨RX3, "writeLabel", "(LSlatCrates$Stock;I)V"⟩
abbrev cX3_writeNumber : ByteArray := prog_5_method_6_code
def yX3_writeNumber : MethodName := ⟨RX3, "writeNumber", "(CI)V"⟩
abbrev cX3_writeSign : ByteArray := prog_5_method_7_code
def yX3_writeSign : MethodName := ⟨RX3, "writeSign", "(C)V"⟩
def RX4 : String := "SlatCrates$Pad"
def TX4 : u_T := fun k => match k with
  | 0 => ("SlatCrates$Pad", "signs", "[C", true)
  | _ => ("SlatCrates$Pad", "length", "I", false)
def tyX4 : Nat → FieldType := fun k => match k with
  | 0 => .array .char
  | _ => .int
abbrev wsX40 : List Cond := u_ws RX4 TX4 2
theorem nmX4 : ∀ a, a < 2 → ∀ b, b < 2 → a ≠ b → (TX4 a).2.1 ≠ (TX4 b).2.1 := by decide +kernel
theorem tyX4_ok : ∀ k, k < 2 → parseFieldDescriptor (TX4 k).2.2.1 = some (tyX4 k) := by decide +kernel
abbrev cX4_init : ByteArray := prog_6_method_1_code
def yX4_init : MethodName := ⟨RX4, "<init>", "()V"⟩
abbrev cX4_length : ByteArray := prog_6_method_2_code
def yX4_length : MethodName := ⟨RX4, "length", "()I"⟩
abbrev cX4_add : ByteArray := prog_6_method_3_code
def yX4_add : MethodName := ⟨RX4, "add", "(I)V"⟩
abbrev cX4_empty : ByteArray := prog_6_method_4_code
def yX4_empty : MethodName := ⟨RX4, "empty", "()V"⟩
abbrev cX4_signAt : ByteArray := prog_6_method_5_code
def yX4_signAt : MethodName := ⟨RX4, "signAt", "(I)C"⟩
def RX5 : String := "SlatCrates$Stock"
def TX5 : u_T := fun k => match k with
  | 0 => ("SlatCrates$Stock", "sizeRow", "[I", true)
  | 1 => ("SlatCrates$Stock", "roomRow", "[I", true)
  | 2 => ("SlatCrates$Stock", "gapsRow", "[I", true)
  | 3 => ("SlatCrates$Stock", "labelRow", "[I", true)
  | 4 => ("SlatCrates$Stock", "holderRow", "[I", true)
  | 5 => ("SlatCrates$Stock", "placeRow", "[I", true)
  | 6 => ("SlatCrates$Stock", "crates", "I", false)
  | _ => ("SlatCrates$Stock", "refused", "I", false)
def tyX5 : Nat → FieldType := fun k => match k with
  | 0 => .array .int
  | 1 => .array .int
  | 2 => .array .int
  | 3 => .array .int
  | 4 => .array .int
  | 5 => .array .int
  | 6 => .int
  | _ => .int
abbrev wsX50 : List Cond := u_ws RX5 TX5 8
theorem nmX5 : ∀ a, a < 8 → ∀ b, b < 8 → a ≠ b → (TX5 a).2.1 ≠ (TX5 b).2.1 := by decide +kernel
theorem tyX5_ok : ∀ k, k < 8 → parseFieldDescriptor (TX5 k).2.2.1 = some (tyX5 k) := by decide +kernel
abbrev cX5_init : ByteArray := prog_7_method_1_code
def yX5_init : MethodName := ⟨RX5, "<init>", "()V"⟩
abbrev cX5_isCrate : ByteArray := prog_7_method_2_code
def yX5_isCrate : MethodName := ⟨RX5, "isCrate", "(I)Z"⟩
abbrev cX5_crates : ByteArray := prog_7_method_3_code
def yX5_crates : MethodName := ⟨RX5, "crates", "()I"⟩
abbrev cX5_refused : ByteArray := prog_7_method_4_code
def yX5_refused : MethodName := ⟨RX5, "refused", "()I"⟩
abbrev cX5_sizeOf : ByteArray := prog_7_method_5_code
def yX5_sizeOf : MethodName := ⟨RX5, "sizeOf", "(I)I"⟩
abbrev cX5_roomOf : ByteArray := prog_7_method_6_code
def yX5_roomOf : MethodName := ⟨RX5, "roomOf", "(I)I"⟩
abbrev cX5_gapsOf : ByteArray := prog_7_method_7_code
def yX5_gapsOf : MethodName := ⟨RX5, "gapsOf", "(I)I"⟩
abbrev cX5_holderOf : ByteArray := prog_7_method_8_code
def yX5_holderOf : MethodName := ⟨RX5, "holderOf", "(I)I"⟩
abbrev cX5_placeOf : ByteArray := prog_7_method_9_code
def yX5_placeOf : MethodName := ⟨RX5, "placeOf", "(I)I"⟩
abbrev cX5_letterAt : ByteArray := prog_7_method_10_code
def yX5_letterAt : MethodName := ⟨RX5, "letterAt", "(II)I"⟩
abbrev cX5_lettersOf : ByteArray := prog_7_method_11_code
def yX5_lettersOf : MethodName := ⟨RX5, "lettersOf", "(I)I"⟩
abbrev cX5_isOnGround : ByteArray := prog_7_method_12_code
def yX5_isOnGround : MethodName := ⟨RX5, "isOnGround", "(I)Z"⟩
abbrev cX5_depthOf : ByteArray := prog_7_method_13_code
def yX5_depthOf : MethodName := ⟨RX5, "depthOf", "(I)I"⟩
abbrev cX5_isAround : ByteArray := prog_7_method_14_code
def yX5_isAround : MethodName := ⟨RX5, "isAround", "(II)Z"⟩
abbrev cX5_pileOf : ByteArray := prog_7_method_15_code
def yX5_pileOf : MethodName := ⟨RX5, "pileOf", "(I)I"⟩
abbrev cX5_crateInPile : ByteArray := prog_7_method_16_code
def yX5_crateInPile : MethodName := ⟨RX5, "crateInPile", "(II)I"⟩
abbrev cX5_loadOf : ByteArray := prog_7_method_17_code
def yX5_loadOf : MethodName := ⟨RX5, "loadOf", "(I)I"⟩
abbrev cX5_roomLeftIn : ByteArray := prog_7_method_18_code
def yX5_roomLeftIn : MethodName := ⟨RX5, "roomLeftIn", "(I)I"⟩
abbrev cX5_above : ByteArray := prog_7_method_19_code
def yX5_above : MethodName := ⟨RX5, "above", "(I)I"⟩
abbrev cX5_isLoose : ByteArray := prog_7_method_20_code
def yX5_isLoose : MethodName := ⟨RX5, "isLoose", "(I)Z"⟩
abbrev cX5_reasonNotToPut : ByteArray := prog_7_method_21_code
def yX5_reasonNotToPut : MethodName := ⟨RX5, "reasonNotToPut", "(II)I"⟩
abbrev cX5_reasonNotToGround : ByteArray := prog_7_method_22_code
def yX5_reasonNotToGround : MethodName := ⟨RX5, "reasonNotToGround", "(I)I"⟩
abbrev cX5_reasonNotToBreak : ByteArray := prog_7_method_23_code
def yX5_reasonNotToBreak : MethodName := ⟨RX5, "reasonNotToBreak", "(I)I"⟩
abbrev cX5_bestHolderFor : ByteArray := prog_7_method_24_code
def yX5_bestHolderFor : MethodName := ⟨RX5, "bestHolderFor", "(I)I"⟩
abbrev cX5_onGround : ByteArray := prog_7_method_25_code
def yX5_onGround : MethodName := ⟨RX5, "onGround", "()I"⟩
abbrev cX5_loose : ByteArray := prog_7_method_26_code
def yX5_loose : MethodName := ⟨RX5, "loose", "()I"⟩
abbrev cX5_greatestDepth : ByteArray := prog_7_method_27_code
def yX5_greatestDepth : MethodName := ⟨RX5, "greatestDepth", "()I"⟩
abbrev cX5_sizes : ByteArray := prog_7_method_28_code
def yX5_sizes : MethodName := ⟨RX5, "sizes", "()I"⟩
abbrev cX5_sizesLying : ByteArray := prog_7_method_29_code
def yX5_sizesLying : MethodName := ⟨RX5, "sizesLying", "()I"⟩
abbrev cX5_rooms : ByteArray := prog_7_method_30_code
def yX5_rooms : MethodName := ⟨RX5, "rooms", "()I"⟩
abbrev cX5_letters : ByteArray := prog_7_method_31_code
def yX5_letters : MethodName := ⟨RX5, "letters", "()I"⟩
abbrev cX5_isSound : ByteArray := prog_7_method_32_code
def yX5_isSound : MethodName := ⟨RX5, "isSound", "()Z"⟩
abbrev cX5_add : ByteArray := prog_7_method_33_code
def yX5_add : MethodName := ⟨RX5, "add", "(IIII)I"⟩
abbrev cX5_lift : ByteArray := prog_7_method_34_code
def yX5_lift : MethodName := ⟨RX5, "lift", "(I)V"⟩
abbrev cX5_lay : ByteArray := prog_7_method_35_code
def yX5_lay : MethodName := ⟨RX5, "lay", "(II)V"⟩
abbrev cX5_turnSlats : ByteArray := prog_7_method_36_code
def yX5_turnSlats : MethodName := ⟨RX5, "turnSlats", "(I)V"⟩
abbrev cX5_remove : ByteArray := prog_7_method_37_code
def yX5_remove : MethodName := ⟨RX5, "remove", "(I)V"⟩
abbrev cX5_addAll : ByteArray := prog_7_method_38_code
def yX5_addAll : MethodName := ⟨RX5, "addAll", "(LSlatCrates$Stock;)V"⟩
abbrev cX5_countRefusal : ByteArray := prog_7_method_39_code
def yX5_countRefusal : MethodName := ⟨RX5, "countRefusal", "()V"⟩
abbrev cX5_empty : ByteArray := prog_7_method_40_code
def yX5_empty : MethodName := ⟨RX5, "empty", "()V"⟩
abbrev cX5_setLabel : ByteArray := prog_7_method_41_code
def yX5_setLabel : MethodName := ⟨RX5, "setLabel", "(II)V"⟩
abbrev cX5_setSize : ByteArray := prog_7_method_42_code
def yX5_setSize : MethodName := ⟨RX5, "setSize", "(II)V"⟩
abbrev cX5_setRoom : ByteArray := prog_7_method_43_code
def yX5_setRoom : MethodName := ⟨RX5, "setRoom", "(II)V"⟩
abbrev cX5_setGaps : ByteArray := prog_7_method_44_code
def yX5_setGaps : MethodName := ⟨RX5, "setGaps", "(II)V"⟩
abbrev cX5_copyFrom : ByteArray := prog_7_method_45_code
def yX5_copyFrom : MethodName := ⟨RX5, "copyFrom", "(LSlatCrates$Stock;)V"⟩
def RX6 : String := "SlatCrates$View"
def TX6 : u_T := fun k => match k with
  | 0 => ("SlatCrates$View", "sizeRow", "[I", true)
  | 1 => ("SlatCrates$View", "depthRow", "[I", true)
  | 2 => ("SlatCrates$View", "signsRow", "[I", true)
  | _ => ("SlatCrates$View", "crates", "I", false)
def tyX6 : Nat → FieldType := fun k => match k with
  | 0 => .array .int
  | 1 => .array .int
  | 2 => .array .int
  | _ => .int
abbrev wsX60 : List Cond := u_ws RX6 TX6 4
theorem nmX6 : ∀ a, a < 4 → ∀ b, b < 4 → a ≠ b → (TX6 a).2.1 ≠ (TX6 b).2.1 := by decide +kernel
theorem tyX6_ok : ∀ k, k < 4 → parseFieldDescriptor (TX6 k).2.2.1 = some (tyX6 k) := by decide +kernel
abbrev cX6_init : ByteArray := prog_8_method_1_code
def yX6_init : MethodName := ⟨RX6, "<init>", "()V"⟩
abbrev cX6_look : ByteArray := prog_8_method_2_code
def yX6_look : MethodName := ⟨RX6, "look", "(LSlatCrates$Stock;)V"⟩
abbrev cX6_signsOf : ByteArray := prog_8_method_3_code
def yX6_signsOf : MethodName := ⟨RX6, "signsOf", "(LSlatCrates$Stock;I)I"⟩
abbrev cX6_openAround : ByteArray := prog_8_method_4_code
def yX6_openAround : MethodName := ⟨RX6, "openAround", "(LSlatCrates$Stock;I)I"⟩
abbrev cX6_signAt : ByteArray := prog_8_method_5_code
def yX6_signAt : MethodName := ⟨RX6, "signAt", "(II)I"⟩
abbrev cX6_shows : ByteArray := prog_8_method_6_code
def yX6_shows : MethodName := ⟨RX6, "shows", "(III)Z"⟩
abbrev cX6_lettersSeenOf : ByteArray := prog_8_method_7_code
def yX6_lettersSeenOf : MethodName := ⟨RX6, "lettersSeenOf", "(I)I"⟩
abbrev cX6_lettersSeen : ByteArray := prog_8_method_8_code
def yX6_lettersSeen : MethodName := ⟨RX6, "lettersSeen", "()I"⟩
abbrev cX6_canTell : ByteArray := prog_8_method_9_code
def yX6_canTell : MethodName := ⟨RX6, "canTell", "(I)Z"⟩
abbrev cX6_tellable : ByteArray := prog_8_method_10_code
def yX6_tellable : MethodName := ⟨RX6, "tellable", "()I"⟩
abbrev cX6_differentRows : ByteArray := prog_8_method_11_code
def yX6_differentRows : MethodName := ⟨RX6, "differentRows", "()I"⟩
def RX7 : String := "SlatCrates$Ways"
def TX7 : u_T := fun k => match k with
  | _ => ("", "", "", false)
def tyX7 : Nat → FieldType := fun k => match k with
  | _ => .int
abbrev wsX70 : List Cond := u_ws RX7 TX7 0
theorem nmX7 : ∀ a, a < 0 → ∀ b, b < 0 → a ≠ b → (TX7 a).2.1 ≠ (TX7 b).2.1 := by decide +kernel
theorem tyX7_ok : ∀ k, k < 0 → parseFieldDescriptor (TX7 k).2.2.1 = some (tyX7 k) := by decide +kernel
abbrev cX7_effortFromBelow : ByteArray := prog_9_method_2_code
def yX7_effortFromBelow : MethodName := ⟨RX7, "effortFromBelow", "(LSlatCrates$Stock;I)I"⟩
abbrev cX7_sumGoingUp : ByteArray := prog_9_method_3_code
def yX7_sumGoingUp : MethodName := ⟨RX7, "sumGoingUp", "(LSlatCrates$Stock;I)I"⟩
abbrev cX7_sumOfAll : ByteArray := prog_9_method_4_code
def yX7_sumOfAll : MethodName := ⟨RX7, "sumOfAll", "(LSlatCrates$Stock;)I"⟩
abbrev cX7_sumGoingDown : ByteArray := prog_9_method_5_code
def yX7_sumGoingDown : MethodName := ⟨RX7, "sumGoingDown", "(LSlatCrates$Stock;I)I"⟩
abbrev cX7_sumInPile : ByteArray := prog_9_method_6_code
def yX7_sumInPile : MethodName := ⟨RX7, "sumInPile", "(LSlatCrates$Stock;IIII)I"⟩
def RX8 : String := "SlatCrates"
def TX8 : u_T := fun k => match k with
  | 0 => ("SlatCrates", "now", "LSlatCrates$Stock;", true)
  | 1 => ("SlatCrates", "tried", "LSlatCrates$Stock;", true)
  | 2 => ("SlatCrates", "snapshot", "LSlatCrates$Stock;", true)
  | 3 => ("SlatCrates", "snapshotTaken", "Z", false)
  | 4 => ("SlatCrates", "history", "LSlatCrates$History;", true)
  | 5 => ("SlatCrates", "pad", "LSlatCrates$Pad;", true)
  | 6 => ("SlatCrates", "reader", "LSlatCrates$NestReader;", true)
  | 7 => ("SlatCrates", "writer", "LSlatCrates$NestWriter;", true)
  | 8 => ("SlatCrates", "view", "LSlatCrates$View;", true)
  | _ => ("SlatCrates", "looseNest", "LSlatCrates$LooseNest;", true)
def tyX8 : Nat → FieldType := fun k => match k with
  | 0 => .object "SlatCrates$Stock"
  | 1 => .object "SlatCrates$Stock"
  | 2 => .object "SlatCrates$Stock"
  | 3 => .boolean
  | 4 => .object "SlatCrates$History"
  | 5 => .object "SlatCrates$Pad"
  | 6 => .object "SlatCrates$NestReader"
  | 7 => .object "SlatCrates$NestWriter"
  | 8 => .object "SlatCrates$View"
  | _ => .object "SlatCrates$LooseNest"
abbrev wsX80 : List Cond := u_ws RX8 TX8 10
theorem nmX8 : ∀ a, a < 10 → ∀ b, b < 10 → a ≠ b → (TX8 a).2.1 ≠ (TX8 b).2.1 := by decide +kernel
theorem tyX8_ok : ∀ k, k < 10 → parseFieldDescriptor (TX8 k).2.2.1 = some (tyX8 k) := by decide +kernel
abbrev cX8_init : ByteArray := prog_1_method_1_code
def yX8_init : MethodName := ⟨RX8, "<init>", "()V"⟩
abbrev cX8_make : ByteArray := prog_1_method_2_code
def yX8_make : MethodName := ⟨RX8, "make", "(IIII)I"⟩
abbrev cX8_put : ByteArray := prog_1_method_3_code
def yX8_put : MethodName := ⟨RX8, "put", "(II)I"⟩
abbrev cX8_ground : ByteArray := prog_1_method_4_code
def yX8_ground : MethodName := ⟨RX8, "ground", "(I)I"⟩
abbrev cX8_turn : ByteArray := prog_1_method_5_code
def yX8_turn : MethodName := ⟨RX8, "turn", "(I)I"⟩
abbrev cX8_breakUp : ByteArray := prog_1_method_6_code
def yX8_breakUp : MethodName := ⟨RX8, "breakUp", "(I)I"⟩
abbrev cX8_append : ByteArray := prog_1_method_7_code
def yX8_append : MethodName := ⟨RX8, "append", "(I)I"⟩
abbrev cX8_clear : ByteArray := prog_1_method_8_code
def yX8_clear : MethodName := ⟨RX8, "clear", "()I"⟩
abbrev cX8_fault : ByteArray := prog_1_method_9_code
def yX8_fault : MethodName := ⟨RX8, "fault", "()I"⟩
abbrev cX8_load : ByteArray := prog_1_method_10_code
def yX8_load : MethodName := ⟨RX8, "load", "()I"⟩
abbrev cX8_sign : ByteArray := prog_1_method_11_code
def yX8_sign : MethodName := ⟨RX8, "sign", "(II)I"⟩
abbrev cX8_crate : ByteArray := prog_1_method_12_code
def yX8_crate : MethodName := ⟨RX8, "crate", "(II)I"⟩
abbrev cX8_letter : ByteArray := prog_1_method_13_code
def yX8_letter : MethodName := ⟨RX8, "letter", "(II)I"⟩
abbrev cX8_seen : ByteArray := prog_1_method_14_code
def yX8_seen : MethodName := ⟨RX8, "seen", "(II)I"⟩
abbrev cX8_whyNot : ByteArray := prog_1_method_15_code
def yX8_whyNot : MethodName := ⟨RX8, "whyNot", "(II)I"⟩
abbrev cX8_effort : ByteArray := prog_1_method_16_code
def yX8_effort : MethodName := ⟨RX8, "effort", "(II)I"⟩
abbrev cX8_alike : ByteArray := prog_1_method_17_code
def yX8_alike : MethodName := ⟨RX8, "alike", "(IIII)I"⟩
abbrev cX8_nest : ByteArray := prog_1_method_18_code
def yX8_nest : MethodName := ⟨RX8, "nest", "(I)I"⟩
abbrev cX8_count : ByteArray := prog_1_method_19_code
def yX8_count : MethodName := ⟨RX8, "count", "(I)I"⟩
abbrev cX8_ifTurned : ByteArray := prog_1_method_21_code
def yX8_ifTurned : MethodName := ⟨RX8, "ifTurned", "(II)I"⟩
abbrev cX8_bestTurn : ByteArray := prog_1_method_22_code
def yX8_bestTurn : MethodName := ⟨RX8, "bestTurn", "()I"⟩
abbrev cX8_undo : ByteArray := prog_1_method_23_code
def yX8_undo : MethodName := ⟨RX8, "undo", "()I"⟩
abbrev cX8_save : ByteArray := prog_1_method_24_code
def yX8_save : MethodName := ⟨RX8, "save", "()I"⟩
abbrev cX8_restore : ByteArray := prog_1_method_25_code
def yX8_restore : MethodName := ⟨RX8, "restore", "()I"⟩
abbrev cX8_refuse : ByteArray := prog_1_method_26_code
def yX8_refuse : MethodName := ⟨RX8, "refuse", "(I)I"⟩
abbrev cX8_viewNow : ByteArray := prog_1_method_27_code
def yX8_viewNow : MethodName := ⟨RX8, "viewNow", "()LSlatCrates$View;"⟩
abbrev cX8_viewTurned : ByteArray := prog_1_method_28_code
def yX8_viewTurned : MethodName := ⟨RX8, "viewTurned", "(I)LSlatCrates$View;"⟩
abbrev cX8_isPlace : ByteArray := prog_1_method_29_code
def yX8_isPlace : MethodName := ⟨RX8, "isPlace", "(I)Z"⟩
abbrev cX8_isWanted : ByteArray := prog_1_method_30_code
def yX8_isWanted : MethodName := ⟨RX8, "isWanted", "(I)Z"⟩
abbrev cX8_isLabel : ByteArray := prog_1_method_31_code
def yX8_isLabel : MethodName := ⟨RX8, "isLabel", "(I)Z"⟩
def RX9 : String := "SlatCratesModel"
def TX9 : u_T := fun k => match k with
  | _ => ("", "", "", false)
def tyX9 : Nat → FieldType := fun k => match k with
  | _ => .int
abbrev wsX90 : List Cond := u_ws RX9 TX9 0
theorem nmX9 : ∀ a, a < 0 → ∀ b, b < 0 → a ≠ b → (TX9 a).2.1 ≠ (TX9 b).2.1 := by decide +kernel
theorem tyX9_ok : ∀ k, k < 0 → parseFieldDescriptor (TX9 k).2.2.1 = some (tyX9 k) := by decide +kernel
def RJ9 : String := "java/lang/Math"
def TJ9 : u_T := fun k => match k with
  | _ => ("", "", "", false)
def tyJ9 : Nat → FieldType := fun k => match k with
  | _ => .int
abbrev wsJ90 : List Cond := u_ws RJ9 TJ9 0
theorem nmJ9 : ∀ a, a < 0 → ∀ b, b < 0 → a ≠ b → (TJ9 a).2.1 ≠ (TJ9 b).2.1 := by decide +kernel
theorem tyJ9_ok : ∀ k, k < 0 → parseFieldDescriptor (TJ9 k).2.2.1 = some (tyJ9 k) := by decide +kernel
abbrev cJ9_max_7cf53 : ByteArray := prog_12_method_65_code
def yJ9_max_7cf53 : MethodName := ⟨RJ9, "max", "(II)I"⟩
abbrev cJ9_min_7cf53 : ByteArray := prog_12_method_69_code
def yJ9_min_7cf53 : MethodName := ⟨RJ9, "min", "(II)I"⟩
def RJ10 : String := "java/lang/System"
def TJ10 : u_T := fun k => match k with
  | _ => ("", "", "", false)
def tyJ10 : Nat → FieldType := fun k => match k with
  | _ => .int
abbrev wsJ100 : List Cond := u_ws RJ10 TJ10 0
theorem nmJ10 : ∀ a, a < 0 → ∀ b, b < 0 → a ≠ b → (TJ10 a).2.1 ≠ (TJ10 b).2.1 := by decide +kernel
theorem tyJ10_ok : ∀ k, k < 0 → parseFieldDescriptor (TJ10 k).2.2.1 = some (tyJ10 k) := by decide +kernel
def RL : String := "SlatCratesLaw"
abbrev cL_lot : ByteArray := method_2_code
def yL_lot : MethodName := ⟨RL, "lot", "([II)I"⟩
abbrev cL_low : ByteArray := method_3_code
def yL_low : MethodName := ⟨RL, "low", "(II)I"⟩
abbrev cL_look : ByteArray := method_4_code
def yL_look : MethodName := ⟨RL, "look", "(LSlatCrates;)J"⟩
abbrev cL_holds : ByteArray := method_5_code
def yL_holds : MethodName := ⟨RL, "holds", "(LSlatCrates;)Z"⟩
abbrev cL_open : ByteArray := method_6_code
def yL_open : MethodName := ⟨RL, "open", "(LSlatCrates;II)Z"⟩
abbrev cL_would : ByteArray := method_7_code
def yL_would : MethodName := ⟨RL, "would", "(LSlatCrates;I)Z"⟩
abbrev cL_number : ByteArray := method_8_code
def yL_number : MethodName := ⟨RL, "number", "(LSlatCrates;II)Z"⟩
abbrev cL_types : ByteArray := method_9_code
def yL_types : MethodName := ⟨RL, "types", "(LSlatCrates;I)Z"⟩
abbrev cL_loads : ByteArray := method_10_code
def yL_loads : MethodName := ⟨RL, "loads", "(LSlatCrates;I)Z"⟩
abbrev cL_deeds : ByteArray := method_11_code
def yL_deeds : MethodName := ⟨RL, "deeds", "(LSlatCrates;II)Z"⟩
abbrev cL_acts : ByteArray := method_12_code
def yL_acts : MethodName := ⟨RL, "acts", "(LSlatCrates;II)Z"⟩
abbrev cL_law : ByteArray := code
def yL_law : MethodName := ⟨RL, "law", "([I)Z"⟩
abbrev vwCl : List vw_C := [(RX0, TX0, 2), (RX1, TX1, 3), (RX2, TX2, 6), (RX3, TX3, 2), (RX4, TX4, 2), (RX5, TX5, 8), (RX6, TX6, 4), (RX8, TX8, 10)]
theorem inX0 : ∀ w ∈ wsX00, w ∈ lw_tbl := by decide +kernel
theorem inX1 : ∀ w ∈ wsX10, w ∈ lw_tbl := by decide +kernel
theorem inX2 : ∀ w ∈ wsX20, w ∈ lw_tbl := by decide +kernel
theorem inX3 : ∀ w ∈ wsX30, w ∈ lw_tbl := by decide +kernel
theorem inX4 : ∀ w ∈ wsX40, w ∈ lw_tbl := by decide +kernel
theorem inX5 : ∀ w ∈ wsX50, w ∈ lw_tbl := by decide +kernel
theorem inX6 : ∀ w ∈ wsX60, w ∈ lw_tbl := by decide +kernel
theorem inX8 : ∀ w ∈ wsX80, w ∈ lw_tbl := by decide +kernel
