section
-- ===== PART A: goes FIRST, ahead of the names: the tables' words, and 'selects' of the private methods out of them =====
/-- a private method of a class that the tables say can be made, by its rows of tables_1 -/
def lw_okq (q : MethodName × Nat) : Prop := (q.1.cls ≠ "java/lang/invoke/MethodHandle" ∧ q.1.cls ≠ "java/lang/invoke/VarHandle") ∧ Cond.instantiable q.1.cls q.2 ∈ tables_1 ∧ Cond.privateMethod q.1 ∈ tables_1 ∧ Cond.instanceMethod q.1 ∈ tables_1
theorem lw_p0 : lw_okq (⟨"SlatCrates", "viewNow", "()LSlatCrates$View;"⟩, 10) := ⟨⟨by decide +kernel, by decide +kernel⟩, List.mem_of_getElem? (i := 13) (by decide +kernel), List.mem_of_getElem? (i := 248) (by decide +kernel), List.mem_of_getElem? (i := 249) (by decide +kernel)⟩
theorem lw_p1 : lw_okq (⟨"SlatCrates$LooseNest", "measure", "(LSlatCrates$Stock;I)V"⟩, 3) := ⟨⟨by decide +kernel, by decide +kernel⟩, List.mem_of_getElem? (i := 142) (by decide +kernel), List.mem_of_getElem? (i := 322) (by decide +kernel), List.mem_of_getElem? (i := 323) (by decide +kernel)⟩
theorem lw_p2 : lw_okq (⟨"SlatCrates$LooseNest", "longestIn", "(LSlatCrates$Stock;II)I"⟩, 3) := ⟨⟨by decide +kernel, by decide +kernel⟩, List.mem_of_getElem? (i := 142) (by decide +kernel), List.mem_of_getElem? (i := 332) (by decide +kernel), List.mem_of_getElem? (i := 333) (by decide +kernel)⟩
theorem lw_p3 : lw_okq (⟨"SlatCrates$LooseNest", "firstOfLongest", "(LSlatCrates$Stock;II)I"⟩, 3) := ⟨⟨by decide +kernel, by decide +kernel⟩, List.mem_of_getElem? (i := 142) (by decide +kernel), List.mem_of_getElem? (i := 336) (by decide +kernel), List.mem_of_getElem? (i := 337) (by decide +kernel)⟩
theorem lw_p4 : lw_okq (⟨"SlatCrates$History", "dropOldest", "()V"⟩, 2) := ⟨⟨by decide +kernel, by decide +kernel⟩, List.mem_of_getElem? (i := 53) (by decide +kernel), List.mem_of_getElem? (i := 397) (by decide +kernel), List.mem_of_getElem? (i := 398) (by decide +kernel)⟩
theorem lw_p5 : lw_okq (⟨"SlatCrates", "viewTurned", "(I)LSlatCrates$View;"⟩, 10) := ⟨⟨by decide +kernel, by decide +kernel⟩, List.mem_of_getElem? (i := 13) (by decide +kernel), List.mem_of_getElem? (i := 487) (by decide +kernel), List.mem_of_getElem? (i := 488) (by decide +kernel)⟩
theorem lw_p6 : lw_okq (⟨"SlatCrates$NestWriter", "writeNest", "(LSlatCrates$Stock;II)V"⟩, 2) := ⟨⟨by decide +kernel, by decide +kernel⟩, List.mem_of_getElem? (i := 110) (by decide +kernel), List.mem_of_getElem? (i := 526) (by decide +kernel), List.mem_of_getElem? (i := 527) (by decide +kernel)⟩
theorem lw_p7 : lw_okq (⟨"SlatCrates$NestWriter", "writeLabel", "(LSlatCrates$Stock;I)V"⟩, 2) := ⟨⟨by decide +kernel, by decide +kernel⟩, List.mem_of_getElem? (i := 110) (by decide +kernel), List.mem_of_getElem? (i := 530) (by decide +kernel), List.mem_of_getElem? (i := 531) (by decide +kernel)⟩
theorem lw_p8 : lw_okq (⟨"SlatCrates$NestWriter", "writeSign", "(C)V"⟩, 2) := ⟨⟨by decide +kernel, by decide +kernel⟩, List.mem_of_getElem? (i := 110) (by decide +kernel), List.mem_of_getElem? (i := 536) (by decide +kernel), List.mem_of_getElem? (i := 537) (by decide +kernel)⟩
theorem lw_p9 : lw_okq (⟨"SlatCrates$NestWriter", "writeNumber", "(CI)V"⟩, 2) := ⟨⟨by decide +kernel, by decide +kernel⟩, List.mem_of_getElem? (i := 110) (by decide +kernel), List.mem_of_getElem? (i := 541) (by decide +kernel), List.mem_of_getElem? (i := 542) (by decide +kernel)⟩
theorem lw_p10 : lw_okq (⟨"SlatCrates", "refuse", "(I)I"⟩, 10) := ⟨⟨by decide +kernel, by decide +kernel⟩, List.mem_of_getElem? (i := 13) (by decide +kernel), List.mem_of_getElem? (i := 598) (by decide +kernel), List.mem_of_getElem? (i := 599) (by decide +kernel)⟩
theorem lw_p11 : lw_okq (⟨"SlatCrates$NestReader", "begin", "(I)V"⟩, 6) := ⟨⟨by decide +kernel, by decide +kernel⟩, List.mem_of_getElem? (i := 83) (by decide +kernel), List.mem_of_getElem? (i := 668) (by decide +kernel), List.mem_of_getElem? (i := 669) (by decide +kernel)⟩
theorem lw_p12 : lw_okq (⟨"SlatCrates$NestReader", "take", "(C)Z"⟩, 6) := ⟨⟨by decide +kernel, by decide +kernel⟩, List.mem_of_getElem? (i := 83) (by decide +kernel), List.mem_of_getElem? (i := 677) (by decide +kernel), List.mem_of_getElem? (i := 678) (by decide +kernel)⟩
theorem lw_p13 : lw_okq (⟨"SlatCrates$NestReader", "takeLetter", "(C)Z"⟩, 6) := ⟨⟨by decide +kernel, by decide +kernel⟩, List.mem_of_getElem? (i := 83) (by decide +kernel), List.mem_of_getElem? (i := 681) (by decide +kernel), List.mem_of_getElem? (i := 682) (by decide +kernel)⟩
theorem lw_p14 : lw_okq (⟨"SlatCrates$NestReader", "takeMark", "(CCI)Z"⟩, 6) := ⟨⟨by decide +kernel, by decide +kernel⟩, List.mem_of_getElem? (i := 83) (by decide +kernel), List.mem_of_getElem? (i := 694) (by decide +kernel), List.mem_of_getElem? (i := 695) (by decide +kernel)⟩
theorem lw_p15 : lw_okq (⟨"SlatCrates$NestReader", "takeDigit", "(CII)Z"⟩, 6) := ⟨⟨by decide +kernel, by decide +kernel⟩, List.mem_of_getElem? (i := 83) (by decide +kernel), List.mem_of_getElem? (i := 698) (by decide +kernel), List.mem_of_getElem? (i := 699) (by decide +kernel)⟩
def lw_privs_1 : List (MethodName × Nat) := [(⟨"SlatCrates", "viewNow", "()LSlatCrates$View;"⟩, 10), (⟨"SlatCrates$LooseNest", "measure", "(LSlatCrates$Stock;I)V"⟩, 3), (⟨"SlatCrates$LooseNest", "longestIn", "(LSlatCrates$Stock;II)I"⟩, 3), (⟨"SlatCrates$LooseNest", "firstOfLongest", "(LSlatCrates$Stock;II)I"⟩, 3), (⟨"SlatCrates$History", "dropOldest", "()V"⟩, 2), (⟨"SlatCrates", "viewTurned", "(I)LSlatCrates$View;"⟩, 10), (⟨"SlatCrates$NestWriter", "writeNest", "(LSlatCrates$Stock;II)V"⟩, 2), (⟨"SlatCrates$NestWriter", "writeLabel", "(LSlatCrates$Stock;I)V"⟩, 2), (⟨"SlatCrates$NestWriter", "writeSign", "(C)V"⟩, 2), (⟨"SlatCrates$NestWriter", "writeNumber", "(CI)V"⟩, 2), (⟨"SlatCrates", "refuse", "(I)I"⟩, 10), (⟨"SlatCrates$NestReader", "begin", "(I)V"⟩, 6), (⟨"SlatCrates$NestReader", "take", "(C)Z"⟩, 6), (⟨"SlatCrates$NestReader", "takeLetter", "(C)Z"⟩, 6), (⟨"SlatCrates$NestReader", "takeMark", "(CCI)Z"⟩, 6), (⟨"SlatCrates$NestReader", "takeDigit", "(CII)Z"⟩, 6)]
theorem lw_r1 : ∀ q ∈ lw_privs_1, lw_okq q := List.forall_mem_cons.mpr ⟨lw_p0, List.forall_mem_cons.mpr ⟨lw_p1, List.forall_mem_cons.mpr ⟨lw_p2, List.forall_mem_cons.mpr ⟨lw_p3, List.forall_mem_cons.mpr ⟨lw_p4, List.forall_mem_cons.mpr ⟨lw_p5, List.forall_mem_cons.mpr ⟨lw_p6, List.forall_mem_cons.mpr ⟨lw_p7, List.forall_mem_cons.mpr ⟨lw_p8, List.forall_mem_cons.mpr ⟨lw_p9, List.forall_mem_cons.mpr ⟨lw_p10, List.forall_mem_cons.mpr ⟨lw_p11, List.forall_mem_cons.mpr ⟨lw_p12, List.forall_mem_cons.mpr ⟨lw_p13, List.forall_mem_cons.mpr ⟨lw_p14, List.forall_mem_cons.mpr ⟨lw_p15, fun _ h => absurd h List.not_mem_nil⟩⟩⟩⟩⟩⟩⟩⟩⟩⟩⟩⟩⟩⟩⟩⟩
theorem lw_p16 : lw_okq (⟨"SlatCrates$NestReader", "setNumber", "()V"⟩, 6) := ⟨⟨by decide +kernel, by decide +kernel⟩, List.mem_of_getElem? (i := 83) (by decide +kernel), List.mem_of_getElem? (i := 702) (by decide +kernel), List.mem_of_getElem? (i := 703) (by decide +kernel)⟩
theorem lw_p17 : lw_okq (⟨"SlatCrates$NestReader", "takeOpening", "(C)Z"⟩, 6) := ⟨⟨by decide +kernel, by decide +kernel⟩, List.mem_of_getElem? (i := 83) (by decide +kernel), List.mem_of_getElem? (i := 718) (by decide +kernel), List.mem_of_getElem? (i := 719) (by decide +kernel)⟩
theorem lw_p18 : lw_okq (⟨"SlatCrates$NestReader", "takeBehindNest", "(C)Z"⟩, 6) := ⟨⟨by decide +kernel, by decide +kernel⟩, List.mem_of_getElem? (i := 83) (by decide +kernel), List.mem_of_getElem? (i := 722) (by decide +kernel), List.mem_of_getElem? (i := 723) (by decide +kernel)⟩
theorem lw_p19 : lw_okq (⟨"SlatCrates$NestReader", "isComplete", "()Z"⟩, 6) := ⟨⟨by decide +kernel, by decide +kernel⟩, List.mem_of_getElem? (i := 83) (by decide +kernel), List.mem_of_getElem? (i := 727) (by decide +kernel), List.mem_of_getElem? (i := 728) (by decide +kernel)⟩
def lw_privs_2 : List (MethodName × Nat) := [(⟨"SlatCrates$NestReader", "setNumber", "()V"⟩, 6), (⟨"SlatCrates$NestReader", "takeOpening", "(C)Z"⟩, 6), (⟨"SlatCrates$NestReader", "takeBehindNest", "(C)Z"⟩, 6), (⟨"SlatCrates$NestReader", "isComplete", "()Z"⟩, 6)]
theorem lw_r2 : ∀ q ∈ lw_privs_2, lw_okq q := List.forall_mem_cons.mpr ⟨lw_p16, List.forall_mem_cons.mpr ⟨lw_p17, List.forall_mem_cons.mpr ⟨lw_p18, List.forall_mem_cons.mpr ⟨lw_p19, fun _ h => absurd h List.not_mem_nil⟩⟩⟩⟩
def lw_privs : List (MethodName × Nat) := lw_privs_1 ++ (lw_privs_2)
def lw_tbl : List Cond := k2_sels lw_privs ++ tables_1
theorem lw_privs_ok : ∀ q ∈ lw_privs, lw_okq q := by
  show ∀ q ∈ lw_privs_1 ++ (lw_privs_2), lw_okq q
  exact List.forall_mem_append.mpr ⟨lw_r1, lw_r2⟩
end
section
/-! ===== BEGIN words of one list among another's, by their places ===== -/
theorem goodIn_r {big : List Cond} (ws : List Cond) (ps : List Nat) (hp : ws = ps.filterMap (fun i => big[i]?)) (h : ws.all goodWord = true) : GoodIn big ws := by
  intro w hw
  have h1 := List.all_eq_true.mp h w hw
  rw [hp] at hw
  obtain ⟨i, -, hi⟩ := List.mem_filterMap.mp hw
  have hm : w ∈ big := by first | exact List.mem_of_getElem? hi | exact List.getElem?_mem hi
  exact ⟨hm, good_of_word h1⟩
theorem goodIn_app {big a b : List Cond} (ha : GoodIn big a) (hb : GoodIn big b) : GoodIn big (a ++ b) := fun w h => (List.mem_append.mp h).elim (ha w) (hb w)
theorem goodIn_ca {big a b : List Cond} {c : Cond} (ha : GoodIn big (c :: a)) (hb : GoodIn big b) : GoodIn big (c :: (a ++ b)) := fun w h => (List.mem_cons.mp h).elim (fun e => ha w (List.mem_cons.mpr (Or.inl e))) (fun h => (List.mem_append.mp h).elim (fun h => ha w (List.mem_cons.mpr (Or.inr h))) (hb w))
theorem goodIn_sub {big ws : List Cond} (hm : ∀ w ∈ ws, w ∈ big) (h : ws.all goodWord = true) : GoodIn big ws := fun w hw => ⟨hm w hw, good_of_word (List.all_eq_true.mp h w hw)⟩
/-! ===== END ===== -/

/-! ===== BEGIN printed: names, fields, word lists, decode rows ===== -/
def RX0 : String := "SlatCrates$History"
def TX0 : u_T := fun k => match k with
  | 0 => ("SlatCrates$History", "states", "[LSlatCrates$Stock;", true)
  | _ => ("SlatCrates$History", "length", "I", false)
def tyX0 : Nat → FieldType := fun k => match k with
  | 0 => .array (.object "SlatCrates$Stock")
  | _ => .int
abbrev wsX00 : List Cond := u_ws RX0 TX0 2
theorem nmX0 : ∀ a, a < 2 → ∀ b, b < 2 → a ≠ b → (TX0 a).2.1 ≠ (TX0 b).2.1 := by decide +kernel
theorem tyX0_ok : ∀ k, k < 2 → parseFieldDescriptor (TX0 k).2.2.1 = some (tyX0 k) := by decide +kernel
abbrev cX0_init : ByteArray := prog_2_method_1_code
def yX0_init : MethodName := ⟨RX0, "<init>", "()V"⟩
abbrev cX0_length : ByteArray := prog_2_method_2_code
def yX0_length : MethodName := ⟨RX0, "length", "()I"⟩
abbrev cX0_keep : ByteArray := prog_2_method_3_code
def yX0_keep : MethodName := ⟨RX0, "keep", "(LSlatCrates$Stock;)V"⟩
abbrev cX0_dropOldest : ByteArray := prog_2_method_4_code
def yX0_dropOldest : MethodName := ⟨RX0, "dropOldest", "()V"⟩
abbrev cX0_takeBack : ByteArray := prog_2_method_5_code
def yX0_takeBack : MethodName := ⟨RX0, "takeBack", "(LSlatCrates$Stock;)V"⟩
def RX1 : String := "SlatCrates$LooseNest"
def TX1 : u_T := fun k => match k with
  | 0 => ("SlatCrates$LooseNest", "lengthRow", "[I", true)
  | 1 => ("SlatCrates$LooseNest", "nestRow", "[I", true)
  | _ => ("SlatCrates$LooseNest", "length", "I", false)
def tyX1 : Nat → FieldType := fun k => match k with
  | 0 => .array .int
  | 1 => .array .int
  | _ => .int
abbrev wsX10 : List Cond := u_ws RX1 TX1 3
theorem nmX1 : ∀ a, a < 3 → ∀ b, b < 3 → a ≠ b → (TX1 a).2.1 ≠ (TX1 b).2.1 := by decide +kernel
theorem tyX1_ok : ∀ k, k < 3 → parseFieldDescriptor (TX1 k).2.2.1 = some (tyX1 k) := by decide +kernel
abbrev cX1_init : ByteArray := prog_3_method_1_code
def yX1_init : MethodName := ⟨RX1, "<init>", "()V"⟩
abbrev cX1_find : ByteArray := prog_3_method_2_code
def yX1_find : MethodName := ⟨RX1, "find", "(LSlatCrates$Stock;)I"⟩
abbrev cX1_measure : ByteArray := prog_3_method_3_code
def yX1_measure : MethodName := ⟨RX1, "measure", "(LSlatCrates$Stock;I)V"⟩
abbrev cX1_longestIn : ByteArray := prog_3_method_4_code
def yX1_longestIn : MethodName := ⟨RX1, "longestIn", "(LSlatCrates$Stock;II)I"⟩
abbrev cX1_firstOfLongest : ByteArray := prog_3_method_5_code
def yX1_firstOfLongest : MethodName := ⟨RX1, "firstOfLongest", "(LSlatCrates$Stock;II)I"⟩
abbrev cX1_crateAt : ByteArray := prog_3_method_6_code
def yX1_crateAt : MethodName := ⟨RX1, "crateAt", "(I)I"⟩
def RX2 : String := "SlatCrates$NestReader"
def TX2 : u_T := fun k => match k with
  | 0 => ("SlatCrates$NestReader", "found", "LSlatCrates$Stock;", true)
  | 1 => ("SlatCrates$NestReader", "part", "I", false)
  | 2 => ("SlatCrates$NestReader", "signs", "I", false)
  | 3 => ("SlatCrates$NestReader", "value", "I", false)
  | 4 => ("SlatCrates$NestReader", "latest", "I", false)
  | _ => ("SlatCrates$NestReader", "inside", "I", false)
def tyX2 : Nat → FieldType := fun k => match k with
  | 0 => .object "SlatCrates$Stock"
  | 1 => .int
  | 2 => .int
  | 3 => .int
  | 4 => .int
  | _ => .int
abbrev wsX20 : List Cond := u_ws RX2 TX2 6
theorem nmX2 : ∀ a, a < 6 → ∀ b, b < 6 → a ≠ b → (TX2 a).2.1 ≠ (TX2 b).2.1 := by decide +kernel
theorem tyX2_ok : ∀ k, k < 6 → parseFieldDescriptor (TX2 k).2.2.1 = some (tyX2 k) := by decide +kernel
abbrev cX2_init : ByteArray := prog_4_method_1_code
def yX2_init : MethodName := ⟨RX2, "<init>", "()V"⟩
abbrev cX2_found : ByteArray := prog_4_method_2_code
def yX2_found : MethodName := ⟨RX2, "found", "()LSlatCrates$Stock;"⟩
abbrev cX2_read : ByteArray := prog_4_method_3_code
def yX2_read : MethodName := ⟨RX2, "read", "(LSlatCrates$Pad;)I"⟩
abbrev cX2_isComplete : ByteArray := prog_4_method_4_code
def yX2_isComplete : MethodName := ⟨RX2, "isComplete", "()Z"⟩
abbrev cX2_begin : ByteArray := prog_4_method_5_code
def yX2_begin : MethodName := ⟨RX2, "begin", "(I)V"⟩
abbrev cX2_take : ByteArray := prog_4_method_6_code
def yX2_take : MethodName := ⟨RX2, "take", "(C)Z"⟩
abbrev cX2_takeLetter : ByteArray := prog_4_method_7_code
def yX2_takeLetter : MethodName := ⟨RX2, "takeLetter", "(C)Z"⟩
abbrev cX2_weightOf : ByteArray := prog_4_method_8_code
def yX2_weightOf : MethodName := ⟨RX2, "weightOf", "(I)I"⟩
abbrev cX2_takeMark : ByteArray := prog_4_method_9_code
def yX2_takeMark : MethodName := ⟨RX2, "takeMark", "(CCI)Z"⟩
abbrev cX2_takeDigit : ByteArray := prog_4_method_10_code
def yX2_takeDigit : MethodName := ⟨RX2, "takeDigit", "(CII)Z"⟩
abbrev cX2_setNumber : ByteArray := prog_4_method_11_code
def yX2_setNumber : MethodName := ⟨RX2, "setNumber", "()V"⟩
abbrev cX2_takeOpening : ByteArray := prog_4_method_12_code
def yX2_takeOpening : MethodName := ⟨RX2, "takeOpening", "(C)Z"⟩
abbrev cX2_takeBehindNest : ByteArray := prog_4_method_13_code
def yX2_takeBehindNest : MethodName := ⟨RX2, "takeBehindNest", "(C)Z"⟩
def RX3 : String := "SlatCrates$NestWriter"
def TX3 : u_T := fun k => match k with
  | 0 => ("SlatCrates$NestWriter", "signs", "[C", true)
  | _ => ("SlatCrates$NestWriter", "length", "I", false)
def tyX3 : Nat → FieldType := fun k => match k with
  | 0 => .array .char
  | _ => .int
abbrev wsX30 : List Cond := u_ws RX3 TX3 2
theorem nmX3 : ∀ a, a < 2 → ∀ b, b < 2 → a ≠ b → (TX3 a).2.1 ≠ (TX3 b).2.1 := by decide +kernel
theorem tyX3_ok : ∀ k, k < 2 → parseFieldDescriptor (TX3 k).2.2.1 = some (tyX3 k) := by decide +kernel
abbrev cX3_init : ByteArray := prog_5_method_1_code
def yX3_init : MethodName := ⟨RX3, "<init>", "()V"⟩
abbrev cX3_write : ByteArray := prog_5_method_2_code
def yX3_write : MethodName := ⟨RX3, "write", "(LSlatCrates$Stock;I)V"⟩
abbrev cX3_signAt : ByteArray := prog_5_method_3_code
def yX3_signAt : MethodName := ⟨RX3, "signAt", "(I)I"⟩
abbrev cX3_writeNest : ByteArray := prog_5_method_4_code
def yX3_writeNest : MethodName := ⟨RX3, "writeNest", "(LSlatCrates$Stock;II)V"⟩
abbrev cX3_writeLabel : ByteArray := prog_5_method_5_code
def yX3_writeLabel : MethodName := ⟨RX3, "writeLabel", "(LSlatCrates$Stock;I)V"⟩
abbrev cX3_writeNumber : ByteArray := prog_5_method_6_code
def yX3_writeNumber : MethodName := ⟨RX3, "writeNumber", "(CI)V"⟩
abbrev cX3_writeSign : ByteArray := prog_5_method_7_code
def yX3_writeSign : MethodName := ⟨RX3, "writeSign", "(C)V"⟩
def RX4 : String := "SlatCrates$Pad"
def TX4 : u_T := fun k => match k with
  | 0 => ("SlatCrates$Pad", "signs", "[C", true)
  | _ => ("SlatCrates$Pad", "length", "I", false)
def tyX4 : Nat → FieldType := fun k => match k with
  | 0 => .array .char
  | _ => .int
abbrev wsX40 : List Cond := u_ws RX4 TX4 2
theorem nmX4 : ∀ a, a < 2 → ∀ b, b < 2 → a ≠ b → (TX4 a).2.1 ≠ (TX4 b).2.1 := by decide +kernel
theorem tyX4_ok : ∀ k, k < 2 → parseFieldDescriptor (TX4 k).2.2.1 = some (tyX4 k) := by decide +kernel
abbrev cX4_init : ByteArray := prog_6_method_1_code
def yX4_init : MethodName := ⟨RX4, "<init>", "()V"⟩
abbrev cX4_length : ByteArray := prog_6_method_2_code
def yX4_length : MethodName := ⟨RX4, "length", "()I"⟩
abbrev cX4_add : ByteArray := prog_6_method_3_code
def yX4_add : MethodName := ⟨RX4, "add", "(I)V"⟩
abbrev cX4_empty : ByteArray := prog_6_method_4_code
def yX4_empty : MethodName := ⟨RX4, "empty", "()V"⟩
abbrev cX4_signAt : ByteArray := prog_6_method_5_code
def yX4_signAt : MethodName := ⟨RX4, "signAt", "(I)C"⟩
def RX5 : String := "SlatCrates$Stock"
def TX5 : u_T := fun k => match k with
  | 0 => ("SlatCrates$Stock", "sizeRow", "[I", true)
  | 1 => ("SlatCrates$Stock", "roomRow", "[I", true)
  | 2 => ("SlatCrates$Stock", "gapsRow", "[I", true)
  | 3 => ("SlatCrates$Stock", "labelRow", "[I", true)
  | 4 => ("SlatCrates$Stock", "holderRow", "[I", true)
  | 5 => ("SlatCrates$Stock", "placeRow", "[I", true)
  | 6 => ("SlatCrates$Stock", "crates", "I", false)
  | _ => ("SlatCrates$Stock", "refused", "I", false)
def tyX5 : Nat → FieldType := fun k => match k with
  | 0 => .array .int
  | 1 => .array .int
  | 2 => .array .int
  | 3 => .array .int
  | 4 => .array .int
  | 5 => .array .int
  | 6 => .int
  | _ => .int
abbrev wsX50 : List Cond := u_ws RX5 TX5 8
theorem nmX5 : ∀ a, a < 8 → ∀ b, b < 8 → a ≠ b → (TX5 a).2.1 ≠ (TX5 b).2.1 := by decide +kernel
theorem tyX5_ok : ∀ k, k < 8 → parseFieldDescriptor (TX5 k).2.2.1 = some (tyX5 k) := by decide +kernel
abbrev cX5_init : ByteArray := prog_7_method_1_code
def yX5_init : MethodName := ⟨RX5, "<init>", "()V"⟩
abbrev cX5_isCrate : ByteArray := prog_7_method_2_code
def yX5_isCrate : MethodName := ⟨RX5, "isCrate", "(I)Z"⟩
abbrev cX5_crates : ByteArray := prog_7_method_3_code
def yX5_crates : MethodName := ⟨RX5, "crates", "()I"⟩
abbrev cX5_refused : ByteArray := prog_7_method_4_code
def yX5_refused : MethodName := ⟨RX5, "refused", "()I"⟩
abbrev cX5_sizeOf : ByteArray := prog_7_method_5_code
def yX5_sizeOf : MethodName := ⟨RX5, "sizeOf", "(I)I"⟩
abbrev cX5_roomOf : ByteArray := prog_7_method_6_code
def yX5_roomOf : MethodName := ⟨RX5, "roomOf", "(I)I"⟩
abbrev cX5_gapsOf : ByteArray := prog_7_method_7_code
def yX5_gapsOf : MethodName := ⟨RX5, "gapsOf", "(I)I"⟩
abbrev cX5_holderOf : ByteArray := prog_7_method_8_code
def yX5_holderOf : MethodName := ⟨RX5, "holderOf", "(I)I"⟩
abbrev cX5_placeOf : ByteArray := prog_7_method_9_code
def yX5_placeOf : MethodName := ⟨RX5, "placeOf", "(I)I"⟩
abbrev cX5_letterAt : ByteArray := prog_7_method_10_code
def yX5_letterAt : MethodName := ⟨RX5, "letterAt", "(II)I"⟩
abbrev cX5_lettersOf : ByteArray := prog_7_method_11_code
def yX5_lettersOf : MethodName := ⟨RX5, "lettersOf", "(I)I"⟩
abbrev cX5_isOnGround : ByteArray := prog_7_method_12_code
def yX5_isOnGround : MethodName := ⟨RX5, "isOnGround", "(I)Z"⟩
abbrev cX5_depthOf : ByteArray := prog_7_method_13_code
def yX5_depthOf : MethodName := ⟨RX5, "depthOf", "(I)I"⟩
abbrev cX5_isAround : ByteArray := prog_7_method_14_code
def yX5_isAround : MethodName := ⟨RX5, "isAround", "(II)Z"⟩
abbrev cX5_pileOf : ByteArray := prog_7_method_15_code
def yX5_pileOf : MethodName := ⟨RX5, "pileOf", "(I)I"⟩
abbrev cX5_crateInPile : ByteArray := prog_7_method_16_code
def yX5_crateInPile : MethodName := ⟨RX5, "crateInPile", "(II)I"⟩
abbrev cX5_loadOf : ByteArray := prog_7_method_17_code
def yX5_loadOf : MethodName := ⟨RX5, "loadOf", "(I)I"⟩
abbrev cX5_roomLeftIn : ByteArray := prog_7_method_18_code
def yX5_roomLeftIn : MethodName := ⟨RX5, "roomLeftIn", "(I)I"⟩
abbrev cX5_above : ByteArray := prog_7_method_19_code
def yX5_above : MethodName := ⟨RX5, "above", "(I)I"⟩
abbrev cX5_isLoose : ByteArray := prog_7_method_20_code
def yX5_isLoose : MethodName := ⟨RX5, "isLoose", "(I)Z"⟩
abbrev cX5_reasonNotToPut : ByteArray := prog_7_method_21_code
def yX5_reasonNotToPut : MethodName := ⟨RX5, "reasonNotToPut", "(II)I"⟩
abbrev cX5_reasonNotToGround : ByteArray := prog_7_method_22_code
def yX5_reasonNotToGround : MethodName := ⟨RX5, "reasonNotToGround", "(I)I"⟩
abbrev cX5_reasonNotToBreak : ByteArray := prog_7_method_23_code
def yX5_reasonNotToBreak : MethodName := ⟨RX5, "reasonNotToBreak", "(I)I"⟩
abbrev cX5_bestHolderFor : ByteArray := prog_7_method_24_code
def yX5_bestHolderFor : MethodName := ⟨RX5, "bestHolderFor", "(I)I"⟩
abbrev cX5_onGround : ByteArray := prog_7_method_25_code
def yX5_onGround : MethodName := ⟨RX5, "onGround", "()I"⟩
abbrev cX5_loose : ByteArray := prog_7_method_26_code
def yX5_loose : MethodName := ⟨RX5, "loose", "()I"⟩
abbrev cX5_greatestDepth : ByteArray := prog_7_method_27_code
def yX5_greatestDepth : MethodName := ⟨RX5, "greatestDepth", "()I"⟩
abbrev cX5_sizes : ByteArray := prog_7_method_28_code
def yX5_sizes : MethodName := ⟨RX5, "sizes", "()I"⟩
abbrev cX5_sizesLying : ByteArray := prog_7_method_29_code
def yX5_sizesLying : MethodName := ⟨RX5, "sizesLying", "()I"⟩
abbrev cX5_rooms : ByteArray := prog_7_method_30_code
def yX5_rooms : MethodName := ⟨RX5, "rooms", "()I"⟩
abbrev cX5_letters : ByteArray := prog_7_method_31_code
def yX5_letters : MethodName := ⟨RX5, "letters", "()I"⟩
abbrev cX5_isSound : ByteArray := prog_7_method_32_code
def yX5_isSound : MethodName := ⟨RX5, "isSound", "()Z"⟩
abbrev cX5_add : ByteArray := prog_7_method_33_code
def yX5_add : MethodName := ⟨RX5, "add", "(IIII)I"⟩
abbrev cX5_lift : ByteArray := prog_7_method_34_code
def yX5_lift : MethodName := ⟨RX5, "lift", "(I)V"⟩
abbrev cX5_lay : ByteArray := prog_7_method_35_code
def yX5_lay : MethodName := ⟨RX5, "lay", "(II)V"⟩
abbrev cX5_turnSlats : ByteArray := prog_7_method_36_code
def yX5_turnSlats : MethodName := ⟨RX5, "turnSlats", "(I)V"⟩
abbrev cX5_remove : ByteArray := prog_7_method_37_code
def yX5_remove : MethodName := ⟨RX5, "remove", "(I)V"⟩
abbrev cX5_addAll : ByteArray := prog_7_method_38_code
def yX5_addAll : MethodName := ⟨RX5, "addAll", "(LSlatCrates$Stock;)V"⟩
abbrev cX5_countRefusal : ByteArray := prog_7_method_39_code
def yX5_countRefusal : MethodName := ⟨RX5, "countRefusal", "()V"⟩
abbrev cX5_empty : ByteArray := prog_7_method_40_code
def yX5_empty : MethodName := ⟨RX5, "empty", "()V"⟩
abbrev cX5_setLabel : ByteArray := prog_7_method_41_code
def yX5_setLabel : MethodName := ⟨RX5, "setLabel", "(II)V"⟩
abbrev cX5_setSize : ByteArray := prog_7_method_42_code
def yX5_setSize : MethodName := ⟨RX5, "setSize", "(II)V"⟩
abbrev cX5_setRoom : ByteArray := prog_7_method_43_code
def yX5_setRoom : MethodName := ⟨RX5, "setRoom", "(II)V"⟩
abbrev cX5_setGaps : ByteArray := prog_7_method_44_code
def yX5_setGaps : MethodName := ⟨RX5, "setGaps", "(II)V"⟩
abbrev cX5_copyFrom : ByteArray := prog_7_method_45_code
def yX5_copyFrom : MethodName := ⟨RX5, "copyFrom", "(LSlatCrates$Stock;)V"⟩
def RX6 : String := "SlatCrates$View"
def TX6 : u_T := fun k => match k with
  | 0 => ("SlatCrates$View", "sizeRow", "[I", true)
  | 1 => ("SlatCrates$View", "depthRow", "[I", true)
  | 2 => ("SlatCrates$View", "signsRow", "[I", true)
  | _ => ("SlatCrates$View", "crates", "I", false)
def tyX6 : Nat → FieldType := fun k => match k with
  | 0 => .array .int
  | 1 => .array .int
  | 2 => .array .int
  | _ => .int
abbrev wsX60 : List Cond := u_ws RX6 TX6 4
theorem nmX6 : ∀ a, a < 4 → ∀ b, b < 4 → a ≠ b → (TX6 a).2.1 ≠ (TX6 b).2.1 := by decide +kernel
theorem tyX6_ok : ∀ k, k < 4 → parseFieldDescriptor (TX6 k).2.2.1 = some (tyX6 k) := by decide +kernel
abbrev cX6_init : ByteArray := prog_8_method_1_code
def yX6_init : MethodName := ⟨RX6, "<init>", "()V"⟩
abbrev cX6_look : ByteArray := prog_8_method_2_code
def yX6_look : MethodName := ⟨RX6, "look", "(LSlatCrates$Stock;)V"⟩
abbrev cX6_signsOf : ByteArray := prog_8_method_3_code
def yX6_signsOf : MethodName := ⟨RX6, "signsOf", "(LSlatCrates$Stock;I)I"⟩
abbrev cX6_openAround : ByteArray := prog_8_method_4_code
def yX6_openAround : MethodName := ⟨RX6, "openAround", "(LSlatCrates$Stock;I)I"⟩
abbrev cX6_signAt : ByteArray := prog_8_method_5_code
def yX6_signAt : MethodName := ⟨RX6, "signAt", "(II)I"⟩
abbrev cX6_shows : ByteArray := prog_8_method_6_code
def yX6_shows : MethodName := ⟨RX6, "shows", "(III)Z"⟩
abbrev cX6_lettersSeenOf : ByteArray := prog_8_method_7_code
def yX6_lettersSeenOf : MethodName := ⟨RX6, "lettersSeenOf", "(I)I"⟩
abbrev cX6_lettersSeen : ByteArray := prog_8_method_8_code
def yX6_lettersSeen : MethodName := ⟨RX6, "lettersSeen", "()I"⟩
abbrev cX6_canTell : ByteArray := prog_8_method_9_code
def yX6_canTell : MethodName := ⟨RX6, "canTell", "(I)Z"⟩
abbrev cX6_tellable : ByteArray := prog_8_method_10_code
def yX6_tellable : MethodName := ⟨RX6, "tellable", "()I"⟩
abbrev cX6_differentRows : ByteArray := prog_8_method_11_code
def yX6_differentRows : MethodName := ⟨RX6, "differentRows", "()I"⟩
def RX7 : String := "SlatCrates$Ways"
def TX7 : u_T := fun k => match k with
  | _ => ("", "", "", false)
def tyX7 : Nat → FieldType := fun k => match k with
  | _ => .int
abbrev wsX70 : List Cond := u_ws RX7 TX7 0
theorem nmX7 : ∀ a, a < 0 → ∀ b, b < 0 → a ≠ b → (TX7 a).2.1 ≠ (TX7 b).2.1 := by decide +kernel
theorem tyX7_ok : ∀ k, k < 0 → parseFieldDescriptor (TX7 k).2.2.1 = some (tyX7 k) := by decide +kernel
abbrev cX7_effortFromBelow : ByteArray := prog_9_method_2_code
def yX7_effortFromBelow : MethodName := ⟨RX7, "effortFromBelow", "(LSlatCrates$Stock;I)I"⟩
abbrev cX7_sumGoingUp : ByteArray := prog_9_method_3_code
def yX7_sumGoingUp : MethodName := ⟨RX7, "sumGoingUp", "(LSlatCrates$Stock;I)I"⟩
abbrev cX7_sumOfAll : ByteArray := prog_9_method_4_code
def yX7_sumOfAll : MethodName := ⟨RX7, "sumOfAll", "(LSlatCrates$Stock;)I"⟩
abbrev cX7_sumGoingDown : ByteArray := prog_9_method_5_code
def yX7_sumGoingDown : MethodName := ⟨RX7, "sumGoingDown", "(LSlatCrates$Stock;I)I"⟩
abbrev cX7_sumInPile : ByteArray := prog_9_method_6_code
def yX7_sumInPile : MethodName := ⟨RX7, "sumInPile", "(LSlatCrates$Stock;IIII)I"⟩
def RX8 : String := "SlatCrates"
def TX8 : u_T := fun k => match k with
  | 0 => ("SlatCrates", "now", "LSlatCrates$Stock;", true)
  | 1 => ("SlatCrates", "tried", "LSlatCrates$Stock;", true)
  | 2 => ("SlatCrates", "snapshot", "LSlatCrates$Stock;", true)
  | 3 => ("SlatCrates", "snapshotTaken", "Z", false)
  | 4 => ("SlatCrates", "history", "LSlatCrates$History;", true)
  | 5 => ("SlatCrates", "pad", "LSlatCrates$Pad;", true)
  | 6 => ("SlatCrates", "reader", "LSlatCrates$NestReader;", true)
  | 7 => ("SlatCrates", "writer", "LSlatCrates$NestWriter;", true)
  | 8 => ("SlatCrates", "view", "LSlatCrates$View;", true)
  | _ => ("SlatCrates", "looseNest", "LSlatCrates$LooseNest;", true)
def tyX8 : Nat → FieldType := fun k => match k with
  | 0 => .object "SlatCrates$Stock"
  | 1 => .object "SlatCrates$Stock"
  | 2 => .object "SlatCrates$Stock"
  | 3 => .boolean
  | 4 => .object "SlatCrates$History"
  | 5 => .object "SlatCrates$Pad"
  | 6 => .object "SlatCrates$NestReader"
  | 7 => .object "SlatCrates$NestWriter"
  | 8 => .object "SlatCrates$View"
  | _ => .object "SlatCrates$LooseNest"
abbrev wsX80 : List Cond := u_ws RX8 TX8 10
theorem nmX8 : ∀ a, a < 10 → ∀ b, b < 10 → a ≠ b → (TX8 a).2.1 ≠ (TX8 b).2.1 := by decide +kernel
theorem tyX8_ok : ∀ k, k < 10 → parseFieldDescriptor (TX8 k).2.2.1 = some (tyX8 k) := by decide +kernel
abbrev cX8_init : ByteArray := prog_1_method_1_code
def yX8_init : MethodName := ⟨RX8, "<init>", "()V"⟩
abbrev cX8_make : ByteArray := prog_1_method_2_code
def yX8_make : MethodName := ⟨RX8, "make", "(IIII)I"⟩
abbrev cX8_put : ByteArray := prog_1_method_3_code
def yX8_put : MethodName := ⟨RX8, "put", "(II)I"⟩
abbrev cX8_ground : ByteArray := prog_1_method_4_code
def yX8_ground : MethodName := ⟨RX8, "ground", "(I)I"⟩
abbrev cX8_turn : ByteArray := prog_1_method_5_code
def yX8_turn : MethodName := ⟨RX8, "turn", "(I)I"⟩
abbrev cX8_breakUp : ByteArray := prog_1_method_6_code
def yX8_breakUp : MethodName := ⟨RX8, "breakUp", "(I)I"⟩
abbrev cX8_append : ByteArray := prog_1_method_7_code
def yX8_append : MethodName := ⟨RX8, "append", "(I)I"⟩
abbrev cX8_clear : ByteArray := prog_1_method_8_code
def yX8_clear : MethodName := ⟨RX8, "clear", "()I"⟩
abbrev cX8_fault : ByteArray := prog_1_method_9_code
def yX8_fault : MethodName := ⟨RX8, "fault", "()I"⟩
abbrev cX8_load : ByteArray := prog_1_method_10_code
def yX8_load : MethodName := ⟨RX8, "load", "()I"⟩
abbrev cX8_sign : ByteArray := prog_1_method_11_code
def yX8_sign : MethodName := ⟨RX8, "sign", "(II)I"⟩
abbrev cX8_crate : ByteArray := prog_1_method_12_code
def yX8_crate : MethodName := ⟨RX8, "crate", "(II)I"⟩
abbrev cX8_letter : ByteArray := prog_1_method_13_code
def yX8_letter : MethodName := ⟨RX8, "letter", "(II)I"⟩
abbrev cX8_seen : ByteArray := prog_1_method_14_code
def yX8_seen : MethodName := ⟨RX8, "seen", "(II)I"⟩
abbrev cX8_whyNot : ByteArray := prog_1_method_15_code
def yX8_whyNot : MethodName := ⟨RX8, "whyNot", "(II)I"⟩
abbrev cX8_effort : ByteArray := prog_1_method_16_code
def yX8_effort : MethodName := ⟨RX8, "effort", "(II)I"⟩
abbrev cX8_alike : ByteArray := prog_1_method_17_code
def yX8_alike : MethodName := ⟨RX8, "alike", "(IIII)I"⟩
abbrev cX8_nest : ByteArray := prog_1_method_18_code
def yX8_nest : MethodName := ⟨RX8, "nest", "(I)I"⟩
abbrev cX8_count : ByteArray := prog_1_method_19_code
def yX8_count : MethodName := ⟨RX8, "count", "(I)I"⟩
abbrev cX8_ifTurned : ByteArray := prog_1_method_21_code
def yX8_ifTurned : MethodName := ⟨RX8, "ifTurned", "(II)I"⟩
abbrev cX8_bestTurn : ByteArray := prog_1_method_22_code
def yX8_bestTurn : MethodName := ⟨RX8, "bestTurn", "()I"⟩
abbrev cX8_undo : ByteArray := prog_1_method_23_code
def yX8_undo : MethodName := ⟨RX8, "undo", "()I"⟩
abbrev cX8_save : ByteArray := prog_1_method_24_code
def yX8_save : MethodName := ⟨RX8, "save", "()I"⟩
abbrev cX8_restore : ByteArray := prog_1_method_25_code
def yX8_restore : MethodName := ⟨RX8, "restore", "()I"⟩
abbrev cX8_refuse : ByteArray := prog_1_method_26_code
def yX8_refuse : MethodName := ⟨RX8, "refuse", "(I)I"⟩
abbrev cX8_viewNow : ByteArray := prog_1_method_27_code
def yX8_viewNow : MethodName := ⟨RX8, "viewNow", "()LSlatCrates$View;"⟩
abbrev cX8_viewTurned : ByteArray := prog_1_method_28_code
def yX8_viewTurned : MethodName := ⟨RX8, "viewTurned", "(I)LSlatCrates$View;"⟩
abbrev cX8_isPlace : ByteArray := prog_1_method_29_code
def yX8_isPlace : MethodName := ⟨RX8, "isPlace", "(I)Z"⟩
abbrev cX8_isWanted : ByteArray := prog_1_method_30_code
def yX8_isWanted : MethodName := ⟨RX8, "isWanted", "(I)Z"⟩
abbrev cX8_isLabel : ByteArray := prog_1_method_31_code
def yX8_isLabel : MethodName := ⟨RX8, "isLabel", "(I)Z"⟩
def RX9 : String := "SlatCratesModel"
def TX9 : u_T := fun k => match k with
  | _ => ("", "", "", false)
def tyX9 : Nat → FieldType := fun k => match k with
  | _ => .int
abbrev wsX90 : List Cond := u_ws RX9 TX9 0
theorem nmX9 : ∀ a, a < 0 → ∀ b, b < 0 → a ≠ b → (TX9 a).2.1 ≠ (TX9 b).2.1 := by decide +kernel
theorem tyX9_ok : ∀ k, k < 0 → parseFieldDescriptor (TX9 k).2.2.1 = some (tyX9 k) := by decide +kernel
def RJ9 : String := "java/lang/Math"
def TJ9 : u_T := fun k => match k with
  | _ => ("", "", "", false)
def tyJ9 : Nat → FieldType := fun k => match k with
  | _ => .int
abbrev wsJ90 : List Cond := u_ws RJ9 TJ9 0
theorem nmJ9 : ∀ a, a < 0 → ∀ b, b < 0 → a ≠ b → (TJ9 a).2.1 ≠ (TJ9 b).2.1 := by decide +kernel
theorem tyJ9_ok : ∀ k, k < 0 → parseFieldDescriptor (TJ9 k).2.2.1 = some (tyJ9 k) := by decide +kernel
abbrev cJ9_max_7cf53 : ByteArray := prog_12_method_65_code
def yJ9_max_7cf53 : MethodName := ⟨RJ9, "max", "(II)I"⟩
abbrev cJ9_min_7cf53 : ByteArray := prog_12_method_69_code
def yJ9_min_7cf53 : MethodName := ⟨RJ9, "min", "(II)I"⟩
def RJ10 : String := "java/lang/System"
def TJ10 : u_T := fun k => match k with
  | _ => ("", "", "", false)
def tyJ10 : Nat → FieldType := fun k => match k with
  | _ => .int
abbrev wsJ100 : List Cond := u_ws RJ10 TJ10 0
theorem nmJ10 : ∀ a, a < 0 → ∀ b, b < 0 → a ≠ b → (TJ10 a).2.1 ≠ (TJ10 b).2.1 := by decide +kernel
theorem tyJ10_ok : ∀ k, k < 0 → parseFieldDescriptor (TJ10 k).2.2.1 = some (tyJ10 k) := by decide +kernel
def RL : String := "SlatCratesLaw"
abbrev cL_lot : ByteArray := method_2_code
def yL_lot : MethodName := ⟨RL, "lot", "([II)I"⟩
abbrev cL_low : ByteArray := method_3_code
def yL_low : MethodName := ⟨RL, "low", "(II)I"⟩
abbrev cL_look : ByteArray := method_4_code
def yL_look : MethodName := ⟨RL, "look", "(LSlatCrates;)J"⟩
abbrev cL_holds : ByteArray := method_5_code
def yL_holds : MethodName := ⟨RL, "holds", "(LSlatCrates;)Z"⟩
abbrev cL_open : ByteArray := method_6_code
def yL_open : MethodName := ⟨RL, "open", "(LSlatCrates;II)Z"⟩
abbrev cL_would : ByteArray := method_7_code
def yL_would : MethodName := ⟨RL, "would", "(LSlatCrates;I)Z"⟩
abbrev cL_number : ByteArray := method_8_code
def yL_number : MethodName := ⟨RL, "number", "(LSlatCrates;II)Z"⟩
abbrev cL_types : ByteArray := method_9_code
def yL_types : MethodName := ⟨RL, "types", "(LSlatCrates;I)Z"⟩
abbrev cL_loads : ByteArray := method_10_code
def yL_loads : MethodName := ⟨RL, "loads", "(LSlatCrates;I)Z"⟩
abbrev cL_deeds : ByteArray := method_11_code
def yL_deeds : MethodName := ⟨RL, "deeds", "(LSlatCrates;II)Z"⟩
abbrev cL_acts : ByteArray := method_12_code
def yL_acts : MethodName := ⟨RL, "acts", "(LSlatCrates;II)Z"⟩
abbrev cL_law : ByteArray := code
def yL_law : MethodName := ⟨RL, "law", "([I)Z"⟩
abbrev vwCl : List vw_C := [(RX0, TX0, 2), (RX1, TX1, 3), (RX2, TX2, 6), (RX3, TX3, 2), (RX4, TX4, 2), (RX5, TX5, 8), (RX6, TX6, 4), (RX8, TX8, 10)]
theorem inX0 : ∀ w ∈ wsX00, w ∈ lw_tbl := by decide +kernel
theorem inX1 : ∀ w ∈ wsX10, w ∈ lw_tbl := by decide +kernel
theorem inX2 : ∀ w ∈ wsX20, w ∈ lw_tbl := by decide +kernel
theorem inX3 : ∀ w ∈ wsX30, w ∈ lw_tbl := by decide +kernel
theorem inX4 : ∀ w ∈ wsX40, w ∈ lw_tbl := by decide +kernel
theorem inX5 : ∀ w ∈ wsX50, w ∈ lw_tbl := by decide +kernel
theorem inX6 : ∀ w ∈ wsX60, w ∈ lw_tbl := by decide +kernel
theorem inX8 : ∀ w ∈ wsX80, w ∈ lw_tbl := by decide +kernel
end
section
/-! tables of the claim, written by wip/p27/gen/tables.py: methods, calls, fields, classes, constants -/
def WS : List Cond := lw_tbl.filter goodWord
theorem WS_tbl {w : Cond} (h : w ∈ WS) : w ∈ lw_tbl := (List.mem_filter.mp h).1
theorem WS_of {w : Cond} (i : Nat) (h : lw_tbl[i]? = some w) (g : goodWord w = true) : w ∈ WS := List.mem_filter.mpr ⟨List.mem_of_getElem? h, g⟩
/-- a class by number -/
def zK (k : Nat) : String := match k with
  | 0 => RX0
  | 1 => RX1
  | 2 => RX2
  | 3 => RX3
  | 4 => RX4
  | 5 => RX5
  | 6 => RX6
  | 7 => RX7
  | 8 => RX8
  | 9 => RL
  | _ => RL
abbrev zMt : Type := Nat × MethodName × ByteArray × Nat × Option FieldType
/-- the methods: class, name, bytes, locals, answer -/
def zML : List zMt := [
  (0, yX0_init, cX0_init, 2, none),
  (0, yX0_length, cX0_length, 1, (some .int)),
  (0, yX0_keep, cX0_keep, 2, none),
  (0, yX0_dropOldest, cX0_dropOldest, 3, none),
  (0, yX0_takeBack, cX0_takeBack, 2, none),
  (1, yX1_init, cX1_init, 1, none),
  (1, yX1_find, cX1_find, 6, (some .int)),
  (1, yX1_measure, cX1_measure, 5, none),
  (1, yX1_longestIn, cX1_longestIn, 6, (some .int)),
  (1, yX1_firstOfLongest, cX1_firstOfLongest, 6, (some .int)),
  (1, yX1_crateAt, cX1_crateAt, 2, (some .int)),
  (2, yX2_init, cX2_init, 1, none),
  (2, yX2_found, cX2_found, 1, (some (.object "SlatCrates$Stock"))),
  (2, yX2_read, cX2_read, 3, (some .int)),
  (2, yX2_isComplete, cX2_isComplete, 2, (some .boolean)),
  (2, yX2_begin, cX2_begin, 2, none),
  (2, yX2_take, cX2_take, 2, (some .boolean)),
  (2, yX2_takeLetter, cX2_takeLetter, 2, (some .boolean)),
  (2, yX2_weightOf, cX2_weightOf, 3, (some .int)),
  (2, yX2_takeMark, cX2_takeMark, 4, (some .boolean)),
  (2, yX2_takeDigit, cX2_takeDigit, 6, (some .boolean)),
  (2, yX2_setNumber, cX2_setNumber, 1, none),
  (2, yX2_takeOpening, cX2_takeOpening, 2, (some .boolean)),
  (2, yX2_takeBehindNest, cX2_takeBehindNest, 2, (some .boolean)),
  (3, yX3_init, cX3_init, 1, none),
  (3, yX3_write, cX3_write, 3, none),
  (3, yX3_signAt, cX3_signAt, 2, (some .int)),
  (3, yX3_writeNest, cX3_writeNest, 6, none),
  (3, yX3_writeLabel, cX3_writeLabel, 5, none),
  (3, yX3_writeNumber, cX3_writeNumber, 3, none),
  (3, yX3_writeSign, cX3_writeSign, 2, none),
  (4, yX4_init, cX4_init, 1, none),
  (4, yX4_length, cX4_length, 1, (some .int)),
  (4, yX4_add, cX4_add, 2, none),
  (4, yX4_empty, cX4_empty, 1, none),
  (4, yX4_signAt, cX4_signAt, 2, (some .char)),
  (5, yX5_init, cX5_init, 1, none),
  (5, yX5_isCrate, cX5_isCrate, 2, (some .boolean)),
  (5, yX5_crates, cX5_crates, 1, (some .int)),
  (5, yX5_refused, cX5_refused, 1, (some .int)),
  (5, yX5_sizeOf, cX5_sizeOf, 2, (some .int)),
  (5, yX5_roomOf, cX5_roomOf, 2, (some .int)),
  (5, yX5_gapsOf, cX5_gapsOf, 2, (some .int)),
  (5, yX5_holderOf, cX5_holderOf, 2, (some .int)),
  (5, yX5_placeOf, cX5_placeOf, 2, (some .int)),
  (5, yX5_letterAt, cX5_letterAt, 5, (some .int)),
  (5, yX5_lettersOf, cX5_lettersOf, 4, (some .int)),
  (5, yX5_isOnGround, cX5_isOnGround, 2, (some .boolean)),
  (5, yX5_depthOf, cX5_depthOf, 4, (some .int)),
  (5, yX5_isAround, cX5_isAround, 5, (some .boolean)),
  (5, yX5_pileOf, cX5_pileOf, 4, (some .int)),
  (5, yX5_crateInPile, cX5_crateInPile, 4, (some .int)),
  (5, yX5_loadOf, cX5_loadOf, 4, (some .int)),
  (5, yX5_roomLeftIn, cX5_roomLeftIn, 4, (some .int)),
  (5, yX5_above, cX5_above, 2, (some .int)),
  (5, yX5_isLoose, cX5_isLoose, 2, (some .boolean)),
  (5, yX5_reasonNotToPut, cX5_reasonNotToPut, 4, (some .int)),
  (5, yX5_reasonNotToGround, cX5_reasonNotToGround, 2, (some .int)),
  (5, yX5_reasonNotToBreak, cX5_reasonNotToBreak, 2, (some .int)),
  (5, yX5_bestHolderFor, cX5_bestHolderFor, 7, (some .int)),
  (5, yX5_onGround, cX5_onGround, 3, (some .int)),
  (5, yX5_loose, cX5_loose, 3, (some .int)),
  (5, yX5_greatestDepth, cX5_greatestDepth, 3, (some .int)),
  (5, yX5_sizes, cX5_sizes, 3, (some .int)),
  (5, yX5_sizesLying, cX5_sizesLying, 3, (some .int)),
  (5, yX5_rooms, cX5_rooms, 3, (some .int)),
  (5, yX5_letters, cX5_letters, 3, (some .int)),
  (5, yX5_isSound, cX5_isSound, 2, (some .boolean)),
  (5, yX5_add, cX5_add, 6, (some .int)),
  (5, yX5_lift, cX5_lift, 2, none),
  (5, yX5_lay, cX5_lay, 3, none),
  (5, yX5_turnSlats, cX5_turnSlats, 3, none),
  (5, yX5_remove, cX5_remove, 3, none),
  (5, yX5_addAll, cX5_addAll, 5, none),
  (5, yX5_countRefusal, cX5_countRefusal, 1, none),
  (5, yX5_empty, cX5_empty, 1, none),
  (5, yX5_setLabel, cX5_setLabel, 3, none),
  (5, yX5_setSize, cX5_setSize, 3, none),
  (5, yX5_setRoom, cX5_setRoom, 3, none),
  (5, yX5_setGaps, cX5_setGaps, 3, none),
  (5, yX5_copyFrom, cX5_copyFrom, 2, none),
  (6, yX6_init, cX6_init, 1, none),
  (6, yX6_look, cX6_look, 3, none),
  (6, yX6_signsOf, cX6_signsOf, 7, (some .int)),
  (6, yX6_openAround, cX6_openAround, 5, (some .int)),
  (6, yX6_signAt, cX6_signAt, 4, (some .int)),
  (6, yX6_shows, cX6_shows, 4, (some .boolean)),
  (6, yX6_lettersSeenOf, cX6_lettersSeenOf, 4, (some .int)),
  (6, yX6_lettersSeen, cX6_lettersSeen, 3, (some .int)),
  (6, yX6_canTell, cX6_canTell, 3, (some .boolean)),
  (6, yX6_tellable, cX6_tellable, 3, (some .int)),
  (6, yX6_differentRows, cX6_differentRows, 5, (some .int)),
  (7, yX7_effortFromBelow, cX7_effortFromBelow, 5, (some .int)),
  (7, yX7_sumGoingUp, cX7_sumGoingUp, 4, (some .int)),
  (7, yX7_sumOfAll, cX7_sumOfAll, 3, (some .int)),
  (7, yX7_sumGoingDown, cX7_sumGoingDown, 4, (some .int)),
  (7, yX7_sumInPile, cX7_sumInPile, 10, (some .int)),
  (8, yX8_init, cX8_init, 1, none),
  (8, yX8_make, cX8_make, 5, (some .int)),
  (8, yX8_put, cX8_put, 4, (some .int)),
  (8, yX8_ground, cX8_ground, 3, (some .int)),
  (8, yX8_turn, cX8_turn, 2, (some .int)),
  (8, yX8_breakUp, cX8_breakUp, 3, (some .int)),
  (8, yX8_append, cX8_append, 2, (some .int)),
  (8, yX8_clear, cX8_clear, 2, (some .int)),
  (8, yX8_fault, cX8_fault, 1, (some .int)),
  (8, yX8_load, cX8_load, 1, (some .int)),
  (8, yX8_sign, cX8_sign, 3, (some .int)),
  (8, yX8_crate, cX8_crate, 3, (some .int)),
  (8, yX8_letter, cX8_letter, 4, (some .int)),
  (8, yX8_seen, cX8_seen, 3, (some .int)),
  (8, yX8_whyNot, cX8_whyNot, 3, (some .int)),
  (8, yX8_effort, cX8_effort, 3, (some .int)),
  (8, yX8_alike, cX8_alike, 7, (some .int)),
  (8, yX8_nest, cX8_nest, 2, (some .int)),
  (8, yX8_count, cX8_count, 2, (some .int)),
  (8, yX8_ifTurned, cX8_ifTurned, 3, (some .int)),
  (8, yX8_bestTurn, cX8_bestTurn, 5, (some .int)),
  (8, yX8_undo, cX8_undo, 1, (some .int)),
  (8, yX8_save, cX8_save, 1, (some .int)),
  (8, yX8_restore, cX8_restore, 1, (some .int)),
  (8, yX8_refuse, cX8_refuse, 2, (some .int)),
  (8, yX8_viewNow, cX8_viewNow, 1, (some (.object "SlatCrates$View"))),
  (8, yX8_viewTurned, cX8_viewTurned, 2, (some (.object "SlatCrates$View"))),
  (8, yX8_isPlace, cX8_isPlace, 1, (some .boolean)),
  (8, yX8_isWanted, cX8_isWanted, 1, (some .boolean)),
  (8, yX8_isLabel, cX8_isLabel, 3, (some .boolean)),
  (9, yL_lot, cL_lot, 2, (some .int)),
  (9, yL_low, cL_low, 2, (some .int)),
  (9, yL_look, cL_look, 5, (some .long)),
  (9, yL_holds, cL_holds, 14, (some .boolean)),
  (9, yL_open, cL_open, 5, (some .boolean)),
  (9, yL_would, cL_would, 17, (some .boolean)),
  (9, yL_number, cL_number, 3, (some .boolean)),
  (9, yL_types, cL_types, 8, (some .boolean)),
  (9, yL_loads, cL_loads, 13, (some .boolean)),
  (9, yL_deeds, cL_deeds, 13, (some .boolean)),
  (9, yL_acts, cL_acts, 13, (some .boolean)),
  (9, yL_law, cL_law, 13, (some .boolean))]
def zMP : List Nat := [76, 387, 415, 419, 395, 165, 338, 344, 354, 358, 579, 106, 757, 682, 749, 690, 699, 703, 708, 716, 720, 724, 740, 744, 133, 544, 571, 548, 552, 563, 558, 92, 383, 671, 663, 695, 44, 231, 215, 379, 282, 350, 294, 227, 374, 298, 314, 223, 251, 453, 243, 536, 449, 457, 370, 239, 501, 472, 645, 466, 219, 235, 247, 258, 266, 262, 310, 761, 605, 609, 628, 513, 649, 765, 624, 686, 712, 728, 732, 736, 399, 146, 274, 286, 289, 327, 590, 323, 319, 306, 302, 334, 365, 524, 361, 528, 531, 36, 597, 616, 632, 637, 641, 667, 659, 678, 753, 540, 436, 477, 483, 497, 521, 583, 575, 211, 505, 517, 391, 406, 411, 620, 270, 509, 330, 586, 600, 422, 426, 430, 487, 490, 493, 674, 655, 652, 612, 593, 0]
def zlaw : Nat := 138
/-- the places of longs among the locals -/
def zwl : List (Nat × Nat) := [(129, 1), (135, 2), (138, 3), (138, 8)]
/-- a link of a call: class, index, kind (0 virtual, 1 static, 2 constructor, 3 static of a nest mate, 4 constructor of a nest mate, 5 Object(), 6 max, 7 min, 8 arraycopy), the method, its parameters -/
def zCL : List ((Nat × Nat) × (Nat × Nat × Nat)) := [
  ((0, 3), (5, 0, 0)),
  ((0, 21), (4, 36, 0)),
  ((0, 22), (0, 3, 0)),
  ((0, 25), (0, 80, 1)),
  ((1, 3), (5, 0, 0)),
  ((1, 22), (0, 38, 0)),
  ((1, 28), (7, 0, 2)),
  ((1, 34), (0, 7, 2)),
  ((1, 38), (0, 9, 3)),
  ((1, 42), (0, 41, 1)),
  ((1, 46), (0, 40, 1)),
  ((1, 49), (0, 55, 1)),
  ((1, 53), (0, 8, 3)),
  ((2, 3), (5, 0, 0)),
  ((2, 11), (4, 36, 0)),
  ((2, 34), (0, 75, 0)),
  ((2, 37), (0, 15, 1)),
  ((2, 41), (0, 32, 0)),
  ((2, 47), (0, 35, 1)),
  ((2, 51), (0, 16, 1)),
  ((2, 55), (0, 14, 0)),
  ((2, 59), (0, 17, 1)),
  ((2, 62), (0, 19, 3)),
  ((2, 66), (0, 20, 3)),
  ((2, 70), (0, 22, 1)),
  ((2, 73), (0, 23, 1)),
  ((2, 76), (0, 68, 4)),
  ((2, 80), (0, 70, 2)),
  ((2, 84), (1, 18, 1)),
  ((2, 88), (0, 76, 2)),
  ((2, 91), (0, 21, 0)),
  ((2, 94), (0, 77, 2)),
  ((2, 97), (0, 78, 2)),
  ((2, 100), (0, 79, 2)),
  ((2, 103), (0, 43, 1)),
  ((3, 3), (5, 0, 0)),
  ((3, 19), (0, 27, 3)),
  ((3, 23), (0, 28, 2)),
  ((3, 27), (0, 40, 1)),
  ((3, 33), (0, 29, 2)),
  ((3, 37), (0, 41, 1)),
  ((3, 40), (0, 42, 1)),
  ((3, 43), (0, 50, 1)),
  ((3, 46), (0, 30, 1)),
  ((3, 50), (0, 51, 2)),
  ((3, 54), (0, 46, 1)),
  ((3, 57), (0, 45, 2)),
  ((4, 3), (5, 0, 0)),
  ((5, 3), (5, 0, 0)),
  ((5, 37), (0, 37, 1)),
  ((5, 41), (0, 45, 2)),
  ((5, 45), (0, 43, 1)),
  ((5, 49), (0, 49, 2)),
  ((5, 53), (0, 41, 1)),
  ((5, 56), (0, 47, 1)),
  ((5, 59), (0, 50, 1)),
  ((5, 62), (0, 44, 1)),
  ((5, 65), (0, 54, 1)),
  ((5, 68), (0, 53, 1)),
  ((5, 71), (0, 40, 1)),
  ((5, 74), (0, 55, 1)),
  ((5, 77), (0, 48, 1)),
  ((5, 80), (6, 0, 2)),
  ((5, 85), (0, 46, 1)),
  ((5, 88), (0, 69, 1)),
  ((5, 92), (0, 68, 4)),
  ((5, 96), (8, 0, 5)),
  ((6, 3), (5, 0, 0)),
  ((6, 25), (0, 38, 0)),
  ((6, 30), (7, 0, 2)),
  ((6, 36), (0, 40, 1)),
  ((6, 40), (0, 48, 1)),
  ((6, 43), (1, 83, 2)),
  ((6, 47), (1, 84, 2)),
  ((6, 50), (0, 45, 2)),
  ((6, 53), (0, 43, 1)),
  ((6, 56), (0, 42, 1)),
  ((6, 59), (3, 124, 1)),
  ((6, 63), (0, 85, 2)),
  ((6, 66), (0, 87, 1)),
  ((6, 69), (0, 89, 1)),
  ((7, 9), (0, 47, 1)),
  ((7, 15), (0, 54, 1)),
  ((7, 19), (0, 43, 1)),
  ((7, 22), (0, 38, 0)),
  ((7, 26), (0, 40, 1)),
  ((7, 29), (1, 92, 2)),
  ((7, 35), (1, 96, 5)),
  ((7, 39), (0, 50, 1)),
  ((7, 42), (0, 51, 2)),
  ((8, 1), (5, 0, 0)),
  ((8, 9), (4, 36, 0)),
  ((8, 28), (2, 0, 0)),
  ((8, 35), (4, 31, 0)),
  ((8, 42), (4, 11, 0)),
  ((8, 49), (4, 24, 0)),
  ((8, 56), (4, 81, 0)),
  ((8, 63), (4, 5, 0)),
  ((8, 68), (1, 126, 1)),
  ((8, 72), (0, 38, 0)),
  ((8, 76), (0, 2, 1)),
  ((8, 80), (0, 68, 4)),
  ((8, 84), (0, 37, 1)),
  ((8, 87), (0, 56, 2)),
  ((8, 91), (0, 121, 1)),
  ((8, 95), (0, 70, 2)),
  ((8, 99), (0, 48, 1)),
  ((8, 102), (0, 57, 1)),
  ((8, 105), (0, 69, 1)),
  ((8, 109), (0, 71, 1)),
  ((8, 112), (0, 42, 1)),
  ((8, 115), (0, 58, 1)),
  ((8, 118), (0, 72, 1)),
  ((8, 121), (0, 32, 0)),
  ((8, 124), (0, 33, 1)),
  ((8, 126), (0, 34, 0)),
  ((8, 129), (0, 13, 1)),
  ((8, 133), (0, 12, 0)),
  ((8, 137), (0, 67, 0)),
  ((8, 141), (0, 73, 1)),
  ((8, 144), (0, 25, 2)),
  ((8, 148), (0, 26, 1)),
  ((8, 151), (0, 40, 1)),
  ((8, 154), (0, 41, 1)),
  ((8, 157), (0, 46, 1)),
  ((8, 160), (0, 47, 1)),
  ((8, 163), (0, 43, 1)),
  ((8, 166), (0, 50, 1)),
  ((8, 169), (0, 52, 1)),
  ((8, 172), (0, 53, 1)),
  ((8, 175), (0, 44, 1)),
  ((8, 178), (1, 92, 2)),
  ((8, 184), (0, 122, 0)),
  ((8, 188), (0, 89, 1)),
  ((8, 191), (0, 87, 1)),
  ((8, 194), (0, 59, 1)),
  ((8, 197), (1, 124, 1)),
  ((8, 200), (0, 45, 2)),
  ((8, 203), (0, 85, 2)),
  ((8, 205), (1, 93, 2)),
  ((8, 208), (1, 95, 2)),
  ((8, 211), (1, 125, 1)),
  ((8, 214), (0, 86, 3)),
  ((8, 218), (0, 6, 1)),
  ((8, 222), (0, 10, 1)),
  ((8, 225), (0, 60, 0)),
  ((8, 228), (0, 61, 0)),
  ((8, 231), (0, 62, 0)),
  ((8, 234), (0, 63, 0)),
  ((8, 237), (0, 65, 0)),
  ((8, 240), (0, 64, 0)),
  ((8, 243), (0, 90, 0)),
  ((8, 246), (0, 66, 0)),
  ((8, 249), (0, 88, 0)),
  ((8, 252), (0, 91, 0)),
  ((8, 255), (1, 94, 1)),
  ((8, 258), (0, 39, 0)),
  ((8, 261), (0, 1, 0)),
  ((8, 262), (0, 123, 1)),
  ((8, 266), (0, 4, 1)),
  ((8, 269), (0, 80, 1)),
  ((8, 272), (0, 74, 0)),
  ((8, 275), (0, 82, 1)),
  ((9, 13), (0, 115, 1)),
  ((9, 19), (0, 108, 2)),
  ((9, 23), (0, 109, 2)),
  ((9, 26), (0, 110, 2)),
  ((9, 31), (1, 131, 3)),
  ((9, 35), (1, 128, 2)),
  ((9, 38), (0, 111, 2)),
  ((9, 41), (0, 116, 2)),
  ((9, 44), (0, 117, 0)),
  ((9, 48), (0, 112, 2)),
  ((9, 51), (0, 107, 2)),
  ((9, 54), (0, 114, 1)),
  ((9, 57), (0, 113, 4)),
  ((9, 61), (0, 103, 1)),
  ((9, 64), (0, 104, 0)),
  ((9, 67), (1, 133, 3)),
  ((9, 70), (1, 129, 1)),
  ((9, 74), (1, 134, 2)),
  ((9, 78), (0, 105, 0)),
  ((9, 81), (0, 106, 0)),
  ((9, 84), (0, 99, 2)),
  ((9, 87), (0, 100, 1)),
  ((9, 90), (0, 101, 1)),
  ((9, 93), (0, 102, 1)),
  ((9, 96), (0, 98, 4)),
  ((9, 99), (1, 136, 3)),
  ((9, 102), (1, 135, 2)),
  ((9, 105), (2, 97, 0)),
  ((9, 106), (1, 130, 1)),
  ((9, 110), (1, 132, 2)),
  ((9, 113), (0, 118, 0)),
  ((9, 116), (0, 120, 0)),
  ((9, 119), (0, 119, 0)),
  ((9, 122), (1, 127, 2)),
  ((9, 126), (1, 137, 3))]
def zCP : List (List Nat) := [
  [77, 38, 39],
  [1, 43, 22],
  [416, 418, 4, 23],
  [396, 397, 398, 22],
  [166, 38, 39],
  [339, 213, 214, 22],
  [340, 277, 29, 278],
  [341, 343, 1, 28],
  [355, 357, 3, 28],
  [347, 348, 349, 22],
  [345, 280, 281, 22],
  [346, 237, 238, 22],
  [351, 353, 2, 28],
  [107, 38, 39],
  [4, 43, 22],
  [683, 684, 685, 22],
  [687, 689, 11, 25],
  [691, 381, 382, 24],
  [692, 693, 694, 24],
  [696, 698, 12, 25],
  [746, 748, 19, 25],
  [700, 702, 13, 25],
  [713, 715, 14, 25],
  [717, 719, 15, 25],
  [737, 739, 17, 25],
  [741, 743, 18, 25],
  [704, 603, 604, 22],
  [705, 626, 627, 22],
  [706, 707, 25],
  [709, 710, 711, 22],
  [721, 723, 16, 25],
  [725, 726, 727, 22],
  [729, 730, 731, 22],
  [733, 734, 735, 22],
  [745, 225, 226, 22],
  [134, 38, 39],
  [545, 547, 6, 26],
  [549, 551, 7, 26],
  [559, 280, 281, 22],
  [560, 562, 9, 26],
  [564, 348, 349, 22],
  [565, 292, 293, 22],
  [566, 241, 242, 22],
  [555, 557, 8, 26],
  [567, 534, 535, 22],
  [553, 312, 313, 22],
  [554, 296, 297, 22],
  [93, 38, 39],
  [45, 38, 39],
  [228, 229, 230, 22],
  [315, 296, 297, 22],
  [224, 225, 226, 22],
  [450, 451, 452, 22],
  [458, 348, 349, 22],
  [220, 221, 222, 22],
  [240, 241, 242, 22],
  [371, 372, 373, 22],
  [473, 368, 369, 22],
  [467, 455, 456, 22],
  [468, 280, 281, 22],
  [236, 237, 238, 22],
  [248, 249, 250, 22],
  [252, 253, 29, 254],
  [311, 312, 313, 22],
  [606, 607, 608, 22],
  [766, 603, 604, 22],
  [400, 402, 401, 31],
  [147, 38, 39],
  [275, 213, 214, 22],
  [276, 277, 29, 278],
  [279, 280, 281, 22],
  [283, 249, 250, 22],
  [284, 285, 27],
  [287, 288, 27],
  [295, 296, 297, 22],
  [290, 225, 226, 22],
  [291, 292, 293, 22],
  [8, 329, 21],
  [324, 325, 326, 27],
  [320, 321, 322, 27],
  [303, 304, 305, 27],
  [366, 221, 222, 22],
  [367, 368, 369, 22],
  [375, 225, 226, 22],
  [362, 213, 214, 22],
  [525, 280, 281, 22],
  [363, 364, 30],
  [529, 530, 30],
  [532, 241, 242, 22],
  [533, 534, 535, 22],
  [37, 38, 39],
  [0, 43, 22],
  [74, 75, 23],
  [2, 91, 24],
  [3, 105, 25],
  [5, 132, 26],
  [6, 145, 27],
  [7, 164, 28],
  [598, 599, 21],
  [212, 213, 214, 22],
  [412, 413, 414, 23],
  [602, 603, 604, 22],
  [437, 229, 230, 22],
  [498, 499, 500, 22],
  [617, 619, 10, 21],
  [625, 626, 627, 22],
  [444, 249, 250, 22],
  [469, 470, 471, 22],
  [633, 607, 608, 22],
  [510, 511, 512, 22],
  [440, 292, 293, 22],
  [642, 643, 644, 22],
  [646, 647, 648, 22],
  [380, 381, 382, 24],
  [668, 669, 670, 24],
  [660, 661, 662, 24],
  [679, 680, 681, 25],
  [754, 755, 756, 25],
  [758, 759, 760, 22],
  [762, 763, 764, 22],
  [541, 542, 543, 26],
  [568, 569, 570, 26],
  [438, 280, 281, 22],
  [439, 348, 349, 22],
  [441, 312, 313, 22],
  [442, 221, 222, 22],
  [443, 225, 226, 22],
  [445, 241, 242, 22],
  [446, 447, 448, 22],
  [454, 455, 456, 22],
  [459, 372, 373, 22],
  [460, 364, 30],
  [267, 269, 0, 21],
  [461, 304, 305, 27],
  [462, 321, 322, 27],
  [463, 464, 465, 22],
  [478, 329, 21],
  [479, 296, 297, 22],
  [484, 325, 326, 27],
  [522, 523, 30],
  [526, 527, 30],
  [584, 585, 21],
  [587, 588, 589, 27],
  [335, 336, 337, 28],
  [576, 577, 578, 28],
  [216, 217, 218, 22],
  [232, 233, 234, 22],
  [244, 245, 246, 22],
  [255, 256, 257, 22],
  [259, 260, 261, 22],
  [263, 264, 265, 22],
  [299, 300, 301, 27],
  [307, 308, 309, 22],
  [316, 317, 318, 27],
  [331, 332, 333, 27],
  [359, 360, 30],
  [376, 377, 378, 22],
  [384, 385, 386, 23],
  [506, 508, 5, 21],
  [392, 393, 394, 23],
  [407, 397, 398, 22],
  [621, 622, 623, 22],
  [271, 272, 273, 27],
  [208, 209, 210, 21],
  [433, 434, 435, 21],
  [474, 475, 476, 21],
  [480, 481, 482, 21],
  [488, 489, 20],
  [424, 425, 20],
  [494, 495, 496, 21],
  [502, 503, 504, 21],
  [514, 515, 516, 21],
  [518, 519, 520, 21],
  [537, 538, 539, 21],
  [572, 573, 574, 21],
  [580, 581, 582, 21],
  [664, 665, 666, 21],
  [656, 657, 658, 21],
  [672, 673, 20],
  [428, 429, 20],
  [653, 654, 20],
  [675, 676, 677, 21],
  [750, 751, 752, 21],
  [613, 614, 615, 21],
  [629, 630, 631, 21],
  [634, 635, 636, 21],
  [638, 639, 640, 21],
  [594, 595, 596, 21],
  [610, 611, 20],
  [650, 651, 20],
  [34, 35, 21],
  [485, 486, 20],
  [491, 492, 20],
  [388, 389, 390, 21],
  [408, 409, 410, 21],
  [403, 404, 405, 21],
  [420, 421, 20],
  [591, 592, 20]]
def zNWt : List (String × Nat × MethodName × String) := [
  (RX8, 9, yX5_init, RX8),
  (RX0, 21, yX5_init, RX8),
  (RX8, 35, yX4_init, RX8),
  (RX8, 42, yX2_init, RX8),
  (RX2, 11, yX5_init, RX8),
  (RX8, 49, yX3_init, RX8),
  (RX8, 56, yX6_init, RX8),
  (RX8, 63, yX1_init, RX8),
  (RX6, 59, yX8_isPlace, RX8)]
def zNW : List Cond := zNWt.map fun q => .methodLinkNest q.1 q.2.1 q.2.2.1 q.2.2.2
def zFL : List ((Nat × Nat) × (Nat × Nat)) := [
  ((0, 11), (0, 0)),
  ((0, 17), (0, 1)),
  ((1, 9), (1, 0)),
  ((1, 15), (1, 1)),
  ((1, 18), (1, 2)),
  ((2, 12), (2, 0)),
  ((2, 18), (2, 1)),
  ((2, 22), (2, 2)),
  ((2, 25), (2, 3)),
  ((2, 28), (2, 4)),
  ((2, 31), (2, 5)),
  ((3, 11), (3, 0)),
  ((3, 15), (3, 1)),
  ((4, 9), (4, 0)),
  ((4, 15), (4, 1)),
  ((5, 9), (5, 0)),
  ((5, 15), (5, 1)),
  ((5, 18), (5, 2)),
  ((5, 21), (5, 3)),
  ((5, 24), (5, 4)),
  ((5, 27), (5, 5)),
  ((5, 30), (5, 6)),
  ((5, 34), (5, 7)),
  ((6, 9), (6, 0)),
  ((6, 15), (6, 1)),
  ((6, 18), (6, 2)),
  ((6, 21), (6, 3)),
  ((8, 10), (7, 0)),
  ((8, 16), (7, 1)),
  ((8, 19), (7, 2)),
  ((8, 22), (7, 3)),
  ((8, 29), (7, 4)),
  ((8, 36), (7, 5)),
  ((8, 43), (7, 6)),
  ((8, 50), (7, 7)),
  ((8, 57), (7, 8)),
  ((8, 64), (7, 9))]
def zFP : List Nat := [81, 82, 167, 168, 169, 110, 111, 112, 113, 114, 115, 135, 136, 94, 95, 46, 47, 48, 49, 50, 51, 52, 53, 148, 149, 150, 151, 177, 178, 179, 180, 181, 182, 183, 184, 185, 186]
def zNL : List ((Nat × Nat) × Nat) := [
  ((0, 9), 5),
  ((2, 9), 5),
  ((8, 7), 5),
  ((8, 26), 0),
  ((8, 33), 4),
  ((8, 40), 2),
  ((8, 47), 3),
  ((8, 54), 6),
  ((8, 61), 1),
  ((9, 14), 7)]
def zNP : List (List Nat) := [
  [78, 41, 22], [108, 41, 22], [40, 41, 22], [72, 73, 23], [88, 89, 24], [102, 103, 25], [129, 130, 26], [142, 143, 27], [161, 162, 28], [32, 33, 21]]
def zAL : List (Nat × Nat) := [(0, 9)]
def zAP : List Nat := [78]
def zIL : List ((Nat × Nat) × Int32) := [((8, 278), 531440), ((9, 7), -908008083), ((9, 8), 2147483647)]
def zIP : List Nat := [601, 423, 427]
def zJL : List ((Nat × Nat) × Int64) := [((9, 9), 401), ((9, 11), 31)]
def zJP : List Nat := [431, 432]
theorem ws_arr_int : Cond.arrayClass .int ∈ WS := WS_of 71 (by decide +kernel) rfl
theorem ws_arr_char : Cond.arrayClass .char ∈ WS := WS_of 101 (by decide +kernel) rfl
def zw (i : Nat) (w : Cond) : Bool := decide (lw_tbl[i]? = some w) && goodWord w
theorem zw_ws {i : Nat} {w : Cond} (h : zw i w = true) : w ∈ WS := by
  simp only [zw, Bool.and_eq_true, decide_eq_true_eq] at h
  exact WS_of i h.1 h.2
def zy (m : Nat) : MethodName := match zML[m]? with
  | some q => q.2.1
  | none => yL_law
def zb (m : Nat) : ByteArray := match zML[m]? with
  | some q => q.2.2.1
  | none => code
def zml (m : Nat) : Nat := match zML[m]? with
  | some q => q.2.2.2.1
  | none => 0
def zret (m : Nat) : Option FieldType := match zML[m]? with
  | some q => q.2.2.2.2
  | none => none
def zcl (m : Nat) : Nat := match zML[m]? with
  | some q => q.1
  | none => 9
set_option maxRecDepth 20000 in
theorem zcw_0 : Cond.code yX0_init cX0_init 2 none ∈ WS := WS_of 76 rfl rfl
set_option maxRecDepth 20000 in
theorem zcw_1 : Cond.code yX0_length cX0_length 1 (some .int) ∈ WS := WS_of 387 rfl rfl
set_option maxRecDepth 20000 in
theorem zcw_2 : Cond.code yX0_keep cX0_keep 2 none ∈ WS := WS_of 415 rfl rfl
set_option maxRecDepth 20000 in
theorem zcw_3 : Cond.code yX0_dropOldest cX0_dropOldest 3 none ∈ WS := WS_of 419 rfl rfl
set_option maxRecDepth 20000 in
theorem zcw_4 : Cond.code yX0_takeBack cX0_takeBack 2 none ∈ WS := WS_of 395 rfl rfl
set_option maxRecDepth 20000 in
theorem zcw_5 : Cond.code yX1_init cX1_init 1 none ∈ WS := WS_of 165 rfl rfl
set_option maxRecDepth 20000 in
theorem zcw_6 : Cond.code yX1_find cX1_find 6 (some .int) ∈ WS := WS_of 338 rfl rfl
set_option maxRecDepth 20000 in
theorem zcw_7 : Cond.code yX1_measure cX1_measure 5 none ∈ WS := WS_of 344 rfl rfl
set_option maxRecDepth 20000 in
theorem zcw_8 : Cond.code yX1_longestIn cX1_longestIn 6 (some .int) ∈ WS := WS_of 354 rfl rfl
set_option maxRecDepth 20000 in
theorem zcw_9 : Cond.code yX1_firstOfLongest cX1_firstOfLongest 6 (some .int) ∈ WS := WS_of 358 rfl rfl
set_option maxRecDepth 20000 in
theorem zcw_10 : Cond.code yX1_crateAt cX1_crateAt 2 (some .int) ∈ WS := WS_of 579 rfl rfl
set_option maxRecDepth 20000 in
theorem zcw_11 : Cond.code yX2_init cX2_init 1 none ∈ WS := WS_of 106 rfl rfl
set_option maxRecDepth 20000 in
theorem zcw_12 : Cond.code yX2_found cX2_found 1 (some (.object "SlatCrates$Stock")) ∈ WS := WS_of 757 rfl rfl
set_option maxRecDepth 20000 in
theorem zcw_13 : Cond.code yX2_read cX2_read 3 (some .int) ∈ WS := WS_of 682 rfl rfl
set_option maxRecDepth 20000 in
theorem zcw_14 : Cond.code yX2_isComplete cX2_isComplete 2 (some .boolean) ∈ WS := WS_of 749 rfl rfl
set_option maxRecDepth 20000 in
theorem zcw_15 : Cond.code yX2_begin cX2_begin 2 none ∈ WS := WS_of 690 rfl rfl
set_option maxRecDepth 20000 in
theorem zcw_16 : Cond.code yX2_take cX2_take 2 (some .boolean) ∈ WS := WS_of 699 rfl rfl
set_option maxRecDepth 20000 in
theorem zcw_17 : Cond.code yX2_takeLetter cX2_takeLetter 2 (some .boolean) ∈ WS := WS_of 703 rfl rfl
set_option maxRecDepth 20000 in
theorem zcw_18 : Cond.code yX2_weightOf cX2_weightOf 3 (some .int) ∈ WS := WS_of 708 rfl rfl
set_option maxRecDepth 20000 in
theorem zcw_19 : Cond.code yX2_takeMark cX2_takeMark 4 (some .boolean) ∈ WS := WS_of 716 rfl rfl
set_option maxRecDepth 20000 in
theorem zcw_20 : Cond.code yX2_takeDigit cX2_takeDigit 6 (some .boolean) ∈ WS := WS_of 720 rfl rfl
set_option maxRecDepth 20000 in
theorem zcw_21 : Cond.code yX2_setNumber cX2_setNumber 1 none ∈ WS := WS_of 724 rfl rfl
set_option maxRecDepth 20000 in
theorem zcw_22 : Cond.code yX2_takeOpening cX2_takeOpening 2 (some .boolean) ∈ WS := WS_of 740 rfl rfl
set_option maxRecDepth 20000 in
theorem zcw_23 : Cond.code yX2_takeBehindNest cX2_takeBehindNest 2 (some .boolean) ∈ WS := WS_of 744 rfl rfl
set_option maxRecDepth 20000 in
theorem zcw_24 : Cond.code yX3_init cX3_init 1 none ∈ WS := WS_of 133 rfl rfl
set_option maxRecDepth 20000 in
theorem zcw_25 : Cond.code yX3_write cX3_write 3 none ∈ WS := WS_of 544 rfl rfl
set_option maxRecDepth 20000 in
theorem zcw_26 : Cond.code yX3_signAt cX3_signAt 2 (some .int) ∈ WS := WS_of 571 rfl rfl
set_option maxRecDepth 20000 in
theorem zcw_27 : Cond.code yX3_writeNest cX3_writeNest 6 none ∈ WS := WS_of 548 rfl rfl
set_option maxRecDepth 20000 in
theorem zcw_28 : Cond.code yX3_writeLabel cX3_writeLabel 5 none ∈ WS := WS_of 552 rfl rfl
set_option maxRecDepth 20000 in
theorem zcw_29 : Cond.code yX3_writeNumber cX3_writeNumber 3 none ∈ WS := WS_of 563 rfl rfl
set_option maxRecDepth 20000 in
theorem zcw_30 : Cond.code yX3_writeSign cX3_writeSign 2 none ∈ WS := WS_of 558 rfl rfl
set_option maxRecDepth 20000 in
theorem zcw_31 : Cond.code yX4_init cX4_init 1 none ∈ WS := WS_of 92 rfl rfl
set_option maxRecDepth 20000 in
theorem zcw_32 : Cond.code yX4_length cX4_length 1 (some .int) ∈ WS := WS_of 383 rfl rfl
set_option maxRecDepth 20000 in
theorem zcw_33 : Cond.code yX4_add cX4_add 2 none ∈ WS := WS_of 671 rfl rfl
set_option maxRecDepth 20000 in
theorem zcw_34 : Cond.code yX4_empty cX4_empty 1 none ∈ WS := WS_of 663 rfl rfl
set_option maxRecDepth 20000 in
theorem zcw_35 : Cond.code yX4_signAt cX4_signAt 2 (some .char) ∈ WS := WS_of 695 rfl rfl
set_option maxRecDepth 20000 in
theorem zcw_36 : Cond.code yX5_init cX5_init 1 none ∈ WS := WS_of 44 rfl rfl
set_option maxRecDepth 20000 in
theorem zcw_37 : Cond.code yX5_isCrate cX5_isCrate 2 (some .boolean) ∈ WS := WS_of 231 rfl rfl
set_option maxRecDepth 20000 in
theorem zcw_38 : Cond.code yX5_crates cX5_crates 1 (some .int) ∈ WS := WS_of 215 rfl rfl
set_option maxRecDepth 20000 in
theorem zcw_39 : Cond.code yX5_refused cX5_refused 1 (some .int) ∈ WS := WS_of 379 rfl rfl
set_option maxRecDepth 20000 in
theorem zcw_40 : Cond.code yX5_sizeOf cX5_sizeOf 2 (some .int) ∈ WS := WS_of 282 rfl rfl
set_option maxRecDepth 20000 in
theorem zcw_41 : Cond.code yX5_roomOf cX5_roomOf 2 (some .int) ∈ WS := WS_of 350 rfl rfl
set_option maxRecDepth 20000 in
theorem zcw_42 : Cond.code yX5_gapsOf cX5_gapsOf 2 (some .int) ∈ WS := WS_of 294 rfl rfl
set_option maxRecDepth 20000 in
theorem zcw_43 : Cond.code yX5_holderOf cX5_holderOf 2 (some .int) ∈ WS := WS_of 227 rfl rfl
set_option maxRecDepth 20000 in
theorem zcw_44 : Cond.code yX5_placeOf cX5_placeOf 2 (some .int) ∈ WS := WS_of 374 rfl rfl
set_option maxRecDepth 20000 in
theorem zcw_45 : Cond.code yX5_letterAt cX5_letterAt 5 (some .int) ∈ WS := WS_of 298 rfl rfl
set_option maxRecDepth 20000 in
theorem zcw_46 : Cond.code yX5_lettersOf cX5_lettersOf 4 (some .int) ∈ WS := WS_of 314 rfl rfl
set_option maxRecDepth 20000 in
theorem zcw_47 : Cond.code yX5_isOnGround cX5_isOnGround 2 (some .boolean) ∈ WS := WS_of 223 rfl rfl
set_option maxRecDepth 20000 in
theorem zcw_48 : Cond.code yX5_depthOf cX5_depthOf 4 (some .int) ∈ WS := WS_of 251 rfl rfl
set_option maxRecDepth 20000 in
theorem zcw_49 : Cond.code yX5_isAround cX5_isAround 5 (some .boolean) ∈ WS := WS_of 453 rfl rfl
set_option maxRecDepth 20000 in
theorem zcw_50 : Cond.code yX5_pileOf cX5_pileOf 4 (some .int) ∈ WS := WS_of 243 rfl rfl
set_option maxRecDepth 20000 in
theorem zcw_51 : Cond.code yX5_crateInPile cX5_crateInPile 4 (some .int) ∈ WS := WS_of 536 rfl rfl
set_option maxRecDepth 20000 in
theorem zcw_52 : Cond.code yX5_loadOf cX5_loadOf 4 (some .int) ∈ WS := WS_of 449 rfl rfl
set_option maxRecDepth 20000 in
theorem zcw_53 : Cond.code yX5_roomLeftIn cX5_roomLeftIn 4 (some .int) ∈ WS := WS_of 457 rfl rfl
set_option maxRecDepth 20000 in
theorem zcw_54 : Cond.code yX5_above cX5_above 2 (some .int) ∈ WS := WS_of 370 rfl rfl
set_option maxRecDepth 20000 in
theorem zcw_55 : Cond.code yX5_isLoose cX5_isLoose 2 (some .boolean) ∈ WS := WS_of 239 rfl rfl
set_option maxRecDepth 20000 in
theorem zcw_56 : Cond.code yX5_reasonNotToPut cX5_reasonNotToPut 4 (some .int) ∈ WS := WS_of 501 rfl rfl
set_option maxRecDepth 20000 in
theorem zcw_57 : Cond.code yX5_reasonNotToGround cX5_reasonNotToGround 2 (some .int) ∈ WS := WS_of 472 rfl rfl
set_option maxRecDepth 20000 in
theorem zcw_58 : Cond.code yX5_reasonNotToBreak cX5_reasonNotToBreak 2 (some .int) ∈ WS := WS_of 645 rfl rfl
set_option maxRecDepth 20000 in
theorem zcw_59 : Cond.code yX5_bestHolderFor cX5_bestHolderFor 7 (some .int) ∈ WS := WS_of 466 rfl rfl
set_option maxRecDepth 20000 in
theorem zcw_60 : Cond.code yX5_onGround cX5_onGround 3 (some .int) ∈ WS := WS_of 219 rfl rfl
set_option maxRecDepth 20000 in
theorem zcw_61 : Cond.code yX5_loose cX5_loose 3 (some .int) ∈ WS := WS_of 235 rfl rfl
set_option maxRecDepth 20000 in
theorem zcw_62 : Cond.code yX5_greatestDepth cX5_greatestDepth 3 (some .int) ∈ WS := WS_of 247 rfl rfl
set_option maxRecDepth 20000 in
theorem zcw_63 : Cond.code yX5_sizes cX5_sizes 3 (some .int) ∈ WS := WS_of 258 rfl rfl
set_option maxRecDepth 20000 in
theorem zcw_64 : Cond.code yX5_sizesLying cX5_sizesLying 3 (some .int) ∈ WS := WS_of 266 rfl rfl
set_option maxRecDepth 20000 in
theorem zcw_65 : Cond.code yX5_rooms cX5_rooms 3 (some .int) ∈ WS := WS_of 262 rfl rfl
set_option maxRecDepth 20000 in
theorem zcw_66 : Cond.code yX5_letters cX5_letters 3 (some .int) ∈ WS := WS_of 310 rfl rfl
set_option maxRecDepth 20000 in
theorem zcw_67 : Cond.code yX5_isSound cX5_isSound 2 (some .boolean) ∈ WS := WS_of 761 rfl rfl
set_option maxRecDepth 20000 in
theorem zcw_68 : Cond.code yX5_add cX5_add 6 (some .int) ∈ WS := WS_of 605 rfl rfl
set_option maxRecDepth 20000 in
theorem zcw_69 : Cond.code yX5_lift cX5_lift 2 none ∈ WS := WS_of 609 rfl rfl
set_option maxRecDepth 20000 in
theorem zcw_70 : Cond.code yX5_lay cX5_lay 3 none ∈ WS := WS_of 628 rfl rfl
set_option maxRecDepth 20000 in
theorem zcw_71 : Cond.code yX5_turnSlats cX5_turnSlats 3 none ∈ WS := WS_of 513 rfl rfl
set_option maxRecDepth 20000 in
theorem zcw_72 : Cond.code yX5_remove cX5_remove 3 none ∈ WS := WS_of 649 rfl rfl
set_option maxRecDepth 20000 in
theorem zcw_73 : Cond.code yX5_addAll cX5_addAll 5 none ∈ WS := WS_of 765 rfl rfl
set_option maxRecDepth 20000 in
theorem zcw_74 : Cond.code yX5_countRefusal cX5_countRefusal 1 none ∈ WS := WS_of 624 rfl rfl
set_option maxRecDepth 20000 in
theorem zcw_75 : Cond.code yX5_empty cX5_empty 1 none ∈ WS := WS_of 686 rfl rfl
set_option maxRecDepth 20000 in
theorem zcw_76 : Cond.code yX5_setLabel cX5_setLabel 3 none ∈ WS := WS_of 712 rfl rfl
set_option maxRecDepth 20000 in
theorem zcw_77 : Cond.code yX5_setSize cX5_setSize 3 none ∈ WS := WS_of 728 rfl rfl
set_option maxRecDepth 20000 in
theorem zcw_78 : Cond.code yX5_setRoom cX5_setRoom 3 none ∈ WS := WS_of 732 rfl rfl
set_option maxRecDepth 20000 in
theorem zcw_79 : Cond.code yX5_setGaps cX5_setGaps 3 none ∈ WS := WS_of 736 rfl rfl
set_option maxRecDepth 20000 in
theorem zcw_80 : Cond.code yX5_copyFrom cX5_copyFrom 2 none ∈ WS := WS_of 399 rfl rfl
set_option maxRecDepth 20000 in
theorem zcw_81 : Cond.code yX6_init cX6_init 1 none ∈ WS := WS_of 146 rfl rfl
set_option maxRecDepth 20000 in
theorem zcw_82 : Cond.code yX6_look cX6_look 3 none ∈ WS := WS_of 274 rfl rfl
set_option maxRecDepth 20000 in
theorem zcw_83 : Cond.code yX6_signsOf cX6_signsOf 7 (some .int) ∈ WS := WS_of 286 rfl rfl
set_option maxRecDepth 20000 in
theorem zcw_84 : Cond.code yX6_openAround cX6_openAround 5 (some .int) ∈ WS := WS_of 289 rfl rfl
set_option maxRecDepth 20000 in
theorem zcw_85 : Cond.code yX6_signAt cX6_signAt 4 (some .int) ∈ WS := WS_of 327 rfl rfl
set_option maxRecDepth 20000 in
theorem zcw_86 : Cond.code yX6_shows cX6_shows 4 (some .boolean) ∈ WS := WS_of 590 rfl rfl
set_option maxRecDepth 20000 in
theorem zcw_87 : Cond.code yX6_lettersSeenOf cX6_lettersSeenOf 4 (some .int) ∈ WS := WS_of 323 rfl rfl
set_option maxRecDepth 20000 in
theorem zcw_88 : Cond.code yX6_lettersSeen cX6_lettersSeen 3 (some .int) ∈ WS := WS_of 319 rfl rfl
set_option maxRecDepth 20000 in
theorem zcw_89 : Cond.code yX6_canTell cX6_canTell 3 (some .boolean) ∈ WS := WS_of 306 rfl rfl
set_option maxRecDepth 20000 in
theorem zcw_90 : Cond.code yX6_tellable cX6_tellable 3 (some .int) ∈ WS := WS_of 302 rfl rfl
set_option maxRecDepth 20000 in
theorem zcw_91 : Cond.code yX6_differentRows cX6_differentRows 5 (some .int) ∈ WS := WS_of 334 rfl rfl
set_option maxRecDepth 20000 in
theorem zcw_92 : Cond.code yX7_effortFromBelow cX7_effortFromBelow 5 (some .int) ∈ WS := WS_of 365 rfl rfl
set_option maxRecDepth 20000 in
theorem zcw_93 : Cond.code yX7_sumGoingUp cX7_sumGoingUp 4 (some .int) ∈ WS := WS_of 524 rfl rfl
set_option maxRecDepth 20000 in
theorem zcw_94 : Cond.code yX7_sumOfAll cX7_sumOfAll 3 (some .int) ∈ WS := WS_of 361 rfl rfl
set_option maxRecDepth 20000 in
theorem zcw_95 : Cond.code yX7_sumGoingDown cX7_sumGoingDown 4 (some .int) ∈ WS := WS_of 528 rfl rfl
set_option maxRecDepth 20000 in
theorem zcw_96 : Cond.code yX7_sumInPile cX7_sumInPile 10 (some .int) ∈ WS := WS_of 531 rfl rfl
set_option maxRecDepth 20000 in
theorem zcw_97 : Cond.code yX8_init cX8_init 1 none ∈ WS := WS_of 36 rfl rfl
set_option maxRecDepth 20000 in
theorem zcw_98 : Cond.code yX8_make cX8_make 5 (some .int) ∈ WS := WS_of 597 rfl rfl
set_option maxRecDepth 20000 in
theorem zcw_99 : Cond.code yX8_put cX8_put 4 (some .int) ∈ WS := WS_of 616 rfl rfl
set_option maxRecDepth 20000 in
theorem zcw_100 : Cond.code yX8_ground cX8_ground 3 (some .int) ∈ WS := WS_of 632 rfl rfl
set_option maxRecDepth 20000 in
theorem zcw_101 : Cond.code yX8_turn cX8_turn 2 (some .int) ∈ WS := WS_of 637 rfl rfl
set_option maxRecDepth 20000 in
theorem zcw_102 : Cond.code yX8_breakUp cX8_breakUp 3 (some .int) ∈ WS := WS_of 641 rfl rfl
set_option maxRecDepth 20000 in
theorem zcw_103 : Cond.code yX8_append cX8_append 2 (some .int) ∈ WS := WS_of 667 rfl rfl
set_option maxRecDepth 20000 in
theorem zcw_104 : Cond.code yX8_clear cX8_clear 2 (some .int) ∈ WS := WS_of 659 rfl rfl
set_option maxRecDepth 20000 in
theorem zcw_105 : Cond.code yX8_fault cX8_fault 1 (some .int) ∈ WS := WS_of 678 rfl rfl
set_option maxRecDepth 20000 in
theorem zcw_106 : Cond.code yX8_load cX8_load 1 (some .int) ∈ WS := WS_of 753 rfl rfl
set_option maxRecDepth 20000 in
theorem zcw_107 : Cond.code yX8_sign cX8_sign 3 (some .int) ∈ WS := WS_of 540 rfl rfl
set_option maxRecDepth 20000 in
theorem zcw_108 : Cond.code yX8_crate cX8_crate 3 (some .int) ∈ WS := WS_of 436 rfl rfl
set_option maxRecDepth 20000 in
theorem zcw_109 : Cond.code yX8_letter cX8_letter 4 (some .int) ∈ WS := WS_of 477 rfl rfl
set_option maxRecDepth 20000 in
theorem zcw_110 : Cond.code yX8_seen cX8_seen 3 (some .int) ∈ WS := WS_of 483 rfl rfl
set_option maxRecDepth 20000 in
theorem zcw_111 : Cond.code yX8_whyNot cX8_whyNot 3 (some .int) ∈ WS := WS_of 497 rfl rfl
set_option maxRecDepth 20000 in
theorem zcw_112 : Cond.code yX8_effort cX8_effort 3 (some .int) ∈ WS := WS_of 521 rfl rfl
set_option maxRecDepth 20000 in
theorem zcw_113 : Cond.code yX8_alike cX8_alike 7 (some .int) ∈ WS := WS_of 583 rfl rfl
set_option maxRecDepth 20000 in
theorem zcw_114 : Cond.code yX8_nest cX8_nest 2 (some .int) ∈ WS := WS_of 575 rfl rfl
set_option maxRecDepth 20000 in
theorem zcw_115 : Cond.code yX8_count cX8_count 2 (some .int) ∈ WS := WS_of 211 rfl rfl
set_option maxRecDepth 20000 in
theorem zcw_116 : Cond.code yX8_ifTurned cX8_ifTurned 3 (some .int) ∈ WS := WS_of 505 rfl rfl
set_option maxRecDepth 20000 in
theorem zcw_117 : Cond.code yX8_bestTurn cX8_bestTurn 5 (some .int) ∈ WS := WS_of 517 rfl rfl
set_option maxRecDepth 20000 in
theorem zcw_118 : Cond.code yX8_undo cX8_undo 1 (some .int) ∈ WS := WS_of 391 rfl rfl
set_option maxRecDepth 20000 in
theorem zcw_119 : Cond.code yX8_save cX8_save 1 (some .int) ∈ WS := WS_of 406 rfl rfl
set_option maxRecDepth 20000 in
theorem zcw_120 : Cond.code yX8_restore cX8_restore 1 (some .int) ∈ WS := WS_of 411 rfl rfl
set_option maxRecDepth 20000 in
theorem zcw_121 : Cond.code yX8_refuse cX8_refuse 2 (some .int) ∈ WS := WS_of 620 rfl rfl
set_option maxRecDepth 20000 in
theorem zcw_122 : Cond.code yX8_viewNow cX8_viewNow 1 (some (.object "SlatCrates$View")) ∈ WS := WS_of 270 rfl rfl
set_option maxRecDepth 20000 in
theorem zcw_123 : Cond.code yX8_viewTurned cX8_viewTurned 2 (some (.object "SlatCrates$View")) ∈ WS := WS_of 509 rfl rfl
set_option maxRecDepth 20000 in
theorem zcw_124 : Cond.code yX8_isPlace cX8_isPlace 1 (some .boolean) ∈ WS := WS_of 330 rfl rfl
set_option maxRecDepth 20000 in
theorem zcw_125 : Cond.code yX8_isWanted cX8_isWanted 1 (some .boolean) ∈ WS := WS_of 586 rfl rfl
set_option maxRecDepth 20000 in
theorem zcw_126 : Cond.code yX8_isLabel cX8_isLabel 3 (some .boolean) ∈ WS := WS_of 600 rfl rfl
set_option maxRecDepth 20000 in
theorem zcw_127 : Cond.code yL_lot cL_lot 2 (some .int) ∈ WS := WS_of 422 rfl rfl
set_option maxRecDepth 20000 in
theorem zcw_128 : Cond.code yL_low cL_low 2 (some .int) ∈ WS := WS_of 426 rfl rfl
set_option maxRecDepth 20000 in
theorem zcw_129 : Cond.code yL_look cL_look 5 (some .long) ∈ WS := WS_of 430 rfl rfl
set_option maxRecDepth 20000 in
theorem zcw_130 : Cond.code yL_holds cL_holds 14 (some .boolean) ∈ WS := WS_of 487 rfl rfl
set_option maxRecDepth 20000 in
theorem zcw_131 : Cond.code yL_open cL_open 5 (some .boolean) ∈ WS := WS_of 490 rfl rfl
set_option maxRecDepth 20000 in
theorem zcw_132 : Cond.code yL_would cL_would 17 (some .boolean) ∈ WS := WS_of 493 rfl rfl
set_option maxRecDepth 20000 in
theorem zcw_133 : Cond.code yL_number cL_number 3 (some .boolean) ∈ WS := WS_of 674 rfl rfl
set_option maxRecDepth 20000 in
theorem zcw_134 : Cond.code yL_types cL_types 8 (some .boolean) ∈ WS := WS_of 655 rfl rfl
set_option maxRecDepth 20000 in
theorem zcw_135 : Cond.code yL_loads cL_loads 13 (some .boolean) ∈ WS := WS_of 652 rfl rfl
set_option maxRecDepth 20000 in
theorem zcw_136 : Cond.code yL_deeds cL_deeds 13 (some .boolean) ∈ WS := WS_of 612 rfl rfl
set_option maxRecDepth 20000 in
theorem zcw_137 : Cond.code yL_acts cL_acts 13 (some .boolean) ∈ WS := WS_of 593 rfl rfl
theorem zML_ok : ∀ m, m < 138 → Cond.code (zy m) (zb m) (zml m) (zret m) ∈ WS := by
  intro m hm
  match m, hm with
  | 0, _ => exact zcw_0
  | 1, _ => exact zcw_1
  | 2, _ => exact zcw_2
  | 3, _ => exact zcw_3
  | 4, _ => exact zcw_4
  | 5, _ => exact zcw_5
  | 6, _ => exact zcw_6
  | 7, _ => exact zcw_7
  | 8, _ => exact zcw_8
  | 9, _ => exact zcw_9
  | 10, _ => exact zcw_10
  | 11, _ => exact zcw_11
  | 12, _ => exact zcw_12
  | 13, _ => exact zcw_13
  | 14, _ => exact zcw_14
  | 15, _ => exact zcw_15
  | 16, _ => exact zcw_16
  | 17, _ => exact zcw_17
  | 18, _ => exact zcw_18
  | 19, _ => exact zcw_19
  | 20, _ => exact zcw_20
  | 21, _ => exact zcw_21
  | 22, _ => exact zcw_22
  | 23, _ => exact zcw_23
  | 24, _ => exact zcw_24
  | 25, _ => exact zcw_25
  | 26, _ => exact zcw_26
  | 27, _ => exact zcw_27
  | 28, _ => exact zcw_28
  | 29, _ => exact zcw_29
  | 30, _ => exact zcw_30
  | 31, _ => exact zcw_31
  | 32, _ => exact zcw_32
  | 33, _ => exact zcw_33
  | 34, _ => exact zcw_34
  | 35, _ => exact zcw_35
  | 36, _ => exact zcw_36
  | 37, _ => exact zcw_37
  | 38, _ => exact zcw_38
  | 39, _ => exact zcw_39
  | 40, _ => exact zcw_40
  | 41, _ => exact zcw_41
  | 42, _ => exact zcw_42
  | 43, _ => exact zcw_43
  | 44, _ => exact zcw_44
  | 45, _ => exact zcw_45
  | 46, _ => exact zcw_46
  | 47, _ => exact zcw_47
  | 48, _ => exact zcw_48
  | 49, _ => exact zcw_49
  | 50, _ => exact zcw_50
  | 51, _ => exact zcw_51
  | 52, _ => exact zcw_52
  | 53, _ => exact zcw_53
  | 54, _ => exact zcw_54
  | 55, _ => exact zcw_55
  | 56, _ => exact zcw_56
  | 57, _ => exact zcw_57
  | 58, _ => exact zcw_58
  | 59, _ => exact zcw_59
  | 60, _ => exact zcw_60
  | 61, _ => exact zcw_61
  | 62, _ => exact zcw_62
  | 63, _ => exact zcw_63
  | 64, _ => exact zcw_64
  | 65, _ => exact zcw_65
  | 66, _ => exact zcw_66
  | 67, _ => exact zcw_67
  | 68, _ => exact zcw_68
  | 69, _ => exact zcw_69
  | 70, _ => exact zcw_70
  | 71, _ => exact zcw_71
  | 72, _ => exact zcw_72
  | 73, _ => exact zcw_73
  | 74, _ => exact zcw_74
  | 75, _ => exact zcw_75
  | 76, _ => exact zcw_76
  | 77, _ => exact zcw_77
  | 78, _ => exact zcw_78
  | 79, _ => exact zcw_79
  | 80, _ => exact zcw_80
  | 81, _ => exact zcw_81
  | 82, _ => exact zcw_82
  | 83, _ => exact zcw_83
  | 84, _ => exact zcw_84
  | 85, _ => exact zcw_85
  | 86, _ => exact zcw_86
  | 87, _ => exact zcw_87
  | 88, _ => exact zcw_88
  | 89, _ => exact zcw_89
  | 90, _ => exact zcw_90
  | 91, _ => exact zcw_91
  | 92, _ => exact zcw_92
  | 93, _ => exact zcw_93
  | 94, _ => exact zcw_94
  | 95, _ => exact zcw_95
  | 96, _ => exact zcw_96
  | 97, _ => exact zcw_97
  | 98, _ => exact zcw_98
  | 99, _ => exact zcw_99
  | 100, _ => exact zcw_100
  | 101, _ => exact zcw_101
  | 102, _ => exact zcw_102
  | 103, _ => exact zcw_103
  | 104, _ => exact zcw_104
  | 105, _ => exact zcw_105
  | 106, _ => exact zcw_106
  | 107, _ => exact zcw_107
  | 108, _ => exact zcw_108
  | 109, _ => exact zcw_109
  | 110, _ => exact zcw_110
  | 111, _ => exact zcw_111
  | 112, _ => exact zcw_112
  | 113, _ => exact zcw_113
  | 114, _ => exact zcw_114
  | 115, _ => exact zcw_115
  | 116, _ => exact zcw_116
  | 117, _ => exact zcw_117
  | 118, _ => exact zcw_118
  | 119, _ => exact zcw_119
  | 120, _ => exact zcw_120
  | 121, _ => exact zcw_121
  | 122, _ => exact zcw_122
  | 123, _ => exact zcw_123
  | 124, _ => exact zcw_124
  | 125, _ => exact zcw_125
  | 126, _ => exact zcw_126
  | 127, _ => exact zcw_127
  | 128, _ => exact zcw_128
  | 129, _ => exact zcw_129
  | 130, _ => exact zcw_130
  | 131, _ => exact zcw_131
  | 132, _ => exact zcw_132
  | 133, _ => exact zcw_133
  | 134, _ => exact zcw_134
  | 135, _ => exact zcw_135
  | 136, _ => exact zcw_136
  | 137, _ => exact zcw_137
  | m + 138, h => omega
theorem zML_ok2 : ∀ m, m < 138 → (plainName (zy m).cls = true ∧ zK (zcl m) = (zy m).cls ∧ zml m ≤ 40 ∧ ((zy m).cls ≠ "java/lang/invoke/MethodHandle" ∧ (zy m).cls ≠ "java/lang/invoke/VarHandle")) := by
  have h : (List.range 138).all (fun m => decide (plainName (zy m).cls = true ∧ zK (zcl m) = (zy m).cls ∧ zml m ≤ 40 ∧ ((zy m).cls ≠ "java/lang/invoke/MethodHandle" ∧ (zy m).cls ≠ "java/lang/invoke/VarHandle"))) = true := by decide +kernel
  intro m hm
  exact of_decide_eq_true (List.all_eq_true.mp h m (List.mem_range.mpr hm))
def zci0 : Nat := 0
def zcall (k i : Nat) : Option (Nat × Nat × Nat) := zCL.lookup (k, i)
def zfld (k i : Nat) : Option (Nat × Nat) := zFL.lookup (k, i)
def znew (k i : Nat) : Option Nat := zNL.lookup (k, i)
def zanew (k i : Nat) : Bool := zAL.contains (k, i)
def zcon (k i : Nat) : Option Int32 := zIL.lookup (k, i)
def zcoL (k i : Nat) : Option Int64 := zJL.lookup (k, i)
theorem z_lookup {β : Type} {l : List ((Nat × Nat) × β)} {k i : Nat} {v : β} (h : l.lookup (k, i) = some v) : ((k, i), v) ∈ l := by
  induction l with
  | nil => cases h
  | cons a l ih =>
    obtain ⟨a1, a2⟩ := a
    rw [List.lookup_cons] at h
    by_cases q : ((k, i) == a1) = true
    · rw [q] at h
      cases h
      rw [beq_iff_eq.mp q]
      exact List.mem_cons_self
    · rw [Bool.not_eq_true] at q
      rw [q] at h
      exact List.mem_cons_of_mem _ (ih h)
/-- what the tables say of a call -/
def zCk (e : (Nat × Nat) × (Nat × Nat × Nat)) (ps : List Nat) : Bool :=
  let p := fun j => ps.getD j 0
  let own := zK e.1.1
  let y := zy e.2.2.1
  let dn := decide ((parseMethodDescriptor y.desc).map (fun d => d.parameters.length) = some e.2.2.2)
  match e.2.1 with
  | 0 => zw (p 0) (.methodLink own e.1.2 y) && zw (p 1) (.instanceMethod y) && zw (p 2) (.selects y.cls y y) && zw (p 3) (.initialized y.cls) && decide (e.2.2.1 < 138) && dn
  | 1 => zw (p 0) (.methodLink own e.1.2 y) && zw (p 1) (.static y) && zw (p 2) (.initialized y.cls) && decide (e.2.2.1 < 138) && dn
  | 2 => zw (p 0) (.methodLink own e.1.2 y) && zw (p 1) (.instanceMethod y) && zw (p 2) (.initialized y.cls) && decide (y.name = "<init>") && decide (e.2.2.1 < 138) && dn && decide (zret e.2.2.1 = none)
  | 3 => zNW.contains (.methodLinkNest own e.1.2 y RX8) && zw (p 1) (.static y) && zw (p 2) (.initialized y.cls) && decide (e.2.2.1 < 138) && dn
  | 4 => zNW.contains (.methodLinkNest own e.1.2 y RX8) && zw (p 1) (.instanceMethod y) && zw (p 2) (.initialized y.cls) && decide (y.name = "<init>") && decide (e.2.2.1 < 138) && dn && decide (zret e.2.2.1 = none)
  | 5 => zw (p 0) (.methodLink own e.1.2 objectInit) && zw (p 1) (.instanceMethod objectInit) && zw (p 2) (.code objectInit ⟨#[0xb1]⟩ 1 none)
  | 6 => zw (p 0) (.methodLink own e.1.2 Lib.Math.max.name) && zw (p 1) (.static Lib.Math.max.name) && zw (p 2) (.initialized "java/lang/Math") && zw (p 3) (.code Lib.Math.max.name Lib.Math.max.code 2 (some .int))
  | 7 => zw (p 0) (.methodLink own e.1.2 Lib.Math.min.name) && zw (p 1) (.static Lib.Math.min.name) && zw (p 2) (.initialized "java/lang/Math") && zw (p 3) (.code Lib.Math.min.name Lib.Math.min.code 2 (some .int))
  | 8 => zw (p 0) (.methodLink own e.1.2 arraycopyName) && zw (p 1) (.native arraycopyName) && zw (p 2) (.static arraycopyName) && zw (p 3) (.initialized "java/lang/System")
  | _ => false
theorem zCL_all : (zCL.zip zCP).all (fun e => zCk e.1 e.2) = true := by decide +kernel
theorem zCL_len : zCL.length = zCP.length := by decide +kernel
theorem z_zip {α β : Type} : ∀ {l : List α} {r : List β}, l.length = r.length → ∀ {a : α}, a ∈ l → ∃ b, (a, b) ∈ l.zip r
  | [], _, _, _, h => by cases h
  | x :: l, [], hl, _, _ => by simp at hl
  | x :: l, y :: r, hl, a, h => by
    rcases List.mem_cons.mp h with rfl | h
    · exact ⟨y, by simp⟩
    · obtain ⟨b, hb⟩ := z_zip (l := l) (r := r) (by simpa using hl) h
      exact ⟨b, by rw [List.zip_cons_cons]; exact List.mem_cons_of_mem _ hb⟩
theorem zcall_ok {k i : Nat} {v : Nat × Nat × Nat} (h : zcall k i = some v) : ∃ ps, zCk ((k, i), v) ps = true := by
  obtain ⟨b, hb⟩ := z_zip zCL_len (z_lookup h)
  exact ⟨b, List.all_eq_true.mp zCL_all _ hb⟩
abbrev zT (c : Nat) : Option vw_C := vwCl[c]?
def zFk (e : (Nat × Nat) × (Nat × Nat)) (p : Nat) : Bool := match zT e.2.1 with
  | some (C, T, N) => decide (e.2.2 < N) && zw p (.fieldLink (zK e.1.1) e.1.2 C (T e.2.2).2.1 (T e.2.2).2.2.1) && decide ((T e.2.2).1 = C) && decide (C = zK e.1.1)
  | none => false
theorem zFL_all : (zFL.zip zFP).all (fun e => zFk e.1 e.2) = true := by decide +kernel
theorem zFL_len : zFL.length = zFP.length := by decide +kernel
theorem zfld_ok {k i : Nat} {v : Nat × Nat} (h : zfld k i = some v) : ∃ p, zFk ((k, i), v) p = true := by
  obtain ⟨b, hb⟩ := z_zip zFL_len (z_lookup h)
  exact ⟨b, List.all_eq_true.mp zFL_all _ hb⟩
def zNk (e : (Nat × Nat) × Nat) (ps : List Nat) : Bool := match zT e.2 with
  | some (C, _, N) => zw (ps.getD 0 0) (.classLink (zK e.1.1) e.1.2 C) && zw (ps.getD 1 0) (.instantiable C N) && zw (ps.getD 2 0) (.initialized C)
  | none => false
theorem zNL_all : (zNL.zip zNP).all (fun e => zNk e.1 e.2) = true := by decide +kernel
theorem zNL_len : zNL.length = zNP.length := by decide +kernel
theorem znew_ok {k i : Nat} {v : Nat} (h : znew k i = some v) : ∃ p, zNk ((k, i), v) p = true := by
  obtain ⟨b, hb⟩ := z_zip zNL_len (z_lookup h)
  exact ⟨b, List.all_eq_true.mp zNL_all _ hb⟩
theorem zanew_ok {k i : Nat} (h : zanew k i = true) : Cond.classLink (zK k) i RX5 ∈ WS := by
  have hq : (zAL.zip zAP).all (fun e => zw e.2 (.classLink (zK e.1.1) e.1.2 RX5)) = true := by decide +kernel
  have hm : (k, i) ∈ zAL := by simpa [zanew] using h
  obtain ⟨b, hb⟩ := z_zip (l := zAL) (r := zAP) rfl hm
  exact zw_ws (List.all_eq_true.mp hq _ hb)
theorem zcon_ok {k i : Nat} {v : Int32} (h : zcon k i = some v) : Cond.constant (zK k) i v ∈ WS := by
  have hq : (zIL.zip zIP).all (fun e => zw e.2 (.constant (zK e.1.1.1) e.1.1.2 e.1.2)) = true := by decide +kernel
  obtain ⟨b, hb⟩ := z_zip (l := zIL) (r := zIP) rfl (z_lookup h)
  exact zw_ws (List.all_eq_true.mp hq _ hb)
theorem zcoL_ok {k i : Nat} {v : Int64} (h : zcoL k i = some v) : Cond.constantLong (zK k) i v ∈ WS := by
  have hq : (zJL.zip zJP).all (fun e => zw e.2 (.constantLong (zK e.1.1.1) e.1.1.2 e.1.2)) = true := by decide +kernel
  obtain ⟨b, hb⟩ := z_zip (l := zJL) (r := zJP) rfl (z_lookup h)
  exact zw_ws (List.all_eq_true.mp hq _ hb)
def zwd (m i : Nat) : Bool := (Nat.beq m 129 && Nat.beq i 1) || (Nat.beq m 135 && Nat.beq i 2) || (Nat.beq m 138 && Nat.beq i 3) || (Nat.beq m 138 && Nat.beq i 8)
def zwe (m i : Nat) : Bool := match i with
  | 0 => false
  | j + 1 => zwd m j
theorem zwd_mem {m i : Nat} (h : zwd m i = true) : (m, i) ∈ zwl := by
  unfold zwd at h
  simp only [Bool.or_eq_true, Bool.and_eq_true] at h
  rcases h with ((h | h) | h) | h <;> (
    obtain ⟨h1, h2⟩ := h
    have h1 := Nat.eq_of_beq_eq_true h1
    have h2 := Nat.eq_of_beq_eq_true h2
    subst h1
    subst h2
    decide)
theorem zwd_zwe {m i : Nat} (h : zwd m i = true) : zwe m i = false := by
  have hq : zwl.all (fun e => !zwe e.1 e.2) = true := by decide +kernel
  have := List.all_eq_true.mp hq _ (zwd_mem h)
  simpa using this
theorem zar_ok {k i kind q n j : Nat} (h : zcall k i = some (kind, q, n)) (hk : kind < 5) (hj : j ≤ n) : zwe q j = false := by
  have hq : zCL.all (fun e => decide (5 ≤ e.2.1) || (List.range (e.2.2.2 + 1)).all (fun j => !zwe e.2.2.1 j)) = true := by decide +kernel
  have h1 := List.all_eq_true.mp hq _ (z_lookup h)
  rw [Bool.or_eq_true] at h1
  rcases h1 with h1 | h1
  · have := of_decide_eq_true h1
    dsimp only at this
    omega
  · have := List.all_eq_true.mp h1 j (List.mem_range.mpr (by dsimp only; omega))
    simpa using this
/-- the types of the fields -/
def zty (c : Nat) (k : Nat) : FieldType := match c with
  | 0 => tyX0 k
  | 1 => tyX1 k
  | 2 => tyX2 k
  | 3 => tyX3 k
  | 4 => tyX4 k
  | 5 => tyX5 k
  | 6 => tyX6 k
  | 7 => tyX8 k
  | _ => .int
theorem zT_ok {c : Nat} {C : String} {T : u_T} {N : Nat} (h : zT c = some (C, T, N)) : (∀ w ∈ u_ws C T N, w ∈ WS) ∧ (∀ k, k < N → parseFieldDescriptor (T k).2.2.1 = some (zty c k)) ∧ (∀ a, a < N → ∀ b, b < N → a ≠ b → (T a).2.1 ≠ (T b).2.1) := by
  match c, h with
  | 0, h => cases h; exact ⟨fun w hw => List.mem_filter.mpr ⟨inX0 w hw, List.all_eq_true.mp (show (wsX00).all goodWord = true by decide +kernel) w hw⟩, tyX0_ok, nmX0⟩
  | 1, h => cases h; exact ⟨fun w hw => List.mem_filter.mpr ⟨inX1 w hw, List.all_eq_true.mp (show (wsX10).all goodWord = true by decide +kernel) w hw⟩, tyX1_ok, nmX1⟩
  | 2, h => cases h; exact ⟨fun w hw => List.mem_filter.mpr ⟨inX2 w hw, List.all_eq_true.mp (show (wsX20).all goodWord = true by decide +kernel) w hw⟩, tyX2_ok, nmX2⟩
  | 3, h => cases h; exact ⟨fun w hw => List.mem_filter.mpr ⟨inX3 w hw, List.all_eq_true.mp (show (wsX30).all goodWord = true by decide +kernel) w hw⟩, tyX3_ok, nmX3⟩
  | 4, h => cases h; exact ⟨fun w hw => List.mem_filter.mpr ⟨inX4 w hw, List.all_eq_true.mp (show (wsX40).all goodWord = true by decide +kernel) w hw⟩, tyX4_ok, nmX4⟩
  | 5, h => cases h; exact ⟨fun w hw => List.mem_filter.mpr ⟨inX5 w hw, List.all_eq_true.mp (show (wsX50).all goodWord = true by decide +kernel) w hw⟩, tyX5_ok, nmX5⟩
  | 6, h => cases h; exact ⟨fun w hw => List.mem_filter.mpr ⟨inX6 w hw, List.all_eq_true.mp (show (wsX60).all goodWord = true by decide +kernel) w hw⟩, tyX6_ok, nmX6⟩
  | 7, h => cases h; exact ⟨fun w hw => List.mem_filter.mpr ⟨inX8 w hw, List.all_eq_true.mp (show (wsX80).all goodWord = true by decide +kernel) w hw⟩, tyX8_ok, nmX8⟩
  | c + 8, h => simp [zT] at h
/-- a class's number among those with objects -/
def zci (k : Nat) : Nat := if k < 7 then k else k - 1
theorem zci_ok {k : Nat} (h1 : k ≠ 7) (h2 : k < 9) : ∃ T N, zT (zci k) = some (zK k, T, N) := by
  match k, h1, h2 with
  | 0, _, _ => exact ⟨_, _, rfl⟩
  | 1, _, _ => exact ⟨_, _, rfl⟩
  | 2, _, _ => exact ⟨_, _, rfl⟩
  | 3, _, _ => exact ⟨_, _, rfl⟩
  | 4, _, _ => exact ⟨_, _, rfl⟩
  | 5, _, _ => exact ⟨_, _, rfl⟩
  | 6, _, _ => exact ⟨_, _, rfl⟩
  | 8, _, _ => exact ⟨_, _, rfl⟩
  | 7, h, _ => exact absurd rfl h
  | k + 9, _, h => omega
end
section
/-! THE ABSTRACT MACHINE: frames over a heap whose cells are numbered in the order of their making; a run of it is a run of the machine (05.sound) -/
/-- a cell: an array of ints (0) or chars (1) with its length; an array of stocks; an object with its class and fields -/
abbrev zC : Type := (Nat × Nat × (Nat → Int32)) ⊕ ((Nat × (Nat → Option Nat)) ⊕ (Nat × List Value))
/-- how many cells, how many slots, the cells, the script's length and values -/
abbrev zH : Type := Nat × Nat × (Nat → zC) × Nat × (Nat → Int32)
def zvoid : zC := .inr (.inr (99, []))
def zg (h : zH) (i : Nat) : zC := h.2.2.1 i
def zu (h : zH) (i : Nat) (c : zC) : zH := (h.1, h.2.1, fun j => if j = i then c else h.2.2.1 j, h.2.2.2)
def zpush (h : zH) (n : Nat) (c : zC) : zH := (h.1 + 1, h.2.1 + n, fun j => if j = h.1 then c else h.2.2.1 j, h.2.2.2)
def zin (j : Int32) (n : Nat) : Bool := !decide (j < 0) && decide (j.toNatClampNeg < n)
def zgetf (h : zH) (i ci k : Nat) : Option Value := match zg h i with
  | .inr (.inr (c, fs)) => if c = ci then fs[k]? else none
  | _ => none
def zputf (h : zH) (i ci k : Nat) (v : Value) : Option zH := match zg h i with
  | .inr (.inr (c, fs)) => if c = ci ∧ k < fs.length then some (zu h i (.inr (.inr (c, fs.set k v)))) else none
  | _ => none
def zald (t : Nat) (h : zH) (i : Nat) (j : Int32) : Option Int32 := match zg h i with
  | .inl (t', n, f) => if t' = t ∧ zin j n = true then some (f j.toNatClampNeg) else none
  | _ => none
def zasti (h : zH) (i : Nat) (j x : Int32) : Option zH := match zg h i with
  | .inl (t, n, f) => if t = 0 ∧ zin j n = true then some (zu h i (.inl (t, n, upd f j.toNatClampNeg x))) else none
  | _ => none
def zastc (h : zH) (i : Nat) (j x : Int32) : Option zH := match zg h i with
  | .inl (t, n, f) => if t = 1 ∧ zin j n = true then some (zu h i (.inl (t, n, upd f j.toNatClampNeg (vp_nar .char x)))) else none
  | _ => none
def zlen (h : zH) (i : Nat) : Option Int32 := match zg h i with
  | .inl (t, n, _) => if t = 0 ∨ t = 1 then some (Int32.ofNat n) else none
  | .inr (.inl (n, _)) => some (Int32.ofNat n)
  | _ => none
def zaldq (h : zH) (i : Nat) (j : Int32) : Option Nat := match zg h i with
  | .inr (.inl (n, f)) => if zin j n = true then f j.toNatClampNeg else none
  | _ => none
def zis (h : zH) (k ci : Nat) : Bool := match zg h k with
  | .inr (.inr (c, _)) => decide (c = ci)
  | _ => false
def zastq (h : zH) (i : Nat) (j : Int32) (k : Nat) : Option zH := match zg h i with
  | .inr (.inl (n, f)) => if zin j n = true ∧ zis h k 5 = true then some (zu h i (.inr (.inl (n, va_up f j.toNatClampNeg (some k))))) else none
  | _ => none
def zcopy (h : zH) (i0 : Nat) (sp : Int32) (i1 : Nat) (dp n : Int32) : Option zH := match zg h i0, zg h i1 with
  | .inl (t0, n0, f), .inl (t1, n1, g) => if t0 = 0 ∧ t1 = 0 ∧ ¬ sp < 0 ∧ ¬ dp < 0 ∧ ¬ n < 0 ∧ sp.toNatClampNeg + n.toNatClampNeg ≤ n0 ∧ dp.toNatClampNeg + n.toNatClampNeg ≤ n1 then some (zu h i1 (.inl (t1, n1, va_cpy f g sp.toNatClampNeg dp.toNatClampNeg n.toNatClampNeg))) else none
  | _, _ => none
/-! locals -/
def zld (al : List (Option Value)) (i : Nat) : Option Value := match al[i]? with
  | some (some v) => some v
  | _ => none
/-- longs lie where zwd says, alone -/
def z1k (m i : Nat) : Bool := !zwd m i && !zwe m i
def zst1 (m : Nat) (al : List (Option Value)) (i : Nat) (v : Value) : Option (List (Option Value)) := if i < al.length ∧ z1k m i = true then some (al.set i (some v)) else none
def zst2 (m : Nat) (al : List (Option Value)) (i : Nat) (v : Value) : Option (List (Option Value)) := if zwd m i = true ∧ i + 1 < al.length then some (al.set i (some v)) else none
def zentry (m : Nat) (as : List Value) : List (Option Value) := as.map some ++ List.replicate (zml m - as.length) none
/-! a step: on in this frame, or a call, or the end -/
abbrev zO : Type := Option ((Nat × List (Option Value) × List Value × zH) ⊕ ((Nat × List Value × List Value) ⊕ Option Value))
def zn (pc : Nat) (al : List (Option Value)) (st : List Value) (h : zH) : zO := some (.inl (pc, al, st, h))
def zq (b : Bool) (o : zO) : zO := if b = true then o else none
def ztg (pc : Nat) (off : Int) (al : List (Option Value)) (st : List Value) (h : zH) : zO := if 0 ≤ (pc : Int) + off then zn ((pc : Int) + off).toNat al st h else none
def zcond (c : ClassFile.Cond) (x y : Int32) : Bool := match c with
  | .eq => decide (x = y)
  | .ne => !decide (x = y)
  | .lt => decide (x < y)
  | .ge => decide (y ≤ x)
  | .gt => decide (y < x)
  | .le => decide (x ≤ y)
def zval (v : Value) : Bool := match v with
  | .int _ => true
  | .ref _ => true
  | _ => false
def zarg (v : Value) : Bool := match v with
  | .int _ => true
  | .ref _ => true
  | .float _ => true
  | _ => false
def zrest (st : List Value) : Bool := decide ((st.map fun v => v.category).sum ≤ 8)
def zcallV (k n : Nat) (st : List Value) (h : zH) : zO := match st.drop n with
  | .ref b :: r => zq (decide (n ≤ st.length) && (st.take n).all zarg && zrest r && zis h b (zci (zcl k)) && decide (n + 1 ≤ zml k) && decide (zcl k ≠ 7) && decide (zcl k < 9)) (some (.inr (.inl (k, .ref b :: (st.take n).reverse, r))))
  | _ => none
def zcallS (k n : Nat) (st : List Value) : zO := zq (decide (n ≤ st.length) && (st.take n).all zarg && zrest (st.drop n) && decide (n ≤ zml k)) (some (.inr (.inl (k, (st.take n).reverse, st.drop n))))
def zfit (ty : FieldType) (v : Value) : Bool := zval v && decide (narrow ty v = v) && fits ty v
def zpf (m : Nat) (ci fk : Nat) (v : Value) : Bool := match zT ci with
  | some (_, T, _) => zfit (zty ci fk) v && (!(T fk).2.2.2 || decide ((zy m).name = "<init>"))
  | none => false
def zblank (ci : Nat) : List Value := match zT ci with
  | some (_, _, N) => (List.range N).map fun j => defaultValue (zty ci j)
  | none => []
def zplain (v : Value) : Bool := match v with
  | .int _ => true
  | .null => true
  | _ => false
def zstatic (m idx : Nat) (pc : Nat) (al : List (Option Value)) (st : List Value) (h : zH) : zO := match zcall (zcl m) idx with
  | some (1, k, n) => zcallS k n st
  | some (3, k, n) => zcallS k n st
  | some (6, _, _) => match st with
    | .int y :: .int x :: r => zq (zrest r) (zn (pc + 3) al (.int (if x < y then y else x) :: r) h)
    | _ => none
  | some (7, _, _) => match st with
    | .int y :: .int x :: r => zq (zrest r) (zn (pc + 3) al (.int (if y < x then y else x) :: r) h)
    | _ => none
  | some (8, _, _) => match st with
    | .int n :: .int dp :: .ref i1 :: .int sp :: .ref i0 :: r => (zcopy h i0 sp i1 dp n).bind fun h1 => zq (zrest r) (zn (pc + 3) al r h1)
    | _ => none
  | _ => none
def zspecial (m idx : Nat) (pc : Nat) (al : List (Option Value)) (st : List Value) (h : zH) : zO := match zcall (zcl m) idx with
  | some (2, k, n) => zcallV k n st h
  | some (4, k, n) => zcallV k n st h
  | some (5, _, _) => match st with
    | .ref a :: r => zq (zrest r) (zn (pc + 3) al r h)
    | _ => none
  | _ => none
def zload (m : Nat) (pc w : Nat) (i : Nat) (al : List (Option Value)) (st : List Value) (h : zH) : zO := match zld al i with
  | some (.int x) => zn (pc + w) al (.int x :: st) h
  | _ => none
def zloada (m : Nat) (pc w : Nat) (i : Nat) (al : List (Option Value)) (st : List Value) (h : zH) : zO := match zld al i with
  | some (.ref x) => zn (pc + w) al (.ref x :: st) h
  | some (.float x) => zn (pc + w) al (.float x :: st) h
  | _ => none
def zstore (m pc w : Nat) (i : Nat) (al : List (Option Value)) (st : List Value) (h : zH) : zO := match st with
  | .int x :: r => (zst1 m al i (.int x)).bind fun al' => zn (pc + w) al' r h
  | _ => none
def zstorea (m pc w : Nat) (i : Nat) (al : List (Option Value)) (st : List Value) (h : zH) : zO := match st with
  | .ref x :: r => (zst1 m al i (.ref x)).bind fun al' => zn (pc + w) al' r h
  | _ => none
def zarith (pc : Nat) (al : List (Option Value)) (st : List Value) (h : zH) (f : Int32 → Int32 → Option Int32) : zO := match st with
  | .int y :: .int x :: r => (f x y).bind fun z => zn (pc + 1) al (.int z :: r) h
  | _ => none
def zdo (m pc : Nat) (i : Instr) (len : Nat) (al : List (Option Value)) (st : List Value) (h : zH) : zO := match i with
  | .iconst n => zq (len == 1) (zn (pc + 1) al (.int (Int32.ofInt n) :: st) h)
  | .bipush n => zq (len == 2) (zn (pc + 2) al (.int (Int8.ofInt n).toInt32 :: st) h)
  | .sipush n => zq (len == 3) (zn (pc + 3) al (.int (Int16.ofInt n).toInt32 :: st) h)
  | .ldc k => zq (len == 2) ((zcon (zcl m) k).bind fun v => zn (pc + 2) al (.int v :: st) h)
  | .ldc_w k => zq (len == 3) ((zcon (zcl m) k).bind fun v => zn (pc + 3) al (.int v :: st) h)
  | .iload_n k => zq (len == 1) (zload m pc 1 k al st h)
  | .iload k => zq (len == 2) (zload m pc 2 k al st h)
  | .aload_n k => zq (len == 1) (zloada m pc 1 k al st h)
  | .aload k => zq (len == 2) (zloada m pc 2 k al st h)
  | .istore_n k => zq (len == 1) (zstore m pc 1 k al st h)
  | .istore k => zq (len == 2) (zstore m pc 2 k al st h)
  | .astore_n k => zq (len == 1) (zstorea m pc 1 k al st h)
  | .astore k => zq (len == 2) (zstorea m pc 2 k al st h)
  | .iadd => zq (len == 1) (zarith pc al st h fun x y => some (x + y))
  | .isub => zq (len == 1) (zarith pc al st h fun x y => some (x - y))
  | .imul => zq (len == 1) (zarith pc al st h fun x y => some (x * y))
  | .idiv => zq (len == 1) (zarith pc al st h fun x y => if y = 0 then none else some (x / y))
  | .irem => zq (len == 1) (zarith pc al st h fun x y => if y = 0 then none else some (x - x / y * y))
  | .iand => zq (len == 1) (zarith pc al st h fun x y => some (x &&& y))
  | .ior => zq (len == 1) (zarith pc al st h fun x y => some (x ||| y))
  | .ishl => zq (len == 1) (zarith pc al st h fun x y => some (x <<< (y &&& 31)))
  | .ishr => zq (len == 1) (zarith pc al st h fun x y => some (x >>> (y &&& 31)))
  | .i2c => zq (len == 1) (match st with
    | .int x :: r => zn (pc + 1) al (.int (x.toUInt32 % 65536).toInt32 :: r) h
    | _ => none)
  | .i2l => zq (len == 1) (match st with
    | .int x :: r => zn (pc + 1) al (.long x.toInt64 :: r) h
    | _ => none)
  | .ladd => zq (len == 1) (match st with
    | .long y :: .long x :: r => zn (pc + 1) al (.long (x + y) :: r) h
    | _ => none)
  | .lmul => zq (len == 1) (match st with
    | .long y :: .long x :: r => zn (pc + 1) al (.long (x * y) :: r) h
    | _ => none)
  | .lcmp => zq (len == 1) (match st with
    | .long y :: .long x :: r => zn (pc + 1) al (.int (lg_cmp x y) :: r) h
    | _ => none)
  | .ldc2_w k => zq (len == 3) ((zcoL (zcl m) k).bind fun v => zn (pc + 3) al (.long v :: st) h)
  | .lload_n k => zq (len == 1) (match zld al k with
    | some (.long x) => zn (pc + 1) al (.long x :: st) h
    | _ => none)
  | .lload k => zq (len == 2) (match zld al k with
    | some (.long x) => zn (pc + 2) al (.long x :: st) h
    | _ => none)
  | .lstore_n k => zq (len == 1) (match st with
    | .long x :: r => (zst2 m al k (.long x)).bind fun al' => zn (pc + 1) al' r h
    | _ => none)
  | .lstore k => zq (len == 2) (match st with
    | .long x :: r => (zst2 m al k (.long x)).bind fun al' => zn (pc + 2) al' r h
    | _ => none)
  | .dup => zq (len == 1) (match st with
    | v :: r => zq (decide (v.category = 1)) (zn (pc + 1) al (v :: v :: r) h)
    | _ => none)
  | .dup2 => zq (len == 1) (match st with
    | v :: w :: r => zq (decide (v.category = 1) && decide (w.category = 1)) (zn (pc + 1) al (v :: w :: v :: w :: r) h)
    | _ => none)
  | .pop => zq (len == 1) (match st with
    | v :: r => zq (decide (v.category = 1)) (zn (pc + 1) al r h)
    | _ => none)
  | .iinc k n => zq (len == 3) (match zld al k with
    | some (.int x) => (zst1 m al k (.int (x + Int32.ofInt n))).bind fun al' => zn (pc + 3) al' st h
    | _ => none)
  | .goto off => zq (len == 3) (ztg pc off al st h)
  | .if_icmp c off => zq (len == 3) (match st with
    | .int y :: .int x :: r => zq (decide (0 ≤ (pc : Int) + off)) (if zcond c x y = true then zn ((pc : Int) + off).toNat al r h else zn (pc + 3) al r h)
    | _ => none)
  | .ifCond c off => zq (len == 3) (match st with
    | .int x :: r => zq (decide (0 ≤ (pc : Int) + off)) (if zcond c x 0 = true then zn ((pc : Int) + off).toNat al r h else zn (pc + 3) al r h)
    | _ => none)
  | .tableswitch dflt lo hi offs => match st with
    | .int x :: r => if x.toInt < lo ∨ hi < x.toInt then ztg pc dflt al r h else (offs[(x.toInt - lo).toNat]?).bind fun off => ztg pc off al r h
    | _ => none
  | .lookupswitch dflt ps => match st with
    | .int x :: r => zq ((ps.toList.zip (ps.toList.drop 1)).all (fun (a, next) => a.1 < next.1)) (ztg pc (Op.lookupswitch.offset ps.toList dflt x.toInt) al r h)
    | _ => none
  | .getfield k => zq (len == 3) (match st with
    | .ref i :: r => (zfld (zcl m) k).bind fun q => (zgetf h i q.1 q.2).bind fun v => zn (pc + 3) al (v :: r) h
    | _ => none)
  | .putfield k => zq (len == 3) (match st with
    | v :: .ref i :: r => (zfld (zcl m) k).bind fun q => zq (zpf m q.1 q.2 v) ((zputf h i q.1 q.2 v).bind fun h1 => zn (pc + 3) al r h1)
    | _ => none)
  | .iaload => zq (len == 1) (match st with
    | .int j :: .ref i :: r => (zald 0 h i j).bind fun x => zn (pc + 1) al (.int x :: r) h
    | .int j :: .float _ :: r => zq (zin j h.2.2.2.1) (zn (pc + 1) al (.int (h.2.2.2.2 j.toNatClampNeg) :: r) h)
    | _ => none)
  | .caload => zq (len == 1) (match st with
    | .int j :: .ref i :: r => (zald 1 h i j).bind fun x => zn (pc + 1) al (.int x :: r) h
    | _ => none)
  | .aaload => zq (len == 1) (match st with
    | .int j :: .ref i :: r => (zaldq h i j).bind fun x => zn (pc + 1) al (.ref x :: r) h
    | _ => none)
  | .iastore => zq (len == 1) (match st with
    | .int x :: .int j :: .ref i :: r => (zasti h i j x).bind fun h1 => zn (pc + 1) al r h1
    | _ => none)
  | .castore => zq (len == 1) (match st with
    | .int x :: .int j :: .ref i :: r => (zastc h i j x).bind fun h1 => zn (pc + 1) al r h1
    | _ => none)
  | .aastore => zq (len == 1) (match st with
    | .ref x :: .int j :: .ref i :: r => (zastq h i j x).bind fun h1 => zn (pc + 1) al r h1
    | _ => none)
  | .arraylength => zq (len == 1) (match st with
    | .ref i :: r => (zlen h i).bind fun x => zn (pc + 1) al (.int x :: r) h
    | .float _ :: r => zn (pc + 1) al (.int (Int32.ofNat h.2.2.2.1) :: r) h
    | _ => none)
  | .new k => zq (len == 3) ((znew (zcl m) k).bind fun ci => zq ((zblank ci).all zplain) (zn (pc + 3) al (.ref h.1 :: st) (zpush h (zblank ci).length (.inr (.inr (ci, zblank ci))))))
  | .newarray a => zq (len == 2) (match st, a with
    | .int n :: r, .int => zq (!decide (n < 0) && decide (n.toNatClampNeg ≤ 1000)) (zn (pc + 2) al (.ref h.1 :: r) (zpush h n.toNatClampNeg (.inl (0, n.toNatClampNeg, fun _ => 0))))
    | .int n :: r, .char => zq (!decide (n < 0) && decide (n.toNatClampNeg ≤ 1000)) (zn (pc + 2) al (.ref h.1 :: r) (zpush h n.toNatClampNeg (.inl (1, n.toNatClampNeg, fun _ => 0))))
    | _, _ => none)
  | .anewarray k => zq (len == 3) (match st with
    | .int n :: r => zq (!decide (n < 0) && decide (n.toNatClampNeg ≤ 1000) && zanew (zcl m) k) (zn (pc + 3) al (.ref h.1 :: r) (zpush h n.toNatClampNeg (.inr (.inl (n.toNatClampNeg, fun _ => none)))))
    | _ => none)
  | .invokevirtual k => zq (len == 3) (match zcall (zcl m) k with
    | some (0, q, n) => zcallV q n st h
    | _ => none)
  | .invokestatic k => zq (len == 3) (zstatic m k pc al st h)
  | .invokespecial k => zq (len == 3) (zspecial m k pc al st h)
  | .ireturn => zq (len == 1) (match st, zret m with
    | [.int x], some ty => if narrow ty (.int x) = .int x then some (.inr (.inr (some (.int x)))) else none
    | _, _ => none)
  | .areturn => zq (len == 1) (match st, zret m with
    | [.ref a], some (.object _) => some (.inr (.inr (some (.ref a))))
    | _, _ => none)
  | .lreturn => zq (len == 1) (match st, zret m with
    | [.long a], some .long => some (.inr (.inr (some (.long a))))
    | _, _ => none)
  | .return_ => zq (len == 1) (match st, zret m with
    | [], none => some (.inr (.inr none))
    | _, _ => none)
  | _ => none
def zstep (m pc : Nat) (al : List (Option Value)) (st : List Value) (h : zH) : zO := match decode (zb m) pc with
  | .ok (i, len) => zdo m pc i len al st h
  | _ => none
/-- n steps at most, calls d deep at most -/
def zx : Nat → Nat → Nat → Nat → List (Option Value) → List Value → zH → Option (Option Value × zH)
  | 0, _, _, _, _, _, _ => none
  | n + 1, d, m, pc, al, st, h => match zstep m pc al st h with
    | none => none
    | some (.inl (pc', al', st', h')) => zx n d m pc' al' st' h'
    | some (.inr (.inl (k, as, r))) => match d with
      | 0 => none
      | e + 1 => match zx n e k 0 (zentry k as) [] h with
        | none => none
        | some (v, h1) => zx n (e + 1) m (pc + 3) al (v.toList ++ r) h1
    | some (.inr (.inr v)) => some (v, h)
end
section
/-! A RUN OF THE ABSTRACT MACHINE IS A RUN OF THE MACHINE: what holds between their states -/
abbrev zY : Type := ClassId × ClassId × ClassId
def zV (ad : List Nat) (ob : Option Nat) (v w : Value) : Prop := match v with
  | .ref i => ∃ a, ad[i]? = some a ∧ w = .ref a
  | .float _ => ∃ b, ob = some b ∧ w = .ref b
  | v => w = v
def zVs (ad : List Nat) (ob : Option Nat) : List Value → List Value → Prop
  | [], us => us = []
  | v :: vs, us => ∃ w ws, us = w :: ws ∧ zV ad ob v w ∧ zVs ad ob vs ws
def zExt (a b : List Nat) : Prop := ∀ i q : Nat, a[i]? = some q → b[i]? = some q
theorem zExt.rf {a : List Nat} : zExt a a := fun _ _ h => h
theorem zExt.tr {a b c : List Nat} (h : zExt a b) (g : zExt b c) : zExt a c := fun i q e => g i q (h i q e)
theorem zExt.app {a l : List Nat} : zExt a (a ++ l) := fun i q h => by
  rw [List.getElem?_append_left (List.getElem?_eq_some_iff.mp h).1]
  exact h
theorem zV.ext {a b : List Nat} {ob : Option Nat} {v w : Value} (h : zExt a b) (g : zV a ob v w) : zV b ob v w := by
  cases v with
  | ref i =>
    obtain ⟨q, h1, h2⟩ := g
    exact ⟨q, h i q h1, h2⟩
  | _ => exact g
theorem zVs.ext {a b : List Nat} {ob : Option Nat} (h : zExt a b) : ∀ {vs ws : List Value}, zVs a ob vs ws → zVs b ob vs ws
  | [], _, g => g
  | v :: vs, _, g => by
    obtain ⟨w, ws, h1, h2, h3⟩ := g
    exact ⟨w, ws, h1, h2.ext h, zVs.ext h h3⟩
theorem zV.cat {ad : List Nat} {ob : Option Nat} {v w : Value} (h : zV ad ob v w) : w.category = v.category := by
  cases v with
  | ref i =>
    obtain ⟨q, h1, rfl⟩ := h
    rfl
  | float x =>
    obtain ⟨q, h1, rfl⟩ := h
    rfl
  | _ => cases h; rfl
theorem zVs.cat {ad : List Nat} {ob : Option Nat} : ∀ {vs ws : List Value}, zVs ad ob vs ws → ws.map (fun v => v.category) = vs.map (fun v => v.category)
  | [], _, g => by cases g; rfl
  | v :: vs, _, g => by
    obtain ⟨w, ws, rfl, h2, h3⟩ := g
    rw [List.map_cons, List.map_cons, h2.cat, zVs.cat h3]
theorem zVs.len {ad : List Nat} {ob : Option Nat} : ∀ {vs ws : List Value}, zVs ad ob vs ws → ws.length = vs.length
  | [], _, g => by cases g; rfl
  | v :: vs, _, g => by
    obtain ⟨w, ws, rfl, h2, h3⟩ := g
    rw [List.length_cons, List.length_cons, zVs.len h3]
theorem zVs.app {ad : List Nat} {ob : Option Nat} : ∀ {vs ws vt wt : List Value}, zVs ad ob vs ws → zVs ad ob vt wt → zVs ad ob (vs ++ vt) (ws ++ wt)
  | [], _, _, _, g, k => by cases g; exact k
  | v :: vs, _, _, _, g, k => by
    obtain ⟨w, ws, rfl, h2, h3⟩ := g
    exact ⟨w, _, rfl, h2, zVs.app h3 k⟩
theorem zVs.rev {ad : List Nat} {ob : Option Nat} : ∀ {vs ws : List Value}, zVs ad ob vs ws → zVs ad ob vs.reverse ws.reverse
  | [], _, g => by cases g; exact rfl
  | v :: vs, _, g => by
    obtain ⟨w, ws, rfl, h2, h3⟩ := g
    rw [List.reverse_cons, List.reverse_cons]
    exact zVs.app (zVs.rev h3) ⟨w, [], rfl, h2, rfl⟩
theorem zVs.take {ad : List Nat} {ob : Option Nat} : ∀ {n : Nat} {vs ws : List Value}, zVs ad ob vs ws → zVs ad ob (vs.take n) (ws.take n)
  | 0, _, _, _ => by rw [List.take_zero, List.take_zero]; exact rfl
  | n + 1, [], _, g => by cases g; exact rfl
  | n + 1, v :: vs, _, g => by
    obtain ⟨w, ws, rfl, h2, h3⟩ := g
    rw [List.take_succ_cons, List.take_succ_cons]
    exact ⟨w, _, rfl, h2, zVs.take h3⟩
theorem zVs.drop {ad : List Nat} {ob : Option Nat} : ∀ {n : Nat} {vs ws : List Value}, zVs ad ob vs ws → zVs ad ob (vs.drop n) (ws.drop n)
  | 0, _, _, g => by rw [List.drop_zero, List.drop_zero]; exact g
  | n + 1, [], _, g => by cases g; exact rfl
  | n + 1, v :: vs, _, g => by
    obtain ⟨w, ws, rfl, h2, h3⟩ := g
    rw [List.drop_succ_cons, List.drop_succ_cons]
    exact zVs.drop h3
theorem zVs.set {ad : List Nat} {ob : Option Nat} {v w : Value} (q : zV ad ob v w) : ∀ {k : Nat} {vs ws : List Value}, zVs ad ob vs ws → zVs ad ob (vs.set k v) (ws.set k w)
  | _, [], _, g => by cases g; exact rfl
  | 0, u :: vs, _, g => by
    obtain ⟨x, ws, rfl, h2, h3⟩ := g
    exact ⟨w, ws, rfl, q, h3⟩
  | k + 1, u :: vs, _, g => by
    obtain ⟨x, ws, rfl, h2, h3⟩ := g
    exact ⟨x, _, rfl, h2, zVs.set q h3⟩
theorem zVs.get {ad : List Nat} {ob : Option Nat} : ∀ {k : Nat} {vs ws : List Value} {v : Value}, zVs ad ob vs ws → vs[k]? = some v → ∃ w, ws[k]? = some w ∧ zV ad ob v w
  | _, [], _, _, _, h => by simp at h
  | 0, u :: vs, _, v, g, h => by
    obtain ⟨x, ws, rfl, h2, h3⟩ := g
    rw [List.getElem?_cons_zero] at h
    cases h
    exact ⟨x, List.getElem?_cons_zero, h2⟩
  | k + 1, u :: vs, _, v, g, h => by
    obtain ⟨x, ws, rfl, h2, h3⟩ := g
    rw [List.getElem?_cons_succ] at h
    obtain ⟨w, e1, e2⟩ := zVs.get h3 h
    exact ⟨w, by rw [List.getElem?_cons_succ]; exact e1, e2⟩
theorem zV.i {ad : List Nat} {ob : Option Nat} (x : Int32) : zV ad ob (.int x) (.int x) := rfl
theorem zV.weak {ad : List Nat} {ob : Option Nat} {v w : Value} (h : zV ad none v w) : zV ad ob v w := by
  cases v with
  | float x =>
    obtain ⟨b, h1, -⟩ := h
    cases h1
  | _ => exact h
/-! cells -/
def zR (ad : List Nat) (a b : Option Nat) : Prop := match a with
  | none => b = none
  | some i => ∃ q, ad[i]? = some q ∧ b = some q
def zE (ad : List Nat) (y : zY) (c : zC) (e : va_E) : Prop := match c with
  | .inl (t, n, f) => (t = 0 ∧ e = .inl (y.1, n, .inl f)) ∨ (t = 1 ∧ e = .inl (y.2.1, n, .inl f))
  | .inr (.inl (n, f)) => ∃ g : Nat → Option Nat, (∀ j, zR ad (f j) (g j)) ∧ e = .inl (y.2.2, n, .inr (.inr (.inr (.inr g))))
  | .inr (.inr (ci, fs)) => ∃ gs, zVs ad none fs gs ∧ e = .inr (ci, gs)
theorem zR.ext {a b : List Nat} {x w : Option Nat} (h : zExt a b) (g : zR a x w) : zR b x w := by
  cases x with
  | none => exact g
  | some i =>
    obtain ⟨q, h1, h2⟩ := g
    exact ⟨q, h i q h1, h2⟩
theorem zE.ext {a b : List Nat} {y : zY} {c : zC} {e : va_E} (h : zExt a b) (g : zE a y c e) : zE b y c e := by
  rcases c with ⟨t, n, f⟩ | ⟨n, f⟩ | ⟨ci, fs⟩
  · exact g
  · obtain ⟨q, h1, h2⟩ := g
    exact ⟨q, fun j => (h1 j).ext h, h2⟩
  · obtain ⟨q, h1, h2⟩ := g
    exact ⟨q, h1.ext h, h2⟩
def zHr (ad : List Nat) (y : zY) (h : zH) (ws : va_W) : Prop := h.1 = ad.length ∧ ws.length = ad.length ∧ (∀ i a : Nat, ad[i]? = some a → ∃ e, ws[i]? = some (a, e) ∧ zE ad y (zg h i) e) ∧ ∀ i : Nat, ad.length ≤ i → zg h i = zvoid
theorem zg_zu (h : zH) (i j : Nat) (c : zC) : zg (zu h i c) j = if j = i then c else zg h j := rfl
theorem zHr.at' {ad : List Nat} {y : zY} {h : zH} {ws : va_W} (H : zHr ad y h ws) {i : Nat} {c : zC} (hc : zg h i = c) (hi : c ≠ zvoid) : ∃ a e, ad[i]? = some a ∧ ws[i]? = some (a, e) ∧ zE ad y c e := by
  subst hc
  obtain ⟨h1, h2, h3, h4⟩ := H
  rcases Nat.lt_or_ge i ad.length with q | q
  · obtain ⟨e, e1, e2⟩ := h3 i _ (List.getElem?_eq_getElem q)
    exact ⟨_, e, List.getElem?_eq_getElem q, e1, e2⟩
  · exact absurd (h4 i q) hi
theorem zHr.set {ad : List Nat} {y : zY} {h : zH} {ws : va_W} (H : zHr ad y h ws) {i a : Nat} {c : zC} {e : va_E} (ha : ad[i]? = some a) (hE : zE ad y c e) : zHr ad y (zu h i c) (ws.set i (a, e)) := by
  obtain ⟨h1, h2, h3, h4⟩ := H
  have hi : i < ad.length := (List.getElem?_eq_some_iff.mp ha).1
  refine ⟨h1, by rw [List.length_set]; exact h2, fun j b hb => ?_, fun j hj => ?_⟩
  · rw [zg_zu]
    by_cases q : j = i
    · subst q
      rw [ha] at hb
      cases hb
      exact ⟨e, by rw [List.getElem?_set_self (by omega)], by rw [if_pos rfl]; exact hE⟩
    · obtain ⟨e', e1, e2⟩ := h3 j b hb
      exact ⟨e', by rw [List.getElem?_set_ne (Ne.symm q)]; exact e1, by rw [if_neg q]; exact e2⟩
  · rw [zg_zu, if_neg (by omega)]
    exact h4 j hj
theorem zHr.push {ad : List Nat} {y : zY} {h : zH} {ws : va_W} (H : zHr ad y h ws) {n q : Nat} {c : zC} {e : va_E} (hE : zE (ad ++ [q]) y c e) : zHr (ad ++ [q]) y (zpush h n c) (ws ++ [(q, e)]) := by
  obtain ⟨h1, h2, h3, h4⟩ := H
  have hg : ∀ j, zg (zpush h n c) j = if j = h.1 then c else zg h j := fun _ => rfl
  refine ⟨by simp [zpush, h1], by simp [h2], fun j b hb => ?_, fun j hj => ?_⟩
  · rw [hg]
    rcases Nat.lt_or_ge j ad.length with q1 | q1
    · rw [List.getElem?_append_left q1] at hb
      obtain ⟨e', e1, e2⟩ := h3 j b hb
      exact ⟨e', by rw [List.getElem?_append_left (by omega)]; exact e1, by rw [if_neg (by omega)]; exact e2.ext zExt.app⟩
    · rw [List.getElem?_append_right q1] at hb
      have hz : j - ad.length < 1 := (List.getElem?_eq_some_iff.mp hb).1
      have hj : j = ad.length := by omega
      subst hj
      rw [Nat.sub_self] at hb
      cases hb
      exact ⟨e, by rw [List.getElem?_append_right (by omega), h2, Nat.sub_self]; rfl, by rw [if_pos h1.symm]; exact hE⟩
  · rw [List.length_append] at hj
    rw [hg, if_neg (by have : ([q] : List Nat).length = 1 := rfl; omega)]
    exact h4 j (by omega)
/-! locals -/
def zLr (m : Nat) (ad : List Nat) (ob : Option Nat) (ls : Array Slot) (al : List (Option Value)) : Prop := ls.size = zml m ∧ lv_wf ls ∧ al.length = zml m ∧ ∀ (i : Nat) (v : Value), al[i]? = some (some v) → (v.category = 2 → zwd m i = true) ∧ zwe m i = false ∧ ∃ w, zV ad ob v w ∧ ls[i]? = some (.val w)
def lvOne (i : Nat) (x : Option Slot) : Option (Nat × Value) := match x with
  | some (.val w) => some (i, w)
  | _ => none
def lvAll (ls : Array Slot) : List (Nat × Value) := (List.range ls.size).filterMap (fun i => lvOne i ls[i]?)
theorem lvAll_has {ls : Array Slot} {n : Nat} (h : ls.size = n) (hw : lv_wf ls) : lv_has ls n (lvAll ls) := by
  refine ⟨h, hw, fun q hq => ?_⟩
  obtain ⟨i, -, hi⟩ := List.mem_filterMap.mp hq
  cases hx : ls[i]? with
  | none => rw [hx] at hi; cases hi
  | some x =>
    rw [hx] at hi
    cases x <;> first | (cases hi; exact hx) | cases hi
theorem lvAll_mem {ls : Array Slot} {i : Nat} {w : Value} (h : ls[i]? = some (.val w)) : (i, w) ∈ lvAll ls := by
  refine List.mem_filterMap.mpr ⟨i, List.mem_range.mpr (Array.getElem?_eq_some_iff.mp h).1, ?_⟩
  rw [h]
  rfl
theorem zLr.ext {m : Nat} {a b : List Nat} {ob : Option Nat} {ls : Array Slot} {al : List (Option Value)} (h : zExt a b) (g : zLr m a ob ls al) : zLr m b ob ls al := by
  obtain ⟨h1, h2, h3, h4⟩ := g
  refine ⟨h1, h2, h3, fun i v hi => ?_⟩
  obtain ⟨g1, g2, w, g3, g4⟩ := h4 i v hi
  exact ⟨g1, g2, w, g3.ext h, g4⟩
theorem zld_at {al : List (Option Value)} {i : Nat} {v : Value} (h : zld al i = some v) : al[i]? = some (some v) := by
  unfold zld at h
  split at h
  · rename_i x hx
    cases h
    exact hx
  · cases h
theorem zLr.at' {m : Nat} {a : List Nat} {ob : Option Nat} {ls : Array Slot} {al : List (Option Value)} (g : zLr m a ob ls al) {i : Nat} {v : Value} (h : zld al i = some v) : ∃ w, zV a ob v w ∧ ls[i]? = some (.val w) := (g.2.2.2 i v (zld_at h)).2.2
theorem z1k_s {m i : Nat} (h : z1k m i = true) : zwd m i = false ∧ zwe m i = false := by
  unfold z1k at h
  simpa using h
theorem zLr.st1 {m : Nat} {ad : List Nat} {ob : Option Nat} {ls ls' : Array Slot} {al al' : List (Option Value)} (g : zLr m ad ob ls al) {i : Nat} {v w : Value} (h : zst1 m al i v = some al') (hv : zV ad ob v w) (hc : v.category = 1) (hl : lv_has ls' (zml m) ((i, w) :: (lvAll ls).filter (fun q => !(q.1 == i) && !(q.1 + 1 == i && q.2.category == 2)))) : zLr m ad ob ls' al' := by
  obtain ⟨h1, h2, h3, h4⟩ := g
  unfold zst1 at h
  split at h
  · rename_i hq
    obtain ⟨hq1, hq2⟩ := hq
    obtain ⟨k1, k2⟩ := z1k_s hq2
    cases h
    refine ⟨hl.1, hl.2.1, by rw [List.length_set]; exact h3, fun j u hj => ?_⟩
    by_cases e : j = i
    · subst e
      rw [List.getElem?_set_self hq1] at hj
      cases hj
      exact ⟨fun z => (by rw [hc] at z; cases z), k2, w, hv, hl.2.2 (j, w) List.mem_cons_self⟩
    · rw [List.getElem?_set_ne (Ne.symm e)] at hj
      obtain ⟨g1, g2, x, g3, g4⟩ := h4 j u hj
      refine ⟨g1, g2, x, g3, hl.2.2 (j, x) (List.mem_cons_of_mem _ (List.mem_filter.mpr ⟨lvAll_mem g4, ?_⟩))⟩
      have e1 : (j == i) = false := by simpa using e
      have e2 : (j + 1 == i && x.category == 2) = false := by
        rw [Bool.and_eq_false_iff]
        by_cases k : j + 1 = i
        · refine Or.inr ?_
          rw [beq_eq_false_iff_ne]
          intro z
          have q1 := g1 (by rw [← g3.cat]; exact z)
          subst k
          have q2 : zwe m (j + 1) = zwd m j := rfl
          rw [q2, q1] at k2
          cases k2
        · exact Or.inl (by simpa using k)
      simp [e1, e2]
  · cases h
theorem zLr.st2 {m : Nat} {ad : List Nat} {ob : Option Nat} {ls ls' : Array Slot} {al al' : List (Option Value)} (g : zLr m ad ob ls al) {i : Nat} {v w : Value} (h : zst2 m al i v = some al') (hv : zV ad ob v w) (hl : lv_has ls' (zml m) ((i, w) :: (lvAll ls).filter (fun q => !(q.1 == i) && (!(q.1 == i + 1) && !(q.1 + 1 == i && q.2.category == 2))))) : zLr m ad ob ls' al' := by
  obtain ⟨h1, h2, h3, h4⟩ := g
  unfold zst2 at h
  split at h
  · rename_i hq
    obtain ⟨q1, q3⟩ := hq
    have q2 := zwd_zwe q1
    cases h
    refine ⟨hl.1, hl.2.1, by rw [List.length_set]; exact h3, fun j u hj => ?_⟩
    by_cases e : j = i
    · subst e
      rw [List.getElem?_set_self (by omega)] at hj
      cases hj
      exact ⟨fun _ => q1, q2, w, hv, hl.2.2 (j, w) List.mem_cons_self⟩
    · rw [List.getElem?_set_ne (Ne.symm e)] at hj
      obtain ⟨g1, g2, x, g3, g4⟩ := h4 j u hj
      refine ⟨g1, g2, x, g3, hl.2.2 (j, x) (List.mem_cons_of_mem _ (List.mem_filter.mpr ⟨lvAll_mem g4, ?_⟩))⟩
      have e1 : (j == i) = false := by simpa using e
      have e3 : (j == i + 1) = false := by
        rw [beq_eq_false_iff_ne]
        intro z
        subst z
        have q4 : zwe m (i + 1) = zwd m i := rfl
        rw [q4, q1] at g2
        cases g2
      have e2 : (j + 1 == i && x.category == 2) = false := by
        rw [Bool.and_eq_false_iff]
        by_cases k : j + 1 = i
        · refine Or.inr ?_
          rw [beq_eq_false_iff_ne]
          intro z
          have q5 := g1 (by rw [← g3.cat]; exact z)
          subst k
          have q6 : zwe m (j + 1) = zwd m j := rfl
          rw [q6, q5] at q2
          cases q2
        · exact Or.inl (by simpa using k)
      simp [e1, e2, e3]
  · cases h
theorem zst1_lt {m : Nat} {al al' : List (Option Value)} {i : Nat} {v : Value} (h : zst1 m al i v = some al') : i < al.length := by
  unfold zst1 at h
  split at h
  · rename_i q; exact q.1
  · cases h
theorem zst2_lt {m : Nat} {al al' : List (Option Value)} {i : Nat} {v : Value} (h : zst2 m al i v = some al') : i + 1 < al.length := by
  unfold zst2 at h
  split at h
  · rename_i q; exact q.2
  · cases h
/-- a frame at its entry -/
theorem zLr.entry {m : Nat} {ad : List Nat} {ob : Option Nat} {as cas : List Value} (h : zVs ad ob as cas) (ha : as.all zarg = true) (hn : as.length ≤ zml m) (hm : ∀ i, i < as.length → zwe m i = false) : zLr m ad ob ((cas.map Slot.val ++ List.replicate (zml m - cas.length) Slot.unset).toArray) (zentry m as) := by
  have hlen := h.len
  have hall : ∀ v ∈ as, v.category = 1 := by
    intro v hv
    have := List.all_eq_true.mp ha v hv
    cases v <;> first | rfl | (simp [zarg] at this)
  have hcat : ∀ v ∈ cas, v.category = 1 := by
    intro v hv
    have h1 : v.category ∈ cas.map (fun v => v.category) := List.mem_map.mpr ⟨v, hv, rfl⟩
    rw [h.cat] at h1
    obtain ⟨u, hu, e⟩ := List.mem_map.mp h1
    rw [← e]
    exact hall u hu
  have rd : ∀ (i : Nat) (x : Slot), ((cas.map Slot.val ++ List.replicate (zml m - cas.length) Slot.unset).toArray)[i]? = some x → (∃ v, x = .val v ∧ v ∈ cas) ∨ x = .unset := by
    intro i x hx
    have hx : (cas.map Slot.val ++ List.replicate (zml m - cas.length) Slot.unset)[i]? = some x := by simpa using hx
    rcases List.mem_append.mp (List.mem_of_getElem? hx) with q | q
    · obtain ⟨v, hv, e⟩ := List.mem_map.mp q
      exact Or.inl ⟨v, e.symm, hv⟩
    · exact Or.inr (List.eq_of_mem_replicate q)
  refine ⟨by simp; omega, ⟨fun i v hi hv => ?_, fun i hi => ?_⟩, by simp [zentry]; omega, fun i v hi => ?_⟩
  · rcases rd i _ hi with ⟨u, e, hu⟩ | e
    · cases e
      rw [hcat _ hu] at hv
      cases hv
    · cases e
  · rcases rd i _ hi with ⟨u, e, hu⟩ | e <;> cases e
  · have hlt : i < as.length := by
      rcases Nat.lt_or_ge i as.length with q | q
      · exact q
      · unfold zentry at hi
        rw [List.getElem?_append_right (by simpa using q)] at hi
        have := List.eq_of_mem_replicate (List.mem_of_getElem? hi)
        cases this
    have hi' : as[i]? = some v := by
      unfold zentry at hi
      rw [List.getElem?_append_left (by simpa using hlt), List.getElem?_map] at hi
      cases hx : as[i]? with
      | none => rw [hx] at hi; cases hi
      | some u => rw [hx] at hi; cases hi; rfl
    obtain ⟨w, e1, e2⟩ := h.get hi'
    refine ⟨fun z => (by rw [hall v (List.mem_of_getElem? hi')] at z; cases z), hm i hlt, w, e2, ?_⟩
    have hlt2 : i < (cas.map Slot.val).length := by rw [List.length_map]; omega
    have : (cas.map Slot.val ++ List.replicate (zml m - cas.length) Slot.unset)[i]? = some (.val w) := by
      rw [List.getElem?_append_left hlt2, List.getElem?_map, e1]
      rfl
    simpa using this
/-! the tables' words that hold throughout -/
def zKs (D : va_G) (y : zY) (U : State) : Prop := va_K D vwCl [(y.1, .int), (y.2.1, .char), (y.2.2, .object RX5)] U ∧ (∀ w ∈ zNW, va_Nw w U) ∧ va_AO RX5 U
theorem zNW_warm {s U : State} (hW : s.WarmedH U.vm) (h : ∀ w ∈ zNW, va_Nw w s) : ∀ w ∈ zNW, va_Nw w U := by
  intro w hw
  obtain ⟨q, -, rfl⟩ := List.mem_map.mp hw
  exact va_Nw.warmM hW (h _ hw)
theorem zKs.warm {D : va_G} {y : zY} {s U : State} (hW : s.WarmedH U.vm) (h : zKs D y s) : zKs D y U := ⟨va_K.moved hW.alike h.1, zNW_warm hW h.2.1, va_AO.moved hW.alike h.2.2⟩
theorem zKs.blind {D : va_G} {y : zY} {a : Array Value} {U : State} {g : JFrame} {mk : MethodId} (h : zKs D y U) : zKs D y (U.calling g mk a) := by
  refine ⟨va_K.moved (u := U) (U := U.calling g mk a) (Vm.Alike.refl U.vm) h.1, fun w hw => ?_, va_AO.moved (u := U) (U := U.calling g mk a) (Vm.Alike.refl U.vm) h.2.2⟩
  obtain ⟨q, -, rfl⟩ := List.mem_map.mp hw
  exact va_Nw.same (u := U) (U := U.calling g mk a) rfl rfl (h.2.1 _ hw)
end
section
/-! a step of the abstract machine within a frame is a step of the machine -/
theorem zq_some {α : Type} {b : Bool} {o : zO} {r : _} (h : zq b o = some r) : b = true ∧ o = some r := by
  unfold zq at h
  split at h
  · rename_i q; exact ⟨q, h⟩
  · cases h
theorem zn_inl {pc : Nat} {al : List (Option Value)} {st : List Value} {h : zH} {r : _} (e : zn pc al st h = some (.inl r)) : r = (pc, al, st, h) := by
  unfold zn at e
  cases e
  rfl
theorem ztg_inl {pc : Nat} {off : Int} {al : List (Option Value)} {st : List Value} {h : zH} {r : _} (e : ztg pc off al st h = some (.inl r)) : ∃ t : Nat, (pc : Int) + off = (t : Int) ∧ r = (t, al, st, h) := by
  unfold ztg at e
  split at e
  · rename_i q
    exact ⟨_, by omega, zn_inl e⟩
  · cases e
theorem zb_some {α β : Type} {o : Option α} {f : α → Option β} {r : β} (h : o.bind f = some r) : ∃ a, o = some a ∧ f a = some r := Option.bind_eq_some_iff.mp h
theorem zin_vp {j : Int32} {n : Nat} (h : zin j n = true) : vp_in j n := by
  simp only [zin, Bool.and_eq_true, Bool.not_eq_true', decide_eq_false_iff_not, decide_eq_true_eq] at h
  intro q
  rcases q with q | q
  · exact h.1 q
  · omega
section ZS
variable {p : Program} {l : Launch} {e : Env} {R : Room} {s : State} {mth : MethodId} {args : Array Value} {below : List Frame} {meth : Method} {c : Code} {Q : State → Prop} {D : va_G} {y : zY} {A : Nat → Prop} {H0 : Heap} {ob : Option Nat} {m n0 s0 : Nat} {ad0 : List Nat}
/-- what stays throughout a frame -/
def zCx (p : Program) (R : Room) (s : State) (mth : MethodId) (args : Array Value) (meth : Method) (c : Code) (D : va_G) (y : zY) (A : Nat → Prop) (H0 : Heap) (m : Nat) : Prop :=
  p.tables.exec = Jvm.exec ∧ c.code = zb m ∧ c.maxLocals = zml m ∧ s.vm.findClass (zK (zcl m)) = some mth.cls ∧ (∀ w ∈ WS, w.before args s = true) ∧ zKs D y s ∧ (∀ q, H0.size ≤ q → A q) ∧ ((zy m).name = "<init>" → meth.name = "<init>") ∧ 1 ≤ R.frames ∧ 64 ≤ R.locals
/-- the script, where the frame is the law's -/
def zSc (s : State) (A : Nat → Prop) (H0 : Heap) (ob : Option Nat) (h : zH) : Prop := ∀ b : Nat, ob = some b → va_X b h.2.2.2.1 h.2.2.2.2 s H0 ∧ b < H0.size ∧ ¬ A b
/-- the machine's state is that of the abstract one -/
def zDy (s : State) (D : va_G) (y : zY) (A : Nat → Prop) (H0 : Heap) (ob : Option Nat) (m : Nat) (ad0 : List Nat) (al : List (Option Value)) (st : List Value) (h : zH) (ad : List Nat) (ws : va_W) (H : Heap) (locs : List Loc) (ls : Array Slot) (cst : List Value) : Prop :=
  zHr ad y h ws ∧ va_P D vwCl ws H ∧ va_D A ws ∧ va_S A H0 H locs ∧ zLr m ad ob ls al ∧ zVs ad ob st cst ∧ zSc s A H0 ob h ∧ zExt ad0 ad
/-- from every state of the machine that is as the abstract one says, W holds -/
def zWg (p : Program) (l : Launch) (e : Env) (R : Room) (s : State) (mth : MethodId) (args : Array Value) (below : List Frame) (meth : Method) (c : Code) (Q : State → Prop) (D : va_G) (y : zY) (A : Nat → Prop) (H0 : Heap) (ob : Option Nat) (m n0 s0 : Nat) (ad0 : List Nat) (r : Nat × List (Option Value) × List Value × zH) : Prop :=
  ∀ (ad : List Nat) (ws : va_W) (H : Heap) (locs : List Loc) (ls : Array Slot) (cst : List Value), n0 ≤ r.2.2.2.1 → s0 ≤ r.2.2.2.2.1 → zDy s D y A H0 ob m ad0 r.2.1 r.2.2.1 r.2.2.2 ad ws H locs ls cst →
    W p l e R s mth args below meth c H locs (r.2.2.2.1 - n0) (r.2.2.2.2.1 - s0) Q (F0 mth r.1 ls cst)
theorem zDy.stk {al : List (Option Value)} {st st' : List Value} {h : zH} {ad : List Nat} {ws : va_W} {H : Heap} {locs : List Loc} {ls : Array Slot} {cst cst' : List Value} (X : zDy s D y A H0 ob m ad0 al st h ad ws H locs ls cst) (q : zVs ad ob st' cst') : zDy s D y A H0 ob m ad0 al st' h ad ws H locs ls cst' := by
  obtain ⟨x1, x2, x3, x4, x5, x6, x7, x8⟩ := X
  exact ⟨x1, x2, x3, x4, x5, q, x7, x8⟩
theorem zDy.loc {al al' : List (Option Value)} {st st' : List Value} {h : zH} {ad : List Nat} {ws : va_W} {H : Heap} {locs : List Loc} {ls ls' : Array Slot} {cst cst' : List Value} (X : zDy s D y A H0 ob m ad0 al st h ad ws H locs ls cst) (g : zLr m ad ob ls' al') (q : zVs ad ob st' cst') : zDy s D y A H0 ob m ad0 al' st' h ad ws H locs ls' cst' := by
  obtain ⟨x1, x2, x3, x4, x5, x6, x7, x8⟩ := X
  exact ⟨x1, x2, x3, x4, g, q, x7, x8⟩
theorem zsc_zu {h : zH} {i : Nat} {x : zC} (g : zSc s A H0 ob h) : zSc s A H0 ob (zu h i x) := g
theorem zsc_push {h : zH} {i : Nat} {x : zC} (g : zSc s A H0 ob h) : zSc s A H0 ob (zpush h i x) := g
/-- one cell was written -/
theorem zDy.upd {al : List (Option Value)} {st st' : List Value} {h : zH} {ad : List Nat} {ws : va_W} {H H1 : Heap} {locs locs1 : List Loc} {ls : Array Slot} {cst cst' : List Value} (X : zDy s D y A H0 ob m ad0 al st h ad ws H locs ls cst) {i a : Nat} {x : zC} {x' : va_E} (ha : ad[i]? = some a) (hE : zE ad y x x') (hP : va_P D vwCl (ws.set i (a, x')) H1) (hD : va_D A (ws.set i (a, x'))) (hS : va_S A H0 H1 locs1) (q : zVs ad ob st' cst') : zDy s D y A H0 ob m ad0 al st' (zu h i x) ad (ws.set i (a, x')) H1 locs1 ls cst' := by
  obtain ⟨x1, x2, x3, x4, x5, x6, x7, x8⟩ := X
  exact ⟨x1.set ha hE, hP, hD, hS, x5, q, zsc_zu x7, x8⟩
/-- a cell was made -/
theorem zDy.mk {al : List (Option Value)} {st st' : List Value} {h : zH} {ad : List Nat} {ws : va_W} {H H1 : Heap} {locs locs1 : List Loc} {ls : Array Slot} {cst cst' : List Value} (X : zDy s D y A H0 ob m ad0 al st h ad ws H locs ls cst) {a n : Nat} {x : zC} {x' : va_E} (hE : zE (ad ++ [a]) y x x') (hP : va_P D vwCl (ws ++ [(a, x')]) H1) (hD : va_D A (ws ++ [(a, x')])) (hS : va_S A H0 H1 locs1) (q : zVs (ad ++ [a]) ob st' cst') : zDy s D y A H0 ob m ad0 al st' (zpush h n x) (ad ++ [a]) (ws ++ [(a, x')]) H1 locs1 ls cst' := by
  obtain ⟨x1, x2, x3, x4, x5, x6, x7, x8⟩ := X
  exact ⟨x1.push hE, hP, hD, hS, x5.ext zExt.app, q, zsc_push x7, x8.tr zExt.app⟩
theorem zz_iload {pc w i : Nat} {al : List (Option Value)} {st : List Value} {h : zH} {r : _} (hs : zload m pc w i al st h = some (.inl r)) : ∃ x, zld al i = some (.int x) ∧ r = (pc + w, al, .int x :: st, h) := by
  unfold zload at hs
  split at hs
  · rename_i x hx
    exact ⟨x, hx, zn_inl hs⟩
  · cases hs
theorem zz_aload {pc w i : Nat} {al : List (Option Value)} {st : List Value} {h : zH} {r : _} (hs : zloada m pc w i al st h = some (.inl r)) : ∃ v, zld al i = some v ∧ (∀ (ad : List Nat) (u : Value), zV ad ob v u → ∃ a, u = .ref a) ∧ r = (pc + w, al, v :: st, h) := by
  unfold zloada at hs
  split at hs
  · rename_i x hx
    exact ⟨_, hx, fun ad u hu => by obtain ⟨a, -, e⟩ := hu; exact ⟨a, e⟩, zn_inl hs⟩
  · rename_i x hx
    exact ⟨_, hx, fun ad u hu => by obtain ⟨a, -, e⟩ := hu; exact ⟨a, e⟩, zn_inl hs⟩
  · cases hs
theorem zz_istore {pc w i : Nat} {al : List (Option Value)} {st : List Value} {h : zH} {r : _} (hs : zstore m pc w i al st h = some (.inl r)) : ∃ x t al', st = .int x :: t ∧ zst1 m al i (.int x) = some al' ∧ r = (pc + w, al', t, h) := by
  unfold zstore at hs
  split at hs
  · rename_i x t
    obtain ⟨al', h1, h2⟩ := zb_some hs
    exact ⟨x, t, al', rfl, h1, zn_inl h2⟩
  · cases hs
theorem zz_astore {pc w i : Nat} {al : List (Option Value)} {st : List Value} {h : zH} {r : _} (hs : zstorea m pc w i al st h = some (.inl r)) : ∃ x t al', st = .ref x :: t ∧ zst1 m al i (.ref x) = some al' ∧ r = (pc + w, al', t, h) := by
  unfold zstorea at hs
  split at hs
  · rename_i x t
    obtain ⟨al', h1, h2⟩ := zb_some hs
    exact ⟨x, t, al', rfl, h1, zn_inl h2⟩
  · cases hs
theorem zz_arith {pc : Nat} {al : List (Option Value)} {st : List Value} {h : zH} {f : Int32 → Int32 → Option Int32} {r : _} (hs : zarith pc al st h f = some (.inl r)) : ∃ y x t z, st = .int y :: .int x :: t ∧ f x y = some z ∧ r = (pc + 1, al, .int z :: t, h) := by
  unfold zarith at hs
  split at hs
  · rename_i y x t
    obtain ⟨z, h1, h2⟩ := zb_some hs
    exact ⟨y, x, t, z, rfl, h1, zn_inl h2⟩
  · cases hs
variable {pc : Nat} {al : List (Option Value)} {st : List Value} {h : zH} {r : Nat × List (Option Value) × List Value × zH} {len : Nat}
theorem zs_const {i : Instr} (C : zCx p R s mth args meth c D y A H0 m) (hd : decode (zb m) pc = .ok (i, len)) (hi : (∃ n, i = .iconst n) ∨ (∃ n, i = .bipush n) ∨ (∃ n, i = .sipush n) ∨ (∃ n, i = .ldc n) ∨ (∃ n, i = .ldc_w n) ∨ (∃ n, i = .ldc2_w n)) (hs : zdo m pc i len al st h = some (.inl r)) (k : zWg p l e R s mth args below meth c Q D y A H0 ob m n0 s0 ad0 r) : zWg p l e R s mth args below meth c Q D y A H0 ob m n0 s0 ad0 (pc, al, st, h) := by
  obtain ⟨hx, hb, hml, hown, hts, hK, hA, hnm, hR1, hR2⟩ := C
  intro ad ws H locs ls cst h1 h2 X
  rcases hi with ⟨n, rfl⟩ | ⟨n, rfl⟩ | ⟨n, rfl⟩ | ⟨n, rfl⟩ | ⟨n, rfl⟩ | ⟨n, rfl⟩ <;> (have hq0 := zq_some (α := Nat) hs; clear hs; obtain ⟨hl, hs⟩ := hq0)
  · cases beq_iff_eq.mp hl; cases zn_inl hs
    exact lv_iconst hx hb hd rfl (k _ _ _ _ _ _ h1 h2 (X.stk ⟨_, _, rfl, rfl, X.2.2.2.2.2.1⟩))
  · cases beq_iff_eq.mp hl; cases zn_inl hs
    exact lv_bipush hx hb hd rfl (k _ _ _ _ _ _ h1 h2 (X.stk ⟨_, _, rfl, rfl, X.2.2.2.2.2.1⟩))
  · cases beq_iff_eq.mp hl; cases zn_inl hs
    exact lv_sipush hx hb hd rfl (k _ _ _ _ _ _ h1 h2 (X.stk ⟨_, _, rfl, rfl, X.2.2.2.2.2.1⟩))
  · cases beq_iff_eq.mp hl
    obtain ⟨v, hv, hs⟩ := zb_some hs
    cases zn_inl hs
    exact lv_ldc hx hb hown (hts _ (zcon_ok hv)) hd (k _ _ _ _ _ _ h1 h2 (X.stk ⟨_, _, rfl, rfl, X.2.2.2.2.2.1⟩))
  · cases beq_iff_eq.mp hl
    obtain ⟨v, hv, hs⟩ := zb_some hs
    cases zn_inl hs
    exact lv_ldcw hx hb hown (hts _ (zcon_ok hv)) hd (k _ _ _ _ _ _ h1 h2 (X.stk ⟨_, _, rfl, rfl, X.2.2.2.2.2.1⟩))
  · cases beq_iff_eq.mp hl
    obtain ⟨v, hv, hs⟩ := zb_some hs
    cases zn_inl hs
    exact lv_ldc2 hx hb hown (hts _ (zcoL_ok hv)) hd (k _ _ _ _ _ _ h1 h2 (X.stk ⟨_, _, rfl, rfl, X.2.2.2.2.2.1⟩))
theorem zs_local {i : Instr} (C : zCx p R s mth args meth c D y A H0 m) (hd : decode (zb m) pc = .ok (i, len)) (hi : (∃ n, i = .iload_n n) ∨ (∃ n, i = .iload n) ∨ (∃ n, i = .aload_n n) ∨ (∃ n, i = .aload n) ∨ (∃ n, i = .istore_n n) ∨ (∃ n, i = .istore n) ∨ (∃ n, i = .astore_n n) ∨ (∃ n, i = .astore n) ∨ (∃ n, i = .lload_n n) ∨ (∃ n, i = .lload n) ∨ (∃ n, i = .lstore_n n) ∨ (∃ n, i = .lstore n) ∨ (∃ n q, i = .iinc n q)) (hs : zdo m pc i len al st h = some (.inl r)) (k : zWg p l e R s mth args below meth c Q D y A H0 ob m n0 s0 ad0 r) : zWg p l e R s mth args below meth c Q D y A H0 ob m n0 s0 ad0 (pc, al, st, h) := by
  obtain ⟨hx, hb, hml, hown, hts, hK, hA, hnm, hR1, hR2⟩ := C
  intro ad ws H locs ls cst h1 h2 X
  have X5 := X.2.2.2.2.1
  have X6 := X.2.2.2.2.2.1
  have hal : al.length = zml m := X5.2.2.1
  have hl0 := lvAll_has X5.1 X5.2.1
  rcases hi with ⟨n, rfl⟩ | ⟨n, rfl⟩ | ⟨n, rfl⟩ | ⟨n, rfl⟩ | ⟨n, rfl⟩ | ⟨n, rfl⟩ | ⟨n, rfl⟩ | ⟨n, rfl⟩ | ⟨n, rfl⟩ | ⟨n, rfl⟩ | ⟨n, rfl⟩ | ⟨n, rfl⟩ | ⟨n, q, rfl⟩ <;> (have hq0 := zq_some (α := Nat) hs; clear hs; obtain ⟨hl, hs⟩ := hq0; cases beq_iff_eq.mp hl)
  · obtain ⟨x, hx1, rfl⟩ := zz_iload hs
    obtain ⟨w, hw, hw2⟩ := X5.at' hx1
    cases hw
    exact lv_iload_n hx hb hd rfl hw2 (k _ _ _ _ _ _ h1 h2 (X.stk ⟨_, _, rfl, rfl, X6⟩))
  · obtain ⟨x, hx1, rfl⟩ := zz_iload hs
    obtain ⟨w, hw, hw2⟩ := X5.at' hx1
    cases hw
    exact lv_iload hx hb hd hw2 (k _ _ _ _ _ _ h1 h2 (X.stk ⟨_, _, rfl, rfl, X6⟩))
  · obtain ⟨v, hx1, hr, rfl⟩ := zz_aload (ob := ob) hs
    obtain ⟨w, hw, hw2⟩ := X5.at' hx1
    obtain ⟨a, rfl⟩ := hr _ _ hw
    exact lv_aload_n hx hb hd rfl hw2 (k _ _ _ _ _ _ h1 h2 (X.stk ⟨_, _, rfl, hw, X6⟩))
  · obtain ⟨v, hx1, hr, rfl⟩ := zz_aload (ob := ob) hs
    obtain ⟨w, hw, hw2⟩ := X5.at' hx1
    obtain ⟨a, rfl⟩ := hr _ _ hw
    exact lv_aload hx hb hd hw2 (k _ _ _ _ _ _ h1 h2 (X.stk ⟨_, _, rfl, hw, X6⟩))
  · obtain ⟨x, t, al', rfl, e1, rfl⟩ := zz_istore hs
    obtain ⟨w, us, rfl, hw, hus⟩ := X6
    cases hw
    have hlt := zst1_lt e1
    exact lv_istore_n hx hb hd rfl hl0 (by omega) rfl (fun ls' hl' => k _ _ _ _ _ _ h1 h2 (X.loc (X5.st1 e1 rfl rfl hl') hus))
  · obtain ⟨x, t, al', rfl, e1, rfl⟩ := zz_istore hs
    obtain ⟨w, us, rfl, hw, hus⟩ := X6
    cases hw
    have hlt := zst1_lt e1
    exact lv_istore hx hb hd hl0 (by omega) rfl (fun ls' hl' => k _ _ _ _ _ _ h1 h2 (X.loc (X5.st1 e1 rfl rfl hl') hus))
  · obtain ⟨x, t, al', rfl, e1, rfl⟩ := zz_astore hs
    obtain ⟨w, us, rfl, hw, hus⟩ := X6
    obtain ⟨a, ha, rfl⟩ := hw
    have hlt := zst1_lt e1
    exact lv_astore_n hx hb hd rfl hl0 (by omega) rfl (fun ls' hl' => k _ _ _ _ _ _ h1 h2 (X.loc (X5.st1 e1 ⟨a, ha, rfl⟩ rfl hl') hus))
  · obtain ⟨x, t, al', rfl, e1, rfl⟩ := zz_astore hs
    obtain ⟨w, us, rfl, hw, hus⟩ := X6
    obtain ⟨a, ha, rfl⟩ := hw
    have hlt := zst1_lt e1
    exact lv_astore hx hb hd hl0 (by omega) rfl (fun ls' hl' => k _ _ _ _ _ _ h1 h2 (X.loc (X5.st1 e1 ⟨a, ha, rfl⟩ rfl hl') hus))
  · try dsimp only at hs
    split at hs
    · rename_i x hx1
      cases zn_inl hs
      obtain ⟨w, hw, hw2⟩ := X5.at' hx1
      cases hw
      exact lv_lload_n hx hb hd rfl hw2 (k _ _ _ _ _ _ h1 h2 (X.stk ⟨_, _, rfl, rfl, X6⟩))
    · cases hs
  · try dsimp only at hs
    split at hs
    · rename_i x hx1
      cases zn_inl hs
      obtain ⟨w, hw, hw2⟩ := X5.at' hx1
      cases hw
      exact lv_lload hx hb hd hw2 (k _ _ _ _ _ _ h1 h2 (X.stk ⟨_, _, rfl, rfl, X6⟩))
    · cases hs
  · try dsimp only at hs
    split at hs
    · rename_i x t
      obtain ⟨al', e1, hs⟩ := zb_some hs
      cases zn_inl hs
      obtain ⟨w, us, rfl, hw, hus⟩ := X6
      cases hw
      have hlt := zst2_lt e1
      exact lv_lstore_n hx hb hd rfl hl0 (by omega) rfl (fun ls' hl' => k _ _ _ _ _ _ h1 h2 (X.loc (X5.st2 e1 rfl hl') hus))
    · cases hs
  · try dsimp only at hs
    split at hs
    · rename_i x t
      obtain ⟨al', e1, hs⟩ := zb_some hs
      cases zn_inl hs
      obtain ⟨w, us, rfl, hw, hus⟩ := X6
      cases hw
      have hlt := zst2_lt e1
      exact lv_lstore hx hb hd hl0 (by omega) rfl (fun ls' hl' => k _ _ _ _ _ _ h1 h2 (X.loc (X5.st2 e1 rfl hl') hus))
    · cases hs
  · try dsimp only at hs
    split at hs
    · rename_i x hx1
      obtain ⟨al', e1, hs⟩ := zb_some hs
      cases zn_inl hs
      obtain ⟨w, hw, hw2⟩ := X5.at' hx1
      cases hw
      have hlt := zst1_lt e1
      obtain ⟨j, hj⟩ := List.getElem?_of_mem (lvAll_mem hw2)
      exact lv_iinc hx hb hd hl0 hj rfl (by omega) rfl (fun ls' hl' => k _ _ _ _ _ _ h1 h2 (X.loc (X5.st1 e1 rfl rfl hl') X6))
    · cases hs
theorem zs_arith {i : Instr} (C : zCx p R s mth args meth c D y A H0 m) (hd : decode (zb m) pc = .ok (i, len)) (hi : i = .iadd ∨ i = .isub ∨ i = .imul ∨ i = .idiv ∨ i = .irem ∨ i = .iand ∨ i = .ior ∨ i = .ishl ∨ i = .ishr) (hs : zdo m pc i len al st h = some (.inl r)) (k : zWg p l e R s mth args below meth c Q D y A H0 ob m n0 s0 ad0 r) : zWg p l e R s mth args below meth c Q D y A H0 ob m n0 s0 ad0 (pc, al, st, h) := by
  obtain ⟨hx, hb, hml, hown, hts, hK, hA, hnm, hR1, hR2⟩ := C
  intro ad ws H locs ls cst h1 h2 X
  have X6 := X.2.2.2.2.2.1
  rcases hi with rfl | rfl | rfl | rfl | rfl | rfl | rfl | rfl | rfl <;> (have hq0 := zq_some (α := Nat) hs; clear hs; obtain ⟨hl, hs⟩ := hq0; cases beq_iff_eq.mp hl; obtain ⟨y1, x1, t, z, rfl, hz, rfl⟩ := zz_arith hs; obtain ⟨w1, us1, rfl, hw1, w2, us, rfl, hw2, hus⟩ := X6; cases hw1; cases hw2; try dsimp only at hz)
  · cases hz
    exact lv_iadd hx hb hd (k _ _ _ _ _ _ h1 h2 (X.stk ⟨_, _, rfl, rfl, hus⟩))
  · cases hz
    exact lv_isub hx hb hd (k _ _ _ _ _ _ h1 h2 (X.stk ⟨_, _, rfl, rfl, hus⟩))
  · cases hz
    exact lv_imul hx hb hd (k _ _ _ _ _ _ h1 h2 (X.stk ⟨_, _, rfl, rfl, hus⟩))
  · split at hz
    · cases hz
    · rename_i hne
      cases hz
      exact lv_idiv hx hb hd hne (k _ _ _ _ _ _ h1 h2 (X.stk ⟨_, _, rfl, rfl, hus⟩))
  · split at hz
    · cases hz
    · rename_i hne
      cases hz
      exact lv_irem hx hb hd hne (k _ _ _ _ _ _ h1 h2 (X.stk ⟨_, _, rfl, rfl, hus⟩))
  · cases hz
    exact lv_iand hx hb hd (k _ _ _ _ _ _ h1 h2 (X.stk ⟨_, _, rfl, rfl, hus⟩))
  · cases hz
    exact lv_ior hx hb hd (k _ _ _ _ _ _ h1 h2 (X.stk ⟨_, _, rfl, rfl, hus⟩))
  · cases hz
    exact lv_ishl hx hb hd (k _ _ _ _ _ _ h1 h2 (X.stk ⟨_, _, rfl, rfl, hus⟩))
  · cases hz
    exact lv_ishr hx hb hd (k _ _ _ _ _ _ h1 h2 (X.stk ⟨_, _, rfl, rfl, hus⟩))
theorem zs_stack {i : Instr} (C : zCx p R s mth args meth c D y A H0 m) (hd : decode (zb m) pc = .ok (i, len)) (hi : i = .i2c ∨ i = .i2l ∨ i = .ladd ∨ i = .lmul ∨ i = .lcmp ∨ i = .dup ∨ i = .dup2 ∨ i = .pop) (hs : zdo m pc i len al st h = some (.inl r)) (k : zWg p l e R s mth args below meth c Q D y A H0 ob m n0 s0 ad0 r) : zWg p l e R s mth args below meth c Q D y A H0 ob m n0 s0 ad0 (pc, al, st, h) := by
  obtain ⟨hx, hb, hml, hown, hts, hK, hA, hnm, hR1, hR2⟩ := C
  intro ad ws H locs ls cst h1 h2 X
  have X6 := X.2.2.2.2.2.1
  rcases hi with rfl | rfl | rfl | rfl | rfl | rfl | rfl | rfl <;> (have hq0 := zq_some (α := Nat) hs; clear hs; obtain ⟨hl, hs⟩ := hq0; cases beq_iff_eq.mp hl; try dsimp only at hs)
  · split at hs
    · rename_i x t
      cases zn_inl hs
      obtain ⟨w1, us, rfl, hw1, hus⟩ := X6
      cases hw1
      exact lv_i2c hx hb hd rfl (k _ _ _ _ _ _ h1 h2 (X.stk ⟨_, _, rfl, rfl, hus⟩))
    · cases hs
  · split at hs
    · rename_i x t
      cases zn_inl hs
      obtain ⟨w1, us, rfl, hw1, hus⟩ := X6
      cases hw1
      exact lv_i2l hx hb hd rfl (k _ _ _ _ _ _ h1 h2 (X.stk ⟨_, _, rfl, rfl, hus⟩))
    · cases hs
  · split at hs
    · rename_i x t
      cases zn_inl hs
      obtain ⟨w1, us1, rfl, hw1, w2, us, rfl, hw2, hus⟩ := X6
      cases hw1; cases hw2
      exact lv_ladd hx hb hd (k _ _ _ _ _ _ h1 h2 (X.stk ⟨_, _, rfl, rfl, hus⟩))
    · cases hs
  · split at hs
    · rename_i x t
      cases zn_inl hs
      obtain ⟨w1, us1, rfl, hw1, w2, us, rfl, hw2, hus⟩ := X6
      cases hw1; cases hw2
      exact lv_lmul hx hb hd (k _ _ _ _ _ _ h1 h2 (X.stk ⟨_, _, rfl, rfl, hus⟩))
    · cases hs
  · split at hs
    · rename_i x t
      cases zn_inl hs
      obtain ⟨w1, us1, rfl, hw1, w2, us, rfl, hw2, hus⟩ := X6
      cases hw1; cases hw2
      exact W.lcmp hx hb hd (k _ _ _ _ _ _ h1 h2 (X.stk ⟨_, _, rfl, rfl, hus⟩))
    · cases hs
  · split at hs
    · rename_i v t
      obtain ⟨hq, hs⟩ := zq_some (α := Nat) hs
      cases zn_inl hs
      obtain ⟨w1, us, rfl, hw1, hus⟩ := X6
      exact lv_dup hx hb hd (hw1.cat.trans (of_decide_eq_true hq)) (k _ _ _ _ _ _ h1 h2 (X.stk ⟨_, _, rfl, hw1, _, _, rfl, hw1, hus⟩))
    · cases hs
  · split at hs
    · rename_i v u t
      obtain ⟨hq, hs⟩ := zq_some (α := Nat) hs
      rw [Bool.and_eq_true] at hq
      cases zn_inl hs
      obtain ⟨w1, us1, rfl, hw1, w2, us, rfl, hw2, hus⟩ := X6
      exact lv_dup2_11 hx hb hd (hw1.cat.trans (of_decide_eq_true hq.1)) (hw2.cat.trans (of_decide_eq_true hq.2)) (k _ _ _ _ _ _ h1 h2 (X.stk ⟨_, _, rfl, hw1, _, _, rfl, hw2, _, _, rfl, hw1, _, _, rfl, hw2, hus⟩))
    · cases hs
  · split at hs
    · rename_i v t
      obtain ⟨hq, hs⟩ := zq_some (α := Nat) hs
      cases zn_inl hs
      obtain ⟨w1, us, rfl, hw1, hus⟩ := X6
      exact lv_pop hx hb hd (hw1.cat.trans (of_decide_eq_true hq)) (k _ _ _ _ _ _ h1 h2 (X.stk hus))
    · cases hs
end ZS
end
section
section ZS2
variable {p : Program} {l : Launch} {e : Env} {R : Room} {s : State} {mth : MethodId} {args : Array Value} {below : List Frame} {meth : Method} {c : Code} {Q : State → Prop} {D : va_G} {y : zY} {A : Nat → Prop} {H0 : Heap} {ob : Option Nat} {m n0 s0 : Nat} {ad0 : List Nat}
variable {pc : Nat} {al : List (Option Value)} {st : List Value} {h : zH} {r : Nat × List (Option Value) × List Value × zH} {len : Nat}
theorem zs_jump {i : Instr} (C : zCx p R s mth args meth c D y A H0 m) (hd : decode (zb m) pc = .ok (i, len)) (hi : (∃ n, i = .goto n) ∨ (∃ d lo hi n, i = .tableswitch d lo hi n) ∨ (∃ n q, i = .lookupswitch n q)) (hs : zdo m pc i len al st h = some (.inl r)) (k : zWg p l e R s mth args below meth c Q D y A H0 ob m n0 s0 ad0 r) : zWg p l e R s mth args below meth c Q D y A H0 ob m n0 s0 ad0 (pc, al, st, h) := by
  obtain ⟨hx, hb, hml, hown, hts, hK, hA, hnm, hR1, hR2⟩ := C
  intro ad ws H locs ls cst h1 h2 X
  have X6 := X.2.2.2.2.2.1
  rcases hi with ⟨n, rfl⟩ | ⟨d, lo, hi, n, rfl⟩ | ⟨n, q, rfl⟩
  · have hq0 := zq_some (α := Nat) hs
    clear hs
    obtain ⟨hl, hs⟩ := hq0
    cases beq_iff_eq.mp hl
    obtain ⟨t, ht, rfl⟩ := ztg_inl hs
    exact lv_goto hx hb hd ht (k _ _ _ _ _ _ h1 h2 X)
  · simp only [zdo] at hs
    split at hs
    · rename_i x t
      obtain ⟨w1, us, rfl, hw1, hus⟩ := X6
      cases hw1
      split at hs
      · rename_i hq
        obtain ⟨t, ht, rfl⟩ := ztg_inl hs
        exact lv_tableOut hx hb hd hq ht (k _ _ _ _ _ _ h1 h2 (X.stk hus))
      · rename_i hq
        obtain ⟨off, ho, hs⟩ := zb_some hs
        obtain ⟨t, ht, rfl⟩ := ztg_inl hs
        exact lv_tableIn hx hb hd (fun z => hq (Or.inl z)) (fun z => hq (Or.inr z)) ho ht (k _ _ _ _ _ _ h1 h2 (X.stk hus))
    · cases hs
  · simp only [zdo] at hs
    split at hs
    · rename_i x t
      obtain ⟨w1, us, rfl, hw1, hus⟩ := X6
      cases hw1
      have hq0 := zq_some (α := Nat) hs
      clear hs
      obtain ⟨hl, hs⟩ := hq0
      obtain ⟨t, ht, rfl⟩ := ztg_inl hs
      exact lv_lookup hx hb hd hl rfl ht (k _ _ _ _ _ _ h1 h2 (X.stk hus))
    · cases hs
theorem zs_icmp {cd : ClassFile.Cond} {off : Int} (C : zCx p R s mth args meth c D y A H0 m) (hd : decode (zb m) pc = .ok (.if_icmp cd off, len)) (hs : zdo m pc (.if_icmp cd off) len al st h = some (.inl r)) (k : zWg p l e R s mth args below meth c Q D y A H0 ob m n0 s0 ad0 r) : zWg p l e R s mth args below meth c Q D y A H0 ob m n0 s0 ad0 (pc, al, st, h) := by
  obtain ⟨hx, hb, hml, hown, hts, hK, hA, hnm, hR1, hR2⟩ := C
  intro ad ws H locs ls cst h1 h2 X
  have X6 := X.2.2.2.2.2.1
  have hq0 := zq_some (α := Nat) hs
  clear hs
  obtain ⟨hl, hs⟩ := hq0
  cases beq_iff_eq.mp hl
  split at hs
  · rename_i y1 x1 t
    obtain ⟨w1, us1, rfl, hw1, w2, us, rfl, hw2, hus⟩ := X6
    cases hw1; cases hw2
    have hq0 := zq_some (α := Nat) hs
    clear hs
    obtain ⟨hq, hs⟩ := hq0
    have hq := of_decide_eq_true hq
    have ht : (pc : Int) + off = ((((pc : Int) + off).toNat : Nat) : Int) := by omega
    have yes : zcond cd x1 y1 = true → W p l e R s mth args below meth c H locs (h.1 - n0) (h.2.1 - s0) Q (F0 mth ((pc : Int) + off).toNat ls us) := by
      intro hc
      rw [if_pos hc] at hs
      cases zn_inl hs
      exact k _ _ _ _ _ _ h1 h2 (X.stk hus)
    have no : zcond cd x1 y1 = false → W p l e R s mth args below meth c H locs (h.1 - n0) (h.2.1 - s0) Q (F0 mth (pc + 3) ls us) := by
      intro hc
      rw [if_neg (by rw [hc]; decide)] at hs
      cases zn_inl hs
      exact k _ _ _ _ _ _ h1 h2 (X.stk hus)
    cases cd
    · exact lv_icmp_eq hx hb hd ht (fun z => yes (decide_eq_true z)) (fun z => no (decide_eq_false z))
    · exact lv_icmp_ne hx hb hd ht (fun z => yes (by simp only [zcond, Bool.not_eq_true', decide_eq_false_iff_not]; exact z)) (fun z => no (by simp only [zcond, Bool.not_eq_false', decide_eq_true_eq]; exact z))
    · exact lv_icmp_lt hx hb hd ht (fun z => yes (decide_eq_true z)) (fun z => no (decide_eq_false z))
    · exact lv_icmp_ge hx hb hd ht (fun z => yes (decide_eq_true z)) (fun z => no (decide_eq_false z))
    · exact lv_icmp_gt hx hb hd ht (fun z => yes (decide_eq_true z)) (fun z => no (decide_eq_false z))
    · exact lv_icmp_le hx hb hd ht (fun z => yes (decide_eq_true z)) (fun z => no (decide_eq_false z))
  · cases hs
theorem zs_if {cd : ClassFile.Cond} {off : Int} (C : zCx p R s mth args meth c D y A H0 m) (hd : decode (zb m) pc = .ok (.ifCond cd off, len)) (hs : zdo m pc (.ifCond cd off) len al st h = some (.inl r)) (k : zWg p l e R s mth args below meth c Q D y A H0 ob m n0 s0 ad0 r) : zWg p l e R s mth args below meth c Q D y A H0 ob m n0 s0 ad0 (pc, al, st, h) := by
  obtain ⟨hx, hb, hml, hown, hts, hK, hA, hnm, hR1, hR2⟩ := C
  intro ad ws H locs ls cst h1 h2 X
  have X6 := X.2.2.2.2.2.1
  have hq0 := zq_some (α := Nat) hs
  clear hs
  obtain ⟨hl, hs⟩ := hq0
  cases beq_iff_eq.mp hl
  split at hs
  · rename_i x1 t
    obtain ⟨w1, us, rfl, hw1, hus⟩ := X6
    cases hw1
    have hq0 := zq_some (α := Nat) hs
    clear hs
    obtain ⟨hq, hs⟩ := hq0
    have hq := of_decide_eq_true hq
    have ht : (pc : Int) + off = ((((pc : Int) + off).toNat : Nat) : Int) := by omega
    have yes : zcond cd x1 0 = true → W p l e R s mth args below meth c H locs (h.1 - n0) (h.2.1 - s0) Q (F0 mth ((pc : Int) + off).toNat ls us) := by
      intro hc
      rw [if_pos hc] at hs
      cases zn_inl hs
      exact k _ _ _ _ _ _ h1 h2 (X.stk hus)
    have no : zcond cd x1 0 = false → W p l e R s mth args below meth c H locs (h.1 - n0) (h.2.1 - s0) Q (F0 mth (pc + 3) ls us) := by
      intro hc
      rw [if_neg (by rw [hc]; decide)] at hs
      cases zn_inl hs
      exact k _ _ _ _ _ _ h1 h2 (X.stk hus)
    cases cd
    · exact lv_if_eq hx hb hd ht (fun z => yes (decide_eq_true z)) (fun z => no (decide_eq_false z))
    · exact lv_if_ne hx hb hd ht (fun z => yes (by simp only [zcond, Bool.not_eq_true', decide_eq_false_iff_not]; exact z)) (fun z => no (by simp only [zcond, Bool.not_eq_false', decide_eq_true_eq]; exact z))
    · exact lv_if_lt hx hb hd ht (fun z => yes (decide_eq_true z)) (fun z => no (decide_eq_false z))
    · exact lv_if_ge hx hb hd ht (fun z => yes (decide_eq_true z)) (fun z => no (decide_eq_false z))
    · exact lv_if_gt hx hb hd ht (fun z => yes (decide_eq_true z)) (fun z => no (decide_eq_false z))
    · exact lv_if_le hx hb hd ht (fun z => yes (decide_eq_true z)) (fun z => no (decide_eq_false z))
  · cases hs
end ZS2
end
section
section ZS3
variable {p : Program} {l : Launch} {e : Env} {R : Room} {s : State} {mth : MethodId} {args : Array Value} {below : List Frame} {meth : Method} {c : Code} {Q : State → Prop} {D : va_G} {y : zY} {A : Nat → Prop} {H0 : Heap} {ob : Option Nat} {m n0 s0 : Nat} {ad0 : List Nat}
variable {pc : Nat} {al : List (Option Value)} {st : List Value} {h : zH} {r : Nat × List (Option Value) × List Value × zH} {len : Nat}
theorem zz_obj {ad : List Nat} {ws : va_W} (X : zHr ad y h ws) {i ci : Nat} {fs : List Value} (hg : zg h i = .inr (.inr (ci, fs))) (hc : ci ≠ 99) : ∃ a gs, ad[i]? = some a ∧ ws[i]? = some (a, .inr (ci, gs)) ∧ zVs ad none fs gs := by
  obtain ⟨a, e, h1, h2, gs, h3, rfl⟩ := X.at' hg (fun z => by unfold zvoid at z; cases z; exact hc rfl)
  exact ⟨a, gs, h1, h2, h3⟩
theorem zz_arr {ad : List Nat} {ws : va_W} (X : zHr ad y h ws) {i t n : Nat} {f : Nat → Int32} (hg : zg h i = .inl (t, n, f)) : ∃ a, ad[i]? = some a ∧ ((t = 0 ∧ ws[i]? = some (a, .inl (y.1, n, .inl f))) ∨ (t = 1 ∧ ws[i]? = some (a, .inl (y.2.1, n, .inl f)))) := by
  obtain ⟨a, e, h1, h2, h3⟩ := X.at' hg (fun z => by unfold zvoid at z; cases z)
  refine ⟨a, h1, ?_⟩
  rcases h3 with ⟨e1, rfl⟩ | ⟨e1, rfl⟩
  · exact Or.inl ⟨e1, h2⟩
  · exact Or.inr ⟨e1, h2⟩
theorem zz_qrr {ad : List Nat} {ws : va_W} (X : zHr ad y h ws) {i n : Nat} {f : Nat → Option Nat} (hg : zg h i = .inr (.inl (n, f))) : ∃ a g, ad[i]? = some a ∧ (∀ j, zR ad (f j) (g j)) ∧ ws[i]? = some (a, .inl (y.2.2, n, .inr (.inr (.inr (.inr g))))) := by
  obtain ⟨a, e, h1, h2, g, h3, rfl⟩ := X.at' hg (fun z => by unfold zvoid at z; cases z)
  exact ⟨a, g, h1, h3, h2⟩
theorem zT_99 {ci : Nat} {C : String} {T : u_T} {N : Nat} (h : zT ci = some (C, T, N)) : ci ≠ 99 := by
  rintro rfl
  simp [zT] at h
theorem zFk_ok {k1 i c1 f1 q : Nat} (h : zFk ((k1, i), (c1, f1)) q = true) : ∃ C T N, zT c1 = some (C, T, N) ∧ f1 < N ∧ Cond.fieldLink (zK k1) i C (T f1).2.1 (T f1).2.2.1 ∈ WS ∧ (T f1).1 = C ∧ C = zK k1 := by
  unfold zFk at h
  split at h
  · rename_i C T N hT
    simp only [Bool.and_eq_true, decide_eq_true_eq] at h
    exact ⟨C, T, N, hT, h.1.1.1, zw_ws h.1.1.2, h.1.2, h.2⟩
  · cases h
theorem zz_get {i c1 f1 : Nat} {v : Value} (h1 : zgetf h i c1 f1 = some v) : ∃ fs, zg h i = .inr (.inr (c1, fs)) ∧ fs[f1]? = some v := by
  unfold zgetf at h1
  split at h1
  · rename_i cc fs hg
    split at h1
    · rename_i e
      subst e
      exact ⟨fs, hg, h1⟩
    · cases h1
  · cases h1
theorem zz_put {i c1 f1 : Nat} {v : Value} {h2 : zH} (h1 : zputf h i c1 f1 v = some h2) : ∃ fs, zg h i = .inr (.inr (c1, fs)) ∧ f1 < fs.length ∧ h2 = zu h i (.inr (.inr (c1, fs.set f1 v))) := by
  unfold zputf at h1
  split at h1
  · rename_i cc fs hg
    split at h1
    · rename_i e
      obtain ⟨rfl, e⟩ := e
      cases h1
      exact ⟨fs, hg, e, rfl⟩
    · cases h1
  · cases h1
theorem zfit_v {ty : FieldType} {v w : Value} {ad : List Nat} (h : zfit ty v = true) (hv : zV ad ob v w) : zV ad none v w ∧ narrow ty w = w ∧ fits ty w = true := by
  simp only [zfit, Bool.and_eq_true, decide_eq_true_eq] at h
  obtain ⟨⟨h1, h2⟩, h3⟩ := h
  cases v with
  | int x => cases hv; exact ⟨rfl, h2, h3⟩
  | ref i =>
    obtain ⟨a, e, rfl⟩ := hv
    refine ⟨⟨a, e, rfl⟩, ?_, ?_⟩
    · cases ty <;> rfl
    · cases ty <;> first | exact h3 | rfl
  | _ => simp [zval] at h1
theorem zs_field {i : Instr} (C : zCx p R s mth args meth c D y A H0 m) (hd : decode (zb m) pc = .ok (i, len)) (hi : (∃ n, i = .getfield n) ∨ (∃ n, i = .putfield n)) (hs : zdo m pc i len al st h = some (.inl r)) (k : zWg p l e R s mth args below meth c Q D y A H0 ob m n0 s0 ad0 r) : zWg p l e R s mth args below meth c Q D y A H0 ob m n0 s0 ad0 (pc, al, st, h) := by
  obtain ⟨hx, hb, hml, hown, hts, hK, hA, hnm, hR1, hR2⟩ := C
  intro ad ws H locs ls cst h1 h2 X
  have X6 := X.2.2.2.2.2.1
  rcases hi with ⟨n, rfl⟩ | ⟨n, rfl⟩ <;> (have hq0 := zq_some (α := Nat) hs; clear hs; obtain ⟨hl, hs⟩ := hq0; cases beq_iff_eq.mp hl; split at hs)
  · rename_i i1 t
    obtain ⟨⟨c1, f1⟩, e1, hs⟩ := zb_some hs
    obtain ⟨v, e2, hs⟩ := zb_some hs
    cases zn_inl hs
    obtain ⟨pp, hp⟩ := zfld_ok e1
    obtain ⟨CC, T, N, hT, hf1, hlk, hC1, hC2⟩ := zFk_ok hp
    obtain ⟨fs, hg, hv⟩ := zz_get e2
    obtain ⟨a, gs, ha, hw, hvs⟩ := zz_obj X.1 hg (zT_99 hT)
    obtain ⟨w1, us, rfl, ⟨a', ha', rfl⟩, hus⟩ := X6
    cases ha.symm.trans ha'
    obtain ⟨w, hw1, hw2⟩ := hvs.get hv
    exact va_get hx hb hts (zT_ok hT).1 hown hK.1 X.2.1 i1 hw hT f1 hf1 (hts _ hlk) (fun x hx => by rw [hC1] at hx; exact hx) hw1 hd (k _ _ _ _ _ _ h1 h2 (X.stk ⟨_, _, rfl, hw2.weak, hus⟩))
  · cases hs
  · rename_i v i1 t
    obtain ⟨⟨c1, f1⟩, e1, hs⟩ := zb_some hs
    have hq0 := zq_some (α := Nat) hs
    clear hs
    obtain ⟨hq, hs⟩ := hq0
    obtain ⟨hh, e2, hs⟩ := zb_some hs
    cases zn_inl hs
    obtain ⟨pp, hp⟩ := zfld_ok e1
    obtain ⟨CC, T, N, hT, hf1, hlk, hC1, hC2⟩ := zFk_ok hp
    obtain ⟨fs, hg, hlt, rfl⟩ := zz_put e2
    obtain ⟨a, gs, ha, hw, hvs⟩ := zz_obj X.1 hg (zT_99 hT)
    obtain ⟨w0, us0, rfl, hw0, w1, us, rfl, ⟨a', ha', rfl⟩, hus⟩ := X6
    cases ha.symm.trans ha'
    unfold zpf at hq
    rw [hT] at hq
    rw [Bool.and_eq_true] at hq
    obtain ⟨hz1, hz2, hz3⟩ := zfit_v hq.1 hw0
    have hgl : f1 < gs.length := by rw [hvs.len]; exact hlt
    have hE : zE ad y (.inr (.inr (c1, fs.set f1 v))) (.inr (c1, gs.set f1 w0)) := ⟨_, hvs.set hz1, rfl⟩
    obtain ⟨hin, hty, hnms⟩ := zT_ok hT
    cases hfin : (T f1).2.2.2 with
    | false => exact va_put hx hb hts hin (zty c1) hty hnms hown hK.1 X.2.1 X.2.2.1 X.2.2.2.1 i1 hw hT f1 hf1 (hts _ hlk) (fun x hx => by rw [hC1] at hx; exact hx) hfin (hty f1 hf1) hz2 hz3 hgl hd (fun H1 locs1 hP hD hS => k _ _ _ _ _ _ h1 h2 (X.upd ha hE hP hD hS hus))
    | true =>
      have hq2 := hq.2
      rw [hfin] at hq2
      simp only [Bool.not_true, Bool.false_or, decide_eq_true_eq] at hq2
      exact va_putF hx hb hts hin (zty c1) hty hnms hown hK.1 X.2.1 X.2.2.1 X.2.2.2.1 i1 hw hT f1 hf1 (hts _ hlk) (fun x hx => by rw [hC1] at hx; exact hx) hfin (hnm hq2) (hC1.trans hC2) (hty f1 hf1) hz2 hz3 hgl hd (fun H1 locs1 hP hD hS => k _ _ _ _ _ _ h1 h2 (X.upd ha hE hP hD hS hus))
  · cases hs
theorem zz_ald {t i : Nat} {j x : Int32} (h1 : zald t h i j = some x) : ∃ n f, zg h i = .inl (t, n, f) ∧ zin j n = true ∧ x = f j.toNatClampNeg := by
  unfold zald at h1
  split at h1
  · rename_i t' n f hg
    split at h1
    · rename_i e
      obtain ⟨rfl, e⟩ := e
      cases h1
      exact ⟨n, f, hg, e, rfl⟩
    · cases h1
  · cases h1
theorem zz_asti {i : Nat} {j x : Int32} {h2 : zH} (h1 : zasti h i j x = some h2) : ∃ n f, zg h i = .inl (0, n, f) ∧ zin j n = true ∧ h2 = zu h i (.inl (0, n, upd f j.toNatClampNeg x)) := by
  unfold zasti at h1
  split at h1
  · rename_i t' n f hg
    split at h1
    · rename_i e
      obtain ⟨rfl, e⟩ := e
      cases h1
      exact ⟨n, f, hg, e, rfl⟩
    · cases h1
  · cases h1
theorem zz_astc {i : Nat} {j x : Int32} {h2 : zH} (h1 : zastc h i j x = some h2) : ∃ n f, zg h i = .inl (1, n, f) ∧ zin j n = true ∧ h2 = zu h i (.inl (1, n, upd f j.toNatClampNeg (vp_nar .char x))) := by
  unfold zastc at h1
  split at h1
  · rename_i t' n f hg
    split at h1
    · rename_i e
      obtain ⟨rfl, e⟩ := e
      cases h1
      exact ⟨n, f, hg, e, rfl⟩
    · cases h1
  · cases h1
theorem zz_aldq {i : Nat} {j : Int32} {x : Nat} (h1 : zaldq h i j = some x) : ∃ n f, zg h i = .inr (.inl (n, f)) ∧ zin j n = true ∧ f j.toNatClampNeg = some x := by
  unfold zaldq at h1
  split at h1
  · rename_i n f hg
    split at h1
    · rename_i e
      exact ⟨n, f, hg, e, h1⟩
    · cases h1
  · cases h1
theorem zz_is {k1 c1 : Nat} (h1 : zis h k1 c1 = true) : ∃ fs, zg h k1 = .inr (.inr (c1, fs)) := by
  unfold zis at h1
  split at h1
  · rename_i cc fs hg
    cases of_decide_eq_true h1
    exact ⟨fs, hg⟩
  · cases h1
theorem zz_astq {i : Nat} {j : Int32} {x : Nat} {h2 : zH} (h1 : zastq h i j x = some h2) : ∃ n f, zg h i = .inr (.inl (n, f)) ∧ zin j n = true ∧ zis h x 5 = true ∧ h2 = zu h i (.inr (.inl (n, va_up f j.toNatClampNeg (some x)))) := by
  unfold zastq at h1
  split at h1
  · rename_i n f hg
    split at h1
    · rename_i e
      cases h1
      exact ⟨n, f, hg, e.1, e.2, rfl⟩
    · cases h1
  · cases h1
theorem zz_len {i : Nat} {x : Int32} {ad : List Nat} {ws : va_W} (X : zHr ad y h ws) (h1 : zlen h i = some x) : ∃ (a t0 : Nat) (cA : ClassId) (b : vp_A) (ty : FieldType), ad[i]? = some a ∧ ws[i]? = some (a, .inl (cA, b)) ∧ ([(y.1, .int), (y.2.1, .char), (y.2.2, .object RX5)] : List (ClassId × FieldType))[t0]? = some (cA, ty) ∧ Int32.ofNat b.1 = x := by
  unfold zlen at h1
  split at h1
  · rename_i t n f hg
    obtain ⟨a, ha, hw⟩ := zz_arr X hg
    split at h1
    · cases h1
      rcases hw with ⟨-, hw⟩ | ⟨-, hw⟩
      · exact ⟨a, 0, _, _, _, ha, hw, rfl, rfl⟩
      · exact ⟨a, 1, _, _, _, ha, hw, rfl, rfl⟩
    · cases h1
  · rename_i n f hg
    obtain ⟨a, g, ha, -, hw⟩ := zz_qrr X hg
    cases h1
    exact ⟨a, 2, _, _, _, ha, hw, rfl, rfl⟩
  · cases h1
theorem zs_array {i : Instr} (C : zCx p R s mth args meth c D y A H0 m) (hd : decode (zb m) pc = .ok (i, len)) (hi : i = .iaload ∨ i = .caload ∨ i = .aaload ∨ i = .iastore ∨ i = .castore ∨ i = .aastore ∨ i = .arraylength) (hs : zdo m pc i len al st h = some (.inl r)) (k : zWg p l e R s mth args below meth c Q D y A H0 ob m n0 s0 ad0 r) : zWg p l e R s mth args below meth c Q D y A H0 ob m n0 s0 ad0 (pc, al, st, h) := by
  obtain ⟨hx, hb, hml, hown, hts, hK, hA, hnm, hR1, hR2⟩ := C
  intro ad ws H locs ls cst h1 h2 X
  have X6 := X.2.2.2.2.2.1
  rcases hi with rfl | rfl | rfl | rfl | rfl | rfl | rfl <;> (have hq0 := zq_some (α := Nat) hs; clear hs; obtain ⟨hl, hs⟩ := hq0; cases beq_iff_eq.mp hl; split at hs)
  · rename_i j i1 t
    obtain ⟨x, e1, hs⟩ := zb_some hs
    cases zn_inl hs
    obtain ⟨n, f, hg, hj, rfl⟩ := zz_ald e1
    obtain ⟨a, ha, hw | ⟨hw, -⟩⟩ := zz_arr X.1 hg
    · obtain ⟨w0, us0, rfl, hw0, w1, us, rfl, ⟨a', ha', rfl⟩, hus⟩ := X6
      cases hw0
      cases ha.symm.trans ha'
      exact va_iald hx hb hK.1 X.2.1 i1 0 hw.2 rfl (zin_vp hj) hd (k _ _ _ _ _ _ h1 h2 (X.stk ⟨_, _, rfl, rfl, hus⟩))
    · cases hw
  · rename_i j b0 t
    have hq0 := zq_some (α := Nat) hs
    clear hs
    obtain ⟨hj, hs⟩ := hq0
    cases zn_inl hs
    obtain ⟨w0, us0, rfl, hw0, w1, us, rfl, ⟨b, hb0, rfl⟩, hus⟩ := X6
    cases hw0
    obtain ⟨g1, g2, g3⟩ := X.2.2.2.2.2.2.1 b hb0
    exact va_sld hx hb g1 g2 g3 X.2.2.2.1 (zin_vp hj) hd (k _ _ _ _ _ _ h1 h2 (X.stk ⟨_, _, rfl, rfl, hus⟩))
  · cases hs
  · rename_i j i1 t
    obtain ⟨x, e1, hs⟩ := zb_some hs
    cases zn_inl hs
    obtain ⟨n, f, hg, hj, rfl⟩ := zz_ald e1
    obtain ⟨a, ha, ⟨hw, -⟩ | hw⟩ := zz_arr X.1 hg
    · cases hw
    · obtain ⟨w0, us0, rfl, hw0, w1, us, rfl, ⟨a', ha', rfl⟩, hus⟩ := X6
      cases hw0
      cases ha.symm.trans ha'
      exact va_cald hx hb hK.1 X.2.1 i1 1 hw.2 rfl (zin_vp hj) hd (k _ _ _ _ _ _ h1 h2 (X.stk ⟨_, _, rfl, rfl, hus⟩))
  · cases hs
  · rename_i j i1 t
    obtain ⟨x, e1, hs⟩ := zb_some hs
    cases zn_inl hs
    obtain ⟨n, f, hg, hj, hfx⟩ := zz_aldq e1
    obtain ⟨a, g, ha, hR, hw⟩ := zz_qrr X.1 hg
    obtain ⟨w0, us0, rfl, hw0, w1, us, rfl, ⟨a', ha', rfl⟩, hus⟩ := X6
    cases hw0
    cases ha.symm.trans ha'
    have hRj := hR j.toNatClampNeg
    rw [hfx] at hRj
    obtain ⟨q, hq1, hq2⟩ := hRj
    refine va_aldq hx hb hK.1 X.2.1 i1 2 hw rfl (zin_vp hj) hd ?_
    rw [hq2]
    exact k _ _ _ _ _ _ h1 h2 (X.stk ⟨_, _, rfl, ⟨q, hq1, rfl⟩, hus⟩)
  · cases hs
  · rename_i x j i1 t
    obtain ⟨hh, e1, hs⟩ := zb_some hs
    cases zn_inl hs
    obtain ⟨n, f, hg, hj, rfl⟩ := zz_asti e1
    obtain ⟨a, ha, hw | ⟨hw, -⟩⟩ := zz_arr X.1 hg
    · obtain ⟨w9, us9, rfl, hw9, w0, us0, rfl, hw0, w1, us, rfl, ⟨a', ha', rfl⟩, hus⟩ := X6
      cases hw0; cases hw9
      cases ha.symm.trans ha'
      exact va_iast hx hb hK.1 X.2.1 X.2.2.1 X.2.2.2.1 i1 0 hw.2 rfl (zin_vp hj) hd (fun H1 locs1 hP hD hS => k _ _ _ _ _ _ h1 h2 (X.upd ha (Or.inl ⟨rfl, rfl⟩) hP hD hS hus))
    · cases hw
  · cases hs
  · rename_i x j i1 t
    obtain ⟨hh, e1, hs⟩ := zb_some hs
    cases zn_inl hs
    obtain ⟨n, f, hg, hj, rfl⟩ := zz_astc e1
    obtain ⟨a, ha, ⟨hw, -⟩ | hw⟩ := zz_arr X.1 hg
    · cases hw
    · obtain ⟨w9, us9, rfl, hw9, w0, us0, rfl, hw0, w1, us, rfl, ⟨a', ha', rfl⟩, hus⟩ := X6
      cases hw0; cases hw9
      cases ha.symm.trans ha'
      exact va_cast hx hb hK.1 X.2.1 X.2.2.1 X.2.2.2.1 i1 1 hw.2 rfl (zin_vp hj) hd (fun H1 locs1 hP hD hS => k _ _ _ _ _ _ h1 h2 (X.upd ha (Or.inr ⟨rfl, rfl⟩) hP hD hS hus))
  · cases hs
  · rename_i x j i1 t
    obtain ⟨hh, e1, hs⟩ := zb_some hs
    cases zn_inl hs
    obtain ⟨n, f, hg, hj, his, rfl⟩ := zz_astq e1
    obtain ⟨a, g, ha, hR, hw⟩ := zz_qrr X.1 hg
    obtain ⟨fs, hgx⟩ := zz_is his
    obtain ⟨b, gs, hb1, hwb, -⟩ := zz_obj X.1 hgx (by decide)
    obtain ⟨w9, us9, rfl, ⟨b', hb', rfl⟩, w0, us0, rfl, hw0, w1, us, rfl, ⟨a', ha', rfl⟩, hus⟩ := X6
    cases hw0
    cases ha.symm.trans ha'
    cases hb1.symm.trans hb'
    refine va_astq (r := (RX5, TX5, 8)) hx hb hK.1 X.2.1 X.2.2.1 X.2.2.2.1 i1 2 x 5 hw rfl hwb rfl (zin_vp hj) hd (fun H1 locs1 hP hD hS => k _ _ _ _ _ _ h1 h2 (X.upd ha ⟨_, fun q => ?_, rfl⟩ hP hD hS hus))
    unfold va_up
    by_cases hq : q = j.toNatClampNeg
    · rw [if_pos hq, if_pos hq]
      exact ⟨b, hb1, rfl⟩
    · rw [if_neg hq, if_neg hq]
      exact hR q
  · cases hs
  · rename_i i1 t
    obtain ⟨x, e1, hs⟩ := zb_some hs
    cases zn_inl hs
    obtain ⟨a, t0, cA, b, ty, ha, hw, ht, hn⟩ := zz_len X.1 e1
    obtain ⟨w1, us, rfl, ⟨a', ha', rfl⟩, hus⟩ := X6
    cases ha.symm.trans ha'
    exact va_alen hx hb hK.1 X.2.1 i1 t0 hw ht hn hd (k _ _ _ _ _ _ h1 h2 (X.stk ⟨_, _, rfl, rfl, hus⟩))
  · rename_i b0 t
    cases zn_inl hs
    obtain ⟨w1, us, rfl, ⟨b, hb0, rfl⟩, hus⟩ := X6
    obtain ⟨g1, g2, g3⟩ := X.2.2.2.2.2.2.1 b hb0
    exact va_slen hx hb g1 g2 g3 X.2.2.2.1 hd (k _ _ _ _ _ _ h1 h2 (X.stk ⟨_, _, rfl, rfl, hus⟩))
  · cases hs
end ZS3
end
section
section ZS4
variable {p : Program} {l : Launch} {e : Env} {R : Room} {s : State} {mth : MethodId} {args : Array Value} {below : List Frame} {meth : Method} {c : Code} {Q : State → Prop} {D : va_G} {y : zY} {A : Nat → Prop} {H0 : Heap} {ob : Option Nat} {m n0 s0 : Nat} {ad0 : List Nat}
variable {pc : Nat} {al : List (Option Value)} {st : List Value} {h : zH} {r : Nat × List (Option Value) × List Value × zH} {len : Nat}
theorem zblank_ok {ci : Nat} {C : String} {T : u_T} {N : Nat} (h : zT ci = some (C, T, N)) : (zblank ci).length = N ∧ (∀ j, j < N → defaultValue (zty ci j) = vp_V (zblank ci) j) := by
  unfold zblank
  rw [h]
  refine ⟨by simp, fun j hj => ?_⟩
  simp [vp_V, hj]
theorem zVs_plain {ad : List Nat} : ∀ {l : List Value}, l.all zplain = true → zVs ad none l l
  | [], _ => rfl
  | a :: l, h => by
    rw [List.all_cons, Bool.and_eq_true] at h
    refine ⟨_, _, rfl, ?_, zVs_plain h.2⟩
    cases a <;> first | rfl | (exact absurd h.1 (by simp [zplain]))
theorem zNk_ok {k1 i ci : Nat} {ps : List Nat} (h : zNk ((k1, i), ci) ps = true) : ∃ C T N, zT ci = some (C, T, N) ∧ Cond.classLink (zK k1) i C ∈ WS ∧ Cond.instantiable C N ∈ WS ∧ Cond.initialized C ∈ WS := by
  unfold zNk at h
  split at h
  · rename_i C T N hT
    simp only [Bool.and_eq_true] at h
    exact ⟨C, T, N, hT, zw_ws h.1.1, zw_ws h.1.2, zw_ws h.2⟩
  · cases h
theorem zs_new {i : Instr} (C : zCx p R s mth args meth c D y A H0 m) (hd : decode (zb m) pc = .ok (i, len)) (hi : (∃ n, i = .new n) ∨ (∃ n, i = .newarray n) ∨ (∃ n, i = .anewarray n)) (hs : zdo m pc i len al st h = some (.inl r)) (hb1 : r.2.2.2.1 ≤ n0 + R.cells) (hb2 : r.2.2.2.2.1 ≤ s0 + R.slots) (k : zWg p l e R s mth args below meth c Q D y A H0 ob m n0 s0 ad0 r) : zWg p l e R s mth args below meth c Q D y A H0 ob m n0 s0 ad0 (pc, al, st, h) := by
  obtain ⟨hx, hb, hml, hown, hts, hK, hA, hnm, hR1, hR2⟩ := C
  intro ad ws H locs ls cst h1 h2 X
  have X6 := X.2.2.2.2.2.1
  dsimp only at h1 h2
  show W p l e R s mth args below meth c H locs (h.1 - n0) (h.2.1 - s0) Q (F0 mth pc ls cst)
  rcases hi with ⟨n, rfl⟩ | ⟨n, rfl⟩ | ⟨n, rfl⟩ <;> (have hq0 := zq_some (α := Nat) hs; clear hs; obtain ⟨hl, hs⟩ := hq0; cases beq_iff_eq.mp hl)
  · obtain ⟨ci, e1, hs⟩ := zb_some hs
    have hq0 := zq_some (α := Nat) hs
    clear hs
    obtain ⟨hq, hs⟩ := hq0
    cases zn_inl hs
    obtain ⟨pp, hp⟩ := znew_ok e1
    obtain ⟨CC, T, N, hT, w1, w2, w3⟩ := zNk_ok hp
    obtain ⟨hN, hfs⟩ := zblank_ok hT
    obtain ⟨hin, hty, hnms⟩ := zT_ok hT
    have b1 : h.1 + 1 ≤ n0 + R.cells := hb1
    have b2 : h.2.1 + (zblank ci).length ≤ s0 + R.slots := hb2
    refine va_new (fs := zblank ci) hx hb hts hin (zty ci) hty hown (hts _ w1) (hts _ w2) (hts _ w3) hK.1 X.2.1 X.2.2.1 X.2.2.2.1 hA hT hfs (by omega) (by omega) hd (fun q H1 hP hD hS => ?_)
    have hE : zE (ad ++ [q]) y (.inr (.inr (ci, zblank ci))) (.inr (ci, zblank ci)) := ⟨_, zVs_plain hq, rfl⟩
    refine W.cs (cells' := h.1 + 1 - n0) (slots' := h.2.1 + (zblank ci).length - s0) (by omega) (by omega) ?_
    exact k _ _ _ _ _ _ (by show n0 ≤ h.1 + 1; omega) (by show s0 ≤ h.2.1 + (zblank ci).length; omega) (X.mk hE hP hD hS ⟨_, _, rfl, ⟨q, by rw [X.1.1, List.getElem?_append_right (Nat.le_refl _), Nat.sub_self]; rfl, rfl⟩, X6.ext zExt.app⟩)
  · have key : ∀ (a : ArrayType) (t : Nat) (ty : FieldType) (cA0 : ClassId) (x : Int32) (us : List Value) (tl : List Value), n = a → newarray.typeOf a = ty → zVs ad ob tl us → cst = .int x :: us → (Cond.arrayClass (newarray.typeOf a)) ∈ WS → (∀ cA q n1, va_K D vwCl ([(y.1, .int), (y.2.1, .char), (y.2.2, .object RX5)] ++ [(cA, ty)]) s → zE (ad ++ [q]) y (.inl (t, n1, fun _ => 0)) (.inl (cA, n1, .inl (fun _ => 0)))) → (∀ (cA : ClassId) (n1 : Nat), vp_cell cA (n1, .inl (fun _ => 0)) = arrV cA n1 (fun _ => defaultValue ty)) → componentBytes ty ≤ 8 → (!decide (x < 0) && decide (x.toNatClampNeg ≤ 1000)) = true → r = (pc + 2, al, .ref h.1 :: tl, zpush h x.toNatClampNeg (.inl (t, x.toNatClampNeg, fun _ => 0))) → W p l e R s mth args below meth c H locs (h.1 - n0) (h.2.1 - s0) Q (F0 mth pc ls cst) := by
      intro a t ty cA0 x us tl hn hty hus hcst hw hcell hdef hcb hq hr
      subst hn hr
      subst hcst
      simp only [Bool.and_eq_true, Bool.not_eq_true', decide_eq_false_iff_not, decide_eq_true_eq] at hq
      have b1 : h.1 + 1 ≤ n0 + R.cells := hb1
      have b2 : h.2.1 + x.toNatClampNeg ≤ s0 + R.slots := hb2
      refine va_newa hx hb (hts _ hw) hty hK.1 X.2.1 X.2.2.1 X.2.2.2.1 hA (fun cA => hdef cA x.toNatClampNeg) hq.1 rfl (Nat.le_trans (Nat.mul_le_mul hq.2 hcb) (by decide)) (by omega) (by omega) hd (fun q cA H1 hK1 hP hD hS => ?_)
      refine W.cs (cells' := h.1 + 1 - n0) (slots' := h.2.1 + x.toNatClampNeg - s0) (by omega) (by omega) ?_
      exact k _ _ _ _ _ _ (by show n0 ≤ h.1 + 1; omega) (by show s0 ≤ h.2.1 + x.toNatClampNeg; omega) (X.mk (hcell cA q _ hK1) hP hD hS ⟨_, _, rfl, ⟨q, by rw [X.1.1, List.getElem?_append_right (Nat.le_refl _), Nat.sub_self]; rfl, rfl⟩, hus.ext zExt.app⟩)
    split at hs
    · rename_i x t
      have hq0 := zq_some (α := Nat) hs
      clear hs
      obtain ⟨hq, hs⟩ := hq0
      obtain ⟨w0, us, rfl, hw0, hus⟩ := X6
      cases hw0
      refine key .int 0 .int y.1 x us t rfl rfl hus rfl ws_arr_int (fun cA q n1 hK1 => ?_) (fun cA n1 => rfl) (by decide) hq (zn_inl hs)
      have e1 := (hK1.2 3 _ rfl).2
      have e2 := (hK1.2 0 _ rfl).2
      have e3 : cA = y.1 := Option.some.inj (Eq.trans (Eq.symm (show s.vm.findClass ("[" ++ FieldType.int.toString) = some cA from e1)) (show s.vm.findClass ("[" ++ FieldType.int.toString) = some y.1 from e2))
      exact Or.inl ⟨rfl, by rw [e3]⟩
    · rename_i x t
      have hq0 := zq_some (α := Nat) hs
      clear hs
      obtain ⟨hq, hs⟩ := hq0
      obtain ⟨w0, us, rfl, hw0, hus⟩ := X6
      cases hw0
      refine key .char 1 .char y.2.1 x us t rfl rfl hus rfl ws_arr_char (fun cA q n1 hK1 => ?_) (fun cA n1 => rfl) (by decide) hq (zn_inl hs)
      have e1 := (hK1.2 3 _ rfl).2
      have e2 := (hK1.2 1 _ rfl).2
      have e3 : cA = y.2.1 := Option.some.inj (Eq.trans (Eq.symm (show s.vm.findClass ("[" ++ FieldType.char.toString) = some cA from e1)) (show s.vm.findClass ("[" ++ FieldType.char.toString) = some y.2.1 from e2))
      exact Or.inr ⟨rfl, by rw [e3]⟩
    · cases hs
  · split at hs
    · rename_i x t
      have hq0 := zq_some (α := Nat) hs
      clear hs
      obtain ⟨hq, hs⟩ := hq0
      cases zn_inl hs
      obtain ⟨w0, us, rfl, hw0, hus⟩ := X6
      cases hw0
      simp only [Bool.and_eq_true, Bool.not_eq_true', decide_eq_false_iff_not, decide_eq_true_eq] at hq
      have b1 : h.1 + 1 ≤ n0 + R.cells := hb1
      have b2 : h.2.1 + x.toNatClampNeg ≤ s0 + R.slots := hb2
      refine va_newq hx hb hown (hts _ (zanew_ok hq.2)) hK.2.2 hK.1 X.2.1 X.2.2.1 X.2.2.2.1 hA hq.1.1 rfl (Nat.le_trans (Nat.mul_le_mul_right 4 hq.1.2) (by decide)) (by omega) (by omega) hd (fun q cA H1 hK1 hP hD hS => ?_)
      have e1 := (hK1.2 3 _ rfl).2
      have e2 := (hK1.2 2 _ rfl).2
      obtain ⟨_, _, _, _, _, e1⟩ := e1
      obtain ⟨_, _, _, _, _, e2⟩ := e2
      have e3 : cA = y.2.2 := Option.some.inj (e1.symm.trans e2)
      subst e3
      refine W.cs (cells' := h.1 + 1 - n0) (slots' := h.2.1 + x.toNatClampNeg - s0) (by omega) (by omega) ?_
      exact k _ _ _ _ _ _ (by show n0 ≤ h.1 + 1; omega) (by show s0 ≤ h.2.1 + x.toNatClampNeg; omega) (X.mk ⟨_, fun _ => rfl, rfl⟩ hP hD hS ⟨_, _, rfl, ⟨q, by rw [X.1.1, List.getElem?_append_right (Nat.le_refl _), Nat.sub_self]; rfl, rfl⟩, hus.ext zExt.app⟩)
    · cases hs
/-! the library's calls -/
theorem zrest_ok {ad : List Nat} {vs ws : List Value} (h : zrest vs = true) (g : zVs ad ob vs ws) : (ws.map fun v => v.category).sum ≤ 8 := by
  rw [g.cat]
  exact of_decide_eq_true h
theorem z_nfw : nativeFrameWords "java/lang/System" "arraycopy" 5 = 7 := by decide +kernel
theorem zz_copy {i0 i1 : Nat} {sp dp n : Int32} {h2 : zH} (h1 : zcopy h i0 sp i1 dp n = some h2) : ∃ n0 f n1 g, zg h i0 = .inl (0, n0, f) ∧ zg h i1 = .inl (0, n1, g) ∧ ¬ sp < 0 ∧ ¬ dp < 0 ∧ ¬ n < 0 ∧ sp.toNatClampNeg + n.toNatClampNeg ≤ n0 ∧ dp.toNatClampNeg + n.toNatClampNeg ≤ n1 ∧ h2 = zu h i1 (.inl (0, n1, va_cpy f g sp.toNatClampNeg dp.toNatClampNeg n.toNatClampNeg)) := by
  unfold zcopy at h1
  split at h1
  · rename_i t0 n0 f t1 n1 g hg0 hg1
    split at h1
    · rename_i q
      obtain ⟨rfl, rfl, q1, q2, q3, q4, q5⟩ := q
      cases h1
      exact ⟨n0, f, n1, g, hg0, hg1, q1, q2, q3, q4, q5, rfl⟩
    · cases h1
  · cases h1
theorem zs_lib {i : Instr} (C : zCx p R s mth args meth c D y A H0 m) (hd : decode (zb m) pc = .ok (i, len)) (hi : (∃ n, i = .invokestatic n) ∨ (∃ n, i = .invokespecial n)) (hs : zdo m pc i len al st h = some (.inl r)) (hb1 : r.2.2.2.1 ≤ n0 + R.cells) (hb2 : r.2.2.2.2.1 ≤ s0 + R.slots) (k : zWg p l e R s mth args below meth c Q D y A H0 ob m n0 s0 ad0 r) : zWg p l e R s mth args below meth c Q D y A H0 ob m n0 s0 ad0 (pc, al, st, h) := by
  obtain ⟨hx, hb, hml, hown, hts, hK, hA, hnm, hR1, hR2⟩ := C
  intro ad ws H locs ls cst h1 h2 X
  have X6 := X.2.2.2.2.2.1
  have hls : ls.size = zml m := X.2.2.2.2.1.1
  dsimp only at h1 h2
  show W p l e R s mth args below meth c H locs (h.1 - n0) (h.2.1 - s0) Q (F0 mth pc ls cst)
  rcases hi with ⟨n, rfl⟩ | ⟨n, rfl⟩ <;> (have hq0 := zq_some (α := Nat) hs; clear hs; obtain ⟨hl, hs⟩ := hq0; cases beq_iff_eq.mp hl)
  · unfold zstatic at hs
    split at hs
    · unfold zcallS zq at hs
      split at hs <;> cases hs
    · unfold zcallS zq at hs
      split at hs <;> cases hs
    · rename_i q1 q2 hc
      obtain ⟨ps, hp⟩ := zcall_ok hc
      simp only [zCk, Bool.and_eq_true] at hp
      split at hs
      · rename_i y1 x1 t
        have hq0 := zq_some (α := Nat) hs
        clear hs
        obtain ⟨hq, hs⟩ := hq0
        cases zn_inl hs
        obtain ⟨w9, us9, rfl, hw9, w0, us, rfl, hw0, hus⟩ := X6
        cases hw0; cases hw9
        have hr := zrest_ok hq hus
        exact va_mmax hx hb (hml.trans hls.symm) hown (hts _ (zw_ws hp.1.1.1)) (hts _ (zw_ws hp.1.1.2)) (hts _ (zw_ws hp.1.2)) (hts _ (zw_ws hp.2)) hR1 (by omega) (by have : h.1 ≤ n0 + R.cells := hb1; omega) (by have : h.2.1 ≤ s0 + R.slots := hb2; omega) hd (k _ _ _ _ _ _ h1 h2 (X.stk ⟨_, _, rfl, rfl, hus⟩))
      · cases hs
    · rename_i q1 q2 hc
      obtain ⟨ps, hp⟩ := zcall_ok hc
      simp only [zCk, Bool.and_eq_true] at hp
      split at hs
      · rename_i y1 x1 t
        have hq0 := zq_some (α := Nat) hs
        clear hs
        obtain ⟨hq, hs⟩ := hq0
        cases zn_inl hs
        obtain ⟨w9, us9, rfl, hw9, w0, us, rfl, hw0, hus⟩ := X6
        cases hw0; cases hw9
        have hr := zrest_ok hq hus
        exact va_mmin hx hb (hml.trans hls.symm) hown (hts _ (zw_ws hp.1.1.1)) (hts _ (zw_ws hp.1.1.2)) (hts _ (zw_ws hp.1.2)) (hts _ (zw_ws hp.2)) hR1 (by omega) (by have : h.1 ≤ n0 + R.cells := hb1; omega) (by have : h.2.1 ≤ s0 + R.slots := hb2; omega) hd (k _ _ _ _ _ _ h1 h2 (X.stk ⟨_, _, rfl, rfl, hus⟩))
      · cases hs
    · rename_i q1 q2 hc
      obtain ⟨ps, hp⟩ := zcall_ok hc
      simp only [zCk, Bool.and_eq_true] at hp
      split at hs
      · rename_i n1 dp i1 sp i0 t
        obtain ⟨hh, e1, hs⟩ := zb_some hs
        have hq0 := zq_some (α := Nat) hs
        clear hs
        obtain ⟨hq, hs⟩ := hq0
        cases zn_inl hs
        obtain ⟨m0, f, m1, g, hg0, hg1, c1, c2, c3, c4, c5, rfl⟩ := zz_copy e1
        obtain ⟨a0, ha0, hw0 | ⟨hw0, -⟩⟩ := zz_arr X.1 hg0
        · obtain ⟨a1, ha1, hw1 | ⟨hw1, -⟩⟩ := zz_arr X.1 hg1
          · obtain ⟨u1, us1, rfl, hu1, u2, us2, rfl, hu2, u3, us3, rfl, ⟨a3, ha3, rfl⟩, u4, us4, rfl, hu4, u5, us, rfl, ⟨a5, ha5, rfl⟩, hus⟩ := X6
            cases hu1; cases hu2; cases hu4
            cases ha1.symm.trans ha3
            cases ha0.symm.trans ha5
            have hr := zrest_ok hq hus
            exact va_copyi (ty := .int) hx hb (hml.trans hls.symm) hown (hts _ (zw_ws hp.1.1.1)) (hts _ (zw_ws hp.1.1.2)) (hts _ (zw_ws hp.1.2)) (hts _ (zw_ws hp.2)) hK.1 X.2.1 X.2.2.1 X.2.2.2.1 i0 i1 0 0 hw0.2 hw1.2 rfl rfl rfl c1 c2 c3 c4 c5 (fun _ _ => rfl) hR1 (by rw [z_nfw]; omega) hd (fun H1 locs1 hP hD hS => k _ _ _ _ _ _ h1 h2 (X.upd ha1 (Or.inl ⟨rfl, rfl⟩) hP hD hS hus))
          · cases hw1
        · cases hw0
      · cases hs
    · cases hs
  · unfold zspecial at hs
    split at hs
    · unfold zcallV zq at hs
      split at hs
      · split at hs <;> cases hs
      · cases hs
    · unfold zcallV zq at hs
      split at hs
      · split at hs <;> cases hs
      · cases hs
    · rename_i q1 q2 hc
      obtain ⟨ps, hp⟩ := zcall_ok hc
      simp only [zCk, Bool.and_eq_true] at hp
      split at hs
      · rename_i a1 t
        have hq0 := zq_some (α := Nat) hs
        clear hs
        obtain ⟨hq, hs⟩ := hq0
        cases zn_inl hs
        obtain ⟨w9, us, rfl, ⟨a, ha, rfl⟩, hus⟩ := X6
        have hr := zrest_ok hq hus
        exact W.objInit hx hb hown (hts _ (zw_ws hp.1.1)) (hts _ (zw_ws hp.1.2)) (hts _ (zw_ws hp.2)) (g := F0 mth pc ls (.ref a :: us)) rfl (hls.trans hml.symm) rfl hd hR1 (by show 2 * 0 + _ + 12 ≤ _; omega) (k _ _ _ _ _ _ h1 h2 (X.stk hus))
      · cases hs
    · cases hs
end ZS4
end
section
/-! cells and slots only grow -/
def zle (h h1 : zH) : Prop := h.1 ≤ h1.1 ∧ h.2.1 ≤ h1.2.1 ∧ h1.2.2.2 = h.2.2.2
theorem zle.rf {h : zH} : zle h h := ⟨Nat.le_refl _, Nat.le_refl _, rfl⟩
theorem zle.tr {a b c : zH} (x : zle a b) (y : zle b c) : zle a c := ⟨Nat.le_trans x.1 y.1, Nat.le_trans x.2.1 y.2.1, y.2.2.trans x.2.2⟩
theorem zle.push {h : zH} {n : Nat} {x : zC} : zle h (zpush h n x) := ⟨Nat.le_succ _, Nat.le_add_right _ _, rfl⟩
theorem zle.put {h h1 : zH} {i c1 f1 : Nat} {v : Value} (e : zputf h i c1 f1 v = some h1) : zle h h1 := by
  obtain ⟨fs, -, -, rfl⟩ := zz_put e
  exact zle.rf
theorem zle.asti {h h1 : zH} {i : Nat} {j x : Int32} (e : zasti h i j x = some h1) : zle h h1 := by
  obtain ⟨_, _, -, -, rfl⟩ := zz_asti e
  exact zle.rf
theorem zle.astc {h h1 : zH} {i : Nat} {j x : Int32} (e : zastc h i j x = some h1) : zle h h1 := by
  obtain ⟨_, _, -, -, rfl⟩ := zz_astc e
  exact zle.rf
theorem zle.astq {h h1 : zH} {i x : Nat} {j : Int32} (e : zastq h i j x = some h1) : zle h h1 := by
  obtain ⟨_, _, -, -, -, rfl⟩ := zz_astq e
  exact zle.rf
theorem zle.copy {h h1 : zH} {i i1 : Nat} {j k n : Int32} (e : zcopy h i j i1 k n = some h1) : zle h h1 := by
  obtain ⟨_, _, _, _, -, -, -, -, -, -, -, rfl⟩ := zz_copy e
  exact zle.rf
def zok (h : zH) (o : zO) : Prop := ∀ r, o = some (.inl r) → zle h r.2.2.2
theorem zok.none {h : zH} : zok h none := fun r e => by cases e
theorem zok.q {h : zH} {b : Bool} {o : zO} (k : zok h o) : zok h (zq b o) := fun r e => k r (zq_some (α := Nat) e).2
theorem zok.bind {α : Type} {h : zH} {x : Option α} {f : α → zO} (k : ∀ a, x = some a → zok h (f a)) : zok h (x.bind f) := fun r e => by
  obtain ⟨a, h1, h2⟩ := zb_some e
  exact k a h1 r h2
theorem zok.n {h h1 : zH} {pc : Nat} {al : List (Option Value)} {st : List Value} (k : zle h h1) : zok h (zn pc al st h1) := fun r e => by cases zn_inl e; exact k
theorem zok.t {h h1 : zH} {pc : Nat} {off : Int} {al : List (Option Value)} {st : List Value} (k : zle h h1) : zok h (ztg pc off al st h1) := fun r e => by
  obtain ⟨t, -, rfl⟩ := ztg_inl e
  exact k
theorem zok.r {h : zH} {x : (Nat × List Value × List Value) ⊕ Option Value} : zok h (some (.inr x)) := fun r e => by cases e
theorem zdo_mono {m pc len : Nat} {i : Instr} {al : List (Option Value)} {st : List Value} {h : zH} : zok h (zdo m pc i len al st h) := by
  cases i <;> simp only [zdo, zload, zloada, zstore, zstorea, zarith, zstatic, zspecial, zcallV, zcallS]
  all_goals repeat' first
    | exact zok.none
    | exact zok.r
    | exact zok.n zle.rf
    | exact zok.t zle.rf
    | exact zok.n zle.push
    | exact zok.n (zle.put (by assumption))
    | exact zok.n (zle.asti (by assumption))
    | exact zok.n (zle.astc (by assumption))
    | exact zok.n (zle.astq (by assumption))
    | exact zok.n (zle.copy (by assumption))
    | apply zok.q
    | (apply zok.bind; intro a ha)
    | split
theorem zstep_mono {m pc : Nat} {al : List (Option Value)} {st : List Value} {h : zH} : zok h (zstep m pc al st h) := by
  unfold zstep
  split
  · exact zdo_mono
  · exact zok.none
theorem zx_mono : ∀ {n d m pc : Nat} {al : List (Option Value)} {st : List Value} {h : zH} {r : Option Value × zH}, zx n d m pc al st h = some r → zle h r.2
  | 0, _, _, _, _, _, _, _, e => by cases e
  | n + 1, d, m, pc, al, st, h, r, e => by
    unfold zx at e
    split at e
    · cases e
    · rename_i pc' al' st' h' hs
      exact (zstep_mono _ hs).tr (zx_mono e)
    · rename_i k as rs hs
      split at e
      · cases e
      · split at e
        · cases e
        · rename_i v h1 e1
          exact (zx_mono e1).tr (zx_mono e)
    · cases e
      exact zle.rf
end
section
section ZN
variable {p : Program} {l : Launch} {e : Env} {R : Room} {s : State} {mth : MethodId} {args : Array Value} {below : List Frame} {meth : Method} {c : Code} {Q : State → Prop} {D : va_G} {y : zY} {A : Nat → Prop} {H0 : Heap} {ob : Option Nat} {m n0 s0 : Nat} {ad0 : List Nat}
variable {pc : Nat} {al : List (Option Value)} {st : List Value} {h : zH} {r : Nat × List (Option Value) × List Value × zH} {len : Nat}
theorem zs_next (C : zCx p R s mth args meth c D y A H0 m) (hs : zstep m pc al st h = some (.inl r)) (hb1 : r.2.2.2.1 ≤ n0 + R.cells) (hb2 : r.2.2.2.2.1 ≤ s0 + R.slots) (k : zWg p l e R s mth args below meth c Q D y A H0 ob m n0 s0 ad0 r) : zWg p l e R s mth args below meth c Q D y A H0 ob m n0 s0 ad0 (pc, al, st, h) := by
  unfold zstep at hs
  split at hs
  · rename_i i len hd
    cases i with
    | iconst n => exact zs_const C hd (Or.inl ⟨_, rfl⟩) hs k
    | bipush n => exact zs_const C hd (Or.inr (Or.inl ⟨_, rfl⟩)) hs k
    | sipush n => exact zs_const C hd (Or.inr (Or.inr (Or.inl ⟨_, rfl⟩))) hs k
    | ldc n => exact zs_const C hd (Or.inr (Or.inr (Or.inr (Or.inl ⟨_, rfl⟩)))) hs k
    | ldc_w n => exact zs_const C hd (Or.inr (Or.inr (Or.inr (Or.inr (Or.inl ⟨_, rfl⟩))))) hs k
    | ldc2_w n => exact zs_const C hd (Or.inr (Or.inr (Or.inr (Or.inr (Or.inr ⟨_, rfl⟩))))) hs k
    | iload_n n => exact zs_local C hd (by simp) hs k
    | iload n => exact zs_local C hd (by simp) hs k
    | aload_n n => exact zs_local C hd (by simp) hs k
    | aload n => exact zs_local C hd (by simp) hs k
    | istore_n n => exact zs_local C hd (by simp) hs k
    | istore n => exact zs_local C hd (by simp) hs k
    | astore_n n => exact zs_local C hd (by simp) hs k
    | astore n => exact zs_local C hd (by simp) hs k
    | lload_n n => exact zs_local C hd (by simp) hs k
    | lload n => exact zs_local C hd (by simp) hs k
    | lstore_n n => exact zs_local C hd (by simp) hs k
    | lstore n => exact zs_local C hd (by simp) hs k
    | iinc n q => exact zs_local C hd (by simp) hs k
    | iadd => exact zs_arith C hd (by simp) hs k
    | isub => exact zs_arith C hd (by simp) hs k
    | imul => exact zs_arith C hd (by simp) hs k
    | idiv => exact zs_arith C hd (by simp) hs k
    | irem => exact zs_arith C hd (by simp) hs k
    | iand => exact zs_arith C hd (by simp) hs k
    | ior => exact zs_arith C hd (by simp) hs k
    | ishl => exact zs_arith C hd (by simp) hs k
    | ishr => exact zs_arith C hd (by simp) hs k
    | i2c => exact zs_stack C hd (by simp) hs k
    | i2l => exact zs_stack C hd (by simp) hs k
    | ladd => exact zs_stack C hd (by simp) hs k
    | lmul => exact zs_stack C hd (by simp) hs k
    | lcmp => exact zs_stack C hd (by simp) hs k
    | dup => exact zs_stack C hd (by simp) hs k
    | dup2 => exact zs_stack C hd (by simp) hs k
    | pop => exact zs_stack C hd (by simp) hs k
    | goto n => exact zs_jump C hd (by simp) hs k
    | tableswitch a b c d => exact zs_jump C hd (by simp) hs k
    | lookupswitch a b => exact zs_jump C hd (by simp) hs k
    | if_icmp a b => exact zs_icmp C hd hs k
    | ifCond a b => exact zs_if C hd hs k
    | getfield n => exact zs_field C hd (by simp) hs k
    | putfield n => exact zs_field C hd (by simp) hs k
    | iaload => exact zs_array C hd (by simp) hs k
    | caload => exact zs_array C hd (by simp) hs k
    | aaload => exact zs_array C hd (by simp) hs k
    | iastore => exact zs_array C hd (by simp) hs k
    | castore => exact zs_array C hd (by simp) hs k
    | aastore => exact zs_array C hd (by simp) hs k
    | arraylength => exact zs_array C hd (by simp) hs k
    | new n => exact zs_new C hd (by simp) hs hb1 hb2 k
    | newarray n => exact zs_new C hd (by simp) hs hb1 hb2 k
    | anewarray n => exact zs_new C hd (by simp) hs hb1 hb2 k
    | invokestatic n => exact zs_lib C hd (by simp) hs hb1 hb2 k
    | invokespecial n => exact zs_lib C hd (by simp) hs hb1 hb2 k
    | invokevirtual n =>
      simp only [zdo] at hs
      have hs := (zq_some (α := Nat) hs).2
      split at hs
      · unfold zcallV at hs
        split at hs
        · cases (zq_some (α := Nat) hs).2
        · cases hs
      · cases hs
    | ireturn =>
      simp only [zdo] at hs
      have hs := (zq_some (α := Nat) hs).2
      split at hs
      · split at hs <;> cases hs
      · cases hs
    | areturn =>
      simp only [zdo] at hs
      have hs := (zq_some (α := Nat) hs).2
      split at hs <;> cases hs
    | lreturn =>
      simp only [zdo] at hs
      have hs := (zq_some (α := Nat) hs).2
      split at hs <;> cases hs
    | return_ =>
      simp only [zdo] at hs
      have hs := (zq_some (α := Nat) hs).2
      split at hs <;> cases hs
    | _ => cases hs
  · cases hs
end ZN
/-! calls -/
def zws (k : Nat) : List Cond := Cond.code (zy k) (zb k) (zml k) (zret k) :: WS
def zrm (d mc ms : Nat) : Room := { frames := d + 1, cells := mc, slots := ms, locals := 64 * (d + 1) }
def zVo (ad : List Nat) (v w : Option Value) : Prop := match v with
  | none => w = none
  | some v => ∃ u, w = some u ∧ zV ad none v u
def zPre (D : va_G) (y : zY) (ws : va_W) (sz : Nat) (ob : Option Nat) (h : zH) : State → Prop := fun U => U.heap.size = sz ∧ va_P D vwCl ws U.heap ∧ zKs D y U ∧ va_D (fun _ => True) ws ∧ ∀ b, ob = some b → va_X b h.2.2.2.1 h.2.2.2.2 U U.heap
def zQc (D : va_G) (y : zY) (ad : List Nat) (A : Nat → Prop) (v : Option Value) (h1 : zH) : Array Value → State → Outcome → State → Prop := fun _ st o t =>
  (∃ (w : Option Value) (ad1 : List Nat) (ws1 : va_W), o = .returned w ∧ zVo ad1 v w ∧ zExt ad ad1 ∧ zHr ad1 y h1 ws1 ∧ va_P D vwCl ws1 t.heap ∧ va_D A ws1) ∧ va_F A st t
/-- the contract of a method at the arguments as and the heap h, whose run ends with v and h1 -/
def zCt (k d : Nat) (as : List Value) (h : zH) (v : Option Value) (h1 : zH) : Prop := ∀ (l : Launch) (D : va_G) (y : zY) (ad : List Nat) (ws : va_W) (cas : List Value) (sz : Nat) (ob : Option Nat), zHr ad y h ws → zVs ad ob as cas → (∀ b, ob = some b → b < sz ∧ ¬ va_A ws sz b) →
  Met l (zy k) (zws k) (zrm d (h1.1 - h.1) (h1.2.1 - h.2.1)) (va_Pc cas (zPre D y ws sz ob h)) (zQc D y ad (va_A ws sz) v h1) (h1.1 - h.1) (h1.2.1 - h.2.1) (va_A ws sz)
theorem goodWS {ws : List Cond} (h : ∀ w ∈ ws, w ∈ WS) : GoodIn WS ws := fun w hw => ⟨h w hw, good_of_word (List.mem_filter.mp (h w hw)).2⟩
theorem zws_in {k : Nat} (hk : k < 138) : ∀ w ∈ zws k, w ∈ WS := by
  intro w hw
  rcases List.mem_cons.mp hw with rfl | hw
  · exact zML_ok k hk
  · exact hw
theorem zPre_blind {D : va_G} {y : zY} {ws : va_W} {sz : Nat} {ob : Option Nat} {h : zH} {av : List Value} : FrameBlind (va_Pc av (zPre D y ws sz ob h)) := fun U g mk a q => ⟨q.1, q.2.1, q.2.2.1, q.2.2.2.1.blind, q.2.2.2.2.1, fun b hb => va_X.moved (u := U) (U := U.calling g mk a) (Vm.Alike.refl U.vm) (q.2.2.2.2.2 b hb)⟩
/-- the script where a callee begins -/
theorem zsc_out {s : State} {A : Nat → Prop} {H0 H : Heap} {locs : List Loc} {ob : Option Nat} {h : zH} {ws : va_W} (hSc : zSc s A H0 ob h) (hS : va_S A H0 H locs) (hD : va_D A ws) (hA : ∀ q, H0.size ≤ q → A q) : ∀ b, ob = some b → b < H.size ∧ ¬ va_A ws H.size b := by
  intro b hb
  obtain ⟨-, h2, h3⟩ := hSc b hb
  have h4 := hS.1
  refine ⟨by omega, fun z => ?_⟩
  rcases z with ⟨k, e, hk⟩ | z
  · exact h3 (hD.2 k (b, e) hk)
  · omega
theorem zsc_at {s U : State} {A : Nat → Prop} {H0 H : Heap} {locs : List Loc} {ob : Option Nat} {h : zH} (hSc : zSc s A H0 ob h) (hS : va_S A H0 H locs) (hU : U.heap = H) (hvm : s.vm.Alike U.vm) : ∀ b, ob = some b → va_X b h.2.2.2.1 h.2.2.2.2 U U.heap := by
  intro b hb
  obtain ⟨h1, h2, h3⟩ := hSc b hb
  rw [hU]
  exact va_X.moved hvm (h1.kept (hS.2.1 b h2 h3))
section ZCALL
variable {p : Program} {l : Launch} {e : Env} {R : Room} {s : State} {m : MethodId} {args : Array Value} {below : List Frame} {meth : Method} {c : Code} {H : Heap} {locs : List Loc} {cells slots : Nat} {Q : State → Prop}
variable {pc : Nat} {ls : Array Slot} {rest st0 : List Value} {A0 A1 : Nat → Prop} {H0 : Heap} {mc ms : Nat} {free : Addr → Prop}
theorem z_call {Qa : State → Outcome → State → Prop} (hr : va_Run p l e R s m args below meth c H locs cells slots mc ms (F0 m pc ls st0) rest Qa free) (hF : ∀ st o t, Qa st o t → va_F A1 st t) (hS : va_S A0 H0 H locs) (hA : ∀ q, A1 q → A0 q) (hf : ∀ q, free q → A0 q)
    (kk : ∀ (v : Option Value) (st t : State) (H1 : Heap) (locs1 : List Loc), st.heap = H → t.heap = H1 → Qa st (.returned v) t → va_S A0 H0 H1 locs1 → W p l e R s m args below meth c H1 locs1 (cells + mc) (slots + ms) Q (F0 m (pc + 3) ls (v.toList ++ rest))) : W p l e R s m args below meth c H locs cells slots Q (F0 m pc ls st0) := by
  intro T hT X
  obtain ⟨v, st₀, t, T', L, h0, X', hL, e1, e2, hq, st⟩ := hr T hT X
  have hVF := hF _ _ _ hq
  obtain ⟨hz, hk⟩ := hVF
  rw [h0] at hz hk
  obtain ⟨t2, a1, b1⟩ := kk v st₀ t T'.heap (locs ++ L) h0 e1.symm hq
    ⟨Nat.le_trans hS.1 (by rw [e1]; exact hz), fun q h1 h2 => by rw [e1, hk q (Nat.lt_of_lt_of_le h1 hS.1) (fun z => h2 (hA q z))]; exact hS.2.1 q h1 h2, fun q hq => by
      rcases List.mem_append.mp hq with h | h
      · exact hS.2.2 q h
      · exact hf _ (hL q h)⟩ T' rfl X'
  exact ⟨t2, st t2 a1, b1⟩
end ZCALL
section ZK
variable {p : Program} {l : Launch} {e : Env} {R : Room} {s : State} {mth : MethodId} {args : Array Value} {below : List Frame} {meth : Method} {c : Code} {Q : State → Prop} {D : va_G} {y : zY} {A : Nat → Prop} {H0 : Heap} {ob : Option Nat} {m n0 s0 : Nat} {ad0 : List Nat}
variable {pc : Nat} {al : List (Option Value)} {st : List Value} {h : zH} {len : Nat}
theorem zs_vrun {k n d idx : Nat} {ws : va_W} {ad : List Nat} {H : Heap} {locs : List Loc} {ls : Array Slot} {As rs : List Value} {v : Option Value} {h1 : zH} {as : List Value} {cl sl : Nat} {b b1 : Nat}
    (C : zCx p R s mth args meth c D y A H0 m) (hd : decode (zb m) pc = .ok (.invokevirtual idx, 3)) (hc : zcall (zcl m) idx = some (0, k, n)) (hM : zCt k d (.ref b :: as) h v h1) (hHr : zHr ad y h ws) (hP : va_P D vwCl ws H) (hD : va_D A ws) (hS4 : va_S A H0 H locs) (hSc : zSc s A H0 ob h) (hls : ls.size = zml m)
    (hcas : zVs ad ob (.ref b :: as) (.ref b1 :: As)) (hn : As.length = n) (hrs : (rs.map fun v => v.category).sum ≤ 8) (hcl : cl + (h1.1 - h.1) ≤ R.cells) (hsl : sl + (h1.2.1 - h.2.1) ≤ R.slots) (hfr : d + 2 ≤ R.frames) (hlo : 64 * (d + 2) ≤ R.locals) (his : zis h b (zci (zcl k)) = true) (h7 : zcl k ≠ 7) (h10 : zcl k < 9) :
    va_Run p l e R s mth args below meth c H locs cl sl (h1.1 - h.1) (h1.2.1 - h.2.1) (F0 mth pc ls (As.reverse ++ .ref b1 :: rs)) rs (zQc D y ad (va_A ws H.size) v h1 (Value.ref b1 :: As).toArray) (va_A ws H.size) := by
  obtain ⟨hx, hb, hml, hown, hts, hK, hA, hnm, hR1, hR2⟩ := C
  obtain ⟨ps, hp⟩ := zcall_ok hc
  simp only [zCk, Bool.and_eq_true, decide_eq_true_eq] at hp
  obtain ⟨⟨⟨⟨⟨q1, q2⟩, q3⟩, q4⟩, hk⟩, hdn⟩ := hp
  obtain ⟨k1, k2, k3, k4⟩ := zML_ok2 k hk
  have hR : (zrm d (h1.1 - h.1) (h1.2.1 - h.2.1)).frames + 1 ≤ R.frames ∧ 8 + (zml k + 11) + (zrm d (h1.1 - h.1) (h1.2.1 - h.2.1)).locals ≤ R.locals := ⟨hfr, by show 8 + (zml k + 11) + 64 * (d + 1) ≤ R.locals; omega⟩
  have hMM := hM l D y ad ws (.ref b1 :: As) H.size ob hHr hcas (zsc_out hSc hS4 hD hA)
  obtain ⟨fs, hg⟩ := zz_is his
  obtain ⟨T, N, hT⟩ := zci_ok h7 h10
  obtain ⟨a, gs, ha, hw, -⟩ := zz_obj hHr hg (zT_99 hT)
  obtain ⟨w0, us0, e0, ⟨a', ha', e1⟩, -⟩ := hcas
  cases e0
  cases e1
  cases ha.symm.trans ha'
  have hrecv := va_recv hK.1 hP hT hw
  dsimp only at hrecv
  rw [k2] at hrecv
  refine va_runV (C := (zy k).cls) ⟨hx, hb, hml, hown, hts⟩ hMM (cwV n hts (goodWS (fun w hw => ?_)) rfl rfl rfl ⟨rfl, k4.1, k4.2, hdn⟩ hR) ⟨zPre_blind, hrecv, fun U hU hW => ⟨rfl, by rw [hU], by rw [hU]; exact hP, hK.warm hW, hD.weaken (fun _ _ _ _ => trivial), zsc_at hSc hS4 hU hW.alike⟩⟩ rfl hn hls rfl (lv_room hrs) hd ⟨hcl, hsl⟩
  · unfold wsV at hw
    rcases List.mem_append.mp hw with hw | hw
    · simp only [List.mem_cons, List.not_mem_nil, or_false] at hw
      rcases hw with rfl | rfl | rfl | rfl
      · exact zw_ws q1
      · exact zw_ws q2
      · exact zw_ws q3
      · exact zw_ws q4
    · exact zws_in hk w hw
theorem zs_srun {k n d idx : Nat} {ws : va_W} {ad : List Nat} {H : Heap} {locs : List Loc} {ls : Array Slot} {As rs : List Value} {v : Option Value} {h1 : zH} {as : List Value} {cl sl : Nat}
    (C : zCx p R s mth args meth c D y A H0 m) (hd : decode (zb m) pc = .ok (.invokestatic idx, 3)) (hc : zcall (zcl m) idx = some (1, k, n)) (hM : zCt k d as h v h1) (hHr : zHr ad y h ws) (hP : va_P D vwCl ws H) (hD : va_D A ws) (hS4 : va_S A H0 H locs) (hSc : zSc s A H0 ob h) (hls : ls.size = zml m)
    (hcas : zVs ad ob as As) (hn : As.length = n) (hrs : (rs.map fun v => v.category).sum ≤ 8) (hcl : cl + (h1.1 - h.1) ≤ R.cells) (hsl : sl + (h1.2.1 - h.2.1) ≤ R.slots) (hfr : d + 2 ≤ R.frames) (hlo : 64 * (d + 2) ≤ R.locals) :
    va_Run p l e R s mth args below meth c H locs cl sl (h1.1 - h.1) (h1.2.1 - h.2.1) (F0 mth pc ls (As.reverse ++ rs)) rs (zQc D y ad (va_A ws H.size) v h1 As.toArray) (va_A ws H.size) := by
  obtain ⟨hx, hb, hml, hown, hts, hK, hA, hnm, hR1, hR2⟩ := C
  obtain ⟨ps, hp⟩ := zcall_ok hc
  simp only [zCk, Bool.and_eq_true, decide_eq_true_eq] at hp
  obtain ⟨⟨⟨⟨q1, q2⟩, q3⟩, hk⟩, hdn⟩ := hp
  obtain ⟨k1, k2, k3, k4⟩ := zML_ok2 k hk
  have hR : (zrm d (h1.1 - h.1) (h1.2.1 - h.2.1)).frames + 1 ≤ R.frames ∧ 8 + (zml k + 11) + (zrm d (h1.1 - h.1) (h1.2.1 - h.2.1)).locals ≤ R.locals := ⟨hfr, by show 8 + (zml k + 11) + 64 * (d + 1) ≤ R.locals; omega⟩
  have hMM := hM l D y ad ws As H.size ob hHr hcas (zsc_out hSc hS4 hD hA)
  refine va_runS ⟨hx, hb, hml, hown, hts⟩ hMM (va_cwS n hts (goodWS (fun w hw => ?_)) rfl rfl rfl ⟨k4.1, k4.2, hdn⟩ hR) ⟨zPre_blind, fun U hU hW => ⟨rfl, by rw [hU], by rw [hU]; exact hP, hK.warm hW, hD.weaken (fun _ _ _ _ => trivial), zsc_at hSc hS4 hU hW.alike⟩⟩ rfl hn hls rfl (lv_room hrs) hd ⟨hcl, hsl⟩
  · unfold va_wsS at hw
    rcases List.mem_append.mp hw with hw | hw
    · simp only [List.mem_cons, List.not_mem_nil, or_false] at hw
      rcases hw with rfl | rfl | rfl
      · exact zw_ws q1
      · exact zw_ws q2
      · exact zw_ws q3
    · exact zws_in hk w hw
theorem zs_snrun {k n d idx : Nat} {ws : va_W} {ad : List Nat} {H : Heap} {locs : List Loc} {ls : Array Slot} {As rs : List Value} {v : Option Value} {h1 : zH} {as : List Value} {cl sl : Nat}
    (C : zCx p R s mth args meth c D y A H0 m) (hd : decode (zb m) pc = .ok (.invokestatic idx, 3)) (hc : zcall (zcl m) idx = some (3, k, n)) (hM : zCt k d as h v h1) (hHr : zHr ad y h ws) (hP : va_P D vwCl ws H) (hD : va_D A ws) (hS4 : va_S A H0 H locs) (hSc : zSc s A H0 ob h) (hls : ls.size = zml m)
    (hcas : zVs ad ob as As) (hn : As.length = n) (hrs : (rs.map fun v => v.category).sum ≤ 8) (hcl : cl + (h1.1 - h.1) ≤ R.cells) (hsl : sl + (h1.2.1 - h.2.1) ≤ R.slots) (hfr : d + 2 ≤ R.frames) (hlo : 64 * (d + 2) ≤ R.locals) :
    va_Run p l e R s mth args below meth c H locs cl sl (h1.1 - h.1) (h1.2.1 - h.2.1) (F0 mth pc ls (As.reverse ++ rs)) rs (zQc D y ad (va_A ws H.size) v h1 As.toArray) (va_A ws H.size) := by
  obtain ⟨hx, hb, hml, hown, hts, hK, hA, hnm, hR1, hR2⟩ := C
  obtain ⟨ps, hp⟩ := zcall_ok hc
  simp only [zCk, Bool.and_eq_true, decide_eq_true_eq] at hp
  obtain ⟨⟨⟨⟨q1, q2⟩, q3⟩, hk⟩, hdn⟩ := hp
  obtain ⟨k1, k2, k3, k4⟩ := zML_ok2 k hk
  have hR : (zrm d (h1.1 - h.1) (h1.2.1 - h.2.1)).frames + 1 ≤ R.frames ∧ 8 + (zml k + 11) + (zrm d (h1.1 - h.1) (h1.2.1 - h.2.1)).locals ≤ R.locals := ⟨hfr, by show 8 + (zml k + 11) + 64 * (d + 1) ≤ R.locals; omega⟩
  have hMM := hM l D y ad ws As H.size ob hHr hcas (zsc_out hSc hS4 hD hA)
  exact va_runSN ⟨hx, hb, hml, hown, hts⟩ hMM ⟨va_cnB (host := RX8) n hts (goodWS (zws_in hk)) rfl rfl rfl (hK.2.1 _ (List.contains_iff_mem.mp q1)) (hts _ (zw_ws q3)) ⟨k4.1, k4.2, hdn⟩ hR, hts _ (zw_ws q2), trivial⟩ ⟨zPre_blind, fun U hU hW => ⟨rfl, by rw [hU], by rw [hU]; exact hP, hK.warm hW, hD.weaken (fun _ _ _ _ => trivial), zsc_at hSc hS4 hU hW.alike⟩⟩ rfl hn hls rfl (lv_room hrs) hd ⟨hcl, hsl⟩
theorem zs_irun {k n d idx : Nat} {ws : va_W} {ad : List Nat} {H : Heap} {locs : List Loc} {ls : Array Slot} {As rs : List Value} {v : Option Value} {h1 : zH} {as : List Value} {cl sl : Nat} {b b1 : Nat}
    (C : zCx p R s mth args meth c D y A H0 m) (hd : decode (zb m) pc = .ok (.invokespecial idx, 3)) (hc : zcall (zcl m) idx = some (2, k, n)) (hM : zCt k d (.ref b :: as) h v h1) (hHr : zHr ad y h ws) (hP : va_P D vwCl ws H) (hD : va_D A ws) (hS4 : va_S A H0 H locs) (hSc : zSc s A H0 ob h) (hls : ls.size = zml m)
    (hcas : zVs ad ob (.ref b :: as) (.ref b1 :: As)) (hn : As.length = n) (hrs : (rs.map fun v => v.category).sum ≤ 8) (hcl : cl + (h1.1 - h.1) ≤ R.cells) (hsl : sl + (h1.2.1 - h.2.1) ≤ R.slots) (hfr : d + 2 ≤ R.frames) (hlo : 64 * (d + 2) ≤ R.locals) :
    va_Run p l e R s mth args below meth c H locs cl sl (h1.1 - h.1) (h1.2.1 - h.2.1) (F0 mth pc ls (As.reverse ++ .ref b1 :: rs)) rs (zQc D y ad (va_A ws H.size) v h1 (Value.ref b1 :: As).toArray) (va_A ws H.size) := by
  obtain ⟨hx, hb, hml, hown, hts, hK, hA, hnm, hR1, hR2⟩ := C
  obtain ⟨ps, hp⟩ := zcall_ok hc
  simp only [zCk, Bool.and_eq_true, decide_eq_true_eq] at hp
  obtain ⟨⟨⟨⟨⟨⟨q1, q2⟩, q3⟩, hin⟩, hk⟩, hdn⟩, hr⟩ := hp
  obtain ⟨k1, k2, k3, k4⟩ := zML_ok2 k hk
  have hR : (zrm d (h1.1 - h.1) (h1.2.1 - h.2.1)).frames + 1 ≤ R.frames ∧ 8 + (zml k + 11) + (zrm d (h1.1 - h.1) (h1.2.1 - h.2.1)).locals ≤ R.locals := ⟨hfr, by show 8 + (zml k + 11) + 64 * (d + 1) ≤ R.locals; omega⟩
  have hMM := hM l D y ad ws (.ref b1 :: As) H.size ob hHr hcas (zsc_out hSc hS4 hD hA)
  unfold zws at hMM
  rw [hr] at hMM
  have hws : ∀ w ∈ (Cond.code (zy k) (zb k) (zml k) none :: WS), w ∈ WS := by
    intro w hw
    have := zws_in hk w
    unfold zws at this
    rw [hr] at this
    exact this hw
  exact va_runI ⟨hx, hb, hml, hown, hts⟩ hMM (cwI n hts (goodWS hws) rfl rfl rfl (hts _ (zw_ws q3)) (hts _ (zw_ws q1)) (hts _ (zw_ws q2)) hin ⟨k4.1, k4.2, hdn⟩ hR) ⟨zPre_blind, fun U hU hW => ⟨rfl, by rw [hU], by rw [hU]; exact hP, hK.warm hW, hD.weaken (fun _ _ _ _ => trivial), zsc_at hSc hS4 hU hW.alike⟩⟩ rfl hn hls rfl (lv_room hrs) hd ⟨hcl, hsl⟩
theorem zs_inrun {k n d idx : Nat} {ws : va_W} {ad : List Nat} {H : Heap} {locs : List Loc} {ls : Array Slot} {As rs : List Value} {v : Option Value} {h1 : zH} {as : List Value} {cl sl : Nat} {b b1 : Nat}
    (C : zCx p R s mth args meth c D y A H0 m) (hd : decode (zb m) pc = .ok (.invokespecial idx, 3)) (hc : zcall (zcl m) idx = some (4, k, n)) (hM : zCt k d (.ref b :: as) h v h1) (hHr : zHr ad y h ws) (hP : va_P D vwCl ws H) (hD : va_D A ws) (hS4 : va_S A H0 H locs) (hSc : zSc s A H0 ob h) (hls : ls.size = zml m)
    (hcas : zVs ad ob (.ref b :: as) (.ref b1 :: As)) (hn : As.length = n) (hrs : (rs.map fun v => v.category).sum ≤ 8) (hcl : cl + (h1.1 - h.1) ≤ R.cells) (hsl : sl + (h1.2.1 - h.2.1) ≤ R.slots) (hfr : d + 2 ≤ R.frames) (hlo : 64 * (d + 2) ≤ R.locals) :
    va_Run p l e R s mth args below meth c H locs cl sl (h1.1 - h.1) (h1.2.1 - h.2.1) (F0 mth pc ls (As.reverse ++ .ref b1 :: rs)) rs (zQc D y ad (va_A ws H.size) v h1 (Value.ref b1 :: As).toArray) (va_A ws H.size) := by
  obtain ⟨hx, hb, hml, hown, hts, hK, hA, hnm, hR1, hR2⟩ := C
  obtain ⟨ps, hp⟩ := zcall_ok hc
  simp only [zCk, Bool.and_eq_true, decide_eq_true_eq] at hp
  obtain ⟨⟨⟨⟨⟨⟨q1, q2⟩, q3⟩, hin⟩, hk⟩, hdn⟩, hr⟩ := hp
  obtain ⟨k1, k2, k3, k4⟩ := zML_ok2 k hk
  have hR : (zrm d (h1.1 - h.1) (h1.2.1 - h.2.1)).frames + 1 ≤ R.frames ∧ 8 + (zml k + 11) + (zrm d (h1.1 - h.1) (h1.2.1 - h.2.1)).locals ≤ R.locals := ⟨hfr, by show 8 + (zml k + 11) + 64 * (d + 1) ≤ R.locals; omega⟩
  have hMM := hM l D y ad ws (.ref b1 :: As) H.size ob hHr hcas (zsc_out hSc hS4 hD hA)
  unfold zws at hMM
  rw [hr] at hMM
  have hws : ∀ w ∈ (Cond.code (zy k) (zb k) (zml k) none :: WS), w ∈ WS := by
    intro w hw
    have := zws_in hk w
    unfold zws at this
    rw [hr] at this
    exact this hw
  exact va_runIN ⟨hx, hb, hml, hown, hts⟩ hMM ⟨va_cnB (host := RX8) n hts (goodWS hws) rfl rfl rfl (hK.2.1 _ (List.contains_iff_mem.mp q1)) (hts _ (zw_ws q3)) ⟨k4.1, k4.2, hdn⟩ hR, hin, hts _ (zw_ws q2)⟩ ⟨zPre_blind, fun U hU hW => ⟨rfl, by rw [hU], by rw [hU]; exact hP, hK.warm hW, hD.weaken (fun _ _ _ _ => trivial), zsc_at hSc hS4 hU hW.alike⟩⟩ rfl hn hls rfl (lv_room hrs) hd ⟨hcl, hsl⟩
end ZK
end
section
/-- a step that is no call -/
def znc (o : zO) : Prop := ∀ x, o ≠ some (.inr (.inl x))
theorem znc.none : znc none := fun x e => by cases e
theorem znc.q {b : Bool} {o : zO} (k : znc o) : znc (zq b o) := fun r e => k r (zq_some (α := Nat) e).2
theorem znc.bind {α : Type} {x : Option α} {f : α → zO} (k : ∀ a, x = some a → znc (f a)) : znc (x.bind f) := fun r e => by
  obtain ⟨a, h1, h2⟩ := zb_some e
  exact k a h1 r h2
theorem znc.n {h1 : zH} {pc : Nat} {al : List (Option Value)} {st : List Value} : znc (zn pc al st h1) := fun r e => by unfold zn at e; cases e
theorem znc.t {h1 : zH} {pc : Nat} {off : Int} {al : List (Option Value)} {st : List Value} : znc (ztg pc off al st h1) := fun r e => by
  unfold ztg zn at e
  split at e <;> cases e
theorem znc.r {x : Option Value} : znc (some (.inr (.inr x))) := fun r e => by cases e
theorem zcallV_inl {k n : Nat} {st : List Value} {h : zH} {x : Nat × List Value × List Value} (e : zcallV k n st h = some (.inr (.inl x))) : ∃ b r, st.drop n = .ref b :: r ∧ n ≤ st.length ∧ (st.take n).all zarg = true ∧ zrest r = true ∧ zis h b (zci (zcl k)) = true ∧ n + 1 ≤ zml k ∧ zcl k ≠ 7 ∧ zcl k < 9 ∧ x = (k, .ref b :: (st.take n).reverse, r) := by
  unfold zcallV at e
  split at e
  · rename_i b r hd
    obtain ⟨hq, e⟩ := zq_some (α := Nat) e
    simp only [Bool.and_eq_true, decide_eq_true_eq] at hq
    cases e
    exact ⟨b, r, hd, hq.1.1.1.1.1.1, hq.1.1.1.1.1.2, hq.1.1.1.1.2, hq.1.1.1.2, hq.1.1.2, hq.1.2, hq.2, rfl⟩
  · cases e
theorem zcallS_inl {k n : Nat} {st : List Value} {x : Nat × List Value × List Value} (e : zcallS k n st = some (.inr (.inl x))) : n ≤ st.length ∧ (st.take n).all zarg = true ∧ zrest (st.drop n) = true ∧ n ≤ zml k ∧ x = (k, (st.take n).reverse, st.drop n) := by
  unfold zcallS at e
  obtain ⟨hq, e⟩ := zq_some (α := Nat) e
  simp only [Bool.and_eq_true, decide_eq_true_eq] at hq
  cases e
  exact ⟨hq.1.1.1, hq.1.1.2, hq.1.2, hq.2, rfl⟩
/-- the calls, told apart -/
theorem zstep_call {m pc : Nat} {al : List (Option Value)} {st : List Value} {h : zH} {x : Nat × List Value × List Value} (hs : zstep m pc al st h = some (.inr (.inl x))) :
    (∃ i n, decode (zb m) pc = .ok (.invokevirtual i, 3) ∧ zcall (zcl m) i = some (0, x.1, n) ∧ zcallV x.1 n st h = some (.inr (.inl x))) ∨
    (∃ i n, decode (zb m) pc = .ok (.invokestatic i, 3) ∧ zcall (zcl m) i = some (1, x.1, n) ∧ zcallS x.1 n st = some (.inr (.inl x))) ∨
    (∃ i n, decode (zb m) pc = .ok (.invokestatic i, 3) ∧ zcall (zcl m) i = some (3, x.1, n) ∧ zcallS x.1 n st = some (.inr (.inl x))) ∨
    (∃ i n, decode (zb m) pc = .ok (.invokespecial i, 3) ∧ zcall (zcl m) i = some (2, x.1, n) ∧ zcallV x.1 n st h = some (.inr (.inl x))) ∨
    (∃ i n, decode (zb m) pc = .ok (.invokespecial i, 3) ∧ zcall (zcl m) i = some (4, x.1, n) ∧ zcallV x.1 n st h = some (.inr (.inl x))) := by
  unfold zstep at hs
  split at hs
  · rename_i i len hd
    have key : (∀ q, i ≠ .invokevirtual q) → (∀ q, i ≠ .invokestatic q) → (∀ q, i ≠ .invokespecial q) → znc (zdo m pc i len al st h) := by
      intro g1 g2 g3
      cases i <;> simp only [zdo, zload, zloada, zstore, zstorea, zarith]
      all_goals repeat' first
        | exact znc.none
        | exact znc.r
        | exact znc.n
        | exact znc.t
        | (exact absurd rfl (g1 _))
        | (exact absurd rfl (g2 _))
        | (exact absurd rfl (g3 _))
        | apply znc.q
        | (apply znc.bind; intro a ha)
        | split
    by_cases g1 : ∃ q, i = .invokevirtual q
    · obtain ⟨q, rfl⟩ := g1
      have hq0 := zq_some (α := Nat) hs
      clear hs
      obtain ⟨hl, hs⟩ := hq0
      cases beq_iff_eq.mp hl
      split at hs
      · rename_i k n hc
        have hs2 := hs
        obtain ⟨b, r, -, -, -, -, -, -, -, -, rfl⟩ := zcallV_inl hs
        exact Or.inl ⟨q, n, hd, hc, hs2⟩
      · cases hs
    · by_cases g2 : ∃ q, i = .invokestatic q
      · obtain ⟨q, rfl⟩ := g2
        have hq0 := zq_some (α := Nat) hs
        clear hs
        obtain ⟨hl, hs⟩ := hq0
        cases beq_iff_eq.mp hl
        unfold zstatic at hs
        split at hs
        · rename_i k n hc
          have hs2 := hs
          obtain ⟨-, -, -, -, rfl⟩ := zcallS_inl hs
          exact Or.inr (Or.inl ⟨q, n, hd, hc, hs2⟩)
        · rename_i k n hc
          have hs2 := hs
          obtain ⟨-, -, -, -, rfl⟩ := zcallS_inl hs
          exact Or.inr (Or.inr (Or.inl ⟨q, n, hd, hc, hs2⟩))
        · split at hs
          · exact absurd hs (znc.q znc.n _)
          · cases hs
        · split at hs
          · exact absurd hs (znc.q znc.n _)
          · cases hs
        · split at hs
          · exact absurd hs (znc.bind (fun _ _ => znc.q znc.n) _)
          · cases hs
        · cases hs
      · by_cases g3 : ∃ q, i = .invokespecial q
        · obtain ⟨q, rfl⟩ := g3
          have hq0 := zq_some (α := Nat) hs
          clear hs
          obtain ⟨hl, hs⟩ := hq0
          cases beq_iff_eq.mp hl
          unfold zspecial at hs
          split at hs
          · rename_i k n hc
            have hs2 := hs
            obtain ⟨b, r, -, -, -, -, -, -, -, -, rfl⟩ := zcallV_inl hs
            exact Or.inr (Or.inr (Or.inr (Or.inl ⟨q, n, hd, hc, hs2⟩)))
          · rename_i k n hc
            have hs2 := hs
            obtain ⟨b, r, -, -, -, -, -, -, -, -, rfl⟩ := zcallV_inl hs
            exact Or.inr (Or.inr (Or.inr (Or.inr ⟨q, n, hd, hc, hs2⟩)))
          · split at hs
            · exact absurd hs (znc.q znc.n _)
            · cases hs
          · cases hs
        · exact absurd hs (key (fun q hq => g1 ⟨q, hq⟩) (fun q hq => g2 ⟨q, hq⟩) (fun q hq => g3 ⟨q, hq⟩) x)
  · cases hs
theorem zarg_all_rev {l : List Value} (h : l.all zarg = true) : l.reverse.all zarg = true := by
  rw [List.all_reverse]
  exact h
theorem zstep_args {m pc : Nat} {al : List (Option Value)} {st : List Value} {h : zH} {k : Nat} {as rs : List Value} (hs : zstep m pc al st h = some (.inr (.inl (k, as, rs)))) : as.all zarg = true ∧ as.length ≤ zml k ∧ k < 138 ∧ ∀ j, j < as.length → zwe k j = false := by
  have lt : ∀ {c i n kind : Nat}, zcall c i = some (kind, k, n) → kind < 5 → k < 138 := by
    intro c i n kind hc hk
    obtain ⟨ps, hp⟩ := zcall_ok hc
    match kind, hk with
    | 0, _ => simp only [zCk, Bool.and_eq_true, decide_eq_true_eq] at hp; exact hp.1.2
    | 1, _ => simp only [zCk, Bool.and_eq_true, decide_eq_true_eq] at hp; exact hp.1.2
    | 2, _ => simp only [zCk, Bool.and_eq_true, decide_eq_true_eq] at hp; exact hp.1.1.2
    | 3, _ => simp only [zCk, Bool.and_eq_true, decide_eq_true_eq] at hp; exact hp.1.2
    | 4, _ => simp only [zCk, Bool.and_eq_true, decide_eq_true_eq] at hp; exact hp.1.1.2
  rcases zstep_call hs with ⟨i, n, -, hc, e⟩ | ⟨i, n, -, hc, e⟩ | ⟨i, n, -, hc, e⟩ | ⟨i, n, -, hc, e⟩ | ⟨i, n, -, hc, e⟩
  · obtain ⟨b, r, h1, h2, h3, h4, h5, h6, h7, h8, e⟩ := zcallV_inl e
    cases e
    dsimp only at h6
    refine ⟨?_, by simp; omega, lt hc (by decide), fun j hj => zar_ok hc (by decide) (by simp at hj; omega)⟩
    rw [List.all_cons, zarg_all_rev h3]
    rfl
  · obtain ⟨h1, h2, h3, h4, e⟩ := zcallS_inl e
    cases e
    dsimp only at h4
    exact ⟨zarg_all_rev h2, by simp; omega, lt hc (by decide), fun j hj => zar_ok hc (by decide) (by simp at hj; omega)⟩
  · obtain ⟨h1, h2, h3, h4, e⟩ := zcallS_inl e
    cases e
    dsimp only at h4
    exact ⟨zarg_all_rev h2, by simp; omega, lt hc (by decide), fun j hj => zar_ok hc (by decide) (by simp at hj; omega)⟩
  · obtain ⟨b, r, h1, h2, h3, h4, h5, h6, h7, h8, e⟩ := zcallV_inl e
    cases e
    dsimp only at h6
    refine ⟨?_, by simp; omega, lt hc (by decide), fun j hj => zar_ok hc (by decide) (by simp at hj; omega)⟩
    rw [List.all_cons, zarg_all_rev h3]
    rfl
  · obtain ⟨b, r, h1, h2, h3, h4, h5, h6, h7, h8, e⟩ := zcallV_inl e
    cases e
    dsimp only at h6
    refine ⟨?_, by simp; omega, lt hc (by decide), fun j hj => zar_ok hc (by decide) (by simp at hj; omega)⟩
    rw [List.all_cons, zarg_all_rev h3]
    rfl
section ZM
variable {p : Program} {l : Launch} {e : Env} {R : Room} {s : State} {mth : MethodId} {args : Array Value} {below : List Frame} {meth : Method} {c : Code} {Q : State → Prop} {D : va_G} {y : zY} {A : Nat → Prop} {H0 : Heap} {ob : Option Nat} {m n0 s0 : Nat} {ad0 : List Nat}
variable {pc : Nat} {al : List (Option Value)} {st : List Value} {h : zH} {len : Nat}
theorem zs_call {k d : Nat} {as rs : List Value} {v : Option Value} {h1 : zH} (C : zCx p R s mth args meth c D y A H0 m) (hs : zstep m pc al st h = some (.inr (.inl (k, as, rs)))) (hM : zCt k d as h v h1) (hle : zle h h1) (hfr : d + 2 ≤ R.frames) (hlo : 64 * (d + 2) ≤ R.locals) (hb1 : h1.1 ≤ n0 + R.cells) (hb2 : h1.2.1 ≤ s0 + R.slots) (kk : zWg p l e R s mth args below meth c Q D y A H0 ob m n0 s0 ad0 (pc + 3, al, v.toList ++ rs, h1)) : zWg p l e R s mth args below meth c Q D y A H0 ob m n0 s0 ad0 (pc, al, st, h) := by
  intro ad ws H locs ls cst g1 g2 X
  show W p l e R s mth args below meth c H locs (h.1 - n0) (h.2.1 - s0) Q (F0 mth pc ls cst)
  dsimp only at g1 g2 X
  have X' := X
  obtain ⟨x1, x2, x3, x4, x5, x6, x7, x8⟩ := X'
  have hls := x5.1
  have hA : ∀ q, H0.size ≤ q → A q := C.2.2.2.2.2.2.1
  have hAA : ∀ q, va_A ws H.size q → A q := fun q hq => hq.elim (fun ⟨k, e, hk⟩ => x3.2 k (q, e) hk) (fun hq => hA q (Nat.le_trans x4.1 hq))
  have c1 : h.1 - n0 + (h1.1 - h.1) = h1.1 - n0 := by have := hle.1; omega
  have c2 : h.2.1 - s0 + (h1.2.1 - h.2.1) = h1.2.1 - s0 := by have := hle.2.1; omega
  have fin : ∀ (us : List Value) (st0 : List Value) (a : Array Value), zVs ad ob rs us → va_Run p l e R s mth args below meth c H locs (h.1 - n0) (h.2.1 - s0) (h1.1 - h.1) (h1.2.1 - h.2.1) (F0 mth pc ls st0) us (zQc D y ad (va_A ws H.size) v h1 a) (va_A ws H.size) → W p l e R s mth args below meth c H locs (h.1 - n0) (h.2.1 - s0) Q (F0 mth pc ls st0) := by
    intro us st0 a hus hr
    refine z_call hr (fun _ _ _ q => q.2) x4 hAA hAA (fun vc st1 t H1 locs1 e1 e2 hq hS => ?_)
    obtain ⟨⟨w, ad1, ws1, ew, hvo, hext, hHr1, hP1, hD1⟩, -⟩ := hq
    cases ew
    rw [e2] at hP1
    rw [c1, c2]
    refine kk ad1 ws1 H1 locs1 ls (vc.toList ++ us) (Nat.le_trans g1 hle.1) (Nat.le_trans g2 hle.2.1) ⟨hHr1, hP1, hD1.weaken (fun _ _ _ hq => hAA _ hq), hS, x5.ext hext, ?_, ?_, x8.tr hext⟩
    · have hus2 := hus.ext hext
      cases v with
      | none => cases hvo; exact hus2
      | some v =>
        obtain ⟨u, rfl, hu⟩ := hvo
        exact ⟨u, us, rfl, hu.weak, hus2⟩
    · intro b hb
      rw [hle.2.2]
      exact x7 b hb
  rcases zstep_call hs with ⟨i, n, hd, hc, e⟩ | ⟨i, n, hd, hc, e⟩ | ⟨i, n, hd, hc, e⟩ | ⟨i, n, hd, hc, e⟩ | ⟨i, n, hd, hc, e⟩
  · obtain ⟨b, r, h1', h2, h3, h4, h5, h6, h7, h8, e⟩ := zcallV_inl e
    cases e
    have hdrop := x6.drop (n := n)
    rw [h1'] at hdrop
    obtain ⟨w, us, ecs, ⟨b1, hb, rfl⟩, hus⟩ := hdrop
    have hcst : cst = (cst.take n).reverse.reverse ++ .ref b1 :: us := by rw [List.reverse_reverse, ← ecs, List.take_append_drop]
    rw [hcst]
    exact fin us _ _ hus (zs_vrun C hd hc hM x1 x2 x3 x4 x7 hls ⟨_, _, rfl, ⟨b1, hb, rfl⟩, (x6.take).rev⟩ (by have := x6.len; simp; omega) (zrest_ok h4 hus) (by omega) (by omega) hfr hlo h5 h7 h8)
  · obtain ⟨h1', h2, h3, h4, e⟩ := zcallS_inl e
    cases e
    have hus := x6.drop (n := n)
    have hcst : cst = (cst.take n).reverse.reverse ++ cst.drop n := by rw [List.reverse_reverse, List.take_append_drop]
    rw [hcst]
    exact fin _ _ _ hus (zs_srun C hd hc hM x1 x2 x3 x4 x7 hls (x6.take).rev (by have := x6.len; simp; omega) (zrest_ok h3 hus) (by omega) (by omega) hfr hlo)
  · obtain ⟨h1', h2, h3, h4, e⟩ := zcallS_inl e
    cases e
    have hus := x6.drop (n := n)
    have hcst : cst = (cst.take n).reverse.reverse ++ cst.drop n := by rw [List.reverse_reverse, List.take_append_drop]
    rw [hcst]
    exact fin _ _ _ hus (zs_snrun C hd hc hM x1 x2 x3 x4 x7 hls (x6.take).rev (by have := x6.len; simp; omega) (zrest_ok h3 hus) (by omega) (by omega) hfr hlo)
  · obtain ⟨b, r, h1', h2, h3, h4, h5, h6, h7, h8, e⟩ := zcallV_inl e
    cases e
    have hdrop := x6.drop (n := n)
    rw [h1'] at hdrop
    obtain ⟨w, us, ecs, ⟨b1, hb, rfl⟩, hus⟩ := hdrop
    have hcst : cst = (cst.take n).reverse.reverse ++ .ref b1 :: us := by rw [List.reverse_reverse, ← ecs, List.take_append_drop]
    rw [hcst]
    exact fin us _ _ hus (zs_irun C hd hc hM x1 x2 x3 x4 x7 hls ⟨_, _, rfl, ⟨b1, hb, rfl⟩, (x6.take).rev⟩ (by have := x6.len; simp; omega) (zrest_ok h4 hus) (by omega) (by omega) hfr hlo)
  · obtain ⟨b, r, h1', h2, h3, h4, h5, h6, h7, h8, e⟩ := zcallV_inl e
    cases e
    have hdrop := x6.drop (n := n)
    rw [h1'] at hdrop
    obtain ⟨w, us, ecs, ⟨b1, hb, rfl⟩, hus⟩ := hdrop
    have hcst : cst = (cst.take n).reverse.reverse ++ .ref b1 :: us := by rw [List.reverse_reverse, ← ecs, List.take_append_drop]
    rw [hcst]
    exact fin us _ _ hus (zs_inrun C hd hc hM x1 x2 x3 x4 x7 hls ⟨_, _, rfl, ⟨b1, hb, rfl⟩, (x6.take).rev⟩ (by have := x6.len; simp; omega) (zrest_ok h4 hus) (by omega) (by omega) hfr hlo)
end ZM
end
section
/-- a run of n steps from a frame: the machine comes to where that frame returns -/
def zP (n : Nat) : Prop := ∀ (d m pc : Nat) (al : List (Option Value)) (st : List Value) (h : zH) (v : Option Value) (h' : zH), zx n d m pc al st h = some (v, h') →
  ∀ (p : Program) (l : Launch) (e : Env) (R : Room) (s : State) (mth : MethodId) (args : Array Value) (below : List Frame) (meth : Method) (c : Code) (Q : State → Prop) (D : va_G) (y : zY) (A : Nat → Prop) (H0 : Heap) (ob : Option Nat) (n0 s0 : Nat) (ad0 : List Nat),
  zCx p R s mth args meth c D y A H0 m → d + 1 ≤ R.frames → 64 * (d + 1) ≤ R.locals → h'.1 ≤ n0 + R.cells → h'.2.1 ≤ s0 + R.slots →
  (∀ (pc' : Nat) (al' : List (Option Value)) (st' : List Value), zstep m pc' al' st' h' = some (.inr (.inr v)) → zWg p l e R s mth args below meth c Q D y A H0 ob m n0 s0 ad0 (pc', al', st', h')) →
  zWg p l e R s mth args below meth c Q D y A H0 ob m n0 s0 ad0 (pc, al, st, h)
/-- where a frame returns -/
theorem zret_inl {m pc : Nat} {al : List (Option Value)} {st : List Value} {h : zH} {v : Option Value} (hs : zstep m pc al st h = some (.inr (.inr v))) :
    (∃ x ty, decode (zb m) pc = .ok (.ireturn, 1) ∧ st = [.int x] ∧ zret m = some ty ∧ narrow ty (.int x) = .int x ∧ v = some (.int x)) ∨
    (∃ x ty, decode (zb m) pc = .ok (.areturn, 1) ∧ st = [.ref x] ∧ zret m = some (.object ty) ∧ v = some (.ref x)) ∨
    (∃ x, decode (zb m) pc = .ok (.lreturn, 1) ∧ st = [.long x] ∧ zret m = some .long ∧ v = some (.long x)) ∨
    (decode (zb m) pc = .ok (.return_, 1) ∧ st = [] ∧ zret m = none ∧ v = none) := by
  unfold zstep at hs
  split at hs
  · rename_i i len hd
    have nq : ∀ {pc : Nat} {al : List (Option Value)} {st : List Value} {h1 : zH}, zn pc al st h1 = some (.inr (.inr v)) → False := fun e => by unfold zn at e; cases e
    have nt : ∀ {off : Int} {al : List (Option Value)} {st : List Value} {h1 : zH}, ztg pc off al st h1 = some (.inr (.inr v)) → False := fun e => by
      unfold ztg zn at e
      split at e <;> cases e
    by_cases g : i = .ireturn ∨ i = .areturn ∨ i = .lreturn ∨ i = .return_
    · rcases g with rfl | rfl | rfl | rfl <;> (have hq0 := zq_some (α := Nat) hs; clear hs; obtain ⟨hl, hs⟩ := hq0; cases beq_iff_eq.mp hl; split at hs)
      · rename_i x ty hz
        split at hs
        · rename_i hn
          cases hs
          exact Or.inl ⟨_, _, hd, rfl, hz, hn, rfl⟩
        · cases hs
      · cases hs
      · rename_i x ty hz
        cases hs
        exact Or.inr (Or.inl ⟨_, _, hd, rfl, hz, rfl⟩)
      · cases hs
      · rename_i x hz
        cases hs
        exact Or.inr (Or.inr (Or.inl ⟨_, hd, rfl, hz, rfl⟩))
      · cases hs
      · rename_i hz
        cases hs
        exact Or.inr (Or.inr (Or.inr ⟨hd, rfl, hz, rfl⟩))
      · cases hs
    · exfalso
      have key : ∀ (o : zO), (∀ w, o ≠ some (.inr (.inr w))) → o = some (.inr (.inr v)) → False := fun o k e => k v e
      refine key _ ?_ hs
      have q0 : ∀ w, (none : zO) ≠ some (.inr (.inr w)) := fun w e => by cases e
      have q1 : ∀ {b : Bool} {o : zO}, (∀ w, o ≠ some (.inr (.inr w))) → ∀ w, zq b o ≠ some (.inr (.inr w)) := fun k w e => k w (zq_some (α := Nat) e).2
      have q2 : ∀ {α : Type} {x : Option α} {f : α → zO}, (∀ a, ∀ w, f a ≠ some (.inr (.inr w))) → ∀ w, x.bind f ≠ some (.inr (.inr w)) := fun k w e => by
        obtain ⟨a, h1, h2⟩ := zb_some e
        exact k a w h2
      have q3 : ∀ {pc : Nat} {al : List (Option Value)} {st : List Value} {h1 : zH}, ∀ w, zn pc al st h1 ≠ some (.inr (.inr w)) := fun w e => by unfold zn at e; cases e
      have q4 : ∀ {off : Int} {al : List (Option Value)} {st : List Value} {h1 : zH}, ∀ w, ztg pc off al st h1 ≠ some (.inr (.inr w)) := fun w e => by
        unfold ztg zn at e
        split at e <;> cases e
      have q5 : ∀ {x : Nat × List Value × List Value}, ∀ w, (some (.inr (.inl x)) : zO) ≠ some (.inr (.inr w)) := fun w e => by cases e
      cases i <;> first | (exact absurd (Or.inl rfl) g) | (exact absurd (Or.inr (Or.inl rfl)) g) | (exact absurd (Or.inr (Or.inr (Or.inl rfl))) g) | (exact absurd (Or.inr (Or.inr (Or.inr rfl))) g) | skip
      all_goals simp only [zdo, zload, zloada, zstore, zstorea, zarith, zstatic, zspecial, zcallV, zcallS]
      all_goals repeat' first
        | exact q0
        | exact q3
        | exact q4
        | exact q5
        | apply q1
        | (apply q2; intro a)
        | split
  · cases hs
theorem z_met {n : Nat} (hP : zP n) {k d : Nat} {as : List Value} {h h1 : zH} {v : Option Value} (hr : zx n d k 0 (zentry k as) [] h = some (v, h1)) (ha : as.all zarg = true) (hn : as.length ≤ zml k) (hk : k < 138) (hj : ∀ j, j < as.length → zwe k j = false) : zCt k d as h v h1 := by
  intro l D y ad ws cas sz ob hHr hvs hob
  obtain ⟨k1, k2, k3, k4⟩ := zML_ok2 k hk
  refine Met.ofW (cc := zb k) (maxL := zml k) (ret := zret k) k1 rfl ?_
  intro p e s m args below meth c s₁ B hml hv
  obtain ⟨rfl, hsz, hPw, hK, hD0, hX0⟩ := hv
  subst hsz
  have hle := zx_mono hr
  have hx := B.exec
  have hb := B.bytes
  have hrt := B.returns
  have hlocks := B.notSynchronized
  have hts := atoms_spec (ws := zws k) B.pre
  have hown : s.vm.findClass (zK (zcl k)) = some m.cls := by
    rw [k2]
    exact findClass_of_methodNamed B.named
  have hnm : meth.name = (zy k).name := (name_of_methodNamed B.named B.method).1
  have hcat : ∀ w ∈ cas, w.category = 1 := by
    intro w hw
    have h1 : w.category ∈ cas.map (fun v => v.category) := List.mem_map.mpr ⟨w, hw, rfl⟩
    rw [hvs.cat] at h1
    obtain ⟨u, hu, e⟩ := List.mem_map.mp h1
    rw [← e]
    have := List.all_eq_true.mp ha u hu
    cases u <;> first | rfl | (simp [zarg] at this)
  rw [entry_eq m cas hcat]
  have C : zCx p (headSpec (zws k) (zrm d (h1.1 - h.1) (h1.2.1 - h.2.1))).room s m cas.toArray meth c D y (va_A ws s.heap.size) s.heap k :=
    ⟨hx, hb, hml, hown, fun w hw => hts w (List.mem_cons_of_mem _ hw), hK, fun q hq => Or.inr hq, (fun z => hnm.trans z), Nat.le_add_left 1 d, by show 64 ≤ 64 * (d + 1); omega⟩
  have main := hP d k 0 (zentry k as) [] h v h1 hr p l e (headSpec (zws k) (zrm d (h1.1 - h.1) (h1.2.1 - h.2.1))).room s m cas.toArray below meth c (MQ below (zQc D y ad (va_A ws s.heap.size) v h1) cas.toArray s (h1.1 - h.1) (h1.2.1 - h.2.1) (va_A ws s.heap.size)) D y (va_A ws s.heap.size) s.heap ob h.1 h.2.1 ad C (Nat.le_refl _) (Nat.le_refl _) (by show h1.1 ≤ h.1 + (h1.1 - h.1); have := hle.1; dsimp only at this; omega) (by show h1.2.1 ≤ h.2.1 + (h1.2.1 - h.2.1); have := hle.2.1; dsimp only at this; omega) ?_
  · have M := main ad ws s.heap [] _ [] (Nat.le_refl _) (Nat.le_refl _) ⟨hHr, hPw, hD0.self, va_S.rf, zLr.entry hvs ha hn hj, rfl, (fun b hb => ⟨hX0 b hb, (hob b hb).1, (hob b hb).2⟩), zExt.rf⟩
    dsimp only at M
    rw [Nat.sub_self, Nat.sub_self] at M
    exact M
  · intro pc' al' st' hs ad1 ws1 H locs ls cst g1 g2 X
    obtain ⟨x1, x2, x3, x4, x5, x6, x7, x8⟩ := X
    have post : ∀ (w : Option Value) (t : State), zVo ad1 v w → t.heap = H → s.WarmedH t.vm → zQc D y ad (va_A ws s.heap.size) v h1 cas.toArray s (.returned w) t := by
      intro w t hw ht _
      exact ⟨⟨w, ad1, ws1, rfl, hw, x8, x1, by rw [ht]; exact x2, x3⟩, x4.F ht⟩
    rcases zret_inl hs with ⟨x, ty, hd, rfl, hz, hn, rfl⟩ | ⟨x, ty, hd, rfl, hz, rfl⟩ | ⟨x, hd, rfl, hz, rfl⟩ | ⟨hd, rfl, hz, rfl⟩
    · obtain ⟨w, us, rfl, hw, rfl⟩ := x6
      cases hw
      exact W.zret hx hb (hrt.trans hz) hn (fun t ht hW => post _ t ⟨_, rfl, rfl⟩ ht hW) x4.2.2 hd
    · obtain ⟨w, us, rfl, ⟨a, ha1, rfl⟩, rfl⟩ := x6
      exact W.aret hx hb (hrt.trans hz) (Or.inl ⟨_, rfl⟩) (Or.inr ⟨a, rfl⟩) (fun t ht hW => post _ t ⟨_, rfl, ⟨a, ha1, rfl⟩⟩ ht hW) x4.2.2 hd
    · obtain ⟨w, us, rfl, hw, rfl⟩ := x6
      cases hw
      exact W.lret hx hb (hrt.trans hz) (fun t ht hW => post _ t ⟨_, rfl, rfl⟩ ht hW) x4.2.2 hd
    · cases x6
      exact W.vret hx hb (hrt.trans hz) (fun t ht hW => post _ t rfl ht hW) x4.2.2 hd
theorem z_run : ∀ n, zP n
  | 0 => fun d m pc al st h v h' hr => by cases hr
  | n + 1 => by
    have ih := z_run n
    intro d m pc al st h v h' hr p l e R s mth args below meth c Q D y A H0 ob n0 s0 ad0 C hf hlo hb1 hb2 hfin
    unfold zx at hr
    split at hr
    · cases hr
    · rename_i pc1 al1 st1 h1 hs
      have hle := zx_mono hr
      exact zs_next C hs (Nat.le_trans hle.1 hb1) (Nat.le_trans hle.2.1 hb2) (ih _ _ _ _ _ _ _ _ hr p l e R s mth args below meth c Q D y A H0 ob n0 s0 ad0 C hf hlo hb1 hb2 hfin)
    · rename_i k as rs hs
      split at hr
      · cases hr
      · rename_i d1
        split at hr
        · cases hr
        · rename_i v1 h1 hr1
          obtain ⟨a1, a2, a3, a4⟩ := zstep_args hs
          have hle := zx_mono hr
          have hle1 := zx_mono hr1
          exact zs_call C hs (z_met ih hr1 a1 a2 a3 a4) hle1 (by omega) (by omega) (Nat.le_trans hle.1 hb1) (Nat.le_trans hle.2.1 hb2) (ih _ _ _ _ _ _ _ _ hr p l e R s mth args below meth c Q D y A H0 ob n0 s0 ad0 C hf hlo hb1 hb2 hfin)
    · rename_i v1 hs
      cases hr
      exact hfin _ _ _ hs
end
section
/-! THE ABSTRACT RUN AS A FUNCTION, and its equations -/
theorem zx_succ : ∀ {n d m pc : Nat} {al : List (Option Value)} {st : List Value} {h : zH} {r : Option Value × zH}, zx n d m pc al st h = some r → zx (n + 1) d m pc al st h = some r
  | 0, _, _, _, _, _, _, _, e => by cases e
  | n + 1, d, m, pc, al, st, h, r, e => by
    unfold zx at e
    rw [zx]
    split at e
    · cases e
    · rename_i pc1 al1 st1 h1 hs
      exact zx_succ e
    · rename_i k as rs hs
      split at e
      · cases e
      · split at e
        · cases e
        · rename_i v1 h1 hr1
          rw [zx_succ hr1]
          exact zx_succ e
    · rename_i v1 hs
      exact e
theorem zx_le {n k d m pc : Nat} {al : List (Option Value)} {st : List Value} {h : zH} {r : Option Value × zH} (e : zx n d m pc al st h = some r) : zx (n + k) d m pc al st h = some r := by
  induction k with
  | zero => exact e
  | succ k ih => exact zx_succ ih
theorem zx_det {n k d m pc : Nat} {al : List (Option Value)} {st : List Value} {h : zH} {r q : Option Value × zH} (e : zx n d m pc al st h = some r) (f : zx k d m pc al st h = some q) : r = q := by
  have e1 := zx_le (k := k) e
  have f1 := zx_le (k := n) f
  rw [Nat.add_comm] at f1
  exact Option.some.inj (e1.symm.trans f1)
noncomputable def ev (d m pc : Nat) (al : List (Option Value)) (st : List Value) (h : zH) : Option (Option Value × zH) := match Classical.propDecidable (∃ n r, zx n d m pc al st h = some r) with
  | .isTrue hq => some (Classical.choose (Classical.choose_spec hq))
  | .isFalse _ => none
theorem ev_iff {d m pc : Nat} {al : List (Option Value)} {st : List Value} {h : zH} {r : Option Value × zH} : ev d m pc al st h = some r ↔ ∃ n, zx n d m pc al st h = some r := by
  unfold ev
  split
  · rename_i hq _
    have hs := Classical.choose_spec (Classical.choose_spec hq)
    constructor
    · intro e
      cases e
      exact ⟨_, hs⟩
    · rintro ⟨n, e⟩
      exact congrArg some (zx_det hs e)
  · rename_i hq _
    constructor
    · intro e
      cases e
    · rintro ⟨n, e⟩
      exact absurd ⟨n, r, e⟩ hq
theorem ev_ext {a b : Option (Option Value × zH)} (h : ∀ r, a = some r ↔ b = some r) : a = b := Option.ext h
theorem ev_next {d m pc pc' : Nat} {al al' : List (Option Value)} {st st' : List Value} {h h' : zH} (hs : zstep m pc al st h = zn pc' al' st' h') : ev d m pc al st h = ev d m pc' al' st' h' := by
  refine ev_ext fun r => ?_
  rw [ev_iff, ev_iff]
  constructor
  · rintro ⟨n, e⟩
    cases n with
    | zero => cases e
    | succ n =>
      rw [zx, hs] at e
      exact ⟨n, e⟩
  · rintro ⟨n, e⟩
    refine ⟨n + 1, ?_⟩
    rw [zx, hs]
    exact e
theorem ev_none {d m pc : Nat} {al : List (Option Value)} {st : List Value} {h : zH} (hs : zstep m pc al st h = none) : ev d m pc al st h = none := by
  refine ev_ext fun r => ?_
  rw [ev_iff]
  constructor
  · rintro ⟨n, e⟩
    cases n with
    | zero => cases e
    | succ n =>
      rw [zx, hs] at e
      cases e
  · intro e
    cases e
theorem ev_ret {d m pc : Nat} {al : List (Option Value)} {st : List Value} {h : zH} {v : Option Value} (hs : zstep m pc al st h = some (.inr (.inr v))) : ev d m pc al st h = some (v, h) := by
  rw [ev_iff]
  refine ⟨1, ?_⟩
  rw [zx, hs]
theorem ev_call {d m pc k : Nat} {al : List (Option Value)} {st as rs : List Value} {h : zH} (hs : zstep m pc al st h = some (.inr (.inl (k, as, rs)))) : ev (d + 1) m pc al st h = (ev d k 0 (zentry k as) [] h).bind fun q => ev (d + 1) m (pc + 3) al (q.1.toList ++ rs) q.2 := by
  refine ev_ext fun r => ?_
  rw [ev_iff, Option.bind_eq_some_iff]
  constructor
  · rintro ⟨n, e⟩
    cases n with
    | zero => cases e
    | succ n =>
      rw [zx, hs] at e
      dsimp only at e
      split at e
      · cases e
      · rename_i v h1 hr
        exact ⟨(v, h1), ev_iff.mpr ⟨n, hr⟩, ev_iff.mpr ⟨n, e⟩⟩
  · rintro ⟨⟨v, h1⟩, e1, e2⟩
    obtain ⟨n, e1⟩ := ev_iff.mp e1
    obtain ⟨k1, e2⟩ := ev_iff.mp e2
    refine ⟨n + k1 + 1, ?_⟩
    rw [zx, hs]
    dsimp only
    rw [zx_le (k := k1) e1]
    dsimp only
    rw [Nat.add_comm]
    exact zx_le e2
theorem zstep_of {m pc len : Nat} {i : Instr} {al : List (Option Value)} {st : List Value} {h : zH} (hd : decode (zb m) pc = .ok (i, len)) : zstep m pc al st h = zdo m pc i len al st h := by
  unfold zstep
  rw [hd]
section EV
variable {d m pc : Nat} {al al' : List (Option Value)} {st : List Value} {h : zH} {x y z : Int32}
theorem ev_step {i : Instr} {len pc' : Nat} {st' : List Value} {h' : zH} (hd : decode (zb m) pc = .ok (i, len)) (hs : zdo m pc i len al st h = zn pc' al' st' h') : ev d m pc al st h = ev d m pc' al' st' h' := ev_next ((zstep_of hd).trans hs)
theorem ev_opt {α : Type} {i : Instr} {len : Nat} {o : Option α} {pc' : α → Nat} {al' : α → List (Option Value)} {st' : α → List Value} {h' : α → zH} (hd : decode (zb m) pc = .ok (i, len)) (hs : zdo m pc i len al st h = o.bind fun a => zn (pc' a) (al' a) (st' a) (h' a)) : ev d m pc al st h = o.bind fun a => ev d m (pc' a) (al' a) (st' a) (h' a) := by
  cases o with
  | none => exact ev_none ((zstep_of hd).trans hs)
  | some a => exact ev_next ((zstep_of hd).trans hs)
theorem ev_if {i : Instr} {len p1 p2 : Nat} {st' : List Value} (c : Prop) [Decidable c] (hd : decode (zb m) pc = .ok (i, len)) (hs : zdo m pc i len al st h = if c then zn p1 al st' h else zn p2 al st' h) : ev d m pc al st h = if c then ev d m p1 al st' h else ev d m p2 al st' h := by
  by_cases hc : c
  · rw [if_pos hc] at hs ⊢
    exact ev_next ((zstep_of hd).trans hs)
  · rw [if_neg hc] at hs ⊢
    exact ev_next ((zstep_of hd).trans hs)
theorem ev_end {i : Instr} {len : Nat} {v : Option Value} (hd : decode (zb m) pc = .ok (i, len)) (hs : zdo m pc i len al st h = some (.inr (.inr v))) : ev d m pc al st h = some (v, h) := ev_ret ((zstep_of hd).trans hs)
theorem ev_go {i : Instr} {len k : Nat} {as rs : List Value} (hd : decode (zb m) pc = .ok (i, len)) (hs : zdo m pc i len al st h = some (.inr (.inl (k, as, rs)))) : ev (d + 1) m pc al st h = (ev d k 0 (zentry k as) [] h).bind fun q => ev (d + 1) m (pc + 3) al (q.1.toList ++ rs) q.2 := ev_call ((zstep_of hd).trans hs)
theorem ev_iconst {n : Int} (v : Int32) (hd : decode (zb m) pc = .ok (.iconst n, 1)) (hv : Int32.ofInt n = v) : ev d m pc al st h = ev d m (pc + 1) al (.int v :: st) h := by
  subst hv
  exact ev_step hd rfl
theorem ev_bipush {n : Int} (v : Int32) (hd : decode (zb m) pc = .ok (.bipush n, 2)) (hv : (Int8.ofInt n).toInt32 = v) : ev d m pc al st h = ev d m (pc + 2) al (.int v :: st) h := by
  subst hv
  exact ev_step hd rfl
theorem ev_sipush {n : Int} (v : Int32) (hd : decode (zb m) pc = .ok (.sipush n, 3)) (hv : (Int16.ofInt n).toInt32 = v) : ev d m pc al st h = ev d m (pc + 3) al (.int v :: st) h := by
  subst hv
  exact ev_step hd rfl
theorem ev_ldc {n : Nat} (v : Int32) (hd : decode (zb m) pc = .ok (.ldc n, 2)) (hv : zcon (zcl m) n = some v) : ev d m pc al st h = ev d m (pc + 2) al (.int v :: st) h := ev_step hd (by simp only [zdo, hv]; rfl)
theorem ev_ldc_w {n : Nat} (v : Int32) (hd : decode (zb m) pc = .ok (.ldc_w n, 3)) (hv : zcon (zcl m) n = some v) : ev d m pc al st h = ev d m (pc + 3) al (.int v :: st) h := ev_step hd (by simp only [zdo, hv]; rfl)
theorem ev_iload_n {k : Fin 4} (hd : decode (zb m) pc = .ok (.iload_n k, 1)) (hl : zld al k = some (.int x)) : ev d m pc al st h = ev d m (pc + 1) al (.int x :: st) h := ev_step hd (by simp only [zdo, zload, hl]; rfl)
theorem ev_aload_n {k : Fin 4} {a : Nat} (hd : decode (zb m) pc = .ok (.aload_n k, 1)) (hl : zld al k = some (.ref a)) : ev d m pc al st h = ev d m (pc + 1) al (.ref a :: st) h := ev_step hd (by simp only [zdo, zloada, hl]; rfl)
theorem ev_sload_n {k : Fin 4} {a : UInt32} (hd : decode (zb m) pc = .ok (.aload_n k, 1)) (hl : zld al k = some (.float a)) : ev d m pc al st h = ev d m (pc + 1) al (.float a :: st) h := ev_step hd (by simp only [zdo, zloada, hl]; rfl)
theorem ev_istore_n {k : Fin 4} (hd : decode (zb m) pc = .ok (.istore_n k, 1)) (hl : zst1 m al k (.int x) = some al') : ev d m pc al (.int x :: st) h = ev d m (pc + 1) al' st h := ev_step hd (by simp only [zdo, zstore, hl]; rfl)
theorem ev_astore_n {k : Fin 4} {a : Nat} (hd : decode (zb m) pc = .ok (.astore_n k, 1)) (hl : zst1 m al k (.ref a) = some al') : ev d m pc al (.ref a :: st) h = ev d m (pc + 1) al' st h := ev_step hd (by simp only [zdo, zstorea, hl]; rfl)
theorem ev_iload {k : Nat} (hd : decode (zb m) pc = .ok (.iload k, 2)) (hl : zld al k = some (.int x)) : ev d m pc al st h = ev d m (pc + 2) al (.int x :: st) h := ev_step hd (by simp only [zdo, zload, hl]; rfl)
theorem ev_aload {k : Nat} {a : Nat} (hd : decode (zb m) pc = .ok (.aload k, 2)) (hl : zld al k = some (.ref a)) : ev d m pc al st h = ev d m (pc + 2) al (.ref a :: st) h := ev_step hd (by simp only [zdo, zloada, hl]; rfl)
theorem ev_sload {k : Nat} {a : UInt32} (hd : decode (zb m) pc = .ok (.aload k, 2)) (hl : zld al k = some (.float a)) : ev d m pc al st h = ev d m (pc + 2) al (.float a :: st) h := ev_step hd (by simp only [zdo, zloada, hl]; rfl)
theorem ev_istore {k : Nat} (hd : decode (zb m) pc = .ok (.istore k, 2)) (hl : zst1 m al k (.int x) = some al') : ev d m pc al (.int x :: st) h = ev d m (pc + 2) al' st h := ev_step hd (by simp only [zdo, zstore, hl]; rfl)
theorem ev_astore {k : Nat} {a : Nat} (hd : decode (zb m) pc = .ok (.astore k, 2)) (hl : zst1 m al k (.ref a) = some al') : ev d m pc al (.ref a :: st) h = ev d m (pc + 2) al' st h := ev_step hd (by simp only [zdo, zstorea, hl]; rfl)
theorem ev_iadd (hd : decode (zb m) pc = .ok (.iadd, 1)) : ev d m pc al (.int y :: .int x :: st) h = ev d m (pc + 1) al (.int (x + y) :: st) h := ev_step hd rfl
theorem ev_isub (hd : decode (zb m) pc = .ok (.isub, 1)) : ev d m pc al (.int y :: .int x :: st) h = ev d m (pc + 1) al (.int (x - y) :: st) h := ev_step hd rfl
theorem ev_imul (hd : decode (zb m) pc = .ok (.imul, 1)) : ev d m pc al (.int y :: .int x :: st) h = ev d m (pc + 1) al (.int (x * y) :: st) h := ev_step hd rfl
theorem ev_iand (hd : decode (zb m) pc = .ok (.iand, 1)) : ev d m pc al (.int y :: .int x :: st) h = ev d m (pc + 1) al (.int (x &&& y) :: st) h := ev_step hd rfl
theorem ev_ior (hd : decode (zb m) pc = .ok (.ior, 1)) : ev d m pc al (.int y :: .int x :: st) h = ev d m (pc + 1) al (.int (x ||| y) :: st) h := ev_step hd rfl
theorem ev_ishl (hd : decode (zb m) pc = .ok (.ishl, 1)) : ev d m pc al (.int y :: .int x :: st) h = ev d m (pc + 1) al (.int (x <<< (y &&& 31)) :: st) h := ev_step hd rfl
theorem ev_ishr (hd : decode (zb m) pc = .ok (.ishr, 1)) : ev d m pc al (.int y :: .int x :: st) h = ev d m (pc + 1) al (.int (x >>> (y &&& 31)) :: st) h := ev_step hd rfl
theorem ev_idiv (hd : decode (zb m) pc = .ok (.idiv, 1)) (hy : ¬ y = 0) : ev d m pc al (.int y :: .int x :: st) h = ev d m (pc + 1) al (.int (x / y) :: st) h := ev_step hd (by simp only [zdo, zarith]; rw [if_neg hy]; rfl)
theorem ev_irem (hd : decode (zb m) pc = .ok (.irem, 1)) (hy : ¬ y = 0) : ev d m pc al (.int y :: .int x :: st) h = ev d m (pc + 1) al (.int (x - x / y * y) :: st) h := ev_step hd (by simp only [zdo, zarith]; rw [if_neg hy]; rfl)
theorem ev_i2c (hd : decode (zb m) pc = .ok (.i2c, 1)) : ev d m pc al (.int x :: st) h = ev d m (pc + 1) al (.int (x.toUInt32 % 65536).toInt32 :: st) h := ev_step hd rfl
theorem ev_i2l (hd : decode (zb m) pc = .ok (.i2l, 1)) : ev d m pc al (.int x :: st) h = ev d m (pc + 1) al (.long x.toInt64 :: st) h := ev_step hd rfl
theorem ev_ladd {a b : Int64} (hd : decode (zb m) pc = .ok (.ladd, 1)) : ev d m pc al (.long b :: .long a :: st) h = ev d m (pc + 1) al (.long (a + b) :: st) h := ev_step hd rfl
theorem ev_lmul {a b : Int64} (hd : decode (zb m) pc = .ok (.lmul, 1)) : ev d m pc al (.long b :: .long a :: st) h = ev d m (pc + 1) al (.long (a * b) :: st) h := ev_step hd rfl
theorem ev_lcmp {a b : Int64} (hd : decode (zb m) pc = .ok (.lcmp, 1)) : ev d m pc al (.long b :: .long a :: st) h = ev d m (pc + 1) al (.int (lg_cmp a b) :: st) h := ev_step hd rfl
theorem ev_ldc2_w {n : Nat} (v : Int64) (hd : decode (zb m) pc = .ok (.ldc2_w n, 3)) (hv : zcoL (zcl m) n = some v) : ev d m pc al st h = ev d m (pc + 3) al (.long v :: st) h := ev_step hd (by simp only [zdo, hv]; rfl)
theorem ev_lload {k : Nat} {a : Int64} (hd : decode (zb m) pc = .ok (.lload k, 2)) (hl : zld al k = some (.long a)) : ev d m pc al st h = ev d m (pc + 2) al (.long a :: st) h := ev_step hd (by simp only [zdo, hl]; rfl)
theorem ev_lload_n {k : Fin 4} {a : Int64} (hd : decode (zb m) pc = .ok (.lload_n k, 1)) (hl : zld al k = some (.long a)) : ev d m pc al st h = ev d m (pc + 1) al (.long a :: st) h := ev_step hd (by simp only [zdo, hl]; rfl)
theorem ev_lstore {k : Nat} {a : Int64} (hd : decode (zb m) pc = .ok (.lstore k, 2)) (hl : zst2 m al k (.long a) = some al') : ev d m pc al (.long a :: st) h = ev d m (pc + 2) al' st h := ev_step hd (by simp only [zdo, hl]; rfl)
theorem ev_lstore_n {k : Fin 4} {a : Int64} (hd : decode (zb m) pc = .ok (.lstore_n k, 1)) (hl : zst2 m al k (.long a) = some al') : ev d m pc al (.long a :: st) h = ev d m (pc + 1) al' st h := ev_step hd (by simp only [zdo, hl]; rfl)
theorem ev_dup {v : Value} (hd : decode (zb m) pc = .ok (.dup, 1)) (hv : v.category = 1) : ev d m pc al (v :: st) h = ev d m (pc + 1) al (v :: v :: st) h := ev_step hd (by simp only [zdo, decide_eq_true hv]; rfl)
theorem ev_dup2 {v w : Value} (hd : decode (zb m) pc = .ok (.dup2, 1)) (hv : v.category = 1) (hw : w.category = 1) : ev d m pc al (v :: w :: st) h = ev d m (pc + 1) al (v :: w :: v :: w :: st) h := ev_step hd (by simp only [zdo, decide_eq_true hv, decide_eq_true hw]; rfl)
theorem ev_pop {v : Value} (hd : decode (zb m) pc = .ok (.pop, 1)) (hv : v.category = 1) : ev d m pc al (v :: st) h = ev d m (pc + 1) al st h := ev_step hd (by simp only [zdo, decide_eq_true hv]; rfl)
theorem ev_iinc {k : Nat} {n : Int} (v : Int32) (hd : decode (zb m) pc = .ok (.iinc k n, 3)) (hv : Int32.ofInt n = v) (hl : zld al k = some (.int x)) (hs : zst1 m al k (.int (x + v)) = some al') : ev d m pc al st h = ev d m (pc + 3) al' st h := by
  subst hv
  exact ev_step hd (by simp only [zdo, hl, hs]; rfl)
theorem ev_goto {off : Int} (t : Nat) (hd : decode (zb m) pc = .ok (.goto off, 3)) (ht : (decide (0 ≤ (pc : Int) + off) && decide (((pc : Int) + off).toNat = t)) = true) : ev d m pc al st h = ev d m t al st h := by
  rw [Bool.and_eq_true, decide_eq_true_eq, decide_eq_true_eq] at ht
  obtain ⟨h1, rfl⟩ := ht
  exact ev_step hd (by simp only [zdo, ztg, if_pos h1]; rfl)
theorem ev_icmp_eq {off : Int} (t : Nat) (hd : decode (zb m) pc = .ok (.if_icmp .eq off, 3)) (ht : (decide (0 ≤ (pc : Int) + off) && decide (((pc : Int) + off).toNat = t)) = true) : ev d m pc al (.int y :: .int x :: st) h = if x = y then ev d m t al st h else ev d m (pc + 3) al st h := by
  rw [Bool.and_eq_true, decide_eq_true_eq, decide_eq_true_eq] at ht
  obtain ⟨h1, rfl⟩ := ht
  by_cases hc : x = y
  · rw [if_pos hc]
    exact ev_step hd (by simp [zdo, zq, h1, zcond, hc])
  · rw [if_neg hc]
    exact ev_step hd (by simp [zdo, zq, h1, zcond, hc])
theorem ev_if_eq {off : Int} (t : Nat) (hd : decode (zb m) pc = .ok (.ifCond .eq off, 3)) (ht : (decide (0 ≤ (pc : Int) + off) && decide (((pc : Int) + off).toNat = t)) = true) : ev d m pc al (.int x :: st) h = if x = 0 then ev d m t al st h else ev d m (pc + 3) al st h := by
  rw [Bool.and_eq_true, decide_eq_true_eq, decide_eq_true_eq] at ht
  obtain ⟨h1, rfl⟩ := ht
  by_cases hc : x = 0
  · rw [if_pos hc]
    exact ev_step hd (by simp [zdo, zq, h1, zcond, hc])
  · rw [if_neg hc]
    exact ev_step hd (by simp [zdo, zq, h1, zcond, hc])
theorem ev_icmp_ne {off : Int} (t : Nat) (hd : decode (zb m) pc = .ok (.if_icmp .ne off, 3)) (ht : (decide (0 ≤ (pc : Int) + off) && decide (((pc : Int) + off).toNat = t)) = true) : ev d m pc al (.int y :: .int x :: st) h = if x = y then ev d m (pc + 3) al st h else ev d m t al st h := by
  rw [Bool.and_eq_true, decide_eq_true_eq, decide_eq_true_eq] at ht
  obtain ⟨h1, rfl⟩ := ht
  by_cases hc : x = y
  · rw [if_pos hc]
    exact ev_step hd (by simp [zdo, zq, h1, zcond, hc])
  · rw [if_neg hc]
    exact ev_step hd (by simp [zdo, zq, h1, zcond, hc])
theorem ev_if_ne {off : Int} (t : Nat) (hd : decode (zb m) pc = .ok (.ifCond .ne off, 3)) (ht : (decide (0 ≤ (pc : Int) + off) && decide (((pc : Int) + off).toNat = t)) = true) : ev d m pc al (.int x :: st) h = if x = 0 then ev d m (pc + 3) al st h else ev d m t al st h := by
  rw [Bool.and_eq_true, decide_eq_true_eq, decide_eq_true_eq] at ht
  obtain ⟨h1, rfl⟩ := ht
  by_cases hc : x = 0
  · rw [if_pos hc]
    exact ev_step hd (by simp [zdo, zq, h1, zcond, hc])
  · rw [if_neg hc]
    exact ev_step hd (by simp [zdo, zq, h1, zcond, hc])
theorem ev_icmp_lt {off : Int} (t : Nat) (hd : decode (zb m) pc = .ok (.if_icmp .lt off, 3)) (ht : (decide (0 ≤ (pc : Int) + off) && decide (((pc : Int) + off).toNat = t)) = true) : ev d m pc al (.int y :: .int x :: st) h = if x < y then ev d m t al st h else ev d m (pc + 3) al st h := by
  rw [Bool.and_eq_true, decide_eq_true_eq, decide_eq_true_eq] at ht
  obtain ⟨h1, rfl⟩ := ht
  by_cases hc : x < y
  · rw [if_pos hc]
    exact ev_step hd (by simp [zdo, zq, h1, zcond, hc])
  · rw [if_neg hc]
    exact ev_step hd (by simp [zdo, zq, h1, zcond, hc])
theorem ev_if_lt {off : Int} (t : Nat) (hd : decode (zb m) pc = .ok (.ifCond .lt off, 3)) (ht : (decide (0 ≤ (pc : Int) + off) && decide (((pc : Int) + off).toNat = t)) = true) : ev d m pc al (.int x :: st) h = if x < 0 then ev d m t al st h else ev d m (pc + 3) al st h := by
  rw [Bool.and_eq_true, decide_eq_true_eq, decide_eq_true_eq] at ht
  obtain ⟨h1, rfl⟩ := ht
  by_cases hc : x < 0
  · rw [if_pos hc]
    exact ev_step hd (by simp [zdo, zq, h1, zcond, hc])
  · rw [if_neg hc]
    exact ev_step hd (by simp [zdo, zq, h1, zcond, hc])
theorem ev_icmp_ge {off : Int} (t : Nat) (hd : decode (zb m) pc = .ok (.if_icmp .ge off, 3)) (ht : (decide (0 ≤ (pc : Int) + off) && decide (((pc : Int) + off).toNat = t)) = true) : ev d m pc al (.int y :: .int x :: st) h = if y ≤ x then ev d m t al st h else ev d m (pc + 3) al st h := by
  rw [Bool.and_eq_true, decide_eq_true_eq, decide_eq_true_eq] at ht
  obtain ⟨h1, rfl⟩ := ht
  by_cases hc : y ≤ x
  · rw [if_pos hc]
    exact ev_step hd (by simp [zdo, zq, h1, zcond, hc])
  · rw [if_neg hc]
    exact ev_step hd (by simp [zdo, zq, h1, zcond, hc])
theorem ev_if_ge {off : Int} (t : Nat) (hd : decode (zb m) pc = .ok (.ifCond .ge off, 3)) (ht : (decide (0 ≤ (pc : Int) + off) && decide (((pc : Int) + off).toNat = t)) = true) : ev d m pc al (.int x :: st) h = if 0 ≤ x then ev d m t al st h else ev d m (pc + 3) al st h := by
  rw [Bool.and_eq_true, decide_eq_true_eq, decide_eq_true_eq] at ht
  obtain ⟨h1, rfl⟩ := ht
  by_cases hc : 0 ≤ x
  · rw [if_pos hc]
    exact ev_step hd (by simp [zdo, zq, h1, zcond, hc])
  · rw [if_neg hc]
    exact ev_step hd (by simp [zdo, zq, h1, zcond, hc])
theorem ev_icmp_gt {off : Int} (t : Nat) (hd : decode (zb m) pc = .ok (.if_icmp .gt off, 3)) (ht : (decide (0 ≤ (pc : Int) + off) && decide (((pc : Int) + off).toNat = t)) = true) : ev d m pc al (.int y :: .int x :: st) h = if y < x then ev d m t al st h else ev d m (pc + 3) al st h := by
  rw [Bool.and_eq_true, decide_eq_true_eq, decide_eq_true_eq] at ht
  obtain ⟨h1, rfl⟩ := ht
  by_cases hc : y < x
  · rw [if_pos hc]
    exact ev_step hd (by simp [zdo, zq, h1, zcond, hc])
  · rw [if_neg hc]
    exact ev_step hd (by simp [zdo, zq, h1, zcond, hc])
theorem ev_if_gt {off : Int} (t : Nat) (hd : decode (zb m) pc = .ok (.ifCond .gt off, 3)) (ht : (decide (0 ≤ (pc : Int) + off) && decide (((pc : Int) + off).toNat = t)) = true) : ev d m pc al (.int x :: st) h = if 0 < x then ev d m t al st h else ev d m (pc + 3) al st h := by
  rw [Bool.and_eq_true, decide_eq_true_eq, decide_eq_true_eq] at ht
  obtain ⟨h1, rfl⟩ := ht
  by_cases hc : 0 < x
  · rw [if_pos hc]
    exact ev_step hd (by simp [zdo, zq, h1, zcond, hc])
  · rw [if_neg hc]
    exact ev_step hd (by simp [zdo, zq, h1, zcond, hc])
theorem ev_icmp_le {off : Int} (t : Nat) (hd : decode (zb m) pc = .ok (.if_icmp .le off, 3)) (ht : (decide (0 ≤ (pc : Int) + off) && decide (((pc : Int) + off).toNat = t)) = true) : ev d m pc al (.int y :: .int x :: st) h = if x ≤ y then ev d m t al st h else ev d m (pc + 3) al st h := by
  rw [Bool.and_eq_true, decide_eq_true_eq, decide_eq_true_eq] at ht
  obtain ⟨h1, rfl⟩ := ht
  by_cases hc : x ≤ y
  · rw [if_pos hc]
    exact ev_step hd (by simp [zdo, zq, h1, zcond, hc])
  · rw [if_neg hc]
    exact ev_step hd (by simp [zdo, zq, h1, zcond, hc])
theorem ev_if_le {off : Int} (t : Nat) (hd : decode (zb m) pc = .ok (.ifCond .le off, 3)) (ht : (decide (0 ≤ (pc : Int) + off) && decide (((pc : Int) + off).toNat = t)) = true) : ev d m pc al (.int x :: st) h = if x ≤ 0 then ev d m t al st h else ev d m (pc + 3) al st h := by
  rw [Bool.and_eq_true, decide_eq_true_eq, decide_eq_true_eq] at ht
  obtain ⟨h1, rfl⟩ := ht
  by_cases hc : x ≤ 0
  · rw [if_pos hc]
    exact ev_step hd (by simp [zdo, zq, h1, zcond, hc])
  · rw [if_neg hc]
    exact ev_step hd (by simp [zdo, zq, h1, zcond, hc])
theorem ev_tableD {dflt lo hi : Int} {offs : Array Int} {len : Nat} (t : Nat) (hd : decode (zb m) pc = .ok (.tableswitch dflt lo hi offs, len)) (hx : x.toInt < lo ∨ hi < x.toInt) (ht : (decide (0 ≤ (pc : Int) + dflt) && decide (((pc : Int) + dflt).toNat = t)) = true) : ev d m pc al (.int x :: st) h = ev d m t al st h := by
  rw [Bool.and_eq_true, decide_eq_true_eq, decide_eq_true_eq] at ht
  obtain ⟨h1, rfl⟩ := ht
  exact ev_step hd (by simp only [zdo, if_pos hx, ztg, if_pos h1])
theorem ev_tableC {dflt lo hi off : Int} {offs : Array Int} {len : Nat} (t : Nat) (hd : decode (zb m) pc = .ok (.tableswitch dflt lo hi offs, len)) (hx : (decide (x.toInt < lo ∨ hi < x.toInt)) = false) (ho : offs[(x.toInt - lo).toNat]? = some off) (ht : (decide (0 ≤ (pc : Int) + off) && decide (((pc : Int) + off).toNat = t)) = true) : ev d m pc al (.int x :: st) h = ev d m t al st h := by
  rw [Bool.and_eq_true, decide_eq_true_eq, decide_eq_true_eq] at ht
  obtain ⟨h1, rfl⟩ := ht
  rw [decide_eq_false_iff_not] at hx
  exact ev_step hd (by simp only [zdo, if_neg hx, ho, Option.bind_some, ztg, if_pos h1])
theorem ev_lookup {dflt off : Int} {ps : Array (Int × Int)} {len : Nat} (t : Nat) (hd : decode (zb m) pc = .ok (.lookupswitch dflt ps, len)) (hp : (ps.toList.zip (ps.toList.drop 1)).all (fun (a, next) => a.1 < next.1) = true) (ho : Op.lookupswitch.offset ps.toList dflt x.toInt = off) (ht : (decide (0 ≤ (pc : Int) + off) && decide (((pc : Int) + off).toNat = t)) = true) : ev d m pc al (.int x :: st) h = ev d m t al st h := by
  rw [Bool.and_eq_true, decide_eq_true_eq, decide_eq_true_eq] at ht
  subst ho
  obtain ⟨h1, rfl⟩ := ht
  exact ev_step hd (by simp only [zdo, hp, zq, ztg, if_pos h1, if_true])
theorem ev_getfield {idx i ci k : Nat} (hd : decode (zb m) pc = .ok (.getfield idx, 3)) (hf : zfld (zcl m) idx = some (ci, k)) : ev d m pc al (.ref i :: st) h = (zgetf h i ci k).bind fun v => ev d m (pc + 3) al (v :: st) h := ev_opt (o := zgetf h i ci k) hd (by simp only [zdo, hf]; rfl)
theorem ev_putfield {idx i ci k : Nat} {v : Value} (hd : decode (zb m) pc = .ok (.putfield idx, 3)) (hf : zfld (zcl m) idx = some (ci, k)) (hv : zpf m ci k v = true) : ev d m pc al (v :: .ref i :: st) h = (zputf h i ci k v).bind fun h1 => ev d m (pc + 3) al st h1 := ev_opt (o := zputf h i ci k v) hd (by simp only [zdo, hf, Option.bind_some, hv]; rfl)
theorem ev_iaload {i : Nat} (hd : decode (zb m) pc = .ok (.iaload, 1)) : ev d m pc al (.int y :: .ref i :: st) h = (zald 0 h i y).bind fun x => ev d m (pc + 1) al (.int x :: st) h := ev_opt (o := zald 0 h i y) hd rfl
theorem ev_saload {i : UInt32} (hd : decode (zb m) pc = .ok (.iaload, 1)) (hy : zin y h.2.2.2.1 = true) : ev d m pc al (.int y :: .float i :: st) h = ev d m (pc + 1) al (.int (h.2.2.2.2 y.toNatClampNeg) :: st) h := ev_step hd (by simp only [zdo, hy]; rfl)
theorem ev_caload {i : Nat} (hd : decode (zb m) pc = .ok (.caload, 1)) : ev d m pc al (.int y :: .ref i :: st) h = (zald 1 h i y).bind fun x => ev d m (pc + 1) al (.int x :: st) h := ev_opt (o := zald 1 h i y) hd rfl
theorem ev_aaload {i : Nat} (hd : decode (zb m) pc = .ok (.aaload, 1)) : ev d m pc al (.int y :: .ref i :: st) h = (zaldq h i y).bind fun x => ev d m (pc + 1) al (.ref x :: st) h := ev_opt (o := zaldq h i y) hd rfl
theorem ev_iastore {i : Nat} (hd : decode (zb m) pc = .ok (.iastore, 1)) : ev d m pc al (.int x :: .int y :: .ref i :: st) h = (zasti h i y x).bind fun h1 => ev d m (pc + 1) al st h1 := ev_opt (o := zasti h i y x) hd rfl
theorem ev_castore {i : Nat} (hd : decode (zb m) pc = .ok (.castore, 1)) : ev d m pc al (.int x :: .int y :: .ref i :: st) h = (zastc h i y x).bind fun h1 => ev d m (pc + 1) al st h1 := ev_opt (o := zastc h i y x) hd rfl
theorem ev_aastore {i a : Nat} (hd : decode (zb m) pc = .ok (.aastore, 1)) : ev d m pc al (.ref a :: .int y :: .ref i :: st) h = (zastq h i y a).bind fun h1 => ev d m (pc + 1) al st h1 := ev_opt (o := zastq h i y a) hd rfl
theorem ev_arraylength {i : Nat} (hd : decode (zb m) pc = .ok (.arraylength, 1)) : ev d m pc al (.ref i :: st) h = (zlen h i).bind fun x => ev d m (pc + 1) al (.int x :: st) h := ev_opt (o := zlen h i) hd rfl
theorem ev_slength {i : UInt32} (hd : decode (zb m) pc = .ok (.arraylength, 1)) : ev d m pc al (.float i :: st) h = ev d m (pc + 1) al (.int (Int32.ofNat h.2.2.2.1) :: st) h := ev_step hd rfl
theorem ev_new {idx : Nat} (ci : Nat) (hd : decode (zb m) pc = .ok (.new idx, 3)) (hn : znew (zcl m) idx = some ci) (hp : (zblank ci).all zplain = true) : ev d m pc al st h = ev d m (pc + 3) al (.ref h.1 :: st) (zpush h (zblank ci).length (.inr (.inr (ci, zblank ci)))) := ev_step hd (by simp only [zdo, hn, Option.bind_some, hp]; rfl)
theorem ev_newi (hd : decode (zb m) pc = .ok (.newarray .int, 2)) (hn : (!decide (x < 0) && decide (x.toNatClampNeg ≤ 1000)) = true) : ev d m pc al (.int x :: st) h = ev d m (pc + 2) al (.ref h.1 :: st) (zpush h x.toNatClampNeg (.inl (0, x.toNatClampNeg, fun _ => 0))) := ev_step hd (by simp only [zdo, hn]; rfl)
theorem ev_newc (hd : decode (zb m) pc = .ok (.newarray .char, 2)) (hn : (!decide (x < 0) && decide (x.toNatClampNeg ≤ 1000)) = true) : ev d m pc al (.int x :: st) h = ev d m (pc + 2) al (.ref h.1 :: st) (zpush h x.toNatClampNeg (.inl (1, x.toNatClampNeg, fun _ => 0))) := ev_step hd (by simp only [zdo, hn]; rfl)
theorem ev_newq {idx : Nat} (hd : decode (zb m) pc = .ok (.anewarray idx, 3)) (hn : (!decide (x < 0) && decide (x.toNatClampNeg ≤ 1000) && zanew (zcl m) idx) = true) : ev d m pc al (.int x :: st) h = ev d m (pc + 3) al (.ref h.1 :: st) (zpush h x.toNatClampNeg (.inr (.inl (x.toNatClampNeg, fun _ => none)))) := ev_step hd (by simp only [zdo, hn]; rfl)
theorem ev_callV {idx k n b : Nat} {st r : List Value} {al0 : List (Option Value)} (hd : decode (zb m) pc = .ok (.invokevirtual idx, 3)) (hc : zcall (zcl m) idx = some (0, k, n)) (h1 : st.drop n = .ref b :: r) (h2 : (decide (n ≤ st.length) && (st.take n).all zarg && zrest r) = true) (h3 : zis h b (zci (zcl k)) = true) (h4 : (decide (n + 1 ≤ zml k) && decide (zcl k ≠ 7) && decide (zcl k < 9)) = true) (h5 : zentry k (.ref b :: (st.take n).reverse) = al0) : ev (d + 1) m pc al st h = (ev d k 0 al0 [] h).bind fun q => ev (d + 1) m (pc + 3) al (q.1.toList ++ r) q.2 := by
  subst h5
  simp only [Bool.and_eq_true] at h2 h4
  exact ev_go hd (by simp only [zdo, hc, zcallV, h1, zq, h2.1.1, h2.1.2, h2.2, h3, h4.1.1, h4.1.2, h4.2, Bool.and_self, if_true, beq_self_eq_true])
theorem ev_callI {idx k n b kind : Nat} {st r : List Value} {al0 : List (Option Value)} (hd : decode (zb m) pc = .ok (.invokespecial idx, 3)) (hc : zcall (zcl m) idx = some (kind, k, n)) (hk : kind = 2 ∨ kind = 4) (h1 : st.drop n = .ref b :: r) (h2 : (decide (n ≤ st.length) && (st.take n).all zarg && zrest r) = true) (h3 : zis h b (zci (zcl k)) = true) (h4 : (decide (n + 1 ≤ zml k) && decide (zcl k ≠ 7) && decide (zcl k < 9)) = true) (h5 : zentry k (.ref b :: (st.take n).reverse) = al0) : ev (d + 1) m pc al st h = (ev d k 0 al0 [] h).bind fun q => ev (d + 1) m (pc + 3) al (q.1.toList ++ r) q.2 := by
  subst h5
  simp only [Bool.and_eq_true] at h2 h4
  rcases hk with rfl | rfl <;> exact ev_go hd (by simp only [zdo, zspecial, hc, zcallV, h1, zq, h2.1.1, h2.1.2, h2.2, h3, h4.1.1, h4.1.2, h4.2, Bool.and_self, if_true, beq_self_eq_true])
theorem ev_callS {idx k n kind : Nat} {st r : List Value} {al0 : List (Option Value)} (hd : decode (zb m) pc = .ok (.invokestatic idx, 3)) (hc : zcall (zcl m) idx = some (kind, k, n)) (hk : kind = 1 ∨ kind = 3) (h1 : st.drop n = r) (h2 : (decide (n ≤ st.length) && (st.take n).all zarg && zrest r && decide (n ≤ zml k)) = true) (h5 : zentry k (st.take n).reverse = al0) : ev (d + 1) m pc al st h = (ev d k 0 al0 [] h).bind fun q => ev (d + 1) m (pc + 3) al (q.1.toList ++ r) q.2 := by
  subst h5
  subst h1
  rcases hk with rfl | rfl <;> exact ev_go hd (by simp only [zdo, zstatic, hc, zcallS, zq, h2, if_true, beq_self_eq_true])
theorem ev_objinit {idx a b q : Nat} (hd : decode (zb m) pc = .ok (.invokespecial idx, 3)) (hc : zcall (zcl m) idx = some (5, b, q)) (hr : zrest st = true) : ev d m pc al (.ref a :: st) h = ev d m (pc + 3) al st h := ev_step hd (by simp only [zdo, zspecial, hc, hr]; rfl)
theorem ev_max {idx b q : Nat} (hd : decode (zb m) pc = .ok (.invokestatic idx, 3)) (hc : zcall (zcl m) idx = some (6, b, q)) (hr : zrest st = true) : ev d m pc al (.int y :: .int x :: st) h = ev d m (pc + 3) al (.int (if x < y then y else x) :: st) h := ev_step hd (by simp only [zdo, zstatic, hc, hr]; rfl)
theorem ev_min {idx b q : Nat} (hd : decode (zb m) pc = .ok (.invokestatic idx, 3)) (hc : zcall (zcl m) idx = some (7, b, q)) (hr : zrest st = true) : ev d m pc al (.int y :: .int x :: st) h = ev d m (pc + 3) al (.int (if y < x then y else x) :: st) h := ev_step hd (by simp only [zdo, zstatic, hc, hr]; rfl)
theorem ev_copy {idx b q i0 i1 : Nat} {sp dp n : Int32} (hd : decode (zb m) pc = .ok (.invokestatic idx, 3)) (hc : zcall (zcl m) idx = some (8, b, q)) (hr : zrest st = true) : ev d m pc al (.int n :: .int dp :: .ref i1 :: .int sp :: .ref i0 :: st) h = (zcopy h i0 sp i1 dp n).bind fun h1 => ev d m (pc + 3) al st h1 := ev_opt (o := zcopy h i0 sp i1 dp n) hd (by simp only [zdo, zstatic, hc, hr]; rfl)
theorem ev_ireturn {ty : FieldType} (hd : decode (zb m) pc = .ok (.ireturn, 1)) (hr : zret m = some ty) (hn : narrow ty (.int x) = .int x) : ev d m pc al [.int x] h = some (some (.int x), h) := ev_end hd (by simp only [zdo, hr, if_pos hn]; rfl)
theorem ev_areturn {a : Nat} {C : String} (hd : decode (zb m) pc = .ok (.areturn, 1)) (hr : zret m = some (.object C)) : ev d m pc al [.ref a] h = some (some (.ref a), h) := ev_end hd (by simp only [zdo, hr]; rfl)
theorem ev_lreturn {a : Int64} (hd : decode (zb m) pc = .ok (.lreturn, 1)) (hr : zret m = some .long) : ev d m pc al [.long a] h = some (some (.long a), h) := ev_end hd (by simp only [zdo, hr]; rfl)
theorem ev_return (hd : decode (zb m) pc = .ok (.return_, 1)) (hr : zret m = none) : ev d m pc al [] h = some (none, h) := ev_end hd (by simp only [zdo, hr]; rfl)
theorem z_nb {x : Int32} (h : x = 0 ∨ x = 1) : narrow .boolean (.int x) = .int x := by rcases h with rfl | rfl <;> rfl
end EV
end
