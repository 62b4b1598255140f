/-! tables of the claim, written by wip/p27/gen/tables.py: methods, calls, fields, classes, constants -/
def WS : List Cond := lw_tbl.filter goodWord
theorem WS_tbl {w : Cond} (h : w ∈ WS) : w ∈ lw_tbl := (List.mem_filter.mp h).1
theorem WS_of {w : Cond} (i : Nat) (h : lw_tbl[i]? = some w) (g : goodWord w = true) : w ∈ WS := List.mem_filter.mpr ⟨List.mem_of_getElem? h, g⟩
/-- a class by number -/
def zK (k : Nat) : String := match k with
  | 0 => RX0
  | 1 => RX1
  | 2 => RX2
  | 3 => RX3
  | 4 => RX4
  | 5 => RX5
  | 6 => RX6
  | 7 => RX7
  | 8 => RX8
  | 9 => RL
  | _ => RL
abbrev zMt : Type := Nat × MethodName × ByteArray × Nat × Option FieldType
/-- the methods: class, name, bytes, locals, answer -/
def zML : List zMt := [
  (0, yX0_init, cX0_init, 2, none),
  (0, yX0_length, cX0_length, 1, (some .int)),
  (0, yX0_keep, cX0_keep, 2, none),
  (0, yX0_dropOldest, cX0_dropOldest, 3, none),
  (0, yX0_takeBack, cX0_takeBack, 2, none),
  (1, yX1_init, cX1_init, 1, none),
  (1, yX1_find, cX1_find, 6, (some .int)),
  (1, yX1_measure, cX1_measure, 5, none),
  (1, yX1_longestIn, cX1_longestIn, 6, (some .int)),
  (1, yX1_firstOfLongest, cX1_firstOfLongest, 6, (some .int)),
  (1, yX1_crateAt, cX1_crateAt, 2, (some .int)),
  (2, yX2_init, cX2_init, 1, none),
  (2, yX2_found, cX2_found, 1, (some (.object "SlatCrates$Stock"))),
  (2, yX2_read, cX2_read, 3, (some .int)),
  (2, yX2_isComplete, cX2_isComplete, 2, (some .boolean)),
  (2, yX2_begin, cX2_begin, 2, none),
  (2, yX2_take, cX2_take, 2, (some .boolean)),
  (2, yX2_takeLetter, cX2_takeLetter, 2, (some .boolean)),
  (2, yX2_weightOf, cX2_weightOf, 3, (some .int)),
  (2, yX2_takeMark, cX2_takeMark, 4, (some .boolean)),
  (2, yX2_takeDigit, cX2_takeDigit, 6, (some .boolean)),
  (2, yX2_setNumber, cX2_setNumber, 1, none),
  (2, yX2_takeOpening, cX2_takeOpening, 2, (some .boolean)),
  (2, yX2_takeBehindNest, cX2_takeBehindNest, 2, (some .boolean)),
  (3, yX3_init, cX3_init, 1, none),
  (3, yX3_write, cX3_write, 3, none),
  (3, yX3_signAt, cX3_signAt, 2, (some .int)),
  (3, yX3_writeNest, cX3_writeNest, 6, none),
  (3, yX3_writeLabel, cX3_writeLabel, 5, none),
  (3, yX3_writeNumber, cX3_writeNumber, 3, none),
  (3, yX3_writeSign, cX3_writeSign, 2, none),
  (4, yX4_init, cX4_init, 1, none),
  (4, yX4_length, cX4_length, 1, (some .int)),
  (4, yX4_add, cX4_add, 2, none),
  (4, yX4_empty, cX4_empty, 1, none),
  (4, yX4_signAt, cX4_signAt, 2, (some .char)),
  (5, yX5_init, cX5_init, 1, none),
  (5, yX5_isCrate, cX5_isCrate, 2, (some .boolean)),
  (5, yX5_crates, cX5_crates, 1, (some .int)),
  (5, yX5_refused, cX5_refused, 1, (some .int)),
  (5, yX5_sizeOf, cX5_sizeOf, 2, (some .int)),
  (5, yX5_roomOf, cX5_roomOf, 2, (some .int)),
  (5, yX5_gapsOf, cX5_gapsOf, 2, (some .int)),
  (5, yX5_holderOf, cX5_holderOf, 2, (some .int)),
  (5, yX5_placeOf, cX5_placeOf, 2, (some .int)),
  (5, yX5_letterAt, cX5_letterAt, 5, (some .int)),
  (5, yX5_lettersOf, cX5_lettersOf, 4, (some .int)),
  (5, yX5_isOnGround, cX5_isOnGround, 2, (some .boolean)),
  (5, yX5_depthOf, cX5_depthOf, 4, (some .int)),
  (5, yX5_isAround, cX5_isAround, 5, (some .boolean)),
  (5, yX5_pileOf, cX5_pileOf, 4, (some .int)),
  (5, yX5_crateInPile, cX5_crateInPile, 4, (some .int)),
  (5, yX5_loadOf, cX5_loadOf, 4, (some .int)),
  (5, yX5_roomLeftIn, cX5_roomLeftIn, 4, (some .int)),
  (5, yX5_above, cX5_above, 2, (some .int)),
  (5, yX5_isLoose, cX5_isLoose, 2, (some .boolean)),
  (5, yX5_reasonNotToPut, cX5_reasonNotToPut, 4, (some .int)),
  (5, yX5_reasonNotToGround, cX5_reasonNotToGround, 2, (some .int)),
  (5, yX5_reasonNotToBreak, cX5_reasonNotToBreak, 2, (some .int)),
  (5, yX5_bestHolderFor, cX5_bestHolderFor, 7, (some .int)),
  (5, yX5_onGround, cX5_onGround, 3, (some .int)),
  (5, yX5_loose, cX5_loose, 3, (some .int)),
  (5, yX5_greatestDepth, cX5_greatestDepth, 3, (some .int)),
  (5, yX5_sizes, cX5_sizes, 3, (some .int)),
  (5, yX5_sizesLying, cX5_sizesLying, 3, (some .int)),
  (5, yX5_rooms, cX5_rooms, 3, (some .int)),
  (5, yX5_letters, cX5_letters, 3, (some .int)),
  (5, yX5_isSound, cX5_isSound, 2, (some .boolean)),
  (5, yX5_add, cX5_add, 6, (some .int)),
  (5, yX5_lift, cX5_lift, 2, none),
  (5, yX5_lay, cX5_lay, 3, none),
  (5, yX5_turnSlats, cX5_turnSlats, 3, none),
  (5, yX5_remove, cX5_remove, 3, none),
  (5, yX5_addAll, cX5_addAll, 5, none),
  (5, yX5_countRefusal, cX5_countRefusal, 1, none),
  (5, yX5_empty, cX5_empty, 1, none),
  (5, yX5_setLabel, cX5_setLabel, 3, none),
  (5, yX5_setSize, cX5_setSize, 3, none),
  (5, yX5_setRoom, cX5_setRoom, 3, none),
  (5, yX5_setGaps, cX5_setGaps, 3, none),
  (5, yX5_copyFrom, cX5_copyFrom, 2, none),
  (6, yX6_init, cX6_init, 1, none),
  (6, yX6_look, cX6_look, 3, none),
  (6, yX6_signsOf, cX6_signsOf, 7, (some .int)),
  (6, yX6_openAround, cX6_openAround, 5, (some .int)),
  (6, yX6_signAt, cX6_signAt, 4, (some .int)),
  (6, yX6_shows, cX6_shows, 4, (some .boolean)),
  (6, yX6_lettersSeenOf, cX6_lettersSeenOf, 4, (some .int)),
  (6, yX6_lettersSeen, cX6_lettersSeen, 3, (some .int)),
  (6, yX6_canTell, cX6_canTell, 3, (some .boolean)),
  (6, yX6_tellable, cX6_tellable, 3, (some .int)),
  (6, yX6_differentRows, cX6_differentRows, 5, (some .int)),
  (7, yX7_effortFromBelow, cX7_effortFromBelow, 5, (some .int)),
  (7, yX7_sumGoingUp, cX7_sumGoingUp, 4, (some .int)),
  (7, yX7_sumOfAll, cX7_sumOfAll, 3, (some .int)),
  (7, yX7_sumGoingDown, cX7_sumGoingDown, 4, (some .int)),
  (7, yX7_sumInPile, cX7_sumInPile, 10, (some .int)),
  (8, yX8_init, cX8_init, 1, none),
  (8, yX8_make, cX8_make, 5, (some .int)),
  (8, yX8_put, cX8_put, 4, (some .int)),
  (8, yX8_ground, cX8_ground, 3, (some .int)),
  (8, yX8_turn, cX8_turn, 2, (some .int)),
  (8, yX8_breakUp, cX8_breakUp, 3, (some .int)),
  (8, yX8_append, cX8_append, 2, (some .int)),
  (8, yX8_clear, cX8_clear, 2, (some .int)),
  (8, yX8_fault, cX8_fault, 1, (some .int)),
  (8, yX8_load, cX8_load, 1, (some .int)),
  (8, yX8_sign, cX8_sign, 3, (some .int)),
  (8, yX8_crate, cX8_crate, 3, (some .int)),
  (8, yX8_letter, cX8_letter, 4, (some .int)),
  (8, yX8_seen, cX8_seen, 3, (some .int)),
  (8, yX8_whyNot, cX8_whyNot, 3, (some .int)),
  (8, yX8_effort, cX8_effort, 3, (some .int)),
  (8, yX8_alike, cX8_alike, 7, (some .int)),
  (8, yX8_nest, cX8_nest, 2, (some .int)),
  (8, yX8_count, cX8_count, 2, (some .int)),
  (8, yX8_ifTurned, cX8_ifTurned, 3, (some .int)),
  (8, yX8_bestTurn, cX8_bestTurn, 5, (some .int)),
  (8, yX8_undo, cX8_undo, 1, (some .int)),
  (8, yX8_save, cX8_save, 1, (some .int)),
  (8, yX8_restore, cX8_restore, 1, (some .int)),
  (8, yX8_refuse, cX8_refuse, 2, (some .int)),
  (8, yX8_viewNow, cX8_viewNow, 1, (some (.object "SlatCrates$View"))),
  (8, yX8_viewTurned, cX8_viewTurned, 2, (some (.object "SlatCrates$View"))),
  (8, yX8_isPlace, cX8_isPlace, 1, (some .boolean)),
  (8, yX8_isWanted, cX8_isWanted, 1, (some .boolean)),
  (8, yX8_isLabel, cX8_isLabel, 3, (some .boolean)),
  (9, yL_lot, cL_lot, 2, (some .int)),
  (9, yL_low, cL_low, 2, (some .int)),
  (9, yL_look, cL_look, 5, (some .long)),
  (9, yL_holds, cL_holds, 14, (some .boolean)),
  (9, yL_open, cL_open, 5, (some .boolean)),
  (9, yL_would, cL_would, 17, (some .boolean)),
  (9, yL_number, cL_number, 3, (some .boolean)),
  (9, yL_types, cL_types, 8, (some .boolean)),
  (9, yL_loads, cL_loads, 13, (some .boolean)),
  (9, yL_deeds, cL_deeds, 13, (some .boolean)),
  (9, yL_acts, cL_acts, 13, (some .boolean)),
  (9, yL_law, cL_law, 13, (some .boolean))]
def zMP : List Nat := [76, 387, 415, 419, 395, 165, 338, 344, 354, 358, 579, 106, 757, 682, 749, 690, 699, 703, 708, 716, 720, 724, 740, 744, 133, 544, 571, 548, 552, 563, 558, 92, 383, 671, 663, 695, 44, 231, 215, 379, 282, 350, 294, 227, 374, 298, 314, 223, 251, 453, 243, 536, 449, 457, 370, 239, 501, 472, 645, 466, 219, 235, 247, 258, 266, 262, 310, 761, 605, 609, 628, 513, 649, 765, 624, 686, 712, 728, 732, 736, 399, 146, 274, 286, 289, 327, 590, 323, 319, 306, 302, 334, 365, 524, 361, 528, 531, 36, 597, 616, 632, 637, 641, 667, 659, 678, 753, 540, 436, 477, 483, 497, 521, 583, 575, 211, 505, 517, 391, 406, 411, 620, 270, 509, 330, 586, 600, 422, 426, 430, 487, 490, 493, 674, 655, 652, 612, 593, 0]
def zlaw : Nat := 138
/-- the places of longs among the locals -/
def zwl : List (Nat × Nat) := [(129, 1), (135, 2), (138, 3), (138, 8)]
/-- a link of a call: class, index, kind (0 virtual, 1 static, 2 constructor, 3 static of a nest mate, 4 constructor of a nest mate, 5 Object(), 6 max, 7 min, 8 arraycopy), the method, its parameters -/
def zCL : List ((Nat × Nat) × (Nat × Nat × Nat)) := [
  ((0, 3), (5, 0, 0)),
  ((0, 21), (4, 36, 0)),
  ((0, 22), (0, 3, 0)),
  ((0, 25), (0, 80, 1)),
  ((1, 3), (5, 0, 0)),
  ((1, 22), (0, 38, 0)),
  ((1, 28), (7, 0, 2)),
  ((1, 34), (0, 7, 2)),
  ((1, 38), (0, 9, 3)),
  ((1, 42), (0, 41, 1)),
  ((1, 46), (0, 40, 1)),
  ((1, 49), (0, 55, 1)),
  ((1, 53), (0, 8, 3)),
  ((2, 3), (5, 0, 0)),
  ((2, 11), (4, 36, 0)),
  ((2, 34), (0, 75, 0)),
  ((2, 37), (0, 15, 1)),
  ((2, 41), (0, 32, 0)),
  ((2, 47), (0, 35, 1)),
  ((2, 51), (0, 16, 1)),
  ((2, 55), (0, 14, 0)),
  ((2, 59), (0, 17, 1)),
  ((2, 62), (0, 19, 3)),
  ((2, 66), (0, 20, 3)),
  ((2, 70), (0, 22, 1)),
  ((2, 73), (0, 23, 1)),
  ((2, 76), (0, 68, 4)),
  ((2, 80), (0, 70, 2)),
  ((2, 84), (1, 18, 1)),
  ((2, 88), (0, 76, 2)),
  ((2, 91), (0, 21, 0)),
  ((2, 94), (0, 77, 2)),
  ((2, 97), (0, 78, 2)),
  ((2, 100), (0, 79, 2)),
  ((2, 103), (0, 43, 1)),
  ((3, 3), (5, 0, 0)),
  ((3, 19), (0, 27, 3)),
  ((3, 23), (0, 28, 2)),
  ((3, 27), (0, 40, 1)),
  ((3, 33), (0, 29, 2)),
  ((3, 37), (0, 41, 1)),
  ((3, 40), (0, 42, 1)),
  ((3, 43), (0, 50, 1)),
  ((3, 46), (0, 30, 1)),
  ((3, 50), (0, 51, 2)),
  ((3, 54), (0, 46, 1)),
  ((3, 57), (0, 45, 2)),
  ((4, 3), (5, 0, 0)),
  ((5, 3), (5, 0, 0)),
  ((5, 37), (0, 37, 1)),
  ((5, 41), (0, 45, 2)),
  ((5, 45), (0, 43, 1)),
  ((5, 49), (0, 49, 2)),
  ((5, 53), (0, 41, 1)),
  ((5, 56), (0, 47, 1)),
  ((5, 59), (0, 50, 1)),
  ((5, 62), (0, 44, 1)),
  ((5, 65), (0, 54, 1)),
  ((5, 68), (0, 53, 1)),
  ((5, 71), (0, 40, 1)),
  ((5, 74), (0, 55, 1)),
  ((5, 77), (0, 48, 1)),
  ((5, 80), (6, 0, 2)),
  ((5, 85), (0, 46, 1)),
  ((5, 88), (0, 69, 1)),
  ((5, 92), (0, 68, 4)),
  ((5, 96), (8, 0, 5)),
  ((6, 3), (5, 0, 0)),
  ((6, 25), (0, 38, 0)),
  ((6, 30), (7, 0, 2)),
  ((6, 36), (0, 40, 1)),
  ((6, 40), (0, 48, 1)),
  ((6, 43), (1, 83, 2)),
  ((6, 47), (1, 84, 2)),
  ((6, 50), (0, 45, 2)),
  ((6, 53), (0, 43, 1)),
  ((6, 56), (0, 42, 1)),
  ((6, 59), (3, 124, 1)),
  ((6, 63), (0, 85, 2)),
  ((6, 66), (0, 87, 1)),
  ((6, 69), (0, 89, 1)),
  ((7, 9), (0, 47, 1)),
  ((7, 15), (0, 54, 1)),
  ((7, 19), (0, 43, 1)),
  ((7, 22), (0, 38, 0)),
  ((7, 26), (0, 40, 1)),
  ((7, 29), (1, 92, 2)),
  ((7, 35), (1, 96, 5)),
  ((7, 39), (0, 50, 1)),
  ((7, 42), (0, 51, 2)),
  ((8, 1), (5, 0, 0)),
  ((8, 9), (4, 36, 0)),
  ((8, 28), (2, 0, 0)),
  ((8, 35), (4, 31, 0)),
  ((8, 42), (4, 11, 0)),
  ((8, 49), (4, 24, 0)),
  ((8, 56), (4, 81, 0)),
  ((8, 63), (4, 5, 0)),
  ((8, 68), (1, 126, 1)),
  ((8, 72), (0, 38, 0)),
  ((8, 76), (0, 2, 1)),
  ((8, 80), (0, 68, 4)),
  ((8, 84), (0, 37, 1)),
  ((8, 87), (0, 56, 2)),
  ((8, 91), (0, 121, 1)),
  ((8, 95), (0, 70, 2)),
  ((8, 99), (0, 48, 1)),
  ((8, 102), (0, 57, 1)),
  ((8, 105), (0, 69, 1)),
  ((8, 109), (0, 71, 1)),
  ((8, 112), (0, 42, 1)),
  ((8, 115), (0, 58, 1)),
  ((8, 118), (0, 72, 1)),
  ((8, 121), (0, 32, 0)),
  ((8, 124), (0, 33, 1)),
  ((8, 126), (0, 34, 0)),
  ((8, 129), (0, 13, 1)),
  ((8, 133), (0, 12, 0)),
  ((8, 137), (0, 67, 0)),
  ((8, 141), (0, 73, 1)),
  ((8, 144), (0, 25, 2)),
  ((8, 148), (0, 26, 1)),
  ((8, 151), (0, 40, 1)),
  ((8, 154), (0, 41, 1)),
  ((8, 157), (0, 46, 1)),
  ((8, 160), (0, 47, 1)),
  ((8, 163), (0, 43, 1)),
  ((8, 166), (0, 50, 1)),
  ((8, 169), (0, 52, 1)),
  ((8, 172), (0, 53, 1)),
  ((8, 175), (0, 44, 1)),
  ((8, 178), (1, 92, 2)),
  ((8, 184), (0, 122, 0)),
  ((8, 188), (0, 89, 1)),
  ((8, 191), (0, 87, 1)),
  ((8, 194), (0, 59, 1)),
  ((8, 197), (1, 124, 1)),
  ((8, 200), (0, 45, 2)),
  ((8, 203), (0, 85, 2)),
  ((8, 205), (1, 93, 2)),
  ((8, 208), (1, 95, 2)),
  ((8, 211), (1, 125, 1)),
  ((8, 214), (0, 86, 3)),
  ((8, 218), (0, 6, 1)),
  ((8, 222), (0, 10, 1)),
  ((8, 225), (0, 60, 0)),
  ((8, 228), (0, 61, 0)),
  ((8, 231), (0, 62, 0)),
  ((8, 234), (0, 63, 0)),
  ((8, 237), (0, 65, 0)),
  ((8, 240), (0, 64, 0)),
  ((8, 243), (0, 90, 0)),
  ((8, 246), (0, 66, 0)),
  ((8, 249), (0, 88, 0)),
  ((8, 252), (0, 91, 0)),
  ((8, 255), (1, 94, 1)),
  ((8, 258), (0, 39, 0)),
  ((8, 261), (0, 1, 0)),
  ((8, 262), (0, 123, 1)),
  ((8, 266), (0, 4, 1)),
  ((8, 269), (0, 80, 1)),
  ((8, 272), (0, 74, 0)),
  ((8, 275), (0, 82, 1)),
  ((9, 13), (0, 115, 1)),
  ((9, 19), (0, 108, 2)),
  ((9, 23), (0, 109, 2)),
  ((9, 26), (0, 110, 2)),
  ((9, 31), (1, 131, 3)),
  ((9, 35), (1, 128, 2)),
  ((9, 38), (0, 111, 2)),
  ((9, 41), (0, 116, 2)),
  ((9, 44), (0, 117, 0)),
  ((9, 48), (0, 112, 2)),
  ((9, 51), (0, 107, 2)),
  ((9, 54), (0, 114, 1)),
  ((9, 57), (0, 113, 4)),
  ((9, 61), (0, 103, 1)),
  ((9, 64), (0, 104, 0)),
  ((9, 67), (1, 133, 3)),
  ((9, 70), (1, 129, 1)),
  ((9, 74), (1, 134, 2)),
  ((9, 78), (0, 105, 0)),
  ((9, 81), (0, 106, 0)),
  ((9, 84), (0, 99, 2)),
  ((9, 87), (0, 100, 1)),
  ((9, 90), (0, 101, 1)),
  ((9, 93), (0, 102, 1)),
  ((9, 96), (0, 98, 4)),
  ((9, 99), (1, 136, 3)),
  ((9, 102), (1, 135, 2)),
  ((9, 105), (2, 97, 0)),
  ((9, 106), (1, 130, 1)),
  ((9, 110), (1, 132, 2)),
  ((9, 113), (0, 118, 0)),
  ((9, 116), (0, 120, 0)),
  ((9, 119), (0, 119, 0)),
  ((9, 122), (1, 127, 2)),
  ((9, 126), (1, 137, 3))]
def zCP : List (List Nat) := [
  [77, 38, 39],
  [1, 43, 22],
  [416, 418, 4, 23],
  [396, 397, 398, 22],
  [166, 38, 39],
  [339, 213, 214, 22],
  [340, 277, 29, 278],
  [341, 343, 1, 28],
  [355, 357, 3, 28],
  [347, 348, 349, 22],
  [345, 280, 281, 22],
  [346, 237, 238, 22],
  [351, 353, 2, 28],
  [107, 38, 39],
  [4, 43, 22],
  [683, 684, 685, 22],
  [687, 689, 11, 25],
  [691, 381, 382, 24],
  [692, 693, 694, 24],
  [696, 698, 12, 25],
  [746, 748, 19, 25],
  [700, 702, 13, 25],
  [713, 715, 14, 25],
  [717, 719, 15, 25],
  [737, 739, 17, 25],
  [741, 743, 18, 25],
  [704, 603, 604, 22],
  [705, 626, 627, 22],
  [706, 707, 25],
  [709, 710, 711, 22],
  [721, 723, 16, 25],
  [725, 726, 727, 22],
  [729, 730, 731, 22],
  [733, 734, 735, 22],
  [745, 225, 226, 22],
  [134, 38, 39],
  [545, 547, 6, 26],
  [549, 551, 7, 26],
  [559, 280, 281, 22],
  [560, 562, 9, 26],
  [564, 348, 349, 22],
  [565, 292, 293, 22],
  [566, 241, 242, 22],
  [555, 557, 8, 26],
  [567, 534, 535, 22],
  [553, 312, 313, 22],
  [554, 296, 297, 22],
  [93, 38, 39],
  [45, 38, 39],
  [228, 229, 230, 22],
  [315, 296, 297, 22],
  [224, 225, 226, 22],
  [450, 451, 452, 22],
  [458, 348, 349, 22],
  [220, 221, 222, 22],
  [240, 241, 242, 22],
  [371, 372, 373, 22],
  [473, 368, 369, 22],
  [467, 455, 456, 22],
  [468, 280, 281, 22],
  [236, 237, 238, 22],
  [248, 249, 250, 22],
  [252, 253, 29, 254],
  [311, 312, 313, 22],
  [606, 607, 608, 22],
  [766, 603, 604, 22],
  [400, 402, 401, 31],
  [147, 38, 39],
  [275, 213, 214, 22],
  [276, 277, 29, 278],
  [279, 280, 281, 22],
  [283, 249, 250, 22],
  [284, 285, 27],
  [287, 288, 27],
  [295, 296, 297, 22],
  [290, 225, 226, 22],
  [291, 292, 293, 22],
  [8, 329, 21],
  [324, 325, 326, 27],
  [320, 321, 322, 27],
  [303, 304, 305, 27],
  [366, 221, 222, 22],
  [367, 368, 369, 22],
  [375, 225, 226, 22],
  [362, 213, 214, 22],
  [525, 280, 281, 22],
  [363, 364, 30],
  [529, 530, 30],
  [532, 241, 242, 22],
  [533, 534, 535, 22],
  [37, 38, 39],
  [0, 43, 22],
  [74, 75, 23],
  [2, 91, 24],
  [3, 105, 25],
  [5, 132, 26],
  [6, 145, 27],
  [7, 164, 28],
  [598, 599, 21],
  [212, 213, 214, 22],
  [412, 413, 414, 23],
  [602, 603, 604, 22],
  [437, 229, 230, 22],
  [498, 499, 500, 22],
  [617, 619, 10, 21],
  [625, 626, 627, 22],
  [444, 249, 250, 22],
  [469, 470, 471, 22],
  [633, 607, 608, 22],
  [510, 511, 512, 22],
  [440, 292, 293, 22],
  [642, 643, 644, 22],
  [646, 647, 648, 22],
  [380, 381, 382, 24],
  [668, 669, 670, 24],
  [660, 661, 662, 24],
  [679, 680, 681, 25],
  [754, 755, 756, 25],
  [758, 759, 760, 22],
  [762, 763, 764, 22],
  [541, 542, 543, 26],
  [568, 569, 570, 26],
  [438, 280, 281, 22],
  [439, 348, 349, 22],
  [441, 312, 313, 22],
  [442, 221, 222, 22],
  [443, 225, 226, 22],
  [445, 241, 242, 22],
  [446, 447, 448, 22],
  [454, 455, 456, 22],
  [459, 372, 373, 22],
  [460, 364, 30],
  [267, 269, 0, 21],
  [461, 304, 305, 27],
  [462, 321, 322, 27],
  [463, 464, 465, 22],
  [478, 329, 21],
  [479, 296, 297, 22],
  [484, 325, 326, 27],
  [522, 523, 30],
  [526, 527, 30],
  [584, 585, 21],
  [587, 588, 589, 27],
  [335, 336, 337, 28],
  [576, 577, 578, 28],
  [216, 217, 218, 22],
  [232, 233, 234, 22],
  [244, 245, 246, 22],
  [255, 256, 257, 22],
  [259, 260, 261, 22],
  [263, 264, 265, 22],
  [299, 300, 301, 27],
  [307, 308, 309, 22],
  [316, 317, 318, 27],
  [331, 332, 333, 27],
  [359, 360, 30],
  [376, 377, 378, 22],
  [384, 385, 386, 23],
  [506, 508, 5, 21],
  [392, 393, 394, 23],
  [407, 397, 398, 22],
  [621, 622, 623, 22],
  [271, 272, 273, 27],
  [208, 209, 210, 21],
  [433, 434, 435, 21],
  [474, 475, 476, 21],
  [480, 481, 482, 21],
  [488, 489, 20],
  [424, 425, 20],
  [494, 495, 496, 21],
  [502, 503, 504, 21],
  [514, 515, 516, 21],
  [518, 519, 520, 21],
  [537, 538, 539, 21],
  [572, 573, 574, 21],
  [580, 581, 582, 21],
  [664, 665, 666, 21],
  [656, 657, 658, 21],
  [672, 673, 20],
  [428, 429, 20],
  [653, 654, 20],
  [675, 676, 677, 21],
  [750, 751, 752, 21],
  [613, 614, 615, 21],
  [629, 630, 631, 21],
  [634, 635, 636, 21],
  [638, 639, 640, 21],
  [594, 595, 596, 21],
  [610, 611, 20],
  [650, 651, 20],
  [34, 35, 21],
  [485, 486, 20],
  [491, 492, 20],
  [388, 389, 390, 21],
  [408, 409, 410, 21],
  [403, 404, 405, 21],
  [420, 421, 20],
  [591, 592, 20]]
def zNWt : List (String × Nat × MethodName × String) := [
  (RX8, 9, yX5_init, RX8),
  (RX0, 21, yX5_init, RX8),
  (RX8, 35, yX4_init, RX8),
  (RX8, 42, yX2_init, RX8),
  (RX2, 11, yX5_init, RX8),
  (RX8, 49, yX3_init, RX8),
  (RX8, 56, yX6_init, RX8),
  (RX8, 63, yX1_init, RX8),
  (RX6, 59, yX8_isPlace, RX8)]
def zNW : List Cond := zNWt.map fun q => .methodLinkNest q.1 q.2.1 q.2.2.1 q.2.2.2
def zFL : List ((Nat × Nat) × (Nat × Nat)) := [
  ((0, 11), (0, 0)),
  ((0, 17), (0, 1)),
  ((1, 9), (1, 0)),
  ((1, 15), (1, 1)),
  ((1, 18), (1, 2)),
  ((2, 12), (2, 0)),
  ((2, 18), (2, 1)),
  ((2, 22), (2, 2)),
  ((2, 25), (2, 3)),
  ((2, 28), (2, 4)),
  ((2, 31), (2, 5)),
  ((3, 11), (3, 0)),
  ((3, 15), (3, 1)),
  ((4, 9), (4, 0)),
  ((4, 15), (4, 1)),
  ((5, 9), (5, 0)),
  ((5, 15), (5, 1)),
  ((5, 18), (5, 2)),
  ((5, 21), (5, 3)),
  ((5, 24), (5, 4)),
  ((5, 27), (5, 5)),
  ((5, 30), (5, 6)),
  ((5, 34), (5, 7)),
  ((6, 9), (6, 0)),
  ((6, 15), (6, 1)),
  ((6, 18), (6, 2)),
  ((6, 21), (6, 3)),
  ((8, 10), (7, 0)),
  ((8, 16), (7, 1)),
  ((8, 19), (7, 2)),
  ((8, 22), (7, 3)),
  ((8, 29), (7, 4)),
  ((8, 36), (7, 5)),
  ((8, 43), (7, 6)),
  ((8, 50), (7, 7)),
  ((8, 57), (7, 8)),
  ((8, 64), (7, 9))]
def zFP : List Nat := [81, 82, 167, 168, 169, 110, 111, 112, 113, 114, 115, 135, 136, 94, 95, 46, 47, 48, 49, 50, 51, 52, 53, 148, 149, 150, 151, 177, 178, 179, 180, 181, 182, 183, 184, 185, 186]
def zNL : List ((Nat × Nat) × Nat) := [
  ((0, 9), 5),
  ((2, 9), 5),
  ((8, 7), 5),
  ((8, 26), 0),
  ((8, 33), 4),
  ((8, 40), 2),
  ((8, 47), 3),
  ((8, 54), 6),
  ((8, 61), 1),
  ((9, 14), 7)]
def zNP : List (List Nat) := [
  [78, 41, 22], [108, 41, 22], [40, 41, 22], [72, 73, 23], [88, 89, 24], [102, 103, 25], [129, 130, 26], [142, 143, 27], [161, 162, 28], [32, 33, 21]]
def zAL : List (Nat × Nat) := [(0, 9)]
def zAP : List Nat := [78]
def zIL : List ((Nat × Nat) × Int32) := [((8, 278), 531440), ((9, 7), -908008083), ((9, 8), 2147483647)]
def zIP : List Nat := [601, 423, 427]
def zJL : List ((Nat × Nat) × Int64) := [((9, 9), 401), ((9, 11), 31)]
def zJP : List Nat := [431, 432]
theorem ws_arr_int : Cond.arrayClass .int ∈ WS := WS_of 71 (by decide +kernel) rfl
theorem ws_arr_char : Cond.arrayClass .char ∈ WS := WS_of 101 (by decide +kernel) rfl
def zw (i : Nat) (w : Cond) : Bool := decide (lw_tbl[i]? = some w) && goodWord w
theorem zw_ws {i : Nat} {w : Cond} (h : zw i w = true) : w ∈ WS := by
  simp only [zw, Bool.and_eq_true, decide_eq_true_eq] at h
  exact WS_of i h.1 h.2
def zy (m : Nat) : MethodName := match zML[m]? with
  | some q => q.2.1
  | none => yL_law
def zb (m : Nat) : ByteArray := match zML[m]? with
  | some q => q.2.2.1
  | none => code
def zml (m : Nat) : Nat := match zML[m]? with
  | some q => q.2.2.2.1
  | none => 0
def zret (m : Nat) : Option FieldType := match zML[m]? with
  | some q => q.2.2.2.2
  | none => none
def zcl (m : Nat) : Nat := match zML[m]? with
  | some q => q.1
  | none => 9
set_option maxRecDepth 20000 in
theorem zcw_0 : Cond.code yX0_init cX0_init 2 none ∈ WS := WS_of 76 rfl rfl
set_option maxRecDepth 20000 in
theorem zcw_1 : Cond.code yX0_length cX0_length 1 (some .int) ∈ WS := WS_of 387 rfl rfl
set_option maxRecDepth 20000 in
theorem zcw_2 : Cond.code yX0_keep cX0_keep 2 none ∈ WS := WS_of 415 rfl rfl
set_option maxRecDepth 20000 in
theorem zcw_3 : Cond.code yX0_dropOldest cX0_dropOldest 3 none ∈ WS := WS_of 419 rfl rfl
set_option maxRecDepth 20000 in
theorem zcw_4 : Cond.code yX0_takeBack cX0_takeBack 2 none ∈ WS := WS_of 395 rfl rfl
set_option maxRecDepth 20000 in
theorem zcw_5 : Cond.code yX1_init cX1_init 1 none ∈ WS := WS_of 165 rfl rfl
set_option maxRecDepth 20000 in
theorem zcw_6 : Cond.code yX1_find cX1_find 6 (some .int) ∈ WS := WS_of 338 rfl rfl
set_option maxRecDepth 20000 in
theorem zcw_7 : Cond.code yX1_measure cX1_measure 5 none ∈ WS := WS_of 344 rfl rfl
set_option maxRecDepth 20000 in
theorem zcw_8 : Cond.code yX1_longestIn cX1_longestIn 6 (some .int) ∈ WS := WS_of 354 rfl rfl
set_option maxRecDepth 20000 in
theorem zcw_9 : Cond.code yX1_firstOfLongest cX1_firstOfLongest 6 (some .int) ∈ WS := WS_of 358 rfl rfl
set_option maxRecDepth 20000 in
theorem zcw_10 : Cond.code yX1_crateAt cX1_crateAt 2 (some .int) ∈ WS := WS_of 579 rfl rfl
set_option maxRecDepth 20000 in
theorem zcw_11 : Cond.code yX2_init cX2_init 1 none ∈ WS := WS_of 106 rfl rfl
set_option maxRecDepth 20000 in
theorem zcw_12 : Cond.code yX2_found cX2_found 1 (some (.object "SlatCrates$Stock")) ∈ WS := WS_of 757 rfl rfl
set_option maxRecDepth 20000 in
theorem zcw_13 : Cond.code yX2_read cX2_read 3 (some .int) ∈ WS := WS_of 682 rfl rfl
set_option maxRecDepth 20000 in
theorem zcw_14 : Cond.code yX2_isComplete cX2_isComplete 2 (some .boolean) ∈ WS := WS_of 749 rfl rfl
set_option maxRecDepth 20000 in
theorem zcw_15 : Cond.code yX2_begin cX2_begin 2 none ∈ WS := WS_of 690 rfl rfl
set_option maxRecDepth 20000 in
theorem zcw_16 : Cond.code yX2_take cX2_take 2 (some .boolean) ∈ WS := WS_of 699 rfl rfl
set_option maxRecDepth 20000 in
theorem zcw_17 : Cond.code yX2_takeLetter cX2_takeLetter 2 (some .boolean) ∈ WS := WS_of 703 rfl rfl
set_option maxRecDepth 20000 in
theorem zcw_18 : Cond.code yX2_weightOf cX2_weightOf 3 (some .int) ∈ WS := WS_of 708 rfl rfl
set_option maxRecDepth 20000 in
theorem zcw_19 : Cond.code yX2_takeMark cX2_takeMark 4 (some .boolean) ∈ WS := WS_of 716 rfl rfl
set_option maxRecDepth 20000 in
theorem zcw_20 : Cond.code yX2_takeDigit cX2_takeDigit 6 (some .boolean) ∈ WS := WS_of 720 rfl rfl
set_option maxRecDepth 20000 in
theorem zcw_21 : Cond.code yX2_setNumber cX2_setNumber 1 none ∈ WS := WS_of 724 rfl rfl
set_option maxRecDepth 20000 in
theorem zcw_22 : Cond.code yX2_takeOpening cX2_takeOpening 2 (some .boolean) ∈ WS := WS_of 740 rfl rfl
set_option maxRecDepth 20000 in
theorem zcw_23 : Cond.code yX2_takeBehindNest cX2_takeBehindNest 2 (some .boolean) ∈ WS := WS_of 744 rfl rfl
set_option maxRecDepth 20000 in
theorem zcw_24 : Cond.code yX3_init cX3_init 1 none ∈ WS := WS_of 133 rfl rfl
set_option maxRecDepth 20000 in
theorem zcw_25 : Cond.code yX3_write cX3_write 3 none ∈ WS := WS_of 544 rfl rfl
set_option maxRecDepth 20000 in
theorem zcw_26 : Cond.code yX3_signAt cX3_signAt 2 (some .int) ∈ WS := WS_of 571 rfl rfl
set_option maxRecDepth 20000 in
theorem zcw_27 : Cond.code yX3_writeNest cX3_writeNest 6 none ∈ WS := WS_of 548 rfl rfl
set_option maxRecDepth 20000 in
theorem zcw_28 : Cond.code yX3_writeLabel cX3_writeLabel 5 none ∈ WS := WS_of 552 rfl rfl
set_option maxRecDepth 20000 in
theorem zcw_29 : Cond.code yX3_writeNumber cX3_writeNumber 3 none ∈ WS := WS_of 563 rfl rfl
set_option maxRecDepth 20000 in
theorem zcw_30 : Cond.code yX3_writeSign cX3_writeSign 2 none ∈ WS := WS_of 558 rfl rfl
set_option maxRecDepth 20000 in
theorem zcw_31 : Cond.code yX4_init cX4_init 1 none ∈ WS := WS_of 92 rfl rfl
set_option maxRecDepth 20000 in
theorem zcw_32 : Cond.code yX4_length cX4_length 1 (some .int) ∈ WS := WS_of 383 rfl rfl
set_option maxRecDepth 20000 in
theorem zcw_33 : Cond.code yX4_add cX4_add 2 none ∈ WS := WS_of 671 rfl rfl
set_option maxRecDepth 20000 in
theorem zcw_34 : Cond.code yX4_empty cX4_empty 1 none ∈ WS := WS_of 663 rfl rfl
set_option maxRecDepth 20000 in
theorem zcw_35 : Cond.code yX4_signAt cX4_signAt 2 (some .char) ∈ WS := WS_of 695 rfl rfl
set_option maxRecDepth 20000 in
theorem zcw_36 : Cond.code yX5_init cX5_init 1 none ∈ WS := WS_of 44 rfl rfl
set_option maxRecDepth 20000 in
theorem zcw_37 : Cond.code yX5_isCrate cX5_isCrate 2 (some .boolean) ∈ WS := WS_of 231 rfl rfl
set_option maxRecDepth 20000 in
theorem zcw_38 : Cond.code yX5_crates cX5_crates 1 (some .int) ∈ WS := WS_of 215 rfl rfl
set_option maxRecDepth 20000 in
theorem zcw_39 : Cond.code yX5_refused cX5_refused 1 (some .int) ∈ WS := WS_of 379 rfl rfl
set_option maxRecDepth 20000 in
theorem zcw_40 : Cond.code yX5_sizeOf cX5_sizeOf 2 (some .int) ∈ WS := WS_of 282 rfl rfl
set_option maxRecDepth 20000 in
theorem zcw_41 : Cond.code yX5_roomOf cX5_roomOf 2 (some .int) ∈ WS := WS_of 350 rfl rfl
set_option maxRecDepth 20000 in
theorem zcw_42 : Cond.code yX5_gapsOf cX5_gapsOf 2 (some .int) ∈ WS := WS_of 294 rfl rfl
set_option maxRecDepth 20000 in
theorem zcw_43 : Cond.code yX5_holderOf cX5_holderOf 2 (some .int) ∈ WS := WS_of 227 rfl rfl
set_option maxRecDepth 20000 in
theorem zcw_44 : Cond.code yX5_placeOf cX5_placeOf 2 (some .int) ∈ WS := WS_of 374 rfl rfl
set_option maxRecDepth 20000 in
theorem zcw_45 : Cond.code yX5_letterAt cX5_letterAt 5 (some .int) ∈ WS := WS_of 298 rfl rfl
set_option maxRecDepth 20000 in
theorem zcw_46 : Cond.code yX5_lettersOf cX5_lettersOf 4 (some .int) ∈ WS := WS_of 314 rfl rfl
set_option maxRecDepth 20000 in
theorem zcw_47 : Cond.code yX5_isOnGround cX5_isOnGround 2 (some .boolean) ∈ WS := WS_of 223 rfl rfl
set_option maxRecDepth 20000 in
theorem zcw_48 : Cond.code yX5_depthOf cX5_depthOf 4 (some .int) ∈ WS := WS_of 251 rfl rfl
set_option maxRecDepth 20000 in
theorem zcw_49 : Cond.code yX5_isAround cX5_isAround 5 (some .boolean) ∈ WS := WS_of 453 rfl rfl
set_option maxRecDepth 20000 in
theorem zcw_50 : Cond.code yX5_pileOf cX5_pileOf 4 (some .int) ∈ WS := WS_of 243 rfl rfl
set_option maxRecDepth 20000 in
theorem zcw_51 : Cond.code yX5_crateInPile cX5_crateInPile 4 (some .int) ∈ WS := WS_of 536 rfl rfl
set_option maxRecDepth 20000 in
theorem zcw_52 : Cond.code yX5_loadOf cX5_loadOf 4 (some .int) ∈ WS := WS_of 449 rfl rfl
set_option maxRecDepth 20000 in
theorem zcw_53 : Cond.code yX5_roomLeftIn cX5_roomLeftIn 4 (some .int) ∈ WS := WS_of 457 rfl rfl
set_option maxRecDepth 20000 in
theorem zcw_54 : Cond.code yX5_above cX5_above 2 (some .int) ∈ WS := WS_of 370 rfl rfl
set_option maxRecDepth 20000 in
theorem zcw_55 : Cond.code yX5_isLoose cX5_isLoose 2 (some .boolean) ∈ WS := WS_of 239 rfl rfl
set_option maxRecDepth 20000 in
theorem zcw_56 : Cond.code yX5_reasonNotToPut cX5_reasonNotToPut 4 (some .int) ∈ WS := WS_of 501 rfl rfl
set_option maxRecDepth 20000 in
theorem zcw_57 : Cond.code yX5_reasonNotToGround cX5_reasonNotToGround 2 (some .int) ∈ WS := WS_of 472 rfl rfl
set_option maxRecDepth 20000 in
theorem zcw_58 : Cond.code yX5_reasonNotToBreak cX5_reasonNotToBreak 2 (some .int) ∈ WS := WS_of 645 rfl rfl
set_option maxRecDepth 20000 in
theorem zcw_59 : Cond.code yX5_bestHolderFor cX5_bestHolderFor 7 (some .int) ∈ WS := WS_of 466 rfl rfl
set_option maxRecDepth 20000 in
theorem zcw_60 : Cond.code yX5_onGround cX5_onGround 3 (some .int) ∈ WS := WS_of 219 rfl rfl
set_option maxRecDepth 20000 in
theorem zcw_61 : Cond.code yX5_loose cX5_loose 3 (some .int) ∈ WS := WS_of 235 rfl rfl
set_option maxRecDepth 20000 in
theorem zcw_62 : Cond.code yX5_greatestDepth cX5_greatestDepth 3 (some .int) ∈ WS := WS_of 247 rfl rfl
set_option maxRecDepth 20000 in
theorem zcw_63 : Cond.code yX5_sizes cX5_sizes 3 (some .int) ∈ WS := WS_of 258 rfl rfl
set_option maxRecDepth 20000 in
theorem zcw_64 : Cond.code yX5_sizesLying cX5_sizesLying 3 (some .int) ∈ WS := WS_of 266 rfl rfl
set_option maxRecDepth 20000 in
theorem zcw_65 : Cond.code yX5_rooms cX5_rooms 3 (some .int) ∈ WS := WS_of 262 rfl rfl
set_option maxRecDepth 20000 in
theorem zcw_66 : Cond.code yX5_letters cX5_letters 3 (some .int) ∈ WS := WS_of 310 rfl rfl
set_option maxRecDepth 20000 in
theorem zcw_67 : Cond.code yX5_isSound cX5_isSound 2 (some .boolean) ∈ WS := WS_of 761 rfl rfl
set_option maxRecDepth 20000 in
theorem zcw_68 : Cond.code yX5_add cX5_add 6 (some .int) ∈ WS := WS_of 605 rfl rfl
set_option maxRecDepth 20000 in
theorem zcw_69 : Cond.code yX5_lift cX5_lift 2 none ∈ WS := WS_of 609 rfl rfl
set_option maxRecDepth 20000 in
theorem zcw_70 : Cond.code yX5_lay cX5_lay 3 none ∈ WS := WS_of 628 rfl rfl
set_option maxRecDepth 20000 in
theorem zcw_71 : Cond.code yX5_turnSlats cX5_turnSlats 3 none ∈ WS := WS_of 513 rfl rfl
set_option maxRecDepth 20000 in
theorem zcw_72 : Cond.code yX5_remove cX5_remove 3 none ∈ WS := WS_of 649 rfl rfl
set_option maxRecDepth 20000 in
theorem zcw_73 : Cond.code yX5_addAll cX5_addAll 5 none ∈ WS := WS_of 765 rfl rfl
set_option maxRecDepth 20000 in
theorem zcw_74 : Cond.code yX5_countRefusal cX5_countRefusal 1 none ∈ WS := WS_of 624 rfl rfl
set_option maxRecDepth 20000 in
theorem zcw_75 : Cond.code yX5_empty cX5_empty 1 none ∈ WS := WS_of 686 rfl rfl
set_option maxRecDepth 20000 in
theorem zcw_76 : Cond.code yX5_setLabel cX5_setLabel 3 none ∈ WS := WS_of 712 rfl rfl
set_option maxRecDepth 20000 in
theorem zcw_77 : Cond.code yX5_setSize cX5_setSize 3 none ∈ WS := WS_of 728 rfl rfl
set_option maxRecDepth 20000 in
theorem zcw_78 : Cond.code yX5_setRoom cX5_setRoom 3 none ∈ WS := WS_of 732 rfl rfl
set_option maxRecDepth 20000 in
theorem zcw_79 : Cond.code yX5_setGaps cX5_setGaps 3 none ∈ WS := WS_of 736 rfl rfl
set_option maxRecDepth 20000 in
theorem zcw_80 : Cond.code yX5_copyFrom cX5_copyFrom 2 none ∈ WS := WS_of 399 rfl rfl
set_option maxRecDepth 20000 in
theorem zcw_81 : Cond.code yX6_init cX6_init 1 none ∈ WS := WS_of 146 rfl rfl
set_option maxRecDepth 20000 in
theorem zcw_82 : Cond.code yX6_look cX6_look 3 none ∈ WS := WS_of 274 rfl rfl
set_option maxRecDepth 20000 in
theorem zcw_83 : Cond.code yX6_signsOf cX6_signsOf 7 (some .int) ∈ WS := WS_of 286 rfl rfl
set_option maxRecDepth 20000 in
theorem zcw_84 : Cond.code yX6_openAround cX6_openAround 5 (some .int) ∈ WS := WS_of 289 rfl rfl
set_option maxRecDepth 20000 in
theorem zcw_85 : Cond.code yX6_signAt cX6_signAt 4 (some .int) ∈ WS := WS_of 327 rfl rfl
set_option maxRecDepth 20000 in
theorem zcw_86 : Cond.code yX6_shows cX6_shows 4 (some .boolean) ∈ WS := WS_of 590 rfl rfl
set_option maxRecDepth 20000 in
theorem zcw_87 : Cond.code yX6_lettersSeenOf cX6_lettersSeenOf 4 (some .int) ∈ WS := WS_of 323 rfl rfl
set_option maxRecDepth 20000 in
theorem zcw_88 : Cond.code yX6_lettersSeen cX6_lettersSeen 3 (some .int) ∈ WS := WS_of 319 rfl rfl
set_option maxRecDepth 20000 in
theorem zcw_89 : Cond.code yX6_canTell cX6_canTell 3 (some .boolean) ∈ WS := WS_of 306 rfl rfl
set_option maxRecDepth 20000 in
theorem zcw_90 : Cond.code yX6_tellable cX6_tellable 3 (some .int) ∈ WS := WS_of 302 rfl rfl
set_option maxRecDepth 20000 in
theorem zcw_91 : Cond.code yX6_differentRows cX6_differentRows 5 (some .int) ∈ WS := WS_of 334 rfl rfl
set_option maxRecDepth 20000 in
theorem zcw_92 : Cond.code yX7_effortFromBelow cX7_effortFromBelow 5 (some .int) ∈ WS := WS_of 365 rfl rfl
set_option maxRecDepth 20000 in
theorem zcw_93 : Cond.code yX7_sumGoingUp cX7_sumGoingUp 4 (some .int) ∈ WS := WS_of 524 rfl rfl
set_option maxRecDepth 20000 in
theorem zcw_94 : Cond.code yX7_sumOfAll cX7_sumOfAll 3 (some .int) ∈ WS := WS_of 361 rfl rfl
set_option maxRecDepth 20000 in
theorem zcw_95 : Cond.code yX7_sumGoingDown cX7_sumGoingDown 4 (some .int) ∈ WS := WS_of 528 rfl rfl
set_option maxRecDepth 20000 in
theorem zcw_96 : Cond.code yX7_sumInPile cX7_sumInPile 10 (some .int) ∈ WS := WS_of 531 rfl rfl
set_option maxRecDepth 20000 in
theorem zcw_97 : Cond.code yX8_init cX8_init 1 none ∈ WS := WS_of 36 rfl rfl
set_option maxRecDepth 20000 in
theorem zcw_98 : Cond.code yX8_make cX8_make 5 (some .int) ∈ WS := WS_of 597 rfl rfl
set_option maxRecDepth 20000 in
theorem zcw_99 : Cond.code yX8_put cX8_put 4 (some .int) ∈ WS := WS_of 616 rfl rfl
set_option maxRecDepth 20000 in
theorem zcw_100 : Cond.code yX8_ground cX8_ground 3 (some .int) ∈ WS := WS_of 632 rfl rfl
set_option maxRecDepth 20000 in
theorem zcw_101 : Cond.code yX8_turn cX8_turn 2 (some .int) ∈ WS := WS_of 637 rfl rfl
set_option maxRecDepth 20000 in
theorem zcw_102 : Cond.code yX8_breakUp cX8_breakUp 3 (some .int) ∈ WS := WS_of 641 rfl rfl
set_option maxRecDepth 20000 in
theorem zcw_103 : Cond.code yX8_append cX8_append 2 (some .int) ∈ WS := WS_of 667 rfl rfl
set_option maxRecDepth 20000 in
theorem zcw_104 : Cond.code yX8_clear cX8_clear 2 (some .int) ∈ WS := WS_of 659 rfl rfl
set_option maxRecDepth 20000 in
theorem zcw_105 : Cond.code yX8_fault cX8_fault 1 (some .int) ∈ WS := WS_of 678 rfl rfl
set_option maxRecDepth 20000 in
theorem zcw_106 : Cond.code yX8_load cX8_load 1 (some .int) ∈ WS := WS_of 753 rfl rfl
set_option maxRecDepth 20000 in
theorem zcw_107 : Cond.code yX8_sign cX8_sign 3 (some .int) ∈ WS := WS_of 540 rfl rfl
set_option maxRecDepth 20000 in
theorem zcw_108 : Cond.code yX8_crate cX8_crate 3 (some .int) ∈ WS := WS_of 436 rfl rfl
set_option maxRecDepth 20000 in
theorem zcw_109 : Cond.code yX8_letter cX8_letter 4 (some .int) ∈ WS := WS_of 477 rfl rfl
set_option maxRecDepth 20000 in
theorem zcw_110 : Cond.code yX8_seen cX8_seen 3 (some .int) ∈ WS := WS_of 483 rfl rfl
set_option maxRecDepth 20000 in
theorem zcw_111 : Cond.code yX8_whyNot cX8_whyNot 3 (some .int) ∈ WS := WS_of 497 rfl rfl
set_option maxRecDepth 20000 in
theorem zcw_112 : Cond.code yX8_effort cX8_effort 3 (some .int) ∈ WS := WS_of 521 rfl rfl
set_option maxRecDepth 20000 in
theorem zcw_113 : Cond.code yX8_alike cX8_alike 7 (some .int) ∈ WS := WS_of 583 rfl rfl
set_option maxRecDepth 20000 in
theorem zcw_114 : Cond.code yX8_nest cX8_nest 2 (some .int) ∈ WS := WS_of 575 rfl rfl
set_option maxRecDepth 20000 in
theorem zcw_115 : Cond.code yX8_count cX8_count 2 (some .int) ∈ WS := WS_of 211 rfl rfl
set_option maxRecDepth 20000 in
theorem zcw_116 : Cond.code yX8_ifTurned cX8_ifTurned 3 (some .int) ∈ WS := WS_of 505 rfl rfl
set_option maxRecDepth 20000 in
theorem zcw_117 : Cond.code yX8_bestTurn cX8_bestTurn 5 (some .int) ∈ WS := WS_of 517 rfl rfl
set_option maxRecDepth 20000 in
theorem zcw_118 : Cond.code yX8_undo cX8_undo 1 (some .int) ∈ WS := WS_of 391 rfl rfl
set_option maxRecDepth 20000 in
theorem zcw_119 : Cond.code yX8_save cX8_save 1 (some .int) ∈ WS := WS_of 406 rfl rfl
set_option maxRecDepth 20000 in
theorem zcw_120 : Cond.code yX8_restore cX8_restore 1 (some .int) ∈ WS := WS_of 411 rfl rfl
set_option maxRecDepth 20000 in
theorem zcw_121 : Cond.code yX8_refuse cX8_refuse 2 (some .int) ∈ WS := WS_of 620 rfl rfl
set_option maxRecDepth 20000 in
theorem zcw_122 : Cond.code yX8_viewNow cX8_viewNow 1 (some (.object "SlatCrates$View")) ∈ WS := WS_of 270 rfl rfl
set_option maxRecDepth 20000 in
theorem zcw_123 : Cond.code yX8_viewTurned cX8_viewTurned 2 (some (.object "SlatCrates$View")) ∈ WS := WS_of 509 rfl rfl
set_option maxRecDepth 20000 in
theorem zcw_124 : Cond.code yX8_isPlace cX8_isPlace 1 (some .boolean) ∈ WS := WS_of 330 rfl rfl
set_option maxRecDepth 20000 in
theorem zcw_125 : Cond.code yX8_isWanted cX8_isWanted 1 (some .boolean) ∈ WS := WS_of 586 rfl rfl
set_option maxRecDepth 20000 in
theorem zcw_126 : Cond.code yX8_isLabel cX8_isLabel 3 (some .boolean) ∈ WS := WS_of 600 rfl rfl
set_option maxRecDepth 20000 in
theorem zcw_127 : Cond.code yL_lot cL_lot 2 (some .int) ∈ WS := WS_of 422 rfl rfl
set_option maxRecDepth 20000 in
theorem zcw_128 : Cond.code yL_low cL_low 2 (some .int) ∈ WS := WS_of 426 rfl rfl
set_option maxRecDepth 20000 in
theorem zcw_129 : Cond.code yL_look cL_look 5 (some .long) ∈ WS := WS_of 430 rfl rfl
set_option maxRecDepth 20000 in
theorem zcw_130 : Cond.code yL_holds cL_holds 14 (some .boolean) ∈ WS := WS_of 487 rfl rfl
set_option maxRecDepth 20000 in
theorem zcw_131 : Cond.code yL_open cL_open 5 (some .boolean) ∈ WS := WS_of 490 rfl rfl
set_option maxRecDepth 20000 in
theorem zcw_132 : Cond.code yL_would cL_would 17 (some .boolean) ∈ WS := WS_of 493 rfl rfl
set_option maxRecDepth 20000 in
theorem zcw_133 : Cond.code yL_number cL_number 3 (some .boolean) ∈ WS := WS_of 674 rfl rfl
set_option maxRecDepth 20000 in
theorem zcw_134 : Cond.code yL_types cL_types 8 (some .boolean) ∈ WS := WS_of 655 rfl rfl
set_option maxRecDepth 20000 in
theorem zcw_135 : Cond.code yL_loads cL_loads 13 (some .boolean) ∈ WS := WS_of 652 rfl rfl
set_option maxRecDepth 20000 in
theorem zcw_136 : Cond.code yL_deeds cL_deeds 13 (some .boolean) ∈ WS := WS_of 612 rfl rfl
set_option maxRecDepth 20000 in
theorem zcw_137 : Cond.code yL_acts cL_acts 13 (some .boolean) ∈ WS := WS_of 593 rfl rfl
theorem zML_ok : ∀ m, m < 138 → Cond.code (zy m) (zb m) (zml m) (zret m) ∈ WS := by
  intro m hm
  match m, hm with
  | 0, _ => exact zcw_0
  | 1, _ => exact zcw_1
  | 2, _ => exact zcw_2
  | 3, _ => exact zcw_3
  | 4, _ => exact zcw_4
  | 5, _ => exact zcw_5
  | 6, _ => exact zcw_6
  | 7, _ => exact zcw_7
  | 8, _ => exact zcw_8
  | 9, _ => exact zcw_9
  | 10, _ => exact zcw_10
  | 11, _ => exact zcw_11
  | 12, _ => exact zcw_12
  | 13, _ => exact zcw_13
  | 14, _ => exact zcw_14
  | 15, _ => exact zcw_15
  | 16, _ => exact zcw_16
  | 17, _ => exact zcw_17
  | 18, _ => exact zcw_18
  | 19, _ => exact zcw_19
  | 20, _ => exact zcw_20
  | 21, _ => exact zcw_21
  | 22, _ => exact zcw_22
  | 23, _ => exact zcw_23
  | 24, _ => exact zcw_24
  | 25, _ => exact zcw_25
  | 26, _ => exact zcw_26
  | 27, _ => exact zcw_27
  | 28, _ => exact zcw_28
  | 29, _ => exact zcw_29
  | 30, _ => exact zcw_30
  | 31, _ => exact zcw_31
  | 32, _ => exact zcw_32
  | 33, _ => exact zcw_33
  | 34, _ => exact zcw_34
  | 35, _ => exact zcw_35
  | 36, _ => exact zcw_36
  | 37, _ => exact zcw_37
  | 38, _ => exact zcw_38
  | 39, _ => exact zcw_39
  | 40, _ => exact zcw_40
  | 41, _ => exact zcw_41
  | 42, _ => exact zcw_42
  | 43, _ => exact zcw_43
  | 44, _ => exact zcw_44
  | 45, _ => exact zcw_45
  | 46, _ => exact zcw_46
  | 47, _ => exact zcw_47
  | 48, _ => exact zcw_48
  | 49, _ => exact zcw_49
  | 50, _ => exact zcw_50
  | 51, _ => exact zcw_51
  | 52, _ => exact zcw_52
  | 53, _ => exact zcw_53
  | 54, _ => exact zcw_54
  | 55, _ => exact zcw_55
  | 56, _ => exact zcw_56
  | 57, _ => exact zcw_57
  | 58, _ => exact zcw_58
  | 59, _ => exact zcw_59
  | 60, _ => exact zcw_60
  | 61, _ => exact zcw_61
  | 62, _ => exact zcw_62
  | 63, _ => exact zcw_63
  | 64, _ => exact zcw_64
  | 65, _ => exact zcw_65
  | 66, _ => exact zcw_66
  | 67, _ => exact zcw_67
  | 68, _ => exact zcw_68
  | 69, _ => exact zcw_69
  | 70, _ => exact zcw_70
  | 71, _ => exact zcw_71
  | 72, _ => exact zcw_72
  | 73, _ => exact zcw_73
  | 74, _ => exact zcw_74
  | 75, _ => exact zcw_75
  | 76, _ => exact zcw_76
  | 77, _ => exact zcw_77
  | 78, _ => exact zcw_78
  | 79, _ => exact zcw_79
  | 80, _ => exact zcw_80
  | 81, _ => exact zcw_81
  | 82, _ => exact zcw_82
  | 83, _ => exact zcw_83
  | 84, _ => exact zcw_84
  | 85, _ => exact zcw_85
  | 86, _ => exact zcw_86
  | 87, _ => exact zcw_87
  | 88, _ => exact zcw_88
  | 89, _ => exact zcw_89
  | 90, _ => exact zcw_90
  | 91, _ => exact zcw_91
  | 92, _ => exact zcw_92
  | 93, _ => exact zcw_93
  | 94, _ => exact zcw_94
  | 95, _ => exact zcw_95
  | 96, _ => exact zcw_96
  | 97, _ => exact zcw_97
  | 98, _ => exact zcw_98
  | 99, _ => exact zcw_99
  | 100, _ => exact zcw_100
  | 101, _ => exact zcw_101
  | 102, _ => exact zcw_102
  | 103, _ => exact zcw_103
  | 104, _ => exact zcw_104
  | 105, _ => exact zcw_105
  | 106, _ => exact zcw_106
  | 107, _ => exact zcw_107
  | 108, _ => exact zcw_108
  | 109, _ => exact zcw_109
  | 110, _ => exact zcw_110
  | 111, _ => exact zcw_111
  | 112, _ => exact zcw_112
  | 113, _ => exact zcw_113
  | 114, _ => exact zcw_114
  | 115, _ => exact zcw_115
  | 116, _ => exact zcw_116
  | 117, _ => exact zcw_117
  | 118, _ => exact zcw_118
  | 119, _ => exact zcw_119
  | 120, _ => exact zcw_120
  | 121, _ => exact zcw_121
  | 122, _ => exact zcw_122
  | 123, _ => exact zcw_123
  | 124, _ => exact zcw_124
  | 125, _ => exact zcw_125
  | 126, _ => exact zcw_126
  | 127, _ => exact zcw_127
  | 128, _ => exact zcw_128
  | 129, _ => exact zcw_129
  | 130, _ => exact zcw_130
  | 131, _ => exact zcw_131
  | 132, _ => exact zcw_132
  | 133, _ => exact zcw_133
  | 134, _ => exact zcw_134
  | 135, _ => exact zcw_135
  | 136, _ => exact zcw_136
  | 137, _ => exact zcw_137
  | m + 138, h => omega
theorem zML_ok2 : ∀ m, m < 138 → (plainName (zy m).cls = true ∧ zK (zcl m) = (zy m).cls ∧ zml m ≤ 40 ∧ ((zy m).cls ≠ "java/lang/invoke/MethodHandle" ∧ (zy m).cls ≠ "java/lang/invoke/VarHandle")) := by
  have h : (List.range 138).all (fun m => decide (plainName (zy m).cls = true ∧ zK (zcl m) = (zy m).cls ∧ zml m ≤ 40 ∧ ((zy m).cls ≠ "java/lang/invoke/MethodHandle" ∧ (zy m).cls ≠ "java/lang/invoke/VarHandle"))) = true := by decide +kernel
  intro m hm
  exact of_decide_eq_true (List.all_eq_true.mp h m (List.mem_range.mpr hm))
def zci0 : Nat := 0
def zcall (k i : Nat) : Option (Nat × Nat × Nat) := zCL.lookup (k, i)
def zfld (k i : Nat) : Option (Nat × Nat) := zFL.lookup (k, i)
def znew (k i : Nat) : Option Nat := zNL.lookup (k, i)
def zanew (k i : Nat) : Bool := zAL.contains (k, i)
def zcon (k i : Nat) : Option Int32 := zIL.lookup (k, i)
def zcoL (k i : Nat) : Option Int64 := zJL.lookup (k, i)
theorem z_lookup {β : Type} {l : List ((Nat × Nat) × β)} {k i : Nat} {v : β} (h : l.lookup (k, i) = some v) : ((k, i), v) ∈ l := by
  induction l with
  | nil => cases h
  | cons a l ih =>
    obtain ⟨a1, a2⟩ := a
    rw [List.lookup_cons] at h
    by_cases q : ((k, i) == a1) = true
    · rw [q] at h
      cases h
      rw [beq_iff_eq.mp q]
      exact List.mem_cons_self
    · rw [Bool.not_eq_true] at q
      rw [q] at h
      exact List.mem_cons_of_mem _ (ih h)
/-- what the tables say of a call -/
def zCk (e : (Nat × Nat) × (Nat × Nat × Nat)) (ps : List Nat) : Bool :=
  let p := fun j => ps.getD j 0
  let own := zK e.1.1
  let y := zy e.2.2.1
  let dn := decide ((parseMethodDescriptor y.desc).map (fun d => d.parameters.length) = some e.2.2.2)
  match e.2.1 with
  | 0 => zw (p 0) (.methodLink own e.1.2 y) && zw (p 1) (.instanceMethod y) && zw (p 2) (.selects y.cls y y) && zw (p 3) (.initialized y.cls) && decide (e.2.2.1 < 138) && dn
  | 1 => zw (p 0) (.methodLink own e.1.2 y) && zw (p 1) (.static y) && zw (p 2) (.initialized y.cls) && decide (e.2.2.1 < 138) && dn
  | 2 => zw (p 0) (.methodLink own e.1.2 y) && zw (p 1) (.instanceMethod y) && zw (p 2) (.initialized y.cls) && decide (y.name = "<init>") && decide (e.2.2.1 < 138) && dn && decide (zret e.2.2.1 = none)
  | 3 => zNW.contains (.methodLinkNest own e.1.2 y RX8) && zw (p 1) (.static y) && zw (p 2) (.initialized y.cls) && decide (e.2.2.1 < 138) && dn
  | 4 => zNW.contains (.methodLinkNest own e.1.2 y RX8) && zw (p 1) (.instanceMethod y) && zw (p 2) (.initialized y.cls) && decide (y.name = "<init>") && decide (e.2.2.1 < 138) && dn && decide (zret e.2.2.1 = none)
  | 5 => zw (p 0) (.methodLink own e.1.2 objectInit) && zw (p 1) (.instanceMethod objectInit) && zw (p 2) (.code objectInit ⟨#[0xb1]⟩ 1 none)
  | 6 => zw (p 0) (.methodLink own e.1.2 Lib.Math.max.name) && zw (p 1) (.static Lib.Math.max.name) && zw (p 2) (.initialized "java/lang/Math") && zw (p 3) (.code Lib.Math.max.name Lib.Math.max.code 2 (some .int))
  | 7 => zw (p 0) (.methodLink own e.1.2 Lib.Math.min.name) && zw (p 1) (.static Lib.Math.min.name) && zw (p 2) (.initialized "java/lang/Math") && zw (p 3) (.code Lib.Math.min.name Lib.Math.min.code 2 (some .int))
  | 8 => zw (p 0) (.methodLink own e.1.2 arraycopyName) && zw (p 1) (.native arraycopyName) && zw (p 2) (.static arraycopyName) && zw (p 3) (.initialized "java/lang/System")
  | _ => false
theorem zCL_all : (zCL.zip zCP).all (fun e => zCk e.1 e.2) = true := by decide +kernel
theorem zCL_len : zCL.length = zCP.length := by decide +kernel
theorem z_zip {α β : Type} : ∀ {l : List α} {r : List β}, l.length = r.length → ∀ {a : α}, a ∈ l → ∃ b, (a, b) ∈ l.zip r
  | [], _, _, _, h => by cases h
  | x :: l, [], hl, _, _ => by simp at hl
  | x :: l, y :: r, hl, a, h => by
    rcases List.mem_cons.mp h with rfl | h
    · exact ⟨y, by simp⟩
    · obtain ⟨b, hb⟩ := z_zip (l := l) (r := r) (by simpa using hl) h
      exact ⟨b, by rw [List.zip_cons_cons]; exact List.mem_cons_of_mem _ hb⟩
theorem zcall_ok {k i : Nat} {v : Nat × Nat × Nat} (h : zcall k i = some v) : ∃ ps, zCk ((k, i), v) ps = true := by
  obtain ⟨b, hb⟩ := z_zip zCL_len (z_lookup h)
  exact ⟨b, List.all_eq_true.mp zCL_all _ hb⟩
abbrev zT (c : Nat) : Option vw_C := vwCl[c]?
def zFk (e : (Nat × Nat) × (Nat × Nat)) (p : Nat) : Bool := match zT e.2.1 with
  | some (C, T, N) => decide (e.2.2 < N) && zw p (.fieldLink (zK e.1.1) e.1.2 C (T e.2.2).2.1 (T e.2.2).2.2.1) && decide ((T e.2.2).1 = C) && decide (C = zK e.1.1)
  | none => false
theorem zFL_all : (zFL.zip zFP).all (fun e => zFk e.1 e.2) = true := by decide +kernel
theorem zFL_len : zFL.length = zFP.length := by decide +kernel
theorem zfld_ok {k i : Nat} {v : Nat × Nat} (h : zfld k i = some v) : ∃ p, zFk ((k, i), v) p = true := by
  obtain ⟨b, hb⟩ := z_zip zFL_len (z_lookup h)
  exact ⟨b, List.all_eq_true.mp zFL_all _ hb⟩
def zNk (e : (Nat × Nat) × Nat) (ps : List Nat) : Bool := match zT e.2 with
  | some (C, _, N) => zw (ps.getD 0 0) (.classLink (zK e.1.1) e.1.2 C) && zw (ps.getD 1 0) (.instantiable C N) && zw (ps.getD 2 0) (.initialized C)
  | none => false
theorem zNL_all : (zNL.zip zNP).all (fun e => zNk e.1 e.2) = true := by decide +kernel
theorem zNL_len : zNL.length = zNP.length := by decide +kernel
theorem znew_ok {k i : Nat} {v : Nat} (h : znew k i = some v) : ∃ p, zNk ((k, i), v) p = true := by
  obtain ⟨b, hb⟩ := z_zip zNL_len (z_lookup h)
  exact ⟨b, List.all_eq_true.mp zNL_all _ hb⟩
theorem zanew_ok {k i : Nat} (h : zanew k i = true) : Cond.classLink (zK k) i RX5 ∈ WS := by
  have hq : (zAL.zip zAP).all (fun e => zw e.2 (.classLink (zK e.1.1) e.1.2 RX5)) = true := by decide +kernel
  have hm : (k, i) ∈ zAL := by simpa [zanew] using h
  obtain ⟨b, hb⟩ := z_zip (l := zAL) (r := zAP) rfl hm
  exact zw_ws (List.all_eq_true.mp hq _ hb)
theorem zcon_ok {k i : Nat} {v : Int32} (h : zcon k i = some v) : Cond.constant (zK k) i v ∈ WS := by
  have hq : (zIL.zip zIP).all (fun e => zw e.2 (.constant (zK e.1.1.1) e.1.1.2 e.1.2)) = true := by decide +kernel
  obtain ⟨b, hb⟩ := z_zip (l := zIL) (r := zIP) rfl (z_lookup h)
  exact zw_ws (List.all_eq_true.mp hq _ hb)
theorem zcoL_ok {k i : Nat} {v : Int64} (h : zcoL k i = some v) : Cond.constantLong (zK k) i v ∈ WS := by
  have hq : (zJL.zip zJP).all (fun e => zw e.2 (.constantLong (zK e.1.1.1) e.1.1.2 e.1.2)) = true := by decide +kernel
  obtain ⟨b, hb⟩ := z_zip (l := zJL) (r := zJP) rfl (z_lookup h)
  exact zw_ws (List.all_eq_true.mp hq _ hb)
def zwd (m i : Nat) : Bool := (Nat.beq m 129 && Nat.beq i 1) || (Nat.beq m 135 && Nat.beq i 2) || (Nat.beq m 138 && Nat.beq i 3) || (Nat.beq m 138 && Nat.beq i 8)
def zwe (m i : Nat) : Bool := match i with
  | 0 => false
  | j + 1 => zwd m j
theorem zwd_mem {m i : Nat} (h : zwd m i = true) : (m, i) ∈ zwl := by
  unfold zwd at h
  simp only [Bool.or_eq_true, Bool.and_eq_true] at h
  rcases h with ((h | h) | h) | h <;> (
    obtain ⟨h1, h2⟩ := h
    have h1 := Nat.eq_of_beq_eq_true h1
    have h2 := Nat.eq_of_beq_eq_true h2
    subst h1
    subst h2
    decide)
theorem zwd_zwe {m i : Nat} (h : zwd m i = true) : zwe m i = false := by
  have hq : zwl.all (fun e => !zwe e.1 e.2) = true := by decide +kernel
  have := List.all_eq_true.mp hq _ (zwd_mem h)
  simpa using this
theorem zar_ok {k i kind q n j : Nat} (h : zcall k i = some (kind, q, n)) (hk : kind < 5) (hj : j ≤ n) : zwe q j = false := by
  have hq : zCL.all (fun e => decide (5 ≤ e.2.1) || (List.range (e.2.2.2 + 1)).all (fun j => !zwe e.2.2.1 j)) = true := by decide +kernel
  have h1 := List.all_eq_true.mp hq _ (z_lookup h)
  rw [Bool.or_eq_true] at h1
  rcases h1 with h1 | h1
  · have := of_decide_eq_true h1
    dsimp only at this
    omega
  · have := List.all_eq_true.mp h1 j (List.mem_range.mpr (by dsimp only; omega))
    simpa using this
/-- the types of the fields -/
def zty (c : Nat) (k : Nat) : FieldType := match c with
  | 0 => tyX0 k
  | 1 => tyX1 k
  | 2 => tyX2 k
  | 3 => tyX3 k
  | 4 => tyX4 k
  | 5 => tyX5 k
  | 6 => tyX6 k
  | 7 => tyX8 k
  | _ => .int
theorem zT_ok {c : Nat} {C : String} {T : u_T} {N : Nat} (h : zT c = some (C, T, N)) : (∀ w ∈ u_ws C T N, w ∈ WS) ∧ (∀ k, k < N → parseFieldDescriptor (T k).2.2.1 = some (zty c k)) ∧ (∀ a, a < N → ∀ b, b < N → a ≠ b → (T a).2.1 ≠ (T b).2.1) := by
  match c, h with
  | 0, h => cases h; exact ⟨fun w hw => List.mem_filter.mpr ⟨inX0 w hw, List.all_eq_true.mp (show (wsX00).all goodWord = true by decide +kernel) w hw⟩, tyX0_ok, nmX0⟩
  | 1, h => cases h; exact ⟨fun w hw => List.mem_filter.mpr ⟨inX1 w hw, List.all_eq_true.mp (show (wsX10).all goodWord = true by decide +kernel) w hw⟩, tyX1_ok, nmX1⟩
  | 2, h => cases h; exact ⟨fun w hw => List.mem_filter.mpr ⟨inX2 w hw, List.all_eq_true.mp (show (wsX20).all goodWord = true by decide +kernel) w hw⟩, tyX2_ok, nmX2⟩
  | 3, h => cases h; exact ⟨fun w hw => List.mem_filter.mpr ⟨inX3 w hw, List.all_eq_true.mp (show (wsX30).all goodWord = true by decide +kernel) w hw⟩, tyX3_ok, nmX3⟩
  | 4, h => cases h; exact ⟨fun w hw => List.mem_filter.mpr ⟨inX4 w hw, List.all_eq_true.mp (show (wsX40).all goodWord = true by decide +kernel) w hw⟩, tyX4_ok, nmX4⟩
  | 5, h => cases h; exact ⟨fun w hw => List.mem_filter.mpr ⟨inX5 w hw, List.all_eq_true.mp (show (wsX50).all goodWord = true by decide +kernel) w hw⟩, tyX5_ok, nmX5⟩
  | 6, h => cases h; exact ⟨fun w hw => List.mem_filter.mpr ⟨inX6 w hw, List.all_eq_true.mp (show (wsX60).all goodWord = true by decide +kernel) w hw⟩, tyX6_ok, nmX6⟩
  | 7, h => cases h; exact ⟨fun w hw => List.mem_filter.mpr ⟨inX8 w hw, List.all_eq_true.mp (show (wsX80).all goodWord = true by decide +kernel) w hw⟩, tyX8_ok, nmX8⟩
  | c + 8, h => simp [zT] at h
/-- a class's number among those with objects -/
def zci (k : Nat) : Nat := if k < 7 then k else k - 1
theorem zci_ok {k : Nat} (h1 : k ≠ 7) (h2 : k < 9) : ∃ T N, zT (zci k) = some (zK k, T, N) := by
  match k, h1, h2 with
  | 0, _, _ => exact ⟨_, _, rfl⟩
  | 1, _, _ => exact ⟨_, _, rfl⟩
  | 2, _, _ => exact ⟨_, _, rfl⟩
  | 3, _, _ => exact ⟨_, _, rfl⟩
  | 4, _, _ => exact ⟨_, _, rfl⟩
  | 5, _, _ => exact ⟨_, _, rfl⟩
  | 6, _, _ => exact ⟨_, _, rfl⟩
  | 8, _, _ => exact ⟨_, _, rfl⟩
  | 7, h, _ => exact absurd rfl h
  | k + 9, _, h => omega
