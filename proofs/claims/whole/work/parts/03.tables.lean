/-! tables of the claim, written by wip/whole/gen/tables.py: methods, calls, fields, classes, constants -/
def WS : List Cond := lw_tbl.filter goodWord
theorem WS_tbl {w : Cond} (h : w ∈ WS) : w ∈ lw_tbl := (List.mem_filter.mp h).1
theorem WS_of {w : Cond} (i : Nat) (h : lw_tbl[i]? = some w) (g : goodWord w = true) : w ∈ WS := List.mem_filter.mpr ⟨List.mem_of_getElem? h, g⟩
/-- a class by number -/
def zK (k : Nat) : String := match k with
  | 0 => RX0
  | 1 => RX1
  | 2 => RX2
  | 3 => RX3
  | 4 => RX4
  | 5 => RX5
  | 6 => RX6
  | 7 => RX7
  | 8 => RX8
  | 9 => RX9
  | 10 => RL
  | _ => RL
abbrev zMt : Type := Nat × MethodName × ByteArray × Nat × Option FieldType
/-- the methods: class, name, bytes, locals, answer -/
def zML : List zMt := [
  (0, yX0_init, cX0_init, 2, none),
  (0, yX0_length, cX0_length, 1, (some .int)),
  (0, yX0_keep, cX0_keep, 2, none),
  (0, yX0_dropOldest, cX0_dropOldest, 3, none),
  (0, yX0_takeBack, cX0_takeBack, 2, none),
  (1, yX1_init, cX1_init, 1, none),
  (1, yX1_find, cX1_find, 6, (some .int)),
  (1, yX1_measure, cX1_measure, 5, none),
  (1, yX1_longestIn, cX1_longestIn, 6, (some .int)),
  (1, yX1_firstOfLongest, cX1_firstOfLongest, 6, (some .int)),
  (1, yX1_crateAt, cX1_crateAt, 2, (some .int)),
  (2, yX2_init, cX2_init, 1, none),
  (2, yX2_found, cX2_found, 1, (some (.object "SlatCrates$Stock"))),
  (2, yX2_read, cX2_read, 3, (some .int)),
  (2, yX2_isComplete, cX2_isComplete, 2, (some .boolean)),
  (2, yX2_begin, cX2_begin, 2, none),
  (2, yX2_take, cX2_take, 2, (some .boolean)),
  (2, yX2_takeLetter, cX2_takeLetter, 2, (some .boolean)),
  (2, yX2_weightOf, cX2_weightOf, 3, (some .int)),
  (2, yX2_takeMark, cX2_takeMark, 4, (some .boolean)),
  (2, yX2_takeDigit, cX2_takeDigit, 6, (some .boolean)),
  (2, yX2_setNumber, cX2_setNumber, 1, none),
  (2, yX2_takeOpening, cX2_takeOpening, 2, (some .boolean)),
  (2, yX2_takeBehindNest, cX2_takeBehindNest, 2, (some .boolean)),
  (3, yX3_init, cX3_init, 1, none),
  (3, yX3_write, cX3_write, 3, none),
  (3, yX3_signAt, cX3_signAt, 2, (some .int)),
  (3, yX3_writeNest, cX3_writeNest, 6, none),
  (3, yX3_writeLabel, cX3_writeLabel, 5, none),
  (3, yX3_writeNumber, cX3_writeNumber, 3, none),
  (3, yX3_writeSign, cX3_writeSign, 2, none),
  (4, yX4_init, cX4_init, 1, none),
  (4, yX4_length, cX4_length, 1, (some .int)),
  (4, yX4_add, cX4_add, 2, none),
  (4, yX4_empty, cX4_empty, 1, none),
  (4, yX4_signAt, cX4_signAt, 2, (some .char)),
  (5, yX5_init, cX5_init, 1, none),
  (5, yX5_isCrate, cX5_isCrate, 2, (some .boolean)),
  (5, yX5_crates, cX5_crates, 1, (some .int)),
  (5, yX5_refused, cX5_refused, 1, (some .int)),
  (5, yX5_sizeOf, cX5_sizeOf, 2, (some .int)),
  (5, yX5_roomOf, cX5_roomOf, 2, (some .int)),
  (5, yX5_gapsOf, cX5_gapsOf, 2, (some .int)),
  (5, yX5_holderOf, cX5_holderOf, 2, (some .int)),
  (5, yX5_placeOf, cX5_placeOf, 2, (some .int)),
  (5, yX5_letterAt, cX5_letterAt, 5, (some .int)),
  (5, yX5_lettersOf, cX5_lettersOf, 4, (some .int)),
  (5, yX5_isOnGround, cX5_isOnGround, 2, (some .boolean)),
  (5, yX5_depthOf, cX5_depthOf, 4, (some .int)),
  (5, yX5_isAround, cX5_isAround, 5, (some .boolean)),
  (5, yX5_pileOf, cX5_pileOf, 4, (some .int)),
  (5, yX5_crateInPile, cX5_crateInPile, 4, (some .int)),
  (5, yX5_loadOf, cX5_loadOf, 4, (some .int)),
  (5, yX5_roomLeftIn, cX5_roomLeftIn, 4, (some .int)),
  (5, yX5_above, cX5_above, 2, (some .int)),
  (5, yX5_isLoose, cX5_isLoose, 2, (some .boolean)),
  (5, yX5_reasonNotToPut, cX5_reasonNotToPut, 4, (some .int)),
  (5, yX5_reasonNotToGround, cX5_reasonNotToGround, 2, (some .int)),
  (5, yX5_reasonNotToBreak, cX5_reasonNotToBreak, 2, (some .int)),
  (5, yX5_bestHolderFor, cX5_bestHolderFor, 7, (some .int)),
  (5, yX5_onGround, cX5_onGround, 3, (some .int)),
  (5, yX5_loose, cX5_loose, 3, (some .int)),
  (5, yX5_greatestDepth, cX5_greatestDepth, 3, (some .int)),
  (5, yX5_sizes, cX5_sizes, 3, (some .int)),
  (5, yX5_sizesLying, cX5_sizesLying, 3, (some .int)),
  (5, yX5_rooms, cX5_rooms, 3, (some .int)),
  (5, yX5_letters, cX5_letters, 3, (some .int)),
  (5, yX5_isSound, cX5_isSound, 2, (some .boolean)),
  (5, yX5_add, cX5_add, 6, (some .int)),
  (5, yX5_lift, cX5_lift, 2, none),
  (5, yX5_lay, cX5_lay, 3, none),
  (5, yX5_turnSlats, cX5_turnSlats, 3, none),
  (5, yX5_remove, cX5_remove, 3, none),
  (5, yX5_addAll, cX5_addAll, 5, none),
  (5, yX5_countRefusal, cX5_countRefusal, 1, none),
  (5, yX5_empty, cX5_empty, 1, none),
  (5, yX5_setLabel, cX5_setLabel, 3, none),
  (5, yX5_setSize, cX5_setSize, 3, none),
  (5, yX5_setRoom, cX5_setRoom, 3, none),
  (5, yX5_setGaps, cX5_setGaps, 3, none),
  (5, yX5_copyFrom, cX5_copyFrom, 2, none),
  (6, yX6_init, cX6_init, 1, none),
  (6, yX6_look, cX6_look, 3, none),
  (6, yX6_signsOf, cX6_signsOf, 7, (some .int)),
  (6, yX6_openAround, cX6_openAround, 5, (some .int)),
  (6, yX6_signAt, cX6_signAt, 4, (some .int)),
  (6, yX6_shows, cX6_shows, 4, (some .boolean)),
  (6, yX6_lettersSeenOf, cX6_lettersSeenOf, 4, (some .int)),
  (6, yX6_lettersSeen, cX6_lettersSeen, 3, (some .int)),
  (6, yX6_canTell, cX6_canTell, 3, (some .boolean)),
  (6, yX6_tellable, cX6_tellable, 3, (some .int)),
  (6, yX6_differentRows, cX6_differentRows, 5, (some .int)),
  (7, yX7_effortFromBelow, cX7_effortFromBelow, 5, (some .int)),
  (7, yX7_sumGoingUp, cX7_sumGoingUp, 4, (some .int)),
  (7, yX7_sumOfAll, cX7_sumOfAll, 3, (some .int)),
  (7, yX7_sumGoingDown, cX7_sumGoingDown, 4, (some .int)),
  (7, yX7_sumInPile, cX7_sumInPile, 10, (some .int)),
  (8, yX8_init, cX8_init, 1, none),
  (8, yX8_make, cX8_make, 5, (some .int)),
  (8, yX8_put, cX8_put, 4, (some .int)),
  (8, yX8_ground, cX8_ground, 3, (some .int)),
  (8, yX8_turn, cX8_turn, 2, (some .int)),
  (8, yX8_breakUp, cX8_breakUp, 3, (some .int)),
  (8, yX8_append, cX8_append, 2, (some .int)),
  (8, yX8_clear, cX8_clear, 2, (some .int)),
  (8, yX8_fault, cX8_fault, 1, (some .int)),
  (8, yX8_load, cX8_load, 1, (some .int)),
  (8, yX8_sign, cX8_sign, 3, (some .int)),
  (8, yX8_crate, cX8_crate, 3, (some .int)),
  (8, yX8_letter, cX8_letter, 4, (some .int)),
  (8, yX8_seen, cX8_seen, 3, (some .int)),
  (8, yX8_whyNot, cX8_whyNot, 3, (some .int)),
  (8, yX8_effort, cX8_effort, 3, (some .int)),
  (8, yX8_alike, cX8_alike, 7, (some .int)),
  (8, yX8_nest, cX8_nest, 2, (some .int)),
  (8, yX8_count, cX8_count, 2, (some .int)),
  (8, yX8_full, cX8_full, 2, (some .double)),
  (8, yX8_ifTurned, cX8_ifTurned, 3, (some .int)),
  (8, yX8_bestTurn, cX8_bestTurn, 5, (some .int)),
  (8, yX8_undo, cX8_undo, 1, (some .int)),
  (8, yX8_save, cX8_save, 1, (some .int)),
  (8, yX8_restore, cX8_restore, 1, (some .int)),
  (8, yX8_refuse, cX8_refuse, 2, (some .int)),
  (8, yX8_viewNow, cX8_viewNow, 1, (some (.object "SlatCrates$View"))),
  (8, yX8_viewTurned, cX8_viewTurned, 2, (some (.object "SlatCrates$View"))),
  (8, yX8_isPlace, cX8_isPlace, 1, (some .boolean)),
  (8, yX8_isWanted, cX8_isWanted, 1, (some .boolean)),
  (8, yX8_isLabel, cX8_isLabel, 3, (some .boolean)),
  (9, yX9_init, cX9_init, 1, none),
  (9, yX9_in, cX9_in, 3, (some .boolean)),
  (9, yX9_copies, cX9_copies, 5, none),
  (9, yX9_records, cX9_records, 2, none),
  (9, yX9_isCrate, cX9_isCrate, 2, (some .boolean)),
  (9, yX9_of, cX9_of, 3, (some .int)),
  (9, yX9_lays, cX9_lays, 4, none),
  (9, yX9_around, cX9_around, 2, (some .int)),
  (9, yX9_pile, cX9_pile, 4, (some .int)),
  (9, yX9_piled, cX9_piled, 5, (some .int)),
  (9, yX9_roomLeft, cX9_roomLeft, 4, (some .int)),
  (9, yX9_depthOf, cX9_depthOf, 4, (some .int)),
  (9, yX9_holds, cX9_holds, 4, (some .boolean)),
  (9, yX9_loadOf, cX9_loadOf, 4, (some .int)),
  (9, yX9_isTop, cX9_isTop, 2, (some .boolean)),
  (9, yX9_letters, cX9_letters, 4, (some .int)),
  (9, yX9_isOpen, cX9_isOpen, 5, (some .boolean)),
  (9, yX9_signBy, cX9_signBy, 5, (some .int)),
  (9, yX9_signOf, cX9_signOf, 3, (some .int)),
  (9, yX9_signsOf, cX9_signsOf, 4, (some .int)),
  (9, yX9_lettersSeen, cX9_lettersSeen, 4, (some .int)),
  (9, yX9_isTold, cX9_isTold, 5, (some .boolean)),
  (9, yX9_effortTo, cX9_effortTo, 4, (some .int)),
  (9, yX9_reasonPut, cX9_reasonPut, 4, (some .int)),
  (9, yX9_reasonGround, cX9_reasonGround, 2, (some .int)),
  (9, yX9_reasonBreak, cX9_reasonBreak, 2, (some .int)),
  (9, yX9_refuses, cX9_refuses, 2, (some .int)),
  (9, yX9_adds, cX9_adds, 7, none),
  (9, yX9_isLabel, cX9_isLabel, 4, (some .boolean)),
  (9, yX9_make, cX9_make, 7, (some .int)),
  (9, yX9_put, cX9_put, 4, (some .int)),
  (9, yX9_ground, cX9_ground, 3, (some .int)),
  (9, yX9_turned, cX9_turned, 1, (some .int)),
  (9, yX9_turn, cX9_turn, 2, (some .int)),
  (9, yX9_breakUp, cX9_breakUp, 4, (some .int)),
  (9, yX9_append, cX9_append, 2, (some .int)),
  (9, yX9_clear, cX9_clear, 2, (some .int)),
  (9, yX9_here, cX9_here, 1, (some .int)),
  (9, yX9_takes, cX9_takes, 2, none),
  (9, yX9_takesNumber, cX9_takesNumber, 5, (some .int)),
  (9, yX9_placeIn, cX9_placeIn, 4, (some .int)),
  (9, yX9_takesCrate, cX9_takesCrate, 5, none),
  (9, yX9_areNests, cX9_areNests, 1, (some .boolean)),
  (9, yX9_fault, cX9_fault, 1, (some .int)),
  (9, yX9_doFit, cX9_doFit, 5, (some .boolean)),
  (9, yX9_load, cX9_load, 5, (some .int)),
  (9, yX9_writes, cX9_writes, 2, none),
  (9, yX9_writesNumber, cX9_writesNumber, 3, none),
  (9, yX9_writesHead, cX9_writesHead, 3, (some .boolean)),
  (9, yX9_writesNest, cX9_writesNest, 5, none),
  (9, yX9_sign, cX9_sign, 3, (some .int)),
  (9, yX9_bestFor, cX9_bestFor, 7, (some .int)),
  (9, yX9_crate, cX9_crate, 3, (some .int)),
  (9, yX9_isPlace, cX9_isPlace, 1, (some .boolean)),
  (9, yX9_letter, cX9_letter, 3, (some .int)),
  (9, yX9_seen, cX9_seen, 3, (some .int)),
  (9, yX9_whyNot, cX9_whyNot, 3, (some .int)),
  (9, yX9_effort, cX9_effort, 5, (some .int)),
  (9, yX9_isAs, cX9_isAs, 4, (some .boolean)),
  (9, yX9_alike, cX9_alike, 7, (some .int)),
  (9, yX9_isLoose, cX9_isLoose, 2, (some .boolean)),
  (9, yX9_laysNests, cX9_laysNests, 5, none),
  (9, yX9_longestNest, cX9_longestNest, 3, (some .int)),
  (9, yX9_nest, cX9_nest, 8, (some .int)),
  (9, yX9_sum, cX9_sum, 4, (some .int)),
  (9, yX9_deepest, cX9_deepest, 3, (some .int)),
  (9, yX9_onGround, cX9_onGround, 4, (some .int)),
  (9, yX9_rowsSeen, cX9_rowsSeen, 5, (some .int)),
  (9, yX9_count, cX9_count, 2, (some .int)),
  (9, yX9_full, cX9_full, 2, (some .double)),
  (9, yX9_ifTurned, cX9_ifTurned, 5, (some .int)),
  (9, yX9_bestTurn, cX9_bestTurn, 5, (some .int)),
  (9, yX9_undo, cX9_undo, 1, (some .int)),
  (9, yX9_save, cX9_save, 1, (some .int)),
  (9, yX9_restore, cX9_restore, 1, (some .int)),
  (10, yL_law, cL_law, 8, (some .boolean))]
def zMP : List Nat := [122, 746, 269, 273, 771, 211, 659, 665, 675, 679, 683, 152, 489, 414, 481, 422, 431, 435, 440, 448, 452, 456, 472, 476, 179, 506, 543, 510, 514, 532, 527, 138, 394, 398, 406, 427, 90, 292, 265, 742, 337, 333, 374, 313, 321, 522, 518, 309, 353, 325, 317, 539, 557, 329, 305, 670, 301, 361, 382, 607, 691, 695, 700, 708, 716, 712, 725, 493, 284, 288, 349, 370, 386, 497, 345, 418, 444, 460, 464, 468, 277, 192, 573, 582, 585, 600, 651, 596, 730, 592, 720, 735, 562, 629, 738, 635, 638, 82, 257, 296, 357, 366, 378, 390, 402, 410, 485, 502, 547, 611, 617, 622, 626, 644, 655, 687, 750, 754, 763, 767, 775, 779, 341, 569, 758, 603, 647, 260, 784, 850, 861, 858, 877, 893, 865, 889, 897, 1008, 905, 913, 901, 1016, 885, 996, 1036, 1040, 1032, 1028, 1044, 1024, 1020, 881, 921, 936, 909, 869, 853, 847, 873, 917, 928, 925, 932, 940, 944, 960, 964, 968, 972, 956, 952, 948, 980, 976, 1000, 1004, 992, 988, 984, 1048, 1012, 1055, 1052, 1059, 1063, 1067, 1075, 1071, 1091, 1087, 1083, 1079, 1107, 1103, 1099, 1112, 1095, 1116, 1120, 1124, 1129, 1133, 1137, 0]
def zlaw : Nat := 203
/-- a link of a call: class, index, kind (0 virtual, 1 static, 2 constructor, 3 static of a nest mate, 4 constructor of a nest mate, 5 Object(), 6 max, 7 min, 8 arraycopy), the method, its parameters -/
def zCL : List ((Nat × Nat) × (Nat × Nat × Nat)) := [
  ((0, 3), (5, 0, 0)),
  ((0, 21), (4, 36, 0)),
  ((0, 22), (0, 3, 0)),
  ((0, 25), (0, 80, 1)),
  ((1, 3), (5, 0, 0)),
  ((1, 22), (0, 38, 0)),
  ((1, 28), (7, 0, 2)),
  ((1, 34), (0, 7, 2)),
  ((1, 38), (0, 9, 3)),
  ((1, 42), (0, 41, 1)),
  ((1, 46), (0, 40, 1)),
  ((1, 49), (0, 55, 1)),
  ((1, 53), (0, 8, 3)),
  ((2, 3), (5, 0, 0)),
  ((2, 11), (4, 36, 0)),
  ((2, 34), (0, 75, 0)),
  ((2, 37), (0, 15, 1)),
  ((2, 41), (0, 32, 0)),
  ((2, 47), (0, 35, 1)),
  ((2, 51), (0, 16, 1)),
  ((2, 55), (0, 14, 0)),
  ((2, 59), (0, 17, 1)),
  ((2, 62), (0, 19, 3)),
  ((2, 66), (0, 20, 3)),
  ((2, 70), (0, 22, 1)),
  ((2, 73), (0, 23, 1)),
  ((2, 76), (0, 68, 4)),
  ((2, 80), (0, 70, 2)),
  ((2, 84), (1, 18, 1)),
  ((2, 88), (0, 76, 2)),
  ((2, 91), (0, 21, 0)),
  ((2, 94), (0, 77, 2)),
  ((2, 97), (0, 78, 2)),
  ((2, 100), (0, 79, 2)),
  ((2, 103), (0, 43, 1)),
  ((3, 3), (5, 0, 0)),
  ((3, 19), (0, 27, 3)),
  ((3, 23), (0, 28, 2)),
  ((3, 27), (0, 40, 1)),
  ((3, 33), (0, 29, 2)),
  ((3, 37), (0, 41, 1)),
  ((3, 40), (0, 42, 1)),
  ((3, 43), (0, 50, 1)),
  ((3, 46), (0, 30, 1)),
  ((3, 50), (0, 51, 2)),
  ((3, 54), (0, 46, 1)),
  ((3, 57), (0, 45, 2)),
  ((4, 3), (5, 0, 0)),
  ((5, 3), (5, 0, 0)),
  ((5, 37), (0, 37, 1)),
  ((5, 41), (0, 45, 2)),
  ((5, 45), (0, 43, 1)),
  ((5, 49), (0, 49, 2)),
  ((5, 53), (0, 41, 1)),
  ((5, 56), (0, 47, 1)),
  ((5, 59), (0, 50, 1)),
  ((5, 62), (0, 44, 1)),
  ((5, 65), (0, 54, 1)),
  ((5, 68), (0, 53, 1)),
  ((5, 71), (0, 40, 1)),
  ((5, 74), (0, 55, 1)),
  ((5, 77), (0, 48, 1)),
  ((5, 80), (6, 0, 2)),
  ((5, 85), (0, 46, 1)),
  ((5, 88), (0, 69, 1)),
  ((5, 92), (0, 68, 4)),
  ((5, 96), (8, 0, 5)),
  ((6, 3), (5, 0, 0)),
  ((6, 25), (0, 38, 0)),
  ((6, 30), (7, 0, 2)),
  ((6, 36), (0, 40, 1)),
  ((6, 40), (0, 48, 1)),
  ((6, 43), (1, 83, 2)),
  ((6, 47), (1, 84, 2)),
  ((6, 50), (0, 45, 2)),
  ((6, 53), (0, 43, 1)),
  ((6, 56), (0, 42, 1)),
  ((6, 59), (3, 125, 1)),
  ((6, 63), (0, 85, 2)),
  ((6, 66), (0, 87, 1)),
  ((6, 69), (0, 89, 1)),
  ((7, 9), (0, 47, 1)),
  ((7, 15), (0, 54, 1)),
  ((7, 19), (0, 43, 1)),
  ((7, 22), (0, 38, 0)),
  ((7, 26), (0, 40, 1)),
  ((7, 29), (1, 92, 2)),
  ((7, 35), (1, 96, 5)),
  ((7, 39), (0, 50, 1)),
  ((7, 42), (0, 51, 2)),
  ((8, 1), (5, 0, 0)),
  ((8, 9), (4, 36, 0)),
  ((8, 28), (2, 0, 0)),
  ((8, 35), (4, 31, 0)),
  ((8, 42), (4, 11, 0)),
  ((8, 49), (4, 24, 0)),
  ((8, 56), (4, 81, 0)),
  ((8, 63), (4, 5, 0)),
  ((8, 68), (1, 127, 1)),
  ((8, 72), (0, 38, 0)),
  ((8, 76), (0, 2, 1)),
  ((8, 80), (0, 68, 4)),
  ((8, 84), (0, 37, 1)),
  ((8, 87), (0, 56, 2)),
  ((8, 91), (0, 122, 1)),
  ((8, 95), (0, 70, 2)),
  ((8, 99), (0, 48, 1)),
  ((8, 102), (0, 57, 1)),
  ((8, 105), (0, 69, 1)),
  ((8, 109), (0, 71, 1)),
  ((8, 112), (0, 42, 1)),
  ((8, 115), (0, 58, 1)),
  ((8, 118), (0, 72, 1)),
  ((8, 121), (0, 32, 0)),
  ((8, 124), (0, 33, 1)),
  ((8, 126), (0, 34, 0)),
  ((8, 129), (0, 13, 1)),
  ((8, 133), (0, 12, 0)),
  ((8, 137), (0, 67, 0)),
  ((8, 141), (0, 73, 1)),
  ((8, 144), (0, 25, 2)),
  ((8, 148), (0, 26, 1)),
  ((8, 151), (0, 40, 1)),
  ((8, 154), (0, 41, 1)),
  ((8, 157), (0, 46, 1)),
  ((8, 160), (0, 47, 1)),
  ((8, 163), (0, 43, 1)),
  ((8, 166), (0, 50, 1)),
  ((8, 169), (0, 52, 1)),
  ((8, 172), (0, 53, 1)),
  ((8, 175), (0, 44, 1)),
  ((8, 178), (1, 92, 2)),
  ((8, 184), (0, 123, 0)),
  ((8, 188), (0, 89, 1)),
  ((8, 191), (0, 87, 1)),
  ((8, 194), (0, 59, 1)),
  ((8, 197), (1, 125, 1)),
  ((8, 200), (0, 45, 2)),
  ((8, 203), (0, 85, 2)),
  ((8, 205), (1, 93, 2)),
  ((8, 208), (1, 95, 2)),
  ((8, 211), (1, 126, 1)),
  ((8, 214), (0, 86, 3)),
  ((8, 218), (0, 6, 1)),
  ((8, 222), (0, 10, 1)),
  ((8, 225), (0, 60, 0)),
  ((8, 228), (0, 61, 0)),
  ((8, 231), (0, 62, 0)),
  ((8, 234), (0, 63, 0)),
  ((8, 237), (0, 65, 0)),
  ((8, 240), (0, 64, 0)),
  ((8, 243), (0, 90, 0)),
  ((8, 246), (0, 66, 0)),
  ((8, 249), (0, 88, 0)),
  ((8, 252), (0, 91, 0)),
  ((8, 255), (1, 94, 1)),
  ((8, 258), (0, 39, 0)),
  ((8, 261), (0, 1, 0)),
  ((8, 262), (0, 124, 1)),
  ((8, 266), (0, 4, 1)),
  ((8, 269), (0, 80, 1)),
  ((8, 272), (0, 74, 0)),
  ((8, 275), (0, 82, 1)),
  ((9, 1), (5, 0, 0)),
  ((9, 47), (1, 130, 4)),
  ((9, 51), (1, 129, 3)),
  ((9, 55), (0, 133, 2)),
  ((9, 59), (0, 135, 1)),
  ((9, 63), (0, 140, 2)),
  ((9, 67), (0, 136, 1)),
  ((9, 70), (0, 144, 2)),
  ((9, 73), (0, 145, 3)),
  ((9, 77), (0, 146, 2)),
  ((9, 80), (0, 139, 1)),
  ((9, 83), (0, 147, 1)),
  ((9, 86), (0, 142, 1)),
  ((9, 90), (0, 138, 1)),
  ((9, 93), (0, 134, 3)),
  ((9, 98), (1, 156, 1)),
  ((9, 101), (0, 131, 0)),
  ((9, 104), (0, 155, 5)),
  ((9, 108), (0, 132, 1)),
  ((9, 111), (0, 151, 2)),
  ((9, 114), (0, 154, 1)),
  ((9, 117), (0, 152, 1)),
  ((9, 120), (1, 160, 1)),
  ((9, 123), (0, 153, 1)),
  ((9, 136), (0, 165, 0)),
  ((9, 140), (0, 166, 1)),
  ((9, 150), (0, 167, 3)),
  ((9, 154), (0, 168, 1)),
  ((9, 157), (0, 169, 0)),
  ((9, 160), (0, 170, 0)),
  ((9, 164), (0, 172, 0)),
  ((9, 170), (0, 174, 1)),
  ((9, 174), (0, 143, 1)),
  ((9, 177), (0, 175, 2)),
  ((9, 181), (0, 176, 1)),
  ((9, 184), (0, 137, 2)),
  ((9, 187), (0, 177, 1)),
  ((9, 190), (0, 141, 1)),
  ((9, 193), (0, 150, 1)),
  ((9, 196), (0, 149, 1)),
  ((9, 199), (0, 148, 1)),
  ((9, 202), (0, 179, 1)),
  ((9, 205), (1, 181, 1)),
  ((9, 208), (0, 186, 3)),
  ((9, 211), (0, 188, 1)),
  ((9, 214), (0, 189, 0)),
  ((9, 217), (0, 190, 0)),
  ((9, 220), (0, 180, 2)),
  ((9, 223), (0, 194, 1)),
  ((9, 227), (0, 193, 0)),
  ((9, 230), (0, 192, 1)),
  ((9, 233), (0, 195, 0)),
  ((9, 236), (0, 198, 2)),
  ((10, 9), (2, 97, 0)),
  ((10, 12), (2, 128, 0)),
  ((10, 13), (0, 98, 4)),
  ((10, 17), (0, 157, 4)),
  ((10, 18), (0, 99, 2)),
  ((10, 22), (0, 158, 2)),
  ((10, 23), (0, 100, 1)),
  ((10, 27), (0, 159, 1)),
  ((10, 28), (0, 101, 1)),
  ((10, 31), (0, 161, 1)),
  ((10, 32), (0, 102, 1)),
  ((10, 35), (0, 162, 1)),
  ((10, 36), (0, 103, 1)),
  ((10, 39), (0, 163, 1)),
  ((10, 40), (0, 104, 0)),
  ((10, 44), (0, 164, 0)),
  ((10, 45), (0, 105, 0)),
  ((10, 48), (0, 171, 0)),
  ((10, 49), (0, 106, 0)),
  ((10, 52), (0, 173, 0)),
  ((10, 53), (0, 107, 2)),
  ((10, 56), (0, 178, 2)),
  ((10, 57), (0, 108, 2)),
  ((10, 60), (0, 180, 2)),
  ((10, 61), (0, 109, 2)),
  ((10, 64), (0, 182, 2)),
  ((10, 65), (0, 110, 2)),
  ((10, 68), (0, 183, 2)),
  ((10, 69), (0, 111, 2)),
  ((10, 72), (0, 184, 2)),
  ((10, 73), (0, 112, 2)),
  ((10, 76), (0, 185, 2)),
  ((10, 77), (0, 113, 4)),
  ((10, 80), (0, 187, 4)),
  ((10, 81), (0, 114, 1)),
  ((10, 84), (0, 191, 1)),
  ((10, 85), (0, 115, 1)),
  ((10, 88), (0, 196, 1)),
  ((10, 89), (0, 116, 0)),
  ((10, 93), (0, 197, 0)),
  ((10, 94), (0, 117, 2)),
  ((10, 97), (0, 198, 2)),
  ((10, 98), (0, 118, 0)),
  ((10, 101), (0, 199, 0)),
  ((10, 102), (0, 119, 0)),
  ((10, 105), (0, 200, 0)),
  ((10, 106), (0, 120, 0)),
  ((10, 109), (0, 201, 0)),
  ((10, 110), (0, 121, 0)),
  ((10, 113), (0, 202, 0))]
def zCP : List (List Nat) := [
  [123, 84, 85],
  [1, 89, 67],
  [270, 272, 0, 68],
  [274, 275, 276, 67],
  [212, 84, 85],
  [660, 263, 264, 67],
  [661, 576, 77, 577],
  [662, 664, 16, 73],
  [676, 678, 18, 73],
  [671, 331, 332, 67],
  [666, 335, 336, 67],
  [667, 668, 669, 67],
  [672, 674, 17, 73],
  [153, 84, 85],
  [4, 89, 67],
  [415, 416, 417, 67],
  [419, 421, 2, 70],
  [423, 392, 393, 69],
  [424, 425, 426, 69],
  [428, 430, 3, 70],
  [478, 480, 10, 70],
  [432, 434, 4, 70],
  [445, 447, 5, 70],
  [449, 451, 6, 70],
  [469, 471, 8, 70],
  [473, 475, 9, 70],
  [436, 282, 283, 67],
  [437, 347, 348, 67],
  [438, 439, 70],
  [441, 442, 443, 67],
  [453, 455, 7, 70],
  [457, 458, 459, 67],
  [461, 462, 463, 67],
  [465, 466, 467, 67],
  [477, 311, 312, 67],
  [180, 84, 85],
  [507, 509, 11, 71],
  [511, 513, 12, 71],
  [528, 335, 336, 67],
  [529, 531, 14, 71],
  [533, 331, 332, 67],
  [534, 372, 373, 67],
  [535, 315, 316, 67],
  [524, 526, 13, 71],
  [536, 537, 538, 67],
  [515, 516, 517, 67],
  [523, 520, 521, 67],
  [139, 84, 85],
  [91, 84, 85],
  [289, 290, 291, 67],
  [519, 520, 521, 67],
  [310, 311, 312, 67],
  [322, 323, 324, 67],
  [330, 331, 332, 67],
  [306, 307, 308, 67],
  [314, 315, 316, 67],
  [318, 319, 320, 67],
  [302, 303, 304, 67],
  [326, 327, 328, 67],
  [334, 335, 336, 67],
  [696, 668, 669, 67],
  [701, 351, 352, 67],
  [702, 703, 77, 704],
  [726, 516, 517, 67],
  [285, 286, 287, 67],
  [498, 282, 283, 67],
  [278, 280, 279, 75],
  [193, 84, 85],
  [574, 263, 264, 67],
  [575, 576, 77, 577],
  [578, 335, 336, 67],
  [579, 351, 352, 67],
  [580, 581, 72],
  [583, 584, 72],
  [588, 520, 521, 67],
  [586, 311, 312, 67],
  [587, 372, 373, 67],
  [8, 602, 66],
  [597, 598, 599, 72],
  [731, 594, 595, 72],
  [721, 590, 591, 72],
  [563, 307, 308, 67],
  [564, 303, 304, 67],
  [565, 311, 312, 67],
  [630, 263, 264, 67],
  [631, 335, 336, 67],
  [632, 561, 76],
  [636, 637, 76],
  [639, 315, 316, 67],
  [640, 537, 538, 67],
  [83, 84, 85],
  [0, 89, 67],
  [120, 121, 68],
  [2, 137, 69],
  [3, 151, 70],
  [5, 178, 71],
  [6, 191, 72],
  [7, 210, 73],
  [258, 259, 66],
  [262, 263, 264, 67],
  [266, 267, 268, 68],
  [281, 282, 283, 67],
  [297, 290, 291, 67],
  [298, 299, 300, 67],
  [338, 340, 1, 66],
  [346, 347, 348, 67],
  [350, 351, 352, 67],
  [358, 359, 360, 67],
  [362, 286, 287, 67],
  [367, 368, 369, 67],
  [371, 372, 373, 67],
  [379, 380, 381, 67],
  [383, 384, 385, 67],
  [391, 392, 393, 69],
  [395, 396, 397, 69],
  [403, 404, 405, 69],
  [411, 412, 413, 70],
  [486, 487, 488, 70],
  [490, 491, 492, 67],
  [494, 495, 496, 67],
  [503, 504, 505, 71],
  [540, 541, 542, 71],
  [548, 335, 336, 67],
  [549, 331, 332, 67],
  [550, 516, 517, 67],
  [551, 307, 308, 67],
  [552, 311, 312, 67],
  [553, 315, 316, 67],
  [554, 555, 556, 67],
  [558, 327, 328, 67],
  [559, 319, 320, 67],
  [560, 561, 76],
  [566, 568, 15, 66],
  [589, 590, 591, 72],
  [593, 594, 595, 72],
  [604, 605, 606, 67],
  [612, 602, 66],
  [613, 520, 521, 67],
  [618, 598, 599, 72],
  [627, 628, 76],
  [633, 634, 76],
  [645, 646, 66],
  [648, 649, 650, 72],
  [656, 657, 658, 73],
  [680, 681, 682, 73],
  [688, 689, 690, 67],
  [692, 693, 694, 67],
  [697, 698, 699, 67],
  [705, 706, 707, 67],
  [709, 710, 711, 67],
  [713, 714, 715, 67],
  [717, 718, 719, 72],
  [722, 723, 724, 67],
  [727, 728, 729, 72],
  [732, 733, 734, 72],
  [736, 737, 76],
  [739, 740, 741, 67],
  [743, 744, 745, 68],
  [755, 757, 19, 66],
  [768, 769, 770, 68],
  [759, 275, 276, 67],
  [342, 343, 344, 67],
  [570, 571, 572, 72],
  [785, 84, 85],
  [859, 860, 74],
  [848, 849, 74],
  [890, 892, 27, 74],
  [886, 888, 26, 74],
  [898, 900, 29, 74],
  [894, 896, 28, 74],
  [1033, 1035, 53, 74],
  [1037, 1039, 54, 74],
  [1029, 1031, 52, 74],
  [910, 912, 32, 74],
  [1025, 1027, 51, 74],
  [882, 884, 25, 74],
  [902, 904, 30, 74],
  [862, 864, 21, 74],
  [851, 852, 74],
  [855, 857, 20, 74],
  [866, 868, 22, 74],
  [874, 876, 23, 74],
  [878, 880, 24, 74],
  [906, 908, 31, 74],
  [918, 920, 33, 74],
  [926, 927, 74],
  [933, 935, 34, 74],
  [957, 959, 37, 74],
  [961, 963, 38, 74],
  [965, 967, 39, 74],
  [969, 971, 40, 74],
  [953, 955, 36, 74],
  [949, 951, 35, 74],
  [977, 979, 41, 74],
  [997, 999, 45, 74],
  [993, 995, 44, 74],
  [1001, 1003, 46, 74],
  [989, 991, 43, 74],
  [1005, 1007, 47, 74],
  [985, 987, 42, 74],
  [1013, 1015, 48, 74],
  [1017, 1019, 49, 74],
  [1021, 1023, 50, 74],
  [1041, 1043, 55, 74],
  [1045, 1047, 56, 74],
  [1053, 1054, 74],
  [1072, 1074, 57, 74],
  [1088, 1090, 60, 74],
  [1084, 1086, 59, 74],
  [1080, 1082, 58, 74],
  [1108, 1010, 1011, 74],
  [1096, 1098, 61, 74],
  [1100, 1102, 62, 74],
  [1104, 1106, 63, 74],
  [1109, 1111, 64, 74],
  [1125, 1118, 1119, 74],
  [80, 81, 66],
  [782, 783, 74],
  [254, 255, 256, 66],
  [844, 845, 846, 74],
  [293, 294, 295, 66],
  [870, 871, 872, 74],
  [354, 355, 356, 66],
  [914, 915, 916, 74],
  [363, 364, 365, 66],
  [922, 923, 924, 74],
  [375, 376, 377, 66],
  [929, 930, 931, 74],
  [387, 388, 389, 66],
  [937, 938, 939, 74],
  [399, 400, 401, 66],
  [941, 942, 943, 74],
  [407, 408, 409, 66],
  [945, 946, 947, 74],
  [482, 483, 484, 66],
  [973, 974, 975, 74],
  [499, 500, 501, 66],
  [981, 982, 983, 74],
  [544, 545, 546, 66],
  [1009, 1010, 1011, 74],
  [608, 609, 610, 66],
  [1049, 1050, 1051, 74],
  [614, 615, 616, 66],
  [1056, 1057, 1058, 74],
  [619, 620, 621, 66],
  [1060, 1061, 1062, 74],
  [623, 624, 625, 66],
  [1064, 1065, 1066, 74],
  [641, 642, 643, 66],
  [1068, 1069, 1070, 74],
  [652, 653, 654, 66],
  [1076, 1077, 1078, 74],
  [684, 685, 686, 66],
  [1092, 1093, 1094, 74],
  [747, 748, 749, 66],
  [1113, 1114, 1115, 74],
  [751, 752, 753, 66],
  [1117, 1118, 1119, 74],
  [760, 761, 762, 66],
  [1121, 1122, 1123, 74],
  [764, 765, 766, 66],
  [1126, 1127, 1128, 74],
  [772, 773, 774, 66],
  [1130, 1131, 1132, 74],
  [776, 777, 778, 66],
  [1134, 1135, 1136, 74]]
def zNWt : List (String × Nat × MethodName × String) := [
  (RX8, 9, yX5_init, RX8),
  (RX0, 21, yX5_init, RX8),
  (RX8, 35, yX4_init, RX8),
  (RX8, 42, yX2_init, RX8),
  (RX2, 11, yX5_init, RX8),
  (RX8, 49, yX3_init, RX8),
  (RX8, 56, yX6_init, RX8),
  (RX8, 63, yX1_init, RX8),
  (RX6, 59, yX8_isPlace, RX8)]
def zNW : List Cond := zNWt.map fun q => .methodLinkNest q.1 q.2.1 q.2.2.1 q.2.2.2
def zFL : List ((Nat × Nat) × (Nat × Nat)) := [
  ((0, 11), (0, 0)),
  ((0, 17), (0, 1)),
  ((1, 9), (1, 0)),
  ((1, 15), (1, 1)),
  ((1, 18), (1, 2)),
  ((2, 12), (2, 0)),
  ((2, 18), (2, 1)),
  ((2, 22), (2, 2)),
  ((2, 25), (2, 3)),
  ((2, 28), (2, 4)),
  ((2, 31), (2, 5)),
  ((3, 11), (3, 0)),
  ((3, 15), (3, 1)),
  ((4, 9), (4, 0)),
  ((4, 15), (4, 1)),
  ((5, 9), (5, 0)),
  ((5, 15), (5, 1)),
  ((5, 18), (5, 2)),
  ((5, 21), (5, 3)),
  ((5, 24), (5, 4)),
  ((5, 27), (5, 5)),
  ((5, 30), (5, 6)),
  ((5, 34), (5, 7)),
  ((6, 9), (6, 0)),
  ((6, 15), (6, 1)),
  ((6, 18), (6, 2)),
  ((6, 21), (6, 3)),
  ((8, 10), (7, 0)),
  ((8, 16), (7, 1)),
  ((8, 19), (7, 2)),
  ((8, 22), (7, 3)),
  ((8, 29), (7, 4)),
  ((8, 36), (7, 5)),
  ((8, 43), (7, 6)),
  ((8, 50), (7, 7)),
  ((8, 57), (7, 8)),
  ((8, 64), (7, 9)),
  ((9, 7), (8, 0)),
  ((9, 13), (8, 1)),
  ((9, 16), (8, 2)),
  ((9, 19), (8, 4)),
  ((9, 22), (8, 6)),
  ((9, 25), (8, 10)),
  ((9, 28), (8, 12)),
  ((9, 31), (8, 14)),
  ((9, 34), (8, 16)),
  ((9, 37), (8, 17)),
  ((9, 40), (8, 18)),
  ((9, 43), (8, 3)),
  ((9, 126), (8, 7)),
  ((9, 129), (8, 8)),
  ((9, 132), (8, 9)),
  ((9, 144), (8, 11)),
  ((9, 147), (8, 13)),
  ((9, 167), (8, 15)),
  ((9, 239), (8, 5))]
def zFP : List Nat := [127, 128, 213, 214, 215, 156, 157, 158, 159, 160, 161, 181, 182, 140, 141, 92, 93, 94, 95, 96, 97, 98, 99, 194, 195, 196, 197, 223, 224, 225, 226, 227, 228, 229, 230, 231, 232, 786, 787, 788, 790, 792, 796, 798, 800, 802, 803, 804, 789, 793, 794, 795, 797, 799, 801, 791]
def zNL : List ((Nat × Nat) × Nat) := [
  ((0, 9), 5),
  ((2, 9), 5),
  ((8, 7), 5),
  ((8, 26), 0),
  ((8, 33), 4),
  ((8, 40), 2),
  ((8, 47), 3),
  ((8, 54), 6),
  ((8, 61), 1),
  ((10, 7), 7),
  ((10, 10), 8)]
def zNP : List (List Nat) := [
  [124, 87, 67], [154, 87, 67], [86, 87, 67], [118, 119, 68], [134, 135, 69], [148, 149, 70], [175, 176, 71], [188, 189, 72], [207, 208, 73], [78, 79, 66], [780, 781, 74]]
def zAL : List (Nat × Nat) := [(0, 9)]
def zAP : List Nat := [124]
def zIL : List ((Nat × Nat) × Int32) := [((8, 278), 531440), ((9, 97), 531440)]
def zIP : List Nat := [261, 854]
theorem ws_arr_int : Cond.arrayClass .int ∈ WS := WS_of 117 (by decide +kernel) rfl
theorem ws_arr_char : Cond.arrayClass .char ∈ WS := WS_of 147 (by decide +kernel) rfl
def zw (i : Nat) (w : Cond) : Bool := decide (lw_tbl[i]? = some w) && goodWord w
theorem zw_ws {i : Nat} {w : Cond} (h : zw i w = true) : w ∈ WS := by
  simp only [zw, Bool.and_eq_true, decide_eq_true_eq] at h
  exact WS_of i h.1 h.2
def zy (m : Nat) : MethodName := match zML[m]? with
  | some q => q.2.1
  | none => yL_law
def zb (m : Nat) : ByteArray := match zML[m]? with
  | some q => q.2.2.1
  | none => code
def zml (m : Nat) : Nat := match zML[m]? with
  | some q => q.2.2.2.1
  | none => 0
def zret (m : Nat) : Option FieldType := match zML[m]? with
  | some q => q.2.2.2.2
  | none => none
def zcl (m : Nat) : Nat := match zML[m]? with
  | some q => q.1
  | none => 10
set_option maxRecDepth 20000 in
theorem zcw_0 : Cond.code yX0_init cX0_init 2 none ∈ WS := WS_of 122 rfl rfl
set_option maxRecDepth 20000 in
theorem zcw_1 : Cond.code yX0_length cX0_length 1 (some .int) ∈ WS := WS_of 746 rfl rfl
set_option maxRecDepth 20000 in
theorem zcw_2 : Cond.code yX0_keep cX0_keep 2 none ∈ WS := WS_of 269 rfl rfl
set_option maxRecDepth 20000 in
theorem zcw_3 : Cond.code yX0_dropOldest cX0_dropOldest 3 none ∈ WS := WS_of 273 rfl rfl
set_option maxRecDepth 20000 in
theorem zcw_4 : Cond.code yX0_takeBack cX0_takeBack 2 none ∈ WS := WS_of 771 rfl rfl
set_option maxRecDepth 20000 in
theorem zcw_5 : Cond.code yX1_init cX1_init 1 none ∈ WS := WS_of 211 rfl rfl
set_option maxRecDepth 20000 in
theorem zcw_6 : Cond.code yX1_find cX1_find 6 (some .int) ∈ WS := WS_of 659 rfl rfl
set_option maxRecDepth 20000 in
theorem zcw_7 : Cond.code yX1_measure cX1_measure 5 none ∈ WS := WS_of 665 rfl rfl
set_option maxRecDepth 20000 in
theorem zcw_8 : Cond.code yX1_longestIn cX1_longestIn 6 (some .int) ∈ WS := WS_of 675 rfl rfl
set_option maxRecDepth 20000 in
theorem zcw_9 : Cond.code yX1_firstOfLongest cX1_firstOfLongest 6 (some .int) ∈ WS := WS_of 679 rfl rfl
set_option maxRecDepth 20000 in
theorem zcw_10 : Cond.code yX1_crateAt cX1_crateAt 2 (some .int) ∈ WS := WS_of 683 rfl rfl
set_option maxRecDepth 20000 in
theorem zcw_11 : Cond.code yX2_init cX2_init 1 none ∈ WS := WS_of 152 rfl rfl
set_option maxRecDepth 20000 in
theorem zcw_12 : Cond.code yX2_found cX2_found 1 (some (.object "SlatCrates$Stock")) ∈ WS := WS_of 489 rfl rfl
set_option maxRecDepth 20000 in
theorem zcw_13 : Cond.code yX2_read cX2_read 3 (some .int) ∈ WS := WS_of 414 rfl rfl
set_option maxRecDepth 20000 in
theorem zcw_14 : Cond.code yX2_isComplete cX2_isComplete 2 (some .boolean) ∈ WS := WS_of 481 rfl rfl
set_option maxRecDepth 20000 in
theorem zcw_15 : Cond.code yX2_begin cX2_begin 2 none ∈ WS := WS_of 422 rfl rfl
set_option maxRecDepth 20000 in
theorem zcw_16 : Cond.code yX2_take cX2_take 2 (some .boolean) ∈ WS := WS_of 431 rfl rfl
set_option maxRecDepth 20000 in
theorem zcw_17 : Cond.code yX2_takeLetter cX2_takeLetter 2 (some .boolean) ∈ WS := WS_of 435 rfl rfl
set_option maxRecDepth 20000 in
theorem zcw_18 : Cond.code yX2_weightOf cX2_weightOf 3 (some .int) ∈ WS := WS_of 440 rfl rfl
set_option maxRecDepth 20000 in
theorem zcw_19 : Cond.code yX2_takeMark cX2_takeMark 4 (some .boolean) ∈ WS := WS_of 448 rfl rfl
set_option maxRecDepth 20000 in
theorem zcw_20 : Cond.code yX2_takeDigit cX2_takeDigit 6 (some .boolean) ∈ WS := WS_of 452 rfl rfl
set_option maxRecDepth 20000 in
theorem zcw_21 : Cond.code yX2_setNumber cX2_setNumber 1 none ∈ WS := WS_of 456 rfl rfl
set_option maxRecDepth 20000 in
theorem zcw_22 : Cond.code yX2_takeOpening cX2_takeOpening 2 (some .boolean) ∈ WS := WS_of 472 rfl rfl
set_option maxRecDepth 20000 in
theorem zcw_23 : Cond.code yX2_takeBehindNest cX2_takeBehindNest 2 (some .boolean) ∈ WS := WS_of 476 rfl rfl
set_option maxRecDepth 20000 in
theorem zcw_24 : Cond.code yX3_init cX3_init 1 none ∈ WS := WS_of 179 rfl rfl
set_option maxRecDepth 20000 in
theorem zcw_25 : Cond.code yX3_write cX3_write 3 none ∈ WS := WS_of 506 rfl rfl
set_option maxRecDepth 20000 in
theorem zcw_26 : Cond.code yX3_signAt cX3_signAt 2 (some .int) ∈ WS := WS_of 543 rfl rfl
set_option maxRecDepth 20000 in
theorem zcw_27 : Cond.code yX3_writeNest cX3_writeNest 6 none ∈ WS := WS_of 510 rfl rfl
set_option maxRecDepth 20000 in
theorem zcw_28 : Cond.code yX3_writeLabel cX3_writeLabel 5 none ∈ WS := WS_of 514 rfl rfl
set_option maxRecDepth 20000 in
theorem zcw_29 : Cond.code yX3_writeNumber cX3_writeNumber 3 none ∈ WS := WS_of 532 rfl rfl
set_option maxRecDepth 20000 in
theorem zcw_30 : Cond.code yX3_writeSign cX3_writeSign 2 none ∈ WS := WS_of 527 rfl rfl
set_option maxRecDepth 20000 in
theorem zcw_31 : Cond.code yX4_init cX4_init 1 none ∈ WS := WS_of 138 rfl rfl
set_option maxRecDepth 20000 in
theorem zcw_32 : Cond.code yX4_length cX4_length 1 (some .int) ∈ WS := WS_of 394 rfl rfl
set_option maxRecDepth 20000 in
theorem zcw_33 : Cond.code yX4_add cX4_add 2 none ∈ WS := WS_of 398 rfl rfl
set_option maxRecDepth 20000 in
theorem zcw_34 : Cond.code yX4_empty cX4_empty 1 none ∈ WS := WS_of 406 rfl rfl
set_option maxRecDepth 20000 in
theorem zcw_35 : Cond.code yX4_signAt cX4_signAt 2 (some .char) ∈ WS := WS_of 427 rfl rfl
set_option maxRecDepth 20000 in
theorem zcw_36 : Cond.code yX5_init cX5_init 1 none ∈ WS := WS_of 90 rfl rfl
set_option maxRecDepth 20000 in
theorem zcw_37 : Cond.code yX5_isCrate cX5_isCrate 2 (some .boolean) ∈ WS := WS_of 292 rfl rfl
set_option maxRecDepth 20000 in
theorem zcw_38 : Cond.code yX5_crates cX5_crates 1 (some .int) ∈ WS := WS_of 265 rfl rfl
set_option maxRecDepth 20000 in
theorem zcw_39 : Cond.code yX5_refused cX5_refused 1 (some .int) ∈ WS := WS_of 742 rfl rfl
set_option maxRecDepth 20000 in
theorem zcw_40 : Cond.code yX5_sizeOf cX5_sizeOf 2 (some .int) ∈ WS := WS_of 337 rfl rfl
set_option maxRecDepth 20000 in
theorem zcw_41 : Cond.code yX5_roomOf cX5_roomOf 2 (some .int) ∈ WS := WS_of 333 rfl rfl
set_option maxRecDepth 20000 in
theorem zcw_42 : Cond.code yX5_gapsOf cX5_gapsOf 2 (some .int) ∈ WS := WS_of 374 rfl rfl
set_option maxRecDepth 20000 in
theorem zcw_43 : Cond.code yX5_holderOf cX5_holderOf 2 (some .int) ∈ WS := WS_of 313 rfl rfl
set_option maxRecDepth 20000 in
theorem zcw_44 : Cond.code yX5_placeOf cX5_placeOf 2 (some .int) ∈ WS := WS_of 321 rfl rfl
set_option maxRecDepth 20000 in
theorem zcw_45 : Cond.code yX5_letterAt cX5_letterAt 5 (some .int) ∈ WS := WS_of 522 rfl rfl
set_option maxRecDepth 20000 in
theorem zcw_46 : Cond.code yX5_lettersOf cX5_lettersOf 4 (some .int) ∈ WS := WS_of 518 rfl rfl
set_option maxRecDepth 20000 in
theorem zcw_47 : Cond.code yX5_isOnGround cX5_isOnGround 2 (some .boolean) ∈ WS := WS_of 309 rfl rfl
set_option maxRecDepth 20000 in
theorem zcw_48 : Cond.code yX5_depthOf cX5_depthOf 4 (some .int) ∈ WS := WS_of 353 rfl rfl
set_option maxRecDepth 20000 in
theorem zcw_49 : Cond.code yX5_isAround cX5_isAround 5 (some .boolean) ∈ WS := WS_of 325 rfl rfl
set_option maxRecDepth 20000 in
theorem zcw_50 : Cond.code yX5_pileOf cX5_pileOf 4 (some .int) ∈ WS := WS_of 317 rfl rfl
set_option maxRecDepth 20000 in
theorem zcw_51 : Cond.code yX5_crateInPile cX5_crateInPile 4 (some .int) ∈ WS := WS_of 539 rfl rfl
set_option maxRecDepth 20000 in
theorem zcw_52 : Cond.code yX5_loadOf cX5_loadOf 4 (some .int) ∈ WS := WS_of 557 rfl rfl
set_option maxRecDepth 20000 in
theorem zcw_53 : Cond.code yX5_roomLeftIn cX5_roomLeftIn 4 (some .int) ∈ WS := WS_of 329 rfl rfl
set_option maxRecDepth 20000 in
theorem zcw_54 : Cond.code yX5_above cX5_above 2 (some .int) ∈ WS := WS_of 305 rfl rfl
set_option maxRecDepth 20000 in
theorem zcw_55 : Cond.code yX5_isLoose cX5_isLoose 2 (some .boolean) ∈ WS := WS_of 670 rfl rfl
set_option maxRecDepth 20000 in
theorem zcw_56 : Cond.code yX5_reasonNotToPut cX5_reasonNotToPut 4 (some .int) ∈ WS := WS_of 301 rfl rfl
set_option maxRecDepth 20000 in
theorem zcw_57 : Cond.code yX5_reasonNotToGround cX5_reasonNotToGround 2 (some .int) ∈ WS := WS_of 361 rfl rfl
set_option maxRecDepth 20000 in
theorem zcw_58 : Cond.code yX5_reasonNotToBreak cX5_reasonNotToBreak 2 (some .int) ∈ WS := WS_of 382 rfl rfl
set_option maxRecDepth 20000 in
theorem zcw_59 : Cond.code yX5_bestHolderFor cX5_bestHolderFor 7 (some .int) ∈ WS := WS_of 607 rfl rfl
set_option maxRecDepth 20000 in
theorem zcw_60 : Cond.code yX5_onGround cX5_onGround 3 (some .int) ∈ WS := WS_of 691 rfl rfl
set_option maxRecDepth 20000 in
theorem zcw_61 : Cond.code yX5_loose cX5_loose 3 (some .int) ∈ WS := WS_of 695 rfl rfl
set_option maxRecDepth 20000 in
theorem zcw_62 : Cond.code yX5_greatestDepth cX5_greatestDepth 3 (some .int) ∈ WS := WS_of 700 rfl rfl
set_option maxRecDepth 20000 in
theorem zcw_63 : Cond.code yX5_sizes cX5_sizes 3 (some .int) ∈ WS := WS_of 708 rfl rfl
set_option maxRecDepth 20000 in
theorem zcw_64 : Cond.code yX5_sizesLying cX5_sizesLying 3 (some .int) ∈ WS := WS_of 716 rfl rfl
set_option maxRecDepth 20000 in
theorem zcw_65 : Cond.code yX5_rooms cX5_rooms 3 (some .int) ∈ WS := WS_of 712 rfl rfl
set_option maxRecDepth 20000 in
theorem zcw_66 : Cond.code yX5_letters cX5_letters 3 (some .int) ∈ WS := WS_of 725 rfl rfl
set_option maxRecDepth 20000 in
theorem zcw_67 : Cond.code yX5_isSound cX5_isSound 2 (some .boolean) ∈ WS := WS_of 493 rfl rfl
set_option maxRecDepth 20000 in
theorem zcw_68 : Cond.code yX5_add cX5_add 6 (some .int) ∈ WS := WS_of 284 rfl rfl
set_option maxRecDepth 20000 in
theorem zcw_69 : Cond.code yX5_lift cX5_lift 2 none ∈ WS := WS_of 288 rfl rfl
set_option maxRecDepth 20000 in
theorem zcw_70 : Cond.code yX5_lay cX5_lay 3 none ∈ WS := WS_of 349 rfl rfl
set_option maxRecDepth 20000 in
theorem zcw_71 : Cond.code yX5_turnSlats cX5_turnSlats 3 none ∈ WS := WS_of 370 rfl rfl
set_option maxRecDepth 20000 in
theorem zcw_72 : Cond.code yX5_remove cX5_remove 3 none ∈ WS := WS_of 386 rfl rfl
set_option maxRecDepth 20000 in
theorem zcw_73 : Cond.code yX5_addAll cX5_addAll 5 none ∈ WS := WS_of 497 rfl rfl
set_option maxRecDepth 20000 in
theorem zcw_74 : Cond.code yX5_countRefusal cX5_countRefusal 1 none ∈ WS := WS_of 345 rfl rfl
set_option maxRecDepth 20000 in
theorem zcw_75 : Cond.code yX5_empty cX5_empty 1 none ∈ WS := WS_of 418 rfl rfl
set_option maxRecDepth 20000 in
theorem zcw_76 : Cond.code yX5_setLabel cX5_setLabel 3 none ∈ WS := WS_of 444 rfl rfl
set_option maxRecDepth 20000 in
theorem zcw_77 : Cond.code yX5_setSize cX5_setSize 3 none ∈ WS := WS_of 460 rfl rfl
set_option maxRecDepth 20000 in
theorem zcw_78 : Cond.code yX5_setRoom cX5_setRoom 3 none ∈ WS := WS_of 464 rfl rfl
set_option maxRecDepth 20000 in
theorem zcw_79 : Cond.code yX5_setGaps cX5_setGaps 3 none ∈ WS := WS_of 468 rfl rfl
set_option maxRecDepth 20000 in
theorem zcw_80 : Cond.code yX5_copyFrom cX5_copyFrom 2 none ∈ WS := WS_of 277 rfl rfl
set_option maxRecDepth 20000 in
theorem zcw_81 : Cond.code yX6_init cX6_init 1 none ∈ WS := WS_of 192 rfl rfl
set_option maxRecDepth 20000 in
theorem zcw_82 : Cond.code yX6_look cX6_look 3 none ∈ WS := WS_of 573 rfl rfl
set_option maxRecDepth 20000 in
theorem zcw_83 : Cond.code yX6_signsOf cX6_signsOf 7 (some .int) ∈ WS := WS_of 582 rfl rfl
set_option maxRecDepth 20000 in
theorem zcw_84 : Cond.code yX6_openAround cX6_openAround 5 (some .int) ∈ WS := WS_of 585 rfl rfl
set_option maxRecDepth 20000 in
theorem zcw_85 : Cond.code yX6_signAt cX6_signAt 4 (some .int) ∈ WS := WS_of 600 rfl rfl
set_option maxRecDepth 20000 in
theorem zcw_86 : Cond.code yX6_shows cX6_shows 4 (some .boolean) ∈ WS := WS_of 651 rfl rfl
set_option maxRecDepth 20000 in
theorem zcw_87 : Cond.code yX6_lettersSeenOf cX6_lettersSeenOf 4 (some .int) ∈ WS := WS_of 596 rfl rfl
set_option maxRecDepth 20000 in
theorem zcw_88 : Cond.code yX6_lettersSeen cX6_lettersSeen 3 (some .int) ∈ WS := WS_of 730 rfl rfl
set_option maxRecDepth 20000 in
theorem zcw_89 : Cond.code yX6_canTell cX6_canTell 3 (some .boolean) ∈ WS := WS_of 592 rfl rfl
set_option maxRecDepth 20000 in
theorem zcw_90 : Cond.code yX6_tellable cX6_tellable 3 (some .int) ∈ WS := WS_of 720 rfl rfl
set_option maxRecDepth 20000 in
theorem zcw_91 : Cond.code yX6_differentRows cX6_differentRows 5 (some .int) ∈ WS := WS_of 735 rfl rfl
set_option maxRecDepth 20000 in
theorem zcw_92 : Cond.code yX7_effortFromBelow cX7_effortFromBelow 5 (some .int) ∈ WS := WS_of 562 rfl rfl
set_option maxRecDepth 20000 in
theorem zcw_93 : Cond.code yX7_sumGoingUp cX7_sumGoingUp 4 (some .int) ∈ WS := WS_of 629 rfl rfl
set_option maxRecDepth 20000 in
theorem zcw_94 : Cond.code yX7_sumOfAll cX7_sumOfAll 3 (some .int) ∈ WS := WS_of 738 rfl rfl
set_option maxRecDepth 20000 in
theorem zcw_95 : Cond.code yX7_sumGoingDown cX7_sumGoingDown 4 (some .int) ∈ WS := WS_of 635 rfl rfl
set_option maxRecDepth 20000 in
theorem zcw_96 : Cond.code yX7_sumInPile cX7_sumInPile 10 (some .int) ∈ WS := WS_of 638 rfl rfl
set_option maxRecDepth 20000 in
theorem zcw_97 : Cond.code yX8_init cX8_init 1 none ∈ WS := WS_of 82 rfl rfl
set_option maxRecDepth 20000 in
theorem zcw_98 : Cond.code yX8_make cX8_make 5 (some .int) ∈ WS := WS_of 257 rfl rfl
set_option maxRecDepth 20000 in
theorem zcw_99 : Cond.code yX8_put cX8_put 4 (some .int) ∈ WS := WS_of 296 rfl rfl
set_option maxRecDepth 20000 in
theorem zcw_100 : Cond.code yX8_ground cX8_ground 3 (some .int) ∈ WS := WS_of 357 rfl rfl
set_option maxRecDepth 20000 in
theorem zcw_101 : Cond.code yX8_turn cX8_turn 2 (some .int) ∈ WS := WS_of 366 rfl rfl
set_option maxRecDepth 20000 in
theorem zcw_102 : Cond.code yX8_breakUp cX8_breakUp 3 (some .int) ∈ WS := WS_of 378 rfl rfl
set_option maxRecDepth 20000 in
theorem zcw_103 : Cond.code yX8_append cX8_append 2 (some .int) ∈ WS := WS_of 390 rfl rfl
set_option maxRecDepth 20000 in
theorem zcw_104 : Cond.code yX8_clear cX8_clear 2 (some .int) ∈ WS := WS_of 402 rfl rfl
set_option maxRecDepth 20000 in
theorem zcw_105 : Cond.code yX8_fault cX8_fault 1 (some .int) ∈ WS := WS_of 410 rfl rfl
set_option maxRecDepth 20000 in
theorem zcw_106 : Cond.code yX8_load cX8_load 1 (some .int) ∈ WS := WS_of 485 rfl rfl
set_option maxRecDepth 20000 in
theorem zcw_107 : Cond.code yX8_sign cX8_sign 3 (some .int) ∈ WS := WS_of 502 rfl rfl
set_option maxRecDepth 20000 in
theorem zcw_108 : Cond.code yX8_crate cX8_crate 3 (some .int) ∈ WS := WS_of 547 rfl rfl
set_option maxRecDepth 20000 in
theorem zcw_109 : Cond.code yX8_letter cX8_letter 4 (some .int) ∈ WS := WS_of 611 rfl rfl
set_option maxRecDepth 20000 in
theorem zcw_110 : Cond.code yX8_seen cX8_seen 3 (some .int) ∈ WS := WS_of 617 rfl rfl
set_option maxRecDepth 20000 in
theorem zcw_111 : Cond.code yX8_whyNot cX8_whyNot 3 (some .int) ∈ WS := WS_of 622 rfl rfl
set_option maxRecDepth 20000 in
theorem zcw_112 : Cond.code yX8_effort cX8_effort 3 (some .int) ∈ WS := WS_of 626 rfl rfl
set_option maxRecDepth 20000 in
theorem zcw_113 : Cond.code yX8_alike cX8_alike 7 (some .int) ∈ WS := WS_of 644 rfl rfl
set_option maxRecDepth 20000 in
theorem zcw_114 : Cond.code yX8_nest cX8_nest 2 (some .int) ∈ WS := WS_of 655 rfl rfl
set_option maxRecDepth 20000 in
theorem zcw_115 : Cond.code yX8_count cX8_count 2 (some .int) ∈ WS := WS_of 687 rfl rfl
set_option maxRecDepth 20000 in
theorem zcw_116 : Cond.code yX8_full cX8_full 2 (some .double) ∈ WS := WS_of 750 rfl rfl
set_option maxRecDepth 20000 in
theorem zcw_117 : Cond.code yX8_ifTurned cX8_ifTurned 3 (some .int) ∈ WS := WS_of 754 rfl rfl
set_option maxRecDepth 20000 in
theorem zcw_118 : Cond.code yX8_bestTurn cX8_bestTurn 5 (some .int) ∈ WS := WS_of 763 rfl rfl
set_option maxRecDepth 20000 in
theorem zcw_119 : Cond.code yX8_undo cX8_undo 1 (some .int) ∈ WS := WS_of 767 rfl rfl
set_option maxRecDepth 20000 in
theorem zcw_120 : Cond.code yX8_save cX8_save 1 (some .int) ∈ WS := WS_of 775 rfl rfl
set_option maxRecDepth 20000 in
theorem zcw_121 : Cond.code yX8_restore cX8_restore 1 (some .int) ∈ WS := WS_of 779 rfl rfl
set_option maxRecDepth 20000 in
theorem zcw_122 : Cond.code yX8_refuse cX8_refuse 2 (some .int) ∈ WS := WS_of 341 rfl rfl
set_option maxRecDepth 20000 in
theorem zcw_123 : Cond.code yX8_viewNow cX8_viewNow 1 (some (.object "SlatCrates$View")) ∈ WS := WS_of 569 rfl rfl
set_option maxRecDepth 20000 in
theorem zcw_124 : Cond.code yX8_viewTurned cX8_viewTurned 2 (some (.object "SlatCrates$View")) ∈ WS := WS_of 758 rfl rfl
set_option maxRecDepth 20000 in
theorem zcw_125 : Cond.code yX8_isPlace cX8_isPlace 1 (some .boolean) ∈ WS := WS_of 603 rfl rfl
set_option maxRecDepth 20000 in
theorem zcw_126 : Cond.code yX8_isWanted cX8_isWanted 1 (some .boolean) ∈ WS := WS_of 647 rfl rfl
set_option maxRecDepth 20000 in
theorem zcw_127 : Cond.code yX8_isLabel cX8_isLabel 3 (some .boolean) ∈ WS := WS_of 260 rfl rfl
set_option maxRecDepth 20000 in
theorem zcw_128 : Cond.code yX9_init cX9_init 1 none ∈ WS := WS_of 784 rfl rfl
set_option maxRecDepth 20000 in
theorem zcw_129 : Cond.code yX9_in cX9_in 3 (some .boolean) ∈ WS := WS_of 850 rfl rfl
set_option maxRecDepth 20000 in
theorem zcw_130 : Cond.code yX9_copies cX9_copies 5 none ∈ WS := WS_of 861 rfl rfl
set_option maxRecDepth 20000 in
theorem zcw_131 : Cond.code yX9_records cX9_records 2 none ∈ WS := WS_of 858 rfl rfl
set_option maxRecDepth 20000 in
theorem zcw_132 : Cond.code yX9_isCrate cX9_isCrate 2 (some .boolean) ∈ WS := WS_of 877 rfl rfl
set_option maxRecDepth 20000 in
theorem zcw_133 : Cond.code yX9_of cX9_of 3 (some .int) ∈ WS := WS_of 893 rfl rfl
set_option maxRecDepth 20000 in
theorem zcw_134 : Cond.code yX9_lays cX9_lays 4 none ∈ WS := WS_of 865 rfl rfl
set_option maxRecDepth 20000 in
theorem zcw_135 : Cond.code yX9_around cX9_around 2 (some .int) ∈ WS := WS_of 889 rfl rfl
set_option maxRecDepth 20000 in
theorem zcw_136 : Cond.code yX9_pile cX9_pile 4 (some .int) ∈ WS := WS_of 897 rfl rfl
set_option maxRecDepth 20000 in
theorem zcw_137 : Cond.code yX9_piled cX9_piled 5 (some .int) ∈ WS := WS_of 1008 rfl rfl
set_option maxRecDepth 20000 in
theorem zcw_138 : Cond.code yX9_roomLeft cX9_roomLeft 4 (some .int) ∈ WS := WS_of 905 rfl rfl
set_option maxRecDepth 20000 in
theorem zcw_139 : Cond.code yX9_depthOf cX9_depthOf 4 (some .int) ∈ WS := WS_of 913 rfl rfl
set_option maxRecDepth 20000 in
theorem zcw_140 : Cond.code yX9_holds cX9_holds 4 (some .boolean) ∈ WS := WS_of 901 rfl rfl
set_option maxRecDepth 20000 in
theorem zcw_141 : Cond.code yX9_loadOf cX9_loadOf 4 (some .int) ∈ WS := WS_of 1016 rfl rfl
set_option maxRecDepth 20000 in
theorem zcw_142 : Cond.code yX9_isTop cX9_isTop 2 (some .boolean) ∈ WS := WS_of 885 rfl rfl
set_option maxRecDepth 20000 in
theorem zcw_143 : Cond.code yX9_letters cX9_letters 4 (some .int) ∈ WS := WS_of 996 rfl rfl
set_option maxRecDepth 20000 in
theorem zcw_144 : Cond.code yX9_isOpen cX9_isOpen 5 (some .boolean) ∈ WS := WS_of 1036 rfl rfl
set_option maxRecDepth 20000 in
theorem zcw_145 : Cond.code yX9_signBy cX9_signBy 5 (some .int) ∈ WS := WS_of 1040 rfl rfl
set_option maxRecDepth 20000 in
theorem zcw_146 : Cond.code yX9_signOf cX9_signOf 3 (some .int) ∈ WS := WS_of 1032 rfl rfl
set_option maxRecDepth 20000 in
theorem zcw_147 : Cond.code yX9_signsOf cX9_signsOf 4 (some .int) ∈ WS := WS_of 1028 rfl rfl
set_option maxRecDepth 20000 in
theorem zcw_148 : Cond.code yX9_lettersSeen cX9_lettersSeen 4 (some .int) ∈ WS := WS_of 1044 rfl rfl
set_option maxRecDepth 20000 in
theorem zcw_149 : Cond.code yX9_isTold cX9_isTold 5 (some .boolean) ∈ WS := WS_of 1024 rfl rfl
set_option maxRecDepth 20000 in
theorem zcw_150 : Cond.code yX9_effortTo cX9_effortTo 4 (some .int) ∈ WS := WS_of 1020 rfl rfl
set_option maxRecDepth 20000 in
theorem zcw_151 : Cond.code yX9_reasonPut cX9_reasonPut 4 (some .int) ∈ WS := WS_of 881 rfl rfl
set_option maxRecDepth 20000 in
theorem zcw_152 : Cond.code yX9_reasonGround cX9_reasonGround 2 (some .int) ∈ WS := WS_of 921 rfl rfl
set_option maxRecDepth 20000 in
theorem zcw_153 : Cond.code yX9_reasonBreak cX9_reasonBreak 2 (some .int) ∈ WS := WS_of 936 rfl rfl
set_option maxRecDepth 20000 in
theorem zcw_154 : Cond.code yX9_refuses cX9_refuses 2 (some .int) ∈ WS := WS_of 909 rfl rfl
set_option maxRecDepth 20000 in
theorem zcw_155 : Cond.code yX9_adds cX9_adds 7 none ∈ WS := WS_of 869 rfl rfl
set_option maxRecDepth 20000 in
theorem zcw_156 : Cond.code yX9_isLabel cX9_isLabel 4 (some .boolean) ∈ WS := WS_of 853 rfl rfl
set_option maxRecDepth 20000 in
theorem zcw_157 : Cond.code yX9_make cX9_make 7 (some .int) ∈ WS := WS_of 847 rfl rfl
set_option maxRecDepth 20000 in
theorem zcw_158 : Cond.code yX9_put cX9_put 4 (some .int) ∈ WS := WS_of 873 rfl rfl
set_option maxRecDepth 20000 in
theorem zcw_159 : Cond.code yX9_ground cX9_ground 3 (some .int) ∈ WS := WS_of 917 rfl rfl
set_option maxRecDepth 20000 in
theorem zcw_160 : Cond.code yX9_turned cX9_turned 1 (some .int) ∈ WS := WS_of 928 rfl rfl
set_option maxRecDepth 20000 in
theorem zcw_161 : Cond.code yX9_turn cX9_turn 2 (some .int) ∈ WS := WS_of 925 rfl rfl
set_option maxRecDepth 20000 in
theorem zcw_162 : Cond.code yX9_breakUp cX9_breakUp 4 (some .int) ∈ WS := WS_of 932 rfl rfl
set_option maxRecDepth 20000 in
theorem zcw_163 : Cond.code yX9_append cX9_append 2 (some .int) ∈ WS := WS_of 940 rfl rfl
set_option maxRecDepth 20000 in
theorem zcw_164 : Cond.code yX9_clear cX9_clear 2 (some .int) ∈ WS := WS_of 944 rfl rfl
set_option maxRecDepth 20000 in
theorem zcw_165 : Cond.code yX9_here cX9_here 1 (some .int) ∈ WS := WS_of 960 rfl rfl
set_option maxRecDepth 20000 in
theorem zcw_166 : Cond.code yX9_takes cX9_takes 2 none ∈ WS := WS_of 964 rfl rfl
set_option maxRecDepth 20000 in
theorem zcw_167 : Cond.code yX9_takesNumber cX9_takesNumber 5 (some .int) ∈ WS := WS_of 968 rfl rfl
set_option maxRecDepth 20000 in
theorem zcw_168 : Cond.code yX9_placeIn cX9_placeIn 4 (some .int) ∈ WS := WS_of 972 rfl rfl
set_option maxRecDepth 20000 in
theorem zcw_169 : Cond.code yX9_takesCrate cX9_takesCrate 5 none ∈ WS := WS_of 956 rfl rfl
set_option maxRecDepth 20000 in
theorem zcw_170 : Cond.code yX9_areNests cX9_areNests 1 (some .boolean) ∈ WS := WS_of 952 rfl rfl
set_option maxRecDepth 20000 in
theorem zcw_171 : Cond.code yX9_fault cX9_fault 1 (some .int) ∈ WS := WS_of 948 rfl rfl
set_option maxRecDepth 20000 in
theorem zcw_172 : Cond.code yX9_doFit cX9_doFit 5 (some .boolean) ∈ WS := WS_of 980 rfl rfl
set_option maxRecDepth 20000 in
theorem zcw_173 : Cond.code yX9_load cX9_load 5 (some .int) ∈ WS := WS_of 976 rfl rfl
set_option maxRecDepth 20000 in
theorem zcw_174 : Cond.code yX9_writes cX9_writes 2 none ∈ WS := WS_of 1000 rfl rfl
set_option maxRecDepth 20000 in
theorem zcw_175 : Cond.code yX9_writesNumber cX9_writesNumber 3 none ∈ WS := WS_of 1004 rfl rfl
set_option maxRecDepth 20000 in
theorem zcw_176 : Cond.code yX9_writesHead cX9_writesHead 3 (some .boolean) ∈ WS := WS_of 992 rfl rfl
set_option maxRecDepth 20000 in
theorem zcw_177 : Cond.code yX9_writesNest cX9_writesNest 5 none ∈ WS := WS_of 988 rfl rfl
set_option maxRecDepth 20000 in
theorem zcw_178 : Cond.code yX9_sign cX9_sign 3 (some .int) ∈ WS := WS_of 984 rfl rfl
set_option maxRecDepth 20000 in
theorem zcw_179 : Cond.code yX9_bestFor cX9_bestFor 7 (some .int) ∈ WS := WS_of 1048 rfl rfl
set_option maxRecDepth 20000 in
theorem zcw_180 : Cond.code yX9_crate cX9_crate 3 (some .int) ∈ WS := WS_of 1012 rfl rfl
set_option maxRecDepth 20000 in
theorem zcw_181 : Cond.code yX9_isPlace cX9_isPlace 1 (some .boolean) ∈ WS := WS_of 1055 rfl rfl
set_option maxRecDepth 20000 in
theorem zcw_182 : Cond.code yX9_letter cX9_letter 3 (some .int) ∈ WS := WS_of 1052 rfl rfl
set_option maxRecDepth 20000 in
theorem zcw_183 : Cond.code yX9_seen cX9_seen 3 (some .int) ∈ WS := WS_of 1059 rfl rfl
set_option maxRecDepth 20000 in
theorem zcw_184 : Cond.code yX9_whyNot cX9_whyNot 3 (some .int) ∈ WS := WS_of 1063 rfl rfl
set_option maxRecDepth 20000 in
theorem zcw_185 : Cond.code yX9_effort cX9_effort 5 (some .int) ∈ WS := WS_of 1067 rfl rfl
set_option maxRecDepth 20000 in
theorem zcw_186 : Cond.code yX9_isAs cX9_isAs 4 (some .boolean) ∈ WS := WS_of 1075 rfl rfl
set_option maxRecDepth 20000 in
theorem zcw_187 : Cond.code yX9_alike cX9_alike 7 (some .int) ∈ WS := WS_of 1071 rfl rfl
set_option maxRecDepth 20000 in
theorem zcw_188 : Cond.code yX9_isLoose cX9_isLoose 2 (some .boolean) ∈ WS := WS_of 1091 rfl rfl
set_option maxRecDepth 20000 in
theorem zcw_189 : Cond.code yX9_laysNests cX9_laysNests 5 none ∈ WS := WS_of 1087 rfl rfl
set_option maxRecDepth 20000 in
theorem zcw_190 : Cond.code yX9_longestNest cX9_longestNest 3 (some .int) ∈ WS := WS_of 1083 rfl rfl
set_option maxRecDepth 20000 in
theorem zcw_191 : Cond.code yX9_nest cX9_nest 8 (some .int) ∈ WS := WS_of 1079 rfl rfl
set_option maxRecDepth 20000 in
theorem zcw_192 : Cond.code yX9_sum cX9_sum 4 (some .int) ∈ WS := WS_of 1107 rfl rfl
set_option maxRecDepth 20000 in
theorem zcw_193 : Cond.code yX9_deepest cX9_deepest 3 (some .int) ∈ WS := WS_of 1103 rfl rfl
set_option maxRecDepth 20000 in
theorem zcw_194 : Cond.code yX9_onGround cX9_onGround 4 (some .int) ∈ WS := WS_of 1099 rfl rfl
set_option maxRecDepth 20000 in
theorem zcw_195 : Cond.code yX9_rowsSeen cX9_rowsSeen 5 (some .int) ∈ WS := WS_of 1112 rfl rfl
set_option maxRecDepth 20000 in
theorem zcw_196 : Cond.code yX9_count cX9_count 2 (some .int) ∈ WS := WS_of 1095 rfl rfl
set_option maxRecDepth 20000 in
theorem zcw_197 : Cond.code yX9_full cX9_full 2 (some .double) ∈ WS := WS_of 1116 rfl rfl
set_option maxRecDepth 20000 in
theorem zcw_198 : Cond.code yX9_ifTurned cX9_ifTurned 5 (some .int) ∈ WS := WS_of 1120 rfl rfl
set_option maxRecDepth 20000 in
theorem zcw_199 : Cond.code yX9_bestTurn cX9_bestTurn 5 (some .int) ∈ WS := WS_of 1124 rfl rfl
set_option maxRecDepth 20000 in
theorem zcw_200 : Cond.code yX9_undo cX9_undo 1 (some .int) ∈ WS := WS_of 1129 rfl rfl
set_option maxRecDepth 20000 in
theorem zcw_201 : Cond.code yX9_save cX9_save 1 (some .int) ∈ WS := WS_of 1133 rfl rfl
set_option maxRecDepth 20000 in
theorem zcw_202 : Cond.code yX9_restore cX9_restore 1 (some .int) ∈ WS := WS_of 1137 rfl rfl
theorem zML_ok : ∀ m, m < 203 → Cond.code (zy m) (zb m) (zml m) (zret m) ∈ WS := by
  intro m hm
  match m, hm with
  | 0, _ => exact zcw_0
  | 1, _ => exact zcw_1
  | 2, _ => exact zcw_2
  | 3, _ => exact zcw_3
  | 4, _ => exact zcw_4
  | 5, _ => exact zcw_5
  | 6, _ => exact zcw_6
  | 7, _ => exact zcw_7
  | 8, _ => exact zcw_8
  | 9, _ => exact zcw_9
  | 10, _ => exact zcw_10
  | 11, _ => exact zcw_11
  | 12, _ => exact zcw_12
  | 13, _ => exact zcw_13
  | 14, _ => exact zcw_14
  | 15, _ => exact zcw_15
  | 16, _ => exact zcw_16
  | 17, _ => exact zcw_17
  | 18, _ => exact zcw_18
  | 19, _ => exact zcw_19
  | 20, _ => exact zcw_20
  | 21, _ => exact zcw_21
  | 22, _ => exact zcw_22
  | 23, _ => exact zcw_23
  | 24, _ => exact zcw_24
  | 25, _ => exact zcw_25
  | 26, _ => exact zcw_26
  | 27, _ => exact zcw_27
  | 28, _ => exact zcw_28
  | 29, _ => exact zcw_29
  | 30, _ => exact zcw_30
  | 31, _ => exact zcw_31
  | 32, _ => exact zcw_32
  | 33, _ => exact zcw_33
  | 34, _ => exact zcw_34
  | 35, _ => exact zcw_35
  | 36, _ => exact zcw_36
  | 37, _ => exact zcw_37
  | 38, _ => exact zcw_38
  | 39, _ => exact zcw_39
  | 40, _ => exact zcw_40
  | 41, _ => exact zcw_41
  | 42, _ => exact zcw_42
  | 43, _ => exact zcw_43
  | 44, _ => exact zcw_44
  | 45, _ => exact zcw_45
  | 46, _ => exact zcw_46
  | 47, _ => exact zcw_47
  | 48, _ => exact zcw_48
  | 49, _ => exact zcw_49
  | 50, _ => exact zcw_50
  | 51, _ => exact zcw_51
  | 52, _ => exact zcw_52
  | 53, _ => exact zcw_53
  | 54, _ => exact zcw_54
  | 55, _ => exact zcw_55
  | 56, _ => exact zcw_56
  | 57, _ => exact zcw_57
  | 58, _ => exact zcw_58
  | 59, _ => exact zcw_59
  | 60, _ => exact zcw_60
  | 61, _ => exact zcw_61
  | 62, _ => exact zcw_62
  | 63, _ => exact zcw_63
  | 64, _ => exact zcw_64
  | 65, _ => exact zcw_65
  | 66, _ => exact zcw_66
  | 67, _ => exact zcw_67
  | 68, _ => exact zcw_68
  | 69, _ => exact zcw_69
  | 70, _ => exact zcw_70
  | 71, _ => exact zcw_71
  | 72, _ => exact zcw_72
  | 73, _ => exact zcw_73
  | 74, _ => exact zcw_74
  | 75, _ => exact zcw_75
  | 76, _ => exact zcw_76
  | 77, _ => exact zcw_77
  | 78, _ => exact zcw_78
  | 79, _ => exact zcw_79
  | 80, _ => exact zcw_80
  | 81, _ => exact zcw_81
  | 82, _ => exact zcw_82
  | 83, _ => exact zcw_83
  | 84, _ => exact zcw_84
  | 85, _ => exact zcw_85
  | 86, _ => exact zcw_86
  | 87, _ => exact zcw_87
  | 88, _ => exact zcw_88
  | 89, _ => exact zcw_89
  | 90, _ => exact zcw_90
  | 91, _ => exact zcw_91
  | 92, _ => exact zcw_92
  | 93, _ => exact zcw_93
  | 94, _ => exact zcw_94
  | 95, _ => exact zcw_95
  | 96, _ => exact zcw_96
  | 97, _ => exact zcw_97
  | 98, _ => exact zcw_98
  | 99, _ => exact zcw_99
  | 100, _ => exact zcw_100
  | 101, _ => exact zcw_101
  | 102, _ => exact zcw_102
  | 103, _ => exact zcw_103
  | 104, _ => exact zcw_104
  | 105, _ => exact zcw_105
  | 106, _ => exact zcw_106
  | 107, _ => exact zcw_107
  | 108, _ => exact zcw_108
  | 109, _ => exact zcw_109
  | 110, _ => exact zcw_110
  | 111, _ => exact zcw_111
  | 112, _ => exact zcw_112
  | 113, _ => exact zcw_113
  | 114, _ => exact zcw_114
  | 115, _ => exact zcw_115
  | 116, _ => exact zcw_116
  | 117, _ => exact zcw_117
  | 118, _ => exact zcw_118
  | 119, _ => exact zcw_119
  | 120, _ => exact zcw_120
  | 121, _ => exact zcw_121
  | 122, _ => exact zcw_122
  | 123, _ => exact zcw_123
  | 124, _ => exact zcw_124
  | 125, _ => exact zcw_125
  | 126, _ => exact zcw_126
  | 127, _ => exact zcw_127
  | 128, _ => exact zcw_128
  | 129, _ => exact zcw_129
  | 130, _ => exact zcw_130
  | 131, _ => exact zcw_131
  | 132, _ => exact zcw_132
  | 133, _ => exact zcw_133
  | 134, _ => exact zcw_134
  | 135, _ => exact zcw_135
  | 136, _ => exact zcw_136
  | 137, _ => exact zcw_137
  | 138, _ => exact zcw_138
  | 139, _ => exact zcw_139
  | 140, _ => exact zcw_140
  | 141, _ => exact zcw_141
  | 142, _ => exact zcw_142
  | 143, _ => exact zcw_143
  | 144, _ => exact zcw_144
  | 145, _ => exact zcw_145
  | 146, _ => exact zcw_146
  | 147, _ => exact zcw_147
  | 148, _ => exact zcw_148
  | 149, _ => exact zcw_149
  | 150, _ => exact zcw_150
  | 151, _ => exact zcw_151
  | 152, _ => exact zcw_152
  | 153, _ => exact zcw_153
  | 154, _ => exact zcw_154
  | 155, _ => exact zcw_155
  | 156, _ => exact zcw_156
  | 157, _ => exact zcw_157
  | 158, _ => exact zcw_158
  | 159, _ => exact zcw_159
  | 160, _ => exact zcw_160
  | 161, _ => exact zcw_161
  | 162, _ => exact zcw_162
  | 163, _ => exact zcw_163
  | 164, _ => exact zcw_164
  | 165, _ => exact zcw_165
  | 166, _ => exact zcw_166
  | 167, _ => exact zcw_167
  | 168, _ => exact zcw_168
  | 169, _ => exact zcw_169
  | 170, _ => exact zcw_170
  | 171, _ => exact zcw_171
  | 172, _ => exact zcw_172
  | 173, _ => exact zcw_173
  | 174, _ => exact zcw_174
  | 175, _ => exact zcw_175
  | 176, _ => exact zcw_176
  | 177, _ => exact zcw_177
  | 178, _ => exact zcw_178
  | 179, _ => exact zcw_179
  | 180, _ => exact zcw_180
  | 181, _ => exact zcw_181
  | 182, _ => exact zcw_182
  | 183, _ => exact zcw_183
  | 184, _ => exact zcw_184
  | 185, _ => exact zcw_185
  | 186, _ => exact zcw_186
  | 187, _ => exact zcw_187
  | 188, _ => exact zcw_188
  | 189, _ => exact zcw_189
  | 190, _ => exact zcw_190
  | 191, _ => exact zcw_191
  | 192, _ => exact zcw_192
  | 193, _ => exact zcw_193
  | 194, _ => exact zcw_194
  | 195, _ => exact zcw_195
  | 196, _ => exact zcw_196
  | 197, _ => exact zcw_197
  | 198, _ => exact zcw_198
  | 199, _ => exact zcw_199
  | 200, _ => exact zcw_200
  | 201, _ => exact zcw_201
  | 202, _ => exact zcw_202
  | m + 203, h => omega
theorem zML_ok2 : ∀ m, m < 203 → (plainName (zy m).cls = true ∧ zK (zcl m) = (zy m).cls ∧ zml m ≤ 40 ∧ ((zy m).cls ≠ "java/lang/invoke/MethodHandle" ∧ (zy m).cls ≠ "java/lang/invoke/VarHandle")) := by
  have h : (List.range 203).all (fun m => decide (plainName (zy m).cls = true ∧ zK (zcl m) = (zy m).cls ∧ zml m ≤ 40 ∧ ((zy m).cls ≠ "java/lang/invoke/MethodHandle" ∧ (zy m).cls ≠ "java/lang/invoke/VarHandle"))) = true := by decide +kernel
  intro m hm
  exact of_decide_eq_true (List.all_eq_true.mp h m (List.mem_range.mpr hm))
def zci0 : Nat := 0
def zcall (k i : Nat) : Option (Nat × Nat × Nat) := zCL.lookup (k, i)
def zfld (k i : Nat) : Option (Nat × Nat) := zFL.lookup (k, i)
def znew (k i : Nat) : Option Nat := zNL.lookup (k, i)
def zanew (k i : Nat) : Bool := zAL.contains (k, i)
def zcon (k i : Nat) : Option Int32 := zIL.lookup (k, i)
theorem z_lookup {β : Type} {l : List ((Nat × Nat) × β)} {k i : Nat} {v : β} (h : l.lookup (k, i) = some v) : ((k, i), v) ∈ l := by
  induction l with
  | nil => cases h
  | cons a l ih =>
    obtain ⟨a1, a2⟩ := a
    rw [List.lookup_cons] at h
    by_cases q : ((k, i) == a1) = true
    · rw [q] at h
      cases h
      rw [beq_iff_eq.mp q]
      exact List.mem_cons_self
    · rw [Bool.not_eq_true] at q
      rw [q] at h
      exact List.mem_cons_of_mem _ (ih h)
/-- what the tables say of a call -/
def zCk (e : (Nat × Nat) × (Nat × Nat × Nat)) (ps : List Nat) : Bool :=
  let p := fun j => ps.getD j 0
  let own := zK e.1.1
  let y := zy e.2.2.1
  let dn := decide ((parseMethodDescriptor y.desc).map (fun d => d.parameters.length) = some e.2.2.2)
  match e.2.1 with
  | 0 => zw (p 0) (.methodLink own e.1.2 y) && zw (p 1) (.instanceMethod y) && zw (p 2) (.selects y.cls y y) && zw (p 3) (.initialized y.cls) && decide (e.2.2.1 < 203) && dn
  | 1 => zw (p 0) (.methodLink own e.1.2 y) && zw (p 1) (.static y) && zw (p 2) (.initialized y.cls) && decide (e.2.2.1 < 203) && dn
  | 2 => zw (p 0) (.methodLink own e.1.2 y) && zw (p 1) (.instanceMethod y) && zw (p 2) (.initialized y.cls) && decide (y.name = "<init>") && decide (e.2.2.1 < 203) && dn && decide (zret e.2.2.1 = none)
  | 3 => zNW.contains (.methodLinkNest own e.1.2 y RX8) && zw (p 1) (.static y) && zw (p 2) (.initialized y.cls) && decide (e.2.2.1 < 203) && dn
  | 4 => zNW.contains (.methodLinkNest own e.1.2 y RX8) && zw (p 1) (.instanceMethod y) && zw (p 2) (.initialized y.cls) && decide (y.name = "<init>") && decide (e.2.2.1 < 203) && dn && decide (zret e.2.2.1 = none)
  | 5 => zw (p 0) (.methodLink own e.1.2 objectInit) && zw (p 1) (.instanceMethod objectInit) && zw (p 2) (.code objectInit ⟨#[0xb1]⟩ 1 none)
  | 6 => zw (p 0) (.methodLink own e.1.2 Lib.Math.max.name) && zw (p 1) (.static Lib.Math.max.name) && zw (p 2) (.initialized "java/lang/Math") && zw (p 3) (.code Lib.Math.max.name Lib.Math.max.code 2 (some .int))
  | 7 => zw (p 0) (.methodLink own e.1.2 Lib.Math.min.name) && zw (p 1) (.static Lib.Math.min.name) && zw (p 2) (.initialized "java/lang/Math") && zw (p 3) (.code Lib.Math.min.name Lib.Math.min.code 2 (some .int))
  | 8 => zw (p 0) (.methodLink own e.1.2 arraycopyName) && zw (p 1) (.native arraycopyName) && zw (p 2) (.static arraycopyName) && zw (p 3) (.initialized "java/lang/System")
  | _ => false
theorem zCL_all : (zCL.zip zCP).all (fun e => zCk e.1 e.2) = true := by decide +kernel
theorem zCL_len : zCL.length = zCP.length := by decide +kernel
theorem z_zip {α β : Type} : ∀ {l : List α} {r : List β}, l.length = r.length → ∀ {a : α}, a ∈ l → ∃ b, (a, b) ∈ l.zip r
  | [], _, _, _, h => by cases h
  | x :: l, [], hl, _, _ => by simp at hl
  | x :: l, y :: r, hl, a, h => by
    rcases List.mem_cons.mp h with rfl | h
    · exact ⟨y, by simp⟩
    · obtain ⟨b, hb⟩ := z_zip (l := l) (r := r) (by simpa using hl) h
      exact ⟨b, by rw [List.zip_cons_cons]; exact List.mem_cons_of_mem _ hb⟩
theorem zcall_ok {k i : Nat} {v : Nat × Nat × Nat} (h : zcall k i = some v) : ∃ ps, zCk ((k, i), v) ps = true := by
  obtain ⟨b, hb⟩ := z_zip zCL_len (z_lookup h)
  exact ⟨b, List.all_eq_true.mp zCL_all _ hb⟩
abbrev zT (c : Nat) : Option vw_C := vwCl[c]?
def zFk (e : (Nat × Nat) × (Nat × Nat)) (p : Nat) : Bool := match zT e.2.1 with
  | some (C, T, N) => decide (e.2.2 < N) && zw p (.fieldLink (zK e.1.1) e.1.2 C (T e.2.2).2.1 (T e.2.2).2.2.1) && decide ((T e.2.2).1 = C) && decide (C = zK e.1.1)
  | none => false
theorem zFL_all : (zFL.zip zFP).all (fun e => zFk e.1 e.2) = true := by decide +kernel
theorem zFL_len : zFL.length = zFP.length := by decide +kernel
theorem zfld_ok {k i : Nat} {v : Nat × Nat} (h : zfld k i = some v) : ∃ p, zFk ((k, i), v) p = true := by
  obtain ⟨b, hb⟩ := z_zip zFL_len (z_lookup h)
  exact ⟨b, List.all_eq_true.mp zFL_all _ hb⟩
def zNk (e : (Nat × Nat) × Nat) (ps : List Nat) : Bool := match zT e.2 with
  | some (C, _, N) => zw (ps.getD 0 0) (.classLink (zK e.1.1) e.1.2 C) && zw (ps.getD 1 0) (.instantiable C N) && zw (ps.getD 2 0) (.initialized C)
  | none => false
theorem zNL_all : (zNL.zip zNP).all (fun e => zNk e.1 e.2) = true := by decide +kernel
theorem zNL_len : zNL.length = zNP.length := by decide +kernel
theorem znew_ok {k i : Nat} {v : Nat} (h : znew k i = some v) : ∃ p, zNk ((k, i), v) p = true := by
  obtain ⟨b, hb⟩ := z_zip zNL_len (z_lookup h)
  exact ⟨b, List.all_eq_true.mp zNL_all _ hb⟩
theorem zanew_ok {k i : Nat} (h : zanew k i = true) : Cond.classLink (zK k) i RX5 ∈ WS := by
  have hq : (zAL.zip zAP).all (fun e => zw e.2 (.classLink (zK e.1.1) e.1.2 RX5)) = true := by decide +kernel
  have hm : (k, i) ∈ zAL := by simpa [zanew] using h
  obtain ⟨b, hb⟩ := z_zip (l := zAL) (r := zAP) rfl hm
  exact zw_ws (List.all_eq_true.mp hq _ hb)
theorem zcon_ok {k i : Nat} {v : Int32} (h : zcon k i = some v) : Cond.constant (zK k) i v ∈ WS := by
  have hq : (zIL.zip zIP).all (fun e => zw e.2 (.constant (zK e.1.1.1) e.1.1.2 e.1.2)) = true := by decide +kernel
  obtain ⟨b, hb⟩ := z_zip (l := zIL) (r := zIP) rfl (z_lookup h)
  exact zw_ws (List.all_eq_true.mp hq _ hb)
/-- the types of the fields -/
def zty (c : Nat) (k : Nat) : FieldType := match c with
  | 0 => tyX0 k
  | 1 => tyX1 k
  | 2 => tyX2 k
  | 3 => tyX3 k
  | 4 => tyX4 k
  | 5 => tyX5 k
  | 6 => tyX6 k
  | 7 => tyX8 k
  | 8 => tyX9 k
  | _ => .int
theorem zT_ok {c : Nat} {C : String} {T : u_T} {N : Nat} (h : zT c = some (C, T, N)) : (∀ w ∈ u_ws C T N, w ∈ WS) ∧ (∀ k, k < N → parseFieldDescriptor (T k).2.2.1 = some (zty c k)) ∧ (∀ a, a < N → ∀ b, b < N → a ≠ b → (T a).2.1 ≠ (T b).2.1) := by
  match c, h with
  | 0, h => cases h; exact ⟨fun w hw => List.mem_filter.mpr ⟨inX0 w hw, List.all_eq_true.mp (show (wsX00).all goodWord = true by decide +kernel) w hw⟩, tyX0_ok, nmX0⟩
  | 1, h => cases h; exact ⟨fun w hw => List.mem_filter.mpr ⟨inX1 w hw, List.all_eq_true.mp (show (wsX10).all goodWord = true by decide +kernel) w hw⟩, tyX1_ok, nmX1⟩
  | 2, h => cases h; exact ⟨fun w hw => List.mem_filter.mpr ⟨inX2 w hw, List.all_eq_true.mp (show (wsX20).all goodWord = true by decide +kernel) w hw⟩, tyX2_ok, nmX2⟩
  | 3, h => cases h; exact ⟨fun w hw => List.mem_filter.mpr ⟨inX3 w hw, List.all_eq_true.mp (show (wsX30).all goodWord = true by decide +kernel) w hw⟩, tyX3_ok, nmX3⟩
  | 4, h => cases h; exact ⟨fun w hw => List.mem_filter.mpr ⟨inX4 w hw, List.all_eq_true.mp (show (wsX40).all goodWord = true by decide +kernel) w hw⟩, tyX4_ok, nmX4⟩
  | 5, h => cases h; exact ⟨fun w hw => List.mem_filter.mpr ⟨inX5 w hw, List.all_eq_true.mp (show (wsX50).all goodWord = true by decide +kernel) w hw⟩, tyX5_ok, nmX5⟩
  | 6, h => cases h; exact ⟨fun w hw => List.mem_filter.mpr ⟨inX6 w hw, List.all_eq_true.mp (show (wsX60).all goodWord = true by decide +kernel) w hw⟩, tyX6_ok, nmX6⟩
  | 7, h => cases h; exact ⟨fun w hw => List.mem_filter.mpr ⟨inX8 w hw, List.all_eq_true.mp (show (wsX80).all goodWord = true by decide +kernel) w hw⟩, tyX8_ok, nmX8⟩
  | 8, h => cases h; exact ⟨fun w hw => List.mem_filter.mpr ⟨inX9 w hw, List.all_eq_true.mp (show (wsX90).all goodWord = true by decide +kernel) w hw⟩, tyX9_ok, nmX9⟩
  | c + 9, h => simp [zT] at h
/-- a class's number among those with objects -/
def zci (k : Nat) : Nat := if k < 7 then k else k - 1
theorem zci_ok {k : Nat} (h1 : k ≠ 7) (h2 : k < 10) : ∃ T N, zT (zci k) = some (zK k, T, N) := by
  match k, h1, h2 with
  | 0, _, _ => exact ⟨_, _, rfl⟩
  | 1, _, _ => exact ⟨_, _, rfl⟩
  | 2, _, _ => exact ⟨_, _, rfl⟩
  | 3, _, _ => exact ⟨_, _, rfl⟩
  | 4, _, _ => exact ⟨_, _, rfl⟩
  | 5, _, _ => exact ⟨_, _, rfl⟩
  | 6, _, _ => exact ⟨_, _, rfl⟩
  | 8, _, _ => exact ⟨_, _, rfl⟩
  | 9, _, _ => exact ⟨_, _, rfl⟩
  | 7, h, _ => exact absurd rfl h
  | k + 10, _, h => omega
