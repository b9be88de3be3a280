/-! THE PURE MACHINE: a small machine over numbered cells; every reference is the number of a cell; tables printed by wip/whole/gen_am.py -/
abbrev AMem : Type := Nat → Nat → Int32
abbrev ALoc : Type := List (Option Value)
abbrev AScr : Type := Nat × (Nat → Int32)
abbrev ACfg : Type := Nat × ALoc × List Value × AMem
abbrev ARes : Type := ACfg ⊕ (Option Value ⊕ (Nat × List Value × List Value))
def lg : ALoc → Nat → Option Value
  | [], _ => none
  | v :: _, 0 => v
  | _ :: l, n + 1 => lg l n
def lset : ALoc → Nat → Option Value → ALoc
  | [], _, _ => []
  | _ :: l, 0, x => x :: l
  | v :: l, n + 1, x => v :: lset l n x
/-- no value of two places -/
def nlong : Option Value → Bool
  | some v => v.category == 1
  | none => true
def lpre : ALoc → Nat → Bool
  | _, 0 => true
  | l, n + 1 => nlong (lg l n)
/-- a cell: 0 object (class, fields), 1 array of numbers (type, length), 2 array of references (type, length), 6 String, 7 its bytes, 8 the script -/
def layL : List (Nat × Nat × Nat) := [(0, 5, 12), (2, 3, 3), (0, 3, 3), (0, 3, 3), (0, 3, 3), (1, 1, 39), (1, 1, 23), (1, 1, 35), (0, 4, 15), (1, 0, 8), (1, 0, 8), (1, 0, 8), (1, 0, 8), (1, 0, 8), (1, 0, 8), (1, 0, 6), (1, 0, 6), (1, 0, 6), (1, 0, 6), (0, 4, 15), (1, 0, 8), (1, 0, 8), (1, 0, 8), (1, 0, 8), (1, 0, 8), (1, 0, 8), (1, 0, 6), (1, 0, 6), (1, 0, 6), (1, 0, 6), (0, 0, 15), (1, 0, 8), (1, 0, 8), (1, 0, 8), (1, 0, 8), (1, 0, 8), (1, 0, 8), (1, 0, 6), (1, 0, 6), (1, 0, 6), (1, 0, 240), (1, 0, 240), (1, 0, 240), (1, 0, 240), (0, 0, 15), (1, 0, 8), (1, 0, 8), (1, 0, 8), (1, 0, 8), (1, 0, 8), (1, 0, 8), (1, 0, 6), (1, 0, 6), (1, 0, 6), (1, 0, 240), (1, 0, 240), (1, 0, 240), (1, 0, 240), (1, 0, 512), (1, 0, 48), (0, 2, 4), (1, 0, 8), (1, 0, 8), (1, 0, 8), (2, 4, 4), (0, 1, 3), (0, 1, 3), (0, 1, 3), (0, 1, 3), (1, 0, 60), (1, 0, 60), (1, 0, 60), (1, 0, 60), (0, 6, 38), (1, 0, 3), (1, 0, 117), (1, 0, 9), (1, 0, 9), (1, 0, 9), (1, 0, 9), (1, 0, 9), (1, 0, 9), (1, 0, 7), (1, 0, 7), (1, 0, 7), (1, 0, 7), (1, 0, 8), (1, 0, 8), (1, 0, 8), (1, 0, 8), (1, 0, 6), (1, 0, 6), (1, 0, 6), (1, 0, 8), (1, 0, 2), (1, 0, 8), (1, 0, 8), (1, 0, 8), (1, 0, 48), (1, 2, 4), (1, 0, 4), (1, 0, 4), (1, 0, 240), (1, 0, 60), (6, 0, 2), (7, 0, 4), (6, 1, 2), (7, 1, 2), (6, 2, 2), (7, 2, 5), (6, 3, 2), (7, 3, 4), (8, 0, 0)]
def lay (k : Nat) : Nat × Nat × Nat := layL.getD k (9, 0, 0)
def rfL : List (List (Option Nat)) := [[some 1, some 30, some 44, some 8, some 19, some 58, some 59, some 60, some 64, none, none, none], [some 2, some 3, some 4], [some 104, some 5, none], [some 106, some 6, none], [some 108, some 7, none], [], [], [], [none, none, none, none, none, some 9, some 10, some 11, some 12, some 13, some 14, some 15, some 16, some 17, some 18], [], [], [], [], [], [], [], [], [], [], [none, none, none, none, none, some 20, some 21, some 22, some 23, some 24, some 25, some 26, some 27, some 28, some 29], [], [], [], [], [], [], [], [], [], [], [some 8, some 31, some 32, some 33, some 34, some 35, some 36, some 37, some 38, some 39, some 40, some 41, some 42, some 43, none], [], [], [], [], [], [], [], [], [], [], [], [], [], [some 19, some 45, some 46, some 47, some 48, some 49, some 50, some 51, some 52, some 53, some 54, some 55, some 56, some 57, none], [], [], [], [], [], [], [], [], [], [], [], [], [], [], [], [some 61, some 62, some 63, none], [], [], [], [some 65, some 66, some 67, some 68], [some 69, none, none], [some 70, none, none], [some 71, none, none], [some 72, none, none], [], [], [], [], [some 74, some 75, none, some 76, some 77, some 78, some 79, none, some 80, some 81, none, some 82, some 83, some 84, some 85, none, none, some 86, some 87, some 88, some 89, some 90, some 91, some 92, none, some 93, some 94, none, some 95, some 96, some 97, some 98, some 99, some 100, some 101, some 102, some 103, none], [], [], [], [], [], [], [], [], [], [], [], [], [], [], [], [], [], [], [], [], [], [], [], [], [], [], [], [], [], [], [some 105, none], [], [some 107, none], [], [some 109, none], [], [some 111, none], [], []]
def rf (k j : Nat) : Option Nat := (rfL.getD k []).getD j none
def strL : List (List Int32) := [[107, 102, 102, 104], [102, 110], [100, 102, 110, 102, 102], [97, 115, 116, 100]]
/-- what a field of an object holds: a reference that never changes, or a number -/
def fv (k j : Nat) (m : AMem) : Value := match rf k j with
  | some r => .ref r
  | none => .int (m k j)
def up (m : AMem) (k j : Nat) (v : Int32) : AMem := fun k2 j2 => if k2 = k ∧ j2 = j then v else m k2 j2
def upA (m : AMem) (k : Nat) (f : Nat → Int32) : AMem := fun k2 j2 => if k2 = k then f j2 else m k2 j2
def fldL0 : List (Nat × Nat × Nat × Nat) := [(76, 4, 0, 112), (89, 4, 1, 116), (65, 4, 2, 119), (136, 4, 3, 122), (95, 4, 5, 127), (98, 4, 7, 132), (101, 4, 8, 135), (92, 4, 10, 140), (108, 4, 12, 145), (133, 4, 13, 148), (114, 4, 14, 151), (12, 0, 0, 185), (18, 0, 1, 188), (22, 0, 2, 189), (25, 0, 3, 190), (28, 0, 4, 192), (31, 0, 5, 194), (34, 0, 6, 196), (37, 0, 7, 197), (40, 0, 8, 199), (43, 0, 9, 201), (46, 0, 10, 203), (49, 0, 11, 205), (52, 0, 12, 207), (55, 0, 13, 209), (58, 0, 14, 212)]
def fldL1 : List (Nat × Nat × Nat × Nat) := [(9, 1, 0, 294), (15, 1, 1, 296), (19, 1, 2, 298)]
def fldL2 : List (Nat × Nat × Nat × Nat) := [(35, 4, 1, 115), (29, 0, 0, 187), (40, 0, 13, 210), (9, 2, 0, 251), (15, 2, 1, 252), (18, 2, 2, 253), (21, 2, 3, 254)]
def fldL3 : List (Nat × Nat × Nat × Nat) := [(15, 3, 0, 273), (19, 3, 1, 274), (9, 3, 2, 276)]
def fldL4 : List (Nat × Nat × Nat × Nat) := [(9, 4, 0, 111), (15, 4, 1, 114), (18, 4, 2, 118), (21, 4, 3, 121), (24, 4, 4, 124), (27, 4, 5, 126), (31, 4, 6, 129), (34, 4, 7, 131), (37, 4, 8, 134), (40, 4, 9, 137), (43, 4, 10, 139), (46, 4, 11, 142), (49, 4, 12, 144), (52, 4, 13, 147), (55, 4, 14, 150)]
def fldL5 : List (Nat × Nat × Nat × Nat) := [(257, 4, 0, 113), (181, 4, 1, 117), (248, 4, 2, 120), (134, 4, 3, 123), (339, 4, 4, 125), (96, 4, 5, 128), (101, 4, 6, 130), (104, 4, 7, 133), (107, 4, 8, 136), (113, 4, 9, 138), (116, 4, 10, 141), (122, 4, 11, 143), (125, 4, 12, 146), (128, 4, 13, 149), (131, 4, 14, 152), (25, 0, 0, 186), (201, 0, 3, 191), (204, 0, 4, 193), (198, 0, 5, 195), (163, 0, 7, 198), (166, 0, 8, 200), (169, 0, 9, 202), (147, 0, 10, 204), (150, 0, 11, 206), (153, 0, 12, 208), (156, 0, 13, 211), (184, 0, 14, 213), (223, 2, 3, 255), (81, 3, 1, 275), (78, 3, 2, 277), (231, 1, 0, 295), (224, 1, 1, 297), (230, 1, 2, 299), (11, 5, 0, 307), (18, 5, 1, 308), (22, 5, 2, 309), (29, 5, 3, 310), (30, 5, 4, 311), (33, 5, 5, 312), (37, 5, 6, 313), (43, 5, 7, 314), (49, 5, 8, 315), (53, 5, 9, 316), (57, 5, 10, 317), (60, 5, 11, 318)]
def fldL6 : List (Nat × Nat × Nat × Nat) := [(7, 6, 0, 854), (13, 6, 1, 855), (123, 6, 2, 856), (16, 6, 3, 857), (19, 6, 4, 858), (22, 6, 5, 859), (25, 6, 6, 860), (126, 6, 7, 861), (28, 6, 8, 862), (31, 6, 9, 863), (129, 6, 10, 864), (34, 6, 11, 865), (37, 6, 12, 866), (40, 6, 13, 867), (43, 6, 14, 868), (101, 6, 15, 869), (180, 6, 16, 870), (46, 6, 17, 871), (49, 6, 18, 872), (52, 6, 19, 873), (55, 6, 20, 874), (58, 6, 21, 875), (61, 6, 22, 876), (64, 6, 23, 877), (170, 6, 24, 878), (67, 6, 25, 879), (70, 6, 26, 880), (249, 6, 27, 881), (73, 6, 28, 882), (76, 6, 29, 883), (79, 6, 30, 884), (82, 6, 31, 885), (85, 6, 32, 886), (89, 6, 33, 887), (92, 6, 34, 888), (95, 6, 35, 889), (98, 6, 36, 890), (293, 6, 37, 891)]
def fldL7 : List (Nat × Nat × Nat × Nat) := [(9, 7, 0, 1333), (15, 7, 1, 1334)]
def fldL8 : List (Nat × Nat × Nat × Nat) := []
def fldL9 : List (Nat × Nat × Nat × Nat) := []
def fldL10 : List (Nat × Nat × Nat × Nat) := []
def fldL11 : List (Nat × Nat × Nat × Nat) := []
def fldL12 : List (Nat × Nat × Nat × Nat) := []
def fldL13 : List (Nat × Nat × Nat × Nat) := []
def fldL14 : List (Nat × Nat × Nat × Nat) := []
def fldL15 : List (Nat × Nat × Nat × Nat) := []
/-- field links: of each class, (index, class, field, place of the word) -/
def fldT : List (List (Nat × Nat × Nat × Nat)) := [fldL0, fldL1, fldL2, fldL3, fldL4, fldL5, fldL6, fldL7, fldL8, fldL9, fldL10, fldL11, fldL12, fldL13, fldL14, fldL15]
def findI {α : Type} (i : Nat) : List (Nat × α) → Option α
  | [] => none
  | (j, x) :: l => match Nat.beq j i with
    | true => some x
    | false => findI i l
def fld (c idx : Nat) : Option (Nat × Nat × Nat) := findI idx (fldT.getD c [])
def mtL : List (MethodName × Nat × ByteArray × Nat × Option FieldType × Nat) := [
  (yX0_run, 0, cX0_run, 3, none, 0),
  (yX0_begin, 0, cX0_begin, 2, none, 0),
  (yX0_bedIn, 0, cX0_bedIn, 2, (some FieldType.int), 1),
  (yX0_depart, 0, cX0_depart, 5, none, 2),
  (yX0_deepestInDebt, 0, cX0_deepestInDebt, 6, (some FieldType.int), 1),
  (yX0_isHouse, 0, cX0_isHouse, 1, (some FieldType.boolean), 1),
  (yX0_board, 0, cX0_board, 4, none, 3),
  (yX0_pay, 0, cX0_pay, 5, none, 1),
  (yX0_owedTo, 0, cX0_owedTo, 5, (some FieldType.int), 2),
  (yX0_howManySound, 0, cX0_howManySound, 4, (some FieldType.int), 1),
  (yX0_howManySailed, 0, cX0_howManySailed, 3, (some FieldType.int), 0),
  (yX1_renew, 1, cX1_renew, 4, none, 2),
  (yX1_set, 1, cX1_set, 3, none, 2),
  (yX1_holds, 1, cX1_holds, 3, (some FieldType.boolean), 2),
  (yX2_more, 2, cX2_more, 4, (some FieldType.int), 3),
  (yX2_comeOutSo, 2, cX2_comeOutSo, 4, (some FieldType.boolean), 1),
  (yX3_items, 3, cX3_items, 1, (some FieldType.int), 0),
  (yX3_firstFault, 3, cX3_firstFault, 4, (some FieldType.int), 0),
  (yX3_step, 3, cX3_step, 1, (some FieldType.int), 0),
  (yX3_fits, 3, cX3_fits, 4, (some FieldType.boolean), 2),
  (yX3_kindOf, 3, cX3_kindOf, 1, (some FieldType.int), 1),
  (yX3_byteOf, 3, cX3_byteOf, 4, (some FieldType.char), 2),
  (yX3_figure, 3, cX3_figure, 3, (some FieldType.int), 2),
  (yX4_tellMen, 4, cX4_tellMen, 3, none, 1),
  (yX4_tellInns, 4, cX4_tellInns, 3, none, 1),
  (yX4_tellFleet, 4, cX4_tellFleet, 3, none, 1),
  (yX4_comes, 4, cX4_comes, 3, (some FieldType.boolean), 2),
  (yX4_isSound, 4, cX4_isSound, 2, (some FieldType.boolean), 1),
  (yX4_costOf, 4, cX4_costOf, 3, (some FieldType.int), 2),
  (yX4_become, 4, cX4_become, 2, none, 1),
  (yX5_type, 5, cX5_type, 4, (some FieldType.int), 2),
  (yX5_isText, 5, cX5_isText, 1, (some FieldType.boolean), 1),
  (yX5_isOneOf, 5, cX5_isOneOf, 2, (some FieldType.boolean), 2),
  (yX5_resize, 5, cX5_resize, 3, (some FieldType.int), 2),
  (yX5_forgetRuns, 5, cX5_forgetRuns, 1, none, 0),
  (yX5_wipe, 5, cX5_wipe, 3, (some FieldType.int), 1),
  (yX5_undo, 5, cX5_undo, 2, (some FieldType.int), 1),
  (yX5_fault, 5, cX5_fault, 2, (some FieldType.int), 1),
  (yX5_sailor, 5, cX5_sailor, 3, (some FieldType.int), 2),
  (yX5_isMan, 5, cX5_isMan, 2, (some FieldType.boolean), 1),
  (yX5_house, 5, cX5_house, 3, (some FieldType.int), 2),
  (yX5_isInn, 5, cX5_isInn, 2, (some FieldType.boolean), 1),
  (yX5_ship, 5, cX5_ship, 3, (some FieldType.int), 2),
  (yX5_isShip, 5, cX5_isShip, 2, (some FieldType.boolean), 1),
  (yX5_cap, 5, cX5_cap, 3, (some FieldType.int), 1),
  (yX5_owes, 5, cX5_owes, 3, (some FieldType.int), 2),
  (yX5_isDay, 5, cX5_isDay, 1, (some FieldType.boolean), 1),
  (yX5_month, 5, cX5_month, 1, (some (FieldType.object "TideMen$Days")), 0),
  (yX5_purse, 5, cX5_purse, 3, (some FieldType.int), 2),
  (yX5_where, 5, cX5_where, 3, (some FieldType.int), 2),
  (yX5_takes, 5, cX5_takes, 4, (some FieldType.int), 3),
  (yX5_crew, 5, cX5_crew, 4, (some FieldType.int), 2),
  (yX5_richest, 5, cX5_richest, 6, (some FieldType.int), 1),
  (yX5_last, 5, cX5_last, 1, (some FieldType.int), 0),
  (yX5_price, 5, cX5_price, 6, (some FieldType.int), 2),
  (yX5_lodge, 5, cX5_lodge, 8, (some FieldType.int), 2),
  (yX5_look, 5, cX5_look, 3, (some FieldType.int), 1),
  (yX5_leave, 5, cX5_leave, 5, (some FieldType.int), 2),
  (yX5_learnFates, 5, cX5_learnFates, 2, none, 0),
  (yX5_fewestAbsent, 5, cX5_fewestAbsent, 4, (some FieldType.int), 1),
  (yX5_staysWithout, 5, cX5_staysWithout, 3, (some FieldType.boolean), 2),
  (yX5_seen, 5, cX5_seen, 4, (some FieldType.int), 3),
  (yX5_forget, 5, cX5_forget, 2, (some FieldType.int), 0),
  (yX5_read, 5, cX5_read, 5, (some FieldType.int), 1),
  (yX5_found, 5, cX5_found, 2, (some FieldType.int), 1),
  (yX5_never, 5, cX5_never, 1, (some FieldType.int), 0),
  (yX5_shipsThatFit, 5, cX5_shipsThatFit, 4, (some FieldType.int), 1),
  (yX5_was, 5, cX5_was, 7, (some FieldType.int), 2),
  (yX5_ask, 5, cX5_ask, 7, (some FieldType.int), 1),
  (yX5_greatestAlike, 5, cX5_greatestAlike, 8, (some FieldType.int), 2),
  (yX5_storm, 5, cX5_storm, 11, (some FieldType.long), 4),
  (yX5_weight, 5, cX5_weight, 6, (some FieldType.long), 2),
  (yX5_port, 5, cX5_port, 5, (some FieldType.int), 2),
  (yX5_sheet, 5, cX5_sheet, 4, (some FieldType.int), 3),
  (yX5_lose, 5, cX5_lose, 2, (some FieldType.int), 1),
  (yX5_put, 5, cX5_put, 6, (some FieldType.int), 4),
  (yX5_refusalOf, 5, cX5_refusalOf, 4, (some FieldType.int), 3),
  (yX5_get, 5, cX5_get, 4, (some FieldType.int), 3),
  (yX5_copy, 5, cX5_copy, 8, (some FieldType.int), 5),
  (yX5_write, 5, cX5_write, 6, (some FieldType.int), 2),
  (yX5_count, 5, cX5_count, 2, (some FieldType.int), 1),
  (yX5_digest, 5, cX5_digest, 4, (some FieldType.long), 0),
  (yX5_mix, 5, cX5_mix, 4, (some FieldType.long), 2),
  (yX5_mixDaysOf, 5, cX5_mixDaysOf, 7, (some FieldType.long), 2),
  (yX5_mixPlansOf, 5, cX5_mixPlansOf, 6, (some FieldType.long), 2),
  (yX5_mixInn, 5, cX5_mixInn, 6, (some FieldType.long), 2),
  (yX5_mixShip, 5, cX5_mixShip, 7, (some FieldType.long), 2),
  (yX6_type, 6, cX6_type, 3, (some FieldType.int), 2),
  (yX6_isText, 6, cX6_isText, 1, (some FieldType.boolean), 1),
  (yX6_in, 6, cX6_in, 3, (some FieldType.boolean), 3),
  (yX6_wipe, 6, cX6_wipe, 3, (some FieldType.int), 1),
  (yX6_undo, 6, cX6_undo, 2, (some FieldType.int), 1),
  (yX6_fault, 6, cX6_fault, 2, (some FieldType.int), 1),
  (yX6_faultOf, 6, cX6_faultOf, 5, (some FieldType.int), 1),
  (yX6_readsParts, 6, cX6_readsParts, 7, (some FieldType.int), 1),
  (yX6_keeps, 6, cX6_keeps, 3, none, 2),
  (yX6_readsSailor, 6, cX6_readsSailor, 8, (some FieldType.int), 2),
  (yX6_byteAt, 6, cX6_byteAt, 3, (some FieldType.int), 2),
  (yX6_figureAt, 6, cX6_figureAt, 6, (some FieldType.int), 4),
  (yX6_readsHouse, 6, cX6_readsHouse, 5, (some FieldType.int), 2),
  (yX6_readsShip, 6, cX6_readsShip, 4, (some FieldType.int), 2),
  (yX6_sailor, 6, cX6_sailor, 3, (some FieldType.int), 2),
  (yX6_isSailor, 6, cX6_isSailor, 2, (some FieldType.boolean), 1),
  (yX6_reads, 6, cX6_reads, 2, none, 0),
  (yX6_sailorOf, 6, cX6_sailorOf, 3, (some FieldType.int), 2),
  (yX6_house, 6, cX6_house, 3, (some FieldType.int), 2),
  (yX6_isHouse, 6, cX6_isHouse, 2, (some FieldType.boolean), 1),
  (yX6_ship, 6, cX6_ship, 3, (some FieldType.int), 2),
  (yX6_isShip, 6, cX6_isShip, 2, (some FieldType.boolean), 1),
  (yX6_shipOf, 6, cX6_shipOf, 3, (some FieldType.int), 2),
  (yX6_cap, 6, cX6_cap, 3, (some FieldType.int), 1),
  (yX6_owes, 6, cX6_owes, 3, (some FieldType.int), 2),
  (yX6_isDay, 6, cX6_isDay, 1, (some FieldType.boolean), 1),
  (yX6_owesOf, 6, cX6_owesOf, 3, (some FieldType.int), 2),
  (yX6_runsTold, 6, cX6_runsTold, 2, none, 1),
  (yX6_runs, 6, cX6_runs, 3, none, 1),
  (yX6_begins, 6, cX6_begins, 4, none, 0),
  (yX6_goesBy, 6, cX6_goesBy, 6, none, 1),
  (yX6_isIn, 6, cX6_isIn, 2, (some FieldType.boolean), 2),
  (yX6_comes, 6, cX6_comes, 6, none, 2),
  (yX6_nextFor, 6, cX6_nextFor, 5, (some FieldType.int), 1),
  (yX6_purse, 6, cX6_purse, 3, (some FieldType.int), 2),
  (yX6_purseOf, 6, cX6_purseOf, 3, (some FieldType.int), 2),
  (yX6_where, 6, cX6_where, 3, (some FieldType.int), 2),
  (yX6_whereOf, 6, cX6_whereOf, 3, (some FieldType.int), 2),
  (yX6_takes, 6, cX6_takes, 4, (some FieldType.int), 3),
  (yX6_takesOf, 6, cX6_takesOf, 6, (some FieldType.int), 3),
  (yX6_crew, 6, cX6_crew, 3, (some FieldType.int), 2),
  (yX6_crewOf, 6, cX6_crewOf, 3, (some FieldType.int), 2),
  (yX6_soundNow, 6, cX6_soundNow, 4, (some FieldType.int), 1),
  (yX6_ones, 6, cX6_ones, 3, (some FieldType.int), 1),
  (yX6_richest, 6, cX6_richest, 2, (some FieldType.int), 1),
  (yX6_richestOf, 6, cX6_richestOf, 4, (some FieldType.int), 1),
  (yX6_last, 6, cX6_last, 1, (some FieldType.int), 0),
  (yX6_lastOf, 6, cX6_lastOf, 1, (some FieldType.int), 0),
  (yX6_price, 6, cX6_price, 3, (some FieldType.int), 2),
  (yX6_priceOf, 6, cX6_priceOf, 8, (some FieldType.int), 2),
  (yX6_lodge, 6, cX6_lodge, 3, (some FieldType.int), 2),
  (yX6_lodgeOf, 6, cX6_lodgeOf, 9, (some FieldType.int), 2),
  (yX6_look, 6, cX6_look, 2, (some FieldType.int), 1),
  (yX6_lookOf, 6, cX6_lookOf, 5, (some FieldType.int), 1),
  (yX6_leave, 6, cX6_leave, 3, (some FieldType.int), 2),
  (yX6_leaveBy, 6, cX6_leaveBy, 4, (some FieldType.int), 1),
  (yX6_isLeft, 6, cX6_isLeft, 3, (some FieldType.boolean), 2),
  (yX6_ofRow, 6, cX6_ofRow, 3, (some FieldType.int), 2),
  (yX6_seen, 6, cX6_seen, 4, (some FieldType.int), 3),
  (yX6_forget, 6, cX6_forget, 2, (some FieldType.int), 0),
  (yX6_read, 6, cX6_read, 3, (some FieldType.int), 1),
  (yX6_isSheet, 6, cX6_isSheet, 1, (some FieldType.boolean), 1),
  (yX6_meets, 6, cX6_meets, 2, (some FieldType.int), 1),
  (yX6_never, 6, cX6_never, 1, (some FieldType.int), 0),
  (yX6_neverNow, 6, cX6_neverNow, 3, (some FieldType.int), 0),
  (yX6_isSeen, 6, cX6_isSeen, 4, (some FieldType.boolean), 0),
  (yX6_was, 6, cX6_was, 3, (some FieldType.int), 2),
  (yX6_wasOf, 6, cX6_wasOf, 7, (some FieldType.int), 2),
  (yX6_ask, 6, cX6_ask, 2, (some FieldType.int), 1),
  (yX6_askOf, 6, cX6_askOf, 10, (some FieldType.int), 1),
  (yX6_storm, 6, cX6_storm, 5, (some FieldType.long), 4),
  (yX6_stormOf, 6, cX6_stormOf, 11, (some FieldType.long), 4),
  (yX6_lowest, 6, cX6_lowest, 11, (some FieldType.long), 3),
  (yX6_no, 6, cX6_no, 1, (some FieldType.long), 1),
  (yX6_port, 6, cX6_port, 3, (some FieldType.int), 2),
  (yX6_portOf, 6, cX6_portOf, 5, (some FieldType.int), 2),
  (yX6_sailNow, 6, cX6_sailNow, 3, (some FieldType.int), 0),
  (yX6_sheet, 6, cX6_sheet, 5, (some FieldType.int), 3),
  (yX6_lose, 6, cX6_lose, 2, (some FieldType.int), 1),
  (yX6_put, 6, cX6_put, 6, (some FieldType.int), 4),
  (yX6_lacks, 6, cX6_lacks, 4, (some FieldType.int), 3),
  (yX6_keep, 6, cX6_keep, 4, none, 3),
  (yX6_get, 6, cX6_get, 5, (some FieldType.int), 3),
  (yX6_copy, 6, cX6_copy, 7, (some FieldType.int), 5),
  (yX6_write, 6, cX6_write, 4, (some FieldType.int), 2),
  (yX6_count, 6, cX6_count, 2, (some FieldType.int), 1),
  (yX6_sumOf, 6, cX6_sumOf, 2, (some FieldType.int), 1),
  (yX6_digest, 6, cX6_digest, 4, (some FieldType.long), 0),
  (yX6_sailorDigest, 6, cX6_sailorDigest, 7, (some FieldType.long), 2),
  (yX6_houseDigest, 6, cX6_houseDigest, 6, (some FieldType.long), 2),
  (yX6_shipDigest, 6, cX6_shipDigest, 7, (some FieldType.long), 2),
  (yJ0_length_8abf5, 7, cJ0_length_8abf5, 1, (some FieldType.int), 0),
  (yJ0_coder_7d493, 7, cJ0_coder_7d493, 1, (some FieldType.byte), 0),
  (yJ0_charAt_5068e, 7, cJ0_charAt_5068e, 2, (some FieldType.char), 1),
  (yJ0_isLatin1_aae02, 7, cJ0_isLatin1_aae02, 1, (some FieldType.boolean), 0),
  (yJ0_checkIndex_df160, 7, cJ0_checkIndex_df160, 2, none, 2),
  (yJ0_indexOf_0f7a4, 7, cJ0_indexOf_0f7a4, 2, (some FieldType.int), 1),
  (yJ0_indexOf_7cf53, 7, cJ0_indexOf_7cf53, 3, (some FieldType.int), 2),
  (yJ1_charAt_3b067, 8, cJ1_charAt_3b067, 2, (some FieldType.char), 2),
  (yJ1_indexOf_4cfef, 8, cJ1_indexOf_4cfef, 4, (some FieldType.int), 4),
  (yJ1_canEncode_9a6ad, 8, cJ1_canEncode_9a6ad, 1, (some FieldType.boolean), 1),
  (yJ1_indexOfChar_4cfef, 8, cJ1_indexOfChar_4cfef, 6, (some FieldType.int), 4),
  (yJ3_checkIndex_8e157, 10, cJ3_checkIndex_8e157, 3, (some FieldType.int), 3),
  (yJ6_numberOfLeadingZeros_0f7a4, 11, cJ6_numberOfLeadingZeros_0f7a4, 2, (some FieldType.int), 1),
  (yJ6_bitCount_0f7a4, 11, cJ6_bitCount_0f7a4, 1, (some FieldType.int), 1),
  (yJ6_numberOfTrailingZeros_0f7a4, 11, cJ6_numberOfTrailingZeros_0f7a4, 2, (some FieldType.int), 1),
  (yL_law, 15, cL_law, 4, (some .boolean), 1)]
def mtG (mu : Nat) : MethodName × Nat × ByteArray × Nat × Option FieldType × Nat := mtL.getD mu (yL_law, 15, cL_law, 4, some .boolean, 1)
abbrev mtY (mu : Nat) : MethodName := (mtG mu).1
abbrev mtK (mu : Nat) : Nat := (mtG mu).2.1
abbrev mtC (mu : Nat) : ByteArray := (mtG mu).2.2.1
abbrev mtM (mu : Nat) : Nat := (mtG mu).2.2.2.1
abbrev mtR (mu : Nat) : Option FieldType := (mtG mu).2.2.2.2.1
abbrev mtN (mu : Nat) : Nat := (mtG mu).2.2.2.2.2
def calL0 : List (Nat × Nat × Nat × Nat) := [(62, 1, 1, 567), (104, 1, 2, 571), (68, 1, 26, 575), (72, 1, 3, 579), (111, 1, 4, 583), (130, 0, 5, 587), (117, 1, 27, 590), (121, 1, 6, 594), (139, 4, 0, 598), (125, 0, 190, 599), (79, 1, 7, 603), (145, 1, 28, 607), (83, 3, 0, 611), (148, 0, 191, 755)]
def calL1 : List (Nat × Nat × Nat × Nat) := []
def calL2 : List (Nat × Nat × Nat × Nat) := [(25, 2, 46, 698)]
def calL3 : List (Nat × Nat × Nat × Nat) := [(40, 1, 17, 366), (23, 1, 18, 370), (27, 1, 178, 374), (32, 1, 180, 384), (36, 0, 19, 422), (47, 0, 20, 425), (53, 1, 183, 429), (43, 1, 21, 498)]
def calL4 : List (Nat × Nat × Nat × Nat) := [(58, 1, 16, 362), (64, 4, 0, 488), (70, 1, 21, 489), (74, 0, 20, 493), (78, 1, 22, 494), (81, 3, 0, 660)]
def calL5 : List (Nat × Nat × Nat × Nat) := [(74, 0, 31, 348), (187, 0, 32, 351), (85, 1, 33, 354), (329, 1, 23, 358), (333, 1, 24, 499), (336, 1, 25, 503), (137, 1, 34, 507), (89, 1, 17, 523), (93, 1, 39, 528), (110, 1, 41, 536), (119, 1, 43, 544), (140, 0, 46, 556), (143, 1, 47, 559), (195, 1, 0, 563), (159, 1, 8, 626), (172, 1, 9, 634), (176, 0, 191, 638), (191, 1, 29, 656), (207, 1, 58, 673), (278, 3, 0, 677), (210, 1, 59, 678), (342, 1, 60, 682), (213, 0, 192, 686), (216, 0, 190, 689), (219, 1, 14, 694), (227, 1, 64, 707), (234, 1, 66, 715), (237, 1, 15, 719), (241, 1, 69, 731), (345, 5, 0, 735), (251, 1, 71, 741), (261, 1, 10, 751), (264, 1, 11, 760), (268, 1, 76, 772), (271, 1, 12, 776), (275, 1, 13, 789), (284, 4, 0, 797), (291, 1, 80, 807), (294, 0, 82, 808), (298, 1, 37, 812), (301, 1, 83, 813), (350, 1, 38, 817), (353, 1, 45, 818), (356, 1, 48, 819), (359, 1, 49, 820), (305, 1, 84, 821), (362, 1, 55, 825), (365, 1, 57, 826), (368, 1, 67, 827), (371, 1, 70, 828), (308, 1, 85, 829), (375, 1, 40, 833), (378, 1, 50, 834), (381, 1, 54, 835), (326, 1, 72, 836), (311, 1, 86, 837), (384, 1, 42, 841), (387, 1, 51, 842), (390, 1, 56, 843), (314, 1, 52, 844), (317, 1, 53, 845), (320, 1, 65, 846), (323, 1, 68, 847)]
def calL6 : List (Nat × Nat × Nat × Nat) := [(111, 0, 88, 974), (107, 0, 89, 977), (149, 1, 93, 992), (145, 1, 94, 996), (132, 1, 95, 1000), (136, 1, 96, 1004), (115, 1, 97, 1008), (119, 1, 98, 1012), (139, 1, 99, 1016), (142, 1, 100, 1020), (155, 1, 102, 1028), (152, 1, 103, 1032), (158, 1, 104, 1036), (161, 1, 106, 1044), (164, 1, 108, 1052), (167, 1, 109, 1056), (199, 0, 112, 1068), (202, 1, 113, 1071), (196, 1, 114, 1075), (193, 1, 115, 1079), (186, 1, 116, 1083), (189, 1, 117, 1087), (173, 0, 118, 1091), (183, 1, 119, 1094), (177, 1, 120, 1098), (205, 1, 122, 1106), (208, 1, 124, 1114), (211, 1, 126, 1122), (221, 1, 128, 1130), (215, 1, 129, 1134), (218, 0, 130, 1138), (224, 1, 132, 1145), (227, 1, 134, 1153), (231, 1, 136, 1161), (234, 1, 138, 1169), (237, 1, 140, 1177), (243, 1, 142, 1185), (240, 1, 143, 1189), (246, 1, 144, 1193), (252, 0, 148, 1209), (255, 1, 149, 1212), (258, 1, 145, 1216), (265, 1, 151, 1221), (261, 1, 152, 1225), (268, 1, 154, 1233), (271, 1, 156, 1241), (278, 1, 158, 1249), (274, 0, 159, 1253), (282, 0, 160, 1256), (290, 1, 162, 1264), (287, 1, 163, 1269), (296, 1, 167, 1285), (299, 1, 168, 1289), (304, 1, 173, 1310), (311, 1, 172, 1320), (314, 1, 175, 1321), (318, 1, 176, 1325), (321, 1, 177, 1329)]
def calL7 : List (Nat × Nat × Nat × Nat) := [(335, 1, 179, 378), (492, 1, 181, 388), (495, 0, 185, 392), (1059, 0, 189, 400), (633, 1, 184, 433), (505, 1, 178, 437), (637, 0, 186, 438)]
def calL8 : List (Nat × Nat × Nat × Nat) := [(9, 0, 182, 395), (88, 0, 187, 441), (92, 5, 0, 444), (38, 4, 0, 447), (95, 0, 188, 450)]
def calL9 : List (Nat × Nat × Nat × Nat) := [(414, 0, 182, 412), (224, 5, 0, 456), (183, 4, 0, 457)]
def calL10 : List (Nat × Nat × Nat × Nat) := []
def calL11 : List (Nat × Nat × Nat × Nat) := []
def calL12 : List (Nat × Nat × Nat × Nat) := []
def calL13 : List (Nat × Nat × Nat × Nat) := []
def calL14 : List (Nat × Nat × Nat × Nat) := []
def calL15 : List (Nat × Nat × Nat × Nat) := [(13, 1, 30, 344), (18, 1, 35, 511), (23, 1, 36, 515), (27, 1, 37, 519), (31, 1, 38, 524), (35, 1, 40, 532), (39, 1, 42, 540), (43, 1, 44, 548), (47, 1, 45, 552), (51, 1, 48, 614), (55, 1, 49, 618), (59, 1, 50, 622), (64, 1, 51, 630), (68, 1, 52, 644), (72, 1, 53, 648), (77, 1, 54, 652), (81, 1, 55, 661), (85, 1, 56, 665), (89, 1, 57, 669), (93, 1, 61, 690), (97, 1, 62, 699), (101, 1, 63, 703), (105, 1, 65, 711), (109, 1, 67, 723), (113, 1, 68, 727), (117, 1, 70, 736), (122, 1, 72, 746), (126, 1, 73, 756), (130, 1, 74, 764), (134, 1, 75, 768), (139, 1, 77, 780), (143, 1, 78, 785), (148, 1, 79, 793), (152, 1, 80, 798), (156, 1, 81, 802), (17, 1, 87, 970), (22, 1, 90, 980), (26, 1, 91, 984), (30, 1, 92, 988), (34, 1, 101, 1024), (38, 1, 105, 1040), (42, 1, 107, 1048), (46, 1, 110, 1060), (50, 1, 111, 1064), (54, 1, 121, 1102), (58, 1, 123, 1110), (63, 1, 125, 1118), (67, 1, 127, 1126), (71, 1, 131, 1141), (76, 1, 133, 1149), (80, 1, 135, 1157), (84, 1, 137, 1165), (88, 1, 139, 1173), (92, 1, 141, 1181), (96, 1, 145, 1197), (100, 1, 146, 1201), (104, 1, 147, 1205), (108, 1, 150, 1217), (112, 1, 153, 1229), (116, 1, 155, 1237), (121, 1, 157, 1245), (125, 1, 161, 1260), (129, 1, 164, 1273), (133, 1, 165, 1277), (138, 1, 166, 1281), (142, 1, 169, 1293), (147, 1, 170, 1298), (151, 1, 171, 1302), (155, 1, 172, 1306), (160, 1, 174, 1314)]
def calT : List (List (Nat × Nat × Nat × Nat)) := [calL0, calL1, calL2, calL3, calL4, calL5, calL6, calL7, calL8, calL9, calL10, calL11, calL12, calL13, calL14, calL15]
/-- calls: of each class, (index, kind, method, place of the word); kinds: 0 static, 1 virtual, 2 static of a nest mate, 3 arraycopy, 4 Math.min, 5 Math.max -/
def cal (c idx : Nat) : Option (Nat × Nat × Nat) := findI idx (calT.getD c [])
def cstT : List (List (Nat × Int32 × Nat)) := [[], [], [], [], [], [(260, 1103515245, 750), (274, -2147483648, 784)], [(286, 1103515245, 1268), (303, -2147483648, 1297)], [], [], [(227, 65536, 458)], [], [(264, 65536, 602), (265, 1431655765, 641), (266, 858993459, 642), (267, 252645135, 643)], [], [(110, 55232, 483), (76, 56320, 487)], [], []]
def cst (c idx : Nat) : Option (Int32 × Nat) := findI idx (cstT.getD c [])
def cslT : List (List (Nat × Int64 × Nat)) := [[], [], [], [], [], [(246, -9223372036854775806, 740), (255, 2, 745), (289, 17, 806), (348, 31, 811)], [(105, -9223372036854775808, 1259), (309, 17, 1318), (307, 31, 1319)], [], [], [], [], [], [], [], [], []]
def csl (c idx : Nat) : Option (Int64 × Nat) := findI idx (cslT.getD c [])
def jmp (pc : Nat) (off : Int) : Option Nat := match (pc : Int) + off with
  | .ofNat t => some t
  | .negSucc _ => none
def nx (pc : Nat) (ls : ALoc) (st : List Value) (m : AMem) : Option ARes := some (.inl (pc, ls, st, m))
def icmpB (c : Jvm.ClassFile.Cond) (a b : Int32) : Bool := match c with
  | .eq => decide (a = b)
  | .ne => !decide (a = b)
  | .lt => decide (a < b)
  | .ge => decide (b ≤ a)
  | .gt => decide (b < a)
  | .le => decide (a ≤ b)
def inB (i : Int32) (n : Nat) : Bool := decide (0 ≤ i) && decide (i.toNatClampNeg < n)
def cat8 (st : List Value) : Bool := Nat.ble ((st.map fun v => v.category).sum) 8
/-- the locals at a method's entry -/
def entL : List Value → ALoc
  | [] => []
  | v :: vs => match Nat.beq v.category 2 with
    | true => some v :: none :: entL vs
    | false => some v :: entL vs
def argOk (q : Nat) (args : List Value) : Bool := Nat.ble (entL args).length (mtM q)
/-- the descriptor's type of field j of class ci -/
def ftyL : List (Nat → FieldType) := [tyX0, tyX1, tyX2, tyX3, tyX4, tyX5, tyX6]
def fty (ci j : Nat) : FieldType := (ftyL.getD ci tyX0) j
def fTL : List u_T := [TX0, TX1, TX2, TX3, TX4, TX5, TX6]
def fTT (ci : Nat) : u_T := fTL.getD ci TX0
def putOk (ci j : Nat) (x : Int32) : Bool := decide (narrow (fty ci j) (.int x) = .int x) && fits (fty ci j) (.int x) && !(fTT ci j).2.2.2
/-- a receiver of class number q -/
def rcvOk (a q : Nat) : Bool := match lay a with
  | (0, c, _) => Nat.beq c q
  | (6, _, _) => Nat.beq q 7
  | _ => false
/-- one step -/
def sxA (mu : Nat) (op : Nat) (k : Nat) (ls : ALoc) (st : List Value) (m : AMem) (pc : Nat) : Option ARes := match lg ls k with
  | some (.int x) => if op = 0 then nx pc ls (.int x :: st) m else none
  | some (.long x) => if op = 1 then nx pc ls (.long x :: st) m else none
  | some (.ref x) => if op = 2 then nx pc ls (.ref x :: st) m else none
  | _ => none
/-- a store of one place -/
def sxS (mu : Nat) (k : Nat) (ls : ALoc) (v : Value) (st : List Value) (m : AMem) (pc : Nat) : Option ARes :=
  if Nat.blt k ls.length && lpre ls k then nx pc (lset ls k (some v)) st m else none
def sxS2 (mu : Nat) (k : Nat) (ls : ALoc) (v : Value) (st : List Value) (m : AMem) (pc : Nat) : Option ARes :=
  if Nat.blt (k + 1) ls.length && lpre ls k then nx pc (lset (lset ls k (some v)) (k + 1) none) st m else none
def sx (S : AScr) (mu : Nat) (i : Instr) (len pc : Nat) (ls : ALoc) (st : List Value) (m : AMem) : Option ARes := match i with
  | .iconst n => if len = 1 then nx (pc + 1) ls (.int (Int32.ofInt n) :: st) m else none
  | .bipush n => if len = 2 then nx (pc + 2) ls (.int (Int8.ofInt n).toInt32 :: st) m else none
  | .sipush n => if len = 3 then nx (pc + 3) ls (.int (Int16.ofInt n).toInt32 :: st) m else none
  | .lconst n => if len = 1 then nx (pc + 1) ls (.long (Int64.ofNat n) :: st) m else none
  | .ldc idx => if len = 2 then (match cst (mtK mu) idx with
    | some (v, _) => nx (pc + 2) ls (.int v :: st) m
    | none => if mtK mu = 3 ∧ idx = 51 then nx (pc + 2) ls (.ref 110 :: st) m else none) else none
  | .ldc_w idx => if len = 3 then (match cst (mtK mu) idx with
    | some (v, _) => nx (pc + 3) ls (.int v :: st) m
    | none => none) else none
  | .ldc2_w idx => if len = 3 then (match csl (mtK mu) idx with
    | some (v, _) => nx (pc + 3) ls (.long v :: st) m
    | none => none) else none
  | .iload_n k => if len = 1 then sxA mu 0 k ls st m (pc + 1) else none
  | .iload k => if len = 2 then sxA mu 0 k ls st m (pc + 2) else none
  | .lload_n k => if len = 1 then sxA mu 1 k ls st m (pc + 1) else none
  | .lload k => if len = 2 then sxA mu 1 k ls st m (pc + 2) else none
  | .aload_n k => if len = 1 then sxA mu 2 k ls st m (pc + 1) else none
  | .aload k => if len = 2 then sxA mu 2 k ls st m (pc + 2) else none
  | .istore_n k => if len = 1 then (match st with
    | .int x :: st => sxS mu k ls (.int x) st m (pc + 1)
    | _ => none) else none
  | .istore k => if len = 2 then (match st with
    | .int x :: st => sxS mu k ls (.int x) st m (pc + 2)
    | _ => none) else none
  | .astore_n k => if len = 1 then (match st with
    | .ref x :: st => sxS mu k ls (.ref x) st m (pc + 1)
    | _ => none) else none
  | .astore k => if len = 2 then (match st with
    | .ref x :: st => sxS mu k ls (.ref x) st m (pc + 2)
    | _ => none) else none
  | .lstore_n k => if len = 1 then (match st with
    | .long x :: st => sxS2 mu k ls (.long x) st m (pc + 1)
    | _ => none) else none
  | .lstore k => if len = 2 then (match st with
    | .long x :: st => sxS2 mu k ls (.long x) st m (pc + 2)
    | _ => none) else none
  | .iinc k n => if len = 3 then (match lg ls k with
    | some (.int x) => sxS mu k ls (.int (x + Int32.ofInt n)) st m (pc + 3)
    | _ => none) else none
  | .iadd => if len = 1 then (match st with
    | .int b :: .int a :: st => nx (pc + 1) ls (.int (a + b) :: st) m
    | _ => none) else none
  | .isub => if len = 1 then (match st with
    | .int b :: .int a :: st => nx (pc + 1) ls (.int (a - b) :: st) m
    | _ => none) else none
  | .imul => if len = 1 then (match st with
    | .int b :: .int a :: st => nx (pc + 1) ls (.int (a * b) :: st) m
    | _ => none) else none
  | .idiv => if len = 1 then (match st with
    | .int b :: .int a :: st => if b = 0 then none else nx (pc + 1) ls (.int (a / b) :: st) m
    | _ => none) else none
  | .irem => if len = 1 then (match st with
    | .int b :: .int a :: st => if b = 0 then none else nx (pc + 1) ls (.int (a - a / b * b) :: st) m
    | _ => none) else none
  | .iand => if len = 1 then (match st with
    | .int b :: .int a :: st => nx (pc + 1) ls (.int (a &&& b) :: st) m
    | _ => none) else none
  | .ior => if len = 1 then (match st with
    | .int b :: .int a :: st => nx (pc + 1) ls (.int (a ||| b) :: st) m
    | _ => none) else none
  | .ixor => if len = 1 then (match st with
    | .int b :: .int a :: st => nx (pc + 1) ls (.int (a ^^^ b) :: st) m
    | _ => none) else none
  | .ishl => if len = 1 then (match st with
    | .int b :: .int a :: st => nx (pc + 1) ls (.int (a <<< (b &&& 31)) :: st) m
    | _ => none) else none
  | .ishr => if len = 1 then (match st with
    | .int b :: .int a :: st => nx (pc + 1) ls (.int (a >>> (b &&& 31)) :: st) m
    | _ => none) else none
  | .iushr => if len = 1 then (match st with
    | .int b :: .int a :: st => nx (pc + 1) ls (.int (a.toUInt32 >>> (b.toUInt32 &&& Int32.toUInt32 31)).toInt32 :: st) m
    | _ => none) else none
  | .ladd => if len = 1 then (match st with
    | .long b :: .long a :: st => nx (pc + 1) ls (.long (a + b) :: st) m
    | _ => none) else none
  | .lsub => if len = 1 then (match st with
    | .long b :: .long a :: st => nx (pc + 1) ls (.long (a - b) :: st) m
    | _ => none) else none
  | .lmul => if len = 1 then (match st with
    | .long b :: .long a :: st => nx (pc + 1) ls (.long (a * b) :: st) m
    | _ => none) else none
  | .ldiv => if len = 1 then (match st with
    | .long b :: .long a :: st => if b = 0 then none else nx (pc + 1) ls (.long (a / b) :: st) m
    | _ => none) else none
  | .lrem => if len = 1 then (match st with
    | .long b :: .long a :: st => if b = 0 then none else nx (pc + 1) ls (.long (a - a / b * b) :: st) m
    | _ => none) else none
  | .lshl => if len = 1 then (match st with
    | .int b :: .long a :: st => nx (pc + 1) ls (.long (a <<< (b.toInt64 &&& 63)) :: st) m
    | _ => none) else none
  | .lcmp => if len = 1 then (match st with
    | .long b :: .long a :: st => nx (pc + 1) ls (.int (lg_cmp a b) :: st) m
    | _ => none) else none
  | .i2l => if len = 1 then (match st with
    | .int a :: st => nx (pc + 1) ls (.long a.toInt64 :: st) m
    | _ => none) else none
  | .i2b => if len = 1 then (match st with
    | .int a :: st => nx (pc + 1) ls (.int a.toInt8.toInt32 :: st) m
    | _ => none) else none
  | .i2s => if len = 1 then (match st with
    | .int a :: st => nx (pc + 1) ls (.int a.toInt16.toInt32 :: st) m
    | _ => none) else none
  | .i2c => if len = 1 then (match st with
    | .int a :: st => nx (pc + 1) ls (.int (a.toUInt32 % 65536).toInt32 :: st) m
    | _ => none) else none
  | .dup => if len = 1 then (match st with
    | .int a :: st => nx (pc + 1) ls (.int a :: .int a :: st) m
    | .ref a :: st => nx (pc + 1) ls (.ref a :: .ref a :: st) m
    | _ => none) else none
  | .dup2 => if len = 1 then (match st with
    | .long a :: st => nx (pc + 1) ls (.long a :: .long a :: st) m
    | .int a :: .ref b :: st => nx (pc + 1) ls (.int a :: .ref b :: .int a :: .ref b :: st) m
    | _ => none) else none
  | .pop => if len = 1 then (match st with
    | .int _ :: st => nx (pc + 1) ls st m
    | _ => none) else none
  | .ifCond c off => if len = 3 then (match st, jmp pc off with
    | .int a :: st, some t => nx (bif icmpB c a 0 then t else pc + 3) ls st m
    | _, _ => none) else none
  | .if_icmp c off => if len = 3 then (match st, jmp pc off with
    | .int b :: .int a :: st, some t => nx (bif icmpB c a b then t else pc + 3) ls st m
    | _, _ => none) else none
  | .goto off => if len = 3 then (match jmp pc off with
    | some t => nx t ls st m
    | none => none) else none
  | .tableswitch dflt lo hi offs => match st with
    | .int x :: st => match jmp pc (if x.toInt < lo ∨ hi < x.toInt then dflt else (offs[(x.toInt - lo).toNat]?).getD dflt) with
      | some t => if x.toInt < lo ∨ hi < x.toInt ∨ (x.toInt - lo).toNat < offs.size then nx t ls st m else none
      | none => none
    | _ => none
  | .lookupswitch dflt ps => match st with
    | .int x :: st => match jmp pc (Op.lookupswitch.offset ps.toList dflt x.toInt) with
      | some t => if (ps.toList.zip (ps.toList.drop 1)).all (fun (a, next) => a.1 < next.1) then nx t ls st m else none
      | none => none
    | _ => none
  | .iaload => if len = 1 then (match st with
    | .int i :: .ref a :: st => match lay a with
      | (1, 0, n) => if inB i n then nx (pc + 1) ls (.int (m a i.toNatClampNeg) :: st) m else none
      | (8, 0, _) => if inB i S.1 then nx (pc + 1) ls (.int (S.2 i.toNatClampNeg) :: st) m else none
      | _ => none
    | _ => none) else none
  | .caload => if len = 1 then (match st with
    | .int i :: .ref a :: st => match lay a with
      | (1, 1, n) => if inB i n then nx (pc + 1) ls (.int (m a i.toNatClampNeg) :: st) m else none
      | _ => none
    | _ => none) else none
  | .baload => if len = 1 then (match st with
    | .int i :: .ref a :: st => match lay a with
      | (1, 2, n) => if inB i n then nx (pc + 1) ls (.int (m a i.toNatClampNeg) :: st) m else none
      | (7, k, n) => if inB i n then nx (pc + 1) ls (.int ((strL.getD k []).getD i.toNatClampNeg 0) :: st) m else none
      | _ => none
    | _ => none) else none
  | .aaload => if len = 1 then (match st with
    | .int i :: .ref a :: st => match lay a with
      | (2, _, n) => if inB i n then (match rf a i.toNatClampNeg with
        | some r => nx (pc + 1) ls (.ref r :: st) m
        | none => none) else none
      | _ => none
    | _ => none) else none
  | .arraylength => if len = 1 then (match st with
    | .ref a :: st => match lay a with
      | (1, _, n) => nx (pc + 1) ls (.int (nI n) :: st) m
      | (2, _, n) => nx (pc + 1) ls (.int (nI n) :: st) m
      | (7, _, n) => nx (pc + 1) ls (.int (nI n) :: st) m
      | (8, _, _) => nx (pc + 1) ls (.int (nI S.1) :: st) m
      | _ => none
    | _ => none) else none
  | .iastore => if len = 1 then (match st with
    | .int x :: .int i :: .ref a :: st => match lay a with
      | (1, 0, n) => if inB i n then nx (pc + 1) ls st (up m a i.toNatClampNeg x) else none
      | _ => none
    | _ => none) else none
  | .castore => if len = 1 then (match st with
    | .int x :: .int i :: .ref a :: st => match lay a with
      | (1, 1, n) => if inB i n then nx (pc + 1) ls st (up m a i.toNatClampNeg (vp_nar .char x)) else none
      | _ => none
    | _ => none) else none
  | .bastore => if len = 1 then (match st with
    | .int x :: .int i :: .ref a :: st => match lay a with
      | (1, 2, n) => if inB i n then nx (pc + 1) ls st (up m a i.toNatClampNeg (vp_nar .boolean x)) else none
      | _ => none
    | _ => none) else none
  | .getfield idx => if len = 3 then (match st, fld (mtK mu) idx with
    | .ref a :: st, some (ci, j, _) => match lay a with
      | (0, c, n) => if c = ci ∧ j < n then nx (pc + 3) ls (fv a j m :: st) m else none
      | (6, _, _) => if ci = 7 then nx (pc + 3) ls ((if j = 0 then .ref (a + 1) else .int 0) :: st) m else none
      | _ => none
    | _, _ => none) else none
  | .putfield idx => if len = 3 then (match st, fld (mtK mu) idx with
    | .int x :: .ref a :: st, some (ci, j, _) => match lay a with
      | (0, c, n) => if c = ci ∧ j < n ∧ rf a j = none ∧ putOk ci j x then nx (pc + 3) ls st (up m a j x) else none
      | _ => none
    | _, _ => none) else none
  | .getstatic idx => if len = 3 then (if mtK mu = 7 then (if idx = 38 then nx (pc + 3) ls (.int 1 :: st) m else if idx = 1053 then nx (pc + 3) ls (.null :: st) m else none) else none) else none
  | .invokestatic idx => if len = 3 then (match cal (mtK mu) idx with
    | some (3, _, _) => match st with
      | .int n :: .int dp :: .ref b :: .int sp :: .ref a :: st => match lay a, lay b with
        | (1, 0, n0), (1, 0, n1) => if ¬ sp < 0 ∧ ¬ dp < 0 ∧ ¬ n < 0 ∧ sp.toNatClampNeg + n.toNatClampNeg ≤ n0 ∧ dp.toNatClampNeg + n.toNatClampNeg ≤ n1 ∧ cat8 st then nx (pc + 3) ls st (upA m b (va_cpy (m a) (m b) sp.toNatClampNeg dp.toNatClampNeg n.toNatClampNeg)) else none
        | _, _ => none
      | _ => none
    | some (4, _, _) => match st with
      | .int y :: .int x :: st => if cat8 st then nx (pc + 3) ls (.int (if y < x then y else x) :: st) m else none
      | _ => none
    | some (5, _, _) => match st with
      | .int y :: .int x :: st => if cat8 st then nx (pc + 3) ls (.int (if x < y then y else x) :: st) m else none
      | _ => none
    | some (1, _, _) => none
    | some (_, q, _) => if mtN q ≤ st.length ∧ cat8 (st.drop (mtN q)) ∧ argOk q (st.take (mtN q)).reverse then some (.inr (.inr (q, (st.take (mtN q)).reverse, st.drop (mtN q)))) else none
    | none => none) else none
  | .invokevirtual idx => if len = 3 then (match cal (mtK mu) idx with
    | some (1, q, _) => match st.drop (mtN q) with
      | .ref a :: rest => if mtN q ≤ st.length ∧ rcvOk a (mtK q) ∧ cat8 rest ∧ argOk q (.ref a :: (st.take (mtN q)).reverse) then some (.inr (.inr (q, .ref a :: (st.take (mtN q)).reverse, rest))) else none
      | _ => none
    | _ => none) else none
  | .ireturn => if len = 1 then (match st, mtR mu with
    | [.int x], some ty => if narrow ty (.int x) = .int x then some (.inr (.inl (some (.int x)))) else none
    | _, _ => none) else none
  | .lreturn => if len = 1 then (match st, mtR mu with
    | [.long x], some .long => some (.inr (.inl (some (.long x))))
    | _, _ => none) else none
  | .areturn => if len = 1 then (match st, mtR mu with
    | [.ref x], some (.object _) => some (.inr (.inl (some (.ref x))))
    | _, _ => none) else none
  | .return_ => if len = 1 then (match st, mtR mu with
    | [], none => some (.inr (.inl none))
    | _, _ => none) else none
  | _ => none
