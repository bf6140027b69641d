def ks_Book_0 : List (Option Nat) := [some 1]
def lay_Book : List Sh := [.inl (0, ks_Book_0), .inr false]
theorem lk_Book_0 : lay_Book[0]? = some (.inl (0, ks_Book_0)) := rfl
theorem lk_Book_1 : lay_Book[1]? = some (.inr false) := rfl
def ks_Law_0 : List (Option Nat) := [none, none, some 1, some 2, some 3, some 4, some 5, some 6]
def lay_Law : List Sh := [.inl (2, ks_Law_0), .inr false, .inr false, .inr false, .inr false, .inr false, .inr false]
theorem lk_Law_0 : lay_Law[0]? = some (.inl (2, ks_Law_0)) := rfl
theorem lk_Law_1 : lay_Law[1]? = some (.inr false) := rfl
theorem lk_Law_2 : lay_Law[2]? = some (.inr false) := rfl
theorem lk_Law_3 : lay_Law[3]? = some (.inr false) := rfl
theorem lk_Law_4 : lay_Law[4]? = some (.inr false) := rfl
theorem lk_Law_5 : lay_Law[5]? = some (.inr false) := rfl
theorem lk_Law_6 : lay_Law[6]? = some (.inr false) := rfl
def ks_Lines_0 : List (Option Nat) := [none, some 1, some 2, some 3, some 4]
def lay_Lines : List Sh := [.inl (5, ks_Lines_0), .inr false, .inr false, .inr false, .inr false]
theorem lk_Lines_0 : lay_Lines[0]? = some (.inl (5, ks_Lines_0)) := rfl
theorem lk_Lines_1 : lay_Lines[1]? = some (.inr false) := rfl
theorem lk_Lines_2 : lay_Lines[2]? = some (.inr false) := rfl
theorem lk_Lines_3 : lay_Lines[3]? = some (.inr false) := rfl
theorem lk_Lines_4 : lay_Lines[4]? = some (.inr false) := rfl
def ks_Puzzles_0 : List (Option Nat) := [some 1, some 2, none, some 3]
def lay_Puzzles : List Sh := [.inl (6, ks_Puzzles_0), .inr false, .inr false, .inr false]
theorem lk_Puzzles_0 : lay_Puzzles[0]? = some (.inl (6, ks_Puzzles_0)) := rfl
theorem lk_Puzzles_1 : lay_Puzzles[1]? = some (.inr false) := rfl
theorem lk_Puzzles_2 : lay_Puzzles[2]? = some (.inr false) := rfl
theorem lk_Puzzles_3 : lay_Puzzles[3]? = some (.inr false) := rfl
def ks_Tape_0 : List (Option Nat) := [none, some 1, none, none, none, none, none, none]
def lay_Tape : List Sh := [.inl (7, ks_Tape_0), .inr false]
theorem lk_Tape_0 : lay_Tape[0]? = some (.inl (7, ks_Tape_0)) := rfl
theorem lk_Tape_1 : lay_Tape[1]? = some (.inr false) := rfl
def ks_Told_0 : List (Option Nat) := [none, some 1]
def lay_Told : List Sh := [.inl (8, ks_Told_0), .inr false]
theorem lk_Told_0 : lay_Told[0]? = some (.inl (8, ks_Told_0)) := rfl
theorem lk_Told_1 : lay_Told[1]? = some (.inr false) := rfl
def ks_World_0 : List (Option Nat) := [none, none, none, none, none, none, none, some 1, some 2, some 3, some 4, some 5, some 6, some 7, some 8, some 9, some 10, some 11, some 12]
def lay_World : List Sh := [.inl (9, ks_World_0), .inr false, .inr false, .inr false, .inr false, .inr false, .inr false, .inr false, .inr false, .inr false, .inr false, .inr false, .inr false]
theorem lk_World_0 : lay_World[0]? = some (.inl (9, ks_World_0)) := rfl
theorem lk_World_1 : lay_World[1]? = some (.inr false) := rfl
theorem lk_World_2 : lay_World[2]? = some (.inr false) := rfl
theorem lk_World_3 : lay_World[3]? = some (.inr false) := rfl
theorem lk_World_4 : lay_World[4]? = some (.inr false) := rfl
theorem lk_World_5 : lay_World[5]? = some (.inr false) := rfl
theorem lk_World_6 : lay_World[6]? = some (.inr false) := rfl
theorem lk_World_7 : lay_World[7]? = some (.inr false) := rfl
theorem lk_World_8 : lay_World[8]? = some (.inr false) := rfl
theorem lk_World_9 : lay_World[9]? = some (.inr false) := rfl
theorem lk_World_10 : lay_World[10]? = some (.inr false) := rfl
theorem lk_World_11 : lay_World[11]? = some (.inr false) := rfl
theorem lk_World_12 : lay_World[12]? = some (.inr false) := rfl
def ks_KL_0 : List (Option Nat) := [some 1, some 50, none, some 99, some 112, none, some 113, some 115, some 123, some 129]
def ks_KL_1 : List (Option Nat) := [some 2, some 15, some 17, some 24, some 29, some 34, some 39, some 41, some 43, some 45, some 47, some 49]
def ks_KL_2 : List (Option Nat) := [none, none, none, none, none, none, none, some 3, some 4, some 5, some 6, some 7, some 8, some 9, some 10, some 11, some 12, some 13, some 14]
def ks_KL_15 : List (Option Nat) := [some 16]
def ks_KL_17 : List (Option Nat) := [none, none, some 18, some 19, some 20, some 21, some 22, some 23]
def ks_KL_24 : List (Option Nat) := [none, some 25, some 26, some 27, some 28]
def ks_KL_29 : List (Option Nat) := [none, some 30, some 31, some 32, some 33]
def ks_KL_34 : List (Option Nat) := [none, some 35, some 36, some 37, some 38]
def ks_KL_39 : List (Option Nat) := [none, some 40]
def ks_KL_41 : List (Option Nat) := [none, some 42]
def ks_KL_43 : List (Option Nat) := [none, some 44]
def ks_KL_45 : List (Option Nat) := [none, some 46]
def ks_KL_47 : List (Option Nat) := [none, some 48]
def ks_KL_50 : List (Option Nat) := [some 51, some 64, some 66, some 73, some 78, some 83, some 88, some 90, some 92, some 94, some 96, some 98]
def ks_KL_51 : List (Option Nat) := [none, none, none, none, none, none, none, some 52, some 53, some 54, some 55, some 56, some 57, some 58, some 59, some 60, some 61, some 62, some 63]
def ks_KL_64 : List (Option Nat) := [some 65]
def ks_KL_66 : List (Option Nat) := [none, none, some 67, some 68, some 69, some 70, some 71, some 72]
def ks_KL_73 : List (Option Nat) := [none, some 74, some 75, some 76, some 77]
def ks_KL_78 : List (Option Nat) := [none, some 79, some 80, some 81, some 82]
def ks_KL_83 : List (Option Nat) := [none, some 84, some 85, some 86, some 87]
def ks_KL_88 : List (Option Nat) := [none, some 89]
def ks_KL_90 : List (Option Nat) := [none, some 91]
def ks_KL_92 : List (Option Nat) := [none, some 93]
def ks_KL_94 : List (Option Nat) := [none, some 95]
def ks_KL_96 : List (Option Nat) := [none, some 97]
def ks_KL_99 : List (Option Nat) := [none, none, none, none, none, none, none, some 100, some 101, some 102, some 103, some 104, some 105, some 106, some 107, some 108, some 109, some 110, some 111]
def ks_KL_113 : List (Option Nat) := [none, some 114, none, none, none, none, none, none]
def ks_KL_115 : List (Option Nat) := [some 116]
def ks_KL_116 : List (Option Nat) := [none, none, some 117, some 118, some 119, some 120, some 121, some 122]
def ks_KL_123 : List (Option Nat) := [some 124, none]
def ks_KL_124 : List (Option Nat) := [none, some 125, some 126, some 127, some 128]
def ks_KL_129 : List (Option Nat) := [some 130, some 131, none, some 132]
def ks_KL_133 : List (Option Nat) := [none, none, none, none, none, none, none, some 134, some 135, some 136, some 137, some 138, some 139, some 140, some 141, some 142, some 143, some 144, some 145]
def ks_KL_146 : List (Option Nat) := [none, none, none, none, none, none, none, some 147, some 148, some 149, some 150, some 151, some 152, some 153, some 154, some 155, some 156, some 157, some 158]
def ks_KL_159 : List (Option Nat) := [none, none, none, none, none, none, none, some 160, some 161, some 162, some 163, some 164, some 165, some 166, some 167, some 168, some 169, some 170, some 171]
def ks_KL_172 : List (Option Nat) := [none, none, none, none, none, none, none, some 173, some 174, some 175, some 176, some 177, some 178, some 179, some 180, some 181, some 182, some 183, some 184]
def ks_KL_185 : List (Option Nat) := [none, none, none, none, none, none, none, some 186, some 187, some 188, some 189, some 190, some 191, some 192, some 193, some 194, some 195, some 196, some 197]
def ks_KL_198 : List (Option Nat) := [none, none, none, none, none, none, none, some 199, some 200, some 201, some 202, some 203, some 204, some 205, some 206, some 207, some 208, some 209, some 210]
def lay_KL : List Sh := [.inl (10, ks_KL_0), .inl (1, ks_KL_1), .inl (9, ks_KL_2), .inr false, .inr false, .inr false, .inr false, .inr false, .inr false, .inr false, .inr false, .inr false, .inr false, .inr false, .inr false, .inl (0, ks_KL_15), .inr false, .inl (2, ks_KL_17), .inr false, .inr false, .inr false, .inr false, .inr false, .inr false, .inl (5, ks_KL_24), .inr false, .inr false, .inr false, .inr false, .inl (5, ks_KL_29), .inr false, .inr false, .inr false, .inr false, .inl (5, ks_KL_34), .inr false, .inr false, .inr false, .inr false, .inl (8, ks_KL_39), .inr false, .inl (8, ks_KL_41), .inr false, .inl (8, ks_KL_43), .inr false, .inl (8, ks_KL_45), .inr false, .inl (8, ks_KL_47), .inr false, .inr false, .inl (1, ks_KL_50), .inl (9, ks_KL_51), .inr false, .inr false, .inr false, .inr false, .inr false, .inr false, .inr false, .inr false, .inr false, .inr false, .inr false, .inr false, .inl (0, ks_KL_64), .inr false, .inl (2, ks_KL_66), .inr false, .inr false, .inr false, .inr false, .inr false, .inr false, .inl (5, ks_KL_73), .inr false, .inr false, .inr false, .inr false, .inl (5, ks_KL_78), .inr false, .inr false, .inr false, .inr false, .inl (5, ks_KL_83), .inr false, .inr false, .inr false, .inr false, .inl (8, ks_KL_88), .inr false, .inl (8, ks_KL_90), .inr false, .inl (8, ks_KL_92), .inr false, .inl (8, ks_KL_94), .inr false, .inl (8, ks_KL_96), .inr false, .inr false, .inl (9, ks_KL_99), .inr false, .inr false, .inr false, .inr false, .inr false, .inr false, .inr false, .inr false, .inr false, .inr false, .inr false, .inr false, .inr true, .inl (7, ks_KL_113), .inr false, .inl (3, ks_KL_115), .inl (2, ks_KL_116), .inr false, .inr false, .inr false, .inr false, .inr false, .inr false, .inl (4, ks_KL_123), .inl (5, ks_KL_124), .inr false, .inr false, .inr false, .inr false, .inl (6, ks_KL_129), .inr false, .inr false, .inr false, .inl (9, ks_KL_133), .inr false, .inr false, .inr false, .inr false, .inr false, .inr false, .inr false, .inr false, .inr false, .inr false, .inr false, .inr false, .inl (9, ks_KL_146), .inr false, .inr false, .inr false, .inr false, .inr false, .inr false, .inr false, .inr false, .inr false, .inr false, .inr false, .inr false, .inl (9, ks_KL_159), .inr false, .inr false, .inr false, .inr false, .inr false, .inr false, .inr false, .inr false, .inr false, .inr false, .inr false, .inr false, .inl (9, ks_KL_172), .inr false, .inr false, .inr false, .inr false, .inr false, .inr false, .inr false, .inr false, .inr false, .inr false, .inr false, .inr false, .inl (9, ks_KL_185), .inr false, .inr false, .inr false, .inr false, .inr false, .inr false, .inr false, .inr false, .inr false, .inr false, .inr false, .inr false, .inl (9, ks_KL_198), .inr false, .inr false, .inr false, .inr false, .inr false, .inr false, .inr false, .inr false, .inr false, .inr false, .inr false, .inr false]
theorem lk_KL_0 : lay_KL[0]? = some (.inl (10, ks_KL_0)) := rfl
theorem lk_KL_1 : lay_KL[1]? = some (.inl (1, ks_KL_1)) := rfl
theorem lk_KL_2 : lay_KL[2]? = some (.inl (9, ks_KL_2)) := rfl
theorem lk_KL_3 : lay_KL[3]? = some (.inr false) := rfl
theorem lk_KL_4 : lay_KL[4]? = some (.inr false) := rfl
theorem lk_KL_5 : lay_KL[5]? = some (.inr false) := rfl
theorem lk_KL_6 : lay_KL[6]? = some (.inr false) := rfl
theorem lk_KL_7 : lay_KL[7]? = some (.inr false) := rfl
theorem lk_KL_8 : lay_KL[8]? = some (.inr false) := rfl
theorem lk_KL_9 : lay_KL[9]? = some (.inr false) := rfl
theorem lk_KL_10 : lay_KL[10]? = some (.inr false) := rfl
theorem lk_KL_11 : lay_KL[11]? = some (.inr false) := rfl
theorem lk_KL_12 : lay_KL[12]? = some (.inr false) := rfl
theorem lk_KL_13 : lay_KL[13]? = some (.inr false) := rfl
theorem lk_KL_14 : lay_KL[14]? = some (.inr false) := rfl
theorem lk_KL_15 : lay_KL[15]? = some (.inl (0, ks_KL_15)) := rfl
theorem lk_KL_16 : lay_KL[16]? = some (.inr false) := rfl
theorem lk_KL_17 : lay_KL[17]? = some (.inl (2, ks_KL_17)) := rfl
theorem lk_KL_18 : lay_KL[18]? = some (.inr false) := rfl
theorem lk_KL_19 : lay_KL[19]? = some (.inr false) := rfl
theorem lk_KL_20 : lay_KL[20]? = some (.inr false) := rfl
theorem lk_KL_21 : lay_KL[21]? = some (.inr false) := rfl
theorem lk_KL_22 : lay_KL[22]? = some (.inr false) := rfl
theorem lk_KL_23 : lay_KL[23]? = some (.inr false) := rfl
theorem lk_KL_24 : lay_KL[24]? = some (.inl (5, ks_KL_24)) := rfl
theorem lk_KL_25 : lay_KL[25]? = some (.inr false) := rfl
theorem lk_KL_26 : lay_KL[26]? = some (.inr false) := rfl
theorem lk_KL_27 : lay_KL[27]? = some (.inr false) := rfl
theorem lk_KL_28 : lay_KL[28]? = some (.inr false) := rfl
theorem lk_KL_29 : lay_KL[29]? = some (.inl (5, ks_KL_29)) := rfl
theorem lk_KL_30 : lay_KL[30]? = some (.inr false) := rfl
theorem lk_KL_31 : lay_KL[31]? = some (.inr false) := rfl
theorem lk_KL_32 : lay_KL[32]? = some (.inr false) := rfl
theorem lk_KL_33 : lay_KL[33]? = some (.inr false) := rfl
theorem lk_KL_34 : lay_KL[34]? = some (.inl (5, ks_KL_34)) := rfl
theorem lk_KL_35 : lay_KL[35]? = some (.inr false) := rfl
theorem lk_KL_36 : lay_KL[36]? = some (.inr false) := rfl
theorem lk_KL_37 : lay_KL[37]? = some (.inr false) := rfl
theorem lk_KL_38 : lay_KL[38]? = some (.inr false) := rfl
theorem lk_KL_39 : lay_KL[39]? = some (.inl (8, ks_KL_39)) := rfl
theorem lk_KL_40 : lay_KL[40]? = some (.inr false) := rfl
theorem lk_KL_41 : lay_KL[41]? = some (.inl (8, ks_KL_41)) := rfl
theorem lk_KL_42 : lay_KL[42]? = some (.inr false) := rfl
theorem lk_KL_43 : lay_KL[43]? = some (.inl (8, ks_KL_43)) := rfl
theorem lk_KL_44 : lay_KL[44]? = some (.inr false) := rfl
theorem lk_KL_45 : lay_KL[45]? = some (.inl (8, ks_KL_45)) := rfl
theorem lk_KL_46 : lay_KL[46]? = some (.inr false) := rfl
theorem lk_KL_47 : lay_KL[47]? = some (.inl (8, ks_KL_47)) := rfl
theorem lk_KL_48 : lay_KL[48]? = some (.inr false) := rfl
theorem lk_KL_49 : lay_KL[49]? = some (.inr false) := rfl
theorem lk_KL_50 : lay_KL[50]? = some (.inl (1, ks_KL_50)) := rfl
theorem lk_KL_51 : lay_KL[51]? = some (.inl (9, ks_KL_51)) := rfl
theorem lk_KL_52 : lay_KL[52]? = some (.inr false) := rfl
theorem lk_KL_53 : lay_KL[53]? = some (.inr false) := rfl
theorem lk_KL_54 : lay_KL[54]? = some (.inr false) := rfl
theorem lk_KL_55 : lay_KL[55]? = some (.inr false) := rfl
theorem lk_KL_56 : lay_KL[56]? = some (.inr false) := rfl
theorem lk_KL_57 : lay_KL[57]? = some (.inr false) := rfl
theorem lk_KL_58 : lay_KL[58]? = some (.inr false) := rfl
theorem lk_KL_59 : lay_KL[59]? = some (.inr false) := rfl
theorem lk_KL_60 : lay_KL[60]? = some (.inr false) := rfl
theorem lk_KL_61 : lay_KL[61]? = some (.inr false) := rfl
theorem lk_KL_62 : lay_KL[62]? = some (.inr false) := rfl
theorem lk_KL_63 : lay_KL[63]? = some (.inr false) := rfl
theorem lk_KL_64 : lay_KL[64]? = some (.inl (0, ks_KL_64)) := rfl
theorem lk_KL_65 : lay_KL[65]? = some (.inr false) := rfl
theorem lk_KL_66 : lay_KL[66]? = some (.inl (2, ks_KL_66)) := rfl
theorem lk_KL_67 : lay_KL[67]? = some (.inr false) := rfl
theorem lk_KL_68 : lay_KL[68]? = some (.inr false) := rfl
theorem lk_KL_69 : lay_KL[69]? = some (.inr false) := rfl
theorem lk_KL_70 : lay_KL[70]? = some (.inr false) := rfl
theorem lk_KL_71 : lay_KL[71]? = some (.inr false) := rfl
theorem lk_KL_72 : lay_KL[72]? = some (.inr false) := rfl
theorem lk_KL_73 : lay_KL[73]? = some (.inl (5, ks_KL_73)) := rfl
theorem lk_KL_74 : lay_KL[74]? = some (.inr false) := rfl
theorem lk_KL_75 : lay_KL[75]? = some (.inr false) := rfl
theorem lk_KL_76 : lay_KL[76]? = some (.inr false) := rfl
theorem lk_KL_77 : lay_KL[77]? = some (.inr false) := rfl
theorem lk_KL_78 : lay_KL[78]? = some (.inl (5, ks_KL_78)) := rfl
theorem lk_KL_79 : lay_KL[79]? = some (.inr false) := rfl
theorem lk_KL_80 : lay_KL[80]? = some (.inr false) := rfl
theorem lk_KL_81 : lay_KL[81]? = some (.inr false) := rfl
theorem lk_KL_82 : lay_KL[82]? = some (.inr false) := rfl
theorem lk_KL_83 : lay_KL[83]? = some (.inl (5, ks_KL_83)) := rfl
theorem lk_KL_84 : lay_KL[84]? = some (.inr false) := rfl
theorem lk_KL_85 : lay_KL[85]? = some (.inr false) := rfl
theorem lk_KL_86 : lay_KL[86]? = some (.inr false) := rfl
theorem lk_KL_87 : lay_KL[87]? = some (.inr false) := rfl
theorem lk_KL_88 : lay_KL[88]? = some (.inl (8, ks_KL_88)) := rfl
theorem lk_KL_89 : lay_KL[89]? = some (.inr false) := rfl
theorem lk_KL_90 : lay_KL[90]? = some (.inl (8, ks_KL_90)) := rfl
theorem lk_KL_91 : lay_KL[91]? = some (.inr false) := rfl
theorem lk_KL_92 : lay_KL[92]? = some (.inl (8, ks_KL_92)) := rfl
theorem lk_KL_93 : lay_KL[93]? = some (.inr false) := rfl
theorem lk_KL_94 : lay_KL[94]? = some (.inl (8, ks_KL_94)) := rfl
theorem lk_KL_95 : lay_KL[95]? = some (.inr false) := rfl
theorem lk_KL_96 : lay_KL[96]? = some (.inl (8, ks_KL_96)) := rfl
theorem lk_KL_97 : lay_KL[97]? = some (.inr false) := rfl
theorem lk_KL_98 : lay_KL[98]? = some (.inr false) := rfl
theorem lk_KL_99 : lay_KL[99]? = some (.inl (9, ks_KL_99)) := rfl
theorem lk_KL_100 : lay_KL[100]? = some (.inr false) := rfl
theorem lk_KL_101 : lay_KL[101]? = some (.inr false) := rfl
theorem lk_KL_102 : lay_KL[102]? = some (.inr false) := rfl
theorem lk_KL_103 : lay_KL[103]? = some (.inr false) := rfl
theorem lk_KL_104 : lay_KL[104]? = some (.inr false) := rfl
theorem lk_KL_105 : lay_KL[105]? = some (.inr false) := rfl
theorem lk_KL_106 : lay_KL[106]? = some (.inr false) := rfl
theorem lk_KL_107 : lay_KL[107]? = some (.inr false) := rfl
theorem lk_KL_108 : lay_KL[108]? = some (.inr false) := rfl
theorem lk_KL_109 : lay_KL[109]? = some (.inr false) := rfl
theorem lk_KL_110 : lay_KL[110]? = some (.inr false) := rfl
theorem lk_KL_111 : lay_KL[111]? = some (.inr false) := rfl
theorem lk_KL_112 : lay_KL[112]? = some (.inr true) := rfl
theorem lk_KL_113 : lay_KL[113]? = some (.inl (7, ks_KL_113)) := rfl
theorem lk_KL_114 : lay_KL[114]? = some (.inr false) := rfl
theorem lk_KL_115 : lay_KL[115]? = some (.inl (3, ks_KL_115)) := rfl
theorem lk_KL_116 : lay_KL[116]? = some (.inl (2, ks_KL_116)) := rfl
theorem lk_KL_117 : lay_KL[117]? = some (.inr false) := rfl
theorem lk_KL_118 : lay_KL[118]? = some (.inr false) := rfl
theorem lk_KL_119 : lay_KL[119]? = some (.inr false) := rfl
theorem lk_KL_120 : lay_KL[120]? = some (.inr false) := rfl
theorem lk_KL_121 : lay_KL[121]? = some (.inr false) := rfl
theorem lk_KL_122 : lay_KL[122]? = some (.inr false) := rfl
theorem lk_KL_123 : lay_KL[123]? = some (.inl (4, ks_KL_123)) := rfl
theorem lk_KL_124 : lay_KL[124]? = some (.inl (5, ks_KL_124)) := rfl
theorem lk_KL_125 : lay_KL[125]? = some (.inr false) := rfl
theorem lk_KL_126 : lay_KL[126]? = some (.inr false) := rfl
theorem lk_KL_127 : lay_KL[127]? = some (.inr false) := rfl
theorem lk_KL_128 : lay_KL[128]? = some (.inr false) := rfl
theorem lk_KL_129 : lay_KL[129]? = some (.inl (6, ks_KL_129)) := rfl
theorem lk_KL_130 : lay_KL[130]? = some (.inr false) := rfl
theorem lk_KL_131 : lay_KL[131]? = some (.inr false) := rfl
theorem lk_KL_132 : lay_KL[132]? = some (.inr false) := rfl
theorem lk_KL_133 : lay_KL[133]? = some (.inl (9, ks_KL_133)) := rfl
theorem lk_KL_134 : lay_KL[134]? = some (.inr false) := rfl
theorem lk_KL_135 : lay_KL[135]? = some (.inr false) := rfl
theorem lk_KL_136 : lay_KL[136]? = some (.inr false) := rfl
theorem lk_KL_137 : lay_KL[137]? = some (.inr false) := rfl
theorem lk_KL_138 : lay_KL[138]? = some (.inr false) := rfl
theorem lk_KL_139 : lay_KL[139]? = some (.inr false) := rfl
theorem lk_KL_140 : lay_KL[140]? = some (.inr false) := rfl
theorem lk_KL_141 : lay_KL[141]? = some (.inr false) := rfl
theorem lk_KL_142 : lay_KL[142]? = some (.inr false) := rfl
theorem lk_KL_143 : lay_KL[143]? = some (.inr false) := rfl
theorem lk_KL_144 : lay_KL[144]? = some (.inr false) := rfl
theorem lk_KL_145 : lay_KL[145]? = some (.inr false) := rfl
theorem lk_KL_146 : lay_KL[146]? = some (.inl (9, ks_KL_146)) := rfl
theorem lk_KL_147 : lay_KL[147]? = some (.inr false) := rfl
theorem lk_KL_148 : lay_KL[148]? = some (.inr false) := rfl
theorem lk_KL_149 : lay_KL[149]? = some (.inr false) := rfl
theorem lk_KL_150 : lay_KL[150]? = some (.inr false) := rfl
theorem lk_KL_151 : lay_KL[151]? = some (.inr false) := rfl
theorem lk_KL_152 : lay_KL[152]? = some (.inr false) := rfl
theorem lk_KL_153 : lay_KL[153]? = some (.inr false) := rfl
theorem lk_KL_154 : lay_KL[154]? = some (.inr false) := rfl
theorem lk_KL_155 : lay_KL[155]? = some (.inr false) := rfl
theorem lk_KL_156 : lay_KL[156]? = some (.inr false) := rfl
theorem lk_KL_157 : lay_KL[157]? = some (.inr false) := rfl
theorem lk_KL_158 : lay_KL[158]? = some (.inr false) := rfl
theorem lk_KL_159 : lay_KL[159]? = some (.inl (9, ks_KL_159)) := rfl
theorem lk_KL_160 : lay_KL[160]? = some (.inr false) := rfl
theorem lk_KL_161 : lay_KL[161]? = some (.inr false) := rfl
theorem lk_KL_162 : lay_KL[162]? = some (.inr false) := rfl
theorem lk_KL_163 : lay_KL[163]? = some (.inr false) := rfl
theorem lk_KL_164 : lay_KL[164]? = some (.inr false) := rfl
theorem lk_KL_165 : lay_KL[165]? = some (.inr false) := rfl
theorem lk_KL_166 : lay_KL[166]? = some (.inr false) := rfl
theorem lk_KL_167 : lay_KL[167]? = some (.inr false) := rfl
theorem lk_KL_168 : lay_KL[168]? = some (.inr false) := rfl
theorem lk_KL_169 : lay_KL[169]? = some (.inr false) := rfl
theorem lk_KL_170 : lay_KL[170]? = some (.inr false) := rfl
theorem lk_KL_171 : lay_KL[171]? = some (.inr false) := rfl
theorem lk_KL_172 : lay_KL[172]? = some (.inl (9, ks_KL_172)) := rfl
theorem lk_KL_173 : lay_KL[173]? = some (.inr false) := rfl
theorem lk_KL_174 : lay_KL[174]? = some (.inr false) := rfl
theorem lk_KL_175 : lay_KL[175]? = some (.inr false) := rfl
theorem lk_KL_176 : lay_KL[176]? = some (.inr false) := rfl
theorem lk_KL_177 : lay_KL[177]? = some (.inr false) := rfl
theorem lk_KL_178 : lay_KL[178]? = some (.inr false) := rfl
theorem lk_KL_179 : lay_KL[179]? = some (.inr false) := rfl
theorem lk_KL_180 : lay_KL[180]? = some (.inr false) := rfl
theorem lk_KL_181 : lay_KL[181]? = some (.inr false) := rfl
theorem lk_KL_182 : lay_KL[182]? = some (.inr false) := rfl
theorem lk_KL_183 : lay_KL[183]? = some (.inr false) := rfl
theorem lk_KL_184 : lay_KL[184]? = some (.inr false) := rfl
theorem lk_KL_185 : lay_KL[185]? = some (.inl (9, ks_KL_185)) := rfl
theorem lk_KL_186 : lay_KL[186]? = some (.inr false) := rfl
theorem lk_KL_187 : lay_KL[187]? = some (.inr false) := rfl
theorem lk_KL_188 : lay_KL[188]? = some (.inr false) := rfl
theorem lk_KL_189 : lay_KL[189]? = some (.inr false) := rfl
theorem lk_KL_190 : lay_KL[190]? = some (.inr false) := rfl
theorem lk_KL_191 : lay_KL[191]? = some (.inr false) := rfl
theorem lk_KL_192 : lay_KL[192]? = some (.inr false) := rfl
theorem lk_KL_193 : lay_KL[193]? = some (.inr false) := rfl
theorem lk_KL_194 : lay_KL[194]? = some (.inr false) := rfl
theorem lk_KL_195 : lay_KL[195]? = some (.inr false) := rfl
theorem lk_KL_196 : lay_KL[196]? = some (.inr false) := rfl
theorem lk_KL_197 : lay_KL[197]? = some (.inr false) := rfl
theorem lk_KL_198 : lay_KL[198]? = some (.inl (9, ks_KL_198)) := rfl
theorem lk_KL_199 : lay_KL[199]? = some (.inr false) := rfl
theorem lk_KL_200 : lay_KL[200]? = some (.inr false) := rfl
theorem lk_KL_201 : lay_KL[201]? = some (.inr false) := rfl
theorem lk_KL_202 : lay_KL[202]? = some (.inr false) := rfl
theorem lk_KL_203 : lay_KL[203]? = some (.inr false) := rfl
theorem lk_KL_204 : lay_KL[204]? = some (.inr false) := rfl
theorem lk_KL_205 : lay_KL[205]? = some (.inr false) := rfl
theorem lk_KL_206 : lay_KL[206]? = some (.inr false) := rfl
theorem lk_KL_207 : lay_KL[207]? = some (.inr false) := rfl
theorem lk_KL_208 : lay_KL[208]? = some (.inr false) := rfl
theorem lk_KL_209 : lay_KL[209]? = some (.inr false) := rfl
theorem lk_KL_210 : lay_KL[210]? = some (.inr false) := rfl
def ks_Mo_0 : List (Option Nat) := [none, some 1, some 2, none, some 3, none, none, none, none, some 4, some 5, some 6, some 7, none, none, none, none, none, some 8, some 9, some 10, some 11, some 12, some 13, some 14, some 15, none, none, none, some 16, none, none, none, none, none, none, some 17, none, some 18, none, some 19, some 20, some 21, none, some 22, some 23, none, some 24, some 25, some 26, some 27, some 28, none, some 29, none, some 30, some 31, none, some 32, some 33, some 34, none, some 35, some 36, none, none, none, some 37]
def lay_Mo : List Sh := [.inl (11, ks_Mo_0), .inr false, .inr false, .inr false, .inr false, .inr false, .inr false, .inr false, .inr false, .inr false, .inr false, .inr false, .inr false, .inr false, .inr false, .inr false, .inr false, .inr false, .inr false, .inr false, .inr false, .inr false, .inr false, .inr false, .inr false, .inr false, .inr false, .inr false, .inr false, .inr false, .inr false, .inr false, .inr false, .inr false, .inr false, .inr false, .inr false, .inr false]
theorem lk_Mo_0 : lay_Mo[0]? = some (.inl (11, ks_Mo_0)) := rfl
theorem lk_Mo_1 : lay_Mo[1]? = some (.inr false) := rfl
theorem lk_Mo_2 : lay_Mo[2]? = some (.inr false) := rfl
theorem lk_Mo_3 : lay_Mo[3]? = some (.inr false) := rfl
theorem lk_Mo_4 : lay_Mo[4]? = some (.inr false) := rfl
theorem lk_Mo_5 : lay_Mo[5]? = some (.inr false) := rfl
theorem lk_Mo_6 : lay_Mo[6]? = some (.inr false) := rfl
theorem lk_Mo_7 : lay_Mo[7]? = some (.inr false) := rfl
theorem lk_Mo_8 : lay_Mo[8]? = some (.inr false) := rfl
theorem lk_Mo_9 : lay_Mo[9]? = some (.inr false) := rfl
theorem lk_Mo_10 : lay_Mo[10]? = some (.inr false) := rfl
theorem lk_Mo_11 : lay_Mo[11]? = some (.inr false) := rfl
theorem lk_Mo_12 : lay_Mo[12]? = some (.inr false) := rfl
theorem lk_Mo_13 : lay_Mo[13]? = some (.inr false) := rfl
theorem lk_Mo_14 : lay_Mo[14]? = some (.inr false) := rfl
theorem lk_Mo_15 : lay_Mo[15]? = some (.inr false) := rfl
theorem lk_Mo_16 : lay_Mo[16]? = some (.inr false) := rfl
theorem lk_Mo_17 : lay_Mo[17]? = some (.inr false) := rfl
theorem lk_Mo_18 : lay_Mo[18]? = some (.inr false) := rfl
theorem lk_Mo_19 : lay_Mo[19]? = some (.inr false) := rfl
theorem lk_Mo_20 : lay_Mo[20]? = some (.inr false) := rfl
theorem lk_Mo_21 : lay_Mo[21]? = some (.inr false) := rfl
theorem lk_Mo_22 : lay_Mo[22]? = some (.inr false) := rfl
theorem lk_Mo_23 : lay_Mo[23]? = some (.inr false) := rfl
theorem lk_Mo_24 : lay_Mo[24]? = some (.inr false) := rfl
theorem lk_Mo_25 : lay_Mo[25]? = some (.inr false) := rfl
theorem lk_Mo_26 : lay_Mo[26]? = some (.inr false) := rfl
theorem lk_Mo_27 : lay_Mo[27]? = some (.inr false) := rfl
theorem lk_Mo_28 : lay_Mo[28]? = some (.inr false) := rfl
theorem lk_Mo_29 : lay_Mo[29]? = some (.inr false) := rfl
theorem lk_Mo_30 : lay_Mo[30]? = some (.inr false) := rfl
theorem lk_Mo_31 : lay_Mo[31]? = some (.inr false) := rfl
theorem lk_Mo_32 : lay_Mo[32]? = some (.inr false) := rfl
theorem lk_Mo_33 : lay_Mo[33]? = some (.inr false) := rfl
theorem lk_Mo_34 : lay_Mo[34]? = some (.inr false) := rfl
theorem lk_Mo_35 : lay_Mo[35]? = some (.inr false) := rfl
theorem lk_Mo_36 : lay_Mo[36]? = some (.inr false) := rfl
theorem lk_Mo_37 : lay_Mo[37]? = some (.inr false) := rfl
def ks_HW_0 : List (Option Nat) := [some 1000, some 1, some 3, some 10, some 15, some 20, some 25, some 27, some 29, some 31, some 33, some 35]
def ks_HW_1 : List (Option Nat) := [some 2]
def ks_HW_3 : List (Option Nat) := [none, none, some 4, some 5, some 6, some 7, some 8, some 9]
def ks_HW_10 : List (Option Nat) := [none, some 11, some 12, some 13, some 14]
def ks_HW_15 : List (Option Nat) := [none, some 16, some 17, some 18, some 19]
def ks_HW_20 : List (Option Nat) := [none, some 21, some 22, some 23, some 24]
def ks_HW_25 : List (Option Nat) := [none, some 26]
def ks_HW_27 : List (Option Nat) := [none, some 28]
def ks_HW_29 : List (Option Nat) := [none, some 30]
def ks_HW_31 : List (Option Nat) := [none, some 32]
def ks_HW_33 : List (Option Nat) := [none, some 34]
def ks_HW_36 : List (Option Nat) := [none, none, none, none, none, none, none, some 37, some 38, some 39, some 40, some 41, some 42, some 43, some 44, some 45, some 46, some 47, some 48]
def lay_HW : List Sh := [.inl (1, ks_HW_0), .inl (0, ks_HW_1), .inr false, .inl (2, ks_HW_3), .inr false, .inr false, .inr false, .inr false, .inr false, .inr false, .inl (5, ks_HW_10), .inr false, .inr false, .inr false, .inr false, .inl (5, ks_HW_15), .inr false, .inr false, .inr false, .inr false, .inl (5, ks_HW_20), .inr false, .inr false, .inr false, .inr false, .inl (8, ks_HW_25), .inr false, .inl (8, ks_HW_27), .inr false, .inl (8, ks_HW_29), .inr false, .inl (8, ks_HW_31), .inr false, .inl (8, ks_HW_33), .inr false, .inr false, .inl (9, ks_HW_36), .inr false, .inr false, .inr false, .inr false, .inr false, .inr false, .inr false, .inr false, .inr false, .inr false, .inr false, .inr false]
theorem lk_HW_0 : lay_HW[0]? = some (.inl (1, ks_HW_0)) := rfl
theorem lk_HW_1 : lay_HW[1]? = some (.inl (0, ks_HW_1)) := rfl
theorem lk_HW_2 : lay_HW[2]? = some (.inr false) := rfl
theorem lk_HW_3 : lay_HW[3]? = some (.inl (2, ks_HW_3)) := rfl
theorem lk_HW_4 : lay_HW[4]? = some (.inr false) := rfl
theorem lk_HW_5 : lay_HW[5]? = some (.inr false) := rfl
theorem lk_HW_6 : lay_HW[6]? = some (.inr false) := rfl
theorem lk_HW_7 : lay_HW[7]? = some (.inr false) := rfl
theorem lk_HW_8 : lay_HW[8]? = some (.inr false) := rfl
theorem lk_HW_9 : lay_HW[9]? = some (.inr false) := rfl
theorem lk_HW_10 : lay_HW[10]? = some (.inl (5, ks_HW_10)) := rfl
theorem lk_HW_11 : lay_HW[11]? = some (.inr false) := rfl
theorem lk_HW_12 : lay_HW[12]? = some (.inr false) := rfl
theorem lk_HW_13 : lay_HW[13]? = some (.inr false) := rfl
theorem lk_HW_14 : lay_HW[14]? = some (.inr false) := rfl
theorem lk_HW_15 : lay_HW[15]? = some (.inl (5, ks_HW_15)) := rfl
theorem lk_HW_16 : lay_HW[16]? = some (.inr false) := rfl
theorem lk_HW_17 : lay_HW[17]? = some (.inr false) := rfl
theorem lk_HW_18 : lay_HW[18]? = some (.inr false) := rfl
theorem lk_HW_19 : lay_HW[19]? = some (.inr false) := rfl
theorem lk_HW_20 : lay_HW[20]? = some (.inl (5, ks_HW_20)) := rfl
theorem lk_HW_21 : lay_HW[21]? = some (.inr false) := rfl
theorem lk_HW_22 : lay_HW[22]? = some (.inr false) := rfl
theorem lk_HW_23 : lay_HW[23]? = some (.inr false) := rfl
theorem lk_HW_24 : lay_HW[24]? = some (.inr false) := rfl
theorem lk_HW_25 : lay_HW[25]? = some (.inl (8, ks_HW_25)) := rfl
theorem lk_HW_26 : lay_HW[26]? = some (.inr false) := rfl
theorem lk_HW_27 : lay_HW[27]? = some (.inl (8, ks_HW_27)) := rfl
theorem lk_HW_28 : lay_HW[28]? = some (.inr false) := rfl
theorem lk_HW_29 : lay_HW[29]? = some (.inl (8, ks_HW_29)) := rfl
theorem lk_HW_30 : lay_HW[30]? = some (.inr false) := rfl
theorem lk_HW_31 : lay_HW[31]? = some (.inl (8, ks_HW_31)) := rfl
theorem lk_HW_32 : lay_HW[32]? = some (.inr false) := rfl
theorem lk_HW_33 : lay_HW[33]? = some (.inl (8, ks_HW_33)) := rfl
theorem lk_HW_34 : lay_HW[34]? = some (.inr false) := rfl
theorem lk_HW_35 : lay_HW[35]? = some (.inr false) := rfl
theorem lk_HW_36 : lay_HW[36]? = some (.inl (9, ks_HW_36)) := rfl
theorem lk_HW_37 : lay_HW[37]? = some (.inr false) := rfl
theorem lk_HW_38 : lay_HW[38]? = some (.inr false) := rfl
theorem lk_HW_39 : lay_HW[39]? = some (.inr false) := rfl
theorem lk_HW_40 : lay_HW[40]? = some (.inr false) := rfl
theorem lk_HW_41 : lay_HW[41]? = some (.inr false) := rfl
theorem lk_HW_42 : lay_HW[42]? = some (.inr false) := rfl
theorem lk_HW_43 : lay_HW[43]? = some (.inr false) := rfl
theorem lk_HW_44 : lay_HW[44]? = some (.inr false) := rfl
theorem lk_HW_45 : lay_HW[45]? = some (.inr false) := rfl
theorem lk_HW_46 : lay_HW[46]? = some (.inr false) := rfl
theorem lk_HW_47 : lay_HW[47]? = some (.inr false) := rfl
theorem lk_HW_48 : lay_HW[48]? = some (.inr false) := rfl
def ks_Book2_0 : List (Option Nat) := [some 1]
def ks_Book2_2 : List (Option Nat) := [some 3]
def lay_Book2 : List Sh := [.inl (0, ks_Book2_0), .inr false, .inl (0, ks_Book2_2), .inr false]
theorem lk_Book2_0 : lay_Book2[0]? = some (.inl (0, ks_Book2_0)) := rfl
theorem lk_Book2_1 : lay_Book2[1]? = some (.inr false) := rfl
theorem lk_Book2_2 : lay_Book2[2]? = some (.inl (0, ks_Book2_2)) := rfl
theorem lk_Book2_3 : lay_Book2[3]? = some (.inr false) := rfl
def ks_Law2_0 : List (Option Nat) := [none, none, some 1, some 2, some 3, some 4, some 5, some 6]
def ks_Law2_7 : List (Option Nat) := [none, none, some 8, some 9, some 10, some 11, some 12, some 13]
def lay_Law2 : List Sh := [.inl (2, ks_Law2_0), .inr false, .inr false, .inr false, .inr false, .inr false, .inr false, .inl (2, ks_Law2_7), .inr false, .inr false, .inr false, .inr false, .inr false, .inr false]
theorem lk_Law2_0 : lay_Law2[0]? = some (.inl (2, ks_Law2_0)) := rfl
theorem lk_Law2_1 : lay_Law2[1]? = some (.inr false) := rfl
theorem lk_Law2_2 : lay_Law2[2]? = some (.inr false) := rfl
theorem lk_Law2_3 : lay_Law2[3]? = some (.inr false) := rfl
theorem lk_Law2_4 : lay_Law2[4]? = some (.inr false) := rfl
theorem lk_Law2_5 : lay_Law2[5]? = some (.inr false) := rfl
theorem lk_Law2_6 : lay_Law2[6]? = some (.inr false) := rfl
theorem lk_Law2_7 : lay_Law2[7]? = some (.inl (2, ks_Law2_7)) := rfl
theorem lk_Law2_8 : lay_Law2[8]? = some (.inr false) := rfl
theorem lk_Law2_9 : lay_Law2[9]? = some (.inr false) := rfl
theorem lk_Law2_10 : lay_Law2[10]? = some (.inr false) := rfl
theorem lk_Law2_11 : lay_Law2[11]? = some (.inr false) := rfl
theorem lk_Law2_12 : lay_Law2[12]? = some (.inr false) := rfl
theorem lk_Law2_13 : lay_Law2[13]? = some (.inr false) := rfl
def ks_Lines2_0 : List (Option Nat) := [none, some 1, some 2, some 3, some 4]
def ks_Lines2_5 : List (Option Nat) := [none, some 6, some 7, some 8, some 9]
def lay_Lines2 : List Sh := [.inl (5, ks_Lines2_0), .inr false, .inr false, .inr false, .inr false, .inl (5, ks_Lines2_5), .inr false, .inr false, .inr false, .inr false]
theorem lk_Lines2_0 : lay_Lines2[0]? = some (.inl (5, ks_Lines2_0)) := rfl
theorem lk_Lines2_1 : lay_Lines2[1]? = some (.inr false) := rfl
theorem lk_Lines2_2 : lay_Lines2[2]? = some (.inr false) := rfl
theorem lk_Lines2_3 : lay_Lines2[3]? = some (.inr false) := rfl
theorem lk_Lines2_4 : lay_Lines2[4]? = some (.inr false) := rfl
theorem lk_Lines2_5 : lay_Lines2[5]? = some (.inl (5, ks_Lines2_5)) := rfl
theorem lk_Lines2_6 : lay_Lines2[6]? = some (.inr false) := rfl
theorem lk_Lines2_7 : lay_Lines2[7]? = some (.inr false) := rfl
theorem lk_Lines2_8 : lay_Lines2[8]? = some (.inr false) := rfl
theorem lk_Lines2_9 : lay_Lines2[9]? = some (.inr false) := rfl
def ks_Told2_0 : List (Option Nat) := [none, some 1]
def ks_Told2_2 : List (Option Nat) := [none, some 3]
def lay_Told2 : List Sh := [.inl (8, ks_Told2_0), .inr false, .inl (8, ks_Told2_2), .inr false]
theorem lk_Told2_0 : lay_Told2[0]? = some (.inl (8, ks_Told2_0)) := rfl
theorem lk_Told2_1 : lay_Told2[1]? = some (.inr false) := rfl
theorem lk_Told2_2 : lay_Told2[2]? = some (.inl (8, ks_Told2_2)) := rfl
theorem lk_Told2_3 : lay_Told2[3]? = some (.inr false) := rfl
def ks_World2_0 : List (Option Nat) := [none, none, none, none, none, none, none, some 1, some 2, some 3, some 4, some 5, some 6, some 7, some 8, some 9, some 10, some 11, some 12]
def ks_World2_13 : List (Option Nat) := [none, none, none, none, none, none, none, some 14, some 15, some 16, some 17, some 18, some 19, some 20, some 21, some 22, some 23, some 24, some 25]
def lay_World2 : List Sh := [.inl (9, ks_World2_0), .inr false, .inr false, .inr false, .inr false, .inr false, .inr false, .inr false, .inr false, .inr false, .inr false, .inr false, .inr false, .inl (9, ks_World2_13), .inr false, .inr false, .inr false, .inr false, .inr false, .inr false, .inr false, .inr false, .inr false, .inr false, .inr false, .inr false]
theorem lk_World2_0 : lay_World2[0]? = some (.inl (9, ks_World2_0)) := rfl
theorem lk_World2_1 : lay_World2[1]? = some (.inr false) := rfl
theorem lk_World2_2 : lay_World2[2]? = some (.inr false) := rfl
theorem lk_World2_3 : lay_World2[3]? = some (.inr false) := rfl
theorem lk_World2_4 : lay_World2[4]? = some (.inr false) := rfl
theorem lk_World2_5 : lay_World2[5]? = some (.inr false) := rfl
theorem lk_World2_6 : lay_World2[6]? = some (.inr false) := rfl
theorem lk_World2_7 : lay_World2[7]? = some (.inr false) := rfl
theorem lk_World2_8 : lay_World2[8]? = some (.inr false) := rfl
theorem lk_World2_9 : lay_World2[9]? = some (.inr false) := rfl
theorem lk_World2_10 : lay_World2[10]? = some (.inr false) := rfl
theorem lk_World2_11 : lay_World2[11]? = some (.inr false) := rfl
theorem lk_World2_12 : lay_World2[12]? = some (.inr false) := rfl
theorem lk_World2_13 : lay_World2[13]? = some (.inl (9, ks_World2_13)) := rfl
theorem lk_World2_14 : lay_World2[14]? = some (.inr false) := rfl
theorem lk_World2_15 : lay_World2[15]? = some (.inr false) := rfl
theorem lk_World2_16 : lay_World2[16]? = some (.inr false) := rfl
theorem lk_World2_17 : lay_World2[17]? = some (.inr false) := rfl
theorem lk_World2_18 : lay_World2[18]? = some (.inr false) := rfl
theorem lk_World2_19 : lay_World2[19]? = some (.inr false) := rfl
theorem lk_World2_20 : lay_World2[20]? = some (.inr false) := rfl
theorem lk_World2_21 : lay_World2[21]? = some (.inr false) := rfl
theorem lk_World2_22 : lay_World2[22]? = some (.inr false) := rfl
theorem lk_World2_23 : lay_World2[23]? = some (.inr false) := rfl
theorem lk_World2_24 : lay_World2[24]? = some (.inr false) := rfl
theorem lk_World2_25 : lay_World2[25]? = some (.inr false) := rfl
def ks_House2_0 : List (Option Nat) := [some 1, some 14, some 16, some 23, some 28, some 33, some 38, some 40, some 42, some 44, some 46, some 48]
def ks_House2_1 : List (Option Nat) := [none, none, none, none, none, none, none, some 2, some 3, some 4, some 5, some 6, some 7, some 8, some 9, some 10, some 11, some 12, some 13]
def ks_House2_14 : List (Option Nat) := [some 15]
def ks_House2_16 : List (Option Nat) := [none, none, some 17, some 18, some 19, some 20, some 21, some 22]
def ks_House2_23 : List (Option Nat) := [none, some 24, some 25, some 26, some 27]
def ks_House2_28 : List (Option Nat) := [none, some 29, some 30, some 31, some 32]
def ks_House2_33 : List (Option Nat) := [none, some 34, some 35, some 36, some 37]
def ks_House2_38 : List (Option Nat) := [none, some 39]
def ks_House2_40 : List (Option Nat) := [none, some 41]
def ks_House2_42 : List (Option Nat) := [none, some 43]
def ks_House2_44 : List (Option Nat) := [none, some 45]
def ks_House2_46 : List (Option Nat) := [none, some 47]
def ks_House2_49 : List (Option Nat) := [some 50, some 63, some 65, some 72, some 77, some 82, some 87, some 89, some 91, some 93, some 95, some 97]
def ks_House2_50 : List (Option Nat) := [none, none, none, none, none, none, none, some 51, some 52, some 53, some 54, some 55, some 56, some 57, some 58, some 59, some 60, some 61, some 62]
def ks_House2_63 : List (Option Nat) := [some 64]
def ks_House2_65 : List (Option Nat) := [none, none, some 66, some 67, some 68, some 69, some 70, some 71]
def ks_House2_72 : List (Option Nat) := [none, some 73, some 74, some 75, some 76]
def ks_House2_77 : List (Option Nat) := [none, some 78, some 79, some 80, some 81]
def ks_House2_82 : List (Option Nat) := [none, some 83, some 84, some 85, some 86]
def ks_House2_87 : List (Option Nat) := [none, some 88]
def ks_House2_89 : List (Option Nat) := [none, some 90]
def ks_House2_91 : List (Option Nat) := [none, some 92]
def ks_House2_93 : List (Option Nat) := [none, some 94]
def ks_House2_95 : List (Option Nat) := [none, some 96]
def lay_House2 : List Sh := [.inl (1, ks_House2_0), .inl (9, ks_House2_1), .inr false, .inr false, .inr false, .inr false, .inr false, .inr false, .inr false, .inr false, .inr false, .inr false, .inr false, .inr false, .inl (0, ks_House2_14), .inr false, .inl (2, ks_House2_16), .inr false, .inr false, .inr false, .inr false, .inr false, .inr false, .inl (5, ks_House2_23), .inr false, .inr false, .inr false, .inr false, .inl (5, ks_House2_28), .inr false, .inr false, .inr false, .inr false, .inl (5, ks_House2_33), .inr false, .inr false, .inr false, .inr false, .inl (8, ks_House2_38), .inr false, .inl (8, ks_House2_40), .inr false, .inl (8, ks_House2_42), .inr false, .inl (8, ks_House2_44), .inr false, .inl (8, ks_House2_46), .inr false, .inr false, .inl (1, ks_House2_49), .inl (9, ks_House2_50), .inr false, .inr false, .inr false, .inr false, .inr false, .inr false, .inr false, .inr false, .inr false, .inr false, .inr false, .inr false, .inl (0, ks_House2_63), .inr false, .inl (2, ks_House2_65), .inr false, .inr false, .inr false, .inr false, .inr false, .inr false, .inl (5, ks_House2_72), .inr false, .inr false, .inr false, .inr false, .inl (5, ks_House2_77), .inr false, .inr false, .inr false, .inr false, .inl (5, ks_House2_82), .inr false, .inr false, .inr false, .inr false, .inl (8, ks_House2_87), .inr false, .inl (8, ks_House2_89), .inr false, .inl (8, ks_House2_91), .inr false, .inl (8, ks_House2_93), .inr false, .inl (8, ks_House2_95), .inr false, .inr false]
theorem lk_House2_0 : lay_House2[0]? = some (.inl (1, ks_House2_0)) := rfl
theorem lk_House2_1 : lay_House2[1]? = some (.inl (9, ks_House2_1)) := rfl
theorem lk_House2_2 : lay_House2[2]? = some (.inr false) := rfl
theorem lk_House2_3 : lay_House2[3]? = some (.inr false) := rfl
theorem lk_House2_4 : lay_House2[4]? = some (.inr false) := rfl
theorem lk_House2_5 : lay_House2[5]? = some (.inr false) := rfl
theorem lk_House2_6 : lay_House2[6]? = some (.inr false) := rfl
theorem lk_House2_7 : lay_House2[7]? = some (.inr false) := rfl
theorem lk_House2_8 : lay_House2[8]? = some (.inr false) := rfl
theorem lk_House2_9 : lay_House2[9]? = some (.inr false) := rfl
theorem lk_House2_10 : lay_House2[10]? = some (.inr false) := rfl
theorem lk_House2_11 : lay_House2[11]? = some (.inr false) := rfl
theorem lk_House2_12 : lay_House2[12]? = some (.inr false) := rfl
theorem lk_House2_13 : lay_House2[13]? = some (.inr false) := rfl
theorem lk_House2_14 : lay_House2[14]? = some (.inl (0, ks_House2_14)) := rfl
theorem lk_House2_15 : lay_House2[15]? = some (.inr false) := rfl
theorem lk_House2_16 : lay_House2[16]? = some (.inl (2, ks_House2_16)) := rfl
theorem lk_House2_17 : lay_House2[17]? = some (.inr false) := rfl
theorem lk_House2_18 : lay_House2[18]? = some (.inr false) := rfl
theorem lk_House2_19 : lay_House2[19]? = some (.inr false) := rfl
theorem lk_House2_20 : lay_House2[20]? = some (.inr false) := rfl
theorem lk_House2_21 : lay_House2[21]? = some (.inr false) := rfl
theorem lk_House2_22 : lay_House2[22]? = some (.inr false) := rfl
theorem lk_House2_23 : lay_House2[23]? = some (.inl (5, ks_House2_23)) := rfl
theorem lk_House2_24 : lay_House2[24]? = some (.inr false) := rfl
theorem lk_House2_25 : lay_House2[25]? = some (.inr false) := rfl
theorem lk_House2_26 : lay_House2[26]? = some (.inr false) := rfl
theorem lk_House2_27 : lay_House2[27]? = some (.inr false) := rfl
theorem lk_House2_28 : lay_House2[28]? = some (.inl (5, ks_House2_28)) := rfl
theorem lk_House2_29 : lay_House2[29]? = some (.inr false) := rfl
theorem lk_House2_30 : lay_House2[30]? = some (.inr false) := rfl
theorem lk_House2_31 : lay_House2[31]? = some (.inr false) := rfl
theorem lk_House2_32 : lay_House2[32]? = some (.inr false) := rfl
theorem lk_House2_33 : lay_House2[33]? = some (.inl (5, ks_House2_33)) := rfl
theorem lk_House2_34 : lay_House2[34]? = some (.inr false) := rfl
theorem lk_House2_35 : lay_House2[35]? = some (.inr false) := rfl
theorem lk_House2_36 : lay_House2[36]? = some (.inr false) := rfl
theorem lk_House2_37 : lay_House2[37]? = some (.inr false) := rfl
theorem lk_House2_38 : lay_House2[38]? = some (.inl (8, ks_House2_38)) := rfl
theorem lk_House2_39 : lay_House2[39]? = some (.inr false) := rfl
theorem lk_House2_40 : lay_House2[40]? = some (.inl (8, ks_House2_40)) := rfl
theorem lk_House2_41 : lay_House2[41]? = some (.inr false) := rfl
theorem lk_House2_42 : lay_House2[42]? = some (.inl (8, ks_House2_42)) := rfl
theorem lk_House2_43 : lay_House2[43]? = some (.inr false) := rfl
theorem lk_House2_44 : lay_House2[44]? = some (.inl (8, ks_House2_44)) := rfl
theorem lk_House2_45 : lay_House2[45]? = some (.inr false) := rfl
theorem lk_House2_46 : lay_House2[46]? = some (.inl (8, ks_House2_46)) := rfl
theorem lk_House2_47 : lay_House2[47]? = some (.inr false) := rfl
theorem lk_House2_48 : lay_House2[48]? = some (.inr false) := rfl
theorem lk_House2_49 : lay_House2[49]? = some (.inl (1, ks_House2_49)) := rfl
theorem lk_House2_50 : lay_House2[50]? = some (.inl (9, ks_House2_50)) := rfl
theorem lk_House2_51 : lay_House2[51]? = some (.inr false) := rfl
theorem lk_House2_52 : lay_House2[52]? = some (.inr false) := rfl
theorem lk_House2_53 : lay_House2[53]? = some (.inr false) := rfl
theorem lk_House2_54 : lay_House2[54]? = some (.inr false) := rfl
theorem lk_House2_55 : lay_House2[55]? = some (.inr false) := rfl
theorem lk_House2_56 : lay_House2[56]? = some (.inr false) := rfl
theorem lk_House2_57 : lay_House2[57]? = some (.inr false) := rfl
theorem lk_House2_58 : lay_House2[58]? = some (.inr false) := rfl
theorem lk_House2_59 : lay_House2[59]? = some (.inr false) := rfl
theorem lk_House2_60 : lay_House2[60]? = some (.inr false) := rfl
theorem lk_House2_61 : lay_House2[61]? = some (.inr false) := rfl
theorem lk_House2_62 : lay_House2[62]? = some (.inr false) := rfl
theorem lk_House2_63 : lay_House2[63]? = some (.inl (0, ks_House2_63)) := rfl
theorem lk_House2_64 : lay_House2[64]? = some (.inr false) := rfl
theorem lk_House2_65 : lay_House2[65]? = some (.inl (2, ks_House2_65)) := rfl
theorem lk_House2_66 : lay_House2[66]? = some (.inr false) := rfl
theorem lk_House2_67 : lay_House2[67]? = some (.inr false) := rfl
theorem lk_House2_68 : lay_House2[68]? = some (.inr false) := rfl
theorem lk_House2_69 : lay_House2[69]? = some (.inr false) := rfl
theorem lk_House2_70 : lay_House2[70]? = some (.inr false) := rfl
theorem lk_House2_71 : lay_House2[71]? = some (.inr false) := rfl
theorem lk_House2_72 : lay_House2[72]? = some (.inl (5, ks_House2_72)) := rfl
theorem lk_House2_73 : lay_House2[73]? = some (.inr false) := rfl
theorem lk_House2_74 : lay_House2[74]? = some (.inr false) := rfl
theorem lk_House2_75 : lay_House2[75]? = some (.inr false) := rfl
theorem lk_House2_76 : lay_House2[76]? = some (.inr false) := rfl
theorem lk_House2_77 : lay_House2[77]? = some (.inl (5, ks_House2_77)) := rfl
theorem lk_House2_78 : lay_House2[78]? = some (.inr false) := rfl
theorem lk_House2_79 : lay_House2[79]? = some (.inr false) := rfl
theorem lk_House2_80 : lay_House2[80]? = some (.inr false) := rfl
theorem lk_House2_81 : lay_House2[81]? = some (.inr false) := rfl
theorem lk_House2_82 : lay_House2[82]? = some (.inl (5, ks_House2_82)) := rfl
theorem lk_House2_83 : lay_House2[83]? = some (.inr false) := rfl
theorem lk_House2_84 : lay_House2[84]? = some (.inr false) := rfl
theorem lk_House2_85 : lay_House2[85]? = some (.inr false) := rfl
theorem lk_House2_86 : lay_House2[86]? = some (.inr false) := rfl
theorem lk_House2_87 : lay_House2[87]? = some (.inl (8, ks_House2_87)) := rfl
theorem lk_House2_88 : lay_House2[88]? = some (.inr false) := rfl
theorem lk_House2_89 : lay_House2[89]? = some (.inl (8, ks_House2_89)) := rfl
theorem lk_House2_90 : lay_House2[90]? = some (.inr false) := rfl
theorem lk_House2_91 : lay_House2[91]? = some (.inl (8, ks_House2_91)) := rfl
theorem lk_House2_92 : lay_House2[92]? = some (.inr false) := rfl
theorem lk_House2_93 : lay_House2[93]? = some (.inl (8, ks_House2_93)) := rfl
theorem lk_House2_94 : lay_House2[94]? = some (.inr false) := rfl
theorem lk_House2_95 : lay_House2[95]? = some (.inl (8, ks_House2_95)) := rfl
theorem lk_House2_96 : lay_House2[96]? = some (.inr false) := rfl
theorem lk_House2_97 : lay_House2[97]? = some (.inr false) := rfl
def ks_BookW_0 : List (Option Nat) := [some 1]
def ks_BookW_2 : List (Option Nat) := [none, none, none, none, none, none, none, some 3, some 4, some 5, some 6, some 7, some 8, some 9, some 10, some 11, some 12, some 13, some 14]
def lay_BookW : List Sh := [.inl (0, ks_BookW_0), .inr false, .inl (9, ks_BookW_2), .inr false, .inr false, .inr false, .inr false, .inr false, .inr false, .inr false, .inr false, .inr false, .inr false, .inr false, .inr false]
theorem lk_BookW_0 : lay_BookW[0]? = some (.inl (0, ks_BookW_0)) := rfl
theorem lk_BookW_1 : lay_BookW[1]? = some (.inr false) := rfl
theorem lk_BookW_2 : lay_BookW[2]? = some (.inl (9, ks_BookW_2)) := rfl
theorem lk_BookW_3 : lay_BookW[3]? = some (.inr false) := rfl
theorem lk_BookW_4 : lay_BookW[4]? = some (.inr false) := rfl
theorem lk_BookW_5 : lay_BookW[5]? = some (.inr false) := rfl
theorem lk_BookW_6 : lay_BookW[6]? = some (.inr false) := rfl
theorem lk_BookW_7 : lay_BookW[7]? = some (.inr false) := rfl
theorem lk_BookW_8 : lay_BookW[8]? = some (.inr false) := rfl
theorem lk_BookW_9 : lay_BookW[9]? = some (.inr false) := rfl
theorem lk_BookW_10 : lay_BookW[10]? = some (.inr false) := rfl
theorem lk_BookW_11 : lay_BookW[11]? = some (.inr false) := rfl
theorem lk_BookW_12 : lay_BookW[12]? = some (.inr false) := rfl
theorem lk_BookW_13 : lay_BookW[13]? = some (.inr false) := rfl
theorem lk_BookW_14 : lay_BookW[14]? = some (.inr false) := rfl
def ks_LawS_0 : List (Option Nat) := [none, none, some 1, some 2, some 3, some 4, some 5, some 6]
def lay_LawS : List Sh := [.inl (2, ks_LawS_0), .inr false, .inr false, .inr false, .inr false, .inr false, .inr false, .inr false]
theorem lk_LawS_0 : lay_LawS[0]? = some (.inl (2, ks_LawS_0)) := rfl
theorem lk_LawS_1 : lay_LawS[1]? = some (.inr false) := rfl
theorem lk_LawS_2 : lay_LawS[2]? = some (.inr false) := rfl
theorem lk_LawS_3 : lay_LawS[3]? = some (.inr false) := rfl
theorem lk_LawS_4 : lay_LawS[4]? = some (.inr false) := rfl
theorem lk_LawS_5 : lay_LawS[5]? = some (.inr false) := rfl
theorem lk_LawS_6 : lay_LawS[6]? = some (.inr false) := rfl
theorem lk_LawS_7 : lay_LawS[7]? = some (.inr false) := rfl
def ks_LawR_0 : List (Option Nat) := [some 1]
def ks_LawR_1 : List (Option Nat) := [none, none, some 2, some 3, some 4, some 5, some 6, some 7]
def ks_LawR_8 : List (Option Nat) := [none, some 9, none, none, none, none, none, none]
def lay_LawR : List Sh := [.inl (3, ks_LawR_0), .inl (2, ks_LawR_1), .inr false, .inr false, .inr false, .inr false, .inr false, .inr false, .inl (7, ks_LawR_8), .inr false]
theorem lk_LawR_0 : lay_LawR[0]? = some (.inl (3, ks_LawR_0)) := rfl
theorem lk_LawR_1 : lay_LawR[1]? = some (.inl (2, ks_LawR_1)) := rfl
theorem lk_LawR_2 : lay_LawR[2]? = some (.inr false) := rfl
theorem lk_LawR_3 : lay_LawR[3]? = some (.inr false) := rfl
theorem lk_LawR_4 : lay_LawR[4]? = some (.inr false) := rfl
theorem lk_LawR_5 : lay_LawR[5]? = some (.inr false) := rfl
theorem lk_LawR_6 : lay_LawR[6]? = some (.inr false) := rfl
theorem lk_LawR_7 : lay_LawR[7]? = some (.inr false) := rfl
theorem lk_LawR_8 : lay_LawR[8]? = some (.inl (7, ks_LawR_8)) := rfl
theorem lk_LawR_9 : lay_LawR[9]? = some (.inr false) := rfl
def ks_LineR_0 : List (Option Nat) := [some 1, none]
def ks_LineR_1 : List (Option Nat) := [none, some 2, some 3, some 4, some 5]
def ks_LineR_6 : List (Option Nat) := [none, some 7, none, none, none, none, none, none]
def ks_LineR_8 : List (Option Nat) := [none, none, none, none, none, none, none, some 9, some 10, some 11, some 12, some 13, some 14, some 15, some 16, some 17, some 18, some 19, some 20]
def lay_LineR : List Sh := [.inl (4, ks_LineR_0), .inl (5, ks_LineR_1), .inr false, .inr false, .inr false, .inr false, .inl (7, ks_LineR_6), .inr false, .inl (9, ks_LineR_8), .inr false, .inr false, .inr false, .inr false, .inr false, .inr false, .inr false, .inr false, .inr false, .inr false, .inr false, .inr false]
theorem lk_LineR_0 : lay_LineR[0]? = some (.inl (4, ks_LineR_0)) := rfl
theorem lk_LineR_1 : lay_LineR[1]? = some (.inl (5, ks_LineR_1)) := rfl
theorem lk_LineR_2 : lay_LineR[2]? = some (.inr false) := rfl
theorem lk_LineR_3 : lay_LineR[3]? = some (.inr false) := rfl
theorem lk_LineR_4 : lay_LineR[4]? = some (.inr false) := rfl
theorem lk_LineR_5 : lay_LineR[5]? = some (.inr false) := rfl
theorem lk_LineR_6 : lay_LineR[6]? = some (.inl (7, ks_LineR_6)) := rfl
theorem lk_LineR_7 : lay_LineR[7]? = some (.inr false) := rfl
theorem lk_LineR_8 : lay_LineR[8]? = some (.inl (9, ks_LineR_8)) := rfl
theorem lk_LineR_9 : lay_LineR[9]? = some (.inr false) := rfl
theorem lk_LineR_10 : lay_LineR[10]? = some (.inr false) := rfl
theorem lk_LineR_11 : lay_LineR[11]? = some (.inr false) := rfl
theorem lk_LineR_12 : lay_LineR[12]? = some (.inr false) := rfl
theorem lk_LineR_13 : lay_LineR[13]? = some (.inr false) := rfl
theorem lk_LineR_14 : lay_LineR[14]? = some (.inr false) := rfl
theorem lk_LineR_15 : lay_LineR[15]? = some (.inr false) := rfl
theorem lk_LineR_16 : lay_LineR[16]? = some (.inr false) := rfl
theorem lk_LineR_17 : lay_LineR[17]? = some (.inr false) := rfl
theorem lk_LineR_18 : lay_LineR[18]? = some (.inr false) := rfl
theorem lk_LineR_19 : lay_LineR[19]? = some (.inr false) := rfl
theorem lk_LineR_20 : lay_LineR[20]? = some (.inr false) := rfl
def ks_PuzT_0 : List (Option Nat) := [some 1, some 2, none, some 3]
def ks_PuzT_4 : List (Option Nat) := [none, some 5]
def lay_PuzT : List Sh := [.inl (6, ks_PuzT_0), .inr false, .inr false, .inr false, .inl (8, ks_PuzT_4), .inr false]
theorem lk_PuzT_0 : lay_PuzT[0]? = some (.inl (6, ks_PuzT_0)) := rfl
theorem lk_PuzT_1 : lay_PuzT[1]? = some (.inr false) := rfl
theorem lk_PuzT_2 : lay_PuzT[2]? = some (.inr false) := rfl
theorem lk_PuzT_3 : lay_PuzT[3]? = some (.inr false) := rfl
theorem lk_PuzT_4 : lay_PuzT[4]? = some (.inl (8, ks_PuzT_4)) := rfl
theorem lk_PuzT_5 : lay_PuzT[5]? = some (.inr false) := rfl
def lay_A : List Sh := [.inr false]
theorem lk_A_0 : lay_A[0]? = some (.inr false) := rfl
def lay_E : List Sh := []
def ks_All_0 : List (Option Nat) := [some 1, some 50, none, some 99, some 112, none, some 113, some 115, some 123, some 129]
def ks_All_1 : List (Option Nat) := [some 2, some 15, some 17, some 24, some 29, some 34, some 39, some 41, some 43, some 45, some 47, some 49]
def ks_All_2 : List (Option Nat) := [none, none, none, none, none, none, none, some 3, some 4, some 5, some 6, some 7, some 8, some 9, some 10, some 11, some 12, some 13, some 14]
def ks_All_15 : List (Option Nat) := [some 16]
def ks_All_17 : List (Option Nat) := [none, none, some 18, some 19, some 20, some 21, some 22, some 23]
def ks_All_24 : List (Option Nat) := [none, some 25, some 26, some 27, some 28]
def ks_All_29 : List (Option Nat) := [none, some 30, some 31, some 32, some 33]
def ks_All_34 : List (Option Nat) := [none, some 35, some 36, some 37, some 38]
def ks_All_39 : List (Option Nat) := [none, some 40]
def ks_All_41 : List (Option Nat) := [none, some 42]
def ks_All_43 : List (Option Nat) := [none, some 44]
def ks_All_45 : List (Option Nat) := [none, some 46]
def ks_All_47 : List (Option Nat) := [none, some 48]
def ks_All_50 : List (Option Nat) := [some 51, some 64, some 66, some 73, some 78, some 83, some 88, some 90, some 92, some 94, some 96, some 98]
def ks_All_51 : List (Option Nat) := [none, none, none, none, none, none, none, some 52, some 53, some 54, some 55, some 56, some 57, some 58, some 59, some 60, some 61, some 62, some 63]
def ks_All_64 : List (Option Nat) := [some 65]
def ks_All_66 : List (Option Nat) := [none, none, some 67, some 68, some 69, some 70, some 71, some 72]
def ks_All_73 : List (Option Nat) := [none, some 74, some 75, some 76, some 77]
def ks_All_78 : List (Option Nat) := [none, some 79, some 80, some 81, some 82]
def ks_All_83 : List (Option Nat) := [none, some 84, some 85, some 86, some 87]
def ks_All_88 : List (Option Nat) := [none, some 89]
def ks_All_90 : List (Option Nat) := [none, some 91]
def ks_All_92 : List (Option Nat) := [none, some 93]
def ks_All_94 : List (Option Nat) := [none, some 95]
def ks_All_96 : List (Option Nat) := [none, some 97]
def ks_All_99 : List (Option Nat) := [none, none, none, none, none, none, none, some 100, some 101, some 102, some 103, some 104, some 105, some 106, some 107, some 108, some 109, some 110, some 111]
def ks_All_113 : List (Option Nat) := [none, some 114, none, none, none, none, none, none]
def ks_All_115 : List (Option Nat) := [some 116]
def ks_All_116 : List (Option Nat) := [none, none, some 117, some 118, some 119, some 120, some 121, some 122]
def ks_All_123 : List (Option Nat) := [some 124, none]
def ks_All_124 : List (Option Nat) := [none, some 125, some 126, some 127, some 128]
def ks_All_129 : List (Option Nat) := [some 130, some 131, none, some 132]
def ks_All_133 : List (Option Nat) := [none, none, none, none, none, none, none, some 134, some 135, some 136, some 137, some 138, some 139, some 140, some 141, some 142, some 143, some 144, some 145]
def ks_All_146 : List (Option Nat) := [none, none, none, none, none, none, none, some 147, some 148, some 149, some 150, some 151, some 152, some 153, some 154, some 155, some 156, some 157, some 158]
def ks_All_159 : List (Option Nat) := [none, none, none, none, none, none, none, some 160, some 161, some 162, some 163, some 164, some 165, some 166, some 167, some 168, some 169, some 170, some 171]
def ks_All_172 : List (Option Nat) := [none, none, none, none, none, none, none, some 173, some 174, some 175, some 176, some 177, some 178, some 179, some 180, some 181, some 182, some 183, some 184]
def ks_All_185 : List (Option Nat) := [none, none, none, none, none, none, none, some 186, some 187, some 188, some 189, some 190, some 191, some 192, some 193, some 194, some 195, some 196, some 197]
def ks_All_198 : List (Option Nat) := [none, none, none, none, none, none, none, some 199, some 200, some 201, some 202, some 203, some 204, some 205, some 206, some 207, some 208, some 209, some 210]
def ks_All_211 : List (Option Nat) := [none, some 212, some 213, none, some 214, none, none, none, none, some 215, some 216, some 217, some 218, none, none, none, none, none, some 219, some 220, some 221, some 222, some 223, some 224, some 225, some 226, none, none, none, some 227, none, none, none, none, none, none, some 228, none, some 229, none, some 230, some 231, some 232, none, some 233, some 234, none, some 235, some 236, some 237, some 238, some 239, none, some 240, none, some 241, some 242, none, some 243, some 244, some 245, none, some 246, some 247, none, none, none, some 248]
def lay_All : List Sh := [.inl (10, ks_All_0), .inl (1, ks_All_1), .inl (9, ks_All_2), .inr false, .inr false, .inr false, .inr false, .inr false, .inr false, .inr false, .inr false, .inr false, .inr false, .inr false, .inr false, .inl (0, ks_All_15), .inr false, .inl (2, ks_All_17), .inr false, .inr false, .inr false, .inr false, .inr false, .inr false, .inl (5, ks_All_24), .inr false, .inr false, .inr false, .inr false, .inl (5, ks_All_29), .inr false, .inr false, .inr false, .inr false, .inl (5, ks_All_34), .inr false, .inr false, .inr false, .inr false, .inl (8, ks_All_39), .inr false, .inl (8, ks_All_41), .inr false, .inl (8, ks_All_43), .inr false, .inl (8, ks_All_45), .inr false, .inl (8, ks_All_47), .inr false, .inr false, .inl (1, ks_All_50), .inl (9, ks_All_51), .inr false, .inr false, .inr false, .inr false, .inr false, .inr false, .inr false, .inr false, .inr false, .inr false, .inr false, .inr false, .inl (0, ks_All_64), .inr false, .inl (2, ks_All_66), .inr false, .inr false, .inr false, .inr false, .inr false, .inr false, .inl (5, ks_All_73), .inr false, .inr false, .inr false, .inr false, .inl (5, ks_All_78), .inr false, .inr false, .inr false, .inr false, .inl (5, ks_All_83), .inr false, .inr false, .inr false, .inr false, .inl (8, ks_All_88), .inr false, .inl (8, ks_All_90), .inr false, .inl (8, ks_All_92), .inr false, .inl (8, ks_All_94), .inr false, .inl (8, ks_All_96), .inr false, .inr false, .inl (9, ks_All_99), .inr false, .inr false, .inr false, .inr false, .inr false, .inr false, .inr false, .inr false, .inr false, .inr false, .inr false, .inr false, .inr true, .inl (7, ks_All_113), .inr false, .inl (3, ks_All_115), .inl (2, ks_All_116), .inr false, .inr false, .inr false, .inr false, .inr false, .inr false, .inl (4, ks_All_123), .inl (5, ks_All_124), .inr false, .inr false, .inr false, .inr false, .inl (6, ks_All_129), .inr false, .inr false, .inr false, .inl (9, ks_All_133), .inr false, .inr false, .inr false, .inr false, .inr false, .inr false, .inr false, .inr false, .inr false, .inr false, .inr false, .inr false, .inl (9, ks_All_146), .inr false, .inr false, .inr false, .inr false, .inr false, .inr false, .inr false, .inr false, .inr false, .inr false, .inr false, .inr false, .inl (9, ks_All_159), .inr false, .inr false, .inr false, .inr false, .inr false, .inr false, .inr false, .inr false, .inr false, .inr false, .inr false, .inr false, .inl (9, ks_All_172), .inr false, .inr false, .inr false, .inr false, .inr false, .inr false, .inr false, .inr false, .inr false, .inr false, .inr false, .inr false, .inl (9, ks_All_185), .inr false, .inr false, .inr false, .inr false, .inr false, .inr false, .inr false, .inr false, .inr false, .inr false, .inr false, .inr false, .inl (9, ks_All_198), .inr false, .inr false, .inr false, .inr false, .inr false, .inr false, .inr false, .inr false, .inr false, .inr false, .inr false, .inr false, .inl (11, ks_All_211), .inr false, .inr false, .inr false, .inr false, .inr false, .inr false, .inr false, .inr false, .inr false, .inr false, .inr false, .inr false, .inr false, .inr false, .inr false, .inr false, .inr false, .inr false, .inr false, .inr false, .inr false, .inr false, .inr false, .inr false, .inr false, .inr false, .inr false, .inr false, .inr false, .inr false, .inr false, .inr false, .inr false, .inr false, .inr false, .inr false, .inr false]
theorem lk_All_0 : lay_All[0]? = some (.inl (10, ks_All_0)) := rfl
theorem lk_All_1 : lay_All[1]? = some (.inl (1, ks_All_1)) := rfl
theorem lk_All_2 : lay_All[2]? = some (.inl (9, ks_All_2)) := rfl
theorem lk_All_3 : lay_All[3]? = some (.inr false) := rfl
theorem lk_All_4 : lay_All[4]? = some (.inr false) := rfl
theorem lk_All_5 : lay_All[5]? = some (.inr false) := rfl
theorem lk_All_6 : lay_All[6]? = some (.inr false) := rfl
theorem lk_All_7 : lay_All[7]? = some (.inr false) := rfl
theorem lk_All_8 : lay_All[8]? = some (.inr false) := rfl
theorem lk_All_9 : lay_All[9]? = some (.inr false) := rfl
theorem lk_All_10 : lay_All[10]? = some (.inr false) := rfl
theorem lk_All_11 : lay_All[11]? = some (.inr false) := rfl
theorem lk_All_12 : lay_All[12]? = some (.inr false) := rfl
theorem lk_All_13 : lay_All[13]? = some (.inr false) := rfl
theorem lk_All_14 : lay_All[14]? = some (.inr false) := rfl
theorem lk_All_15 : lay_All[15]? = some (.inl (0, ks_All_15)) := rfl
theorem lk_All_16 : lay_All[16]? = some (.inr false) := rfl
theorem lk_All_17 : lay_All[17]? = some (.inl (2, ks_All_17)) := rfl
theorem lk_All_18 : lay_All[18]? = some (.inr false) := rfl
theorem lk_All_19 : lay_All[19]? = some (.inr false) := rfl
theorem lk_All_20 : lay_All[20]? = some (.inr false) := rfl
theorem lk_All_21 : lay_All[21]? = some (.inr false) := rfl
theorem lk_All_22 : lay_All[22]? = some (.inr false) := rfl
theorem lk_All_23 : lay_All[23]? = some (.inr false) := rfl
theorem lk_All_24 : lay_All[24]? = some (.inl (5, ks_All_24)) := rfl
theorem lk_All_25 : lay_All[25]? = some (.inr false) := rfl
theorem lk_All_26 : lay_All[26]? = some (.inr false) := rfl
theorem lk_All_27 : lay_All[27]? = some (.inr false) := rfl
theorem lk_All_28 : lay_All[28]? = some (.inr false) := rfl
theorem lk_All_29 : lay_All[29]? = some (.inl (5, ks_All_29)) := rfl
theorem lk_All_30 : lay_All[30]? = some (.inr false) := rfl
theorem lk_All_31 : lay_All[31]? = some (.inr false) := rfl
theorem lk_All_32 : lay_All[32]? = some (.inr false) := rfl
theorem lk_All_33 : lay_All[33]? = some (.inr false) := rfl
theorem lk_All_34 : lay_All[34]? = some (.inl (5, ks_All_34)) := rfl
theorem lk_All_35 : lay_All[35]? = some (.inr false) := rfl
theorem lk_All_36 : lay_All[36]? = some (.inr false) := rfl
theorem lk_All_37 : lay_All[37]? = some (.inr false) := rfl
theorem lk_All_38 : lay_All[38]? = some (.inr false) := rfl
theorem lk_All_39 : lay_All[39]? = some (.inl (8, ks_All_39)) := rfl
theorem lk_All_40 : lay_All[40]? = some (.inr false) := rfl
theorem lk_All_41 : lay_All[41]? = some (.inl (8, ks_All_41)) := rfl
theorem lk_All_42 : lay_All[42]? = some (.inr false) := rfl
theorem lk_All_43 : lay_All[43]? = some (.inl (8, ks_All_43)) := rfl
theorem lk_All_44 : lay_All[44]? = some (.inr false) := rfl
theorem lk_All_45 : lay_All[45]? = some (.inl (8, ks_All_45)) := rfl
theorem lk_All_46 : lay_All[46]? = some (.inr false) := rfl
theorem lk_All_47 : lay_All[47]? = some (.inl (8, ks_All_47)) := rfl
theorem lk_All_48 : lay_All[48]? = some (.inr false) := rfl
theorem lk_All_49 : lay_All[49]? = some (.inr false) := rfl
theorem lk_All_50 : lay_All[50]? = some (.inl (1, ks_All_50)) := rfl
theorem lk_All_51 : lay_All[51]? = some (.inl (9, ks_All_51)) := rfl
theorem lk_All_52 : lay_All[52]? = some (.inr false) := rfl
theorem lk_All_53 : lay_All[53]? = some (.inr false) := rfl
theorem lk_All_54 : lay_All[54]? = some (.inr false) := rfl
theorem lk_All_55 : lay_All[55]? = some (.inr false) := rfl
theorem lk_All_56 : lay_All[56]? = some (.inr false) := rfl
theorem lk_All_57 : lay_All[57]? = some (.inr false) := rfl
theorem lk_All_58 : lay_All[58]? = some (.inr false) := rfl
theorem lk_All_59 : lay_All[59]? = some (.inr false) := rfl
theorem lk_All_60 : lay_All[60]? = some (.inr false) := rfl
theorem lk_All_61 : lay_All[61]? = some (.inr false) := rfl
theorem lk_All_62 : lay_All[62]? = some (.inr false) := rfl
theorem lk_All_63 : lay_All[63]? = some (.inr false) := rfl
theorem lk_All_64 : lay_All[64]? = some (.inl (0, ks_All_64)) := rfl
theorem lk_All_65 : lay_All[65]? = some (.inr false) := rfl
theorem lk_All_66 : lay_All[66]? = some (.inl (2, ks_All_66)) := rfl
theorem lk_All_67 : lay_All[67]? = some (.inr false) := rfl
theorem lk_All_68 : lay_All[68]? = some (.inr false) := rfl
theorem lk_All_69 : lay_All[69]? = some (.inr false) := rfl
theorem lk_All_70 : lay_All[70]? = some (.inr false) := rfl
theorem lk_All_71 : lay_All[71]? = some (.inr false) := rfl
theorem lk_All_72 : lay_All[72]? = some (.inr false) := rfl
theorem lk_All_73 : lay_All[73]? = some (.inl (5, ks_All_73)) := rfl
theorem lk_All_74 : lay_All[74]? = some (.inr false) := rfl
theorem lk_All_75 : lay_All[75]? = some (.inr false) := rfl
theorem lk_All_76 : lay_All[76]? = some (.inr false) := rfl
theorem lk_All_77 : lay_All[77]? = some (.inr false) := rfl
theorem lk_All_78 : lay_All[78]? = some (.inl (5, ks_All_78)) := rfl
theorem lk_All_79 : lay_All[79]? = some (.inr false) := rfl
theorem lk_All_80 : lay_All[80]? = some (.inr false) := rfl
theorem lk_All_81 : lay_All[81]? = some (.inr false) := rfl
theorem lk_All_82 : lay_All[82]? = some (.inr false) := rfl
theorem lk_All_83 : lay_All[83]? = some (.inl (5, ks_All_83)) := rfl
theorem lk_All_84 : lay_All[84]? = some (.inr false) := rfl
theorem lk_All_85 : lay_All[85]? = some (.inr false) := rfl
theorem lk_All_86 : lay_All[86]? = some (.inr false) := rfl
theorem lk_All_87 : lay_All[87]? = some (.inr false) := rfl
theorem lk_All_88 : lay_All[88]? = some (.inl (8, ks_All_88)) := rfl
theorem lk_All_89 : lay_All[89]? = some (.inr false) := rfl
theorem lk_All_90 : lay_All[90]? = some (.inl (8, ks_All_90)) := rfl
theorem lk_All_91 : lay_All[91]? = some (.inr false) := rfl
theorem lk_All_92 : lay_All[92]? = some (.inl (8, ks_All_92)) := rfl
theorem lk_All_93 : lay_All[93]? = some (.inr false) := rfl
theorem lk_All_94 : lay_All[94]? = some (.inl (8, ks_All_94)) := rfl
theorem lk_All_95 : lay_All[95]? = some (.inr false) := rfl
theorem lk_All_96 : lay_All[96]? = some (.inl (8, ks_All_96)) := rfl
theorem lk_All_97 : lay_All[97]? = some (.inr false) := rfl
theorem lk_All_98 : lay_All[98]? = some (.inr false) := rfl
theorem lk_All_99 : lay_All[99]? = some (.inl (9, ks_All_99)) := rfl
theorem lk_All_100 : lay_All[100]? = some (.inr false) := rfl
theorem lk_All_101 : lay_All[101]? = some (.inr false) := rfl
theorem lk_All_102 : lay_All[102]? = some (.inr false) := rfl
theorem lk_All_103 : lay_All[103]? = some (.inr false) := rfl
theorem lk_All_104 : lay_All[104]? = some (.inr false) := rfl
theorem lk_All_105 : lay_All[105]? = some (.inr false) := rfl
theorem lk_All_106 : lay_All[106]? = some (.inr false) := rfl
theorem lk_All_107 : lay_All[107]? = some (.inr false) := rfl
theorem lk_All_108 : lay_All[108]? = some (.inr false) := rfl
theorem lk_All_109 : lay_All[109]? = some (.inr false) := rfl
theorem lk_All_110 : lay_All[110]? = some (.inr false) := rfl
theorem lk_All_111 : lay_All[111]? = some (.inr false) := rfl
theorem lk_All_112 : lay_All[112]? = some (.inr true) := rfl
theorem lk_All_113 : lay_All[113]? = some (.inl (7, ks_All_113)) := rfl
theorem lk_All_114 : lay_All[114]? = some (.inr false) := rfl
theorem lk_All_115 : lay_All[115]? = some (.inl (3, ks_All_115)) := rfl
theorem lk_All_116 : lay_All[116]? = some (.inl (2, ks_All_116)) := rfl
theorem lk_All_117 : lay_All[117]? = some (.inr false) := rfl
theorem lk_All_118 : lay_All[118]? = some (.inr false) := rfl
theorem lk_All_119 : lay_All[119]? = some (.inr false) := rfl
theorem lk_All_120 : lay_All[120]? = some (.inr false) := rfl
theorem lk_All_121 : lay_All[121]? = some (.inr false) := rfl
theorem lk_All_122 : lay_All[122]? = some (.inr false) := rfl
theorem lk_All_123 : lay_All[123]? = some (.inl (4, ks_All_123)) := rfl
theorem lk_All_124 : lay_All[124]? = some (.inl (5, ks_All_124)) := rfl
theorem lk_All_125 : lay_All[125]? = some (.inr false) := rfl
theorem lk_All_126 : lay_All[126]? = some (.inr false) := rfl
theorem lk_All_127 : lay_All[127]? = some (.inr false) := rfl
theorem lk_All_128 : lay_All[128]? = some (.inr false) := rfl
theorem lk_All_129 : lay_All[129]? = some (.inl (6, ks_All_129)) := rfl
theorem lk_All_130 : lay_All[130]? = some (.inr false) := rfl
theorem lk_All_131 : lay_All[131]? = some (.inr false) := rfl
theorem lk_All_132 : lay_All[132]? = some (.inr false) := rfl
theorem lk_All_133 : lay_All[133]? = some (.inl (9, ks_All_133)) := rfl
theorem lk_All_134 : lay_All[134]? = some (.inr false) := rfl
theorem lk_All_135 : lay_All[135]? = some (.inr false) := rfl
theorem lk_All_136 : lay_All[136]? = some (.inr false) := rfl
theorem lk_All_137 : lay_All[137]? = some (.inr false) := rfl
theorem lk_All_138 : lay_All[138]? = some (.inr false) := rfl
theorem lk_All_139 : lay_All[139]? = some (.inr false) := rfl
theorem lk_All_140 : lay_All[140]? = some (.inr false) := rfl
theorem lk_All_141 : lay_All[141]? = some (.inr false) := rfl
theorem lk_All_142 : lay_All[142]? = some (.inr false) := rfl
theorem lk_All_143 : lay_All[143]? = some (.inr false) := rfl
theorem lk_All_144 : lay_All[144]? = some (.inr false) := rfl
theorem lk_All_145 : lay_All[145]? = some (.inr false) := rfl
theorem lk_All_146 : lay_All[146]? = some (.inl (9, ks_All_146)) := rfl
theorem lk_All_147 : lay_All[147]? = some (.inr false) := rfl
theorem lk_All_148 : lay_All[148]? = some (.inr false) := rfl
theorem lk_All_149 : lay_All[149]? = some (.inr false) := rfl
theorem lk_All_150 : lay_All[150]? = some (.inr false) := rfl
theorem lk_All_151 : lay_All[151]? = some (.inr false) := rfl
theorem lk_All_152 : lay_All[152]? = some (.inr false) := rfl
theorem lk_All_153 : lay_All[153]? = some (.inr false) := rfl
theorem lk_All_154 : lay_All[154]? = some (.inr false) := rfl
theorem lk_All_155 : lay_All[155]? = some (.inr false) := rfl
theorem lk_All_156 : lay_All[156]? = some (.inr false) := rfl
theorem lk_All_157 : lay_All[157]? = some (.inr false) := rfl
theorem lk_All_158 : lay_All[158]? = some (.inr false) := rfl
theorem lk_All_159 : lay_All[159]? = some (.inl (9, ks_All_159)) := rfl
theorem lk_All_160 : lay_All[160]? = some (.inr false) := rfl
theorem lk_All_161 : lay_All[161]? = some (.inr false) := rfl
theorem lk_All_162 : lay_All[162]? = some (.inr false) := rfl
theorem lk_All_163 : lay_All[163]? = some (.inr false) := rfl
theorem lk_All_164 : lay_All[164]? = some (.inr false) := rfl
theorem lk_All_165 : lay_All[165]? = some (.inr false) := rfl
theorem lk_All_166 : lay_All[166]? = some (.inr false) := rfl
theorem lk_All_167 : lay_All[167]? = some (.inr false) := rfl
theorem lk_All_168 : lay_All[168]? = some (.inr false) := rfl
theorem lk_All_169 : lay_All[169]? = some (.inr false) := rfl
theorem lk_All_170 : lay_All[170]? = some (.inr false) := rfl
theorem lk_All_171 : lay_All[171]? = some (.inr false) := rfl
theorem lk_All_172 : lay_All[172]? = some (.inl (9, ks_All_172)) := rfl
theorem lk_All_173 : lay_All[173]? = some (.inr false) := rfl
theorem lk_All_174 : lay_All[174]? = some (.inr false) := rfl
theorem lk_All_175 : lay_All[175]? = some (.inr false) := rfl
theorem lk_All_176 : lay_All[176]? = some (.inr false) := rfl
theorem lk_All_177 : lay_All[177]? = some (.inr false) := rfl
theorem lk_All_178 : lay_All[178]? = some (.inr false) := rfl
theorem lk_All_179 : lay_All[179]? = some (.inr false) := rfl
theorem lk_All_180 : lay_All[180]? = some (.inr false) := rfl
theorem lk_All_181 : lay_All[181]? = some (.inr false) := rfl
theorem lk_All_182 : lay_All[182]? = some (.inr false) := rfl
theorem lk_All_183 : lay_All[183]? = some (.inr false) := rfl
theorem lk_All_184 : lay_All[184]? = some (.inr false) := rfl
theorem lk_All_185 : lay_All[185]? = some (.inl (9, ks_All_185)) := rfl
theorem lk_All_186 : lay_All[186]? = some (.inr false) := rfl
theorem lk_All_187 : lay_All[187]? = some (.inr false) := rfl
theorem lk_All_188 : lay_All[188]? = some (.inr false) := rfl
theorem lk_All_189 : lay_All[189]? = some (.inr false) := rfl
theorem lk_All_190 : lay_All[190]? = some (.inr false) := rfl
theorem lk_All_191 : lay_All[191]? = some (.inr false) := rfl
theorem lk_All_192 : lay_All[192]? = some (.inr false) := rfl
theorem lk_All_193 : lay_All[193]? = some (.inr false) := rfl
theorem lk_All_194 : lay_All[194]? = some (.inr false) := rfl
theorem lk_All_195 : lay_All[195]? = some (.inr false) := rfl
theorem lk_All_196 : lay_All[196]? = some (.inr false) := rfl
theorem lk_All_197 : lay_All[197]? = some (.inr false) := rfl
theorem lk_All_198 : lay_All[198]? = some (.inl (9, ks_All_198)) := rfl
theorem lk_All_199 : lay_All[199]? = some (.inr false) := rfl
theorem lk_All_200 : lay_All[200]? = some (.inr false) := rfl
theorem lk_All_201 : lay_All[201]? = some (.inr false) := rfl
theorem lk_All_202 : lay_All[202]? = some (.inr false) := rfl
theorem lk_All_203 : lay_All[203]? = some (.inr false) := rfl
theorem lk_All_204 : lay_All[204]? = some (.inr false) := rfl
theorem lk_All_205 : lay_All[205]? = some (.inr false) := rfl
theorem lk_All_206 : lay_All[206]? = some (.inr false) := rfl
theorem lk_All_207 : lay_All[207]? = some (.inr false) := rfl
theorem lk_All_208 : lay_All[208]? = some (.inr false) := rfl
theorem lk_All_209 : lay_All[209]? = some (.inr false) := rfl
theorem lk_All_210 : lay_All[210]? = some (.inr false) := rfl
theorem lk_All_211 : lay_All[211]? = some (.inl (11, ks_All_211)) := rfl
theorem lk_All_212 : lay_All[212]? = some (.inr false) := rfl
theorem lk_All_213 : lay_All[213]? = some (.inr false) := rfl
theorem lk_All_214 : lay_All[214]? = some (.inr false) := rfl
theorem lk_All_215 : lay_All[215]? = some (.inr false) := rfl
theorem lk_All_216 : lay_All[216]? = some (.inr false) := rfl
theorem lk_All_217 : lay_All[217]? = some (.inr false) := rfl
theorem lk_All_218 : lay_All[218]? = some (.inr false) := rfl
theorem lk_All_219 : lay_All[219]? = some (.inr false) := rfl
theorem lk_All_220 : lay_All[220]? = some (.inr false) := rfl
theorem lk_All_221 : lay_All[221]? = some (.inr false) := rfl
theorem lk_All_222 : lay_All[222]? = some (.inr false) := rfl
theorem lk_All_223 : lay_All[223]? = some (.inr false) := rfl
theorem lk_All_224 : lay_All[224]? = some (.inr false) := rfl
theorem lk_All_225 : lay_All[225]? = some (.inr false) := rfl
theorem lk_All_226 : lay_All[226]? = some (.inr false) := rfl
theorem lk_All_227 : lay_All[227]? = some (.inr false) := rfl
theorem lk_All_228 : lay_All[228]? = some (.inr false) := rfl
theorem lk_All_229 : lay_All[229]? = some (.inr false) := rfl
theorem lk_All_230 : lay_All[230]? = some (.inr false) := rfl
theorem lk_All_231 : lay_All[231]? = some (.inr false) := rfl
theorem lk_All_232 : lay_All[232]? = some (.inr false) := rfl
theorem lk_All_233 : lay_All[233]? = some (.inr false) := rfl
theorem lk_All_234 : lay_All[234]? = some (.inr false) := rfl
theorem lk_All_235 : lay_All[235]? = some (.inr false) := rfl
theorem lk_All_236 : lay_All[236]? = some (.inr false) := rfl
theorem lk_All_237 : lay_All[237]? = some (.inr false) := rfl
theorem lk_All_238 : lay_All[238]? = some (.inr false) := rfl
theorem lk_All_239 : lay_All[239]? = some (.inr false) := rfl
theorem lk_All_240 : lay_All[240]? = some (.inr false) := rfl
theorem lk_All_241 : lay_All[241]? = some (.inr false) := rfl
theorem lk_All_242 : lay_All[242]? = some (.inr false) := rfl
theorem lk_All_243 : lay_All[243]? = some (.inr false) := rfl
theorem lk_All_244 : lay_All[244]? = some (.inr false) := rfl
theorem lk_All_245 : lay_All[245]? = some (.inr false) := rfl
theorem lk_All_246 : lay_All[246]? = some (.inr false) := rfl
theorem lk_All_247 : lay_All[247]? = some (.inr false) := rfl
theorem lk_All_248 : lay_All[248]? = some (.inr false) := rfl
theorem kk_Book_0_0 : ks_Book_0[0]? = some (some 1) := rfl
theorem kk_Book2_0_0 : ks_Book2_0[0]? = some (some 1) := rfl
theorem kk_Book2_2_0 : ks_Book2_2[0]? = some (some 3) := rfl
theorem kk_BookW_0_0 : ks_BookW_0[0]? = some (some 1) := rfl
theorem kk_BookW_2_0 : ks_BookW_2[0]? = some (none) := rfl
theorem kk_BookW_2_2 : ks_BookW_2[2]? = some (none) := rfl
theorem kk_BookW_2_3 : ks_BookW_2[3]? = some (none) := rfl
theorem kk_HW_0_1 : ks_HW_0[1]? = some (some 1) := rfl
theorem kk_HW_0_2 : ks_HW_0[2]? = some (some 3) := rfl
theorem kk_HW_0_3 : ks_HW_0[3]? = some (some 10) := rfl
theorem kk_HW_0_4 : ks_HW_0[4]? = some (some 15) := rfl
theorem kk_HW_0_5 : ks_HW_0[5]? = some (some 20) := rfl
theorem kk_HW_0_11 : ks_HW_0[11]? = some (some 35) := rfl
theorem kk_HW_10_0 : ks_HW_10[0]? = some (none) := rfl
theorem kk_HW_10_1 : ks_HW_10[1]? = some (some 11) := rfl
theorem kk_HW_10_2 : ks_HW_10[2]? = some (some 12) := rfl
theorem kk_HW_10_3 : ks_HW_10[3]? = some (some 13) := rfl
theorem kk_HW_10_4 : ks_HW_10[4]? = some (some 14) := rfl
theorem kk_HW_15_0 : ks_HW_15[0]? = some (none) := rfl
theorem kk_HW_15_1 : ks_HW_15[1]? = some (some 16) := rfl
theorem kk_HW_15_3 : ks_HW_15[3]? = some (some 18) := rfl
theorem kk_HW_15_4 : ks_HW_15[4]? = some (some 19) := rfl
theorem kk_HW_36_2 : ks_HW_36[2]? = some (none) := rfl
theorem kk_HW_36_6 : ks_HW_36[6]? = some (none) := rfl
theorem kk_HW_36_7 : ks_HW_36[7]? = some (some 37) := rfl
theorem kk_HW_36_8 : ks_HW_36[8]? = some (some 38) := rfl
theorem kk_HW_36_9 : ks_HW_36[9]? = some (some 39) := rfl
theorem kk_HW_36_10 : ks_HW_36[10]? = some (some 40) := rfl
theorem kk_HW_36_11 : ks_HW_36[11]? = some (some 41) := rfl
theorem kk_HW_36_12 : ks_HW_36[12]? = some (some 42) := rfl
theorem kk_HW_36_14 : ks_HW_36[14]? = some (some 44) := rfl
theorem kk_HW_36_15 : ks_HW_36[15]? = some (some 45) := rfl
theorem kk_HW_36_16 : ks_HW_36[16]? = some (some 46) := rfl
theorem kk_HW_36_17 : ks_HW_36[17]? = some (some 47) := rfl
theorem kk_HW_36_18 : ks_HW_36[18]? = some (some 48) := rfl
theorem kk_House2_0_0 : ks_House2_0[0]? = some (some 1) := rfl
theorem kk_House2_0_1 : ks_House2_0[1]? = some (some 14) := rfl
theorem kk_House2_0_2 : ks_House2_0[2]? = some (some 16) := rfl
theorem kk_House2_0_3 : ks_House2_0[3]? = some (some 23) := rfl
theorem kk_House2_0_4 : ks_House2_0[4]? = some (some 28) := rfl
theorem kk_House2_0_5 : ks_House2_0[5]? = some (some 33) := rfl
theorem kk_House2_0_6 : ks_House2_0[6]? = some (some 38) := rfl
theorem kk_House2_0_7 : ks_House2_0[7]? = some (some 40) := rfl
theorem kk_House2_0_8 : ks_House2_0[8]? = some (some 42) := rfl
theorem kk_House2_0_9 : ks_House2_0[9]? = some (some 44) := rfl
theorem kk_House2_0_10 : ks_House2_0[10]? = some (some 46) := rfl
theorem kk_House2_49_0 : ks_House2_49[0]? = some (some 50) := rfl
theorem kk_House2_49_1 : ks_House2_49[1]? = some (some 63) := rfl
theorem kk_House2_49_2 : ks_House2_49[2]? = some (some 65) := rfl
theorem kk_House2_49_3 : ks_House2_49[3]? = some (some 72) := rfl
theorem kk_House2_49_4 : ks_House2_49[4]? = some (some 77) := rfl
theorem kk_House2_49_5 : ks_House2_49[5]? = some (some 82) := rfl
theorem kk_House2_49_6 : ks_House2_49[6]? = some (some 87) := rfl
theorem kk_House2_49_7 : ks_House2_49[7]? = some (some 89) := rfl
theorem kk_House2_49_8 : ks_House2_49[8]? = some (some 91) := rfl
theorem kk_House2_49_9 : ks_House2_49[9]? = some (some 93) := rfl
theorem kk_House2_49_10 : ks_House2_49[10]? = some (some 95) := rfl
theorem kk_KL_0_0 : ks_KL_0[0]? = some (some 1) := rfl
theorem kk_KL_0_1 : ks_KL_0[1]? = some (some 50) := rfl
theorem kk_KL_0_2 : ks_KL_0[2]? = some (none) := rfl
theorem kk_KL_0_3 : ks_KL_0[3]? = some (some 99) := rfl
theorem kk_KL_0_4 : ks_KL_0[4]? = some (some 112) := rfl
theorem kk_KL_0_5 : ks_KL_0[5]? = some (none) := rfl
theorem kk_KL_0_6 : ks_KL_0[6]? = some (some 113) := rfl
theorem kk_KL_0_7 : ks_KL_0[7]? = some (some 115) := rfl
theorem kk_KL_0_8 : ks_KL_0[8]? = some (some 123) := rfl
theorem kk_KL_0_9 : ks_KL_0[9]? = some (some 129) := rfl
theorem kk_KL_1_0 : ks_KL_1[0]? = some (some 2) := rfl
theorem kk_KL_1_1 : ks_KL_1[1]? = some (some 15) := rfl
theorem kk_KL_1_2 : ks_KL_1[2]? = some (some 17) := rfl
theorem kk_KL_1_3 : ks_KL_1[3]? = some (some 24) := rfl
theorem kk_KL_1_4 : ks_KL_1[4]? = some (some 29) := rfl
theorem kk_KL_1_5 : ks_KL_1[5]? = some (some 34) := rfl
theorem kk_KL_1_6 : ks_KL_1[6]? = some (some 39) := rfl
theorem kk_KL_1_7 : ks_KL_1[7]? = some (some 41) := rfl
theorem kk_KL_1_8 : ks_KL_1[8]? = some (some 43) := rfl
theorem kk_KL_1_9 : ks_KL_1[9]? = some (some 45) := rfl
theorem kk_KL_1_10 : ks_KL_1[10]? = some (some 47) := rfl
theorem kk_KL_2_1 : ks_KL_2[1]? = some (none) := rfl
theorem kk_KL_2_2 : ks_KL_2[2]? = some (none) := rfl
theorem kk_KL_2_3 : ks_KL_2[3]? = some (none) := rfl
theorem kk_KL_2_4 : ks_KL_2[4]? = some (none) := rfl
theorem kk_KL_2_5 : ks_KL_2[5]? = some (none) := rfl
theorem kk_KL_2_6 : ks_KL_2[6]? = some (none) := rfl
theorem kk_KL_2_7 : ks_KL_2[7]? = some (some 3) := rfl
theorem kk_KL_2_8 : ks_KL_2[8]? = some (some 4) := rfl
theorem kk_KL_2_9 : ks_KL_2[9]? = some (some 5) := rfl
theorem kk_KL_2_10 : ks_KL_2[10]? = some (some 6) := rfl
theorem kk_KL_2_11 : ks_KL_2[11]? = some (some 7) := rfl
theorem kk_KL_2_12 : ks_KL_2[12]? = some (some 8) := rfl
theorem kk_KL_2_14 : ks_KL_2[14]? = some (some 10) := rfl
theorem kk_KL_2_15 : ks_KL_2[15]? = some (some 11) := rfl
theorem kk_KL_2_16 : ks_KL_2[16]? = some (some 12) := rfl
theorem kk_KL_2_17 : ks_KL_2[17]? = some (some 13) := rfl
theorem kk_KL_2_18 : ks_KL_2[18]? = some (some 14) := rfl
theorem kk_KL_17_0 : ks_KL_17[0]? = some (none) := rfl
theorem kk_KL_24_0 : ks_KL_24[0]? = some (none) := rfl
theorem kk_KL_29_0 : ks_KL_29[0]? = some (none) := rfl
theorem kk_KL_34_0 : ks_KL_34[0]? = some (none) := rfl
theorem kk_KL_41_0 : ks_KL_41[0]? = some (none) := rfl
theorem kk_KL_47_0 : ks_KL_47[0]? = some (none) := rfl
theorem kk_KL_99_4 : ks_KL_99[4]? = some (none) := rfl
theorem kk_KL_99_5 : ks_KL_99[5]? = some (none) := rfl
theorem kk_KL_99_6 : ks_KL_99[6]? = some (none) := rfl
theorem kk_KL_99_8 : ks_KL_99[8]? = some (some 101) := rfl
theorem kk_KL_99_9 : ks_KL_99[9]? = some (some 102) := rfl
theorem kk_KL_99_12 : ks_KL_99[12]? = some (some 105) := rfl
theorem kk_KL_99_17 : ks_KL_99[17]? = some (some 110) := rfl
theorem kk_KL_99_18 : ks_KL_99[18]? = some (some 111) := rfl
theorem kk_KL_113_0 : ks_KL_113[0]? = some (none) := rfl
theorem kk_KL_113_6 : ks_KL_113[6]? = some (none) := rfl
theorem kk_KL_113_7 : ks_KL_113[7]? = some (none) := rfl
theorem kk_KL_115_0 : ks_KL_115[0]? = some (some 116) := rfl
theorem kk_KL_123_0 : ks_KL_123[0]? = some (some 124) := rfl
theorem kk_Law_0_0 : ks_Law_0[0]? = some (none) := rfl
theorem kk_Law_0_1 : ks_Law_0[1]? = some (none) := rfl
theorem kk_Law_0_2 : ks_Law_0[2]? = some (some 1) := rfl
theorem kk_Law_0_3 : ks_Law_0[3]? = some (some 2) := rfl
theorem kk_Law_0_4 : ks_Law_0[4]? = some (some 3) := rfl
theorem kk_Law_0_5 : ks_Law_0[5]? = some (some 4) := rfl
theorem kk_Law_0_6 : ks_Law_0[6]? = some (some 5) := rfl
theorem kk_Law2_0_0 : ks_Law2_0[0]? = some (none) := rfl
theorem kk_Law2_0_1 : ks_Law2_0[1]? = some (none) := rfl
theorem kk_Law2_0_2 : ks_Law2_0[2]? = some (some 1) := rfl
theorem kk_Law2_0_3 : ks_Law2_0[3]? = some (some 2) := rfl
theorem kk_Law2_0_4 : ks_Law2_0[4]? = some (some 3) := rfl
theorem kk_Law2_0_5 : ks_Law2_0[5]? = some (some 4) := rfl
theorem kk_Law2_0_6 : ks_Law2_0[6]? = some (some 5) := rfl
theorem kk_Law2_7_0 : ks_Law2_7[0]? = some (none) := rfl
theorem kk_Law2_7_1 : ks_Law2_7[1]? = some (none) := rfl
theorem kk_Law2_7_2 : ks_Law2_7[2]? = some (some 8) := rfl
theorem kk_Law2_7_3 : ks_Law2_7[3]? = some (some 9) := rfl
theorem kk_Law2_7_4 : ks_Law2_7[4]? = some (some 10) := rfl
theorem kk_Law2_7_5 : ks_Law2_7[5]? = some (some 11) := rfl
theorem kk_Law2_7_6 : ks_Law2_7[6]? = some (some 12) := rfl
theorem kk_LawR_0_0 : ks_LawR_0[0]? = some (some 1) := rfl
theorem kk_LawR_1_0 : ks_LawR_1[0]? = some (none) := rfl
theorem kk_LawR_1_1 : ks_LawR_1[1]? = some (none) := rfl
theorem kk_LawR_8_2 : ks_LawR_8[2]? = some (none) := rfl
theorem kk_LawR_8_3 : ks_LawR_8[3]? = some (none) := rfl
theorem kk_LawS_0_0 : ks_LawS_0[0]? = some (none) := rfl
theorem kk_LawS_0_2 : ks_LawS_0[2]? = some (some 1) := rfl
theorem kk_LawS_0_3 : ks_LawS_0[3]? = some (some 2) := rfl
theorem kk_LawS_0_4 : ks_LawS_0[4]? = some (some 3) := rfl
theorem kk_LawS_0_5 : ks_LawS_0[5]? = some (some 4) := rfl
theorem kk_LawS_0_6 : ks_LawS_0[6]? = some (some 5) := rfl
theorem kk_LawS_0_7 : ks_LawS_0[7]? = some (some 6) := rfl
theorem kk_LineR_0_0 : ks_LineR_0[0]? = some (some 1) := rfl
theorem kk_LineR_0_1 : ks_LineR_0[1]? = some (none) := rfl
theorem kk_LineR_1_0 : ks_LineR_1[0]? = some (none) := rfl
theorem kk_LineR_6_2 : ks_LineR_6[2]? = some (none) := rfl
theorem kk_LineR_6_3 : ks_LineR_6[3]? = some (none) := rfl
theorem kk_LineR_8_4 : ks_LineR_8[4]? = some (none) := rfl
theorem kk_LineR_8_5 : ks_LineR_8[5]? = some (none) := rfl
theorem kk_LineR_8_6 : ks_LineR_8[6]? = some (none) := rfl
theorem kk_Lines_0_0 : ks_Lines_0[0]? = some (none) := rfl
theorem kk_Lines_0_1 : ks_Lines_0[1]? = some (some 1) := rfl
theorem kk_Lines_0_2 : ks_Lines_0[2]? = some (some 2) := rfl
theorem kk_Lines_0_3 : ks_Lines_0[3]? = some (some 3) := rfl
theorem kk_Lines_0_4 : ks_Lines_0[4]? = some (some 4) := rfl
theorem kk_Lines2_0_0 : ks_Lines2_0[0]? = some (none) := rfl
theorem kk_Lines2_0_1 : ks_Lines2_0[1]? = some (some 1) := rfl
theorem kk_Lines2_0_2 : ks_Lines2_0[2]? = some (some 2) := rfl
theorem kk_Lines2_0_3 : ks_Lines2_0[3]? = some (some 3) := rfl
theorem kk_Lines2_0_4 : ks_Lines2_0[4]? = some (some 4) := rfl
theorem kk_Lines2_5_0 : ks_Lines2_5[0]? = some (none) := rfl
theorem kk_Lines2_5_1 : ks_Lines2_5[1]? = some (some 6) := rfl
theorem kk_Lines2_5_2 : ks_Lines2_5[2]? = some (some 7) := rfl
theorem kk_Lines2_5_3 : ks_Lines2_5[3]? = some (some 8) := rfl
theorem kk_Lines2_5_4 : ks_Lines2_5[4]? = some (some 9) := rfl
theorem kk_Mo_0_0 : ks_Mo_0[0]? = some (none) := rfl
theorem kk_Mo_0_1 : ks_Mo_0[1]? = some (some 1) := rfl
theorem kk_Mo_0_2 : ks_Mo_0[2]? = some (some 2) := rfl
theorem kk_Mo_0_3 : ks_Mo_0[3]? = some (none) := rfl
theorem kk_Mo_0_4 : ks_Mo_0[4]? = some (some 3) := rfl
theorem kk_Mo_0_5 : ks_Mo_0[5]? = some (none) := rfl
theorem kk_Mo_0_6 : ks_Mo_0[6]? = some (none) := rfl
theorem kk_Mo_0_7 : ks_Mo_0[7]? = some (none) := rfl
theorem kk_Mo_0_8 : ks_Mo_0[8]? = some (none) := rfl
theorem kk_Mo_0_9 : ks_Mo_0[9]? = some (some 4) := rfl
theorem kk_Mo_0_10 : ks_Mo_0[10]? = some (some 5) := rfl
theorem kk_Mo_0_11 : ks_Mo_0[11]? = some (some 6) := rfl
theorem kk_Mo_0_12 : ks_Mo_0[12]? = some (some 7) := rfl
theorem kk_Mo_0_13 : ks_Mo_0[13]? = some (none) := rfl
theorem kk_Mo_0_14 : ks_Mo_0[14]? = some (none) := rfl
theorem kk_Mo_0_15 : ks_Mo_0[15]? = some (none) := rfl
theorem kk_Mo_0_16 : ks_Mo_0[16]? = some (none) := rfl
theorem kk_Mo_0_17 : ks_Mo_0[17]? = some (none) := rfl
theorem kk_Mo_0_18 : ks_Mo_0[18]? = some (some 8) := rfl
theorem kk_Mo_0_19 : ks_Mo_0[19]? = some (some 9) := rfl
theorem kk_Mo_0_20 : ks_Mo_0[20]? = some (some 10) := rfl
theorem kk_Mo_0_21 : ks_Mo_0[21]? = some (some 11) := rfl
theorem kk_Mo_0_22 : ks_Mo_0[22]? = some (some 12) := rfl
theorem kk_Mo_0_23 : ks_Mo_0[23]? = some (some 13) := rfl
theorem kk_Mo_0_24 : ks_Mo_0[24]? = some (some 14) := rfl
theorem kk_Mo_0_25 : ks_Mo_0[25]? = some (some 15) := rfl
theorem kk_Mo_0_26 : ks_Mo_0[26]? = some (none) := rfl
theorem kk_Mo_0_27 : ks_Mo_0[27]? = some (none) := rfl
theorem kk_Mo_0_28 : ks_Mo_0[28]? = some (none) := rfl
theorem kk_Mo_0_29 : ks_Mo_0[29]? = some (some 16) := rfl
theorem kk_Mo_0_30 : ks_Mo_0[30]? = some (none) := rfl
theorem kk_Mo_0_31 : ks_Mo_0[31]? = some (none) := rfl
theorem kk_Mo_0_32 : ks_Mo_0[32]? = some (none) := rfl
theorem kk_Mo_0_33 : ks_Mo_0[33]? = some (none) := rfl
theorem kk_Mo_0_34 : ks_Mo_0[34]? = some (none) := rfl
theorem kk_Mo_0_35 : ks_Mo_0[35]? = some (none) := rfl
theorem kk_Mo_0_36 : ks_Mo_0[36]? = some (some 17) := rfl
theorem kk_Mo_0_37 : ks_Mo_0[37]? = some (none) := rfl
theorem kk_Mo_0_38 : ks_Mo_0[38]? = some (some 18) := rfl
theorem kk_Mo_0_39 : ks_Mo_0[39]? = some (none) := rfl
theorem kk_Mo_0_40 : ks_Mo_0[40]? = some (some 19) := rfl
theorem kk_Mo_0_41 : ks_Mo_0[41]? = some (some 20) := rfl
theorem kk_Mo_0_42 : ks_Mo_0[42]? = some (some 21) := rfl
theorem kk_Mo_0_43 : ks_Mo_0[43]? = some (none) := rfl
theorem kk_Mo_0_44 : ks_Mo_0[44]? = some (some 22) := rfl
theorem kk_Mo_0_45 : ks_Mo_0[45]? = some (some 23) := rfl
theorem kk_Mo_0_46 : ks_Mo_0[46]? = some (none) := rfl
theorem kk_Mo_0_47 : ks_Mo_0[47]? = some (some 24) := rfl
theorem kk_Mo_0_48 : ks_Mo_0[48]? = some (some 25) := rfl
theorem kk_Mo_0_49 : ks_Mo_0[49]? = some (some 26) := rfl
theorem kk_Mo_0_50 : ks_Mo_0[50]? = some (some 27) := rfl
theorem kk_Mo_0_51 : ks_Mo_0[51]? = some (some 28) := rfl
theorem kk_Mo_0_52 : ks_Mo_0[52]? = some (none) := rfl
theorem kk_Mo_0_53 : ks_Mo_0[53]? = some (some 29) := rfl
theorem kk_Mo_0_54 : ks_Mo_0[54]? = some (none) := rfl
theorem kk_Mo_0_55 : ks_Mo_0[55]? = some (some 30) := rfl
theorem kk_Mo_0_56 : ks_Mo_0[56]? = some (some 31) := rfl
theorem kk_Mo_0_57 : ks_Mo_0[57]? = some (none) := rfl
theorem kk_Mo_0_58 : ks_Mo_0[58]? = some (some 32) := rfl
theorem kk_Mo_0_59 : ks_Mo_0[59]? = some (some 33) := rfl
theorem kk_Mo_0_60 : ks_Mo_0[60]? = some (some 34) := rfl
theorem kk_Mo_0_61 : ks_Mo_0[61]? = some (none) := rfl
theorem kk_Mo_0_62 : ks_Mo_0[62]? = some (some 35) := rfl
theorem kk_Mo_0_63 : ks_Mo_0[63]? = some (some 36) := rfl
theorem kk_Mo_0_64 : ks_Mo_0[64]? = some (none) := rfl
theorem kk_Mo_0_65 : ks_Mo_0[65]? = some (none) := rfl
theorem kk_Mo_0_66 : ks_Mo_0[66]? = some (none) := rfl
theorem kk_Mo_0_67 : ks_Mo_0[67]? = some (some 37) := rfl
theorem kk_PuzT_0_0 : ks_PuzT_0[0]? = some (some 1) := rfl
theorem kk_PuzT_0_3 : ks_PuzT_0[3]? = some (some 3) := rfl
theorem kk_PuzT_4_0 : ks_PuzT_4[0]? = some (none) := rfl
theorem kk_Puzzles_0_1 : ks_Puzzles_0[1]? = some (some 2) := rfl
theorem kk_Puzzles_0_2 : ks_Puzzles_0[2]? = some (none) := rfl
theorem kk_Puzzles_0_3 : ks_Puzzles_0[3]? = some (some 3) := rfl
theorem kk_Tape_0_0 : ks_Tape_0[0]? = some (none) := rfl
theorem kk_Tape_0_1 : ks_Tape_0[1]? = some (some 1) := rfl
theorem kk_Tape_0_2 : ks_Tape_0[2]? = some (none) := rfl
theorem kk_Tape_0_3 : ks_Tape_0[3]? = some (none) := rfl
theorem kk_Tape_0_4 : ks_Tape_0[4]? = some (none) := rfl
theorem kk_Tape_0_5 : ks_Tape_0[5]? = some (none) := rfl
theorem kk_Tape_0_6 : ks_Tape_0[6]? = some (none) := rfl
theorem kk_Tape_0_7 : ks_Tape_0[7]? = some (none) := rfl
theorem kk_Told_0_0 : ks_Told_0[0]? = some (none) := rfl
theorem kk_Told_0_1 : ks_Told_0[1]? = some (some 1) := rfl
theorem kk_Told2_0_0 : ks_Told2_0[0]? = some (none) := rfl
theorem kk_Told2_0_1 : ks_Told2_0[1]? = some (some 1) := rfl
theorem kk_Told2_2_0 : ks_Told2_2[0]? = some (none) := rfl
theorem kk_Told2_2_1 : ks_Told2_2[1]? = some (some 3) := rfl
theorem kk_World_0_0 : ks_World_0[0]? = some (none) := rfl
theorem kk_World_0_1 : ks_World_0[1]? = some (none) := rfl
theorem kk_World_0_2 : ks_World_0[2]? = some (none) := rfl
theorem kk_World_0_4 : ks_World_0[4]? = some (none) := rfl
theorem kk_World_0_5 : ks_World_0[5]? = some (none) := rfl
theorem kk_World_0_6 : ks_World_0[6]? = some (none) := rfl
theorem kk_World_0_7 : ks_World_0[7]? = some (some 1) := rfl
theorem kk_World_0_8 : ks_World_0[8]? = some (some 2) := rfl
theorem kk_World_0_9 : ks_World_0[9]? = some (some 3) := rfl
theorem kk_World_0_10 : ks_World_0[10]? = some (some 4) := rfl
theorem kk_World_0_11 : ks_World_0[11]? = some (some 5) := rfl
theorem kk_World_0_12 : ks_World_0[12]? = some (some 6) := rfl
theorem kk_World_0_13 : ks_World_0[13]? = some (some 7) := rfl
theorem kk_World_0_14 : ks_World_0[14]? = some (some 8) := rfl
theorem kk_World_0_15 : ks_World_0[15]? = some (some 9) := rfl
theorem kk_World_0_16 : ks_World_0[16]? = some (some 10) := rfl
theorem kk_World_0_17 : ks_World_0[17]? = some (some 11) := rfl
theorem kk_World_0_18 : ks_World_0[18]? = some (some 12) := rfl
theorem kk_World2_0_1 : ks_World2_0[1]? = some (none) := rfl
theorem kk_World2_0_2 : ks_World2_0[2]? = some (none) := rfl
theorem kk_World2_0_3 : ks_World2_0[3]? = some (none) := rfl
theorem kk_World2_0_4 : ks_World2_0[4]? = some (none) := rfl
theorem kk_World2_0_5 : ks_World2_0[5]? = some (none) := rfl
theorem kk_World2_0_6 : ks_World2_0[6]? = some (none) := rfl
theorem kk_World2_0_7 : ks_World2_0[7]? = some (some 1) := rfl
theorem kk_World2_0_8 : ks_World2_0[8]? = some (some 2) := rfl
theorem kk_World2_0_9 : ks_World2_0[9]? = some (some 3) := rfl
theorem kk_World2_0_10 : ks_World2_0[10]? = some (some 4) := rfl
theorem kk_World2_0_11 : ks_World2_0[11]? = some (some 5) := rfl
theorem kk_World2_0_12 : ks_World2_0[12]? = some (some 6) := rfl
theorem kk_World2_0_13 : ks_World2_0[13]? = some (some 7) := rfl
theorem kk_World2_0_14 : ks_World2_0[14]? = some (some 8) := rfl
theorem kk_World2_0_15 : ks_World2_0[15]? = some (some 9) := rfl
theorem kk_World2_0_16 : ks_World2_0[16]? = some (some 10) := rfl
theorem kk_World2_0_17 : ks_World2_0[17]? = some (some 11) := rfl
theorem kk_World2_0_18 : ks_World2_0[18]? = some (some 12) := rfl
theorem kk_World2_13_1 : ks_World2_13[1]? = some (none) := rfl
theorem kk_World2_13_2 : ks_World2_13[2]? = some (none) := rfl
theorem kk_World2_13_3 : ks_World2_13[3]? = some (none) := rfl
theorem kk_World2_13_4 : ks_World2_13[4]? = some (none) := rfl
theorem kk_World2_13_5 : ks_World2_13[5]? = some (none) := rfl
theorem kk_World2_13_6 : ks_World2_13[6]? = some (none) := rfl
theorem kk_World2_13_7 : ks_World2_13[7]? = some (some 14) := rfl
theorem kk_World2_13_8 : ks_World2_13[8]? = some (some 15) := rfl
theorem kk_World2_13_9 : ks_World2_13[9]? = some (some 16) := rfl
theorem kk_World2_13_10 : ks_World2_13[10]? = some (some 17) := rfl
theorem kk_World2_13_11 : ks_World2_13[11]? = some (some 18) := rfl
theorem kk_World2_13_12 : ks_World2_13[12]? = some (some 19) := rfl
theorem kk_World2_13_13 : ks_World2_13[13]? = some (some 20) := rfl
theorem kk_World2_13_14 : ks_World2_13[14]? = some (some 21) := rfl
theorem kk_World2_13_15 : ks_World2_13[15]? = some (some 22) := rfl
theorem kk_World2_13_16 : ks_World2_13[16]? = some (some 23) := rfl
theorem kk_World2_13_17 : ks_World2_13[17]? = some (some 24) := rfl
theorem kk_World2_13_18 : ks_World2_13[18]? = some (some 25) := rfl
