def ks_House_0 : List (Option Nat) := [some 1, some 14, some 16, some 23, some 28, some 33, some 38, some 40, some 42, some 44, some 46, some 48]
def ks_House_1 : List (Option Nat) := [none, none, none, none, none, none, none, some 2, some 3, some 4, some 5, some 6, some 7, some 8, some 9, some 10, some 11, some 12, some 13]
def ks_House_14 : List (Option Nat) := [some 15]
def ks_House_16 : List (Option Nat) := [none, none, some 17, some 18, some 19, some 20, some 21, some 22]
def ks_House_23 : List (Option Nat) := [none, some 24, some 25, some 26, some 27]
def ks_House_28 : List (Option Nat) := [none, some 29, some 30, some 31, some 32]
def ks_House_33 : List (Option Nat) := [none, some 34, some 35, some 36, some 37]
def ks_House_38 : List (Option Nat) := [none, some 39]
def ks_House_40 : List (Option Nat) := [none, some 41]
def ks_House_42 : List (Option Nat) := [none, some 43]
def ks_House_44 : List (Option Nat) := [none, some 45]
def ks_House_46 : List (Option Nat) := [none, some 47]
def lay_House : List Sh := [.inl (1, ks_House_0), .inl (9, ks_House_1), .inr false, .inr false, .inr false, .inr false, .inr false, .inr false, .inr false, .inr false, .inr false, .inr false, .inr false, .inr false, .inl (0, ks_House_14), .inr false, .inl (2, ks_House_16), .inr false, .inr false, .inr false, .inr false, .inr false, .inr false, .inl (5, ks_House_23), .inr false, .inr false, .inr false, .inr false, .inl (5, ks_House_28), .inr false, .inr false, .inr false, .inr false, .inl (5, ks_House_33), .inr false, .inr false, .inr false, .inr false, .inl (8, ks_House_38), .inr false, .inl (8, ks_House_40), .inr false, .inl (8, ks_House_42), .inr false, .inl (8, ks_House_44), .inr false, .inl (8, ks_House_46), .inr false, .inr false]
theorem lk_House_0 : lay_House[0]? = some (.inl (1, ks_House_0)) := rfl
theorem lk_House_1 : lay_House[1]? = some (.inl (9, ks_House_1)) := rfl
theorem lk_House_2 : lay_House[2]? = some (.inr false) := rfl
theorem lk_House_3 : lay_House[3]? = some (.inr false) := rfl
theorem lk_House_4 : lay_House[4]? = some (.inr false) := rfl
theorem lk_House_5 : lay_House[5]? = some (.inr false) := rfl
theorem lk_House_6 : lay_House[6]? = some (.inr false) := rfl
theorem lk_House_7 : lay_House[7]? = some (.inr false) := rfl
theorem lk_House_8 : lay_House[8]? = some (.inr false) := rfl
theorem lk_House_9 : lay_House[9]? = some (.inr false) := rfl
theorem lk_House_10 : lay_House[10]? = some (.inr false) := rfl
theorem lk_House_11 : lay_House[11]? = some (.inr false) := rfl
theorem lk_House_12 : lay_House[12]? = some (.inr false) := rfl
theorem lk_House_13 : lay_House[13]? = some (.inr false) := rfl
theorem lk_House_14 : lay_House[14]? = some (.inl (0, ks_House_14)) := rfl
theorem lk_House_15 : lay_House[15]? = some (.inr false) := rfl
theorem lk_House_16 : lay_House[16]? = some (.inl (2, ks_House_16)) := rfl
theorem lk_House_17 : lay_House[17]? = some (.inr false) := rfl
theorem lk_House_18 : lay_House[18]? = some (.inr false) := rfl
theorem lk_House_19 : lay_House[19]? = some (.inr false) := rfl
theorem lk_House_20 : lay_House[20]? = some (.inr false) := rfl
theorem lk_House_21 : lay_House[21]? = some (.inr false) := rfl
theorem lk_House_22 : lay_House[22]? = some (.inr false) := rfl
theorem lk_House_23 : lay_House[23]? = some (.inl (5, ks_House_23)) := rfl
theorem lk_House_24 : lay_House[24]? = some (.inr false) := rfl
theorem lk_House_25 : lay_House[25]? = some (.inr false) := rfl
theorem lk_House_26 : lay_House[26]? = some (.inr false) := rfl
theorem lk_House_27 : lay_House[27]? = some (.inr false) := rfl
theorem lk_House_28 : lay_House[28]? = some (.inl (5, ks_House_28)) := rfl
theorem lk_House_29 : lay_House[29]? = some (.inr false) := rfl
theorem lk_House_30 : lay_House[30]? = some (.inr false) := rfl
theorem lk_House_31 : lay_House[31]? = some (.inr false) := rfl
theorem lk_House_32 : lay_House[32]? = some (.inr false) := rfl
theorem lk_House_33 : lay_House[33]? = some (.inl (5, ks_House_33)) := rfl
theorem lk_House_34 : lay_House[34]? = some (.inr false) := rfl
theorem lk_House_35 : lay_House[35]? = some (.inr false) := rfl
theorem lk_House_36 : lay_House[36]? = some (.inr false) := rfl
theorem lk_House_37 : lay_House[37]? = some (.inr false) := rfl
theorem lk_House_38 : lay_House[38]? = some (.inl (8, ks_House_38)) := rfl
theorem lk_House_39 : lay_House[39]? = some (.inr false) := rfl
theorem lk_House_40 : lay_House[40]? = some (.inl (8, ks_House_40)) := rfl
theorem lk_House_41 : lay_House[41]? = some (.inr false) := rfl
theorem lk_House_42 : lay_House[42]? = some (.inl (8, ks_House_42)) := rfl
theorem lk_House_43 : lay_House[43]? = some (.inr false) := rfl
theorem lk_House_44 : lay_House[44]? = some (.inl (8, ks_House_44)) := rfl
theorem lk_House_45 : lay_House[45]? = some (.inr false) := rfl
theorem lk_House_46 : lay_House[46]? = some (.inl (8, ks_House_46)) := rfl
theorem lk_House_47 : lay_House[47]? = some (.inr false) := rfl
theorem lk_House_48 : lay_House[48]? = some (.inr false) := rfl
def ks_LawReader_0 : List (Option Nat) := [some 1]
def ks_LawReader_1 : List (Option Nat) := [none, none, some 2, some 3, some 4, some 5, some 6, some 7]
def lay_LawReader : List Sh := [.inl (3, ks_LawReader_0), .inl (2, ks_LawReader_1), .inr false, .inr false, .inr false, .inr false, .inr false, .inr false]
theorem lk_LawReader_0 : lay_LawReader[0]? = some (.inl (3, ks_LawReader_0)) := rfl
theorem lk_LawReader_1 : lay_LawReader[1]? = some (.inl (2, ks_LawReader_1)) := rfl
theorem lk_LawReader_2 : lay_LawReader[2]? = some (.inr false) := rfl
theorem lk_LawReader_3 : lay_LawReader[3]? = some (.inr false) := rfl
theorem lk_LawReader_4 : lay_LawReader[4]? = some (.inr false) := rfl
theorem lk_LawReader_5 : lay_LawReader[5]? = some (.inr false) := rfl
theorem lk_LawReader_6 : lay_LawReader[6]? = some (.inr false) := rfl
theorem lk_LawReader_7 : lay_LawReader[7]? = some (.inr false) := rfl
def ks_LineReader_0 : List (Option Nat) := [some 1, none]
def ks_LineReader_1 : List (Option Nat) := [none, some 2, some 3, some 4, some 5]
def lay_LineReader : List Sh := [.inl (4, ks_LineReader_0), .inl (5, ks_LineReader_1), .inr false, .inr false, .inr false, .inr false]
theorem lk_LineReader_0 : lay_LineReader[0]? = some (.inl (4, ks_LineReader_0)) := rfl
theorem lk_LineReader_1 : lay_LineReader[1]? = some (.inl (5, ks_LineReader_1)) := rfl
theorem lk_LineReader_2 : lay_LineReader[2]? = some (.inr false) := rfl
theorem lk_LineReader_3 : lay_LineReader[3]? = some (.inr false) := rfl
theorem lk_LineReader_4 : lay_LineReader[4]? = some (.inr false) := rfl
theorem lk_LineReader_5 : lay_LineReader[5]? = some (.inr false) := rfl
def il_X9_init : List (Nat × Instr × Nat) := [(0, .aload_n 0, 1),
  (1, .invokespecial 3, 3),
  (4, .aload_n 0, 1),
  (5, .iconst 0, 1),
  (6, .putfield 9, 3),
  (9, .aload_n 0, 1),
  (10, .iconst 0, 1),
  (11, .putfield 15, 3),
  (14, .aload_n 0, 1),
  (15, .iconst 0, 1),
  (16, .putfield 18, 3),
  (19, .aload_n 0, 1),
  (20, .iconst 0, 1),
  (21, .putfield 21, 3),
  (24, .aload_n 0, 1),
  (25, .iconst 0, 1),
  (26, .putfield 24, 3),
  (29, .aload_n 0, 1),
  (30, .iconst 0, 1),
  (31, .putfield 27, 3),
  (34, .aload_n 0, 1),
  (35, .bipush 12, 2),
  (37, .newarray .int, 2),
  (39, .putfield 30, 3),
  (42, .aload_n 0, 1),
  (43, .bipush 12, 2),
  (45, .newarray .int, 2),
  (47, .putfield 34, 3),
  (50, .aload_n 0, 1),
  (51, .bipush 12, 2),
  (53, .newarray .int, 2),
  (55, .putfield 37, 3),
  (58, .aload_n 0, 1),
  (59, .bipush 14, 2),
  (61, .newarray .int, 2),
  (63, .putfield 40, 3),
  (66, .aload_n 0, 1),
  (67, .bipush 14, 2),
  (69, .newarray .int, 2),
  (71, .putfield 43, 3),
  (74, .aload_n 0, 1),
  (75, .bipush 14, 2),
  (77, .newarray .int, 2),
  (79, .putfield 46, 3),
  (82, .aload_n 0, 1),
  (83, .bipush 56, 2),
  (85, .newarray .int, 2),
  (87, .putfield 49, 3),
  (90, .aload_n 0, 1),
  (91, .bipush 20, 2),
  (93, .newarray .int, 2),
  (95, .putfield 52, 3),
  (98, .aload_n 0, 1),
  (99, .bipush 20, 2),
  (101, .newarray .int, 2),
  (103, .putfield 55, 3),
  (106, .aload_n 0, 1),
  (107, .bipush 20, 2),
  (109, .newarray .int, 2),
  (111, .putfield 58, 3),
  (114, .aload_n 0, 1),
  (115, .bipush 20, 2),
  (117, .newarray .int, 2),
  (119, .putfield 61, 3),
  (122, .aload_n 0, 1),
  (123, .bipush 20, 2),
  (125, .newarray .int, 2),
  (127, .putfield 64, 3),
  (130, .aload_n 0, 1),
  (131, .iload_n 1, 1),
  (132, .putfield 67, 3),
  (135, .return_, 1)]
theorem dl_X9_init : dchk cX9_init il_X9_init = true := by decide +kernel
def il_X0_init : List (Nat × Instr × Nat) := [(0, .aload_n 0, 1),
  (1, .invokespecial 3, 3),
  (4, .aload_n 0, 1),
  (5, .sipush 600, 3),
  (8, .newarray .int, 2),
  (10, .putfield 9, 3),
  (13, .return_, 1)]
theorem dl_X0_init : dchk cX0_init il_X0_init = true := by decide +kernel
def il_X2_init : List (Nat × Instr × Nat) := [(0, .aload_n 0, 1),
  (1, .invokespecial 3, 3),
  (4, .aload_n 0, 1),
  (5, .iconst 0, 1),
  (6, .putfield 9, 3),
  (9, .aload_n 0, 1),
  (10, .iconst 0, 1),
  (11, .putfield 15, 3),
  (14, .aload_n 0, 1),
  (15, .bipush 16, 2),
  (17, .newarray .int, 2),
  (19, .putfield 18, 3),
  (22, .aload_n 0, 1),
  (23, .bipush 16, 2),
  (25, .newarray .int, 2),
  (27, .putfield 22, 3),
  (30, .aload_n 0, 1),
  (31, .bipush 16, 2),
  (33, .newarray .int, 2),
  (35, .putfield 25, 3),
  (38, .aload_n 0, 1),
  (39, .bipush 16, 2),
  (41, .newarray .int, 2),
  (43, .putfield 28, 3),
  (46, .aload_n 0, 1),
  (47, .sipush 400, 3),
  (50, .newarray .int, 2),
  (52, .putfield 31, 3),
  (55, .aload_n 0, 1),
  (56, .sipush 400, 3),
  (59, .newarray .int, 2),
  (61, .putfield 34, 3),
  (64, .return_, 1)]
theorem dl_X2_init : dchk cX2_init il_X2_init = true := by decide +kernel
def il_X5_init : List (Nat × Instr × Nat) := [(0, .aload_n 0, 1),
  (1, .invokespecial 3, 3),
  (4, .aload_n 0, 1),
  (5, .iconst 0, 1),
  (6, .putfield 9, 3),
  (9, .aload_n 0, 1),
  (10, .bipush 16, 2),
  (12, .newarray .int, 2),
  (14, .putfield 15, 3),
  (17, .aload_n 0, 1),
  (18, .bipush 16, 2),
  (20, .newarray .int, 2),
  (22, .putfield 19, 3),
  (25, .aload_n 0, 1),
  (26, .bipush 16, 2),
  (28, .newarray .int, 2),
  (30, .putfield 22, 3),
  (33, .aload_n 0, 1),
  (34, .bipush 16, 2),
  (36, .newarray .int, 2),
  (38, .putfield 25, 3),
  (41, .return_, 1)]
theorem dl_X5_init : dchk cX5_init il_X5_init = true := by decide +kernel
def il_X8_init : List (Nat × Instr × Nat) := [(0, .aload_n 0, 1),
  (1, .invokespecial 3, 3),
  (4, .aload_n 0, 1),
  (5, .iconst 0, 1),
  (6, .putfield 9, 3),
  (9, .aload_n 0, 1),
  (10, .iload_n 1, 1),
  (11, .iconst 0, 1),
  (12, .invokestatic 15, 3),
  (15, .newarray .int, 2),
  (17, .putfield 21, 3),
  (20, .return_, 1)]
theorem dl_X8_init : dchk cX8_init il_X8_init = true := by decide +kernel
def il_X1_init : List (Nat × Instr × Nat) := [(0, .aload_n 0, 1),
  (1, .invokespecial 3, 3),
  (4, .aload_n 0, 1),
  (5, .new 9, 3),
  (8, .dup, 1),
  (9, .iconst 0, 1),
  (10, .invokespecial 11, 3),
  (13, .putfield 14, 3),
  (16, .aload_n 0, 1),
  (17, .new 20, 3),
  (20, .dup, 1),
  (21, .invokespecial 22, 3),
  (24, .putfield 23, 3),
  (27, .aload_n 0, 1),
  (28, .new 27, 3),
  (31, .dup, 1),
  (32, .invokespecial 29, 3),
  (35, .putfield 30, 3),
  (38, .aload_n 0, 1),
  (39, .new 34, 3),
  (42, .dup, 1),
  (43, .invokespecial 36, 3),
  (46, .putfield 37, 3),
  (49, .aload_n 0, 1),
  (50, .new 34, 3),
  (53, .dup, 1),
  (54, .invokespecial 36, 3),
  (57, .putfield 41, 3),
  (60, .aload_n 0, 1),
  (61, .new 34, 3),
  (64, .dup, 1),
  (65, .invokespecial 36, 3),
  (68, .putfield 44, 3),
  (71, .aload_n 0, 1),
  (72, .new 47, 3),
  (75, .dup, 1),
  (76, .bipush 12, 2),
  (78, .invokespecial 49, 3),
  (81, .putfield 52, 3),
  (84, .aload_n 0, 1),
  (85, .new 47, 3),
  (88, .dup, 1),
  (89, .bipush 16, 2),
  (91, .invokespecial 49, 3),
  (94, .putfield 56, 3),
  (97, .aload_n 0, 1),
  (98, .new 47, 3),
  (101, .dup, 1),
  (102, .bipush 12, 2),
  (104, .invokespecial 49, 3),
  (107, .putfield 59, 3),
  (110, .aload_n 0, 1),
  (111, .new 47, 3),
  (114, .dup, 1),
  (115, .bipush 16, 2),
  (117, .invokespecial 49, 3),
  (120, .putfield 62, 3),
  (123, .aload_n 0, 1),
  (124, .new 47, 3),
  (127, .dup, 1),
  (128, .bipush 10, 2),
  (130, .invokespecial 49, 3),
  (133, .putfield 65, 3),
  (136, .aload_n 0, 1),
  (137, .bipush 9, 2),
  (139, .newarray .int, 2),
  (141, .putfield 68, 3),
  (144, .return_, 1)]
theorem dl_X1_init : dchk cX1_init il_X1_init = true := by decide +kernel
def il_X7_init : List (Nat × Instr × Nat) := [(0, .aload_n 0, 1),
  (1, .invokespecial 3, 3),
  (4, .aload_n 0, 1),
  (5, .iconst 0, 1),
  (6, .putfield 9, 3),
  (9, .aload_n 0, 1),
  (10, .sipush 400, 3),
  (13, .newarray .int, 2),
  (15, .putfield 15, 3),
  (18, .aload_n 0, 1),
  (19, .sipush 256, 3),
  (22, .putfield 19, 3),
  (25, .aload_n 0, 1),
  (26, .iconst 0, 1),
  (27, .putfield 22, 3),
  (30, .aload_n 0, 1),
  (31, .iconst 0, 1),
  (32, .putfield 25, 3),
  (35, .aload_n 0, 1),
  (36, .iconst 0, 1),
  (37, .putfield 28, 3),
  (40, .aload_n 0, 1),
  (41, .iconst 0, 1),
  (42, .putfield 31, 3),
  (45, .aload_n 0, 1),
  (46, .iconst (-1), 1),
  (47, .putfield 34, 3),
  (50, .return_, 1)]
theorem dl_X7_init : dchk cX7_init il_X7_init = true := by decide +kernel
def il_X3_init : List (Nat × Instr × Nat) := [(0, .aload_n 0, 1),
  (1, .invokespecial 3, 3),
  (4, .aload_n 0, 1),
  (5, .new 9, 3),
  (8, .dup, 1),
  (9, .invokespecial 11, 3),
  (12, .putfield 12, 3),
  (15, .return_, 1)]
theorem dl_X3_init : dchk cX3_init il_X3_init = true := by decide +kernel
def il_X4_init : List (Nat × Instr × Nat) := [(0, .aload_n 0, 1),
  (1, .invokespecial 3, 3),
  (4, .aload_n 0, 1),
  (5, .new 9, 3),
  (8, .dup, 1),
  (9, .invokespecial 11, 3),
  (12, .putfield 12, 3),
  (15, .aload_n 0, 1),
  (16, .iconst 0, 1),
  (17, .putfield 18, 3),
  (20, .return_, 1)]
theorem dl_X4_init : dchk cX4_init il_X4_init = true := by decide +kernel
def il_X6_init : List (Nat × Instr × Nat) := [(0, .aload_n 0, 1),
  (1, .invokespecial 3, 3),
  (4, .aload_n 0, 1),
  (5, .bipush 12, 2),
  (7, .newarray .int, 2),
  (9, .putfield 9, 3),
  (12, .aload_n 0, 1),
  (13, .bipush 7, 2),
  (15, .newarray .int, 2),
  (17, .putfield 15, 3),
  (20, .aload_n 0, 1),
  (21, .iconst 0, 1),
  (22, .putfield 18, 3),
  (25, .aload_n 0, 1),
  (26, .bipush 16, 2),
  (28, .newarray .int, 2),
  (30, .putfield 22, 3),
  (33, .return_, 1)]
theorem dl_X6_init : dchk cX6_init il_X6_init = true := by decide +kernel
def il_X10_init : List (Nat × Instr × Nat) := [(0, .aload_n 0, 1),
  (1, .invokespecial 1, 3),
  (4, .aload_n 0, 1),
  (5, .new 7, 3),
  (8, .dup, 1),
  (9, .invokespecial 9, 3),
  (12, .putfield 10, 3),
  (15, .aload_n 0, 1),
  (16, .new 7, 3),
  (19, .dup, 1),
  (20, .invokespecial 9, 3),
  (23, .putfield 16, 3),
  (26, .aload_n 0, 1),
  (27, .iconst 0, 1),
  (28, .putfield 19, 3),
  (31, .aload_n 0, 1),
  (32, .new 23, 3),
  (35, .dup, 1),
  (36, .iconst 1, 1),
  (37, .invokespecial 25, 3),
  (40, .putfield 28, 3),
  (43, .aload_n 0, 1),
  (44, .bipush 6, 2),
  (46, .anewarray 23, 3),
  (49, .putfield 32, 3),
  (52, .aload_n 0, 1),
  (53, .iconst 0, 1),
  (54, .putfield 36, 3),
  (57, .aload_n 0, 1),
  (58, .new 40, 3),
  (61, .dup, 1),
  (62, .invokespecial 42, 3),
  (65, .putfield 43, 3),
  (68, .aload_n 0, 1),
  (69, .new 47, 3),
  (72, .dup, 1),
  (73, .invokespecial 49, 3),
  (76, .putfield 50, 3),
  (79, .aload_n 0, 1),
  (80, .new 54, 3),
  (83, .dup, 1),
  (84, .invokespecial 56, 3),
  (87, .putfield 57, 3),
  (90, .aload_n 0, 1),
  (91, .new 61, 3),
  (94, .dup, 1),
  (95, .invokespecial 63, 3),
  (98, .putfield 64, 3),
  (101, .iconst 0, 1),
  (102, .istore_n 1, 1),
  (103, .iload_n 1, 1),
  (104, .bipush 6, 2),
  (106, .if_icmp .ge 23, 3),
  (109, .aload_n 0, 1),
  (110, .getfield 32, 3),
  (113, .iload_n 1, 1),
  (114, .new 23, 3),
  (117, .dup, 1),
  (118, .iconst 0, 1),
  (119, .invokespecial 25, 3),
  (122, .aastore, 1),
  (123, .iinc 1 1, 3),
  (126, .goto (-23), 3),
  (129, .return_, 1)]
theorem dl_X10_init : dchk cX10_init il_X10_init = true := by decide +kernel
def il_X11_init_0 : List (Nat × Instr × Nat) := [(0, .aload_n 0, 1),
  (1, .invokespecial 1, 3),
  (4, .aload_n 0, 1),
  (5, .sipush 183, 3),
  (8, .newarray .int, 2),
  (10, .putfield 7, 3),
  (13, .aload_n 0, 1),
  (14, .sipush 1098, 3),
  (17, .newarray .int, 2),
  (19, .putfield 13, 3),
  (22, .aload_n 0, 1),
  (23, .sipush 183, 3),
  (26, .newarray .int, 2),
  (28, .putfield 16, 3),
  (31, .aload_n 0, 1),
  (32, .bipush 20, 2),
  (34, .newarray .int, 2),
  (36, .putfield 19, 3),
  (39, .aload_n 0, 1),
  (40, .bipush 20, 2),
  (42, .newarray .int, 2),
  (44, .putfield 22, 3),
  (47, .aload_n 0, 1),
  (48, .sipush 600, 3),
  (51, .newarray .int, 2),
  (53, .putfield 25, 3),
  (56, .aload_n 0, 1),
  (57, .sipush 400, 3),
  (60, .newarray .int, 2),
  (62, .putfield 28, 3),
  (65, .aload_n 0, 1),
  (66, .bipush 112, 2),
  (68, .newarray .int, 2),
  (70, .dup, 1),
  (71, .iconst 0, 1),
  (72, .bipush 32, 2),
  (74, .iastore, 1),
  (75, .dup, 1),
  (76, .iconst 1, 1),
  (77, .bipush 116, 2)]
theorem dl_X11_init_0 : dchk cX11_init il_X11_init_0 = true := by decide +kernel
def il_X11_init_1 : List (Nat × Instr × Nat) := [(79, .iastore, 1),
  (80, .dup, 1),
  (81, .iconst 2, 1),
  (82, .bipush 105, 2),
  (84, .iastore, 1),
  (85, .dup, 1),
  (86, .iconst 3, 1),
  (87, .bipush 101, 2),
  (89, .iastore, 1),
  (90, .dup, 1),
  (91, .iconst 4, 1),
  (92, .bipush 115, 2),
  (94, .iastore, 1),
  (95, .dup, 1),
  (96, .iconst 5, 1),
  (97, .bipush 32, 2),
  (99, .iastore, 1),
  (100, .dup, 1),
  (101, .bipush 6, 2),
  (103, .bipush 115, 2),
  (105, .iastore, 1),
  (106, .dup, 1),
  (107, .bipush 7, 2),
  (109, .bipush 108, 2),
  (111, .iastore, 1),
  (112, .dup, 1),
  (113, .bipush 8, 2),
  (115, .bipush 105, 2),
  (117, .iastore, 1),
  (118, .dup, 1),
  (119, .bipush 9, 2),
  (121, .bipush 112, 2),
  (123, .iastore, 1),
  (124, .dup, 1),
  (125, .bipush 10, 2),
  (127, .bipush 115, 2),
  (129, .iastore, 1),
  (130, .dup, 1),
  (131, .bipush 11, 2),
  (133, .bipush 32, 2)]
theorem dl_X11_init_1 : dchk cX11_init il_X11_init_1 = true := by decide +kernel
def il_X11_init_2 : List (Nat × Instr × Nat) := [(135, .iastore, 1),
  (136, .dup, 1),
  (137, .bipush 12, 2),
  (139, .bipush 116, 2),
  (141, .iastore, 1),
  (142, .dup, 1),
  (143, .bipush 13, 2),
  (145, .bipush 101, 2),
  (147, .iastore, 1),
  (148, .dup, 1),
  (149, .bipush 14, 2),
  (151, .bipush 108, 2),
  (153, .iastore, 1),
  (154, .dup, 1),
  (155, .bipush 15, 2),
  (157, .bipush 108, 2),
  (159, .iastore, 1),
  (160, .dup, 1),
  (161, .bipush 16, 2),
  (163, .bipush 115, 2),
  (165, .iastore, 1),
  (166, .dup, 1),
  (167, .bipush 17, 2),
  (169, .bipush 32, 2),
  (171, .iastore, 1),
  (172, .dup, 1),
  (173, .bipush 18, 2),
  (175, .bipush 119, 2),
  (177, .iastore, 1),
  (178, .dup, 1),
  (179, .bipush 19, 2),
  (181, .bipush 104, 2),
  (183, .iastore, 1),
  (184, .dup, 1),
  (185, .bipush 20, 2),
  (187, .bipush 101, 2),
  (189, .iastore, 1),
  (190, .dup, 1),
  (191, .bipush 21, 2),
  (193, .bipush 110, 2)]
theorem dl_X11_init_2 : dchk cX11_init il_X11_init_2 = true := by decide +kernel
def il_X11_init_3 : List (Nat × Instr × Nat) := [(195, .iastore, 1),
  (196, .dup, 1),
  (197, .bipush 22, 2),
  (199, .bipush 32, 2),
  (201, .iastore, 1),
  (202, .dup, 1),
  (203, .bipush 23, 2),
  (205, .bipush 111, 2),
  (207, .iastore, 1),
  (208, .dup, 1),
  (209, .bipush 24, 2),
  (211, .bipush 114, 2),
  (213, .iastore, 1),
  (214, .dup, 1),
  (215, .bipush 25, 2),
  (217, .bipush 32, 2),
  (219, .iastore, 1),
  (220, .dup, 1),
  (221, .bipush 26, 2),
  (223, .bipush 97, 2),
  (225, .iastore, 1),
  (226, .dup, 1),
  (227, .bipush 27, 2),
  (229, .bipush 110, 2),
  (231, .iastore, 1),
  (232, .dup, 1),
  (233, .bipush 28, 2),
  (235, .bipush 100, 2),
  (237, .iastore, 1),
  (238, .dup, 1),
  (239, .bipush 29, 2),
  (241, .bipush 32, 2),
  (243, .iastore, 1),
  (244, .dup, 1),
  (245, .bipush 30, 2),
  (247, .bipush 110, 2),
  (249, .iastore, 1),
  (250, .dup, 1),
  (251, .bipush 31, 2),
  (253, .bipush 111, 2)]
theorem dl_X11_init_3 : dchk cX11_init il_X11_init_3 = true := by decide +kernel
def il_X11_init_4 : List (Nat × Instr × Nat) := [(255, .iastore, 1),
  (256, .dup, 1),
  (257, .bipush 32, 2),
  (259, .bipush 116, 2),
  (261, .iastore, 1),
  (262, .dup, 1),
  (263, .bipush 33, 2),
  (265, .bipush 32, 2),
  (267, .iastore, 1),
  (268, .dup, 1),
  (269, .bipush 34, 2),
  (271, .bipush 109, 2),
  (273, .iastore, 1),
  (274, .dup, 1),
  (275, .bipush 35, 2),
  (277, .bipush 105, 2),
  (279, .iastore, 1),
  (280, .dup, 1),
  (281, .bipush 36, 2),
  (283, .bipush 110, 2),
  (285, .iastore, 1),
  (286, .dup, 1),
  (287, .bipush 37, 2),
  (289, .bipush 100, 2),
  (291, .iastore, 1),
  (292, .dup, 1),
  (293, .bipush 38, 2),
  (295, .bipush 32, 2),
  (297, .iastore, 1),
  (298, .dup, 1),
  (299, .bipush 39, 2),
  (301, .bipush 116, 2),
  (303, .iastore, 1),
  (304, .dup, 1),
  (305, .bipush 40, 2),
  (307, .bipush 105, 2),
  (309, .iastore, 1),
  (310, .dup, 1),
  (311, .bipush 41, 2),
  (313, .bipush 103, 2)]
theorem dl_X11_init_4 : dchk cX11_init il_X11_init_4 = true := by decide +kernel
def il_X11_init_5 : List (Nat × Instr × Nat) := [(315, .iastore, 1),
  (316, .dup, 1),
  (317, .bipush 42, 2),
  (319, .bipush 104, 2),
  (321, .iastore, 1),
  (322, .dup, 1),
  (323, .bipush 43, 2),
  (325, .bipush 116, 2),
  (327, .iastore, 1),
  (328, .dup, 1),
  (329, .bipush 44, 2),
  (331, .bipush 32, 2),
  (333, .iastore, 1),
  (334, .dup, 1),
  (335, .bipush 45, 2),
  (337, .bipush 119, 2),
  (339, .iastore, 1),
  (340, .dup, 1),
  (341, .bipush 46, 2),
  (343, .bipush 111, 2),
  (345, .iastore, 1),
  (346, .dup, 1),
  (347, .bipush 47, 2),
  (349, .bipush 114, 2),
  (351, .iastore, 1),
  (352, .dup, 1),
  (353, .bipush 48, 2),
  (355, .bipush 110, 2),
  (357, .iastore, 1),
  (358, .dup, 1),
  (359, .bipush 49, 2),
  (361, .bipush 32, 2),
  (363, .iastore, 1),
  (364, .dup, 1),
  (365, .bipush 50, 2),
  (367, .bipush 107, 2),
  (369, .iastore, 1),
  (370, .dup, 1),
  (371, .bipush 51, 2),
  (373, .bipush 110, 2)]
theorem dl_X11_init_5 : dchk cX11_init il_X11_init_5 = true := by decide +kernel
def il_X11_init_6 : List (Nat × Instr × Nat) := [(375, .iastore, 1),
  (376, .dup, 1),
  (377, .bipush 52, 2),
  (379, .bipush 111, 2),
  (381, .iastore, 1),
  (382, .dup, 1),
  (383, .bipush 53, 2),
  (385, .bipush 116, 2),
  (387, .iastore, 1),
  (388, .dup, 1),
  (389, .bipush 54, 2),
  (391, .bipush 115, 2),
  (393, .iastore, 1),
  (394, .dup, 1),
  (395, .bipush 55, 2),
  (397, .bipush 32, 2),
  (399, .iastore, 1),
  (400, .dup, 1),
  (401, .bipush 56, 2),
  (403, .bipush 107, 2),
  (405, .iastore, 1),
  (406, .dup, 1),
  (407, .bipush 57, 2),
  (409, .bipush 110, 2),
  (411, .iastore, 1),
  (412, .dup, 1),
  (413, .bipush 58, 2),
  (415, .bipush 111, 2),
  (417, .iastore, 1),
  (418, .dup, 1),
  (419, .bipush 59, 2),
  (421, .bipush 119, 2),
  (423, .iastore, 1),
  (424, .dup, 1),
  (425, .bipush 60, 2),
  (427, .bipush 115, 2),
  (429, .iastore, 1),
  (430, .dup, 1),
  (431, .bipush 61, 2),
  (433, .bipush 32, 2)]
theorem dl_X11_init_6 : dchk cX11_init il_X11_init_6 = true := by decide +kernel
def il_X11_init_7 : List (Nat × Instr × Nat) := [(435, .iastore, 1),
  (436, .dup, 1),
  (437, .bipush 62, 2),
  (439, .bipush 107, 2),
  (441, .iastore, 1),
  (442, .dup, 1),
  (443, .bipush 63, 2),
  (445, .bipush 101, 2),
  (447, .iastore, 1),
  (448, .dup, 1),
  (449, .bipush 64, 2),
  (451, .bipush 112, 2),
  (453, .iastore, 1),
  (454, .dup, 1),
  (455, .bipush 65, 2),
  (457, .bipush 116, 2),
  (459, .iastore, 1),
  (460, .dup, 1),
  (461, .bipush 66, 2),
  (463, .bipush 32, 2),
  (465, .iastore, 1),
  (466, .dup, 1),
  (467, .bipush 67, 2),
  (469, .bipush 102, 2),
  (471, .iastore, 1),
  (472, .dup, 1),
  (473, .bipush 68, 2),
  (475, .bipush 111, 2),
  (477, .iastore, 1),
  (478, .dup, 1),
  (479, .bipush 69, 2),
  (481, .bipush 114, 2),
  (483, .iastore, 1),
  (484, .dup, 1),
  (485, .bipush 70, 2),
  (487, .bipush 103, 2),
  (489, .iastore, 1),
  (490, .dup, 1),
  (491, .bipush 71, 2),
  (493, .bipush 111, 2)]
theorem dl_X11_init_7 : dchk cX11_init il_X11_init_7 = true := by decide +kernel
def il_X11_init_8 : List (Nat × Instr × Nat) := [(495, .iastore, 1),
  (496, .dup, 1),
  (497, .bipush 72, 2),
  (499, .bipush 116, 2),
  (501, .iastore, 1),
  (502, .dup, 1),
  (503, .bipush 73, 2),
  (505, .bipush 32, 2),
  (507, .iastore, 1),
  (508, .dup, 1),
  (509, .bipush 74, 2),
  (511, .bipush 111, 2),
  (513, .iastore, 1),
  (514, .dup, 1),
  (515, .bipush 75, 2),
  (517, .bipush 112, 2),
  (519, .iastore, 1),
  (520, .dup, 1),
  (521, .bipush 76, 2),
  (523, .bipush 101, 2),
  (525, .iastore, 1),
  (526, .dup, 1),
  (527, .bipush 77, 2),
  (529, .bipush 110, 2),
  (531, .iastore, 1),
  (532, .dup, 1),
  (533, .bipush 78, 2),
  (535, .bipush 32, 2),
  (537, .iastore, 1),
  (538, .dup, 1),
  (539, .bipush 79, 2),
  (541, .bipush 100, 2),
  (543, .iastore, 1),
  (544, .dup, 1),
  (545, .bipush 80, 2),
  (547, .bipush 97, 2),
  (549, .iastore, 1),
  (550, .dup, 1),
  (551, .bipush 81, 2),
  (553, .bipush 121, 2)]
theorem dl_X11_init_8 : dchk cX11_init il_X11_init_8 = true := by decide +kernel
def il_X11_init_9 : List (Nat × Instr × Nat) := [(555, .iastore, 1),
  (556, .dup, 1),
  (557, .bipush 82, 2),
  (559, .bipush 32, 2),
  (561, .iastore, 1),
  (562, .dup, 1),
  (563, .bipush 83, 2),
  (565, .bipush 111, 2),
  (567, .iastore, 1),
  (568, .dup, 1),
  (569, .bipush 84, 2),
  (571, .bipush 110, 2),
  (573, .iastore, 1),
  (574, .dup, 1),
  (575, .bipush 85, 2),
  (577, .bipush 32, 2),
  (579, .iastore, 1),
  (580, .dup, 1),
  (581, .bipush 86, 2),
  (583, .bipush 116, 2),
  (585, .iastore, 1),
  (586, .dup, 1),
  (587, .bipush 87, 2),
  (589, .bipush 105, 2),
  (591, .iastore, 1),
  (592, .dup, 1),
  (593, .bipush 88, 2),
  (595, .bipush 101, 2),
  (597, .iastore, 1),
  (598, .dup, 1),
  (599, .bipush 89, 2),
  (601, .bipush 32, 2),
  (603, .iastore, 1),
  (604, .dup, 1),
  (605, .bipush 90, 2),
  (607, .bipush 108, 2),
  (609, .iastore, 1),
  (610, .dup, 1),
  (611, .bipush 91, 2),
  (613, .bipush 101, 2)]
theorem dl_X11_init_9 : dchk cX11_init il_X11_init_9 = true := by decide +kernel
def il_X11_init_10 : List (Nat × Instr × Nat) := [(615, .iastore, 1),
  (616, .dup, 1),
  (617, .bipush 92, 2),
  (619, .bipush 110, 2),
  (621, .iastore, 1),
  (622, .dup, 1),
  (623, .bipush 93, 2),
  (625, .bipush 100, 2),
  (627, .iastore, 1),
  (628, .dup, 1),
  (629, .bipush 94, 2),
  (631, .bipush 32, 2),
  (633, .iastore, 1),
  (634, .dup, 1),
  (635, .bipush 95, 2),
  (637, .bipush 119, 2),
  (639, .iastore, 1),
  (640, .dup, 1),
  (641, .bipush 96, 2),
  (643, .bipush 97, 2),
  (645, .iastore, 1),
  (646, .dup, 1),
  (647, .bipush 97, 2),
  (649, .bipush 115, 2),
  (651, .iastore, 1),
  (652, .dup, 1),
  (653, .bipush 98, 2),
  (655, .bipush 104, 2),
  (657, .iastore, 1),
  (658, .dup, 1),
  (659, .bipush 99, 2),
  (661, .bipush 32, 2),
  (663, .iastore, 1),
  (664, .dup, 1),
  (665, .bipush 100, 2),
  (667, .bipush 112, 2),
  (669, .iastore, 1),
  (670, .dup, 1),
  (671, .bipush 101, 2),
  (673, .bipush 117, 2)]
theorem dl_X11_init_10 : dchk cX11_init il_X11_init_10 = true := by decide +kernel
def il_X11_init_11 : List (Nat × Instr × Nat) := [(675, .iastore, 1),
  (676, .dup, 1),
  (677, .bipush 102, 2),
  (679, .bipush 108, 2),
  (681, .iastore, 1),
  (682, .dup, 1),
  (683, .bipush 103, 2),
  (685, .bipush 108, 2),
  (687, .iastore, 1),
  (688, .dup, 1),
  (689, .bipush 104, 2),
  (691, .bipush 32, 2),
  (693, .iastore, 1),
  (694, .dup, 1),
  (695, .bipush 105, 2),
  (697, .bipush 112, 2),
  (699, .iastore, 1),
  (700, .dup, 1),
  (701, .bipush 106, 2),
  (703, .bipush 101, 2),
  (705, .iastore, 1),
  (706, .dup, 1),
  (707, .bipush 107, 2),
  (709, .bipush 114, 2),
  (711, .iastore, 1),
  (712, .dup, 1),
  (713, .bipush 108, 2),
  (715, .bipush 115, 2),
  (717, .iastore, 1),
  (718, .dup, 1),
  (719, .bipush 109, 2),
  (721, .bipush 111, 2),
  (723, .iastore, 1),
  (724, .dup, 1),
  (725, .bipush 110, 2),
  (727, .bipush 110, 2),
  (729, .iastore, 1),
  (730, .dup, 1),
  (731, .bipush 111, 2),
  (733, .bipush 32, 2)]
theorem dl_X11_init_11 : dchk cX11_init il_X11_init_11 = true := by decide +kernel
def il_X11_init_12 : List (Nat × Instr × Nat) := [(735, .iastore, 1),
  (736, .putfield 31, 3),
  (739, .aload_n 0, 1),
  (740, .iconst 2, 1),
  (741, .newarray .int, 2),
  (743, .putfield 34, 3),
  (746, .aload_n 0, 1),
  (747, .bipush 48, 2),
  (749, .newarray .int, 2),
  (751, .putfield 37, 3),
  (754, .aload_n 0, 1),
  (755, .bipush 48, 2),
  (757, .newarray .int, 2),
  (759, .putfield 40, 3),
  (762, .aload_n 0, 1),
  (763, .bipush 48, 2),
  (765, .newarray .int, 2),
  (767, .putfield 43, 3),
  (770, .aload_n 0, 1),
  (771, .bipush 48, 2),
  (773, .newarray .int, 2),
  (775, .putfield 46, 3),
  (778, .aload_n 0, 1),
  (779, .sipush 1200, 3),
  (782, .newarray .int, 2),
  (784, .putfield 49, 3),
  (787, .aload_n 0, 1),
  (788, .sipush 1200, 3),
  (791, .newarray .int, 2),
  (793, .putfield 52, 3),
  (796, .aload_n 0, 1),
  (797, .bipush 40, 2),
  (799, .newarray .int, 2),
  (801, .putfield 55, 3),
  (804, .aload_n 0, 1),
  (805, .iconst (-1), 1),
  (806, .putfield 58, 3),
  (809, .aload_n 0, 1),
  (810, .sipush 128, 3),
  (813, .newarray .int, 2)]
theorem dl_X11_init_12 : dchk cX11_init il_X11_init_12 = true := by decide +kernel
def il_X11_init_13 : List (Nat × Instr × Nat) := [(815, .putfield 62, 3),
  (818, .aload_n 0, 1),
  (819, .bipush 96, 2),
  (821, .newarray .int, 2),
  (823, .putfield 65, 3),
  (826, .aload_n 0, 1),
  (827, .bipush 24, 2),
  (829, .newarray .int, 2),
  (831, .putfield 68, 3),
  (834, .aload_n 0, 1),
  (835, .bipush 9, 2),
  (837, .newarray .int, 2),
  (839, .putfield 71, 3),
  (842, .aload_n 0, 1),
  (843, .sipush 420, 3),
  (846, .newarray .int, 2),
  (848, .putfield 74, 3),
  (851, .aload_n 0, 1),
  (852, .bipush 12, 2),
  (854, .newarray .int, 2),
  (856, .putfield 77, 3),
  (859, .aload_n 0, 1),
  (860, .bipush 12, 2),
  (862, .newarray .int, 2),
  (864, .putfield 80, 3),
  (867, .aload_n 0, 1),
  (868, .bipush 7, 2),
  (870, .newarray .int, 2),
  (872, .putfield 83, 3),
  (875, .aload_n 0, 1),
  (876, .sipush 5040, 3),
  (879, .newarray .int, 2),
  (881, .putfield 86, 3),
  (884, .aload_n 0, 1),
  (885, .sipush 5040, 3),
  (888, .newarray .int, 2),
  (890, .putfield 89, 3),
  (893, .aload_n 0, 1),
  (894, .bipush 64, 2),
  (896, .newarray .int, 2)]
theorem dl_X11_init_13 : dchk cX11_init il_X11_init_13 = true := by decide +kernel
def il_X11_init_14 : List (Nat × Instr × Nat) := [(898, .putfield 92, 3),
  (901, .aload_n 0, 1),
  (902, .bipush 64, 2),
  (904, .newarray .int, 2),
  (906, .putfield 95, 3),
  (909, .aload_n 0, 1),
  (910, .bipush 16, 2),
  (912, .newarray .int, 2),
  (914, .putfield 98, 3),
  (917, .aload_n 0, 1),
  (918, .bipush 12, 2),
  (920, .newarray .int, 2),
  (922, .putfield 101, 3),
  (925, .aload_n 0, 1),
  (926, .bipush 16, 2),
  (928, .newarray .int, 2),
  (930, .putfield 104, 3),
  (933, .aload_n 0, 1),
  (934, .bipush 16, 2),
  (936, .newarray .int, 2),
  (938, .putfield 107, 3),
  (941, .aload_n 0, 1),
  (942, .iconst 4, 1),
  (943, .newarray .int, 2),
  (945, .dup, 1),
  (946, .iconst 0, 1),
  (947, .iconst 1, 1),
  (948, .iastore, 1),
  (949, .dup, 1),
  (950, .iconst 1, 1),
  (951, .iconst 3, 1),
  (952, .iastore, 1),
  (953, .dup, 1),
  (954, .iconst 2, 1),
  (955, .bipush 9, 2),
  (957, .iastore, 1),
  (958, .dup, 1),
  (959, .iconst 3, 1),
  (960, .bipush 27, 2),
  (962, .iastore, 1)]
theorem dl_X11_init_14 : dchk cX11_init il_X11_init_14 = true := by decide +kernel
def il_X11_init_15 : List (Nat × Instr × Nat) := [(963, .putfield 110, 3),
  (966, .aload_n 0, 1),
  (967, .bipush 121, 2),
  (969, .newarray .int, 2),
  (971, .putfield 113, 3),
  (974, .aload_n 0, 1),
  (975, .bipush 10, 2),
  (977, .newarray .int, 2),
  (979, .putfield 116, 3),
  (982, .aload_n 0, 1),
  (983, .sipush 2048, 3),
  (986, .newarray .int, 2),
  (988, .putfield 119, 3),
  (991, .aload_n 0, 1),
  (992, .sipush 2400, 3),
  (995, .newarray .int, 2),
  (997, .putfield 122, 3),
  (1000, .return_, 1)]
theorem dl_X11_init_15 : dchk cX11_init il_X11_init_15 = true := by decide +kernel
theorem bi_18 : (Int8.ofInt 18).toInt32 = 18 := by decide +kernel
theorem bi_22 : (Int8.ofInt 22).toInt32 = 22 := by decide +kernel
theorem bi_23 : (Int8.ofInt 23).toInt32 = 23 := by decide +kernel
theorem bi_25 : (Int8.ofInt 25).toInt32 = 25 := by decide +kernel
theorem bi_28 : (Int8.ofInt 28).toInt32 = 28 := by decide +kernel
theorem bi_29 : (Int8.ofInt 29).toInt32 = 29 := by decide +kernel
theorem bi_30 : (Int8.ofInt 30).toInt32 = 30 := by decide +kernel
theorem bi_33 : (Int8.ofInt 33).toInt32 = 33 := by decide +kernel
theorem bi_34 : (Int8.ofInt 34).toInt32 = 34 := by decide +kernel
theorem bi_35 : (Int8.ofInt 35).toInt32 = 35 := by decide +kernel
theorem bi_36 : (Int8.ofInt 36).toInt32 = 36 := by decide +kernel
theorem bi_37 : (Int8.ofInt 37).toInt32 = 37 := by decide +kernel
theorem bi_38 : (Int8.ofInt 38).toInt32 = 38 := by decide +kernel
theorem bi_44 : (Int8.ofInt 44).toInt32 = 44 := by decide +kernel
theorem bi_46 : (Int8.ofInt 46).toInt32 = 46 := by decide +kernel
theorem bi_49 : (Int8.ofInt 49).toInt32 = 49 := by decide +kernel
theorem bi_51 : (Int8.ofInt 51).toInt32 = 51 := by decide +kernel
theorem bi_52 : (Int8.ofInt 52).toInt32 = 52 := by decide +kernel
theorem bi_54 : (Int8.ofInt 54).toInt32 = 54 := by decide +kernel
theorem bi_55 : (Int8.ofInt 55).toInt32 = 55 := by decide +kernel
theorem bi_58 : (Int8.ofInt 58).toInt32 = 58 := by decide +kernel
theorem bi_66 : (Int8.ofInt 66).toInt32 = 66 := by decide +kernel
theorem bi_68 : (Int8.ofInt 68).toInt32 = 68 := by decide +kernel
theorem bi_69 : (Int8.ofInt 69).toInt32 = 69 := by decide +kernel
theorem bi_70 : (Int8.ofInt 70).toInt32 = 70 := by decide +kernel
theorem bi_71 : (Int8.ofInt 71).toInt32 = 71 := by decide +kernel
theorem bi_72 : (Int8.ofInt 72).toInt32 = 72 := by decide +kernel
theorem bi_73 : (Int8.ofInt 73).toInt32 = 73 := by decide +kernel
theorem bi_74 : (Int8.ofInt 74).toInt32 = 74 := by decide +kernel
theorem bi_75 : (Int8.ofInt 75).toInt32 = 75 := by decide +kernel
theorem bi_76 : (Int8.ofInt 76).toInt32 = 76 := by decide +kernel
theorem bi_77 : (Int8.ofInt 77).toInt32 = 77 := by decide +kernel
theorem bi_78 : (Int8.ofInt 78).toInt32 = 78 := by decide +kernel
theorem bi_79 : (Int8.ofInt 79).toInt32 = 79 := by decide +kernel
theorem bi_80 : (Int8.ofInt 80).toInt32 = 80 := by decide +kernel
theorem bi_82 : (Int8.ofInt 82).toInt32 = 82 := by decide +kernel
theorem bi_83 : (Int8.ofInt 83).toInt32 = 83 := by decide +kernel
theorem bi_84 : (Int8.ofInt 84).toInt32 = 84 := by decide +kernel
theorem bi_85 : (Int8.ofInt 85).toInt32 = 85 := by decide +kernel
theorem bi_86 : (Int8.ofInt 86).toInt32 = 86 := by decide +kernel
theorem bi_87 : (Int8.ofInt 87).toInt32 = 87 := by decide +kernel
theorem bi_88 : (Int8.ofInt 88).toInt32 = 88 := by decide +kernel
theorem bi_89 : (Int8.ofInt 89).toInt32 = 89 := by decide +kernel
theorem bi_91 : (Int8.ofInt 91).toInt32 = 91 := by decide +kernel
theorem bi_92 : (Int8.ofInt 92).toInt32 = 92 := by decide +kernel
theorem bi_93 : (Int8.ofInt 93).toInt32 = 93 := by decide +kernel
theorem bi_94 : (Int8.ofInt 94).toInt32 = 94 := by decide +kernel
theorem bi_95 : (Int8.ofInt 95).toInt32 = 95 := by decide +kernel
theorem bi_96 : (Int8.ofInt 96).toInt32 = 96 := by decide +kernel
theorem bi_98 : (Int8.ofInt 98).toInt32 = 98 := by decide +kernel
theorem bi_101 : (Int8.ofInt 101).toInt32 = 101 := by decide +kernel
theorem bi_102 : (Int8.ofInt 102).toInt32 = 102 := by decide +kernel
theorem bi_103 : (Int8.ofInt 103).toInt32 = 103 := by decide +kernel
theorem bi_104 : (Int8.ofInt 104).toInt32 = 104 := by decide +kernel
theorem bi_105 : (Int8.ofInt 105).toInt32 = 105 := by decide +kernel
theorem bi_106 : (Int8.ofInt 106).toInt32 = 106 := by decide +kernel
theorem bi_107 : (Int8.ofInt 107).toInt32 = 107 := by decide +kernel
theorem bi_108 : (Int8.ofInt 108).toInt32 = 108 := by decide +kernel
theorem bi_109 : (Int8.ofInt 109).toInt32 = 109 := by decide +kernel
theorem bi_110 : (Int8.ofInt 110).toInt32 = 110 := by decide +kernel
theorem bi_112 : (Int8.ofInt 112).toInt32 = 112 := by decide +kernel
theorem bi_114 : (Int8.ofInt 114).toInt32 = 114 := by decide +kernel
theorem bi_115 : (Int8.ofInt 115).toInt32 = 115 := by decide +kernel
theorem bi_116 : (Int8.ofInt 116).toInt32 = 116 := by decide +kernel
theorem bi_117 : (Int8.ofInt 117).toInt32 = 117 := by decide +kernel
theorem bi_119 : (Int8.ofInt 119).toInt32 = 119 := by decide +kernel
theorem bi_121 : (Int8.ofInt 121).toInt32 = 121 := by decide +kernel
theorem si_128 : (Int16.ofInt 128).toInt32 = 128 := by decide +kernel
theorem si_420 : (Int16.ofInt 420).toInt32 = 420 := by decide +kernel
theorem si_1098 : (Int16.ofInt 1098).toInt32 = 1098 := by decide +kernel
theorem si_1200 : (Int16.ofInt 1200).toInt32 = 1200 := by decide +kernel
theorem si_2048 : (Int16.ofInt 2048).toInt32 = 2048 := by decide +kernel
theorem si_2400 : (Int16.ofInt 2400).toInt32 = 2400 := by decide +kernel
theorem si_5040 : (Int16.ofInt 5040).toInt32 = 5040 := by decide +kernel
theorem cob_X10_1 : Cond.methodLink RX10 1 Lib.objectInit ∈ tb := tb_1 (i := 26) rfl rfl
theorem cobj : Cond.instanceMethod Lib.objectInit ∈ tb ∧ Cond.code Lib.objectInit ⟨#[0xb1]⟩ 1 none ∈ tb := ⟨tb_1 (i := 27) rfl rfl, tb_in (i := 148) (by decide +kernel) rfl⟩
theorem ccl_X10_7 : Cond.classLink RX10 7 "KnotLaundry$House" ∈ tb := tb_1 (i := 29) rfl rfl
theorem cin_1 : Cond.instantiable RX1 12 ∈ tb ∧ Cond.initialized RX1 ∈ tb := ⟨tb_1 (i := 30) rfl rfl, tb_1 (i := 2) rfl rfl⟩
theorem cdf_1 : ∀ j, j < 12 → defaultValue (tyX1 j) = vp_V [.null, .null, .null, .null, .null, .null, .null, .null, .null, .null, .null, .null] j := by decide +kernel
theorem cob_X1_3 : Cond.methodLink RX1 3 Lib.objectInit ∈ tb := tb_1 (i := 34) rfl rfl
theorem ccl_X1_9 : Cond.classLink RX1 9 "KnotLaundry$World" ∈ tb := tb_1 (i := 35) rfl rfl
theorem cin_9 : Cond.instantiable RX9 19 ∈ tb ∧ Cond.initialized RX9 ∈ tb := ⟨tb_1 (i := 36) rfl rfl, tb_1 (i := 3) rfl rfl⟩
theorem cdf_9 : ∀ j, j < 19 → defaultValue (tyX9 j) = vp_V [.int 0, .int 0, .int 0, .int 0, .int 0, .int 0, .int 0, .null, .null, .null, .null, .null, .null, .null, .null, .null, .null, .null, .null] j := by decide +kernel
theorem cob_X9_3 : Cond.methodLink RX9 3 Lib.objectInit ∈ tb := tb_1 (i := 40) rfl rfl
theorem cfw_X9_9 : FW RX9 9 9 1 .int := ⟨RX9, TX9, 19, cf_9, by decide, tb_1 (i := 43) rfl rfl, rfl, by decide +kernel⟩
theorem cfw_X9_15 : FW RX9 15 9 2 .int := ⟨RX9, TX9, 19, cf_9, by decide, tb_1 (i := 45) rfl rfl, rfl, by decide +kernel⟩
theorem cfw_X9_18 : FW RX9 18 9 3 .int := ⟨RX9, TX9, 19, cf_9, by decide, tb_1 (i := 49) rfl rfl, rfl, by decide +kernel⟩
theorem cfw_X9_21 : FW RX9 21 9 4 .int := ⟨RX9, TX9, 19, cf_9, by decide, tb_1 (i := 52) rfl rfl, rfl, by decide +kernel⟩
theorem cfw_X9_24 : FW RX9 24 9 5 .int := ⟨RX9, TX9, 19, cf_9, by decide, tb_1 (i := 55) rfl rfl, rfl, by decide +kernel⟩
theorem cfw_X9_27 : FW RX9 27 9 6 .int := ⟨RX9, TX9, 19, cf_9, by decide, tb_1 (i := 58) rfl rfl, rfl, by decide +kernel⟩
theorem cfx_X9_30 : FX RX9 30 9 7 (.array .int) := ⟨RX9, TX9, 19, cf_9, by decide, tb_1 (i := 62) rfl rfl, rfl, rfl, by decide +kernel⟩
theorem cfx_X9_34 : FX RX9 34 9 8 (.array .int) := ⟨RX9, TX9, 19, cf_9, by decide, tb_1 (i := 65) rfl rfl, rfl, rfl, by decide +kernel⟩
theorem cfx_X9_37 : FX RX9 37 9 9 (.array .int) := ⟨RX9, TX9, 19, cf_9, by decide, tb_1 (i := 68) rfl rfl, rfl, rfl, by decide +kernel⟩
theorem cfx_X9_40 : FX RX9 40 9 10 (.array .int) := ⟨RX9, TX9, 19, cf_9, by decide, tb_1 (i := 71) rfl rfl, rfl, rfl, by decide +kernel⟩
theorem cfx_X9_43 : FX RX9 43 9 11 (.array .int) := ⟨RX9, TX9, 19, cf_9, by decide, tb_1 (i := 74) rfl rfl, rfl, rfl, by decide +kernel⟩
theorem cfx_X9_46 : FX RX9 46 9 12 (.array .int) := ⟨RX9, TX9, 19, cf_9, by decide, tb_1 (i := 77) rfl rfl, rfl, rfl, by decide +kernel⟩
theorem cfx_X9_49 : FX RX9 49 9 13 (.array .int) := ⟨RX9, TX9, 19, cf_9, by decide, tb_1 (i := 80) rfl rfl, rfl, rfl, by decide +kernel⟩
theorem cfx_X9_52 : FX RX9 52 9 14 (.array .int) := ⟨RX9, TX9, 19, cf_9, by decide, tb_1 (i := 81) rfl rfl, rfl, rfl, by decide +kernel⟩
theorem cfx_X9_55 : FX RX9 55 9 15 (.array .int) := ⟨RX9, TX9, 19, cf_9, by decide, tb_1 (i := 84) rfl rfl, rfl, rfl, by decide +kernel⟩
theorem cfx_X9_58 : FX RX9 58 9 16 (.array .int) := ⟨RX9, TX9, 19, cf_9, by decide, tb_1 (i := 87) rfl rfl, rfl, rfl, by decide +kernel⟩
theorem cfx_X9_61 : FX RX9 61 9 17 (.array .int) := ⟨RX9, TX9, 19, cf_9, by decide, tb_1 (i := 90) rfl rfl, rfl, rfl, by decide +kernel⟩
theorem cfx_X9_64 : FX RX9 64 9 18 (.array .int) := ⟨RX9, TX9, 19, cf_9, by decide, tb_1 (i := 93) rfl rfl, rfl, rfl, by decide +kernel⟩
theorem cfx_X9_67 : FX RX9 67 9 0 .boolean := ⟨RX9, TX9, 19, cf_9, by decide, tb_1 (i := 41) rfl rfl, rfl, rfl, by decide +kernel⟩
theorem cml_X1_11 : Cond.methodLink RX1 11 (mY mX9_init) ∈ tb := tb_1 (i := 37) rfl rfl
theorem cmo_X9_init : MOk mX9_init 1 ∧ Cond.instanceMethod (mY mX9_init) ∈ tb := ⟨⟨tb_1 (i := 39) rfl rfl, tb_1 (i := 3) rfl rfl, ⟨by decide, by decide⟩, by decide +kernel⟩, tb_1 (i := 38) rfl rfl⟩
theorem css_House_World_1 : SubL lay_House lay_World (fun i => 1 + i) := subL_of (by decide +kernel)
theorem cfx_X1_14 : FX RX1 14 1 0 (.object "KnotLaundry$World") := ⟨RX1, TX1, 12, cf_1, by decide, tb_1 (i := 227) rfl rfl, rfl, rfl, by decide +kernel⟩
theorem ccl_X1_20 : Cond.classLink RX1 20 "KnotLaundry$Book" ∈ tb := tb_1 (i := 136) rfl rfl
theorem cin_0 : Cond.instantiable RX0 1 ∈ tb ∧ Cond.initialized RX0 ∈ tb := ⟨tb_1 (i := 137) rfl rfl, tb_1 (i := 4) rfl rfl⟩
theorem cdf_0 : ∀ j, j < 1 → defaultValue (tyX0 j) = vp_V [.null] j := by decide +kernel
theorem cob_X0_3 : Cond.methodLink RX0 3 Lib.objectInit ∈ tb := tb_1 (i := 141) rfl rfl
theorem cfx_X0_9 : FX RX0 9 0 0 (.array .int) := ⟨RX0, TX0, 1, cf_0, by decide, tb_1 (i := 142) rfl rfl, rfl, rfl, by decide +kernel⟩
theorem cml_X1_22 : Cond.methodLinkNest RX1 22 (mY mX0_init) "KnotLaundry" ∈ tb := tb_1 (i := 138) rfl rfl
theorem cmo_X0_init : MOk mX0_init 0 ∧ Cond.instanceMethod (mY mX0_init) ∈ tb := ⟨⟨tb_1 (i := 140) rfl rfl, tb_1 (i := 4) rfl rfl, ⟨by decide, by decide⟩, by decide +kernel⟩, tb_1 (i := 139) rfl rfl⟩
theorem css_House_Book_14 : SubL lay_House lay_Book (fun i => 14 + i) := subL_of (by decide +kernel)
theorem cfx_X1_23 : FX RX1 23 1 1 (.object "KnotLaundry$Book") := ⟨RX1, TX1, 12, cf_1, by decide, tb_1 (i := 229) rfl rfl, rfl, rfl, by decide +kernel⟩
theorem ccl_X1_27 : Cond.classLink RX1 27 "KnotLaundry$Law" ∈ tb := tb_1 (i := 146) rfl rfl
theorem cin_2 : Cond.instantiable RX2 8 ∈ tb ∧ Cond.initialized RX2 ∈ tb := ⟨tb_1 (i := 147) rfl rfl, tb_1 (i := 5) rfl rfl⟩
theorem cdf_2 : ∀ j, j < 8 → defaultValue (tyX2 j) = vp_V [.int 0, .int 0, .null, .null, .null, .null, .null, .null] j := by decide +kernel
theorem cob_X2_3 : Cond.methodLink RX2 3 Lib.objectInit ∈ tb := tb_1 (i := 151) rfl rfl
theorem cfw_X2_9 : FW RX2 9 2 0 .int := ⟨RX2, TX2, 8, cf_2, by decide, tb_1 (i := 152) rfl rfl, rfl, by decide +kernel⟩
theorem cfw_X2_15 : FW RX2 15 2 1 .int := ⟨RX2, TX2, 8, cf_2, by decide, tb_1 (i := 155) rfl rfl, rfl, by decide +kernel⟩
theorem cfx_X2_18 : FX RX2 18 2 2 (.array .int) := ⟨RX2, TX2, 8, cf_2, by decide, tb_1 (i := 157) rfl rfl, rfl, rfl, by decide +kernel⟩
theorem cfx_X2_22 : FX RX2 22 2 3 (.array .int) := ⟨RX2, TX2, 8, cf_2, by decide, tb_1 (i := 158) rfl rfl, rfl, rfl, by decide +kernel⟩
theorem cfx_X2_25 : FX RX2 25 2 4 (.array .int) := ⟨RX2, TX2, 8, cf_2, by decide, tb_1 (i := 159) rfl rfl, rfl, rfl, by decide +kernel⟩
theorem cfx_X2_28 : FX RX2 28 2 5 (.array .int) := ⟨RX2, TX2, 8, cf_2, by decide, tb_1 (i := 160) rfl rfl, rfl, rfl, by decide +kernel⟩
theorem cfx_X2_31 : FX RX2 31 2 6 (.array .int) := ⟨RX2, TX2, 8, cf_2, by decide, tb_1 (i := 161) rfl rfl, rfl, rfl, by decide +kernel⟩
theorem cfx_X2_34 : FX RX2 34 2 7 (.array .int) := ⟨RX2, TX2, 8, cf_2, by decide, tb_1 (i := 162) rfl rfl, rfl, rfl, by decide +kernel⟩
theorem cml_X1_29 : Cond.methodLinkNest RX1 29 (mY mX2_init) "KnotLaundry" ∈ tb := tb_1 (i := 148) rfl rfl
theorem cmo_X2_init : MOk mX2_init 0 ∧ Cond.instanceMethod (mY mX2_init) ∈ tb := ⟨⟨tb_1 (i := 150) rfl rfl, tb_1 (i := 5) rfl rfl, ⟨by decide, by decide⟩, by decide +kernel⟩, tb_1 (i := 149) rfl rfl⟩
theorem css_House_Law_16 : SubL lay_House lay_Law (fun i => 16 + i) := subL_of (by decide +kernel)
theorem cfx_X1_30 : FX RX1 30 1 2 (.object "KnotLaundry$Law") := ⟨RX1, TX1, 12, cf_1, by decide, tb_1 (i := 231) rfl rfl, rfl, rfl, by decide +kernel⟩
theorem ccl_X1_34 : Cond.classLink RX1 34 "KnotLaundry$Lines" ∈ tb := tb_1 (i := 180) rfl rfl
theorem cin_5 : Cond.instantiable RX5 5 ∈ tb ∧ Cond.initialized RX5 ∈ tb := ⟨tb_1 (i := 181) rfl rfl, tb_1 (i := 6) rfl rfl⟩
theorem cdf_5 : ∀ j, j < 5 → defaultValue (tyX5 j) = vp_V [.int 0, .null, .null, .null, .null] j := by decide +kernel
theorem cob_X5_3 : Cond.methodLink RX5 3 Lib.objectInit ∈ tb := tb_1 (i := 185) rfl rfl
theorem cfw_X5_9 : FW RX5 9 5 0 .int := ⟨RX5, TX5, 5, cf_5, by decide, tb_1 (i := 186) rfl rfl, rfl, by decide +kernel⟩
theorem cfx_X5_15 : FX RX5 15 5 1 (.array .int) := ⟨RX5, TX5, 5, cf_5, by decide, tb_1 (i := 190) rfl rfl, rfl, rfl, by decide +kernel⟩
theorem cfx_X5_19 : FX RX5 19 5 2 (.array .int) := ⟨RX5, TX5, 5, cf_5, by decide, tb_1 (i := 192) rfl rfl, rfl, rfl, by decide +kernel⟩
theorem cfx_X5_22 : FX RX5 22 5 3 (.array .int) := ⟨RX5, TX5, 5, cf_5, by decide, tb_1 (i := 194) rfl rfl, rfl, rfl, by decide +kernel⟩
theorem cfx_X5_25 : FX RX5 25 5 4 (.array .int) := ⟨RX5, TX5, 5, cf_5, by decide, tb_1 (i := 196) rfl rfl, rfl, rfl, by decide +kernel⟩
theorem cml_X1_36 : Cond.methodLinkNest RX1 36 (mY mX5_init) "KnotLaundry" ∈ tb := tb_1 (i := 182) rfl rfl
theorem cmo_X5_init : MOk mX5_init 0 ∧ Cond.instanceMethod (mY mX5_init) ∈ tb := ⟨⟨tb_1 (i := 184) rfl rfl, tb_1 (i := 6) rfl rfl, ⟨by decide, by decide⟩, by decide +kernel⟩, tb_1 (i := 183) rfl rfl⟩
theorem css_House_Lines_23 : SubL lay_House lay_Lines (fun i => 23 + i) := subL_of (by decide +kernel)
theorem cfx_X1_37 : FX RX1 37 1 3 (.object "KnotLaundry$Lines") := ⟨RX1, TX1, 12, cf_1, by decide, tb_1 (i := 233) rfl rfl, rfl, rfl, by decide +kernel⟩
theorem css_House_Lines_28 : SubL lay_House lay_Lines (fun i => 28 + i) := subL_of (by decide +kernel)
theorem cfx_X1_41 : FX RX1 41 1 4 (.object "KnotLaundry$Lines") := ⟨RX1, TX1, 12, cf_1, by decide, tb_1 (i := 235) rfl rfl, rfl, rfl, by decide +kernel⟩
theorem css_House_Lines_33 : SubL lay_House lay_Lines (fun i => 33 + i) := subL_of (by decide +kernel)
theorem cfx_X1_44 : FX RX1 44 1 5 (.object "KnotLaundry$Lines") := ⟨RX1, TX1, 12, cf_1, by decide, tb_1 (i := 237) rfl rfl, rfl, rfl, by decide +kernel⟩
theorem ccl_X1_47 : Cond.classLink RX1 47 "KnotLaundry$Told" ∈ tb := tb_1 (i := 209) rfl rfl
theorem cin_8 : Cond.instantiable RX8 2 ∈ tb ∧ Cond.initialized RX8 ∈ tb := ⟨tb_1 (i := 210) rfl rfl, tb_1 (i := 7) rfl rfl⟩
theorem cdf_8 : ∀ j, j < 2 → defaultValue (tyX8 j) = vp_V [.int 0, .null] j := by decide +kernel
theorem cob_X8_3 : Cond.methodLink RX8 3 Lib.objectInit ∈ tb := tb_1 (i := 214) rfl rfl
theorem cfw_X8_9 : FW RX8 9 8 0 .int := ⟨RX8, TX8, 2, cf_8, by decide, tb_1 (i := 218) rfl rfl, rfl, by decide +kernel⟩
theorem cml_X8_15 : Cond.methodLink RX8 15 Lib.Math.max.name ∈ tb := tb_1 (i := 215) rfl rfl
theorem cmax : Cond.static Lib.Math.max.name ∈ tb ∧ Cond.initialized "java/lang/Math" ∈ tb ∧ Cond.code Lib.Math.max.name Lib.Math.max.code 2 (some .int) ∈ tb := ⟨tb_1 (i := 216) rfl rfl, tb_1 (i := 8) rfl rfl, tb_in (i := 337) (by decide +kernel) rfl⟩
theorem cfx_X8_21 : FX RX8 21 8 1 (.array .int) := ⟨RX8, TX8, 2, cf_8, by decide, tb_1 (i := 221) rfl rfl, rfl, rfl, by decide +kernel⟩
theorem cml_X1_49 : Cond.methodLink RX1 49 (mY mX8_init) ∈ tb := tb_1 (i := 211) rfl rfl
theorem cmo_X8_init : MOk mX8_init 1 ∧ Cond.instanceMethod (mY mX8_init) ∈ tb := ⟨⟨tb_1 (i := 213) rfl rfl, tb_1 (i := 7) rfl rfl, ⟨by decide, by decide⟩, by decide +kernel⟩, tb_1 (i := 212) rfl rfl⟩
theorem css_House_Told_38 : SubL lay_House lay_Told (fun i => 38 + i) := subL_of (by decide +kernel)
theorem cfx_X1_52 : FX RX1 52 1 6 (.object "KnotLaundry$Told") := ⟨RX1, TX1, 12, cf_1, by decide, tb_1 (i := 239) rfl rfl, rfl, rfl, by decide +kernel⟩
theorem css_House_Told_40 : SubL lay_House lay_Told (fun i => 40 + i) := subL_of (by decide +kernel)
theorem cfx_X1_56 : FX RX1 56 1 7 (.object "KnotLaundry$Told") := ⟨RX1, TX1, 12, cf_1, by decide, tb_2 (i := 1) rfl rfl, rfl, rfl, by decide +kernel⟩
theorem css_House_Told_42 : SubL lay_House lay_Told (fun i => 42 + i) := subL_of (by decide +kernel)
theorem cfx_X1_59 : FX RX1 59 1 8 (.object "KnotLaundry$Told") := ⟨RX1, TX1, 12, cf_1, by decide, tb_2 (i := 3) rfl rfl, rfl, rfl, by decide +kernel⟩
theorem css_House_Told_44 : SubL lay_House lay_Told (fun i => 44 + i) := subL_of (by decide +kernel)
theorem cfx_X1_62 : FX RX1 62 1 9 (.object "KnotLaundry$Told") := ⟨RX1, TX1, 12, cf_1, by decide, tb_2 (i := 5) rfl rfl, rfl, rfl, by decide +kernel⟩
theorem css_House_Told_46 : SubL lay_House lay_Told (fun i => 46 + i) := subL_of (by decide +kernel)
theorem cfx_X1_65 : FX RX1 65 1 10 (.object "KnotLaundry$Told") := ⟨RX1, TX1, 12, cf_1, by decide, tb_2 (i := 7) rfl rfl, rfl, rfl, by decide +kernel⟩
theorem cfx_X1_68 : FX RX1 68 1 11 (.array .int) := ⟨RX1, TX1, 12, cf_1, by decide, tb_2 (i := 9) rfl rfl, rfl, rfl, by decide +kernel⟩
theorem cml_X10_9 : Cond.methodLinkNest RX10 9 (mY mX1_init) "KnotLaundry" ∈ tb := tb_1 (i := 31) rfl rfl
theorem cmo_X1_init : MOk mX1_init 0 ∧ Cond.instanceMethod (mY mX1_init) ∈ tb := ⟨⟨tb_1 (i := 33) rfl rfl, tb_1 (i := 2) rfl rfl, ⟨by decide, by decide⟩, by decide +kernel⟩, tb_1 (i := 32) rfl rfl⟩
theorem css_KL_House_1 : SubL lay_KL lay_House (fun i => 1 + i) := subL_of (by decide +kernel)
theorem cfx_X10_10 : FX RX10 10 10 0 (.object "KnotLaundry$House") := ⟨RX10, TX10, 10, cf_10, by decide, tb_2 (i := 124) rfl rfl, rfl, rfl, by decide +kernel⟩
theorem css_KL_House_50 : SubL lay_KL lay_House (fun i => 50 + i) := subL_of (by decide +kernel)
theorem cfx_X10_16 : FX RX10 16 10 1 (.object "KnotLaundry$House") := ⟨RX10, TX10, 10, cf_10, by decide, tb_2 (i := 125) rfl rfl, rfl, rfl, by decide +kernel⟩
theorem cfw_X10_19 : FW RX10 19 10 2 .boolean := ⟨RX10, TX10, 10, cf_10, by decide, tb_2 (i := 126) rfl rfl, rfl, by decide +kernel⟩
theorem ccl_X10_23 : Cond.classLink RX10 23 "KnotLaundry$World" ∈ tb := tb_2 (i := 35) rfl rfl
theorem cml_X10_25 : Cond.methodLink RX10 25 (mY mX9_init) ∈ tb := tb_2 (i := 36) rfl rfl
theorem css_KL_World_99 : SubL lay_KL lay_World (fun i => 99 + i) := subL_of (by decide +kernel)
theorem cfx_X10_28 : FX RX10 28 10 3 (.object "KnotLaundry$World") := ⟨RX10, TX10, 10, cf_10, by decide, tb_2 (i := 127) rfl rfl, rfl, rfl, by decide +kernel⟩
theorem cfx_X10_32 : FX RX10 32 10 4 (.array (.object "KnotLaundry$World")) := ⟨RX10, TX10, 10, cf_10, by decide, tb_2 (i := 128) rfl rfl, rfl, rfl, by decide +kernel⟩
theorem cfw_X10_36 : FW RX10 36 10 5 .int := ⟨RX10, TX10, 10, cf_10, by decide, tb_2 (i := 129) rfl rfl, rfl, by decide +kernel⟩
theorem ccl_X10_40 : Cond.classLink RX10 40 "KnotLaundry$Tape" ∈ tb := tb_2 (i := 38) rfl rfl
theorem cin_7 : Cond.instantiable RX7 8 ∈ tb ∧ Cond.initialized RX7 ∈ tb := ⟨tb_2 (i := 39) rfl rfl, tb_1 (i := 9) rfl rfl⟩
theorem cdf_7 : ∀ j, j < 8 → defaultValue (tyX7 j) = vp_V [.int 0, .null, .int 0, .int 0, .int 0, .int 0, .int 0, .int 0] j := by decide +kernel
theorem cob_X7_3 : Cond.methodLink RX7 3 Lib.objectInit ∈ tb := tb_2 (i := 43) rfl rfl
theorem cfw_X7_9 : FW RX7 9 7 0 .int := ⟨RX7, TX7, 8, cf_7, by decide, tb_2 (i := 44) rfl rfl, rfl, by decide +kernel⟩
theorem cfx_X7_15 : FX RX7 15 7 1 (.array .int) := ⟨RX7, TX7, 8, cf_7, by decide, tb_2 (i := 46) rfl rfl, rfl, rfl, by decide +kernel⟩
theorem cfw_X7_19 : FW RX7 19 7 2 .int := ⟨RX7, TX7, 8, cf_7, by decide, tb_2 (i := 47) rfl rfl, rfl, by decide +kernel⟩
theorem cfw_X7_22 : FW RX7 22 7 3 .int := ⟨RX7, TX7, 8, cf_7, by decide, tb_2 (i := 50) rfl rfl, rfl, by decide +kernel⟩
theorem cfw_X7_25 : FW RX7 25 7 4 .int := ⟨RX7, TX7, 8, cf_7, by decide, tb_2 (i := 53) rfl rfl, rfl, by decide +kernel⟩
theorem cfw_X7_28 : FW RX7 28 7 5 .int := ⟨RX7, TX7, 8, cf_7, by decide, tb_2 (i := 54) rfl rfl, rfl, by decide +kernel⟩
theorem cfw_X7_31 : FW RX7 31 7 6 .int := ⟨RX7, TX7, 8, cf_7, by decide, tb_2 (i := 55) rfl rfl, rfl, by decide +kernel⟩
theorem cfw_X7_34 : FW RX7 34 7 7 .int := ⟨RX7, TX7, 8, cf_7, by decide, tb_2 (i := 57) rfl rfl, rfl, by decide +kernel⟩
theorem cml_X10_42 : Cond.methodLinkNest RX10 42 (mY mX7_init) "KnotLaundry" ∈ tb := tb_2 (i := 40) rfl rfl
theorem cmo_X7_init : MOk mX7_init 0 ∧ Cond.instanceMethod (mY mX7_init) ∈ tb := ⟨⟨tb_2 (i := 42) rfl rfl, tb_1 (i := 9) rfl rfl, ⟨by decide, by decide⟩, by decide +kernel⟩, tb_2 (i := 41) rfl rfl⟩
theorem css_KL_Tape_113 : SubL lay_KL lay_Tape (fun i => 113 + i) := subL_of (by decide +kernel)
theorem cfx_X10_43 : FX RX10 43 10 6 (.object "KnotLaundry$Tape") := ⟨RX10, TX10, 10, cf_10, by decide, tb_2 (i := 130) rfl rfl, rfl, rfl, by decide +kernel⟩
theorem ccl_X10_47 : Cond.classLink RX10 47 "KnotLaundry$LawReader" ∈ tb := tb_2 (i := 76) rfl rfl
theorem cin_3 : Cond.instantiable RX3 1 ∈ tb ∧ Cond.initialized RX3 ∈ tb := ⟨tb_2 (i := 77) rfl rfl, tb_1 (i := 10) rfl rfl⟩
theorem cdf_3 : ∀ j, j < 1 → defaultValue (tyX3 j) = vp_V [.null] j := by decide +kernel
theorem cob_X3_3 : Cond.methodLink RX3 3 Lib.objectInit ∈ tb := tb_2 (i := 81) rfl rfl
theorem ccl_X3_9 : Cond.classLink RX3 9 "KnotLaundry$Law" ∈ tb := tb_2 (i := 82) rfl rfl
theorem cml_X3_11 : Cond.methodLinkNest RX3 11 (mY mX2_init) "KnotLaundry" ∈ tb := tb_2 (i := 83) rfl rfl
theorem css_LawReader_Law_1 : SubL lay_LawReader lay_Law (fun i => 1 + i) := subL_of (by decide +kernel)
theorem cfx_X3_12 : FX RX3 12 3 0 (.object "KnotLaundry$Law") := ⟨RX3, TX3, 1, cf_3, by decide, tb_2 (i := 84) rfl rfl, rfl, rfl, by decide +kernel⟩
theorem cml_X10_49 : Cond.methodLinkNest RX10 49 (mY mX3_init) "KnotLaundry" ∈ tb := tb_2 (i := 78) rfl rfl
theorem cmo_X3_init : MOk mX3_init 0 ∧ Cond.instanceMethod (mY mX3_init) ∈ tb := ⟨⟨tb_2 (i := 80) rfl rfl, tb_1 (i := 10) rfl rfl, ⟨by decide, by decide⟩, by decide +kernel⟩, tb_2 (i := 79) rfl rfl⟩
theorem css_KL_LawReader_115 : SubL lay_KL lay_LawReader (fun i => 115 + i) := subL_of (by decide +kernel)
theorem cfx_X10_50 : FX RX10 50 10 7 (.object "KnotLaundry$LawReader") := ⟨RX10, TX10, 10, cf_10, by decide, tb_2 (i := 131) rfl rfl, rfl, rfl, by decide +kernel⟩
theorem ccl_X10_54 : Cond.classLink RX10 54 "KnotLaundry$LineReader" ∈ tb := tb_2 (i := 89) rfl rfl
theorem cin_4 : Cond.instantiable RX4 2 ∈ tb ∧ Cond.initialized RX4 ∈ tb := ⟨tb_2 (i := 90) rfl rfl, tb_1 (i := 11) rfl rfl⟩
theorem cdf_4 : ∀ j, j < 2 → defaultValue (tyX4 j) = vp_V [.null, .int 0] j := by decide +kernel
theorem cob_X4_3 : Cond.methodLink RX4 3 Lib.objectInit ∈ tb := tb_2 (i := 94) rfl rfl
theorem ccl_X4_9 : Cond.classLink RX4 9 "KnotLaundry$Lines" ∈ tb := tb_2 (i := 95) rfl rfl
theorem cml_X4_11 : Cond.methodLinkNest RX4 11 (mY mX5_init) "KnotLaundry" ∈ tb := tb_2 (i := 96) rfl rfl
theorem css_LineReader_Lines_1 : SubL lay_LineReader lay_Lines (fun i => 1 + i) := subL_of (by decide +kernel)
theorem cfx_X4_12 : FX RX4 12 4 0 (.object "KnotLaundry$Lines") := ⟨RX4, TX4, 2, cf_4, by decide, tb_2 (i := 97) rfl rfl, rfl, rfl, by decide +kernel⟩
theorem cfw_X4_18 : FW RX4 18 4 1 .int := ⟨RX4, TX4, 2, cf_4, by decide, tb_2 (i := 99) rfl rfl, rfl, by decide +kernel⟩
theorem cml_X10_56 : Cond.methodLinkNest RX10 56 (mY mX4_init) "KnotLaundry" ∈ tb := tb_2 (i := 91) rfl rfl
theorem cmo_X4_init : MOk mX4_init 0 ∧ Cond.instanceMethod (mY mX4_init) ∈ tb := ⟨⟨tb_2 (i := 93) rfl rfl, tb_1 (i := 11) rfl rfl, ⟨by decide, by decide⟩, by decide +kernel⟩, tb_2 (i := 92) rfl rfl⟩
theorem css_KL_LineReader_123 : SubL lay_KL lay_LineReader (fun i => 123 + i) := subL_of (by decide +kernel)
theorem cfx_X10_57 : FX RX10 57 10 8 (.object "KnotLaundry$LineReader") := ⟨RX10, TX10, 10, cf_10, by decide, tb_2 (i := 132) rfl rfl, rfl, rfl, by decide +kernel⟩
theorem ccl_X10_61 : Cond.classLink RX10 61 "KnotLaundry$Puzzles" ∈ tb := tb_2 (i := 105) rfl rfl
theorem cin_6 : Cond.instantiable RX6 4 ∈ tb ∧ Cond.initialized RX6 ∈ tb := ⟨tb_2 (i := 106) rfl rfl, tb_1 (i := 12) rfl rfl⟩
theorem cdf_6 : ∀ j, j < 4 → defaultValue (tyX6 j) = vp_V [.null, .null, .int 0, .null] j := by decide +kernel
theorem cob_X6_3 : Cond.methodLink RX6 3 Lib.objectInit ∈ tb := tb_2 (i := 110) rfl rfl
theorem cfx_X6_9 : FX RX6 9 6 0 (.array .int) := ⟨RX6, TX6, 4, cf_6, by decide, tb_2 (i := 111) rfl rfl, rfl, rfl, by decide +kernel⟩
theorem cfx_X6_15 : FX RX6 15 6 1 (.array .int) := ⟨RX6, TX6, 4, cf_6, by decide, tb_2 (i := 112) rfl rfl, rfl, rfl, by decide +kernel⟩
theorem cfw_X6_18 : FW RX6 18 6 2 .int := ⟨RX6, TX6, 4, cf_6, by decide, tb_2 (i := 113) rfl rfl, rfl, by decide +kernel⟩
theorem cfx_X6_22 : FX RX6 22 6 3 (.array .int) := ⟨RX6, TX6, 4, cf_6, by decide, tb_2 (i := 114) rfl rfl, rfl, rfl, by decide +kernel⟩
theorem cml_X10_63 : Cond.methodLinkNest RX10 63 (mY mX6_init) "KnotLaundry" ∈ tb := tb_2 (i := 107) rfl rfl
theorem cmo_X6_init : MOk mX6_init 0 ∧ Cond.instanceMethod (mY mX6_init) ∈ tb := ⟨⟨tb_2 (i := 109) rfl rfl, tb_1 (i := 12) rfl rfl, ⟨by decide, by decide⟩, by decide +kernel⟩, tb_2 (i := 108) rfl rfl⟩
theorem css_KL_Puzzles_129 : SubL lay_KL lay_Puzzles (fun i => 129 + i) := subL_of (by decide +kernel)
theorem cfx_X10_64 : FX RX10 64 10 9 (.object "KnotLaundry$Puzzles") := ⟨RX10, TX10, 10, cf_10, by decide, tb_2 (i := 133) rfl rfl, rfl, rfl, by decide +kernel⟩
theorem cfl_X10_32 : FL RX10 32 10 4 := ⟨RX10, TX10, 10, cf_10, by decide, tb_2 (i := 128) rfl rfl⟩
theorem css_KL_World_133 : SubL lay_KL lay_World (fun i => 133 + i) := subL_of (by decide +kernel)
theorem css_KL_World_146 : SubL lay_KL lay_World (fun i => 146 + i) := subL_of (by decide +kernel)
theorem css_KL_World_159 : SubL lay_KL lay_World (fun i => 159 + i) := subL_of (by decide +kernel)
theorem css_KL_World_172 : SubL lay_KL lay_World (fun i => 172 + i) := subL_of (by decide +kernel)
theorem css_KL_World_185 : SubL lay_KL lay_World (fun i => 185 + i) := subL_of (by decide +kernel)
theorem css_KL_World_198 : SubL lay_KL lay_World (fun i => 198 + i) := subL_of (by decide +kernel)
theorem cob_X11_1 : Cond.methodLink RX11 1 Lib.objectInit ∈ tb := tb_5 (i := 122) rfl rfl
theorem cfx_X11_7 : FX RX11 7 11 1 (.array .int) := ⟨RX11, TX11, 68, cf_11, by decide, tb_5 (i := 124) rfl rfl, rfl, rfl, by decide +kernel⟩
theorem cfx_X11_13 : FX RX11 13 11 2 (.array .int) := ⟨RX11, TX11, 68, cf_11, by decide, tb_5 (i := 125) rfl rfl, rfl, rfl, by decide +kernel⟩
theorem cfx_X11_16 : FX RX11 16 11 4 (.array .int) := ⟨RX11, TX11, 68, cf_11, by decide, tb_5 (i := 127) rfl rfl, rfl, rfl, by decide +kernel⟩
theorem cfx_X11_19 : FX RX11 19 11 9 (.array .int) := ⟨RX11, TX11, 68, cf_11, by decide, tb_5 (i := 132) rfl rfl, rfl, rfl, by decide +kernel⟩
theorem cfx_X11_22 : FX RX11 22 11 10 (.array .int) := ⟨RX11, TX11, 68, cf_11, by decide, tb_5 (i := 133) rfl rfl, rfl, rfl, by decide +kernel⟩
theorem cfx_X11_25 : FX RX11 25 11 11 (.array .int) := ⟨RX11, TX11, 68, cf_11, by decide, tb_5 (i := 134) rfl rfl, rfl, rfl, by decide +kernel⟩
theorem cfx_X11_28 : FX RX11 28 11 12 (.array .int) := ⟨RX11, TX11, 68, cf_11, by decide, tb_5 (i := 135) rfl rfl, rfl, rfl, by decide +kernel⟩
theorem cfx_X11_31 : FX RX11 31 11 18 (.array .int) := ⟨RX11, TX11, 68, cf_11, by decide, tb_5 (i := 141) rfl rfl, rfl, rfl, by decide +kernel⟩
theorem cfx_X11_34 : FX RX11 34 11 19 (.array .int) := ⟨RX11, TX11, 68, cf_11, by decide, tb_5 (i := 142) rfl rfl, rfl, rfl, by decide +kernel⟩
theorem cfx_X11_37 : FX RX11 37 11 20 (.array .int) := ⟨RX11, TX11, 68, cf_11, by decide, tb_5 (i := 143) rfl rfl, rfl, rfl, by decide +kernel⟩
theorem cfx_X11_40 : FX RX11 40 11 21 (.array .int) := ⟨RX11, TX11, 68, cf_11, by decide, tb_5 (i := 144) rfl rfl, rfl, rfl, by decide +kernel⟩
theorem cfx_X11_43 : FX RX11 43 11 22 (.array .int) := ⟨RX11, TX11, 68, cf_11, by decide, tb_5 (i := 145) rfl rfl, rfl, rfl, by decide +kernel⟩
theorem cfx_X11_46 : FX RX11 46 11 23 (.array .int) := ⟨RX11, TX11, 68, cf_11, by decide, tb_5 (i := 146) rfl rfl, rfl, rfl, by decide +kernel⟩
theorem cfx_X11_49 : FX RX11 49 11 24 (.array .int) := ⟨RX11, TX11, 68, cf_11, by decide, tb_5 (i := 147) rfl rfl, rfl, rfl, by decide +kernel⟩
theorem cfx_X11_52 : FX RX11 52 11 25 (.array .int) := ⟨RX11, TX11, 68, cf_11, by decide, tb_5 (i := 148) rfl rfl, rfl, rfl, by decide +kernel⟩
theorem cfx_X11_55 : FX RX11 55 11 29 (.array .int) := ⟨RX11, TX11, 68, cf_11, by decide, tb_5 (i := 152) rfl rfl, rfl, rfl, by decide +kernel⟩
theorem cfw_X11_58 : FW RX11 58 11 34 .int := ⟨RX11, TX11, 68, cf_11, by decide, tb_5 (i := 157) rfl rfl, rfl, by decide +kernel⟩
theorem cfx_X11_62 : FX RX11 62 11 36 (.array .int) := ⟨RX11, TX11, 68, cf_11, by decide, tb_5 (i := 159) rfl rfl, rfl, rfl, by decide +kernel⟩
theorem cfx_X11_65 : FX RX11 65 11 38 (.array .int) := ⟨RX11, TX11, 68, cf_11, by decide, tb_5 (i := 161) rfl rfl, rfl, rfl, by decide +kernel⟩
theorem cfx_X11_68 : FX RX11 68 11 40 (.array .int) := ⟨RX11, TX11, 68, cf_11, by decide, tb_5 (i := 163) rfl rfl, rfl, rfl, by decide +kernel⟩
theorem cfx_X11_71 : FX RX11 71 11 41 (.array .int) := ⟨RX11, TX11, 68, cf_11, by decide, tb_5 (i := 164) rfl rfl, rfl, rfl, by decide +kernel⟩
theorem cfx_X11_74 : FX RX11 74 11 42 (.array .int) := ⟨RX11, TX11, 68, cf_11, by decide, tb_5 (i := 165) rfl rfl, rfl, rfl, by decide +kernel⟩
theorem cfx_X11_77 : FX RX11 77 11 44 (.array .int) := ⟨RX11, TX11, 68, cf_11, by decide, tb_5 (i := 167) rfl rfl, rfl, rfl, by decide +kernel⟩
theorem cfx_X11_80 : FX RX11 80 11 45 (.array .int) := ⟨RX11, TX11, 68, cf_11, by decide, tb_5 (i := 168) rfl rfl, rfl, rfl, by decide +kernel⟩
theorem cfx_X11_83 : FX RX11 83 11 47 (.array .int) := ⟨RX11, TX11, 68, cf_11, by decide, tb_5 (i := 170) rfl rfl, rfl, rfl, by decide +kernel⟩
theorem cfx_X11_86 : FX RX11 86 11 48 (.array .int) := ⟨RX11, TX11, 68, cf_11, by decide, tb_5 (i := 171) rfl rfl, rfl, rfl, by decide +kernel⟩
theorem cfx_X11_89 : FX RX11 89 11 49 (.array .int) := ⟨RX11, TX11, 68, cf_11, by decide, tb_5 (i := 172) rfl rfl, rfl, rfl, by decide +kernel⟩
theorem cfx_X11_92 : FX RX11 92 11 50 (.array .int) := ⟨RX11, TX11, 68, cf_11, by decide, tb_5 (i := 173) rfl rfl, rfl, rfl, by decide +kernel⟩
theorem cfx_X11_95 : FX RX11 95 11 51 (.array .int) := ⟨RX11, TX11, 68, cf_11, by decide, tb_5 (i := 174) rfl rfl, rfl, rfl, by decide +kernel⟩
theorem cfx_X11_98 : FX RX11 98 11 53 (.array .int) := ⟨RX11, TX11, 68, cf_11, by decide, tb_5 (i := 176) rfl rfl, rfl, rfl, by decide +kernel⟩
theorem cfx_X11_101 : FX RX11 101 11 55 (.array .int) := ⟨RX11, TX11, 68, cf_11, by decide, tb_5 (i := 178) rfl rfl, rfl, rfl, by decide +kernel⟩
theorem cfx_X11_104 : FX RX11 104 11 56 (.array .int) := ⟨RX11, TX11, 68, cf_11, by decide, tb_5 (i := 179) rfl rfl, rfl, rfl, by decide +kernel⟩
theorem cfx_X11_107 : FX RX11 107 11 58 (.array .int) := ⟨RX11, TX11, 68, cf_11, by decide, tb_5 (i := 181) rfl rfl, rfl, rfl, by decide +kernel⟩
theorem cfx_X11_110 : FX RX11 110 11 59 (.array .int) := ⟨RX11, TX11, 68, cf_11, by decide, tb_5 (i := 182) rfl rfl, rfl, rfl, by decide +kernel⟩
theorem cfx_X11_113 : FX RX11 113 11 60 (.array .int) := ⟨RX11, TX11, 68, cf_11, by decide, tb_5 (i := 183) rfl rfl, rfl, rfl, by decide +kernel⟩
theorem cfx_X11_116 : FX RX11 116 11 62 (.array .int) := ⟨RX11, TX11, 68, cf_11, by decide, tb_5 (i := 185) rfl rfl, rfl, rfl, by decide +kernel⟩
theorem cfx_X11_119 : FX RX11 119 11 63 (.array .int) := ⟨RX11, TX11, 68, cf_11, by decide, tb_5 (i := 186) rfl rfl, rfl, rfl, by decide +kernel⟩
theorem cfx_X11_122 : FX RX11 122 11 67 (.array .int) := ⟨RX11, TX11, 68, cf_11, by decide, tb_5 (i := 190) rfl rfl, rfl, rfl, by decide +kernel⟩
