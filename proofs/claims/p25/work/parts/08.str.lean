def Str (K : List (Nat × Kd)) (X : List (Nat × Nat × Nat)) (w : Wv) : Prop := (∀ e ∈ K, (wK w)[e.1]? = some e.2) ∧ ∀ e ∈ X, wX w e.1 e.2.1 = some e.2.2
theorem kS {K : List (Nat × Kd)} {X : List (Nat × Nat × Nat)} {w0 w : Wv} {S : List Nat} {F : List (Nat × Nat)} {n : Nat} {kd : Kd} (s : Str K X w0) (h : Ch S F w0 w) (hm : (n, kd) ∈ K) : (wK w)[n]? = some kd := by rw [h.1]; exact s.1 _ hm
theorem xS {K : List (Nat × Kd)} {X : List (Nat × Nat × Nat)} {w0 w : Wv} {S : List Nat} {F : List (Nat × Nat)} {n k q : Nat} (s : Str K X w0) (h : Ch S F w0 w) (hm : (n, k, q) ∈ X) : wX w n k = some q := by rw [h.2.1]; exact s.2 _ hm
theorem sS {K : List (Nat × Kd)} {X : List (Nat × Nat × Nat)} {w0 w : Wv} {S : List Nat} {F : List (Nat × Nat)} (s : Str K X w0) (h : Ch S F w0 w) : Str K X w := ⟨fun e he => by rw [h.1]; exact s.1 e he, fun e he => by rw [h.2.1]; exact s.2 e he⟩
def KC : List (Nat × Kd) := [(0, (10, .inl fX10)), (1, (5, .inl fX5)), (2, (1503, .inr (0, 500, 0))), (3, (9, .inl fX9)), (4, (1909, .inr (0, 42, 0))), (5, (1910, .inr (0, 6, 0))), (6, (1911, .inr (0, 6, 0))), (7, (1912, .inr (0, 6, 0))), (8, (1913, .inr (0, 6, 0))), (9, (1914, .inr (0, 6, 0))), (10, (1915, .inr (0, 3, 0))), (11, (1916, .inr (0, 3, 0))), (12, (9, .inl fX9)), (13, (1909, .inr (0, 42, 0))), (14, (1910, .inr (0, 6, 0))), (15, (1911, .inr (0, 6, 0))), (16, (1912, .inr (0, 6, 0))), (17, (1913, .inr (0, 6, 0))), (18, (1914, .inr (0, 6, 0))), (19, (1915, .inr (0, 3, 0))), (20, (1916, .inr (0, 3, 0))), (21, (1, .inl fX1)), (22, (1101, .inr (0, 42, 0))), (23, (1104, .inr (0, 42, 0))), (24, (1105, .inr (0, 168, 0))), (25, (1106, .inr (0, 1764, 0))), (26, (1107, .inr (1, 42, 0))), (27, (1108, .inr (0, 42, 0))), (28, (1, .inl fX1)), (29, (1101, .inr (0, 42, 0))), (30, (1104, .inr (0, 42, 0))), (31, (1105, .inr (0, 168, 0))), (32, (1106, .inr (0, 1764, 0))), (33, (1107, .inr (1, 42, 0))), (34, (1108, .inr (0, 42, 0))), (35, (6, .inl fX6)), (36, (1602, .inr (0, 6, 0))), (37, (1603, .inr (0, 6, 0))), (38, (6, .inl fX6)), (39, (1602, .inr (0, 6, 0))), (40, (1603, .inr (0, 6, 0))), (41, (6, .inl fX6)), (42, (1602, .inr (0, 6, 0))), (43, (1603, .inr (0, 6, 0))), (44, (4, .inl fX4)), (45, (1401, .inr (0, 30, 0))), (46, (1402, .inr (0, 30, 0))), (47, (7, .inl fX7)), (48, (1701, .inr (0, 10, 0))), (49, (1702, .inr (0, 10, 0))), (50, (1703, .inr (0, 10, 0))), (51, (3, .inl fX3)), (52, (1300, .inr (2, 1024, 1))), (53, (1301, .inr (2, 1024, 1))), (54, (1302, .inr (0, 1024, 0))), (55, (8, .inl fX8)), (56, (1803, .inr (3, 7, 2))), (57, (1804, .inr (0, 6, 0))), (58, (1805, .inr (0, 42, 0))), (59, (6, .inl fX6)), (60, (1602, .inr (0, 6, 0))), (61, (1603, .inr (0, 6, 0))), (62, (6, .inl fX6)), (63, (1602, .inr (0, 6, 0))), (64, (1603, .inr (0, 6, 0))), (65, (6, .inl fX6)), (66, (1602, .inr (0, 6, 0))), (67, (1603, .inr (0, 6, 0))), (68, (6, .inl fX6)), (69, (1602, .inr (0, 6, 0))), (70, (1603, .inr (0, 6, 0))), (71, (6, .inl fX6)), (72, (1602, .inr (0, 6, 0))), (73, (1603, .inr (0, 6, 0))), (74, (6, .inl fX6)), (75, (1602, .inr (0, 6, 0))), (76, (1603, .inr (0, 6, 0))), (77, (6, .inl fX6)), (78, (1602, .inr (0, 6, 0))), (79, (1603, .inr (0, 6, 0))), (80, (0, .inl fX0)), (81, (1003, .inr (3, 6, 2))), (82, (1004, .inr (0, 5, 0))), (83, (1005, .inr (0, 5, 0))), (84, (1006, .inr (0, 252, 0))), (85, (6, .inl fX6)), (86, (1602, .inr (0, 6, 0))), (87, (1603, .inr (0, 6, 0))), (88, (6, .inl fX6)), (89, (1602, .inr (0, 6, 0))), (90, (1603, .inr (0, 6, 0))), (91, (6, .inl fX6)), (92, (1602, .inr (0, 6, 0))), (93, (1603, .inr (0, 6, 0))), (94, (6, .inl fX6)), (95, (1602, .inr (0, 6, 0))), (96, (1603, .inr (0, 6, 0))), (97, (6, .inl fX6)), (98, (1602, .inr (0, 6, 0))), (99, (1603, .inr (0, 6, 0))), (100, (6, .inl fX6)), (101, (1602, .inr (0, 6, 0))), (102, (1603, .inr (0, 6, 0))), (103, (2013, .inr (4, 2, 2))), (104, (2, .inl fX2)), (105, (1203, .inr (0, 42, 0))), (106, (6, .inl fX6)), (107, (1602, .inr (0, 6, 0))), (108, (1603, .inr (0, 6, 0))), (109, (2, .inl fX2)), (110, (1203, .inr (0, 42, 0))), (111, (6, .inl fX6)), (112, (1602, .inr (0, 6, 0))), (113, (1603, .inr (0, 6, 0)))]
def XC : List (Nat × Nat × Nat) := [(0, 0, 1), (0, 1, 3), (0, 2, 12), (0, 3, 21), (0, 4, 28), (0, 5, 35), (0, 6, 38), (0, 7, 41), (0, 8, 44), (0, 9, 47), (0, 10, 51), (0, 11, 55), (0, 12, 80), (0, 13, 103), (1, 3, 2), (3, 9, 4), (3, 10, 5), (3, 11, 6), (3, 12, 7), (3, 13, 8), (3, 14, 9), (3, 15, 10), (3, 16, 11), (12, 9, 13), (12, 10, 14), (12, 11, 15), (12, 12, 16), (12, 13, 17), (12, 14, 18), (12, 15, 19), (12, 16, 20), (21, 1, 22), (21, 4, 23), (21, 5, 24), (21, 6, 25), (21, 7, 26), (21, 8, 27), (28, 1, 29), (28, 4, 30), (28, 5, 31), (28, 6, 32), (28, 7, 33), (28, 8, 34), (35, 2, 36), (35, 3, 37), (35, 4, 3), (35, 5, 21), (38, 2, 39), (38, 3, 40), (38, 4, 3), (38, 5, 21), (41, 2, 42), (41, 3, 43), (41, 4, 3), (41, 5, 28), (44, 1, 45), (44, 2, 46), (47, 1, 48), (47, 2, 49), (47, 3, 50), (51, 0, 52), (51, 1, 53), (51, 2, 54), (55, 1, 3), (55, 2, 21), (55, 3, 56), (55, 4, 57), (55, 5, 58), (55, 6, 51), (56, 0, 59), (56, 1, 62), (56, 2, 65), (56, 3, 68), (56, 4, 71), (56, 5, 74), (56, 6, 77), (59, 2, 60), (59, 3, 61), (59, 4, 3), (59, 5, 21), (62, 2, 63), (62, 3, 64), (62, 4, 3), (62, 5, 21), (65, 2, 66), (65, 3, 67), (65, 4, 3), (65, 5, 21), (68, 2, 69), (68, 3, 70), (68, 4, 3), (68, 5, 21), (71, 2, 72), (71, 3, 73), (71, 4, 3), (71, 5, 21), (74, 2, 75), (74, 3, 76), (74, 4, 3), (74, 5, 21), (77, 2, 78), (77, 3, 79), (77, 4, 3), (77, 5, 21), (80, 1, 47), (80, 2, 21), (80, 3, 81), (80, 4, 82), (80, 5, 83), (80, 6, 84), (80, 7, 51), (81, 0, 85), (81, 1, 88), (81, 2, 91), (81, 3, 94), (81, 4, 97), (81, 5, 100), (85, 2, 86), (85, 3, 87), (85, 4, 3), (85, 5, 21), (88, 2, 89), (88, 3, 90), (88, 4, 3), (88, 5, 21), (91, 2, 92), (91, 3, 93), (91, 4, 3), (91, 5, 21), (94, 2, 95), (94, 3, 96), (94, 4, 3), (94, 5, 21), (97, 2, 98), (97, 3, 99), (97, 4, 3), (97, 5, 21), (100, 2, 101), (100, 3, 102), (100, 4, 3), (100, 5, 21), (103, 0, 104), (103, 1, 109), (104, 2, 106), (104, 3, 105), (106, 2, 107), (106, 3, 108), (106, 4, 3), (106, 5, 21), (109, 2, 111), (109, 3, 110), (111, 2, 112), (111, 3, 113), (111, 4, 3), (111, 5, 21)]
theorem kc_0 : ((0, (10, .inl fX10)) : Nat × Kd) ∈ KC := List.mem_of_getElem? (i := 0) rfl
theorem kc_1 : ((1, (5, .inl fX5)) : Nat × Kd) ∈ KC := List.mem_of_getElem? (i := 1) rfl
theorem kc_2 : ((2, (1503, .inr (0, 500, 0))) : Nat × Kd) ∈ KC := List.mem_of_getElem? (i := 2) rfl
theorem kc_3 : ((3, (9, .inl fX9)) : Nat × Kd) ∈ KC := List.mem_of_getElem? (i := 3) rfl
theorem kc_4 : ((4, (1909, .inr (0, 42, 0))) : Nat × Kd) ∈ KC := List.mem_of_getElem? (i := 4) rfl
theorem kc_5 : ((5, (1910, .inr (0, 6, 0))) : Nat × Kd) ∈ KC := List.mem_of_getElem? (i := 5) rfl
theorem kc_6 : ((6, (1911, .inr (0, 6, 0))) : Nat × Kd) ∈ KC := List.mem_of_getElem? (i := 6) rfl
theorem kc_7 : ((7, (1912, .inr (0, 6, 0))) : Nat × Kd) ∈ KC := List.mem_of_getElem? (i := 7) rfl
theorem kc_8 : ((8, (1913, .inr (0, 6, 0))) : Nat × Kd) ∈ KC := List.mem_of_getElem? (i := 8) rfl
theorem kc_9 : ((9, (1914, .inr (0, 6, 0))) : Nat × Kd) ∈ KC := List.mem_of_getElem? (i := 9) rfl
theorem kc_10 : ((10, (1915, .inr (0, 3, 0))) : Nat × Kd) ∈ KC := List.mem_of_getElem? (i := 10) rfl
theorem kc_11 : ((11, (1916, .inr (0, 3, 0))) : Nat × Kd) ∈ KC := List.mem_of_getElem? (i := 11) rfl
theorem kc_12 : ((12, (9, .inl fX9)) : Nat × Kd) ∈ KC := List.mem_of_getElem? (i := 12) rfl
theorem kc_13 : ((13, (1909, .inr (0, 42, 0))) : Nat × Kd) ∈ KC := List.mem_of_getElem? (i := 13) rfl
theorem kc_14 : ((14, (1910, .inr (0, 6, 0))) : Nat × Kd) ∈ KC := List.mem_of_getElem? (i := 14) rfl
theorem kc_15 : ((15, (1911, .inr (0, 6, 0))) : Nat × Kd) ∈ KC := List.mem_of_getElem? (i := 15) rfl
theorem kc_16 : ((16, (1912, .inr (0, 6, 0))) : Nat × Kd) ∈ KC := List.mem_of_getElem? (i := 16) rfl
theorem kc_17 : ((17, (1913, .inr (0, 6, 0))) : Nat × Kd) ∈ KC := List.mem_of_getElem? (i := 17) rfl
theorem kc_18 : ((18, (1914, .inr (0, 6, 0))) : Nat × Kd) ∈ KC := List.mem_of_getElem? (i := 18) rfl
theorem kc_19 : ((19, (1915, .inr (0, 3, 0))) : Nat × Kd) ∈ KC := List.mem_of_getElem? (i := 19) rfl
theorem kc_20 : ((20, (1916, .inr (0, 3, 0))) : Nat × Kd) ∈ KC := List.mem_of_getElem? (i := 20) rfl
theorem kc_21 : ((21, (1, .inl fX1)) : Nat × Kd) ∈ KC := List.mem_of_getElem? (i := 21) rfl
theorem kc_22 : ((22, (1101, .inr (0, 42, 0))) : Nat × Kd) ∈ KC := List.mem_of_getElem? (i := 22) rfl
theorem kc_23 : ((23, (1104, .inr (0, 42, 0))) : Nat × Kd) ∈ KC := List.mem_of_getElem? (i := 23) rfl
theorem kc_24 : ((24, (1105, .inr (0, 168, 0))) : Nat × Kd) ∈ KC := List.mem_of_getElem? (i := 24) rfl
theorem kc_25 : ((25, (1106, .inr (0, 1764, 0))) : Nat × Kd) ∈ KC := List.mem_of_getElem? (i := 25) rfl
theorem kc_26 : ((26, (1107, .inr (1, 42, 0))) : Nat × Kd) ∈ KC := List.mem_of_getElem? (i := 26) rfl
theorem kc_27 : ((27, (1108, .inr (0, 42, 0))) : Nat × Kd) ∈ KC := List.mem_of_getElem? (i := 27) rfl
theorem kc_28 : ((28, (1, .inl fX1)) : Nat × Kd) ∈ KC := List.mem_of_getElem? (i := 28) rfl
theorem kc_29 : ((29, (1101, .inr (0, 42, 0))) : Nat × Kd) ∈ KC := List.mem_of_getElem? (i := 29) rfl
theorem kc_30 : ((30, (1104, .inr (0, 42, 0))) : Nat × Kd) ∈ KC := List.mem_of_getElem? (i := 30) rfl
theorem kc_31 : ((31, (1105, .inr (0, 168, 0))) : Nat × Kd) ∈ KC := List.mem_of_getElem? (i := 31) rfl
theorem kc_32 : ((32, (1106, .inr (0, 1764, 0))) : Nat × Kd) ∈ KC := List.mem_of_getElem? (i := 32) rfl
theorem kc_33 : ((33, (1107, .inr (1, 42, 0))) : Nat × Kd) ∈ KC := List.mem_of_getElem? (i := 33) rfl
theorem kc_34 : ((34, (1108, .inr (0, 42, 0))) : Nat × Kd) ∈ KC := List.mem_of_getElem? (i := 34) rfl
theorem kc_35 : ((35, (6, .inl fX6)) : Nat × Kd) ∈ KC := List.mem_of_getElem? (i := 35) rfl
theorem kc_36 : ((36, (1602, .inr (0, 6, 0))) : Nat × Kd) ∈ KC := List.mem_of_getElem? (i := 36) rfl
theorem kc_37 : ((37, (1603, .inr (0, 6, 0))) : Nat × Kd) ∈ KC := List.mem_of_getElem? (i := 37) rfl
theorem kc_38 : ((38, (6, .inl fX6)) : Nat × Kd) ∈ KC := List.mem_of_getElem? (i := 38) rfl
theorem kc_39 : ((39, (1602, .inr (0, 6, 0))) : Nat × Kd) ∈ KC := List.mem_of_getElem? (i := 39) rfl
theorem kc_40 : ((40, (1603, .inr (0, 6, 0))) : Nat × Kd) ∈ KC := List.mem_of_getElem? (i := 40) rfl
theorem kc_41 : ((41, (6, .inl fX6)) : Nat × Kd) ∈ KC := List.mem_of_getElem? (i := 41) rfl
theorem kc_42 : ((42, (1602, .inr (0, 6, 0))) : Nat × Kd) ∈ KC := List.mem_of_getElem? (i := 42) rfl
theorem kc_43 : ((43, (1603, .inr (0, 6, 0))) : Nat × Kd) ∈ KC := List.mem_of_getElem? (i := 43) rfl
theorem kc_44 : ((44, (4, .inl fX4)) : Nat × Kd) ∈ KC := List.mem_of_getElem? (i := 44) rfl
theorem kc_45 : ((45, (1401, .inr (0, 30, 0))) : Nat × Kd) ∈ KC := List.mem_of_getElem? (i := 45) rfl
theorem kc_46 : ((46, (1402, .inr (0, 30, 0))) : Nat × Kd) ∈ KC := List.mem_of_getElem? (i := 46) rfl
theorem kc_47 : ((47, (7, .inl fX7)) : Nat × Kd) ∈ KC := List.mem_of_getElem? (i := 47) rfl
theorem kc_48 : ((48, (1701, .inr (0, 10, 0))) : Nat × Kd) ∈ KC := List.mem_of_getElem? (i := 48) rfl
theorem kc_49 : ((49, (1702, .inr (0, 10, 0))) : Nat × Kd) ∈ KC := List.mem_of_getElem? (i := 49) rfl
theorem kc_50 : ((50, (1703, .inr (0, 10, 0))) : Nat × Kd) ∈ KC := List.mem_of_getElem? (i := 50) rfl
theorem kc_51 : ((51, (3, .inl fX3)) : Nat × Kd) ∈ KC := List.mem_of_getElem? (i := 51) rfl
theorem kc_52 : ((52, (1300, .inr (2, 1024, 1))) : Nat × Kd) ∈ KC := List.mem_of_getElem? (i := 52) rfl
theorem kc_53 : ((53, (1301, .inr (2, 1024, 1))) : Nat × Kd) ∈ KC := List.mem_of_getElem? (i := 53) rfl
theorem kc_54 : ((54, (1302, .inr (0, 1024, 0))) : Nat × Kd) ∈ KC := List.mem_of_getElem? (i := 54) rfl
theorem kc_55 : ((55, (8, .inl fX8)) : Nat × Kd) ∈ KC := List.mem_of_getElem? (i := 55) rfl
theorem kc_56 : ((56, (1803, .inr (3, 7, 2))) : Nat × Kd) ∈ KC := List.mem_of_getElem? (i := 56) rfl
theorem kc_57 : ((57, (1804, .inr (0, 6, 0))) : Nat × Kd) ∈ KC := List.mem_of_getElem? (i := 57) rfl
theorem kc_58 : ((58, (1805, .inr (0, 42, 0))) : Nat × Kd) ∈ KC := List.mem_of_getElem? (i := 58) rfl
theorem kc_59 : ((59, (6, .inl fX6)) : Nat × Kd) ∈ KC := List.mem_of_getElem? (i := 59) rfl
theorem kc_60 : ((60, (1602, .inr (0, 6, 0))) : Nat × Kd) ∈ KC := List.mem_of_getElem? (i := 60) rfl
theorem kc_61 : ((61, (1603, .inr (0, 6, 0))) : Nat × Kd) ∈ KC := List.mem_of_getElem? (i := 61) rfl
theorem kc_62 : ((62, (6, .inl fX6)) : Nat × Kd) ∈ KC := List.mem_of_getElem? (i := 62) rfl
theorem kc_63 : ((63, (1602, .inr (0, 6, 0))) : Nat × Kd) ∈ KC := List.mem_of_getElem? (i := 63) rfl
theorem kc_64 : ((64, (1603, .inr (0, 6, 0))) : Nat × Kd) ∈ KC := List.mem_of_getElem? (i := 64) rfl
theorem kc_65 : ((65, (6, .inl fX6)) : Nat × Kd) ∈ KC := List.mem_of_getElem? (i := 65) rfl
theorem kc_66 : ((66, (1602, .inr (0, 6, 0))) : Nat × Kd) ∈ KC := List.mem_of_getElem? (i := 66) rfl
theorem kc_67 : ((67, (1603, .inr (0, 6, 0))) : Nat × Kd) ∈ KC := List.mem_of_getElem? (i := 67) rfl
theorem kc_68 : ((68, (6, .inl fX6)) : Nat × Kd) ∈ KC := List.mem_of_getElem? (i := 68) rfl
theorem kc_69 : ((69, (1602, .inr (0, 6, 0))) : Nat × Kd) ∈ KC := List.mem_of_getElem? (i := 69) rfl
theorem kc_70 : ((70, (1603, .inr (0, 6, 0))) : Nat × Kd) ∈ KC := List.mem_of_getElem? (i := 70) rfl
theorem kc_71 : ((71, (6, .inl fX6)) : Nat × Kd) ∈ KC := List.mem_of_getElem? (i := 71) rfl
theorem kc_72 : ((72, (1602, .inr (0, 6, 0))) : Nat × Kd) ∈ KC := List.mem_of_getElem? (i := 72) rfl
theorem kc_73 : ((73, (1603, .inr (0, 6, 0))) : Nat × Kd) ∈ KC := List.mem_of_getElem? (i := 73) rfl
theorem kc_74 : ((74, (6, .inl fX6)) : Nat × Kd) ∈ KC := List.mem_of_getElem? (i := 74) rfl
theorem kc_75 : ((75, (1602, .inr (0, 6, 0))) : Nat × Kd) ∈ KC := List.mem_of_getElem? (i := 75) rfl
theorem kc_76 : ((76, (1603, .inr (0, 6, 0))) : Nat × Kd) ∈ KC := List.mem_of_getElem? (i := 76) rfl
theorem kc_77 : ((77, (6, .inl fX6)) : Nat × Kd) ∈ KC := List.mem_of_getElem? (i := 77) rfl
theorem kc_78 : ((78, (1602, .inr (0, 6, 0))) : Nat × Kd) ∈ KC := List.mem_of_getElem? (i := 78) rfl
theorem kc_79 : ((79, (1603, .inr (0, 6, 0))) : Nat × Kd) ∈ KC := List.mem_of_getElem? (i := 79) rfl
theorem kc_80 : ((80, (0, .inl fX0)) : Nat × Kd) ∈ KC := List.mem_of_getElem? (i := 80) rfl
theorem kc_81 : ((81, (1003, .inr (3, 6, 2))) : Nat × Kd) ∈ KC := List.mem_of_getElem? (i := 81) rfl
theorem kc_82 : ((82, (1004, .inr (0, 5, 0))) : Nat × Kd) ∈ KC := List.mem_of_getElem? (i := 82) rfl
theorem kc_83 : ((83, (1005, .inr (0, 5, 0))) : Nat × Kd) ∈ KC := List.mem_of_getElem? (i := 83) rfl
theorem kc_84 : ((84, (1006, .inr (0, 252, 0))) : Nat × Kd) ∈ KC := List.mem_of_getElem? (i := 84) rfl
theorem kc_85 : ((85, (6, .inl fX6)) : Nat × Kd) ∈ KC := List.mem_of_getElem? (i := 85) rfl
theorem kc_86 : ((86, (1602, .inr (0, 6, 0))) : Nat × Kd) ∈ KC := List.mem_of_getElem? (i := 86) rfl
theorem kc_87 : ((87, (1603, .inr (0, 6, 0))) : Nat × Kd) ∈ KC := List.mem_of_getElem? (i := 87) rfl
theorem kc_88 : ((88, (6, .inl fX6)) : Nat × Kd) ∈ KC := List.mem_of_getElem? (i := 88) rfl
theorem kc_89 : ((89, (1602, .inr (0, 6, 0))) : Nat × Kd) ∈ KC := List.mem_of_getElem? (i := 89) rfl
theorem kc_90 : ((90, (1603, .inr (0, 6, 0))) : Nat × Kd) ∈ KC := List.mem_of_getElem? (i := 90) rfl
theorem kc_91 : ((91, (6, .inl fX6)) : Nat × Kd) ∈ KC := List.mem_of_getElem? (i := 91) rfl
theorem kc_92 : ((92, (1602, .inr (0, 6, 0))) : Nat × Kd) ∈ KC := List.mem_of_getElem? (i := 92) rfl
theorem kc_93 : ((93, (1603, .inr (0, 6, 0))) : Nat × Kd) ∈ KC := List.mem_of_getElem? (i := 93) rfl
theorem kc_94 : ((94, (6, .inl fX6)) : Nat × Kd) ∈ KC := List.mem_of_getElem? (i := 94) rfl
theorem kc_95 : ((95, (1602, .inr (0, 6, 0))) : Nat × Kd) ∈ KC := List.mem_of_getElem? (i := 95) rfl
theorem kc_96 : ((96, (1603, .inr (0, 6, 0))) : Nat × Kd) ∈ KC := List.mem_of_getElem? (i := 96) rfl
theorem kc_97 : ((97, (6, .inl fX6)) : Nat × Kd) ∈ KC := List.mem_of_getElem? (i := 97) rfl
theorem kc_98 : ((98, (1602, .inr (0, 6, 0))) : Nat × Kd) ∈ KC := List.mem_of_getElem? (i := 98) rfl
theorem kc_99 : ((99, (1603, .inr (0, 6, 0))) : Nat × Kd) ∈ KC := List.mem_of_getElem? (i := 99) rfl
theorem kc_100 : ((100, (6, .inl fX6)) : Nat × Kd) ∈ KC := List.mem_of_getElem? (i := 100) rfl
theorem kc_101 : ((101, (1602, .inr (0, 6, 0))) : Nat × Kd) ∈ KC := List.mem_of_getElem? (i := 101) rfl
theorem kc_102 : ((102, (1603, .inr (0, 6, 0))) : Nat × Kd) ∈ KC := List.mem_of_getElem? (i := 102) rfl
theorem kc_103 : ((103, (2013, .inr (4, 2, 2))) : Nat × Kd) ∈ KC := List.mem_of_getElem? (i := 103) rfl
theorem kc_104 : ((104, (2, .inl fX2)) : Nat × Kd) ∈ KC := List.mem_of_getElem? (i := 104) rfl
theorem kc_105 : ((105, (1203, .inr (0, 42, 0))) : Nat × Kd) ∈ KC := List.mem_of_getElem? (i := 105) rfl
theorem kc_106 : ((106, (6, .inl fX6)) : Nat × Kd) ∈ KC := List.mem_of_getElem? (i := 106) rfl
theorem kc_107 : ((107, (1602, .inr (0, 6, 0))) : Nat × Kd) ∈ KC := List.mem_of_getElem? (i := 107) rfl
theorem kc_108 : ((108, (1603, .inr (0, 6, 0))) : Nat × Kd) ∈ KC := List.mem_of_getElem? (i := 108) rfl
theorem kc_109 : ((109, (2, .inl fX2)) : Nat × Kd) ∈ KC := List.mem_of_getElem? (i := 109) rfl
theorem kc_110 : ((110, (1203, .inr (0, 42, 0))) : Nat × Kd) ∈ KC := List.mem_of_getElem? (i := 110) rfl
theorem kc_111 : ((111, (6, .inl fX6)) : Nat × Kd) ∈ KC := List.mem_of_getElem? (i := 111) rfl
theorem kc_112 : ((112, (1602, .inr (0, 6, 0))) : Nat × Kd) ∈ KC := List.mem_of_getElem? (i := 112) rfl
theorem kc_113 : ((113, (1603, .inr (0, 6, 0))) : Nat × Kd) ∈ KC := List.mem_of_getElem? (i := 113) rfl
theorem xc_0_0 : ((0, 0, 1) : Nat × Nat × Nat) ∈ XC := List.mem_of_getElem? (i := 0) rfl
theorem xc_0_1 : ((0, 1, 3) : Nat × Nat × Nat) ∈ XC := List.mem_of_getElem? (i := 1) rfl
theorem xc_0_2 : ((0, 2, 12) : Nat × Nat × Nat) ∈ XC := List.mem_of_getElem? (i := 2) rfl
theorem xc_0_3 : ((0, 3, 21) : Nat × Nat × Nat) ∈ XC := List.mem_of_getElem? (i := 3) rfl
theorem xc_0_4 : ((0, 4, 28) : Nat × Nat × Nat) ∈ XC := List.mem_of_getElem? (i := 4) rfl
theorem xc_0_5 : ((0, 5, 35) : Nat × Nat × Nat) ∈ XC := List.mem_of_getElem? (i := 5) rfl
theorem xc_0_6 : ((0, 6, 38) : Nat × Nat × Nat) ∈ XC := List.mem_of_getElem? (i := 6) rfl
theorem xc_0_7 : ((0, 7, 41) : Nat × Nat × Nat) ∈ XC := List.mem_of_getElem? (i := 7) rfl
theorem xc_0_8 : ((0, 8, 44) : Nat × Nat × Nat) ∈ XC := List.mem_of_getElem? (i := 8) rfl
theorem xc_0_9 : ((0, 9, 47) : Nat × Nat × Nat) ∈ XC := List.mem_of_getElem? (i := 9) rfl
theorem xc_0_10 : ((0, 10, 51) : Nat × Nat × Nat) ∈ XC := List.mem_of_getElem? (i := 10) rfl
theorem xc_0_11 : ((0, 11, 55) : Nat × Nat × Nat) ∈ XC := List.mem_of_getElem? (i := 11) rfl
theorem xc_0_12 : ((0, 12, 80) : Nat × Nat × Nat) ∈ XC := List.mem_of_getElem? (i := 12) rfl
theorem xc_0_13 : ((0, 13, 103) : Nat × Nat × Nat) ∈ XC := List.mem_of_getElem? (i := 13) rfl
theorem xc_1_3 : ((1, 3, 2) : Nat × Nat × Nat) ∈ XC := List.mem_of_getElem? (i := 14) rfl
theorem xc_3_9 : ((3, 9, 4) : Nat × Nat × Nat) ∈ XC := List.mem_of_getElem? (i := 15) rfl
theorem xc_3_10 : ((3, 10, 5) : Nat × Nat × Nat) ∈ XC := List.mem_of_getElem? (i := 16) rfl
theorem xc_3_11 : ((3, 11, 6) : Nat × Nat × Nat) ∈ XC := List.mem_of_getElem? (i := 17) rfl
theorem xc_3_12 : ((3, 12, 7) : Nat × Nat × Nat) ∈ XC := List.mem_of_getElem? (i := 18) rfl
theorem xc_3_13 : ((3, 13, 8) : Nat × Nat × Nat) ∈ XC := List.mem_of_getElem? (i := 19) rfl
theorem xc_3_14 : ((3, 14, 9) : Nat × Nat × Nat) ∈ XC := List.mem_of_getElem? (i := 20) rfl
theorem xc_3_15 : ((3, 15, 10) : Nat × Nat × Nat) ∈ XC := List.mem_of_getElem? (i := 21) rfl
theorem xc_3_16 : ((3, 16, 11) : Nat × Nat × Nat) ∈ XC := List.mem_of_getElem? (i := 22) rfl
theorem xc_12_9 : ((12, 9, 13) : Nat × Nat × Nat) ∈ XC := List.mem_of_getElem? (i := 23) rfl
theorem xc_12_10 : ((12, 10, 14) : Nat × Nat × Nat) ∈ XC := List.mem_of_getElem? (i := 24) rfl
theorem xc_12_11 : ((12, 11, 15) : Nat × Nat × Nat) ∈ XC := List.mem_of_getElem? (i := 25) rfl
theorem xc_12_12 : ((12, 12, 16) : Nat × Nat × Nat) ∈ XC := List.mem_of_getElem? (i := 26) rfl
theorem xc_12_13 : ((12, 13, 17) : Nat × Nat × Nat) ∈ XC := List.mem_of_getElem? (i := 27) rfl
theorem xc_12_14 : ((12, 14, 18) : Nat × Nat × Nat) ∈ XC := List.mem_of_getElem? (i := 28) rfl
theorem xc_12_15 : ((12, 15, 19) : Nat × Nat × Nat) ∈ XC := List.mem_of_getElem? (i := 29) rfl
theorem xc_12_16 : ((12, 16, 20) : Nat × Nat × Nat) ∈ XC := List.mem_of_getElem? (i := 30) rfl
theorem xc_21_1 : ((21, 1, 22) : Nat × Nat × Nat) ∈ XC := List.mem_of_getElem? (i := 31) rfl
theorem xc_21_4 : ((21, 4, 23) : Nat × Nat × Nat) ∈ XC := List.mem_of_getElem? (i := 32) rfl
theorem xc_21_5 : ((21, 5, 24) : Nat × Nat × Nat) ∈ XC := List.mem_of_getElem? (i := 33) rfl
theorem xc_21_6 : ((21, 6, 25) : Nat × Nat × Nat) ∈ XC := List.mem_of_getElem? (i := 34) rfl
theorem xc_21_7 : ((21, 7, 26) : Nat × Nat × Nat) ∈ XC := List.mem_of_getElem? (i := 35) rfl
theorem xc_21_8 : ((21, 8, 27) : Nat × Nat × Nat) ∈ XC := List.mem_of_getElem? (i := 36) rfl
theorem xc_28_1 : ((28, 1, 29) : Nat × Nat × Nat) ∈ XC := List.mem_of_getElem? (i := 37) rfl
theorem xc_28_4 : ((28, 4, 30) : Nat × Nat × Nat) ∈ XC := List.mem_of_getElem? (i := 38) rfl
theorem xc_28_5 : ((28, 5, 31) : Nat × Nat × Nat) ∈ XC := List.mem_of_getElem? (i := 39) rfl
theorem xc_28_6 : ((28, 6, 32) : Nat × Nat × Nat) ∈ XC := List.mem_of_getElem? (i := 40) rfl
theorem xc_28_7 : ((28, 7, 33) : Nat × Nat × Nat) ∈ XC := List.mem_of_getElem? (i := 41) rfl
theorem xc_28_8 : ((28, 8, 34) : Nat × Nat × Nat) ∈ XC := List.mem_of_getElem? (i := 42) rfl
theorem xc_35_2 : ((35, 2, 36) : Nat × Nat × Nat) ∈ XC := List.mem_of_getElem? (i := 43) rfl
theorem xc_35_3 : ((35, 3, 37) : Nat × Nat × Nat) ∈ XC := List.mem_of_getElem? (i := 44) rfl
theorem xc_35_4 : ((35, 4, 3) : Nat × Nat × Nat) ∈ XC := List.mem_of_getElem? (i := 45) rfl
theorem xc_35_5 : ((35, 5, 21) : Nat × Nat × Nat) ∈ XC := List.mem_of_getElem? (i := 46) rfl
theorem xc_38_2 : ((38, 2, 39) : Nat × Nat × Nat) ∈ XC := List.mem_of_getElem? (i := 47) rfl
theorem xc_38_3 : ((38, 3, 40) : Nat × Nat × Nat) ∈ XC := List.mem_of_getElem? (i := 48) rfl
theorem xc_38_4 : ((38, 4, 3) : Nat × Nat × Nat) ∈ XC := List.mem_of_getElem? (i := 49) rfl
theorem xc_38_5 : ((38, 5, 21) : Nat × Nat × Nat) ∈ XC := List.mem_of_getElem? (i := 50) rfl
theorem xc_41_2 : ((41, 2, 42) : Nat × Nat × Nat) ∈ XC := List.mem_of_getElem? (i := 51) rfl
theorem xc_41_3 : ((41, 3, 43) : Nat × Nat × Nat) ∈ XC := List.mem_of_getElem? (i := 52) rfl
theorem xc_41_4 : ((41, 4, 3) : Nat × Nat × Nat) ∈ XC := List.mem_of_getElem? (i := 53) rfl
theorem xc_41_5 : ((41, 5, 28) : Nat × Nat × Nat) ∈ XC := List.mem_of_getElem? (i := 54) rfl
theorem xc_44_1 : ((44, 1, 45) : Nat × Nat × Nat) ∈ XC := List.mem_of_getElem? (i := 55) rfl
theorem xc_44_2 : ((44, 2, 46) : Nat × Nat × Nat) ∈ XC := List.mem_of_getElem? (i := 56) rfl
theorem xc_47_1 : ((47, 1, 48) : Nat × Nat × Nat) ∈ XC := List.mem_of_getElem? (i := 57) rfl
theorem xc_47_2 : ((47, 2, 49) : Nat × Nat × Nat) ∈ XC := List.mem_of_getElem? (i := 58) rfl
theorem xc_47_3 : ((47, 3, 50) : Nat × Nat × Nat) ∈ XC := List.mem_of_getElem? (i := 59) rfl
theorem xc_51_0 : ((51, 0, 52) : Nat × Nat × Nat) ∈ XC := List.mem_of_getElem? (i := 60) rfl
theorem xc_51_1 : ((51, 1, 53) : Nat × Nat × Nat) ∈ XC := List.mem_of_getElem? (i := 61) rfl
theorem xc_51_2 : ((51, 2, 54) : Nat × Nat × Nat) ∈ XC := List.mem_of_getElem? (i := 62) rfl
theorem xc_55_1 : ((55, 1, 3) : Nat × Nat × Nat) ∈ XC := List.mem_of_getElem? (i := 63) rfl
theorem xc_55_2 : ((55, 2, 21) : Nat × Nat × Nat) ∈ XC := List.mem_of_getElem? (i := 64) rfl
theorem xc_55_3 : ((55, 3, 56) : Nat × Nat × Nat) ∈ XC := List.mem_of_getElem? (i := 65) rfl
theorem xc_55_4 : ((55, 4, 57) : Nat × Nat × Nat) ∈ XC := List.mem_of_getElem? (i := 66) rfl
theorem xc_55_5 : ((55, 5, 58) : Nat × Nat × Nat) ∈ XC := List.mem_of_getElem? (i := 67) rfl
theorem xc_55_6 : ((55, 6, 51) : Nat × Nat × Nat) ∈ XC := List.mem_of_getElem? (i := 68) rfl
theorem xc_56_0 : ((56, 0, 59) : Nat × Nat × Nat) ∈ XC := List.mem_of_getElem? (i := 69) rfl
theorem xc_56_1 : ((56, 1, 62) : Nat × Nat × Nat) ∈ XC := List.mem_of_getElem? (i := 70) rfl
theorem xc_56_2 : ((56, 2, 65) : Nat × Nat × Nat) ∈ XC := List.mem_of_getElem? (i := 71) rfl
theorem xc_56_3 : ((56, 3, 68) : Nat × Nat × Nat) ∈ XC := List.mem_of_getElem? (i := 72) rfl
theorem xc_56_4 : ((56, 4, 71) : Nat × Nat × Nat) ∈ XC := List.mem_of_getElem? (i := 73) rfl
theorem xc_56_5 : ((56, 5, 74) : Nat × Nat × Nat) ∈ XC := List.mem_of_getElem? (i := 74) rfl
theorem xc_56_6 : ((56, 6, 77) : Nat × Nat × Nat) ∈ XC := List.mem_of_getElem? (i := 75) rfl
theorem xc_59_2 : ((59, 2, 60) : Nat × Nat × Nat) ∈ XC := List.mem_of_getElem? (i := 76) rfl
theorem xc_59_3 : ((59, 3, 61) : Nat × Nat × Nat) ∈ XC := List.mem_of_getElem? (i := 77) rfl
theorem xc_59_4 : ((59, 4, 3) : Nat × Nat × Nat) ∈ XC := List.mem_of_getElem? (i := 78) rfl
theorem xc_59_5 : ((59, 5, 21) : Nat × Nat × Nat) ∈ XC := List.mem_of_getElem? (i := 79) rfl
theorem xc_62_2 : ((62, 2, 63) : Nat × Nat × Nat) ∈ XC := List.mem_of_getElem? (i := 80) rfl
theorem xc_62_3 : ((62, 3, 64) : Nat × Nat × Nat) ∈ XC := List.mem_of_getElem? (i := 81) rfl
theorem xc_62_4 : ((62, 4, 3) : Nat × Nat × Nat) ∈ XC := List.mem_of_getElem? (i := 82) rfl
theorem xc_62_5 : ((62, 5, 21) : Nat × Nat × Nat) ∈ XC := List.mem_of_getElem? (i := 83) rfl
theorem xc_65_2 : ((65, 2, 66) : Nat × Nat × Nat) ∈ XC := List.mem_of_getElem? (i := 84) rfl
theorem xc_65_3 : ((65, 3, 67) : Nat × Nat × Nat) ∈ XC := List.mem_of_getElem? (i := 85) rfl
theorem xc_65_4 : ((65, 4, 3) : Nat × Nat × Nat) ∈ XC := List.mem_of_getElem? (i := 86) rfl
theorem xc_65_5 : ((65, 5, 21) : Nat × Nat × Nat) ∈ XC := List.mem_of_getElem? (i := 87) rfl
theorem xc_68_2 : ((68, 2, 69) : Nat × Nat × Nat) ∈ XC := List.mem_of_getElem? (i := 88) rfl
theorem xc_68_3 : ((68, 3, 70) : Nat × Nat × Nat) ∈ XC := List.mem_of_getElem? (i := 89) rfl
theorem xc_68_4 : ((68, 4, 3) : Nat × Nat × Nat) ∈ XC := List.mem_of_getElem? (i := 90) rfl
theorem xc_68_5 : ((68, 5, 21) : Nat × Nat × Nat) ∈ XC := List.mem_of_getElem? (i := 91) rfl
theorem xc_71_2 : ((71, 2, 72) : Nat × Nat × Nat) ∈ XC := List.mem_of_getElem? (i := 92) rfl
theorem xc_71_3 : ((71, 3, 73) : Nat × Nat × Nat) ∈ XC := List.mem_of_getElem? (i := 93) rfl
theorem xc_71_4 : ((71, 4, 3) : Nat × Nat × Nat) ∈ XC := List.mem_of_getElem? (i := 94) rfl
theorem xc_71_5 : ((71, 5, 21) : Nat × Nat × Nat) ∈ XC := List.mem_of_getElem? (i := 95) rfl
theorem xc_74_2 : ((74, 2, 75) : Nat × Nat × Nat) ∈ XC := List.mem_of_getElem? (i := 96) rfl
theorem xc_74_3 : ((74, 3, 76) : Nat × Nat × Nat) ∈ XC := List.mem_of_getElem? (i := 97) rfl
theorem xc_74_4 : ((74, 4, 3) : Nat × Nat × Nat) ∈ XC := List.mem_of_getElem? (i := 98) rfl
theorem xc_74_5 : ((74, 5, 21) : Nat × Nat × Nat) ∈ XC := List.mem_of_getElem? (i := 99) rfl
theorem xc_77_2 : ((77, 2, 78) : Nat × Nat × Nat) ∈ XC := List.mem_of_getElem? (i := 100) rfl
theorem xc_77_3 : ((77, 3, 79) : Nat × Nat × Nat) ∈ XC := List.mem_of_getElem? (i := 101) rfl
theorem xc_77_4 : ((77, 4, 3) : Nat × Nat × Nat) ∈ XC := List.mem_of_getElem? (i := 102) rfl
theorem xc_77_5 : ((77, 5, 21) : Nat × Nat × Nat) ∈ XC := List.mem_of_getElem? (i := 103) rfl
theorem xc_80_1 : ((80, 1, 47) : Nat × Nat × Nat) ∈ XC := List.mem_of_getElem? (i := 104) rfl
theorem xc_80_2 : ((80, 2, 21) : Nat × Nat × Nat) ∈ XC := List.mem_of_getElem? (i := 105) rfl
theorem xc_80_3 : ((80, 3, 81) : Nat × Nat × Nat) ∈ XC := List.mem_of_getElem? (i := 106) rfl
theorem xc_80_4 : ((80, 4, 82) : Nat × Nat × Nat) ∈ XC := List.mem_of_getElem? (i := 107) rfl
theorem xc_80_5 : ((80, 5, 83) : Nat × Nat × Nat) ∈ XC := List.mem_of_getElem? (i := 108) rfl
theorem xc_80_6 : ((80, 6, 84) : Nat × Nat × Nat) ∈ XC := List.mem_of_getElem? (i := 109) rfl
theorem xc_80_7 : ((80, 7, 51) : Nat × Nat × Nat) ∈ XC := List.mem_of_getElem? (i := 110) rfl
theorem xc_81_0 : ((81, 0, 85) : Nat × Nat × Nat) ∈ XC := List.mem_of_getElem? (i := 111) rfl
theorem xc_81_1 : ((81, 1, 88) : Nat × Nat × Nat) ∈ XC := List.mem_of_getElem? (i := 112) rfl
theorem xc_81_2 : ((81, 2, 91) : Nat × Nat × Nat) ∈ XC := List.mem_of_getElem? (i := 113) rfl
theorem xc_81_3 : ((81, 3, 94) : Nat × Nat × Nat) ∈ XC := List.mem_of_getElem? (i := 114) rfl
theorem xc_81_4 : ((81, 4, 97) : Nat × Nat × Nat) ∈ XC := List.mem_of_getElem? (i := 115) rfl
theorem xc_81_5 : ((81, 5, 100) : Nat × Nat × Nat) ∈ XC := List.mem_of_getElem? (i := 116) rfl
theorem xc_85_2 : ((85, 2, 86) : Nat × Nat × Nat) ∈ XC := List.mem_of_getElem? (i := 117) rfl
theorem xc_85_3 : ((85, 3, 87) : Nat × Nat × Nat) ∈ XC := List.mem_of_getElem? (i := 118) rfl
theorem xc_85_4 : ((85, 4, 3) : Nat × Nat × Nat) ∈ XC := List.mem_of_getElem? (i := 119) rfl
theorem xc_85_5 : ((85, 5, 21) : Nat × Nat × Nat) ∈ XC := List.mem_of_getElem? (i := 120) rfl
theorem xc_88_2 : ((88, 2, 89) : Nat × Nat × Nat) ∈ XC := List.mem_of_getElem? (i := 121) rfl
theorem xc_88_3 : ((88, 3, 90) : Nat × Nat × Nat) ∈ XC := List.mem_of_getElem? (i := 122) rfl
theorem xc_88_4 : ((88, 4, 3) : Nat × Nat × Nat) ∈ XC := List.mem_of_getElem? (i := 123) rfl
theorem xc_88_5 : ((88, 5, 21) : Nat × Nat × Nat) ∈ XC := List.mem_of_getElem? (i := 124) rfl
theorem xc_91_2 : ((91, 2, 92) : Nat × Nat × Nat) ∈ XC := List.mem_of_getElem? (i := 125) rfl
theorem xc_91_3 : ((91, 3, 93) : Nat × Nat × Nat) ∈ XC := List.mem_of_getElem? (i := 126) rfl
theorem xc_91_4 : ((91, 4, 3) : Nat × Nat × Nat) ∈ XC := List.mem_of_getElem? (i := 127) rfl
theorem xc_91_5 : ((91, 5, 21) : Nat × Nat × Nat) ∈ XC := List.mem_of_getElem? (i := 128) rfl
theorem xc_94_2 : ((94, 2, 95) : Nat × Nat × Nat) ∈ XC := List.mem_of_getElem? (i := 129) rfl
theorem xc_94_3 : ((94, 3, 96) : Nat × Nat × Nat) ∈ XC := List.mem_of_getElem? (i := 130) rfl
theorem xc_94_4 : ((94, 4, 3) : Nat × Nat × Nat) ∈ XC := List.mem_of_getElem? (i := 131) rfl
theorem xc_94_5 : ((94, 5, 21) : Nat × Nat × Nat) ∈ XC := List.mem_of_getElem? (i := 132) rfl
theorem xc_97_2 : ((97, 2, 98) : Nat × Nat × Nat) ∈ XC := List.mem_of_getElem? (i := 133) rfl
theorem xc_97_3 : ((97, 3, 99) : Nat × Nat × Nat) ∈ XC := List.mem_of_getElem? (i := 134) rfl
theorem xc_97_4 : ((97, 4, 3) : Nat × Nat × Nat) ∈ XC := List.mem_of_getElem? (i := 135) rfl
theorem xc_97_5 : ((97, 5, 21) : Nat × Nat × Nat) ∈ XC := List.mem_of_getElem? (i := 136) rfl
theorem xc_100_2 : ((100, 2, 101) : Nat × Nat × Nat) ∈ XC := List.mem_of_getElem? (i := 137) rfl
theorem xc_100_3 : ((100, 3, 102) : Nat × Nat × Nat) ∈ XC := List.mem_of_getElem? (i := 138) rfl
theorem xc_100_4 : ((100, 4, 3) : Nat × Nat × Nat) ∈ XC := List.mem_of_getElem? (i := 139) rfl
theorem xc_100_5 : ((100, 5, 21) : Nat × Nat × Nat) ∈ XC := List.mem_of_getElem? (i := 140) rfl
theorem xc_103_0 : ((103, 0, 104) : Nat × Nat × Nat) ∈ XC := List.mem_of_getElem? (i := 141) rfl
theorem xc_103_1 : ((103, 1, 109) : Nat × Nat × Nat) ∈ XC := List.mem_of_getElem? (i := 142) rfl
theorem xc_104_2 : ((104, 2, 106) : Nat × Nat × Nat) ∈ XC := List.mem_of_getElem? (i := 143) rfl
theorem xc_104_3 : ((104, 3, 105) : Nat × Nat × Nat) ∈ XC := List.mem_of_getElem? (i := 144) rfl
theorem xc_106_2 : ((106, 2, 107) : Nat × Nat × Nat) ∈ XC := List.mem_of_getElem? (i := 145) rfl
theorem xc_106_3 : ((106, 3, 108) : Nat × Nat × Nat) ∈ XC := List.mem_of_getElem? (i := 146) rfl
theorem xc_106_4 : ((106, 4, 3) : Nat × Nat × Nat) ∈ XC := List.mem_of_getElem? (i := 147) rfl
theorem xc_106_5 : ((106, 5, 21) : Nat × Nat × Nat) ∈ XC := List.mem_of_getElem? (i := 148) rfl
theorem xc_109_2 : ((109, 2, 111) : Nat × Nat × Nat) ∈ XC := List.mem_of_getElem? (i := 149) rfl
theorem xc_109_3 : ((109, 3, 110) : Nat × Nat × Nat) ∈ XC := List.mem_of_getElem? (i := 150) rfl
theorem xc_111_2 : ((111, 2, 112) : Nat × Nat × Nat) ∈ XC := List.mem_of_getElem? (i := 151) rfl
theorem xc_111_3 : ((111, 3, 113) : Nat × Nat × Nat) ∈ XC := List.mem_of_getElem? (i := 152) rfl
theorem xc_111_4 : ((111, 4, 3) : Nat × Nat × Nat) ∈ XC := List.mem_of_getElem? (i := 153) rfl
theorem xc_111_5 : ((111, 5, 21) : Nat × Nat × Nat) ∈ XC := List.mem_of_getElem? (i := 154) rfl
def KM : List (Nat × Kd) := [(114, (11, .inl fX11)), (115, (2102, .inr (0, 42, 0))), (116, (2104, .inr (0, 6, 0))), (117, (2105, .inr (0, 6, 0))), (118, (2106, .inr (0, 6, 0))), (119, (2107, .inr (0, 6, 0))), (120, (2109, .inr (0, 3, 0))), (121, (2110, .inr (0, 3, 0))), (122, (2114, .inr (0, 6, 0))), (123, (2115, .inr (0, 6, 0))), (124, (2116, .inr (0, 6, 0))), (125, (2119, .inr (0, 500, 0))), (126, (2129, .inr (0, 42, 0))), (127, (2132, .inr (0, 6, 0))), (128, (2133, .inr (0, 6, 0))), (129, (2134, .inr (0, 6, 0))), (130, (2135, .inr (0, 6, 0))), (131, (2136, .inr (0, 6, 0))), (132, (2138, .inr (0, 3, 0))), (133, (2139, .inr (0, 3, 0))), (134, (2144, .inr (0, 1764, 0))), (135, (2146, .inr (0, 6, 0))), (136, (2147, .inr (0, 6, 0))), (137, (2148, .inr (0, 6, 0))), (138, (2150, .inr (0, 30, 0))), (139, (2151, .inr (0, 30, 0))), (140, (2153, .inr (0, 10, 0))), (141, (2154, .inr (0, 10, 0))), (142, (2155, .inr (0, 10, 0))), (143, (2156, .inr (0, 140, 0))), (144, (2157, .inr (1, 2, 0)))]
def XM : List (Nat × Nat × Nat) := [(114, 2, 115), (114, 4, 116), (114, 5, 117), (114, 6, 118), (114, 7, 119), (114, 9, 120), (114, 10, 121), (114, 14, 122), (114, 15, 123), (114, 16, 124), (114, 19, 125), (114, 29, 126), (114, 32, 127), (114, 33, 128), (114, 34, 129), (114, 35, 130), (114, 36, 131), (114, 38, 132), (114, 39, 133), (114, 44, 134), (114, 46, 135), (114, 47, 136), (114, 48, 137), (114, 50, 138), (114, 51, 139), (114, 53, 140), (114, 54, 141), (114, 55, 142), (114, 56, 143), (114, 57, 144)]
theorem kc_114 : ((114, (11, .inl fX11)) : Nat × Kd) ∈ KM := List.mem_of_getElem? (i := 0) rfl
theorem kc_115 : ((115, (2102, .inr (0, 42, 0))) : Nat × Kd) ∈ KM := List.mem_of_getElem? (i := 1) rfl
theorem kc_116 : ((116, (2104, .inr (0, 6, 0))) : Nat × Kd) ∈ KM := List.mem_of_getElem? (i := 2) rfl
theorem kc_117 : ((117, (2105, .inr (0, 6, 0))) : Nat × Kd) ∈ KM := List.mem_of_getElem? (i := 3) rfl
theorem kc_118 : ((118, (2106, .inr (0, 6, 0))) : Nat × Kd) ∈ KM := List.mem_of_getElem? (i := 4) rfl
theorem kc_119 : ((119, (2107, .inr (0, 6, 0))) : Nat × Kd) ∈ KM := List.mem_of_getElem? (i := 5) rfl
theorem kc_120 : ((120, (2109, .inr (0, 3, 0))) : Nat × Kd) ∈ KM := List.mem_of_getElem? (i := 6) rfl
theorem kc_121 : ((121, (2110, .inr (0, 3, 0))) : Nat × Kd) ∈ KM := List.mem_of_getElem? (i := 7) rfl
theorem kc_122 : ((122, (2114, .inr (0, 6, 0))) : Nat × Kd) ∈ KM := List.mem_of_getElem? (i := 8) rfl
theorem kc_123 : ((123, (2115, .inr (0, 6, 0))) : Nat × Kd) ∈ KM := List.mem_of_getElem? (i := 9) rfl
theorem kc_124 : ((124, (2116, .inr (0, 6, 0))) : Nat × Kd) ∈ KM := List.mem_of_getElem? (i := 10) rfl
theorem kc_125 : ((125, (2119, .inr (0, 500, 0))) : Nat × Kd) ∈ KM := List.mem_of_getElem? (i := 11) rfl
theorem kc_126 : ((126, (2129, .inr (0, 42, 0))) : Nat × Kd) ∈ KM := List.mem_of_getElem? (i := 12) rfl
theorem kc_127 : ((127, (2132, .inr (0, 6, 0))) : Nat × Kd) ∈ KM := List.mem_of_getElem? (i := 13) rfl
theorem kc_128 : ((128, (2133, .inr (0, 6, 0))) : Nat × Kd) ∈ KM := List.mem_of_getElem? (i := 14) rfl
theorem kc_129 : ((129, (2134, .inr (0, 6, 0))) : Nat × Kd) ∈ KM := List.mem_of_getElem? (i := 15) rfl
theorem kc_130 : ((130, (2135, .inr (0, 6, 0))) : Nat × Kd) ∈ KM := List.mem_of_getElem? (i := 16) rfl
theorem kc_131 : ((131, (2136, .inr (0, 6, 0))) : Nat × Kd) ∈ KM := List.mem_of_getElem? (i := 17) rfl
theorem kc_132 : ((132, (2138, .inr (0, 3, 0))) : Nat × Kd) ∈ KM := List.mem_of_getElem? (i := 18) rfl
theorem kc_133 : ((133, (2139, .inr (0, 3, 0))) : Nat × Kd) ∈ KM := List.mem_of_getElem? (i := 19) rfl
theorem kc_134 : ((134, (2144, .inr (0, 1764, 0))) : Nat × Kd) ∈ KM := List.mem_of_getElem? (i := 20) rfl
theorem kc_135 : ((135, (2146, .inr (0, 6, 0))) : Nat × Kd) ∈ KM := List.mem_of_getElem? (i := 21) rfl
theorem kc_136 : ((136, (2147, .inr (0, 6, 0))) : Nat × Kd) ∈ KM := List.mem_of_getElem? (i := 22) rfl
theorem kc_137 : ((137, (2148, .inr (0, 6, 0))) : Nat × Kd) ∈ KM := List.mem_of_getElem? (i := 23) rfl
theorem kc_138 : ((138, (2150, .inr (0, 30, 0))) : Nat × Kd) ∈ KM := List.mem_of_getElem? (i := 24) rfl
theorem kc_139 : ((139, (2151, .inr (0, 30, 0))) : Nat × Kd) ∈ KM := List.mem_of_getElem? (i := 25) rfl
theorem kc_140 : ((140, (2153, .inr (0, 10, 0))) : Nat × Kd) ∈ KM := List.mem_of_getElem? (i := 26) rfl
theorem kc_141 : ((141, (2154, .inr (0, 10, 0))) : Nat × Kd) ∈ KM := List.mem_of_getElem? (i := 27) rfl
theorem kc_142 : ((142, (2155, .inr (0, 10, 0))) : Nat × Kd) ∈ KM := List.mem_of_getElem? (i := 28) rfl
theorem kc_143 : ((143, (2156, .inr (0, 140, 0))) : Nat × Kd) ∈ KM := List.mem_of_getElem? (i := 29) rfl
theorem kc_144 : ((144, (2157, .inr (1, 2, 0))) : Nat × Kd) ∈ KM := List.mem_of_getElem? (i := 30) rfl
theorem xc_114_2 : ((114, 2, 115) : Nat × Nat × Nat) ∈ XM := List.mem_of_getElem? (i := 0) rfl
theorem xc_114_4 : ((114, 4, 116) : Nat × Nat × Nat) ∈ XM := List.mem_of_getElem? (i := 1) rfl
theorem xc_114_5 : ((114, 5, 117) : Nat × Nat × Nat) ∈ XM := List.mem_of_getElem? (i := 2) rfl
theorem xc_114_6 : ((114, 6, 118) : Nat × Nat × Nat) ∈ XM := List.mem_of_getElem? (i := 3) rfl
theorem xc_114_7 : ((114, 7, 119) : Nat × Nat × Nat) ∈ XM := List.mem_of_getElem? (i := 4) rfl
theorem xc_114_9 : ((114, 9, 120) : Nat × Nat × Nat) ∈ XM := List.mem_of_getElem? (i := 5) rfl
theorem xc_114_10 : ((114, 10, 121) : Nat × Nat × Nat) ∈ XM := List.mem_of_getElem? (i := 6) rfl
theorem xc_114_14 : ((114, 14, 122) : Nat × Nat × Nat) ∈ XM := List.mem_of_getElem? (i := 7) rfl
theorem xc_114_15 : ((114, 15, 123) : Nat × Nat × Nat) ∈ XM := List.mem_of_getElem? (i := 8) rfl
theorem xc_114_16 : ((114, 16, 124) : Nat × Nat × Nat) ∈ XM := List.mem_of_getElem? (i := 9) rfl
theorem xc_114_19 : ((114, 19, 125) : Nat × Nat × Nat) ∈ XM := List.mem_of_getElem? (i := 10) rfl
theorem xc_114_29 : ((114, 29, 126) : Nat × Nat × Nat) ∈ XM := List.mem_of_getElem? (i := 11) rfl
theorem xc_114_32 : ((114, 32, 127) : Nat × Nat × Nat) ∈ XM := List.mem_of_getElem? (i := 12) rfl
theorem xc_114_33 : ((114, 33, 128) : Nat × Nat × Nat) ∈ XM := List.mem_of_getElem? (i := 13) rfl
theorem xc_114_34 : ((114, 34, 129) : Nat × Nat × Nat) ∈ XM := List.mem_of_getElem? (i := 14) rfl
theorem xc_114_35 : ((114, 35, 130) : Nat × Nat × Nat) ∈ XM := List.mem_of_getElem? (i := 15) rfl
theorem xc_114_36 : ((114, 36, 131) : Nat × Nat × Nat) ∈ XM := List.mem_of_getElem? (i := 16) rfl
theorem xc_114_38 : ((114, 38, 132) : Nat × Nat × Nat) ∈ XM := List.mem_of_getElem? (i := 17) rfl
theorem xc_114_39 : ((114, 39, 133) : Nat × Nat × Nat) ∈ XM := List.mem_of_getElem? (i := 18) rfl
theorem xc_114_44 : ((114, 44, 134) : Nat × Nat × Nat) ∈ XM := List.mem_of_getElem? (i := 19) rfl
theorem xc_114_46 : ((114, 46, 135) : Nat × Nat × Nat) ∈ XM := List.mem_of_getElem? (i := 20) rfl
theorem xc_114_47 : ((114, 47, 136) : Nat × Nat × Nat) ∈ XM := List.mem_of_getElem? (i := 21) rfl
theorem xc_114_48 : ((114, 48, 137) : Nat × Nat × Nat) ∈ XM := List.mem_of_getElem? (i := 22) rfl
theorem xc_114_50 : ((114, 50, 138) : Nat × Nat × Nat) ∈ XM := List.mem_of_getElem? (i := 23) rfl
theorem xc_114_51 : ((114, 51, 139) : Nat × Nat × Nat) ∈ XM := List.mem_of_getElem? (i := 24) rfl
theorem xc_114_53 : ((114, 53, 140) : Nat × Nat × Nat) ∈ XM := List.mem_of_getElem? (i := 25) rfl
theorem xc_114_54 : ((114, 54, 141) : Nat × Nat × Nat) ∈ XM := List.mem_of_getElem? (i := 26) rfl
theorem xc_114_55 : ((114, 55, 142) : Nat × Nat × Nat) ∈ XM := List.mem_of_getElem? (i := 27) rfl
theorem xc_114_56 : ((114, 56, 143) : Nat × Nat × Nat) ∈ XM := List.mem_of_getElem? (i := 28) rfl
theorem xc_114_57 : ((114, 57, 144) : Nat × Nat × Nat) ∈ XM := List.mem_of_getElem? (i := 29) rfl
def RC : List Rg := [(1, 0, 1, 0, 500), (1, 4, 5, 0, 500), (3, 0, 1, 0, 9), (3, 1, 2, 0, 9), (3, 3, 4, 0, 6), (3, 4, 5, 0, 3), (3, 6, 7, 0, 1), (12, 0, 1, 0, 9), (12, 1, 2, 0, 9), (12, 3, 4, 0, 6), (12, 4, 5, 0, 3), (12, 6, 7, 0, 1), (21, 0, 1, 0, 42), (21, 2, 3, 0, 9), (21, 3, 4, 0, 9), (27, 0, 42, 0, 41), (28, 0, 1, 0, 42), (28, 2, 3, 0, 9), (28, 3, 4, 0, 9), (34, 0, 42, 0, 41), (44, 0, 1, 0, 30), (47, 0, 1, 0, 10), (55, 0, 1, (-1), 6), (80, 9, 10, 0, 5), (80, 10, 11, 0, 5)]
theorem rt_1_0 : ((1, 0, 1, 0, 500) : Rg) ∈ RC := List.mem_of_getElem? (i := 0) rfl
theorem rt_1_4 : ((1, 4, 5, 0, 500) : Rg) ∈ RC := List.mem_of_getElem? (i := 1) rfl
theorem rt_3_0 : ((3, 0, 1, 0, 9) : Rg) ∈ RC := List.mem_of_getElem? (i := 2) rfl
theorem rt_3_1 : ((3, 1, 2, 0, 9) : Rg) ∈ RC := List.mem_of_getElem? (i := 3) rfl
theorem rt_3_3 : ((3, 3, 4, 0, 6) : Rg) ∈ RC := List.mem_of_getElem? (i := 4) rfl
theorem rt_3_4 : ((3, 4, 5, 0, 3) : Rg) ∈ RC := List.mem_of_getElem? (i := 5) rfl
theorem rt_3_6 : ((3, 6, 7, 0, 1) : Rg) ∈ RC := List.mem_of_getElem? (i := 6) rfl
theorem rt_12_0 : ((12, 0, 1, 0, 9) : Rg) ∈ RC := List.mem_of_getElem? (i := 7) rfl
theorem rt_12_1 : ((12, 1, 2, 0, 9) : Rg) ∈ RC := List.mem_of_getElem? (i := 8) rfl
theorem rt_12_3 : ((12, 3, 4, 0, 6) : Rg) ∈ RC := List.mem_of_getElem? (i := 9) rfl
theorem rt_12_4 : ((12, 4, 5, 0, 3) : Rg) ∈ RC := List.mem_of_getElem? (i := 10) rfl
theorem rt_12_6 : ((12, 6, 7, 0, 1) : Rg) ∈ RC := List.mem_of_getElem? (i := 11) rfl
theorem rt_21_0 : ((21, 0, 1, 0, 42) : Rg) ∈ RC := List.mem_of_getElem? (i := 12) rfl
theorem rt_21_2 : ((21, 2, 3, 0, 9) : Rg) ∈ RC := List.mem_of_getElem? (i := 13) rfl
theorem rt_21_3 : ((21, 3, 4, 0, 9) : Rg) ∈ RC := List.mem_of_getElem? (i := 14) rfl
theorem rt_27_0 : ((27, 0, 42, 0, 41) : Rg) ∈ RC := List.mem_of_getElem? (i := 15) rfl
theorem rt_28_0 : ((28, 0, 1, 0, 42) : Rg) ∈ RC := List.mem_of_getElem? (i := 16) rfl
theorem rt_28_2 : ((28, 2, 3, 0, 9) : Rg) ∈ RC := List.mem_of_getElem? (i := 17) rfl
theorem rt_28_3 : ((28, 3, 4, 0, 9) : Rg) ∈ RC := List.mem_of_getElem? (i := 18) rfl
theorem rt_34_0 : ((34, 0, 42, 0, 41) : Rg) ∈ RC := List.mem_of_getElem? (i := 19) rfl
theorem rt_44_0 : ((44, 0, 1, 0, 30) : Rg) ∈ RC := List.mem_of_getElem? (i := 20) rfl
theorem rt_47_0 : ((47, 0, 1, 0, 10) : Rg) ∈ RC := List.mem_of_getElem? (i := 21) rfl
theorem rt_55_0 : ((55, 0, 1, (-1), 6) : Rg) ∈ RC := List.mem_of_getElem? (i := 22) rfl
theorem rt_80_9 : ((80, 9, 10, 0, 5) : Rg) ∈ RC := List.mem_of_getElem? (i := 23) rfl
theorem rt_80_10 : ((80, 10, 11, 0, 5) : Rg) ∈ RC := List.mem_of_getElem? (i := 24) rfl
def RM : List Rg := [(114, 0, 1, 0, 9), (114, 1, 2, 0, 9), (114, 3, 4, 0, 6), (114, 8, 9, 0, 3), (114, 13, 14, 0, 41), (114, 20, 21, 0, 500), (114, 22, 23, 0, 501), (114, 24, 25, 0, 501), (114, 27, 28, 0, 9), (114, 28, 29, 0, 9), (114, 31, 32, 0, 6), (114, 37, 38, 0, 3), (114, 40, 41, (-1), 41), (114, 45, 46, 0, 41), (114, 49, 50, 0, 30), (114, 52, 53, 0, 10), (114, 18, 19, 0, 2147483647), (122, 0, 6, 0, 41), (123, 0, 6, (-1), 41), (135, 0, 6, 0, 41), (136, 0, 6, (-1), 41), (128, 0, 6, 0, 41), (139, 0, 30, (-1), 2), (140, 0, 10, 0, 5), (143, 42, 48, 0, 41), (143, 48, 54, (-1), 41), (143, 60, 61, 0, 41), (143, 62, 63, 0, 2147483647), (143, 112, 118, 0, 41), (143, 118, 124, (-1), 41), (143, 130, 131, 0, 41), (143, 132, 133, 0, 2147483647)]
theorem rt_114_0 : ((114, 0, 1, 0, 9) : Rg) ∈ RM := List.mem_of_getElem? (i := 0) rfl
theorem rt_114_1 : ((114, 1, 2, 0, 9) : Rg) ∈ RM := List.mem_of_getElem? (i := 1) rfl
theorem rt_114_3 : ((114, 3, 4, 0, 6) : Rg) ∈ RM := List.mem_of_getElem? (i := 2) rfl
theorem rt_114_8 : ((114, 8, 9, 0, 3) : Rg) ∈ RM := List.mem_of_getElem? (i := 3) rfl
theorem rt_114_13 : ((114, 13, 14, 0, 41) : Rg) ∈ RM := List.mem_of_getElem? (i := 4) rfl
theorem rt_114_20 : ((114, 20, 21, 0, 500) : Rg) ∈ RM := List.mem_of_getElem? (i := 5) rfl
theorem rt_114_22 : ((114, 22, 23, 0, 501) : Rg) ∈ RM := List.mem_of_getElem? (i := 6) rfl
theorem rt_114_24 : ((114, 24, 25, 0, 501) : Rg) ∈ RM := List.mem_of_getElem? (i := 7) rfl
theorem rt_114_27 : ((114, 27, 28, 0, 9) : Rg) ∈ RM := List.mem_of_getElem? (i := 8) rfl
theorem rt_114_28 : ((114, 28, 29, 0, 9) : Rg) ∈ RM := List.mem_of_getElem? (i := 9) rfl
theorem rt_114_31 : ((114, 31, 32, 0, 6) : Rg) ∈ RM := List.mem_of_getElem? (i := 10) rfl
theorem rt_114_37 : ((114, 37, 38, 0, 3) : Rg) ∈ RM := List.mem_of_getElem? (i := 11) rfl
theorem rt_114_40 : ((114, 40, 41, (-1), 41) : Rg) ∈ RM := List.mem_of_getElem? (i := 12) rfl
theorem rt_114_45 : ((114, 45, 46, 0, 41) : Rg) ∈ RM := List.mem_of_getElem? (i := 13) rfl
theorem rt_114_49 : ((114, 49, 50, 0, 30) : Rg) ∈ RM := List.mem_of_getElem? (i := 14) rfl
theorem rt_114_52 : ((114, 52, 53, 0, 10) : Rg) ∈ RM := List.mem_of_getElem? (i := 15) rfl
theorem rt_114_18 : ((114, 18, 19, 0, 2147483647) : Rg) ∈ RM := List.mem_of_getElem? (i := 16) rfl
theorem rt_122_0 : ((122, 0, 6, 0, 41) : Rg) ∈ RM := List.mem_of_getElem? (i := 17) rfl
theorem rt_123_0 : ((123, 0, 6, (-1), 41) : Rg) ∈ RM := List.mem_of_getElem? (i := 18) rfl
theorem rt_135_0 : ((135, 0, 6, 0, 41) : Rg) ∈ RM := List.mem_of_getElem? (i := 19) rfl
theorem rt_136_0 : ((136, 0, 6, (-1), 41) : Rg) ∈ RM := List.mem_of_getElem? (i := 20) rfl
theorem rt_128_0 : ((128, 0, 6, 0, 41) : Rg) ∈ RM := List.mem_of_getElem? (i := 21) rfl
theorem rt_139_0 : ((139, 0, 30, (-1), 2) : Rg) ∈ RM := List.mem_of_getElem? (i := 22) rfl
theorem rt_140_0 : ((140, 0, 10, 0, 5) : Rg) ∈ RM := List.mem_of_getElem? (i := 23) rfl
theorem rt_143_42 : ((143, 42, 48, 0, 41) : Rg) ∈ RM := List.mem_of_getElem? (i := 24) rfl
theorem rt_143_48 : ((143, 48, 54, (-1), 41) : Rg) ∈ RM := List.mem_of_getElem? (i := 25) rfl
theorem rt_143_60 : ((143, 60, 61, 0, 41) : Rg) ∈ RM := List.mem_of_getElem? (i := 26) rfl
theorem rt_143_62 : ((143, 62, 63, 0, 2147483647) : Rg) ∈ RM := List.mem_of_getElem? (i := 27) rfl
theorem rt_143_112 : ((143, 112, 118, 0, 41) : Rg) ∈ RM := List.mem_of_getElem? (i := 28) rfl
theorem rt_143_118 : ((143, 118, 124, (-1), 41) : Rg) ∈ RM := List.mem_of_getElem? (i := 29) rfl
theorem rt_143_130 : ((143, 130, 131, 0, 41) : Rg) ∈ RM := List.mem_of_getElem? (i := 30) rfl
theorem rt_143_132 : ((143, 132, 133, 0, 2147483647) : Rg) ∈ RM := List.mem_of_getElem? (i := 31) rfl
def Rel (w : Wv) : Prop := (wI w 114 0).toInt * (wI w 114 1).toInt ≤ 42 ∧ (wI w 114 27).toInt * (wI w 114 28).toInt ≤ 42 ∧ (0 < (wI w 114 3).toInt → 0 < (wI w 114 0).toInt) ∧ (0 < (wI w 114 31).toInt → 0 < (wI w 114 27).toInt)
theorem Rel.of {w : Wv} {v0 v1 v2 v3 v4 v5 : Int32} (h0 : wI w 114 0 = v0) (h1 : wI w 114 1 = v1) (h2 : wI w 114 27 = v2) (h3 : wI w 114 28 = v3) (h4 : wI w 114 3 = v4) (h5 : wI w 114 31 = v5) (a : v0.toInt * v1.toInt ≤ 42) (b : v2.toInt * v3.toInt ≤ 42) (c : 0 < v4.toInt → 0 < v0.toInt) (d : 0 < v5.toInt → 0 < v2.toInt) : Rel w := by
  unfold Rel
  rw [h0, h1, h2, h3, h4, h5]
  exact ⟨a, b, c, d⟩
theorem Rel.same {w w1 : Wv} (h : Rel w) (hs : ∀ k ∈ ([0, 1, 27, 28, 3, 31] : List Nat), wI w1 114 k = wI w 114 k) : Rel w1 := Rel.of (hs 0 (by decide)) (hs 1 (by decide)) (hs 27 (by decide)) (hs 28 (by decide)) (hs 3 (by decide)) (hs 31 (by decide)) h.1 h.2.1 h.2.2.1 h.2.2.2
theorem Rel.putF {w w1 : Wv} {n k : Nat} {v : Int32} (h : Rel w) (e : w1 = setI w n k v) (hk : n ≠ 114 ∨ k ∉ ([0, 1, 27, 28, 3, 31] : List Nat)) : Rel w1 := h.same fun j hj => by
  subst e
  rcases hk with hk | hk
  · exact up2_nn (fun q => hk q.symm)
  · exact up2_nk (fun q => hk (q ▸ hj))
theorem Rel.putS {w w1 : Wv} {n k : Nat} {v : Int32} (h : Rel w) (e : w1 = setI w n k v) (hk : n ≠ 114) : Rel w1 := h.putF e (Or.inl hk)
theorem Rel.putFL {w w1 : Wv} {n k : Nat} {v : Int64} (h : Rel w) (e : w1 = setL w n k v) (_ : True) : Rel w1 := h.same fun j hj => by subst e; rfl
theorem Rel.putSL {w w1 : Wv} {n k : Nat} {v : Int64} (h : Rel w) (e : w1 = setL w n k v) (_ : True) : Rel w1 := h.same fun j hj => by subst e; rfl
def OkM (w : Wv) : Prop := Inv RM w ∧ Rel w
theorem draw_ok {a v5 : Int32} {v1 v2 v3 v4 : Int64} (e1 : v1 = a.toInt64) (e2 : v2 = v1 * 1103515245) (e3 : v3 = v2 + 12345) (e4 : v4 = v3 - v3 / 2147483648 * 2147483648) (e5 : v5 = v4.toInt32) (h : 0 ≤ a.toInt) : 0 ≤ v5.toInt := by
  obtain ⟨x, hx, rfl⟩ := nI_of (x := a) (fun q => by have := i_lt q; rw [show (0 : Int32).toInt = 0 from by decide] at this; omega)
  have f1 : v1 = lN x := by rw [e1]; exact nI_l hx
  have f2 : v2 = lN (x * 1103515245) := by rw [e2, f1, ← lN_mul]; rfl
  have f3 : v3 = lN (x * 1103515245 + 12345) := by rw [e3, f2, ← lN_add]; rfl
  have hb : x * 1103515245 + 12345 < 2 ^ 63 := by omega
  have f4 : v4 = lN ((x * 1103515245 + 12345) % 2147483648) := by
    rw [e4, f3]
    exact pk_lRem hb (by decide) (by decide)
  have hm := Nat.mod_lt (x * 1103515245 + 12345) (show 0 < 2147483648 by decide)
  rw [e5, f4, lN_i, nI_toInt (by omega)]
  omega

theorem Inv.dec {T : List Rg} {w : Wv} (h : (T.all fun e => (List.range e.2.2.1).all fun j => decide (j < e.2.1) || (decide (e.2.2.2.1 ≤ (wI w e.1 j).toInt) && decide ((wI w e.1 j).toInt ≤ e.2.2.2.2))) = true) : Inv T w := by
  intro e he j h1 h2
  have h3 := List.all_eq_true.mp (List.all_eq_true.mp h e he) j (List.mem_range.mpr h2)
  simp only [Bool.or_eq_true, Bool.and_eq_true, decide_eq_true_eq] at h3
  rcases h3 with h3 | h3
  · omega
  · exact h3
theorem Inv.lo {T : List Rg} {w w1 : Wv} {N : Nat} (h : Inv T w) (hl : Lo N w w1) (hs : (T.all fun e => decide (e.1 < N)) = true) : Inv T w1 := by
  intro e he j h1 h2
  have h3 := of_decide_eq_true (List.all_eq_true.mp hs e he)
  rw [hl.2 e.1 h3 j]
  exact h e he j h1 h2
theorem OkM.ch {w w1 : Wv} {S : List Nat} {F : List (Nat × Nat)} (h : OkM w) (hc : Ch S F w w1) (hs : (RM.all fun e => S.all (fun a => a != e.1) && F.all (fun a => a.1 != e.1)) = true) (hr : 114 ∉ S ∧ (F.all fun a => a.1 != 114) = true) : OkM w1 := ⟨h.1.ch hc hs, h.2.same fun k hk => hc.A hr.1 hr.2 rfl⟩
