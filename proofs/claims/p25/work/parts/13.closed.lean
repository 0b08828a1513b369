def WC0 : Wv := addK w00 (10, .inl fX10)
def WC1 : Wv := addK WC0 (5, .inl fX5)
def WC2 : Wv := nX5 WC1 1 2
def WC3 : Wv := setX WC2 0 0 (some 1)
def WC4 : Wv := addK WC3 (9, .inl fX9)
def WC5 : Wv := nX9 WC4 3 4
def WC6 : Wv := setX WC5 0 1 (some 3)
def WC7 : Wv := addK WC6 (9, .inl fX9)
def WC8 : Wv := nX9 WC7 12 13
def WC9 : Wv := setX WC8 0 2 (some 12)
def WC10 : Wv := addK WC9 (1, .inl fX1)
def WC11 : Wv := nX1 WC10 21 22
def WC12 : Wv := setX WC11 0 3 (some 21)
def WC13 : Wv := addK WC12 (1, .inl fX1)
def WC14 : Wv := nX1 WC13 28 29
def WC15 : Wv := setX WC14 0 4 (some 28)
def WC16 : Wv := addK WC15 (6, .inl fX6)
def WC17 : Wv := nX6 WC16 35 36 3 21
def WC18 : Wv := setX WC17 0 5 (some 35)
def WC19 : Wv := addK WC18 (6, .inl fX6)
def WC20 : Wv := nX6 WC19 38 39 3 21
def WC21 : Wv := setX WC20 0 6 (some 38)
def WC22 : Wv := addK WC21 (6, .inl fX6)
def WC23 : Wv := nX6 WC22 41 42 3 28
def WC24 : Wv := setX WC23 0 7 (some 41)
def WC25 : Wv := addK WC24 (4, .inl fX4)
def WC26 : Wv := nX4 WC25 44 45
def WC27 : Wv := setX WC26 0 8 (some 44)
def WC28 : Wv := addK WC27 (7, .inl fX7)
def WC29 : Wv := nX7 WC28 47 48
def WC30 : Wv := setX WC29 0 9 (some 47)
def WC31 : Wv := addK WC30 (3, .inl fX3)
def WC32 : Wv := nX3 WC31 51 52
def WC33 : Wv := setX WC32 0 10 (some 51)
def WC34 : Wv := addK WC33 (8, .inl fX8)
def WC35 : Wv := addK WC34 (1803, .inr (3, 7, 2))
def WC36 : Wv := setX WC35 55 3 (some 56)
def WC37 : Wv := addK WC36 (1804, .inr (0, 6, 0))
def WC38 : Wv := setX WC37 55 4 (some 57)
def WC39 : Wv := addK WC38 (1805, .inr (0, 42, 0))
def WC40 : Wv := setX WC39 55 5 (some 58)
def WC41 : Wv := setX WC40 55 1 (some 3)
def WC42 : Wv := setX WC41 55 2 (some 21)
def WC43 : Wv := setX WC42 55 6 (some 51)
def WC44 : Wv := addK WC43 (6, .inl fX6)
def WC45 : Wv := nX6 WC44 59 60 3 21
def WC46 : Wv := setX WC45 56 0 (some 59)
def WC47 : Wv := addK WC46 (6, .inl fX6)
def WC48 : Wv := nX6 WC47 62 63 3 21
def WC49 : Wv := setX WC48 56 1 (some 62)
def WC50 : Wv := addK WC49 (6, .inl fX6)
def WC51 : Wv := nX6 WC50 65 66 3 21
def WC52 : Wv := setX WC51 56 2 (some 65)
def WC53 : Wv := addK WC52 (6, .inl fX6)
def WC54 : Wv := nX6 WC53 68 69 3 21
def WC55 : Wv := setX WC54 56 3 (some 68)
def WC56 : Wv := addK WC55 (6, .inl fX6)
def WC57 : Wv := nX6 WC56 71 72 3 21
def WC58 : Wv := setX WC57 56 4 (some 71)
def WC59 : Wv := addK WC58 (6, .inl fX6)
def WC60 : Wv := nX6 WC59 74 75 3 21
def WC61 : Wv := setX WC60 56 5 (some 74)
def WC62 : Wv := addK WC61 (6, .inl fX6)
def WC63 : Wv := nX6 WC62 77 78 3 21
def WC64 : Wv := setX WC63 56 6 (some 77)
def WC65 : Wv := setX WC64 0 11 (some 55)
def WC66 : Wv := addK WC65 (0, .inl fX0)
def WC67 : Wv := addK WC66 (1003, .inr (3, 6, 2))
def WC68 : Wv := setX WC67 80 3 (some 81)
def WC69 : Wv := addK WC68 (1004, .inr (0, 5, 0))
def WC70 : Wv := setX WC69 80 4 (some 82)
def WC71 : Wv := addK WC70 (1005, .inr (0, 5, 0))
def WC72 : Wv := setX WC71 80 5 (some 83)
def WC73 : Wv := addK WC72 (1006, .inr (0, 252, 0))
def WC74 : Wv := setX WC73 80 6 (some 84)
def WC75 : Wv := setX WC74 80 2 (some 21)
def WC76 : Wv := setX WC75 80 1 (some 47)
def WC77 : Wv := setX WC76 80 7 (some 51)
def WC78 : Wv := addK WC77 (6, .inl fX6)
def WC79 : Wv := nX6 WC78 85 86 3 21
def WC80 : Wv := setX WC79 81 0 (some 85)
def WC81 : Wv := addK WC80 (6, .inl fX6)
def WC82 : Wv := nX6 WC81 88 89 3 21
def WC83 : Wv := setX WC82 81 1 (some 88)
def WC84 : Wv := addK WC83 (6, .inl fX6)
def WC85 : Wv := nX6 WC84 91 92 3 21
def WC86 : Wv := setX WC85 81 2 (some 91)
def WC87 : Wv := addK WC86 (6, .inl fX6)
def WC88 : Wv := nX6 WC87 94 95 3 21
def WC89 : Wv := setX WC88 81 3 (some 94)
def WC90 : Wv := addK WC89 (6, .inl fX6)
def WC91 : Wv := nX6 WC90 97 98 3 21
def WC92 : Wv := setX WC91 81 4 (some 97)
def WC93 : Wv := addK WC92 (6, .inl fX6)
def WC94 : Wv := nX6 WC93 100 101 3 21
def WC95 : Wv := setX WC94 81 5 (some 100)
def WC96 : Wv := setX WC95 0 12 (some 80)
def WC97 : Wv := addK WC96 (2013, .inr (4, 2, 2))
def WC98 : Wv := setX WC97 0 13 (some 103)
def WC99 : Wv := addK WC98 (2, .inl fX2)
def WC100 : Wv := addK WC99 (1203, .inr (0, 42, 0))
def WC101 : Wv := setX WC100 104 3 (some 105)
def WC102 : Wv := addK WC101 (6, .inl fX6)
def WC103 : Wv := nX6 WC102 106 107 3 21
def WC104 : Wv := setX WC103 104 2 (some 106)
def WC105 : Wv := setX WC104 103 0 (some 104)
def WC106 : Wv := addK WC105 (2, .inl fX2)
def WC107 : Wv := addK WC106 (1203, .inr (0, 42, 0))
def WC108 : Wv := setX WC107 109 3 (some 110)
def WC109 : Wv := addK WC108 (6, .inl fX6)
def WC110 : Wv := nX6 WC109 111 112 3 21
def WC111 : Wv := setX WC110 109 2 (some 111)
def WC112 : Wv := setX WC111 103 1 (some 109)
theorem strC_e : Str KC XC WC112 := ⟨by decide +kernel, by decide +kernel⟩
theorem invC_e : Inv RC WC112 := Inv.dec (by decide +kernel)
set_option maxHeartbeats 4000000 in
set_option maxRecDepth 100000 in
theorem cnX8_55 (l : Launch) (G : Gt) : CtV l G yX8_init cX8_init 5 ({ frames := 2, cells := 24, slots := 181, locals := 42 } : Room) [.ref (gz G + 55), .ref (gz G + 3), .ref (gz G + 21), .ref (gz G + 51)] WC34 (fun w' => w' = WC64) := by
  refine enterV (by decide) (Nat.le_of_ble_eq_true rfl) ?_
  intro x el eG C hnm hret
  subst el; subst eG
  show V x 0 0 WC34 0 [(0, .ref (gz (xG x) + 55)), (1, .ref (gz (xG x) + 3)), (2, .ref (gz (xG x) + 21)), (3, .ref (gz (xG x) + 51))] []
  refine r_aload_n 0 C dX8_init_0 rfl ?_
  refine r_objInit C mw2_39 mw1_24 mw1_25 (by decide) (Nat.le_of_ble_eq_true rfl) dX8_init_1 ?_
  refine r_aload_n 0 C dX8_init_4 rfl ?_
  refine r_bipush (v := 7) C dX8_init_5 (by decide) ?_
  refine r_newQ (len := 7) 3 1803 C rfl C.tk.2.1 mw2_40 (by decide) (by decide) (by decide) (by decide) (by decide) dX8_init_7 (fun w' e => ?_)
  rw [show (wK WC34).length = 56 by decide +kernel]
  subst e; show V x 1 7 WC35 10 [(0, .ref (gz (xG x) + 55)), (1, .ref (gz (xG x) + 3)), (2, .ref (gz (xG x) + 21)), (3, .ref (gz (xG x) + 51))] [.ref (gz (xG x) + 56), .ref (gz (xG x) + 55)]
  refine pfX8_11 C hnm (by decide +kernel) dX8_init_10 (fun w' e => ?_)
  subst e; show V x 1 7 WC36 13 [(0, .ref (gz (xG x) + 55)), (1, .ref (gz (xG x) + 3)), (2, .ref (gz (xG x) + 21)), (3, .ref (gz (xG x) + 51))] []
  refine r_aload_n 0 C dX8_init_13 rfl ?_
  refine r_bipush (v := 6) C dX8_init_14 (by decide) ?_
  refine r_newI (len := 6) 1804 C ac_int (by decide) (by decide) (by decide) (by decide) (by decide) dX8_init_16 (fun w' e => ?_)
  rw [show (wK WC36).length = 57 by decide +kernel]
  subst e; show V x 2 13 WC37 18 [(0, .ref (gz (xG x) + 55)), (1, .ref (gz (xG x) + 3)), (2, .ref (gz (xG x) + 21)), (3, .ref (gz (xG x) + 51))] [.ref (gz (xG x) + 57), .ref (gz (xG x) + 55)]
  refine pfX8_17 C hnm (by decide +kernel) dX8_init_18 (fun w' e => ?_)
  subst e; show V x 2 13 WC38 21 [(0, .ref (gz (xG x) + 55)), (1, .ref (gz (xG x) + 3)), (2, .ref (gz (xG x) + 21)), (3, .ref (gz (xG x) + 51))] []
  refine r_aload_n 0 C dX8_init_21 rfl ?_
  refine r_bipush (v := 42) C dX8_init_22 (by decide) ?_
  refine r_newI (len := 42) 1805 C ac_int (by decide) (by decide) (by decide) (by decide) (by decide) dX8_init_24 (fun w' e => ?_)
  rw [show (wK WC38).length = 58 by decide +kernel]
  subst e; show V x 3 55 WC39 26 [(0, .ref (gz (xG x) + 55)), (1, .ref (gz (xG x) + 3)), (2, .ref (gz (xG x) + 21)), (3, .ref (gz (xG x) + 51))] [.ref (gz (xG x) + 58), .ref (gz (xG x) + 55)]
  refine pfX8_21 C hnm (by decide +kernel) dX8_init_26 (fun w' e => ?_)
  subst e; show V x 3 55 WC40 29 [(0, .ref (gz (xG x) + 55)), (1, .ref (gz (xG x) + 3)), (2, .ref (gz (xG x) + 21)), (3, .ref (gz (xG x) + 51))] []
  refine r_aload_n 0 C dX8_init_29 rfl ?_
  refine r_aload_n 1 C dX8_init_30 rfl ?_
  refine pfX8_24 C hnm (by decide +kernel) dX8_init_31 (fun w' e => ?_)
  subst e; show V x 3 55 WC41 34 [(0, .ref (gz (xG x) + 55)), (1, .ref (gz (xG x) + 3)), (2, .ref (gz (xG x) + 21)), (3, .ref (gz (xG x) + 51))] []
  refine r_aload_n 0 C dX8_init_34 rfl ?_
  refine r_aload_n 2 C dX8_init_35 rfl ?_
  refine pfX8_28 C hnm (by decide +kernel) dX8_init_36 (fun w' e => ?_)
  subst e; show V x 3 55 WC42 39 [(0, .ref (gz (xG x) + 55)), (1, .ref (gz (xG x) + 3)), (2, .ref (gz (xG x) + 21)), (3, .ref (gz (xG x) + 51))] []
  refine r_aload_n 0 C dX8_init_39 rfl ?_
  refine r_aload_n 3 C dX8_init_40 rfl ?_
  refine pfX8_32 C hnm (by decide +kernel) dX8_init_41 (fun w' e => ?_)
  subst e; show V x 3 55 WC43 44 [(0, .ref (gz (xG x) + 55)), (1, .ref (gz (xG x) + 3)), (2, .ref (gz (xG x) + 21)), (3, .ref (gz (xG x) + 51))] []
  refine r_iconst (v := 0) C dX8_init_44 (by decide) ?_
  refine r_istore [(4, .int 0), (0, .ref (gz (xG x) + 55)), (1, .ref (gz (xG x) + 3)), (2, .ref (gz (xG x) + 21)), (3, .ref (gz (xG x) + 51))] C dX8_init_45 (by decide) rfl ?_
  refine r_iload 0 C dX8_init_47 rfl ?_
  refine r_bipush (v := 6) C dX8_init_49 (by decide) ?_
  refine r_icmp_gt 76 C dX8_init_51 (by decide) (fun c => absurd c (by decide)) (fun _ => ?_)
  refine r_aload_n 1 C dX8_init_54 rfl ?_
  refine gfX8_11 56 C (by decide +kernel) (by decide +kernel) dX8_init_55 ?_
  refine r_iload 0 C dX8_init_58 rfl ?_
  refine r_new (ci := 6) C rfl inX6 tyX6 tyX6_ok mw2_40 mw1_189 mw1_5 fX6 dfX6 (by decide) (by decide) dX8_init_60 (fun w' e => ?_)
  rw [show (wK WC43).length = 59 by decide +kernel]
  subst e; show V x 4 61 WC44 63 [(4, .int 0), (0, .ref (gz (xG x) + 55)), (1, .ref (gz (xG x) + 3)), (2, .ref (gz (xG x) + 21)), (3, .ref (gz (xG x) + 51))] [.ref (gz (xG x) + 59), .int 0, .ref (gz (xG x) + 56)]
  refine r_dup C dX8_init_63 rfl ?_
  refine r_aload_n 2 C dX8_init_64 rfl ?_
  refine r_aload_n 3 C dX8_init_65 rfl ?_
  refine callIV C cwX8_36_I (cnX6 _ _ WC44 59 60 3 21 (by decide +kernel) (by decide +kernel)) (by decide) rfl rfl (Nat.le_of_ble_eq_true rfl) (by decide) dX8_init_66 (fun w' e => ?_)
  subst e; show V x 6 73 WC45 69 [(4, .int 0), (0, .ref (gz (xG x) + 55)), (1, .ref (gz (xG x) + 3)), (2, .ref (gz (xG x) + 21)), (3, .ref (gz (xG x) + 51))] [.ref (gz (xG x) + 59), .int 0, .ref (gz (xG x) + 56)]
  refine r_aast (tag := 1803) (len := 7) (ci := 6) (fts := fX6) 3 C rfl (by decide +kernel) (by decide +kernel) rfl (vp_in_iff.mpr (by decide)) dX8_init_69 (fun w' e => ?_)
  subst e; show V x 6 73 WC46 70 [(4, .int 0), (0, .ref (gz (xG x) + 55)), (1, .ref (gz (xG x) + 3)), (2, .ref (gz (xG x) + 21)), (3, .ref (gz (xG x) + 51))] []
  refine r_iinc (v := 1) [(4, .int 1), (0, .ref (gz (xG x) + 55)), (1, .ref (gz (xG x) + 3)), (2, .ref (gz (xG x) + 21)), (3, .ref (gz (xG x) + 51))] 0 C dX8_init_70 rfl (by decide) (by decide) rfl ?_
  refine r_goto 47 C dX8_init_73 (by decide) ?_
  refine r_iload 0 C dX8_init_47 rfl ?_
  refine r_bipush (v := 6) C dX8_init_49 (by decide) ?_
  refine r_icmp_gt 76 C dX8_init_51 (by decide) (fun c => absurd c (by decide)) (fun _ => ?_)
  refine r_aload_n 1 C dX8_init_54 rfl ?_
  refine gfX8_11 56 C (by decide +kernel) (by decide +kernel) dX8_init_55 ?_
  refine r_iload 0 C dX8_init_58 rfl ?_
  refine r_new (ci := 6) C rfl inX6 tyX6 tyX6_ok mw2_40 mw1_189 mw1_5 fX6 dfX6 (by decide) (by decide) dX8_init_60 (fun w' e => ?_)
  rw [show (wK WC46).length = 62 by decide +kernel]
  subst e; show V x 7 79 WC47 63 [(4, .int 1), (0, .ref (gz (xG x) + 55)), (1, .ref (gz (xG x) + 3)), (2, .ref (gz (xG x) + 21)), (3, .ref (gz (xG x) + 51))] [.ref (gz (xG x) + 62), .int 1, .ref (gz (xG x) + 56)]
  refine r_dup C dX8_init_63 rfl ?_
  refine r_aload_n 2 C dX8_init_64 rfl ?_
  refine r_aload_n 3 C dX8_init_65 rfl ?_
  refine callIV C cwX8_36_I (cnX6 _ _ WC47 62 63 3 21 (by decide +kernel) (by decide +kernel)) (by decide) rfl rfl (Nat.le_of_ble_eq_true rfl) (by decide) dX8_init_66 (fun w' e => ?_)
  subst e; show V x 9 91 WC48 69 [(4, .int 1), (0, .ref (gz (xG x) + 55)), (1, .ref (gz (xG x) + 3)), (2, .ref (gz (xG x) + 21)), (3, .ref (gz (xG x) + 51))] [.ref (gz (xG x) + 62), .int 1, .ref (gz (xG x) + 56)]
  refine r_aast (tag := 1803) (len := 7) (ci := 6) (fts := fX6) 3 C rfl (by decide +kernel) (by decide +kernel) rfl (vp_in_iff.mpr (by decide)) dX8_init_69 (fun w' e => ?_)
  subst e; show V x 9 91 WC49 70 [(4, .int 1), (0, .ref (gz (xG x) + 55)), (1, .ref (gz (xG x) + 3)), (2, .ref (gz (xG x) + 21)), (3, .ref (gz (xG x) + 51))] []
  refine r_iinc (v := 2) [(4, .int 2), (0, .ref (gz (xG x) + 55)), (1, .ref (gz (xG x) + 3)), (2, .ref (gz (xG x) + 21)), (3, .ref (gz (xG x) + 51))] 0 C dX8_init_70 rfl (by decide) (by decide) rfl ?_
  refine r_goto 47 C dX8_init_73 (by decide) ?_
  refine r_iload 0 C dX8_init_47 rfl ?_
  refine r_bipush (v := 6) C dX8_init_49 (by decide) ?_
  refine r_icmp_gt 76 C dX8_init_51 (by decide) (fun c => absurd c (by decide)) (fun _ => ?_)
  refine r_aload_n 1 C dX8_init_54 rfl ?_
  refine gfX8_11 56 C (by decide +kernel) (by decide +kernel) dX8_init_55 ?_
  refine r_iload 0 C dX8_init_58 rfl ?_
  refine r_new (ci := 6) C rfl inX6 tyX6 tyX6_ok mw2_40 mw1_189 mw1_5 fX6 dfX6 (by decide) (by decide) dX8_init_60 (fun w' e => ?_)
  rw [show (wK WC49).length = 65 by decide +kernel]
  subst e; show V x 10 97 WC50 63 [(4, .int 2), (0, .ref (gz (xG x) + 55)), (1, .ref (gz (xG x) + 3)), (2, .ref (gz (xG x) + 21)), (3, .ref (gz (xG x) + 51))] [.ref (gz (xG x) + 65), .int 2, .ref (gz (xG x) + 56)]
  refine r_dup C dX8_init_63 rfl ?_
  refine r_aload_n 2 C dX8_init_64 rfl ?_
  refine r_aload_n 3 C dX8_init_65 rfl ?_
  refine callIV C cwX8_36_I (cnX6 _ _ WC50 65 66 3 21 (by decide +kernel) (by decide +kernel)) (by decide) rfl rfl (Nat.le_of_ble_eq_true rfl) (by decide) dX8_init_66 (fun w' e => ?_)
  subst e; show V x 12 109 WC51 69 [(4, .int 2), (0, .ref (gz (xG x) + 55)), (1, .ref (gz (xG x) + 3)), (2, .ref (gz (xG x) + 21)), (3, .ref (gz (xG x) + 51))] [.ref (gz (xG x) + 65), .int 2, .ref (gz (xG x) + 56)]
  refine r_aast (tag := 1803) (len := 7) (ci := 6) (fts := fX6) 3 C rfl (by decide +kernel) (by decide +kernel) rfl (vp_in_iff.mpr (by decide)) dX8_init_69 (fun w' e => ?_)
  subst e; show V x 12 109 WC52 70 [(4, .int 2), (0, .ref (gz (xG x) + 55)), (1, .ref (gz (xG x) + 3)), (2, .ref (gz (xG x) + 21)), (3, .ref (gz (xG x) + 51))] []
  refine r_iinc (v := 3) [(4, .int 3), (0, .ref (gz (xG x) + 55)), (1, .ref (gz (xG x) + 3)), (2, .ref (gz (xG x) + 21)), (3, .ref (gz (xG x) + 51))] 0 C dX8_init_70 rfl (by decide) (by decide) rfl ?_
  refine r_goto 47 C dX8_init_73 (by decide) ?_
  refine r_iload 0 C dX8_init_47 rfl ?_
  refine r_bipush (v := 6) C dX8_init_49 (by decide) ?_
  refine r_icmp_gt 76 C dX8_init_51 (by decide) (fun c => absurd c (by decide)) (fun _ => ?_)
  refine r_aload_n 1 C dX8_init_54 rfl ?_
  refine gfX8_11 56 C (by decide +kernel) (by decide +kernel) dX8_init_55 ?_
  refine r_iload 0 C dX8_init_58 rfl ?_
  refine r_new (ci := 6) C rfl inX6 tyX6 tyX6_ok mw2_40 mw1_189 mw1_5 fX6 dfX6 (by decide) (by decide) dX8_init_60 (fun w' e => ?_)
  rw [show (wK WC52).length = 68 by decide +kernel]
  subst e; show V x 13 115 WC53 63 [(4, .int 3), (0, .ref (gz (xG x) + 55)), (1, .ref (gz (xG x) + 3)), (2, .ref (gz (xG x) + 21)), (3, .ref (gz (xG x) + 51))] [.ref (gz (xG x) + 68), .int 3, .ref (gz (xG x) + 56)]
  refine r_dup C dX8_init_63 rfl ?_
  refine r_aload_n 2 C dX8_init_64 rfl ?_
  refine r_aload_n 3 C dX8_init_65 rfl ?_
  refine callIV C cwX8_36_I (cnX6 _ _ WC53 68 69 3 21 (by decide +kernel) (by decide +kernel)) (by decide) rfl rfl (Nat.le_of_ble_eq_true rfl) (by decide) dX8_init_66 (fun w' e => ?_)
  subst e; show V x 15 127 WC54 69 [(4, .int 3), (0, .ref (gz (xG x) + 55)), (1, .ref (gz (xG x) + 3)), (2, .ref (gz (xG x) + 21)), (3, .ref (gz (xG x) + 51))] [.ref (gz (xG x) + 68), .int 3, .ref (gz (xG x) + 56)]
  refine r_aast (tag := 1803) (len := 7) (ci := 6) (fts := fX6) 3 C rfl (by decide +kernel) (by decide +kernel) rfl (vp_in_iff.mpr (by decide)) dX8_init_69 (fun w' e => ?_)
  subst e; show V x 15 127 WC55 70 [(4, .int 3), (0, .ref (gz (xG x) + 55)), (1, .ref (gz (xG x) + 3)), (2, .ref (gz (xG x) + 21)), (3, .ref (gz (xG x) + 51))] []
  refine r_iinc (v := 4) [(4, .int 4), (0, .ref (gz (xG x) + 55)), (1, .ref (gz (xG x) + 3)), (2, .ref (gz (xG x) + 21)), (3, .ref (gz (xG x) + 51))] 0 C dX8_init_70 rfl (by decide) (by decide) rfl ?_
  refine r_goto 47 C dX8_init_73 (by decide) ?_
  refine r_iload 0 C dX8_init_47 rfl ?_
  refine r_bipush (v := 6) C dX8_init_49 (by decide) ?_
  refine r_icmp_gt 76 C dX8_init_51 (by decide) (fun c => absurd c (by decide)) (fun _ => ?_)
  refine r_aload_n 1 C dX8_init_54 rfl ?_
  refine gfX8_11 56 C (by decide +kernel) (by decide +kernel) dX8_init_55 ?_
  refine r_iload 0 C dX8_init_58 rfl ?_
  refine r_new (ci := 6) C rfl inX6 tyX6 tyX6_ok mw2_40 mw1_189 mw1_5 fX6 dfX6 (by decide) (by decide) dX8_init_60 (fun w' e => ?_)
  rw [show (wK WC55).length = 71 by decide +kernel]
  subst e; show V x 16 133 WC56 63 [(4, .int 4), (0, .ref (gz (xG x) + 55)), (1, .ref (gz (xG x) + 3)), (2, .ref (gz (xG x) + 21)), (3, .ref (gz (xG x) + 51))] [.ref (gz (xG x) + 71), .int 4, .ref (gz (xG x) + 56)]
  refine r_dup C dX8_init_63 rfl ?_
  refine r_aload_n 2 C dX8_init_64 rfl ?_
  refine r_aload_n 3 C dX8_init_65 rfl ?_
  refine callIV C cwX8_36_I (cnX6 _ _ WC56 71 72 3 21 (by decide +kernel) (by decide +kernel)) (by decide) rfl rfl (Nat.le_of_ble_eq_true rfl) (by decide) dX8_init_66 (fun w' e => ?_)
  subst e; show V x 18 145 WC57 69 [(4, .int 4), (0, .ref (gz (xG x) + 55)), (1, .ref (gz (xG x) + 3)), (2, .ref (gz (xG x) + 21)), (3, .ref (gz (xG x) + 51))] [.ref (gz (xG x) + 71), .int 4, .ref (gz (xG x) + 56)]
  refine r_aast (tag := 1803) (len := 7) (ci := 6) (fts := fX6) 3 C rfl (by decide +kernel) (by decide +kernel) rfl (vp_in_iff.mpr (by decide)) dX8_init_69 (fun w' e => ?_)
  subst e; show V x 18 145 WC58 70 [(4, .int 4), (0, .ref (gz (xG x) + 55)), (1, .ref (gz (xG x) + 3)), (2, .ref (gz (xG x) + 21)), (3, .ref (gz (xG x) + 51))] []
  refine r_iinc (v := 5) [(4, .int 5), (0, .ref (gz (xG x) + 55)), (1, .ref (gz (xG x) + 3)), (2, .ref (gz (xG x) + 21)), (3, .ref (gz (xG x) + 51))] 0 C dX8_init_70 rfl (by decide) (by decide) rfl ?_
  refine r_goto 47 C dX8_init_73 (by decide) ?_
  refine r_iload 0 C dX8_init_47 rfl ?_
  refine r_bipush (v := 6) C dX8_init_49 (by decide) ?_
  refine r_icmp_gt 76 C dX8_init_51 (by decide) (fun c => absurd c (by decide)) (fun _ => ?_)
  refine r_aload_n 1 C dX8_init_54 rfl ?_
  refine gfX8_11 56 C (by decide +kernel) (by decide +kernel) dX8_init_55 ?_
  refine r_iload 0 C dX8_init_58 rfl ?_
  refine r_new (ci := 6) C rfl inX6 tyX6 tyX6_ok mw2_40 mw1_189 mw1_5 fX6 dfX6 (by decide) (by decide) dX8_init_60 (fun w' e => ?_)
  rw [show (wK WC58).length = 74 by decide +kernel]
  subst e; show V x 19 151 WC59 63 [(4, .int 5), (0, .ref (gz (xG x) + 55)), (1, .ref (gz (xG x) + 3)), (2, .ref (gz (xG x) + 21)), (3, .ref (gz (xG x) + 51))] [.ref (gz (xG x) + 74), .int 5, .ref (gz (xG x) + 56)]
  refine r_dup C dX8_init_63 rfl ?_
  refine r_aload_n 2 C dX8_init_64 rfl ?_
  refine r_aload_n 3 C dX8_init_65 rfl ?_
  refine callIV C cwX8_36_I (cnX6 _ _ WC59 74 75 3 21 (by decide +kernel) (by decide +kernel)) (by decide) rfl rfl (Nat.le_of_ble_eq_true rfl) (by decide) dX8_init_66 (fun w' e => ?_)
  subst e; show V x 21 163 WC60 69 [(4, .int 5), (0, .ref (gz (xG x) + 55)), (1, .ref (gz (xG x) + 3)), (2, .ref (gz (xG x) + 21)), (3, .ref (gz (xG x) + 51))] [.ref (gz (xG x) + 74), .int 5, .ref (gz (xG x) + 56)]
  refine r_aast (tag := 1803) (len := 7) (ci := 6) (fts := fX6) 3 C rfl (by decide +kernel) (by decide +kernel) rfl (vp_in_iff.mpr (by decide)) dX8_init_69 (fun w' e => ?_)
  subst e; show V x 21 163 WC61 70 [(4, .int 5), (0, .ref (gz (xG x) + 55)), (1, .ref (gz (xG x) + 3)), (2, .ref (gz (xG x) + 21)), (3, .ref (gz (xG x) + 51))] []
  refine r_iinc (v := 6) [(4, .int 6), (0, .ref (gz (xG x) + 55)), (1, .ref (gz (xG x) + 3)), (2, .ref (gz (xG x) + 21)), (3, .ref (gz (xG x) + 51))] 0 C dX8_init_70 rfl (by decide) (by decide) rfl ?_
  refine r_goto 47 C dX8_init_73 (by decide) ?_
  refine r_iload 0 C dX8_init_47 rfl ?_
  refine r_bipush (v := 6) C dX8_init_49 (by decide) ?_
  refine r_icmp_gt 76 C dX8_init_51 (by decide) (fun c => absurd c (by decide)) (fun _ => ?_)
  refine r_aload_n 1 C dX8_init_54 rfl ?_
  refine gfX8_11 56 C (by decide +kernel) (by decide +kernel) dX8_init_55 ?_
  refine r_iload 0 C dX8_init_58 rfl ?_
  refine r_new (ci := 6) C rfl inX6 tyX6 tyX6_ok mw2_40 mw1_189 mw1_5 fX6 dfX6 (by decide) (by decide) dX8_init_60 (fun w' e => ?_)
  rw [show (wK WC61).length = 77 by decide +kernel]
  subst e; show V x 22 169 WC62 63 [(4, .int 6), (0, .ref (gz (xG x) + 55)), (1, .ref (gz (xG x) + 3)), (2, .ref (gz (xG x) + 21)), (3, .ref (gz (xG x) + 51))] [.ref (gz (xG x) + 77), .int 6, .ref (gz (xG x) + 56)]
  refine r_dup C dX8_init_63 rfl ?_
  refine r_aload_n 2 C dX8_init_64 rfl ?_
  refine r_aload_n 3 C dX8_init_65 rfl ?_
  refine callIV C cwX8_36_I (cnX6 _ _ WC62 77 78 3 21 (by decide +kernel) (by decide +kernel)) (by decide) rfl rfl (Nat.le_of_ble_eq_true rfl) (by decide) dX8_init_66 (fun w' e => ?_)
  subst e; show V x 24 181 WC63 69 [(4, .int 6), (0, .ref (gz (xG x) + 55)), (1, .ref (gz (xG x) + 3)), (2, .ref (gz (xG x) + 21)), (3, .ref (gz (xG x) + 51))] [.ref (gz (xG x) + 77), .int 6, .ref (gz (xG x) + 56)]
  refine r_aast (tag := 1803) (len := 7) (ci := 6) (fts := fX6) 3 C rfl (by decide +kernel) (by decide +kernel) rfl (vp_in_iff.mpr (by decide)) dX8_init_69 (fun w' e => ?_)
  subst e; show V x 24 181 WC64 70 [(4, .int 6), (0, .ref (gz (xG x) + 55)), (1, .ref (gz (xG x) + 3)), (2, .ref (gz (xG x) + 21)), (3, .ref (gz (xG x) + 51))] []
  refine r_iinc (v := 7) [(4, .int 7), (0, .ref (gz (xG x) + 55)), (1, .ref (gz (xG x) + 3)), (2, .ref (gz (xG x) + 21)), (3, .ref (gz (xG x) + 51))] 0 C dX8_init_70 rfl (by decide) (by decide) rfl ?_
  refine r_goto 47 C dX8_init_73 (by decide) ?_
  refine r_iload 0 C dX8_init_47 rfl ?_
  refine r_bipush (v := 6) C dX8_init_49 (by decide) ?_
  refine r_icmp_gt 76 C dX8_init_51 (by decide) (fun _ => ?_) (fun c => absurd (by decide) c)
  exact hret _ _ _ dX8_init_76 rfl
set_option maxHeartbeats 4000000 in
set_option maxRecDepth 100000 in
theorem cnX0_80 (l : Launch) (G : Gt) : CtV l G yX0_init cX0_init 6 ({ frames := 2, cells := 22, slots := 376, locals := 42 } : Room) [.ref (gz G + 80), .ref (gz G + 3), .ref (gz G + 21), .ref (gz G + 47), .ref (gz G + 51)] WC66 (fun w' => w' = WC95) := by
  refine enterV (by decide) (Nat.le_of_ble_eq_true rfl) ?_
  intro x el eG C hnm hret
  subst el; subst eG
  show V x 0 0 WC66 0 [(0, .ref (gz (xG x) + 80)), (1, .ref (gz (xG x) + 3)), (2, .ref (gz (xG x) + 21)), (3, .ref (gz (xG x) + 47)), (4, .ref (gz (xG x) + 51))] []
  refine r_aload_n 0 C dX0_init_0 rfl ?_
  refine r_objInit C mw2_80 mw1_24 mw1_25 (by decide) (Nat.le_of_ble_eq_true rfl) dX0_init_1 ?_
  refine r_aload_n 0 C dX0_init_4 rfl ?_
  refine r_bipush (v := 6) C dX0_init_5 (by decide) ?_
  refine r_newQ (len := 6) 3 1003 C rfl C.tk.2.1 mw2_81 (by decide) (by decide) (by decide) (by decide) (by decide) dX0_init_7 (fun w' e => ?_)
  rw [show (wK WC66).length = 81 by decide +kernel]
  subst e; show V x 1 6 WC67 10 [(0, .ref (gz (xG x) + 80)), (1, .ref (gz (xG x) + 3)), (2, .ref (gz (xG x) + 21)), (3, .ref (gz (xG x) + 47)), (4, .ref (gz (xG x) + 51))] [.ref (gz (xG x) + 81), .ref (gz (xG x) + 80)]
  refine pfX0_11 C hnm (by decide +kernel) dX0_init_10 (fun w' e => ?_)
  subst e; show V x 1 6 WC68 13 [(0, .ref (gz (xG x) + 80)), (1, .ref (gz (xG x) + 3)), (2, .ref (gz (xG x) + 21)), (3, .ref (gz (xG x) + 47)), (4, .ref (gz (xG x) + 51))] []
  refine r_aload_n 0 C dX0_init_13 rfl ?_
  refine r_iconst (v := 5) C dX0_init_14 (by decide) ?_
  refine r_newI (len := 5) 1004 C ac_int (by decide) (by decide) (by decide) (by decide) (by decide) dX0_init_15 (fun w' e => ?_)
  rw [show (wK WC68).length = 82 by decide +kernel]
  subst e; show V x 2 11 WC69 17 [(0, .ref (gz (xG x) + 80)), (1, .ref (gz (xG x) + 3)), (2, .ref (gz (xG x) + 21)), (3, .ref (gz (xG x) + 47)), (4, .ref (gz (xG x) + 51))] [.ref (gz (xG x) + 82), .ref (gz (xG x) + 80)]
  refine pfX0_17 C hnm (by decide +kernel) dX0_init_17 (fun w' e => ?_)
  subst e; show V x 2 11 WC70 20 [(0, .ref (gz (xG x) + 80)), (1, .ref (gz (xG x) + 3)), (2, .ref (gz (xG x) + 21)), (3, .ref (gz (xG x) + 47)), (4, .ref (gz (xG x) + 51))] []
  refine r_aload_n 0 C dX0_init_20 rfl ?_
  refine r_iconst (v := 5) C dX0_init_21 (by decide) ?_
  refine r_newI (len := 5) 1005 C ac_int (by decide) (by decide) (by decide) (by decide) (by decide) dX0_init_22 (fun w' e => ?_)
  rw [show (wK WC70).length = 83 by decide +kernel]
  subst e; show V x 3 16 WC71 24 [(0, .ref (gz (xG x) + 80)), (1, .ref (gz (xG x) + 3)), (2, .ref (gz (xG x) + 21)), (3, .ref (gz (xG x) + 47)), (4, .ref (gz (xG x) + 51))] [.ref (gz (xG x) + 83), .ref (gz (xG x) + 80)]
  refine pfX0_21 C hnm (by decide +kernel) dX0_init_24 (fun w' e => ?_)
  subst e; show V x 3 16 WC72 27 [(0, .ref (gz (xG x) + 80)), (1, .ref (gz (xG x) + 3)), (2, .ref (gz (xG x) + 21)), (3, .ref (gz (xG x) + 47)), (4, .ref (gz (xG x) + 51))] []
  refine r_aload_n 0 C dX0_init_27 rfl ?_
  refine r_sipush (v := 252) C dX0_init_28 (by decide) ?_
  refine r_newI (len := 252) 1006 C ac_int (by decide) (by decide) (by decide) (by decide) (by decide) dX0_init_31 (fun w' e => ?_)
  rw [show (wK WC72).length = 84 by decide +kernel]
  subst e; show V x 4 268 WC73 33 [(0, .ref (gz (xG x) + 80)), (1, .ref (gz (xG x) + 3)), (2, .ref (gz (xG x) + 21)), (3, .ref (gz (xG x) + 47)), (4, .ref (gz (xG x) + 51))] [.ref (gz (xG x) + 84), .ref (gz (xG x) + 80)]
  refine pfX0_24 C hnm (by decide +kernel) dX0_init_33 (fun w' e => ?_)
  subst e; show V x 4 268 WC74 36 [(0, .ref (gz (xG x) + 80)), (1, .ref (gz (xG x) + 3)), (2, .ref (gz (xG x) + 21)), (3, .ref (gz (xG x) + 47)), (4, .ref (gz (xG x) + 51))] []
  refine r_aload_n 0 C dX0_init_36 rfl ?_
  refine r_aload_n 2 C dX0_init_37 rfl ?_
  refine pfX0_27 C hnm (by decide +kernel) dX0_init_38 (fun w' e => ?_)
  subst e; show V x 4 268 WC75 41 [(0, .ref (gz (xG x) + 80)), (1, .ref (gz (xG x) + 3)), (2, .ref (gz (xG x) + 21)), (3, .ref (gz (xG x) + 47)), (4, .ref (gz (xG x) + 51))] []
  refine r_aload_n 0 C dX0_init_41 rfl ?_
  refine r_aload_n 3 C dX0_init_42 rfl ?_
  refine pfX0_31 C hnm (by decide +kernel) dX0_init_43 (fun w' e => ?_)
  subst e; show V x 4 268 WC76 46 [(0, .ref (gz (xG x) + 80)), (1, .ref (gz (xG x) + 3)), (2, .ref (gz (xG x) + 21)), (3, .ref (gz (xG x) + 47)), (4, .ref (gz (xG x) + 51))] []
  refine r_aload_n 0 C dX0_init_46 rfl ?_
  refine r_aload 4 C dX0_init_47 rfl ?_
  refine pfX0_35 C hnm (by decide +kernel) dX0_init_49 (fun w' e => ?_)
  subst e; show V x 4 268 WC77 52 [(0, .ref (gz (xG x) + 80)), (1, .ref (gz (xG x) + 3)), (2, .ref (gz (xG x) + 21)), (3, .ref (gz (xG x) + 47)), (4, .ref (gz (xG x) + 51))] []
  refine r_iconst (v := 0) C dX0_init_52 (by decide) ?_
  refine r_istore [(5, .int 0), (0, .ref (gz (xG x) + 80)), (1, .ref (gz (xG x) + 3)), (2, .ref (gz (xG x) + 21)), (3, .ref (gz (xG x) + 47)), (4, .ref (gz (xG x) + 51))] C dX0_init_53 (by decide) rfl ?_
  refine r_iload 0 C dX0_init_55 rfl ?_
  refine r_iconst (v := 5) C dX0_init_57 (by decide) ?_
  refine r_icmp_gt 83 C dX0_init_58 (by decide) (fun c => absurd c (by decide)) (fun _ => ?_)
  refine r_aload_n 1 C dX0_init_61 rfl ?_
  refine gfX0_11 81 C (by decide +kernel) (by decide +kernel) dX0_init_62 ?_
  refine r_iload 0 C dX0_init_65 rfl ?_
  refine r_new (ci := 6) C rfl inX6 tyX6 tyX6_ok mw2_81 mw1_189 mw1_5 fX6 dfX6 (by decide) (by decide) dX0_init_67 (fun w' e => ?_)
  rw [show (wK WC77).length = 85 by decide +kernel]
  subst e; show V x 5 274 WC78 70 [(5, .int 0), (0, .ref (gz (xG x) + 80)), (1, .ref (gz (xG x) + 3)), (2, .ref (gz (xG x) + 21)), (3, .ref (gz (xG x) + 47)), (4, .ref (gz (xG x) + 51))] [.ref (gz (xG x) + 85), .int 0, .ref (gz (xG x) + 81)]
  refine r_dup C dX0_init_70 rfl ?_
  refine r_aload_n 2 C dX0_init_71 rfl ?_
  refine r_aload_n 3 C dX0_init_72 rfl ?_
  refine callIV C cwX0_39_I (cnX6 _ _ WC78 85 86 3 21 (by decide +kernel) (by decide +kernel)) (by decide) rfl rfl (Nat.le_of_ble_eq_true rfl) (by decide) dX0_init_73 (fun w' e => ?_)
  subst e; show V x 7 286 WC79 76 [(5, .int 0), (0, .ref (gz (xG x) + 80)), (1, .ref (gz (xG x) + 3)), (2, .ref (gz (xG x) + 21)), (3, .ref (gz (xG x) + 47)), (4, .ref (gz (xG x) + 51))] [.ref (gz (xG x) + 85), .int 0, .ref (gz (xG x) + 81)]
  refine r_aast (tag := 1003) (len := 6) (ci := 6) (fts := fX6) 3 C rfl (by decide +kernel) (by decide +kernel) rfl (vp_in_iff.mpr (by decide)) dX0_init_76 (fun w' e => ?_)
  subst e; show V x 7 286 WC80 77 [(5, .int 0), (0, .ref (gz (xG x) + 80)), (1, .ref (gz (xG x) + 3)), (2, .ref (gz (xG x) + 21)), (3, .ref (gz (xG x) + 47)), (4, .ref (gz (xG x) + 51))] []
  refine r_iinc (v := 1) [(5, .int 1), (0, .ref (gz (xG x) + 80)), (1, .ref (gz (xG x) + 3)), (2, .ref (gz (xG x) + 21)), (3, .ref (gz (xG x) + 47)), (4, .ref (gz (xG x) + 51))] 0 C dX0_init_77 rfl (by decide) (by decide) rfl ?_
  refine r_goto 55 C dX0_init_80 (by decide) ?_
  refine r_iload 0 C dX0_init_55 rfl ?_
  refine r_iconst (v := 5) C dX0_init_57 (by decide) ?_
  refine r_icmp_gt 83 C dX0_init_58 (by decide) (fun c => absurd c (by decide)) (fun _ => ?_)
  refine r_aload_n 1 C dX0_init_61 rfl ?_
  refine gfX0_11 81 C (by decide +kernel) (by decide +kernel) dX0_init_62 ?_
  refine r_iload 0 C dX0_init_65 rfl ?_
  refine r_new (ci := 6) C rfl inX6 tyX6 tyX6_ok mw2_81 mw1_189 mw1_5 fX6 dfX6 (by decide) (by decide) dX0_init_67 (fun w' e => ?_)
  rw [show (wK WC80).length = 88 by decide +kernel]
  subst e; show V x 8 292 WC81 70 [(5, .int 1), (0, .ref (gz (xG x) + 80)), (1, .ref (gz (xG x) + 3)), (2, .ref (gz (xG x) + 21)), (3, .ref (gz (xG x) + 47)), (4, .ref (gz (xG x) + 51))] [.ref (gz (xG x) + 88), .int 1, .ref (gz (xG x) + 81)]
  refine r_dup C dX0_init_70 rfl ?_
  refine r_aload_n 2 C dX0_init_71 rfl ?_
  refine r_aload_n 3 C dX0_init_72 rfl ?_
  refine callIV C cwX0_39_I (cnX6 _ _ WC81 88 89 3 21 (by decide +kernel) (by decide +kernel)) (by decide) rfl rfl (Nat.le_of_ble_eq_true rfl) (by decide) dX0_init_73 (fun w' e => ?_)
  subst e; show V x 10 304 WC82 76 [(5, .int 1), (0, .ref (gz (xG x) + 80)), (1, .ref (gz (xG x) + 3)), (2, .ref (gz (xG x) + 21)), (3, .ref (gz (xG x) + 47)), (4, .ref (gz (xG x) + 51))] [.ref (gz (xG x) + 88), .int 1, .ref (gz (xG x) + 81)]
  refine r_aast (tag := 1003) (len := 6) (ci := 6) (fts := fX6) 3 C rfl (by decide +kernel) (by decide +kernel) rfl (vp_in_iff.mpr (by decide)) dX0_init_76 (fun w' e => ?_)
  subst e; show V x 10 304 WC83 77 [(5, .int 1), (0, .ref (gz (xG x) + 80)), (1, .ref (gz (xG x) + 3)), (2, .ref (gz (xG x) + 21)), (3, .ref (gz (xG x) + 47)), (4, .ref (gz (xG x) + 51))] []
  refine r_iinc (v := 2) [(5, .int 2), (0, .ref (gz (xG x) + 80)), (1, .ref (gz (xG x) + 3)), (2, .ref (gz (xG x) + 21)), (3, .ref (gz (xG x) + 47)), (4, .ref (gz (xG x) + 51))] 0 C dX0_init_77 rfl (by decide) (by decide) rfl ?_
  refine r_goto 55 C dX0_init_80 (by decide) ?_
  refine r_iload 0 C dX0_init_55 rfl ?_
  refine r_iconst (v := 5) C dX0_init_57 (by decide) ?_
  refine r_icmp_gt 83 C dX0_init_58 (by decide) (fun c => absurd c (by decide)) (fun _ => ?_)
  refine r_aload_n 1 C dX0_init_61 rfl ?_
  refine gfX0_11 81 C (by decide +kernel) (by decide +kernel) dX0_init_62 ?_
  refine r_iload 0 C dX0_init_65 rfl ?_
  refine r_new (ci := 6) C rfl inX6 tyX6 tyX6_ok mw2_81 mw1_189 mw1_5 fX6 dfX6 (by decide) (by decide) dX0_init_67 (fun w' e => ?_)
  rw [show (wK WC83).length = 91 by decide +kernel]
  subst e; show V x 11 310 WC84 70 [(5, .int 2), (0, .ref (gz (xG x) + 80)), (1, .ref (gz (xG x) + 3)), (2, .ref (gz (xG x) + 21)), (3, .ref (gz (xG x) + 47)), (4, .ref (gz (xG x) + 51))] [.ref (gz (xG x) + 91), .int 2, .ref (gz (xG x) + 81)]
  refine r_dup C dX0_init_70 rfl ?_
  refine r_aload_n 2 C dX0_init_71 rfl ?_
  refine r_aload_n 3 C dX0_init_72 rfl ?_
  refine callIV C cwX0_39_I (cnX6 _ _ WC84 91 92 3 21 (by decide +kernel) (by decide +kernel)) (by decide) rfl rfl (Nat.le_of_ble_eq_true rfl) (by decide) dX0_init_73 (fun w' e => ?_)
  subst e; show V x 13 322 WC85 76 [(5, .int 2), (0, .ref (gz (xG x) + 80)), (1, .ref (gz (xG x) + 3)), (2, .ref (gz (xG x) + 21)), (3, .ref (gz (xG x) + 47)), (4, .ref (gz (xG x) + 51))] [.ref (gz (xG x) + 91), .int 2, .ref (gz (xG x) + 81)]
  refine r_aast (tag := 1003) (len := 6) (ci := 6) (fts := fX6) 3 C rfl (by decide +kernel) (by decide +kernel) rfl (vp_in_iff.mpr (by decide)) dX0_init_76 (fun w' e => ?_)
  subst e; show V x 13 322 WC86 77 [(5, .int 2), (0, .ref (gz (xG x) + 80)), (1, .ref (gz (xG x) + 3)), (2, .ref (gz (xG x) + 21)), (3, .ref (gz (xG x) + 47)), (4, .ref (gz (xG x) + 51))] []
  refine r_iinc (v := 3) [(5, .int 3), (0, .ref (gz (xG x) + 80)), (1, .ref (gz (xG x) + 3)), (2, .ref (gz (xG x) + 21)), (3, .ref (gz (xG x) + 47)), (4, .ref (gz (xG x) + 51))] 0 C dX0_init_77 rfl (by decide) (by decide) rfl ?_
  refine r_goto 55 C dX0_init_80 (by decide) ?_
  refine r_iload 0 C dX0_init_55 rfl ?_
  refine r_iconst (v := 5) C dX0_init_57 (by decide) ?_
  refine r_icmp_gt 83 C dX0_init_58 (by decide) (fun c => absurd c (by decide)) (fun _ => ?_)
  refine r_aload_n 1 C dX0_init_61 rfl ?_
  refine gfX0_11 81 C (by decide +kernel) (by decide +kernel) dX0_init_62 ?_
  refine r_iload 0 C dX0_init_65 rfl ?_
  refine r_new (ci := 6) C rfl inX6 tyX6 tyX6_ok mw2_81 mw1_189 mw1_5 fX6 dfX6 (by decide) (by decide) dX0_init_67 (fun w' e => ?_)
  rw [show (wK WC86).length = 94 by decide +kernel]
  subst e; show V x 14 328 WC87 70 [(5, .int 3), (0, .ref (gz (xG x) + 80)), (1, .ref (gz (xG x) + 3)), (2, .ref (gz (xG x) + 21)), (3, .ref (gz (xG x) + 47)), (4, .ref (gz (xG x) + 51))] [.ref (gz (xG x) + 94), .int 3, .ref (gz (xG x) + 81)]
  refine r_dup C dX0_init_70 rfl ?_
  refine r_aload_n 2 C dX0_init_71 rfl ?_
  refine r_aload_n 3 C dX0_init_72 rfl ?_
  refine callIV C cwX0_39_I (cnX6 _ _ WC87 94 95 3 21 (by decide +kernel) (by decide +kernel)) (by decide) rfl rfl (Nat.le_of_ble_eq_true rfl) (by decide) dX0_init_73 (fun w' e => ?_)
  subst e; show V x 16 340 WC88 76 [(5, .int 3), (0, .ref (gz (xG x) + 80)), (1, .ref (gz (xG x) + 3)), (2, .ref (gz (xG x) + 21)), (3, .ref (gz (xG x) + 47)), (4, .ref (gz (xG x) + 51))] [.ref (gz (xG x) + 94), .int 3, .ref (gz (xG x) + 81)]
  refine r_aast (tag := 1003) (len := 6) (ci := 6) (fts := fX6) 3 C rfl (by decide +kernel) (by decide +kernel) rfl (vp_in_iff.mpr (by decide)) dX0_init_76 (fun w' e => ?_)
  subst e; show V x 16 340 WC89 77 [(5, .int 3), (0, .ref (gz (xG x) + 80)), (1, .ref (gz (xG x) + 3)), (2, .ref (gz (xG x) + 21)), (3, .ref (gz (xG x) + 47)), (4, .ref (gz (xG x) + 51))] []
  refine r_iinc (v := 4) [(5, .int 4), (0, .ref (gz (xG x) + 80)), (1, .ref (gz (xG x) + 3)), (2, .ref (gz (xG x) + 21)), (3, .ref (gz (xG x) + 47)), (4, .ref (gz (xG x) + 51))] 0 C dX0_init_77 rfl (by decide) (by decide) rfl ?_
  refine r_goto 55 C dX0_init_80 (by decide) ?_
  refine r_iload 0 C dX0_init_55 rfl ?_
  refine r_iconst (v := 5) C dX0_init_57 (by decide) ?_
  refine r_icmp_gt 83 C dX0_init_58 (by decide) (fun c => absurd c (by decide)) (fun _ => ?_)
  refine r_aload_n 1 C dX0_init_61 rfl ?_
  refine gfX0_11 81 C (by decide +kernel) (by decide +kernel) dX0_init_62 ?_
  refine r_iload 0 C dX0_init_65 rfl ?_
  refine r_new (ci := 6) C rfl inX6 tyX6 tyX6_ok mw2_81 mw1_189 mw1_5 fX6 dfX6 (by decide) (by decide) dX0_init_67 (fun w' e => ?_)
  rw [show (wK WC89).length = 97 by decide +kernel]
  subst e; show V x 17 346 WC90 70 [(5, .int 4), (0, .ref (gz (xG x) + 80)), (1, .ref (gz (xG x) + 3)), (2, .ref (gz (xG x) + 21)), (3, .ref (gz (xG x) + 47)), (4, .ref (gz (xG x) + 51))] [.ref (gz (xG x) + 97), .int 4, .ref (gz (xG x) + 81)]
  refine r_dup C dX0_init_70 rfl ?_
  refine r_aload_n 2 C dX0_init_71 rfl ?_
  refine r_aload_n 3 C dX0_init_72 rfl ?_
  refine callIV C cwX0_39_I (cnX6 _ _ WC90 97 98 3 21 (by decide +kernel) (by decide +kernel)) (by decide) rfl rfl (Nat.le_of_ble_eq_true rfl) (by decide) dX0_init_73 (fun w' e => ?_)
  subst e; show V x 19 358 WC91 76 [(5, .int 4), (0, .ref (gz (xG x) + 80)), (1, .ref (gz (xG x) + 3)), (2, .ref (gz (xG x) + 21)), (3, .ref (gz (xG x) + 47)), (4, .ref (gz (xG x) + 51))] [.ref (gz (xG x) + 97), .int 4, .ref (gz (xG x) + 81)]
  refine r_aast (tag := 1003) (len := 6) (ci := 6) (fts := fX6) 3 C rfl (by decide +kernel) (by decide +kernel) rfl (vp_in_iff.mpr (by decide)) dX0_init_76 (fun w' e => ?_)
  subst e; show V x 19 358 WC92 77 [(5, .int 4), (0, .ref (gz (xG x) + 80)), (1, .ref (gz (xG x) + 3)), (2, .ref (gz (xG x) + 21)), (3, .ref (gz (xG x) + 47)), (4, .ref (gz (xG x) + 51))] []
  refine r_iinc (v := 5) [(5, .int 5), (0, .ref (gz (xG x) + 80)), (1, .ref (gz (xG x) + 3)), (2, .ref (gz (xG x) + 21)), (3, .ref (gz (xG x) + 47)), (4, .ref (gz (xG x) + 51))] 0 C dX0_init_77 rfl (by decide) (by decide) rfl ?_
  refine r_goto 55 C dX0_init_80 (by decide) ?_
  refine r_iload 0 C dX0_init_55 rfl ?_
  refine r_iconst (v := 5) C dX0_init_57 (by decide) ?_
  refine r_icmp_gt 83 C dX0_init_58 (by decide) (fun c => absurd c (by decide)) (fun _ => ?_)
  refine r_aload_n 1 C dX0_init_61 rfl ?_
  refine gfX0_11 81 C (by decide +kernel) (by decide +kernel) dX0_init_62 ?_
  refine r_iload 0 C dX0_init_65 rfl ?_
  refine r_new (ci := 6) C rfl inX6 tyX6 tyX6_ok mw2_81 mw1_189 mw1_5 fX6 dfX6 (by decide) (by decide) dX0_init_67 (fun w' e => ?_)
  rw [show (wK WC92).length = 100 by decide +kernel]
  subst e; show V x 20 364 WC93 70 [(5, .int 5), (0, .ref (gz (xG x) + 80)), (1, .ref (gz (xG x) + 3)), (2, .ref (gz (xG x) + 21)), (3, .ref (gz (xG x) + 47)), (4, .ref (gz (xG x) + 51))] [.ref (gz (xG x) + 100), .int 5, .ref (gz (xG x) + 81)]
  refine r_dup C dX0_init_70 rfl ?_
  refine r_aload_n 2 C dX0_init_71 rfl ?_
  refine r_aload_n 3 C dX0_init_72 rfl ?_
  refine callIV C cwX0_39_I (cnX6 _ _ WC93 100 101 3 21 (by decide +kernel) (by decide +kernel)) (by decide) rfl rfl (Nat.le_of_ble_eq_true rfl) (by decide) dX0_init_73 (fun w' e => ?_)
  subst e; show V x 22 376 WC94 76 [(5, .int 5), (0, .ref (gz (xG x) + 80)), (1, .ref (gz (xG x) + 3)), (2, .ref (gz (xG x) + 21)), (3, .ref (gz (xG x) + 47)), (4, .ref (gz (xG x) + 51))] [.ref (gz (xG x) + 100), .int 5, .ref (gz (xG x) + 81)]
  refine r_aast (tag := 1003) (len := 6) (ci := 6) (fts := fX6) 3 C rfl (by decide +kernel) (by decide +kernel) rfl (vp_in_iff.mpr (by decide)) dX0_init_76 (fun w' e => ?_)
  subst e; show V x 22 376 WC95 77 [(5, .int 5), (0, .ref (gz (xG x) + 80)), (1, .ref (gz (xG x) + 3)), (2, .ref (gz (xG x) + 21)), (3, .ref (gz (xG x) + 47)), (4, .ref (gz (xG x) + 51))] []
  refine r_iinc (v := 6) [(5, .int 6), (0, .ref (gz (xG x) + 80)), (1, .ref (gz (xG x) + 3)), (2, .ref (gz (xG x) + 21)), (3, .ref (gz (xG x) + 47)), (4, .ref (gz (xG x) + 51))] 0 C dX0_init_77 rfl (by decide) (by decide) rfl ?_
  refine r_goto 55 C dX0_init_80 (by decide) ?_
  refine r_iload 0 C dX0_init_55 rfl ?_
  refine r_iconst (v := 5) C dX0_init_57 (by decide) ?_
  refine r_icmp_gt 83 C dX0_init_58 (by decide) (fun _ => ?_) (fun c => absurd (by decide) c)
  exact hret _ _ _ dX0_init_83 rfl
set_option maxHeartbeats 4000000 in
set_option maxRecDepth 100000 in
theorem cnX2_104 (l : Launch) (G : Gt) : CtV l G yX2_init cX2_init 3 ({ frames := 2, cells := 4, slots := 60, locals := 42 } : Room) [.ref (gz G + 104), .ref (gz G + 3), .ref (gz G + 21)] WC99 (fun w' => w' = WC104) := by
  refine enterV (by decide) (Nat.le_of_ble_eq_true rfl) ?_
  intro x el eG C hnm hret
  subst el; subst eG
  show V x 0 0 WC99 0 [(0, .ref (gz (xG x) + 104)), (1, .ref (gz (xG x) + 3)), (2, .ref (gz (xG x) + 21))] []
  refine r_aload_n 0 C dX2_init_0 rfl ?_
  refine r_objInit C mw2_127 mw1_24 mw1_25 (by decide) (Nat.le_of_ble_eq_true rfl) dX2_init_1 ?_
  refine r_aload_n 0 C dX2_init_4 rfl ?_
  refine r_bipush (v := 42) C dX2_init_5 (by decide) ?_
  refine r_newI (len := 42) 1203 C ac_int (by decide) (by decide) (by decide) (by decide) (by decide) dX2_init_7 (fun w' e => ?_)
  rw [show (wK WC99).length = 105 by decide +kernel]
  subst e; show V x 1 42 WC100 9 [(0, .ref (gz (xG x) + 104)), (1, .ref (gz (xG x) + 3)), (2, .ref (gz (xG x) + 21))] [.ref (gz (xG x) + 105), .ref (gz (xG x) + 104)]
  refine pfX2_9 C hnm (by decide +kernel) dX2_init_9 (fun w' e => ?_)
  subst e; show V x 1 42 WC101 12 [(0, .ref (gz (xG x) + 104)), (1, .ref (gz (xG x) + 3)), (2, .ref (gz (xG x) + 21))] []
  refine r_aload_n 0 C dX2_init_12 rfl ?_
  refine r_new (ci := 6) C rfl inX6 tyX6 tyX6_ok mw2_128 mw1_189 mw1_5 fX6 dfX6 (by decide) (by decide) dX2_init_13 (fun w' e => ?_)
  rw [show (wK WC101).length = 106 by decide +kernel]
  subst e; show V x 2 48 WC102 16 [(0, .ref (gz (xG x) + 104)), (1, .ref (gz (xG x) + 3)), (2, .ref (gz (xG x) + 21))] [.ref (gz (xG x) + 106), .ref (gz (xG x) + 104)]
  refine r_dup C dX2_init_16 rfl ?_
  refine r_aload_n 1 C dX2_init_17 rfl ?_
  refine r_aload_n 2 C dX2_init_18 rfl ?_
  refine callIV C cwX2_17_I (cnX6 _ _ WC102 106 107 3 21 (by decide +kernel) (by decide +kernel)) (by decide) rfl rfl (Nat.le_of_ble_eq_true rfl) (by decide) dX2_init_19 (fun w' e => ?_)
  subst e; show V x 4 60 WC103 22 [(0, .ref (gz (xG x) + 104)), (1, .ref (gz (xG x) + 3)), (2, .ref (gz (xG x) + 21))] [.ref (gz (xG x) + 106), .ref (gz (xG x) + 104)]
  refine pfX2_20 C hnm (by decide +kernel) dX2_init_22 (fun w' e => ?_)
  subst e; show V x 4 60 WC104 25 [(0, .ref (gz (xG x) + 104)), (1, .ref (gz (xG x) + 3)), (2, .ref (gz (xG x) + 21))] []
  exact hret _ _ _ dX2_init_25 rfl
set_option maxHeartbeats 4000000 in
set_option maxRecDepth 100000 in
theorem cnX2_109 (l : Launch) (G : Gt) : CtV l G yX2_init cX2_init 3 ({ frames := 2, cells := 4, slots := 60, locals := 42 } : Room) [.ref (gz G + 109), .ref (gz G + 3), .ref (gz G + 21)] WC106 (fun w' => w' = WC111) := by
  refine enterV (by decide) (Nat.le_of_ble_eq_true rfl) ?_
  intro x el eG C hnm hret
  subst el; subst eG
  show V x 0 0 WC106 0 [(0, .ref (gz (xG x) + 109)), (1, .ref (gz (xG x) + 3)), (2, .ref (gz (xG x) + 21))] []
  refine r_aload_n 0 C dX2_init_0 rfl ?_
  refine r_objInit C mw2_127 mw1_24 mw1_25 (by decide) (Nat.le_of_ble_eq_true rfl) dX2_init_1 ?_
  refine r_aload_n 0 C dX2_init_4 rfl ?_
  refine r_bipush (v := 42) C dX2_init_5 (by decide) ?_
  refine r_newI (len := 42) 1203 C ac_int (by decide) (by decide) (by decide) (by decide) (by decide) dX2_init_7 (fun w' e => ?_)
  rw [show (wK WC106).length = 110 by decide +kernel]
  subst e; show V x 1 42 WC107 9 [(0, .ref (gz (xG x) + 109)), (1, .ref (gz (xG x) + 3)), (2, .ref (gz (xG x) + 21))] [.ref (gz (xG x) + 110), .ref (gz (xG x) + 109)]
  refine pfX2_9 C hnm (by decide +kernel) dX2_init_9 (fun w' e => ?_)
  subst e; show V x 1 42 WC108 12 [(0, .ref (gz (xG x) + 109)), (1, .ref (gz (xG x) + 3)), (2, .ref (gz (xG x) + 21))] []
  refine r_aload_n 0 C dX2_init_12 rfl ?_
  refine r_new (ci := 6) C rfl inX6 tyX6 tyX6_ok mw2_128 mw1_189 mw1_5 fX6 dfX6 (by decide) (by decide) dX2_init_13 (fun w' e => ?_)
  rw [show (wK WC108).length = 111 by decide +kernel]
  subst e; show V x 2 48 WC109 16 [(0, .ref (gz (xG x) + 109)), (1, .ref (gz (xG x) + 3)), (2, .ref (gz (xG x) + 21))] [.ref (gz (xG x) + 111), .ref (gz (xG x) + 109)]
  refine r_dup C dX2_init_16 rfl ?_
  refine r_aload_n 1 C dX2_init_17 rfl ?_
  refine r_aload_n 2 C dX2_init_18 rfl ?_
  refine callIV C cwX2_17_I (cnX6 _ _ WC109 111 112 3 21 (by decide +kernel) (by decide +kernel)) (by decide) rfl rfl (Nat.le_of_ble_eq_true rfl) (by decide) dX2_init_19 (fun w' e => ?_)
  subst e; show V x 4 60 WC110 22 [(0, .ref (gz (xG x) + 109)), (1, .ref (gz (xG x) + 3)), (2, .ref (gz (xG x) + 21))] [.ref (gz (xG x) + 111), .ref (gz (xG x) + 109)]
  refine pfX2_20 C hnm (by decide +kernel) dX2_init_22 (fun w' e => ?_)
  subst e; show V x 4 60 WC111 25 [(0, .ref (gz (xG x) + 109)), (1, .ref (gz (xG x) + 3)), (2, .ref (gz (xG x) + 21))] []
  exact hret _ _ _ dX2_init_25 rfl
set_option maxHeartbeats 4000000 in
set_option maxRecDepth 100000 in
theorem cnX10_0 (l : Launch) (G : Gt) : CtV l G yX10_init cX10_init 2 ({ frames := 4, cells := 113, slots := 8849, locals := 87 } : Room) [.ref (gz G + 0)] WC0 (fun w' => Ch [22, 23, 24, 26, 29, 30, 31, 33, 36, 37] [(21, 0), (21, 2), (21, 3), (28, 0), (28, 2), (28, 3), (35, 0), (35, 1), (44, 0), (47, 0), (55, 7), (104, 0), (109, 0)] WC112 w' ∧ Inv RC w') := by
  refine enterV (by decide) (Nat.le_of_ble_eq_true rfl) ?_
  intro x el eG C hnm hret
  subst el; subst eG
  show V x 0 0 WC0 0 [(0, .ref (gz (xG x) + 0))] []
  refine r_aload_n 0 C dX10_init_0 rfl ?_
  refine r_objInit C mw1_23 mw1_24 mw1_25 (by decide) (Nat.le_of_ble_eq_true rfl) dX10_init_1 ?_
  refine r_aload_n 0 C dX10_init_4 rfl ?_
  refine r_new (ci := 5) C rfl inX5 tyX5 tyX5_ok mw1_26 mw1_27 mw1_2 fX5 dfX5 (by decide) (by decide) dX10_init_5 (fun w' e => ?_)
  rw [show (wK WC0).length = 1 by decide +kernel]
  subst e; show V x 1 6 WC1 8 [(0, .ref (gz (xG x) + 0))] [.ref (gz (xG x) + 1), .ref (gz (xG x) + 0)]
  refine r_dup C dX10_init_8 rfl ?_
  refine callIV C cwX10_9_I (cnX5 _ _ WC1 1 2 (by decide +kernel) (by decide +kernel)) (by decide) rfl rfl (Nat.le_of_ble_eq_true rfl) (by decide) dX10_init_9 (fun w' e => ?_)
  subst e; show V x 2 506 WC2 12 [(0, .ref (gz (xG x) + 0))] [.ref (gz (xG x) + 1), .ref (gz (xG x) + 0)]
  refine pfX10_10 C hnm (by decide +kernel) dX10_init_12 (fun w' e => ?_)
  subst e; show V x 2 506 WC3 15 [(0, .ref (gz (xG x) + 0))] []
  refine r_aload_n 0 C dX10_init_15 rfl ?_
  refine r_new (ci := 9) C rfl inX9 tyX9 tyX9_ok mw1_55 mw1_56 mw1_3 fX9 dfX9 (by decide) (by decide) dX10_init_16 (fun w' e => ?_)
  rw [show (wK WC3).length = 3 by decide +kernel]
  subst e; show V x 3 523 WC4 19 [(0, .ref (gz (xG x) + 0))] [.ref (gz (xG x) + 3), .ref (gz (xG x) + 0)]
  refine r_dup C dX10_init_19 rfl ?_
  refine callIV C cwX10_18_I (cnX9 _ _ WC4 3 4 (by decide +kernel) (by decide +kernel)) (by decide) rfl rfl (Nat.le_of_ble_eq_true rfl) (by decide) dX10_init_20 (fun w' e => ?_)
  subst e; show V x 11 601 WC5 23 [(0, .ref (gz (xG x) + 0))] [.ref (gz (xG x) + 3), .ref (gz (xG x) + 0)]
  refine pfX10_19 C hnm (by decide +kernel) dX10_init_23 (fun w' e => ?_)
  subst e; show V x 11 601 WC6 26 [(0, .ref (gz (xG x) + 0))] []
  refine r_aload_n 0 C dX10_init_26 rfl ?_
  refine r_new (ci := 9) C rfl inX9 tyX9 tyX9_ok mw1_55 mw1_56 mw1_3 fX9 dfX9 (by decide) (by decide) dX10_init_27 (fun w' e => ?_)
  rw [show (wK WC6).length = 12 by decide +kernel]
  subst e; show V x 12 618 WC7 30 [(0, .ref (gz (xG x) + 0))] [.ref (gz (xG x) + 12), .ref (gz (xG x) + 0)]
  refine r_dup C dX10_init_30 rfl ?_
  refine callIV C cwX10_18_I (cnX9 _ _ WC7 12 13 (by decide +kernel) (by decide +kernel)) (by decide) rfl rfl (Nat.le_of_ble_eq_true rfl) (by decide) dX10_init_31 (fun w' e => ?_)
  subst e; show V x 20 696 WC8 34 [(0, .ref (gz (xG x) + 0))] [.ref (gz (xG x) + 12), .ref (gz (xG x) + 0)]
  refine pfX10_23 C hnm (by decide +kernel) dX10_init_34 (fun w' e => ?_)
  subst e; show V x 20 696 WC9 37 [(0, .ref (gz (xG x) + 0))] []
  refine r_aload_n 0 C dX10_init_37 rfl ?_
  refine r_new (ci := 1) C rfl inX1 tyX1 tyX1_ok mw1_148 mw1_149 mw1_4 fX1 dfX1 (by decide) (by decide) dX10_init_38 (fun w' e => ?_)
  rw [show (wK WC9).length = 21 by decide +kernel]
  subst e; show V x 21 705 WC10 41 [(0, .ref (gz (xG x) + 0))] [.ref (gz (xG x) + 21), .ref (gz (xG x) + 0)]
  refine r_dup C dX10_init_41 rfl ?_
  refine callIV C cwX10_28_I (cnX1 _ _ WC10 21 22 (by decide +kernel) (by decide +kernel)) (by decide) rfl rfl (Nat.le_of_ble_eq_true rfl) (by decide) dX10_init_42 (fun w' e => ?_)
  subst e; show V x 27 2805 WC11 45 [(0, .ref (gz (xG x) + 0))] [.ref (gz (xG x) + 21), .ref (gz (xG x) + 0)]
  refine pfX10_29 C hnm (by decide +kernel) dX10_init_45 (fun w' e => ?_)
  subst e; show V x 27 2805 WC12 48 [(0, .ref (gz (xG x) + 0))] []
  refine r_aload_n 0 C dX10_init_48 rfl ?_
  refine r_new (ci := 1) C rfl inX1 tyX1 tyX1_ok mw1_148 mw1_149 mw1_4 fX1 dfX1 (by decide) (by decide) dX10_init_49 (fun w' e => ?_)
  rw [show (wK WC12).length = 28 by decide +kernel]
  subst e; show V x 28 2814 WC13 52 [(0, .ref (gz (xG x) + 0))] [.ref (gz (xG x) + 28), .ref (gz (xG x) + 0)]
  refine r_dup C dX10_init_52 rfl ?_
  refine callIV C cwX10_28_I (cnX1 _ _ WC13 28 29 (by decide +kernel) (by decide +kernel)) (by decide) rfl rfl (Nat.le_of_ble_eq_true rfl) (by decide) dX10_init_53 (fun w' e => ?_)
  subst e; show V x 34 4914 WC14 56 [(0, .ref (gz (xG x) + 0))] [.ref (gz (xG x) + 28), .ref (gz (xG x) + 0)]
  refine pfX10_33 C hnm (by decide +kernel) dX10_init_56 (fun w' e => ?_)
  subst e; show V x 34 4914 WC15 59 [(0, .ref (gz (xG x) + 0))] []
  refine r_aload_n 0 C dX10_init_59 rfl ?_
  refine r_new (ci := 6) C rfl inX6 tyX6 tyX6_ok mw1_188 mw1_189 mw1_5 fX6 dfX6 (by decide) (by decide) dX10_init_60 (fun w' e => ?_)
  rw [show (wK WC15).length = 35 by decide +kernel]
  subst e; show V x 35 4920 WC16 63 [(0, .ref (gz (xG x) + 0))] [.ref (gz (xG x) + 35), .ref (gz (xG x) + 0)]
  refine r_dup C dX10_init_63 rfl ?_
  refine r_aload_n 0 C dX10_init_64 rfl ?_
  refine gfX10_19 3 C (by decide +kernel) (by decide +kernel) dX10_init_65 ?_
  refine r_aload_n 0 C dX10_init_68 rfl ?_
  refine gfX10_29 21 C (by decide +kernel) (by decide +kernel) dX10_init_69 ?_
  refine callIV C cwX10_38_I (cnX6 _ _ WC16 35 36 3 21 (by decide +kernel) (by decide +kernel)) (by decide) rfl rfl (Nat.le_of_ble_eq_true rfl) (by decide) dX10_init_72 (fun w' e => ?_)
  subst e; show V x 37 4932 WC17 75 [(0, .ref (gz (xG x) + 0))] [.ref (gz (xG x) + 35), .ref (gz (xG x) + 0)]
  refine pfX10_41 C hnm (by decide +kernel) dX10_init_75 (fun w' e => ?_)
  subst e; show V x 37 4932 WC18 78 [(0, .ref (gz (xG x) + 0))] []
  refine r_aload_n 0 C dX10_init_78 rfl ?_
  refine r_new (ci := 6) C rfl inX6 tyX6 tyX6_ok mw1_188 mw1_189 mw1_5 fX6 dfX6 (by decide) (by decide) dX10_init_79 (fun w' e => ?_)
  rw [show (wK WC18).length = 38 by decide +kernel]
  subst e; show V x 38 4938 WC19 82 [(0, .ref (gz (xG x) + 0))] [.ref (gz (xG x) + 38), .ref (gz (xG x) + 0)]
  refine r_dup C dX10_init_82 rfl ?_
  refine r_aload_n 0 C dX10_init_83 rfl ?_
  refine gfX10_19 3 C (by decide +kernel) (by decide +kernel) dX10_init_84 ?_
  refine r_aload_n 0 C dX10_init_87 rfl ?_
  refine gfX10_29 21 C (by decide +kernel) (by decide +kernel) dX10_init_88 ?_
  refine callIV C cwX10_38_I (cnX6 _ _ WC19 38 39 3 21 (by decide +kernel) (by decide +kernel)) (by decide) rfl rfl (Nat.le_of_ble_eq_true rfl) (by decide) dX10_init_91 (fun w' e => ?_)
  subst e; show V x 40 4950 WC20 94 [(0, .ref (gz (xG x) + 0))] [.ref (gz (xG x) + 38), .ref (gz (xG x) + 0)]
  refine pfX10_45 C hnm (by decide +kernel) dX10_init_94 (fun w' e => ?_)
  subst e; show V x 40 4950 WC21 97 [(0, .ref (gz (xG x) + 0))] []
  refine r_aload_n 0 C dX10_init_97 rfl ?_
  refine r_new (ci := 6) C rfl inX6 tyX6 tyX6_ok mw1_188 mw1_189 mw1_5 fX6 dfX6 (by decide) (by decide) dX10_init_98 (fun w' e => ?_)
  rw [show (wK WC21).length = 41 by decide +kernel]
  subst e; show V x 41 4956 WC22 101 [(0, .ref (gz (xG x) + 0))] [.ref (gz (xG x) + 41), .ref (gz (xG x) + 0)]
  refine r_dup C dX10_init_101 rfl ?_
  refine r_aload_n 0 C dX10_init_102 rfl ?_
  refine gfX10_19 3 C (by decide +kernel) (by decide +kernel) dX10_init_103 ?_
  refine r_aload_n 0 C dX10_init_106 rfl ?_
  refine gfX10_33 28 C (by decide +kernel) (by decide +kernel) dX10_init_107 ?_
  refine callIV C cwX10_38_I (cnX6 _ _ WC22 41 42 3 28 (by decide +kernel) (by decide +kernel)) (by decide) rfl rfl (Nat.le_of_ble_eq_true rfl) (by decide) dX10_init_110 (fun w' e => ?_)
  subst e; show V x 43 4968 WC23 113 [(0, .ref (gz (xG x) + 0))] [.ref (gz (xG x) + 41), .ref (gz (xG x) + 0)]
  refine pfX10_48 C hnm (by decide +kernel) dX10_init_113 (fun w' e => ?_)
  subst e; show V x 43 4968 WC24 116 [(0, .ref (gz (xG x) + 0))] []
  refine r_aload_n 0 C dX10_init_116 rfl ?_
  refine r_new (ci := 4) C rfl inX4 tyX4 tyX4_ok mw1_220 mw1_221 mw1_6 fX4 dfX4 (by decide) (by decide) dX10_init_117 (fun w' e => ?_)
  rw [show (wK WC24).length = 44 by decide +kernel]
  subst e; show V x 44 4971 WC25 120 [(0, .ref (gz (xG x) + 0))] [.ref (gz (xG x) + 44), .ref (gz (xG x) + 0)]
  refine r_dup C dX10_init_120 rfl ?_
  refine callIV C cwX10_53_I (cnX4 _ _ WC25 44 45 (by decide +kernel) (by decide +kernel)) (by decide) rfl rfl (Nat.le_of_ble_eq_true rfl) (by decide) dX10_init_121 (fun w' e => ?_)
  subst e; show V x 46 5031 WC26 124 [(0, .ref (gz (xG x) + 0))] [.ref (gz (xG x) + 44), .ref (gz (xG x) + 0)]
  refine pfX10_54 C hnm (by decide +kernel) dX10_init_124 (fun w' e => ?_)
  subst e; show V x 46 5031 WC27 127 [(0, .ref (gz (xG x) + 0))] []
  refine r_aload_n 0 C dX10_init_127 rfl ?_
  refine r_new (ci := 7) C rfl inX7 tyX7 tyX7_ok mw1_237 mw1_238 mw1_7 fX7 dfX7 (by decide) (by decide) dX10_init_128 (fun w' e => ?_)
  rw [show (wK WC27).length = 47 by decide +kernel]
  subst e; show V x 47 5035 WC28 131 [(0, .ref (gz (xG x) + 0))] [.ref (gz (xG x) + 47), .ref (gz (xG x) + 0)]
  refine r_dup C dX10_init_131 rfl ?_
  refine callIV C cwX10_60_I (cnX7 _ _ WC28 47 48 (by decide +kernel) (by decide +kernel)) (by decide) rfl rfl (Nat.le_of_ble_eq_true rfl) (by decide) dX10_init_132 (fun w' e => ?_)
  subst e; show V x 50 5065 WC29 135 [(0, .ref (gz (xG x) + 0))] [.ref (gz (xG x) + 47), .ref (gz (xG x) + 0)]
  refine pfX10_61 C hnm (by decide +kernel) dX10_init_135 (fun w' e => ?_)
  subst e; show V x 50 5065 WC30 138 [(0, .ref (gz (xG x) + 0))] []
  refine r_aload_n 0 C dX10_init_138 rfl ?_
  refine r_new (ci := 3) C rfl inX3 tyX3 tyX3_ok mw2_17 mw2_18 mw1_8 fX3 dfX3 (by decide) (by decide) dX10_init_139 (fun w' e => ?_)
  rw [show (wK WC30).length = 51 by decide +kernel]
  subst e; show V x 51 5068 WC31 142 [(0, .ref (gz (xG x) + 0))] [.ref (gz (xG x) + 51), .ref (gz (xG x) + 0)]
  refine r_dup C dX10_init_142 rfl ?_
  refine callIV C cwX10_67_I (cnX3 _ _ WC31 51 52 (by decide +kernel) (by decide +kernel)) (by decide) rfl rfl (Nat.le_of_ble_eq_true rfl) (by decide) dX10_init_143 (fun w' e => ?_)
  subst e; show V x 54 8140 WC32 146 [(0, .ref (gz (xG x) + 0))] [.ref (gz (xG x) + 51), .ref (gz (xG x) + 0)]
  refine pfX10_68 C hnm (by decide +kernel) dX10_init_146 (fun w' e => ?_)
  subst e; show V x 54 8140 WC33 149 [(0, .ref (gz (xG x) + 0))] []
  refine r_aload_n 0 C dX10_init_149 rfl ?_
  refine r_new (ci := 8) C rfl inX8 tyX8 tyX8_ok mw2_34 mw2_35 mw1_9 fX8 dfX8 (by decide) (by decide) dX10_init_150 (fun w' e => ?_)
  rw [show (wK WC33).length = 55 by decide +kernel]
  subst e; show V x 55 8150 WC34 153 [(0, .ref (gz (xG x) + 0))] [.ref (gz (xG x) + 55), .ref (gz (xG x) + 0)]
  refine r_dup C dX10_init_153 rfl ?_
  refine r_aload_n 0 C dX10_init_154 rfl ?_
  refine gfX10_19 3 C (by decide +kernel) (by decide +kernel) dX10_init_155 ?_
  refine r_aload_n 0 C dX10_init_158 rfl ?_
  refine gfX10_29 21 C (by decide +kernel) (by decide +kernel) dX10_init_159 ?_
  refine r_aload_n 0 C dX10_init_162 rfl ?_
  refine gfX10_68 51 C (by decide +kernel) (by decide +kernel) dX10_init_163 ?_
  refine callIV C cwX10_74_I (cnX8_55 _ _) (by decide) rfl rfl (Nat.le_of_ble_eq_true rfl) (by decide) dX10_init_166 (fun w' e => ?_)
  subst e; show V x 79 8331 WC64 169 [(0, .ref (gz (xG x) + 0))] [.ref (gz (xG x) + 55), .ref (gz (xG x) + 0)]
  refine pfX10_77 C hnm (by decide +kernel) dX10_init_169 (fun w' e => ?_)
  subst e; show V x 79 8331 WC65 172 [(0, .ref (gz (xG x) + 0))] []
  refine r_aload_n 0 C dX10_init_172 rfl ?_
  refine r_new (ci := 0) C rfl inX0 tyX0 tyX0_ok mw2_75 mw2_76 mw1_10 fX0 dfX0 (by decide) (by decide) dX10_init_173 (fun w' e => ?_)
  rw [show (wK WC65).length = 80 by decide +kernel]
  subst e; show V x 80 8343 WC66 176 [(0, .ref (gz (xG x) + 0))] [.ref (gz (xG x) + 80), .ref (gz (xG x) + 0)]
  refine r_dup C dX10_init_176 rfl ?_
  refine r_aload_n 0 C dX10_init_177 rfl ?_
  refine gfX10_19 3 C (by decide +kernel) (by decide +kernel) dX10_init_178 ?_
  refine r_aload_n 0 C dX10_init_181 rfl ?_
  refine gfX10_29 21 C (by decide +kernel) (by decide +kernel) dX10_init_182 ?_
  refine r_aload_n 0 C dX10_init_185 rfl ?_
  refine gfX10_61 47 C (by decide +kernel) (by decide +kernel) dX10_init_186 ?_
  refine r_aload_n 0 C dX10_init_189 rfl ?_
  refine gfX10_68 51 C (by decide +kernel) (by decide +kernel) dX10_init_190 ?_
  refine callIV C cwX10_83_I (cnX0_80 _ _) (by decide) rfl rfl (Nat.le_of_ble_eq_true rfl) (by decide) dX10_init_193 (fun w' e => ?_)
  subst e; show V x 102 8719 WC95 196 [(0, .ref (gz (xG x) + 0))] [.ref (gz (xG x) + 80), .ref (gz (xG x) + 0)]
  refine pfX10_86 C hnm (by decide +kernel) dX10_init_196 (fun w' e => ?_)
  subst e; show V x 102 8719 WC96 199 [(0, .ref (gz (xG x) + 0))] []
  refine r_aload_n 0 C dX10_init_199 rfl ?_
  refine r_iconst (v := 2) C dX10_init_200 (by decide) ?_
  refine r_newQ (len := 2) 4 2013 C rfl C.tk.2.2.1 mw2_121 (by decide) (by decide) (by decide) (by decide) (by decide) dX10_init_201 (fun w' e => ?_)
  rw [show (wK WC96).length = 103 by decide +kernel]
  subst e; show V x 103 8721 WC97 204 [(0, .ref (gz (xG x) + 0))] [.ref (gz (xG x) + 103), .ref (gz (xG x) + 0)]
  refine pfX10_92 C hnm (by decide +kernel) dX10_init_204 (fun w' e => ?_)
  subst e; show V x 103 8721 WC98 207 [(0, .ref (gz (xG x) + 0))] []
  refine r_iconst (v := 0) C dX10_init_207 (by decide) ?_
  refine r_istore_n [(1, .int 0), (0, .ref (gz (xG x) + 0))] C dX10_init_208 (by decide) rfl ?_
  refine r_iload_n 0 C dX10_init_209 rfl ?_
  refine r_iconst (v := 2) C dX10_init_210 (by decide) ?_
  refine r_icmp_ge 241 C dX10_init_211 (by decide) (fun c => absurd c (by decide)) (fun _ => ?_)
  refine r_aload_n 1 C dX10_init_214 rfl ?_
  refine gfX10_92 103 C (by decide +kernel) (by decide +kernel) dX10_init_215 ?_
  refine r_iload_n 0 C dX10_init_218 rfl ?_
  refine r_new (ci := 2) C rfl inX2 tyX2 tyX2_ok mw2_121 mw2_123 mw1_11 fX2 dfX2 (by decide) (by decide) dX10_init_219 (fun w' e => ?_)
  rw [show (wK WC98).length = 104 by decide +kernel]
  subst e; show V x 104 8725 WC99 222 [(1, .int 0), (0, .ref (gz (xG x) + 0))] [.ref (gz (xG x) + 104), .int 0, .ref (gz (xG x) + 103)]
  refine r_dup C dX10_init_222 rfl ?_
  refine r_aload_n 1 C dX10_init_223 rfl ?_
  refine gfX10_19 3 C (by decide +kernel) (by decide +kernel) dX10_init_224 ?_
  refine r_aload_n 1 C dX10_init_227 rfl ?_
  refine gfX10_29 21 C (by decide +kernel) (by decide +kernel) dX10_init_228 ?_
  refine callIV C cwX10_96_I (cnX2_104 _ _) (by decide) rfl rfl (Nat.le_of_ble_eq_true rfl) (by decide) dX10_init_231 (fun w' e => ?_)
  subst e; show V x 108 8785 WC104 234 [(1, .int 0), (0, .ref (gz (xG x) + 0))] [.ref (gz (xG x) + 104), .int 0, .ref (gz (xG x) + 103)]
  refine r_aast (tag := 2013) (len := 2) (ci := 2) (fts := fX2) 4 C rfl (by decide +kernel) (by decide +kernel) rfl (vp_in_iff.mpr (by decide)) dX10_init_234 (fun w' e => ?_)
  subst e; show V x 108 8785 WC105 235 [(1, .int 0), (0, .ref (gz (xG x) + 0))] []
  refine r_iinc (v := 1) [(1, .int 1), (0, .ref (gz (xG x) + 0))] 0 C dX10_init_235 rfl (by decide) (by decide) rfl ?_
  refine r_goto 209 C dX10_init_238 (by decide) ?_
  refine r_iload_n 0 C dX10_init_209 rfl ?_
  refine r_iconst (v := 2) C dX10_init_210 (by decide) ?_
  refine r_icmp_ge 241 C dX10_init_211 (by decide) (fun c => absurd c (by decide)) (fun _ => ?_)
  refine r_aload_n 1 C dX10_init_214 rfl ?_
  refine gfX10_92 103 C (by decide +kernel) (by decide +kernel) dX10_init_215 ?_
  refine r_iload_n 0 C dX10_init_218 rfl ?_
  refine r_new (ci := 2) C rfl inX2 tyX2 tyX2_ok mw2_121 mw2_123 mw1_11 fX2 dfX2 (by decide) (by decide) dX10_init_219 (fun w' e => ?_)
  rw [show (wK WC105).length = 109 by decide +kernel]
  subst e; show V x 109 8789 WC106 222 [(1, .int 1), (0, .ref (gz (xG x) + 0))] [.ref (gz (xG x) + 109), .int 1, .ref (gz (xG x) + 103)]
  refine r_dup C dX10_init_222 rfl ?_
  refine r_aload_n 1 C dX10_init_223 rfl ?_
  refine gfX10_19 3 C (by decide +kernel) (by decide +kernel) dX10_init_224 ?_
  refine r_aload_n 1 C dX10_init_227 rfl ?_
  refine gfX10_29 21 C (by decide +kernel) (by decide +kernel) dX10_init_228 ?_
  refine callIV C cwX10_96_I (cnX2_109 _ _) (by decide) rfl rfl (Nat.le_of_ble_eq_true rfl) (by decide) dX10_init_231 (fun w' e => ?_)
  subst e; show V x 113 8849 WC111 234 [(1, .int 1), (0, .ref (gz (xG x) + 0))] [.ref (gz (xG x) + 109), .int 1, .ref (gz (xG x) + 103)]
  refine r_aast (tag := 2013) (len := 2) (ci := 2) (fts := fX2) 4 C rfl (by decide +kernel) (by decide +kernel) rfl (vp_in_iff.mpr (by decide)) dX10_init_234 (fun w' e => ?_)
  subst e; show V x 113 8849 WC112 235 [(1, .int 1), (0, .ref (gz (xG x) + 0))] []
  refine r_iinc (v := 2) [(1, .int 2), (0, .ref (gz (xG x) + 0))] 0 C dX10_init_235 rfl (by decide) (by decide) rfl ?_
  refine r_goto 209 C dX10_init_238 (by decide) ?_
  refine r_iload_n 0 C dX10_init_209 rfl ?_
  refine r_iconst (v := 2) C dX10_init_210 (by decide) ?_
  refine r_icmp_ge 241 C dX10_init_211 (by decide) (fun _ => ?_) (fun c => absurd (by decide) c)
  refine r_aload_n 1 C dX10_init_241 rfl ?_
  refine callVV C cwX10_97_V (ctX10_begin_0 _ _ WC112 strC_e invC_e) (by decide) (show (wK WC112)[0]? = some (10, .inl fX10) by decide +kernel) rfl rfl rfl (Nat.le_of_ble_eq_true rfl) (by decide) dX10_init_242 (fun w' y => ?_)
  show V x 113 8849 w' 245 [(1, .int 2), (0, .ref (gz (xG x) + 0))] []
  exact hret _ _ _ dX10_init_245 y
