set_option maxHeartbeats 4000000 in
set_option maxRecDepth 100000 in
theorem ctX0_fit_80_d0 (l : Launch) (G : Gt) (w : Wv) (sC : Str KC XC w) (o0 : Inv RC w) (a1 : Int32) (b1 : 0 ≤ a1.toInt ∧ a1.toInt ≤ 0) : CtI l G yX0_fit cX0_fit 9 .int ({ frames := 13, cells := 0, slots := 0, locals := 327 } : Room) [.ref (gz G + 80), .int a1] w (fun r w' => Ch [25, 26, 27, 52, 53, 54, 82, 83, 89, 90, 92, 93, 95, 96, 98, 99, 101, 102] [(80, 8), (88, 0), (88, 1), (91, 0), (91, 1), (94, 0), (94, 1), (97, 0), (97, 1), (100, 0), (100, 1)] w w' ∧ Inv RC w') := by
  refine enterI (by decide) (Nat.le_of_ble_eq_true rfl) ?_
  intro x el eG C hret
  subst el; subst eG
  obtain rfl : a1 = 0 := i_of (by have q : (0 : Int32).toInt = 0 := (by decide); omega)
  show V x 0 0 w 0 [(0, .ref (gz (xG x) + 80)), (1, .int 0)] []
  have h0 : Ch [25, 26, 27, 52, 53, 54, 82, 83, 89, 90, 92, 93, 95, 96, 98, 99, 101, 102] [(80, 8), (88, 0), (88, 1), (91, 0), (91, 1), (94, 0), (94, 1), (97, 0), (97, 1), (100, 0), (100, 1)] w w := Ch.rf
  have qm1 : ((-1) : Int32).toInt = (-1) := by decide
  have q0 : (0 : Int32).toInt = 0 := by decide
  have q5 : (5 : Int32).toInt = 5 := by decide
  have q42 : (42 : Int32).toInt = 42 := by decide
  refine r_iload_n 1 C dX0_fit_0 rfl ?_
  refine r_if_lt 9 C dX0_fit_1 (by decide) (fun c1 => ?_) (fun c1 => ?_)
  · have c1' := i_lt c1
    exfalso; omega
  · have c1' := i_nlt c1
    refine r_iload_n 1 C dX0_fit_4 rfl ?_
    refine r_iconst (v := 5) C dX0_fit_5 (by decide) ?_
    refine r_icmp_le 11 C dX0_fit_6 (by decide) (fun c2 => ?_) (fun c2 => ?_)
    · have c2' := i_le c2
      refine r_aload_n 0 C dX0_fit_11 rfl ?_
      refine gfX0_11 81 C (kS sC h0 kc_80) (xS sC h0 xc_80_3) dX0_fit_12 ?_
      refine r_iload_n 1 C dX0_fit_15 rfl ?_
      refine r_aald 3 rfl C (kS sC h0 kc_81) (vin (by omega) (by omega)) (xS sC h0 xc_81_0) dX0_fit_16 ?_
      refine r_astore_n [(2, .ref (gz (xG x) + 85)), (0, .ref (gz (xG x) + 80)), (1, .int 0)] C dX0_fit_17 (by decide) rfl ?_
      refine r_iload_n 2 C dX0_fit_18 rfl ?_
      refine r_aload_n 1 C dX0_fit_19 rfl ?_
      refine gfX0_56 (v := (wI w 80 10)) C (kS sC h0 kc_80) rfl dX0_fit_20 ?_
      have b3 := Inv.get o0 rt_80_10 (j := 10) (by decide) (by decide)
      refine r_icmp_ge 31 C dX0_fit_23 (by decide) (fun c4 => ?_) (fun c4 => ?_)
      · have c4' := i_le c4
        refine r_aload_n 1 C dX0_fit_31 rfl ?_
        refine callVV C cwX0_103_V (ctX0_keepFirst_80 _ _ w (sS sC h0) o0  ) (by decide) (kS sC h0 kc_80) rfl rfl rfl (Nat.le_of_ble_eq_true rfl) (by decide) dX0_fit_32 (fun w6 y5 => ?_)
        show V x 0 0 w6 35 [(2, .ref (gz (xG x) + 85)), (0, .ref (gz (xG x) + 80)), (1, .int 0)] []
        obtain ⟨h8, o9⟩ := y5
        have h10 := Ch.tr h0 h8 (by decide) (by decide)
        refine r_aload_n 1 C dX0_fit_35 rfl ?_
        refine r_aload_n 0 C dX0_fit_36 rfl ?_
        refine gfX0_82 (v := (wI w 85 0)) C (kS sC h10 kc_85) (h8.I (by decide) (by decide) rfl) dX0_fit_37 ?_
        refine r_aload_n 1 C dX0_fit_40 rfl ?_
        refine gfX0_46 (v := (wI w 80 9)) C (kS sC h10 kc_80) (h8.I (by decide) (by decide) rfl) dX0_fit_41 ?_
        have b11 := Inv.get o0 rt_80_9 (j := 9) (by decide) (by decide)
        refine r_aload_n 1 C dX0_fit_44 rfl ?_
        refine gfX0_56 (v := (wI w 80 10)) C (kS sC h10 kc_80) (h8.I (by decide) (by decide) rfl) dX0_fit_45 ?_
        refine r_isub C dX0_fit_48 (fun v12 e13 => ?_)
        have v12' := isub_ok e13 (by omega) (by omega)
        refine callVI C cwX0_89_V (ctX0_freeFrom_80 _ _ w6 (sS sC h10) o9 (wI w 85 0) v12 ) (by decide) (kS sC h10 kc_80) rfl rfl rfl (Nat.le_of_ble_eq_true rfl) (by decide) dX0_fit_49 (fun r16 w15 y14 => ?_)
        show V x 0 0 w15 52 [(2, .ref (gz (xG x) + 85)), (0, .ref (gz (xG x) + 80)), (1, .int 0)] [.int r16]
        obtain ⟨h17, o18⟩ := y14
        have h19 := Ch.tr h10 h17 (by decide) (by decide)
        exact hret _ _ _ _ dX0_fit_52 rfl ⟨h19, o18⟩
      · have c4' := i_nle c4
        refine r_iload_n 2 C dX0_fit_26 rfl ?_
        refine r_iconst (v := 5) C dX0_fit_27 (by decide) ?_
        refine r_icmp_lt 53 C dX0_fit_28 (by decide) (fun c20 => ?_) (fun c20 => ?_)
        · have c20' := i_lt c20
          refine r_iload_n 2 C dX0_fit_53 rfl ?_
          refine r_i2l C dX0_fit_54 (fun v21 e22 => ?_)
          have v21' := i2l_ok e22
          refine r_bipush (v := 42) C dX0_fit_55 (by decide) ?_
          refine r_lshl C dX0_fit_57 (fun v23 e24 => ?_)
          refine r_aload_n 0 C dX0_fit_58 rfl ?_
          refine callVL C cwX0_106_V (ctX6_places_85 _ _ w (sS sC h0) o0  ) (by decide) (kS sC h0 kc_85) rfl rfl rfl (Nat.le_of_ble_eq_true rfl) (by decide) dX0_fit_59 (fun r27 w26 y25 => ?_)
          show V x 0 0 w26 62 [(2, .ref (gz (xG x) + 85)), (0, .ref (gz (xG x) + 80)), (1, .int 0)] [.long r27, .long v23]
          obtain ⟨h28, o29⟩ := y25
          have h30 := Ch.tr h0 h28 (by decide) (by decide)
          refine r_lor C dX0_fit_62 (fun v31 e32 => ?_)
          refine r_lstore_n [(3, .long v31), (2, .ref (gz (xG x) + 85)), (0, .ref (gz (xG x) + 80)), (1, .int 0)] C dX0_fit_63 (by decide) rfl ?_
          refine r_aload_n 1 C dX0_fit_64 rfl ?_
          refine callVL C cwX0_110_V (ctX6_goals_85 _ _ w26 (sS sC h30) o29  ) (by decide) (kS sC h30 kc_85) rfl rfl rfl (Nat.le_of_ble_eq_true rfl) (by decide) dX0_fit_65 (fun r35 w34 y33 => ?_)
          show V x 0 0 w34 68 [(3, .long v31), (2, .ref (gz (xG x) + 85)), (0, .ref (gz (xG x) + 80)), (1, .int 0)] [.long r35]
          obtain ⟨h36, o37⟩ := y33
          have h38 := Ch.tr h30 h36 (by decide) (by decide)
          refine r_lstore [(5, .long r35), (3, .long v31), (2, .ref (gz (xG x) + 85)), (0, .ref (gz (xG x) + 80)), (1, .int 0)] C dX0_fit_68 (by decide) rfl ?_
          refine r_aload_n 3 C dX0_fit_70 rfl ?_
          refine gfX0_35 51 C (kS sC h38 kc_80) (xS sC h38 xc_80_7) dX0_fit_71 ?_
          refine r_lload_n 1 C dX0_fit_74 rfl ?_
          refine r_lload 0 C dX0_fit_75 rfl ?_
          refine callVI C cwX0_113_V (ctX3_value_51 _ _ w34 (sS sC h38) o37 v31 r35 ) (by decide) (kS sC h38 kc_51) rfl rfl rfl (Nat.le_of_ble_eq_true rfl) (by decide) dX0_fit_77 (fun r41 w40 y39 => ?_)
          show V x 0 0 w40 80 [(5, .long r35), (3, .long v31), (2, .ref (gz (xG x) + 85)), (0, .ref (gz (xG x) + 80)), (1, .int 0)] [.int r41]
          obtain ⟨h42, o43⟩ := y39
          have h44 := Ch.tr h38 h42 (by decide) (by decide)
          refine r_istore [(7, .int r41), (5, .long r35), (3, .long v31), (2, .ref (gz (xG x) + 85)), (0, .ref (gz (xG x) + 80)), (1, .int 0)] C dX0_fit_80 (by decide) rfl ?_
          refine r_iload 0 C dX0_fit_82 rfl ?_
          refine r_iconst (v := (-1)) C dX0_fit_84 (by decide) ?_
          refine r_icmp_eq 91 C dX0_fit_85 (by decide) (fun c45 => ?_) (fun c45 => ?_)
          · have c45' := i_eq c45
            refine r_aload_n 4 C dX0_fit_91 rfl ?_
            refine r_iload_n 5 C dX0_fit_92 rfl ?_
            refine callVI C cwX0_117_V (ctX0_fitSteps_80_d0 _ _ w40 (sS sC h44) o43 0 (by omega)) (by decide) (kS sC h44 kc_80) rfl rfl rfl (Nat.le_of_ble_eq_true rfl) (by decide) dX0_fit_93 (fun r48 w47 y46 => ?_)
            show V x 0 0 w47 96 [(7, .int r41), (5, .long r35), (3, .long v31), (2, .ref (gz (xG x) + 85)), (0, .ref (gz (xG x) + 80)), (1, .int 0)] [.int r48]
            obtain ⟨h49, o50⟩ := y46
            have h51 := Ch.tr h44 h49 (by decide) (by decide)
            refine r_istore [(8, .int r48), (7, .int r41), (5, .long r35), (3, .long v31), (2, .ref (gz (xG x) + 85)), (0, .ref (gz (xG x) + 80)), (1, .int 0)] C dX0_fit_96 (by decide) rfl ?_
            refine r_aload_n 5 C dX0_fit_98 rfl ?_
            refine gfX0_35 51 C (kS sC h51 kc_80) (xS sC h51 xc_80_7) dX0_fit_99 ?_
            refine r_lload_n 3 C dX0_fit_102 rfl ?_
            refine r_lload 2 C dX0_fit_103 rfl ?_
            refine r_iload 0 C dX0_fit_105 rfl ?_
            refine callVV C cwX0_120_V (ctX3_put_51 _ _ w47 (sS sC h51) o50 v31 r35 r48 ) (by decide) (kS sC h51 kc_51) rfl rfl rfl (Nat.le_of_ble_eq_true rfl) (by decide) dX0_fit_107 (fun w53 y52 => ?_)
            show V x 0 0 w53 110 [(8, .int r48), (7, .int r41), (5, .long r35), (3, .long v31), (2, .ref (gz (xG x) + 85)), (0, .ref (gz (xG x) + 80)), (1, .int 0)] []
            obtain ⟨h55, o56⟩ := y52
            have h57 := Ch.tr h51 h55 (by decide) (by decide)
            refine r_iload 0 C dX0_fit_110 rfl ?_
            exact hret _ _ _ _ dX0_fit_112 rfl ⟨h57, o56⟩
          · have c45' := i_ne c45
            refine r_iload 0 C dX0_fit_88 rfl ?_
            exact hret _ _ _ _ dX0_fit_90 rfl ⟨h44, o43⟩
        · have c20' := i_nlt c20
          exfalso; omega
    · have c2' := i_nle c2
      exfalso; omega
set_option maxHeartbeats 4000000 in
set_option maxRecDepth 100000 in
theorem ctX0_search_80_35 (l : Launch) (G : Gt) (w : Wv) (sC : Str KC XC w) (o0 : Inv RC w) (a2 : Int32) (a3 : Int32) (b2 : 1 ≤ a2.toInt ∧ a2.toInt ≤ 5) : CtV l G yX0_search cX0_search 4 ({ frames := 14, cells := 0, slots := 0, locals := 355 } : Room) [.ref (gz G + 80), .ref (gz G + 35), .int a2, .int a3] w (fun w' => Ch [25, 26, 27, 52, 53, 54, 82, 83, 84, 86, 87, 89, 90, 92, 93, 95, 96, 98, 99, 101, 102] [(80, 0), (80, 8), (80, 9), (80, 10), (80, 11), (85, 0), (85, 1), (88, 0), (88, 1), (91, 0), (91, 1), (94, 0), (94, 1), (97, 0), (97, 1), (100, 0), (100, 1)] w w' ∧ Inv RC w') := by
  refine enterV (by decide) (Nat.le_of_ble_eq_true rfl) ?_
  intro x el eG C hnm hret
  subst el; subst eG
  show V x 0 0 w 0 [(0, .ref (gz (xG x) + 80)), (1, .ref (gz (xG x) + 35)), (2, .int a2), (3, .int a3)] []
  have h0 : Ch [25, 26, 27, 52, 53, 54, 82, 83, 84, 86, 87, 89, 90, 92, 93, 95, 96, 98, 99, 101, 102] [(80, 0), (80, 8), (80, 9), (80, 10), (80, 11), (85, 0), (85, 1), (88, 0), (88, 1), (91, 0), (91, 1), (94, 0), (94, 1), (97, 0), (97, 1), (100, 0), (100, 1)] w w := Ch.rf
  have q0 : (0 : Int32).toInt = 0 := by decide
  refine r_aload_n 0 C dX0_search_0 rfl ?_
  refine r_iload_n 2 C dX0_search_1 rfl ?_
  refine pfX0_46 C (kS sC h0 kc_80) dX0_search_2 (fun w1 e2 => ?_)
  have h3 := Ch.putF h0 e2 (by decide)
  have o4 := Inv.put o0 e2 0 5 (by omega) (by decide)
  refine r_aload_n 0 C dX0_search_5 rfl ?_
  refine r_aload_n 0 C dX0_search_6 rfl ?_
  refine gfX0_31 47 C (kS sC h3 kc_80) (xS sC h3 xc_80_1) dX0_search_7 ?_
  refine r_iload_n 2 C dX0_search_10 rfl ?_
  refine callVI C cwX0_50_V (ctX7_latest_47 _ _ w1 (sS sC h3) o4 a2 (by omega)) (by decide) (kS sC h3 kc_47) rfl rfl rfl (Nat.le_of_ble_eq_true rfl) (by decide) dX0_search_11 (fun r7 w6 y5 => ?_)
  show V x 0 0 w6 14 [(0, .ref (gz (xG x) + 80)), (1, .ref (gz (xG x) + 35)), (2, .int a2), (3, .int a3)] [.int r7, .ref (gz (xG x) + 80)]
  obtain ⟨h8, o9, g10⟩ := y5
  have h11 := Ch.tr h3 h8 (by decide) (by decide)
  refine pfX0_56 C (kS sC h11 kc_80) dX0_search_14 (fun w12 e13 => ?_)
  have h14 := Ch.putF h11 e13 (by decide)
  have o15 := Inv.put o9 e13 0 5 (by omega) (by decide)
  refine r_aload_n 0 C dX0_search_17 rfl ?_
  refine r_iload_n 3 C dX0_search_18 rfl ?_
  refine pfX0_58 C (kS sC h14 kc_80) dX0_search_19 (fun w16 e17 => ?_)
  have h18 := Ch.putF h14 e17 (by decide)
  have k20 := i_rng a3
  have o19 := Inv.putk o15 e17 (by decide)
  refine r_aload_n 0 C dX0_search_22 rfl ?_
  refine r_iconst (v := 0) C dX0_search_23 (by decide) ?_
  refine pfX0_42 C (kS sC h18 kc_80) (z_of (by omega)) dX0_search_24 (fun w21 e22 => ?_)
  have h23 := Ch.putF h18 e22 (by decide)
  have o24 := Inv.putk o19 e22 (by decide)
  refine r_aload_n 0 C dX0_search_27 rfl ?_
  refine gfX0_11 81 C (kS sC h23 kc_80) (xS sC h23 xc_80_3) dX0_search_28 ?_
  refine r_iconst (v := 0) C dX0_search_31 (by decide) ?_
  refine r_aald 3 rfl C (kS sC h23 kc_81) (vin (by omega) (by omega)) (xS sC h23 xc_81_0) dX0_search_32 ?_
  refine r_aload_n 1 C dX0_search_33 rfl ?_
  refine callVV C cwX0_61_V (ctX6_copy_85_35 _ _ w21 (sS sC h23) o24  ) (by decide) (kS sC h23 kc_85) rfl rfl rfl (Nat.le_of_ble_eq_true rfl) (by decide) dX0_search_34 (fun w26 y25 => ?_)
  show V x 0 0 w26 37 [(0, .ref (gz (xG x) + 80)), (1, .ref (gz (xG x) + 35)), (2, .int a2), (3, .int a3)] []
  obtain ⟨h28, o29⟩ := y25
  have h30 := Ch.tr h23 h28 (by decide) (by decide)
  refine r_aload_n 0 C dX0_search_37 rfl ?_
  refine gfX0_35 51 C (kS sC h30 kc_80) (xS sC h30 xc_80_7) dX0_search_38 ?_
  refine callVV C cwX0_65_V (ctX3_clear_51 _ _ w26 (sS sC h30) o29  ) (by decide) (kS sC h30 kc_51) rfl rfl rfl (Nat.le_of_ble_eq_true rfl) (by decide) dX0_search_41 (fun w32 y31 => ?_)
  show V x 0 0 w32 44 [(0, .ref (gz (xG x) + 80)), (1, .ref (gz (xG x) + 35)), (2, .int a2), (3, .int a3)] []
  obtain ⟨h34, o35⟩ := y31
  have h36 := Ch.tr h30 h34 (by decide) (by decide)
  refine r_aload_n 0 C dX0_search_44 rfl ?_
  refine callVV C cwX0_70_V (ctX0_countFree_80 _ _ w32 (sS sC h36) o35  ) (by decide) (kS sC h36 kc_80) rfl rfl rfl (Nat.le_of_ble_eq_true rfl) (by decide) dX0_search_45 (fun w38 y37 => ?_)
  show V x 0 0 w38 48 [(0, .ref (gz (xG x) + 80)), (1, .ref (gz (xG x) + 35)), (2, .int a2), (3, .int a3)] []
  obtain ⟨h40, o41⟩ := y37
  have h42 := Ch.tr h36 h40 (by decide) (by decide)
  refine r_aload_n 0 C dX0_search_48 rfl ?_
  refine r_aload_n 0 C dX0_search_49 rfl ?_
  refine r_iconst (v := 0) C dX0_search_50 (by decide) ?_
  refine callVI C cwX0_73_V (ctX0_fit_80_d0 _ _ w38 (sS sC h42) o41 0 (by omega)) (by decide) (kS sC h42 kc_80) rfl rfl rfl (Nat.le_of_ble_eq_true rfl) (by decide) dX0_search_51 (fun r45 w44 y43 => ?_)
  show V x 0 0 w44 54 [(0, .ref (gz (xG x) + 80)), (1, .ref (gz (xG x) + 35)), (2, .int a2), (3, .int a3)] [.int r45, .ref (gz (xG x) + 80)]
  obtain ⟨h46, o47⟩ := y43
  have h48 := Ch.tr h42 h46 (by decide) (by decide)
  refine pfX0_76 C (kS sC h48 kc_80) dX0_search_54 (fun w49 e50 => ?_)
  have h51 := Ch.putF h48 e50 (by decide)
  have k53 := i_rng r45
  have o52 := Inv.putk o47 e50 (by decide)
  exact hret _ _ _ dX0_search_57 ⟨h51, o52⟩
set_option maxHeartbeats 4000000 in
set_option maxRecDepth 100000 in
theorem ctX5_add_1 (l : Launch) (G : Gt) (w : Wv) (sC : Str KC XC w) (o0 : Inv RC w) (u : Int32) (pu : wI w 1 0 = u) (bu : 0 ≤ u.toInt ∧ u.toInt ≤ 499) (a1 : Int32) : CtV l G yX5_add cX5_add 2 ({ frames := 0, cells := 0, slots := 0, locals := 0 } : Room) [.ref (gz G + 1), .int a1] w (fun w' => Ch [2] [(1, 0)] w w' ∧ Inv RC w' ∧ (wI w' 1 0).toInt = u.toInt + 1) := by
  refine enterV (by decide) (Nat.le_of_ble_eq_true rfl) ?_
  intro x el eG C hnm hret
  subst el; subst eG
  show V x 0 0 w 0 [(0, .ref (gz (xG x) + 1)), (1, .int a1)] []
  have h0 : Ch [2] [(1, 0)] w w := Ch.rf
  have q1 : (1 : Int32).toInt = 1 := by decide
  have q500 : (500 : Int32).toInt = 500 := by decide
  refine r_aload_n 0 C dX5_add_0 rfl ?_
  refine gfX5_19 (v := u) C (kS sC h0 kc_1) pu dX5_add_1 ?_
  refine r_sipush (v := 500) C dX5_add_4 (by decide) ?_
  refine r_icmp_ge 30 C dX5_add_7 (by decide) (fun c1 => ?_) (fun c1 => ?_)
  · have c1' := i_le c1
    exfalso; omega
  · have c1' := i_nle c1
    refine r_aload_n 0 C dX5_add_10 rfl ?_
    refine gfX5_15 2 C (kS sC h0 kc_1) (xS sC h0 xc_1_3) dX5_add_11 ?_
    refine r_aload_n 0 C dX5_add_14 rfl ?_
    refine gfX5_19 (v := u) C (kS sC h0 kc_1) pu dX5_add_15 ?_
    refine r_iload_n 1 C dX5_add_18 rfl ?_
    refine r_iast C (kS sC h0 kc_2) (vin (by omega) (by omega)) dX5_add_19 (fun w2 e3 => ?_)
    have h4 := Ch.putS h0 e3 (by decide)
    have o5 := Inv.put0 o0 e3 (by decide)
    refine r_aload_n 0 C dX5_add_20 rfl ?_
    refine r_dup C dX5_add_21 rfl ?_
    refine gfX5_19 (v := u) C (kS sC h4 kc_1) (g_nn e3 (by decide) pu) dX5_add_22 ?_
    refine r_iconst (v := 1) C dX5_add_25 (by decide) ?_
    refine r_iadd C dX5_add_26 (fun v6 e7 => ?_)
    have v6' := iadd_ok e7 (by omega) (by omega)
    refine pfX5_19 C (kS sC h4 kc_1) dX5_add_27 (fun w8 e9 => ?_)
    have h10 := Ch.putF h4 e9 (by decide)
    have o11 := Inv.put o5 e9 0 500 (by omega) (by decide)
    exact hret _ _ _ dX5_add_30 ⟨h10, o11, (by rw [(g_eq e9)]; omega)⟩
set_option maxHeartbeats 4000000 in
set_option maxRecDepth 100000 in
theorem ctX5_blame_1 (l : Launch) (G : Gt) (w : Wv) (sC : Str KC XC w) (o0 : Inv RC w) (a1 : Int32) (a2 : Int32) (b1 : 1 ≤ a1.toInt ∧ a1.toInt ≤ 4) : CtV l G yX5_blame cX5_blame 3 ({ frames := 0, cells := 0, slots := 0, locals := 0 } : Room) [.ref (gz G + 1), .int a1, .int a2] w (fun w' => Ch [] [(1, 1), (1, 2)] w w' ∧ Inv RC w' ∧ ¬ (wI w' 1 1).toInt = 0) := by
  refine enterV (by decide) (Nat.le_of_ble_eq_true rfl) ?_
  intro x el eG C hnm hret
  subst el; subst eG
  show V x 0 0 w 0 [(0, .ref (gz (xG x) + 1)), (1, .int a1), (2, .int a2)] []
  have h0 : Ch [] [(1, 1), (1, 2)] w w := Ch.rf
  have q0 : (0 : Int32).toInt = 0 := by decide
  refine r_aload_n 0 C dX5_blame_0 rfl ?_
  refine gfX5_30 (v := (wI w 1 1)) C (kS sC h0 kc_1) rfl dX5_blame_1 ?_
  refine r_if_ne 17 C dX5_blame_4 (by decide) (fun c1 => ?_) (fun c1 => ?_)
  · have c1' := i_ne c1
    exact hret _ _ _ dX5_blame_17 ⟨h0, o0, (by omega)⟩
  · have c1' := i_eq c1
    refine r_aload_n 0 C dX5_blame_7 rfl ?_
    refine r_iload_n 1 C dX5_blame_8 rfl ?_
    refine pfX5_30 C (kS sC h0 kc_1) dX5_blame_9 (fun w2 e3 => ?_)
    have h4 := Ch.putF h0 e3 (by decide)
    have o5 := Inv.putk o0 e3 (by decide)
    refine r_aload_n 0 C dX5_blame_12 rfl ?_
    refine r_iload_n 2 C dX5_blame_13 rfl ?_
    refine pfX5_9 C (kS sC h4 kc_1) dX5_blame_14 (fun w6 e7 => ?_)
    have h8 := Ch.putF h4 e7 (by decide)
    have k10 := i_rng a2
    have o9 := Inv.putk o5 e7 (by decide)
    exact hret _ _ _ dX5_blame_17 ⟨h8, o9, (by rw [(g_nk e7 (by decide) (g_eq e3))]; omega)⟩
set_option maxHeartbeats 4000000 in
set_option maxRecDepth 100000 in
theorem ctX5_skipBlanks_1 (l : Launch) (G : Gt) (w : Wv) (sC : Str KC XC w) (o0 : Inv RC w)  : CtV l G yX5_skipBlanks cX5_skipBlanks 1 ({ frames := 0, cells := 0, slots := 0, locals := 0 } : Room) [.ref (gz G + 1)] w (fun w' => Ch [] [(1, 4)] w w' ∧ Inv RC w') := by
  refine enterV (by decide) (Nat.le_of_ble_eq_true rfl) ?_
  intro x el eG C hnm hret
  subst el; subst eG
  show V x 0 0 w 0 [(0, .ref (gz (xG x) + 1))] []
  have h0 : Ch [] [(1, 4)] w w := Ch.rf
  have q1 : (1 : Int32).toInt = 1 := by decide
  have q32 : (32 : Int32).toInt = 32 := by decide
  have LP1 : ∀ (f2 : Nat) (w3 : Wv), Ch [] [(1, 4)] w w3 → Inv RC w3 → 500 - (wI w3 1 4).toInt < f2 → V x 0 0 w3 0 [(0, .ref (gz (xG x) + 1))] [] := by
    intro f2
    induction f2 with
    | zero => intro  w3 h4 o5  z6; have b0 := Inv.get o5 rt_1_4 (j := 4) (by decide) (by decide); exfalso; omega
    | succ f2 ih7 =>
      intro  w3 h4 o5  z6
      refine r_aload_n 0 C dX5_skipBlanks_0 rfl ?_
      refine gfX5_27 (v := (wI w3 1 4)) C (kS sC h4 kc_1) rfl dX5_skipBlanks_1 ?_
      have b8 := Inv.get o5 rt_1_4 (j := 4) (by decide) (by decide)
      refine r_aload_n 0 C dX5_skipBlanks_4 rfl ?_
      refine gfX5_19 (v := (wI w 1 0)) C (kS sC h4 kc_1) (h4.I (by decide) (by decide) rfl) dX5_skipBlanks_5 ?_
      have b9 := Inv.get o0 rt_1_0 (j := 0) (by decide) (by decide)
      refine r_icmp_ge 38 C dX5_skipBlanks_8 (by decide) (fun c10 => ?_) (fun c10 => ?_)
      · have c10' := i_le c10
        exact hret _ _ _ dX5_skipBlanks_38 ⟨h4, o5⟩
      · have c10' := i_nle c10
        refine r_aload_n 0 C dX5_skipBlanks_11 rfl ?_
        refine gfX5_15 2 C (kS sC h4 kc_1) (xS sC h4 xc_1_3) dX5_skipBlanks_12 ?_
        refine r_aload_n 0 C dX5_skipBlanks_15 rfl ?_
        refine gfX5_27 (v := (wI w3 1 4)) C (kS sC h4 kc_1) rfl dX5_skipBlanks_16 ?_
        refine r_iald C (kS sC h4 kc_2) (vin (by omega) (by omega)) dX5_skipBlanks_19 ?_
        generalize (wI w3 2 ((wI w3 1 4)).toNatClampNeg) = v11
        refine r_bipush (v := 32) C dX5_skipBlanks_20 (by decide) ?_
        refine r_icmp_ne 38 C dX5_skipBlanks_22 (by decide) (fun c12 => ?_) (fun c12 => ?_)
        · have c12' := i_ne c12
          exact hret _ _ _ dX5_skipBlanks_38 ⟨h4, o5⟩
        · have c12' := i_eq c12
          refine r_aload_n 0 C dX5_skipBlanks_25 rfl ?_
          refine r_dup C dX5_skipBlanks_26 rfl ?_
          refine gfX5_27 (v := (wI w3 1 4)) C (kS sC h4 kc_1) rfl dX5_skipBlanks_27 ?_
          refine r_iconst (v := 1) C dX5_skipBlanks_30 (by decide) ?_
          refine r_iadd C dX5_skipBlanks_31 (fun v13 e14 => ?_)
          have v13' := iadd_ok e14 (by omega) (by omega)
          refine pfX5_27 C (kS sC h4 kc_1) dX5_skipBlanks_32 (fun w15 e16 => ?_)
          have h17 := Ch.putF h4 e16 (by decide)
          have o18 := Inv.put o5 e16 0 500 (by omega) (by decide)
          refine r_goto 0 C dX5_skipBlanks_35 (by decide) ?_
          refine r_lv [0] rfl ?_
          exact ih7  w15 h17 o18 (by rw [(g_eq e16)]; omega)
  refine r_lv [0] rfl ?_
  have b19 := Inv.get o0 rt_1_4 (j := 4) (by decide) (by decide)
  exact LP1 4294967296  w h0 o0 (by omega)
set_option maxHeartbeats 4000000 in
set_option maxRecDepth 100000 in
theorem ctX5_isWord_1_0 (l : Launch) (G : Gt) (w : Wv) (sC : Str KC XC w) (o0 : Inv RC w) (a1 : Int32) (b1 : 0 ≤ a1.toInt ∧ a1.toInt ≤ 500) : CtI l G yX5_isWord cX5_isWord 5 .boolean ({ frames := 6, cells := 0, slots := 0, locals := 140 } : Room) [.ref (gz G + 1), .int a1, .ref (gK G 0)] w (fun r w' => Ch [] [] w w' ∧ Inv RC w' ∧ ((0 ≤ r.toInt ∧ r.toInt ≤ 1))) := by
  refine enterI (by decide) (Nat.le_of_ble_eq_true rfl) ?_
  intro x el eG C hret
  subst el; subst eG
  show V x 0 0 w 0 [(0, .ref (gz (xG x) + 1)), (1, .int a1), (2, .ref (gK (xG x) 0))] []
  have h0 : Ch [] [] w w := Ch.rf
  have q0 : (0 : Int32).toInt = 0 := by decide
  have q1 : (1 : Int32).toInt = 1 := by decide
  have LP12 : ∀ (f13 : Nat) (u10 : Int32) (u11 : Int32) (w14 : Wv), Ch [] [] w w14 → Inv RC w14 → (0 ≤ u10.toInt ∧ u10.toInt ≤ 1) → (0 ≤ u11.toInt ∧ u11.toInt ≤ 2147483647) → 2147483647 - u11.toInt < f13 → V x 0 0 w14 22 [(0, .ref (gz (xG x) + 1)), (1, .int a1), (2, .ref (gK (xG x) 0)), (3, .int u10), (4, .int u11)] [] := by
    intro f13
    induction f13 with
    | zero => intro u10 u11 w14 h15 o16 z17 z18 z19; exfalso; omega
    | succ f13 ih20 =>
      intro u10 u11 w14 h15 o16 z17 z18 z19
      refine r_iload_n 3 C dX5_isWord_22 rfl ?_
      refine r_if_eq 76 C dX5_isWord_23 (by decide) (fun c21 => ?_) (fun c21 => ?_)
      · have c21' := i_eq c21
        refine r_iload_n 3 C dX5_isWord_76 rfl ?_
        exact hret _ _ _ _ dX5_isWord_77 (nar_z (z_of (by omega))) ⟨h15, o16, by omega⟩
      · have c21' := i_ne c21
        refine r_iload 4 C dX5_isWord_26 rfl ?_
        refine r_aload_n 2 C dX5_isWord_28 rfl ?_
        refine callKI (i := 0) (by decide) C cwX5_160_V (ct_len _ _ w14 0 (by decide)) (by decide) rfl rfl (Nat.le_of_ble_eq_true rfl) (by decide) dX5_isWord_29 (fun r22 w23 y24 => ?_)
        obtain ⟨y24, g25⟩ := y24
        obtain rfl := y24.symm
        have k26 : sLen.getD 0 0 = 4 := by decide
        show V x 0 0 w14 32 [(0, .ref (gz (xG x) + 1)), (1, .int a1), (2, .ref (gK (xG x) 0)), (3, .int u10), (4, .int u11)] [.int r22, .int u11]
        have k28 := i_rng u11
        refine r_icmp_ge 76 C dX5_isWord_32 (by decide) (fun c27 => ?_) (fun c27 => ?_)
        · have c27' := i_le c27
          refine r_iload_n 3 C dX5_isWord_76 rfl ?_
          exact hret _ _ _ _ dX5_isWord_77 (nar_z (z_of (by omega))) ⟨h15, o16, by omega⟩
        · have c27' := i_nle c27
          refine r_iload_n 1 C dX5_isWord_35 rfl ?_
          refine r_iload 4 C dX5_isWord_36 rfl ?_
          refine r_iadd C dX5_isWord_38 (fun v29 e30 => ?_)
          have v29' := iadd_ok e30 (by omega) (by omega)
          refine r_aload_n 0 C dX5_isWord_39 rfl ?_
          refine gfX5_19 (v := (wI w 1 0)) C (kS sC h15 kc_1) (h15.I (by decide) (by decide) rfl) dX5_isWord_40 ?_
          have b31 := Inv.get o0 rt_1_0 (j := 0) (by decide) (by decide)
          refine r_icmp_ge 76 C dX5_isWord_43 (by decide) (fun c32 => ?_) (fun c32 => ?_)
          · have c32' := i_le c32
            refine r_iload_n 3 C dX5_isWord_76 rfl ?_
            exact hret _ _ _ _ dX5_isWord_77 (nar_z (z_of (by omega))) ⟨h15, o16, by omega⟩
          · have c32' := i_nle c32
            refine r_aload_n 0 C dX5_isWord_46 rfl ?_
            refine gfX5_15 2 C (kS sC h15 kc_1) (xS sC h15 xc_1_3) dX5_isWord_47 ?_
            refine r_iload_n 1 C dX5_isWord_50 rfl ?_
            refine r_iload 4 C dX5_isWord_51 rfl ?_
            refine r_iadd C dX5_isWord_53 (fun v33 e34 => ?_)
            have v33' := iadd_ok e34 (by omega) (by omega)
            refine r_iald C (kS sC h15 kc_2) (vin (by omega) (by omega)) dX5_isWord_54 ?_
            generalize (wI w14 2 (v33).toNatClampNeg) = v35
            refine r_aload_n 2 C dX5_isWord_55 rfl ?_
            refine r_iload 4 C dX5_isWord_56 rfl ?_
            refine callKI (i := 0) (by decide) C cwX5_164_V (ct_chr _ _ w14 0 u11 (by decide) (vin (n := 4) (by omega) (by omega))) (by decide) rfl rfl (Nat.le_of_ble_eq_true rfl) (by decide) dX5_isWord_58 (fun r36 w37 y38 => ?_)
            obtain ⟨y38, g39⟩ := y38
            obtain rfl := y38.symm
            show V x 0 0 w14 61 [(0, .ref (gz (xG x) + 1)), (1, .int a1), (2, .ref (gK (xG x) 0)), (3, .int u10), (4, .int u11)] [.int r36, .int v35]
            refine r_icmp_ne 68 C dX5_isWord_61 (by decide) (fun c40 => ?_) (fun c40 => ?_)
            · have c40' := i_ne c40
              refine r_iconst (v := 0) C dX5_isWord_68 (by decide) ?_
              refine r_istore_n [(3, .int 0), (0, .ref (gz (xG x) + 1)), (1, .int a1), (2, .ref (gK (xG x) 0)), (4, .int u11)] C dX5_isWord_69 (by decide) rfl ?_
              obtain ⟨i41, e42⟩ : ∃ z : Int32, u11 + Int32.ofInt 1 = z := ⟨_, rfl⟩
              have i41' := iinc_ok e42 (by decide) (by omega) (by omega)
              refine r_iinc [(4, .int i41), (3, .int 0), (0, .ref (gz (xG x) + 1)), (1, .int a1), (2, .ref (gK (xG x) 0))] 4 C dX5_isWord_70 rfl e42 (by decide) rfl ?_
              refine r_goto 22 C dX5_isWord_73 (by decide) ?_
              refine r_lv [2, 3, 4, 1, 0] rfl ?_
              exact ih20 0 i41 w14 h15 o16 (by omega) (by omega) (by omega)
            · have c40' := i_eq c40
              refine r_iconst (v := 1) C dX5_isWord_64 (by decide) ?_
              refine r_goto 69 C dX5_isWord_65 (by decide) ?_
              refine r_istore_n [(3, .int 1), (0, .ref (gz (xG x) + 1)), (1, .int a1), (2, .ref (gK (xG x) 0)), (4, .int u11)] C dX5_isWord_69 (by decide) rfl ?_
              obtain ⟨i43, e44⟩ : ∃ z : Int32, u11 + Int32.ofInt 1 = z := ⟨_, rfl⟩
              have i43' := iinc_ok e44 (by decide) (by omega) (by omega)
              refine r_iinc [(4, .int i43), (3, .int 1), (0, .ref (gz (xG x) + 1)), (1, .int a1), (2, .ref (gK (xG x) 0))] 4 C dX5_isWord_70 rfl e44 (by decide) rfl ?_
              refine r_goto 22 C dX5_isWord_73 (by decide) ?_
              refine r_lv [2, 3, 4, 1, 0] rfl ?_
              exact ih20 1 i43 w14 h15 o16 (by omega) (by omega) (by omega)
  refine r_aload_n 0 C dX5_isWord_0 rfl ?_
  refine gfX5_27 (v := (wI w 1 4)) C (kS sC h0 kc_1) rfl dX5_isWord_1 ?_
  have b1 := Inv.get o0 rt_1_4 (j := 4) (by decide) (by decide)
  refine r_iload_n 1 C dX5_isWord_4 rfl ?_
  refine r_isub C dX5_isWord_5 (fun v2 e3 => ?_)
  have v2' := isub_ok e3 (by omega) (by omega)
  refine r_aload_n 2 C dX5_isWord_6 rfl ?_
  refine callKI (i := 0) (by decide) C cwX5_160_V (ct_len _ _ w 0 (by decide)) (by decide) rfl rfl (Nat.le_of_ble_eq_true rfl) (by decide) dX5_isWord_7 (fun r4 w5 y6 => ?_)
  obtain ⟨y6, g7⟩ := y6
  obtain rfl := y6.symm
  have k8 : sLen.getD 0 0 = 4 := by decide
  show V x 0 0 w 10 [(0, .ref (gz (xG x) + 1)), (1, .int a1), (2, .ref (gK (xG x) 0))] [.int r4, .int v2]
  refine r_icmp_ne 17 C dX5_isWord_10 (by decide) (fun c9 => ?_) (fun c9 => ?_)
  · have c9' := i_ne c9
    refine r_iconst (v := 0) C dX5_isWord_17 (by decide) ?_
    refine r_istore_n [(3, .int 0), (0, .ref (gz (xG x) + 1)), (1, .int a1), (2, .ref (gK (xG x) 0))] C dX5_isWord_18 (by decide) rfl ?_
    refine r_iconst (v := 0) C dX5_isWord_19 (by decide) ?_
    refine r_istore [(4, .int 0), (3, .int 0), (0, .ref (gz (xG x) + 1)), (1, .int a1), (2, .ref (gK (xG x) 0))] C dX5_isWord_20 (by decide) rfl ?_
    refine r_lv [2, 3, 4, 1, 0] rfl ?_
    exact LP12 4294967296 0 0 w h0 o0 (by omega) (by omega) (by omega)
  · have c9' := i_eq c9
    refine r_iconst (v := 1) C dX5_isWord_13 (by decide) ?_
    refine r_goto 18 C dX5_isWord_14 (by decide) ?_
    refine r_istore_n [(3, .int 1), (0, .ref (gz (xG x) + 1)), (1, .int a1), (2, .ref (gK (xG x) 0))] C dX5_isWord_18 (by decide) rfl ?_
    refine r_iconst (v := 0) C dX5_isWord_19 (by decide) ?_
    refine r_istore [(4, .int 0), (3, .int 1), (0, .ref (gz (xG x) + 1)), (1, .int a1), (2, .ref (gK (xG x) 0))] C dX5_isWord_20 (by decide) rfl ?_
    refine r_lv [2, 3, 4, 1, 0] rfl ?_
    exact LP12 4294967296 1 0 w h0 o0 (by omega) (by omega) (by omega)
set_option maxHeartbeats 4000000 in
set_option maxRecDepth 100000 in
theorem ctX5_isWord_1_1 (l : Launch) (G : Gt) (w : Wv) (sC : Str KC XC w) (o0 : Inv RC w) (a1 : Int32) (b1 : 0 ≤ a1.toInt ∧ a1.toInt ≤ 500) : CtI l G yX5_isWord cX5_isWord 5 .boolean ({ frames := 6, cells := 0, slots := 0, locals := 140 } : Room) [.ref (gz G + 1), .int a1, .ref (gK G 1)] w (fun r w' => Ch [] [] w w' ∧ Inv RC w' ∧ ((0 ≤ r.toInt ∧ r.toInt ≤ 1))) := by
  refine enterI (by decide) (Nat.le_of_ble_eq_true rfl) ?_
  intro x el eG C hret
  subst el; subst eG
  show V x 0 0 w 0 [(0, .ref (gz (xG x) + 1)), (1, .int a1), (2, .ref (gK (xG x) 1))] []
  have h0 : Ch [] [] w w := Ch.rf
  have q0 : (0 : Int32).toInt = 0 := by decide
  have q1 : (1 : Int32).toInt = 1 := by decide
  have LP12 : ∀ (f13 : Nat) (u10 : Int32) (u11 : Int32) (w14 : Wv), Ch [] [] w w14 → Inv RC w14 → (0 ≤ u10.toInt ∧ u10.toInt ≤ 1) → (0 ≤ u11.toInt ∧ u11.toInt ≤ 2147483647) → 2147483647 - u11.toInt < f13 → V x 0 0 w14 22 [(0, .ref (gz (xG x) + 1)), (1, .int a1), (2, .ref (gK (xG x) 1)), (3, .int u10), (4, .int u11)] [] := by
    intro f13
    induction f13 with
    | zero => intro u10 u11 w14 h15 o16 z17 z18 z19; exfalso; omega
    | succ f13 ih20 =>
      intro u10 u11 w14 h15 o16 z17 z18 z19
      refine r_iload_n 3 C dX5_isWord_22 rfl ?_
      refine r_if_eq 76 C dX5_isWord_23 (by decide) (fun c21 => ?_) (fun c21 => ?_)
      · have c21' := i_eq c21
        refine r_iload_n 3 C dX5_isWord_76 rfl ?_
        exact hret _ _ _ _ dX5_isWord_77 (nar_z (z_of (by omega))) ⟨h15, o16, by omega⟩
      · have c21' := i_ne c21
        refine r_iload 4 C dX5_isWord_26 rfl ?_
        refine r_aload_n 2 C dX5_isWord_28 rfl ?_
        refine callKI (i := 1) (by decide) C cwX5_160_V (ct_len _ _ w14 1 (by decide)) (by decide) rfl rfl (Nat.le_of_ble_eq_true rfl) (by decide) dX5_isWord_29 (fun r22 w23 y24 => ?_)
        obtain ⟨y24, g25⟩ := y24
        obtain rfl := y24.symm
        have k26 : sLen.getD 1 0 = 4 := by decide
        show V x 0 0 w14 32 [(0, .ref (gz (xG x) + 1)), (1, .int a1), (2, .ref (gK (xG x) 1)), (3, .int u10), (4, .int u11)] [.int r22, .int u11]
        have k28 := i_rng u11
        refine r_icmp_ge 76 C dX5_isWord_32 (by decide) (fun c27 => ?_) (fun c27 => ?_)
        · have c27' := i_le c27
          refine r_iload_n 3 C dX5_isWord_76 rfl ?_
          exact hret _ _ _ _ dX5_isWord_77 (nar_z (z_of (by omega))) ⟨h15, o16, by omega⟩
        · have c27' := i_nle c27
          refine r_iload_n 1 C dX5_isWord_35 rfl ?_
          refine r_iload 4 C dX5_isWord_36 rfl ?_
          refine r_iadd C dX5_isWord_38 (fun v29 e30 => ?_)
          have v29' := iadd_ok e30 (by omega) (by omega)
          refine r_aload_n 0 C dX5_isWord_39 rfl ?_
          refine gfX5_19 (v := (wI w 1 0)) C (kS sC h15 kc_1) (h15.I (by decide) (by decide) rfl) dX5_isWord_40 ?_
          have b31 := Inv.get o0 rt_1_0 (j := 0) (by decide) (by decide)
          refine r_icmp_ge 76 C dX5_isWord_43 (by decide) (fun c32 => ?_) (fun c32 => ?_)
          · have c32' := i_le c32
            refine r_iload_n 3 C dX5_isWord_76 rfl ?_
            exact hret _ _ _ _ dX5_isWord_77 (nar_z (z_of (by omega))) ⟨h15, o16, by omega⟩
          · have c32' := i_nle c32
            refine r_aload_n 0 C dX5_isWord_46 rfl ?_
            refine gfX5_15 2 C (kS sC h15 kc_1) (xS sC h15 xc_1_3) dX5_isWord_47 ?_
            refine r_iload_n 1 C dX5_isWord_50 rfl ?_
            refine r_iload 4 C dX5_isWord_51 rfl ?_
            refine r_iadd C dX5_isWord_53 (fun v33 e34 => ?_)
            have v33' := iadd_ok e34 (by omega) (by omega)
            refine r_iald C (kS sC h15 kc_2) (vin (by omega) (by omega)) dX5_isWord_54 ?_
            generalize (wI w14 2 (v33).toNatClampNeg) = v35
            refine r_aload_n 2 C dX5_isWord_55 rfl ?_
            refine r_iload 4 C dX5_isWord_56 rfl ?_
            refine callKI (i := 1) (by decide) C cwX5_164_V (ct_chr _ _ w14 1 u11 (by decide) (vin (n := 4) (by omega) (by omega))) (by decide) rfl rfl (Nat.le_of_ble_eq_true rfl) (by decide) dX5_isWord_58 (fun r36 w37 y38 => ?_)
            obtain ⟨y38, g39⟩ := y38
            obtain rfl := y38.symm
            show V x 0 0 w14 61 [(0, .ref (gz (xG x) + 1)), (1, .int a1), (2, .ref (gK (xG x) 1)), (3, .int u10), (4, .int u11)] [.int r36, .int v35]
            refine r_icmp_ne 68 C dX5_isWord_61 (by decide) (fun c40 => ?_) (fun c40 => ?_)
            · have c40' := i_ne c40
              refine r_iconst (v := 0) C dX5_isWord_68 (by decide) ?_
              refine r_istore_n [(3, .int 0), (0, .ref (gz (xG x) + 1)), (1, .int a1), (2, .ref (gK (xG x) 1)), (4, .int u11)] C dX5_isWord_69 (by decide) rfl ?_
              obtain ⟨i41, e42⟩ : ∃ z : Int32, u11 + Int32.ofInt 1 = z := ⟨_, rfl⟩
              have i41' := iinc_ok e42 (by decide) (by omega) (by omega)
              refine r_iinc [(4, .int i41), (3, .int 0), (0, .ref (gz (xG x) + 1)), (1, .int a1), (2, .ref (gK (xG x) 1))] 4 C dX5_isWord_70 rfl e42 (by decide) rfl ?_
              refine r_goto 22 C dX5_isWord_73 (by decide) ?_
              refine r_lv [2, 3, 4, 1, 0] rfl ?_
              exact ih20 0 i41 w14 h15 o16 (by omega) (by omega) (by omega)
            · have c40' := i_eq c40
              refine r_iconst (v := 1) C dX5_isWord_64 (by decide) ?_
              refine r_goto 69 C dX5_isWord_65 (by decide) ?_
              refine r_istore_n [(3, .int 1), (0, .ref (gz (xG x) + 1)), (1, .int a1), (2, .ref (gK (xG x) 1)), (4, .int u11)] C dX5_isWord_69 (by decide) rfl ?_
              obtain ⟨i43, e44⟩ : ∃ z : Int32, u11 + Int32.ofInt 1 = z := ⟨_, rfl⟩
              have i43' := iinc_ok e44 (by decide) (by omega) (by omega)
              refine r_iinc [(4, .int i43), (3, .int 1), (0, .ref (gz (xG x) + 1)), (1, .int a1), (2, .ref (gK (xG x) 1))] 4 C dX5_isWord_70 rfl e44 (by decide) rfl ?_
              refine r_goto 22 C dX5_isWord_73 (by decide) ?_
              refine r_lv [2, 3, 4, 1, 0] rfl ?_
              exact ih20 1 i43 w14 h15 o16 (by omega) (by omega) (by omega)
  refine r_aload_n 0 C dX5_isWord_0 rfl ?_
  refine gfX5_27 (v := (wI w 1 4)) C (kS sC h0 kc_1) rfl dX5_isWord_1 ?_
  have b1 := Inv.get o0 rt_1_4 (j := 4) (by decide) (by decide)
  refine r_iload_n 1 C dX5_isWord_4 rfl ?_
  refine r_isub C dX5_isWord_5 (fun v2 e3 => ?_)
  have v2' := isub_ok e3 (by omega) (by omega)
  refine r_aload_n 2 C dX5_isWord_6 rfl ?_
  refine callKI (i := 1) (by decide) C cwX5_160_V (ct_len _ _ w 1 (by decide)) (by decide) rfl rfl (Nat.le_of_ble_eq_true rfl) (by decide) dX5_isWord_7 (fun r4 w5 y6 => ?_)
  obtain ⟨y6, g7⟩ := y6
  obtain rfl := y6.symm
  have k8 : sLen.getD 1 0 = 4 := by decide
  show V x 0 0 w 10 [(0, .ref (gz (xG x) + 1)), (1, .int a1), (2, .ref (gK (xG x) 1))] [.int r4, .int v2]
  refine r_icmp_ne 17 C dX5_isWord_10 (by decide) (fun c9 => ?_) (fun c9 => ?_)
  · have c9' := i_ne c9
    refine r_iconst (v := 0) C dX5_isWord_17 (by decide) ?_
    refine r_istore_n [(3, .int 0), (0, .ref (gz (xG x) + 1)), (1, .int a1), (2, .ref (gK (xG x) 1))] C dX5_isWord_18 (by decide) rfl ?_
    refine r_iconst (v := 0) C dX5_isWord_19 (by decide) ?_
    refine r_istore [(4, .int 0), (3, .int 0), (0, .ref (gz (xG x) + 1)), (1, .int a1), (2, .ref (gK (xG x) 1))] C dX5_isWord_20 (by decide) rfl ?_
    refine r_lv [2, 3, 4, 1, 0] rfl ?_
    exact LP12 4294967296 0 0 w h0 o0 (by omega) (by omega) (by omega)
  · have c9' := i_eq c9
    refine r_iconst (v := 1) C dX5_isWord_13 (by decide) ?_
    refine r_goto 18 C dX5_isWord_14 (by decide) ?_
    refine r_istore_n [(3, .int 1), (0, .ref (gz (xG x) + 1)), (1, .int a1), (2, .ref (gK (xG x) 1))] C dX5_isWord_18 (by decide) rfl ?_
    refine r_iconst (v := 0) C dX5_isWord_19 (by decide) ?_
    refine r_istore [(4, .int 0), (3, .int 1), (0, .ref (gz (xG x) + 1)), (1, .int a1), (2, .ref (gK (xG x) 1))] C dX5_isWord_20 (by decide) rfl ?_
    refine r_lv [2, 3, 4, 1, 0] rfl ?_
    exact LP12 4294967296 1 0 w h0 o0 (by omega) (by omega) (by omega)
set_option maxHeartbeats 4000000 in
set_option maxRecDepth 100000 in
theorem ctX5_isWord_1_2 (l : Launch) (G : Gt) (w : Wv) (sC : Str KC XC w) (o0 : Inv RC w) (a1 : Int32) (b1 : 0 ≤ a1.toInt ∧ a1.toInt ≤ 500) : CtI l G yX5_isWord cX5_isWord 5 .boolean ({ frames := 6, cells := 0, slots := 0, locals := 140 } : Room) [.ref (gz G + 1), .int a1, .ref (gK G 2)] w (fun r w' => Ch [] [] w w' ∧ Inv RC w' ∧ ((0 ≤ r.toInt ∧ r.toInt ≤ 1))) := by
  refine enterI (by decide) (Nat.le_of_ble_eq_true rfl) ?_
  intro x el eG C hret
  subst el; subst eG
  show V x 0 0 w 0 [(0, .ref (gz (xG x) + 1)), (1, .int a1), (2, .ref (gK (xG x) 2))] []
  have h0 : Ch [] [] w w := Ch.rf
  have q0 : (0 : Int32).toInt = 0 := by decide
  have q1 : (1 : Int32).toInt = 1 := by decide
  have LP12 : ∀ (f13 : Nat) (u10 : Int32) (u11 : Int32) (w14 : Wv), Ch [] [] w w14 → Inv RC w14 → (0 ≤ u10.toInt ∧ u10.toInt ≤ 1) → (0 ≤ u11.toInt ∧ u11.toInt ≤ 2147483647) → 2147483647 - u11.toInt < f13 → V x 0 0 w14 22 [(0, .ref (gz (xG x) + 1)), (1, .int a1), (2, .ref (gK (xG x) 2)), (3, .int u10), (4, .int u11)] [] := by
    intro f13
    induction f13 with
    | zero => intro u10 u11 w14 h15 o16 z17 z18 z19; exfalso; omega
    | succ f13 ih20 =>
      intro u10 u11 w14 h15 o16 z17 z18 z19
      refine r_iload_n 3 C dX5_isWord_22 rfl ?_
      refine r_if_eq 76 C dX5_isWord_23 (by decide) (fun c21 => ?_) (fun c21 => ?_)
      · have c21' := i_eq c21
        refine r_iload_n 3 C dX5_isWord_76 rfl ?_
        exact hret _ _ _ _ dX5_isWord_77 (nar_z (z_of (by omega))) ⟨h15, o16, by omega⟩
      · have c21' := i_ne c21
        refine r_iload 4 C dX5_isWord_26 rfl ?_
        refine r_aload_n 2 C dX5_isWord_28 rfl ?_
        refine callKI (i := 2) (by decide) C cwX5_160_V (ct_len _ _ w14 2 (by decide)) (by decide) rfl rfl (Nat.le_of_ble_eq_true rfl) (by decide) dX5_isWord_29 (fun r22 w23 y24 => ?_)
        obtain ⟨y24, g25⟩ := y24
        obtain rfl := y24.symm
        have k26 : sLen.getD 2 0 = 5 := by decide
        show V x 0 0 w14 32 [(0, .ref (gz (xG x) + 1)), (1, .int a1), (2, .ref (gK (xG x) 2)), (3, .int u10), (4, .int u11)] [.int r22, .int u11]
        have k28 := i_rng u11
        refine r_icmp_ge 76 C dX5_isWord_32 (by decide) (fun c27 => ?_) (fun c27 => ?_)
        · have c27' := i_le c27
          refine r_iload_n 3 C dX5_isWord_76 rfl ?_
          exact hret _ _ _ _ dX5_isWord_77 (nar_z (z_of (by omega))) ⟨h15, o16, by omega⟩
        · have c27' := i_nle c27
          refine r_iload_n 1 C dX5_isWord_35 rfl ?_
          refine r_iload 4 C dX5_isWord_36 rfl ?_
          refine r_iadd C dX5_isWord_38 (fun v29 e30 => ?_)
          have v29' := iadd_ok e30 (by omega) (by omega)
          refine r_aload_n 0 C dX5_isWord_39 rfl ?_
          refine gfX5_19 (v := (wI w 1 0)) C (kS sC h15 kc_1) (h15.I (by decide) (by decide) rfl) dX5_isWord_40 ?_
          have b31 := Inv.get o0 rt_1_0 (j := 0) (by decide) (by decide)
          refine r_icmp_ge 76 C dX5_isWord_43 (by decide) (fun c32 => ?_) (fun c32 => ?_)
          · have c32' := i_le c32
            refine r_iload_n 3 C dX5_isWord_76 rfl ?_
            exact hret _ _ _ _ dX5_isWord_77 (nar_z (z_of (by omega))) ⟨h15, o16, by omega⟩
          · have c32' := i_nle c32
            refine r_aload_n 0 C dX5_isWord_46 rfl ?_
            refine gfX5_15 2 C (kS sC h15 kc_1) (xS sC h15 xc_1_3) dX5_isWord_47 ?_
            refine r_iload_n 1 C dX5_isWord_50 rfl ?_
            refine r_iload 4 C dX5_isWord_51 rfl ?_
            refine r_iadd C dX5_isWord_53 (fun v33 e34 => ?_)
            have v33' := iadd_ok e34 (by omega) (by omega)
            refine r_iald C (kS sC h15 kc_2) (vin (by omega) (by omega)) dX5_isWord_54 ?_
            generalize (wI w14 2 (v33).toNatClampNeg) = v35
            refine r_aload_n 2 C dX5_isWord_55 rfl ?_
            refine r_iload 4 C dX5_isWord_56 rfl ?_
            refine callKI (i := 2) (by decide) C cwX5_164_V (ct_chr _ _ w14 2 u11 (by decide) (vin (n := 5) (by omega) (by omega))) (by decide) rfl rfl (Nat.le_of_ble_eq_true rfl) (by decide) dX5_isWord_58 (fun r36 w37 y38 => ?_)
            obtain ⟨y38, g39⟩ := y38
            obtain rfl := y38.symm
            show V x 0 0 w14 61 [(0, .ref (gz (xG x) + 1)), (1, .int a1), (2, .ref (gK (xG x) 2)), (3, .int u10), (4, .int u11)] [.int r36, .int v35]
            refine r_icmp_ne 68 C dX5_isWord_61 (by decide) (fun c40 => ?_) (fun c40 => ?_)
            · have c40' := i_ne c40
              refine r_iconst (v := 0) C dX5_isWord_68 (by decide) ?_
              refine r_istore_n [(3, .int 0), (0, .ref (gz (xG x) + 1)), (1, .int a1), (2, .ref (gK (xG x) 2)), (4, .int u11)] C dX5_isWord_69 (by decide) rfl ?_
              obtain ⟨i41, e42⟩ : ∃ z : Int32, u11 + Int32.ofInt 1 = z := ⟨_, rfl⟩
              have i41' := iinc_ok e42 (by decide) (by omega) (by omega)
              refine r_iinc [(4, .int i41), (3, .int 0), (0, .ref (gz (xG x) + 1)), (1, .int a1), (2, .ref (gK (xG x) 2))] 4 C dX5_isWord_70 rfl e42 (by decide) rfl ?_
              refine r_goto 22 C dX5_isWord_73 (by decide) ?_
              refine r_lv [2, 3, 4, 1, 0] rfl ?_
              exact ih20 0 i41 w14 h15 o16 (by omega) (by omega) (by omega)
            · have c40' := i_eq c40
              refine r_iconst (v := 1) C dX5_isWord_64 (by decide) ?_
              refine r_goto 69 C dX5_isWord_65 (by decide) ?_
              refine r_istore_n [(3, .int 1), (0, .ref (gz (xG x) + 1)), (1, .int a1), (2, .ref (gK (xG x) 2)), (4, .int u11)] C dX5_isWord_69 (by decide) rfl ?_
              obtain ⟨i43, e44⟩ : ∃ z : Int32, u11 + Int32.ofInt 1 = z := ⟨_, rfl⟩
              have i43' := iinc_ok e44 (by decide) (by omega) (by omega)
              refine r_iinc [(4, .int i43), (3, .int 1), (0, .ref (gz (xG x) + 1)), (1, .int a1), (2, .ref (gK (xG x) 2))] 4 C dX5_isWord_70 rfl e44 (by decide) rfl ?_
              refine r_goto 22 C dX5_isWord_73 (by decide) ?_
              refine r_lv [2, 3, 4, 1, 0] rfl ?_
              exact ih20 1 i43 w14 h15 o16 (by omega) (by omega) (by omega)
  refine r_aload_n 0 C dX5_isWord_0 rfl ?_
  refine gfX5_27 (v := (wI w 1 4)) C (kS sC h0 kc_1) rfl dX5_isWord_1 ?_
  have b1 := Inv.get o0 rt_1_4 (j := 4) (by decide) (by decide)
  refine r_iload_n 1 C dX5_isWord_4 rfl ?_
  refine r_isub C dX5_isWord_5 (fun v2 e3 => ?_)
  have v2' := isub_ok e3 (by omega) (by omega)
  refine r_aload_n 2 C dX5_isWord_6 rfl ?_
  refine callKI (i := 2) (by decide) C cwX5_160_V (ct_len _ _ w 2 (by decide)) (by decide) rfl rfl (Nat.le_of_ble_eq_true rfl) (by decide) dX5_isWord_7 (fun r4 w5 y6 => ?_)
  obtain ⟨y6, g7⟩ := y6
  obtain rfl := y6.symm
  have k8 : sLen.getD 2 0 = 5 := by decide
  show V x 0 0 w 10 [(0, .ref (gz (xG x) + 1)), (1, .int a1), (2, .ref (gK (xG x) 2))] [.int r4, .int v2]
  refine r_icmp_ne 17 C dX5_isWord_10 (by decide) (fun c9 => ?_) (fun c9 => ?_)
  · have c9' := i_ne c9
    refine r_iconst (v := 0) C dX5_isWord_17 (by decide) ?_
    refine r_istore_n [(3, .int 0), (0, .ref (gz (xG x) + 1)), (1, .int a1), (2, .ref (gK (xG x) 2))] C dX5_isWord_18 (by decide) rfl ?_
    refine r_iconst (v := 0) C dX5_isWord_19 (by decide) ?_
    refine r_istore [(4, .int 0), (3, .int 0), (0, .ref (gz (xG x) + 1)), (1, .int a1), (2, .ref (gK (xG x) 2))] C dX5_isWord_20 (by decide) rfl ?_
    refine r_lv [2, 3, 4, 1, 0] rfl ?_
    exact LP12 4294967296 0 0 w h0 o0 (by omega) (by omega) (by omega)
  · have c9' := i_eq c9
    refine r_iconst (v := 1) C dX5_isWord_13 (by decide) ?_
    refine r_goto 18 C dX5_isWord_14 (by decide) ?_
    refine r_istore_n [(3, .int 1), (0, .ref (gz (xG x) + 1)), (1, .int a1), (2, .ref (gK (xG x) 2))] C dX5_isWord_18 (by decide) rfl ?_
    refine r_iconst (v := 0) C dX5_isWord_19 (by decide) ?_
    refine r_istore [(4, .int 0), (3, .int 1), (0, .ref (gz (xG x) + 1)), (1, .int a1), (2, .ref (gK (xG x) 2))] C dX5_isWord_20 (by decide) rfl ?_
    refine r_lv [2, 3, 4, 1, 0] rfl ?_
    exact LP12 4294967296 1 0 w h0 o0 (by omega) (by omega) (by omega)
set_option maxHeartbeats 4000000 in
set_option maxRecDepth 100000 in
theorem ctX5_isWord_1_3 (l : Launch) (G : Gt) (w : Wv) (sC : Str KC XC w) (o0 : Inv RC w) (a1 : Int32) (b1 : 0 ≤ a1.toInt ∧ a1.toInt ≤ 500) : CtI l G yX5_isWord cX5_isWord 5 .boolean ({ frames := 6, cells := 0, slots := 0, locals := 140 } : Room) [.ref (gz G + 1), .int a1, .ref (gK G 3)] w (fun r w' => Ch [] [] w w' ∧ Inv RC w' ∧ ((0 ≤ r.toInt ∧ r.toInt ≤ 1))) := by
  refine enterI (by decide) (Nat.le_of_ble_eq_true rfl) ?_
  intro x el eG C hret
  subst el; subst eG
  show V x 0 0 w 0 [(0, .ref (gz (xG x) + 1)), (1, .int a1), (2, .ref (gK (xG x) 3))] []
  have h0 : Ch [] [] w w := Ch.rf
  have q0 : (0 : Int32).toInt = 0 := by decide
  have q1 : (1 : Int32).toInt = 1 := by decide
  have LP12 : ∀ (f13 : Nat) (u10 : Int32) (u11 : Int32) (w14 : Wv), Ch [] [] w w14 → Inv RC w14 → (0 ≤ u10.toInt ∧ u10.toInt ≤ 1) → (0 ≤ u11.toInt ∧ u11.toInt ≤ 2147483647) → 2147483647 - u11.toInt < f13 → V x 0 0 w14 22 [(0, .ref (gz (xG x) + 1)), (1, .int a1), (2, .ref (gK (xG x) 3)), (3, .int u10), (4, .int u11)] [] := by
    intro f13
    induction f13 with
    | zero => intro u10 u11 w14 h15 o16 z17 z18 z19; exfalso; omega
    | succ f13 ih20 =>
      intro u10 u11 w14 h15 o16 z17 z18 z19
      refine r_iload_n 3 C dX5_isWord_22 rfl ?_
      refine r_if_eq 76 C dX5_isWord_23 (by decide) (fun c21 => ?_) (fun c21 => ?_)
      · have c21' := i_eq c21
        refine r_iload_n 3 C dX5_isWord_76 rfl ?_
        exact hret _ _ _ _ dX5_isWord_77 (nar_z (z_of (by omega))) ⟨h15, o16, by omega⟩
      · have c21' := i_ne c21
        refine r_iload 4 C dX5_isWord_26 rfl ?_
        refine r_aload_n 2 C dX5_isWord_28 rfl ?_
        refine callKI (i := 3) (by decide) C cwX5_160_V (ct_len _ _ w14 3 (by decide)) (by decide) rfl rfl (Nat.le_of_ble_eq_true rfl) (by decide) dX5_isWord_29 (fun r22 w23 y24 => ?_)
        obtain ⟨y24, g25⟩ := y24
        obtain rfl := y24.symm
        have k26 : sLen.getD 3 0 = 4 := by decide
        show V x 0 0 w14 32 [(0, .ref (gz (xG x) + 1)), (1, .int a1), (2, .ref (gK (xG x) 3)), (3, .int u10), (4, .int u11)] [.int r22, .int u11]
        have k28 := i_rng u11
        refine r_icmp_ge 76 C dX5_isWord_32 (by decide) (fun c27 => ?_) (fun c27 => ?_)
        · have c27' := i_le c27
          refine r_iload_n 3 C dX5_isWord_76 rfl ?_
          exact hret _ _ _ _ dX5_isWord_77 (nar_z (z_of (by omega))) ⟨h15, o16, by omega⟩
        · have c27' := i_nle c27
          refine r_iload_n 1 C dX5_isWord_35 rfl ?_
          refine r_iload 4 C dX5_isWord_36 rfl ?_
          refine r_iadd C dX5_isWord_38 (fun v29 e30 => ?_)
          have v29' := iadd_ok e30 (by omega) (by omega)
          refine r_aload_n 0 C dX5_isWord_39 rfl ?_
          refine gfX5_19 (v := (wI w 1 0)) C (kS sC h15 kc_1) (h15.I (by decide) (by decide) rfl) dX5_isWord_40 ?_
          have b31 := Inv.get o0 rt_1_0 (j := 0) (by decide) (by decide)
          refine r_icmp_ge 76 C dX5_isWord_43 (by decide) (fun c32 => ?_) (fun c32 => ?_)
          · have c32' := i_le c32
            refine r_iload_n 3 C dX5_isWord_76 rfl ?_
            exact hret _ _ _ _ dX5_isWord_77 (nar_z (z_of (by omega))) ⟨h15, o16, by omega⟩
          · have c32' := i_nle c32
            refine r_aload_n 0 C dX5_isWord_46 rfl ?_
            refine gfX5_15 2 C (kS sC h15 kc_1) (xS sC h15 xc_1_3) dX5_isWord_47 ?_
            refine r_iload_n 1 C dX5_isWord_50 rfl ?_
            refine r_iload 4 C dX5_isWord_51 rfl ?_
            refine r_iadd C dX5_isWord_53 (fun v33 e34 => ?_)
            have v33' := iadd_ok e34 (by omega) (by omega)
            refine r_iald C (kS sC h15 kc_2) (vin (by omega) (by omega)) dX5_isWord_54 ?_
            generalize (wI w14 2 (v33).toNatClampNeg) = v35
            refine r_aload_n 2 C dX5_isWord_55 rfl ?_
            refine r_iload 4 C dX5_isWord_56 rfl ?_
            refine callKI (i := 3) (by decide) C cwX5_164_V (ct_chr _ _ w14 3 u11 (by decide) (vin (n := 4) (by omega) (by omega))) (by decide) rfl rfl (Nat.le_of_ble_eq_true rfl) (by decide) dX5_isWord_58 (fun r36 w37 y38 => ?_)
            obtain ⟨y38, g39⟩ := y38
            obtain rfl := y38.symm
            show V x 0 0 w14 61 [(0, .ref (gz (xG x) + 1)), (1, .int a1), (2, .ref (gK (xG x) 3)), (3, .int u10), (4, .int u11)] [.int r36, .int v35]
            refine r_icmp_ne 68 C dX5_isWord_61 (by decide) (fun c40 => ?_) (fun c40 => ?_)
            · have c40' := i_ne c40
              refine r_iconst (v := 0) C dX5_isWord_68 (by decide) ?_
              refine r_istore_n [(3, .int 0), (0, .ref (gz (xG x) + 1)), (1, .int a1), (2, .ref (gK (xG x) 3)), (4, .int u11)] C dX5_isWord_69 (by decide) rfl ?_
              obtain ⟨i41, e42⟩ : ∃ z : Int32, u11 + Int32.ofInt 1 = z := ⟨_, rfl⟩
              have i41' := iinc_ok e42 (by decide) (by omega) (by omega)
              refine r_iinc [(4, .int i41), (3, .int 0), (0, .ref (gz (xG x) + 1)), (1, .int a1), (2, .ref (gK (xG x) 3))] 4 C dX5_isWord_70 rfl e42 (by decide) rfl ?_
              refine r_goto 22 C dX5_isWord_73 (by decide) ?_
              refine r_lv [2, 3, 4, 1, 0] rfl ?_
              exact ih20 0 i41 w14 h15 o16 (by omega) (by omega) (by omega)
            · have c40' := i_eq c40
              refine r_iconst (v := 1) C dX5_isWord_64 (by decide) ?_
              refine r_goto 69 C dX5_isWord_65 (by decide) ?_
              refine r_istore_n [(3, .int 1), (0, .ref (gz (xG x) + 1)), (1, .int a1), (2, .ref (gK (xG x) 3)), (4, .int u11)] C dX5_isWord_69 (by decide) rfl ?_
              obtain ⟨i43, e44⟩ : ∃ z : Int32, u11 + Int32.ofInt 1 = z := ⟨_, rfl⟩
              have i43' := iinc_ok e44 (by decide) (by omega) (by omega)
              refine r_iinc [(4, .int i43), (3, .int 1), (0, .ref (gz (xG x) + 1)), (1, .int a1), (2, .ref (gK (xG x) 3))] 4 C dX5_isWord_70 rfl e44 (by decide) rfl ?_
              refine r_goto 22 C dX5_isWord_73 (by decide) ?_
              refine r_lv [2, 3, 4, 1, 0] rfl ?_
              exact ih20 1 i43 w14 h15 o16 (by omega) (by omega) (by omega)
  refine r_aload_n 0 C dX5_isWord_0 rfl ?_
  refine gfX5_27 (v := (wI w 1 4)) C (kS sC h0 kc_1) rfl dX5_isWord_1 ?_
  have b1 := Inv.get o0 rt_1_4 (j := 4) (by decide) (by decide)
  refine r_iload_n 1 C dX5_isWord_4 rfl ?_
  refine r_isub C dX5_isWord_5 (fun v2 e3 => ?_)
  have v2' := isub_ok e3 (by omega) (by omega)
  refine r_aload_n 2 C dX5_isWord_6 rfl ?_
  refine callKI (i := 3) (by decide) C cwX5_160_V (ct_len _ _ w 3 (by decide)) (by decide) rfl rfl (Nat.le_of_ble_eq_true rfl) (by decide) dX5_isWord_7 (fun r4 w5 y6 => ?_)
  obtain ⟨y6, g7⟩ := y6
  obtain rfl := y6.symm
  have k8 : sLen.getD 3 0 = 4 := by decide
  show V x 0 0 w 10 [(0, .ref (gz (xG x) + 1)), (1, .int a1), (2, .ref (gK (xG x) 3))] [.int r4, .int v2]
  refine r_icmp_ne 17 C dX5_isWord_10 (by decide) (fun c9 => ?_) (fun c9 => ?_)
  · have c9' := i_ne c9
    refine r_iconst (v := 0) C dX5_isWord_17 (by decide) ?_
    refine r_istore_n [(3, .int 0), (0, .ref (gz (xG x) + 1)), (1, .int a1), (2, .ref (gK (xG x) 3))] C dX5_isWord_18 (by decide) rfl ?_
    refine r_iconst (v := 0) C dX5_isWord_19 (by decide) ?_
    refine r_istore [(4, .int 0), (3, .int 0), (0, .ref (gz (xG x) + 1)), (1, .int a1), (2, .ref (gK (xG x) 3))] C dX5_isWord_20 (by decide) rfl ?_
    refine r_lv [2, 3, 4, 1, 0] rfl ?_
    exact LP12 4294967296 0 0 w h0 o0 (by omega) (by omega) (by omega)
  · have c9' := i_eq c9
    refine r_iconst (v := 1) C dX5_isWord_13 (by decide) ?_
    refine r_goto 18 C dX5_isWord_14 (by decide) ?_
    refine r_istore_n [(3, .int 1), (0, .ref (gz (xG x) + 1)), (1, .int a1), (2, .ref (gK (xG x) 3))] C dX5_isWord_18 (by decide) rfl ?_
    refine r_iconst (v := 0) C dX5_isWord_19 (by decide) ?_
    refine r_istore [(4, .int 0), (3, .int 1), (0, .ref (gz (xG x) + 1)), (1, .int a1), (2, .ref (gK (xG x) 3))] C dX5_isWord_20 (by decide) rfl ?_
    refine r_lv [2, 3, 4, 1, 0] rfl ?_
    exact LP12 4294967296 1 0 w h0 o0 (by omega) (by omega) (by omega)
set_option maxHeartbeats 4000000 in
set_option maxRecDepth 100000 in
theorem ctX5_isWord_1_4 (l : Launch) (G : Gt) (w : Wv) (sC : Str KC XC w) (o0 : Inv RC w) (a1 : Int32) (b1 : 0 ≤ a1.toInt ∧ a1.toInt ≤ 500) : CtI l G yX5_isWord cX5_isWord 5 .boolean ({ frames := 6, cells := 0, slots := 0, locals := 140 } : Room) [.ref (gz G + 1), .int a1, .ref (gK G 4)] w (fun r w' => Ch [] [] w w' ∧ Inv RC w' ∧ ((0 ≤ r.toInt ∧ r.toInt ≤ 1))) := by
  refine enterI (by decide) (Nat.le_of_ble_eq_true rfl) ?_
  intro x el eG C hret
  subst el; subst eG
  show V x 0 0 w 0 [(0, .ref (gz (xG x) + 1)), (1, .int a1), (2, .ref (gK (xG x) 4))] []
  have h0 : Ch [] [] w w := Ch.rf
  have q0 : (0 : Int32).toInt = 0 := by decide
  have q1 : (1 : Int32).toInt = 1 := by decide
  have LP12 : ∀ (f13 : Nat) (u10 : Int32) (u11 : Int32) (w14 : Wv), Ch [] [] w w14 → Inv RC w14 → (0 ≤ u10.toInt ∧ u10.toInt ≤ 1) → (0 ≤ u11.toInt ∧ u11.toInt ≤ 2147483647) → 2147483647 - u11.toInt < f13 → V x 0 0 w14 22 [(0, .ref (gz (xG x) + 1)), (1, .int a1), (2, .ref (gK (xG x) 4)), (3, .int u10), (4, .int u11)] [] := by
    intro f13
    induction f13 with
    | zero => intro u10 u11 w14 h15 o16 z17 z18 z19; exfalso; omega
    | succ f13 ih20 =>
      intro u10 u11 w14 h15 o16 z17 z18 z19
      refine r_iload_n 3 C dX5_isWord_22 rfl ?_
      refine r_if_eq 76 C dX5_isWord_23 (by decide) (fun c21 => ?_) (fun c21 => ?_)
      · have c21' := i_eq c21
        refine r_iload_n 3 C dX5_isWord_76 rfl ?_
        exact hret _ _ _ _ dX5_isWord_77 (nar_z (z_of (by omega))) ⟨h15, o16, by omega⟩
      · have c21' := i_ne c21
        refine r_iload 4 C dX5_isWord_26 rfl ?_
        refine r_aload_n 2 C dX5_isWord_28 rfl ?_
        refine callKI (i := 4) (by decide) C cwX5_160_V (ct_len _ _ w14 4 (by decide)) (by decide) rfl rfl (Nat.le_of_ble_eq_true rfl) (by decide) dX5_isWord_29 (fun r22 w23 y24 => ?_)
        obtain ⟨y24, g25⟩ := y24
        obtain rfl := y24.symm
        have k26 : sLen.getD 4 0 = 5 := by decide
        show V x 0 0 w14 32 [(0, .ref (gz (xG x) + 1)), (1, .int a1), (2, .ref (gK (xG x) 4)), (3, .int u10), (4, .int u11)] [.int r22, .int u11]
        have k28 := i_rng u11
        refine r_icmp_ge 76 C dX5_isWord_32 (by decide) (fun c27 => ?_) (fun c27 => ?_)
        · have c27' := i_le c27
          refine r_iload_n 3 C dX5_isWord_76 rfl ?_
          exact hret _ _ _ _ dX5_isWord_77 (nar_z (z_of (by omega))) ⟨h15, o16, by omega⟩
        · have c27' := i_nle c27
          refine r_iload_n 1 C dX5_isWord_35 rfl ?_
          refine r_iload 4 C dX5_isWord_36 rfl ?_
          refine r_iadd C dX5_isWord_38 (fun v29 e30 => ?_)
          have v29' := iadd_ok e30 (by omega) (by omega)
          refine r_aload_n 0 C dX5_isWord_39 rfl ?_
          refine gfX5_19 (v := (wI w 1 0)) C (kS sC h15 kc_1) (h15.I (by decide) (by decide) rfl) dX5_isWord_40 ?_
          have b31 := Inv.get o0 rt_1_0 (j := 0) (by decide) (by decide)
          refine r_icmp_ge 76 C dX5_isWord_43 (by decide) (fun c32 => ?_) (fun c32 => ?_)
          · have c32' := i_le c32
            refine r_iload_n 3 C dX5_isWord_76 rfl ?_
            exact hret _ _ _ _ dX5_isWord_77 (nar_z (z_of (by omega))) ⟨h15, o16, by omega⟩
          · have c32' := i_nle c32
            refine r_aload_n 0 C dX5_isWord_46 rfl ?_
            refine gfX5_15 2 C (kS sC h15 kc_1) (xS sC h15 xc_1_3) dX5_isWord_47 ?_
            refine r_iload_n 1 C dX5_isWord_50 rfl ?_
            refine r_iload 4 C dX5_isWord_51 rfl ?_
            refine r_iadd C dX5_isWord_53 (fun v33 e34 => ?_)
            have v33' := iadd_ok e34 (by omega) (by omega)
            refine r_iald C (kS sC h15 kc_2) (vin (by omega) (by omega)) dX5_isWord_54 ?_
            generalize (wI w14 2 (v33).toNatClampNeg) = v35
            refine r_aload_n 2 C dX5_isWord_55 rfl ?_
            refine r_iload 4 C dX5_isWord_56 rfl ?_
            refine callKI (i := 4) (by decide) C cwX5_164_V (ct_chr _ _ w14 4 u11 (by decide) (vin (n := 5) (by omega) (by omega))) (by decide) rfl rfl (Nat.le_of_ble_eq_true rfl) (by decide) dX5_isWord_58 (fun r36 w37 y38 => ?_)
            obtain ⟨y38, g39⟩ := y38
            obtain rfl := y38.symm
            show V x 0 0 w14 61 [(0, .ref (gz (xG x) + 1)), (1, .int a1), (2, .ref (gK (xG x) 4)), (3, .int u10), (4, .int u11)] [.int r36, .int v35]
            refine r_icmp_ne 68 C dX5_isWord_61 (by decide) (fun c40 => ?_) (fun c40 => ?_)
            · have c40' := i_ne c40
              refine r_iconst (v := 0) C dX5_isWord_68 (by decide) ?_
              refine r_istore_n [(3, .int 0), (0, .ref (gz (xG x) + 1)), (1, .int a1), (2, .ref (gK (xG x) 4)), (4, .int u11)] C dX5_isWord_69 (by decide) rfl ?_
              obtain ⟨i41, e42⟩ : ∃ z : Int32, u11 + Int32.ofInt 1 = z := ⟨_, rfl⟩
              have i41' := iinc_ok e42 (by decide) (by omega) (by omega)
              refine r_iinc [(4, .int i41), (3, .int 0), (0, .ref (gz (xG x) + 1)), (1, .int a1), (2, .ref (gK (xG x) 4))] 4 C dX5_isWord_70 rfl e42 (by decide) rfl ?_
              refine r_goto 22 C dX5_isWord_73 (by decide) ?_
              refine r_lv [2, 3, 4, 1, 0] rfl ?_
              exact ih20 0 i41 w14 h15 o16 (by omega) (by omega) (by omega)
            · have c40' := i_eq c40
              refine r_iconst (v := 1) C dX5_isWord_64 (by decide) ?_
              refine r_goto 69 C dX5_isWord_65 (by decide) ?_
              refine r_istore_n [(3, .int 1), (0, .ref (gz (xG x) + 1)), (1, .int a1), (2, .ref (gK (xG x) 4)), (4, .int u11)] C dX5_isWord_69 (by decide) rfl ?_
              obtain ⟨i43, e44⟩ : ∃ z : Int32, u11 + Int32.ofInt 1 = z := ⟨_, rfl⟩
              have i43' := iinc_ok e44 (by decide) (by omega) (by omega)
              refine r_iinc [(4, .int i43), (3, .int 1), (0, .ref (gz (xG x) + 1)), (1, .int a1), (2, .ref (gK (xG x) 4))] 4 C dX5_isWord_70 rfl e44 (by decide) rfl ?_
              refine r_goto 22 C dX5_isWord_73 (by decide) ?_
              refine r_lv [2, 3, 4, 1, 0] rfl ?_
              exact ih20 1 i43 w14 h15 o16 (by omega) (by omega) (by omega)
  refine r_aload_n 0 C dX5_isWord_0 rfl ?_
  refine gfX5_27 (v := (wI w 1 4)) C (kS sC h0 kc_1) rfl dX5_isWord_1 ?_
  have b1 := Inv.get o0 rt_1_4 (j := 4) (by decide) (by decide)
  refine r_iload_n 1 C dX5_isWord_4 rfl ?_
  refine r_isub C dX5_isWord_5 (fun v2 e3 => ?_)
  have v2' := isub_ok e3 (by omega) (by omega)
  refine r_aload_n 2 C dX5_isWord_6 rfl ?_
  refine callKI (i := 4) (by decide) C cwX5_160_V (ct_len _ _ w 4 (by decide)) (by decide) rfl rfl (Nat.le_of_ble_eq_true rfl) (by decide) dX5_isWord_7 (fun r4 w5 y6 => ?_)
  obtain ⟨y6, g7⟩ := y6
  obtain rfl := y6.symm
  have k8 : sLen.getD 4 0 = 5 := by decide
  show V x 0 0 w 10 [(0, .ref (gz (xG x) + 1)), (1, .int a1), (2, .ref (gK (xG x) 4))] [.int r4, .int v2]
  refine r_icmp_ne 17 C dX5_isWord_10 (by decide) (fun c9 => ?_) (fun c9 => ?_)
  · have c9' := i_ne c9
    refine r_iconst (v := 0) C dX5_isWord_17 (by decide) ?_
    refine r_istore_n [(3, .int 0), (0, .ref (gz (xG x) + 1)), (1, .int a1), (2, .ref (gK (xG x) 4))] C dX5_isWord_18 (by decide) rfl ?_
    refine r_iconst (v := 0) C dX5_isWord_19 (by decide) ?_
    refine r_istore [(4, .int 0), (3, .int 0), (0, .ref (gz (xG x) + 1)), (1, .int a1), (2, .ref (gK (xG x) 4))] C dX5_isWord_20 (by decide) rfl ?_
    refine r_lv [2, 3, 4, 1, 0] rfl ?_
    exact LP12 4294967296 0 0 w h0 o0 (by omega) (by omega) (by omega)
  · have c9' := i_eq c9
    refine r_iconst (v := 1) C dX5_isWord_13 (by decide) ?_
    refine r_goto 18 C dX5_isWord_14 (by decide) ?_
    refine r_istore_n [(3, .int 1), (0, .ref (gz (xG x) + 1)), (1, .int a1), (2, .ref (gK (xG x) 4))] C dX5_isWord_18 (by decide) rfl ?_
    refine r_iconst (v := 0) C dX5_isWord_19 (by decide) ?_
    refine r_istore [(4, .int 0), (3, .int 1), (0, .ref (gz (xG x) + 1)), (1, .int a1), (2, .ref (gK (xG x) 4))] C dX5_isWord_20 (by decide) rfl ?_
    refine r_lv [2, 3, 4, 1, 0] rfl ?_
    exact LP12 4294967296 1 0 w h0 o0 (by omega) (by omega) (by omega)
set_option maxHeartbeats 4000000 in
set_option maxRecDepth 100000 in
theorem ctX5_isWord_1_5 (l : Launch) (G : Gt) (w : Wv) (sC : Str KC XC w) (o0 : Inv RC w) (a1 : Int32) (b1 : 0 ≤ a1.toInt ∧ a1.toInt ≤ 500) : CtI l G yX5_isWord cX5_isWord 5 .boolean ({ frames := 6, cells := 0, slots := 0, locals := 140 } : Room) [.ref (gz G + 1), .int a1, .ref (gK G 5)] w (fun r w' => Ch [] [] w w' ∧ Inv RC w' ∧ ((0 ≤ r.toInt ∧ r.toInt ≤ 1))) := by
  refine enterI (by decide) (Nat.le_of_ble_eq_true rfl) ?_
  intro x el eG C hret
  subst el; subst eG
  show V x 0 0 w 0 [(0, .ref (gz (xG x) + 1)), (1, .int a1), (2, .ref (gK (xG x) 5))] []
  have h0 : Ch [] [] w w := Ch.rf
  have q0 : (0 : Int32).toInt = 0 := by decide
  have q1 : (1 : Int32).toInt = 1 := by decide
  have LP12 : ∀ (f13 : Nat) (u10 : Int32) (u11 : Int32) (w14 : Wv), Ch [] [] w w14 → Inv RC w14 → (0 ≤ u10.toInt ∧ u10.toInt ≤ 1) → (0 ≤ u11.toInt ∧ u11.toInt ≤ 2147483647) → 2147483647 - u11.toInt < f13 → V x 0 0 w14 22 [(0, .ref (gz (xG x) + 1)), (1, .int a1), (2, .ref (gK (xG x) 5)), (3, .int u10), (4, .int u11)] [] := by
    intro f13
    induction f13 with
    | zero => intro u10 u11 w14 h15 o16 z17 z18 z19; exfalso; omega
    | succ f13 ih20 =>
      intro u10 u11 w14 h15 o16 z17 z18 z19
      refine r_iload_n 3 C dX5_isWord_22 rfl ?_
      refine r_if_eq 76 C dX5_isWord_23 (by decide) (fun c21 => ?_) (fun c21 => ?_)
      · have c21' := i_eq c21
        refine r_iload_n 3 C dX5_isWord_76 rfl ?_
        exact hret _ _ _ _ dX5_isWord_77 (nar_z (z_of (by omega))) ⟨h15, o16, by omega⟩
      · have c21' := i_ne c21
        refine r_iload 4 C dX5_isWord_26 rfl ?_
        refine r_aload_n 2 C dX5_isWord_28 rfl ?_
        refine callKI (i := 5) (by decide) C cwX5_160_V (ct_len _ _ w14 5 (by decide)) (by decide) rfl rfl (Nat.le_of_ble_eq_true rfl) (by decide) dX5_isWord_29 (fun r22 w23 y24 => ?_)
        obtain ⟨y24, g25⟩ := y24
        obtain rfl := y24.symm
        have k26 : sLen.getD 5 0 = 4 := by decide
        show V x 0 0 w14 32 [(0, .ref (gz (xG x) + 1)), (1, .int a1), (2, .ref (gK (xG x) 5)), (3, .int u10), (4, .int u11)] [.int r22, .int u11]
        have k28 := i_rng u11
        refine r_icmp_ge 76 C dX5_isWord_32 (by decide) (fun c27 => ?_) (fun c27 => ?_)
        · have c27' := i_le c27
          refine r_iload_n 3 C dX5_isWord_76 rfl ?_
          exact hret _ _ _ _ dX5_isWord_77 (nar_z (z_of (by omega))) ⟨h15, o16, by omega⟩
        · have c27' := i_nle c27
          refine r_iload_n 1 C dX5_isWord_35 rfl ?_
          refine r_iload 4 C dX5_isWord_36 rfl ?_
          refine r_iadd C dX5_isWord_38 (fun v29 e30 => ?_)
          have v29' := iadd_ok e30 (by omega) (by omega)
          refine r_aload_n 0 C dX5_isWord_39 rfl ?_
          refine gfX5_19 (v := (wI w 1 0)) C (kS sC h15 kc_1) (h15.I (by decide) (by decide) rfl) dX5_isWord_40 ?_
          have b31 := Inv.get o0 rt_1_0 (j := 0) (by decide) (by decide)
          refine r_icmp_ge 76 C dX5_isWord_43 (by decide) (fun c32 => ?_) (fun c32 => ?_)
          · have c32' := i_le c32
            refine r_iload_n 3 C dX5_isWord_76 rfl ?_
            exact hret _ _ _ _ dX5_isWord_77 (nar_z (z_of (by omega))) ⟨h15, o16, by omega⟩
          · have c32' := i_nle c32
            refine r_aload_n 0 C dX5_isWord_46 rfl ?_
            refine gfX5_15 2 C (kS sC h15 kc_1) (xS sC h15 xc_1_3) dX5_isWord_47 ?_
            refine r_iload_n 1 C dX5_isWord_50 rfl ?_
            refine r_iload 4 C dX5_isWord_51 rfl ?_
            refine r_iadd C dX5_isWord_53 (fun v33 e34 => ?_)
            have v33' := iadd_ok e34 (by omega) (by omega)
            refine r_iald C (kS sC h15 kc_2) (vin (by omega) (by omega)) dX5_isWord_54 ?_
            generalize (wI w14 2 (v33).toNatClampNeg) = v35
            refine r_aload_n 2 C dX5_isWord_55 rfl ?_
            refine r_iload 4 C dX5_isWord_56 rfl ?_
            refine callKI (i := 5) (by decide) C cwX5_164_V (ct_chr _ _ w14 5 u11 (by decide) (vin (n := 4) (by omega) (by omega))) (by decide) rfl rfl (Nat.le_of_ble_eq_true rfl) (by decide) dX5_isWord_58 (fun r36 w37 y38 => ?_)
            obtain ⟨y38, g39⟩ := y38
            obtain rfl := y38.symm
            show V x 0 0 w14 61 [(0, .ref (gz (xG x) + 1)), (1, .int a1), (2, .ref (gK (xG x) 5)), (3, .int u10), (4, .int u11)] [.int r36, .int v35]
            refine r_icmp_ne 68 C dX5_isWord_61 (by decide) (fun c40 => ?_) (fun c40 => ?_)
            · have c40' := i_ne c40
              refine r_iconst (v := 0) C dX5_isWord_68 (by decide) ?_
              refine r_istore_n [(3, .int 0), (0, .ref (gz (xG x) + 1)), (1, .int a1), (2, .ref (gK (xG x) 5)), (4, .int u11)] C dX5_isWord_69 (by decide) rfl ?_
              obtain ⟨i41, e42⟩ : ∃ z : Int32, u11 + Int32.ofInt 1 = z := ⟨_, rfl⟩
              have i41' := iinc_ok e42 (by decide) (by omega) (by omega)
              refine r_iinc [(4, .int i41), (3, .int 0), (0, .ref (gz (xG x) + 1)), (1, .int a1), (2, .ref (gK (xG x) 5))] 4 C dX5_isWord_70 rfl e42 (by decide) rfl ?_
              refine r_goto 22 C dX5_isWord_73 (by decide) ?_
              refine r_lv [2, 3, 4, 1, 0] rfl ?_
              exact ih20 0 i41 w14 h15 o16 (by omega) (by omega) (by omega)
            · have c40' := i_eq c40
              refine r_iconst (v := 1) C dX5_isWord_64 (by decide) ?_
              refine r_goto 69 C dX5_isWord_65 (by decide) ?_
              refine r_istore_n [(3, .int 1), (0, .ref (gz (xG x) + 1)), (1, .int a1), (2, .ref (gK (xG x) 5)), (4, .int u11)] C dX5_isWord_69 (by decide) rfl ?_
              obtain ⟨i43, e44⟩ : ∃ z : Int32, u11 + Int32.ofInt 1 = z := ⟨_, rfl⟩
              have i43' := iinc_ok e44 (by decide) (by omega) (by omega)
              refine r_iinc [(4, .int i43), (3, .int 1), (0, .ref (gz (xG x) + 1)), (1, .int a1), (2, .ref (gK (xG x) 5))] 4 C dX5_isWord_70 rfl e44 (by decide) rfl ?_
              refine r_goto 22 C dX5_isWord_73 (by decide) ?_
              refine r_lv [2, 3, 4, 1, 0] rfl ?_
              exact ih20 1 i43 w14 h15 o16 (by omega) (by omega) (by omega)
  refine r_aload_n 0 C dX5_isWord_0 rfl ?_
  refine gfX5_27 (v := (wI w 1 4)) C (kS sC h0 kc_1) rfl dX5_isWord_1 ?_
  have b1 := Inv.get o0 rt_1_4 (j := 4) (by decide) (by decide)
  refine r_iload_n 1 C dX5_isWord_4 rfl ?_
  refine r_isub C dX5_isWord_5 (fun v2 e3 => ?_)
  have v2' := isub_ok e3 (by omega) (by omega)
  refine r_aload_n 2 C dX5_isWord_6 rfl ?_
  refine callKI (i := 5) (by decide) C cwX5_160_V (ct_len _ _ w 5 (by decide)) (by decide) rfl rfl (Nat.le_of_ble_eq_true rfl) (by decide) dX5_isWord_7 (fun r4 w5 y6 => ?_)
  obtain ⟨y6, g7⟩ := y6
  obtain rfl := y6.symm
  have k8 : sLen.getD 5 0 = 4 := by decide
  show V x 0 0 w 10 [(0, .ref (gz (xG x) + 1)), (1, .int a1), (2, .ref (gK (xG x) 5))] [.int r4, .int v2]
  refine r_icmp_ne 17 C dX5_isWord_10 (by decide) (fun c9 => ?_) (fun c9 => ?_)
  · have c9' := i_ne c9
    refine r_iconst (v := 0) C dX5_isWord_17 (by decide) ?_
    refine r_istore_n [(3, .int 0), (0, .ref (gz (xG x) + 1)), (1, .int a1), (2, .ref (gK (xG x) 5))] C dX5_isWord_18 (by decide) rfl ?_
    refine r_iconst (v := 0) C dX5_isWord_19 (by decide) ?_
    refine r_istore [(4, .int 0), (3, .int 0), (0, .ref (gz (xG x) + 1)), (1, .int a1), (2, .ref (gK (xG x) 5))] C dX5_isWord_20 (by decide) rfl ?_
    refine r_lv [2, 3, 4, 1, 0] rfl ?_
    exact LP12 4294967296 0 0 w h0 o0 (by omega) (by omega) (by omega)
  · have c9' := i_eq c9
    refine r_iconst (v := 1) C dX5_isWord_13 (by decide) ?_
    refine r_goto 18 C dX5_isWord_14 (by decide) ?_
    refine r_istore_n [(3, .int 1), (0, .ref (gz (xG x) + 1)), (1, .int a1), (2, .ref (gK (xG x) 5))] C dX5_isWord_18 (by decide) rfl ?_
    refine r_iconst (v := 0) C dX5_isWord_19 (by decide) ?_
    refine r_istore [(4, .int 0), (3, .int 1), (0, .ref (gz (xG x) + 1)), (1, .int a1), (2, .ref (gK (xG x) 5))] C dX5_isWord_20 (by decide) rfl ?_
    refine r_lv [2, 3, 4, 1, 0] rfl ?_
    exact LP12 4294967296 1 0 w h0 o0 (by omega) (by omega) (by omega)
set_option maxHeartbeats 4000000 in
set_option maxRecDepth 100000 in
theorem ctX5_isWord_1_6 (l : Launch) (G : Gt) (w : Wv) (sC : Str KC XC w) (o0 : Inv RC w) (a1 : Int32) (b1 : 0 ≤ a1.toInt ∧ a1.toInt ≤ 500) : CtI l G yX5_isWord cX5_isWord 5 .boolean ({ frames := 6, cells := 0, slots := 0, locals := 140 } : Room) [.ref (gz G + 1), .int a1, .ref (gK G 6)] w (fun r w' => Ch [] [] w w' ∧ Inv RC w' ∧ ((0 ≤ r.toInt ∧ r.toInt ≤ 1))) := by
  refine enterI (by decide) (Nat.le_of_ble_eq_true rfl) ?_
  intro x el eG C hret
  subst el; subst eG
  show V x 0 0 w 0 [(0, .ref (gz (xG x) + 1)), (1, .int a1), (2, .ref (gK (xG x) 6))] []
  have h0 : Ch [] [] w w := Ch.rf
  have q0 : (0 : Int32).toInt = 0 := by decide
  have q1 : (1 : Int32).toInt = 1 := by decide
  have LP12 : ∀ (f13 : Nat) (u10 : Int32) (u11 : Int32) (w14 : Wv), Ch [] [] w w14 → Inv RC w14 → (0 ≤ u10.toInt ∧ u10.toInt ≤ 1) → (0 ≤ u11.toInt ∧ u11.toInt ≤ 2147483647) → 2147483647 - u11.toInt < f13 → V x 0 0 w14 22 [(0, .ref (gz (xG x) + 1)), (1, .int a1), (2, .ref (gK (xG x) 6)), (3, .int u10), (4, .int u11)] [] := by
    intro f13
    induction f13 with
    | zero => intro u10 u11 w14 h15 o16 z17 z18 z19; exfalso; omega
    | succ f13 ih20 =>
      intro u10 u11 w14 h15 o16 z17 z18 z19
      refine r_iload_n 3 C dX5_isWord_22 rfl ?_
      refine r_if_eq 76 C dX5_isWord_23 (by decide) (fun c21 => ?_) (fun c21 => ?_)
      · have c21' := i_eq c21
        refine r_iload_n 3 C dX5_isWord_76 rfl ?_
        exact hret _ _ _ _ dX5_isWord_77 (nar_z (z_of (by omega))) ⟨h15, o16, by omega⟩
      · have c21' := i_ne c21
        refine r_iload 4 C dX5_isWord_26 rfl ?_
        refine r_aload_n 2 C dX5_isWord_28 rfl ?_
        refine callKI (i := 6) (by decide) C cwX5_160_V (ct_len _ _ w14 6 (by decide)) (by decide) rfl rfl (Nat.le_of_ble_eq_true rfl) (by decide) dX5_isWord_29 (fun r22 w23 y24 => ?_)
        obtain ⟨y24, g25⟩ := y24
        obtain rfl := y24.symm
        have k26 : sLen.getD 6 0 = 5 := by decide
        show V x 0 0 w14 32 [(0, .ref (gz (xG x) + 1)), (1, .int a1), (2, .ref (gK (xG x) 6)), (3, .int u10), (4, .int u11)] [.int r22, .int u11]
        have k28 := i_rng u11
        refine r_icmp_ge 76 C dX5_isWord_32 (by decide) (fun c27 => ?_) (fun c27 => ?_)
        · have c27' := i_le c27
          refine r_iload_n 3 C dX5_isWord_76 rfl ?_
          exact hret _ _ _ _ dX5_isWord_77 (nar_z (z_of (by omega))) ⟨h15, o16, by omega⟩
        · have c27' := i_nle c27
          refine r_iload_n 1 C dX5_isWord_35 rfl ?_
          refine r_iload 4 C dX5_isWord_36 rfl ?_
          refine r_iadd C dX5_isWord_38 (fun v29 e30 => ?_)
          have v29' := iadd_ok e30 (by omega) (by omega)
          refine r_aload_n 0 C dX5_isWord_39 rfl ?_
          refine gfX5_19 (v := (wI w 1 0)) C (kS sC h15 kc_1) (h15.I (by decide) (by decide) rfl) dX5_isWord_40 ?_
          have b31 := Inv.get o0 rt_1_0 (j := 0) (by decide) (by decide)
          refine r_icmp_ge 76 C dX5_isWord_43 (by decide) (fun c32 => ?_) (fun c32 => ?_)
          · have c32' := i_le c32
            refine r_iload_n 3 C dX5_isWord_76 rfl ?_
            exact hret _ _ _ _ dX5_isWord_77 (nar_z (z_of (by omega))) ⟨h15, o16, by omega⟩
          · have c32' := i_nle c32
            refine r_aload_n 0 C dX5_isWord_46 rfl ?_
            refine gfX5_15 2 C (kS sC h15 kc_1) (xS sC h15 xc_1_3) dX5_isWord_47 ?_
            refine r_iload_n 1 C dX5_isWord_50 rfl ?_
            refine r_iload 4 C dX5_isWord_51 rfl ?_
            refine r_iadd C dX5_isWord_53 (fun v33 e34 => ?_)
            have v33' := iadd_ok e34 (by omega) (by omega)
            refine r_iald C (kS sC h15 kc_2) (vin (by omega) (by omega)) dX5_isWord_54 ?_
            generalize (wI w14 2 (v33).toNatClampNeg) = v35
            refine r_aload_n 2 C dX5_isWord_55 rfl ?_
            refine r_iload 4 C dX5_isWord_56 rfl ?_
            refine callKI (i := 6) (by decide) C cwX5_164_V (ct_chr _ _ w14 6 u11 (by decide) (vin (n := 5) (by omega) (by omega))) (by decide) rfl rfl (Nat.le_of_ble_eq_true rfl) (by decide) dX5_isWord_58 (fun r36 w37 y38 => ?_)
            obtain ⟨y38, g39⟩ := y38
            obtain rfl := y38.symm
            show V x 0 0 w14 61 [(0, .ref (gz (xG x) + 1)), (1, .int a1), (2, .ref (gK (xG x) 6)), (3, .int u10), (4, .int u11)] [.int r36, .int v35]
            refine r_icmp_ne 68 C dX5_isWord_61 (by decide) (fun c40 => ?_) (fun c40 => ?_)
            · have c40' := i_ne c40
              refine r_iconst (v := 0) C dX5_isWord_68 (by decide) ?_
              refine r_istore_n [(3, .int 0), (0, .ref (gz (xG x) + 1)), (1, .int a1), (2, .ref (gK (xG x) 6)), (4, .int u11)] C dX5_isWord_69 (by decide) rfl ?_
              obtain ⟨i41, e42⟩ : ∃ z : Int32, u11 + Int32.ofInt 1 = z := ⟨_, rfl⟩
              have i41' := iinc_ok e42 (by decide) (by omega) (by omega)
              refine r_iinc [(4, .int i41), (3, .int 0), (0, .ref (gz (xG x) + 1)), (1, .int a1), (2, .ref (gK (xG x) 6))] 4 C dX5_isWord_70 rfl e42 (by decide) rfl ?_
              refine r_goto 22 C dX5_isWord_73 (by decide) ?_
              refine r_lv [2, 3, 4, 1, 0] rfl ?_
              exact ih20 0 i41 w14 h15 o16 (by omega) (by omega) (by omega)
            · have c40' := i_eq c40
              refine r_iconst (v := 1) C dX5_isWord_64 (by decide) ?_
              refine r_goto 69 C dX5_isWord_65 (by decide) ?_
              refine r_istore_n [(3, .int 1), (0, .ref (gz (xG x) + 1)), (1, .int a1), (2, .ref (gK (xG x) 6)), (4, .int u11)] C dX5_isWord_69 (by decide) rfl ?_
              obtain ⟨i43, e44⟩ : ∃ z : Int32, u11 + Int32.ofInt 1 = z := ⟨_, rfl⟩
              have i43' := iinc_ok e44 (by decide) (by omega) (by omega)
              refine r_iinc [(4, .int i43), (3, .int 1), (0, .ref (gz (xG x) + 1)), (1, .int a1), (2, .ref (gK (xG x) 6))] 4 C dX5_isWord_70 rfl e44 (by decide) rfl ?_
              refine r_goto 22 C dX5_isWord_73 (by decide) ?_
              refine r_lv [2, 3, 4, 1, 0] rfl ?_
              exact ih20 1 i43 w14 h15 o16 (by omega) (by omega) (by omega)
  refine r_aload_n 0 C dX5_isWord_0 rfl ?_
  refine gfX5_27 (v := (wI w 1 4)) C (kS sC h0 kc_1) rfl dX5_isWord_1 ?_
  have b1 := Inv.get o0 rt_1_4 (j := 4) (by decide) (by decide)
  refine r_iload_n 1 C dX5_isWord_4 rfl ?_
  refine r_isub C dX5_isWord_5 (fun v2 e3 => ?_)
  have v2' := isub_ok e3 (by omega) (by omega)
  refine r_aload_n 2 C dX5_isWord_6 rfl ?_
  refine callKI (i := 6) (by decide) C cwX5_160_V (ct_len _ _ w 6 (by decide)) (by decide) rfl rfl (Nat.le_of_ble_eq_true rfl) (by decide) dX5_isWord_7 (fun r4 w5 y6 => ?_)
  obtain ⟨y6, g7⟩ := y6
  obtain rfl := y6.symm
  have k8 : sLen.getD 6 0 = 5 := by decide
  show V x 0 0 w 10 [(0, .ref (gz (xG x) + 1)), (1, .int a1), (2, .ref (gK (xG x) 6))] [.int r4, .int v2]
  refine r_icmp_ne 17 C dX5_isWord_10 (by decide) (fun c9 => ?_) (fun c9 => ?_)
  · have c9' := i_ne c9
    refine r_iconst (v := 0) C dX5_isWord_17 (by decide) ?_
    refine r_istore_n [(3, .int 0), (0, .ref (gz (xG x) + 1)), (1, .int a1), (2, .ref (gK (xG x) 6))] C dX5_isWord_18 (by decide) rfl ?_
    refine r_iconst (v := 0) C dX5_isWord_19 (by decide) ?_
    refine r_istore [(4, .int 0), (3, .int 0), (0, .ref (gz (xG x) + 1)), (1, .int a1), (2, .ref (gK (xG x) 6))] C dX5_isWord_20 (by decide) rfl ?_
    refine r_lv [2, 3, 4, 1, 0] rfl ?_
    exact LP12 4294967296 0 0 w h0 o0 (by omega) (by omega) (by omega)
  · have c9' := i_eq c9
    refine r_iconst (v := 1) C dX5_isWord_13 (by decide) ?_
    refine r_goto 18 C dX5_isWord_14 (by decide) ?_
    refine r_istore_n [(3, .int 1), (0, .ref (gz (xG x) + 1)), (1, .int a1), (2, .ref (gK (xG x) 6))] C dX5_isWord_18 (by decide) rfl ?_
    refine r_iconst (v := 0) C dX5_isWord_19 (by decide) ?_
    refine r_istore [(4, .int 0), (3, .int 1), (0, .ref (gz (xG x) + 1)), (1, .int a1), (2, .ref (gK (xG x) 6))] C dX5_isWord_20 (by decide) rfl ?_
    refine r_lv [2, 3, 4, 1, 0] rfl ?_
    exact LP12 4294967296 1 0 w h0 o0 (by omega) (by omega) (by omega)
set_option maxHeartbeats 4000000 in
set_option maxRecDepth 100000 in
theorem ctX5_isWord_1_7 (l : Launch) (G : Gt) (w : Wv) (sC : Str KC XC w) (o0 : Inv RC w) (a1 : Int32) (b1 : 0 ≤ a1.toInt ∧ a1.toInt ≤ 500) : CtI l G yX5_isWord cX5_isWord 5 .boolean ({ frames := 6, cells := 0, slots := 0, locals := 140 } : Room) [.ref (gz G + 1), .int a1, .ref (gK G 7)] w (fun r w' => Ch [] [] w w' ∧ Inv RC w' ∧ ((0 ≤ r.toInt ∧ r.toInt ≤ 1))) := by
  refine enterI (by decide) (Nat.le_of_ble_eq_true rfl) ?_
  intro x el eG C hret
  subst el; subst eG
  show V x 0 0 w 0 [(0, .ref (gz (xG x) + 1)), (1, .int a1), (2, .ref (gK (xG x) 7))] []
  have h0 : Ch [] [] w w := Ch.rf
  have q0 : (0 : Int32).toInt = 0 := by decide
  have q1 : (1 : Int32).toInt = 1 := by decide
  have LP12 : ∀ (f13 : Nat) (u10 : Int32) (u11 : Int32) (w14 : Wv), Ch [] [] w w14 → Inv RC w14 → (0 ≤ u10.toInt ∧ u10.toInt ≤ 1) → (0 ≤ u11.toInt ∧ u11.toInt ≤ 2147483647) → 2147483647 - u11.toInt < f13 → V x 0 0 w14 22 [(0, .ref (gz (xG x) + 1)), (1, .int a1), (2, .ref (gK (xG x) 7)), (3, .int u10), (4, .int u11)] [] := by
    intro f13
    induction f13 with
    | zero => intro u10 u11 w14 h15 o16 z17 z18 z19; exfalso; omega
    | succ f13 ih20 =>
      intro u10 u11 w14 h15 o16 z17 z18 z19
      refine r_iload_n 3 C dX5_isWord_22 rfl ?_
      refine r_if_eq 76 C dX5_isWord_23 (by decide) (fun c21 => ?_) (fun c21 => ?_)
      · have c21' := i_eq c21
        refine r_iload_n 3 C dX5_isWord_76 rfl ?_
        exact hret _ _ _ _ dX5_isWord_77 (nar_z (z_of (by omega))) ⟨h15, o16, by omega⟩
      · have c21' := i_ne c21
        refine r_iload 4 C dX5_isWord_26 rfl ?_
        refine r_aload_n 2 C dX5_isWord_28 rfl ?_
        refine callKI (i := 7) (by decide) C cwX5_160_V (ct_len _ _ w14 7 (by decide)) (by decide) rfl rfl (Nat.le_of_ble_eq_true rfl) (by decide) dX5_isWord_29 (fun r22 w23 y24 => ?_)
        obtain ⟨y24, g25⟩ := y24
        obtain rfl := y24.symm
        have k26 : sLen.getD 7 0 = 3 := by decide
        show V x 0 0 w14 32 [(0, .ref (gz (xG x) + 1)), (1, .int a1), (2, .ref (gK (xG x) 7)), (3, .int u10), (4, .int u11)] [.int r22, .int u11]
        have k28 := i_rng u11
        refine r_icmp_ge 76 C dX5_isWord_32 (by decide) (fun c27 => ?_) (fun c27 => ?_)
        · have c27' := i_le c27
          refine r_iload_n 3 C dX5_isWord_76 rfl ?_
          exact hret _ _ _ _ dX5_isWord_77 (nar_z (z_of (by omega))) ⟨h15, o16, by omega⟩
        · have c27' := i_nle c27
          refine r_iload_n 1 C dX5_isWord_35 rfl ?_
          refine r_iload 4 C dX5_isWord_36 rfl ?_
          refine r_iadd C dX5_isWord_38 (fun v29 e30 => ?_)
          have v29' := iadd_ok e30 (by omega) (by omega)
          refine r_aload_n 0 C dX5_isWord_39 rfl ?_
          refine gfX5_19 (v := (wI w 1 0)) C (kS sC h15 kc_1) (h15.I (by decide) (by decide) rfl) dX5_isWord_40 ?_
          have b31 := Inv.get o0 rt_1_0 (j := 0) (by decide) (by decide)
          refine r_icmp_ge 76 C dX5_isWord_43 (by decide) (fun c32 => ?_) (fun c32 => ?_)
          · have c32' := i_le c32
            refine r_iload_n 3 C dX5_isWord_76 rfl ?_
            exact hret _ _ _ _ dX5_isWord_77 (nar_z (z_of (by omega))) ⟨h15, o16, by omega⟩
          · have c32' := i_nle c32
            refine r_aload_n 0 C dX5_isWord_46 rfl ?_
            refine gfX5_15 2 C (kS sC h15 kc_1) (xS sC h15 xc_1_3) dX5_isWord_47 ?_
            refine r_iload_n 1 C dX5_isWord_50 rfl ?_
            refine r_iload 4 C dX5_isWord_51 rfl ?_
            refine r_iadd C dX5_isWord_53 (fun v33 e34 => ?_)
            have v33' := iadd_ok e34 (by omega) (by omega)
            refine r_iald C (kS sC h15 kc_2) (vin (by omega) (by omega)) dX5_isWord_54 ?_
            generalize (wI w14 2 (v33).toNatClampNeg) = v35
            refine r_aload_n 2 C dX5_isWord_55 rfl ?_
            refine r_iload 4 C dX5_isWord_56 rfl ?_
            refine callKI (i := 7) (by decide) C cwX5_164_V (ct_chr _ _ w14 7 u11 (by decide) (vin (n := 3) (by omega) (by omega))) (by decide) rfl rfl (Nat.le_of_ble_eq_true rfl) (by decide) dX5_isWord_58 (fun r36 w37 y38 => ?_)
            obtain ⟨y38, g39⟩ := y38
            obtain rfl := y38.symm
            show V x 0 0 w14 61 [(0, .ref (gz (xG x) + 1)), (1, .int a1), (2, .ref (gK (xG x) 7)), (3, .int u10), (4, .int u11)] [.int r36, .int v35]
            refine r_icmp_ne 68 C dX5_isWord_61 (by decide) (fun c40 => ?_) (fun c40 => ?_)
            · have c40' := i_ne c40
              refine r_iconst (v := 0) C dX5_isWord_68 (by decide) ?_
              refine r_istore_n [(3, .int 0), (0, .ref (gz (xG x) + 1)), (1, .int a1), (2, .ref (gK (xG x) 7)), (4, .int u11)] C dX5_isWord_69 (by decide) rfl ?_
              obtain ⟨i41, e42⟩ : ∃ z : Int32, u11 + Int32.ofInt 1 = z := ⟨_, rfl⟩
              have i41' := iinc_ok e42 (by decide) (by omega) (by omega)
              refine r_iinc [(4, .int i41), (3, .int 0), (0, .ref (gz (xG x) + 1)), (1, .int a1), (2, .ref (gK (xG x) 7))] 4 C dX5_isWord_70 rfl e42 (by decide) rfl ?_
              refine r_goto 22 C dX5_isWord_73 (by decide) ?_
              refine r_lv [2, 3, 4, 1, 0] rfl ?_
              exact ih20 0 i41 w14 h15 o16 (by omega) (by omega) (by omega)
            · have c40' := i_eq c40
              refine r_iconst (v := 1) C dX5_isWord_64 (by decide) ?_
              refine r_goto 69 C dX5_isWord_65 (by decide) ?_
              refine r_istore_n [(3, .int 1), (0, .ref (gz (xG x) + 1)), (1, .int a1), (2, .ref (gK (xG x) 7)), (4, .int u11)] C dX5_isWord_69 (by decide) rfl ?_
              obtain ⟨i43, e44⟩ : ∃ z : Int32, u11 + Int32.ofInt 1 = z := ⟨_, rfl⟩
              have i43' := iinc_ok e44 (by decide) (by omega) (by omega)
              refine r_iinc [(4, .int i43), (3, .int 1), (0, .ref (gz (xG x) + 1)), (1, .int a1), (2, .ref (gK (xG x) 7))] 4 C dX5_isWord_70 rfl e44 (by decide) rfl ?_
              refine r_goto 22 C dX5_isWord_73 (by decide) ?_
              refine r_lv [2, 3, 4, 1, 0] rfl ?_
              exact ih20 1 i43 w14 h15 o16 (by omega) (by omega) (by omega)
  refine r_aload_n 0 C dX5_isWord_0 rfl ?_
  refine gfX5_27 (v := (wI w 1 4)) C (kS sC h0 kc_1) rfl dX5_isWord_1 ?_
  have b1 := Inv.get o0 rt_1_4 (j := 4) (by decide) (by decide)
  refine r_iload_n 1 C dX5_isWord_4 rfl ?_
  refine r_isub C dX5_isWord_5 (fun v2 e3 => ?_)
  have v2' := isub_ok e3 (by omega) (by omega)
  refine r_aload_n 2 C dX5_isWord_6 rfl ?_
  refine callKI (i := 7) (by decide) C cwX5_160_V (ct_len _ _ w 7 (by decide)) (by decide) rfl rfl (Nat.le_of_ble_eq_true rfl) (by decide) dX5_isWord_7 (fun r4 w5 y6 => ?_)
  obtain ⟨y6, g7⟩ := y6
  obtain rfl := y6.symm
  have k8 : sLen.getD 7 0 = 3 := by decide
  show V x 0 0 w 10 [(0, .ref (gz (xG x) + 1)), (1, .int a1), (2, .ref (gK (xG x) 7))] [.int r4, .int v2]
  refine r_icmp_ne 17 C dX5_isWord_10 (by decide) (fun c9 => ?_) (fun c9 => ?_)
  · have c9' := i_ne c9
    refine r_iconst (v := 0) C dX5_isWord_17 (by decide) ?_
    refine r_istore_n [(3, .int 0), (0, .ref (gz (xG x) + 1)), (1, .int a1), (2, .ref (gK (xG x) 7))] C dX5_isWord_18 (by decide) rfl ?_
    refine r_iconst (v := 0) C dX5_isWord_19 (by decide) ?_
    refine r_istore [(4, .int 0), (3, .int 0), (0, .ref (gz (xG x) + 1)), (1, .int a1), (2, .ref (gK (xG x) 7))] C dX5_isWord_20 (by decide) rfl ?_
    refine r_lv [2, 3, 4, 1, 0] rfl ?_
    exact LP12 4294967296 0 0 w h0 o0 (by omega) (by omega) (by omega)
  · have c9' := i_eq c9
    refine r_iconst (v := 1) C dX5_isWord_13 (by decide) ?_
    refine r_goto 18 C dX5_isWord_14 (by decide) ?_
    refine r_istore_n [(3, .int 1), (0, .ref (gz (xG x) + 1)), (1, .int a1), (2, .ref (gK (xG x) 7))] C dX5_isWord_18 (by decide) rfl ?_
    refine r_iconst (v := 0) C dX5_isWord_19 (by decide) ?_
    refine r_istore [(4, .int 0), (3, .int 1), (0, .ref (gz (xG x) + 1)), (1, .int a1), (2, .ref (gK (xG x) 7))] C dX5_isWord_20 (by decide) rfl ?_
    refine r_lv [2, 3, 4, 1, 0] rfl ?_
    exact LP12 4294967296 1 0 w h0 o0 (by omega) (by omega) (by omega)
set_option maxHeartbeats 4000000 in
set_option maxRecDepth 100000 in
theorem ctX5_readWord_1 (l : Launch) (G : Gt) (w : Wv) (sC : Str KC XC w) (o0 : Inv RC w)  : CtI l G yX5_readWord cX5_readWord 2 .int ({ frames := 7, cells := 0, slots := 0, locals := 164 } : Room) [.ref (gz G + 1)] w (fun r w' => Ch [] [(1, 4)] w w' ∧ Inv RC w') := by
  refine enterI (by decide) (Nat.le_of_ble_eq_true rfl) ?_
  intro x el eG C hret
  subst el; subst eG
  show V x 0 0 w 0 [(0, .ref (gz (xG x) + 1))] []
  have h0 : Ch [] [(1, 4)] w w := Ch.rf
  have qm1 : ((-1) : Int32).toInt = (-1) := by decide
  have q0 : (0 : Int32).toInt = 0 := by decide
  have q1 : (1 : Int32).toInt = 1 := by decide
  have q2 : (2 : Int32).toInt = 2 := by decide
  have q3 : (3 : Int32).toInt = 3 := by decide
  have q4 : (4 : Int32).toInt = 4 := by decide
  have q5 : (5 : Int32).toInt = 5 := by decide
  have q6 : (6 : Int32).toInt = 6 := by decide
  have q7 : (7 : Int32).toInt = 7 := by decide
  have q8 : (8 : Int32).toInt = 8 := by decide
  have q97 : (97 : Int32).toInt = 97 := by decide
  have q122 : (122 : Int32).toInt = 122 := by decide
  have LP3 : ∀ (f4 : Nat) (u2 : Int32) (w5 : Wv), Ch [] [(1, 4)] w w5 → Inv RC w5 → (0 ≤ u2.toInt ∧ u2.toInt ≤ 500) → 500 - (wI w5 1 4).toInt < f4 → V x 0 0 w5 5 [(0, .ref (gz (xG x) + 1)), (1, .int u2)] [] := by
    intro f4
    induction f4 with
    | zero => intro u2 w5 h6 o7 z8 z9; have b0 := Inv.get o7 rt_1_4 (j := 4) (by decide) (by decide); exfalso; omega
    | succ f4 ih10 =>
      intro u2 w5 h6 o7 z8 z9
      refine r_aload_n 0 C dX5_readWord_5 rfl ?_
      refine gfX5_27 (v := (wI w5 1 4)) C (kS sC h6 kc_1) rfl dX5_readWord_6 ?_
      have b11 := Inv.get o7 rt_1_4 (j := 4) (by decide) (by decide)
      refine r_aload_n 0 C dX5_readWord_9 rfl ?_
      refine gfX5_19 (v := (wI w 1 0)) C (kS sC h6 kc_1) (h6.I (by decide) (by decide) rfl) dX5_readWord_10 ?_
      have b12 := Inv.get o0 rt_1_0 (j := 0) (by decide) (by decide)
      refine r_icmp_ge 57 C dX5_readWord_13 (by decide) (fun c13 => ?_) (fun c13 => ?_)
      · have c13' := i_le c13
        refine r_aload_n 0 C dX5_readWord_57 rfl ?_
        refine r_iload_n 1 C dX5_readWord_58 rfl ?_
        refine r_ldcS 0 (by decide) C (by decide) dX5_readWord_59 ?_
        refine callVI C cwX5_143_V (ctX5_isWord_1_0 _ _ w5 (sS sC h6) o7 u2 (by omega)) (by decide) (kS sC h6 kc_1) rfl rfl rfl (Nat.le_of_ble_eq_true rfl) (by decide) dX5_readWord_61 (fun r16 w15 y14 => ?_)
        show V x 0 0 w15 64 [(0, .ref (gz (xG x) + 1)), (1, .int u2)] [.int r16]
        obtain ⟨h17, o18, g19⟩ := y14
        have h20 := Ch.tr h6 h17 (by decide) (by decide)
        refine r_if_eq 69 C dX5_readWord_64 (by decide) (fun c21 => ?_) (fun c21 => ?_)
        · have c21' := i_eq c21
          refine r_aload_n 0 C dX5_readWord_69 rfl ?_
          refine r_iload_n 1 C dX5_readWord_70 rfl ?_
          refine r_ldcS 1 (by decide) C (by decide) dX5_readWord_71 ?_
          refine callVI C cwX5_143_V (ctX5_isWord_1_1 _ _ w15 (sS sC h20) o18 u2 (by omega)) (by decide) (kS sC h20 kc_1) rfl rfl rfl (Nat.le_of_ble_eq_true rfl) (by decide) dX5_readWord_73 (fun r24 w23 y22 => ?_)
          show V x 0 0 w23 76 [(0, .ref (gz (xG x) + 1)), (1, .int u2)] [.int r24]
          obtain ⟨h25, o26, g27⟩ := y22
          have h28 := Ch.tr h20 h25 (by decide) (by decide)
          refine r_if_eq 81 C dX5_readWord_76 (by decide) (fun c29 => ?_) (fun c29 => ?_)
          · have c29' := i_eq c29
            refine r_aload_n 0 C dX5_readWord_81 rfl ?_
            refine r_iload_n 1 C dX5_readWord_82 rfl ?_
            refine r_ldcS 2 (by decide) C (by decide) dX5_readWord_83 ?_
            refine callVI C cwX5_143_V (ctX5_isWord_1_2 _ _ w23 (sS sC h28) o26 u2 (by omega)) (by decide) (kS sC h28 kc_1) rfl rfl rfl (Nat.le_of_ble_eq_true rfl) (by decide) dX5_readWord_85 (fun r32 w31 y30 => ?_)
            show V x 0 0 w31 88 [(0, .ref (gz (xG x) + 1)), (1, .int u2)] [.int r32]
            obtain ⟨h33, o34, g35⟩ := y30
            have h36 := Ch.tr h28 h33 (by decide) (by decide)
            refine r_if_eq 93 C dX5_readWord_88 (by decide) (fun c37 => ?_) (fun c37 => ?_)
            · have c37' := i_eq c37
              refine r_aload_n 0 C dX5_readWord_93 rfl ?_
              refine r_iload_n 1 C dX5_readWord_94 rfl ?_
              refine r_ldcS 3 (by decide) C (by decide) dX5_readWord_95 ?_
              refine callVI C cwX5_143_V (ctX5_isWord_1_3 _ _ w31 (sS sC h36) o34 u2 (by omega)) (by decide) (kS sC h36 kc_1) rfl rfl rfl (Nat.le_of_ble_eq_true rfl) (by decide) dX5_readWord_97 (fun r40 w39 y38 => ?_)
              show V x 0 0 w39 100 [(0, .ref (gz (xG x) + 1)), (1, .int u2)] [.int r40]
              obtain ⟨h41, o42, g43⟩ := y38
              have h44 := Ch.tr h36 h41 (by decide) (by decide)
              refine r_if_eq 105 C dX5_readWord_100 (by decide) (fun c45 => ?_) (fun c45 => ?_)
              · have c45' := i_eq c45
                refine r_aload_n 0 C dX5_readWord_105 rfl ?_
                refine r_iload_n 1 C dX5_readWord_106 rfl ?_
                refine r_ldcS 4 (by decide) C (by decide) dX5_readWord_107 ?_
                refine callVI C cwX5_143_V (ctX5_isWord_1_4 _ _ w39 (sS sC h44) o42 u2 (by omega)) (by decide) (kS sC h44 kc_1) rfl rfl rfl (Nat.le_of_ble_eq_true rfl) (by decide) dX5_readWord_109 (fun r48 w47 y46 => ?_)
                show V x 0 0 w47 112 [(0, .ref (gz (xG x) + 1)), (1, .int u2)] [.int r48]
                obtain ⟨h49, o50, g51⟩ := y46
                have h52 := Ch.tr h44 h49 (by decide) (by decide)
                refine r_if_eq 117 C dX5_readWord_112 (by decide) (fun c53 => ?_) (fun c53 => ?_)
                · have c53' := i_eq c53
                  refine r_aload_n 0 C dX5_readWord_117 rfl ?_
                  refine r_iload_n 1 C dX5_readWord_118 rfl ?_
                  refine r_ldcS 5 (by decide) C (by decide) dX5_readWord_119 ?_
                  refine callVI C cwX5_143_V (ctX5_isWord_1_5 _ _ w47 (sS sC h52) o50 u2 (by omega)) (by decide) (kS sC h52 kc_1) rfl rfl rfl (Nat.le_of_ble_eq_true rfl) (by decide) dX5_readWord_121 (fun r56 w55 y54 => ?_)
                  show V x 0 0 w55 124 [(0, .ref (gz (xG x) + 1)), (1, .int u2)] [.int r56]
                  obtain ⟨h57, o58, g59⟩ := y54
                  have h60 := Ch.tr h52 h57 (by decide) (by decide)
                  refine r_if_eq 130 C dX5_readWord_124 (by decide) (fun c61 => ?_) (fun c61 => ?_)
                  · have c61' := i_eq c61
                    refine r_aload_n 0 C dX5_readWord_130 rfl ?_
                    refine r_iload_n 1 C dX5_readWord_131 rfl ?_
                    refine r_ldcS 6 (by decide) C (by decide) dX5_readWord_132 ?_
                    refine callVI C cwX5_143_V (ctX5_isWord_1_6 _ _ w55 (sS sC h60) o58 u2 (by omega)) (by decide) (kS sC h60 kc_1) rfl rfl rfl (Nat.le_of_ble_eq_true rfl) (by decide) dX5_readWord_134 (fun r64 w63 y62 => ?_)
                    show V x 0 0 w63 137 [(0, .ref (gz (xG x) + 1)), (1, .int u2)] [.int r64]
                    obtain ⟨h65, o66, g67⟩ := y62
                    have h68 := Ch.tr h60 h65 (by decide) (by decide)
                    refine r_if_eq 143 C dX5_readWord_137 (by decide) (fun c69 => ?_) (fun c69 => ?_)
                    · have c69' := i_eq c69
                      refine r_aload_n 0 C dX5_readWord_143 rfl ?_
                      refine r_iload_n 1 C dX5_readWord_144 rfl ?_
                      refine r_ldcS 7 (by decide) C (by decide) dX5_readWord_145 ?_
                      refine callVI C cwX5_143_V (ctX5_isWord_1_7 _ _ w63 (sS sC h68) o66 u2 (by omega)) (by decide) (kS sC h68 kc_1) rfl rfl rfl (Nat.le_of_ble_eq_true rfl) (by decide) dX5_readWord_147 (fun r72 w71 y70 => ?_)
                      show V x 0 0 w71 150 [(0, .ref (gz (xG x) + 1)), (1, .int u2)] [.int r72]
                      obtain ⟨h73, o74, g75⟩ := y70
                      have h76 := Ch.tr h68 h73 (by decide) (by decide)
                      refine r_if_eq 158 C dX5_readWord_150 (by decide) (fun c77 => ?_) (fun c77 => ?_)
                      · have c77' := i_eq c77
                        refine r_iconst (v := (-1)) C dX5_readWord_158 (by decide) ?_
                        exact hret _ _ _ _ dX5_readWord_159 rfl ⟨h76, o74⟩
                      · have c77' := i_ne c77
                        refine r_bipush (v := 8) C dX5_readWord_153 (by decide) ?_
                        refine r_goto 159 C dX5_readWord_155 (by decide) ?_
                        exact hret _ _ _ _ dX5_readWord_159 rfl ⟨h76, o74⟩
                    · have c69' := i_ne c69
                      refine r_bipush (v := 7) C dX5_readWord_140 (by decide) ?_
                      exact hret _ _ _ _ dX5_readWord_142 rfl ⟨h68, o66⟩
                  · have c61' := i_ne c61
                    refine r_bipush (v := 6) C dX5_readWord_127 (by decide) ?_
                    exact hret _ _ _ _ dX5_readWord_129 rfl ⟨h60, o58⟩
                · have c53' := i_ne c53
                  refine r_iconst (v := 5) C dX5_readWord_115 (by decide) ?_
                  exact hret _ _ _ _ dX5_readWord_116 rfl ⟨h52, o50⟩
              · have c45' := i_ne c45
                refine r_iconst (v := 3) C dX5_readWord_103 (by decide) ?_
                exact hret _ _ _ _ dX5_readWord_104 rfl ⟨h44, o42⟩
            · have c37' := i_ne c37
              refine r_iconst (v := 2) C dX5_readWord_91 (by decide) ?_
              exact hret _ _ _ _ dX5_readWord_92 rfl ⟨h36, o34⟩
          · have c29' := i_ne c29
            refine r_iconst (v := 1) C dX5_readWord_79 (by decide) ?_
            exact hret _ _ _ _ dX5_readWord_80 rfl ⟨h28, o26⟩
        · have c21' := i_ne c21
          refine r_iconst (v := 4) C dX5_readWord_67 (by decide) ?_
          exact hret _ _ _ _ dX5_readWord_68 rfl ⟨h20, o18⟩
      · have c13' := i_nle c13
        refine r_aload_n 0 C dX5_readWord_16 rfl ?_
        refine gfX5_15 2 C (kS sC h6 kc_1) (xS sC h6 xc_1_3) dX5_readWord_17 ?_
        refine r_aload_n 0 C dX5_readWord_20 rfl ?_
        refine gfX5_27 (v := (wI w5 1 4)) C (kS sC h6 kc_1) rfl dX5_readWord_21 ?_
        refine r_iald C (kS sC h6 kc_2) (vin (by omega) (by omega)) dX5_readWord_24 ?_
        generalize (wI w5 2 ((wI w5 1 4)).toNatClampNeg) = v78
        refine r_bipush (v := 97) C dX5_readWord_25 (by decide) ?_
        have k80 := i_rng v78
        refine r_icmp_lt 57 C dX5_readWord_27 (by decide) (fun c79 => ?_) (fun c79 => ?_)
        · have c79' := i_lt c79
          refine r_aload_n 0 C dX5_readWord_57 rfl ?_
          refine r_iload_n 1 C dX5_readWord_58 rfl ?_
          refine r_ldcS 0 (by decide) C (by decide) dX5_readWord_59 ?_
          refine callVI C cwX5_143_V (ctX5_isWord_1_0 _ _ w5 (sS sC h6) o7 u2 (by omega)) (by decide) (kS sC h6 kc_1) rfl rfl rfl (Nat.le_of_ble_eq_true rfl) (by decide) dX5_readWord_61 (fun r83 w82 y81 => ?_)
          show V x 0 0 w82 64 [(0, .ref (gz (xG x) + 1)), (1, .int u2)] [.int r83]
          obtain ⟨h84, o85, g86⟩ := y81
          have h87 := Ch.tr h6 h84 (by decide) (by decide)
          refine r_if_eq 69 C dX5_readWord_64 (by decide) (fun c88 => ?_) (fun c88 => ?_)
          · have c88' := i_eq c88
            refine r_aload_n 0 C dX5_readWord_69 rfl ?_
            refine r_iload_n 1 C dX5_readWord_70 rfl ?_
            refine r_ldcS 1 (by decide) C (by decide) dX5_readWord_71 ?_
            refine callVI C cwX5_143_V (ctX5_isWord_1_1 _ _ w82 (sS sC h87) o85 u2 (by omega)) (by decide) (kS sC h87 kc_1) rfl rfl rfl (Nat.le_of_ble_eq_true rfl) (by decide) dX5_readWord_73 (fun r91 w90 y89 => ?_)
            show V x 0 0 w90 76 [(0, .ref (gz (xG x) + 1)), (1, .int u2)] [.int r91]
            obtain ⟨h92, o93, g94⟩ := y89
            have h95 := Ch.tr h87 h92 (by decide) (by decide)
            refine r_if_eq 81 C dX5_readWord_76 (by decide) (fun c96 => ?_) (fun c96 => ?_)
            · have c96' := i_eq c96
              refine r_aload_n 0 C dX5_readWord_81 rfl ?_
              refine r_iload_n 1 C dX5_readWord_82 rfl ?_
              refine r_ldcS 2 (by decide) C (by decide) dX5_readWord_83 ?_
              refine callVI C cwX5_143_V (ctX5_isWord_1_2 _ _ w90 (sS sC h95) o93 u2 (by omega)) (by decide) (kS sC h95 kc_1) rfl rfl rfl (Nat.le_of_ble_eq_true rfl) (by decide) dX5_readWord_85 (fun r99 w98 y97 => ?_)
              show V x 0 0 w98 88 [(0, .ref (gz (xG x) + 1)), (1, .int u2)] [.int r99]
              obtain ⟨h100, o101, g102⟩ := y97
              have h103 := Ch.tr h95 h100 (by decide) (by decide)
              refine r_if_eq 93 C dX5_readWord_88 (by decide) (fun c104 => ?_) (fun c104 => ?_)
              · have c104' := i_eq c104
                refine r_aload_n 0 C dX5_readWord_93 rfl ?_
                refine r_iload_n 1 C dX5_readWord_94 rfl ?_
                refine r_ldcS 3 (by decide) C (by decide) dX5_readWord_95 ?_
                refine callVI C cwX5_143_V (ctX5_isWord_1_3 _ _ w98 (sS sC h103) o101 u2 (by omega)) (by decide) (kS sC h103 kc_1) rfl rfl rfl (Nat.le_of_ble_eq_true rfl) (by decide) dX5_readWord_97 (fun r107 w106 y105 => ?_)
                show V x 0 0 w106 100 [(0, .ref (gz (xG x) + 1)), (1, .int u2)] [.int r107]
                obtain ⟨h108, o109, g110⟩ := y105
                have h111 := Ch.tr h103 h108 (by decide) (by decide)
                refine r_if_eq 105 C dX5_readWord_100 (by decide) (fun c112 => ?_) (fun c112 => ?_)
                · have c112' := i_eq c112
                  refine r_aload_n 0 C dX5_readWord_105 rfl ?_
                  refine r_iload_n 1 C dX5_readWord_106 rfl ?_
                  refine r_ldcS 4 (by decide) C (by decide) dX5_readWord_107 ?_
                  refine callVI C cwX5_143_V (ctX5_isWord_1_4 _ _ w106 (sS sC h111) o109 u2 (by omega)) (by decide) (kS sC h111 kc_1) rfl rfl rfl (Nat.le_of_ble_eq_true rfl) (by decide) dX5_readWord_109 (fun r115 w114 y113 => ?_)
                  show V x 0 0 w114 112 [(0, .ref (gz (xG x) + 1)), (1, .int u2)] [.int r115]
                  obtain ⟨h116, o117, g118⟩ := y113
                  have h119 := Ch.tr h111 h116 (by decide) (by decide)
                  refine r_if_eq 117 C dX5_readWord_112 (by decide) (fun c120 => ?_) (fun c120 => ?_)
                  · have c120' := i_eq c120
                    refine r_aload_n 0 C dX5_readWord_117 rfl ?_
                    refine r_iload_n 1 C dX5_readWord_118 rfl ?_
                    refine r_ldcS 5 (by decide) C (by decide) dX5_readWord_119 ?_
                    refine callVI C cwX5_143_V (ctX5_isWord_1_5 _ _ w114 (sS sC h119) o117 u2 (by omega)) (by decide) (kS sC h119 kc_1) rfl rfl rfl (Nat.le_of_ble_eq_true rfl) (by decide) dX5_readWord_121 (fun r123 w122 y121 => ?_)
                    show V x 0 0 w122 124 [(0, .ref (gz (xG x) + 1)), (1, .int u2)] [.int r123]
                    obtain ⟨h124, o125, g126⟩ := y121
                    have h127 := Ch.tr h119 h124 (by decide) (by decide)
                    refine r_if_eq 130 C dX5_readWord_124 (by decide) (fun c128 => ?_) (fun c128 => ?_)
                    · have c128' := i_eq c128
                      refine r_aload_n 0 C dX5_readWord_130 rfl ?_
                      refine r_iload_n 1 C dX5_readWord_131 rfl ?_
                      refine r_ldcS 6 (by decide) C (by decide) dX5_readWord_132 ?_
                      refine callVI C cwX5_143_V (ctX5_isWord_1_6 _ _ w122 (sS sC h127) o125 u2 (by omega)) (by decide) (kS sC h127 kc_1) rfl rfl rfl (Nat.le_of_ble_eq_true rfl) (by decide) dX5_readWord_134 (fun r131 w130 y129 => ?_)
                      show V x 0 0 w130 137 [(0, .ref (gz (xG x) + 1)), (1, .int u2)] [.int r131]
                      obtain ⟨h132, o133, g134⟩ := y129
                      have h135 := Ch.tr h127 h132 (by decide) (by decide)
                      refine r_if_eq 143 C dX5_readWord_137 (by decide) (fun c136 => ?_) (fun c136 => ?_)
                      · have c136' := i_eq c136
                        refine r_aload_n 0 C dX5_readWord_143 rfl ?_
                        refine r_iload_n 1 C dX5_readWord_144 rfl ?_
                        refine r_ldcS 7 (by decide) C (by decide) dX5_readWord_145 ?_
                        refine callVI C cwX5_143_V (ctX5_isWord_1_7 _ _ w130 (sS sC h135) o133 u2 (by omega)) (by decide) (kS sC h135 kc_1) rfl rfl rfl (Nat.le_of_ble_eq_true rfl) (by decide) dX5_readWord_147 (fun r139 w138 y137 => ?_)
                        show V x 0 0 w138 150 [(0, .ref (gz (xG x) + 1)), (1, .int u2)] [.int r139]
                        obtain ⟨h140, o141, g142⟩ := y137
                        have h143 := Ch.tr h135 h140 (by decide) (by decide)
                        refine r_if_eq 158 C dX5_readWord_150 (by decide) (fun c144 => ?_) (fun c144 => ?_)
                        · have c144' := i_eq c144
                          refine r_iconst (v := (-1)) C dX5_readWord_158 (by decide) ?_
                          exact hret _ _ _ _ dX5_readWord_159 rfl ⟨h143, o141⟩
                        · have c144' := i_ne c144
                          refine r_bipush (v := 8) C dX5_readWord_153 (by decide) ?_
                          refine r_goto 159 C dX5_readWord_155 (by decide) ?_
                          exact hret _ _ _ _ dX5_readWord_159 rfl ⟨h143, o141⟩
                      · have c136' := i_ne c136
                        refine r_bipush (v := 7) C dX5_readWord_140 (by decide) ?_
                        exact hret _ _ _ _ dX5_readWord_142 rfl ⟨h135, o133⟩
                    · have c128' := i_ne c128
                      refine r_bipush (v := 6) C dX5_readWord_127 (by decide) ?_
                      exact hret _ _ _ _ dX5_readWord_129 rfl ⟨h127, o125⟩
                  · have c120' := i_ne c120
                    refine r_iconst (v := 5) C dX5_readWord_115 (by decide) ?_
                    exact hret _ _ _ _ dX5_readWord_116 rfl ⟨h119, o117⟩
                · have c112' := i_ne c112
                  refine r_iconst (v := 3) C dX5_readWord_103 (by decide) ?_
                  exact hret _ _ _ _ dX5_readWord_104 rfl ⟨h111, o109⟩
              · have c104' := i_ne c104
                refine r_iconst (v := 2) C dX5_readWord_91 (by decide) ?_
                exact hret _ _ _ _ dX5_readWord_92 rfl ⟨h103, o101⟩
            · have c96' := i_ne c96
              refine r_iconst (v := 1) C dX5_readWord_79 (by decide) ?_
              exact hret _ _ _ _ dX5_readWord_80 rfl ⟨h95, o93⟩
          · have c88' := i_ne c88
            refine r_iconst (v := 4) C dX5_readWord_67 (by decide) ?_
            exact hret _ _ _ _ dX5_readWord_68 rfl ⟨h87, o85⟩
        · have c79' := i_nlt c79
          refine r_aload_n 0 C dX5_readWord_30 rfl ?_
          refine gfX5_15 2 C (kS sC h6 kc_1) (xS sC h6 xc_1_3) dX5_readWord_31 ?_
          refine r_aload_n 0 C dX5_readWord_34 rfl ?_
          refine gfX5_27 (v := (wI w5 1 4)) C (kS sC h6 kc_1) rfl dX5_readWord_35 ?_
          refine r_iald C (kS sC h6 kc_2) (vin (by omega) (by omega)) dX5_readWord_38 ?_
          generalize (wI w5 2 ((wI w5 1 4)).toNatClampNeg) = v145
          refine r_bipush (v := 122) C dX5_readWord_39 (by decide) ?_
          have k147 := i_rng v145
          refine r_icmp_gt 57 C dX5_readWord_41 (by decide) (fun c146 => ?_) (fun c146 => ?_)
          · have c146' := i_lt c146
            refine r_aload_n 0 C dX5_readWord_57 rfl ?_
            refine r_iload_n 1 C dX5_readWord_58 rfl ?_
            refine r_ldcS 0 (by decide) C (by decide) dX5_readWord_59 ?_
            refine callVI C cwX5_143_V (ctX5_isWord_1_0 _ _ w5 (sS sC h6) o7 u2 (by omega)) (by decide) (kS sC h6 kc_1) rfl rfl rfl (Nat.le_of_ble_eq_true rfl) (by decide) dX5_readWord_61 (fun r150 w149 y148 => ?_)
            show V x 0 0 w149 64 [(0, .ref (gz (xG x) + 1)), (1, .int u2)] [.int r150]
            obtain ⟨h151, o152, g153⟩ := y148
            have h154 := Ch.tr h6 h151 (by decide) (by decide)
            refine r_if_eq 69 C dX5_readWord_64 (by decide) (fun c155 => ?_) (fun c155 => ?_)
            · have c155' := i_eq c155
              refine r_aload_n 0 C dX5_readWord_69 rfl ?_
              refine r_iload_n 1 C dX5_readWord_70 rfl ?_
              refine r_ldcS 1 (by decide) C (by decide) dX5_readWord_71 ?_
              refine callVI C cwX5_143_V (ctX5_isWord_1_1 _ _ w149 (sS sC h154) o152 u2 (by omega)) (by decide) (kS sC h154 kc_1) rfl rfl rfl (Nat.le_of_ble_eq_true rfl) (by decide) dX5_readWord_73 (fun r158 w157 y156 => ?_)
              show V x 0 0 w157 76 [(0, .ref (gz (xG x) + 1)), (1, .int u2)] [.int r158]
              obtain ⟨h159, o160, g161⟩ := y156
              have h162 := Ch.tr h154 h159 (by decide) (by decide)
              refine r_if_eq 81 C dX5_readWord_76 (by decide) (fun c163 => ?_) (fun c163 => ?_)
              · have c163' := i_eq c163
                refine r_aload_n 0 C dX5_readWord_81 rfl ?_
                refine r_iload_n 1 C dX5_readWord_82 rfl ?_
                refine r_ldcS 2 (by decide) C (by decide) dX5_readWord_83 ?_
                refine callVI C cwX5_143_V (ctX5_isWord_1_2 _ _ w157 (sS sC h162) o160 u2 (by omega)) (by decide) (kS sC h162 kc_1) rfl rfl rfl (Nat.le_of_ble_eq_true rfl) (by decide) dX5_readWord_85 (fun r166 w165 y164 => ?_)
                show V x 0 0 w165 88 [(0, .ref (gz (xG x) + 1)), (1, .int u2)] [.int r166]
                obtain ⟨h167, o168, g169⟩ := y164
                have h170 := Ch.tr h162 h167 (by decide) (by decide)
                refine r_if_eq 93 C dX5_readWord_88 (by decide) (fun c171 => ?_) (fun c171 => ?_)
                · have c171' := i_eq c171
                  refine r_aload_n 0 C dX5_readWord_93 rfl ?_
                  refine r_iload_n 1 C dX5_readWord_94 rfl ?_
                  refine r_ldcS 3 (by decide) C (by decide) dX5_readWord_95 ?_
                  refine callVI C cwX5_143_V (ctX5_isWord_1_3 _ _ w165 (sS sC h170) o168 u2 (by omega)) (by decide) (kS sC h170 kc_1) rfl rfl rfl (Nat.le_of_ble_eq_true rfl) (by decide) dX5_readWord_97 (fun r174 w173 y172 => ?_)
                  show V x 0 0 w173 100 [(0, .ref (gz (xG x) + 1)), (1, .int u2)] [.int r174]
                  obtain ⟨h175, o176, g177⟩ := y172
                  have h178 := Ch.tr h170 h175 (by decide) (by decide)
                  refine r_if_eq 105 C dX5_readWord_100 (by decide) (fun c179 => ?_) (fun c179 => ?_)
                  · have c179' := i_eq c179
                    refine r_aload_n 0 C dX5_readWord_105 rfl ?_
                    refine r_iload_n 1 C dX5_readWord_106 rfl ?_
                    refine r_ldcS 4 (by decide) C (by decide) dX5_readWord_107 ?_
                    refine callVI C cwX5_143_V (ctX5_isWord_1_4 _ _ w173 (sS sC h178) o176 u2 (by omega)) (by decide) (kS sC h178 kc_1) rfl rfl rfl (Nat.le_of_ble_eq_true rfl) (by decide) dX5_readWord_109 (fun r182 w181 y180 => ?_)
                    show V x 0 0 w181 112 [(0, .ref (gz (xG x) + 1)), (1, .int u2)] [.int r182]
                    obtain ⟨h183, o184, g185⟩ := y180
                    have h186 := Ch.tr h178 h183 (by decide) (by decide)
                    refine r_if_eq 117 C dX5_readWord_112 (by decide) (fun c187 => ?_) (fun c187 => ?_)
                    · have c187' := i_eq c187
                      refine r_aload_n 0 C dX5_readWord_117 rfl ?_
                      refine r_iload_n 1 C dX5_readWord_118 rfl ?_
                      refine r_ldcS 5 (by decide) C (by decide) dX5_readWord_119 ?_
                      refine callVI C cwX5_143_V (ctX5_isWord_1_5 _ _ w181 (sS sC h186) o184 u2 (by omega)) (by decide) (kS sC h186 kc_1) rfl rfl rfl (Nat.le_of_ble_eq_true rfl) (by decide) dX5_readWord_121 (fun r190 w189 y188 => ?_)
                      show V x 0 0 w189 124 [(0, .ref (gz (xG x) + 1)), (1, .int u2)] [.int r190]
                      obtain ⟨h191, o192, g193⟩ := y188
                      have h194 := Ch.tr h186 h191 (by decide) (by decide)
                      refine r_if_eq 130 C dX5_readWord_124 (by decide) (fun c195 => ?_) (fun c195 => ?_)
                      · have c195' := i_eq c195
                        refine r_aload_n 0 C dX5_readWord_130 rfl ?_
                        refine r_iload_n 1 C dX5_readWord_131 rfl ?_
                        refine r_ldcS 6 (by decide) C (by decide) dX5_readWord_132 ?_
                        refine callVI C cwX5_143_V (ctX5_isWord_1_6 _ _ w189 (sS sC h194) o192 u2 (by omega)) (by decide) (kS sC h194 kc_1) rfl rfl rfl (Nat.le_of_ble_eq_true rfl) (by decide) dX5_readWord_134 (fun r198 w197 y196 => ?_)
                        show V x 0 0 w197 137 [(0, .ref (gz (xG x) + 1)), (1, .int u2)] [.int r198]
                        obtain ⟨h199, o200, g201⟩ := y196
                        have h202 := Ch.tr h194 h199 (by decide) (by decide)
                        refine r_if_eq 143 C dX5_readWord_137 (by decide) (fun c203 => ?_) (fun c203 => ?_)
                        · have c203' := i_eq c203
                          refine r_aload_n 0 C dX5_readWord_143 rfl ?_
                          refine r_iload_n 1 C dX5_readWord_144 rfl ?_
                          refine r_ldcS 7 (by decide) C (by decide) dX5_readWord_145 ?_
                          refine callVI C cwX5_143_V (ctX5_isWord_1_7 _ _ w197 (sS sC h202) o200 u2 (by omega)) (by decide) (kS sC h202 kc_1) rfl rfl rfl (Nat.le_of_ble_eq_true rfl) (by decide) dX5_readWord_147 (fun r206 w205 y204 => ?_)
                          show V x 0 0 w205 150 [(0, .ref (gz (xG x) + 1)), (1, .int u2)] [.int r206]
                          obtain ⟨h207, o208, g209⟩ := y204
                          have h210 := Ch.tr h202 h207 (by decide) (by decide)
                          refine r_if_eq 158 C dX5_readWord_150 (by decide) (fun c211 => ?_) (fun c211 => ?_)
                          · have c211' := i_eq c211
                            refine r_iconst (v := (-1)) C dX5_readWord_158 (by decide) ?_
                            exact hret _ _ _ _ dX5_readWord_159 rfl ⟨h210, o208⟩
                          · have c211' := i_ne c211
                            refine r_bipush (v := 8) C dX5_readWord_153 (by decide) ?_
                            refine r_goto 159 C dX5_readWord_155 (by decide) ?_
                            exact hret _ _ _ _ dX5_readWord_159 rfl ⟨h210, o208⟩
                        · have c203' := i_ne c203
                          refine r_bipush (v := 7) C dX5_readWord_140 (by decide) ?_
                          exact hret _ _ _ _ dX5_readWord_142 rfl ⟨h202, o200⟩
                      · have c195' := i_ne c195
                        refine r_bipush (v := 6) C dX5_readWord_127 (by decide) ?_
                        exact hret _ _ _ _ dX5_readWord_129 rfl ⟨h194, o192⟩
                    · have c187' := i_ne c187
                      refine r_iconst (v := 5) C dX5_readWord_115 (by decide) ?_
                      exact hret _ _ _ _ dX5_readWord_116 rfl ⟨h186, o184⟩
                  · have c179' := i_ne c179
                    refine r_iconst (v := 3) C dX5_readWord_103 (by decide) ?_
                    exact hret _ _ _ _ dX5_readWord_104 rfl ⟨h178, o176⟩
                · have c171' := i_ne c171
                  refine r_iconst (v := 2) C dX5_readWord_91 (by decide) ?_
                  exact hret _ _ _ _ dX5_readWord_92 rfl ⟨h170, o168⟩
              · have c163' := i_ne c163
                refine r_iconst (v := 1) C dX5_readWord_79 (by decide) ?_
                exact hret _ _ _ _ dX5_readWord_80 rfl ⟨h162, o160⟩
            · have c155' := i_ne c155
              refine r_iconst (v := 4) C dX5_readWord_67 (by decide) ?_
              exact hret _ _ _ _ dX5_readWord_68 rfl ⟨h154, o152⟩
          · have c146' := i_nlt c146
            refine r_aload_n 0 C dX5_readWord_44 rfl ?_
            refine r_dup C dX5_readWord_45 rfl ?_
            refine gfX5_27 (v := (wI w5 1 4)) C (kS sC h6 kc_1) rfl dX5_readWord_46 ?_
            refine r_iconst (v := 1) C dX5_readWord_49 (by decide) ?_
            refine r_iadd C dX5_readWord_50 (fun v212 e213 => ?_)
            have v212' := iadd_ok e213 (by omega) (by omega)
            refine pfX5_27 C (kS sC h6 kc_1) dX5_readWord_51 (fun w214 e215 => ?_)
            have h216 := Ch.putF h6 e215 (by decide)
            have o217 := Inv.put o7 e215 0 500 (by omega) (by decide)
            refine r_goto 5 C dX5_readWord_54 (by decide) ?_
            refine r_lv [0, 1] rfl ?_
            exact ih10 u2 w214 h216 o217 (by omega) (by rw [(g_eq e215)]; omega)
  refine r_aload_n 0 C dX5_readWord_0 rfl ?_
  refine gfX5_27 (v := (wI w 1 4)) C (kS sC h0 kc_1) rfl dX5_readWord_1 ?_
  have b1 := Inv.get o0 rt_1_4 (j := 4) (by decide) (by decide)
  refine r_istore_n [(1, .int (wI w 1 4)), (0, .ref (gz (xG x) + 1))] C dX5_readWord_4 (by decide) rfl ?_
  refine r_lv [1, 0] rfl ?_
  exact LP3 4294967296 (wI w 1 4) w h0 o0 (by omega) (by omega)
set_option maxHeartbeats 4000000 in
set_option maxRecDepth 100000 in
theorem ctX5_readEnd_1 (l : Launch) (G : Gt) (w : Wv) (sC : Str KC XC w) (o0 : Inv RC w)  : CtV l G yX5_readEnd cX5_readEnd 1 ({ frames := 1, cells := 0, slots := 0, locals := 22 } : Room) [.ref (gz G + 1)] w (fun w' => Ch [] [(1, 1), (1, 2), (1, 4)] w w' ∧ Inv RC w') := by
  refine enterV (by decide) (Nat.le_of_ble_eq_true rfl) ?_
  intro x el eG C hnm hret
  subst el; subst eG
  show V x 0 0 w 0 [(0, .ref (gz (xG x) + 1))] []
  have h0 : Ch [] [(1, 1), (1, 2), (1, 4)] w w := Ch.rf
  have q1 : (1 : Int32).toInt = 1 := by decide
  have q59 : (59 : Int32).toInt = 59 := by decide
  refine r_aload_n 0 C dX5_readEnd_0 rfl ?_
  refine callVV C cwX5_33_V (ctX5_skipBlanks_1 _ _ w (sS sC h0) o0  ) (by decide) (kS sC h0 kc_1) rfl rfl rfl (Nat.le_of_ble_eq_true rfl) (by decide) dX5_readEnd_1 (fun w2 y1 => ?_)
  show V x 0 0 w2 4 [(0, .ref (gz (xG x) + 1))] []
  obtain ⟨h4, o5⟩ := y1
  have h6 := Ch.tr h0 h4 (by decide) (by decide)
  refine r_aload_n 0 C dX5_readEnd_4 rfl ?_
  refine gfX5_27 (v := (wI w2 1 4)) C (kS sC h6 kc_1) rfl dX5_readEnd_5 ?_
  have b7 := Inv.get o5 rt_1_4 (j := 4) (by decide) (by decide)
  refine r_aload_n 0 C dX5_readEnd_8 rfl ?_
  refine gfX5_19 (v := (wI w 1 0)) C (kS sC h6 kc_1) (h4.I (by decide) (by decide) rfl) dX5_readEnd_9 ?_
  have b8 := Inv.get o0 rt_1_0 (j := 0) (by decide) (by decide)
  refine r_icmp_ge 42 C dX5_readEnd_12 (by decide) (fun c9 => ?_) (fun c9 => ?_)
  · have c9' := i_le c9
    refine r_aload_n 0 C dX5_readEnd_42 rfl ?_
    refine r_iconst (v := 1) C dX5_readEnd_43 (by decide) ?_
    refine r_aload_n 0 C dX5_readEnd_44 rfl ?_
    refine gfX5_27 (v := (wI w2 1 4)) C (kS sC h6 kc_1) rfl dX5_readEnd_45 ?_
    refine callVV C cwX5_43_V (ctX5_blame_1 _ _ w2 (sS sC h6) o5 1 (wI w2 1 4) (by omega)) (by decide) (kS sC h6 kc_1) rfl rfl rfl (Nat.le_of_ble_eq_true rfl) (by decide) dX5_readEnd_48 (fun w11 y10 => ?_)
    show V x 0 0 w11 51 [(0, .ref (gz (xG x) + 1))] []
    obtain ⟨h13, o14, f15⟩ := y10
    have h16 := Ch.tr h6 h13 (by decide) (by decide)
    exact hret _ _ _ dX5_readEnd_51 ⟨h16, o14⟩
  · have c9' := i_nle c9
    refine r_aload_n 0 C dX5_readEnd_15 rfl ?_
    refine gfX5_15 2 C (kS sC h6 kc_1) (xS sC h6 xc_1_3) dX5_readEnd_16 ?_
    refine r_aload_n 0 C dX5_readEnd_19 rfl ?_
    refine gfX5_27 (v := (wI w2 1 4)) C (kS sC h6 kc_1) rfl dX5_readEnd_20 ?_
    refine r_iald C (kS sC h6 kc_2) (vin (by omega) (by omega)) dX5_readEnd_23 ?_
    generalize (wI w2 2 ((wI w2 1 4)).toNatClampNeg) = v17
    refine r_bipush (v := 59) C dX5_readEnd_24 (by decide) ?_
    refine r_icmp_ne 42 C dX5_readEnd_26 (by decide) (fun c18 => ?_) (fun c18 => ?_)
    · have c18' := i_ne c18
      refine r_aload_n 0 C dX5_readEnd_42 rfl ?_
      refine r_iconst (v := 1) C dX5_readEnd_43 (by decide) ?_
      refine r_aload_n 0 C dX5_readEnd_44 rfl ?_
      refine gfX5_27 (v := (wI w2 1 4)) C (kS sC h6 kc_1) rfl dX5_readEnd_45 ?_
      refine callVV C cwX5_43_V (ctX5_blame_1 _ _ w2 (sS sC h6) o5 1 (wI w2 1 4) (by omega)) (by decide) (kS sC h6 kc_1) rfl rfl rfl (Nat.le_of_ble_eq_true rfl) (by decide) dX5_readEnd_48 (fun w20 y19 => ?_)
      show V x 0 0 w20 51 [(0, .ref (gz (xG x) + 1))] []
      obtain ⟨h22, o23, f24⟩ := y19
      have h25 := Ch.tr h6 h22 (by decide) (by decide)
      exact hret _ _ _ dX5_readEnd_51 ⟨h25, o23⟩
    · have c18' := i_eq c18
      refine r_aload_n 0 C dX5_readEnd_29 rfl ?_
      refine r_dup C dX5_readEnd_30 rfl ?_
      refine gfX5_27 (v := (wI w2 1 4)) C (kS sC h6 kc_1) rfl dX5_readEnd_31 ?_
      refine r_iconst (v := 1) C dX5_readEnd_34 (by decide) ?_
      refine r_iadd C dX5_readEnd_35 (fun v26 e27 => ?_)
      have v26' := iadd_ok e27 (by omega) (by omega)
      refine pfX5_27 C (kS sC h6 kc_1) dX5_readEnd_36 (fun w28 e29 => ?_)
      have h30 := Ch.putF h6 e29 (by decide)
      have o31 := Inv.put o5 e29 0 500 (by omega) (by decide)
      refine r_goto 51 C dX5_readEnd_39 (by decide) ?_
      exact hret _ _ _ dX5_readEnd_51 ⟨h30, o31⟩
set_option maxHeartbeats 4000000 in
set_option maxRecDepth 100000 in
theorem ctX5_readNumber_1 (l : Launch) (G : Gt) (w : Wv) (sC : Str KC XC w) (o0 : Inv RC w) (a1 : Int32) (a2 : Int32) : CtI l G yX5_readNumber cX5_readNumber 4 .int ({ frames := 1, cells := 0, slots := 0, locals := 22 } : Room) [.ref (gz G + 1), .int a1, .int a2] w (fun r w' => Ch [] [(1, 1), (1, 2), (1, 4), (1, 5)] w w' ∧ Inv RC w' ∧ (r.toInt = a1.toInt ∨ (a1.toInt ≤ r.toInt ∧ r.toInt ≤ a2.toInt))) := by
  refine enterI (by decide) (Nat.le_of_ble_eq_true rfl) ?_
  intro x el eG C hret
  subst el; subst eG
  show V x 0 0 w 0 [(0, .ref (gz (xG x) + 1)), (1, .int a1), (2, .int a2)] []
  have h0 : Ch [] [(1, 1), (1, 2), (1, 4), (1, 5)] w w := Ch.rf
  have q0 : (0 : Int32).toInt = 0 := by decide
  have q1 : (1 : Int32).toInt = 1 := by decide
  have q2 : (2 : Int32).toInt = 2 := by decide
  have q3 : (3 : Int32).toInt = 3 := by decide
  have q10 : (10 : Int32).toInt = 10 := by decide
  have q48 : (48 : Int32).toInt = 48 := by decide
  have q57 : (57 : Int32).toInt = 57 := by decide
  have LP14 : ∀ (f15 : Nat) (u13 : Int32) (w16 : Wv), Ch [] [(1, 1), (1, 2), (1, 4), (1, 5)] w w16 → Inv RC w16 → 500 - (wI w16 1 4).toInt < f15 → V x 0 0 w16 23 [(0, .ref (gz (xG x) + 1)), (1, .int a1), (2, .int a2), (3, .int u13)] [] := by
    intro f15
    induction f15 with
    | zero => intro u13 w16 h17 o18  z19; have b0 := Inv.get o18 rt_1_4 (j := 4) (by decide) (by decide); exfalso; omega
    | succ f15 ih20 =>
      intro u13 w16 h17 o18  z19
      refine r_aload_n 0 C dX5_readNumber_23 rfl ?_
      refine gfX5_27 (v := (wI w16 1 4)) C (kS sC h17 kc_1) rfl dX5_readNumber_24 ?_
      have b21 := Inv.get o18 rt_1_4 (j := 4) (by decide) (by decide)
      refine r_aload_n 0 C dX5_readNumber_27 rfl ?_
      refine gfX5_19 (v := (wI w 1 0)) C (kS sC h17 kc_1) (h17.I (by decide) (by decide) rfl) dX5_readNumber_28 ?_
      have b22 := Inv.get o0 rt_1_0 (j := 0) (by decide) (by decide)
      refine r_icmp_ge 110 C dX5_readNumber_31 (by decide) (fun c23 => ?_) (fun c23 => ?_)
      · have c23' := i_le c23
        refine r_aload_n 0 C dX5_readNumber_110 rfl ?_
        refine gfX5_27 (v := (wI w16 1 4)) C (kS sC h17 kc_1) rfl dX5_readNumber_111 ?_
        refine r_aload_n 0 C dX5_readNumber_114 rfl ?_
        refine gfX5_116 (v := (wI w16 1 5)) C (kS sC h17 kc_1) rfl dX5_readNumber_115 ?_
        refine r_icmp_ne 133 C dX5_readNumber_118 (by decide) (fun c24 => ?_) (fun c24 => ?_)
        · have c24' := i_ne c24
          refine r_aload_n 0 C dX5_readNumber_133 rfl ?_
          refine gfX5_27 (v := (wI w16 1 4)) C (kS sC h17 kc_1) rfl dX5_readNumber_134 ?_
          refine r_aload_n 0 C dX5_readNumber_137 rfl ?_
          refine gfX5_116 (v := (wI w16 1 5)) C (kS sC h17 kc_1) rfl dX5_readNumber_138 ?_
          refine r_isub C dX5_readNumber_141 (fun v25 e26 => ?_)
          refine r_iconst (v := 3) C dX5_readNumber_142 (by decide) ?_
          have k28 := i_rng v25
          refine r_icmp_gt 156 C dX5_readNumber_143 (by decide) (fun c27 => ?_) (fun c27 => ?_)
          · have c27' := i_lt c27
            refine r_aload_n 0 C dX5_readNumber_156 rfl ?_
            refine r_iconst (v := 2) C dX5_readNumber_157 (by decide) ?_
            refine r_aload_n 0 C dX5_readNumber_158 rfl ?_
            refine gfX5_116 (v := (wI w16 1 5)) C (kS sC h17 kc_1) rfl dX5_readNumber_159 ?_
            refine callVV C cwX5_43_V (ctX5_blame_1 _ _ w16 (sS sC h17) o18 2 (wI w16 1 5) (by omega)) (by decide) (kS sC h17 kc_1) rfl rfl rfl (Nat.le_of_ble_eq_true rfl) (by decide) dX5_readNumber_162 (fun w30 y29 => ?_)
            show V x 0 0 w30 165 [(0, .ref (gz (xG x) + 1)), (1, .int a1), (2, .int a2), (3, .int u13)] []
            obtain ⟨h32, o33, f34⟩ := y29
            have h35 := Ch.tr h17 h32 (by decide) (by decide)
            refine r_aload_n 0 C dX5_readNumber_165 rfl ?_
            refine gfX5_30 (v := (wI w30 1 1)) C (kS sC h35 kc_1) rfl dX5_readNumber_166 ?_
            refine r_if_ne 176 C dX5_readNumber_169 (by decide) (fun c36 => ?_) (fun c36 => ?_)
            · have c36' := i_ne c36
              refine r_iload_n 1 C dX5_readNumber_176 rfl ?_
              exact hret _ _ _ _ dX5_readNumber_177 rfl ⟨h35, o33, by omega⟩
            · have c36' := i_eq c36
              refine r_iload_n 3 C dX5_readNumber_172 rfl ?_
              refine r_goto 177 C dX5_readNumber_173 (by decide) ?_
              exact hret _ _ _ _ dX5_readNumber_177 rfl ⟨h35, o33, by omega⟩
          · have c27' := i_nlt c27
            refine r_iload_n 3 C dX5_readNumber_146 rfl ?_
            refine r_iload_n 1 C dX5_readNumber_147 rfl ?_
            have k38 := i_rng u13
            have k39 := i_rng a1
            refine r_icmp_lt 156 C dX5_readNumber_148 (by decide) (fun c37 => ?_) (fun c37 => ?_)
            · have c37' := i_lt c37
              refine r_aload_n 0 C dX5_readNumber_156 rfl ?_
              refine r_iconst (v := 2) C dX5_readNumber_157 (by decide) ?_
              refine r_aload_n 0 C dX5_readNumber_158 rfl ?_
              refine gfX5_116 (v := (wI w16 1 5)) C (kS sC h17 kc_1) rfl dX5_readNumber_159 ?_
              refine callVV C cwX5_43_V (ctX5_blame_1 _ _ w16 (sS sC h17) o18 2 (wI w16 1 5) (by omega)) (by decide) (kS sC h17 kc_1) rfl rfl rfl (Nat.le_of_ble_eq_true rfl) (by decide) dX5_readNumber_162 (fun w41 y40 => ?_)
              show V x 0 0 w41 165 [(0, .ref (gz (xG x) + 1)), (1, .int a1), (2, .int a2), (3, .int u13)] []
              obtain ⟨h43, o44, f45⟩ := y40
              have h46 := Ch.tr h17 h43 (by decide) (by decide)
              refine r_aload_n 0 C dX5_readNumber_165 rfl ?_
              refine gfX5_30 (v := (wI w41 1 1)) C (kS sC h46 kc_1) rfl dX5_readNumber_166 ?_
              refine r_if_ne 176 C dX5_readNumber_169 (by decide) (fun c47 => ?_) (fun c47 => ?_)
              · have c47' := i_ne c47
                refine r_iload_n 1 C dX5_readNumber_176 rfl ?_
                exact hret _ _ _ _ dX5_readNumber_177 rfl ⟨h46, o44, by omega⟩
              · have c47' := i_eq c47
                refine r_iload_n 3 C dX5_readNumber_172 rfl ?_
                refine r_goto 177 C dX5_readNumber_173 (by decide) ?_
                exact hret _ _ _ _ dX5_readNumber_177 rfl ⟨h46, o44, by omega⟩
            · have c37' := i_nlt c37
              refine r_iload_n 3 C dX5_readNumber_151 rfl ?_
              refine r_iload_n 2 C dX5_readNumber_152 rfl ?_
              have k49 := i_rng u13
              have k50 := i_rng a2
              refine r_icmp_le 165 C dX5_readNumber_153 (by decide) (fun c48 => ?_) (fun c48 => ?_)
              · have c48' := i_le c48
                refine r_aload_n 0 C dX5_readNumber_165 rfl ?_
                refine gfX5_30 (v := (wI w16 1 1)) C (kS sC h17 kc_1) rfl dX5_readNumber_166 ?_
                refine r_if_ne 176 C dX5_readNumber_169 (by decide) (fun c51 => ?_) (fun c51 => ?_)
                · have c51' := i_ne c51
                  refine r_iload_n 1 C dX5_readNumber_176 rfl ?_
                  exact hret _ _ _ _ dX5_readNumber_177 rfl ⟨h17, o18, by omega⟩
                · have c51' := i_eq c51
                  refine r_iload_n 3 C dX5_readNumber_172 rfl ?_
                  refine r_goto 177 C dX5_readNumber_173 (by decide) ?_
                  exact hret _ _ _ _ dX5_readNumber_177 rfl ⟨h17, o18, by omega⟩
              · have c48' := i_nle c48
                refine r_aload_n 0 C dX5_readNumber_156 rfl ?_
                refine r_iconst (v := 2) C dX5_readNumber_157 (by decide) ?_
                refine r_aload_n 0 C dX5_readNumber_158 rfl ?_
                refine gfX5_116 (v := (wI w16 1 5)) C (kS sC h17 kc_1) rfl dX5_readNumber_159 ?_
                refine callVV C cwX5_43_V (ctX5_blame_1 _ _ w16 (sS sC h17) o18 2 (wI w16 1 5) (by omega)) (by decide) (kS sC h17 kc_1) rfl rfl rfl (Nat.le_of_ble_eq_true rfl) (by decide) dX5_readNumber_162 (fun w53 y52 => ?_)
                show V x 0 0 w53 165 [(0, .ref (gz (xG x) + 1)), (1, .int a1), (2, .int a2), (3, .int u13)] []
                obtain ⟨h55, o56, f57⟩ := y52
                have h58 := Ch.tr h17 h55 (by decide) (by decide)
                refine r_aload_n 0 C dX5_readNumber_165 rfl ?_
                refine gfX5_30 (v := (wI w53 1 1)) C (kS sC h58 kc_1) rfl dX5_readNumber_166 ?_
                refine r_if_ne 176 C dX5_readNumber_169 (by decide) (fun c59 => ?_) (fun c59 => ?_)
                · have c59' := i_ne c59
                  refine r_iload_n 1 C dX5_readNumber_176 rfl ?_
                  exact hret _ _ _ _ dX5_readNumber_177 rfl ⟨h58, o56, by omega⟩
                · have c59' := i_eq c59
                  refine r_iload_n 3 C dX5_readNumber_172 rfl ?_
                  refine r_goto 177 C dX5_readNumber_173 (by decide) ?_
                  exact hret _ _ _ _ dX5_readNumber_177 rfl ⟨h58, o56, by omega⟩
        · have c24' := i_eq c24
          refine r_aload_n 0 C dX5_readNumber_121 rfl ?_
          refine r_iconst (v := 1) C dX5_readNumber_122 (by decide) ?_
          refine r_aload_n 0 C dX5_readNumber_123 rfl ?_
          refine gfX5_116 (v := (wI w16 1 5)) C (kS sC h17 kc_1) rfl dX5_readNumber_124 ?_
          refine callVV C cwX5_43_V (ctX5_blame_1 _ _ w16 (sS sC h17) o18 1 (wI w16 1 5) (by omega)) (by decide) (kS sC h17 kc_1) rfl rfl rfl (Nat.le_of_ble_eq_true rfl) (by decide) dX5_readNumber_127 (fun w61 y60 => ?_)
          show V x 0 0 w61 130 [(0, .ref (gz (xG x) + 1)), (1, .int a1), (2, .int a2), (3, .int u13)] []
          obtain ⟨h63, o64, f65⟩ := y60
          have h66 := Ch.tr h17 h63 (by decide) (by decide)
          refine r_goto 165 C dX5_readNumber_130 (by decide) ?_
          refine r_aload_n 0 C dX5_readNumber_165 rfl ?_
          refine gfX5_30 (v := (wI w61 1 1)) C (kS sC h66 kc_1) rfl dX5_readNumber_166 ?_
          refine r_if_ne 176 C dX5_readNumber_169 (by decide) (fun c67 => ?_) (fun c67 => ?_)
          · have c67' := i_ne c67
            refine r_iload_n 1 C dX5_readNumber_176 rfl ?_
            exact hret _ _ _ _ dX5_readNumber_177 rfl ⟨h66, o64, by omega⟩
          · have c67' := i_eq c67
            refine r_iload_n 3 C dX5_readNumber_172 rfl ?_
            refine r_goto 177 C dX5_readNumber_173 (by decide) ?_
            exact hret _ _ _ _ dX5_readNumber_177 rfl ⟨h66, o64, by omega⟩
      · have c23' := i_nle c23
        refine r_aload_n 0 C dX5_readNumber_34 rfl ?_
        refine gfX5_15 2 C (kS sC h17 kc_1) (xS sC h17 xc_1_3) dX5_readNumber_35 ?_
        refine r_aload_n 0 C dX5_readNumber_38 rfl ?_
        refine gfX5_27 (v := (wI w16 1 4)) C (kS sC h17 kc_1) rfl dX5_readNumber_39 ?_
        refine r_iald C (kS sC h17 kc_2) (vin (by omega) (by omega)) dX5_readNumber_42 ?_
        generalize (wI w16 2 ((wI w16 1 4)).toNatClampNeg) = v68
        refine r_bipush (v := 48) C dX5_readNumber_43 (by decide) ?_
        have k70 := i_rng v68
        refine r_icmp_lt 110 C dX5_readNumber_45 (by decide) (fun c69 => ?_) (fun c69 => ?_)
        · have c69' := i_lt c69
          refine r_aload_n 0 C dX5_readNumber_110 rfl ?_
          refine gfX5_27 (v := (wI w16 1 4)) C (kS sC h17 kc_1) rfl dX5_readNumber_111 ?_
          refine r_aload_n 0 C dX5_readNumber_114 rfl ?_
          refine gfX5_116 (v := (wI w16 1 5)) C (kS sC h17 kc_1) rfl dX5_readNumber_115 ?_
          refine r_icmp_ne 133 C dX5_readNumber_118 (by decide) (fun c71 => ?_) (fun c71 => ?_)
          · have c71' := i_ne c71
            refine r_aload_n 0 C dX5_readNumber_133 rfl ?_
            refine gfX5_27 (v := (wI w16 1 4)) C (kS sC h17 kc_1) rfl dX5_readNumber_134 ?_
            refine r_aload_n 0 C dX5_readNumber_137 rfl ?_
            refine gfX5_116 (v := (wI w16 1 5)) C (kS sC h17 kc_1) rfl dX5_readNumber_138 ?_
            refine r_isub C dX5_readNumber_141 (fun v72 e73 => ?_)
            refine r_iconst (v := 3) C dX5_readNumber_142 (by decide) ?_
            have k75 := i_rng v72
            refine r_icmp_gt 156 C dX5_readNumber_143 (by decide) (fun c74 => ?_) (fun c74 => ?_)
            · have c74' := i_lt c74
              refine r_aload_n 0 C dX5_readNumber_156 rfl ?_
              refine r_iconst (v := 2) C dX5_readNumber_157 (by decide) ?_
              refine r_aload_n 0 C dX5_readNumber_158 rfl ?_
              refine gfX5_116 (v := (wI w16 1 5)) C (kS sC h17 kc_1) rfl dX5_readNumber_159 ?_
              refine callVV C cwX5_43_V (ctX5_blame_1 _ _ w16 (sS sC h17) o18 2 (wI w16 1 5) (by omega)) (by decide) (kS sC h17 kc_1) rfl rfl rfl (Nat.le_of_ble_eq_true rfl) (by decide) dX5_readNumber_162 (fun w77 y76 => ?_)
              show V x 0 0 w77 165 [(0, .ref (gz (xG x) + 1)), (1, .int a1), (2, .int a2), (3, .int u13)] []
              obtain ⟨h79, o80, f81⟩ := y76
              have h82 := Ch.tr h17 h79 (by decide) (by decide)
              refine r_aload_n 0 C dX5_readNumber_165 rfl ?_
              refine gfX5_30 (v := (wI w77 1 1)) C (kS sC h82 kc_1) rfl dX5_readNumber_166 ?_
              refine r_if_ne 176 C dX5_readNumber_169 (by decide) (fun c83 => ?_) (fun c83 => ?_)
              · have c83' := i_ne c83
                refine r_iload_n 1 C dX5_readNumber_176 rfl ?_
                exact hret _ _ _ _ dX5_readNumber_177 rfl ⟨h82, o80, by omega⟩
              · have c83' := i_eq c83
                refine r_iload_n 3 C dX5_readNumber_172 rfl ?_
                refine r_goto 177 C dX5_readNumber_173 (by decide) ?_
                exact hret _ _ _ _ dX5_readNumber_177 rfl ⟨h82, o80, by omega⟩
            · have c74' := i_nlt c74
              refine r_iload_n 3 C dX5_readNumber_146 rfl ?_
              refine r_iload_n 1 C dX5_readNumber_147 rfl ?_
              have k85 := i_rng u13
              have k86 := i_rng a1
              refine r_icmp_lt 156 C dX5_readNumber_148 (by decide) (fun c84 => ?_) (fun c84 => ?_)
              · have c84' := i_lt c84
                refine r_aload_n 0 C dX5_readNumber_156 rfl ?_
                refine r_iconst (v := 2) C dX5_readNumber_157 (by decide) ?_
                refine r_aload_n 0 C dX5_readNumber_158 rfl ?_
                refine gfX5_116 (v := (wI w16 1 5)) C (kS sC h17 kc_1) rfl dX5_readNumber_159 ?_
                refine callVV C cwX5_43_V (ctX5_blame_1 _ _ w16 (sS sC h17) o18 2 (wI w16 1 5) (by omega)) (by decide) (kS sC h17 kc_1) rfl rfl rfl (Nat.le_of_ble_eq_true rfl) (by decide) dX5_readNumber_162 (fun w88 y87 => ?_)
                show V x 0 0 w88 165 [(0, .ref (gz (xG x) + 1)), (1, .int a1), (2, .int a2), (3, .int u13)] []
                obtain ⟨h90, o91, f92⟩ := y87
                have h93 := Ch.tr h17 h90 (by decide) (by decide)
                refine r_aload_n 0 C dX5_readNumber_165 rfl ?_
                refine gfX5_30 (v := (wI w88 1 1)) C (kS sC h93 kc_1) rfl dX5_readNumber_166 ?_
                refine r_if_ne 176 C dX5_readNumber_169 (by decide) (fun c94 => ?_) (fun c94 => ?_)
                · have c94' := i_ne c94
                  refine r_iload_n 1 C dX5_readNumber_176 rfl ?_
                  exact hret _ _ _ _ dX5_readNumber_177 rfl ⟨h93, o91, by omega⟩
                · have c94' := i_eq c94
                  refine r_iload_n 3 C dX5_readNumber_172 rfl ?_
                  refine r_goto 177 C dX5_readNumber_173 (by decide) ?_
                  exact hret _ _ _ _ dX5_readNumber_177 rfl ⟨h93, o91, by omega⟩
              · have c84' := i_nlt c84
                refine r_iload_n 3 C dX5_readNumber_151 rfl ?_
                refine r_iload_n 2 C dX5_readNumber_152 rfl ?_
                have k96 := i_rng u13
                have k97 := i_rng a2
                refine r_icmp_le 165 C dX5_readNumber_153 (by decide) (fun c95 => ?_) (fun c95 => ?_)
                · have c95' := i_le c95
                  refine r_aload_n 0 C dX5_readNumber_165 rfl ?_
                  refine gfX5_30 (v := (wI w16 1 1)) C (kS sC h17 kc_1) rfl dX5_readNumber_166 ?_
                  refine r_if_ne 176 C dX5_readNumber_169 (by decide) (fun c98 => ?_) (fun c98 => ?_)
                  · have c98' := i_ne c98
                    refine r_iload_n 1 C dX5_readNumber_176 rfl ?_
                    exact hret _ _ _ _ dX5_readNumber_177 rfl ⟨h17, o18, by omega⟩
                  · have c98' := i_eq c98
                    refine r_iload_n 3 C dX5_readNumber_172 rfl ?_
                    refine r_goto 177 C dX5_readNumber_173 (by decide) ?_
                    exact hret _ _ _ _ dX5_readNumber_177 rfl ⟨h17, o18, by omega⟩
                · have c95' := i_nle c95
                  refine r_aload_n 0 C dX5_readNumber_156 rfl ?_
                  refine r_iconst (v := 2) C dX5_readNumber_157 (by decide) ?_
                  refine r_aload_n 0 C dX5_readNumber_158 rfl ?_
                  refine gfX5_116 (v := (wI w16 1 5)) C (kS sC h17 kc_1) rfl dX5_readNumber_159 ?_
                  refine callVV C cwX5_43_V (ctX5_blame_1 _ _ w16 (sS sC h17) o18 2 (wI w16 1 5) (by omega)) (by decide) (kS sC h17 kc_1) rfl rfl rfl (Nat.le_of_ble_eq_true rfl) (by decide) dX5_readNumber_162 (fun w100 y99 => ?_)
                  show V x 0 0 w100 165 [(0, .ref (gz (xG x) + 1)), (1, .int a1), (2, .int a2), (3, .int u13)] []
                  obtain ⟨h102, o103, f104⟩ := y99
                  have h105 := Ch.tr h17 h102 (by decide) (by decide)
                  refine r_aload_n 0 C dX5_readNumber_165 rfl ?_
                  refine gfX5_30 (v := (wI w100 1 1)) C (kS sC h105 kc_1) rfl dX5_readNumber_166 ?_
                  refine r_if_ne 176 C dX5_readNumber_169 (by decide) (fun c106 => ?_) (fun c106 => ?_)
                  · have c106' := i_ne c106
                    refine r_iload_n 1 C dX5_readNumber_176 rfl ?_
                    exact hret _ _ _ _ dX5_readNumber_177 rfl ⟨h105, o103, by omega⟩
                  · have c106' := i_eq c106
                    refine r_iload_n 3 C dX5_readNumber_172 rfl ?_
                    refine r_goto 177 C dX5_readNumber_173 (by decide) ?_
                    exact hret _ _ _ _ dX5_readNumber_177 rfl ⟨h105, o103, by omega⟩
          · have c71' := i_eq c71
            refine r_aload_n 0 C dX5_readNumber_121 rfl ?_
            refine r_iconst (v := 1) C dX5_readNumber_122 (by decide) ?_
            refine r_aload_n 0 C dX5_readNumber_123 rfl ?_
            refine gfX5_116 (v := (wI w16 1 5)) C (kS sC h17 kc_1) rfl dX5_readNumber_124 ?_
            refine callVV C cwX5_43_V (ctX5_blame_1 _ _ w16 (sS sC h17) o18 1 (wI w16 1 5) (by omega)) (by decide) (kS sC h17 kc_1) rfl rfl rfl (Nat.le_of_ble_eq_true rfl) (by decide) dX5_readNumber_127 (fun w108 y107 => ?_)
            show V x 0 0 w108 130 [(0, .ref (gz (xG x) + 1)), (1, .int a1), (2, .int a2), (3, .int u13)] []
            obtain ⟨h110, o111, f112⟩ := y107
            have h113 := Ch.tr h17 h110 (by decide) (by decide)
            refine r_goto 165 C dX5_readNumber_130 (by decide) ?_
            refine r_aload_n 0 C dX5_readNumber_165 rfl ?_
            refine gfX5_30 (v := (wI w108 1 1)) C (kS sC h113 kc_1) rfl dX5_readNumber_166 ?_
            refine r_if_ne 176 C dX5_readNumber_169 (by decide) (fun c114 => ?_) (fun c114 => ?_)
            · have c114' := i_ne c114
              refine r_iload_n 1 C dX5_readNumber_176 rfl ?_
              exact hret _ _ _ _ dX5_readNumber_177 rfl ⟨h113, o111, by omega⟩
            · have c114' := i_eq c114
              refine r_iload_n 3 C dX5_readNumber_172 rfl ?_
              refine r_goto 177 C dX5_readNumber_173 (by decide) ?_
              exact hret _ _ _ _ dX5_readNumber_177 rfl ⟨h113, o111, by omega⟩
        · have c69' := i_nlt c69
          refine r_aload_n 0 C dX5_readNumber_48 rfl ?_
          refine gfX5_15 2 C (kS sC h17 kc_1) (xS sC h17 xc_1_3) dX5_readNumber_49 ?_
          refine r_aload_n 0 C dX5_readNumber_52 rfl ?_
          refine gfX5_27 (v := (wI w16 1 4)) C (kS sC h17 kc_1) rfl dX5_readNumber_53 ?_
          refine r_iald C (kS sC h17 kc_2) (vin (by omega) (by omega)) dX5_readNumber_56 ?_
          generalize (wI w16 2 ((wI w16 1 4)).toNatClampNeg) = v115
          refine r_bipush (v := 57) C dX5_readNumber_57 (by decide) ?_
          have k117 := i_rng v115
          refine r_icmp_gt 110 C dX5_readNumber_59 (by decide) (fun c116 => ?_) (fun c116 => ?_)
          · have c116' := i_lt c116
            refine r_aload_n 0 C dX5_readNumber_110 rfl ?_
            refine gfX5_27 (v := (wI w16 1 4)) C (kS sC h17 kc_1) rfl dX5_readNumber_111 ?_
            refine r_aload_n 0 C dX5_readNumber_114 rfl ?_
            refine gfX5_116 (v := (wI w16 1 5)) C (kS sC h17 kc_1) rfl dX5_readNumber_115 ?_
            refine r_icmp_ne 133 C dX5_readNumber_118 (by decide) (fun c118 => ?_) (fun c118 => ?_)
            · have c118' := i_ne c118
              refine r_aload_n 0 C dX5_readNumber_133 rfl ?_
              refine gfX5_27 (v := (wI w16 1 4)) C (kS sC h17 kc_1) rfl dX5_readNumber_134 ?_
              refine r_aload_n 0 C dX5_readNumber_137 rfl ?_
              refine gfX5_116 (v := (wI w16 1 5)) C (kS sC h17 kc_1) rfl dX5_readNumber_138 ?_
              refine r_isub C dX5_readNumber_141 (fun v119 e120 => ?_)
              refine r_iconst (v := 3) C dX5_readNumber_142 (by decide) ?_
              have k122 := i_rng v119
              refine r_icmp_gt 156 C dX5_readNumber_143 (by decide) (fun c121 => ?_) (fun c121 => ?_)
              · have c121' := i_lt c121
                refine r_aload_n 0 C dX5_readNumber_156 rfl ?_
                refine r_iconst (v := 2) C dX5_readNumber_157 (by decide) ?_
                refine r_aload_n 0 C dX5_readNumber_158 rfl ?_
                refine gfX5_116 (v := (wI w16 1 5)) C (kS sC h17 kc_1) rfl dX5_readNumber_159 ?_
                refine callVV C cwX5_43_V (ctX5_blame_1 _ _ w16 (sS sC h17) o18 2 (wI w16 1 5) (by omega)) (by decide) (kS sC h17 kc_1) rfl rfl rfl (Nat.le_of_ble_eq_true rfl) (by decide) dX5_readNumber_162 (fun w124 y123 => ?_)
                show V x 0 0 w124 165 [(0, .ref (gz (xG x) + 1)), (1, .int a1), (2, .int a2), (3, .int u13)] []
                obtain ⟨h126, o127, f128⟩ := y123
                have h129 := Ch.tr h17 h126 (by decide) (by decide)
                refine r_aload_n 0 C dX5_readNumber_165 rfl ?_
                refine gfX5_30 (v := (wI w124 1 1)) C (kS sC h129 kc_1) rfl dX5_readNumber_166 ?_
                refine r_if_ne 176 C dX5_readNumber_169 (by decide) (fun c130 => ?_) (fun c130 => ?_)
                · have c130' := i_ne c130
                  refine r_iload_n 1 C dX5_readNumber_176 rfl ?_
                  exact hret _ _ _ _ dX5_readNumber_177 rfl ⟨h129, o127, by omega⟩
                · have c130' := i_eq c130
                  refine r_iload_n 3 C dX5_readNumber_172 rfl ?_
                  refine r_goto 177 C dX5_readNumber_173 (by decide) ?_
                  exact hret _ _ _ _ dX5_readNumber_177 rfl ⟨h129, o127, by omega⟩
              · have c121' := i_nlt c121
                refine r_iload_n 3 C dX5_readNumber_146 rfl ?_
                refine r_iload_n 1 C dX5_readNumber_147 rfl ?_
                have k132 := i_rng u13
                have k133 := i_rng a1
                refine r_icmp_lt 156 C dX5_readNumber_148 (by decide) (fun c131 => ?_) (fun c131 => ?_)
                · have c131' := i_lt c131
                  refine r_aload_n 0 C dX5_readNumber_156 rfl ?_
                  refine r_iconst (v := 2) C dX5_readNumber_157 (by decide) ?_
                  refine r_aload_n 0 C dX5_readNumber_158 rfl ?_
                  refine gfX5_116 (v := (wI w16 1 5)) C (kS sC h17 kc_1) rfl dX5_readNumber_159 ?_
                  refine callVV C cwX5_43_V (ctX5_blame_1 _ _ w16 (sS sC h17) o18 2 (wI w16 1 5) (by omega)) (by decide) (kS sC h17 kc_1) rfl rfl rfl (Nat.le_of_ble_eq_true rfl) (by decide) dX5_readNumber_162 (fun w135 y134 => ?_)
                  show V x 0 0 w135 165 [(0, .ref (gz (xG x) + 1)), (1, .int a1), (2, .int a2), (3, .int u13)] []
                  obtain ⟨h137, o138, f139⟩ := y134
                  have h140 := Ch.tr h17 h137 (by decide) (by decide)
                  refine r_aload_n 0 C dX5_readNumber_165 rfl ?_
                  refine gfX5_30 (v := (wI w135 1 1)) C (kS sC h140 kc_1) rfl dX5_readNumber_166 ?_
                  refine r_if_ne 176 C dX5_readNumber_169 (by decide) (fun c141 => ?_) (fun c141 => ?_)
                  · have c141' := i_ne c141
                    refine r_iload_n 1 C dX5_readNumber_176 rfl ?_
                    exact hret _ _ _ _ dX5_readNumber_177 rfl ⟨h140, o138, by omega⟩
                  · have c141' := i_eq c141
                    refine r_iload_n 3 C dX5_readNumber_172 rfl ?_
                    refine r_goto 177 C dX5_readNumber_173 (by decide) ?_
                    exact hret _ _ _ _ dX5_readNumber_177 rfl ⟨h140, o138, by omega⟩
                · have c131' := i_nlt c131
                  refine r_iload_n 3 C dX5_readNumber_151 rfl ?_
                  refine r_iload_n 2 C dX5_readNumber_152 rfl ?_
                  have k143 := i_rng u13
                  have k144 := i_rng a2
                  refine r_icmp_le 165 C dX5_readNumber_153 (by decide) (fun c142 => ?_) (fun c142 => ?_)
                  · have c142' := i_le c142
                    refine r_aload_n 0 C dX5_readNumber_165 rfl ?_
                    refine gfX5_30 (v := (wI w16 1 1)) C (kS sC h17 kc_1) rfl dX5_readNumber_166 ?_
                    refine r_if_ne 176 C dX5_readNumber_169 (by decide) (fun c145 => ?_) (fun c145 => ?_)
                    · have c145' := i_ne c145
                      refine r_iload_n 1 C dX5_readNumber_176 rfl ?_
                      exact hret _ _ _ _ dX5_readNumber_177 rfl ⟨h17, o18, by omega⟩
                    · have c145' := i_eq c145
                      refine r_iload_n 3 C dX5_readNumber_172 rfl ?_
                      refine r_goto 177 C dX5_readNumber_173 (by decide) ?_
                      exact hret _ _ _ _ dX5_readNumber_177 rfl ⟨h17, o18, by omega⟩
                  · have c142' := i_nle c142
                    refine r_aload_n 0 C dX5_readNumber_156 rfl ?_
                    refine r_iconst (v := 2) C dX5_readNumber_157 (by decide) ?_
                    refine r_aload_n 0 C dX5_readNumber_158 rfl ?_
                    refine gfX5_116 (v := (wI w16 1 5)) C (kS sC h17 kc_1) rfl dX5_readNumber_159 ?_
                    refine callVV C cwX5_43_V (ctX5_blame_1 _ _ w16 (sS sC h17) o18 2 (wI w16 1 5) (by omega)) (by decide) (kS sC h17 kc_1) rfl rfl rfl (Nat.le_of_ble_eq_true rfl) (by decide) dX5_readNumber_162 (fun w147 y146 => ?_)
                    show V x 0 0 w147 165 [(0, .ref (gz (xG x) + 1)), (1, .int a1), (2, .int a2), (3, .int u13)] []
                    obtain ⟨h149, o150, f151⟩ := y146
                    have h152 := Ch.tr h17 h149 (by decide) (by decide)
                    refine r_aload_n 0 C dX5_readNumber_165 rfl ?_
                    refine gfX5_30 (v := (wI w147 1 1)) C (kS sC h152 kc_1) rfl dX5_readNumber_166 ?_
                    refine r_if_ne 176 C dX5_readNumber_169 (by decide) (fun c153 => ?_) (fun c153 => ?_)
                    · have c153' := i_ne c153
                      refine r_iload_n 1 C dX5_readNumber_176 rfl ?_
                      exact hret _ _ _ _ dX5_readNumber_177 rfl ⟨h152, o150, by omega⟩
                    · have c153' := i_eq c153
                      refine r_iload_n 3 C dX5_readNumber_172 rfl ?_
                      refine r_goto 177 C dX5_readNumber_173 (by decide) ?_
                      exact hret _ _ _ _ dX5_readNumber_177 rfl ⟨h152, o150, by omega⟩
            · have c118' := i_eq c118
              refine r_aload_n 0 C dX5_readNumber_121 rfl ?_
              refine r_iconst (v := 1) C dX5_readNumber_122 (by decide) ?_
              refine r_aload_n 0 C dX5_readNumber_123 rfl ?_
              refine gfX5_116 (v := (wI w16 1 5)) C (kS sC h17 kc_1) rfl dX5_readNumber_124 ?_
              refine callVV C cwX5_43_V (ctX5_blame_1 _ _ w16 (sS sC h17) o18 1 (wI w16 1 5) (by omega)) (by decide) (kS sC h17 kc_1) rfl rfl rfl (Nat.le_of_ble_eq_true rfl) (by decide) dX5_readNumber_127 (fun w155 y154 => ?_)
              show V x 0 0 w155 130 [(0, .ref (gz (xG x) + 1)), (1, .int a1), (2, .int a2), (3, .int u13)] []
              obtain ⟨h157, o158, f159⟩ := y154
              have h160 := Ch.tr h17 h157 (by decide) (by decide)
              refine r_goto 165 C dX5_readNumber_130 (by decide) ?_
              refine r_aload_n 0 C dX5_readNumber_165 rfl ?_
              refine gfX5_30 (v := (wI w155 1 1)) C (kS sC h160 kc_1) rfl dX5_readNumber_166 ?_
              refine r_if_ne 176 C dX5_readNumber_169 (by decide) (fun c161 => ?_) (fun c161 => ?_)
              · have c161' := i_ne c161
                refine r_iload_n 1 C dX5_readNumber_176 rfl ?_
                exact hret _ _ _ _ dX5_readNumber_177 rfl ⟨h160, o158, by omega⟩
              · have c161' := i_eq c161
                refine r_iload_n 3 C dX5_readNumber_172 rfl ?_
                refine r_goto 177 C dX5_readNumber_173 (by decide) ?_
                exact hret _ _ _ _ dX5_readNumber_177 rfl ⟨h160, o158, by omega⟩
          · have c116' := i_nlt c116
            refine r_aload_n 0 C dX5_readNumber_62 rfl ?_
            refine gfX5_27 (v := (wI w16 1 4)) C (kS sC h17 kc_1) rfl dX5_readNumber_63 ?_
            refine r_aload_n 0 C dX5_readNumber_66 rfl ?_
            refine gfX5_116 (v := (wI w16 1 5)) C (kS sC h17 kc_1) rfl dX5_readNumber_67 ?_
            refine r_isub C dX5_readNumber_70 (fun v162 e163 => ?_)
            refine r_iconst (v := 3) C dX5_readNumber_71 (by decide) ?_
            have k165 := i_rng v162
            refine r_icmp_ge 95 C dX5_readNumber_72 (by decide) (fun c164 => ?_) (fun c164 => ?_)
            · have c164' := i_le c164
              refine r_iload_n 3 C dX5_readNumber_95 rfl ?_
              refine r_istore_n [(3, .int u13), (0, .ref (gz (xG x) + 1)), (1, .int a1), (2, .int a2)] C dX5_readNumber_96 (by decide) rfl ?_
              refine r_aload_n 1 C dX5_readNumber_97 rfl ?_
              refine r_dup C dX5_readNumber_98 rfl ?_
              refine gfX5_27 (v := (wI w16 1 4)) C (kS sC h17 kc_1) rfl dX5_readNumber_99 ?_
              refine r_iconst (v := 1) C dX5_readNumber_102 (by decide) ?_
              refine r_iadd C dX5_readNumber_103 (fun v166 e167 => ?_)
              have v166' := iadd_ok e167 (by omega) (by omega)
              refine pfX5_27 C (kS sC h17 kc_1) dX5_readNumber_104 (fun w168 e169 => ?_)
              have h170 := Ch.putF h17 e169 (by decide)
              have o171 := Inv.put o18 e169 0 500 (by omega) (by decide)
              refine r_goto 23 C dX5_readNumber_107 (by decide) ?_
              refine r_lv [1, 2, 3, 0] rfl ?_
              exact ih20 u13 w168 h170 o171 (by rw [(g_eq e169)]; omega)
            · have c164' := i_nle c164
              refine r_iload_n 3 C dX5_readNumber_75 rfl ?_
              refine r_bipush (v := 10) C dX5_readNumber_76 (by decide) ?_
              refine r_imul C dX5_readNumber_78 (fun v172 e173 => ?_)
              refine r_aload_n 0 C dX5_readNumber_79 rfl ?_
              refine gfX5_15 2 C (kS sC h17 kc_1) (xS sC h17 xc_1_3) dX5_readNumber_80 ?_
              refine r_aload_n 0 C dX5_readNumber_83 rfl ?_
              refine gfX5_27 (v := (wI w16 1 4)) C (kS sC h17 kc_1) rfl dX5_readNumber_84 ?_
              refine r_iald C (kS sC h17 kc_2) (vin (by omega) (by omega)) dX5_readNumber_87 ?_
              generalize (wI w16 2 ((wI w16 1 4)).toNatClampNeg) = v174
              refine r_iadd C dX5_readNumber_88 (fun v175 e176 => ?_)
              refine r_bipush (v := 48) C dX5_readNumber_89 (by decide) ?_
              refine r_isub C dX5_readNumber_91 (fun v177 e178 => ?_)
              refine r_goto 96 C dX5_readNumber_92 (by decide) ?_
              refine r_istore_n [(3, .int v177), (0, .ref (gz (xG x) + 1)), (1, .int a1), (2, .int a2)] C dX5_readNumber_96 (by decide) rfl ?_
              refine r_aload_n 1 C dX5_readNumber_97 rfl ?_
              refine r_dup C dX5_readNumber_98 rfl ?_
              refine gfX5_27 (v := (wI w16 1 4)) C (kS sC h17 kc_1) rfl dX5_readNumber_99 ?_
              refine r_iconst (v := 1) C dX5_readNumber_102 (by decide) ?_
              refine r_iadd C dX5_readNumber_103 (fun v179 e180 => ?_)
              have v179' := iadd_ok e180 (by omega) (by omega)
              refine pfX5_27 C (kS sC h17 kc_1) dX5_readNumber_104 (fun w181 e182 => ?_)
              have h183 := Ch.putF h17 e182 (by decide)
              have o184 := Inv.put o18 e182 0 500 (by omega) (by decide)
              refine r_goto 23 C dX5_readNumber_107 (by decide) ?_
              refine r_lv [1, 2, 3, 0] rfl ?_
              exact ih20 v177 w181 h183 o184 (by rw [(g_eq e182)]; omega)
  refine r_aload_n 0 C dX5_readNumber_0 rfl ?_
  refine gfX5_30 (v := (wI w 1 1)) C (kS sC h0 kc_1) rfl dX5_readNumber_1 ?_
  refine r_if_eq 9 C dX5_readNumber_4 (by decide) (fun c1 => ?_) (fun c1 => ?_)
  · have c1' := i_eq c1
    refine r_aload_n 0 C dX5_readNumber_9 rfl ?_
    refine callVV C cwX5_33_V (ctX5_skipBlanks_1 _ _ w (sS sC h0) o0  ) (by decide) (kS sC h0 kc_1) rfl rfl rfl (Nat.le_of_ble_eq_true rfl) (by decide) dX5_readNumber_10 (fun w3 y2 => ?_)
    show V x 0 0 w3 13 [(0, .ref (gz (xG x) + 1)), (1, .int a1), (2, .int a2)] []
    obtain ⟨h5, o6⟩ := y2
    have h7 := Ch.tr h0 h5 (by decide) (by decide)
    refine r_aload_n 0 C dX5_readNumber_13 rfl ?_
    refine r_aload_n 0 C dX5_readNumber_14 rfl ?_
    refine gfX5_27 (v := (wI w3 1 4)) C (kS sC h7 kc_1) rfl dX5_readNumber_15 ?_
    have b8 := Inv.get o6 rt_1_4 (j := 4) (by decide) (by decide)
    refine pfX5_116 C (kS sC h7 kc_1) dX5_readNumber_18 (fun w9 e10 => ?_)
    have h11 := Ch.putF h7 e10 (by decide)
    have o12 := Inv.putk o6 e10 (by decide)
    refine r_iconst (v := 0) C dX5_readNumber_21 (by decide) ?_
    refine r_istore_n [(3, .int 0), (0, .ref (gz (xG x) + 1)), (1, .int a1), (2, .int a2)] C dX5_readNumber_22 (by decide) rfl ?_
    refine r_lv [1, 2, 3, 0] rfl ?_
    exact LP14 4294967296 0 w9 h11 o12 (by rw [(g_nk e10 (by decide) rfl)]; omega)
  · have c1' := i_ne c1
    refine r_iload_n 1 C dX5_readNumber_7 rfl ?_
    exact hret _ _ _ _ dX5_readNumber_8 rfl ⟨h0, o0, by omega⟩
set_option maxHeartbeats 4000000 in
set_option maxRecDepth 100000 in
theorem ctX5_readCell_1_3 (l : Launch) (G : Gt) (w : Wv) (sC : Str KC XC w) (o0 : Inv RC w)  : CtI l G yX5_readCell cX5_readCell 4 .int ({ frames := 2, cells := 0, slots := 0, locals := 45 } : Room) [.ref (gz G + 1), .ref (gz G + 3)] w (fun r w' => Ch [] [(1, 1), (1, 2), (1, 4), (1, 5)] w w' ∧ Inv RC w') := by
  refine enterI (by decide) (Nat.le_of_ble_eq_true rfl) ?_
  intro x el eG C hret
  subst el; subst eG
  show V x 0 0 w 0 [(0, .ref (gz (xG x) + 1)), (1, .ref (gz (xG x) + 3))] []
  have h0 : Ch [] [(1, 1), (1, 2), (1, 4), (1, 5)] w w := Ch.rf
  have qm1 : ((-1) : Int32).toInt = (-1) := by decide
  have q0 : (0 : Int32).toInt = 0 := by decide
  have q1 : (1 : Int32).toInt = 1 := by decide
  refine r_aload_n 0 C dX5_readCell_0 rfl ?_
  refine r_iconst (v := 0) C dX5_readCell_1 (by decide) ?_
  refine r_aload_n 1 C dX5_readCell_2 rfl ?_
  refine gfX5_40 (v := (wI w 3 0)) C (kS sC h0 kc_3) rfl dX5_readCell_3 ?_
  have b1 := Inv.get o0 rt_3_0 (j := 0) (by decide) (by decide)
  refine r_iconst (v := 1) C dX5_readCell_6 (by decide) ?_
  refine r_isub C dX5_readCell_7 (fun v2 e3 => ?_)
  have v2' := isub_ok e3 (by omega) (by omega)
  refine callVI C cwX5_96_V (ctX5_readNumber_1 _ _ w (sS sC h0) o0 0 v2 ) (by decide) (kS sC h0 kc_1) rfl rfl rfl (Nat.le_of_ble_eq_true rfl) (by decide) dX5_readCell_8 (fun r6 w5 y4 => ?_)
  show V x 0 0 w5 11 [(0, .ref (gz (xG x) + 1)), (1, .ref (gz (xG x) + 3))] [.int r6]
  obtain ⟨h7, o8, g9⟩ := y4
  have h10 := Ch.tr h0 h7 (by decide) (by decide)
  refine r_istore_n [(2, .int r6), (0, .ref (gz (xG x) + 1)), (1, .ref (gz (xG x) + 3))] C dX5_readCell_11 (by decide) rfl ?_
  refine r_aload_n 1 C dX5_readCell_12 rfl ?_
  refine r_iconst (v := 0) C dX5_readCell_13 (by decide) ?_
  refine r_aload_n 2 C dX5_readCell_14 rfl ?_
  refine gfX5_105 (v := (wI w 3 1)) C (kS sC h10 kc_3) (h7.I (by decide) (by decide) rfl) dX5_readCell_15 ?_
  have b11 := Inv.get o0 rt_3_1 (j := 1) (by decide) (by decide)
  refine r_iconst (v := 1) C dX5_readCell_18 (by decide) ?_
  refine r_isub C dX5_readCell_19 (fun v12 e13 => ?_)
  have v12' := isub_ok e13 (by omega) (by omega)
  refine callVI C cwX5_96_V (ctX5_readNumber_1 _ _ w5 (sS sC h10) o8 0 v12 ) (by decide) (kS sC h10 kc_1) rfl rfl rfl (Nat.le_of_ble_eq_true rfl) (by decide) dX5_readCell_20 (fun r16 w15 y14 => ?_)
  show V x 0 0 w15 23 [(2, .int r6), (0, .ref (gz (xG x) + 1)), (1, .ref (gz (xG x) + 3))] [.int r16]
  obtain ⟨h17, o18, g19⟩ := y14
  have h20 := Ch.tr h10 h17 (by decide) (by decide)
  refine r_istore_n [(3, .int r16), (2, .int r6), (0, .ref (gz (xG x) + 1)), (1, .ref (gz (xG x) + 3))] C dX5_readCell_23 (by decide) rfl ?_
  refine r_aload_n 2 C dX5_readCell_24 rfl ?_
  refine gfX5_30 (v := (wI w15 1 1)) C (kS sC h20 kc_1) rfl dX5_readCell_25 ?_
  refine r_if_ne 42 C dX5_readCell_28 (by decide) (fun c21 => ?_) (fun c21 => ?_)
  · have c21' := i_ne c21
    refine r_iconst (v := (-1)) C dX5_readCell_42 (by decide) ?_
    exact hret _ _ _ _ dX5_readCell_43 rfl ⟨h20, o18⟩
  · have c21' := i_eq c21
    refine r_iload_n 0 C dX5_readCell_31 rfl ?_
    refine r_aload_n 3 C dX5_readCell_32 rfl ?_
    refine gfX5_40 (v := (wI w 3 0)) C (kS sC h20 kc_3) (h17.I (by decide) (by decide) (h7.I (by decide) (by decide) rfl)) dX5_readCell_33 ?_
    refine r_imul C dX5_readCell_36 (fun v22 e23 => ?_)
    have v22' := imul_rng e23 (A := 8) (B := 9) (by omega) (by omega) (by decide)
    refine r_iload_n 1 C dX5_readCell_37 rfl ?_
    refine r_iadd C dX5_readCell_38 (fun v24 e25 => ?_)
    have v24' := iadd_ok e25 (by omega) (by omega)
    refine r_goto 43 C dX5_readCell_39 (by decide) ?_
    exact hret _ _ _ _ dX5_readCell_43 rfl ⟨h20, o18⟩
set_option maxHeartbeats 4000000 in
set_option maxRecDepth 100000 in
theorem ctX5_blameIfSpot_1_3 (l : Launch) (G : Gt) (w : Wv) (sC : Str KC XC w) (o0 : Inv RC w) (a2 : Int32) : CtV l G yX5_blameIfSpot cX5_blameIfSpot 3 ({ frames := 2, cells := 0, slots := 0, locals := 41 } : Room) [.ref (gz G + 1), .ref (gz G + 3), .int a2] w (fun w' => Ch [] [(1, 1), (1, 2)] w w' ∧ Inv RC w') := by
  refine enterV (by decide) (Nat.le_of_ble_eq_true rfl) ?_
  intro x el eG C hnm hret
  subst el; subst eG
  show V x 0 0 w 0 [(0, .ref (gz (xG x) + 1)), (1, .ref (gz (xG x) + 3)), (2, .int a2)] []
  have h0 : Ch [] [(1, 1), (1, 2)] w w := Ch.rf
  have q0 : (0 : Int32).toInt = 0 := by decide
  have q4 : (4 : Int32).toInt = 4 := by decide
  refine r_aload_n 1 C dX5_blameIfSpot_0 rfl ?_
  refine r_iload_n 2 C dX5_blameIfSpot_1 rfl ?_
  refine callVI C cwX5_138_V (ctX9_isSpot_3 _ _ w (sS sC h0) o0 a2 ) (by decide) (kS sC h0 kc_3) rfl rfl rfl (Nat.le_of_ble_eq_true rfl) (by decide) dX5_blameIfSpot_2 (fun r3 w2 y1 => ?_)
  show V x 0 0 w2 5 [(0, .ref (gz (xG x) + 1)), (1, .ref (gz (xG x) + 3)), (2, .int a2)] [.int r3]
  obtain ⟨h4, o5, g6⟩ := y1
  have h7 := Ch.tr h0 h4 (by decide) (by decide)
  refine r_if_eq 17 C dX5_blameIfSpot_5 (by decide) (fun c8 => ?_) (fun c8 => ?_)
  · have c8' := i_eq c8
    exact hret _ _ _ dX5_blameIfSpot_17 ⟨h7, o5⟩
  · have c8' := i_ne c8
    refine r_aload_n 0 C dX5_blameIfSpot_8 rfl ?_
    refine r_iconst (v := 4) C dX5_blameIfSpot_9 (by decide) ?_
    refine r_aload_n 0 C dX5_blameIfSpot_10 rfl ?_
    refine gfX5_116 (v := (wI w 1 5)) C (kS sC h7 kc_1) (h4.I (by decide) (by decide) rfl) dX5_blameIfSpot_11 ?_
    refine callVV C cwX5_43_V (ctX5_blame_1 _ _ w2 (sS sC h7) o5 4 (wI w 1 5) (by omega)) (by decide) (kS sC h7 kc_1) rfl rfl rfl (Nat.le_of_ble_eq_true rfl) (by decide) dX5_blameIfSpot_14 (fun w10 y9 => ?_)
    show V x 0 0 w10 17 [(0, .ref (gz (xG x) + 1)), (1, .ref (gz (xG x) + 3)), (2, .int a2)] []
    obtain ⟨h12, o13, f14⟩ := y9
    have h15 := Ch.tr h7 h12 (by decide) (by decide)
    exact hret _ _ _ dX5_blameIfSpot_17 ⟨h15, o13⟩
set_option maxHeartbeats 4000000 in
set_option maxRecDepth 100000 in
theorem ctX5_isTooMany_3 (l : Launch) (G : Gt) (w : Wv) (sC : Str KC XC w) (o0 : Inv RC w) (a2 : Int32) : CtI l G yX5_isTooMany cX5_isTooMany 2 .boolean ({ frames := 0, cells := 0, slots := 0, locals := 0 } : Room) [.ref (gz G + 3), .int a2] w (fun r w' => Ch [] [] w w' ∧ Inv RC w' ∧ ((0 ≤ r.toInt ∧ r.toInt ≤ 1))) := by
  refine enterI (by decide) (Nat.le_of_ble_eq_true rfl) ?_
  intro x el eG C hret
  subst el; subst eG
  show V x 0 0 w 0 [(0, .ref (gz (xG x) + 3)), (1, .int a2)] []
  have h0 : Ch [] [] w w := Ch.rf
  have qm1 : ((-1) : Int32).toInt = (-1) := by decide
  have q0 : (0 : Int32).toInt = 0 := by decide
  have q1 : (1 : Int32).toInt = 1 := by decide
  have q3 : (3 : Int32).toInt = 3 := by decide
  have q6 : (6 : Int32).toInt = 6 := by decide
  have q30 : (30 : Int32).toInt = 30 := by decide
  refine r_iload_n 1 C dX5_isTooMany_0 rfl ?_
  by_cases c1 : (a2 : Int32).toInt < 4 ∨ 8 < (a2 : Int32).toInt
  · refine r_tabOut 97 C dX5_isTooMany_1 c1 (by decide) ?_
    refine r_aload_n 0 C dX5_isTooMany_97 rfl ?_
    refine gfX5_93 (v := (wI w 3 2)) C (kS sC h0 kc_3) rfl dX5_isTooMany_98 ?_
    refine r_bipush (v := 30) C dX5_isTooMany_101 (by decide) ?_
    have k3 := i_rng (wI w 3 2)
    refine r_icmp_lt 110 C dX5_isTooMany_103 (by decide) (fun c2 => ?_) (fun c2 => ?_)
    · have c2' := i_lt c2
      refine r_iconst (v := 0) C dX5_isTooMany_110 (by decide) ?_
      exact hret _ _ _ _ dX5_isTooMany_111 (nar_z (z_of (by omega))) ⟨h0, o0, by omega⟩
    · have c2' := i_nlt c2
      refine r_iconst (v := 1) C dX5_isTooMany_106 (by decide) ?_
      refine r_goto 111 C dX5_isTooMany_107 (by decide) ?_
      exact hret _ _ _ _ dX5_isTooMany_111 (nar_z (z_of (by omega))) ⟨h0, o0, by omega⟩
  · rcases (show (a2 : Int32).toInt = 4 ∨ (a2 : Int32).toInt = 5 ∨ (a2 : Int32).toInt = 6 ∨ (a2 : Int32).toInt = 7 ∨ (a2 : Int32).toInt = 8 by omega) with c1 | c1 | c1 | c1 | c1
    · refine r_tabIn 36 C dX5_isTooMany_1 (by omega) (by omega) (by rw [c1]; rfl) (by decide) ?_
      refine r_aload_n 0 C dX5_isTooMany_36 rfl ?_
      refine gfX5_40 (v := (wI w 3 0)) C (kS sC h0 kc_3) rfl dX5_isTooMany_37 ?_
      have b4 := Inv.get o0 rt_3_0 (j := 0) (by decide) (by decide)
      refine r_if_le 47 C dX5_isTooMany_40 (by decide) (fun c5 => ?_) (fun c5 => ?_)
      · have c5' := i_le c5
        refine r_iconst (v := 0) C dX5_isTooMany_47 (by decide) ?_
        exact hret _ _ _ _ dX5_isTooMany_48 (nar_z (z_of (by omega))) ⟨h0, o0, by omega⟩
      · have c5' := i_nle c5
        refine r_iconst (v := 1) C dX5_isTooMany_43 (by decide) ?_
        refine r_goto 48 C dX5_isTooMany_44 (by decide) ?_
        exact hret _ _ _ _ dX5_isTooMany_48 (nar_z (z_of (by omega))) ⟨h0, o0, by omega⟩
    · refine r_tabIn 49 C dX5_isTooMany_1 (by omega) (by omega) (by rw [c1]; rfl) (by decide) ?_
      refine r_aload_n 0 C dX5_isTooMany_49 rfl ?_
      refine gfX5_80 (v := (wI w 3 3)) C (kS sC h0 kc_3) rfl dX5_isTooMany_50 ?_
      have b6 := Inv.get o0 rt_3_3 (j := 3) (by decide) (by decide)
      refine r_bipush (v := 6) C dX5_isTooMany_53 (by decide) ?_
      refine r_icmp_lt 62 C dX5_isTooMany_55 (by decide) (fun c7 => ?_) (fun c7 => ?_)
      · have c7' := i_lt c7
        refine r_iconst (v := 0) C dX5_isTooMany_62 (by decide) ?_
        exact hret _ _ _ _ dX5_isTooMany_63 (nar_z (z_of (by omega))) ⟨h0, o0, by omega⟩
      · have c7' := i_nlt c7
        refine r_iconst (v := 1) C dX5_isTooMany_58 (by decide) ?_
        refine r_goto 63 C dX5_isTooMany_59 (by decide) ?_
        exact hret _ _ _ _ dX5_isTooMany_63 (nar_z (z_of (by omega))) ⟨h0, o0, by omega⟩
    · refine r_tabIn 64 C dX5_isTooMany_1 (by omega) (by omega) (by rw [c1]; rfl) (by decide) ?_
      refine r_aload_n 0 C dX5_isTooMany_64 rfl ?_
      refine gfX5_83 (v := (wI w 3 4)) C (kS sC h0 kc_3) rfl dX5_isTooMany_65 ?_
      have b8 := Inv.get o0 rt_3_4 (j := 4) (by decide) (by decide)
      refine r_iconst (v := 3) C dX5_isTooMany_68 (by decide) ?_
      refine r_icmp_lt 76 C dX5_isTooMany_69 (by decide) (fun c9 => ?_) (fun c9 => ?_)
      · have c9' := i_lt c9
        refine r_iconst (v := 0) C dX5_isTooMany_76 (by decide) ?_
        exact hret _ _ _ _ dX5_isTooMany_77 (nar_z (z_of (by omega))) ⟨h0, o0, by omega⟩
      · have c9' := i_nlt c9
        refine r_iconst (v := 1) C dX5_isTooMany_72 (by decide) ?_
        refine r_goto 77 C dX5_isTooMany_73 (by decide) ?_
        exact hret _ _ _ _ dX5_isTooMany_77 (nar_z (z_of (by omega))) ⟨h0, o0, by omega⟩
    · refine r_tabIn 78 C dX5_isTooMany_1 (by omega) (by omega) (by rw [c1]; rfl) (by decide) ?_
      refine r_aload_n 0 C dX5_isTooMany_78 rfl ?_
      refine gfX5_86 (v := (wI w 3 5)) C (kS sC h0 kc_3) rfl dX5_isTooMany_79 ?_
      refine r_iconst (v := (-1)) C dX5_isTooMany_82 (by decide) ?_
      refine r_icmp_eq 90 C dX5_isTooMany_83 (by decide) (fun c10 => ?_) (fun c10 => ?_)
      · have c10' := i_eq c10
        refine r_iconst (v := 0) C dX5_isTooMany_90 (by decide) ?_
        exact hret _ _ _ _ dX5_isTooMany_91 (nar_z (z_of (by omega))) ⟨h0, o0, by omega⟩
      · have c10' := i_ne c10
        refine r_iconst (v := 1) C dX5_isTooMany_86 (by decide) ?_
        refine r_goto 91 C dX5_isTooMany_87 (by decide) ?_
        exact hret _ _ _ _ dX5_isTooMany_91 (nar_z (z_of (by omega))) ⟨h0, o0, by omega⟩
    · refine r_tabIn 92 C dX5_isTooMany_1 (by omega) (by omega) (by rw [c1]; rfl) (by decide) ?_
      refine r_aload_n 0 C dX5_isTooMany_92 rfl ?_
      refine gfX5_89 (v := (wI w 3 6)) C (kS sC h0 kc_3) rfl dX5_isTooMany_93 ?_
      have b11 := Inv.get o0 rt_3_6 (j := 6) (by decide) (by decide)
      exact hret _ _ _ _ dX5_isTooMany_96 (nar_z (z_of (by omega))) ⟨h0, o0, by omega⟩
set_option maxHeartbeats 4000000 in
set_option maxRecDepth 100000 in
theorem ctX5_readSize_1_3 (l : Launch) (G : Gt) (w : Wv) (sC : Str KC XC w) (o0 : Inv RC w)  : CtV l G yX5_readSize cX5_readSize 4 ({ frames := 2, cells := 0, slots := 0, locals := 45 } : Room) [.ref (gz G + 1), .ref (gz G + 3)] w (fun w' => Ch [] [(1, 1), (1, 2), (1, 4), (1, 5), (3, 0), (3, 1)] w w' ∧ Inv RC w') := by
  refine enterV (by decide) (Nat.le_of_ble_eq_true rfl) ?_
  intro x el eG C hnm hret
  subst el; subst eG
  show V x 0 0 w 0 [(0, .ref (gz (xG x) + 1)), (1, .ref (gz (xG x) + 3))] []
  have h0 : Ch [] [(1, 1), (1, 2), (1, 4), (1, 5), (3, 0), (3, 1)] w w := Ch.rf
  have q0 : (0 : Int32).toInt = 0 := by decide
  have q1 : (1 : Int32).toInt = 1 := by decide
  have q9 : (9 : Int32).toInt = 9 := by decide
  have q42 : (42 : Int32).toInt = 42 := by decide
  refine r_aload_n 0 C dX5_readSize_0 rfl ?_
  refine r_iconst (v := 1) C dX5_readSize_1 (by decide) ?_
  refine r_bipush (v := 9) C dX5_readSize_2 (by decide) ?_
  refine callVI C cwX5_96_V (ctX5_readNumber_1 _ _ w (sS sC h0) o0 1 9 ) (by decide) (kS sC h0 kc_1) rfl rfl rfl (Nat.le_of_ble_eq_true rfl) (by decide) dX5_readSize_4 (fun r3 w2 y1 => ?_)
  show V x 0 0 w2 7 [(0, .ref (gz (xG x) + 1)), (1, .ref (gz (xG x) + 3))] [.int r3]
  obtain ⟨h4, o5, g6⟩ := y1
  have h7 := Ch.tr h0 h4 (by decide) (by decide)
  refine r_istore_n [(2, .int r3), (0, .ref (gz (xG x) + 1)), (1, .ref (gz (xG x) + 3))] C dX5_readSize_7 (by decide) rfl ?_
  refine r_aload_n 1 C dX5_readSize_8 rfl ?_
  refine r_iconst (v := 1) C dX5_readSize_9 (by decide) ?_
  refine r_iload_n 0 C dX5_readSize_10 rfl ?_
  refine r_if_le 26 C dX5_readSize_11 (by decide) (fun c8 => ?_) (fun c8 => ?_)
  · have c8' := i_le c8
    exfalso; omega
  · have c8' := i_nle c8
    refine r_bipush (v := 9) C dX5_readSize_14 (by decide) ?_
    refine r_bipush (v := 42) C dX5_readSize_16 (by decide) ?_
    refine r_iload_n 0 C dX5_readSize_18 rfl ?_
    refine r_idiv C dX5_readSize_19 (fun q => by have q := i_eq q; omega) (fun v9 e10 => ?_)
    have v9' := idiv_rng e10 (by omega) (by omega)
    refine r_mmin C mw3_91 mw2_154 mw1_12 mw2_155 (by decide) (Nat.le_of_ble_eq_true rfl) (by decide) (by decide) dX5_readSize_20 (fun v11 e12 => ?_)
    have v11' := imin_ok e12
    refine r_goto 28 C dX5_readSize_23 (by decide) ?_
    refine callVI C cwX5_96_V (ctX5_readNumber_1 _ _ w2 (sS sC h7) o5 1 v11 ) (by decide) (kS sC h7 kc_1) rfl rfl rfl (Nat.le_of_ble_eq_true rfl) (by decide) dX5_readSize_28 (fun r15 w14 y13 => ?_)
    show V x 0 0 w14 31 [(2, .int r3), (0, .ref (gz (xG x) + 1)), (1, .ref (gz (xG x) + 3))] [.int r15]
    obtain ⟨h16, o17, g18⟩ := y13
    have h19 := Ch.tr h7 h16 (by decide) (by decide)
    refine r_istore_n [(3, .int r15), (2, .int r3), (0, .ref (gz (xG x) + 1)), (1, .ref (gz (xG x) + 3))] C dX5_readSize_31 (by decide) rfl ?_
    refine r_aload_n 2 C dX5_readSize_32 rfl ?_
    refine gfX5_30 (v := (wI w14 1 1)) C (kS sC h19 kc_1) rfl dX5_readSize_33 ?_
    refine r_if_ne 49 C dX5_readSize_36 (by decide) (fun c20 => ?_) (fun c20 => ?_)
    · have c20' := i_ne c20
      exact hret _ _ _ dX5_readSize_49 ⟨h19, o17⟩
    · have c20' := i_eq c20
      refine r_aload_n 3 C dX5_readSize_39 rfl ?_
      refine r_iload_n 1 C dX5_readSize_40 rfl ?_
      refine pfX5_40 C (kS sC h19 kc_3) dX5_readSize_41 (fun w21 e22 => ?_)
      have h23 := Ch.putF h19 e22 (by decide)
      have o24 := Inv.put o17 e22 0 9 (by omega) (by decide)
      refine r_aload_n 3 C dX5_readSize_44 rfl ?_
      refine r_iload_n 0 C dX5_readSize_45 rfl ?_
      refine pfX5_105 C (kS sC h23 kc_3) dX5_readSize_46 (fun w25 e26 => ?_)
      have h27 := Ch.putF h23 e26 (by decide)
      have o28 := Inv.put o24 e26 0 9 (by omega) (by decide)
      exact hret _ _ _ dX5_readSize_49 ⟨h27, o28⟩
set_option maxHeartbeats 4000000 in
set_option maxRecDepth 100000 in
theorem ctX5_readSpot_1_3 (l : Launch) (G : Gt) (w : Wv) (sC : Str KC XC w) (o0 : Inv RC w) (a2 : Int32) : CtV l G yX5_readSpot cX5_readSpot 4 ({ frames := 3, cells := 0, slots := 0, locals := 68 } : Room) [.ref (gz G + 1), .ref (gz G + 3), .int a2] w (fun w' => Ch [4] [(1, 1), (1, 2), (1, 4), (1, 5), (3, 2)] w w' ∧ Inv RC w') := by
  refine enterV (by decide) (Nat.le_of_ble_eq_true rfl) ?_
  intro x el eG C hnm hret
  subst el; subst eG
  show V x 0 0 w 0 [(0, .ref (gz (xG x) + 1)), (1, .ref (gz (xG x) + 3)), (2, .int a2)] []
  have h0 : Ch [4] [(1, 1), (1, 2), (1, 4), (1, 5), (3, 2)] w w := Ch.rf
  have qm1 : ((-1) : Int32).toInt = (-1) := by decide
  have q0 : (0 : Int32).toInt = 0 := by decide
  have q4 : (4 : Int32).toInt = 4 := by decide
  refine r_aload_n 0 C dX5_readSpot_0 rfl ?_
  refine r_aload_n 1 C dX5_readSpot_1 rfl ?_
  refine callVI C cwX5_108_V (ctX5_readCell_1_3 _ _ w (sS sC h0) o0  ) (by decide) (kS sC h0 kc_1) rfl rfl rfl (Nat.le_of_ble_eq_true rfl) (by decide) dX5_readSpot_2 (fun r3 w2 y1 => ?_)
  show V x 0 0 w2 5 [(0, .ref (gz (xG x) + 1)), (1, .ref (gz (xG x) + 3)), (2, .int a2)] [.int r3]
  obtain ⟨h4, o5⟩ := y1
  have h6 := Ch.tr h0 h4 (by decide) (by decide)
  refine r_istore_n [(3, .int r3), (0, .ref (gz (xG x) + 1)), (1, .ref (gz (xG x) + 3)), (2, .int a2)] C dX5_readSpot_5 (by decide) rfl ?_
  refine r_iload_n 0 C dX5_readSpot_6 rfl ?_
  refine r_iconst (v := (-1)) C dX5_readSpot_7 (by decide) ?_
  refine r_icmp_ne 12 C dX5_readSpot_8 (by decide) (fun c7 => ?_) (fun c7 => ?_)
  · have c7' := i_ne c7
    refine r_aload_n 2 C dX5_readSpot_12 rfl ?_
    refine r_iload_n 0 C dX5_readSpot_13 rfl ?_
    refine callVI C cwX5_112_V (ctX9_isTaken_3 _ _ w2 (sS sC h6) o5 r3 ) (by decide) (kS sC h6 kc_3) rfl rfl rfl (Nat.le_of_ble_eq_true rfl) (by decide) dX5_readSpot_14 (fun r10 w9 y8 => ?_)
    show V x 0 0 w9 17 [(3, .int r3), (0, .ref (gz (xG x) + 1)), (1, .ref (gz (xG x) + 3)), (2, .int a2)] [.int r10]
    obtain ⟨h11, o12, g13⟩ := y8
    have h14 := Ch.tr h6 h11 (by decide) (by decide)
    refine r_if_eq 32 C dX5_readSpot_17 (by decide) (fun c15 => ?_) (fun c15 => ?_)
    · have c15' := i_eq c15
      refine r_aload_n 2 C dX5_readSpot_32 rfl ?_
      refine r_iload_n 0 C dX5_readSpot_33 rfl ?_
      refine r_iload_n 3 C dX5_readSpot_34 rfl ?_
      refine callVV C cwX5_119_V (ctX9_addSpot_3 _ _ w9 (sS sC h14) o12 r3 a2 ) (by decide) (kS sC h14 kc_3) rfl rfl rfl (Nat.le_of_ble_eq_true rfl) (by decide) dX5_readSpot_35 (fun w17 y16 => ?_)
      show V x 0 0 w17 38 [(3, .int r3), (0, .ref (gz (xG x) + 1)), (1, .ref (gz (xG x) + 3)), (2, .int a2)] []
      obtain ⟨h19, o20⟩ := y16
      have h21 := Ch.tr h14 h19 (by decide) (by decide)
      exact hret _ _ _ dX5_readSpot_38 ⟨h21, o20⟩
    · have c15' := i_ne c15
      refine r_aload_n 1 C dX5_readSpot_20 rfl ?_
      refine r_iconst (v := 4) C dX5_readSpot_21 (by decide) ?_
      refine r_aload_n 1 C dX5_readSpot_22 rfl ?_
      refine gfX5_116 (v := (wI w2 1 5)) C (kS sC h14 kc_1) (h11.I (by decide) (by decide) rfl) dX5_readSpot_23 ?_
      refine callVV C cwX5_43_V (ctX5_blame_1 _ _ w9 (sS sC h14) o12 4 (wI w2 1 5) (by omega)) (by decide) (kS sC h14 kc_1) rfl rfl rfl (Nat.le_of_ble_eq_true rfl) (by decide) dX5_readSpot_26 (fun w23 y22 => ?_)
      show V x 0 0 w23 29 [(3, .int r3), (0, .ref (gz (xG x) + 1)), (1, .ref (gz (xG x) + 3)), (2, .int a2)] []
      obtain ⟨h25, o26, f27⟩ := y22
      have h28 := Ch.tr h14 h25 (by decide) (by decide)
      refine r_goto 38 C dX5_readSpot_29 (by decide) ?_
      exact hret _ _ _ dX5_readSpot_38 ⟨h28, o26⟩
  · have c7' := i_eq c7
    exact hret _ _ _ dX5_readSpot_11 ⟨h6, o5⟩
set_option maxHeartbeats 4000000 in
set_option maxRecDepth 100000 in
theorem ctX5_readCrowd_1_3 (l : Launch) (G : Gt) (w : Wv) (sC : Str KC XC w) (o0 : Inv RC w)  : CtV l G yX5_readCrowd cX5_readCrowd 7 ({ frames := 3, cells := 0, slots := 0, locals := 68 } : Room) [.ref (gz G + 1), .ref (gz G + 3)] w (fun w' => Ch [5, 6, 7, 8, 9] [(1, 1), (1, 2), (1, 4), (1, 5), (3, 3)] w w' ∧ Inv RC w') := by
  refine enterV (by decide) (Nat.le_of_ble_eq_true rfl) ?_
  intro x el eG C hnm hret
  subst el; subst eG
  show V x 0 0 w 0 [(0, .ref (gz (xG x) + 1)), (1, .ref (gz (xG x) + 3))] []
  have h0 : Ch [5, 6, 7, 8, 9] [(1, 1), (1, 2), (1, 4), (1, 5), (3, 3)] w w := Ch.rf
  have q0 : (0 : Int32).toInt = 0 := by decide
  have q1 : (1 : Int32).toInt = 1 := by decide
  have q2 : (2 : Int32).toInt = 2 := by decide
  have q3 : (3 : Int32).toInt = 3 := by decide
  have q99 : (99 : Int32).toInt = 99 := by decide
  refine r_aload_n 0 C dX5_readCrowd_0 rfl ?_
  refine r_iconst (v := 0) C dX5_readCrowd_1 (by decide) ?_
  refine r_iconst (v := 2) C dX5_readCrowd_2 (by decide) ?_
  refine callVI C cwX5_96_V (ctX5_readNumber_1 _ _ w (sS sC h0) o0 0 2 ) (by decide) (kS sC h0 kc_1) rfl rfl rfl (Nat.le_of_ble_eq_true rfl) (by decide) dX5_readCrowd_3 (fun r3 w2 y1 => ?_)
  show V x 0 0 w2 6 [(0, .ref (gz (xG x) + 1)), (1, .ref (gz (xG x) + 3))] [.int r3]
  obtain ⟨h4, o5, g6⟩ := y1
  have h7 := Ch.tr h0 h4 (by decide) (by decide)
  refine r_istore_n [(2, .int r3), (0, .ref (gz (xG x) + 1)), (1, .ref (gz (xG x) + 3))] C dX5_readCrowd_6 (by decide) rfl ?_
  refine r_aload_n 1 C dX5_readCrowd_7 rfl ?_
  refine r_aload_n 2 C dX5_readCrowd_8 rfl ?_
  refine callVI C cwX5_108_V (ctX5_readCell_1_3 _ _ w2 (sS sC h7) o5  ) (by decide) (kS sC h7 kc_1) rfl rfl rfl (Nat.le_of_ble_eq_true rfl) (by decide) dX5_readCrowd_9 (fun r10 w9 y8 => ?_)
  show V x 0 0 w9 12 [(2, .int r3), (0, .ref (gz (xG x) + 1)), (1, .ref (gz (xG x) + 3))] [.int r10]
  obtain ⟨h11, o12⟩ := y8
  have h13 := Ch.tr h7 h11 (by decide) (by decide)
  refine r_istore_n [(3, .int r10), (2, .int r3), (0, .ref (gz (xG x) + 1)), (1, .ref (gz (xG x) + 3))] C dX5_readCrowd_12 (by decide) rfl ?_
  refine r_aload_n 2 C dX5_readCrowd_13 rfl ?_
  refine r_aload_n 3 C dX5_readCrowd_14 rfl ?_
  refine r_iload_n 0 C dX5_readCrowd_15 rfl ?_
  refine callVV C cwX5_122_V (ctX5_blameIfSpot_1_3 _ _ w9 (sS sC h13) o12 r10 ) (by decide) (kS sC h13 kc_1) rfl rfl rfl (Nat.le_of_ble_eq_true rfl) (by decide) dX5_readCrowd_16 (fun w15 y14 => ?_)
  show V x 0 0 w15 19 [(3, .int r10), (2, .int r3), (0, .ref (gz (xG x) + 1)), (1, .ref (gz (xG x) + 3))] []
  obtain ⟨h17, o18⟩ := y14
  have h19 := Ch.tr h13 h17 (by decide) (by decide)
  refine r_aload_n 2 C dX5_readCrowd_19 rfl ?_
  refine r_iconst (v := 1) C dX5_readCrowd_20 (by decide) ?_
  refine r_bipush (v := 99) C dX5_readCrowd_21 (by decide) ?_
  refine callVI C cwX5_96_V (ctX5_readNumber_1 _ _ w15 (sS sC h19) o18 1 99 ) (by decide) (kS sC h19 kc_1) rfl rfl rfl (Nat.le_of_ble_eq_true rfl) (by decide) dX5_readCrowd_23 (fun r22 w21 y20 => ?_)
  show V x 0 0 w21 26 [(3, .int r10), (2, .int r3), (0, .ref (gz (xG x) + 1)), (1, .ref (gz (xG x) + 3))] [.int r22]
  obtain ⟨h23, o24, g25⟩ := y20
  have h26 := Ch.tr h19 h23 (by decide) (by decide)
  refine r_istore [(4, .int r22), (3, .int r10), (2, .int r3), (0, .ref (gz (xG x) + 1)), (1, .ref (gz (xG x) + 3))] C dX5_readCrowd_26 (by decide) rfl ?_
  refine r_aload_n 3 C dX5_readCrowd_28 rfl ?_
  refine r_iconst (v := 1) C dX5_readCrowd_29 (by decide) ?_
  refine r_iconst (v := 3) C dX5_readCrowd_30 (by decide) ?_
  refine callVI C cwX5_96_V (ctX5_readNumber_1 _ _ w21 (sS sC h26) o24 1 3 ) (by decide) (kS sC h26 kc_1) rfl rfl rfl (Nat.le_of_ble_eq_true rfl) (by decide) dX5_readCrowd_31 (fun r29 w28 y27 => ?_)
  show V x 0 0 w28 34 [(4, .int r22), (3, .int r10), (2, .int r3), (0, .ref (gz (xG x) + 1)), (1, .ref (gz (xG x) + 3))] [.int r29]
  obtain ⟨h30, o31, g32⟩ := y27
  have h33 := Ch.tr h26 h30 (by decide) (by decide)
  refine r_istore [(5, .int r29), (4, .int r22), (3, .int r10), (2, .int r3), (0, .ref (gz (xG x) + 1)), (1, .ref (gz (xG x) + 3))] C dX5_readCrowd_34 (by decide) rfl ?_
  refine r_aload_n 4 C dX5_readCrowd_36 rfl ?_
  refine r_iconst (v := 0) C dX5_readCrowd_37 (by decide) ?_
  refine r_iload 1 C dX5_readCrowd_38 rfl ?_
  refine callVI C cwX5_96_V (ctX5_readNumber_1 _ _ w28 (sS sC h33) o31 0 r22 ) (by decide) (kS sC h33 kc_1) rfl rfl rfl (Nat.le_of_ble_eq_true rfl) (by decide) dX5_readCrowd_40 (fun r36 w35 y34 => ?_)
  show V x 0 0 w35 43 [(5, .int r29), (4, .int r22), (3, .int r10), (2, .int r3), (0, .ref (gz (xG x) + 1)), (1, .ref (gz (xG x) + 3))] [.int r36]
  obtain ⟨h37, o38, g39⟩ := y34
  have h40 := Ch.tr h33 h37 (by decide) (by decide)
  refine r_istore [(6, .int r36), (5, .int r29), (4, .int r22), (3, .int r10), (2, .int r3), (0, .ref (gz (xG x) + 1)), (1, .ref (gz (xG x) + 3))] C dX5_readCrowd_43 (by decide) rfl ?_
  refine r_aload_n 5 C dX5_readCrowd_45 rfl ?_
  refine gfX5_30 (v := (wI w35 1 1)) C (kS sC h40 kc_1) rfl dX5_readCrowd_46 ?_
  refine r_if_ne 64 C dX5_readCrowd_49 (by decide) (fun c41 => ?_) (fun c41 => ?_)
  · have c41' := i_ne c41
    exact hret _ _ _ dX5_readCrowd_64 ⟨h40, o38⟩
  · have c41' := i_eq c41
    refine r_aload_n 6 C dX5_readCrowd_52 rfl ?_
    refine r_iload_n 4 C dX5_readCrowd_53 rfl ?_
    refine r_iload_n 3 C dX5_readCrowd_54 rfl ?_
    refine r_iload 2 C dX5_readCrowd_55 rfl ?_
    refine r_iload 1 C dX5_readCrowd_57 rfl ?_
    refine r_iload 0 C dX5_readCrowd_59 rfl ?_
    refine callVV C cwX5_125_V (ctX9_addCrowd_3 _ _ w35 (sS sC h40) o38 r3 r10 r22 r29 r36 ) (by decide) (kS sC h40 kc_3) rfl rfl rfl (Nat.le_of_ble_eq_true rfl) (by decide) dX5_readCrowd_61 (fun w43 y42 => ?_)
    show V x 0 0 w43 64 [(6, .int r36), (5, .int r29), (4, .int r22), (3, .int r10), (2, .int r3), (0, .ref (gz (xG x) + 1)), (1, .ref (gz (xG x) + 3))] []
    obtain ⟨h45, o46⟩ := y42
    have h47 := Ch.tr h40 h45 (by decide) (by decide)
    exact hret _ _ _ dX5_readCrowd_64 ⟨h47, o46⟩
set_option maxHeartbeats 4000000 in
set_option maxRecDepth 100000 in
theorem ctX5_readTune_1_3 (l : Launch) (G : Gt) (w : Wv) (sC : Str KC XC w) (o0 : Inv RC w)  : CtV l G yX5_readTune cX5_readTune 4 ({ frames := 2, cells := 0, slots := 0, locals := 45 } : Room) [.ref (gz G + 1), .ref (gz G + 3)] w (fun w' => Ch [10, 11] [(1, 1), (1, 2), (1, 4), (1, 5), (3, 4)] w w' ∧ Inv RC w') := by
  refine enterV (by decide) (Nat.le_of_ble_eq_true rfl) ?_
  intro x el eG C hnm hret
  subst el; subst eG
  show V x 0 0 w 0 [(0, .ref (gz (xG x) + 1)), (1, .ref (gz (xG x) + 3))] []
  have h0 : Ch [10, 11] [(1, 1), (1, 2), (1, 4), (1, 5), (3, 4)] w w := Ch.rf
  have q0 : (0 : Int32).toInt = 0 := by decide
  have q1 : (1 : Int32).toInt = 1 := by decide
  have q7 : (7 : Int32).toInt = 7 := by decide
  have q20 : (20 : Int32).toInt = 20 := by decide
  refine r_aload_n 0 C dX5_readTune_0 rfl ?_
  refine r_iconst (v := 1) C dX5_readTune_1 (by decide) ?_
  refine r_bipush (v := 7) C dX5_readTune_2 (by decide) ?_
  refine callVI C cwX5_96_V (ctX5_readNumber_1 _ _ w (sS sC h0) o0 1 7 ) (by decide) (kS sC h0 kc_1) rfl rfl rfl (Nat.le_of_ble_eq_true rfl) (by decide) dX5_readTune_4 (fun r3 w2 y1 => ?_)
  show V x 0 0 w2 7 [(0, .ref (gz (xG x) + 1)), (1, .ref (gz (xG x) + 3))] [.int r3]
  obtain ⟨h4, o5, g6⟩ := y1
  have h7 := Ch.tr h0 h4 (by decide) (by decide)
  refine r_istore_n [(2, .int r3), (0, .ref (gz (xG x) + 1)), (1, .ref (gz (xG x) + 3))] C dX5_readTune_7 (by decide) rfl ?_
  refine r_aload_n 1 C dX5_readTune_8 rfl ?_
  refine r_iconst (v := 0) C dX5_readTune_9 (by decide) ?_
  refine r_bipush (v := 20) C dX5_readTune_10 (by decide) ?_
  refine callVI C cwX5_96_V (ctX5_readNumber_1 _ _ w2 (sS sC h7) o5 0 20 ) (by decide) (kS sC h7 kc_1) rfl rfl rfl (Nat.le_of_ble_eq_true rfl) (by decide) dX5_readTune_12 (fun r10 w9 y8 => ?_)
  show V x 0 0 w9 15 [(2, .int r3), (0, .ref (gz (xG x) + 1)), (1, .ref (gz (xG x) + 3))] [.int r10]
  obtain ⟨h11, o12, g13⟩ := y8
  have h14 := Ch.tr h7 h11 (by decide) (by decide)
  refine r_istore_n [(3, .int r10), (2, .int r3), (0, .ref (gz (xG x) + 1)), (1, .ref (gz (xG x) + 3))] C dX5_readTune_15 (by decide) rfl ?_
  refine r_aload_n 2 C dX5_readTune_16 rfl ?_
  refine gfX5_30 (v := (wI w9 1 1)) C (kS sC h14 kc_1) rfl dX5_readTune_17 ?_
  refine r_if_ne 29 C dX5_readTune_20 (by decide) (fun c15 => ?_) (fun c15 => ?_)
  · have c15' := i_ne c15
    exact hret _ _ _ dX5_readTune_29 ⟨h14, o12⟩
  · have c15' := i_eq c15
    refine r_aload_n 3 C dX5_readTune_23 rfl ?_
    refine r_iload_n 1 C dX5_readTune_24 rfl ?_
    refine r_iload_n 0 C dX5_readTune_25 rfl ?_
    refine callVV C cwX5_129_V (ctX9_addTune_3 _ _ w9 (sS sC h14) o12 r3 r10 ) (by decide) (kS sC h14 kc_3) rfl rfl rfl (Nat.le_of_ble_eq_true rfl) (by decide) dX5_readTune_26 (fun w17 y16 => ?_)
    show V x 0 0 w17 29 [(3, .int r10), (2, .int r3), (0, .ref (gz (xG x) + 1)), (1, .ref (gz (xG x) + 3))] []
    obtain ⟨h19, o20⟩ := y16
    have h21 := Ch.tr h14 h19 (by decide) (by decide)
    exact hret _ _ _ dX5_readTune_29 ⟨h21, o20⟩
set_option maxHeartbeats 4000000 in
set_option maxRecDepth 100000 in
theorem ctX5_readPiper_1_3 (l : Launch) (G : Gt) (w : Wv) (sC : Str KC XC w) (o0 : Inv RC w)  : CtV l G yX5_readPiper cX5_readPiper 3 ({ frames := 3, cells := 0, slots := 0, locals := 68 } : Room) [.ref (gz G + 1), .ref (gz G + 3)] w (fun w' => Ch [] [(1, 1), (1, 2), (1, 4), (1, 5), (3, 5)] w w' ∧ Inv RC w') := by
  refine enterV (by decide) (Nat.le_of_ble_eq_true rfl) ?_
  intro x el eG C hnm hret
  subst el; subst eG
  show V x 0 0 w 0 [(0, .ref (gz (xG x) + 1)), (1, .ref (gz (xG x) + 3))] []
  have h0 : Ch [] [(1, 1), (1, 2), (1, 4), (1, 5), (3, 5)] w w := Ch.rf
  have q0 : (0 : Int32).toInt = 0 := by decide
  refine r_aload_n 0 C dX5_readPiper_0 rfl ?_
  refine r_aload_n 1 C dX5_readPiper_1 rfl ?_
  refine callVI C cwX5_108_V (ctX5_readCell_1_3 _ _ w (sS sC h0) o0  ) (by decide) (kS sC h0 kc_1) rfl rfl rfl (Nat.le_of_ble_eq_true rfl) (by decide) dX5_readPiper_2 (fun r3 w2 y1 => ?_)
  show V x 0 0 w2 5 [(0, .ref (gz (xG x) + 1)), (1, .ref (gz (xG x) + 3))] [.int r3]
  obtain ⟨h4, o5⟩ := y1
  have h6 := Ch.tr h0 h4 (by decide) (by decide)
  refine r_istore_n [(2, .int r3), (0, .ref (gz (xG x) + 1)), (1, .ref (gz (xG x) + 3))] C dX5_readPiper_5 (by decide) rfl ?_
  refine r_aload_n 1 C dX5_readPiper_6 rfl ?_
  refine r_aload_n 2 C dX5_readPiper_7 rfl ?_
  refine r_iload_n 0 C dX5_readPiper_8 rfl ?_
  refine callVV C cwX5_122_V (ctX5_blameIfSpot_1_3 _ _ w2 (sS sC h6) o5 r3 ) (by decide) (kS sC h6 kc_1) rfl rfl rfl (Nat.le_of_ble_eq_true rfl) (by decide) dX5_readPiper_9 (fun w8 y7 => ?_)
  show V x 0 0 w8 12 [(2, .int r3), (0, .ref (gz (xG x) + 1)), (1, .ref (gz (xG x) + 3))] []
  obtain ⟨h10, o11⟩ := y7
  have h12 := Ch.tr h6 h10 (by decide) (by decide)
  refine r_aload_n 1 C dX5_readPiper_12 rfl ?_
  refine gfX5_30 (v := (wI w8 1 1)) C (kS sC h12 kc_1) rfl dX5_readPiper_13 ?_
  refine r_if_ne 24 C dX5_readPiper_16 (by decide) (fun c13 => ?_) (fun c13 => ?_)
  · have c13' := i_ne c13
    exact hret _ _ _ dX5_readPiper_24 ⟨h12, o11⟩
  · have c13' := i_eq c13
    refine r_aload_n 2 C dX5_readPiper_19 rfl ?_
    refine r_iload_n 0 C dX5_readPiper_20 rfl ?_
    refine pfX5_86 C (kS sC h12 kc_3) dX5_readPiper_21 (fun w14 e15 => ?_)
    have h16 := Ch.putF h12 e15 (by decide)
    have k18 := i_rng r3
    have o17 := Inv.putk o11 e15 (by decide)
    exact hret _ _ _ dX5_readPiper_24 ⟨h16, o17⟩
set_option maxHeartbeats 4000000 in
set_option maxRecDepth 100000 in
theorem ctX5_readPay_1_3 (l : Launch) (G : Gt) (w : Wv) (sC : Str KC XC w) (o0 : Inv RC w)  : CtV l G yX5_readPay cX5_readPay 2 ({ frames := 2, cells := 0, slots := 0, locals := 45 } : Room) [.ref (gz G + 1), .ref (gz G + 3)] w (fun w' => Ch [] [(1, 1), (1, 2), (1, 4), (1, 5), (3, 6), (3, 7), (3, 8)] w w' ∧ Inv RC w') := by
  refine enterV (by decide) (Nat.le_of_ble_eq_true rfl) ?_
  intro x el eG C hnm hret
  subst el; subst eG
  show V x 0 0 w 0 [(0, .ref (gz (xG x) + 1)), (1, .ref (gz (xG x) + 3))] []
  have h0 : Ch [] [(1, 1), (1, 2), (1, 4), (1, 5), (3, 6), (3, 7), (3, 8)] w w := Ch.rf
  have q0 : (0 : Int32).toInt = 0 := by decide
  have q1 : (1 : Int32).toInt = 1 := by decide
  have q99 : (99 : Int32).toInt = 99 := by decide
  refine r_aload_n 1 C dX5_readPay_0 rfl ?_
  refine r_aload_n 0 C dX5_readPay_1 rfl ?_
  refine r_iconst (v := 0) C dX5_readPay_2 (by decide) ?_
  refine r_bipush (v := 99) C dX5_readPay_3 (by decide) ?_
  refine callVI C cwX5_96_V (ctX5_readNumber_1 _ _ w (sS sC h0) o0 0 99 ) (by decide) (kS sC h0 kc_1) rfl rfl rfl (Nat.le_of_ble_eq_true rfl) (by decide) dX5_readPay_5 (fun r3 w2 y1 => ?_)
  show V x 0 0 w2 8 [(0, .ref (gz (xG x) + 1)), (1, .ref (gz (xG x) + 3))] [.int r3, .ref (gz (xG x) + 3)]
  obtain ⟨h4, o5, g6⟩ := y1
  have h7 := Ch.tr h0 h4 (by decide) (by decide)
  refine pfX5_132 C (kS sC h7 kc_3) dX5_readPay_8 (fun w8 e9 => ?_)
  have h10 := Ch.putF h7 e9 (by decide)
  have o11 := Inv.putk o5 e9 (by decide)
  refine r_aload_n 1 C dX5_readPay_11 rfl ?_
  refine r_aload_n 0 C dX5_readPay_12 rfl ?_
  refine r_iconst (v := 0) C dX5_readPay_13 (by decide) ?_
  refine r_bipush (v := 99) C dX5_readPay_14 (by decide) ?_
  refine callVI C cwX5_96_V (ctX5_readNumber_1 _ _ w8 (sS sC h10) o11 0 99 ) (by decide) (kS sC h10 kc_1) rfl rfl rfl (Nat.le_of_ble_eq_true rfl) (by decide) dX5_readPay_16 (fun r14 w13 y12 => ?_)
  show V x 0 0 w13 19 [(0, .ref (gz (xG x) + 1)), (1, .ref (gz (xG x) + 3))] [.int r14, .ref (gz (xG x) + 3)]
  obtain ⟨h15, o16, g17⟩ := y12
  have h18 := Ch.tr h10 h15 (by decide) (by decide)
  refine pfX5_135 C (kS sC h18 kc_3) dX5_readPay_19 (fun w19 e20 => ?_)
  have h21 := Ch.putF h18 e20 (by decide)
  have o22 := Inv.putk o16 e20 (by decide)
  refine r_aload_n 1 C dX5_readPay_22 rfl ?_
  refine r_iconst (v := 1) C dX5_readPay_23 (by decide) ?_
  refine pfX5_89 C (kS sC h21 kc_3) (z_of (by omega)) dX5_readPay_24 (fun w23 e24 => ?_)
  have h25 := Ch.putF h21 e24 (by decide)
  have o26 := Inv.put o22 e24 0 1 (by omega) (by decide)
  exact hret _ _ _ dX5_readPay_27 ⟨h25, o26⟩
set_option maxHeartbeats 4000000 in
set_option maxRecDepth 100000 in
theorem ctX5_readSentence_1_3 (l : Launch) (G : Gt) (w : Wv) (sC : Str KC XC w) (o0 : Inv RC w)  : CtV l G yX5_readSentence cX5_readSentence 4 ({ frames := 8, cells := 0, slots := 0, locals := 185 } : Room) [.ref (gz G + 1), .ref (gz G + 3)] w (fun w' => Ch [4, 5, 6, 7, 8, 9, 10, 11] [(1, 1), (1, 2), (1, 4), (1, 5), (3, 0), (3, 1), (3, 2), (3, 3), (3, 4), (3, 5), (3, 6), (3, 7), (3, 8)] w w' ∧ Inv RC w') := by
  refine enterV (by decide) (Nat.le_of_ble_eq_true rfl) ?_
  intro x el eG C hnm hret
  subst el; subst eG
  show V x 0 0 w 0 [(0, .ref (gz (xG x) + 1)), (1, .ref (gz (xG x) + 3))] []
  have h0 : Ch [4, 5, 6, 7, 8, 9, 10, 11] [(1, 1), (1, 2), (1, 4), (1, 5), (3, 0), (3, 1), (3, 2), (3, 3), (3, 4), (3, 5), (3, 6), (3, 7), (3, 8)] w w := Ch.rf
  have qm1 : ((-1) : Int32).toInt = (-1) := by decide
  have q0 : (0 : Int32).toInt = 0 := by decide
  have q1 : (1 : Int32).toInt = 1 := by decide
  have q3 : (3 : Int32).toInt = 3 := by decide
  have q4 : (4 : Int32).toInt = 4 := by decide
  refine r_aload_n 0 C dX5_readSentence_0 rfl ?_
  refine gfX5_27 (v := (wI w 1 4)) C (kS sC h0 kc_1) rfl dX5_readSentence_1 ?_
  have b1 := Inv.get o0 rt_1_4 (j := 4) (by decide) (by decide)
  refine r_istore_n [(2, .int (wI w 1 4)), (0, .ref (gz (xG x) + 1)), (1, .ref (gz (xG x) + 3))] C dX5_readSentence_4 (by decide) rfl ?_
  refine r_aload_n 1 C dX5_readSentence_5 rfl ?_
  refine callVI C cwX5_50_V (ctX5_readWord_1 _ _ w (sS sC h0) o0  ) (by decide) (kS sC h0 kc_1) rfl rfl rfl (Nat.le_of_ble_eq_true rfl) (by decide) dX5_readSentence_6 (fun r4 w3 y2 => ?_)
  show V x 0 0 w3 9 [(2, .int (wI w 1 4)), (0, .ref (gz (xG x) + 1)), (1, .ref (gz (xG x) + 3))] [.int r4]
  obtain ⟨h5, o6⟩ := y2
  have h7 := Ch.tr h0 h5 (by decide) (by decide)
  refine r_istore_n [(3, .int r4), (2, .int (wI w 1 4)), (0, .ref (gz (xG x) + 1)), (1, .ref (gz (xG x) + 3))] C dX5_readSentence_9 (by decide) rfl ?_
  refine r_iload_n 0 C dX5_readSentence_10 rfl ?_
  refine r_iconst (v := (-1)) C dX5_readSentence_11 (by decide) ?_
  refine r_icmp_eq 27 C dX5_readSentence_12 (by decide) (fun c8 => ?_) (fun c8 => ?_)
  · have c8' := i_eq c8
    refine r_aload_n 2 C dX5_readSentence_27 rfl ?_
    refine r_iconst (v := 1) C dX5_readSentence_28 (by decide) ?_
    refine r_iload_n 1 C dX5_readSentence_29 rfl ?_
    refine callVV C cwX5_43_V (ctX5_blame_1 _ _ w3 (sS sC h7) o6 1 (wI w 1 4) (by omega)) (by decide) (kS sC h7 kc_1) rfl rfl rfl (Nat.le_of_ble_eq_true rfl) (by decide) dX5_readSentence_30 (fun w10 y9 => ?_)
    show V x 0 0 w10 33 [(3, .int r4), (2, .int (wI w 1 4)), (0, .ref (gz (xG x) + 1)), (1, .ref (gz (xG x) + 3))] []
    obtain ⟨h12, o13, f14⟩ := y9
    have h15 := Ch.tr h7 h12 (by decide) (by decide)
    refine r_goto 138 C dX5_readSentence_33 (by decide) ?_
    exact hret _ _ _ dX5_readSentence_138 ⟨h15, o13⟩
  · have c8' := i_ne c8
    refine r_aload_n 3 C dX5_readSentence_15 rfl ?_
    refine gfX5_40 (v := (wI w 3 0)) C (kS sC h7 kc_3) (h5.I (by decide) (by decide) rfl) dX5_readSentence_16 ?_
    have b16 := Inv.get o0 rt_3_0 (j := 0) (by decide) (by decide)
    refine r_if_ne 36 C dX5_readSentence_19 (by decide) (fun c17 => ?_) (fun c17 => ?_)
    · have c17' := i_ne c17
      refine r_aload_n 3 C dX5_readSentence_36 rfl ?_
      refine r_iload_n 0 C dX5_readSentence_37 rfl ?_
      refine callSI C cwX5_54_S (ctX5_isTooMany_3 _ _ w3 (sS sC h7) o6 r4 ) (by decide) rfl rfl (Nat.le_of_ble_eq_true rfl) (by decide) dX5_readSentence_38 (fun r20 w19 y18 => ?_)
      show V x 0 0 w19 41 [(3, .int r4), (2, .int (wI w 1 4)), (0, .ref (gz (xG x) + 1)), (1, .ref (gz (xG x) + 3))] [.int r20]
      obtain ⟨h21, o22, g23⟩ := y18
      have h24 := Ch.tr h7 h21 (by decide) (by decide)
      refine r_if_eq 53 C dX5_readSentence_41 (by decide) (fun c25 => ?_) (fun c25 => ?_)
      · have c25' := i_eq c25
        refine r_iload_n 0 C dX5_readSentence_53 rfl ?_
        by_cases c26 : (r4 : Int32).toInt < 4 ∨ 8 < (r4 : Int32).toInt
        · refine r_tabOut 128 C dX5_readSentence_54 c26 (by decide) ?_
          refine r_aload_n 2 C dX5_readSentence_128 rfl ?_
          refine r_aload_n 3 C dX5_readSentence_129 rfl ?_
          refine r_iload_n 0 C dX5_readSentence_130 rfl ?_
          refine callVV C cwX5_73_V (ctX5_readSpot_1_3 _ _ w19 (sS sC h24) o22 r4 ) (by decide) (kS sC h24 kc_1) rfl rfl rfl (Nat.le_of_ble_eq_true rfl) (by decide) dX5_readSentence_131 (fun w28 y27 => ?_)
          show V x 0 0 w28 134 [(3, .int r4), (2, .int (wI w 1 4)), (0, .ref (gz (xG x) + 1)), (1, .ref (gz (xG x) + 3))] []
          obtain ⟨h30, o31⟩ := y27
          have h32 := Ch.tr h24 h30 (by decide) (by decide)
          refine r_aload_n 2 C dX5_readSentence_134 rfl ?_
          refine callVV C cwX5_77_V (ctX5_readEnd_1 _ _ w28 (sS sC h32) o31  ) (by decide) (kS sC h32 kc_1) rfl rfl rfl (Nat.le_of_ble_eq_true rfl) (by decide) dX5_readSentence_135 (fun w34 y33 => ?_)
          show V x 0 0 w34 138 [(3, .int r4), (2, .int (wI w 1 4)), (0, .ref (gz (xG x) + 1)), (1, .ref (gz (xG x) + 3))] []
          obtain ⟨h36, o37⟩ := y33
          have h38 := Ch.tr h32 h36 (by decide) (by decide)
          exact hret _ _ _ dX5_readSentence_138 ⟨h38, o37⟩
        · rcases (show (r4 : Int32).toInt = 4 ∨ (r4 : Int32).toInt = 5 ∨ (r4 : Int32).toInt = 6 ∨ (r4 : Int32).toInt = 7 ∨ (r4 : Int32).toInt = 8 by omega) with c26 | c26 | c26 | c26 | c26
          · refine r_tabIn 88 C dX5_readSentence_54 (by omega) (by omega) (by rw [c26]; rfl) (by decide) ?_
            refine r_aload_n 2 C dX5_readSentence_88 rfl ?_
            refine r_aload_n 3 C dX5_readSentence_89 rfl ?_
            refine callVV C cwX5_58_V (ctX5_readSize_1_3 _ _ w19 (sS sC h24) o22  ) (by decide) (kS sC h24 kc_1) rfl rfl rfl (Nat.le_of_ble_eq_true rfl) (by decide) dX5_readSentence_90 (fun w40 y39 => ?_)
            show V x 0 0 w40 93 [(3, .int r4), (2, .int (wI w 1 4)), (0, .ref (gz (xG x) + 1)), (1, .ref (gz (xG x) + 3))] []
            obtain ⟨h42, o43⟩ := y39
            have h44 := Ch.tr h24 h42 (by decide) (by decide)
            refine r_goto 134 C dX5_readSentence_93 (by decide) ?_
            refine r_aload_n 2 C dX5_readSentence_134 rfl ?_
            refine callVV C cwX5_77_V (ctX5_readEnd_1 _ _ w40 (sS sC h44) o43  ) (by decide) (kS sC h44 kc_1) rfl rfl rfl (Nat.le_of_ble_eq_true rfl) (by decide) dX5_readSentence_135 (fun w46 y45 => ?_)
            show V x 0 0 w46 138 [(3, .int r4), (2, .int (wI w 1 4)), (0, .ref (gz (xG x) + 1)), (1, .ref (gz (xG x) + 3))] []
            obtain ⟨h48, o49⟩ := y45
            have h50 := Ch.tr h44 h48 (by decide) (by decide)
            exact hret _ _ _ dX5_readSentence_138 ⟨h50, o49⟩
          · refine r_tabIn 96 C dX5_readSentence_54 (by omega) (by omega) (by rw [c26]; rfl) (by decide) ?_
            refine r_aload_n 2 C dX5_readSentence_96 rfl ?_
            refine r_aload_n 3 C dX5_readSentence_97 rfl ?_
            refine callVV C cwX5_61_V (ctX5_readCrowd_1_3 _ _ w19 (sS sC h24) o22  ) (by decide) (kS sC h24 kc_1) rfl rfl rfl (Nat.le_of_ble_eq_true rfl) (by decide) dX5_readSentence_98 (fun w52 y51 => ?_)
            show V x 0 0 w52 101 [(3, .int r4), (2, .int (wI w 1 4)), (0, .ref (gz (xG x) + 1)), (1, .ref (gz (xG x) + 3))] []
            obtain ⟨h54, o55⟩ := y51
            have h56 := Ch.tr h24 h54 (by decide) (by decide)
            refine r_goto 134 C dX5_readSentence_101 (by decide) ?_
            refine r_aload_n 2 C dX5_readSentence_134 rfl ?_
            refine callVV C cwX5_77_V (ctX5_readEnd_1 _ _ w52 (sS sC h56) o55  ) (by decide) (kS sC h56 kc_1) rfl rfl rfl (Nat.le_of_ble_eq_true rfl) (by decide) dX5_readSentence_135 (fun w58 y57 => ?_)
            show V x 0 0 w58 138 [(3, .int r4), (2, .int (wI w 1 4)), (0, .ref (gz (xG x) + 1)), (1, .ref (gz (xG x) + 3))] []
            obtain ⟨h60, o61⟩ := y57
            have h62 := Ch.tr h56 h60 (by decide) (by decide)
            exact hret _ _ _ dX5_readSentence_138 ⟨h62, o61⟩
          · refine r_tabIn 104 C dX5_readSentence_54 (by omega) (by omega) (by rw [c26]; rfl) (by decide) ?_
            refine r_aload_n 2 C dX5_readSentence_104 rfl ?_
            refine r_aload_n 3 C dX5_readSentence_105 rfl ?_
            refine callVV C cwX5_64_V (ctX5_readTune_1_3 _ _ w19 (sS sC h24) o22  ) (by decide) (kS sC h24 kc_1) rfl rfl rfl (Nat.le_of_ble_eq_true rfl) (by decide) dX5_readSentence_106 (fun w64 y63 => ?_)
            show V x 0 0 w64 109 [(3, .int r4), (2, .int (wI w 1 4)), (0, .ref (gz (xG x) + 1)), (1, .ref (gz (xG x) + 3))] []
            obtain ⟨h66, o67⟩ := y63
            have h68 := Ch.tr h24 h66 (by decide) (by decide)
            refine r_goto 134 C dX5_readSentence_109 (by decide) ?_
            refine r_aload_n 2 C dX5_readSentence_134 rfl ?_
            refine callVV C cwX5_77_V (ctX5_readEnd_1 _ _ w64 (sS sC h68) o67  ) (by decide) (kS sC h68 kc_1) rfl rfl rfl (Nat.le_of_ble_eq_true rfl) (by decide) dX5_readSentence_135 (fun w70 y69 => ?_)
            show V x 0 0 w70 138 [(3, .int r4), (2, .int (wI w 1 4)), (0, .ref (gz (xG x) + 1)), (1, .ref (gz (xG x) + 3))] []
            obtain ⟨h72, o73⟩ := y69
            have h74 := Ch.tr h68 h72 (by decide) (by decide)
            exact hret _ _ _ dX5_readSentence_138 ⟨h74, o73⟩
          · refine r_tabIn 112 C dX5_readSentence_54 (by omega) (by omega) (by rw [c26]; rfl) (by decide) ?_
            refine r_aload_n 2 C dX5_readSentence_112 rfl ?_
            refine r_aload_n 3 C dX5_readSentence_113 rfl ?_
            refine callVV C cwX5_67_V (ctX5_readPiper_1_3 _ _ w19 (sS sC h24) o22  ) (by decide) (kS sC h24 kc_1) rfl rfl rfl (Nat.le_of_ble_eq_true rfl) (by decide) dX5_readSentence_114 (fun w76 y75 => ?_)
            show V x 0 0 w76 117 [(3, .int r4), (2, .int (wI w 1 4)), (0, .ref (gz (xG x) + 1)), (1, .ref (gz (xG x) + 3))] []
            obtain ⟨h78, o79⟩ := y75
            have h80 := Ch.tr h24 h78 (by decide) (by decide)
            refine r_goto 134 C dX5_readSentence_117 (by decide) ?_
            refine r_aload_n 2 C dX5_readSentence_134 rfl ?_
            refine callVV C cwX5_77_V (ctX5_readEnd_1 _ _ w76 (sS sC h80) o79  ) (by decide) (kS sC h80 kc_1) rfl rfl rfl (Nat.le_of_ble_eq_true rfl) (by decide) dX5_readSentence_135 (fun w82 y81 => ?_)
            show V x 0 0 w82 138 [(3, .int r4), (2, .int (wI w 1 4)), (0, .ref (gz (xG x) + 1)), (1, .ref (gz (xG x) + 3))] []
            obtain ⟨h84, o85⟩ := y81
            have h86 := Ch.tr h80 h84 (by decide) (by decide)
            exact hret _ _ _ dX5_readSentence_138 ⟨h86, o85⟩
          · refine r_tabIn 120 C dX5_readSentence_54 (by omega) (by omega) (by rw [c26]; rfl) (by decide) ?_
            refine r_aload_n 2 C dX5_readSentence_120 rfl ?_
            refine r_aload_n 3 C dX5_readSentence_121 rfl ?_
            refine callVV C cwX5_70_V (ctX5_readPay_1_3 _ _ w19 (sS sC h24) o22  ) (by decide) (kS sC h24 kc_1) rfl rfl rfl (Nat.le_of_ble_eq_true rfl) (by decide) dX5_readSentence_122 (fun w88 y87 => ?_)
            show V x 0 0 w88 125 [(3, .int r4), (2, .int (wI w 1 4)), (0, .ref (gz (xG x) + 1)), (1, .ref (gz (xG x) + 3))] []
            obtain ⟨h90, o91⟩ := y87
            have h92 := Ch.tr h24 h90 (by decide) (by decide)
            refine r_goto 134 C dX5_readSentence_125 (by decide) ?_
            refine r_aload_n 2 C dX5_readSentence_134 rfl ?_
            refine callVV C cwX5_77_V (ctX5_readEnd_1 _ _ w88 (sS sC h92) o91  ) (by decide) (kS sC h92 kc_1) rfl rfl rfl (Nat.le_of_ble_eq_true rfl) (by decide) dX5_readSentence_135 (fun w94 y93 => ?_)
            show V x 0 0 w94 138 [(3, .int r4), (2, .int (wI w 1 4)), (0, .ref (gz (xG x) + 1)), (1, .ref (gz (xG x) + 3))] []
            obtain ⟨h96, o97⟩ := y93
            have h98 := Ch.tr h92 h96 (by decide) (by decide)
            exact hret _ _ _ dX5_readSentence_138 ⟨h98, o97⟩
      · have c25' := i_ne c25
        refine r_aload_n 2 C dX5_readSentence_44 rfl ?_
        refine r_iconst (v := 3) C dX5_readSentence_45 (by decide) ?_
        refine r_iload_n 1 C dX5_readSentence_46 rfl ?_
        refine callVV C cwX5_43_V (ctX5_blame_1 _ _ w19 (sS sC h24) o22 3 (wI w 1 4) (by omega)) (by decide) (kS sC h24 kc_1) rfl rfl rfl (Nat.le_of_ble_eq_true rfl) (by decide) dX5_readSentence_47 (fun w100 y99 => ?_)
        show V x 0 0 w100 50 [(3, .int r4), (2, .int (wI w 1 4)), (0, .ref (gz (xG x) + 1)), (1, .ref (gz (xG x) + 3))] []
        obtain ⟨h102, o103, f104⟩ := y99
        have h105 := Ch.tr h24 h102 (by decide) (by decide)
        refine r_goto 138 C dX5_readSentence_50 (by decide) ?_
        exact hret _ _ _ dX5_readSentence_138 ⟨h105, o103⟩
    · have c17' := i_eq c17
      refine r_iload_n 0 C dX5_readSentence_22 rfl ?_
      refine r_iconst (v := 4) C dX5_readSentence_23 (by decide) ?_
      refine r_icmp_eq 36 C dX5_readSentence_24 (by decide) (fun c106 => ?_) (fun c106 => ?_)
      · have c106' := i_eq c106
        refine r_aload_n 3 C dX5_readSentence_36 rfl ?_
        refine r_iload_n 0 C dX5_readSentence_37 rfl ?_
        refine callSI C cwX5_54_S (ctX5_isTooMany_3 _ _ w3 (sS sC h7) o6 r4 ) (by decide) rfl rfl (Nat.le_of_ble_eq_true rfl) (by decide) dX5_readSentence_38 (fun r109 w108 y107 => ?_)
        show V x 0 0 w108 41 [(3, .int r4), (2, .int (wI w 1 4)), (0, .ref (gz (xG x) + 1)), (1, .ref (gz (xG x) + 3))] [.int r109]
        obtain ⟨h110, o111, g112⟩ := y107
        have h113 := Ch.tr h7 h110 (by decide) (by decide)
        refine r_if_eq 53 C dX5_readSentence_41 (by decide) (fun c114 => ?_) (fun c114 => ?_)
        · have c114' := i_eq c114
          refine r_iload_n 0 C dX5_readSentence_53 rfl ?_
          by_cases c115 : (r4 : Int32).toInt < 4 ∨ 8 < (r4 : Int32).toInt
          · refine r_tabOut 128 C dX5_readSentence_54 c115 (by decide) ?_
            refine r_aload_n 2 C dX5_readSentence_128 rfl ?_
            refine r_aload_n 3 C dX5_readSentence_129 rfl ?_
            refine r_iload_n 0 C dX5_readSentence_130 rfl ?_
            refine callVV C cwX5_73_V (ctX5_readSpot_1_3 _ _ w108 (sS sC h113) o111 r4 ) (by decide) (kS sC h113 kc_1) rfl rfl rfl (Nat.le_of_ble_eq_true rfl) (by decide) dX5_readSentence_131 (fun w117 y116 => ?_)
            show V x 0 0 w117 134 [(3, .int r4), (2, .int (wI w 1 4)), (0, .ref (gz (xG x) + 1)), (1, .ref (gz (xG x) + 3))] []
            obtain ⟨h119, o120⟩ := y116
            have h121 := Ch.tr h113 h119 (by decide) (by decide)
            refine r_aload_n 2 C dX5_readSentence_134 rfl ?_
            refine callVV C cwX5_77_V (ctX5_readEnd_1 _ _ w117 (sS sC h121) o120  ) (by decide) (kS sC h121 kc_1) rfl rfl rfl (Nat.le_of_ble_eq_true rfl) (by decide) dX5_readSentence_135 (fun w123 y122 => ?_)
            show V x 0 0 w123 138 [(3, .int r4), (2, .int (wI w 1 4)), (0, .ref (gz (xG x) + 1)), (1, .ref (gz (xG x) + 3))] []
            obtain ⟨h125, o126⟩ := y122
            have h127 := Ch.tr h121 h125 (by decide) (by decide)
            exact hret _ _ _ dX5_readSentence_138 ⟨h127, o126⟩
          · rcases (show (r4 : Int32).toInt = 4 ∨ (r4 : Int32).toInt = 5 ∨ (r4 : Int32).toInt = 6 ∨ (r4 : Int32).toInt = 7 ∨ (r4 : Int32).toInt = 8 by omega) with c115 | c115 | c115 | c115 | c115
            · refine r_tabIn 88 C dX5_readSentence_54 (by omega) (by omega) (by rw [c115]; rfl) (by decide) ?_
              refine r_aload_n 2 C dX5_readSentence_88 rfl ?_
              refine r_aload_n 3 C dX5_readSentence_89 rfl ?_
              refine callVV C cwX5_58_V (ctX5_readSize_1_3 _ _ w108 (sS sC h113) o111  ) (by decide) (kS sC h113 kc_1) rfl rfl rfl (Nat.le_of_ble_eq_true rfl) (by decide) dX5_readSentence_90 (fun w129 y128 => ?_)
              show V x 0 0 w129 93 [(3, .int r4), (2, .int (wI w 1 4)), (0, .ref (gz (xG x) + 1)), (1, .ref (gz (xG x) + 3))] []
              obtain ⟨h131, o132⟩ := y128
              have h133 := Ch.tr h113 h131 (by decide) (by decide)
              refine r_goto 134 C dX5_readSentence_93 (by decide) ?_
              refine r_aload_n 2 C dX5_readSentence_134 rfl ?_
              refine callVV C cwX5_77_V (ctX5_readEnd_1 _ _ w129 (sS sC h133) o132  ) (by decide) (kS sC h133 kc_1) rfl rfl rfl (Nat.le_of_ble_eq_true rfl) (by decide) dX5_readSentence_135 (fun w135 y134 => ?_)
              show V x 0 0 w135 138 [(3, .int r4), (2, .int (wI w 1 4)), (0, .ref (gz (xG x) + 1)), (1, .ref (gz (xG x) + 3))] []
              obtain ⟨h137, o138⟩ := y134
              have h139 := Ch.tr h133 h137 (by decide) (by decide)
              exact hret _ _ _ dX5_readSentence_138 ⟨h139, o138⟩
            · refine r_tabIn 96 C dX5_readSentence_54 (by omega) (by omega) (by rw [c115]; rfl) (by decide) ?_
              refine r_aload_n 2 C dX5_readSentence_96 rfl ?_
              refine r_aload_n 3 C dX5_readSentence_97 rfl ?_
              refine callVV C cwX5_61_V (ctX5_readCrowd_1_3 _ _ w108 (sS sC h113) o111  ) (by decide) (kS sC h113 kc_1) rfl rfl rfl (Nat.le_of_ble_eq_true rfl) (by decide) dX5_readSentence_98 (fun w141 y140 => ?_)
              show V x 0 0 w141 101 [(3, .int r4), (2, .int (wI w 1 4)), (0, .ref (gz (xG x) + 1)), (1, .ref (gz (xG x) + 3))] []
              obtain ⟨h143, o144⟩ := y140
              have h145 := Ch.tr h113 h143 (by decide) (by decide)
              refine r_goto 134 C dX5_readSentence_101 (by decide) ?_
              refine r_aload_n 2 C dX5_readSentence_134 rfl ?_
              refine callVV C cwX5_77_V (ctX5_readEnd_1 _ _ w141 (sS sC h145) o144  ) (by decide) (kS sC h145 kc_1) rfl rfl rfl (Nat.le_of_ble_eq_true rfl) (by decide) dX5_readSentence_135 (fun w147 y146 => ?_)
              show V x 0 0 w147 138 [(3, .int r4), (2, .int (wI w 1 4)), (0, .ref (gz (xG x) + 1)), (1, .ref (gz (xG x) + 3))] []
              obtain ⟨h149, o150⟩ := y146
              have h151 := Ch.tr h145 h149 (by decide) (by decide)
              exact hret _ _ _ dX5_readSentence_138 ⟨h151, o150⟩
            · refine r_tabIn 104 C dX5_readSentence_54 (by omega) (by omega) (by rw [c115]; rfl) (by decide) ?_
              refine r_aload_n 2 C dX5_readSentence_104 rfl ?_
              refine r_aload_n 3 C dX5_readSentence_105 rfl ?_
              refine callVV C cwX5_64_V (ctX5_readTune_1_3 _ _ w108 (sS sC h113) o111  ) (by decide) (kS sC h113 kc_1) rfl rfl rfl (Nat.le_of_ble_eq_true rfl) (by decide) dX5_readSentence_106 (fun w153 y152 => ?_)
              show V x 0 0 w153 109 [(3, .int r4), (2, .int (wI w 1 4)), (0, .ref (gz (xG x) + 1)), (1, .ref (gz (xG x) + 3))] []
              obtain ⟨h155, o156⟩ := y152
              have h157 := Ch.tr h113 h155 (by decide) (by decide)
              refine r_goto 134 C dX5_readSentence_109 (by decide) ?_
              refine r_aload_n 2 C dX5_readSentence_134 rfl ?_
              refine callVV C cwX5_77_V (ctX5_readEnd_1 _ _ w153 (sS sC h157) o156  ) (by decide) (kS sC h157 kc_1) rfl rfl rfl (Nat.le_of_ble_eq_true rfl) (by decide) dX5_readSentence_135 (fun w159 y158 => ?_)
              show V x 0 0 w159 138 [(3, .int r4), (2, .int (wI w 1 4)), (0, .ref (gz (xG x) + 1)), (1, .ref (gz (xG x) + 3))] []
              obtain ⟨h161, o162⟩ := y158
              have h163 := Ch.tr h157 h161 (by decide) (by decide)
              exact hret _ _ _ dX5_readSentence_138 ⟨h163, o162⟩
            · refine r_tabIn 112 C dX5_readSentence_54 (by omega) (by omega) (by rw [c115]; rfl) (by decide) ?_
              refine r_aload_n 2 C dX5_readSentence_112 rfl ?_
              refine r_aload_n 3 C dX5_readSentence_113 rfl ?_
              refine callVV C cwX5_67_V (ctX5_readPiper_1_3 _ _ w108 (sS sC h113) o111  ) (by decide) (kS sC h113 kc_1) rfl rfl rfl (Nat.le_of_ble_eq_true rfl) (by decide) dX5_readSentence_114 (fun w165 y164 => ?_)
              show V x 0 0 w165 117 [(3, .int r4), (2, .int (wI w 1 4)), (0, .ref (gz (xG x) + 1)), (1, .ref (gz (xG x) + 3))] []
              obtain ⟨h167, o168⟩ := y164
              have h169 := Ch.tr h113 h167 (by decide) (by decide)
              refine r_goto 134 C dX5_readSentence_117 (by decide) ?_
              refine r_aload_n 2 C dX5_readSentence_134 rfl ?_
              refine callVV C cwX5_77_V (ctX5_readEnd_1 _ _ w165 (sS sC h169) o168  ) (by decide) (kS sC h169 kc_1) rfl rfl rfl (Nat.le_of_ble_eq_true rfl) (by decide) dX5_readSentence_135 (fun w171 y170 => ?_)
              show V x 0 0 w171 138 [(3, .int r4), (2, .int (wI w 1 4)), (0, .ref (gz (xG x) + 1)), (1, .ref (gz (xG x) + 3))] []
              obtain ⟨h173, o174⟩ := y170
              have h175 := Ch.tr h169 h173 (by decide) (by decide)
              exact hret _ _ _ dX5_readSentence_138 ⟨h175, o174⟩
            · refine r_tabIn 120 C dX5_readSentence_54 (by omega) (by omega) (by rw [c115]; rfl) (by decide) ?_
              refine r_aload_n 2 C dX5_readSentence_120 rfl ?_
              refine r_aload_n 3 C dX5_readSentence_121 rfl ?_
              refine callVV C cwX5_70_V (ctX5_readPay_1_3 _ _ w108 (sS sC h113) o111  ) (by decide) (kS sC h113 kc_1) rfl rfl rfl (Nat.le_of_ble_eq_true rfl) (by decide) dX5_readSentence_122 (fun w177 y176 => ?_)
              show V x 0 0 w177 125 [(3, .int r4), (2, .int (wI w 1 4)), (0, .ref (gz (xG x) + 1)), (1, .ref (gz (xG x) + 3))] []
              obtain ⟨h179, o180⟩ := y176
              have h181 := Ch.tr h113 h179 (by decide) (by decide)
              refine r_goto 134 C dX5_readSentence_125 (by decide) ?_
              refine r_aload_n 2 C dX5_readSentence_134 rfl ?_
              refine callVV C cwX5_77_V (ctX5_readEnd_1 _ _ w177 (sS sC h181) o180  ) (by decide) (kS sC h181 kc_1) rfl rfl rfl (Nat.le_of_ble_eq_true rfl) (by decide) dX5_readSentence_135 (fun w183 y182 => ?_)
              show V x 0 0 w183 138 [(3, .int r4), (2, .int (wI w 1 4)), (0, .ref (gz (xG x) + 1)), (1, .ref (gz (xG x) + 3))] []
              obtain ⟨h185, o186⟩ := y182
              have h187 := Ch.tr h181 h185 (by decide) (by decide)
              exact hret _ _ _ dX5_readSentence_138 ⟨h187, o186⟩
        · have c114' := i_ne c114
          refine r_aload_n 2 C dX5_readSentence_44 rfl ?_
          refine r_iconst (v := 3) C dX5_readSentence_45 (by decide) ?_
          refine r_iload_n 1 C dX5_readSentence_46 rfl ?_
          refine callVV C cwX5_43_V (ctX5_blame_1 _ _ w108 (sS sC h113) o111 3 (wI w 1 4) (by omega)) (by decide) (kS sC h113 kc_1) rfl rfl rfl (Nat.le_of_ble_eq_true rfl) (by decide) dX5_readSentence_47 (fun w189 y188 => ?_)
          show V x 0 0 w189 50 [(3, .int r4), (2, .int (wI w 1 4)), (0, .ref (gz (xG x) + 1)), (1, .ref (gz (xG x) + 3))] []
          obtain ⟨h191, o192, f193⟩ := y188
          have h194 := Ch.tr h113 h191 (by decide) (by decide)
          refine r_goto 138 C dX5_readSentence_50 (by decide) ?_
          exact hret _ _ _ dX5_readSentence_138 ⟨h194, o192⟩
      · have c106' := i_ne c106
        refine r_aload_n 2 C dX5_readSentence_27 rfl ?_
        refine r_iconst (v := 1) C dX5_readSentence_28 (by decide) ?_
        refine r_iload_n 1 C dX5_readSentence_29 rfl ?_
        refine callVV C cwX5_43_V (ctX5_blame_1 _ _ w3 (sS sC h7) o6 1 (wI w 1 4) (by omega)) (by decide) (kS sC h7 kc_1) rfl rfl rfl (Nat.le_of_ble_eq_true rfl) (by decide) dX5_readSentence_30 (fun w196 y195 => ?_)
        show V x 0 0 w196 33 [(3, .int r4), (2, .int (wI w 1 4)), (0, .ref (gz (xG x) + 1)), (1, .ref (gz (xG x) + 3))] []
        obtain ⟨h198, o199, f200⟩ := y195
        have h201 := Ch.tr h7 h198 (by decide) (by decide)
        refine r_goto 138 C dX5_readSentence_33 (by decide) ?_
        exact hret _ _ _ dX5_readSentence_138 ⟨h201, o199⟩
set_option maxHeartbeats 4000000 in
set_option maxRecDepth 100000 in
theorem ctX5_read_1_3 (l : Launch) (G : Gt) (w : Wv) (sC : Str KC XC w) (o0 : Inv RC w)  : CtI l G yX5_read cX5_read 3 .boolean ({ frames := 9, cells := 0, slots := 0, locals := 208 } : Room) [.ref (gz G + 1), .ref (gz G + 3)] w (fun r w' => Ch [4, 5, 6, 7, 8, 9, 10, 11] [(1, 1), (1, 2), (1, 4), (1, 5), (3, 0), (3, 1), (3, 2), (3, 3), (3, 4), (3, 5), (3, 6), (3, 7), (3, 8)] w w' ∧ Inv RC w' ∧ ((0 ≤ r.toInt ∧ r.toInt ≤ 1))) := by
  refine enterI (by decide) (Nat.le_of_ble_eq_true rfl) ?_
  intro x el eG C hret
  subst el; subst eG
  show V x 0 0 w 0 [(0, .ref (gz (xG x) + 1)), (1, .ref (gz (xG x) + 3))] []
  have h0 : Ch [4, 5, 6, 7, 8, 9, 10, 11] [(1, 1), (1, 2), (1, 4), (1, 5), (3, 0), (3, 1), (3, 2), (3, 3), (3, 4), (3, 5), (3, 6), (3, 7), (3, 8)] w w := Ch.rf
  have qm1 : ((-1) : Int32).toInt = (-1) := by decide
  have q0 : (0 : Int32).toInt = 0 := by decide
  have q1 : (1 : Int32).toInt = 1 := by decide
  have q500 : (500 : Int32).toInt = 500 := by decide
  have LP26 : ∀ (f27 : Nat) (u25 : Int32) (w28 : Wv), Ch [4, 5, 6, 7, 8, 9, 10, 11] [(1, 1), (1, 2), (1, 4), (1, 5), (3, 0), (3, 1), (3, 2), (3, 3), (3, 4), (3, 5), (3, 6), (3, 7), (3, 8)] w w28 → Inv RC w28 → (0 ≤ u25.toInt ∧ u25.toInt ≤ 2147483647) → 2147483647 - u25.toInt < f27 → V x 0 0 w28 25 [(0, .ref (gz (xG x) + 1)), (1, .ref (gz (xG x) + 3)), (2, .int u25)] [] := by
    intro f27
    induction f27 with
    | zero => intro u25 w28 h29 o30 z31 z32; exfalso; omega
    | succ f27 ih33 =>
      intro u25 w28 h29 o30 z31 z32
      refine r_iload_n 2 C dX5_read_25 rfl ?_
      refine r_sipush (v := 500) C dX5_read_26 (by decide) ?_
      have k35 := i_rng u25
      refine r_icmp_ge 65 C dX5_read_29 (by decide) (fun c34 => ?_) (fun c34 => ?_)
      · have c34' := i_le c34
        refine r_aload_n 1 C dX5_read_65 rfl ?_
        refine gfX5_40 (v := (wI w28 3 0)) C (kS sC h29 kc_3) rfl dX5_read_66 ?_
        have b36 := Inv.get o30 rt_3_0 (j := 0) (by decide) (by decide)
        refine r_if_ne 88 C dX5_read_69 (by decide) (fun c37 => ?_) (fun c37 => ?_)
        · have c37' := i_ne c37
          refine r_aload_n 1 C dX5_read_88 rfl ?_
          refine callVV C cwX5_47_V (ctX9_placePiperIfUntold_3 _ _ w28 (sS sC h29) o30  ) (by decide) (kS sC h29 kc_3) rfl rfl rfl (Nat.le_of_ble_eq_true rfl) (by decide) dX5_read_89 (fun w39 y38 => ?_)
          show V x 0 0 w39 92 [(0, .ref (gz (xG x) + 1)), (1, .ref (gz (xG x) + 3)), (2, .int u25)] []
          obtain ⟨h41, o42⟩ := y38
          have h43 := Ch.tr h29 h41 (by decide) (by decide)
          refine r_aload_n 0 C dX5_read_92 rfl ?_
          refine gfX5_30 (v := (wI w28 1 1)) C (kS sC h43 kc_1) (h41.I (by decide) (by decide) rfl) dX5_read_93 ?_
          refine r_if_ne 103 C dX5_read_96 (by decide) (fun c44 => ?_) (fun c44 => ?_)
          · have c44' := i_ne c44
            refine r_iconst (v := 0) C dX5_read_103 (by decide) ?_
            exact hret _ _ _ _ dX5_read_104 (nar_z (z_of (by omega))) ⟨h43, o42, by omega⟩
          · have c44' := i_eq c44
            refine r_iconst (v := 1) C dX5_read_99 (by decide) ?_
            refine r_goto 104 C dX5_read_100 (by decide) ?_
            exact hret _ _ _ _ dX5_read_104 (nar_z (z_of (by omega))) ⟨h43, o42, by omega⟩
        · have c37' := i_eq c37
          refine r_aload_n 0 C dX5_read_72 rfl ?_
          refine gfX5_19 (v := (wI w 1 0)) C (kS sC h29 kc_1) (h29.I (by decide) (by decide) rfl) dX5_read_73 ?_
          have b45 := Inv.get o0 rt_1_0 (j := 0) (by decide) (by decide)
          refine r_if_le 88 C dX5_read_76 (by decide) (fun c46 => ?_) (fun c46 => ?_)
          · have c46' := i_le c46
            refine r_aload_n 1 C dX5_read_88 rfl ?_
            refine callVV C cwX5_47_V (ctX9_placePiperIfUntold_3 _ _ w28 (sS sC h29) o30  ) (by decide) (kS sC h29 kc_3) rfl rfl rfl (Nat.le_of_ble_eq_true rfl) (by decide) dX5_read_89 (fun w48 y47 => ?_)
            show V x 0 0 w48 92 [(0, .ref (gz (xG x) + 1)), (1, .ref (gz (xG x) + 3)), (2, .int u25)] []
            obtain ⟨h50, o51⟩ := y47
            have h52 := Ch.tr h29 h50 (by decide) (by decide)
            refine r_aload_n 0 C dX5_read_92 rfl ?_
            refine gfX5_30 (v := (wI w28 1 1)) C (kS sC h52 kc_1) (h50.I (by decide) (by decide) rfl) dX5_read_93 ?_
            refine r_if_ne 103 C dX5_read_96 (by decide) (fun c53 => ?_) (fun c53 => ?_)
            · have c53' := i_ne c53
              refine r_iconst (v := 0) C dX5_read_103 (by decide) ?_
              exact hret _ _ _ _ dX5_read_104 (nar_z (z_of (by omega))) ⟨h52, o51, by omega⟩
            · have c53' := i_eq c53
              refine r_iconst (v := 1) C dX5_read_99 (by decide) ?_
              refine r_goto 104 C dX5_read_100 (by decide) ?_
              exact hret _ _ _ _ dX5_read_104 (nar_z (z_of (by omega))) ⟨h52, o51, by omega⟩
          · have c46' := i_nle c46
            refine r_aload_n 0 C dX5_read_79 rfl ?_
            refine r_iconst (v := 1) C dX5_read_80 (by decide) ?_
            refine r_aload_n 0 C dX5_read_81 rfl ?_
            refine gfX5_19 (v := (wI w 1 0)) C (kS sC h29 kc_1) (h29.I (by decide) (by decide) rfl) dX5_read_82 ?_
            refine callVV C cwX5_43_V (ctX5_blame_1 _ _ w28 (sS sC h29) o30 1 (wI w 1 0) (by omega)) (by decide) (kS sC h29 kc_1) rfl rfl rfl (Nat.le_of_ble_eq_true rfl) (by decide) dX5_read_85 (fun w55 y54 => ?_)
            show V x 0 0 w55 88 [(0, .ref (gz (xG x) + 1)), (1, .ref (gz (xG x) + 3)), (2, .int u25)] []
            obtain ⟨h57, o58, f59⟩ := y54
            have h60 := Ch.tr h29 h57 (by decide) (by decide)
            refine r_aload_n 1 C dX5_read_88 rfl ?_
            refine callVV C cwX5_47_V (ctX9_placePiperIfUntold_3 _ _ w55 (sS sC h60) o58  ) (by decide) (kS sC h60 kc_3) rfl rfl rfl (Nat.le_of_ble_eq_true rfl) (by decide) dX5_read_89 (fun w62 y61 => ?_)
            show V x 0 0 w62 92 [(0, .ref (gz (xG x) + 1)), (1, .ref (gz (xG x) + 3)), (2, .int u25)] []
            obtain ⟨h64, o65⟩ := y61
            have h66 := Ch.tr h60 h64 (by decide) (by decide)
            refine r_aload_n 0 C dX5_read_92 rfl ?_
            refine gfX5_30 (v := (wI w55 1 1)) C (kS sC h66 kc_1) (h64.I (by decide) (by decide) rfl) dX5_read_93 ?_
            refine r_if_ne 103 C dX5_read_96 (by decide) (fun c67 => ?_) (fun c67 => ?_)
            · have c67' := i_ne c67
              refine r_iconst (v := 0) C dX5_read_103 (by decide) ?_
              exact hret _ _ _ _ dX5_read_104 (nar_z (z_of (by omega))) ⟨h66, o65, by omega⟩
            · have c67' := i_eq c67
              refine r_iconst (v := 1) C dX5_read_99 (by decide) ?_
              refine r_goto 104 C dX5_read_100 (by decide) ?_
              exact hret _ _ _ _ dX5_read_104 (nar_z (z_of (by omega))) ⟨h66, o65, by omega⟩
      · have c34' := i_nle c34
        refine r_aload_n 0 C dX5_read_32 rfl ?_
        refine gfX5_27 (v := (wI w28 1 4)) C (kS sC h29 kc_1) rfl dX5_read_33 ?_
        have b68 := Inv.get o30 rt_1_4 (j := 4) (by decide) (by decide)
        refine r_aload_n 0 C dX5_read_36 rfl ?_
        refine gfX5_19 (v := (wI w 1 0)) C (kS sC h29 kc_1) (h29.I (by decide) (by decide) rfl) dX5_read_37 ?_
        have b69 := Inv.get o0 rt_1_0 (j := 0) (by decide) (by decide)
        refine r_icmp_ge 65 C dX5_read_40 (by decide) (fun c70 => ?_) (fun c70 => ?_)
        · have c70' := i_le c70
          refine r_aload_n 1 C dX5_read_65 rfl ?_
          refine gfX5_40 (v := (wI w28 3 0)) C (kS sC h29 kc_3) rfl dX5_read_66 ?_
          have b71 := Inv.get o30 rt_3_0 (j := 0) (by decide) (by decide)
          refine r_if_ne 88 C dX5_read_69 (by decide) (fun c72 => ?_) (fun c72 => ?_)
          · have c72' := i_ne c72
            refine r_aload_n 1 C dX5_read_88 rfl ?_
            refine callVV C cwX5_47_V (ctX9_placePiperIfUntold_3 _ _ w28 (sS sC h29) o30  ) (by decide) (kS sC h29 kc_3) rfl rfl rfl (Nat.le_of_ble_eq_true rfl) (by decide) dX5_read_89 (fun w74 y73 => ?_)
            show V x 0 0 w74 92 [(0, .ref (gz (xG x) + 1)), (1, .ref (gz (xG x) + 3)), (2, .int u25)] []
            obtain ⟨h76, o77⟩ := y73
            have h78 := Ch.tr h29 h76 (by decide) (by decide)
            refine r_aload_n 0 C dX5_read_92 rfl ?_
            refine gfX5_30 (v := (wI w28 1 1)) C (kS sC h78 kc_1) (h76.I (by decide) (by decide) rfl) dX5_read_93 ?_
            refine r_if_ne 103 C dX5_read_96 (by decide) (fun c79 => ?_) (fun c79 => ?_)
            · have c79' := i_ne c79
              refine r_iconst (v := 0) C dX5_read_103 (by decide) ?_
              exact hret _ _ _ _ dX5_read_104 (nar_z (z_of (by omega))) ⟨h78, o77, by omega⟩
            · have c79' := i_eq c79
              refine r_iconst (v := 1) C dX5_read_99 (by decide) ?_
              refine r_goto 104 C dX5_read_100 (by decide) ?_
              exact hret _ _ _ _ dX5_read_104 (nar_z (z_of (by omega))) ⟨h78, o77, by omega⟩
          · have c72' := i_eq c72
            refine r_aload_n 0 C dX5_read_72 rfl ?_
            refine gfX5_19 (v := (wI w 1 0)) C (kS sC h29 kc_1) (h29.I (by decide) (by decide) rfl) dX5_read_73 ?_
            refine r_if_le 88 C dX5_read_76 (by decide) (fun c80 => ?_) (fun c80 => ?_)
            · have c80' := i_le c80
              refine r_aload_n 1 C dX5_read_88 rfl ?_
              refine callVV C cwX5_47_V (ctX9_placePiperIfUntold_3 _ _ w28 (sS sC h29) o30  ) (by decide) (kS sC h29 kc_3) rfl rfl rfl (Nat.le_of_ble_eq_true rfl) (by decide) dX5_read_89 (fun w82 y81 => ?_)
              show V x 0 0 w82 92 [(0, .ref (gz (xG x) + 1)), (1, .ref (gz (xG x) + 3)), (2, .int u25)] []
              obtain ⟨h84, o85⟩ := y81
              have h86 := Ch.tr h29 h84 (by decide) (by decide)
              refine r_aload_n 0 C dX5_read_92 rfl ?_
              refine gfX5_30 (v := (wI w28 1 1)) C (kS sC h86 kc_1) (h84.I (by decide) (by decide) rfl) dX5_read_93 ?_
              refine r_if_ne 103 C dX5_read_96 (by decide) (fun c87 => ?_) (fun c87 => ?_)
              · have c87' := i_ne c87
                refine r_iconst (v := 0) C dX5_read_103 (by decide) ?_
                exact hret _ _ _ _ dX5_read_104 (nar_z (z_of (by omega))) ⟨h86, o85, by omega⟩
              · have c87' := i_eq c87
                refine r_iconst (v := 1) C dX5_read_99 (by decide) ?_
                refine r_goto 104 C dX5_read_100 (by decide) ?_
                exact hret _ _ _ _ dX5_read_104 (nar_z (z_of (by omega))) ⟨h86, o85, by omega⟩
            · have c80' := i_nle c80
              refine r_aload_n 0 C dX5_read_79 rfl ?_
              refine r_iconst (v := 1) C dX5_read_80 (by decide) ?_
              refine r_aload_n 0 C dX5_read_81 rfl ?_
              refine gfX5_19 (v := (wI w 1 0)) C (kS sC h29 kc_1) (h29.I (by decide) (by decide) rfl) dX5_read_82 ?_
              refine callVV C cwX5_43_V (ctX5_blame_1 _ _ w28 (sS sC h29) o30 1 (wI w 1 0) (by omega)) (by decide) (kS sC h29 kc_1) rfl rfl rfl (Nat.le_of_ble_eq_true rfl) (by decide) dX5_read_85 (fun w89 y88 => ?_)
              show V x 0 0 w89 88 [(0, .ref (gz (xG x) + 1)), (1, .ref (gz (xG x) + 3)), (2, .int u25)] []
              obtain ⟨h91, o92, f93⟩ := y88
              have h94 := Ch.tr h29 h91 (by decide) (by decide)
              refine r_aload_n 1 C dX5_read_88 rfl ?_
              refine callVV C cwX5_47_V (ctX9_placePiperIfUntold_3 _ _ w89 (sS sC h94) o92  ) (by decide) (kS sC h94 kc_3) rfl rfl rfl (Nat.le_of_ble_eq_true rfl) (by decide) dX5_read_89 (fun w96 y95 => ?_)
              show V x 0 0 w96 92 [(0, .ref (gz (xG x) + 1)), (1, .ref (gz (xG x) + 3)), (2, .int u25)] []
              obtain ⟨h98, o99⟩ := y95
              have h100 := Ch.tr h94 h98 (by decide) (by decide)
              refine r_aload_n 0 C dX5_read_92 rfl ?_
              refine gfX5_30 (v := (wI w89 1 1)) C (kS sC h100 kc_1) (h98.I (by decide) (by decide) rfl) dX5_read_93 ?_
              refine r_if_ne 103 C dX5_read_96 (by decide) (fun c101 => ?_) (fun c101 => ?_)
              · have c101' := i_ne c101
                refine r_iconst (v := 0) C dX5_read_103 (by decide) ?_
                exact hret _ _ _ _ dX5_read_104 (nar_z (z_of (by omega))) ⟨h100, o99, by omega⟩
              · have c101' := i_eq c101
                refine r_iconst (v := 1) C dX5_read_99 (by decide) ?_
                refine r_goto 104 C dX5_read_100 (by decide) ?_
                exact hret _ _ _ _ dX5_read_104 (nar_z (z_of (by omega))) ⟨h100, o99, by omega⟩
        · have c70' := i_nle c70
          refine r_aload_n 0 C dX5_read_43 rfl ?_
          refine gfX5_30 (v := (wI w28 1 1)) C (kS sC h29 kc_1) rfl dX5_read_44 ?_
          refine r_if_ne 65 C dX5_read_47 (by decide) (fun c102 => ?_) (fun c102 => ?_)
          · have c102' := i_ne c102
            refine r_aload_n 1 C dX5_read_65 rfl ?_
            refine gfX5_40 (v := (wI w28 3 0)) C (kS sC h29 kc_3) rfl dX5_read_66 ?_
            have b103 := Inv.get o30 rt_3_0 (j := 0) (by decide) (by decide)
            refine r_if_ne 88 C dX5_read_69 (by decide) (fun c104 => ?_) (fun c104 => ?_)
            · have c104' := i_ne c104
              refine r_aload_n 1 C dX5_read_88 rfl ?_
              refine callVV C cwX5_47_V (ctX9_placePiperIfUntold_3 _ _ w28 (sS sC h29) o30  ) (by decide) (kS sC h29 kc_3) rfl rfl rfl (Nat.le_of_ble_eq_true rfl) (by decide) dX5_read_89 (fun w106 y105 => ?_)
              show V x 0 0 w106 92 [(0, .ref (gz (xG x) + 1)), (1, .ref (gz (xG x) + 3)), (2, .int u25)] []
              obtain ⟨h108, o109⟩ := y105
              have h110 := Ch.tr h29 h108 (by decide) (by decide)
              refine r_aload_n 0 C dX5_read_92 rfl ?_
              refine gfX5_30 (v := (wI w28 1 1)) C (kS sC h110 kc_1) (h108.I (by decide) (by decide) rfl) dX5_read_93 ?_
              refine r_if_ne 103 C dX5_read_96 (by decide) (fun c111 => ?_) (fun c111 => ?_)
              · have c111' := i_ne c111
                refine r_iconst (v := 0) C dX5_read_103 (by decide) ?_
                exact hret _ _ _ _ dX5_read_104 (nar_z (z_of (by omega))) ⟨h110, o109, by omega⟩
              · have c111' := i_eq c111
                refine r_iconst (v := 1) C dX5_read_99 (by decide) ?_
                refine r_goto 104 C dX5_read_100 (by decide) ?_
                exact hret _ _ _ _ dX5_read_104 (nar_z (z_of (by omega))) ⟨h110, o109, by omega⟩
            · have c104' := i_eq c104
              refine r_aload_n 0 C dX5_read_72 rfl ?_
              refine gfX5_19 (v := (wI w 1 0)) C (kS sC h29 kc_1) (h29.I (by decide) (by decide) rfl) dX5_read_73 ?_
              refine r_if_le 88 C dX5_read_76 (by decide) (fun c112 => ?_) (fun c112 => ?_)
              · have c112' := i_le c112
                refine r_aload_n 1 C dX5_read_88 rfl ?_
                refine callVV C cwX5_47_V (ctX9_placePiperIfUntold_3 _ _ w28 (sS sC h29) o30  ) (by decide) (kS sC h29 kc_3) rfl rfl rfl (Nat.le_of_ble_eq_true rfl) (by decide) dX5_read_89 (fun w114 y113 => ?_)
                show V x 0 0 w114 92 [(0, .ref (gz (xG x) + 1)), (1, .ref (gz (xG x) + 3)), (2, .int u25)] []
                obtain ⟨h116, o117⟩ := y113
                have h118 := Ch.tr h29 h116 (by decide) (by decide)
                refine r_aload_n 0 C dX5_read_92 rfl ?_
                refine gfX5_30 (v := (wI w28 1 1)) C (kS sC h118 kc_1) (h116.I (by decide) (by decide) rfl) dX5_read_93 ?_
                refine r_if_ne 103 C dX5_read_96 (by decide) (fun c119 => ?_) (fun c119 => ?_)
                · have c119' := i_ne c119
                  refine r_iconst (v := 0) C dX5_read_103 (by decide) ?_
                  exact hret _ _ _ _ dX5_read_104 (nar_z (z_of (by omega))) ⟨h118, o117, by omega⟩
                · have c119' := i_eq c119
                  refine r_iconst (v := 1) C dX5_read_99 (by decide) ?_
                  refine r_goto 104 C dX5_read_100 (by decide) ?_
                  exact hret _ _ _ _ dX5_read_104 (nar_z (z_of (by omega))) ⟨h118, o117, by omega⟩
              · have c112' := i_nle c112
                refine r_aload_n 0 C dX5_read_79 rfl ?_
                refine r_iconst (v := 1) C dX5_read_80 (by decide) ?_
                refine r_aload_n 0 C dX5_read_81 rfl ?_
                refine gfX5_19 (v := (wI w 1 0)) C (kS sC h29 kc_1) (h29.I (by decide) (by decide) rfl) dX5_read_82 ?_
                refine callVV C cwX5_43_V (ctX5_blame_1 _ _ w28 (sS sC h29) o30 1 (wI w 1 0) (by omega)) (by decide) (kS sC h29 kc_1) rfl rfl rfl (Nat.le_of_ble_eq_true rfl) (by decide) dX5_read_85 (fun w121 y120 => ?_)
                show V x 0 0 w121 88 [(0, .ref (gz (xG x) + 1)), (1, .ref (gz (xG x) + 3)), (2, .int u25)] []
                obtain ⟨h123, o124, f125⟩ := y120
                have h126 := Ch.tr h29 h123 (by decide) (by decide)
                refine r_aload_n 1 C dX5_read_88 rfl ?_
                refine callVV C cwX5_47_V (ctX9_placePiperIfUntold_3 _ _ w121 (sS sC h126) o124  ) (by decide) (kS sC h126 kc_3) rfl rfl rfl (Nat.le_of_ble_eq_true rfl) (by decide) dX5_read_89 (fun w128 y127 => ?_)
                show V x 0 0 w128 92 [(0, .ref (gz (xG x) + 1)), (1, .ref (gz (xG x) + 3)), (2, .int u25)] []
                obtain ⟨h130, o131⟩ := y127
                have h132 := Ch.tr h126 h130 (by decide) (by decide)
                refine r_aload_n 0 C dX5_read_92 rfl ?_
                refine gfX5_30 (v := (wI w121 1 1)) C (kS sC h132 kc_1) (h130.I (by decide) (by decide) rfl) dX5_read_93 ?_
                refine r_if_ne 103 C dX5_read_96 (by decide) (fun c133 => ?_) (fun c133 => ?_)
                · have c133' := i_ne c133
                  refine r_iconst (v := 0) C dX5_read_103 (by decide) ?_
                  exact hret _ _ _ _ dX5_read_104 (nar_z (z_of (by omega))) ⟨h132, o131, by omega⟩
                · have c133' := i_eq c133
                  refine r_iconst (v := 1) C dX5_read_99 (by decide) ?_
                  refine r_goto 104 C dX5_read_100 (by decide) ?_
                  exact hret _ _ _ _ dX5_read_104 (nar_z (z_of (by omega))) ⟨h132, o131, by omega⟩
          · have c102' := i_eq c102
            refine r_aload_n 0 C dX5_read_50 rfl ?_
            refine r_aload_n 1 C dX5_read_51 rfl ?_
            refine callVV C cwX5_36_V (ctX5_readSentence_1_3 _ _ w28 (sS sC h29) o30  ) (by decide) (kS sC h29 kc_1) rfl rfl rfl (Nat.le_of_ble_eq_true rfl) (by decide) dX5_read_52 (fun w135 y134 => ?_)
            show V x 0 0 w135 55 [(0, .ref (gz (xG x) + 1)), (1, .ref (gz (xG x) + 3)), (2, .int u25)] []
            obtain ⟨h137, o138⟩ := y134
            have h139 := Ch.tr h29 h137 (by decide) (by decide)
            refine r_aload_n 0 C dX5_read_55 rfl ?_
            refine callVV C cwX5_33_V (ctX5_skipBlanks_1 _ _ w135 (sS sC h139) o138  ) (by decide) (kS sC h139 kc_1) rfl rfl rfl (Nat.le_of_ble_eq_true rfl) (by decide) dX5_read_56 (fun w141 y140 => ?_)
            show V x 0 0 w141 59 [(0, .ref (gz (xG x) + 1)), (1, .ref (gz (xG x) + 3)), (2, .int u25)] []
            obtain ⟨h143, o144⟩ := y140
            have h145 := Ch.tr h139 h143 (by decide) (by decide)
            obtain ⟨i146, e147⟩ : ∃ z : Int32, u25 + Int32.ofInt 1 = z := ⟨_, rfl⟩
            have i146' := iinc_ok e147 (by decide) (by omega) (by omega)
            refine r_iinc [(2, .int i146), (0, .ref (gz (xG x) + 1)), (1, .ref (gz (xG x) + 3))] 2 C dX5_read_59 rfl e147 (by decide) rfl ?_
            refine r_goto 25 C dX5_read_62 (by decide) ?_
            refine r_lv [1, 2, 0] rfl ?_
            exact ih33 i146 w141 h145 o144 (by omega) (by omega)
  refine r_aload_n 1 C dX5_read_0 rfl ?_
  refine callVV C cwX5_22_V (ctX9_clear_3 _ _ w (sS sC h0) o0  ) (by decide) (kS sC h0 kc_3) rfl rfl rfl (Nat.le_of_ble_eq_true rfl) (by decide) dX5_read_1 (fun w2 y1 => ?_)
  show V x 0 0 w2 4 [(0, .ref (gz (xG x) + 1)), (1, .ref (gz (xG x) + 3))] []
  obtain ⟨h4, o5⟩ := y1
  have h6 := Ch.tr h0 h4 (by decide) (by decide)
  refine r_aload_n 0 C dX5_read_4 rfl ?_
  refine r_iconst (v := 0) C dX5_read_5 (by decide) ?_
  refine pfX5_27 C (kS sC h6 kc_1) dX5_read_6 (fun w7 e8 => ?_)
  have h9 := Ch.putF h6 e8 (by decide)
  have o10 := Inv.put o5 e8 0 500 (by omega) (by decide)
  refine r_aload_n 0 C dX5_read_9 rfl ?_
  refine r_iconst (v := 0) C dX5_read_10 (by decide) ?_
  refine pfX5_30 C (kS sC h9 kc_1) dX5_read_11 (fun w11 e12 => ?_)
  have h13 := Ch.putF h9 e12 (by decide)
  have o14 := Inv.putk o10 e12 (by decide)
  refine r_aload_n 0 C dX5_read_14 rfl ?_
  refine r_iconst (v := (-1)) C dX5_read_15 (by decide) ?_
  refine pfX5_9 C (kS sC h13 kc_1) dX5_read_16 (fun w15 e16 => ?_)
  have h17 := Ch.putF h13 e16 (by decide)
  have o18 := Inv.putk o14 e16 (by decide)
  refine r_aload_n 0 C dX5_read_19 rfl ?_
  refine callVV C cwX5_33_V (ctX5_skipBlanks_1 _ _ w15 (sS sC h17) o18  ) (by decide) (kS sC h17 kc_1) rfl rfl rfl (Nat.le_of_ble_eq_true rfl) (by decide) dX5_read_20 (fun w20 y19 => ?_)
  show V x 0 0 w20 23 [(0, .ref (gz (xG x) + 1)), (1, .ref (gz (xG x) + 3))] []
  obtain ⟨h22, o23⟩ := y19
  have h24 := Ch.tr h17 h22 (by decide) (by decide)
  refine r_iconst (v := 0) C dX5_read_23 (by decide) ?_
  refine r_istore_n [(2, .int 0), (0, .ref (gz (xG x) + 1)), (1, .ref (gz (xG x) + 3))] C dX5_read_24 (by decide) rfl ?_
  refine r_lv [1, 2, 0] rfl ?_
  exact LP26 4294967296 0 w20 h24 o23 (by omega) (by omega)
