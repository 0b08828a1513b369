set_option maxHeartbeats 4000000 in
set_option maxRecDepth 100000 in
theorem ctX10_walks_0 (l : Launch) (G : Gt) (w : Wv) (sC : Str KC XC w) (o0 : Inv RC w) (a1 : Int32) (a2 : Int32) (a3 : Int32) : CtI l G yX10_walks cX10_walks 4 .int ({ frames := 15, cells := 0, slots := 0, locals := 378 } : Room) [.ref (gz G + 0), .int a1, .int a2, .int a3] w (fun r w' => Ch [25, 26, 27, 52, 53, 54, 82, 83, 84, 86, 87, 89, 90, 92, 93, 95, 96, 98, 99, 101, 102] [(80, 0), (80, 8), (80, 9), (80, 10), (80, 11), (85, 0), (85, 1), (88, 0), (88, 1), (91, 0), (91, 1), (94, 0), (94, 1), (97, 0), (97, 1), (100, 0), (100, 1)] w w' ∧ Inv RC w') := by
  refine enterI (by decide) (Nat.le_of_ble_eq_true rfl) ?_
  intro x el eG C hret
  subst el; subst eG
  show V x 0 0 w 0 [(0, .ref (gz (xG x) + 0)), (1, .int a1), (2, .int a2), (3, .int a3)] []
  have h0 : Ch [25, 26, 27, 52, 53, 54, 82, 83, 84, 86, 87, 89, 90, 92, 93, 95, 96, 98, 99, 101, 102] [(80, 0), (80, 8), (80, 9), (80, 10), (80, 11), (85, 0), (85, 1), (88, 0), (88, 1), (91, 0), (91, 1), (94, 0), (94, 1), (97, 0), (97, 1), (100, 0), (100, 1)] w w := Ch.rf
  have qm1000000002 : ((-1000000002) : Int32).toInt = (-1000000002) := by decide
  have qm1000000001 : ((-1000000001) : Int32).toInt = (-1000000001) := by decide
  have qm1 : ((-1) : Int32).toInt = (-1) := by decide
  have q0 : (0 : Int32).toInt = 0 := by decide
  have q1 : (1 : Int32).toInt = 1 := by decide
  have q5 : (5 : Int32).toInt = 5 := by decide
  refine r_aload_n 0 C dX10_walks_0 rfl ?_
  refine r_iload_n 2 C dX10_walks_1 rfl ?_
  refine callVI C cwX10_190_V (ctX10_isTune_0 _ _ w (sS sC h0) o0 a2 ) (by decide) (kS sC h0 kc_0) rfl rfl rfl (Nat.le_of_ble_eq_true rfl) (by decide) dX10_walks_2 (fun r3 w2 y1 => ?_)
  show V x 0 0 w2 5 [(0, .ref (gz (xG x) + 0)), (1, .int a1), (2, .int a2), (3, .int a3)] [.int r3]
  obtain ⟨h4, o5, g6⟩ := y1
  have h7 := Ch.tr h0 h4 (by decide) (by decide)
  refine r_if_ne 11 C dX10_walks_5 (by decide) (fun c8 => ?_) (fun c8 => ?_)
  · have c8' := i_ne c8
    refine r_iload_n 1 C dX10_walks_11 rfl ?_
    refine r_iconst (v := 1) C dX10_walks_12 (by decide) ?_
    have k10 := i_rng a1
    refine r_icmp_lt 21 C dX10_walks_13 (by decide) (fun c9 => ?_) (fun c9 => ?_)
    · have c9' := i_lt c9
      refine r_ldc C mw2_226 dX10_walks_21 ?_
      exact hret _ _ _ _ dX10_walks_23 rfl ⟨h7, o5⟩
    · have c9' := i_nlt c9
      refine r_iload_n 1 C dX10_walks_16 rfl ?_
      refine r_iconst (v := 5) C dX10_walks_17 (by decide) ?_
      have k12 := i_rng a1
      refine r_icmp_le 24 C dX10_walks_18 (by decide) (fun c11 => ?_) (fun c11 => ?_)
      · have c11' := i_le c11
        refine r_aload_n 0 C dX10_walks_24 rfl ?_
        refine gfX10_86 80 C (kS sC h7 kc_0) (xS sC h7 xc_0_12) dX10_walks_25 ?_
        refine r_aload_n 0 C dX10_walks_28 rfl ?_
        refine gfX10_41 35 C (kS sC h7 kc_0) (xS sC h7 xc_0_5) dX10_walks_29 ?_
        refine r_iload_n 1 C dX10_walks_32 rfl ?_
        refine r_iload_n 2 C dX10_walks_33 rfl ?_
        refine callVV C cwX10_257_V (ctX0_search_80_35 _ _ w2 (sS sC h7) o5 a1 a2 (by omega)) (by decide) (kS sC h7 kc_80) rfl rfl rfl (Nat.le_of_ble_eq_true rfl) (by decide) dX10_walks_34 (fun w14 y13 => ?_)
        show V x 0 0 w14 37 [(0, .ref (gz (xG x) + 0)), (1, .int a1), (2, .int a2), (3, .int a3)] []
        obtain ⟨h16, o17⟩ := y13
        have h18 := Ch.tr h7 h16 (by decide) (by decide)
        refine r_iload_n 3 C dX10_walks_37 rfl ?_
        refine r_iconst (v := (-1)) C dX10_walks_38 (by decide) ?_
        refine r_icmp_ne 52 C dX10_walks_39 (by decide) (fun c19 => ?_) (fun c19 => ?_)
        · have c19' := i_ne c19
          refine r_aload_n 0 C dX10_walks_52 rfl ?_
          refine gfX10_86 80 C (kS sC h18 kc_0) (xS sC h18 xc_0_12) dX10_walks_53 ?_
          refine r_iload_n 3 C dX10_walks_56 rfl ?_
          refine callVI C cwX10_259_V (ctX0_stepAt_80 _ _ w14 (sS sC h18) o17 a3 ) (by decide) (kS sC h18 kc_80) rfl rfl rfl (Nat.le_of_ble_eq_true rfl) (by decide) dX10_walks_57 (fun r22 w21 y20 => ?_)
          show V x 0 0 w21 60 [(0, .ref (gz (xG x) + 0)), (1, .int a1), (2, .int a2), (3, .int a3)] [.int r22]
          obtain ⟨h23, o24⟩ := y20
          have h25 := Ch.tr h18 h23 (by decide) (by decide)
          exact hret _ _ _ _ dX10_walks_60 rfl ⟨h25, o24⟩
        · have c19' := i_eq c19
          refine r_aload_n 0 C dX10_walks_42 rfl ?_
          refine gfX10_86 80 C (kS sC h18 kc_0) (xS sC h18 xc_0_12) dX10_walks_43 ?_
          refine gfX10_258 (v := (wI w14 80 0)) C (kS sC h18 kc_80) rfl dX10_walks_46 ?_
          refine r_goto 60 C dX10_walks_49 (by decide) ?_
          exact hret _ _ _ _ dX10_walks_60 rfl ⟨h18, o17⟩
      · have c11' := i_nle c11
        refine r_ldc C mw2_226 dX10_walks_21 ?_
        exact hret _ _ _ _ dX10_walks_23 rfl ⟨h7, o5⟩
  · have c8' := i_eq c8
    refine r_ldc C mw3_198 dX10_walks_8 ?_
    exact hret _ _ _ _ dX10_walks_10 rfl ⟨h7, o5⟩
set_option maxHeartbeats 4000000 in
set_option maxRecDepth 100000 in
theorem ctX10_tear_0 (l : Launch) (G : Gt) (w : Wv) (sC : Str KC XC w) (o0 : Inv RC w)  : CtI l G yX10_tear cX10_tear 2 .int ({ frames := 0, cells := 0, slots := 0, locals := 0 } : Room) [.ref (gz G + 0)] w (fun r w' => Ch [] [(47, 0)] w w' ∧ Inv RC w') := by
  refine enterI (by decide) (Nat.le_of_ble_eq_true rfl) ?_
  intro x el eG C hret
  subst el; subst eG
  show V x 0 0 w 0 [(0, .ref (gz (xG x) + 0))] []
  have h0 : Ch [] [(47, 0)] w w := Ch.rf
  have q0 : (0 : Int32).toInt = 0 := by decide
  refine r_aload_n 0 C dX10_tear_0 rfl ?_
  refine gfX10_61 47 C (kS sC h0 kc_0) (xS sC h0 xc_0_9) dX10_tear_1 ?_
  refine gfX10_157 (v := (wI w 47 0)) C (kS sC h0 kc_47) rfl dX10_tear_4 ?_
  have b1 := Inv.get o0 rt_47_0 (j := 0) (by decide) (by decide)
  refine r_istore_n [(1, .int (wI w 47 0)), (0, .ref (gz (xG x) + 0))] C dX10_tear_7 (by decide) rfl ?_
  refine r_aload_n 1 C dX10_tear_8 rfl ?_
  refine gfX10_61 47 C (kS sC h0 kc_0) (xS sC h0 xc_0_9) dX10_tear_9 ?_
  refine r_iconst (v := 0) C dX10_tear_12 (by decide) ?_
  refine pfX10_157 C (kS sC h0 kc_47) dX10_tear_13 (fun w2 e3 => ?_)
  have h4 := Ch.putF h0 e3 (by decide)
  have o5 := Inv.put o0 e3 0 10 (by omega) (by decide)
  refine r_iload_n 0 C dX10_tear_16 rfl ?_
  exact hret _ _ _ _ dX10_tear_17 rfl ⟨h4, o5⟩
set_option maxHeartbeats 4000000 in
set_option maxRecDepth 100000 in
theorem ctX10_seed_0 (l : Launch) (G : Gt) (w : Wv) (sC : Str KC XC w) (o0 : Inv RC w) (a1 : Int32) : CtI l G yX10_seed cX10_seed 3 .int ({ frames := 0, cells := 0, slots := 0, locals := 0 } : Room) [.ref (gz G + 0), .int a1] w (fun r w' => Ch [] [(0, 14)] w w' ∧ Inv RC w') := by
  refine enterI (by decide) (Nat.le_of_ble_eq_true rfl) ?_
  intro x el eG C hret
  subst el; subst eG
  show V x 0 0 w 0 [(0, .ref (gz (xG x) + 0)), (1, .int a1)] []
  have h0 : Ch [] [(0, 14)] w w := Ch.rf
  have qm1000000002 : ((-1000000002) : Int32).toInt = (-1000000002) := by decide
  have q0 : (0 : Int32).toInt = 0 := by decide
  refine r_iload_n 1 C dX10_seed_0 rfl ?_
  refine r_if_ge 7 C dX10_seed_1 (by decide) (fun c1 => ?_) (fun c1 => ?_)
  · have c1' := i_le c1
    refine r_aload_n 0 C dX10_seed_7 rfl ?_
    refine gfX10_260 (v := (wI w 0 14)) C (kS sC h0 kc_0) rfl dX10_seed_8 ?_
    refine r_istore_n [(2, .int (wI w 0 14)), (0, .ref (gz (xG x) + 0)), (1, .int a1)] C dX10_seed_11 (by decide) rfl ?_
    refine r_aload_n 1 C dX10_seed_12 rfl ?_
    refine r_iload_n 2 C dX10_seed_13 rfl ?_
    refine pfX10_260 C (kS sC h0 kc_0) dX10_seed_14 (fun w2 e3 => ?_)
    have h4 := Ch.putF h0 e3 (by decide)
    have o5 := Inv.putk o0 e3 (by decide)
    refine r_iload_n 0 C dX10_seed_17 rfl ?_
    exact hret _ _ _ _ dX10_seed_18 rfl ⟨h4, o5⟩
  · have c1' := i_nle c1
    refine r_ldc C mw2_226 dX10_seed_4 ?_
    exact hret _ _ _ _ dX10_seed_6 rfl ⟨h0, o0⟩
set_option maxHeartbeats 4000000 in
set_option maxRecDepth 100000 in
theorem ctX10_goBack_0 (l : Launch) (G : Gt) (w : Wv) (sC : Str KC XC w) (o0 : Inv RC w) (a1 : Int32) : CtI l G yX10_goBack cX10_goBack 2 .int ({ frames := 3, cells := 0, slots := 0, locals := 65 } : Room) [.ref (gz G + 0), .int a1] w (fun r w' => Ch [22, 26, 36, 37] [(0, 14), (35, 0), (35, 1), (55, 7)] w w' ∧ Inv RC w') := by
  refine enterI (by decide) (Nat.le_of_ble_eq_true rfl) ?_
  intro x el eG C hret
  subst el; subst eG
  show V x 0 0 w 0 [(0, .ref (gz (xG x) + 0)), (1, .int a1)] []
  have h0 : Ch [22, 26, 36, 37] [(0, 14), (35, 0), (35, 1), (55, 7)] w w := Ch.rf
  have qm1000000003 : ((-1000000003) : Int32).toInt = (-1000000003) := by decide
  have qm1000000001 : ((-1000000001) : Int32).toInt = (-1000000001) := by decide
  have q0 : (0 : Int32).toInt = 0 := by decide
  have q1 : (1 : Int32).toInt = 1 := by decide
  refine r_iload_n 1 C dX10_goBack_0 rfl ?_
  refine callSI C cwX10_263_S (ctX10_isImage _ _ w a1 ) (by decide) rfl rfl (Nat.le_of_ble_eq_true rfl) (by decide) dX10_goBack_1 (fun r3 w2 y1 => ?_)
  obtain ⟨y1, g4⟩ := y1
  obtain rfl := y1.symm
  show V x 0 0 w 4 [(0, .ref (gz (xG x) + 0)), (1, .int a1)] [.int r3]
  refine r_if_ne 10 C dX10_goBack_4 (by decide) (fun c5 => ?_) (fun c5 => ?_)
  · have c5' := i_ne c5
    refine r_aload_n 0 C dX10_goBack_10 rfl ?_
    refine gfX10_92 103 C (kS sC h0 kc_0) (xS sC h0 xc_0_13) dX10_goBack_11 ?_
    refine r_iload_n 1 C dX10_goBack_14 rfl ?_
    rcases (show a1.toInt = 0 ∨ a1.toInt = 1 by omega) with c6 | c6
    · obtain rfl : a1 = 0 := i_of (by omega)
      refine r_aald 4 rfl C (kS sC h0 kc_103) (vin (by omega) (by omega)) (xS sC h0 xc_103_0) dX10_goBack_15 ?_
      refine gfX10_270 (v := (wI w 104 0)) C (kS sC h0 kc_104) rfl dX10_goBack_16 ?_
      refine r_if_ne 25 C dX10_goBack_19 (by decide) (fun c7 => ?_) (fun c7 => ?_)
      · have c7' := i_ne c7
        refine r_aload_n 0 C dX10_goBack_25 rfl ?_
        refine gfX10_92 103 C (kS sC h0 kc_0) (xS sC h0 xc_0_13) dX10_goBack_26 ?_
        refine r_iload_n 1 C dX10_goBack_29 rfl ?_
        refine r_aald 4 rfl C (kS sC h0 kc_103) (vin (by omega) (by omega)) (xS sC h0 xc_103_0) dX10_goBack_30 ?_
        refine r_aload_n 0 C dX10_goBack_31 rfl ?_
        refine gfX10_41 35 C (kS sC h0 kc_0) (xS sC h0 xc_0_5) dX10_goBack_32 ?_
        refine r_aload_n 0 C dX10_goBack_35 rfl ?_
        refine gfX10_29 21 C (kS sC h0 kc_0) (xS sC h0 xc_0_3) dX10_goBack_36 ?_
        refine callVV C cwX10_274_V (ctX2_give_104_35_21 _ _ w (sS sC h0) o0  ) (by decide) (kS sC h0 kc_104) rfl rfl rfl (Nat.le_of_ble_eq_true rfl) (by decide) dX10_goBack_39 (fun w9 y8 => ?_)
        show V x 0 0 w9 42 [(0, .ref (gz (xG x) + 0)), (1, .int 0)] []
        obtain ⟨h11, o12⟩ := y8
        have h13 := Ch.tr h0 h11 (by decide) (by decide)
        refine r_aload_n 0 C dX10_goBack_42 rfl ?_
        refine r_aload_n 0 C dX10_goBack_43 rfl ?_
        refine gfX10_92 103 C (kS sC h13 kc_0) (xS sC h13 xc_0_13) dX10_goBack_44 ?_
        refine r_iload_n 1 C dX10_goBack_47 rfl ?_
        refine r_aald 4 rfl C (kS sC h13 kc_103) (vin (by omega) (by omega)) (xS sC h13 xc_103_0) dX10_goBack_48 ?_
        refine gfX10_278 (v := (wI w 104 1)) C (kS sC h13 kc_104) (h11.I (by decide) (by decide) rfl) dX10_goBack_49 ?_
        refine pfX10_260 C (kS sC h13 kc_0) dX10_goBack_52 (fun w14 e15 => ?_)
        have h16 := Ch.putF h13 e15 (by decide)
        have o17 := Inv.putk o12 e15 (by decide)
        refine r_aload_n 0 C dX10_goBack_55 rfl ?_
        refine gfX10_77 55 C (kS sC h16 kc_0) (xS sC h16 xc_0_11) dX10_goBack_56 ?_
        refine callVV C cwX10_219_V (ctX8_forget_55 _ _ w14 (sS sC h16) o17  ) (by decide) (kS sC h16 kc_55) rfl rfl rfl (Nat.le_of_ble_eq_true rfl) (by decide) dX10_goBack_59 (fun w19 y18 => ?_)
        show V x 0 0 w19 62 [(0, .ref (gz (xG x) + 0)), (1, .int 0)] []
        obtain ⟨h21, o22⟩ := y18
        have h23 := Ch.tr h16 h21 (by decide) (by decide)
        refine r_iconst (v := 1) C dX10_goBack_62 (by decide) ?_
        exact hret _ _ _ _ dX10_goBack_63 rfl ⟨h23, o22⟩
      · have c7' := i_eq c7
        refine r_ldc C mw4_29 dX10_goBack_22 ?_
        exact hret _ _ _ _ dX10_goBack_24 rfl ⟨h0, o0⟩
    · obtain rfl : a1 = 1 := i_of (by omega)
      refine r_aald 4 rfl C (kS sC h0 kc_103) (vin (by omega) (by omega)) (xS sC h0 xc_103_1) dX10_goBack_15 ?_
      refine gfX10_270 (v := (wI w 109 0)) C (kS sC h0 kc_109) rfl dX10_goBack_16 ?_
      refine r_if_ne 25 C dX10_goBack_19 (by decide) (fun c24 => ?_) (fun c24 => ?_)
      · have c24' := i_ne c24
        refine r_aload_n 0 C dX10_goBack_25 rfl ?_
        refine gfX10_92 103 C (kS sC h0 kc_0) (xS sC h0 xc_0_13) dX10_goBack_26 ?_
        refine r_iload_n 1 C dX10_goBack_29 rfl ?_
        refine r_aald 4 rfl C (kS sC h0 kc_103) (vin (by omega) (by omega)) (xS sC h0 xc_103_1) dX10_goBack_30 ?_
        refine r_aload_n 0 C dX10_goBack_31 rfl ?_
        refine gfX10_41 35 C (kS sC h0 kc_0) (xS sC h0 xc_0_5) dX10_goBack_32 ?_
        refine r_aload_n 0 C dX10_goBack_35 rfl ?_
        refine gfX10_29 21 C (kS sC h0 kc_0) (xS sC h0 xc_0_3) dX10_goBack_36 ?_
        refine callVV C cwX10_274_V (ctX2_give_109_35_21 _ _ w (sS sC h0) o0  ) (by decide) (kS sC h0 kc_109) rfl rfl rfl (Nat.le_of_ble_eq_true rfl) (by decide) dX10_goBack_39 (fun w26 y25 => ?_)
        show V x 0 0 w26 42 [(0, .ref (gz (xG x) + 0)), (1, .int 1)] []
        obtain ⟨h28, o29⟩ := y25
        have h30 := Ch.tr h0 h28 (by decide) (by decide)
        refine r_aload_n 0 C dX10_goBack_42 rfl ?_
        refine r_aload_n 0 C dX10_goBack_43 rfl ?_
        refine gfX10_92 103 C (kS sC h30 kc_0) (xS sC h30 xc_0_13) dX10_goBack_44 ?_
        refine r_iload_n 1 C dX10_goBack_47 rfl ?_
        refine r_aald 4 rfl C (kS sC h30 kc_103) (vin (by omega) (by omega)) (xS sC h30 xc_103_1) dX10_goBack_48 ?_
        refine gfX10_278 (v := (wI w 109 1)) C (kS sC h30 kc_109) (h28.I (by decide) (by decide) rfl) dX10_goBack_49 ?_
        refine pfX10_260 C (kS sC h30 kc_0) dX10_goBack_52 (fun w31 e32 => ?_)
        have h33 := Ch.putF h30 e32 (by decide)
        have o34 := Inv.putk o29 e32 (by decide)
        refine r_aload_n 0 C dX10_goBack_55 rfl ?_
        refine gfX10_77 55 C (kS sC h33 kc_0) (xS sC h33 xc_0_11) dX10_goBack_56 ?_
        refine callVV C cwX10_219_V (ctX8_forget_55 _ _ w31 (sS sC h33) o34  ) (by decide) (kS sC h33 kc_55) rfl rfl rfl (Nat.le_of_ble_eq_true rfl) (by decide) dX10_goBack_59 (fun w36 y35 => ?_)
        show V x 0 0 w36 62 [(0, .ref (gz (xG x) + 0)), (1, .int 1)] []
        obtain ⟨h38, o39⟩ := y35
        have h40 := Ch.tr h33 h38 (by decide) (by decide)
        refine r_iconst (v := 1) C dX10_goBack_62 (by decide) ?_
        exact hret _ _ _ _ dX10_goBack_63 rfl ⟨h40, o39⟩
      · have c24' := i_eq c24
        refine r_ldc C mw4_29 dX10_goBack_22 ?_
        exact hret _ _ _ _ dX10_goBack_24 rfl ⟨h0, o0⟩
  · have c5' := i_eq c5
    refine r_ldc C mw3_198 dX10_goBack_7 ?_
    exact hret _ _ _ _ dX10_goBack_9 rfl ⟨h0, o0⟩
set_option maxHeartbeats 4000000 in
set_option maxRecDepth 100000 in
theorem ctX10_keep_0 (l : Launch) (G : Gt) (w : Wv) (sC : Str KC XC w) (o0 : Inv RC w) (a1 : Int32) : CtI l G yX10_keep cX10_keep 2 .int ({ frames := 2, cells := 0, slots := 0, locals := 45 } : Room) [.ref (gz G + 0), .int a1] w (fun r w' => Ch [105, 107, 108, 110, 112, 113] [(104, 0), (104, 1), (106, 0), (106, 1), (109, 0), (109, 1), (111, 0), (111, 1)] w w' ∧ Inv RC w' ∧ (((a1.toInt < 0 ∨ 1 < a1.toInt) → r.toInt = -1000000001) ∧ ((0 ≤ a1.toInt ∧ a1.toInt ≤ 1) → r.toInt = 1))) := by
  refine enterI (by decide) (Nat.le_of_ble_eq_true rfl) ?_
  intro x el eG C hret
  subst el; subst eG
  show V x 0 0 w 0 [(0, .ref (gz (xG x) + 0)), (1, .int a1)] []
  have h0 : Ch [105, 107, 108, 110, 112, 113] [(104, 0), (104, 1), (106, 0), (106, 1), (109, 0), (109, 1), (111, 0), (111, 1)] w w := Ch.rf
  have qm1000000001 : ((-1000000001) : Int32).toInt = (-1000000001) := by decide
  have q0 : (0 : Int32).toInt = 0 := by decide
  have q1 : (1 : Int32).toInt = 1 := by decide
  refine r_iload_n 1 C dX10_keep_0 rfl ?_
  refine callSI C cwX10_263_S (ctX10_isImage _ _ w a1 ) (by decide) rfl rfl (Nat.le_of_ble_eq_true rfl) (by decide) dX10_keep_1 (fun r3 w2 y1 => ?_)
  obtain ⟨y1, g4⟩ := y1
  obtain rfl := y1.symm
  show V x 0 0 w 4 [(0, .ref (gz (xG x) + 0)), (1, .int a1)] [.int r3]
  refine r_if_ne 10 C dX10_keep_4 (by decide) (fun c5 => ?_) (fun c5 => ?_)
  · have c5' := i_ne c5
    refine r_aload_n 0 C dX10_keep_10 rfl ?_
    refine gfX10_92 103 C (kS sC h0 kc_0) (xS sC h0 xc_0_13) dX10_keep_11 ?_
    refine r_iload_n 1 C dX10_keep_14 rfl ?_
    rcases (show a1.toInt = 0 ∨ a1.toInt = 1 by omega) with c6 | c6
    · obtain rfl : a1 = 0 := i_of (by omega)
      refine r_aald 4 rfl C (kS sC h0 kc_103) (vin (by omega) (by omega)) (xS sC h0 xc_103_0) dX10_keep_15 ?_
      refine r_aload_n 0 C dX10_keep_16 rfl ?_
      refine gfX10_41 35 C (kS sC h0 kc_0) (xS sC h0 xc_0_5) dX10_keep_17 ?_
      refine r_aload_n 0 C dX10_keep_20 rfl ?_
      refine gfX10_29 21 C (kS sC h0 kc_0) (xS sC h0 xc_0_3) dX10_keep_21 ?_
      refine r_aload_n 0 C dX10_keep_24 rfl ?_
      refine gfX10_260 (v := (wI w 0 14)) C (kS sC h0 kc_0) rfl dX10_keep_25 ?_
      refine callVV C cwX10_266_V (ctX2_take_104_35_21 _ _ w (sS sC h0) o0 (wI w 0 14) ) (by decide) (kS sC h0 kc_104) rfl rfl rfl (Nat.le_of_ble_eq_true rfl) (by decide) dX10_keep_28 (fun w8 y7 => ?_)
      show V x 0 0 w8 31 [(0, .ref (gz (xG x) + 0)), (1, .int 0)] []
      obtain ⟨h10, o11⟩ := y7
      have h12 := Ch.tr h0 h10 (by decide) (by decide)
      refine r_iconst (v := 1) C dX10_keep_31 (by decide) ?_
      exact hret _ _ _ _ dX10_keep_32 rfl ⟨h12, o11, by omega⟩
    · obtain rfl : a1 = 1 := i_of (by omega)
      refine r_aald 4 rfl C (kS sC h0 kc_103) (vin (by omega) (by omega)) (xS sC h0 xc_103_1) dX10_keep_15 ?_
      refine r_aload_n 0 C dX10_keep_16 rfl ?_
      refine gfX10_41 35 C (kS sC h0 kc_0) (xS sC h0 xc_0_5) dX10_keep_17 ?_
      refine r_aload_n 0 C dX10_keep_20 rfl ?_
      refine gfX10_29 21 C (kS sC h0 kc_0) (xS sC h0 xc_0_3) dX10_keep_21 ?_
      refine r_aload_n 0 C dX10_keep_24 rfl ?_
      refine gfX10_260 (v := (wI w 0 14)) C (kS sC h0 kc_0) rfl dX10_keep_25 ?_
      refine callVV C cwX10_266_V (ctX2_take_109_35_21 _ _ w (sS sC h0) o0 (wI w 0 14) ) (by decide) (kS sC h0 kc_109) rfl rfl rfl (Nat.le_of_ble_eq_true rfl) (by decide) dX10_keep_28 (fun w14 y13 => ?_)
      show V x 0 0 w14 31 [(0, .ref (gz (xG x) + 0)), (1, .int 1)] []
      obtain ⟨h16, o17⟩ := y13
      have h18 := Ch.tr h0 h16 (by decide) (by decide)
      refine r_iconst (v := 1) C dX10_keep_31 (by decide) ?_
      exact hret _ _ _ _ dX10_keep_32 rfl ⟨h18, o17, by omega⟩
  · have c5' := i_eq c5
    refine r_ldc C mw3_198 dX10_keep_7 ?_
    exact hret _ _ _ _ dX10_keep_9 rfl ⟨h0, o0, by omega⟩
