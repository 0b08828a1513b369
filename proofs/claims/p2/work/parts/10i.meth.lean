set_option maxHeartbeats 4000000 in
set_option maxRecDepth 100000 in
theorem ctX0_search_80_35 (l : Launch) (G : Gt) (w : Wv) (sC : Str KC XC w) (o0 : Inv RC w) (a2 : Int32) (a3 : Int32) (b2 : 1 ≤ a2.toInt ∧ a2.toInt ≤ 5) : CtV l G yX0_search cX0_search 4 ({ frames := 14, cells := 0, slots := 0, locals := 355 } : Room) [.ref (gz G + 80), .ref (gz G + 35), .int a2, .int a3] w (fun w' => Ch [25, 26, 27, 52, 53, 54, 82, 83, 84, 86, 87, 89, 90, 92, 93, 95, 96, 98, 99, 101, 102] [(80, 0), (80, 8), (80, 9), (80, 10), (80, 11), (85, 0), (85, 1), (88, 0), (88, 1), (91, 0), (91, 1), (94, 0), (94, 1), (97, 0), (97, 1), (100, 0), (100, 1)] w w' ∧ Inv RC w') := by
  refine enterV (by decide) (Nat.le_of_ble_eq_true rfl) ?_
  intro x el eG C hnm hret
  subst el; subst eG
  show V x 0 0 w 0 [(0, .ref (gz (xG x) + 80)), (1, .ref (gz (xG x) + 35)), (2, .int a2), (3, .int a3)] []
  have h0 : Ch [25, 26, 27, 52, 53, 54, 82, 83, 84, 86, 87, 89, 90, 92, 93, 95, 96, 98, 99, 101, 102] [(80, 0), (80, 8), (80, 9), (80, 10), (80, 11), (85, 0), (85, 1), (88, 0), (88, 1), (91, 0), (91, 1), (94, 0), (94, 1), (97, 0), (97, 1), (100, 0), (100, 1)] w w := Ch.rf
  have q0 : (0 : Int32).toInt = 0 := by decide
  refine r_aload_n 0 C dX0_search_0 rfl ?_
  refine r_iload_n 2 C dX0_search_1 rfl ?_
  refine pfX0_46 C (kS sC h0 kc_80) dX0_search_2 (fun w1 e2 => ?_)
  have h3 := Ch.putF h0 e2 (by decide)
  have o4 := Inv.put o0 e2 0 5 (by omega) (by decide)
  refine r_aload_n 0 C dX0_search_5 rfl ?_
  refine r_aload_n 0 C dX0_search_6 rfl ?_
  refine gfX0_31 47 C (kS sC h3 kc_80) (xS sC h3 xc_80_1) dX0_search_7 ?_
  refine r_iload_n 2 C dX0_search_10 rfl ?_
  refine callVI C cwX0_50_V (ctX7_latest_47 _ _ w1 (sS sC h3) o4 a2 (by omega)) (by decide) (kS sC h3 kc_47) rfl rfl rfl (Nat.le_of_ble_eq_true rfl) (by decide) dX0_search_11 (fun r7 w6 y5 => ?_)
  show V x 0 0 w6 14 [(0, .ref (gz (xG x) + 80)), (1, .ref (gz (xG x) + 35)), (2, .int a2), (3, .int a3)] [.int r7, .ref (gz (xG x) + 80)]
  obtain ⟨h8, o9, g10⟩ := y5
  have h11 := Ch.tr h3 h8 (by decide) (by decide)
  refine pfX0_56 C (kS sC h11 kc_80) dX0_search_14 (fun w12 e13 => ?_)
  have h14 := Ch.putF h11 e13 (by decide)
  have o15 := Inv.put o9 e13 0 5 (by omega) (by decide)
  refine r_aload_n 0 C dX0_search_17 rfl ?_
  refine r_iload_n 3 C dX0_search_18 rfl ?_
  refine pfX0_58 C (kS sC h14 kc_80) dX0_search_19 (fun w16 e17 => ?_)
  have h18 := Ch.putF h14 e17 (by decide)
  have o19 := Inv.putk o15 e17 (by decide)
  refine r_aload_n 0 C dX0_search_22 rfl ?_
  refine r_iconst (v := 0) C dX0_search_23 (by decide) ?_
  refine pfX0_42 C (kS sC h18 kc_80) (z_of (by omega)) dX0_search_24 (fun w20 e21 => ?_)
  have h22 := Ch.putF h18 e21 (by decide)
  have o23 := Inv.putk o19 e21 (by decide)
  refine r_aload_n 0 C dX0_search_27 rfl ?_
  refine gfX0_11 81 C (kS sC h22 kc_80) (xS sC h22 xc_80_3) dX0_search_28 ?_
  refine r_iconst (v := 0) C dX0_search_31 (by decide) ?_
  refine r_aald 3 rfl C (kS sC h22 kc_81) (vin (by omega) (by omega)) (xS sC h22 xc_81_0) dX0_search_32 ?_
  refine r_aload_n 1 C dX0_search_33 rfl ?_
  refine callVV C cwX0_61_V (ctX6_copy_85_35 _ _ w20 (sS sC h22) o23  ) (by decide) (kS sC h22 kc_85) rfl rfl rfl (Nat.le_of_ble_eq_true rfl) (by decide) dX0_search_34 (fun w25 y24 => ?_)
  show V x 0 0 w25 37 [(0, .ref (gz (xG x) + 80)), (1, .ref (gz (xG x) + 35)), (2, .int a2), (3, .int a3)] []
  obtain ⟨h27, o28⟩ := y24
  have h29 := Ch.tr h22 h27 (by decide) (by decide)
  refine r_aload_n 0 C dX0_search_37 rfl ?_
  refine gfX0_35 51 C (kS sC h29 kc_80) (xS sC h29 xc_80_7) dX0_search_38 ?_
  refine callVV C cwX0_65_V (ctX3_clear_51 _ _ w25 (sS sC h29) o28  ) (by decide) (kS sC h29 kc_51) rfl rfl rfl (Nat.le_of_ble_eq_true rfl) (by decide) dX0_search_41 (fun w31 y30 => ?_)
  show V x 0 0 w31 44 [(0, .ref (gz (xG x) + 80)), (1, .ref (gz (xG x) + 35)), (2, .int a2), (3, .int a3)] []
  obtain ⟨h33, o34⟩ := y30
  have h35 := Ch.tr h29 h33 (by decide) (by decide)
  refine r_aload_n 0 C dX0_search_44 rfl ?_
  refine callVV C cwX0_70_V (ctX0_countFree_80 _ _ w31 (sS sC h35) o34  ) (by decide) (kS sC h35 kc_80) rfl rfl rfl (Nat.le_of_ble_eq_true rfl) (by decide) dX0_search_45 (fun w37 y36 => ?_)
  show V x 0 0 w37 48 [(0, .ref (gz (xG x) + 80)), (1, .ref (gz (xG x) + 35)), (2, .int a2), (3, .int a3)] []
  obtain ⟨h39, o40⟩ := y36
  have h41 := Ch.tr h35 h39 (by decide) (by decide)
  refine r_aload_n 0 C dX0_search_48 rfl ?_
  refine r_aload_n 0 C dX0_search_49 rfl ?_
  refine r_iconst (v := 0) C dX0_search_50 (by decide) ?_
  refine callVI C cwX0_73_V (ctX0_fit_80_d0 _ _ w37 (sS sC h41) o40 0 (by omega)) (by decide) (kS sC h41 kc_80) rfl rfl rfl (Nat.le_of_ble_eq_true rfl) (by decide) dX0_search_51 (fun r44 w43 y42 => ?_)
  show V x 0 0 w43 54 [(0, .ref (gz (xG x) + 80)), (1, .ref (gz (xG x) + 35)), (2, .int a2), (3, .int a3)] [.int r44, .ref (gz (xG x) + 80)]
  obtain ⟨h45, o46⟩ := y42
  have h47 := Ch.tr h41 h45 (by decide) (by decide)
  refine pfX0_76 C (kS sC h47 kc_80) dX0_search_54 (fun w48 e49 => ?_)
  have h50 := Ch.putF h47 e49 (by decide)
  have o51 := Inv.putk o46 e49 (by decide)
  exact hret _ _ _ dX0_search_57 ⟨h50, o51⟩
set_option maxHeartbeats 4000000 in
set_option maxRecDepth 100000 in
theorem ctX5_add_1 (l : Launch) (G : Gt) (w : Wv) (sC : Str KC XC w) (o0 : Inv RC w) (u : Int32) (pu : wI w 1 0 = u) (bu : 0 ≤ u.toInt ∧ u.toInt ≤ 499) (a1 : Int32) : CtV l G yX5_add cX5_add 2 ({ frames := 0, cells := 0, slots := 0, locals := 0 } : Room) [.ref (gz G + 1), .int a1] w (fun w' => Ch [2] [(1, 0)] w w' ∧ Inv RC w' ∧ (wI w' 1 0).toInt = u.toInt + 1) := by
  refine enterV (by decide) (Nat.le_of_ble_eq_true rfl) ?_
  intro x el eG C hnm hret
  subst el; subst eG
  show V x 0 0 w 0 [(0, .ref (gz (xG x) + 1)), (1, .int a1)] []
  have h0 : Ch [2] [(1, 0)] w w := Ch.rf
  have q1 : (1 : Int32).toInt = 1 := by decide
  have q500 : (500 : Int32).toInt = 500 := by decide
  refine r_aload_n 0 C dX5_add_0 rfl ?_
  refine gfX5_19 (v := u) C (kS sC h0 kc_1) pu dX5_add_1 ?_
  refine r_sipush (v := 500) C dX5_add_4 (by decide) ?_
  refine r_icmp_ge 30 C dX5_add_7 (by decide) (fun c1 => ?_) (fun c1 => ?_)
  · have c1' := i_le c1
    exfalso; omega
  · have c1' := i_nle c1
    refine r_aload_n 0 C dX5_add_10 rfl ?_
    refine gfX5_15 2 C (kS sC h0 kc_1) (xS sC h0 xc_1_3) dX5_add_11 ?_
    refine r_aload_n 0 C dX5_add_14 rfl ?_
    refine gfX5_19 (v := u) C (kS sC h0 kc_1) pu dX5_add_15 ?_
    refine r_iload_n 1 C dX5_add_18 rfl ?_
    refine r_iast C (kS sC h0 kc_2) (vin (by omega) (by omega)) dX5_add_19 (fun w2 e3 => ?_)
    have h4 := Ch.putS h0 e3 (by decide)
    have o5 := Inv.put0 o0 e3 (by decide)
    refine r_aload_n 0 C dX5_add_20 rfl ?_
    refine r_dup C dX5_add_21 rfl ?_
    refine gfX5_19 (v := u) C (kS sC h4 kc_1) (g_nn e3 (by decide) pu) dX5_add_22 ?_
    refine r_iconst (v := 1) C dX5_add_25 (by decide) ?_
    refine r_iadd C dX5_add_26 (fun v6 e7 => ?_)
    have v6' := iadd_ok e7 (by omega) (by omega)
    refine pfX5_19 C (kS sC h4 kc_1) dX5_add_27 (fun w8 e9 => ?_)
    have h10 := Ch.putF h4 e9 (by decide)
    have o11 := Inv.put o5 e9 0 500 (by omega) (by decide)
    exact hret _ _ _ dX5_add_30 ⟨h10, o11, (by rw [(g_eq e9)]; omega)⟩
set_option maxHeartbeats 4000000 in
set_option maxRecDepth 100000 in
theorem ctX5_blame_1 (l : Launch) (G : Gt) (w : Wv) (sC : Str KC XC w) (o0 : Inv RC w) (a1 : Int32) (a2 : Int32) (b1 : 1 ≤ a1.toInt ∧ a1.toInt ≤ 4) : CtV l G yX5_blame cX5_blame 3 ({ frames := 0, cells := 0, slots := 0, locals := 0 } : Room) [.ref (gz G + 1), .int a1, .int a2] w (fun w' => Ch [] [(1, 1), (1, 2)] w w' ∧ Inv RC w' ∧ ¬ (wI w' 1 1).toInt = 0) := by
  refine enterV (by decide) (Nat.le_of_ble_eq_true rfl) ?_
  intro x el eG C hnm hret
  subst el; subst eG
  show V x 0 0 w 0 [(0, .ref (gz (xG x) + 1)), (1, .int a1), (2, .int a2)] []
  have h0 : Ch [] [(1, 1), (1, 2)] w w := Ch.rf
  have q0 : (0 : Int32).toInt = 0 := by decide
  refine r_aload_n 0 C dX5_blame_0 rfl ?_
  refine gfX5_30 (v := (wI w 1 1)) C (kS sC h0 kc_1) rfl dX5_blame_1 ?_
  refine r_if_ne 17 C dX5_blame_4 (by decide) (fun c1 => ?_) (fun c1 => ?_)
  · have c1' := i_ne c1
    exact hret _ _ _ dX5_blame_17 ⟨h0, o0, (by omega)⟩
  · have c1' := i_eq c1
    refine r_aload_n 0 C dX5_blame_7 rfl ?_
    refine r_iload_n 1 C dX5_blame_8 rfl ?_
    refine pfX5_30 C (kS sC h0 kc_1) dX5_blame_9 (fun w2 e3 => ?_)
    have h4 := Ch.putF h0 e3 (by decide)
    have o5 := Inv.putk o0 e3 (by decide)
    refine r_aload_n 0 C dX5_blame_12 rfl ?_
    refine r_iload_n 2 C dX5_blame_13 rfl ?_
    refine pfX5_9 C (kS sC h4 kc_1) dX5_blame_14 (fun w6 e7 => ?_)
    have h8 := Ch.putF h4 e7 (by decide)
    have o9 := Inv.putk o5 e7 (by decide)
    exact hret _ _ _ dX5_blame_17 ⟨h8, o9, (by rw [(g_nk e7 (by decide) (g_eq e3))]; omega)⟩
set_option maxHeartbeats 4000000 in
set_option maxRecDepth 100000 in
theorem ctX5_skipBlanks_1 (l : Launch) (G : Gt) (w : Wv) (sC : Str KC XC w) (o0 : Inv RC w)  : CtV l G yX5_skipBlanks cX5_skipBlanks 1 ({ frames := 0, cells := 0, slots := 0, locals := 0 } : Room) [.ref (gz G + 1)] w (fun w' => Ch [] [(1, 4)] w w' ∧ Inv RC w') := by
  refine enterV (by decide) (Nat.le_of_ble_eq_true rfl) ?_
  intro x el eG C hnm hret
  subst el; subst eG
  show V x 0 0 w 0 [(0, .ref (gz (xG x) + 1))] []
  have h0 : Ch [] [(1, 4)] w w := Ch.rf
  have q1 : (1 : Int32).toInt = 1 := by decide
  have q32 : (32 : Int32).toInt = 32 := by decide
  have LP1 : ∀ (f2 : Nat) (w3 : Wv), Ch [] [(1, 4)] w w3 → Inv RC w3 → 500 - (wI w3 1 4).toInt < f2 → V x 0 0 w3 0 [(0, .ref (gz (xG x) + 1))] [] := by
    intro f2
    induction f2 with
    | zero => intro  w3 h4 o5  z6; have b0 := Inv.get o5 rt_1_4 (j := 4) (by decide) (by decide); exfalso; omega
    | succ f2 ih7 =>
      intro  w3 h4 o5  z6
      refine r_aload_n 0 C dX5_skipBlanks_0 rfl ?_
      refine gfX5_27 (v := (wI w3 1 4)) C (kS sC h4 kc_1) rfl dX5_skipBlanks_1 ?_
      have b8 := Inv.get o5 rt_1_4 (j := 4) (by decide) (by decide)
      refine r_aload_n 0 C dX5_skipBlanks_4 rfl ?_
      refine gfX5_19 (v := (wI w 1 0)) C (kS sC h4 kc_1) (h4.I (by decide) (by decide) rfl) dX5_skipBlanks_5 ?_
      have b9 := Inv.get o0 rt_1_0 (j := 0) (by decide) (by decide)
      refine r_icmp_ge 38 C dX5_skipBlanks_8 (by decide) (fun c10 => ?_) (fun c10 => ?_)
      · have c10' := i_le c10
        exact hret _ _ _ dX5_skipBlanks_38 ⟨h4, o5⟩
      · have c10' := i_nle c10
        refine r_aload_n 0 C dX5_skipBlanks_11 rfl ?_
        refine gfX5_15 2 C (kS sC h4 kc_1) (xS sC h4 xc_1_3) dX5_skipBlanks_12 ?_
        refine r_aload_n 0 C dX5_skipBlanks_15 rfl ?_
        refine gfX5_27 (v := (wI w3 1 4)) C (kS sC h4 kc_1) rfl dX5_skipBlanks_16 ?_
        refine r_iald C (kS sC h4 kc_2) (vin (by omega) (by omega)) dX5_skipBlanks_19 ?_
        generalize (wI w3 2 ((wI w3 1 4)).toNatClampNeg) = v11
        refine r_bipush (v := 32) C dX5_skipBlanks_20 (by decide) ?_
        refine r_icmp_ne 38 C dX5_skipBlanks_22 (by decide) (fun c12 => ?_) (fun c12 => ?_)
        · have c12' := i_ne c12
          exact hret _ _ _ dX5_skipBlanks_38 ⟨h4, o5⟩
        · have c12' := i_eq c12
          refine r_aload_n 0 C dX5_skipBlanks_25 rfl ?_
          refine r_dup C dX5_skipBlanks_26 rfl ?_
          refine gfX5_27 (v := (wI w3 1 4)) C (kS sC h4 kc_1) rfl dX5_skipBlanks_27 ?_
          refine r_iconst (v := 1) C dX5_skipBlanks_30 (by decide) ?_
          refine r_iadd C dX5_skipBlanks_31 (fun v13 e14 => ?_)
          have v13' := iadd_ok e14 (by omega) (by omega)
          refine pfX5_27 C (kS sC h4 kc_1) dX5_skipBlanks_32 (fun w15 e16 => ?_)
          have h17 := Ch.putF h4 e16 (by decide)
          have o18 := Inv.put o5 e16 0 500 (by omega) (by decide)
          refine r_goto 0 C dX5_skipBlanks_35 (by decide) ?_
          refine r_lv [0] rfl ?_
          exact ih7  w15 h17 o18 (by rw [(g_eq e16)]; omega)
  refine r_lv [0] rfl ?_
  have b19 := Inv.get o0 rt_1_4 (j := 4) (by decide) (by decide)
  exact LP1 4294967296  w h0 o0 (by omega)
set_option maxHeartbeats 4000000 in
set_option maxRecDepth 100000 in
theorem ctX5_isWord_1_0 (l : Launch) (G : Gt) (w : Wv) (sC : Str KC XC w) (o0 : Inv RC w) (a1 : Int32) (b1 : 0 ≤ a1.toInt ∧ a1.toInt ≤ 500) : CtI l G yX5_isWord cX5_isWord 5 .boolean ({ frames := 6, cells := 0, slots := 0, locals := 140 } : Room) [.ref (gz G + 1), .int a1, .ref (gK G 0)] w (fun r w' => Ch [] [] w w' ∧ Inv RC w') := by
  refine enterI (by decide) (Nat.le_of_ble_eq_true rfl) ?_
  intro x el eG C hret
  subst el; subst eG
  show V x 0 0 w 0 [(0, .ref (gz (xG x) + 1)), (1, .int a1), (2, .ref (gK (xG x) 0))] []
  have h0 : Ch [] [] w w := Ch.rf
  have q0 : (0 : Int32).toInt = 0 := by decide
  have q1 : (1 : Int32).toInt = 1 := by decide
  have LP11 : ∀ (f12 : Nat) (u9 : Int32) (u10 : Int32) (w13 : Wv), Ch [] [] w w13 → Inv RC w13 → (0 ≤ u10.toInt ∧ u10.toInt ≤ 2147483647) → 2147483647 - u10.toInt < f12 → V x 0 0 w13 22 [(0, .ref (gz (xG x) + 1)), (1, .int a1), (2, .ref (gK (xG x) 0)), (3, .int u9), (4, .int u10)] [] := by
    intro f12
    induction f12 with
    | zero => intro u9 u10 w13 h14 o15 z16 z17; exfalso; omega
    | succ f12 ih18 =>
      intro u9 u10 w13 h14 o15 z16 z17
      refine r_iload_n 3 C dX5_isWord_22 rfl ?_
      refine r_if_eq 76 C dX5_isWord_23 (by decide) (fun c19 => ?_) (fun c19 => ?_)
      · have c19' := i_eq c19
        refine r_iload_n 3 C dX5_isWord_76 rfl ?_
        exact hret _ _ _ _ dX5_isWord_77 (nar_z (z_of (by omega))) ⟨h14, o15⟩
      · have c19' := i_ne c19
        refine r_iload 4 C dX5_isWord_26 rfl ?_
        refine r_aload_n 2 C dX5_isWord_28 rfl ?_
        refine callKI (i := 0) (by decide) C cwX5_160_V (ct_len _ _ w13 0 (by decide)) (by decide) rfl rfl (Nat.le_of_ble_eq_true rfl) (by decide) dX5_isWord_29 (fun r20 w21 y22 => ?_)
        obtain ⟨rfl, g23⟩ := y22
        show V x 0 0 w13 32 [(0, .ref (gz (xG x) + 1)), (1, .int a1), (2, .ref (gK (xG x) 0)), (3, .int u9), (4, .int u10)] [.int r20, .int u10]
        refine r_icmp_ge 76 C dX5_isWord_32 (by decide) (fun c24 => ?_) (fun c24 => ?_)
        · have c24' := i_le c24
          refine r_iload_n 3 C dX5_isWord_76 rfl ?_
          exact hret _ _ _ _ dX5_isWord_77 (nar_z (z_of (by omega))) ⟨h14, o15⟩
        · have c24' := i_nle c24
          refine r_iload_n 1 C dX5_isWord_35 rfl ?_
          refine r_iload 4 C dX5_isWord_36 rfl ?_
          refine r_iadd C dX5_isWord_38 (fun v25 e26 => ?_)
          have v25' := iadd_ok e26 (by omega) (by omega)
          refine r_aload_n 0 C dX5_isWord_39 rfl ?_
          refine gfX5_19 (v := (wI w 1 0)) C (kS sC h14 kc_1) (h14.I (by decide) (by decide) rfl) dX5_isWord_40 ?_
          have b27 := Inv.get o0 rt_1_0 (j := 0) (by decide) (by decide)
          refine r_icmp_ge 76 C dX5_isWord_43 (by decide) (fun c28 => ?_) (fun c28 => ?_)
          · have c28' := i_le c28
            refine r_iload_n 3 C dX5_isWord_76 rfl ?_
            exact hret _ _ _ _ dX5_isWord_77 (nar_z (z_of (by omega))) ⟨h14, o15⟩
          · have c28' := i_nle c28
            refine r_aload_n 0 C dX5_isWord_46 rfl ?_
            refine gfX5_15 2 C (kS sC h14 kc_1) (xS sC h14 xc_1_3) dX5_isWord_47 ?_
            refine r_iload_n 1 C dX5_isWord_50 rfl ?_
            refine r_iload 4 C dX5_isWord_51 rfl ?_
            refine r_iadd C dX5_isWord_53 (fun v29 e30 => ?_)
            have v29' := iadd_ok e30 (by omega) (by omega)
            refine r_iald C (kS sC h14 kc_2) (vin (by omega) (by omega)) dX5_isWord_54 ?_
            generalize (wI w13 2 (v29).toNatClampNeg) = v31
            refine r_aload_n 2 C dX5_isWord_55 rfl ?_
            refine r_iload 4 C dX5_isWord_56 rfl ?_
            refine callKI (i := 0) (by decide) C cwX5_164_V (ct_chr _ _ w13 0 u10 (by decide) (vin (n := 4) (by omega) (by omega))) (by decide) rfl rfl (Nat.le_of_ble_eq_true rfl) (by decide) dX5_isWord_58 (fun r32 w33 y34 => ?_)
            obtain ⟨rfl, g35⟩ := y34
            show V x 0 0 w13 61 [(0, .ref (gz (xG x) + 1)), (1, .int a1), (2, .ref (gK (xG x) 0)), (3, .int u9), (4, .int u10)] [.int r32, .int v31]
            refine r_icmp_ne 68 C dX5_isWord_61 (by decide) (fun c36 => ?_) (fun c36 => ?_)
            · have c36' := i_ne c36
              refine r_iconst (v := 0) C dX5_isWord_68 (by decide) ?_
              refine r_istore_n [(3, .int 0), (0, .ref (gz (xG x) + 1)), (1, .int a1), (2, .ref (gK (xG x) 0)), (4, .int u10)] C dX5_isWord_69 (by decide) rfl ?_
              obtain ⟨i37, e38⟩ : ∃ z : Int32, u10 + Int32.ofInt 1 = z := ⟨_, rfl⟩
              have i37' := iinc_ok e38 (by decide) (by omega) (by omega)
              refine r_iinc [(4, .int i37), (3, .int 0), (0, .ref (gz (xG x) + 1)), (1, .int a1), (2, .ref (gK (xG x) 0))] 4 C dX5_isWord_70 rfl e38 (by decide) rfl ?_
              refine r_goto 22 C dX5_isWord_73 (by decide) ?_
              refine r_lv [2, 3, 4, 1, 0] rfl ?_
              exact ih18 0 i37 w13 h14 o15 (by omega) (by omega)
            · have c36' := i_eq c36
              refine r_iconst (v := 1) C dX5_isWord_64 (by decide) ?_
              refine r_goto 69 C dX5_isWord_65 (by decide) ?_
              refine r_istore_n [(3, .int 1), (0, .ref (gz (xG x) + 1)), (1, .int a1), (2, .ref (gK (xG x) 0)), (4, .int u10)] C dX5_isWord_69 (by decide) rfl ?_
              obtain ⟨i39, e40⟩ : ∃ z : Int32, u10 + Int32.ofInt 1 = z := ⟨_, rfl⟩
              have i39' := iinc_ok e40 (by decide) (by omega) (by omega)
              refine r_iinc [(4, .int i39), (3, .int 1), (0, .ref (gz (xG x) + 1)), (1, .int a1), (2, .ref (gK (xG x) 0))] 4 C dX5_isWord_70 rfl e40 (by decide) rfl ?_
              refine r_goto 22 C dX5_isWord_73 (by decide) ?_
              refine r_lv [2, 3, 4, 1, 0] rfl ?_
              exact ih18 1 i39 w13 h14 o15 (by omega) (by omega)
  refine r_aload_n 0 C dX5_isWord_0 rfl ?_
  refine gfX5_27 (v := (wI w 1 4)) C (kS sC h0 kc_1) rfl dX5_isWord_1 ?_
  have b1 := Inv.get o0 rt_1_4 (j := 4) (by decide) (by decide)
  refine r_iload_n 1 C dX5_isWord_4 rfl ?_
  refine r_isub C dX5_isWord_5 (fun v2 e3 => ?_)
  have v2' := isub_ok e3 (by omega) (by omega)
  refine r_aload_n 2 C dX5_isWord_6 rfl ?_
  refine callKI (i := 0) (by decide) C cwX5_160_V (ct_len _ _ w 0 (by decide)) (by decide) rfl rfl (Nat.le_of_ble_eq_true rfl) (by decide) dX5_isWord_7 (fun r4 w5 y6 => ?_)
  obtain ⟨rfl, g7⟩ := y6
  show V x 0 0 w 10 [(0, .ref (gz (xG x) + 1)), (1, .int a1), (2, .ref (gK (xG x) 0))] [.int r4, .int v2]
  refine r_icmp_ne 17 C dX5_isWord_10 (by decide) (fun c8 => ?_) (fun c8 => ?_)
  · have c8' := i_ne c8
    refine r_iconst (v := 0) C dX5_isWord_17 (by decide) ?_
    refine r_istore_n [(3, .int 0), (0, .ref (gz (xG x) + 1)), (1, .int a1), (2, .ref (gK (xG x) 0))] C dX5_isWord_18 (by decide) rfl ?_
    refine r_iconst (v := 0) C dX5_isWord_19 (by decide) ?_
    refine r_istore [(4, .int 0), (3, .int 0), (0, .ref (gz (xG x) + 1)), (1, .int a1), (2, .ref (gK (xG x) 0))] C dX5_isWord_20 (by decide) rfl ?_
    refine r_lv [2, 3, 4, 1, 0] rfl ?_
    exact LP11 4294967296 0 0 w h0 o0 (by omega) (by omega)
  · have c8' := i_eq c8
    refine r_iconst (v := 1) C dX5_isWord_13 (by decide) ?_
    refine r_goto 18 C dX5_isWord_14 (by decide) ?_
    refine r_istore_n [(3, .int 1), (0, .ref (gz (xG x) + 1)), (1, .int a1), (2, .ref (gK (xG x) 0))] C dX5_isWord_18 (by decide) rfl ?_
    refine r_iconst (v := 0) C dX5_isWord_19 (by decide) ?_
    refine r_istore [(4, .int 0), (3, .int 1), (0, .ref (gz (xG x) + 1)), (1, .int a1), (2, .ref (gK (xG x) 0))] C dX5_isWord_20 (by decide) rfl ?_
    refine r_lv [2, 3, 4, 1, 0] rfl ?_
    exact LP11 4294967296 1 0 w h0 o0 (by omega) (by omega)
set_option maxHeartbeats 4000000 in
set_option maxRecDepth 100000 in
theorem ctX5_isWord_1_1 (l : Launch) (G : Gt) (w : Wv) (sC : Str KC XC w) (o0 : Inv RC w) (a1 : Int32) (b1 : 0 ≤ a1.toInt ∧ a1.toInt ≤ 500) : CtI l G yX5_isWord cX5_isWord 5 .boolean ({ frames := 6, cells := 0, slots := 0, locals := 140 } : Room) [.ref (gz G + 1), .int a1, .ref (gK G 1)] w (fun r w' => Ch [] [] w w' ∧ Inv RC w') := by
  refine enterI (by decide) (Nat.le_of_ble_eq_true rfl) ?_
  intro x el eG C hret
  subst el; subst eG
  show V x 0 0 w 0 [(0, .ref (gz (xG x) + 1)), (1, .int a1), (2, .ref (gK (xG x) 1))] []
  have h0 : Ch [] [] w w := Ch.rf
  have q0 : (0 : Int32).toInt = 0 := by decide
  have q1 : (1 : Int32).toInt = 1 := by decide
  have LP11 : ∀ (f12 : Nat) (u9 : Int32) (u10 : Int32) (w13 : Wv), Ch [] [] w w13 → Inv RC w13 → (0 ≤ u10.toInt ∧ u10.toInt ≤ 2147483647) → 2147483647 - u10.toInt < f12 → V x 0 0 w13 22 [(0, .ref (gz (xG x) + 1)), (1, .int a1), (2, .ref (gK (xG x) 1)), (3, .int u9), (4, .int u10)] [] := by
    intro f12
    induction f12 with
    | zero => intro u9 u10 w13 h14 o15 z16 z17; exfalso; omega
    | succ f12 ih18 =>
      intro u9 u10 w13 h14 o15 z16 z17
      refine r_iload_n 3 C dX5_isWord_22 rfl ?_
      refine r_if_eq 76 C dX5_isWord_23 (by decide) (fun c19 => ?_) (fun c19 => ?_)
      · have c19' := i_eq c19
        refine r_iload_n 3 C dX5_isWord_76 rfl ?_
        exact hret _ _ _ _ dX5_isWord_77 (nar_z (z_of (by omega))) ⟨h14, o15⟩
      · have c19' := i_ne c19
        refine r_iload 4 C dX5_isWord_26 rfl ?_
        refine r_aload_n 2 C dX5_isWord_28 rfl ?_
        refine callKI (i := 1) (by decide) C cwX5_160_V (ct_len _ _ w13 1 (by decide)) (by decide) rfl rfl (Nat.le_of_ble_eq_true rfl) (by decide) dX5_isWord_29 (fun r20 w21 y22 => ?_)
        obtain ⟨rfl, g23⟩ := y22
        show V x 0 0 w13 32 [(0, .ref (gz (xG x) + 1)), (1, .int a1), (2, .ref (gK (xG x) 1)), (3, .int u9), (4, .int u10)] [.int r20, .int u10]
        refine r_icmp_ge 76 C dX5_isWord_32 (by decide) (fun c24 => ?_) (fun c24 => ?_)
        · have c24' := i_le c24
          refine r_iload_n 3 C dX5_isWord_76 rfl ?_
          exact hret _ _ _ _ dX5_isWord_77 (nar_z (z_of (by omega))) ⟨h14, o15⟩
        · have c24' := i_nle c24
          refine r_iload_n 1 C dX5_isWord_35 rfl ?_
          refine r_iload 4 C dX5_isWord_36 rfl ?_
          refine r_iadd C dX5_isWord_38 (fun v25 e26 => ?_)
          have v25' := iadd_ok e26 (by omega) (by omega)
          refine r_aload_n 0 C dX5_isWord_39 rfl ?_
          refine gfX5_19 (v := (wI w 1 0)) C (kS sC h14 kc_1) (h14.I (by decide) (by decide) rfl) dX5_isWord_40 ?_
          have b27 := Inv.get o0 rt_1_0 (j := 0) (by decide) (by decide)
          refine r_icmp_ge 76 C dX5_isWord_43 (by decide) (fun c28 => ?_) (fun c28 => ?_)
          · have c28' := i_le c28
            refine r_iload_n 3 C dX5_isWord_76 rfl ?_
            exact hret _ _ _ _ dX5_isWord_77 (nar_z (z_of (by omega))) ⟨h14, o15⟩
          · have c28' := i_nle c28
            refine r_aload_n 0 C dX5_isWord_46 rfl ?_
            refine gfX5_15 2 C (kS sC h14 kc_1) (xS sC h14 xc_1_3) dX5_isWord_47 ?_
            refine r_iload_n 1 C dX5_isWord_50 rfl ?_
            refine r_iload 4 C dX5_isWord_51 rfl ?_
            refine r_iadd C dX5_isWord_53 (fun v29 e30 => ?_)
            have v29' := iadd_ok e30 (by omega) (by omega)
            refine r_iald C (kS sC h14 kc_2) (vin (by omega) (by omega)) dX5_isWord_54 ?_
            generalize (wI w13 2 (v29).toNatClampNeg) = v31
            refine r_aload_n 2 C dX5_isWord_55 rfl ?_
            refine r_iload 4 C dX5_isWord_56 rfl ?_
            refine callKI (i := 1) (by decide) C cwX5_164_V (ct_chr _ _ w13 1 u10 (by decide) (vin (n := 4) (by omega) (by omega))) (by decide) rfl rfl (Nat.le_of_ble_eq_true rfl) (by decide) dX5_isWord_58 (fun r32 w33 y34 => ?_)
            obtain ⟨rfl, g35⟩ := y34
            show V x 0 0 w13 61 [(0, .ref (gz (xG x) + 1)), (1, .int a1), (2, .ref (gK (xG x) 1)), (3, .int u9), (4, .int u10)] [.int r32, .int v31]
            refine r_icmp_ne 68 C dX5_isWord_61 (by decide) (fun c36 => ?_) (fun c36 => ?_)
            · have c36' := i_ne c36
              refine r_iconst (v := 0) C dX5_isWord_68 (by decide) ?_
              refine r_istore_n [(3, .int 0), (0, .ref (gz (xG x) + 1)), (1, .int a1), (2, .ref (gK (xG x) 1)), (4, .int u10)] C dX5_isWord_69 (by decide) rfl ?_
              obtain ⟨i37, e38⟩ : ∃ z : Int32, u10 + Int32.ofInt 1 = z := ⟨_, rfl⟩
              have i37' := iinc_ok e38 (by decide) (by omega) (by omega)
              refine r_iinc [(4, .int i37), (3, .int 0), (0, .ref (gz (xG x) + 1)), (1, .int a1), (2, .ref (gK (xG x) 1))] 4 C dX5_isWord_70 rfl e38 (by decide) rfl ?_
              refine r_goto 22 C dX5_isWord_73 (by decide) ?_
              refine r_lv [2, 3, 4, 1, 0] rfl ?_
              exact ih18 0 i37 w13 h14 o15 (by omega) (by omega)
            · have c36' := i_eq c36
              refine r_iconst (v := 1) C dX5_isWord_64 (by decide) ?_
              refine r_goto 69 C dX5_isWord_65 (by decide) ?_
              refine r_istore_n [(3, .int 1), (0, .ref (gz (xG x) + 1)), (1, .int a1), (2, .ref (gK (xG x) 1)), (4, .int u10)] C dX5_isWord_69 (by decide) rfl ?_
              obtain ⟨i39, e40⟩ : ∃ z : Int32, u10 + Int32.ofInt 1 = z := ⟨_, rfl⟩
              have i39' := iinc_ok e40 (by decide) (by omega) (by omega)
              refine r_iinc [(4, .int i39), (3, .int 1), (0, .ref (gz (xG x) + 1)), (1, .int a1), (2, .ref (gK (xG x) 1))] 4 C dX5_isWord_70 rfl e40 (by decide) rfl ?_
              refine r_goto 22 C dX5_isWord_73 (by decide) ?_
              refine r_lv [2, 3, 4, 1, 0] rfl ?_
              exact ih18 1 i39 w13 h14 o15 (by omega) (by omega)
  refine r_aload_n 0 C dX5_isWord_0 rfl ?_
  refine gfX5_27 (v := (wI w 1 4)) C (kS sC h0 kc_1) rfl dX5_isWord_1 ?_
  have b1 := Inv.get o0 rt_1_4 (j := 4) (by decide) (by decide)
  refine r_iload_n 1 C dX5_isWord_4 rfl ?_
  refine r_isub C dX5_isWord_5 (fun v2 e3 => ?_)
  have v2' := isub_ok e3 (by omega) (by omega)
  refine r_aload_n 2 C dX5_isWord_6 rfl ?_
  refine callKI (i := 1) (by decide) C cwX5_160_V (ct_len _ _ w 1 (by decide)) (by decide) rfl rfl (Nat.le_of_ble_eq_true rfl) (by decide) dX5_isWord_7 (fun r4 w5 y6 => ?_)
  obtain ⟨rfl, g7⟩ := y6
  show V x 0 0 w 10 [(0, .ref (gz (xG x) + 1)), (1, .int a1), (2, .ref (gK (xG x) 1))] [.int r4, .int v2]
  refine r_icmp_ne 17 C dX5_isWord_10 (by decide) (fun c8 => ?_) (fun c8 => ?_)
  · have c8' := i_ne c8
    refine r_iconst (v := 0) C dX5_isWord_17 (by decide) ?_
    refine r_istore_n [(3, .int 0), (0, .ref (gz (xG x) + 1)), (1, .int a1), (2, .ref (gK (xG x) 1))] C dX5_isWord_18 (by decide) rfl ?_
    refine r_iconst (v := 0) C dX5_isWord_19 (by decide) ?_
    refine r_istore [(4, .int 0), (3, .int 0), (0, .ref (gz (xG x) + 1)), (1, .int a1), (2, .ref (gK (xG x) 1))] C dX5_isWord_20 (by decide) rfl ?_
    refine r_lv [2, 3, 4, 1, 0] rfl ?_
    exact LP11 4294967296 0 0 w h0 o0 (by omega) (by omega)
  · have c8' := i_eq c8
    refine r_iconst (v := 1) C dX5_isWord_13 (by decide) ?_
    refine r_goto 18 C dX5_isWord_14 (by decide) ?_
    refine r_istore_n [(3, .int 1), (0, .ref (gz (xG x) + 1)), (1, .int a1), (2, .ref (gK (xG x) 1))] C dX5_isWord_18 (by decide) rfl ?_
    refine r_iconst (v := 0) C dX5_isWord_19 (by decide) ?_
    refine r_istore [(4, .int 0), (3, .int 1), (0, .ref (gz (xG x) + 1)), (1, .int a1), (2, .ref (gK (xG x) 1))] C dX5_isWord_20 (by decide) rfl ?_
    refine r_lv [2, 3, 4, 1, 0] rfl ?_
    exact LP11 4294967296 1 0 w h0 o0 (by omega) (by omega)
set_option maxHeartbeats 4000000 in
set_option maxRecDepth 100000 in
theorem ctX5_isWord_1_2 (l : Launch) (G : Gt) (w : Wv) (sC : Str KC XC w) (o0 : Inv RC w) (a1 : Int32) (b1 : 0 ≤ a1.toInt ∧ a1.toInt ≤ 500) : CtI l G yX5_isWord cX5_isWord 5 .boolean ({ frames := 6, cells := 0, slots := 0, locals := 140 } : Room) [.ref (gz G + 1), .int a1, .ref (gK G 2)] w (fun r w' => Ch [] [] w w' ∧ Inv RC w') := by
  refine enterI (by decide) (Nat.le_of_ble_eq_true rfl) ?_
  intro x el eG C hret
  subst el; subst eG
  show V x 0 0 w 0 [(0, .ref (gz (xG x) + 1)), (1, .int a1), (2, .ref (gK (xG x) 2))] []
  have h0 : Ch [] [] w w := Ch.rf
  have q0 : (0 : Int32).toInt = 0 := by decide
  have q1 : (1 : Int32).toInt = 1 := by decide
  have LP11 : ∀ (f12 : Nat) (u9 : Int32) (u10 : Int32) (w13 : Wv), Ch [] [] w w13 → Inv RC w13 → (0 ≤ u10.toInt ∧ u10.toInt ≤ 2147483647) → 2147483647 - u10.toInt < f12 → V x 0 0 w13 22 [(0, .ref (gz (xG x) + 1)), (1, .int a1), (2, .ref (gK (xG x) 2)), (3, .int u9), (4, .int u10)] [] := by
    intro f12
    induction f12 with
    | zero => intro u9 u10 w13 h14 o15 z16 z17; exfalso; omega
    | succ f12 ih18 =>
      intro u9 u10 w13 h14 o15 z16 z17
      refine r_iload_n 3 C dX5_isWord_22 rfl ?_
      refine r_if_eq 76 C dX5_isWord_23 (by decide) (fun c19 => ?_) (fun c19 => ?_)
      · have c19' := i_eq c19
        refine r_iload_n 3 C dX5_isWord_76 rfl ?_
        exact hret _ _ _ _ dX5_isWord_77 (nar_z (z_of (by omega))) ⟨h14, o15⟩
      · have c19' := i_ne c19
        refine r_iload 4 C dX5_isWord_26 rfl ?_
        refine r_aload_n 2 C dX5_isWord_28 rfl ?_
        refine callKI (i := 2) (by decide) C cwX5_160_V (ct_len _ _ w13 2 (by decide)) (by decide) rfl rfl (Nat.le_of_ble_eq_true rfl) (by decide) dX5_isWord_29 (fun r20 w21 y22 => ?_)
        obtain ⟨rfl, g23⟩ := y22
        show V x 0 0 w13 32 [(0, .ref (gz (xG x) + 1)), (1, .int a1), (2, .ref (gK (xG x) 2)), (3, .int u9), (4, .int u10)] [.int r20, .int u10]
        refine r_icmp_ge 76 C dX5_isWord_32 (by decide) (fun c24 => ?_) (fun c24 => ?_)
        · have c24' := i_le c24
          refine r_iload_n 3 C dX5_isWord_76 rfl ?_
          exact hret _ _ _ _ dX5_isWord_77 (nar_z (z_of (by omega))) ⟨h14, o15⟩
        · have c24' := i_nle c24
          refine r_iload_n 1 C dX5_isWord_35 rfl ?_
          refine r_iload 4 C dX5_isWord_36 rfl ?_
          refine r_iadd C dX5_isWord_38 (fun v25 e26 => ?_)
          have v25' := iadd_ok e26 (by omega) (by omega)
          refine r_aload_n 0 C dX5_isWord_39 rfl ?_
          refine gfX5_19 (v := (wI w 1 0)) C (kS sC h14 kc_1) (h14.I (by decide) (by decide) rfl) dX5_isWord_40 ?_
          have b27 := Inv.get o0 rt_1_0 (j := 0) (by decide) (by decide)
          refine r_icmp_ge 76 C dX5_isWord_43 (by decide) (fun c28 => ?_) (fun c28 => ?_)
          · have c28' := i_le c28
            refine r_iload_n 3 C dX5_isWord_76 rfl ?_
            exact hret _ _ _ _ dX5_isWord_77 (nar_z (z_of (by omega))) ⟨h14, o15⟩
          · have c28' := i_nle c28
            refine r_aload_n 0 C dX5_isWord_46 rfl ?_
            refine gfX5_15 2 C (kS sC h14 kc_1) (xS sC h14 xc_1_3) dX5_isWord_47 ?_
            refine r_iload_n 1 C dX5_isWord_50 rfl ?_
            refine r_iload 4 C dX5_isWord_51 rfl ?_
            refine r_iadd C dX5_isWord_53 (fun v29 e30 => ?_)
            have v29' := iadd_ok e30 (by omega) (by omega)
            refine r_iald C (kS sC h14 kc_2) (vin (by omega) (by omega)) dX5_isWord_54 ?_
            generalize (wI w13 2 (v29).toNatClampNeg) = v31
            refine r_aload_n 2 C dX5_isWord_55 rfl ?_
            refine r_iload 4 C dX5_isWord_56 rfl ?_
            refine callKI (i := 2) (by decide) C cwX5_164_V (ct_chr _ _ w13 2 u10 (by decide) (vin (n := 5) (by omega) (by omega))) (by decide) rfl rfl (Nat.le_of_ble_eq_true rfl) (by decide) dX5_isWord_58 (fun r32 w33 y34 => ?_)
            obtain ⟨rfl, g35⟩ := y34
            show V x 0 0 w13 61 [(0, .ref (gz (xG x) + 1)), (1, .int a1), (2, .ref (gK (xG x) 2)), (3, .int u9), (4, .int u10)] [.int r32, .int v31]
            refine r_icmp_ne 68 C dX5_isWord_61 (by decide) (fun c36 => ?_) (fun c36 => ?_)
            · have c36' := i_ne c36
              refine r_iconst (v := 0) C dX5_isWord_68 (by decide) ?_
              refine r_istore_n [(3, .int 0), (0, .ref (gz (xG x) + 1)), (1, .int a1), (2, .ref (gK (xG x) 2)), (4, .int u10)] C dX5_isWord_69 (by decide) rfl ?_
              obtain ⟨i37, e38⟩ : ∃ z : Int32, u10 + Int32.ofInt 1 = z := ⟨_, rfl⟩
              have i37' := iinc_ok e38 (by decide) (by omega) (by omega)
              refine r_iinc [(4, .int i37), (3, .int 0), (0, .ref (gz (xG x) + 1)), (1, .int a1), (2, .ref (gK (xG x) 2))] 4 C dX5_isWord_70 rfl e38 (by decide) rfl ?_
              refine r_goto 22 C dX5_isWord_73 (by decide) ?_
              refine r_lv [2, 3, 4, 1, 0] rfl ?_
              exact ih18 0 i37 w13 h14 o15 (by omega) (by omega)
            · have c36' := i_eq c36
              refine r_iconst (v := 1) C dX5_isWord_64 (by decide) ?_
              refine r_goto 69 C dX5_isWord_65 (by decide) ?_
              refine r_istore_n [(3, .int 1), (0, .ref (gz (xG x) + 1)), (1, .int a1), (2, .ref (gK (xG x) 2)), (4, .int u10)] C dX5_isWord_69 (by decide) rfl ?_
              obtain ⟨i39, e40⟩ : ∃ z : Int32, u10 + Int32.ofInt 1 = z := ⟨_, rfl⟩
              have i39' := iinc_ok e40 (by decide) (by omega) (by omega)
              refine r_iinc [(4, .int i39), (3, .int 1), (0, .ref (gz (xG x) + 1)), (1, .int a1), (2, .ref (gK (xG x) 2))] 4 C dX5_isWord_70 rfl e40 (by decide) rfl ?_
              refine r_goto 22 C dX5_isWord_73 (by decide) ?_
              refine r_lv [2, 3, 4, 1, 0] rfl ?_
              exact ih18 1 i39 w13 h14 o15 (by omega) (by omega)
  refine r_aload_n 0 C dX5_isWord_0 rfl ?_
  refine gfX5_27 (v := (wI w 1 4)) C (kS sC h0 kc_1) rfl dX5_isWord_1 ?_
  have b1 := Inv.get o0 rt_1_4 (j := 4) (by decide) (by decide)
  refine r_iload_n 1 C dX5_isWord_4 rfl ?_
  refine r_isub C dX5_isWord_5 (fun v2 e3 => ?_)
  have v2' := isub_ok e3 (by omega) (by omega)
  refine r_aload_n 2 C dX5_isWord_6 rfl ?_
  refine callKI (i := 2) (by decide) C cwX5_160_V (ct_len _ _ w 2 (by decide)) (by decide) rfl rfl (Nat.le_of_ble_eq_true rfl) (by decide) dX5_isWord_7 (fun r4 w5 y6 => ?_)
  obtain ⟨rfl, g7⟩ := y6
  show V x 0 0 w 10 [(0, .ref (gz (xG x) + 1)), (1, .int a1), (2, .ref (gK (xG x) 2))] [.int r4, .int v2]
  refine r_icmp_ne 17 C dX5_isWord_10 (by decide) (fun c8 => ?_) (fun c8 => ?_)
  · have c8' := i_ne c8
    refine r_iconst (v := 0) C dX5_isWord_17 (by decide) ?_
    refine r_istore_n [(3, .int 0), (0, .ref (gz (xG x) + 1)), (1, .int a1), (2, .ref (gK (xG x) 2))] C dX5_isWord_18 (by decide) rfl ?_
    refine r_iconst (v := 0) C dX5_isWord_19 (by decide) ?_
    refine r_istore [(4, .int 0), (3, .int 0), (0, .ref (gz (xG x) + 1)), (1, .int a1), (2, .ref (gK (xG x) 2))] C dX5_isWord_20 (by decide) rfl ?_
    refine r_lv [2, 3, 4, 1, 0] rfl ?_
    exact LP11 4294967296 0 0 w h0 o0 (by omega) (by omega)
  · have c8' := i_eq c8
    refine r_iconst (v := 1) C dX5_isWord_13 (by decide) ?_
    refine r_goto 18 C dX5_isWord_14 (by decide) ?_
    refine r_istore_n [(3, .int 1), (0, .ref (gz (xG x) + 1)), (1, .int a1), (2, .ref (gK (xG x) 2))] C dX5_isWord_18 (by decide) rfl ?_
    refine r_iconst (v := 0) C dX5_isWord_19 (by decide) ?_
    refine r_istore [(4, .int 0), (3, .int 1), (0, .ref (gz (xG x) + 1)), (1, .int a1), (2, .ref (gK (xG x) 2))] C dX5_isWord_20 (by decide) rfl ?_
    refine r_lv [2, 3, 4, 1, 0] rfl ?_
    exact LP11 4294967296 1 0 w h0 o0 (by omega) (by omega)
set_option maxHeartbeats 4000000 in
set_option maxRecDepth 100000 in
theorem ctX5_isWord_1_3 (l : Launch) (G : Gt) (w : Wv) (sC : Str KC XC w) (o0 : Inv RC w) (a1 : Int32) (b1 : 0 ≤ a1.toInt ∧ a1.toInt ≤ 500) : CtI l G yX5_isWord cX5_isWord 5 .boolean ({ frames := 6, cells := 0, slots := 0, locals := 140 } : Room) [.ref (gz G + 1), .int a1, .ref (gK G 3)] w (fun r w' => Ch [] [] w w' ∧ Inv RC w') := by
  refine enterI (by decide) (Nat.le_of_ble_eq_true rfl) ?_
  intro x el eG C hret
  subst el; subst eG
  show V x 0 0 w 0 [(0, .ref (gz (xG x) + 1)), (1, .int a1), (2, .ref (gK (xG x) 3))] []
  have h0 : Ch [] [] w w := Ch.rf
  have q0 : (0 : Int32).toInt = 0 := by decide
  have q1 : (1 : Int32).toInt = 1 := by decide
  have LP11 : ∀ (f12 : Nat) (u9 : Int32) (u10 : Int32) (w13 : Wv), Ch [] [] w w13 → Inv RC w13 → (0 ≤ u10.toInt ∧ u10.toInt ≤ 2147483647) → 2147483647 - u10.toInt < f12 → V x 0 0 w13 22 [(0, .ref (gz (xG x) + 1)), (1, .int a1), (2, .ref (gK (xG x) 3)), (3, .int u9), (4, .int u10)] [] := by
    intro f12
    induction f12 with
    | zero => intro u9 u10 w13 h14 o15 z16 z17; exfalso; omega
    | succ f12 ih18 =>
      intro u9 u10 w13 h14 o15 z16 z17
      refine r_iload_n 3 C dX5_isWord_22 rfl ?_
      refine r_if_eq 76 C dX5_isWord_23 (by decide) (fun c19 => ?_) (fun c19 => ?_)
      · have c19' := i_eq c19
        refine r_iload_n 3 C dX5_isWord_76 rfl ?_
        exact hret _ _ _ _ dX5_isWord_77 (nar_z (z_of (by omega))) ⟨h14, o15⟩
      · have c19' := i_ne c19
        refine r_iload 4 C dX5_isWord_26 rfl ?_
        refine r_aload_n 2 C dX5_isWord_28 rfl ?_
        refine callKI (i := 3) (by decide) C cwX5_160_V (ct_len _ _ w13 3 (by decide)) (by decide) rfl rfl (Nat.le_of_ble_eq_true rfl) (by decide) dX5_isWord_29 (fun r20 w21 y22 => ?_)
        obtain ⟨rfl, g23⟩ := y22
        show V x 0 0 w13 32 [(0, .ref (gz (xG x) + 1)), (1, .int a1), (2, .ref (gK (xG x) 3)), (3, .int u9), (4, .int u10)] [.int r20, .int u10]
        refine r_icmp_ge 76 C dX5_isWord_32 (by decide) (fun c24 => ?_) (fun c24 => ?_)
        · have c24' := i_le c24
          refine r_iload_n 3 C dX5_isWord_76 rfl ?_
          exact hret _ _ _ _ dX5_isWord_77 (nar_z (z_of (by omega))) ⟨h14, o15⟩
        · have c24' := i_nle c24
          refine r_iload_n 1 C dX5_isWord_35 rfl ?_
          refine r_iload 4 C dX5_isWord_36 rfl ?_
          refine r_iadd C dX5_isWord_38 (fun v25 e26 => ?_)
          have v25' := iadd_ok e26 (by omega) (by omega)
          refine r_aload_n 0 C dX5_isWord_39 rfl ?_
          refine gfX5_19 (v := (wI w 1 0)) C (kS sC h14 kc_1) (h14.I (by decide) (by decide) rfl) dX5_isWord_40 ?_
          have b27 := Inv.get o0 rt_1_0 (j := 0) (by decide) (by decide)
          refine r_icmp_ge 76 C dX5_isWord_43 (by decide) (fun c28 => ?_) (fun c28 => ?_)
          · have c28' := i_le c28
            refine r_iload_n 3 C dX5_isWord_76 rfl ?_
            exact hret _ _ _ _ dX5_isWord_77 (nar_z (z_of (by omega))) ⟨h14, o15⟩
          · have c28' := i_nle c28
            refine r_aload_n 0 C dX5_isWord_46 rfl ?_
            refine gfX5_15 2 C (kS sC h14 kc_1) (xS sC h14 xc_1_3) dX5_isWord_47 ?_
            refine r_iload_n 1 C dX5_isWord_50 rfl ?_
            refine r_iload 4 C dX5_isWord_51 rfl ?_
            refine r_iadd C dX5_isWord_53 (fun v29 e30 => ?_)
            have v29' := iadd_ok e30 (by omega) (by omega)
            refine r_iald C (kS sC h14 kc_2) (vin (by omega) (by omega)) dX5_isWord_54 ?_
            generalize (wI w13 2 (v29).toNatClampNeg) = v31
            refine r_aload_n 2 C dX5_isWord_55 rfl ?_
            refine r_iload 4 C dX5_isWord_56 rfl ?_
            refine callKI (i := 3) (by decide) C cwX5_164_V (ct_chr _ _ w13 3 u10 (by decide) (vin (n := 4) (by omega) (by omega))) (by decide) rfl rfl (Nat.le_of_ble_eq_true rfl) (by decide) dX5_isWord_58 (fun r32 w33 y34 => ?_)
            obtain ⟨rfl, g35⟩ := y34
            show V x 0 0 w13 61 [(0, .ref (gz (xG x) + 1)), (1, .int a1), (2, .ref (gK (xG x) 3)), (3, .int u9), (4, .int u10)] [.int r32, .int v31]
            refine r_icmp_ne 68 C dX5_isWord_61 (by decide) (fun c36 => ?_) (fun c36 => ?_)
            · have c36' := i_ne c36
              refine r_iconst (v := 0) C dX5_isWord_68 (by decide) ?_
              refine r_istore_n [(3, .int 0), (0, .ref (gz (xG x) + 1)), (1, .int a1), (2, .ref (gK (xG x) 3)), (4, .int u10)] C dX5_isWord_69 (by decide) rfl ?_
              obtain ⟨i37, e38⟩ : ∃ z : Int32, u10 + Int32.ofInt 1 = z := ⟨_, rfl⟩
              have i37' := iinc_ok e38 (by decide) (by omega) (by omega)
              refine r_iinc [(4, .int i37), (3, .int 0), (0, .ref (gz (xG x) + 1)), (1, .int a1), (2, .ref (gK (xG x) 3))] 4 C dX5_isWord_70 rfl e38 (by decide) rfl ?_
              refine r_goto 22 C dX5_isWord_73 (by decide) ?_
              refine r_lv [2, 3, 4, 1, 0] rfl ?_
              exact ih18 0 i37 w13 h14 o15 (by omega) (by omega)
            · have c36' := i_eq c36
              refine r_iconst (v := 1) C dX5_isWord_64 (by decide) ?_
              refine r_goto 69 C dX5_isWord_65 (by decide) ?_
              refine r_istore_n [(3, .int 1), (0, .ref (gz (xG x) + 1)), (1, .int a1), (2, .ref (gK (xG x) 3)), (4, .int u10)] C dX5_isWord_69 (by decide) rfl ?_
              obtain ⟨i39, e40⟩ : ∃ z : Int32, u10 + Int32.ofInt 1 = z := ⟨_, rfl⟩
              have i39' := iinc_ok e40 (by decide) (by omega) (by omega)
              refine r_iinc [(4, .int i39), (3, .int 1), (0, .ref (gz (xG x) + 1)), (1, .int a1), (2, .ref (gK (xG x) 3))] 4 C dX5_isWord_70 rfl e40 (by decide) rfl ?_
              refine r_goto 22 C dX5_isWord_73 (by decide) ?_
              refine r_lv [2, 3, 4, 1, 0] rfl ?_
              exact ih18 1 i39 w13 h14 o15 (by omega) (by omega)
  refine r_aload_n 0 C dX5_isWord_0 rfl ?_
  refine gfX5_27 (v := (wI w 1 4)) C (kS sC h0 kc_1) rfl dX5_isWord_1 ?_
  have b1 := Inv.get o0 rt_1_4 (j := 4) (by decide) (by decide)
  refine r_iload_n 1 C dX5_isWord_4 rfl ?_
  refine r_isub C dX5_isWord_5 (fun v2 e3 => ?_)
  have v2' := isub_ok e3 (by omega) (by omega)
  refine r_aload_n 2 C dX5_isWord_6 rfl ?_
  refine callKI (i := 3) (by decide) C cwX5_160_V (ct_len _ _ w 3 (by decide)) (by decide) rfl rfl (Nat.le_of_ble_eq_true rfl) (by decide) dX5_isWord_7 (fun r4 w5 y6 => ?_)
  obtain ⟨rfl, g7⟩ := y6
  show V x 0 0 w 10 [(0, .ref (gz (xG x) + 1)), (1, .int a1), (2, .ref (gK (xG x) 3))] [.int r4, .int v2]
  refine r_icmp_ne 17 C dX5_isWord_10 (by decide) (fun c8 => ?_) (fun c8 => ?_)
  · have c8' := i_ne c8
    refine r_iconst (v := 0) C dX5_isWord_17 (by decide) ?_
    refine r_istore_n [(3, .int 0), (0, .ref (gz (xG x) + 1)), (1, .int a1), (2, .ref (gK (xG x) 3))] C dX5_isWord_18 (by decide) rfl ?_
    refine r_iconst (v := 0) C dX5_isWord_19 (by decide) ?_
    refine r_istore [(4, .int 0), (3, .int 0), (0, .ref (gz (xG x) + 1)), (1, .int a1), (2, .ref (gK (xG x) 3))] C dX5_isWord_20 (by decide) rfl ?_
    refine r_lv [2, 3, 4, 1, 0] rfl ?_
    exact LP11 4294967296 0 0 w h0 o0 (by omega) (by omega)
  · have c8' := i_eq c8
    refine r_iconst (v := 1) C dX5_isWord_13 (by decide) ?_
    refine r_goto 18 C dX5_isWord_14 (by decide) ?_
    refine r_istore_n [(3, .int 1), (0, .ref (gz (xG x) + 1)), (1, .int a1), (2, .ref (gK (xG x) 3))] C dX5_isWord_18 (by decide) rfl ?_
    refine r_iconst (v := 0) C dX5_isWord_19 (by decide) ?_
    refine r_istore [(4, .int 0), (3, .int 1), (0, .ref (gz (xG x) + 1)), (1, .int a1), (2, .ref (gK (xG x) 3))] C dX5_isWord_20 (by decide) rfl ?_
    refine r_lv [2, 3, 4, 1, 0] rfl ?_
    exact LP11 4294967296 1 0 w h0 o0 (by omega) (by omega)
set_option maxHeartbeats 4000000 in
set_option maxRecDepth 100000 in
theorem ctX5_isWord_1_4 (l : Launch) (G : Gt) (w : Wv) (sC : Str KC XC w) (o0 : Inv RC w) (a1 : Int32) (b1 : 0 ≤ a1.toInt ∧ a1.toInt ≤ 500) : CtI l G yX5_isWord cX5_isWord 5 .boolean ({ frames := 6, cells := 0, slots := 0, locals := 140 } : Room) [.ref (gz G + 1), .int a1, .ref (gK G 4)] w (fun r w' => Ch [] [] w w' ∧ Inv RC w') := by
  refine enterI (by decide) (Nat.le_of_ble_eq_true rfl) ?_
  intro x el eG C hret
  subst el; subst eG
  show V x 0 0 w 0 [(0, .ref (gz (xG x) + 1)), (1, .int a1), (2, .ref (gK (xG x) 4))] []
  have h0 : Ch [] [] w w := Ch.rf
  have q0 : (0 : Int32).toInt = 0 := by decide
  have q1 : (1 : Int32).toInt = 1 := by decide
  have LP11 : ∀ (f12 : Nat) (u9 : Int32) (u10 : Int32) (w13 : Wv), Ch [] [] w w13 → Inv RC w13 → (0 ≤ u10.toInt ∧ u10.toInt ≤ 2147483647) → 2147483647 - u10.toInt < f12 → V x 0 0 w13 22 [(0, .ref (gz (xG x) + 1)), (1, .int a1), (2, .ref (gK (xG x) 4)), (3, .int u9), (4, .int u10)] [] := by
    intro f12
    induction f12 with
    | zero => intro u9 u10 w13 h14 o15 z16 z17; exfalso; omega
    | succ f12 ih18 =>
      intro u9 u10 w13 h14 o15 z16 z17
      refine r_iload_n 3 C dX5_isWord_22 rfl ?_
      refine r_if_eq 76 C dX5_isWord_23 (by decide) (fun c19 => ?_) (fun c19 => ?_)
      · have c19' := i_eq c19
        refine r_iload_n 3 C dX5_isWord_76 rfl ?_
        exact hret _ _ _ _ dX5_isWord_77 (nar_z (z_of (by omega))) ⟨h14, o15⟩
      · have c19' := i_ne c19
        refine r_iload 4 C dX5_isWord_26 rfl ?_
        refine r_aload_n 2 C dX5_isWord_28 rfl ?_
        refine callKI (i := 4) (by decide) C cwX5_160_V (ct_len _ _ w13 4 (by decide)) (by decide) rfl rfl (Nat.le_of_ble_eq_true rfl) (by decide) dX5_isWord_29 (fun r20 w21 y22 => ?_)
        obtain ⟨rfl, g23⟩ := y22
        show V x 0 0 w13 32 [(0, .ref (gz (xG x) + 1)), (1, .int a1), (2, .ref (gK (xG x) 4)), (3, .int u9), (4, .int u10)] [.int r20, .int u10]
        refine r_icmp_ge 76 C dX5_isWord_32 (by decide) (fun c24 => ?_) (fun c24 => ?_)
        · have c24' := i_le c24
          refine r_iload_n 3 C dX5_isWord_76 rfl ?_
          exact hret _ _ _ _ dX5_isWord_77 (nar_z (z_of (by omega))) ⟨h14, o15⟩
        · have c24' := i_nle c24
          refine r_iload_n 1 C dX5_isWord_35 rfl ?_
          refine r_iload 4 C dX5_isWord_36 rfl ?_
          refine r_iadd C dX5_isWord_38 (fun v25 e26 => ?_)
          have v25' := iadd_ok e26 (by omega) (by omega)
          refine r_aload_n 0 C dX5_isWord_39 rfl ?_
          refine gfX5_19 (v := (wI w 1 0)) C (kS sC h14 kc_1) (h14.I (by decide) (by decide) rfl) dX5_isWord_40 ?_
          have b27 := Inv.get o0 rt_1_0 (j := 0) (by decide) (by decide)
          refine r_icmp_ge 76 C dX5_isWord_43 (by decide) (fun c28 => ?_) (fun c28 => ?_)
          · have c28' := i_le c28
            refine r_iload_n 3 C dX5_isWord_76 rfl ?_
            exact hret _ _ _ _ dX5_isWord_77 (nar_z (z_of (by omega))) ⟨h14, o15⟩
          · have c28' := i_nle c28
            refine r_aload_n 0 C dX5_isWord_46 rfl ?_
            refine gfX5_15 2 C (kS sC h14 kc_1) (xS sC h14 xc_1_3) dX5_isWord_47 ?_
            refine r_iload_n 1 C dX5_isWord_50 rfl ?_
            refine r_iload 4 C dX5_isWord_51 rfl ?_
            refine r_iadd C dX5_isWord_53 (fun v29 e30 => ?_)
            have v29' := iadd_ok e30 (by omega) (by omega)
            refine r_iald C (kS sC h14 kc_2) (vin (by omega) (by omega)) dX5_isWord_54 ?_
            generalize (wI w13 2 (v29).toNatClampNeg) = v31
            refine r_aload_n 2 C dX5_isWord_55 rfl ?_
            refine r_iload 4 C dX5_isWord_56 rfl ?_
            refine callKI (i := 4) (by decide) C cwX5_164_V (ct_chr _ _ w13 4 u10 (by decide) (vin (n := 5) (by omega) (by omega))) (by decide) rfl rfl (Nat.le_of_ble_eq_true rfl) (by decide) dX5_isWord_58 (fun r32 w33 y34 => ?_)
            obtain ⟨rfl, g35⟩ := y34
            show V x 0 0 w13 61 [(0, .ref (gz (xG x) + 1)), (1, .int a1), (2, .ref (gK (xG x) 4)), (3, .int u9), (4, .int u10)] [.int r32, .int v31]
            refine r_icmp_ne 68 C dX5_isWord_61 (by decide) (fun c36 => ?_) (fun c36 => ?_)
            · have c36' := i_ne c36
              refine r_iconst (v := 0) C dX5_isWord_68 (by decide) ?_
              refine r_istore_n [(3, .int 0), (0, .ref (gz (xG x) + 1)), (1, .int a1), (2, .ref (gK (xG x) 4)), (4, .int u10)] C dX5_isWord_69 (by decide) rfl ?_
              obtain ⟨i37, e38⟩ : ∃ z : Int32, u10 + Int32.ofInt 1 = z := ⟨_, rfl⟩
              have i37' := iinc_ok e38 (by decide) (by omega) (by omega)
              refine r_iinc [(4, .int i37), (3, .int 0), (0, .ref (gz (xG x) + 1)), (1, .int a1), (2, .ref (gK (xG x) 4))] 4 C dX5_isWord_70 rfl e38 (by decide) rfl ?_
              refine r_goto 22 C dX5_isWord_73 (by decide) ?_
              refine r_lv [2, 3, 4, 1, 0] rfl ?_
              exact ih18 0 i37 w13 h14 o15 (by omega) (by omega)
            · have c36' := i_eq c36
              refine r_iconst (v := 1) C dX5_isWord_64 (by decide) ?_
              refine r_goto 69 C dX5_isWord_65 (by decide) ?_
              refine r_istore_n [(3, .int 1), (0, .ref (gz (xG x) + 1)), (1, .int a1), (2, .ref (gK (xG x) 4)), (4, .int u10)] C dX5_isWord_69 (by decide) rfl ?_
              obtain ⟨i39, e40⟩ : ∃ z : Int32, u10 + Int32.ofInt 1 = z := ⟨_, rfl⟩
              have i39' := iinc_ok e40 (by decide) (by omega) (by omega)
              refine r_iinc [(4, .int i39), (3, .int 1), (0, .ref (gz (xG x) + 1)), (1, .int a1), (2, .ref (gK (xG x) 4))] 4 C dX5_isWord_70 rfl e40 (by decide) rfl ?_
              refine r_goto 22 C dX5_isWord_73 (by decide) ?_
              refine r_lv [2, 3, 4, 1, 0] rfl ?_
              exact ih18 1 i39 w13 h14 o15 (by omega) (by omega)
  refine r_aload_n 0 C dX5_isWord_0 rfl ?_
  refine gfX5_27 (v := (wI w 1 4)) C (kS sC h0 kc_1) rfl dX5_isWord_1 ?_
  have b1 := Inv.get o0 rt_1_4 (j := 4) (by decide) (by decide)
  refine r_iload_n 1 C dX5_isWord_4 rfl ?_
  refine r_isub C dX5_isWord_5 (fun v2 e3 => ?_)
  have v2' := isub_ok e3 (by omega) (by omega)
  refine r_aload_n 2 C dX5_isWord_6 rfl ?_
  refine callKI (i := 4) (by decide) C cwX5_160_V (ct_len _ _ w 4 (by decide)) (by decide) rfl rfl (Nat.le_of_ble_eq_true rfl) (by decide) dX5_isWord_7 (fun r4 w5 y6 => ?_)
  obtain ⟨rfl, g7⟩ := y6
  show V x 0 0 w 10 [(0, .ref (gz (xG x) + 1)), (1, .int a1), (2, .ref (gK (xG x) 4))] [.int r4, .int v2]
  refine r_icmp_ne 17 C dX5_isWord_10 (by decide) (fun c8 => ?_) (fun c8 => ?_)
  · have c8' := i_ne c8
    refine r_iconst (v := 0) C dX5_isWord_17 (by decide) ?_
    refine r_istore_n [(3, .int 0), (0, .ref (gz (xG x) + 1)), (1, .int a1), (2, .ref (gK (xG x) 4))] C dX5_isWord_18 (by decide) rfl ?_
    refine r_iconst (v := 0) C dX5_isWord_19 (by decide) ?_
    refine r_istore [(4, .int 0), (3, .int 0), (0, .ref (gz (xG x) + 1)), (1, .int a1), (2, .ref (gK (xG x) 4))] C dX5_isWord_20 (by decide) rfl ?_
    refine r_lv [2, 3, 4, 1, 0] rfl ?_
    exact LP11 4294967296 0 0 w h0 o0 (by omega) (by omega)
  · have c8' := i_eq c8
    refine r_iconst (v := 1) C dX5_isWord_13 (by decide) ?_
    refine r_goto 18 C dX5_isWord_14 (by decide) ?_
    refine r_istore_n [(3, .int 1), (0, .ref (gz (xG x) + 1)), (1, .int a1), (2, .ref (gK (xG x) 4))] C dX5_isWord_18 (by decide) rfl ?_
    refine r_iconst (v := 0) C dX5_isWord_19 (by decide) ?_
    refine r_istore [(4, .int 0), (3, .int 1), (0, .ref (gz (xG x) + 1)), (1, .int a1), (2, .ref (gK (xG x) 4))] C dX5_isWord_20 (by decide) rfl ?_
    refine r_lv [2, 3, 4, 1, 0] rfl ?_
    exact LP11 4294967296 1 0 w h0 o0 (by omega) (by omega)
set_option maxHeartbeats 4000000 in
set_option maxRecDepth 100000 in
theorem ctX5_isWord_1_5 (l : Launch) (G : Gt) (w : Wv) (sC : Str KC XC w) (o0 : Inv RC w) (a1 : Int32) (b1 : 0 ≤ a1.toInt ∧ a1.toInt ≤ 500) : CtI l G yX5_isWord cX5_isWord 5 .boolean ({ frames := 6, cells := 0, slots := 0, locals := 140 } : Room) [.ref (gz G + 1), .int a1, .ref (gK G 5)] w (fun r w' => Ch [] [] w w' ∧ Inv RC w') := by
  refine enterI (by decide) (Nat.le_of_ble_eq_true rfl) ?_
  intro x el eG C hret
  subst el; subst eG
  show V x 0 0 w 0 [(0, .ref (gz (xG x) + 1)), (1, .int a1), (2, .ref (gK (xG x) 5))] []
  have h0 : Ch [] [] w w := Ch.rf
  have q0 : (0 : Int32).toInt = 0 := by decide
  have q1 : (1 : Int32).toInt = 1 := by decide
  have LP11 : ∀ (f12 : Nat) (u9 : Int32) (u10 : Int32) (w13 : Wv), Ch [] [] w w13 → Inv RC w13 → (0 ≤ u10.toInt ∧ u10.toInt ≤ 2147483647) → 2147483647 - u10.toInt < f12 → V x 0 0 w13 22 [(0, .ref (gz (xG x) + 1)), (1, .int a1), (2, .ref (gK (xG x) 5)), (3, .int u9), (4, .int u10)] [] := by
    intro f12
    induction f12 with
    | zero => intro u9 u10 w13 h14 o15 z16 z17; exfalso; omega
    | succ f12 ih18 =>
      intro u9 u10 w13 h14 o15 z16 z17
      refine r_iload_n 3 C dX5_isWord_22 rfl ?_
      refine r_if_eq 76 C dX5_isWord_23 (by decide) (fun c19 => ?_) (fun c19 => ?_)
      · have c19' := i_eq c19
        refine r_iload_n 3 C dX5_isWord_76 rfl ?_
        exact hret _ _ _ _ dX5_isWord_77 (nar_z (z_of (by omega))) ⟨h14, o15⟩
      · have c19' := i_ne c19
        refine r_iload 4 C dX5_isWord_26 rfl ?_
        refine r_aload_n 2 C dX5_isWord_28 rfl ?_
        refine callKI (i := 5) (by decide) C cwX5_160_V (ct_len _ _ w13 5 (by decide)) (by decide) rfl rfl (Nat.le_of_ble_eq_true rfl) (by decide) dX5_isWord_29 (fun r20 w21 y22 => ?_)
        obtain ⟨rfl, g23⟩ := y22
        show V x 0 0 w13 32 [(0, .ref (gz (xG x) + 1)), (1, .int a1), (2, .ref (gK (xG x) 5)), (3, .int u9), (4, .int u10)] [.int r20, .int u10]
        refine r_icmp_ge 76 C dX5_isWord_32 (by decide) (fun c24 => ?_) (fun c24 => ?_)
        · have c24' := i_le c24
          refine r_iload_n 3 C dX5_isWord_76 rfl ?_
          exact hret _ _ _ _ dX5_isWord_77 (nar_z (z_of (by omega))) ⟨h14, o15⟩
        · have c24' := i_nle c24
          refine r_iload_n 1 C dX5_isWord_35 rfl ?_
          refine r_iload 4 C dX5_isWord_36 rfl ?_
          refine r_iadd C dX5_isWord_38 (fun v25 e26 => ?_)
          have v25' := iadd_ok e26 (by omega) (by omega)
          refine r_aload_n 0 C dX5_isWord_39 rfl ?_
          refine gfX5_19 (v := (wI w 1 0)) C (kS sC h14 kc_1) (h14.I (by decide) (by decide) rfl) dX5_isWord_40 ?_
          have b27 := Inv.get o0 rt_1_0 (j := 0) (by decide) (by decide)
          refine r_icmp_ge 76 C dX5_isWord_43 (by decide) (fun c28 => ?_) (fun c28 => ?_)
          · have c28' := i_le c28
            refine r_iload_n 3 C dX5_isWord_76 rfl ?_
            exact hret _ _ _ _ dX5_isWord_77 (nar_z (z_of (by omega))) ⟨h14, o15⟩
          · have c28' := i_nle c28
            refine r_aload_n 0 C dX5_isWord_46 rfl ?_
            refine gfX5_15 2 C (kS sC h14 kc_1) (xS sC h14 xc_1_3) dX5_isWord_47 ?_
            refine r_iload_n 1 C dX5_isWord_50 rfl ?_
            refine r_iload 4 C dX5_isWord_51 rfl ?_
            refine r_iadd C dX5_isWord_53 (fun v29 e30 => ?_)
            have v29' := iadd_ok e30 (by omega) (by omega)
            refine r_iald C (kS sC h14 kc_2) (vin (by omega) (by omega)) dX5_isWord_54 ?_
            generalize (wI w13 2 (v29).toNatClampNeg) = v31
            refine r_aload_n 2 C dX5_isWord_55 rfl ?_
            refine r_iload 4 C dX5_isWord_56 rfl ?_
            refine callKI (i := 5) (by decide) C cwX5_164_V (ct_chr _ _ w13 5 u10 (by decide) (vin (n := 4) (by omega) (by omega))) (by decide) rfl rfl (Nat.le_of_ble_eq_true rfl) (by decide) dX5_isWord_58 (fun r32 w33 y34 => ?_)
            obtain ⟨rfl, g35⟩ := y34
            show V x 0 0 w13 61 [(0, .ref (gz (xG x) + 1)), (1, .int a1), (2, .ref (gK (xG x) 5)), (3, .int u9), (4, .int u10)] [.int r32, .int v31]
            refine r_icmp_ne 68 C dX5_isWord_61 (by decide) (fun c36 => ?_) (fun c36 => ?_)
            · have c36' := i_ne c36
              refine r_iconst (v := 0) C dX5_isWord_68 (by decide) ?_
              refine r_istore_n [(3, .int 0), (0, .ref (gz (xG x) + 1)), (1, .int a1), (2, .ref (gK (xG x) 5)), (4, .int u10)] C dX5_isWord_69 (by decide) rfl ?_
              obtain ⟨i37, e38⟩ : ∃ z : Int32, u10 + Int32.ofInt 1 = z := ⟨_, rfl⟩
              have i37' := iinc_ok e38 (by decide) (by omega) (by omega)
              refine r_iinc [(4, .int i37), (3, .int 0), (0, .ref (gz (xG x) + 1)), (1, .int a1), (2, .ref (gK (xG x) 5))] 4 C dX5_isWord_70 rfl e38 (by decide) rfl ?_
              refine r_goto 22 C dX5_isWord_73 (by decide) ?_
              refine r_lv [2, 3, 4, 1, 0] rfl ?_
              exact ih18 0 i37 w13 h14 o15 (by omega) (by omega)
            · have c36' := i_eq c36
              refine r_iconst (v := 1) C dX5_isWord_64 (by decide) ?_
              refine r_goto 69 C dX5_isWord_65 (by decide) ?_
              refine r_istore_n [(3, .int 1), (0, .ref (gz (xG x) + 1)), (1, .int a1), (2, .ref (gK (xG x) 5)), (4, .int u10)] C dX5_isWord_69 (by decide) rfl ?_
              obtain ⟨i39, e40⟩ : ∃ z : Int32, u10 + Int32.ofInt 1 = z := ⟨_, rfl⟩
              have i39' := iinc_ok e40 (by decide) (by omega) (by omega)
              refine r_iinc [(4, .int i39), (3, .int 1), (0, .ref (gz (xG x) + 1)), (1, .int a1), (2, .ref (gK (xG x) 5))] 4 C dX5_isWord_70 rfl e40 (by decide) rfl ?_
              refine r_goto 22 C dX5_isWord_73 (by decide) ?_
              refine r_lv [2, 3, 4, 1, 0] rfl ?_
              exact ih18 1 i39 w13 h14 o15 (by omega) (by omega)
  refine r_aload_n 0 C dX5_isWord_0 rfl ?_
  refine gfX5_27 (v := (wI w 1 4)) C (kS sC h0 kc_1) rfl dX5_isWord_1 ?_
  have b1 := Inv.get o0 rt_1_4 (j := 4) (by decide) (by decide)
  refine r_iload_n 1 C dX5_isWord_4 rfl ?_
  refine r_isub C dX5_isWord_5 (fun v2 e3 => ?_)
  have v2' := isub_ok e3 (by omega) (by omega)
  refine r_aload_n 2 C dX5_isWord_6 rfl ?_
  refine callKI (i := 5) (by decide) C cwX5_160_V (ct_len _ _ w 5 (by decide)) (by decide) rfl rfl (Nat.le_of_ble_eq_true rfl) (by decide) dX5_isWord_7 (fun r4 w5 y6 => ?_)
  obtain ⟨rfl, g7⟩ := y6
  show V x 0 0 w 10 [(0, .ref (gz (xG x) + 1)), (1, .int a1), (2, .ref (gK (xG x) 5))] [.int r4, .int v2]
  refine r_icmp_ne 17 C dX5_isWord_10 (by decide) (fun c8 => ?_) (fun c8 => ?_)
  · have c8' := i_ne c8
    refine r_iconst (v := 0) C dX5_isWord_17 (by decide) ?_
    refine r_istore_n [(3, .int 0), (0, .ref (gz (xG x) + 1)), (1, .int a1), (2, .ref (gK (xG x) 5))] C dX5_isWord_18 (by decide) rfl ?_
    refine r_iconst (v := 0) C dX5_isWord_19 (by decide) ?_
    refine r_istore [(4, .int 0), (3, .int 0), (0, .ref (gz (xG x) + 1)), (1, .int a1), (2, .ref (gK (xG x) 5))] C dX5_isWord_20 (by decide) rfl ?_
    refine r_lv [2, 3, 4, 1, 0] rfl ?_
    exact LP11 4294967296 0 0 w h0 o0 (by omega) (by omega)
  · have c8' := i_eq c8
    refine r_iconst (v := 1) C dX5_isWord_13 (by decide) ?_
    refine r_goto 18 C dX5_isWord_14 (by decide) ?_
    refine r_istore_n [(3, .int 1), (0, .ref (gz (xG x) + 1)), (1, .int a1), (2, .ref (gK (xG x) 5))] C dX5_isWord_18 (by decide) rfl ?_
    refine r_iconst (v := 0) C dX5_isWord_19 (by decide) ?_
    refine r_istore [(4, .int 0), (3, .int 1), (0, .ref (gz (xG x) + 1)), (1, .int a1), (2, .ref (gK (xG x) 5))] C dX5_isWord_20 (by decide) rfl ?_
    refine r_lv [2, 3, 4, 1, 0] rfl ?_
    exact LP11 4294967296 1 0 w h0 o0 (by omega) (by omega)
set_option maxHeartbeats 4000000 in
set_option maxRecDepth 100000 in
theorem ctX5_isWord_1_6 (l : Launch) (G : Gt) (w : Wv) (sC : Str KC XC w) (o0 : Inv RC w) (a1 : Int32) (b1 : 0 ≤ a1.toInt ∧ a1.toInt ≤ 500) : CtI l G yX5_isWord cX5_isWord 5 .boolean ({ frames := 6, cells := 0, slots := 0, locals := 140 } : Room) [.ref (gz G + 1), .int a1, .ref (gK G 6)] w (fun r w' => Ch [] [] w w' ∧ Inv RC w') := by
  refine enterI (by decide) (Nat.le_of_ble_eq_true rfl) ?_
  intro x el eG C hret
  subst el; subst eG
  show V x 0 0 w 0 [(0, .ref (gz (xG x) + 1)), (1, .int a1), (2, .ref (gK (xG x) 6))] []
  have h0 : Ch [] [] w w := Ch.rf
  have q0 : (0 : Int32).toInt = 0 := by decide
  have q1 : (1 : Int32).toInt = 1 := by decide
  have LP11 : ∀ (f12 : Nat) (u9 : Int32) (u10 : Int32) (w13 : Wv), Ch [] [] w w13 → Inv RC w13 → (0 ≤ u10.toInt ∧ u10.toInt ≤ 2147483647) → 2147483647 - u10.toInt < f12 → V x 0 0 w13 22 [(0, .ref (gz (xG x) + 1)), (1, .int a1), (2, .ref (gK (xG x) 6)), (3, .int u9), (4, .int u10)] [] := by
    intro f12
    induction f12 with
    | zero => intro u9 u10 w13 h14 o15 z16 z17; exfalso; omega
    | succ f12 ih18 =>
      intro u9 u10 w13 h14 o15 z16 z17
      refine r_iload_n 3 C dX5_isWord_22 rfl ?_
      refine r_if_eq 76 C dX5_isWord_23 (by decide) (fun c19 => ?_) (fun c19 => ?_)
      · have c19' := i_eq c19
        refine r_iload_n 3 C dX5_isWord_76 rfl ?_
        exact hret _ _ _ _ dX5_isWord_77 (nar_z (z_of (by omega))) ⟨h14, o15⟩
      · have c19' := i_ne c19
        refine r_iload 4 C dX5_isWord_26 rfl ?_
        refine r_aload_n 2 C dX5_isWord_28 rfl ?_
        refine callKI (i := 6) (by decide) C cwX5_160_V (ct_len _ _ w13 6 (by decide)) (by decide) rfl rfl (Nat.le_of_ble_eq_true rfl) (by decide) dX5_isWord_29 (fun r20 w21 y22 => ?_)
        obtain ⟨rfl, g23⟩ := y22
        show V x 0 0 w13 32 [(0, .ref (gz (xG x) + 1)), (1, .int a1), (2, .ref (gK (xG x) 6)), (3, .int u9), (4, .int u10)] [.int r20, .int u10]
        refine r_icmp_ge 76 C dX5_isWord_32 (by decide) (fun c24 => ?_) (fun c24 => ?_)
        · have c24' := i_le c24
          refine r_iload_n 3 C dX5_isWord_76 rfl ?_
          exact hret _ _ _ _ dX5_isWord_77 (nar_z (z_of (by omega))) ⟨h14, o15⟩
        · have c24' := i_nle c24
          refine r_iload_n 1 C dX5_isWord_35 rfl ?_
          refine r_iload 4 C dX5_isWord_36 rfl ?_
          refine r_iadd C dX5_isWord_38 (fun v25 e26 => ?_)
          have v25' := iadd_ok e26 (by omega) (by omega)
          refine r_aload_n 0 C dX5_isWord_39 rfl ?_
          refine gfX5_19 (v := (wI w 1 0)) C (kS sC h14 kc_1) (h14.I (by decide) (by decide) rfl) dX5_isWord_40 ?_
          have b27 := Inv.get o0 rt_1_0 (j := 0) (by decide) (by decide)
          refine r_icmp_ge 76 C dX5_isWord_43 (by decide) (fun c28 => ?_) (fun c28 => ?_)
          · have c28' := i_le c28
            refine r_iload_n 3 C dX5_isWord_76 rfl ?_
            exact hret _ _ _ _ dX5_isWord_77 (nar_z (z_of (by omega))) ⟨h14, o15⟩
          · have c28' := i_nle c28
            refine r_aload_n 0 C dX5_isWord_46 rfl ?_
            refine gfX5_15 2 C (kS sC h14 kc_1) (xS sC h14 xc_1_3) dX5_isWord_47 ?_
            refine r_iload_n 1 C dX5_isWord_50 rfl ?_
            refine r_iload 4 C dX5_isWord_51 rfl ?_
            refine r_iadd C dX5_isWord_53 (fun v29 e30 => ?_)
            have v29' := iadd_ok e30 (by omega) (by omega)
            refine r_iald C (kS sC h14 kc_2) (vin (by omega) (by omega)) dX5_isWord_54 ?_
            generalize (wI w13 2 (v29).toNatClampNeg) = v31
            refine r_aload_n 2 C dX5_isWord_55 rfl ?_
            refine r_iload 4 C dX5_isWord_56 rfl ?_
            refine callKI (i := 6) (by decide) C cwX5_164_V (ct_chr _ _ w13 6 u10 (by decide) (vin (n := 5) (by omega) (by omega))) (by decide) rfl rfl (Nat.le_of_ble_eq_true rfl) (by decide) dX5_isWord_58 (fun r32 w33 y34 => ?_)
            obtain ⟨rfl, g35⟩ := y34
            show V x 0 0 w13 61 [(0, .ref (gz (xG x) + 1)), (1, .int a1), (2, .ref (gK (xG x) 6)), (3, .int u9), (4, .int u10)] [.int r32, .int v31]
            refine r_icmp_ne 68 C dX5_isWord_61 (by decide) (fun c36 => ?_) (fun c36 => ?_)
            · have c36' := i_ne c36
              refine r_iconst (v := 0) C dX5_isWord_68 (by decide) ?_
              refine r_istore_n [(3, .int 0), (0, .ref (gz (xG x) + 1)), (1, .int a1), (2, .ref (gK (xG x) 6)), (4, .int u10)] C dX5_isWord_69 (by decide) rfl ?_
              obtain ⟨i37, e38⟩ : ∃ z : Int32, u10 + Int32.ofInt 1 = z := ⟨_, rfl⟩
              have i37' := iinc_ok e38 (by decide) (by omega) (by omega)
              refine r_iinc [(4, .int i37), (3, .int 0), (0, .ref (gz (xG x) + 1)), (1, .int a1), (2, .ref (gK (xG x) 6))] 4 C dX5_isWord_70 rfl e38 (by decide) rfl ?_
              refine r_goto 22 C dX5_isWord_73 (by decide) ?_
              refine r_lv [2, 3, 4, 1, 0] rfl ?_
              exact ih18 0 i37 w13 h14 o15 (by omega) (by omega)
            · have c36' := i_eq c36
              refine r_iconst (v := 1) C dX5_isWord_64 (by decide) ?_
              refine r_goto 69 C dX5_isWord_65 (by decide) ?_
              refine r_istore_n [(3, .int 1), (0, .ref (gz (xG x) + 1)), (1, .int a1), (2, .ref (gK (xG x) 6)), (4, .int u10)] C dX5_isWord_69 (by decide) rfl ?_
              obtain ⟨i39, e40⟩ : ∃ z : Int32, u10 + Int32.ofInt 1 = z := ⟨_, rfl⟩
              have i39' := iinc_ok e40 (by decide) (by omega) (by omega)
              refine r_iinc [(4, .int i39), (3, .int 1), (0, .ref (gz (xG x) + 1)), (1, .int a1), (2, .ref (gK (xG x) 6))] 4 C dX5_isWord_70 rfl e40 (by decide) rfl ?_
              refine r_goto 22 C dX5_isWord_73 (by decide) ?_
              refine r_lv [2, 3, 4, 1, 0] rfl ?_
              exact ih18 1 i39 w13 h14 o15 (by omega) (by omega)
  refine r_aload_n 0 C dX5_isWord_0 rfl ?_
  refine gfX5_27 (v := (wI w 1 4)) C (kS sC h0 kc_1) rfl dX5_isWord_1 ?_
  have b1 := Inv.get o0 rt_1_4 (j := 4) (by decide) (by decide)
  refine r_iload_n 1 C dX5_isWord_4 rfl ?_
  refine r_isub C dX5_isWord_5 (fun v2 e3 => ?_)
  have v2' := isub_ok e3 (by omega) (by omega)
  refine r_aload_n 2 C dX5_isWord_6 rfl ?_
  refine callKI (i := 6) (by decide) C cwX5_160_V (ct_len _ _ w 6 (by decide)) (by decide) rfl rfl (Nat.le_of_ble_eq_true rfl) (by decide) dX5_isWord_7 (fun r4 w5 y6 => ?_)
  obtain ⟨rfl, g7⟩ := y6
  show V x 0 0 w 10 [(0, .ref (gz (xG x) + 1)), (1, .int a1), (2, .ref (gK (xG x) 6))] [.int r4, .int v2]
  refine r_icmp_ne 17 C dX5_isWord_10 (by decide) (fun c8 => ?_) (fun c8 => ?_)
  · have c8' := i_ne c8
    refine r_iconst (v := 0) C dX5_isWord_17 (by decide) ?_
    refine r_istore_n [(3, .int 0), (0, .ref (gz (xG x) + 1)), (1, .int a1), (2, .ref (gK (xG x) 6))] C dX5_isWord_18 (by decide) rfl ?_
    refine r_iconst (v := 0) C dX5_isWord_19 (by decide) ?_
    refine r_istore [(4, .int 0), (3, .int 0), (0, .ref (gz (xG x) + 1)), (1, .int a1), (2, .ref (gK (xG x) 6))] C dX5_isWord_20 (by decide) rfl ?_
    refine r_lv [2, 3, 4, 1, 0] rfl ?_
    exact LP11 4294967296 0 0 w h0 o0 (by omega) (by omega)
  · have c8' := i_eq c8
    refine r_iconst (v := 1) C dX5_isWord_13 (by decide) ?_
    refine r_goto 18 C dX5_isWord_14 (by decide) ?_
    refine r_istore_n [(3, .int 1), (0, .ref (gz (xG x) + 1)), (1, .int a1), (2, .ref (gK (xG x) 6))] C dX5_isWord_18 (by decide) rfl ?_
    refine r_iconst (v := 0) C dX5_isWord_19 (by decide) ?_
    refine r_istore [(4, .int 0), (3, .int 1), (0, .ref (gz (xG x) + 1)), (1, .int a1), (2, .ref (gK (xG x) 6))] C dX5_isWord_20 (by decide) rfl ?_
    refine r_lv [2, 3, 4, 1, 0] rfl ?_
    exact LP11 4294967296 1 0 w h0 o0 (by omega) (by omega)
set_option maxHeartbeats 4000000 in
set_option maxRecDepth 100000 in
theorem ctX5_isWord_1_7 (l : Launch) (G : Gt) (w : Wv) (sC : Str KC XC w) (o0 : Inv RC w) (a1 : Int32) (b1 : 0 ≤ a1.toInt ∧ a1.toInt ≤ 500) : CtI l G yX5_isWord cX5_isWord 5 .boolean ({ frames := 6, cells := 0, slots := 0, locals := 140 } : Room) [.ref (gz G + 1), .int a1, .ref (gK G 7)] w (fun r w' => Ch [] [] w w' ∧ Inv RC w') := by
  refine enterI (by decide) (Nat.le_of_ble_eq_true rfl) ?_
  intro x el eG C hret
  subst el; subst eG
  show V x 0 0 w 0 [(0, .ref (gz (xG x) + 1)), (1, .int a1), (2, .ref (gK (xG x) 7))] []
  have h0 : Ch [] [] w w := Ch.rf
  have q0 : (0 : Int32).toInt = 0 := by decide
  have q1 : (1 : Int32).toInt = 1 := by decide
  have LP11 : ∀ (f12 : Nat) (u9 : Int32) (u10 : Int32) (w13 : Wv), Ch [] [] w w13 → Inv RC w13 → (0 ≤ u10.toInt ∧ u10.toInt ≤ 2147483647) → 2147483647 - u10.toInt < f12 → V x 0 0 w13 22 [(0, .ref (gz (xG x) + 1)), (1, .int a1), (2, .ref (gK (xG x) 7)), (3, .int u9), (4, .int u10)] [] := by
    intro f12
    induction f12 with
    | zero => intro u9 u10 w13 h14 o15 z16 z17; exfalso; omega
    | succ f12 ih18 =>
      intro u9 u10 w13 h14 o15 z16 z17
      refine r_iload_n 3 C dX5_isWord_22 rfl ?_
      refine r_if_eq 76 C dX5_isWord_23 (by decide) (fun c19 => ?_) (fun c19 => ?_)
      · have c19' := i_eq c19
        refine r_iload_n 3 C dX5_isWord_76 rfl ?_
        exact hret _ _ _ _ dX5_isWord_77 (nar_z (z_of (by omega))) ⟨h14, o15⟩
      · have c19' := i_ne c19
        refine r_iload 4 C dX5_isWord_26 rfl ?_
        refine r_aload_n 2 C dX5_isWord_28 rfl ?_
        refine callKI (i := 7) (by decide) C cwX5_160_V (ct_len _ _ w13 7 (by decide)) (by decide) rfl rfl (Nat.le_of_ble_eq_true rfl) (by decide) dX5_isWord_29 (fun r20 w21 y22 => ?_)
        obtain ⟨rfl, g23⟩ := y22
        show V x 0 0 w13 32 [(0, .ref (gz (xG x) + 1)), (1, .int a1), (2, .ref (gK (xG x) 7)), (3, .int u9), (4, .int u10)] [.int r20, .int u10]
        refine r_icmp_ge 76 C dX5_isWord_32 (by decide) (fun c24 => ?_) (fun c24 => ?_)
        · have c24' := i_le c24
          refine r_iload_n 3 C dX5_isWord_76 rfl ?_
          exact hret _ _ _ _ dX5_isWord_77 (nar_z (z_of (by omega))) ⟨h14, o15⟩
        · have c24' := i_nle c24
          refine r_iload_n 1 C dX5_isWord_35 rfl ?_
          refine r_iload 4 C dX5_isWord_36 rfl ?_
          refine r_iadd C dX5_isWord_38 (fun v25 e26 => ?_)
          have v25' := iadd_ok e26 (by omega) (by omega)
          refine r_aload_n 0 C dX5_isWord_39 rfl ?_
          refine gfX5_19 (v := (wI w 1 0)) C (kS sC h14 kc_1) (h14.I (by decide) (by decide) rfl) dX5_isWord_40 ?_
          have b27 := Inv.get o0 rt_1_0 (j := 0) (by decide) (by decide)
          refine r_icmp_ge 76 C dX5_isWord_43 (by decide) (fun c28 => ?_) (fun c28 => ?_)
          · have c28' := i_le c28
            refine r_iload_n 3 C dX5_isWord_76 rfl ?_
            exact hret _ _ _ _ dX5_isWord_77 (nar_z (z_of (by omega))) ⟨h14, o15⟩
          · have c28' := i_nle c28
            refine r_aload_n 0 C dX5_isWord_46 rfl ?_
            refine gfX5_15 2 C (kS sC h14 kc_1) (xS sC h14 xc_1_3) dX5_isWord_47 ?_
            refine r_iload_n 1 C dX5_isWord_50 rfl ?_
            refine r_iload 4 C dX5_isWord_51 rfl ?_
            refine r_iadd C dX5_isWord_53 (fun v29 e30 => ?_)
            have v29' := iadd_ok e30 (by omega) (by omega)
            refine r_iald C (kS sC h14 kc_2) (vin (by omega) (by omega)) dX5_isWord_54 ?_
            generalize (wI w13 2 (v29).toNatClampNeg) = v31
            refine r_aload_n 2 C dX5_isWord_55 rfl ?_
            refine r_iload 4 C dX5_isWord_56 rfl ?_
            refine callKI (i := 7) (by decide) C cwX5_164_V (ct_chr _ _ w13 7 u10 (by decide) (vin (n := 3) (by omega) (by omega))) (by decide) rfl rfl (Nat.le_of_ble_eq_true rfl) (by decide) dX5_isWord_58 (fun r32 w33 y34 => ?_)
            obtain ⟨rfl, g35⟩ := y34
            show V x 0 0 w13 61 [(0, .ref (gz (xG x) + 1)), (1, .int a1), (2, .ref (gK (xG x) 7)), (3, .int u9), (4, .int u10)] [.int r32, .int v31]
            refine r_icmp_ne 68 C dX5_isWord_61 (by decide) (fun c36 => ?_) (fun c36 => ?_)
            · have c36' := i_ne c36
              refine r_iconst (v := 0) C dX5_isWord_68 (by decide) ?_
              refine r_istore_n [(3, .int 0), (0, .ref (gz (xG x) + 1)), (1, .int a1), (2, .ref (gK (xG x) 7)), (4, .int u10)] C dX5_isWord_69 (by decide) rfl ?_
              obtain ⟨i37, e38⟩ : ∃ z : Int32, u10 + Int32.ofInt 1 = z := ⟨_, rfl⟩
              have i37' := iinc_ok e38 (by decide) (by omega) (by omega)
              refine r_iinc [(4, .int i37), (3, .int 0), (0, .ref (gz (xG x) + 1)), (1, .int a1), (2, .ref (gK (xG x) 7))] 4 C dX5_isWord_70 rfl e38 (by decide) rfl ?_
              refine r_goto 22 C dX5_isWord_73 (by decide) ?_
              refine r_lv [2, 3, 4, 1, 0] rfl ?_
              exact ih18 0 i37 w13 h14 o15 (by omega) (by omega)
            · have c36' := i_eq c36
              refine r_iconst (v := 1) C dX5_isWord_64 (by decide) ?_
              refine r_goto 69 C dX5_isWord_65 (by decide) ?_
              refine r_istore_n [(3, .int 1), (0, .ref (gz (xG x) + 1)), (1, .int a1), (2, .ref (gK (xG x) 7)), (4, .int u10)] C dX5_isWord_69 (by decide) rfl ?_
              obtain ⟨i39, e40⟩ : ∃ z : Int32, u10 + Int32.ofInt 1 = z := ⟨_, rfl⟩
              have i39' := iinc_ok e40 (by decide) (by omega) (by omega)
              refine r_iinc [(4, .int i39), (3, .int 1), (0, .ref (gz (xG x) + 1)), (1, .int a1), (2, .ref (gK (xG x) 7))] 4 C dX5_isWord_70 rfl e40 (by decide) rfl ?_
              refine r_goto 22 C dX5_isWord_73 (by decide) ?_
              refine r_lv [2, 3, 4, 1, 0] rfl ?_
              exact ih18 1 i39 w13 h14 o15 (by omega) (by omega)
  refine r_aload_n 0 C dX5_isWord_0 rfl ?_
  refine gfX5_27 (v := (wI w 1 4)) C (kS sC h0 kc_1) rfl dX5_isWord_1 ?_
  have b1 := Inv.get o0 rt_1_4 (j := 4) (by decide) (by decide)
  refine r_iload_n 1 C dX5_isWord_4 rfl ?_
  refine r_isub C dX5_isWord_5 (fun v2 e3 => ?_)
  have v2' := isub_ok e3 (by omega) (by omega)
  refine r_aload_n 2 C dX5_isWord_6 rfl ?_
  refine callKI (i := 7) (by decide) C cwX5_160_V (ct_len _ _ w 7 (by decide)) (by decide) rfl rfl (Nat.le_of_ble_eq_true rfl) (by decide) dX5_isWord_7 (fun r4 w5 y6 => ?_)
  obtain ⟨rfl, g7⟩ := y6
  show V x 0 0 w 10 [(0, .ref (gz (xG x) + 1)), (1, .int a1), (2, .ref (gK (xG x) 7))] [.int r4, .int v2]
  refine r_icmp_ne 17 C dX5_isWord_10 (by decide) (fun c8 => ?_) (fun c8 => ?_)
  · have c8' := i_ne c8
    refine r_iconst (v := 0) C dX5_isWord_17 (by decide) ?_
    refine r_istore_n [(3, .int 0), (0, .ref (gz (xG x) + 1)), (1, .int a1), (2, .ref (gK (xG x) 7))] C dX5_isWord_18 (by decide) rfl ?_
    refine r_iconst (v := 0) C dX5_isWord_19 (by decide) ?_
    refine r_istore [(4, .int 0), (3, .int 0), (0, .ref (gz (xG x) + 1)), (1, .int a1), (2, .ref (gK (xG x) 7))] C dX5_isWord_20 (by decide) rfl ?_
    refine r_lv [2, 3, 4, 1, 0] rfl ?_
    exact LP11 4294967296 0 0 w h0 o0 (by omega) (by omega)
  · have c8' := i_eq c8
    refine r_iconst (v := 1) C dX5_isWord_13 (by decide) ?_
    refine r_goto 18 C dX5_isWord_14 (by decide) ?_
    refine r_istore_n [(3, .int 1), (0, .ref (gz (xG x) + 1)), (1, .int a1), (2, .ref (gK (xG x) 7))] C dX5_isWord_18 (by decide) rfl ?_
    refine r_iconst (v := 0) C dX5_isWord_19 (by decide) ?_
    refine r_istore [(4, .int 0), (3, .int 1), (0, .ref (gz (xG x) + 1)), (1, .int a1), (2, .ref (gK (xG x) 7))] C dX5_isWord_20 (by decide) rfl ?_
    refine r_lv [2, 3, 4, 1, 0] rfl ?_
    exact LP11 4294967296 1 0 w h0 o0 (by omega) (by omega)
set_option maxHeartbeats 4000000 in
set_option maxRecDepth 100000 in
theorem ctX5_readWord_1 (l : Launch) (G : Gt) (w : Wv) (sC : Str KC XC w) (o0 : Inv RC w)  : CtI l G yX5_readWord cX5_readWord 2 .int ({ frames := 7, cells := 0, slots := 0, locals := 164 } : Room) [.ref (gz G + 1)] w (fun r w' => Ch [] [(1, 4)] w w' ∧ Inv RC w') := by
  refine enterI (by decide) (Nat.le_of_ble_eq_true rfl) ?_
  intro x el eG C hret
  subst el; subst eG
  show V x 0 0 w 0 [(0, .ref (gz (xG x) + 1))] []
  have h0 : Ch [] [(1, 4)] w w := Ch.rf
  have qm1 : ((-1) : Int32).toInt = (-1) := by decide
  have q0 : (0 : Int32).toInt = 0 := by decide
  have q1 : (1 : Int32).toInt = 1 := by decide
  have q2 : (2 : Int32).toInt = 2 := by decide
  have q3 : (3 : Int32).toInt = 3 := by decide
  have q4 : (4 : Int32).toInt = 4 := by decide
  have q5 : (5 : Int32).toInt = 5 := by decide
  have q6 : (6 : Int32).toInt = 6 := by decide
  have q7 : (7 : Int32).toInt = 7 := by decide
  have q8 : (8 : Int32).toInt = 8 := by decide
  have q97 : (97 : Int32).toInt = 97 := by decide
  have q122 : (122 : Int32).toInt = 122 := by decide
  have LP3 : ∀ (f4 : Nat) (u2 : Int32) (w5 : Wv), Ch [] [(1, 4)] w w5 → Inv RC w5 → (0 ≤ u2.toInt ∧ u2.toInt ≤ 500) → 500 - (wI w5 1 4).toInt < f4 → V x 0 0 w5 5 [(0, .ref (gz (xG x) + 1)), (1, .int u2)] [] := by
    intro f4
    induction f4 with
    | zero => intro u2 w5 h6 o7 z8 z9; have b0 := Inv.get o7 rt_1_4 (j := 4) (by decide) (by decide); exfalso; omega
    | succ f4 ih10 =>
      intro u2 w5 h6 o7 z8 z9
      refine r_aload_n 0 C dX5_readWord_5 rfl ?_
      refine gfX5_27 (v := (wI w5 1 4)) C (kS sC h6 kc_1) rfl dX5_readWord_6 ?_
      have b11 := Inv.get o7 rt_1_4 (j := 4) (by decide) (by decide)
      refine r_aload_n 0 C dX5_readWord_9 rfl ?_
      refine gfX5_19 (v := (wI w 1 0)) C (kS sC h6 kc_1) (h6.I (by decide) (by decide) rfl) dX5_readWord_10 ?_
      have b12 := Inv.get o0 rt_1_0 (j := 0) (by decide) (by decide)
      refine r_icmp_ge 57 C dX5_readWord_13 (by decide) (fun c13 => ?_) (fun c13 => ?_)
      · have c13' := i_le c13
        refine r_aload_n 0 C dX5_readWord_57 rfl ?_
        refine r_iload_n 1 C dX5_readWord_58 rfl ?_
        refine r_ldcS 0 (by decide) C (by decide) dX5_readWord_59 ?_
        refine callVI C cwX5_143_V (ctX5_isWord_1_0 _ _ w5 (sS sC h6) o7 u2 (by omega)) (by decide) (kS sC h6 kc_1) rfl rfl rfl (Nat.le_of_ble_eq_true rfl) (by decide) dX5_readWord_61 (fun r16 w15 y14 => ?_)
        show V x 0 0 w15 64 [(0, .ref (gz (xG x) + 1)), (1, .int u2)] [.int r16]
        obtain ⟨h17, o18⟩ := y14
        have h19 := Ch.tr h6 h17 (by decide) (by decide)
        refine r_if_eq 69 C dX5_readWord_64 (by decide) (fun c20 => ?_) (fun c20 => ?_)
        · have c20' := i_eq c20
          refine r_aload_n 0 C dX5_readWord_69 rfl ?_
          refine r_iload_n 1 C dX5_readWord_70 rfl ?_
          refine r_ldcS 1 (by decide) C (by decide) dX5_readWord_71 ?_
          refine callVI C cwX5_143_V (ctX5_isWord_1_1 _ _ w15 (sS sC h19) o18 u2 (by omega)) (by decide) (kS sC h19 kc_1) rfl rfl rfl (Nat.le_of_ble_eq_true rfl) (by decide) dX5_readWord_73 (fun r23 w22 y21 => ?_)
          show V x 0 0 w22 76 [(0, .ref (gz (xG x) + 1)), (1, .int u2)] [.int r23]
          obtain ⟨h24, o25⟩ := y21
          have h26 := Ch.tr h19 h24 (by decide) (by decide)
          refine r_if_eq 81 C dX5_readWord_76 (by decide) (fun c27 => ?_) (fun c27 => ?_)
          · have c27' := i_eq c27
            refine r_aload_n 0 C dX5_readWord_81 rfl ?_
            refine r_iload_n 1 C dX5_readWord_82 rfl ?_
            refine r_ldcS 2 (by decide) C (by decide) dX5_readWord_83 ?_
            refine callVI C cwX5_143_V (ctX5_isWord_1_2 _ _ w22 (sS sC h26) o25 u2 (by omega)) (by decide) (kS sC h26 kc_1) rfl rfl rfl (Nat.le_of_ble_eq_true rfl) (by decide) dX5_readWord_85 (fun r30 w29 y28 => ?_)
            show V x 0 0 w29 88 [(0, .ref (gz (xG x) + 1)), (1, .int u2)] [.int r30]
            obtain ⟨h31, o32⟩ := y28
            have h33 := Ch.tr h26 h31 (by decide) (by decide)
            refine r_if_eq 93 C dX5_readWord_88 (by decide) (fun c34 => ?_) (fun c34 => ?_)
            · have c34' := i_eq c34
              refine r_aload_n 0 C dX5_readWord_93 rfl ?_
              refine r_iload_n 1 C dX5_readWord_94 rfl ?_
              refine r_ldcS 3 (by decide) C (by decide) dX5_readWord_95 ?_
              refine callVI C cwX5_143_V (ctX5_isWord_1_3 _ _ w29 (sS sC h33) o32 u2 (by omega)) (by decide) (kS sC h33 kc_1) rfl rfl rfl (Nat.le_of_ble_eq_true rfl) (by decide) dX5_readWord_97 (fun r37 w36 y35 => ?_)
              show V x 0 0 w36 100 [(0, .ref (gz (xG x) + 1)), (1, .int u2)] [.int r37]
              obtain ⟨h38, o39⟩ := y35
              have h40 := Ch.tr h33 h38 (by decide) (by decide)
              refine r_if_eq 105 C dX5_readWord_100 (by decide) (fun c41 => ?_) (fun c41 => ?_)
              · have c41' := i_eq c41
                refine r_aload_n 0 C dX5_readWord_105 rfl ?_
                refine r_iload_n 1 C dX5_readWord_106 rfl ?_
                refine r_ldcS 4 (by decide) C (by decide) dX5_readWord_107 ?_
                refine callVI C cwX5_143_V (ctX5_isWord_1_4 _ _ w36 (sS sC h40) o39 u2 (by omega)) (by decide) (kS sC h40 kc_1) rfl rfl rfl (Nat.le_of_ble_eq_true rfl) (by decide) dX5_readWord_109 (fun r44 w43 y42 => ?_)
                show V x 0 0 w43 112 [(0, .ref (gz (xG x) + 1)), (1, .int u2)] [.int r44]
                obtain ⟨h45, o46⟩ := y42
                have h47 := Ch.tr h40 h45 (by decide) (by decide)
                refine r_if_eq 117 C dX5_readWord_112 (by decide) (fun c48 => ?_) (fun c48 => ?_)
                · have c48' := i_eq c48
                  refine r_aload_n 0 C dX5_readWord_117 rfl ?_
                  refine r_iload_n 1 C dX5_readWord_118 rfl ?_
                  refine r_ldcS 5 (by decide) C (by decide) dX5_readWord_119 ?_
                  refine callVI C cwX5_143_V (ctX5_isWord_1_5 _ _ w43 (sS sC h47) o46 u2 (by omega)) (by decide) (kS sC h47 kc_1) rfl rfl rfl (Nat.le_of_ble_eq_true rfl) (by decide) dX5_readWord_121 (fun r51 w50 y49 => ?_)
                  show V x 0 0 w50 124 [(0, .ref (gz (xG x) + 1)), (1, .int u2)] [.int r51]
                  obtain ⟨h52, o53⟩ := y49
                  have h54 := Ch.tr h47 h52 (by decide) (by decide)
                  refine r_if_eq 130 C dX5_readWord_124 (by decide) (fun c55 => ?_) (fun c55 => ?_)
                  · have c55' := i_eq c55
                    refine r_aload_n 0 C dX5_readWord_130 rfl ?_
                    refine r_iload_n 1 C dX5_readWord_131 rfl ?_
                    refine r_ldcS 6 (by decide) C (by decide) dX5_readWord_132 ?_
                    refine callVI C cwX5_143_V (ctX5_isWord_1_6 _ _ w50 (sS sC h54) o53 u2 (by omega)) (by decide) (kS sC h54 kc_1) rfl rfl rfl (Nat.le_of_ble_eq_true rfl) (by decide) dX5_readWord_134 (fun r58 w57 y56 => ?_)
                    show V x 0 0 w57 137 [(0, .ref (gz (xG x) + 1)), (1, .int u2)] [.int r58]
                    obtain ⟨h59, o60⟩ := y56
                    have h61 := Ch.tr h54 h59 (by decide) (by decide)
                    refine r_if_eq 143 C dX5_readWord_137 (by decide) (fun c62 => ?_) (fun c62 => ?_)
                    · have c62' := i_eq c62
                      refine r_aload_n 0 C dX5_readWord_143 rfl ?_
                      refine r_iload_n 1 C dX5_readWord_144 rfl ?_
                      refine r_ldcS 7 (by decide) C (by decide) dX5_readWord_145 ?_
                      refine callVI C cwX5_143_V (ctX5_isWord_1_7 _ _ w57 (sS sC h61) o60 u2 (by omega)) (by decide) (kS sC h61 kc_1) rfl rfl rfl (Nat.le_of_ble_eq_true rfl) (by decide) dX5_readWord_147 (fun r65 w64 y63 => ?_)
                      show V x 0 0 w64 150 [(0, .ref (gz (xG x) + 1)), (1, .int u2)] [.int r65]
                      obtain ⟨h66, o67⟩ := y63
                      have h68 := Ch.tr h61 h66 (by decide) (by decide)
                      refine r_if_eq 158 C dX5_readWord_150 (by decide) (fun c69 => ?_) (fun c69 => ?_)
                      · have c69' := i_eq c69
                        refine r_iconst (v := (-1)) C dX5_readWord_158 (by decide) ?_
                        exact hret _ _ _ _ dX5_readWord_159 rfl ⟨h68, o67⟩
                      · have c69' := i_ne c69
                        refine r_bipush (v := 8) C dX5_readWord_153 (by decide) ?_
                        refine r_goto 159 C dX5_readWord_155 (by decide) ?_
                        exact hret _ _ _ _ dX5_readWord_159 rfl ⟨h68, o67⟩
                    · have c62' := i_ne c62
                      refine r_bipush (v := 7) C dX5_readWord_140 (by decide) ?_
                      exact hret _ _ _ _ dX5_readWord_142 rfl ⟨h61, o60⟩
                  · have c55' := i_ne c55
                    refine r_bipush (v := 6) C dX5_readWord_127 (by decide) ?_
                    exact hret _ _ _ _ dX5_readWord_129 rfl ⟨h54, o53⟩
                · have c48' := i_ne c48
                  refine r_iconst (v := 5) C dX5_readWord_115 (by decide) ?_
                  exact hret _ _ _ _ dX5_readWord_116 rfl ⟨h47, o46⟩
              · have c41' := i_ne c41
                refine r_iconst (v := 3) C dX5_readWord_103 (by decide) ?_
                exact hret _ _ _ _ dX5_readWord_104 rfl ⟨h40, o39⟩
            · have c34' := i_ne c34
              refine r_iconst (v := 2) C dX5_readWord_91 (by decide) ?_
              exact hret _ _ _ _ dX5_readWord_92 rfl ⟨h33, o32⟩
          · have c27' := i_ne c27
            refine r_iconst (v := 1) C dX5_readWord_79 (by decide) ?_
            exact hret _ _ _ _ dX5_readWord_80 rfl ⟨h26, o25⟩
        · have c20' := i_ne c20
          refine r_iconst (v := 4) C dX5_readWord_67 (by decide) ?_
          exact hret _ _ _ _ dX5_readWord_68 rfl ⟨h19, o18⟩
      · have c13' := i_nle c13
        refine r_aload_n 0 C dX5_readWord_16 rfl ?_
        refine gfX5_15 2 C (kS sC h6 kc_1) (xS sC h6 xc_1_3) dX5_readWord_17 ?_
        refine r_aload_n 0 C dX5_readWord_20 rfl ?_
        refine gfX5_27 (v := (wI w5 1 4)) C (kS sC h6 kc_1) rfl dX5_readWord_21 ?_
        refine r_iald C (kS sC h6 kc_2) (vin (by omega) (by omega)) dX5_readWord_24 ?_
        generalize (wI w5 2 ((wI w5 1 4)).toNatClampNeg) = v70
        refine r_bipush (v := 97) C dX5_readWord_25 (by decide) ?_
        refine r_icmp_lt 57 C dX5_readWord_27 (by decide) (fun c71 => ?_) (fun c71 => ?_)
        · have c71' := i_lt c71
          refine r_aload_n 0 C dX5_readWord_57 rfl ?_
          refine r_iload_n 1 C dX5_readWord_58 rfl ?_
          refine r_ldcS 0 (by decide) C (by decide) dX5_readWord_59 ?_
          refine callVI C cwX5_143_V (ctX5_isWord_1_0 _ _ w5 (sS sC h6) o7 u2 (by omega)) (by decide) (kS sC h6 kc_1) rfl rfl rfl (Nat.le_of_ble_eq_true rfl) (by decide) dX5_readWord_61 (fun r74 w73 y72 => ?_)
          show V x 0 0 w73 64 [(0, .ref (gz (xG x) + 1)), (1, .int u2)] [.int r74]
          obtain ⟨h75, o76⟩ := y72
          have h77 := Ch.tr h6 h75 (by decide) (by decide)
          refine r_if_eq 69 C dX5_readWord_64 (by decide) (fun c78 => ?_) (fun c78 => ?_)
          · have c78' := i_eq c78
            refine r_aload_n 0 C dX5_readWord_69 rfl ?_
            refine r_iload_n 1 C dX5_readWord_70 rfl ?_
            refine r_ldcS 1 (by decide) C (by decide) dX5_readWord_71 ?_
            refine callVI C cwX5_143_V (ctX5_isWord_1_1 _ _ w73 (sS sC h77) o76 u2 (by omega)) (by decide) (kS sC h77 kc_1) rfl rfl rfl (Nat.le_of_ble_eq_true rfl) (by decide) dX5_readWord_73 (fun r81 w80 y79 => ?_)
            show V x 0 0 w80 76 [(0, .ref (gz (xG x) + 1)), (1, .int u2)] [.int r81]
            obtain ⟨h82, o83⟩ := y79
            have h84 := Ch.tr h77 h82 (by decide) (by decide)
            refine r_if_eq 81 C dX5_readWord_76 (by decide) (fun c85 => ?_) (fun c85 => ?_)
            · have c85' := i_eq c85
              refine r_aload_n 0 C dX5_readWord_81 rfl ?_
              refine r_iload_n 1 C dX5_readWord_82 rfl ?_
              refine r_ldcS 2 (by decide) C (by decide) dX5_readWord_83 ?_
              refine callVI C cwX5_143_V (ctX5_isWord_1_2 _ _ w80 (sS sC h84) o83 u2 (by omega)) (by decide) (kS sC h84 kc_1) rfl rfl rfl (Nat.le_of_ble_eq_true rfl) (by decide) dX5_readWord_85 (fun r88 w87 y86 => ?_)
              show V x 0 0 w87 88 [(0, .ref (gz (xG x) + 1)), (1, .int u2)] [.int r88]
              obtain ⟨h89, o90⟩ := y86
              have h91 := Ch.tr h84 h89 (by decide) (by decide)
              refine r_if_eq 93 C dX5_readWord_88 (by decide) (fun c92 => ?_) (fun c92 => ?_)
              · have c92' := i_eq c92
                refine r_aload_n 0 C dX5_readWord_93 rfl ?_
                refine r_iload_n 1 C dX5_readWord_94 rfl ?_
                refine r_ldcS 3 (by decide) C (by decide) dX5_readWord_95 ?_
                refine callVI C cwX5_143_V (ctX5_isWord_1_3 _ _ w87 (sS sC h91) o90 u2 (by omega)) (by decide) (kS sC h91 kc_1) rfl rfl rfl (Nat.le_of_ble_eq_true rfl) (by decide) dX5_readWord_97 (fun r95 w94 y93 => ?_)
                show V x 0 0 w94 100 [(0, .ref (gz (xG x) + 1)), (1, .int u2)] [.int r95]
                obtain ⟨h96, o97⟩ := y93
                have h98 := Ch.tr h91 h96 (by decide) (by decide)
                refine r_if_eq 105 C dX5_readWord_100 (by decide) (fun c99 => ?_) (fun c99 => ?_)
                · have c99' := i_eq c99
                  refine r_aload_n 0 C dX5_readWord_105 rfl ?_
                  refine r_iload_n 1 C dX5_readWord_106 rfl ?_
                  refine r_ldcS 4 (by decide) C (by decide) dX5_readWord_107 ?_
                  refine callVI C cwX5_143_V (ctX5_isWord_1_4 _ _ w94 (sS sC h98) o97 u2 (by omega)) (by decide) (kS sC h98 kc_1) rfl rfl rfl (Nat.le_of_ble_eq_true rfl) (by decide) dX5_readWord_109 (fun r102 w101 y100 => ?_)
                  show V x 0 0 w101 112 [(0, .ref (gz (xG x) + 1)), (1, .int u2)] [.int r102]
                  obtain ⟨h103, o104⟩ := y100
                  have h105 := Ch.tr h98 h103 (by decide) (by decide)
                  refine r_if_eq 117 C dX5_readWord_112 (by decide) (fun c106 => ?_) (fun c106 => ?_)
                  · have c106' := i_eq c106
                    refine r_aload_n 0 C dX5_readWord_117 rfl ?_
                    refine r_iload_n 1 C dX5_readWord_118 rfl ?_
                    refine r_ldcS 5 (by decide) C (by decide) dX5_readWord_119 ?_
                    refine callVI C cwX5_143_V (ctX5_isWord_1_5 _ _ w101 (sS sC h105) o104 u2 (by omega)) (by decide) (kS sC h105 kc_1) rfl rfl rfl (Nat.le_of_ble_eq_true rfl) (by decide) dX5_readWord_121 (fun r109 w108 y107 => ?_)
                    show V x 0 0 w108 124 [(0, .ref (gz (xG x) + 1)), (1, .int u2)] [.int r109]
                    obtain ⟨h110, o111⟩ := y107
                    have h112 := Ch.tr h105 h110 (by decide) (by decide)
                    refine r_if_eq 130 C dX5_readWord_124 (by decide) (fun c113 => ?_) (fun c113 => ?_)
                    · have c113' := i_eq c113
                      refine r_aload_n 0 C dX5_readWord_130 rfl ?_
                      refine r_iload_n 1 C dX5_readWord_131 rfl ?_
                      refine r_ldcS 6 (by decide) C (by decide) dX5_readWord_132 ?_
                      refine callVI C cwX5_143_V (ctX5_isWord_1_6 _ _ w108 (sS sC h112) o111 u2 (by omega)) (by decide) (kS sC h112 kc_1) rfl rfl rfl (Nat.le_of_ble_eq_true rfl) (by decide) dX5_readWord_134 (fun r116 w115 y114 => ?_)
                      show V x 0 0 w115 137 [(0, .ref (gz (xG x) + 1)), (1, .int u2)] [.int r116]
                      obtain ⟨h117, o118⟩ := y114
                      have h119 := Ch.tr h112 h117 (by decide) (by decide)
                      refine r_if_eq 143 C dX5_readWord_137 (by decide) (fun c120 => ?_) (fun c120 => ?_)
                      · have c120' := i_eq c120
                        refine r_aload_n 0 C dX5_readWord_143 rfl ?_
                        refine r_iload_n 1 C dX5_readWord_144 rfl ?_
                        refine r_ldcS 7 (by decide) C (by decide) dX5_readWord_145 ?_
                        refine callVI C cwX5_143_V (ctX5_isWord_1_7 _ _ w115 (sS sC h119) o118 u2 (by omega)) (by decide) (kS sC h119 kc_1) rfl rfl rfl (Nat.le_of_ble_eq_true rfl) (by decide) dX5_readWord_147 (fun r123 w122 y121 => ?_)
                        show V x 0 0 w122 150 [(0, .ref (gz (xG x) + 1)), (1, .int u2)] [.int r123]
                        obtain ⟨h124, o125⟩ := y121
                        have h126 := Ch.tr h119 h124 (by decide) (by decide)
                        refine r_if_eq 158 C dX5_readWord_150 (by decide) (fun c127 => ?_) (fun c127 => ?_)
                        · have c127' := i_eq c127
                          refine r_iconst (v := (-1)) C dX5_readWord_158 (by decide) ?_
                          exact hret _ _ _ _ dX5_readWord_159 rfl ⟨h126, o125⟩
                        · have c127' := i_ne c127
                          refine r_bipush (v := 8) C dX5_readWord_153 (by decide) ?_
                          refine r_goto 159 C dX5_readWord_155 (by decide) ?_
                          exact hret _ _ _ _ dX5_readWord_159 rfl ⟨h126, o125⟩
                      · have c120' := i_ne c120
                        refine r_bipush (v := 7) C dX5_readWord_140 (by decide) ?_
                        exact hret _ _ _ _ dX5_readWord_142 rfl ⟨h119, o118⟩
                    · have c113' := i_ne c113
                      refine r_bipush (v := 6) C dX5_readWord_127 (by decide) ?_
                      exact hret _ _ _ _ dX5_readWord_129 rfl ⟨h112, o111⟩
                  · have c106' := i_ne c106
                    refine r_iconst (v := 5) C dX5_readWord_115 (by decide) ?_
                    exact hret _ _ _ _ dX5_readWord_116 rfl ⟨h105, o104⟩
                · have c99' := i_ne c99
                  refine r_iconst (v := 3) C dX5_readWord_103 (by decide) ?_
                  exact hret _ _ _ _ dX5_readWord_104 rfl ⟨h98, o97⟩
              · have c92' := i_ne c92
                refine r_iconst (v := 2) C dX5_readWord_91 (by decide) ?_
                exact hret _ _ _ _ dX5_readWord_92 rfl ⟨h91, o90⟩
            · have c85' := i_ne c85
              refine r_iconst (v := 1) C dX5_readWord_79 (by decide) ?_
              exact hret _ _ _ _ dX5_readWord_80 rfl ⟨h84, o83⟩
          · have c78' := i_ne c78
            refine r_iconst (v := 4) C dX5_readWord_67 (by decide) ?_
            exact hret _ _ _ _ dX5_readWord_68 rfl ⟨h77, o76⟩
        · have c71' := i_nlt c71
          refine r_aload_n 0 C dX5_readWord_30 rfl ?_
          refine gfX5_15 2 C (kS sC h6 kc_1) (xS sC h6 xc_1_3) dX5_readWord_31 ?_
          refine r_aload_n 0 C dX5_readWord_34 rfl ?_
          refine gfX5_27 (v := (wI w5 1 4)) C (kS sC h6 kc_1) rfl dX5_readWord_35 ?_
          refine r_iald C (kS sC h6 kc_2) (vin (by omega) (by omega)) dX5_readWord_38 ?_
          generalize (wI w5 2 ((wI w5 1 4)).toNatClampNeg) = v128
          refine r_bipush (v := 122) C dX5_readWord_39 (by decide) ?_
          refine r_icmp_gt 57 C dX5_readWord_41 (by decide) (fun c129 => ?_) (fun c129 => ?_)
          · have c129' := i_lt c129
            refine r_aload_n 0 C dX5_readWord_57 rfl ?_
            refine r_iload_n 1 C dX5_readWord_58 rfl ?_
            refine r_ldcS 0 (by decide) C (by decide) dX5_readWord_59 ?_
            refine callVI C cwX5_143_V (ctX5_isWord_1_0 _ _ w5 (sS sC h6) o7 u2 (by omega)) (by decide) (kS sC h6 kc_1) rfl rfl rfl (Nat.le_of_ble_eq_true rfl) (by decide) dX5_readWord_61 (fun r132 w131 y130 => ?_)
            show V x 0 0 w131 64 [(0, .ref (gz (xG x) + 1)), (1, .int u2)] [.int r132]
            obtain ⟨h133, o134⟩ := y130
            have h135 := Ch.tr h6 h133 (by decide) (by decide)
            refine r_if_eq 69 C dX5_readWord_64 (by decide) (fun c136 => ?_) (fun c136 => ?_)
            · have c136' := i_eq c136
              refine r_aload_n 0 C dX5_readWord_69 rfl ?_
              refine r_iload_n 1 C dX5_readWord_70 rfl ?_
              refine r_ldcS 1 (by decide) C (by decide) dX5_readWord_71 ?_
              refine callVI C cwX5_143_V (ctX5_isWord_1_1 _ _ w131 (sS sC h135) o134 u2 (by omega)) (by decide) (kS sC h135 kc_1) rfl rfl rfl (Nat.le_of_ble_eq_true rfl) (by decide) dX5_readWord_73 (fun r139 w138 y137 => ?_)
              show V x 0 0 w138 76 [(0, .ref (gz (xG x) + 1)), (1, .int u2)] [.int r139]
              obtain ⟨h140, o141⟩ := y137
              have h142 := Ch.tr h135 h140 (by decide) (by decide)
              refine r_if_eq 81 C dX5_readWord_76 (by decide) (fun c143 => ?_) (fun c143 => ?_)
              · have c143' := i_eq c143
                refine r_aload_n 0 C dX5_readWord_81 rfl ?_
                refine r_iload_n 1 C dX5_readWord_82 rfl ?_
                refine r_ldcS 2 (by decide) C (by decide) dX5_readWord_83 ?_
                refine callVI C cwX5_143_V (ctX5_isWord_1_2 _ _ w138 (sS sC h142) o141 u2 (by omega)) (by decide) (kS sC h142 kc_1) rfl rfl rfl (Nat.le_of_ble_eq_true rfl) (by decide) dX5_readWord_85 (fun r146 w145 y144 => ?_)
                show V x 0 0 w145 88 [(0, .ref (gz (xG x) + 1)), (1, .int u2)] [.int r146]
                obtain ⟨h147, o148⟩ := y144
                have h149 := Ch.tr h142 h147 (by decide) (by decide)
                refine r_if_eq 93 C dX5_readWord_88 (by decide) (fun c150 => ?_) (fun c150 => ?_)
                · have c150' := i_eq c150
                  refine r_aload_n 0 C dX5_readWord_93 rfl ?_
                  refine r_iload_n 1 C dX5_readWord_94 rfl ?_
                  refine r_ldcS 3 (by decide) C (by decide) dX5_readWord_95 ?_
                  refine callVI C cwX5_143_V (ctX5_isWord_1_3 _ _ w145 (sS sC h149) o148 u2 (by omega)) (by decide) (kS sC h149 kc_1) rfl rfl rfl (Nat.le_of_ble_eq_true rfl) (by decide) dX5_readWord_97 (fun r153 w152 y151 => ?_)
                  show V x 0 0 w152 100 [(0, .ref (gz (xG x) + 1)), (1, .int u2)] [.int r153]
                  obtain ⟨h154, o155⟩ := y151
                  have h156 := Ch.tr h149 h154 (by decide) (by decide)
                  refine r_if_eq 105 C dX5_readWord_100 (by decide) (fun c157 => ?_) (fun c157 => ?_)
                  · have c157' := i_eq c157
                    refine r_aload_n 0 C dX5_readWord_105 rfl ?_
                    refine r_iload_n 1 C dX5_readWord_106 rfl ?_
                    refine r_ldcS 4 (by decide) C (by decide) dX5_readWord_107 ?_
                    refine callVI C cwX5_143_V (ctX5_isWord_1_4 _ _ w152 (sS sC h156) o155 u2 (by omega)) (by decide) (kS sC h156 kc_1) rfl rfl rfl (Nat.le_of_ble_eq_true rfl) (by decide) dX5_readWord_109 (fun r160 w159 y158 => ?_)
                    show V x 0 0 w159 112 [(0, .ref (gz (xG x) + 1)), (1, .int u2)] [.int r160]
                    obtain ⟨h161, o162⟩ := y158
                    have h163 := Ch.tr h156 h161 (by decide) (by decide)
                    refine r_if_eq 117 C dX5_readWord_112 (by decide) (fun c164 => ?_) (fun c164 => ?_)
                    · have c164' := i_eq c164
                      refine r_aload_n 0 C dX5_readWord_117 rfl ?_
                      refine r_iload_n 1 C dX5_readWord_118 rfl ?_
                      refine r_ldcS 5 (by decide) C (by decide) dX5_readWord_119 ?_
                      refine callVI C cwX5_143_V (ctX5_isWord_1_5 _ _ w159 (sS sC h163) o162 u2 (by omega)) (by decide) (kS sC h163 kc_1) rfl rfl rfl (Nat.le_of_ble_eq_true rfl) (by decide) dX5_readWord_121 (fun r167 w166 y165 => ?_)
                      show V x 0 0 w166 124 [(0, .ref (gz (xG x) + 1)), (1, .int u2)] [.int r167]
                      obtain ⟨h168, o169⟩ := y165
                      have h170 := Ch.tr h163 h168 (by decide) (by decide)
                      refine r_if_eq 130 C dX5_readWord_124 (by decide) (fun c171 => ?_) (fun c171 => ?_)
                      · have c171' := i_eq c171
                        refine r_aload_n 0 C dX5_readWord_130 rfl ?_
                        refine r_iload_n 1 C dX5_readWord_131 rfl ?_
                        refine r_ldcS 6 (by decide) C (by decide) dX5_readWord_132 ?_
                        refine callVI C cwX5_143_V (ctX5_isWord_1_6 _ _ w166 (sS sC h170) o169 u2 (by omega)) (by decide) (kS sC h170 kc_1) rfl rfl rfl (Nat.le_of_ble_eq_true rfl) (by decide) dX5_readWord_134 (fun r174 w173 y172 => ?_)
                        show V x 0 0 w173 137 [(0, .ref (gz (xG x) + 1)), (1, .int u2)] [.int r174]
                        obtain ⟨h175, o176⟩ := y172
                        have h177 := Ch.tr h170 h175 (by decide) (by decide)
                        refine r_if_eq 143 C dX5_readWord_137 (by decide) (fun c178 => ?_) (fun c178 => ?_)
                        · have c178' := i_eq c178
                          refine r_aload_n 0 C dX5_readWord_143 rfl ?_
                          refine r_iload_n 1 C dX5_readWord_144 rfl ?_
                          refine r_ldcS 7 (by decide) C (by decide) dX5_readWord_145 ?_
                          refine callVI C cwX5_143_V (ctX5_isWord_1_7 _ _ w173 (sS sC h177) o176 u2 (by omega)) (by decide) (kS sC h177 kc_1) rfl rfl rfl (Nat.le_of_ble_eq_true rfl) (by decide) dX5_readWord_147 (fun r181 w180 y179 => ?_)
                          show V x 0 0 w180 150 [(0, .ref (gz (xG x) + 1)), (1, .int u2)] [.int r181]
                          obtain ⟨h182, o183⟩ := y179
                          have h184 := Ch.tr h177 h182 (by decide) (by decide)
                          refine r_if_eq 158 C dX5_readWord_150 (by decide) (fun c185 => ?_) (fun c185 => ?_)
                          · have c185' := i_eq c185
                            refine r_iconst (v := (-1)) C dX5_readWord_158 (by decide) ?_
                            exact hret _ _ _ _ dX5_readWord_159 rfl ⟨h184, o183⟩
                          · have c185' := i_ne c185
                            refine r_bipush (v := 8) C dX5_readWord_153 (by decide) ?_
                            refine r_goto 159 C dX5_readWord_155 (by decide) ?_
                            exact hret _ _ _ _ dX5_readWord_159 rfl ⟨h184, o183⟩
                        · have c178' := i_ne c178
                          refine r_bipush (v := 7) C dX5_readWord_140 (by decide) ?_
                          exact hret _ _ _ _ dX5_readWord_142 rfl ⟨h177, o176⟩
                      · have c171' := i_ne c171
                        refine r_bipush (v := 6) C dX5_readWord_127 (by decide) ?_
                        exact hret _ _ _ _ dX5_readWord_129 rfl ⟨h170, o169⟩
                    · have c164' := i_ne c164
                      refine r_iconst (v := 5) C dX5_readWord_115 (by decide) ?_
                      exact hret _ _ _ _ dX5_readWord_116 rfl ⟨h163, o162⟩
                  · have c157' := i_ne c157
                    refine r_iconst (v := 3) C dX5_readWord_103 (by decide) ?_
                    exact hret _ _ _ _ dX5_readWord_104 rfl ⟨h156, o155⟩
                · have c150' := i_ne c150
                  refine r_iconst (v := 2) C dX5_readWord_91 (by decide) ?_
                  exact hret _ _ _ _ dX5_readWord_92 rfl ⟨h149, o148⟩
              · have c143' := i_ne c143
                refine r_iconst (v := 1) C dX5_readWord_79 (by decide) ?_
                exact hret _ _ _ _ dX5_readWord_80 rfl ⟨h142, o141⟩
            · have c136' := i_ne c136
              refine r_iconst (v := 4) C dX5_readWord_67 (by decide) ?_
              exact hret _ _ _ _ dX5_readWord_68 rfl ⟨h135, o134⟩
          · have c129' := i_nlt c129
            refine r_aload_n 0 C dX5_readWord_44 rfl ?_
            refine r_dup C dX5_readWord_45 rfl ?_
            refine gfX5_27 (v := (wI w5 1 4)) C (kS sC h6 kc_1) rfl dX5_readWord_46 ?_
            refine r_iconst (v := 1) C dX5_readWord_49 (by decide) ?_
            refine r_iadd C dX5_readWord_50 (fun v186 e187 => ?_)
            have v186' := iadd_ok e187 (by omega) (by omega)
            refine pfX5_27 C (kS sC h6 kc_1) dX5_readWord_51 (fun w188 e189 => ?_)
            have h190 := Ch.putF h6 e189 (by decide)
            have o191 := Inv.put o7 e189 0 500 (by omega) (by decide)
            refine r_goto 5 C dX5_readWord_54 (by decide) ?_
            refine r_lv [0, 1] rfl ?_
            exact ih10 u2 w188 h190 o191 (by omega) (by rw [(g_eq e189)]; omega)
  refine r_aload_n 0 C dX5_readWord_0 rfl ?_
  refine gfX5_27 (v := (wI w 1 4)) C (kS sC h0 kc_1) rfl dX5_readWord_1 ?_
  have b1 := Inv.get o0 rt_1_4 (j := 4) (by decide) (by decide)
  refine r_istore_n [(1, .int (wI w 1 4)), (0, .ref (gz (xG x) + 1))] C dX5_readWord_4 (by decide) rfl ?_
  refine r_lv [1, 0] rfl ?_
  exact LP3 4294967296 (wI w 1 4) w h0 o0 (by omega) (by omega)
set_option maxHeartbeats 4000000 in
set_option maxRecDepth 100000 in
theorem ctX5_readEnd_1 (l : Launch) (G : Gt) (w : Wv) (sC : Str KC XC w) (o0 : Inv RC w)  : CtV l G yX5_readEnd cX5_readEnd 1 ({ frames := 1, cells := 0, slots := 0, locals := 22 } : Room) [.ref (gz G + 1)] w (fun w' => Ch [] [(1, 1), (1, 2), (1, 4)] w w' ∧ Inv RC w') := by
  refine enterV (by decide) (Nat.le_of_ble_eq_true rfl) ?_
  intro x el eG C hnm hret
  subst el; subst eG
  show V x 0 0 w 0 [(0, .ref (gz (xG x) + 1))] []
  have h0 : Ch [] [(1, 1), (1, 2), (1, 4)] w w := Ch.rf
  have q1 : (1 : Int32).toInt = 1 := by decide
  have q59 : (59 : Int32).toInt = 59 := by decide
  refine r_aload_n 0 C dX5_readEnd_0 rfl ?_
  refine callVV C cwX5_33_V (ctX5_skipBlanks_1 _ _ w (sS sC h0) o0  ) (by decide) (kS sC h0 kc_1) rfl rfl rfl (Nat.le_of_ble_eq_true rfl) (by decide) dX5_readEnd_1 (fun w2 y1 => ?_)
  show V x 0 0 w2 4 [(0, .ref (gz (xG x) + 1))] []
  obtain ⟨h4, o5⟩ := y1
  have h6 := Ch.tr h0 h4 (by decide) (by decide)
  refine r_aload_n 0 C dX5_readEnd_4 rfl ?_
  refine gfX5_27 (v := (wI w2 1 4)) C (kS sC h6 kc_1) rfl dX5_readEnd_5 ?_
  have b7 := Inv.get o5 rt_1_4 (j := 4) (by decide) (by decide)
  refine r_aload_n 0 C dX5_readEnd_8 rfl ?_
  refine gfX5_19 (v := (wI w 1 0)) C (kS sC h6 kc_1) (h4.I (by decide) (by decide) rfl) dX5_readEnd_9 ?_
  have b8 := Inv.get o0 rt_1_0 (j := 0) (by decide) (by decide)
  refine r_icmp_ge 42 C dX5_readEnd_12 (by decide) (fun c9 => ?_) (fun c9 => ?_)
  · have c9' := i_le c9
    refine r_aload_n 0 C dX5_readEnd_42 rfl ?_
    refine r_iconst (v := 1) C dX5_readEnd_43 (by decide) ?_
    refine r_aload_n 0 C dX5_readEnd_44 rfl ?_
    refine gfX5_27 (v := (wI w2 1 4)) C (kS sC h6 kc_1) rfl dX5_readEnd_45 ?_
    refine callVV C cwX5_43_V (ctX5_blame_1 _ _ w2 (sS sC h6) o5 1 (wI w2 1 4) (by omega)) (by decide) (kS sC h6 kc_1) rfl rfl rfl (Nat.le_of_ble_eq_true rfl) (by decide) dX5_readEnd_48 (fun w11 y10 => ?_)
    show V x 0 0 w11 51 [(0, .ref (gz (xG x) + 1))] []
    obtain ⟨h13, o14, f15⟩ := y10
    have h16 := Ch.tr h6 h13 (by decide) (by decide)
    exact hret _ _ _ dX5_readEnd_51 ⟨h16, o14⟩
  · have c9' := i_nle c9
    refine r_aload_n 0 C dX5_readEnd_15 rfl ?_
    refine gfX5_15 2 C (kS sC h6 kc_1) (xS sC h6 xc_1_3) dX5_readEnd_16 ?_
    refine r_aload_n 0 C dX5_readEnd_19 rfl ?_
    refine gfX5_27 (v := (wI w2 1 4)) C (kS sC h6 kc_1) rfl dX5_readEnd_20 ?_
    refine r_iald C (kS sC h6 kc_2) (vin (by omega) (by omega)) dX5_readEnd_23 ?_
    generalize (wI w2 2 ((wI w2 1 4)).toNatClampNeg) = v17
    refine r_bipush (v := 59) C dX5_readEnd_24 (by decide) ?_
    refine r_icmp_ne 42 C dX5_readEnd_26 (by decide) (fun c18 => ?_) (fun c18 => ?_)
    · have c18' := i_ne c18
      refine r_aload_n 0 C dX5_readEnd_42 rfl ?_
      refine r_iconst (v := 1) C dX5_readEnd_43 (by decide) ?_
      refine r_aload_n 0 C dX5_readEnd_44 rfl ?_
      refine gfX5_27 (v := (wI w2 1 4)) C (kS sC h6 kc_1) rfl dX5_readEnd_45 ?_
      refine callVV C cwX5_43_V (ctX5_blame_1 _ _ w2 (sS sC h6) o5 1 (wI w2 1 4) (by omega)) (by decide) (kS sC h6 kc_1) rfl rfl rfl (Nat.le_of_ble_eq_true rfl) (by decide) dX5_readEnd_48 (fun w20 y19 => ?_)
      show V x 0 0 w20 51 [(0, .ref (gz (xG x) + 1))] []
      obtain ⟨h22, o23, f24⟩ := y19
      have h25 := Ch.tr h6 h22 (by decide) (by decide)
      exact hret _ _ _ dX5_readEnd_51 ⟨h25, o23⟩
    · have c18' := i_eq c18
      refine r_aload_n 0 C dX5_readEnd_29 rfl ?_
      refine r_dup C dX5_readEnd_30 rfl ?_
      refine gfX5_27 (v := (wI w2 1 4)) C (kS sC h6 kc_1) rfl dX5_readEnd_31 ?_
      refine r_iconst (v := 1) C dX5_readEnd_34 (by decide) ?_
      refine r_iadd C dX5_readEnd_35 (fun v26 e27 => ?_)
      have v26' := iadd_ok e27 (by omega) (by omega)
      refine pfX5_27 C (kS sC h6 kc_1) dX5_readEnd_36 (fun w28 e29 => ?_)
      have h30 := Ch.putF h6 e29 (by decide)
      have o31 := Inv.put o5 e29 0 500 (by omega) (by decide)
      refine r_goto 51 C dX5_readEnd_39 (by decide) ?_
      exact hret _ _ _ dX5_readEnd_51 ⟨h30, o31⟩
set_option maxHeartbeats 4000000 in
set_option maxRecDepth 100000 in
theorem ctX5_readNumber_1 (l : Launch) (G : Gt) (w : Wv) (sC : Str KC XC w) (o0 : Inv RC w) (a1 : Int32) (a2 : Int32) : CtI l G yX5_readNumber cX5_readNumber 4 .int ({ frames := 1, cells := 0, slots := 0, locals := 22 } : Room) [.ref (gz G + 1), .int a1, .int a2] w (fun r w' => Ch [] [(1, 1), (1, 2), (1, 4), (1, 5)] w w' ∧ Inv RC w' ∧ (r.toInt = a1.toInt ∨ (a1.toInt ≤ r.toInt ∧ r.toInt ≤ a2.toInt))) := by
  refine enterI (by decide) (Nat.le_of_ble_eq_true rfl) ?_
  intro x el eG C hret
  subst el; subst eG
  show V x 0 0 w 0 [(0, .ref (gz (xG x) + 1)), (1, .int a1), (2, .int a2)] []
  have h0 : Ch [] [(1, 1), (1, 2), (1, 4), (1, 5)] w w := Ch.rf
  have q0 : (0 : Int32).toInt = 0 := by decide
  have q1 : (1 : Int32).toInt = 1 := by decide
  have q2 : (2 : Int32).toInt = 2 := by decide
  have q3 : (3 : Int32).toInt = 3 := by decide
  have q10 : (10 : Int32).toInt = 10 := by decide
  have q48 : (48 : Int32).toInt = 48 := by decide
  have q57 : (57 : Int32).toInt = 57 := by decide
  have LP14 : ∀ (f15 : Nat) (u13 : Int32) (w16 : Wv), Ch [] [(1, 1), (1, 2), (1, 4), (1, 5)] w w16 → Inv RC w16 → 500 - (wI w16 1 4).toInt < f15 → V x 0 0 w16 23 [(0, .ref (gz (xG x) + 1)), (1, .int a1), (2, .int a2), (3, .int u13)] [] := by
    intro f15
    induction f15 with
    | zero => intro u13 w16 h17 o18  z19; have b0 := Inv.get o18 rt_1_4 (j := 4) (by decide) (by decide); exfalso; omega
    | succ f15 ih20 =>
      intro u13 w16 h17 o18  z19
      refine r_aload_n 0 C dX5_readNumber_23 rfl ?_
      refine gfX5_27 (v := (wI w16 1 4)) C (kS sC h17 kc_1) rfl dX5_readNumber_24 ?_
      have b21 := Inv.get o18 rt_1_4 (j := 4) (by decide) (by decide)
      refine r_aload_n 0 C dX5_readNumber_27 rfl ?_
      refine gfX5_19 (v := (wI w 1 0)) C (kS sC h17 kc_1) (h17.I (by decide) (by decide) rfl) dX5_readNumber_28 ?_
      have b22 := Inv.get o0 rt_1_0 (j := 0) (by decide) (by decide)
      refine r_icmp_ge 110 C dX5_readNumber_31 (by decide) (fun c23 => ?_) (fun c23 => ?_)
      · have c23' := i_le c23
        refine r_aload_n 0 C dX5_readNumber_110 rfl ?_
        refine gfX5_27 (v := (wI w16 1 4)) C (kS sC h17 kc_1) rfl dX5_readNumber_111 ?_
        refine r_aload_n 0 C dX5_readNumber_114 rfl ?_
        refine gfX5_116 (v := (wI w16 1 5)) C (kS sC h17 kc_1) rfl dX5_readNumber_115 ?_
        refine r_icmp_ne 133 C dX5_readNumber_118 (by decide) (fun c24 => ?_) (fun c24 => ?_)
        · have c24' := i_ne c24
          refine r_aload_n 0 C dX5_readNumber_133 rfl ?_
          refine gfX5_27 (v := (wI w16 1 4)) C (kS sC h17 kc_1) rfl dX5_readNumber_134 ?_
          refine r_aload_n 0 C dX5_readNumber_137 rfl ?_
          refine gfX5_116 (v := (wI w16 1 5)) C (kS sC h17 kc_1) rfl dX5_readNumber_138 ?_
          refine r_isub C dX5_readNumber_141 (fun v25 e26 => ?_)
          refine r_iconst (v := 3) C dX5_readNumber_142 (by decide) ?_
          refine r_icmp_gt 156 C dX5_readNumber_143 (by decide) (fun c27 => ?_) (fun c27 => ?_)
          · have c27' := i_lt c27
            refine r_aload_n 0 C dX5_readNumber_156 rfl ?_
            refine r_iconst (v := 2) C dX5_readNumber_157 (by decide) ?_
            refine r_aload_n 0 C dX5_readNumber_158 rfl ?_
            refine gfX5_116 (v := (wI w16 1 5)) C (kS sC h17 kc_1) rfl dX5_readNumber_159 ?_
            refine callVV C cwX5_43_V (ctX5_blame_1 _ _ w16 (sS sC h17) o18 2 (wI w16 1 5) (by omega)) (by decide) (kS sC h17 kc_1) rfl rfl rfl (Nat.le_of_ble_eq_true rfl) (by decide) dX5_readNumber_162 (fun w29 y28 => ?_)
            show V x 0 0 w29 165 [(0, .ref (gz (xG x) + 1)), (1, .int a1), (2, .int a2), (3, .int u13)] []
            obtain ⟨h31, o32, f33⟩ := y28
            have h34 := Ch.tr h17 h31 (by decide) (by decide)
            refine r_aload_n 0 C dX5_readNumber_165 rfl ?_
            refine gfX5_30 (v := (wI w29 1 1)) C (kS sC h34 kc_1) rfl dX5_readNumber_166 ?_
            refine r_if_ne 176 C dX5_readNumber_169 (by decide) (fun c35 => ?_) (fun c35 => ?_)
            · have c35' := i_ne c35
              refine r_iload_n 1 C dX5_readNumber_176 rfl ?_
              exact hret _ _ _ _ dX5_readNumber_177 rfl ⟨h34, o32, by omega⟩
            · have c35' := i_eq c35
              refine r_iload_n 3 C dX5_readNumber_172 rfl ?_
              refine r_goto 177 C dX5_readNumber_173 (by decide) ?_
              exact hret _ _ _ _ dX5_readNumber_177 rfl ⟨h34, o32, by omega⟩
          · have c27' := i_nlt c27
            refine r_iload_n 3 C dX5_readNumber_146 rfl ?_
            refine r_iload_n 1 C dX5_readNumber_147 rfl ?_
            refine r_icmp_lt 156 C dX5_readNumber_148 (by decide) (fun c36 => ?_) (fun c36 => ?_)
            · have c36' := i_lt c36
              refine r_aload_n 0 C dX5_readNumber_156 rfl ?_
              refine r_iconst (v := 2) C dX5_readNumber_157 (by decide) ?_
              refine r_aload_n 0 C dX5_readNumber_158 rfl ?_
              refine gfX5_116 (v := (wI w16 1 5)) C (kS sC h17 kc_1) rfl dX5_readNumber_159 ?_
              refine callVV C cwX5_43_V (ctX5_blame_1 _ _ w16 (sS sC h17) o18 2 (wI w16 1 5) (by omega)) (by decide) (kS sC h17 kc_1) rfl rfl rfl (Nat.le_of_ble_eq_true rfl) (by decide) dX5_readNumber_162 (fun w38 y37 => ?_)
              show V x 0 0 w38 165 [(0, .ref (gz (xG x) + 1)), (1, .int a1), (2, .int a2), (3, .int u13)] []
              obtain ⟨h40, o41, f42⟩ := y37
              have h43 := Ch.tr h17 h40 (by decide) (by decide)
              refine r_aload_n 0 C dX5_readNumber_165 rfl ?_
              refine gfX5_30 (v := (wI w38 1 1)) C (kS sC h43 kc_1) rfl dX5_readNumber_166 ?_
              refine r_if_ne 176 C dX5_readNumber_169 (by decide) (fun c44 => ?_) (fun c44 => ?_)
              · have c44' := i_ne c44
                refine r_iload_n 1 C dX5_readNumber_176 rfl ?_
                exact hret _ _ _ _ dX5_readNumber_177 rfl ⟨h43, o41, by omega⟩
              · have c44' := i_eq c44
                refine r_iload_n 3 C dX5_readNumber_172 rfl ?_
                refine r_goto 177 C dX5_readNumber_173 (by decide) ?_
                exact hret _ _ _ _ dX5_readNumber_177 rfl ⟨h43, o41, by omega⟩
            · have c36' := i_nlt c36
              refine r_iload_n 3 C dX5_readNumber_151 rfl ?_
              refine r_iload_n 2 C dX5_readNumber_152 rfl ?_
              refine r_icmp_le 165 C dX5_readNumber_153 (by decide) (fun c45 => ?_) (fun c45 => ?_)
              · have c45' := i_le c45
                refine r_aload_n 0 C dX5_readNumber_165 rfl ?_
                refine gfX5_30 (v := (wI w16 1 1)) C (kS sC h17 kc_1) rfl dX5_readNumber_166 ?_
                refine r_if_ne 176 C dX5_readNumber_169 (by decide) (fun c46 => ?_) (fun c46 => ?_)
                · have c46' := i_ne c46
                  refine r_iload_n 1 C dX5_readNumber_176 rfl ?_
                  exact hret _ _ _ _ dX5_readNumber_177 rfl ⟨h17, o18, by omega⟩
                · have c46' := i_eq c46
                  refine r_iload_n 3 C dX5_readNumber_172 rfl ?_
                  refine r_goto 177 C dX5_readNumber_173 (by decide) ?_
                  exact hret _ _ _ _ dX5_readNumber_177 rfl ⟨h17, o18, by omega⟩
              · have c45' := i_nle c45
                refine r_aload_n 0 C dX5_readNumber_156 rfl ?_
                refine r_iconst (v := 2) C dX5_readNumber_157 (by decide) ?_
                refine r_aload_n 0 C dX5_readNumber_158 rfl ?_
                refine gfX5_116 (v := (wI w16 1 5)) C (kS sC h17 kc_1) rfl dX5_readNumber_159 ?_
                refine callVV C cwX5_43_V (ctX5_blame_1 _ _ w16 (sS sC h17) o18 2 (wI w16 1 5) (by omega)) (by decide) (kS sC h17 kc_1) rfl rfl rfl (Nat.le_of_ble_eq_true rfl) (by decide) dX5_readNumber_162 (fun w48 y47 => ?_)
                show V x 0 0 w48 165 [(0, .ref (gz (xG x) + 1)), (1, .int a1), (2, .int a2), (3, .int u13)] []
                obtain ⟨h50, o51, f52⟩ := y47
                have h53 := Ch.tr h17 h50 (by decide) (by decide)
                refine r_aload_n 0 C dX5_readNumber_165 rfl ?_
                refine gfX5_30 (v := (wI w48 1 1)) C (kS sC h53 kc_1) rfl dX5_readNumber_166 ?_
                refine r_if_ne 176 C dX5_readNumber_169 (by decide) (fun c54 => ?_) (fun c54 => ?_)
                · have c54' := i_ne c54
                  refine r_iload_n 1 C dX5_readNumber_176 rfl ?_
                  exact hret _ _ _ _ dX5_readNumber_177 rfl ⟨h53, o51, by omega⟩
                · have c54' := i_eq c54
                  refine r_iload_n 3 C dX5_readNumber_172 rfl ?_
                  refine r_goto 177 C dX5_readNumber_173 (by decide) ?_
                  exact hret _ _ _ _ dX5_readNumber_177 rfl ⟨h53, o51, by omega⟩
        · have c24' := i_eq c24
          refine r_aload_n 0 C dX5_readNumber_121 rfl ?_
          refine r_iconst (v := 1) C dX5_readNumber_122 (by decide) ?_
          refine r_aload_n 0 C dX5_readNumber_123 rfl ?_
          refine gfX5_116 (v := (wI w16 1 5)) C (kS sC h17 kc_1) rfl dX5_readNumber_124 ?_
          refine callVV C cwX5_43_V (ctX5_blame_1 _ _ w16 (sS sC h17) o18 1 (wI w16 1 5) (by omega)) (by decide) (kS sC h17 kc_1) rfl rfl rfl (Nat.le_of_ble_eq_true rfl) (by decide) dX5_readNumber_127 (fun w56 y55 => ?_)
          show V x 0 0 w56 130 [(0, .ref (gz (xG x) + 1)), (1, .int a1), (2, .int a2), (3, .int u13)] []
          obtain ⟨h58, o59, f60⟩ := y55
          have h61 := Ch.tr h17 h58 (by decide) (by decide)
          refine r_goto 165 C dX5_readNumber_130 (by decide) ?_
          refine r_aload_n 0 C dX5_readNumber_165 rfl ?_
          refine gfX5_30 (v := (wI w56 1 1)) C (kS sC h61 kc_1) rfl dX5_readNumber_166 ?_
          refine r_if_ne 176 C dX5_readNumber_169 (by decide) (fun c62 => ?_) (fun c62 => ?_)
          · have c62' := i_ne c62
            refine r_iload_n 1 C dX5_readNumber_176 rfl ?_
            exact hret _ _ _ _ dX5_readNumber_177 rfl ⟨h61, o59, by omega⟩
          · have c62' := i_eq c62
            refine r_iload_n 3 C dX5_readNumber_172 rfl ?_
            refine r_goto 177 C dX5_readNumber_173 (by decide) ?_
            exact hret _ _ _ _ dX5_readNumber_177 rfl ⟨h61, o59, by omega⟩
      · have c23' := i_nle c23
        refine r_aload_n 0 C dX5_readNumber_34 rfl ?_
        refine gfX5_15 2 C (kS sC h17 kc_1) (xS sC h17 xc_1_3) dX5_readNumber_35 ?_
        refine r_aload_n 0 C dX5_readNumber_38 rfl ?_
        refine gfX5_27 (v := (wI w16 1 4)) C (kS sC h17 kc_1) rfl dX5_readNumber_39 ?_
        refine r_iald C (kS sC h17 kc_2) (vin (by omega) (by omega)) dX5_readNumber_42 ?_
        generalize (wI w16 2 ((wI w16 1 4)).toNatClampNeg) = v63
        refine r_bipush (v := 48) C dX5_readNumber_43 (by decide) ?_
        refine r_icmp_lt 110 C dX5_readNumber_45 (by decide) (fun c64 => ?_) (fun c64 => ?_)
        · have c64' := i_lt c64
          refine r_aload_n 0 C dX5_readNumber_110 rfl ?_
          refine gfX5_27 (v := (wI w16 1 4)) C (kS sC h17 kc_1) rfl dX5_readNumber_111 ?_
          refine r_aload_n 0 C dX5_readNumber_114 rfl ?_
          refine gfX5_116 (v := (wI w16 1 5)) C (kS sC h17 kc_1) rfl dX5_readNumber_115 ?_
          refine r_icmp_ne 133 C dX5_readNumber_118 (by decide) (fun c65 => ?_) (fun c65 => ?_)
          · have c65' := i_ne c65
            refine r_aload_n 0 C dX5_readNumber_133 rfl ?_
            refine gfX5_27 (v := (wI w16 1 4)) C (kS sC h17 kc_1) rfl dX5_readNumber_134 ?_
            refine r_aload_n 0 C dX5_readNumber_137 rfl ?_
            refine gfX5_116 (v := (wI w16 1 5)) C (kS sC h17 kc_1) rfl dX5_readNumber_138 ?_
            refine r_isub C dX5_readNumber_141 (fun v66 e67 => ?_)
            refine r_iconst (v := 3) C dX5_readNumber_142 (by decide) ?_
            refine r_icmp_gt 156 C dX5_readNumber_143 (by decide) (fun c68 => ?_) (fun c68 => ?_)
            · have c68' := i_lt c68
              refine r_aload_n 0 C dX5_readNumber_156 rfl ?_
              refine r_iconst (v := 2) C dX5_readNumber_157 (by decide) ?_
              refine r_aload_n 0 C dX5_readNumber_158 rfl ?_
              refine gfX5_116 (v := (wI w16 1 5)) C (kS sC h17 kc_1) rfl dX5_readNumber_159 ?_
              refine callVV C cwX5_43_V (ctX5_blame_1 _ _ w16 (sS sC h17) o18 2 (wI w16 1 5) (by omega)) (by decide) (kS sC h17 kc_1) rfl rfl rfl (Nat.le_of_ble_eq_true rfl) (by decide) dX5_readNumber_162 (fun w70 y69 => ?_)
              show V x 0 0 w70 165 [(0, .ref (gz (xG x) + 1)), (1, .int a1), (2, .int a2), (3, .int u13)] []
              obtain ⟨h72, o73, f74⟩ := y69
              have h75 := Ch.tr h17 h72 (by decide) (by decide)
              refine r_aload_n 0 C dX5_readNumber_165 rfl ?_
              refine gfX5_30 (v := (wI w70 1 1)) C (kS sC h75 kc_1) rfl dX5_readNumber_166 ?_
              refine r_if_ne 176 C dX5_readNumber_169 (by decide) (fun c76 => ?_) (fun c76 => ?_)
              · have c76' := i_ne c76
                refine r_iload_n 1 C dX5_readNumber_176 rfl ?_
                exact hret _ _ _ _ dX5_readNumber_177 rfl ⟨h75, o73, by omega⟩
              · have c76' := i_eq c76
                refine r_iload_n 3 C dX5_readNumber_172 rfl ?_
                refine r_goto 177 C dX5_readNumber_173 (by decide) ?_
                exact hret _ _ _ _ dX5_readNumber_177 rfl ⟨h75, o73, by omega⟩
            · have c68' := i_nlt c68
              refine r_iload_n 3 C dX5_readNumber_146 rfl ?_
              refine r_iload_n 1 C dX5_readNumber_147 rfl ?_
              refine r_icmp_lt 156 C dX5_readNumber_148 (by decide) (fun c77 => ?_) (fun c77 => ?_)
              · have c77' := i_lt c77
                refine r_aload_n 0 C dX5_readNumber_156 rfl ?_
                refine r_iconst (v := 2) C dX5_readNumber_157 (by decide) ?_
                refine r_aload_n 0 C dX5_readNumber_158 rfl ?_
                refine gfX5_116 (v := (wI w16 1 5)) C (kS sC h17 kc_1) rfl dX5_readNumber_159 ?_
                refine callVV C cwX5_43_V (ctX5_blame_1 _ _ w16 (sS sC h17) o18 2 (wI w16 1 5) (by omega)) (by decide) (kS sC h17 kc_1) rfl rfl rfl (Nat.le_of_ble_eq_true rfl) (by decide) dX5_readNumber_162 (fun w79 y78 => ?_)
                show V x 0 0 w79 165 [(0, .ref (gz (xG x) + 1)), (1, .int a1), (2, .int a2), (3, .int u13)] []
                obtain ⟨h81, o82, f83⟩ := y78
                have h84 := Ch.tr h17 h81 (by decide) (by decide)
                refine r_aload_n 0 C dX5_readNumber_165 rfl ?_
                refine gfX5_30 (v := (wI w79 1 1)) C (kS sC h84 kc_1) rfl dX5_readNumber_166 ?_
                refine r_if_ne 176 C dX5_readNumber_169 (by decide) (fun c85 => ?_) (fun c85 => ?_)
                · have c85' := i_ne c85
                  refine r_iload_n 1 C dX5_readNumber_176 rfl ?_
                  exact hret _ _ _ _ dX5_readNumber_177 rfl ⟨h84, o82, by omega⟩
                · have c85' := i_eq c85
                  refine r_iload_n 3 C dX5_readNumber_172 rfl ?_
                  refine r_goto 177 C dX5_readNumber_173 (by decide) ?_
                  exact hret _ _ _ _ dX5_readNumber_177 rfl ⟨h84, o82, by omega⟩
              · have c77' := i_nlt c77
                refine r_iload_n 3 C dX5_readNumber_151 rfl ?_
                refine r_iload_n 2 C dX5_readNumber_152 rfl ?_
                refine r_icmp_le 165 C dX5_readNumber_153 (by decide) (fun c86 => ?_) (fun c86 => ?_)
                · have c86' := i_le c86
                  refine r_aload_n 0 C dX5_readNumber_165 rfl ?_
                  refine gfX5_30 (v := (wI w16 1 1)) C (kS sC h17 kc_1) rfl dX5_readNumber_166 ?_
                  refine r_if_ne 176 C dX5_readNumber_169 (by decide) (fun c87 => ?_) (fun c87 => ?_)
                  · have c87' := i_ne c87
                    refine r_iload_n 1 C dX5_readNumber_176 rfl ?_
                    exact hret _ _ _ _ dX5_readNumber_177 rfl ⟨h17, o18, by omega⟩
                  · have c87' := i_eq c87
                    refine r_iload_n 3 C dX5_readNumber_172 rfl ?_
                    refine r_goto 177 C dX5_readNumber_173 (by decide) ?_
                    exact hret _ _ _ _ dX5_readNumber_177 rfl ⟨h17, o18, by omega⟩
                · have c86' := i_nle c86
                  refine r_aload_n 0 C dX5_readNumber_156 rfl ?_
                  refine r_iconst (v := 2) C dX5_readNumber_157 (by decide) ?_
                  refine r_aload_n 0 C dX5_readNumber_158 rfl ?_
                  refine gfX5_116 (v := (wI w16 1 5)) C (kS sC h17 kc_1) rfl dX5_readNumber_159 ?_
                  refine callVV C cwX5_43_V (ctX5_blame_1 _ _ w16 (sS sC h17) o18 2 (wI w16 1 5) (by omega)) (by decide) (kS sC h17 kc_1) rfl rfl rfl (Nat.le_of_ble_eq_true rfl) (by decide) dX5_readNumber_162 (fun w89 y88 => ?_)
                  show V x 0 0 w89 165 [(0, .ref (gz (xG x) + 1)), (1, .int a1), (2, .int a2), (3, .int u13)] []
                  obtain ⟨h91, o92, f93⟩ := y88
                  have h94 := Ch.tr h17 h91 (by decide) (by decide)
                  refine r_aload_n 0 C dX5_readNumber_165 rfl ?_
                  refine gfX5_30 (v := (wI w89 1 1)) C (kS sC h94 kc_1) rfl dX5_readNumber_166 ?_
                  refine r_if_ne 176 C dX5_readNumber_169 (by decide) (fun c95 => ?_) (fun c95 => ?_)
                  · have c95' := i_ne c95
                    refine r_iload_n 1 C dX5_readNumber_176 rfl ?_
                    exact hret _ _ _ _ dX5_readNumber_177 rfl ⟨h94, o92, by omega⟩
                  · have c95' := i_eq c95
                    refine r_iload_n 3 C dX5_readNumber_172 rfl ?_
                    refine r_goto 177 C dX5_readNumber_173 (by decide) ?_
                    exact hret _ _ _ _ dX5_readNumber_177 rfl ⟨h94, o92, by omega⟩
          · have c65' := i_eq c65
            refine r_aload_n 0 C dX5_readNumber_121 rfl ?_
            refine r_iconst (v := 1) C dX5_readNumber_122 (by decide) ?_
            refine r_aload_n 0 C dX5_readNumber_123 rfl ?_
            refine gfX5_116 (v := (wI w16 1 5)) C (kS sC h17 kc_1) rfl dX5_readNumber_124 ?_
            refine callVV C cwX5_43_V (ctX5_blame_1 _ _ w16 (sS sC h17) o18 1 (wI w16 1 5) (by omega)) (by decide) (kS sC h17 kc_1) rfl rfl rfl (Nat.le_of_ble_eq_true rfl) (by decide) dX5_readNumber_127 (fun w97 y96 => ?_)
            show V x 0 0 w97 130 [(0, .ref (gz (xG x) + 1)), (1, .int a1), (2, .int a2), (3, .int u13)] []
            obtain ⟨h99, o100, f101⟩ := y96
            have h102 := Ch.tr h17 h99 (by decide) (by decide)
            refine r_goto 165 C dX5_readNumber_130 (by decide) ?_
            refine r_aload_n 0 C dX5_readNumber_165 rfl ?_
            refine gfX5_30 (v := (wI w97 1 1)) C (kS sC h102 kc_1) rfl dX5_readNumber_166 ?_
            refine r_if_ne 176 C dX5_readNumber_169 (by decide) (fun c103 => ?_) (fun c103 => ?_)
            · have c103' := i_ne c103
              refine r_iload_n 1 C dX5_readNumber_176 rfl ?_
              exact hret _ _ _ _ dX5_readNumber_177 rfl ⟨h102, o100, by omega⟩
            · have c103' := i_eq c103
              refine r_iload_n 3 C dX5_readNumber_172 rfl ?_
              refine r_goto 177 C dX5_readNumber_173 (by decide) ?_
              exact hret _ _ _ _ dX5_readNumber_177 rfl ⟨h102, o100, by omega⟩
        · have c64' := i_nlt c64
          refine r_aload_n 0 C dX5_readNumber_48 rfl ?_
          refine gfX5_15 2 C (kS sC h17 kc_1) (xS sC h17 xc_1_3) dX5_readNumber_49 ?_
          refine r_aload_n 0 C dX5_readNumber_52 rfl ?_
          refine gfX5_27 (v := (wI w16 1 4)) C (kS sC h17 kc_1) rfl dX5_readNumber_53 ?_
          refine r_iald C (kS sC h17 kc_2) (vin (by omega) (by omega)) dX5_readNumber_56 ?_
          generalize (wI w16 2 ((wI w16 1 4)).toNatClampNeg) = v104
          refine r_bipush (v := 57) C dX5_readNumber_57 (by decide) ?_
          refine r_icmp_gt 110 C dX5_readNumber_59 (by decide) (fun c105 => ?_) (fun c105 => ?_)
          · have c105' := i_lt c105
            refine r_aload_n 0 C dX5_readNumber_110 rfl ?_
            refine gfX5_27 (v := (wI w16 1 4)) C (kS sC h17 kc_1) rfl dX5_readNumber_111 ?_
            refine r_aload_n 0 C dX5_readNumber_114 rfl ?_
            refine gfX5_116 (v := (wI w16 1 5)) C (kS sC h17 kc_1) rfl dX5_readNumber_115 ?_
            refine r_icmp_ne 133 C dX5_readNumber_118 (by decide) (fun c106 => ?_) (fun c106 => ?_)
            · have c106' := i_ne c106
              refine r_aload_n 0 C dX5_readNumber_133 rfl ?_
              refine gfX5_27 (v := (wI w16 1 4)) C (kS sC h17 kc_1) rfl dX5_readNumber_134 ?_
              refine r_aload_n 0 C dX5_readNumber_137 rfl ?_
              refine gfX5_116 (v := (wI w16 1 5)) C (kS sC h17 kc_1) rfl dX5_readNumber_138 ?_
              refine r_isub C dX5_readNumber_141 (fun v107 e108 => ?_)
              refine r_iconst (v := 3) C dX5_readNumber_142 (by decide) ?_
              refine r_icmp_gt 156 C dX5_readNumber_143 (by decide) (fun c109 => ?_) (fun c109 => ?_)
              · have c109' := i_lt c109
                refine r_aload_n 0 C dX5_readNumber_156 rfl ?_
                refine r_iconst (v := 2) C dX5_readNumber_157 (by decide) ?_
                refine r_aload_n 0 C dX5_readNumber_158 rfl ?_
                refine gfX5_116 (v := (wI w16 1 5)) C (kS sC h17 kc_1) rfl dX5_readNumber_159 ?_
                refine callVV C cwX5_43_V (ctX5_blame_1 _ _ w16 (sS sC h17) o18 2 (wI w16 1 5) (by omega)) (by decide) (kS sC h17 kc_1) rfl rfl rfl (Nat.le_of_ble_eq_true rfl) (by decide) dX5_readNumber_162 (fun w111 y110 => ?_)
                show V x 0 0 w111 165 [(0, .ref (gz (xG x) + 1)), (1, .int a1), (2, .int a2), (3, .int u13)] []
                obtain ⟨h113, o114, f115⟩ := y110
                have h116 := Ch.tr h17 h113 (by decide) (by decide)
                refine r_aload_n 0 C dX5_readNumber_165 rfl ?_
                refine gfX5_30 (v := (wI w111 1 1)) C (kS sC h116 kc_1) rfl dX5_readNumber_166 ?_
                refine r_if_ne 176 C dX5_readNumber_169 (by decide) (fun c117 => ?_) (fun c117 => ?_)
                · have c117' := i_ne c117
                  refine r_iload_n 1 C dX5_readNumber_176 rfl ?_
                  exact hret _ _ _ _ dX5_readNumber_177 rfl ⟨h116, o114, by omega⟩
                · have c117' := i_eq c117
                  refine r_iload_n 3 C dX5_readNumber_172 rfl ?_
                  refine r_goto 177 C dX5_readNumber_173 (by decide) ?_
                  exact hret _ _ _ _ dX5_readNumber_177 rfl ⟨h116, o114, by omega⟩
              · have c109' := i_nlt c109
                refine r_iload_n 3 C dX5_readNumber_146 rfl ?_
                refine r_iload_n 1 C dX5_readNumber_147 rfl ?_
                refine r_icmp_lt 156 C dX5_readNumber_148 (by decide) (fun c118 => ?_) (fun c118 => ?_)
                · have c118' := i_lt c118
                  refine r_aload_n 0 C dX5_readNumber_156 rfl ?_
                  refine r_iconst (v := 2) C dX5_readNumber_157 (by decide) ?_
                  refine r_aload_n 0 C dX5_readNumber_158 rfl ?_
                  refine gfX5_116 (v := (wI w16 1 5)) C (kS sC h17 kc_1) rfl dX5_readNumber_159 ?_
                  refine callVV C cwX5_43_V (ctX5_blame_1 _ _ w16 (sS sC h17) o18 2 (wI w16 1 5) (by omega)) (by decide) (kS sC h17 kc_1) rfl rfl rfl (Nat.le_of_ble_eq_true rfl) (by decide) dX5_readNumber_162 (fun w120 y119 => ?_)
                  show V x 0 0 w120 165 [(0, .ref (gz (xG x) + 1)), (1, .int a1), (2, .int a2), (3, .int u13)] []
                  obtain ⟨h122, o123, f124⟩ := y119
                  have h125 := Ch.tr h17 h122 (by decide) (by decide)
                  refine r_aload_n 0 C dX5_readNumber_165 rfl ?_
                  refine gfX5_30 (v := (wI w120 1 1)) C (kS sC h125 kc_1) rfl dX5_readNumber_166 ?_
                  refine r_if_ne 176 C dX5_readNumber_169 (by decide) (fun c126 => ?_) (fun c126 => ?_)
                  · have c126' := i_ne c126
                    refine r_iload_n 1 C dX5_readNumber_176 rfl ?_
                    exact hret _ _ _ _ dX5_readNumber_177 rfl ⟨h125, o123, by omega⟩
                  · have c126' := i_eq c126
                    refine r_iload_n 3 C dX5_readNumber_172 rfl ?_
                    refine r_goto 177 C dX5_readNumber_173 (by decide) ?_
                    exact hret _ _ _ _ dX5_readNumber_177 rfl ⟨h125, o123, by omega⟩
                · have c118' := i_nlt c118
                  refine r_iload_n 3 C dX5_readNumber_151 rfl ?_
                  refine r_iload_n 2 C dX5_readNumber_152 rfl ?_
                  refine r_icmp_le 165 C dX5_readNumber_153 (by decide) (fun c127 => ?_) (fun c127 => ?_)
                  · have c127' := i_le c127
                    refine r_aload_n 0 C dX5_readNumber_165 rfl ?_
                    refine gfX5_30 (v := (wI w16 1 1)) C (kS sC h17 kc_1) rfl dX5_readNumber_166 ?_
                    refine r_if_ne 176 C dX5_readNumber_169 (by decide) (fun c128 => ?_) (fun c128 => ?_)
                    · have c128' := i_ne c128
                      refine r_iload_n 1 C dX5_readNumber_176 rfl ?_
                      exact hret _ _ _ _ dX5_readNumber_177 rfl ⟨h17, o18, by omega⟩
                    · have c128' := i_eq c128
                      refine r_iload_n 3 C dX5_readNumber_172 rfl ?_
                      refine r_goto 177 C dX5_readNumber_173 (by decide) ?_
                      exact hret _ _ _ _ dX5_readNumber_177 rfl ⟨h17, o18, by omega⟩
                  · have c127' := i_nle c127
                    refine r_aload_n 0 C dX5_readNumber_156 rfl ?_
                    refine r_iconst (v := 2) C dX5_readNumber_157 (by decide) ?_
                    refine r_aload_n 0 C dX5_readNumber_158 rfl ?_
                    refine gfX5_116 (v := (wI w16 1 5)) C (kS sC h17 kc_1) rfl dX5_readNumber_159 ?_
                    refine callVV C cwX5_43_V (ctX5_blame_1 _ _ w16 (sS sC h17) o18 2 (wI w16 1 5) (by omega)) (by decide) (kS sC h17 kc_1) rfl rfl rfl (Nat.le_of_ble_eq_true rfl) (by decide) dX5_readNumber_162 (fun w130 y129 => ?_)
                    show V x 0 0 w130 165 [(0, .ref (gz (xG x) + 1)), (1, .int a1), (2, .int a2), (3, .int u13)] []
                    obtain ⟨h132, o133, f134⟩ := y129
                    have h135 := Ch.tr h17 h132 (by decide) (by decide)
                    refine r_aload_n 0 C dX5_readNumber_165 rfl ?_
                    refine gfX5_30 (v := (wI w130 1 1)) C (kS sC h135 kc_1) rfl dX5_readNumber_166 ?_
                    refine r_if_ne 176 C dX5_readNumber_169 (by decide) (fun c136 => ?_) (fun c136 => ?_)
                    · have c136' := i_ne c136
                      refine r_iload_n 1 C dX5_readNumber_176 rfl ?_
                      exact hret _ _ _ _ dX5_readNumber_177 rfl ⟨h135, o133, by omega⟩
                    · have c136' := i_eq c136
                      refine r_iload_n 3 C dX5_readNumber_172 rfl ?_
                      refine r_goto 177 C dX5_readNumber_173 (by decide) ?_
                      exact hret _ _ _ _ dX5_readNumber_177 rfl ⟨h135, o133, by omega⟩
            · have c106' := i_eq c106
              refine r_aload_n 0 C dX5_readNumber_121 rfl ?_
              refine r_iconst (v := 1) C dX5_readNumber_122 (by decide) ?_
              refine r_aload_n 0 C dX5_readNumber_123 rfl ?_
              refine gfX5_116 (v := (wI w16 1 5)) C (kS sC h17 kc_1) rfl dX5_readNumber_124 ?_
              refine callVV C cwX5_43_V (ctX5_blame_1 _ _ w16 (sS sC h17) o18 1 (wI w16 1 5) (by omega)) (by decide) (kS sC h17 kc_1) rfl rfl rfl (Nat.le_of_ble_eq_true rfl) (by decide) dX5_readNumber_127 (fun w138 y137 => ?_)
              show V x 0 0 w138 130 [(0, .ref (gz (xG x) + 1)), (1, .int a1), (2, .int a2), (3, .int u13)] []
              obtain ⟨h140, o141, f142⟩ := y137
              have h143 := Ch.tr h17 h140 (by decide) (by decide)
              refine r_goto 165 C dX5_readNumber_130 (by decide) ?_
              refine r_aload_n 0 C dX5_readNumber_165 rfl ?_
              refine gfX5_30 (v := (wI w138 1 1)) C (kS sC h143 kc_1) rfl dX5_readNumber_166 ?_
              refine r_if_ne 176 C dX5_readNumber_169 (by decide) (fun c144 => ?_) (fun c144 => ?_)
              · have c144' := i_ne c144
                refine r_iload_n 1 C dX5_readNumber_176 rfl ?_
                exact hret _ _ _ _ dX5_readNumber_177 rfl ⟨h143, o141, by omega⟩
              · have c144' := i_eq c144
                refine r_iload_n 3 C dX5_readNumber_172 rfl ?_
                refine r_goto 177 C dX5_readNumber_173 (by decide) ?_
                exact hret _ _ _ _ dX5_readNumber_177 rfl ⟨h143, o141, by omega⟩
          · have c105' := i_nlt c105
            refine r_aload_n 0 C dX5_readNumber_62 rfl ?_
            refine gfX5_27 (v := (wI w16 1 4)) C (kS sC h17 kc_1) rfl dX5_readNumber_63 ?_
            refine r_aload_n 0 C dX5_readNumber_66 rfl ?_
            refine gfX5_116 (v := (wI w16 1 5)) C (kS sC h17 kc_1) rfl dX5_readNumber_67 ?_
            refine r_isub C dX5_readNumber_70 (fun v145 e146 => ?_)
            refine r_iconst (v := 3) C dX5_readNumber_71 (by decide) ?_
            refine r_icmp_ge 95 C dX5_readNumber_72 (by decide) (fun c147 => ?_) (fun c147 => ?_)
            · have c147' := i_le c147
              refine r_iload_n 3 C dX5_readNumber_95 rfl ?_
              refine r_istore_n [(3, .int u13), (0, .ref (gz (xG x) + 1)), (1, .int a1), (2, .int a2)] C dX5_readNumber_96 (by decide) rfl ?_
              refine r_aload_n 1 C dX5_readNumber_97 rfl ?_
              refine r_dup C dX5_readNumber_98 rfl ?_
              refine gfX5_27 (v := (wI w16 1 4)) C (kS sC h17 kc_1) rfl dX5_readNumber_99 ?_
              refine r_iconst (v := 1) C dX5_readNumber_102 (by decide) ?_
              refine r_iadd C dX5_readNumber_103 (fun v148 e149 => ?_)
              have v148' := iadd_ok e149 (by omega) (by omega)
              refine pfX5_27 C (kS sC h17 kc_1) dX5_readNumber_104 (fun w150 e151 => ?_)
              have h152 := Ch.putF h17 e151 (by decide)
              have o153 := Inv.put o18 e151 0 500 (by omega) (by decide)
              refine r_goto 23 C dX5_readNumber_107 (by decide) ?_
              refine r_lv [1, 2, 3, 0] rfl ?_
              exact ih20 u13 w150 h152 o153 (by rw [(g_eq e151)]; omega)
            · have c147' := i_nle c147
              refine r_iload_n 3 C dX5_readNumber_75 rfl ?_
              refine r_bipush (v := 10) C dX5_readNumber_76 (by decide) ?_
              refine r_imul C dX5_readNumber_78 (fun v154 e155 => ?_)
              refine r_aload_n 0 C dX5_readNumber_79 rfl ?_
              refine gfX5_15 2 C (kS sC h17 kc_1) (xS sC h17 xc_1_3) dX5_readNumber_80 ?_
              refine r_aload_n 0 C dX5_readNumber_83 rfl ?_
              refine gfX5_27 (v := (wI w16 1 4)) C (kS sC h17 kc_1) rfl dX5_readNumber_84 ?_
              refine r_iald C (kS sC h17 kc_2) (vin (by omega) (by omega)) dX5_readNumber_87 ?_
              generalize (wI w16 2 ((wI w16 1 4)).toNatClampNeg) = v156
              refine r_iadd C dX5_readNumber_88 (fun v157 e158 => ?_)
              refine r_bipush (v := 48) C dX5_readNumber_89 (by decide) ?_
              refine r_isub C dX5_readNumber_91 (fun v159 e160 => ?_)
              refine r_goto 96 C dX5_readNumber_92 (by decide) ?_
              refine r_istore_n [(3, .int v159), (0, .ref (gz (xG x) + 1)), (1, .int a1), (2, .int a2)] C dX5_readNumber_96 (by decide) rfl ?_
              refine r_aload_n 1 C dX5_readNumber_97 rfl ?_
              refine r_dup C dX5_readNumber_98 rfl ?_
              refine gfX5_27 (v := (wI w16 1 4)) C (kS sC h17 kc_1) rfl dX5_readNumber_99 ?_
              refine r_iconst (v := 1) C dX5_readNumber_102 (by decide) ?_
              refine r_iadd C dX5_readNumber_103 (fun v161 e162 => ?_)
              have v161' := iadd_ok e162 (by omega) (by omega)
              refine pfX5_27 C (kS sC h17 kc_1) dX5_readNumber_104 (fun w163 e164 => ?_)
              have h165 := Ch.putF h17 e164 (by decide)
              have o166 := Inv.put o18 e164 0 500 (by omega) (by decide)
              refine r_goto 23 C dX5_readNumber_107 (by decide) ?_
              refine r_lv [1, 2, 3, 0] rfl ?_
              exact ih20 v159 w163 h165 o166 (by rw [(g_eq e164)]; omega)
  refine r_aload_n 0 C dX5_readNumber_0 rfl ?_
  refine gfX5_30 (v := (wI w 1 1)) C (kS sC h0 kc_1) rfl dX5_readNumber_1 ?_
  refine r_if_eq 9 C dX5_readNumber_4 (by decide) (fun c1 => ?_) (fun c1 => ?_)
  · have c1' := i_eq c1
    refine r_aload_n 0 C dX5_readNumber_9 rfl ?_
    refine callVV C cwX5_33_V (ctX5_skipBlanks_1 _ _ w (sS sC h0) o0  ) (by decide) (kS sC h0 kc_1) rfl rfl rfl (Nat.le_of_ble_eq_true rfl) (by decide) dX5_readNumber_10 (fun w3 y2 => ?_)
    show V x 0 0 w3 13 [(0, .ref (gz (xG x) + 1)), (1, .int a1), (2, .int a2)] []
    obtain ⟨h5, o6⟩ := y2
    have h7 := Ch.tr h0 h5 (by decide) (by decide)
    refine r_aload_n 0 C dX5_readNumber_13 rfl ?_
    refine r_aload_n 0 C dX5_readNumber_14 rfl ?_
    refine gfX5_27 (v := (wI w3 1 4)) C (kS sC h7 kc_1) rfl dX5_readNumber_15 ?_
    have b8 := Inv.get o6 rt_1_4 (j := 4) (by decide) (by decide)
    refine pfX5_116 C (kS sC h7 kc_1) dX5_readNumber_18 (fun w9 e10 => ?_)
    have h11 := Ch.putF h7 e10 (by decide)
    have o12 := Inv.putk o6 e10 (by decide)
    refine r_iconst (v := 0) C dX5_readNumber_21 (by decide) ?_
    refine r_istore_n [(3, .int 0), (0, .ref (gz (xG x) + 1)), (1, .int a1), (2, .int a2)] C dX5_readNumber_22 (by decide) rfl ?_
    refine r_lv [1, 2, 3, 0] rfl ?_
    exact LP14 4294967296 0 w9 h11 o12 (by rw [(g_nk e10 (by decide) rfl)]; omega)
  · have c1' := i_ne c1
    refine r_iload_n 1 C dX5_readNumber_7 rfl ?_
    exact hret _ _ _ _ dX5_readNumber_8 rfl ⟨h0, o0, by omega⟩
set_option maxHeartbeats 4000000 in
set_option maxRecDepth 100000 in
theorem ctX5_readCell_1_3 (l : Launch) (G : Gt) (w : Wv) (sC : Str KC XC w) (o0 : Inv RC w)  : CtI l G yX5_readCell cX5_readCell 4 .int ({ frames := 2, cells := 0, slots := 0, locals := 45 } : Room) [.ref (gz G + 1), .ref (gz G + 3)] w (fun r w' => Ch [] [(1, 1), (1, 2), (1, 4), (1, 5)] w w' ∧ Inv RC w') := by
  refine enterI (by decide) (Nat.le_of_ble_eq_true rfl) ?_
  intro x el eG C hret
  subst el; subst eG
  show V x 0 0 w 0 [(0, .ref (gz (xG x) + 1)), (1, .ref (gz (xG x) + 3))] []
  have h0 : Ch [] [(1, 1), (1, 2), (1, 4), (1, 5)] w w := Ch.rf
  have qm1 : ((-1) : Int32).toInt = (-1) := by decide
  have q0 : (0 : Int32).toInt = 0 := by decide
  have q1 : (1 : Int32).toInt = 1 := by decide
  refine r_aload_n 0 C dX5_readCell_0 rfl ?_
  refine r_iconst (v := 0) C dX5_readCell_1 (by decide) ?_
  refine r_aload_n 1 C dX5_readCell_2 rfl ?_
  refine gfX5_40 (v := (wI w 3 0)) C (kS sC h0 kc_3) rfl dX5_readCell_3 ?_
  have b1 := Inv.get o0 rt_3_0 (j := 0) (by decide) (by decide)
  refine r_iconst (v := 1) C dX5_readCell_6 (by decide) ?_
  refine r_isub C dX5_readCell_7 (fun v2 e3 => ?_)
  have v2' := isub_ok e3 (by omega) (by omega)
  refine callVI C cwX5_96_V (ctX5_readNumber_1 _ _ w (sS sC h0) o0 0 v2 ) (by decide) (kS sC h0 kc_1) rfl rfl rfl (Nat.le_of_ble_eq_true rfl) (by decide) dX5_readCell_8 (fun r6 w5 y4 => ?_)
  show V x 0 0 w5 11 [(0, .ref (gz (xG x) + 1)), (1, .ref (gz (xG x) + 3))] [.int r6]
  obtain ⟨h7, o8, g9⟩ := y4
  have h10 := Ch.tr h0 h7 (by decide) (by decide)
  refine r_istore_n [(2, .int r6), (0, .ref (gz (xG x) + 1)), (1, .ref (gz (xG x) + 3))] C dX5_readCell_11 (by decide) rfl ?_
  refine r_aload_n 1 C dX5_readCell_12 rfl ?_
  refine r_iconst (v := 0) C dX5_readCell_13 (by decide) ?_
  refine r_aload_n 2 C dX5_readCell_14 rfl ?_
  refine gfX5_105 (v := (wI w 3 1)) C (kS sC h10 kc_3) (h7.I (by decide) (by decide) rfl) dX5_readCell_15 ?_
  have b11 := Inv.get o0 rt_3_1 (j := 1) (by decide) (by decide)
  refine r_iconst (v := 1) C dX5_readCell_18 (by decide) ?_
  refine r_isub C dX5_readCell_19 (fun v12 e13 => ?_)
  have v12' := isub_ok e13 (by omega) (by omega)
  refine callVI C cwX5_96_V (ctX5_readNumber_1 _ _ w5 (sS sC h10) o8 0 v12 ) (by decide) (kS sC h10 kc_1) rfl rfl rfl (Nat.le_of_ble_eq_true rfl) (by decide) dX5_readCell_20 (fun r16 w15 y14 => ?_)
  show V x 0 0 w15 23 [(2, .int r6), (0, .ref (gz (xG x) + 1)), (1, .ref (gz (xG x) + 3))] [.int r16]
  obtain ⟨h17, o18, g19⟩ := y14
  have h20 := Ch.tr h10 h17 (by decide) (by decide)
  refine r_istore_n [(3, .int r16), (2, .int r6), (0, .ref (gz (xG x) + 1)), (1, .ref (gz (xG x) + 3))] C dX5_readCell_23 (by decide) rfl ?_
  refine r_aload_n 2 C dX5_readCell_24 rfl ?_
  refine gfX5_30 (v := (wI w15 1 1)) C (kS sC h20 kc_1) rfl dX5_readCell_25 ?_
  refine r_if_ne 42 C dX5_readCell_28 (by decide) (fun c21 => ?_) (fun c21 => ?_)
  · have c21' := i_ne c21
    refine r_iconst (v := (-1)) C dX5_readCell_42 (by decide) ?_
    exact hret _ _ _ _ dX5_readCell_43 rfl ⟨h20, o18⟩
  · have c21' := i_eq c21
    refine r_iload_n 0 C dX5_readCell_31 rfl ?_
    refine r_aload_n 3 C dX5_readCell_32 rfl ?_
    refine gfX5_40 (v := (wI w 3 0)) C (kS sC h20 kc_3) (h17.I (by decide) (by decide) (h7.I (by decide) (by decide) rfl)) dX5_readCell_33 ?_
    refine r_imul C dX5_readCell_36 (fun v22 e23 => ?_)
    have v22' := imul_rng e23 (A := 8) (B := 9) (by omega) (by omega) (by decide)
    refine r_iload_n 1 C dX5_readCell_37 rfl ?_
    refine r_iadd C dX5_readCell_38 (fun v24 e25 => ?_)
    have v24' := iadd_ok e25 (by omega) (by omega)
    refine r_goto 43 C dX5_readCell_39 (by decide) ?_
    exact hret _ _ _ _ dX5_readCell_43 rfl ⟨h20, o18⟩
set_option maxHeartbeats 4000000 in
set_option maxRecDepth 100000 in
theorem ctX5_blameIfSpot_1_3 (l : Launch) (G : Gt) (w : Wv) (sC : Str KC XC w) (o0 : Inv RC w) (a2 : Int32) : CtV l G yX5_blameIfSpot cX5_blameIfSpot 3 ({ frames := 2, cells := 0, slots := 0, locals := 41 } : Room) [.ref (gz G + 1), .ref (gz G + 3), .int a2] w (fun w' => Ch [] [(1, 1), (1, 2)] w w' ∧ Inv RC w') := by
  refine enterV (by decide) (Nat.le_of_ble_eq_true rfl) ?_
  intro x el eG C hnm hret
  subst el; subst eG
  show V x 0 0 w 0 [(0, .ref (gz (xG x) + 1)), (1, .ref (gz (xG x) + 3)), (2, .int a2)] []
  have h0 : Ch [] [(1, 1), (1, 2)] w w := Ch.rf
  have q0 : (0 : Int32).toInt = 0 := by decide
  have q4 : (4 : Int32).toInt = 4 := by decide
  refine r_aload_n 1 C dX5_blameIfSpot_0 rfl ?_
  refine r_iload_n 2 C dX5_blameIfSpot_1 rfl ?_
  refine callVI C cwX5_138_V (ctX9_isSpot_3 _ _ w (sS sC h0) o0 a2 ) (by decide) (kS sC h0 kc_3) rfl rfl rfl (Nat.le_of_ble_eq_true rfl) (by decide) dX5_blameIfSpot_2 (fun r3 w2 y1 => ?_)
  show V x 0 0 w2 5 [(0, .ref (gz (xG x) + 1)), (1, .ref (gz (xG x) + 3)), (2, .int a2)] [.int r3]
  obtain ⟨h4, o5⟩ := y1
  have h6 := Ch.tr h0 h4 (by decide) (by decide)
  refine r_if_eq 17 C dX5_blameIfSpot_5 (by decide) (fun c7 => ?_) (fun c7 => ?_)
  · have c7' := i_eq c7
    exact hret _ _ _ dX5_blameIfSpot_17 ⟨h6, o5⟩
  · have c7' := i_ne c7
    refine r_aload_n 0 C dX5_blameIfSpot_8 rfl ?_
    refine r_iconst (v := 4) C dX5_blameIfSpot_9 (by decide) ?_
    refine r_aload_n 0 C dX5_blameIfSpot_10 rfl ?_
    refine gfX5_116 (v := (wI w 1 5)) C (kS sC h6 kc_1) (h4.I (by decide) (by decide) rfl) dX5_blameIfSpot_11 ?_
    refine callVV C cwX5_43_V (ctX5_blame_1 _ _ w2 (sS sC h6) o5 4 (wI w 1 5) (by omega)) (by decide) (kS sC h6 kc_1) rfl rfl rfl (Nat.le_of_ble_eq_true rfl) (by decide) dX5_blameIfSpot_14 (fun w9 y8 => ?_)
    show V x 0 0 w9 17 [(0, .ref (gz (xG x) + 1)), (1, .ref (gz (xG x) + 3)), (2, .int a2)] []
    obtain ⟨h11, o12, f13⟩ := y8
    have h14 := Ch.tr h6 h11 (by decide) (by decide)
    exact hret _ _ _ dX5_blameIfSpot_17 ⟨h14, o12⟩
set_option maxHeartbeats 4000000 in
set_option maxRecDepth 100000 in
theorem ctX5_isTooMany_3 (l : Launch) (G : Gt) (w : Wv) (sC : Str KC XC w) (o0 : Inv RC w) (a2 : Int32) : CtI l G yX5_isTooMany cX5_isTooMany 2 .boolean ({ frames := 0, cells := 0, slots := 0, locals := 0 } : Room) [.ref (gz G + 3), .int a2] w (fun r w' => Ch [] [] w w' ∧ Inv RC w') := by
  refine enterI (by decide) (Nat.le_of_ble_eq_true rfl) ?_
  intro x el eG C hret
  subst el; subst eG
  show V x 0 0 w 0 [(0, .ref (gz (xG x) + 3)), (1, .int a2)] []
  have h0 : Ch [] [] w w := Ch.rf
  have qm1 : ((-1) : Int32).toInt = (-1) := by decide
  have q0 : (0 : Int32).toInt = 0 := by decide
  have q1 : (1 : Int32).toInt = 1 := by decide
  have q3 : (3 : Int32).toInt = 3 := by decide
  have q6 : (6 : Int32).toInt = 6 := by decide
  have q30 : (30 : Int32).toInt = 30 := by decide
  refine r_iload_n 1 C dX5_isTooMany_0 rfl ?_
  by_cases c1 : (a2 : Int32).toInt < 4 ∨ 8 < (a2 : Int32).toInt
  · refine r_tabOut 97 C dX5_isTooMany_1 c1 (by decide) ?_
    refine r_aload_n 0 C dX5_isTooMany_97 rfl ?_
    refine gfX5_93 (v := (wI w 3 2)) C (kS sC h0 kc_3) rfl dX5_isTooMany_98 ?_
    refine r_bipush (v := 30) C dX5_isTooMany_101 (by decide) ?_
    refine r_icmp_lt 110 C dX5_isTooMany_103 (by decide) (fun c2 => ?_) (fun c2 => ?_)
    · have c2' := i_lt c2
      refine r_iconst (v := 0) C dX5_isTooMany_110 (by decide) ?_
      exact hret _ _ _ _ dX5_isTooMany_111 (nar_z (z_of (by omega))) ⟨h0, o0⟩
    · have c2' := i_nlt c2
      refine r_iconst (v := 1) C dX5_isTooMany_106 (by decide) ?_
      refine r_goto 111 C dX5_isTooMany_107 (by decide) ?_
      exact hret _ _ _ _ dX5_isTooMany_111 (nar_z (z_of (by omega))) ⟨h0, o0⟩
  · rcases (show (a2 : Int32).toInt = 4 ∨ (a2 : Int32).toInt = 5 ∨ (a2 : Int32).toInt = 6 ∨ (a2 : Int32).toInt = 7 ∨ (a2 : Int32).toInt = 8 by omega) with c1 | c1 | c1 | c1 | c1
    · refine r_tabIn 36 C dX5_isTooMany_1 (by omega) (by omega) (by rw [c1]; rfl) (by decide) ?_
      refine r_aload_n 0 C dX5_isTooMany_36 rfl ?_
      refine gfX5_40 (v := (wI w 3 0)) C (kS sC h0 kc_3) rfl dX5_isTooMany_37 ?_
      have b3 := Inv.get o0 rt_3_0 (j := 0) (by decide) (by decide)
      refine r_if_le 47 C dX5_isTooMany_40 (by decide) (fun c4 => ?_) (fun c4 => ?_)
      · have c4' := i_le c4
        refine r_iconst (v := 0) C dX5_isTooMany_47 (by decide) ?_
        exact hret _ _ _ _ dX5_isTooMany_48 (nar_z (z_of (by omega))) ⟨h0, o0⟩
      · have c4' := i_nle c4
        refine r_iconst (v := 1) C dX5_isTooMany_43 (by decide) ?_
        refine r_goto 48 C dX5_isTooMany_44 (by decide) ?_
        exact hret _ _ _ _ dX5_isTooMany_48 (nar_z (z_of (by omega))) ⟨h0, o0⟩
    · refine r_tabIn 49 C dX5_isTooMany_1 (by omega) (by omega) (by rw [c1]; rfl) (by decide) ?_
      refine r_aload_n 0 C dX5_isTooMany_49 rfl ?_
      refine gfX5_80 (v := (wI w 3 3)) C (kS sC h0 kc_3) rfl dX5_isTooMany_50 ?_
      have b5 := Inv.get o0 rt_3_3 (j := 3) (by decide) (by decide)
      refine r_bipush (v := 6) C dX5_isTooMany_53 (by decide) ?_
      refine r_icmp_lt 62 C dX5_isTooMany_55 (by decide) (fun c6 => ?_) (fun c6 => ?_)
      · have c6' := i_lt c6
        refine r_iconst (v := 0) C dX5_isTooMany_62 (by decide) ?_
        exact hret _ _ _ _ dX5_isTooMany_63 (nar_z (z_of (by omega))) ⟨h0, o0⟩
      · have c6' := i_nlt c6
        refine r_iconst (v := 1) C dX5_isTooMany_58 (by decide) ?_
        refine r_goto 63 C dX5_isTooMany_59 (by decide) ?_
        exact hret _ _ _ _ dX5_isTooMany_63 (nar_z (z_of (by omega))) ⟨h0, o0⟩
    · refine r_tabIn 64 C dX5_isTooMany_1 (by omega) (by omega) (by rw [c1]; rfl) (by decide) ?_
      refine r_aload_n 0 C dX5_isTooMany_64 rfl ?_
      refine gfX5_83 (v := (wI w 3 4)) C (kS sC h0 kc_3) rfl dX5_isTooMany_65 ?_
      have b7 := Inv.get o0 rt_3_4 (j := 4) (by decide) (by decide)
      refine r_iconst (v := 3) C dX5_isTooMany_68 (by decide) ?_
      refine r_icmp_lt 76 C dX5_isTooMany_69 (by decide) (fun c8 => ?_) (fun c8 => ?_)
      · have c8' := i_lt c8
        refine r_iconst (v := 0) C dX5_isTooMany_76 (by decide) ?_
        exact hret _ _ _ _ dX5_isTooMany_77 (nar_z (z_of (by omega))) ⟨h0, o0⟩
      · have c8' := i_nlt c8
        refine r_iconst (v := 1) C dX5_isTooMany_72 (by decide) ?_
        refine r_goto 77 C dX5_isTooMany_73 (by decide) ?_
        exact hret _ _ _ _ dX5_isTooMany_77 (nar_z (z_of (by omega))) ⟨h0, o0⟩
    · refine r_tabIn 78 C dX5_isTooMany_1 (by omega) (by omega) (by rw [c1]; rfl) (by decide) ?_
      refine r_aload_n 0 C dX5_isTooMany_78 rfl ?_
      refine gfX5_86 (v := (wI w 3 5)) C (kS sC h0 kc_3) rfl dX5_isTooMany_79 ?_
      refine r_iconst (v := (-1)) C dX5_isTooMany_82 (by decide) ?_
      refine r_icmp_eq 90 C dX5_isTooMany_83 (by decide) (fun c9 => ?_) (fun c9 => ?_)
      · have c9' := i_eq c9
        refine r_iconst (v := 0) C dX5_isTooMany_90 (by decide) ?_
        exact hret _ _ _ _ dX5_isTooMany_91 (nar_z (z_of (by omega))) ⟨h0, o0⟩
      · have c9' := i_ne c9
        refine r_iconst (v := 1) C dX5_isTooMany_86 (by decide) ?_
        refine r_goto 91 C dX5_isTooMany_87 (by decide) ?_
        exact hret _ _ _ _ dX5_isTooMany_91 (nar_z (z_of (by omega))) ⟨h0, o0⟩
    · refine r_tabIn 92 C dX5_isTooMany_1 (by omega) (by omega) (by rw [c1]; rfl) (by decide) ?_
      refine r_aload_n 0 C dX5_isTooMany_92 rfl ?_
      refine gfX5_89 (v := (wI w 3 6)) C (kS sC h0 kc_3) rfl dX5_isTooMany_93 ?_
      exact hret _ _ _ _ dX5_isTooMany_96 (nar_z (z_of (by omega))) ⟨h0, o0⟩
set_option maxHeartbeats 4000000 in
set_option maxRecDepth 100000 in
theorem ctX5_readSize_1_3 (l : Launch) (G : Gt) (w : Wv) (sC : Str KC XC w) (o0 : Inv RC w)  : CtV l G yX5_readSize cX5_readSize 4 ({ frames := 2, cells := 0, slots := 0, locals := 45 } : Room) [.ref (gz G + 1), .ref (gz G + 3)] w (fun w' => Ch [] [(1, 1), (1, 2), (1, 4), (1, 5), (3, 0), (3, 1)] w w' ∧ Inv RC w') := by
  refine enterV (by decide) (Nat.le_of_ble_eq_true rfl) ?_
  intro x el eG C hnm hret
  subst el; subst eG
  show V x 0 0 w 0 [(0, .ref (gz (xG x) + 1)), (1, .ref (gz (xG x) + 3))] []
  have h0 : Ch [] [(1, 1), (1, 2), (1, 4), (1, 5), (3, 0), (3, 1)] w w := Ch.rf
  have q0 : (0 : Int32).toInt = 0 := by decide
  have q1 : (1 : Int32).toInt = 1 := by decide
  have q9 : (9 : Int32).toInt = 9 := by decide
  have q42 : (42 : Int32).toInt = 42 := by decide
  refine r_aload_n 0 C dX5_readSize_0 rfl ?_
  refine r_iconst (v := 1) C dX5_readSize_1 (by decide) ?_
  refine r_bipush (v := 9) C dX5_readSize_2 (by decide) ?_
  refine callVI C cwX5_96_V (ctX5_readNumber_1 _ _ w (sS sC h0) o0 1 9 ) (by decide) (kS sC h0 kc_1) rfl rfl rfl (Nat.le_of_ble_eq_true rfl) (by decide) dX5_readSize_4 (fun r3 w2 y1 => ?_)
  show V x 0 0 w2 7 [(0, .ref (gz (xG x) + 1)), (1, .ref (gz (xG x) + 3))] [.int r3]
  obtain ⟨h4, o5, g6⟩ := y1
  have h7 := Ch.tr h0 h4 (by decide) (by decide)
  refine r_istore_n [(2, .int r3), (0, .ref (gz (xG x) + 1)), (1, .ref (gz (xG x) + 3))] C dX5_readSize_7 (by decide) rfl ?_
  refine r_aload_n 1 C dX5_readSize_8 rfl ?_
  refine r_iconst (v := 1) C dX5_readSize_9 (by decide) ?_
  refine r_iload_n 0 C dX5_readSize_10 rfl ?_
  refine r_if_le 26 C dX5_readSize_11 (by decide) (fun c8 => ?_) (fun c8 => ?_)
  · have c8' := i_le c8
    exfalso; omega
  · have c8' := i_nle c8
    refine r_bipush (v := 9) C dX5_readSize_14 (by decide) ?_
    refine r_bipush (v := 42) C dX5_readSize_16 (by decide) ?_
    refine r_iload_n 0 C dX5_readSize_18 rfl ?_
    refine r_idiv C dX5_readSize_19 (fun q => by have q := i_eq q; omega) (fun v9 e10 => ?_)
    have v9' := idiv_rng e10 (by omega) (by omega)
    refine r_mmin C mw3_91 mw2_154 mw1_12 mw2_155 (by decide) (Nat.le_of_ble_eq_true rfl) (by decide) (by decide) dX5_readSize_20 (fun v11 e12 => ?_)
    have v11' := imin_ok e12
    refine r_goto 28 C dX5_readSize_23 (by decide) ?_
    refine callVI C cwX5_96_V (ctX5_readNumber_1 _ _ w2 (sS sC h7) o5 1 v11 ) (by decide) (kS sC h7 kc_1) rfl rfl rfl (Nat.le_of_ble_eq_true rfl) (by decide) dX5_readSize_28 (fun r15 w14 y13 => ?_)
    show V x 0 0 w14 31 [(2, .int r3), (0, .ref (gz (xG x) + 1)), (1, .ref (gz (xG x) + 3))] [.int r15]
    obtain ⟨h16, o17, g18⟩ := y13
    have h19 := Ch.tr h7 h16 (by decide) (by decide)
    refine r_istore_n [(3, .int r15), (2, .int r3), (0, .ref (gz (xG x) + 1)), (1, .ref (gz (xG x) + 3))] C dX5_readSize_31 (by decide) rfl ?_
    refine r_aload_n 2 C dX5_readSize_32 rfl ?_
    refine gfX5_30 (v := (wI w14 1 1)) C (kS sC h19 kc_1) rfl dX5_readSize_33 ?_
    refine r_if_ne 49 C dX5_readSize_36 (by decide) (fun c20 => ?_) (fun c20 => ?_)
    · have c20' := i_ne c20
      exact hret _ _ _ dX5_readSize_49 ⟨h19, o17⟩
    · have c20' := i_eq c20
      refine r_aload_n 3 C dX5_readSize_39 rfl ?_
      refine r_iload_n 1 C dX5_readSize_40 rfl ?_
      refine pfX5_40 C (kS sC h19 kc_3) dX5_readSize_41 (fun w21 e22 => ?_)
      have h23 := Ch.putF h19 e22 (by decide)
      have o24 := Inv.put o17 e22 0 9 (by omega) (by decide)
      refine r_aload_n 3 C dX5_readSize_44 rfl ?_
      refine r_iload_n 0 C dX5_readSize_45 rfl ?_
      refine pfX5_105 C (kS sC h23 kc_3) dX5_readSize_46 (fun w25 e26 => ?_)
      have h27 := Ch.putF h23 e26 (by decide)
      have o28 := Inv.put o24 e26 0 9 (by omega) (by decide)
      exact hret _ _ _ dX5_readSize_49 ⟨h27, o28⟩
set_option maxHeartbeats 4000000 in
set_option maxRecDepth 100000 in
theorem ctX5_readSpot_1_3 (l : Launch) (G : Gt) (w : Wv) (sC : Str KC XC w) (o0 : Inv RC w) (a2 : Int32) : CtV l G yX5_readSpot cX5_readSpot 4 ({ frames := 3, cells := 0, slots := 0, locals := 68 } : Room) [.ref (gz G + 1), .ref (gz G + 3), .int a2] w (fun w' => Ch [4] [(1, 1), (1, 2), (1, 4), (1, 5), (3, 2)] w w' ∧ Inv RC w') := by
  refine enterV (by decide) (Nat.le_of_ble_eq_true rfl) ?_
  intro x el eG C hnm hret
  subst el; subst eG
  show V x 0 0 w 0 [(0, .ref (gz (xG x) + 1)), (1, .ref (gz (xG x) + 3)), (2, .int a2)] []
  have h0 : Ch [4] [(1, 1), (1, 2), (1, 4), (1, 5), (3, 2)] w w := Ch.rf
  have qm1 : ((-1) : Int32).toInt = (-1) := by decide
  have q0 : (0 : Int32).toInt = 0 := by decide
  have q4 : (4 : Int32).toInt = 4 := by decide
  refine r_aload_n 0 C dX5_readSpot_0 rfl ?_
  refine r_aload_n 1 C dX5_readSpot_1 rfl ?_
  refine callVI C cwX5_108_V (ctX5_readCell_1_3 _ _ w (sS sC h0) o0  ) (by decide) (kS sC h0 kc_1) rfl rfl rfl (Nat.le_of_ble_eq_true rfl) (by decide) dX5_readSpot_2 (fun r3 w2 y1 => ?_)
  show V x 0 0 w2 5 [(0, .ref (gz (xG x) + 1)), (1, .ref (gz (xG x) + 3)), (2, .int a2)] [.int r3]
  obtain ⟨h4, o5⟩ := y1
  have h6 := Ch.tr h0 h4 (by decide) (by decide)
  refine r_istore_n [(3, .int r3), (0, .ref (gz (xG x) + 1)), (1, .ref (gz (xG x) + 3)), (2, .int a2)] C dX5_readSpot_5 (by decide) rfl ?_
  refine r_iload_n 0 C dX5_readSpot_6 rfl ?_
  refine r_iconst (v := (-1)) C dX5_readSpot_7 (by decide) ?_
  refine r_icmp_ne 12 C dX5_readSpot_8 (by decide) (fun c7 => ?_) (fun c7 => ?_)
  · have c7' := i_ne c7
    refine r_aload_n 2 C dX5_readSpot_12 rfl ?_
    refine r_iload_n 0 C dX5_readSpot_13 rfl ?_
    refine callVI C cwX5_112_V (ctX9_isTaken_3 _ _ w2 (sS sC h6) o5 r3 ) (by decide) (kS sC h6 kc_3) rfl rfl rfl (Nat.le_of_ble_eq_true rfl) (by decide) dX5_readSpot_14 (fun r10 w9 y8 => ?_)
    show V x 0 0 w9 17 [(3, .int r3), (0, .ref (gz (xG x) + 1)), (1, .ref (gz (xG x) + 3)), (2, .int a2)] [.int r10]
    obtain ⟨h11, o12⟩ := y8
    have h13 := Ch.tr h6 h11 (by decide) (by decide)
    refine r_if_eq 32 C dX5_readSpot_17 (by decide) (fun c14 => ?_) (fun c14 => ?_)
    · have c14' := i_eq c14
      refine r_aload_n 2 C dX5_readSpot_32 rfl ?_
      refine r_iload_n 0 C dX5_readSpot_33 rfl ?_
      refine r_iload_n 3 C dX5_readSpot_34 rfl ?_
      refine callVV C cwX5_119_V (ctX9_addSpot_3 _ _ w9 (sS sC h13) o12 r3 a2 ) (by decide) (kS sC h13 kc_3) rfl rfl rfl (Nat.le_of_ble_eq_true rfl) (by decide) dX5_readSpot_35 (fun w16 y15 => ?_)
      show V x 0 0 w16 38 [(3, .int r3), (0, .ref (gz (xG x) + 1)), (1, .ref (gz (xG x) + 3)), (2, .int a2)] []
      obtain ⟨h18, o19⟩ := y15
      have h20 := Ch.tr h13 h18 (by decide) (by decide)
      exact hret _ _ _ dX5_readSpot_38 ⟨h20, o19⟩
    · have c14' := i_ne c14
      refine r_aload_n 1 C dX5_readSpot_20 rfl ?_
      refine r_iconst (v := 4) C dX5_readSpot_21 (by decide) ?_
      refine r_aload_n 1 C dX5_readSpot_22 rfl ?_
      refine gfX5_116 (v := (wI w2 1 5)) C (kS sC h13 kc_1) (h11.I (by decide) (by decide) rfl) dX5_readSpot_23 ?_
      refine callVV C cwX5_43_V (ctX5_blame_1 _ _ w9 (sS sC h13) o12 4 (wI w2 1 5) (by omega)) (by decide) (kS sC h13 kc_1) rfl rfl rfl (Nat.le_of_ble_eq_true rfl) (by decide) dX5_readSpot_26 (fun w22 y21 => ?_)
      show V x 0 0 w22 29 [(3, .int r3), (0, .ref (gz (xG x) + 1)), (1, .ref (gz (xG x) + 3)), (2, .int a2)] []
      obtain ⟨h24, o25, f26⟩ := y21
      have h27 := Ch.tr h13 h24 (by decide) (by decide)
      refine r_goto 38 C dX5_readSpot_29 (by decide) ?_
      exact hret _ _ _ dX5_readSpot_38 ⟨h27, o25⟩
  · have c7' := i_eq c7
    exact hret _ _ _ dX5_readSpot_11 ⟨h6, o5⟩
set_option maxHeartbeats 4000000 in
set_option maxRecDepth 100000 in
theorem ctX5_readCrowd_1_3 (l : Launch) (G : Gt) (w : Wv) (sC : Str KC XC w) (o0 : Inv RC w)  : CtV l G yX5_readCrowd cX5_readCrowd 7 ({ frames := 3, cells := 0, slots := 0, locals := 68 } : Room) [.ref (gz G + 1), .ref (gz G + 3)] w (fun w' => Ch [5, 6, 7, 8, 9] [(1, 1), (1, 2), (1, 4), (1, 5), (3, 3)] w w' ∧ Inv RC w') := by
  refine enterV (by decide) (Nat.le_of_ble_eq_true rfl) ?_
  intro x el eG C hnm hret
  subst el; subst eG
  show V x 0 0 w 0 [(0, .ref (gz (xG x) + 1)), (1, .ref (gz (xG x) + 3))] []
  have h0 : Ch [5, 6, 7, 8, 9] [(1, 1), (1, 2), (1, 4), (1, 5), (3, 3)] w w := Ch.rf
  have q0 : (0 : Int32).toInt = 0 := by decide
  have q1 : (1 : Int32).toInt = 1 := by decide
  have q2 : (2 : Int32).toInt = 2 := by decide
  have q3 : (3 : Int32).toInt = 3 := by decide
  have q99 : (99 : Int32).toInt = 99 := by decide
  refine r_aload_n 0 C dX5_readCrowd_0 rfl ?_
  refine r_iconst (v := 0) C dX5_readCrowd_1 (by decide) ?_
  refine r_iconst (v := 2) C dX5_readCrowd_2 (by decide) ?_
  refine callVI C cwX5_96_V (ctX5_readNumber_1 _ _ w (sS sC h0) o0 0 2 ) (by decide) (kS sC h0 kc_1) rfl rfl rfl (Nat.le_of_ble_eq_true rfl) (by decide) dX5_readCrowd_3 (fun r3 w2 y1 => ?_)
  show V x 0 0 w2 6 [(0, .ref (gz (xG x) + 1)), (1, .ref (gz (xG x) + 3))] [.int r3]
  obtain ⟨h4, o5, g6⟩ := y1
  have h7 := Ch.tr h0 h4 (by decide) (by decide)
  refine r_istore_n [(2, .int r3), (0, .ref (gz (xG x) + 1)), (1, .ref (gz (xG x) + 3))] C dX5_readCrowd_6 (by decide) rfl ?_
  refine r_aload_n 1 C dX5_readCrowd_7 rfl ?_
  refine r_aload_n 2 C dX5_readCrowd_8 rfl ?_
  refine callVI C cwX5_108_V (ctX5_readCell_1_3 _ _ w2 (sS sC h7) o5  ) (by decide) (kS sC h7 kc_1) rfl rfl rfl (Nat.le_of_ble_eq_true rfl) (by decide) dX5_readCrowd_9 (fun r10 w9 y8 => ?_)
  show V x 0 0 w9 12 [(2, .int r3), (0, .ref (gz (xG x) + 1)), (1, .ref (gz (xG x) + 3))] [.int r10]
  obtain ⟨h11, o12⟩ := y8
  have h13 := Ch.tr h7 h11 (by decide) (by decide)
  refine r_istore_n [(3, .int r10), (2, .int r3), (0, .ref (gz (xG x) + 1)), (1, .ref (gz (xG x) + 3))] C dX5_readCrowd_12 (by decide) rfl ?_
  refine r_aload_n 2 C dX5_readCrowd_13 rfl ?_
  refine r_aload_n 3 C dX5_readCrowd_14 rfl ?_
  refine r_iload_n 0 C dX5_readCrowd_15 rfl ?_
  refine callVV C cwX5_122_V (ctX5_blameIfSpot_1_3 _ _ w9 (sS sC h13) o12 r10 ) (by decide) (kS sC h13 kc_1) rfl rfl rfl (Nat.le_of_ble_eq_true rfl) (by decide) dX5_readCrowd_16 (fun w15 y14 => ?_)
  show V x 0 0 w15 19 [(3, .int r10), (2, .int r3), (0, .ref (gz (xG x) + 1)), (1, .ref (gz (xG x) + 3))] []
  obtain ⟨h17, o18⟩ := y14
  have h19 := Ch.tr h13 h17 (by decide) (by decide)
  refine r_aload_n 2 C dX5_readCrowd_19 rfl ?_
  refine r_iconst (v := 1) C dX5_readCrowd_20 (by decide) ?_
  refine r_bipush (v := 99) C dX5_readCrowd_21 (by decide) ?_
  refine callVI C cwX5_96_V (ctX5_readNumber_1 _ _ w15 (sS sC h19) o18 1 99 ) (by decide) (kS sC h19 kc_1) rfl rfl rfl (Nat.le_of_ble_eq_true rfl) (by decide) dX5_readCrowd_23 (fun r22 w21 y20 => ?_)
  show V x 0 0 w21 26 [(3, .int r10), (2, .int r3), (0, .ref (gz (xG x) + 1)), (1, .ref (gz (xG x) + 3))] [.int r22]
  obtain ⟨h23, o24, g25⟩ := y20
  have h26 := Ch.tr h19 h23 (by decide) (by decide)
  refine r_istore [(4, .int r22), (3, .int r10), (2, .int r3), (0, .ref (gz (xG x) + 1)), (1, .ref (gz (xG x) + 3))] C dX5_readCrowd_26 (by decide) rfl ?_
  refine r_aload_n 3 C dX5_readCrowd_28 rfl ?_
  refine r_iconst (v := 1) C dX5_readCrowd_29 (by decide) ?_
  refine r_iconst (v := 3) C dX5_readCrowd_30 (by decide) ?_
  refine callVI C cwX5_96_V (ctX5_readNumber_1 _ _ w21 (sS sC h26) o24 1 3 ) (by decide) (kS sC h26 kc_1) rfl rfl rfl (Nat.le_of_ble_eq_true rfl) (by decide) dX5_readCrowd_31 (fun r29 w28 y27 => ?_)
  show V x 0 0 w28 34 [(4, .int r22), (3, .int r10), (2, .int r3), (0, .ref (gz (xG x) + 1)), (1, .ref (gz (xG x) + 3))] [.int r29]
  obtain ⟨h30, o31, g32⟩ := y27
  have h33 := Ch.tr h26 h30 (by decide) (by decide)
  refine r_istore [(5, .int r29), (4, .int r22), (3, .int r10), (2, .int r3), (0, .ref (gz (xG x) + 1)), (1, .ref (gz (xG x) + 3))] C dX5_readCrowd_34 (by decide) rfl ?_
  refine r_aload_n 4 C dX5_readCrowd_36 rfl ?_
  refine r_iconst (v := 0) C dX5_readCrowd_37 (by decide) ?_
  refine r_iload 1 C dX5_readCrowd_38 rfl ?_
  refine callVI C cwX5_96_V (ctX5_readNumber_1 _ _ w28 (sS sC h33) o31 0 r22 ) (by decide) (kS sC h33 kc_1) rfl rfl rfl (Nat.le_of_ble_eq_true rfl) (by decide) dX5_readCrowd_40 (fun r36 w35 y34 => ?_)
  show V x 0 0 w35 43 [(5, .int r29), (4, .int r22), (3, .int r10), (2, .int r3), (0, .ref (gz (xG x) + 1)), (1, .ref (gz (xG x) + 3))] [.int r36]
  obtain ⟨h37, o38, g39⟩ := y34
  have h40 := Ch.tr h33 h37 (by decide) (by decide)
  refine r_istore [(6, .int r36), (5, .int r29), (4, .int r22), (3, .int r10), (2, .int r3), (0, .ref (gz (xG x) + 1)), (1, .ref (gz (xG x) + 3))] C dX5_readCrowd_43 (by decide) rfl ?_
  refine r_aload_n 5 C dX5_readCrowd_45 rfl ?_
  refine gfX5_30 (v := (wI w35 1 1)) C (kS sC h40 kc_1) rfl dX5_readCrowd_46 ?_
  refine r_if_ne 64 C dX5_readCrowd_49 (by decide) (fun c41 => ?_) (fun c41 => ?_)
  · have c41' := i_ne c41
    exact hret _ _ _ dX5_readCrowd_64 ⟨h40, o38⟩
  · have c41' := i_eq c41
    refine r_aload_n 6 C dX5_readCrowd_52 rfl ?_
    refine r_iload_n 4 C dX5_readCrowd_53 rfl ?_
    refine r_iload_n 3 C dX5_readCrowd_54 rfl ?_
    refine r_iload 2 C dX5_readCrowd_55 rfl ?_
    refine r_iload 1 C dX5_readCrowd_57 rfl ?_
    refine r_iload 0 C dX5_readCrowd_59 rfl ?_
    refine callVV C cwX5_125_V (ctX9_addCrowd_3 _ _ w35 (sS sC h40) o38 r3 r10 r22 r29 r36 ) (by decide) (kS sC h40 kc_3) rfl rfl rfl (Nat.le_of_ble_eq_true rfl) (by decide) dX5_readCrowd_61 (fun w43 y42 => ?_)
    show V x 0 0 w43 64 [(6, .int r36), (5, .int r29), (4, .int r22), (3, .int r10), (2, .int r3), (0, .ref (gz (xG x) + 1)), (1, .ref (gz (xG x) + 3))] []
    obtain ⟨h45, o46⟩ := y42
    have h47 := Ch.tr h40 h45 (by decide) (by decide)
    exact hret _ _ _ dX5_readCrowd_64 ⟨h47, o46⟩
set_option maxHeartbeats 4000000 in
set_option maxRecDepth 100000 in
theorem ctX5_readTune_1_3 (l : Launch) (G : Gt) (w : Wv) (sC : Str KC XC w) (o0 : Inv RC w)  : CtV l G yX5_readTune cX5_readTune 4 ({ frames := 2, cells := 0, slots := 0, locals := 45 } : Room) [.ref (gz G + 1), .ref (gz G + 3)] w (fun w' => Ch [10, 11] [(1, 1), (1, 2), (1, 4), (1, 5), (3, 4)] w w' ∧ Inv RC w') := by
  refine enterV (by decide) (Nat.le_of_ble_eq_true rfl) ?_
  intro x el eG C hnm hret
  subst el; subst eG
  show V x 0 0 w 0 [(0, .ref (gz (xG x) + 1)), (1, .ref (gz (xG x) + 3))] []
  have h0 : Ch [10, 11] [(1, 1), (1, 2), (1, 4), (1, 5), (3, 4)] w w := Ch.rf
  have q0 : (0 : Int32).toInt = 0 := by decide
  have q1 : (1 : Int32).toInt = 1 := by decide
  have q7 : (7 : Int32).toInt = 7 := by decide
  have q20 : (20 : Int32).toInt = 20 := by decide
  refine r_aload_n 0 C dX5_readTune_0 rfl ?_
  refine r_iconst (v := 1) C dX5_readTune_1 (by decide) ?_
  refine r_bipush (v := 7) C dX5_readTune_2 (by decide) ?_
  refine callVI C cwX5_96_V (ctX5_readNumber_1 _ _ w (sS sC h0) o0 1 7 ) (by decide) (kS sC h0 kc_1) rfl rfl rfl (Nat.le_of_ble_eq_true rfl) (by decide) dX5_readTune_4 (fun r3 w2 y1 => ?_)
  show V x 0 0 w2 7 [(0, .ref (gz (xG x) + 1)), (1, .ref (gz (xG x) + 3))] [.int r3]
  obtain ⟨h4, o5, g6⟩ := y1
  have h7 := Ch.tr h0 h4 (by decide) (by decide)
  refine r_istore_n [(2, .int r3), (0, .ref (gz (xG x) + 1)), (1, .ref (gz (xG x) + 3))] C dX5_readTune_7 (by decide) rfl ?_
  refine r_aload_n 1 C dX5_readTune_8 rfl ?_
  refine r_iconst (v := 0) C dX5_readTune_9 (by decide) ?_
  refine r_bipush (v := 20) C dX5_readTune_10 (by decide) ?_
  refine callVI C cwX5_96_V (ctX5_readNumber_1 _ _ w2 (sS sC h7) o5 0 20 ) (by decide) (kS sC h7 kc_1) rfl rfl rfl (Nat.le_of_ble_eq_true rfl) (by decide) dX5_readTune_12 (fun r10 w9 y8 => ?_)
  show V x 0 0 w9 15 [(2, .int r3), (0, .ref (gz (xG x) + 1)), (1, .ref (gz (xG x) + 3))] [.int r10]
  obtain ⟨h11, o12, g13⟩ := y8
  have h14 := Ch.tr h7 h11 (by decide) (by decide)
  refine r_istore_n [(3, .int r10), (2, .int r3), (0, .ref (gz (xG x) + 1)), (1, .ref (gz (xG x) + 3))] C dX5_readTune_15 (by decide) rfl ?_
  refine r_aload_n 2 C dX5_readTune_16 rfl ?_
  refine gfX5_30 (v := (wI w9 1 1)) C (kS sC h14 kc_1) rfl dX5_readTune_17 ?_
  refine r_if_ne 29 C dX5_readTune_20 (by decide) (fun c15 => ?_) (fun c15 => ?_)
  · have c15' := i_ne c15
    exact hret _ _ _ dX5_readTune_29 ⟨h14, o12⟩
  · have c15' := i_eq c15
    refine r_aload_n 3 C dX5_readTune_23 rfl ?_
    refine r_iload_n 1 C dX5_readTune_24 rfl ?_
    refine r_iload_n 0 C dX5_readTune_25 rfl ?_
    refine callVV C cwX5_129_V (ctX9_addTune_3 _ _ w9 (sS sC h14) o12 r3 r10 ) (by decide) (kS sC h14 kc_3) rfl rfl rfl (Nat.le_of_ble_eq_true rfl) (by decide) dX5_readTune_26 (fun w17 y16 => ?_)
    show V x 0 0 w17 29 [(3, .int r10), (2, .int r3), (0, .ref (gz (xG x) + 1)), (1, .ref (gz (xG x) + 3))] []
    obtain ⟨h19, o20⟩ := y16
    have h21 := Ch.tr h14 h19 (by decide) (by decide)
    exact hret _ _ _ dX5_readTune_29 ⟨h21, o20⟩
set_option maxHeartbeats 4000000 in
set_option maxRecDepth 100000 in
theorem ctX5_readPiper_1_3 (l : Launch) (G : Gt) (w : Wv) (sC : Str KC XC w) (o0 : Inv RC w)  : CtV l G yX5_readPiper cX5_readPiper 3 ({ frames := 3, cells := 0, slots := 0, locals := 68 } : Room) [.ref (gz G + 1), .ref (gz G + 3)] w (fun w' => Ch [] [(1, 1), (1, 2), (1, 4), (1, 5), (3, 5)] w w' ∧ Inv RC w') := by
  refine enterV (by decide) (Nat.le_of_ble_eq_true rfl) ?_
  intro x el eG C hnm hret
  subst el; subst eG
  show V x 0 0 w 0 [(0, .ref (gz (xG x) + 1)), (1, .ref (gz (xG x) + 3))] []
  have h0 : Ch [] [(1, 1), (1, 2), (1, 4), (1, 5), (3, 5)] w w := Ch.rf
  have q0 : (0 : Int32).toInt = 0 := by decide
  refine r_aload_n 0 C dX5_readPiper_0 rfl ?_
  refine r_aload_n 1 C dX5_readPiper_1 rfl ?_
  refine callVI C cwX5_108_V (ctX5_readCell_1_3 _ _ w (sS sC h0) o0  ) (by decide) (kS sC h0 kc_1) rfl rfl rfl (Nat.le_of_ble_eq_true rfl) (by decide) dX5_readPiper_2 (fun r3 w2 y1 => ?_)
  show V x 0 0 w2 5 [(0, .ref (gz (xG x) + 1)), (1, .ref (gz (xG x) + 3))] [.int r3]
  obtain ⟨h4, o5⟩ := y1
  have h6 := Ch.tr h0 h4 (by decide) (by decide)
  refine r_istore_n [(2, .int r3), (0, .ref (gz (xG x) + 1)), (1, .ref (gz (xG x) + 3))] C dX5_readPiper_5 (by decide) rfl ?_
  refine r_aload_n 1 C dX5_readPiper_6 rfl ?_
  refine r_aload_n 2 C dX5_readPiper_7 rfl ?_
  refine r_iload_n 0 C dX5_readPiper_8 rfl ?_
  refine callVV C cwX5_122_V (ctX5_blameIfSpot_1_3 _ _ w2 (sS sC h6) o5 r3 ) (by decide) (kS sC h6 kc_1) rfl rfl rfl (Nat.le_of_ble_eq_true rfl) (by decide) dX5_readPiper_9 (fun w8 y7 => ?_)
  show V x 0 0 w8 12 [(2, .int r3), (0, .ref (gz (xG x) + 1)), (1, .ref (gz (xG x) + 3))] []
  obtain ⟨h10, o11⟩ := y7
  have h12 := Ch.tr h6 h10 (by decide) (by decide)
  refine r_aload_n 1 C dX5_readPiper_12 rfl ?_
  refine gfX5_30 (v := (wI w8 1 1)) C (kS sC h12 kc_1) rfl dX5_readPiper_13 ?_
  refine r_if_ne 24 C dX5_readPiper_16 (by decide) (fun c13 => ?_) (fun c13 => ?_)
  · have c13' := i_ne c13
    exact hret _ _ _ dX5_readPiper_24 ⟨h12, o11⟩
  · have c13' := i_eq c13
    refine r_aload_n 2 C dX5_readPiper_19 rfl ?_
    refine r_iload_n 0 C dX5_readPiper_20 rfl ?_
    refine pfX5_86 C (kS sC h12 kc_3) dX5_readPiper_21 (fun w14 e15 => ?_)
    have h16 := Ch.putF h12 e15 (by decide)
    have o17 := Inv.putk o11 e15 (by decide)
    exact hret _ _ _ dX5_readPiper_24 ⟨h16, o17⟩
set_option maxHeartbeats 4000000 in
set_option maxRecDepth 100000 in
theorem ctX5_readPay_1_3 (l : Launch) (G : Gt) (w : Wv) (sC : Str KC XC w) (o0 : Inv RC w)  : CtV l G yX5_readPay cX5_readPay 2 ({ frames := 2, cells := 0, slots := 0, locals := 45 } : Room) [.ref (gz G + 1), .ref (gz G + 3)] w (fun w' => Ch [] [(1, 1), (1, 2), (1, 4), (1, 5), (3, 6), (3, 7), (3, 8)] w w' ∧ Inv RC w') := by
  refine enterV (by decide) (Nat.le_of_ble_eq_true rfl) ?_
  intro x el eG C hnm hret
  subst el; subst eG
  show V x 0 0 w 0 [(0, .ref (gz (xG x) + 1)), (1, .ref (gz (xG x) + 3))] []
  have h0 : Ch [] [(1, 1), (1, 2), (1, 4), (1, 5), (3, 6), (3, 7), (3, 8)] w w := Ch.rf
  have q0 : (0 : Int32).toInt = 0 := by decide
  have q1 : (1 : Int32).toInt = 1 := by decide
  have q99 : (99 : Int32).toInt = 99 := by decide
  refine r_aload_n 1 C dX5_readPay_0 rfl ?_
  refine r_aload_n 0 C dX5_readPay_1 rfl ?_
  refine r_iconst (v := 0) C dX5_readPay_2 (by decide) ?_
  refine r_bipush (v := 99) C dX5_readPay_3 (by decide) ?_
  refine callVI C cwX5_96_V (ctX5_readNumber_1 _ _ w (sS sC h0) o0 0 99 ) (by decide) (kS sC h0 kc_1) rfl rfl rfl (Nat.le_of_ble_eq_true rfl) (by decide) dX5_readPay_5 (fun r3 w2 y1 => ?_)
  show V x 0 0 w2 8 [(0, .ref (gz (xG x) + 1)), (1, .ref (gz (xG x) + 3))] [.int r3, .ref (gz (xG x) + 3)]
  obtain ⟨h4, o5, g6⟩ := y1
  have h7 := Ch.tr h0 h4 (by decide) (by decide)
  refine pfX5_132 C (kS sC h7 kc_3) dX5_readPay_8 (fun w8 e9 => ?_)
  have h10 := Ch.putF h7 e9 (by decide)
  have o11 := Inv.putk o5 e9 (by decide)
  refine r_aload_n 1 C dX5_readPay_11 rfl ?_
  refine r_aload_n 0 C dX5_readPay_12 rfl ?_
  refine r_iconst (v := 0) C dX5_readPay_13 (by decide) ?_
  refine r_bipush (v := 99) C dX5_readPay_14 (by decide) ?_
  refine callVI C cwX5_96_V (ctX5_readNumber_1 _ _ w8 (sS sC h10) o11 0 99 ) (by decide) (kS sC h10 kc_1) rfl rfl rfl (Nat.le_of_ble_eq_true rfl) (by decide) dX5_readPay_16 (fun r14 w13 y12 => ?_)
  show V x 0 0 w13 19 [(0, .ref (gz (xG x) + 1)), (1, .ref (gz (xG x) + 3))] [.int r14, .ref (gz (xG x) + 3)]
  obtain ⟨h15, o16, g17⟩ := y12
  have h18 := Ch.tr h10 h15 (by decide) (by decide)
  refine pfX5_135 C (kS sC h18 kc_3) dX5_readPay_19 (fun w19 e20 => ?_)
  have h21 := Ch.putF h18 e20 (by decide)
  have o22 := Inv.putk o16 e20 (by decide)
  refine r_aload_n 1 C dX5_readPay_22 rfl ?_
  refine r_iconst (v := 1) C dX5_readPay_23 (by decide) ?_
  refine pfX5_89 C (kS sC h21 kc_3) (z_of (by omega)) dX5_readPay_24 (fun w23 e24 => ?_)
  have h25 := Ch.putF h21 e24 (by decide)
  have o26 := Inv.putk o22 e24 (by decide)
  exact hret _ _ _ dX5_readPay_27 ⟨h25, o26⟩
set_option maxHeartbeats 4000000 in
set_option maxRecDepth 100000 in
theorem ctX5_readSentence_1_3 (l : Launch) (G : Gt) (w : Wv) (sC : Str KC XC w) (o0 : Inv RC w)  : CtV l G yX5_readSentence cX5_readSentence 4 ({ frames := 8, cells := 0, slots := 0, locals := 185 } : Room) [.ref (gz G + 1), .ref (gz G + 3)] w (fun w' => Ch [4, 5, 6, 7, 8, 9, 10, 11] [(1, 1), (1, 2), (1, 4), (1, 5), (3, 0), (3, 1), (3, 2), (3, 3), (3, 4), (3, 5), (3, 6), (3, 7), (3, 8)] w w' ∧ Inv RC w') := by
  refine enterV (by decide) (Nat.le_of_ble_eq_true rfl) ?_
  intro x el eG C hnm hret
  subst el; subst eG
  show V x 0 0 w 0 [(0, .ref (gz (xG x) + 1)), (1, .ref (gz (xG x) + 3))] []
  have h0 : Ch [4, 5, 6, 7, 8, 9, 10, 11] [(1, 1), (1, 2), (1, 4), (1, 5), (3, 0), (3, 1), (3, 2), (3, 3), (3, 4), (3, 5), (3, 6), (3, 7), (3, 8)] w w := Ch.rf
  have qm1 : ((-1) : Int32).toInt = (-1) := by decide
  have q0 : (0 : Int32).toInt = 0 := by decide
  have q1 : (1 : Int32).toInt = 1 := by decide
  have q3 : (3 : Int32).toInt = 3 := by decide
  have q4 : (4 : Int32).toInt = 4 := by decide
  refine r_aload_n 0 C dX5_readSentence_0 rfl ?_
  refine gfX5_27 (v := (wI w 1 4)) C (kS sC h0 kc_1) rfl dX5_readSentence_1 ?_
  have b1 := Inv.get o0 rt_1_4 (j := 4) (by decide) (by decide)
  refine r_istore_n [(2, .int (wI w 1 4)), (0, .ref (gz (xG x) + 1)), (1, .ref (gz (xG x) + 3))] C dX5_readSentence_4 (by decide) rfl ?_
  refine r_aload_n 1 C dX5_readSentence_5 rfl ?_
  refine callVI C cwX5_50_V (ctX5_readWord_1 _ _ w (sS sC h0) o0  ) (by decide) (kS sC h0 kc_1) rfl rfl rfl (Nat.le_of_ble_eq_true rfl) (by decide) dX5_readSentence_6 (fun r4 w3 y2 => ?_)
  show V x 0 0 w3 9 [(2, .int (wI w 1 4)), (0, .ref (gz (xG x) + 1)), (1, .ref (gz (xG x) + 3))] [.int r4]
  obtain ⟨h5, o6⟩ := y2
  have h7 := Ch.tr h0 h5 (by decide) (by decide)
  refine r_istore_n [(3, .int r4), (2, .int (wI w 1 4)), (0, .ref (gz (xG x) + 1)), (1, .ref (gz (xG x) + 3))] C dX5_readSentence_9 (by decide) rfl ?_
  refine r_iload_n 0 C dX5_readSentence_10 rfl ?_
  refine r_iconst (v := (-1)) C dX5_readSentence_11 (by decide) ?_
  refine r_icmp_eq 27 C dX5_readSentence_12 (by decide) (fun c8 => ?_) (fun c8 => ?_)
  · have c8' := i_eq c8
    refine r_aload_n 2 C dX5_readSentence_27 rfl ?_
    refine r_iconst (v := 1) C dX5_readSentence_28 (by decide) ?_
    refine r_iload_n 1 C dX5_readSentence_29 rfl ?_
    refine callVV C cwX5_43_V (ctX5_blame_1 _ _ w3 (sS sC h7) o6 1 (wI w 1 4) (by omega)) (by decide) (kS sC h7 kc_1) rfl rfl rfl (Nat.le_of_ble_eq_true rfl) (by decide) dX5_readSentence_30 (fun w10 y9 => ?_)
    show V x 0 0 w10 33 [(3, .int r4), (2, .int (wI w 1 4)), (0, .ref (gz (xG x) + 1)), (1, .ref (gz (xG x) + 3))] []
    obtain ⟨h12, o13, f14⟩ := y9
    have h15 := Ch.tr h7 h12 (by decide) (by decide)
    refine r_goto 138 C dX5_readSentence_33 (by decide) ?_
    exact hret _ _ _ dX5_readSentence_138 ⟨h15, o13⟩
  · have c8' := i_ne c8
    refine r_aload_n 3 C dX5_readSentence_15 rfl ?_
    refine gfX5_40 (v := (wI w 3 0)) C (kS sC h7 kc_3) (h5.I (by decide) (by decide) rfl) dX5_readSentence_16 ?_
    have b16 := Inv.get o0 rt_3_0 (j := 0) (by decide) (by decide)
    refine r_if_ne 36 C dX5_readSentence_19 (by decide) (fun c17 => ?_) (fun c17 => ?_)
    · have c17' := i_ne c17
      refine r_aload_n 3 C dX5_readSentence_36 rfl ?_
      refine r_iload_n 0 C dX5_readSentence_37 rfl ?_
      refine callSI C cwX5_54_S (ctX5_isTooMany_3 _ _ w3 (sS sC h7) o6 r4 ) (by decide) rfl rfl (Nat.le_of_ble_eq_true rfl) (by decide) dX5_readSentence_38 (fun r20 w19 y18 => ?_)
      show V x 0 0 w19 41 [(3, .int r4), (2, .int (wI w 1 4)), (0, .ref (gz (xG x) + 1)), (1, .ref (gz (xG x) + 3))] [.int r20]
      obtain ⟨h21, o22⟩ := y18
      have h23 := Ch.tr h7 h21 (by decide) (by decide)
      refine r_if_eq 53 C dX5_readSentence_41 (by decide) (fun c24 => ?_) (fun c24 => ?_)
      · have c24' := i_eq c24
        refine r_iload_n 0 C dX5_readSentence_53 rfl ?_
        by_cases c25 : (r4 : Int32).toInt < 4 ∨ 8 < (r4 : Int32).toInt
        · refine r_tabOut 128 C dX5_readSentence_54 c25 (by decide) ?_
          refine r_aload_n 2 C dX5_readSentence_128 rfl ?_
          refine r_aload_n 3 C dX5_readSentence_129 rfl ?_
          refine r_iload_n 0 C dX5_readSentence_130 rfl ?_
          refine callVV C cwX5_73_V (ctX5_readSpot_1_3 _ _ w19 (sS sC h23) o22 r4 ) (by decide) (kS sC h23 kc_1) rfl rfl rfl (Nat.le_of_ble_eq_true rfl) (by decide) dX5_readSentence_131 (fun w27 y26 => ?_)
          show V x 0 0 w27 134 [(3, .int r4), (2, .int (wI w 1 4)), (0, .ref (gz (xG x) + 1)), (1, .ref (gz (xG x) + 3))] []
          obtain ⟨h29, o30⟩ := y26
          have h31 := Ch.tr h23 h29 (by decide) (by decide)
          refine r_aload_n 2 C dX5_readSentence_134 rfl ?_
          refine callVV C cwX5_77_V (ctX5_readEnd_1 _ _ w27 (sS sC h31) o30  ) (by decide) (kS sC h31 kc_1) rfl rfl rfl (Nat.le_of_ble_eq_true rfl) (by decide) dX5_readSentence_135 (fun w33 y32 => ?_)
          show V x 0 0 w33 138 [(3, .int r4), (2, .int (wI w 1 4)), (0, .ref (gz (xG x) + 1)), (1, .ref (gz (xG x) + 3))] []
          obtain ⟨h35, o36⟩ := y32
          have h37 := Ch.tr h31 h35 (by decide) (by decide)
          exact hret _ _ _ dX5_readSentence_138 ⟨h37, o36⟩
        · rcases (show (r4 : Int32).toInt = 4 ∨ (r4 : Int32).toInt = 5 ∨ (r4 : Int32).toInt = 6 ∨ (r4 : Int32).toInt = 7 ∨ (r4 : Int32).toInt = 8 by omega) with c25 | c25 | c25 | c25 | c25
          · refine r_tabIn 88 C dX5_readSentence_54 (by omega) (by omega) (by rw [c25]; rfl) (by decide) ?_
            refine r_aload_n 2 C dX5_readSentence_88 rfl ?_
            refine r_aload_n 3 C dX5_readSentence_89 rfl ?_
            refine callVV C cwX5_58_V (ctX5_readSize_1_3 _ _ w19 (sS sC h23) o22  ) (by decide) (kS sC h23 kc_1) rfl rfl rfl (Nat.le_of_ble_eq_true rfl) (by decide) dX5_readSentence_90 (fun w39 y38 => ?_)
            show V x 0 0 w39 93 [(3, .int r4), (2, .int (wI w 1 4)), (0, .ref (gz (xG x) + 1)), (1, .ref (gz (xG x) + 3))] []
            obtain ⟨h41, o42⟩ := y38
            have h43 := Ch.tr h23 h41 (by decide) (by decide)
            refine r_goto 134 C dX5_readSentence_93 (by decide) ?_
            refine r_aload_n 2 C dX5_readSentence_134 rfl ?_
            refine callVV C cwX5_77_V (ctX5_readEnd_1 _ _ w39 (sS sC h43) o42  ) (by decide) (kS sC h43 kc_1) rfl rfl rfl (Nat.le_of_ble_eq_true rfl) (by decide) dX5_readSentence_135 (fun w45 y44 => ?_)
            show V x 0 0 w45 138 [(3, .int r4), (2, .int (wI w 1 4)), (0, .ref (gz (xG x) + 1)), (1, .ref (gz (xG x) + 3))] []
            obtain ⟨h47, o48⟩ := y44
            have h49 := Ch.tr h43 h47 (by decide) (by decide)
            exact hret _ _ _ dX5_readSentence_138 ⟨h49, o48⟩
          · refine r_tabIn 96 C dX5_readSentence_54 (by omega) (by omega) (by rw [c25]; rfl) (by decide) ?_
            refine r_aload_n 2 C dX5_readSentence_96 rfl ?_
            refine r_aload_n 3 C dX5_readSentence_97 rfl ?_
            refine callVV C cwX5_61_V (ctX5_readCrowd_1_3 _ _ w19 (sS sC h23) o22  ) (by decide) (kS sC h23 kc_1) rfl rfl rfl (Nat.le_of_ble_eq_true rfl) (by decide) dX5_readSentence_98 (fun w51 y50 => ?_)
            show V x 0 0 w51 101 [(3, .int r4), (2, .int (wI w 1 4)), (0, .ref (gz (xG x) + 1)), (1, .ref (gz (xG x) + 3))] []
            obtain ⟨h53, o54⟩ := y50
            have h55 := Ch.tr h23 h53 (by decide) (by decide)
            refine r_goto 134 C dX5_readSentence_101 (by decide) ?_
            refine r_aload_n 2 C dX5_readSentence_134 rfl ?_
            refine callVV C cwX5_77_V (ctX5_readEnd_1 _ _ w51 (sS sC h55) o54  ) (by decide) (kS sC h55 kc_1) rfl rfl rfl (Nat.le_of_ble_eq_true rfl) (by decide) dX5_readSentence_135 (fun w57 y56 => ?_)
            show V x 0 0 w57 138 [(3, .int r4), (2, .int (wI w 1 4)), (0, .ref (gz (xG x) + 1)), (1, .ref (gz (xG x) + 3))] []
            obtain ⟨h59, o60⟩ := y56
            have h61 := Ch.tr h55 h59 (by decide) (by decide)
            exact hret _ _ _ dX5_readSentence_138 ⟨h61, o60⟩
          · refine r_tabIn 104 C dX5_readSentence_54 (by omega) (by omega) (by rw [c25]; rfl) (by decide) ?_
            refine r_aload_n 2 C dX5_readSentence_104 rfl ?_
            refine r_aload_n 3 C dX5_readSentence_105 rfl ?_
            refine callVV C cwX5_64_V (ctX5_readTune_1_3 _ _ w19 (sS sC h23) o22  ) (by decide) (kS sC h23 kc_1) rfl rfl rfl (Nat.le_of_ble_eq_true rfl) (by decide) dX5_readSentence_106 (fun w63 y62 => ?_)
            show V x 0 0 w63 109 [(3, .int r4), (2, .int (wI w 1 4)), (0, .ref (gz (xG x) + 1)), (1, .ref (gz (xG x) + 3))] []
            obtain ⟨h65, o66⟩ := y62
            have h67 := Ch.tr h23 h65 (by decide) (by decide)
            refine r_goto 134 C dX5_readSentence_109 (by decide) ?_
            refine r_aload_n 2 C dX5_readSentence_134 rfl ?_
            refine callVV C cwX5_77_V (ctX5_readEnd_1 _ _ w63 (sS sC h67) o66  ) (by decide) (kS sC h67 kc_1) rfl rfl rfl (Nat.le_of_ble_eq_true rfl) (by decide) dX5_readSentence_135 (fun w69 y68 => ?_)
            show V x 0 0 w69 138 [(3, .int r4), (2, .int (wI w 1 4)), (0, .ref (gz (xG x) + 1)), (1, .ref (gz (xG x) + 3))] []
            obtain ⟨h71, o72⟩ := y68
            have h73 := Ch.tr h67 h71 (by decide) (by decide)
            exact hret _ _ _ dX5_readSentence_138 ⟨h73, o72⟩
          · refine r_tabIn 112 C dX5_readSentence_54 (by omega) (by omega) (by rw [c25]; rfl) (by decide) ?_
            refine r_aload_n 2 C dX5_readSentence_112 rfl ?_
            refine r_aload_n 3 C dX5_readSentence_113 rfl ?_
            refine callVV C cwX5_67_V (ctX5_readPiper_1_3 _ _ w19 (sS sC h23) o22  ) (by decide) (kS sC h23 kc_1) rfl rfl rfl (Nat.le_of_ble_eq_true rfl) (by decide) dX5_readSentence_114 (fun w75 y74 => ?_)
            show V x 0 0 w75 117 [(3, .int r4), (2, .int (wI w 1 4)), (0, .ref (gz (xG x) + 1)), (1, .ref (gz (xG x) + 3))] []
            obtain ⟨h77, o78⟩ := y74
            have h79 := Ch.tr h23 h77 (by decide) (by decide)
            refine r_goto 134 C dX5_readSentence_117 (by decide) ?_
            refine r_aload_n 2 C dX5_readSentence_134 rfl ?_
            refine callVV C cwX5_77_V (ctX5_readEnd_1 _ _ w75 (sS sC h79) o78  ) (by decide) (kS sC h79 kc_1) rfl rfl rfl (Nat.le_of_ble_eq_true rfl) (by decide) dX5_readSentence_135 (fun w81 y80 => ?_)
            show V x 0 0 w81 138 [(3, .int r4), (2, .int (wI w 1 4)), (0, .ref (gz (xG x) + 1)), (1, .ref (gz (xG x) + 3))] []
            obtain ⟨h83, o84⟩ := y80
            have h85 := Ch.tr h79 h83 (by decide) (by decide)
            exact hret _ _ _ dX5_readSentence_138 ⟨h85, o84⟩
          · refine r_tabIn 120 C dX5_readSentence_54 (by omega) (by omega) (by rw [c25]; rfl) (by decide) ?_
            refine r_aload_n 2 C dX5_readSentence_120 rfl ?_
            refine r_aload_n 3 C dX5_readSentence_121 rfl ?_
            refine callVV C cwX5_70_V (ctX5_readPay_1_3 _ _ w19 (sS sC h23) o22  ) (by decide) (kS sC h23 kc_1) rfl rfl rfl (Nat.le_of_ble_eq_true rfl) (by decide) dX5_readSentence_122 (fun w87 y86 => ?_)
            show V x 0 0 w87 125 [(3, .int r4), (2, .int (wI w 1 4)), (0, .ref (gz (xG x) + 1)), (1, .ref (gz (xG x) + 3))] []
            obtain ⟨h89, o90⟩ := y86
            have h91 := Ch.tr h23 h89 (by decide) (by decide)
            refine r_goto 134 C dX5_readSentence_125 (by decide) ?_
            refine r_aload_n 2 C dX5_readSentence_134 rfl ?_
            refine callVV C cwX5_77_V (ctX5_readEnd_1 _ _ w87 (sS sC h91) o90  ) (by decide) (kS sC h91 kc_1) rfl rfl rfl (Nat.le_of_ble_eq_true rfl) (by decide) dX5_readSentence_135 (fun w93 y92 => ?_)
            show V x 0 0 w93 138 [(3, .int r4), (2, .int (wI w 1 4)), (0, .ref (gz (xG x) + 1)), (1, .ref (gz (xG x) + 3))] []
            obtain ⟨h95, o96⟩ := y92
            have h97 := Ch.tr h91 h95 (by decide) (by decide)
            exact hret _ _ _ dX5_readSentence_138 ⟨h97, o96⟩
      · have c24' := i_ne c24
        refine r_aload_n 2 C dX5_readSentence_44 rfl ?_
        refine r_iconst (v := 3) C dX5_readSentence_45 (by decide) ?_
        refine r_iload_n 1 C dX5_readSentence_46 rfl ?_
        refine callVV C cwX5_43_V (ctX5_blame_1 _ _ w19 (sS sC h23) o22 3 (wI w 1 4) (by omega)) (by decide) (kS sC h23 kc_1) rfl rfl rfl (Nat.le_of_ble_eq_true rfl) (by decide) dX5_readSentence_47 (fun w99 y98 => ?_)
        show V x 0 0 w99 50 [(3, .int r4), (2, .int (wI w 1 4)), (0, .ref (gz (xG x) + 1)), (1, .ref (gz (xG x) + 3))] []
        obtain ⟨h101, o102, f103⟩ := y98
        have h104 := Ch.tr h23 h101 (by decide) (by decide)
        refine r_goto 138 C dX5_readSentence_50 (by decide) ?_
        exact hret _ _ _ dX5_readSentence_138 ⟨h104, o102⟩
    · have c17' := i_eq c17
      refine r_iload_n 0 C dX5_readSentence_22 rfl ?_
      refine r_iconst (v := 4) C dX5_readSentence_23 (by decide) ?_
      refine r_icmp_eq 36 C dX5_readSentence_24 (by decide) (fun c105 => ?_) (fun c105 => ?_)
      · have c105' := i_eq c105
        refine r_aload_n 3 C dX5_readSentence_36 rfl ?_
        refine r_iload_n 0 C dX5_readSentence_37 rfl ?_
        refine callSI C cwX5_54_S (ctX5_isTooMany_3 _ _ w3 (sS sC h7) o6 r4 ) (by decide) rfl rfl (Nat.le_of_ble_eq_true rfl) (by decide) dX5_readSentence_38 (fun r108 w107 y106 => ?_)
        show V x 0 0 w107 41 [(3, .int r4), (2, .int (wI w 1 4)), (0, .ref (gz (xG x) + 1)), (1, .ref (gz (xG x) + 3))] [.int r108]
        obtain ⟨h109, o110⟩ := y106
        have h111 := Ch.tr h7 h109 (by decide) (by decide)
        refine r_if_eq 53 C dX5_readSentence_41 (by decide) (fun c112 => ?_) (fun c112 => ?_)
        · have c112' := i_eq c112
          refine r_iload_n 0 C dX5_readSentence_53 rfl ?_
          by_cases c113 : (r4 : Int32).toInt < 4 ∨ 8 < (r4 : Int32).toInt
          · refine r_tabOut 128 C dX5_readSentence_54 c113 (by decide) ?_
            refine r_aload_n 2 C dX5_readSentence_128 rfl ?_
            refine r_aload_n 3 C dX5_readSentence_129 rfl ?_
            refine r_iload_n 0 C dX5_readSentence_130 rfl ?_
            refine callVV C cwX5_73_V (ctX5_readSpot_1_3 _ _ w107 (sS sC h111) o110 r4 ) (by decide) (kS sC h111 kc_1) rfl rfl rfl (Nat.le_of_ble_eq_true rfl) (by decide) dX5_readSentence_131 (fun w115 y114 => ?_)
            show V x 0 0 w115 134 [(3, .int r4), (2, .int (wI w 1 4)), (0, .ref (gz (xG x) + 1)), (1, .ref (gz (xG x) + 3))] []
            obtain ⟨h117, o118⟩ := y114
            have h119 := Ch.tr h111 h117 (by decide) (by decide)
            refine r_aload_n 2 C dX5_readSentence_134 rfl ?_
            refine callVV C cwX5_77_V (ctX5_readEnd_1 _ _ w115 (sS sC h119) o118  ) (by decide) (kS sC h119 kc_1) rfl rfl rfl (Nat.le_of_ble_eq_true rfl) (by decide) dX5_readSentence_135 (fun w121 y120 => ?_)
            show V x 0 0 w121 138 [(3, .int r4), (2, .int (wI w 1 4)), (0, .ref (gz (xG x) + 1)), (1, .ref (gz (xG x) + 3))] []
            obtain ⟨h123, o124⟩ := y120
            have h125 := Ch.tr h119 h123 (by decide) (by decide)
            exact hret _ _ _ dX5_readSentence_138 ⟨h125, o124⟩
          · rcases (show (r4 : Int32).toInt = 4 ∨ (r4 : Int32).toInt = 5 ∨ (r4 : Int32).toInt = 6 ∨ (r4 : Int32).toInt = 7 ∨ (r4 : Int32).toInt = 8 by omega) with c113 | c113 | c113 | c113 | c113
            · refine r_tabIn 88 C dX5_readSentence_54 (by omega) (by omega) (by rw [c113]; rfl) (by decide) ?_
              refine r_aload_n 2 C dX5_readSentence_88 rfl ?_
              refine r_aload_n 3 C dX5_readSentence_89 rfl ?_
              refine callVV C cwX5_58_V (ctX5_readSize_1_3 _ _ w107 (sS sC h111) o110  ) (by decide) (kS sC h111 kc_1) rfl rfl rfl (Nat.le_of_ble_eq_true rfl) (by decide) dX5_readSentence_90 (fun w127 y126 => ?_)
              show V x 0 0 w127 93 [(3, .int r4), (2, .int (wI w 1 4)), (0, .ref (gz (xG x) + 1)), (1, .ref (gz (xG x) + 3))] []
              obtain ⟨h129, o130⟩ := y126
              have h131 := Ch.tr h111 h129 (by decide) (by decide)
              refine r_goto 134 C dX5_readSentence_93 (by decide) ?_
              refine r_aload_n 2 C dX5_readSentence_134 rfl ?_
              refine callVV C cwX5_77_V (ctX5_readEnd_1 _ _ w127 (sS sC h131) o130  ) (by decide) (kS sC h131 kc_1) rfl rfl rfl (Nat.le_of_ble_eq_true rfl) (by decide) dX5_readSentence_135 (fun w133 y132 => ?_)
              show V x 0 0 w133 138 [(3, .int r4), (2, .int (wI w 1 4)), (0, .ref (gz (xG x) + 1)), (1, .ref (gz (xG x) + 3))] []
              obtain ⟨h135, o136⟩ := y132
              have h137 := Ch.tr h131 h135 (by decide) (by decide)
              exact hret _ _ _ dX5_readSentence_138 ⟨h137, o136⟩
            · refine r_tabIn 96 C dX5_readSentence_54 (by omega) (by omega) (by rw [c113]; rfl) (by decide) ?_
              refine r_aload_n 2 C dX5_readSentence_96 rfl ?_
              refine r_aload_n 3 C dX5_readSentence_97 rfl ?_
              refine callVV C cwX5_61_V (ctX5_readCrowd_1_3 _ _ w107 (sS sC h111) o110  ) (by decide) (kS sC h111 kc_1) rfl rfl rfl (Nat.le_of_ble_eq_true rfl) (by decide) dX5_readSentence_98 (fun w139 y138 => ?_)
              show V x 0 0 w139 101 [(3, .int r4), (2, .int (wI w 1 4)), (0, .ref (gz (xG x) + 1)), (1, .ref (gz (xG x) + 3))] []
              obtain ⟨h141, o142⟩ := y138
              have h143 := Ch.tr h111 h141 (by decide) (by decide)
              refine r_goto 134 C dX5_readSentence_101 (by decide) ?_
              refine r_aload_n 2 C dX5_readSentence_134 rfl ?_
              refine callVV C cwX5_77_V (ctX5_readEnd_1 _ _ w139 (sS sC h143) o142  ) (by decide) (kS sC h143 kc_1) rfl rfl rfl (Nat.le_of_ble_eq_true rfl) (by decide) dX5_readSentence_135 (fun w145 y144 => ?_)
              show V x 0 0 w145 138 [(3, .int r4), (2, .int (wI w 1 4)), (0, .ref (gz (xG x) + 1)), (1, .ref (gz (xG x) + 3))] []
              obtain ⟨h147, o148⟩ := y144
              have h149 := Ch.tr h143 h147 (by decide) (by decide)
              exact hret _ _ _ dX5_readSentence_138 ⟨h149, o148⟩
            · refine r_tabIn 104 C dX5_readSentence_54 (by omega) (by omega) (by rw [c113]; rfl) (by decide) ?_
              refine r_aload_n 2 C dX5_readSentence_104 rfl ?_
              refine r_aload_n 3 C dX5_readSentence_105 rfl ?_
              refine callVV C cwX5_64_V (ctX5_readTune_1_3 _ _ w107 (sS sC h111) o110  ) (by decide) (kS sC h111 kc_1) rfl rfl rfl (Nat.le_of_ble_eq_true rfl) (by decide) dX5_readSentence_106 (fun w151 y150 => ?_)
              show V x 0 0 w151 109 [(3, .int r4), (2, .int (wI w 1 4)), (0, .ref (gz (xG x) + 1)), (1, .ref (gz (xG x) + 3))] []
              obtain ⟨h153, o154⟩ := y150
              have h155 := Ch.tr h111 h153 (by decide) (by decide)
              refine r_goto 134 C dX5_readSentence_109 (by decide) ?_
              refine r_aload_n 2 C dX5_readSentence_134 rfl ?_
              refine callVV C cwX5_77_V (ctX5_readEnd_1 _ _ w151 (sS sC h155) o154  ) (by decide) (kS sC h155 kc_1) rfl rfl rfl (Nat.le_of_ble_eq_true rfl) (by decide) dX5_readSentence_135 (fun w157 y156 => ?_)
              show V x 0 0 w157 138 [(3, .int r4), (2, .int (wI w 1 4)), (0, .ref (gz (xG x) + 1)), (1, .ref (gz (xG x) + 3))] []
              obtain ⟨h159, o160⟩ := y156
              have h161 := Ch.tr h155 h159 (by decide) (by decide)
              exact hret _ _ _ dX5_readSentence_138 ⟨h161, o160⟩
            · refine r_tabIn 112 C dX5_readSentence_54 (by omega) (by omega) (by rw [c113]; rfl) (by decide) ?_
              refine r_aload_n 2 C dX5_readSentence_112 rfl ?_
              refine r_aload_n 3 C dX5_readSentence_113 rfl ?_
              refine callVV C cwX5_67_V (ctX5_readPiper_1_3 _ _ w107 (sS sC h111) o110  ) (by decide) (kS sC h111 kc_1) rfl rfl rfl (Nat.le_of_ble_eq_true rfl) (by decide) dX5_readSentence_114 (fun w163 y162 => ?_)
              show V x 0 0 w163 117 [(3, .int r4), (2, .int (wI w 1 4)), (0, .ref (gz (xG x) + 1)), (1, .ref (gz (xG x) + 3))] []
              obtain ⟨h165, o166⟩ := y162
              have h167 := Ch.tr h111 h165 (by decide) (by decide)
              refine r_goto 134 C dX5_readSentence_117 (by decide) ?_
              refine r_aload_n 2 C dX5_readSentence_134 rfl ?_
              refine callVV C cwX5_77_V (ctX5_readEnd_1 _ _ w163 (sS sC h167) o166  ) (by decide) (kS sC h167 kc_1) rfl rfl rfl (Nat.le_of_ble_eq_true rfl) (by decide) dX5_readSentence_135 (fun w169 y168 => ?_)
              show V x 0 0 w169 138 [(3, .int r4), (2, .int (wI w 1 4)), (0, .ref (gz (xG x) + 1)), (1, .ref (gz (xG x) + 3))] []
              obtain ⟨h171, o172⟩ := y168
              have h173 := Ch.tr h167 h171 (by decide) (by decide)
              exact hret _ _ _ dX5_readSentence_138 ⟨h173, o172⟩
            · refine r_tabIn 120 C dX5_readSentence_54 (by omega) (by omega) (by rw [c113]; rfl) (by decide) ?_
              refine r_aload_n 2 C dX5_readSentence_120 rfl ?_
              refine r_aload_n 3 C dX5_readSentence_121 rfl ?_
              refine callVV C cwX5_70_V (ctX5_readPay_1_3 _ _ w107 (sS sC h111) o110  ) (by decide) (kS sC h111 kc_1) rfl rfl rfl (Nat.le_of_ble_eq_true rfl) (by decide) dX5_readSentence_122 (fun w175 y174 => ?_)
              show V x 0 0 w175 125 [(3, .int r4), (2, .int (wI w 1 4)), (0, .ref (gz (xG x) + 1)), (1, .ref (gz (xG x) + 3))] []
              obtain ⟨h177, o178⟩ := y174
              have h179 := Ch.tr h111 h177 (by decide) (by decide)
              refine r_goto 134 C dX5_readSentence_125 (by decide) ?_
              refine r_aload_n 2 C dX5_readSentence_134 rfl ?_
              refine callVV C cwX5_77_V (ctX5_readEnd_1 _ _ w175 (sS sC h179) o178  ) (by decide) (kS sC h179 kc_1) rfl rfl rfl (Nat.le_of_ble_eq_true rfl) (by decide) dX5_readSentence_135 (fun w181 y180 => ?_)
              show V x 0 0 w181 138 [(3, .int r4), (2, .int (wI w 1 4)), (0, .ref (gz (xG x) + 1)), (1, .ref (gz (xG x) + 3))] []
              obtain ⟨h183, o184⟩ := y180
              have h185 := Ch.tr h179 h183 (by decide) (by decide)
              exact hret _ _ _ dX5_readSentence_138 ⟨h185, o184⟩
        · have c112' := i_ne c112
          refine r_aload_n 2 C dX5_readSentence_44 rfl ?_
          refine r_iconst (v := 3) C dX5_readSentence_45 (by decide) ?_
          refine r_iload_n 1 C dX5_readSentence_46 rfl ?_
          refine callVV C cwX5_43_V (ctX5_blame_1 _ _ w107 (sS sC h111) o110 3 (wI w 1 4) (by omega)) (by decide) (kS sC h111 kc_1) rfl rfl rfl (Nat.le_of_ble_eq_true rfl) (by decide) dX5_readSentence_47 (fun w187 y186 => ?_)
          show V x 0 0 w187 50 [(3, .int r4), (2, .int (wI w 1 4)), (0, .ref (gz (xG x) + 1)), (1, .ref (gz (xG x) + 3))] []
          obtain ⟨h189, o190, f191⟩ := y186
          have h192 := Ch.tr h111 h189 (by decide) (by decide)
          refine r_goto 138 C dX5_readSentence_50 (by decide) ?_
          exact hret _ _ _ dX5_readSentence_138 ⟨h192, o190⟩
      · have c105' := i_ne c105
        refine r_aload_n 2 C dX5_readSentence_27 rfl ?_
        refine r_iconst (v := 1) C dX5_readSentence_28 (by decide) ?_
        refine r_iload_n 1 C dX5_readSentence_29 rfl ?_
        refine callVV C cwX5_43_V (ctX5_blame_1 _ _ w3 (sS sC h7) o6 1 (wI w 1 4) (by omega)) (by decide) (kS sC h7 kc_1) rfl rfl rfl (Nat.le_of_ble_eq_true rfl) (by decide) dX5_readSentence_30 (fun w194 y193 => ?_)
        show V x 0 0 w194 33 [(3, .int r4), (2, .int (wI w 1 4)), (0, .ref (gz (xG x) + 1)), (1, .ref (gz (xG x) + 3))] []
        obtain ⟨h196, o197, f198⟩ := y193
        have h199 := Ch.tr h7 h196 (by decide) (by decide)
        refine r_goto 138 C dX5_readSentence_33 (by decide) ?_
        exact hret _ _ _ dX5_readSentence_138 ⟨h199, o197⟩
set_option maxHeartbeats 4000000 in
set_option maxRecDepth 100000 in
theorem ctX5_read_1_3 (l : Launch) (G : Gt) (w : Wv) (sC : Str KC XC w) (o0 : Inv RC w)  : CtI l G yX5_read cX5_read 3 .boolean ({ frames := 9, cells := 0, slots := 0, locals := 208 } : Room) [.ref (gz G + 1), .ref (gz G + 3)] w (fun r w' => Ch [4, 5, 6, 7, 8, 9, 10, 11] [(1, 1), (1, 2), (1, 4), (1, 5), (3, 0), (3, 1), (3, 2), (3, 3), (3, 4), (3, 5), (3, 6), (3, 7), (3, 8)] w w' ∧ Inv RC w') := by
  refine enterI (by decide) (Nat.le_of_ble_eq_true rfl) ?_
  intro x el eG C hret
  subst el; subst eG
  show V x 0 0 w 0 [(0, .ref (gz (xG x) + 1)), (1, .ref (gz (xG x) + 3))] []
  have h0 : Ch [4, 5, 6, 7, 8, 9, 10, 11] [(1, 1), (1, 2), (1, 4), (1, 5), (3, 0), (3, 1), (3, 2), (3, 3), (3, 4), (3, 5), (3, 6), (3, 7), (3, 8)] w w := Ch.rf
  have qm1 : ((-1) : Int32).toInt = (-1) := by decide
  have q0 : (0 : Int32).toInt = 0 := by decide
  have q1 : (1 : Int32).toInt = 1 := by decide
  have q500 : (500 : Int32).toInt = 500 := by decide
  have LP26 : ∀ (f27 : Nat) (u25 : Int32) (w28 : Wv), Ch [4, 5, 6, 7, 8, 9, 10, 11] [(1, 1), (1, 2), (1, 4), (1, 5), (3, 0), (3, 1), (3, 2), (3, 3), (3, 4), (3, 5), (3, 6), (3, 7), (3, 8)] w w28 → Inv RC w28 → (0 ≤ u25.toInt ∧ u25.toInt ≤ 2147483647) → 2147483647 - u25.toInt < f27 → V x 0 0 w28 25 [(0, .ref (gz (xG x) + 1)), (1, .ref (gz (xG x) + 3)), (2, .int u25)] [] := by
    intro f27
    induction f27 with
    | zero => intro u25 w28 h29 o30 z31 z32; exfalso; omega
    | succ f27 ih33 =>
      intro u25 w28 h29 o30 z31 z32
      refine r_iload_n 2 C dX5_read_25 rfl ?_
      refine r_sipush (v := 500) C dX5_read_26 (by decide) ?_
      refine r_icmp_ge 65 C dX5_read_29 (by decide) (fun c34 => ?_) (fun c34 => ?_)
      · have c34' := i_le c34
        refine r_aload_n 1 C dX5_read_65 rfl ?_
        refine gfX5_40 (v := (wI w28 3 0)) C (kS sC h29 kc_3) rfl dX5_read_66 ?_
        have b35 := Inv.get o30 rt_3_0 (j := 0) (by decide) (by decide)
        refine r_if_ne 88 C dX5_read_69 (by decide) (fun c36 => ?_) (fun c36 => ?_)
        · have c36' := i_ne c36
          refine r_aload_n 1 C dX5_read_88 rfl ?_
          refine callVV C cwX5_47_V (ctX9_placePiperIfUntold_3 _ _ w28 (sS sC h29) o30  ) (by decide) (kS sC h29 kc_3) rfl rfl rfl (Nat.le_of_ble_eq_true rfl) (by decide) dX5_read_89 (fun w38 y37 => ?_)
          show V x 0 0 w38 92 [(0, .ref (gz (xG x) + 1)), (1, .ref (gz (xG x) + 3)), (2, .int u25)] []
          obtain ⟨h40, o41⟩ := y37
          have h42 := Ch.tr h29 h40 (by decide) (by decide)
          refine r_aload_n 0 C dX5_read_92 rfl ?_
          refine gfX5_30 (v := (wI w28 1 1)) C (kS sC h42 kc_1) (h40.I (by decide) (by decide) rfl) dX5_read_93 ?_
          refine r_if_ne 103 C dX5_read_96 (by decide) (fun c43 => ?_) (fun c43 => ?_)
          · have c43' := i_ne c43
            refine r_iconst (v := 0) C dX5_read_103 (by decide) ?_
            exact hret _ _ _ _ dX5_read_104 (nar_z (z_of (by omega))) ⟨h42, o41⟩
          · have c43' := i_eq c43
            refine r_iconst (v := 1) C dX5_read_99 (by decide) ?_
            refine r_goto 104 C dX5_read_100 (by decide) ?_
            exact hret _ _ _ _ dX5_read_104 (nar_z (z_of (by omega))) ⟨h42, o41⟩
        · have c36' := i_eq c36
          refine r_aload_n 0 C dX5_read_72 rfl ?_
          refine gfX5_19 (v := (wI w 1 0)) C (kS sC h29 kc_1) (h29.I (by decide) (by decide) rfl) dX5_read_73 ?_
          have b44 := Inv.get o0 rt_1_0 (j := 0) (by decide) (by decide)
          refine r_if_le 88 C dX5_read_76 (by decide) (fun c45 => ?_) (fun c45 => ?_)
          · have c45' := i_le c45
            refine r_aload_n 1 C dX5_read_88 rfl ?_
            refine callVV C cwX5_47_V (ctX9_placePiperIfUntold_3 _ _ w28 (sS sC h29) o30  ) (by decide) (kS sC h29 kc_3) rfl rfl rfl (Nat.le_of_ble_eq_true rfl) (by decide) dX5_read_89 (fun w47 y46 => ?_)
            show V x 0 0 w47 92 [(0, .ref (gz (xG x) + 1)), (1, .ref (gz (xG x) + 3)), (2, .int u25)] []
            obtain ⟨h49, o50⟩ := y46
            have h51 := Ch.tr h29 h49 (by decide) (by decide)
            refine r_aload_n 0 C dX5_read_92 rfl ?_
            refine gfX5_30 (v := (wI w28 1 1)) C (kS sC h51 kc_1) (h49.I (by decide) (by decide) rfl) dX5_read_93 ?_
            refine r_if_ne 103 C dX5_read_96 (by decide) (fun c52 => ?_) (fun c52 => ?_)
            · have c52' := i_ne c52
              refine r_iconst (v := 0) C dX5_read_103 (by decide) ?_
              exact hret _ _ _ _ dX5_read_104 (nar_z (z_of (by omega))) ⟨h51, o50⟩
            · have c52' := i_eq c52
              refine r_iconst (v := 1) C dX5_read_99 (by decide) ?_
              refine r_goto 104 C dX5_read_100 (by decide) ?_
              exact hret _ _ _ _ dX5_read_104 (nar_z (z_of (by omega))) ⟨h51, o50⟩
          · have c45' := i_nle c45
            refine r_aload_n 0 C dX5_read_79 rfl ?_
            refine r_iconst (v := 1) C dX5_read_80 (by decide) ?_
            refine r_aload_n 0 C dX5_read_81 rfl ?_
            refine gfX5_19 (v := (wI w 1 0)) C (kS sC h29 kc_1) (h29.I (by decide) (by decide) rfl) dX5_read_82 ?_
            refine callVV C cwX5_43_V (ctX5_blame_1 _ _ w28 (sS sC h29) o30 1 (wI w 1 0) (by omega)) (by decide) (kS sC h29 kc_1) rfl rfl rfl (Nat.le_of_ble_eq_true rfl) (by decide) dX5_read_85 (fun w54 y53 => ?_)
            show V x 0 0 w54 88 [(0, .ref (gz (xG x) + 1)), (1, .ref (gz (xG x) + 3)), (2, .int u25)] []
            obtain ⟨h56, o57, f58⟩ := y53
            have h59 := Ch.tr h29 h56 (by decide) (by decide)
            refine r_aload_n 1 C dX5_read_88 rfl ?_
            refine callVV C cwX5_47_V (ctX9_placePiperIfUntold_3 _ _ w54 (sS sC h59) o57  ) (by decide) (kS sC h59 kc_3) rfl rfl rfl (Nat.le_of_ble_eq_true rfl) (by decide) dX5_read_89 (fun w61 y60 => ?_)
            show V x 0 0 w61 92 [(0, .ref (gz (xG x) + 1)), (1, .ref (gz (xG x) + 3)), (2, .int u25)] []
            obtain ⟨h63, o64⟩ := y60
            have h65 := Ch.tr h59 h63 (by decide) (by decide)
            refine r_aload_n 0 C dX5_read_92 rfl ?_
            refine gfX5_30 (v := (wI w54 1 1)) C (kS sC h65 kc_1) (h63.I (by decide) (by decide) rfl) dX5_read_93 ?_
            refine r_if_ne 103 C dX5_read_96 (by decide) (fun c66 => ?_) (fun c66 => ?_)
            · have c66' := i_ne c66
              refine r_iconst (v := 0) C dX5_read_103 (by decide) ?_
              exact hret _ _ _ _ dX5_read_104 (nar_z (z_of (by omega))) ⟨h65, o64⟩
            · have c66' := i_eq c66
              refine r_iconst (v := 1) C dX5_read_99 (by decide) ?_
              refine r_goto 104 C dX5_read_100 (by decide) ?_
              exact hret _ _ _ _ dX5_read_104 (nar_z (z_of (by omega))) ⟨h65, o64⟩
      · have c34' := i_nle c34
        refine r_aload_n 0 C dX5_read_32 rfl ?_
        refine gfX5_27 (v := (wI w28 1 4)) C (kS sC h29 kc_1) rfl dX5_read_33 ?_
        have b67 := Inv.get o30 rt_1_4 (j := 4) (by decide) (by decide)
        refine r_aload_n 0 C dX5_read_36 rfl ?_
        refine gfX5_19 (v := (wI w 1 0)) C (kS sC h29 kc_1) (h29.I (by decide) (by decide) rfl) dX5_read_37 ?_
        have b68 := Inv.get o0 rt_1_0 (j := 0) (by decide) (by decide)
        refine r_icmp_ge 65 C dX5_read_40 (by decide) (fun c69 => ?_) (fun c69 => ?_)
        · have c69' := i_le c69
          refine r_aload_n 1 C dX5_read_65 rfl ?_
          refine gfX5_40 (v := (wI w28 3 0)) C (kS sC h29 kc_3) rfl dX5_read_66 ?_
          have b70 := Inv.get o30 rt_3_0 (j := 0) (by decide) (by decide)
          refine r_if_ne 88 C dX5_read_69 (by decide) (fun c71 => ?_) (fun c71 => ?_)
          · have c71' := i_ne c71
            refine r_aload_n 1 C dX5_read_88 rfl ?_
            refine callVV C cwX5_47_V (ctX9_placePiperIfUntold_3 _ _ w28 (sS sC h29) o30  ) (by decide) (kS sC h29 kc_3) rfl rfl rfl (Nat.le_of_ble_eq_true rfl) (by decide) dX5_read_89 (fun w73 y72 => ?_)
            show V x 0 0 w73 92 [(0, .ref (gz (xG x) + 1)), (1, .ref (gz (xG x) + 3)), (2, .int u25)] []
            obtain ⟨h75, o76⟩ := y72
            have h77 := Ch.tr h29 h75 (by decide) (by decide)
            refine r_aload_n 0 C dX5_read_92 rfl ?_
            refine gfX5_30 (v := (wI w28 1 1)) C (kS sC h77 kc_1) (h75.I (by decide) (by decide) rfl) dX5_read_93 ?_
            refine r_if_ne 103 C dX5_read_96 (by decide) (fun c78 => ?_) (fun c78 => ?_)
            · have c78' := i_ne c78
              refine r_iconst (v := 0) C dX5_read_103 (by decide) ?_
              exact hret _ _ _ _ dX5_read_104 (nar_z (z_of (by omega))) ⟨h77, o76⟩
            · have c78' := i_eq c78
              refine r_iconst (v := 1) C dX5_read_99 (by decide) ?_
              refine r_goto 104 C dX5_read_100 (by decide) ?_
              exact hret _ _ _ _ dX5_read_104 (nar_z (z_of (by omega))) ⟨h77, o76⟩
          · have c71' := i_eq c71
            refine r_aload_n 0 C dX5_read_72 rfl ?_
            refine gfX5_19 (v := (wI w 1 0)) C (kS sC h29 kc_1) (h29.I (by decide) (by decide) rfl) dX5_read_73 ?_
            refine r_if_le 88 C dX5_read_76 (by decide) (fun c79 => ?_) (fun c79 => ?_)
            · have c79' := i_le c79
              refine r_aload_n 1 C dX5_read_88 rfl ?_
              refine callVV C cwX5_47_V (ctX9_placePiperIfUntold_3 _ _ w28 (sS sC h29) o30  ) (by decide) (kS sC h29 kc_3) rfl rfl rfl (Nat.le_of_ble_eq_true rfl) (by decide) dX5_read_89 (fun w81 y80 => ?_)
              show V x 0 0 w81 92 [(0, .ref (gz (xG x) + 1)), (1, .ref (gz (xG x) + 3)), (2, .int u25)] []
              obtain ⟨h83, o84⟩ := y80
              have h85 := Ch.tr h29 h83 (by decide) (by decide)
              refine r_aload_n 0 C dX5_read_92 rfl ?_
              refine gfX5_30 (v := (wI w28 1 1)) C (kS sC h85 kc_1) (h83.I (by decide) (by decide) rfl) dX5_read_93 ?_
              refine r_if_ne 103 C dX5_read_96 (by decide) (fun c86 => ?_) (fun c86 => ?_)
              · have c86' := i_ne c86
                refine r_iconst (v := 0) C dX5_read_103 (by decide) ?_
                exact hret _ _ _ _ dX5_read_104 (nar_z (z_of (by omega))) ⟨h85, o84⟩
              · have c86' := i_eq c86
                refine r_iconst (v := 1) C dX5_read_99 (by decide) ?_
                refine r_goto 104 C dX5_read_100 (by decide) ?_
                exact hret _ _ _ _ dX5_read_104 (nar_z (z_of (by omega))) ⟨h85, o84⟩
            · have c79' := i_nle c79
              refine r_aload_n 0 C dX5_read_79 rfl ?_
              refine r_iconst (v := 1) C dX5_read_80 (by decide) ?_
              refine r_aload_n 0 C dX5_read_81 rfl ?_
              refine gfX5_19 (v := (wI w 1 0)) C (kS sC h29 kc_1) (h29.I (by decide) (by decide) rfl) dX5_read_82 ?_
              refine callVV C cwX5_43_V (ctX5_blame_1 _ _ w28 (sS sC h29) o30 1 (wI w 1 0) (by omega)) (by decide) (kS sC h29 kc_1) rfl rfl rfl (Nat.le_of_ble_eq_true rfl) (by decide) dX5_read_85 (fun w88 y87 => ?_)
              show V x 0 0 w88 88 [(0, .ref (gz (xG x) + 1)), (1, .ref (gz (xG x) + 3)), (2, .int u25)] []
              obtain ⟨h90, o91, f92⟩ := y87
              have h93 := Ch.tr h29 h90 (by decide) (by decide)
              refine r_aload_n 1 C dX5_read_88 rfl ?_
              refine callVV C cwX5_47_V (ctX9_placePiperIfUntold_3 _ _ w88 (sS sC h93) o91  ) (by decide) (kS sC h93 kc_3) rfl rfl rfl (Nat.le_of_ble_eq_true rfl) (by decide) dX5_read_89 (fun w95 y94 => ?_)
              show V x 0 0 w95 92 [(0, .ref (gz (xG x) + 1)), (1, .ref (gz (xG x) + 3)), (2, .int u25)] []
              obtain ⟨h97, o98⟩ := y94
              have h99 := Ch.tr h93 h97 (by decide) (by decide)
              refine r_aload_n 0 C dX5_read_92 rfl ?_
              refine gfX5_30 (v := (wI w88 1 1)) C (kS sC h99 kc_1) (h97.I (by decide) (by decide) rfl) dX5_read_93 ?_
              refine r_if_ne 103 C dX5_read_96 (by decide) (fun c100 => ?_) (fun c100 => ?_)
              · have c100' := i_ne c100
                refine r_iconst (v := 0) C dX5_read_103 (by decide) ?_
                exact hret _ _ _ _ dX5_read_104 (nar_z (z_of (by omega))) ⟨h99, o98⟩
              · have c100' := i_eq c100
                refine r_iconst (v := 1) C dX5_read_99 (by decide) ?_
                refine r_goto 104 C dX5_read_100 (by decide) ?_
                exact hret _ _ _ _ dX5_read_104 (nar_z (z_of (by omega))) ⟨h99, o98⟩
        · have c69' := i_nle c69
          refine r_aload_n 0 C dX5_read_43 rfl ?_
          refine gfX5_30 (v := (wI w28 1 1)) C (kS sC h29 kc_1) rfl dX5_read_44 ?_
          refine r_if_ne 65 C dX5_read_47 (by decide) (fun c101 => ?_) (fun c101 => ?_)
          · have c101' := i_ne c101
            refine r_aload_n 1 C dX5_read_65 rfl ?_
            refine gfX5_40 (v := (wI w28 3 0)) C (kS sC h29 kc_3) rfl dX5_read_66 ?_
            have b102 := Inv.get o30 rt_3_0 (j := 0) (by decide) (by decide)
            refine r_if_ne 88 C dX5_read_69 (by decide) (fun c103 => ?_) (fun c103 => ?_)
            · have c103' := i_ne c103
              refine r_aload_n 1 C dX5_read_88 rfl ?_
              refine callVV C cwX5_47_V (ctX9_placePiperIfUntold_3 _ _ w28 (sS sC h29) o30  ) (by decide) (kS sC h29 kc_3) rfl rfl rfl (Nat.le_of_ble_eq_true rfl) (by decide) dX5_read_89 (fun w105 y104 => ?_)
              show V x 0 0 w105 92 [(0, .ref (gz (xG x) + 1)), (1, .ref (gz (xG x) + 3)), (2, .int u25)] []
              obtain ⟨h107, o108⟩ := y104
              have h109 := Ch.tr h29 h107 (by decide) (by decide)
              refine r_aload_n 0 C dX5_read_92 rfl ?_
              refine gfX5_30 (v := (wI w28 1 1)) C (kS sC h109 kc_1) (h107.I (by decide) (by decide) rfl) dX5_read_93 ?_
              refine r_if_ne 103 C dX5_read_96 (by decide) (fun c110 => ?_) (fun c110 => ?_)
              · have c110' := i_ne c110
                refine r_iconst (v := 0) C dX5_read_103 (by decide) ?_
                exact hret _ _ _ _ dX5_read_104 (nar_z (z_of (by omega))) ⟨h109, o108⟩
              · have c110' := i_eq c110
                refine r_iconst (v := 1) C dX5_read_99 (by decide) ?_
                refine r_goto 104 C dX5_read_100 (by decide) ?_
                exact hret _ _ _ _ dX5_read_104 (nar_z (z_of (by omega))) ⟨h109, o108⟩
            · have c103' := i_eq c103
              refine r_aload_n 0 C dX5_read_72 rfl ?_
              refine gfX5_19 (v := (wI w 1 0)) C (kS sC h29 kc_1) (h29.I (by decide) (by decide) rfl) dX5_read_73 ?_
              refine r_if_le 88 C dX5_read_76 (by decide) (fun c111 => ?_) (fun c111 => ?_)
              · have c111' := i_le c111
                refine r_aload_n 1 C dX5_read_88 rfl ?_
                refine callVV C cwX5_47_V (ctX9_placePiperIfUntold_3 _ _ w28 (sS sC h29) o30  ) (by decide) (kS sC h29 kc_3) rfl rfl rfl (Nat.le_of_ble_eq_true rfl) (by decide) dX5_read_89 (fun w113 y112 => ?_)
                show V x 0 0 w113 92 [(0, .ref (gz (xG x) + 1)), (1, .ref (gz (xG x) + 3)), (2, .int u25)] []
                obtain ⟨h115, o116⟩ := y112
                have h117 := Ch.tr h29 h115 (by decide) (by decide)
                refine r_aload_n 0 C dX5_read_92 rfl ?_
                refine gfX5_30 (v := (wI w28 1 1)) C (kS sC h117 kc_1) (h115.I (by decide) (by decide) rfl) dX5_read_93 ?_
                refine r_if_ne 103 C dX5_read_96 (by decide) (fun c118 => ?_) (fun c118 => ?_)
                · have c118' := i_ne c118
                  refine r_iconst (v := 0) C dX5_read_103 (by decide) ?_
                  exact hret _ _ _ _ dX5_read_104 (nar_z (z_of (by omega))) ⟨h117, o116⟩
                · have c118' := i_eq c118
                  refine r_iconst (v := 1) C dX5_read_99 (by decide) ?_
                  refine r_goto 104 C dX5_read_100 (by decide) ?_
                  exact hret _ _ _ _ dX5_read_104 (nar_z (z_of (by omega))) ⟨h117, o116⟩
              · have c111' := i_nle c111
                refine r_aload_n 0 C dX5_read_79 rfl ?_
                refine r_iconst (v := 1) C dX5_read_80 (by decide) ?_
                refine r_aload_n 0 C dX5_read_81 rfl ?_
                refine gfX5_19 (v := (wI w 1 0)) C (kS sC h29 kc_1) (h29.I (by decide) (by decide) rfl) dX5_read_82 ?_
                refine callVV C cwX5_43_V (ctX5_blame_1 _ _ w28 (sS sC h29) o30 1 (wI w 1 0) (by omega)) (by decide) (kS sC h29 kc_1) rfl rfl rfl (Nat.le_of_ble_eq_true rfl) (by decide) dX5_read_85 (fun w120 y119 => ?_)
                show V x 0 0 w120 88 [(0, .ref (gz (xG x) + 1)), (1, .ref (gz (xG x) + 3)), (2, .int u25)] []
                obtain ⟨h122, o123, f124⟩ := y119
                have h125 := Ch.tr h29 h122 (by decide) (by decide)
                refine r_aload_n 1 C dX5_read_88 rfl ?_
                refine callVV C cwX5_47_V (ctX9_placePiperIfUntold_3 _ _ w120 (sS sC h125) o123  ) (by decide) (kS sC h125 kc_3) rfl rfl rfl (Nat.le_of_ble_eq_true rfl) (by decide) dX5_read_89 (fun w127 y126 => ?_)
                show V x 0 0 w127 92 [(0, .ref (gz (xG x) + 1)), (1, .ref (gz (xG x) + 3)), (2, .int u25)] []
                obtain ⟨h129, o130⟩ := y126
                have h131 := Ch.tr h125 h129 (by decide) (by decide)
                refine r_aload_n 0 C dX5_read_92 rfl ?_
                refine gfX5_30 (v := (wI w120 1 1)) C (kS sC h131 kc_1) (h129.I (by decide) (by decide) rfl) dX5_read_93 ?_
                refine r_if_ne 103 C dX5_read_96 (by decide) (fun c132 => ?_) (fun c132 => ?_)
                · have c132' := i_ne c132
                  refine r_iconst (v := 0) C dX5_read_103 (by decide) ?_
                  exact hret _ _ _ _ dX5_read_104 (nar_z (z_of (by omega))) ⟨h131, o130⟩
                · have c132' := i_eq c132
                  refine r_iconst (v := 1) C dX5_read_99 (by decide) ?_
                  refine r_goto 104 C dX5_read_100 (by decide) ?_
                  exact hret _ _ _ _ dX5_read_104 (nar_z (z_of (by omega))) ⟨h131, o130⟩
          · have c101' := i_eq c101
            refine r_aload_n 0 C dX5_read_50 rfl ?_
            refine r_aload_n 1 C dX5_read_51 rfl ?_
            refine callVV C cwX5_36_V (ctX5_readSentence_1_3 _ _ w28 (sS sC h29) o30  ) (by decide) (kS sC h29 kc_1) rfl rfl rfl (Nat.le_of_ble_eq_true rfl) (by decide) dX5_read_52 (fun w134 y133 => ?_)
            show V x 0 0 w134 55 [(0, .ref (gz (xG x) + 1)), (1, .ref (gz (xG x) + 3)), (2, .int u25)] []
            obtain ⟨h136, o137⟩ := y133
            have h138 := Ch.tr h29 h136 (by decide) (by decide)
            refine r_aload_n 0 C dX5_read_55 rfl ?_
            refine callVV C cwX5_33_V (ctX5_skipBlanks_1 _ _ w134 (sS sC h138) o137  ) (by decide) (kS sC h138 kc_1) rfl rfl rfl (Nat.le_of_ble_eq_true rfl) (by decide) dX5_read_56 (fun w140 y139 => ?_)
            show V x 0 0 w140 59 [(0, .ref (gz (xG x) + 1)), (1, .ref (gz (xG x) + 3)), (2, .int u25)] []
            obtain ⟨h142, o143⟩ := y139
            have h144 := Ch.tr h138 h142 (by decide) (by decide)
            obtain ⟨i145, e146⟩ : ∃ z : Int32, u25 + Int32.ofInt 1 = z := ⟨_, rfl⟩
            have i145' := iinc_ok e146 (by decide) (by omega) (by omega)
            refine r_iinc [(2, .int i145), (0, .ref (gz (xG x) + 1)), (1, .ref (gz (xG x) + 3))] 2 C dX5_read_59 rfl e146 (by decide) rfl ?_
            refine r_goto 25 C dX5_read_62 (by decide) ?_
            refine r_lv [1, 2, 0] rfl ?_
            exact ih33 i145 w140 h144 o143 (by omega) (by omega)
  refine r_aload_n 1 C dX5_read_0 rfl ?_
  refine callVV C cwX5_22_V (ctX9_clear_3 _ _ w (sS sC h0) o0  ) (by decide) (kS sC h0 kc_3) rfl rfl rfl (Nat.le_of_ble_eq_true rfl) (by decide) dX5_read_1 (fun w2 y1 => ?_)
  show V x 0 0 w2 4 [(0, .ref (gz (xG x) + 1)), (1, .ref (gz (xG x) + 3))] []
  obtain ⟨h4, o5⟩ := y1
  have h6 := Ch.tr h0 h4 (by decide) (by decide)
  refine r_aload_n 0 C dX5_read_4 rfl ?_
  refine r_iconst (v := 0) C dX5_read_5 (by decide) ?_
  refine pfX5_27 C (kS sC h6 kc_1) dX5_read_6 (fun w7 e8 => ?_)
  have h9 := Ch.putF h6 e8 (by decide)
  have o10 := Inv.put o5 e8 0 500 (by omega) (by decide)
  refine r_aload_n 0 C dX5_read_9 rfl ?_
  refine r_iconst (v := 0) C dX5_read_10 (by decide) ?_
  refine pfX5_30 C (kS sC h9 kc_1) dX5_read_11 (fun w11 e12 => ?_)
  have h13 := Ch.putF h9 e12 (by decide)
  have o14 := Inv.putk o10 e12 (by decide)
  refine r_aload_n 0 C dX5_read_14 rfl ?_
  refine r_iconst (v := (-1)) C dX5_read_15 (by decide) ?_
  refine pfX5_9 C (kS sC h13 kc_1) dX5_read_16 (fun w15 e16 => ?_)
  have h17 := Ch.putF h13 e16 (by decide)
  have o18 := Inv.putk o14 e16 (by decide)
  refine r_aload_n 0 C dX5_read_19 rfl ?_
  refine callVV C cwX5_33_V (ctX5_skipBlanks_1 _ _ w15 (sS sC h17) o18  ) (by decide) (kS sC h17 kc_1) rfl rfl rfl (Nat.le_of_ble_eq_true rfl) (by decide) dX5_read_20 (fun w20 y19 => ?_)
  show V x 0 0 w20 23 [(0, .ref (gz (xG x) + 1)), (1, .ref (gz (xG x) + 3))] []
  obtain ⟨h22, o23⟩ := y19
  have h24 := Ch.tr h17 h22 (by decide) (by decide)
  refine r_iconst (v := 0) C dX5_read_23 (by decide) ?_
  refine r_istore_n [(2, .int 0), (0, .ref (gz (xG x) + 1)), (1, .ref (gz (xG x) + 3))] C dX5_read_24 (by decide) rfl ?_
  refine r_lv [1, 2, 0] rfl ?_
  exact LP26 4294967296 0 w20 h24 o23 (by omega) (by omega)
set_option maxHeartbeats 4000000 in
set_option maxRecDepth 100000 in
theorem ctX5_readCell_1_12 (l : Launch) (G : Gt) (w : Wv) (sC : Str KC XC w) (o0 : Inv RC w)  : CtI l G yX5_readCell cX5_readCell 4 .int ({ frames := 2, cells := 0, slots := 0, locals := 45 } : Room) [.ref (gz G + 1), .ref (gz G + 12)] w (fun r w' => Ch [] [(1, 1), (1, 2), (1, 4), (1, 5)] w w' ∧ Inv RC w') := by
  refine enterI (by decide) (Nat.le_of_ble_eq_true rfl) ?_
  intro x el eG C hret
  subst el; subst eG
  show V x 0 0 w 0 [(0, .ref (gz (xG x) + 1)), (1, .ref (gz (xG x) + 12))] []
  have h0 : Ch [] [(1, 1), (1, 2), (1, 4), (1, 5)] w w := Ch.rf
  have qm1 : ((-1) : Int32).toInt = (-1) := by decide
  have q0 : (0 : Int32).toInt = 0 := by decide
  have q1 : (1 : Int32).toInt = 1 := by decide
  refine r_aload_n 0 C dX5_readCell_0 rfl ?_
  refine r_iconst (v := 0) C dX5_readCell_1 (by decide) ?_
  refine r_aload_n 1 C dX5_readCell_2 rfl ?_
  refine gfX5_40 (v := (wI w 12 0)) C (kS sC h0 kc_12) rfl dX5_readCell_3 ?_
  have b1 := Inv.get o0 rt_12_0 (j := 0) (by decide) (by decide)
  refine r_iconst (v := 1) C dX5_readCell_6 (by decide) ?_
  refine r_isub C dX5_readCell_7 (fun v2 e3 => ?_)
  have v2' := isub_ok e3 (by omega) (by omega)
  refine callVI C cwX5_96_V (ctX5_readNumber_1 _ _ w (sS sC h0) o0 0 v2 ) (by decide) (kS sC h0 kc_1) rfl rfl rfl (Nat.le_of_ble_eq_true rfl) (by decide) dX5_readCell_8 (fun r6 w5 y4 => ?_)
  show V x 0 0 w5 11 [(0, .ref (gz (xG x) + 1)), (1, .ref (gz (xG x) + 12))] [.int r6]
  obtain ⟨h7, o8, g9⟩ := y4
  have h10 := Ch.tr h0 h7 (by decide) (by decide)
  refine r_istore_n [(2, .int r6), (0, .ref (gz (xG x) + 1)), (1, .ref (gz (xG x) + 12))] C dX5_readCell_11 (by decide) rfl ?_
  refine r_aload_n 1 C dX5_readCell_12 rfl ?_
  refine r_iconst (v := 0) C dX5_readCell_13 (by decide) ?_
  refine r_aload_n 2 C dX5_readCell_14 rfl ?_
  refine gfX5_105 (v := (wI w 12 1)) C (kS sC h10 kc_12) (h7.I (by decide) (by decide) rfl) dX5_readCell_15 ?_
  have b11 := Inv.get o0 rt_12_1 (j := 1) (by decide) (by decide)
  refine r_iconst (v := 1) C dX5_readCell_18 (by decide) ?_
  refine r_isub C dX5_readCell_19 (fun v12 e13 => ?_)
  have v12' := isub_ok e13 (by omega) (by omega)
  refine callVI C cwX5_96_V (ctX5_readNumber_1 _ _ w5 (sS sC h10) o8 0 v12 ) (by decide) (kS sC h10 kc_1) rfl rfl rfl (Nat.le_of_ble_eq_true rfl) (by decide) dX5_readCell_20 (fun r16 w15 y14 => ?_)
  show V x 0 0 w15 23 [(2, .int r6), (0, .ref (gz (xG x) + 1)), (1, .ref (gz (xG x) + 12))] [.int r16]
  obtain ⟨h17, o18, g19⟩ := y14
  have h20 := Ch.tr h10 h17 (by decide) (by decide)
  refine r_istore_n [(3, .int r16), (2, .int r6), (0, .ref (gz (xG x) + 1)), (1, .ref (gz (xG x) + 12))] C dX5_readCell_23 (by decide) rfl ?_
  refine r_aload_n 2 C dX5_readCell_24 rfl ?_
  refine gfX5_30 (v := (wI w15 1 1)) C (kS sC h20 kc_1) rfl dX5_readCell_25 ?_
  refine r_if_ne 42 C dX5_readCell_28 (by decide) (fun c21 => ?_) (fun c21 => ?_)
  · have c21' := i_ne c21
    refine r_iconst (v := (-1)) C dX5_readCell_42 (by decide) ?_
    exact hret _ _ _ _ dX5_readCell_43 rfl ⟨h20, o18⟩
  · have c21' := i_eq c21
    refine r_iload_n 0 C dX5_readCell_31 rfl ?_
    refine r_aload_n 3 C dX5_readCell_32 rfl ?_
    refine gfX5_40 (v := (wI w 12 0)) C (kS sC h20 kc_12) (h17.I (by decide) (by decide) (h7.I (by decide) (by decide) rfl)) dX5_readCell_33 ?_
    refine r_imul C dX5_readCell_36 (fun v22 e23 => ?_)
    have v22' := imul_rng e23 (A := 8) (B := 9) (by omega) (by omega) (by decide)
    refine r_iload_n 1 C dX5_readCell_37 rfl ?_
    refine r_iadd C dX5_readCell_38 (fun v24 e25 => ?_)
    have v24' := iadd_ok e25 (by omega) (by omega)
    refine r_goto 43 C dX5_readCell_39 (by decide) ?_
    exact hret _ _ _ _ dX5_readCell_43 rfl ⟨h20, o18⟩
set_option maxHeartbeats 4000000 in
set_option maxRecDepth 100000 in
theorem ctX5_blameIfSpot_1_12 (l : Launch) (G : Gt) (w : Wv) (sC : Str KC XC w) (o0 : Inv RC w) (a2 : Int32) : CtV l G yX5_blameIfSpot cX5_blameIfSpot 3 ({ frames := 2, cells := 0, slots := 0, locals := 41 } : Room) [.ref (gz G + 1), .ref (gz G + 12), .int a2] w (fun w' => Ch [] [(1, 1), (1, 2)] w w' ∧ Inv RC w') := by
  refine enterV (by decide) (Nat.le_of_ble_eq_true rfl) ?_
  intro x el eG C hnm hret
  subst el; subst eG
  show V x 0 0 w 0 [(0, .ref (gz (xG x) + 1)), (1, .ref (gz (xG x) + 12)), (2, .int a2)] []
  have h0 : Ch [] [(1, 1), (1, 2)] w w := Ch.rf
  have q0 : (0 : Int32).toInt = 0 := by decide
  have q4 : (4 : Int32).toInt = 4 := by decide
  refine r_aload_n 1 C dX5_blameIfSpot_0 rfl ?_
  refine r_iload_n 2 C dX5_blameIfSpot_1 rfl ?_
  refine callVI C cwX5_138_V (ctX9_isSpot_12 _ _ w (sS sC h0) o0 a2 ) (by decide) (kS sC h0 kc_12) rfl rfl rfl (Nat.le_of_ble_eq_true rfl) (by decide) dX5_blameIfSpot_2 (fun r3 w2 y1 => ?_)
  show V x 0 0 w2 5 [(0, .ref (gz (xG x) + 1)), (1, .ref (gz (xG x) + 12)), (2, .int a2)] [.int r3]
  obtain ⟨h4, o5⟩ := y1
  have h6 := Ch.tr h0 h4 (by decide) (by decide)
  refine r_if_eq 17 C dX5_blameIfSpot_5 (by decide) (fun c7 => ?_) (fun c7 => ?_)
  · have c7' := i_eq c7
    exact hret _ _ _ dX5_blameIfSpot_17 ⟨h6, o5⟩
  · have c7' := i_ne c7
    refine r_aload_n 0 C dX5_blameIfSpot_8 rfl ?_
    refine r_iconst (v := 4) C dX5_blameIfSpot_9 (by decide) ?_
    refine r_aload_n 0 C dX5_blameIfSpot_10 rfl ?_
    refine gfX5_116 (v := (wI w 1 5)) C (kS sC h6 kc_1) (h4.I (by decide) (by decide) rfl) dX5_blameIfSpot_11 ?_
    refine callVV C cwX5_43_V (ctX5_blame_1 _ _ w2 (sS sC h6) o5 4 (wI w 1 5) (by omega)) (by decide) (kS sC h6 kc_1) rfl rfl rfl (Nat.le_of_ble_eq_true rfl) (by decide) dX5_blameIfSpot_14 (fun w9 y8 => ?_)
    show V x 0 0 w9 17 [(0, .ref (gz (xG x) + 1)), (1, .ref (gz (xG x) + 12)), (2, .int a2)] []
    obtain ⟨h11, o12, f13⟩ := y8
    have h14 := Ch.tr h6 h11 (by decide) (by decide)
    exact hret _ _ _ dX5_blameIfSpot_17 ⟨h14, o12⟩
set_option maxHeartbeats 4000000 in
set_option maxRecDepth 100000 in
theorem ctX5_isTooMany_12 (l : Launch) (G : Gt) (w : Wv) (sC : Str KC XC w) (o0 : Inv RC w) (a2 : Int32) : CtI l G yX5_isTooMany cX5_isTooMany 2 .boolean ({ frames := 0, cells := 0, slots := 0, locals := 0 } : Room) [.ref (gz G + 12), .int a2] w (fun r w' => Ch [] [] w w' ∧ Inv RC w') := by
  refine enterI (by decide) (Nat.le_of_ble_eq_true rfl) ?_
  intro x el eG C hret
  subst el; subst eG
  show V x 0 0 w 0 [(0, .ref (gz (xG x) + 12)), (1, .int a2)] []
  have h0 : Ch [] [] w w := Ch.rf
  have qm1 : ((-1) : Int32).toInt = (-1) := by decide
  have q0 : (0 : Int32).toInt = 0 := by decide
  have q1 : (1 : Int32).toInt = 1 := by decide
  have q3 : (3 : Int32).toInt = 3 := by decide
  have q6 : (6 : Int32).toInt = 6 := by decide
  have q30 : (30 : Int32).toInt = 30 := by decide
  refine r_iload_n 1 C dX5_isTooMany_0 rfl ?_
  by_cases c1 : (a2 : Int32).toInt < 4 ∨ 8 < (a2 : Int32).toInt
  · refine r_tabOut 97 C dX5_isTooMany_1 c1 (by decide) ?_
    refine r_aload_n 0 C dX5_isTooMany_97 rfl ?_
    refine gfX5_93 (v := (wI w 12 2)) C (kS sC h0 kc_12) rfl dX5_isTooMany_98 ?_
    refine r_bipush (v := 30) C dX5_isTooMany_101 (by decide) ?_
    refine r_icmp_lt 110 C dX5_isTooMany_103 (by decide) (fun c2 => ?_) (fun c2 => ?_)
    · have c2' := i_lt c2
      refine r_iconst (v := 0) C dX5_isTooMany_110 (by decide) ?_
      exact hret _ _ _ _ dX5_isTooMany_111 (nar_z (z_of (by omega))) ⟨h0, o0⟩
    · have c2' := i_nlt c2
      refine r_iconst (v := 1) C dX5_isTooMany_106 (by decide) ?_
      refine r_goto 111 C dX5_isTooMany_107 (by decide) ?_
      exact hret _ _ _ _ dX5_isTooMany_111 (nar_z (z_of (by omega))) ⟨h0, o0⟩
  · rcases (show (a2 : Int32).toInt = 4 ∨ (a2 : Int32).toInt = 5 ∨ (a2 : Int32).toInt = 6 ∨ (a2 : Int32).toInt = 7 ∨ (a2 : Int32).toInt = 8 by omega) with c1 | c1 | c1 | c1 | c1
    · refine r_tabIn 36 C dX5_isTooMany_1 (by omega) (by omega) (by rw [c1]; rfl) (by decide) ?_
      refine r_aload_n 0 C dX5_isTooMany_36 rfl ?_
      refine gfX5_40 (v := (wI w 12 0)) C (kS sC h0 kc_12) rfl dX5_isTooMany_37 ?_
      have b3 := Inv.get o0 rt_12_0 (j := 0) (by decide) (by decide)
      refine r_if_le 47 C dX5_isTooMany_40 (by decide) (fun c4 => ?_) (fun c4 => ?_)
      · have c4' := i_le c4
        refine r_iconst (v := 0) C dX5_isTooMany_47 (by decide) ?_
        exact hret _ _ _ _ dX5_isTooMany_48 (nar_z (z_of (by omega))) ⟨h0, o0⟩
      · have c4' := i_nle c4
        refine r_iconst (v := 1) C dX5_isTooMany_43 (by decide) ?_
        refine r_goto 48 C dX5_isTooMany_44 (by decide) ?_
        exact hret _ _ _ _ dX5_isTooMany_48 (nar_z (z_of (by omega))) ⟨h0, o0⟩
    · refine r_tabIn 49 C dX5_isTooMany_1 (by omega) (by omega) (by rw [c1]; rfl) (by decide) ?_
      refine r_aload_n 0 C dX5_isTooMany_49 rfl ?_
      refine gfX5_80 (v := (wI w 12 3)) C (kS sC h0 kc_12) rfl dX5_isTooMany_50 ?_
      have b5 := Inv.get o0 rt_12_3 (j := 3) (by decide) (by decide)
      refine r_bipush (v := 6) C dX5_isTooMany_53 (by decide) ?_
      refine r_icmp_lt 62 C dX5_isTooMany_55 (by decide) (fun c6 => ?_) (fun c6 => ?_)
      · have c6' := i_lt c6
        refine r_iconst (v := 0) C dX5_isTooMany_62 (by decide) ?_
        exact hret _ _ _ _ dX5_isTooMany_63 (nar_z (z_of (by omega))) ⟨h0, o0⟩
      · have c6' := i_nlt c6
        refine r_iconst (v := 1) C dX5_isTooMany_58 (by decide) ?_
        refine r_goto 63 C dX5_isTooMany_59 (by decide) ?_
        exact hret _ _ _ _ dX5_isTooMany_63 (nar_z (z_of (by omega))) ⟨h0, o0⟩
    · refine r_tabIn 64 C dX5_isTooMany_1 (by omega) (by omega) (by rw [c1]; rfl) (by decide) ?_
      refine r_aload_n 0 C dX5_isTooMany_64 rfl ?_
      refine gfX5_83 (v := (wI w 12 4)) C (kS sC h0 kc_12) rfl dX5_isTooMany_65 ?_
      have b7 := Inv.get o0 rt_12_4 (j := 4) (by decide) (by decide)
      refine r_iconst (v := 3) C dX5_isTooMany_68 (by decide) ?_
      refine r_icmp_lt 76 C dX5_isTooMany_69 (by decide) (fun c8 => ?_) (fun c8 => ?_)
      · have c8' := i_lt c8
        refine r_iconst (v := 0) C dX5_isTooMany_76 (by decide) ?_
        exact hret _ _ _ _ dX5_isTooMany_77 (nar_z (z_of (by omega))) ⟨h0, o0⟩
      · have c8' := i_nlt c8
        refine r_iconst (v := 1) C dX5_isTooMany_72 (by decide) ?_
        refine r_goto 77 C dX5_isTooMany_73 (by decide) ?_
        exact hret _ _ _ _ dX5_isTooMany_77 (nar_z (z_of (by omega))) ⟨h0, o0⟩
    · refine r_tabIn 78 C dX5_isTooMany_1 (by omega) (by omega) (by rw [c1]; rfl) (by decide) ?_
      refine r_aload_n 0 C dX5_isTooMany_78 rfl ?_
      refine gfX5_86 (v := (wI w 12 5)) C (kS sC h0 kc_12) rfl dX5_isTooMany_79 ?_
      refine r_iconst (v := (-1)) C dX5_isTooMany_82 (by decide) ?_
      refine r_icmp_eq 90 C dX5_isTooMany_83 (by decide) (fun c9 => ?_) (fun c9 => ?_)
      · have c9' := i_eq c9
        refine r_iconst (v := 0) C dX5_isTooMany_90 (by decide) ?_
        exact hret _ _ _ _ dX5_isTooMany_91 (nar_z (z_of (by omega))) ⟨h0, o0⟩
      · have c9' := i_ne c9
        refine r_iconst (v := 1) C dX5_isTooMany_86 (by decide) ?_
        refine r_goto 91 C dX5_isTooMany_87 (by decide) ?_
        exact hret _ _ _ _ dX5_isTooMany_91 (nar_z (z_of (by omega))) ⟨h0, o0⟩
    · refine r_tabIn 92 C dX5_isTooMany_1 (by omega) (by omega) (by rw [c1]; rfl) (by decide) ?_
      refine r_aload_n 0 C dX5_isTooMany_92 rfl ?_
      refine gfX5_89 (v := (wI w 12 6)) C (kS sC h0 kc_12) rfl dX5_isTooMany_93 ?_
      exact hret _ _ _ _ dX5_isTooMany_96 (nar_z (z_of (by omega))) ⟨h0, o0⟩
