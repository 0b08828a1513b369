set_option maxHeartbeats 4000000 in
set_option maxRecDepth 100000 in
theorem ctX3_put_51 (l : Launch) (G : Gt) (w : Wv) (sC : Str KC XC w) (o0 : Inv RC w) (a1 : Int64) (a2 : Int64) (a3 : Int32) : CtV l G yX3_put cX3_put 7 ({ frames := 1, cells := 0, slots := 0, locals := 25 } : Room) [.ref (gz G + 51), .long a1, .long a2, .int a3] w (fun w' => Ch [52, 53, 54] [] w w' ∧ Inv RC w') := by
  refine enterV (by decide) (Nat.le_of_ble_eq_true rfl) ?_
  intro x el eG C hnm hret
  subst el; subst eG
  show V x 0 0 w 0 [(0, .ref (gz (xG x) + 51)), (1, .long a1), (3, .long a2), (5, .int a3)] []
  have h0 : Ch [52, 53, 54] [] w w := Ch.rf
  refine r_lload_n 1 C dX3_put_0 rfl ?_
  refine r_lload_n 2 C dX3_put_1 rfl ?_
  refine callSI C cwX3_26_S (ctX3_slot _ _ w a1 a2 ) (by decide) rfl rfl (Nat.le_of_ble_eq_true rfl) (by decide) dX3_put_2 (fun r3 w2 y1 => ?_)
  obtain ⟨y1, g4⟩ := y1
  obtain rfl := y1.symm
  show V x 0 0 w 5 [(0, .ref (gz (xG x) + 51)), (1, .long a1), (3, .long a2), (5, .int a3)] [.int r3]
  refine r_istore [(6, .int r3), (0, .ref (gz (xG x) + 51)), (1, .long a1), (3, .long a2), (5, .int a3)] C dX3_put_5 (by decide) rfl ?_
  refine r_aload_n 1 C dX3_put_7 rfl ?_
  refine gfX3_11 52 C (kS sC h0 kc_51) (xS sC h0 xc_51_0) dX3_put_8 ?_
  refine r_iload 0 C dX3_put_11 rfl ?_
  refine r_lload_n 2 C dX3_put_13 rfl ?_
  refine r_last C (kS sC h0 kc_52) (vin (by omega) (by omega)) dX3_put_14 (fun w5 e6 => ?_)
  have h7 := Ch.putSL h0 e6 (by decide)
  have o8 := Inv.putL o0 e6
  refine r_aload_n 1 C dX3_put_15 rfl ?_
  refine gfX3_15 53 C (kS sC h7 kc_51) (xS sC h7 xc_51_1) dX3_put_16 ?_
  refine r_iload 0 C dX3_put_19 rfl ?_
  refine r_lload_n 3 C dX3_put_21 rfl ?_
  refine r_last C (kS sC h7 kc_53) (vin (by omega) (by omega)) dX3_put_22 (fun w9 e10 => ?_)
  have h11 := Ch.putSL h7 e10 (by decide)
  have o12 := Inv.putL o8 e10
  refine r_aload_n 1 C dX3_put_23 rfl ?_
  refine gfX3_18 54 C (kS sC h11 kc_51) (xS sC h11 xc_51_2) dX3_put_24 ?_
  refine r_iload 0 C dX3_put_27 rfl ?_
  refine r_iload 4 C dX3_put_29 rfl ?_
  refine r_iast C (kS sC h11 kc_54) (vin (by omega) (by omega)) dX3_put_31 (fun w13 e14 => ?_)
  have h15 := Ch.putS h11 e14 (by decide)
  have o16 := Inv.put0 o12 e14 (by decide)
  exact hret _ _ _ dX3_put_32 ⟨h15, o16⟩
set_option maxHeartbeats 4000000 in
set_option maxRecDepth 100000 in
theorem ctX2_take_104_35_21 (l : Launch) (G : Gt) (w : Wv) (sC : Str KC XC w) (o0 : Inv RC w) (a3 : Int32) : CtV l G yX2_take cX2_take 4 ({ frames := 1, cells := 0, slots := 0, locals := 22 } : Room) [.ref (gz G + 104), .ref (gz G + 35), .ref (gz G + 21), .int a3] w (fun w' => Ch [105, 107, 108] [(104, 0), (104, 1), (106, 0), (106, 1)] w w' ∧ Inv RC w') := by
  refine enterV (by decide) (Nat.le_of_ble_eq_true rfl) ?_
  intro x el eG C hnm hret
  subst el; subst eG
  show V x 0 0 w 0 [(0, .ref (gz (xG x) + 104)), (1, .ref (gz (xG x) + 35)), (2, .ref (gz (xG x) + 21)), (3, .int a3)] []
  have h0 : Ch [105, 107, 108] [(104, 0), (104, 1), (106, 0), (106, 1)] w w := Ch.rf
  have q1 : (1 : Int32).toInt = 1 := by decide
  refine r_aload_n 0 C dX2_take_0 rfl ?_
  refine r_iconst (v := 1) C dX2_take_1 (by decide) ?_
  refine pfX2_24 C (kS sC h0 kc_104) (z_of (by omega)) dX2_take_2 (fun w1 e2 => ?_)
  have h3 := Ch.putF h0 e2 (by decide)
  have o4 := Inv.putk o0 e2 (by decide)
  refine r_aload_n 0 C dX2_take_5 rfl ?_
  refine r_iload_n 3 C dX2_take_6 rfl ?_
  refine pfX2_28 C (kS sC h3 kc_104) dX2_take_7 (fun w5 e6 => ?_)
  have h7 := Ch.putF h3 e6 (by decide)
  have o8 := Inv.putk o4 e6 (by decide)
  refine r_aload_n 0 C dX2_take_10 rfl ?_
  refine gfX2_20 106 C (kS sC h7 kc_104) (xS sC h7 xc_104_2) dX2_take_11 ?_
  refine r_aload_n 1 C dX2_take_14 rfl ?_
  refine callVV C cwX2_32_V (ctX6_copy_106_35 _ _ w5 (sS sC h7) o8  ) (by decide) (kS sC h7 kc_106) rfl rfl rfl (Nat.le_of_ble_eq_true rfl) (by decide) dX2_take_15 (fun w10 y9 => ?_)
  show V x 0 0 w10 18 [(0, .ref (gz (xG x) + 104)), (1, .ref (gz (xG x) + 35)), (2, .ref (gz (xG x) + 21)), (3, .int a3)] []
  obtain ⟨h12, o13⟩ := y9
  have h14 := Ch.tr h7 h12 (by decide) (by decide)
  refine r_aload_n 2 C dX2_take_18 rfl ?_
  refine r_aload_n 0 C dX2_take_19 rfl ?_
  refine gfX2_9 105 C (kS sC h14 kc_104) (xS sC h14 xc_104_3) dX2_take_20 ?_
  refine callVV C cwX2_36_V (ctX1_giveWhats_21_105 _ _ w10 (sS sC h14) o13  ) (by decide) (kS sC h14 kc_21) rfl rfl rfl (Nat.le_of_ble_eq_true rfl) (by decide) dX2_take_23 (fun w16 y15 => ?_)
  show V x 0 0 w16 26 [(0, .ref (gz (xG x) + 104)), (1, .ref (gz (xG x) + 35)), (2, .ref (gz (xG x) + 21)), (3, .int a3)] []
  obtain ⟨h18, o19⟩ := y15
  have h20 := Ch.tr h14 h18 (by decide) (by decide)
  exact hret _ _ _ dX2_take_26 ⟨h20, o19⟩
set_option maxHeartbeats 4000000 in
set_option maxRecDepth 100000 in
theorem ctX2_give_104_35_21 (l : Launch) (G : Gt) (w : Wv) (sC : Str KC XC w) (o0 : Inv RC w)  : CtV l G yX2_give cX2_give 3 ({ frames := 2, cells := 0, slots := 0, locals := 43 } : Room) [.ref (gz G + 104), .ref (gz G + 35), .ref (gz G + 21)] w (fun w' => Ch [22, 26, 36, 37] [(35, 0), (35, 1)] w w' ∧ Inv RC w') := by
  refine enterV (by decide) (Nat.le_of_ble_eq_true rfl) ?_
  intro x el eG C hnm hret
  subst el; subst eG
  show V x 0 0 w 0 [(0, .ref (gz (xG x) + 104)), (1, .ref (gz (xG x) + 35)), (2, .ref (gz (xG x) + 21))] []
  have h0 : Ch [22, 26, 36, 37] [(35, 0), (35, 1)] w w := Ch.rf
  refine r_aload_n 1 C dX2_give_0 rfl ?_
  refine r_aload_n 0 C dX2_give_1 rfl ?_
  refine gfX2_20 106 C (kS sC h0 kc_104) (xS sC h0 xc_104_2) dX2_give_2 ?_
  refine callVV C cwX2_32_V (ctX6_copy_35_106 _ _ w (sS sC h0) o0  ) (by decide) (kS sC h0 kc_35) rfl rfl rfl (Nat.le_of_ble_eq_true rfl) (by decide) dX2_give_5 (fun w2 y1 => ?_)
  show V x 0 0 w2 8 [(0, .ref (gz (xG x) + 104)), (1, .ref (gz (xG x) + 35)), (2, .ref (gz (xG x) + 21))] []
  obtain ⟨h4, o5⟩ := y1
  have h6 := Ch.tr h0 h4 (by decide) (by decide)
  refine r_aload_n 2 C dX2_give_8 rfl ?_
  refine r_aload_n 0 C dX2_give_9 rfl ?_
  refine gfX2_9 105 C (kS sC h6 kc_104) (xS sC h6 xc_104_3) dX2_give_10 ?_
  refine callVV C cwX2_42_V (ctX1_takeWhats_21_105 _ _ w2 (sS sC h6) o5  ) (by decide) (kS sC h6 kc_21) rfl rfl rfl (Nat.le_of_ble_eq_true rfl) (by decide) dX2_give_13 (fun w8 y7 => ?_)
  show V x 0 0 w8 16 [(0, .ref (gz (xG x) + 104)), (1, .ref (gz (xG x) + 35)), (2, .ref (gz (xG x) + 21))] []
  obtain ⟨h10, o11⟩ := y7
  have h12 := Ch.tr h6 h10 (by decide) (by decide)
  exact hret _ _ _ dX2_give_16 ⟨h12, o11⟩
set_option maxHeartbeats 4000000 in
set_option maxRecDepth 100000 in
theorem ctX2_take_109_35_21 (l : Launch) (G : Gt) (w : Wv) (sC : Str KC XC w) (o0 : Inv RC w) (a3 : Int32) : CtV l G yX2_take cX2_take 4 ({ frames := 1, cells := 0, slots := 0, locals := 22 } : Room) [.ref (gz G + 109), .ref (gz G + 35), .ref (gz G + 21), .int a3] w (fun w' => Ch [110, 112, 113] [(109, 0), (109, 1), (111, 0), (111, 1)] w w' ∧ Inv RC w') := by
  refine enterV (by decide) (Nat.le_of_ble_eq_true rfl) ?_
  intro x el eG C hnm hret
  subst el; subst eG
  show V x 0 0 w 0 [(0, .ref (gz (xG x) + 109)), (1, .ref (gz (xG x) + 35)), (2, .ref (gz (xG x) + 21)), (3, .int a3)] []
  have h0 : Ch [110, 112, 113] [(109, 0), (109, 1), (111, 0), (111, 1)] w w := Ch.rf
  have q1 : (1 : Int32).toInt = 1 := by decide
  refine r_aload_n 0 C dX2_take_0 rfl ?_
  refine r_iconst (v := 1) C dX2_take_1 (by decide) ?_
  refine pfX2_24 C (kS sC h0 kc_109) (z_of (by omega)) dX2_take_2 (fun w1 e2 => ?_)
  have h3 := Ch.putF h0 e2 (by decide)
  have o4 := Inv.putk o0 e2 (by decide)
  refine r_aload_n 0 C dX2_take_5 rfl ?_
  refine r_iload_n 3 C dX2_take_6 rfl ?_
  refine pfX2_28 C (kS sC h3 kc_109) dX2_take_7 (fun w5 e6 => ?_)
  have h7 := Ch.putF h3 e6 (by decide)
  have o8 := Inv.putk o4 e6 (by decide)
  refine r_aload_n 0 C dX2_take_10 rfl ?_
  refine gfX2_20 111 C (kS sC h7 kc_109) (xS sC h7 xc_109_2) dX2_take_11 ?_
  refine r_aload_n 1 C dX2_take_14 rfl ?_
  refine callVV C cwX2_32_V (ctX6_copy_111_35 _ _ w5 (sS sC h7) o8  ) (by decide) (kS sC h7 kc_111) rfl rfl rfl (Nat.le_of_ble_eq_true rfl) (by decide) dX2_take_15 (fun w10 y9 => ?_)
  show V x 0 0 w10 18 [(0, .ref (gz (xG x) + 109)), (1, .ref (gz (xG x) + 35)), (2, .ref (gz (xG x) + 21)), (3, .int a3)] []
  obtain ⟨h12, o13⟩ := y9
  have h14 := Ch.tr h7 h12 (by decide) (by decide)
  refine r_aload_n 2 C dX2_take_18 rfl ?_
  refine r_aload_n 0 C dX2_take_19 rfl ?_
  refine gfX2_9 110 C (kS sC h14 kc_109) (xS sC h14 xc_109_3) dX2_take_20 ?_
  refine callVV C cwX2_36_V (ctX1_giveWhats_21_110 _ _ w10 (sS sC h14) o13  ) (by decide) (kS sC h14 kc_21) rfl rfl rfl (Nat.le_of_ble_eq_true rfl) (by decide) dX2_take_23 (fun w16 y15 => ?_)
  show V x 0 0 w16 26 [(0, .ref (gz (xG x) + 109)), (1, .ref (gz (xG x) + 35)), (2, .ref (gz (xG x) + 21)), (3, .int a3)] []
  obtain ⟨h18, o19⟩ := y15
  have h20 := Ch.tr h14 h18 (by decide) (by decide)
  exact hret _ _ _ dX2_take_26 ⟨h20, o19⟩
set_option maxHeartbeats 4000000 in
set_option maxRecDepth 100000 in
theorem ctX2_give_109_35_21 (l : Launch) (G : Gt) (w : Wv) (sC : Str KC XC w) (o0 : Inv RC w)  : CtV l G yX2_give cX2_give 3 ({ frames := 2, cells := 0, slots := 0, locals := 43 } : Room) [.ref (gz G + 109), .ref (gz G + 35), .ref (gz G + 21)] w (fun w' => Ch [22, 26, 36, 37] [(35, 0), (35, 1)] w w' ∧ Inv RC w') := by
  refine enterV (by decide) (Nat.le_of_ble_eq_true rfl) ?_
  intro x el eG C hnm hret
  subst el; subst eG
  show V x 0 0 w 0 [(0, .ref (gz (xG x) + 109)), (1, .ref (gz (xG x) + 35)), (2, .ref (gz (xG x) + 21))] []
  have h0 : Ch [22, 26, 36, 37] [(35, 0), (35, 1)] w w := Ch.rf
  refine r_aload_n 1 C dX2_give_0 rfl ?_
  refine r_aload_n 0 C dX2_give_1 rfl ?_
  refine gfX2_20 111 C (kS sC h0 kc_109) (xS sC h0 xc_109_2) dX2_give_2 ?_
  refine callVV C cwX2_32_V (ctX6_copy_35_111 _ _ w (sS sC h0) o0  ) (by decide) (kS sC h0 kc_35) rfl rfl rfl (Nat.le_of_ble_eq_true rfl) (by decide) dX2_give_5 (fun w2 y1 => ?_)
  show V x 0 0 w2 8 [(0, .ref (gz (xG x) + 109)), (1, .ref (gz (xG x) + 35)), (2, .ref (gz (xG x) + 21))] []
  obtain ⟨h4, o5⟩ := y1
  have h6 := Ch.tr h0 h4 (by decide) (by decide)
  refine r_aload_n 2 C dX2_give_8 rfl ?_
  refine r_aload_n 0 C dX2_give_9 rfl ?_
  refine gfX2_9 110 C (kS sC h6 kc_109) (xS sC h6 xc_109_3) dX2_give_10 ?_
  refine callVV C cwX2_42_V (ctX1_takeWhats_21_110 _ _ w2 (sS sC h6) o5  ) (by decide) (kS sC h6 kc_21) rfl rfl rfl (Nat.le_of_ble_eq_true rfl) (by decide) dX2_give_13 (fun w8 y7 => ?_)
  show V x 0 0 w8 16 [(0, .ref (gz (xG x) + 109)), (1, .ref (gz (xG x) + 35)), (2, .ref (gz (xG x) + 21))] []
  obtain ⟨h10, o11⟩ := y7
  have h12 := Ch.tr h6 h10 (by decide) (by decide)
  exact hret _ _ _ dX2_give_16 ⟨h12, o11⟩
set_option maxHeartbeats 4000000 in
set_option maxRecDepth 100000 in
theorem ctX8_forget_55 (l : Launch) (G : Gt) (w : Wv) (sC : Str KC XC w) (o0 : Inv RC w)  : CtV l G yX8_forget cX8_forget 1 ({ frames := 0, cells := 0, slots := 0, locals := 0 } : Room) [.ref (gz G + 55)] w (fun w' => Ch [] [(55, 7)] w w' ∧ Inv RC w') := by
  refine enterV (by decide) (Nat.le_of_ble_eq_true rfl) ?_
  intro x el eG C hnm hret
  subst el; subst eG
  show V x 0 0 w 0 [(0, .ref (gz (xG x) + 55))] []
  have h0 : Ch [] [(55, 7)] w w := Ch.rf
  have q0 : (0 : Int32).toInt = 0 := by decide
  refine r_aload_n 0 C dX8_forget_0 rfl ?_
  refine r_iconst (v := 0) C dX8_forget_1 (by decide) ?_
  refine pfX8_39 C (kS sC h0 kc_55) (z_of (by omega)) dX8_forget_2 (fun w1 e2 => ?_)
  have h3 := Ch.putF h0 e2 (by decide)
  have o4 := Inv.putk o0 e2 (by decide)
  exact hret _ _ _ dX8_forget_5 ⟨h3, o4⟩
set_option maxHeartbeats 4000000 in
set_option maxRecDepth 100000 in
theorem ctX8_stepAt_55 (l : Launch) (G : Gt) (w : Wv) (sC : Str KC XC w) (o0 : Inv RC w) (a1 : Int32) : CtI l G yX8_stepAt cX8_stepAt 2 .int ({ frames := 0, cells := 0, slots := 0, locals := 0 } : Room) [.ref (gz G + 55), .int a1] w (fun r w' => Ch [] [] w w' ∧ Inv RC w') := by
  refine enterI (by decide) (Nat.le_of_ble_eq_true rfl) ?_
  intro x el eG C hret
  subst el; subst eG
  show V x 0 0 w 0 [(0, .ref (gz (xG x) + 55)), (1, .int a1)] []
  have h0 : Ch [] [] w w := Ch.rf
  have qm1 : ((-1) : Int32).toInt = (-1) := by decide
  have q0 : (0 : Int32).toInt = 0 := by decide
  refine r_iload_n 1 C dX8_stepAt_0 rfl ?_
  refine r_if_lt 21 C dX8_stepAt_1 (by decide) (fun c1 => ?_) (fun c1 => ?_)
  · have c1' := i_lt c1
    refine r_iconst (v := (-1)) C dX8_stepAt_21 (by decide) ?_
    exact hret _ _ _ _ dX8_stepAt_22 rfl ⟨h0, o0⟩
  · have c1' := i_nlt c1
    refine r_iload_n 1 C dX8_stepAt_4 rfl ?_
    refine r_aload_n 0 C dX8_stepAt_5 rfl ?_
    refine gfX8_43 (v := (wI w 55 0)) C (kS sC h0 kc_55) rfl dX8_stepAt_6 ?_
    have b2 := Inv.get o0 rt_55_0 (j := 0) (by decide) (by decide)
    have k4 := i_rng a1
    refine r_icmp_ge 21 C dX8_stepAt_9 (by decide) (fun c3 => ?_) (fun c3 => ?_)
    · have c3' := i_le c3
      refine r_iconst (v := (-1)) C dX8_stepAt_21 (by decide) ?_
      exact hret _ _ _ _ dX8_stepAt_22 rfl ⟨h0, o0⟩
    · have c3' := i_nle c3
      refine r_aload_n 0 C dX8_stepAt_12 rfl ?_
      refine gfX8_17 57 C (kS sC h0 kc_55) (xS sC h0 xc_55_4) dX8_stepAt_13 ?_
      refine r_iload_n 1 C dX8_stepAt_16 rfl ?_
      refine r_iald C (kS sC h0 kc_57) (vin (by omega) (by omega)) dX8_stepAt_17 ?_
      generalize (wI w 57 (a1).toNatClampNeg) = v5
      refine r_goto 22 C dX8_stepAt_18 (by decide) ?_
      exact hret _ _ _ _ dX8_stepAt_22 rfl ⟨h0, o0⟩
set_option maxHeartbeats 4000000 in
set_option maxRecDepth 100000 in
theorem ctX8_findGates_55 (l : Launch) (G : Gt) (w : Wv) (sC : Str KC XC w) (o0 : Inv RC w)  : CtV l G yX8_findGates cX8_findGates 4 ({ frames := 2, cells := 0, slots := 0, locals := 50 } : Room) [.ref (gz G + 55)] w (fun w' => Ch [25, 26, 27, 58] [] w w' ∧ Inv RC w') := by
  refine enterV (by decide) (Nat.le_of_ble_eq_true rfl) ?_
  intro x el eG C hnm hret
  subst el; subst eG
  show V x 0 0 w 0 [(0, .ref (gz (xG x) + 55))] []
  have h0 : Ch [25, 26, 27, 58] [] w w := Ch.rf
  have qm1 : ((-1) : Int32).toInt = (-1) := by decide
  have q0 : (0 : Int32).toInt = 0 := by decide
  have q3 : (3 : Int32).toInt = 3 := by decide
  have LP2 : ∀ (f3 : Nat) (u1 : Int32) (w4 : Wv), Ch [25, 26, 27, 58] [] w w4 → Inv RC w4 → (0 ≤ u1.toInt ∧ u1.toInt ≤ 2147483647) → 2147483647 - u1.toInt < f3 → V x 0 0 w4 2 [(0, .ref (gz (xG x) + 55)), (1, .int u1)] [] := by
    intro f3
    induction f3 with
    | zero => intro u1 w4 h5 o6 z7 z8; exfalso; omega
    | succ f3 ih9 =>
      intro u1 w4 h5 o6 z7 z8
      have LP14 : ∀ (f15 : Nat) (u13 : Int32) (w16 : Wv), Ch [25, 26, 27, 58] [] w w16 → Inv RC w16 → (0 ≤ u13.toInt ∧ u13.toInt ≤ 2147483647) → 2147483647 - u13.toInt < f15 → V x 0 0 w16 28 [(0, .ref (gz (xG x) + 55)), (1, .int u13)] [] := by
        intro f15
        induction f15 with
        | zero => intro u13 w16 h17 o18 z19 z20; exfalso; omega
        | succ f15 ih21 =>
          intro u13 w16 h17 o18 z19 z20
          have LP26 : ∀ (f27 : Nat) (u25 : Int32) (w28 : Wv), Ch [25, 26, 27, 58] [] w w28 → Inv RC w28 → (0 ≤ u25.toInt ∧ u25.toInt ≤ 2147483647) → (0 ≤ u13.toInt ∧ u13.toInt ≤ 41) → 2147483647 - u25.toInt < f27 → V x 0 0 w28 41 [(0, .ref (gz (xG x) + 55)), (1, .int u13), (2, .int u25)] [] := by
            intro f27
            induction f27 with
            | zero => intro u25 w28 h29 o30 z31 z32 z33; exfalso; omega
            | succ f27 ih34 =>
              intro u25 w28 h29 o30 z31 z32 z33
              refine r_iload_n 2 C dX8_findGates_41 rfl ?_
              refine r_aload_n 0 C dX8_findGates_42 rfl ?_
              refine gfX8_28 21 C (kS sC h29 kc_55) (xS sC h29 xc_55_2) dX8_findGates_43 ?_
              refine gfX8_69 (v := (wI w 21 0)) C (kS sC h29 kc_21) (h29.I (by decide) (by decide) rfl) dX8_findGates_46 ?_
              have b35 := Inv.get o0 rt_21_0 (j := 0) (by decide) (by decide)
              have k37 := i_rng u25
              refine r_icmp_ge 112 C dX8_findGates_49 (by decide) (fun c36 => ?_) (fun c36 => ?_)
              · have c36' := i_le c36
                obtain ⟨i38, e39⟩ : ∃ z : Int32, u13 + Int32.ofInt 1 = z := ⟨_, rfl⟩
                have i38' := iinc_ok e39 (by decide) (by omega) (by omega)
                refine r_iinc [(1, .int i38), (0, .ref (gz (xG x) + 55)), (2, .int u25)] 1 C dX8_findGates_112 rfl e39 (by decide) rfl ?_
                refine r_goto 28 C dX8_findGates_115 (by decide) ?_
                refine r_lv [1, 0] rfl ?_
                exact ih21 i38 w28 h29 o30 (by omega) (by omega)
              · have c36' := i_nle c36
                refine r_aload_n 0 C dX8_findGates_52 rfl ?_
                refine gfX8_28 21 C (kS sC h29 kc_55) (xS sC h29 xc_55_2) dX8_findGates_53 ?_
                refine r_iload_n 1 C dX8_findGates_56 rfl ?_
                refine callVI C cwX8_74_V (ctX1_what_21 _ _ w28 (sS sC h29) o30 u13 ) (by decide) (kS sC h29 kc_21) rfl rfl rfl (Nat.le_of_ble_eq_true rfl) (by decide) dX8_findGates_57 (fun r42 w41 y40 => ?_)
                show V x 0 0 w41 60 [(0, .ref (gz (xG x) + 55)), (1, .int u13), (2, .int u25)] [.int r42]
                obtain ⟨h43, o44⟩ := y40
                have h45 := Ch.tr h29 h43 (by decide) (by decide)
                refine r_iconst (v := 3) C dX8_findGates_60 (by decide) ?_
                refine r_icmp_ne 112 C dX8_findGates_61 (by decide) (fun c46 => ?_) (fun c46 => ?_)
                · have c46' := i_ne c46
                  obtain ⟨i47, e48⟩ : ∃ z : Int32, u13 + Int32.ofInt 1 = z := ⟨_, rfl⟩
                  have i47' := iinc_ok e48 (by decide) (by omega) (by omega)
                  refine r_iinc [(1, .int i47), (0, .ref (gz (xG x) + 55)), (2, .int u25)] 1 C dX8_findGates_112 rfl e48 (by decide) rfl ?_
                  refine r_goto 28 C dX8_findGates_115 (by decide) ?_
                  refine r_lv [1, 0] rfl ?_
                  exact ih21 i47 w41 h45 o44 (by omega) (by omega)
                · have c46' := i_eq c46
                  refine r_aload_n 0 C dX8_findGates_64 rfl ?_
                  refine gfX8_28 21 C (kS sC h45 kc_55) (xS sC h45 xc_55_2) dX8_findGates_65 ?_
                  refine r_iload_n 2 C dX8_findGates_68 rfl ?_
                  refine r_iload_n 1 C dX8_findGates_69 rfl ?_
                  refine callVI C cwX8_78_V (ctX1_steps_21 _ _ w41 (sS sC h45) o44 u25 u13 ) (by decide) (kS sC h45 kc_21) rfl rfl rfl (Nat.le_of_ble_eq_true rfl) (by decide) dX8_findGates_70 (fun r51 w50 y49 => ?_)
                  show V x 0 0 w50 73 [(0, .ref (gz (xG x) + 55)), (1, .int u13), (2, .int u25)] [.int r51]
                  obtain ⟨h52, o53⟩ := y49
                  have h54 := Ch.tr h45 h52 (by decide) (by decide)
                  refine r_istore_n [(3, .int r51), (0, .ref (gz (xG x) + 55)), (1, .int u13), (2, .int u25)] C dX8_findGates_73 (by decide) rfl ?_
                  refine r_iload_n 0 C dX8_findGates_74 rfl ?_
                  refine r_iconst (v := (-1)) C dX8_findGates_75 (by decide) ?_
                  refine r_icmp_eq 106 C dX8_findGates_76 (by decide) (fun c55 => ?_) (fun c55 => ?_)
                  · have c55' := i_eq c55
                    obtain ⟨i56, e57⟩ : ∃ z : Int32, u25 + Int32.ofInt 1 = z := ⟨_, rfl⟩
                    have i56' := iinc_ok e57 (by decide) (by omega) (by omega)
                    refine r_iinc [(2, .int i56), (3, .int r51), (0, .ref (gz (xG x) + 55)), (1, .int u13)] 3 C dX8_findGates_106 rfl e57 (by decide) rfl ?_
                    refine r_goto 41 C dX8_findGates_109 (by decide) ?_
                    refine r_lv [2, 3, 0] rfl ?_
                    exact ih34 i56 w50 h54 o53 (by omega) (by omega) (by omega)
                  · have c55' := i_ne c55
                    refine r_aload_n 1 C dX8_findGates_79 rfl ?_
                    refine gfX8_21 58 C (kS sC h54 kc_55) (xS sC h54 xc_55_5) dX8_findGates_80 ?_
                    refine r_iload_n 3 C dX8_findGates_83 rfl ?_
                    refine r_iald C (kS sC h54 kc_58) (vin (by omega) (by omega)) dX8_findGates_84 ?_
                    generalize (wI w50 58 (u25).toNatClampNeg) = v58
                    refine r_iconst (v := (-1)) C dX8_findGates_85 (by decide) ?_
                    refine r_icmp_eq 99 C dX8_findGates_86 (by decide) (fun c59 => ?_) (fun c59 => ?_)
                    · have c59' := i_eq c59
                      refine r_aload_n 1 C dX8_findGates_99 rfl ?_
                      refine gfX8_21 58 C (kS sC h54 kc_55) (xS sC h54 xc_55_5) dX8_findGates_100 ?_
                      refine r_iload_n 3 C dX8_findGates_103 rfl ?_
                      refine r_iload_n 0 C dX8_findGates_104 rfl ?_
                      refine r_iast C (kS sC h54 kc_58) (vin (by omega) (by omega)) dX8_findGates_105 (fun w60 e61 => ?_)
                      have h62 := Ch.putS h54 e61 (by decide)
                      have o63 := Inv.put0 o53 e61 (by decide)
                      obtain ⟨i64, e65⟩ : ∃ z : Int32, u25 + Int32.ofInt 1 = z := ⟨_, rfl⟩
                      have i64' := iinc_ok e65 (by decide) (by omega) (by omega)
                      refine r_iinc [(2, .int i64), (3, .int r51), (0, .ref (gz (xG x) + 55)), (1, .int u13)] 3 C dX8_findGates_106 rfl e65 (by decide) rfl ?_
                      refine r_goto 41 C dX8_findGates_109 (by decide) ?_
                      refine r_lv [2, 3, 0] rfl ?_
                      exact ih34 i64 w60 h62 o63 (by omega) (by omega) (by omega)
                    · have c59' := i_ne c59
                      refine r_iload_n 0 C dX8_findGates_89 rfl ?_
                      refine r_aload_n 1 C dX8_findGates_90 rfl ?_
                      refine gfX8_21 58 C (kS sC h54 kc_55) (xS sC h54 xc_55_5) dX8_findGates_91 ?_
                      refine r_iload_n 3 C dX8_findGates_94 rfl ?_
                      refine r_iald C (kS sC h54 kc_58) (vin (by omega) (by omega)) dX8_findGates_95 ?_
                      generalize (wI w50 58 (u25).toNatClampNeg) = v66
                      have k68 := i_rng r51
                      have k69 := i_rng v66
                      refine r_icmp_ge 106 C dX8_findGates_96 (by decide) (fun c67 => ?_) (fun c67 => ?_)
                      · have c67' := i_le c67
                        obtain ⟨i70, e71⟩ : ∃ z : Int32, u25 + Int32.ofInt 1 = z := ⟨_, rfl⟩
                        have i70' := iinc_ok e71 (by decide) (by omega) (by omega)
                        refine r_iinc [(2, .int i70), (3, .int r51), (0, .ref (gz (xG x) + 55)), (1, .int u13)] 3 C dX8_findGates_106 rfl e71 (by decide) rfl ?_
                        refine r_goto 41 C dX8_findGates_109 (by decide) ?_
                        refine r_lv [2, 3, 0] rfl ?_
                        exact ih34 i70 w50 h54 o53 (by omega) (by omega) (by omega)
                      · have c67' := i_nle c67
                        refine r_aload_n 1 C dX8_findGates_99 rfl ?_
                        refine gfX8_21 58 C (kS sC h54 kc_55) (xS sC h54 xc_55_5) dX8_findGates_100 ?_
                        refine r_iload_n 3 C dX8_findGates_103 rfl ?_
                        refine r_iload_n 0 C dX8_findGates_104 rfl ?_
                        refine r_iast C (kS sC h54 kc_58) (vin (by omega) (by omega)) dX8_findGates_105 (fun w72 e73 => ?_)
                        have h74 := Ch.putS h54 e73 (by decide)
                        have o75 := Inv.put0 o53 e73 (by decide)
                        obtain ⟨i76, e77⟩ : ∃ z : Int32, u25 + Int32.ofInt 1 = z := ⟨_, rfl⟩
                        have i76' := iinc_ok e77 (by decide) (by omega) (by omega)
                        refine r_iinc [(2, .int i76), (3, .int r51), (0, .ref (gz (xG x) + 55)), (1, .int u13)] 3 C dX8_findGates_106 rfl e77 (by decide) rfl ?_
                        refine r_goto 41 C dX8_findGates_109 (by decide) ?_
                        refine r_lv [2, 3, 0] rfl ?_
                        exact ih34 i76 w72 h74 o75 (by omega) (by omega) (by omega)
          refine r_iload_n 1 C dX8_findGates_28 rfl ?_
          refine r_aload_n 0 C dX8_findGates_29 rfl ?_
          refine gfX8_28 21 C (kS sC h17 kc_55) (xS sC h17 xc_55_2) dX8_findGates_30 ?_
          refine gfX8_69 (v := (wI w 21 0)) C (kS sC h17 kc_21) (h17.I (by decide) (by decide) rfl) dX8_findGates_33 ?_
          have b22 := Inv.get o0 rt_21_0 (j := 0) (by decide) (by decide)
          have k24 := i_rng u13
          refine r_icmp_ge 118 C dX8_findGates_36 (by decide) (fun c23 => ?_) (fun c23 => ?_)
          · have c23' := i_le c23
            exact hret _ _ _ dX8_findGates_118 ⟨h17, o18⟩
          · have c23' := i_nle c23
            refine r_iconst (v := 0) C dX8_findGates_39 (by decide) ?_
            refine r_istore_n [(2, .int 0), (0, .ref (gz (xG x) + 55)), (1, .int u13)] C dX8_findGates_40 (by decide) rfl ?_
            refine r_lv [1, 2, 0] rfl ?_
            exact LP26 4294967296 0 w16 h17 o18 (by omega) (by omega) (by omega)
      refine r_iload_n 1 C dX8_findGates_2 rfl ?_
      refine r_aload_n 0 C dX8_findGates_3 rfl ?_
      refine gfX8_28 21 C (kS sC h5 kc_55) (xS sC h5 xc_55_2) dX8_findGates_4 ?_
      refine gfX8_69 (v := (wI w 21 0)) C (kS sC h5 kc_21) (h5.I (by decide) (by decide) rfl) dX8_findGates_7 ?_
      have b10 := Inv.get o0 rt_21_0 (j := 0) (by decide) (by decide)
      have k12 := i_rng u1
      refine r_icmp_ge 26 C dX8_findGates_10 (by decide) (fun c11 => ?_) (fun c11 => ?_)
      · have c11' := i_le c11
        refine r_iconst (v := 0) C dX8_findGates_26 (by decide) ?_
        refine r_istore_n [(1, .int 0), (0, .ref (gz (xG x) + 55))] C dX8_findGates_27 (by decide) rfl ?_
        refine r_lv [1, 0] rfl ?_
        exact LP14 4294967296 0 w4 h5 o6 (by omega) (by omega)
      · have c11' := i_nle c11
        refine r_aload_n 0 C dX8_findGates_13 rfl ?_
        refine gfX8_21 58 C (kS sC h5 kc_55) (xS sC h5 xc_55_5) dX8_findGates_14 ?_
        refine r_iload_n 1 C dX8_findGates_17 rfl ?_
        refine r_iconst (v := (-1)) C dX8_findGates_18 (by decide) ?_
        refine r_iast C (kS sC h5 kc_58) (vin (by omega) (by omega)) dX8_findGates_19 (fun w78 e79 => ?_)
        have h80 := Ch.putS h5 e79 (by decide)
        have o81 := Inv.put0 o6 e79 (by decide)
        obtain ⟨i82, e83⟩ : ∃ z : Int32, u1 + Int32.ofInt 1 = z := ⟨_, rfl⟩
        have i82' := iinc_ok e83 (by decide) (by omega) (by omega)
        refine r_iinc [(1, .int i82), (0, .ref (gz (xG x) + 55))] 1 C dX8_findGates_20 rfl e83 (by decide) rfl ?_
        refine r_goto 2 C dX8_findGates_23 (by decide) ?_
        refine r_lv [1, 0] rfl ?_
        exact ih9 i82 w78 h80 o81 (by omega) (by omega)
  refine r_iconst (v := 0) C dX8_findGates_0 (by decide) ?_
  refine r_istore_n [(1, .int 0), (0, .ref (gz (xG x) + 55))] C dX8_findGates_1 (by decide) rfl ?_
  refine r_lv [1, 0] rfl ?_
  exact LP2 4294967296 0 w h0 o0 (by omega) (by omega)
set_option maxHeartbeats 4000000 in
set_option maxRecDepth 100000 in
theorem ctX8_canLeave_55_59 (l : Launch) (G : Gt) (w : Wv) (sC : Str KC XC w) (o0 : Inv RC w) (a2 : Int32) (a3 : Int32) (b2 : 0 ≤ a2.toInt ∧ a2.toInt ≤ 5) : CtI l G yX8_canLeave cX8_canLeave 7 .boolean ({ frames := 1, cells := 0, slots := 0, locals := 23 } : Room) [.ref (gz G + 55), .ref (gz G + 59), .int a2, .int a3] w (fun r w' => Ch [] [] w w' ∧ Inv RC w' ∧ ((0 ≤ r.toInt ∧ r.toInt ≤ 1))) := by
  refine enterI (by decide) (Nat.le_of_ble_eq_true rfl) ?_
  intro x el eG C hret
  subst el; subst eG
  show V x 0 0 w 0 [(0, .ref (gz (xG x) + 55)), (1, .ref (gz (xG x) + 59)), (2, .int a2), (3, .int a3)] []
  have h0 : Ch [] [] w w := Ch.rf
  have qm1 : ((-1) : Int32).toInt = (-1) := by decide
  have q0 : (0 : Int32).toInt = 0 := by decide
  have q1 : (1 : Int32).toInt = 1 := by decide
  refine r_aload_n 1 C dX8_canLeave_0 rfl ?_
  refine gfX8_128 60 C (kS sC h0 kc_59) (xS sC h0 xc_59_2) dX8_canLeave_1 ?_
  refine r_iload_n 2 C dX8_canLeave_4 rfl ?_
  refine r_iald C (kS sC h0 kc_60) (vin (by omega) (by omega)) dX8_canLeave_5 ?_
  generalize (wI w 60 (a2).toNatClampNeg) = v1
  refine r_istore [(4, .int v1), (0, .ref (gz (xG x) + 55)), (1, .ref (gz (xG x) + 59)), (2, .int a2), (3, .int a3)] C dX8_canLeave_6 (by decide) rfl ?_
  refine r_iload 0 C dX8_canLeave_8 rfl ?_
  refine callSI C cwX8_131_S (ctX1_isCell _ _ w v1 ) (by decide) rfl rfl (Nat.le_of_ble_eq_true rfl) (by decide) dX8_canLeave_10 (fun r4 w3 y2 => ?_)
  obtain ⟨y2, g5⟩ := y2
  obtain rfl := y2.symm
  show V x 0 0 w 13 [(4, .int v1), (0, .ref (gz (xG x) + 55)), (1, .ref (gz (xG x) + 59)), (2, .int a2), (3, .int a3)] [.int r4]
  refine r_if_eq 26 C dX8_canLeave_13 (by decide) (fun c6 => ?_) (fun c6 => ?_)
  · have c6' := i_eq c6
    refine r_iconst (v := (-1)) C dX8_canLeave_26 (by decide) ?_
    refine r_istore [(5, .int (-1)), (4, .int v1), (0, .ref (gz (xG x) + 55)), (1, .ref (gz (xG x) + 59)), (2, .int a2), (3, .int a3)] C dX8_canLeave_27 (by decide) rfl ?_
    refine r_aload_n 3 C dX8_canLeave_29 rfl ?_
    refine gfX8_134 61 C (kS sC h0 kc_59) (xS sC h0 xc_59_3) dX8_canLeave_30 ?_
    refine r_iload_n 4 C dX8_canLeave_33 rfl ?_
    refine r_iald C (kS sC h0 kc_61) (vin (by omega) (by omega)) dX8_canLeave_34 ?_
    generalize (wI w 61 (a2).toNatClampNeg) = v7
    refine r_iconst (v := (-1)) C dX8_canLeave_35 (by decide) ?_
    refine r_icmp_ne 54 C dX8_canLeave_36 (by decide) (fun c8 => ?_) (fun c8 => ?_)
    · have c8' := i_ne c8
      refine r_iconst (v := 1) C dX8_canLeave_54 (by decide) ?_
      refine r_goto 59 C dX8_canLeave_55 (by decide) ?_
      refine r_istore [(6, .int 1), (5, .int (-1)), (4, .int v1), (0, .ref (gz (xG x) + 55)), (1, .ref (gz (xG x) + 59)), (2, .int a2), (3, .int a3)] C dX8_canLeave_59 (by decide) rfl ?_
      refine r_iload 0 C dX8_canLeave_61 rfl ?_
      refine r_if_eq 92 C dX8_canLeave_63 (by decide) (fun c9 => ?_) (fun c9 => ?_)
      · have c9' := i_eq c9
        exfalso; omega
      · have c9' := i_ne c9
        refine r_iload 1 C dX8_canLeave_66 rfl ?_
        refine r_iconst (v := (-1)) C dX8_canLeave_68 (by decide) ?_
        refine r_icmp_eq 92 C dX8_canLeave_69 (by decide) (fun c10 => ?_) (fun c10 => ?_)
        · have c10' := i_eq c10
          refine r_iconst (v := 0) C dX8_canLeave_92 (by decide) ?_
          exact hret _ _ _ _ dX8_canLeave_93 (nar_z (z_of (by omega))) ⟨h0, o0, by omega⟩
        · have c10' := i_ne c10
          exfalso; omega
    · have c8' := i_eq c8
      refine r_aload_n 2 C dX8_canLeave_39 rfl ?_
      refine gfX8_24 3 C (kS sC h0 kc_55) (xS sC h0 xc_55_1) dX8_canLeave_40 ?_
      refine r_iload_n 4 C dX8_canLeave_43 rfl ?_
      refine r_aload_n 2 C dX8_canLeave_44 rfl ?_
      refine gfX8_50 (v := (wI w 55 9)) C (kS sC h0 kc_55) rfl dX8_canLeave_45 ?_
      refine callVI C cwX8_137_V (ctX9_isFollower_3 _ _ w (sS sC h0) o0 a2 (wI w 55 9) ) (by decide) (kS sC h0 kc_3) rfl rfl rfl (Nat.le_of_ble_eq_true rfl) (by decide) dX8_canLeave_48 (fun r13 w12 y11 => ?_)
      show V x 0 0 w12 51 [(5, .int (-1)), (4, .int v1), (0, .ref (gz (xG x) + 55)), (1, .ref (gz (xG x) + 59)), (2, .int a2), (3, .int a3)] [.int r13]
      obtain ⟨h14, o15, g16⟩ := y11
      have h17 := Ch.tr h0 h14 (by decide) (by decide)
      refine r_if_eq 58 C dX8_canLeave_51 (by decide) (fun c18 => ?_) (fun c18 => ?_)
      · have c18' := i_eq c18
        refine r_iconst (v := 0) C dX8_canLeave_58 (by decide) ?_
        refine r_istore [(6, .int 0), (5, .int (-1)), (4, .int v1), (0, .ref (gz (xG x) + 55)), (1, .ref (gz (xG x) + 59)), (2, .int a2), (3, .int a3)] C dX8_canLeave_59 (by decide) rfl ?_
        refine r_iload 0 C dX8_canLeave_61 rfl ?_
        refine r_if_eq 92 C dX8_canLeave_63 (by decide) (fun c19 => ?_) (fun c19 => ?_)
        · have c19' := i_eq c19
          refine r_iconst (v := 0) C dX8_canLeave_92 (by decide) ?_
          exact hret _ _ _ _ dX8_canLeave_93 (nar_z (z_of (by omega))) ⟨h17, o15, by omega⟩
        · have c19' := i_ne c19
          exfalso; omega
      · have c18' := i_ne c18
        refine r_iconst (v := 1) C dX8_canLeave_54 (by decide) ?_
        refine r_goto 59 C dX8_canLeave_55 (by decide) ?_
        refine r_istore [(6, .int 1), (5, .int (-1)), (4, .int v1), (0, .ref (gz (xG x) + 55)), (1, .ref (gz (xG x) + 59)), (2, .int a2), (3, .int a3)] C dX8_canLeave_59 (by decide) rfl ?_
        refine r_iload 0 C dX8_canLeave_61 rfl ?_
        refine r_if_eq 92 C dX8_canLeave_63 (by decide) (fun c20 => ?_) (fun c20 => ?_)
        · have c20' := i_eq c20
          exfalso; omega
        · have c20' := i_ne c20
          refine r_iload 1 C dX8_canLeave_66 rfl ?_
          refine r_iconst (v := (-1)) C dX8_canLeave_68 (by decide) ?_
          refine r_icmp_eq 92 C dX8_canLeave_69 (by decide) (fun c21 => ?_) (fun c21 => ?_)
          · have c21' := i_eq c21
            refine r_iconst (v := 0) C dX8_canLeave_92 (by decide) ?_
            exact hret _ _ _ _ dX8_canLeave_93 (nar_z (z_of (by omega))) ⟨h17, o15, by omega⟩
          · have c21' := i_ne c21
            exfalso; omega
  · have c6' := i_ne c6
    refine r_aload_n 1 C dX8_canLeave_16 rfl ?_
    refine gfX8_21 58 C (kS sC h0 kc_55) (xS sC h0 xc_55_5) dX8_canLeave_17 ?_
    refine r_iload 0 C dX8_canLeave_20 rfl ?_
    refine r_iald C (kS sC h0 kc_58) (vin (by omega) (by omega)) dX8_canLeave_22 ?_
    generalize (wI w 58 (v1).toNatClampNeg) = v22
    refine r_goto 27 C dX8_canLeave_23 (by decide) ?_
    refine r_istore [(5, .int v22), (4, .int v1), (0, .ref (gz (xG x) + 55)), (1, .ref (gz (xG x) + 59)), (2, .int a2), (3, .int a3)] C dX8_canLeave_27 (by decide) rfl ?_
    refine r_aload_n 3 C dX8_canLeave_29 rfl ?_
    refine gfX8_134 61 C (kS sC h0 kc_59) (xS sC h0 xc_59_3) dX8_canLeave_30 ?_
    refine r_iload_n 4 C dX8_canLeave_33 rfl ?_
    refine r_iald C (kS sC h0 kc_61) (vin (by omega) (by omega)) dX8_canLeave_34 ?_
    generalize (wI w 61 (a2).toNatClampNeg) = v23
    refine r_iconst (v := (-1)) C dX8_canLeave_35 (by decide) ?_
    refine r_icmp_ne 54 C dX8_canLeave_36 (by decide) (fun c24 => ?_) (fun c24 => ?_)
    · have c24' := i_ne c24
      refine r_iconst (v := 1) C dX8_canLeave_54 (by decide) ?_
      refine r_goto 59 C dX8_canLeave_55 (by decide) ?_
      refine r_istore [(6, .int 1), (5, .int v22), (4, .int v1), (0, .ref (gz (xG x) + 55)), (1, .ref (gz (xG x) + 59)), (2, .int a2), (3, .int a3)] C dX8_canLeave_59 (by decide) rfl ?_
      refine r_iload 0 C dX8_canLeave_61 rfl ?_
      refine r_if_eq 92 C dX8_canLeave_63 (by decide) (fun c25 => ?_) (fun c25 => ?_)
      · have c25' := i_eq c25
        exfalso; omega
      · have c25' := i_ne c25
        refine r_iload 1 C dX8_canLeave_66 rfl ?_
        refine r_iconst (v := (-1)) C dX8_canLeave_68 (by decide) ?_
        refine r_icmp_eq 92 C dX8_canLeave_69 (by decide) (fun c26 => ?_) (fun c26 => ?_)
        · have c26' := i_eq c26
          refine r_iconst (v := 0) C dX8_canLeave_92 (by decide) ?_
          exact hret _ _ _ _ dX8_canLeave_93 (nar_z (z_of (by omega))) ⟨h0, o0, by omega⟩
        · have c26' := i_ne c26
          refine r_iload 1 C dX8_canLeave_72 rfl ?_
          refine r_iload_n 6 C dX8_canLeave_74 rfl ?_
          refine r_aload_n 3 C dX8_canLeave_75 rfl ?_
          refine gfX8_24 3 C (kS sC h0 kc_55) (xS sC h0 xc_55_1) dX8_canLeave_76 ?_
          refine gfX8_140 8 C (kS sC h0 kc_3) (xS sC h0 xc_3_13) dX8_canLeave_79 ?_
          refine r_iload_n 5 C dX8_canLeave_82 rfl ?_
          refine r_iald C (kS sC h0 kc_8) (vin (by omega) (by omega)) dX8_canLeave_83 ?_
          generalize (wI w 8 (a2).toNatClampNeg) = v27
          refine r_imul C dX8_canLeave_84 (fun v28 e29 => ?_)
          have k31 := i_rng v22
          have k32 := i_rng v28
          refine r_icmp_gt 92 C dX8_canLeave_85 (by decide) (fun c30 => ?_) (fun c30 => ?_)
          · have c30' := i_lt c30
            refine r_iconst (v := 0) C dX8_canLeave_92 (by decide) ?_
            exact hret _ _ _ _ dX8_canLeave_93 (nar_z (z_of (by omega))) ⟨h0, o0, by omega⟩
          · have c30' := i_nlt c30
            refine r_iconst (v := 1) C dX8_canLeave_88 (by decide) ?_
            refine r_goto 93 C dX8_canLeave_89 (by decide) ?_
            exact hret _ _ _ _ dX8_canLeave_93 (nar_z (z_of (by omega))) ⟨h0, o0, by omega⟩
    · have c24' := i_eq c24
      refine r_aload_n 2 C dX8_canLeave_39 rfl ?_
      refine gfX8_24 3 C (kS sC h0 kc_55) (xS sC h0 xc_55_1) dX8_canLeave_40 ?_
      refine r_iload_n 4 C dX8_canLeave_43 rfl ?_
      refine r_aload_n 2 C dX8_canLeave_44 rfl ?_
      refine gfX8_50 (v := (wI w 55 9)) C (kS sC h0 kc_55) rfl dX8_canLeave_45 ?_
      refine callVI C cwX8_137_V (ctX9_isFollower_3 _ _ w (sS sC h0) o0 a2 (wI w 55 9) ) (by decide) (kS sC h0 kc_3) rfl rfl rfl (Nat.le_of_ble_eq_true rfl) (by decide) dX8_canLeave_48 (fun r35 w34 y33 => ?_)
      show V x 0 0 w34 51 [(5, .int v22), (4, .int v1), (0, .ref (gz (xG x) + 55)), (1, .ref (gz (xG x) + 59)), (2, .int a2), (3, .int a3)] [.int r35]
      obtain ⟨h36, o37, g38⟩ := y33
      have h39 := Ch.tr h0 h36 (by decide) (by decide)
      refine r_if_eq 58 C dX8_canLeave_51 (by decide) (fun c40 => ?_) (fun c40 => ?_)
      · have c40' := i_eq c40
        refine r_iconst (v := 0) C dX8_canLeave_58 (by decide) ?_
        refine r_istore [(6, .int 0), (5, .int v22), (4, .int v1), (0, .ref (gz (xG x) + 55)), (1, .ref (gz (xG x) + 59)), (2, .int a2), (3, .int a3)] C dX8_canLeave_59 (by decide) rfl ?_
        refine r_iload 0 C dX8_canLeave_61 rfl ?_
        refine r_if_eq 92 C dX8_canLeave_63 (by decide) (fun c41 => ?_) (fun c41 => ?_)
        · have c41' := i_eq c41
          refine r_iconst (v := 0) C dX8_canLeave_92 (by decide) ?_
          exact hret _ _ _ _ dX8_canLeave_93 (nar_z (z_of (by omega))) ⟨h39, o37, by omega⟩
        · have c41' := i_ne c41
          exfalso; omega
      · have c40' := i_ne c40
        refine r_iconst (v := 1) C dX8_canLeave_54 (by decide) ?_
        refine r_goto 59 C dX8_canLeave_55 (by decide) ?_
        refine r_istore [(6, .int 1), (5, .int v22), (4, .int v1), (0, .ref (gz (xG x) + 55)), (1, .ref (gz (xG x) + 59)), (2, .int a2), (3, .int a3)] C dX8_canLeave_59 (by decide) rfl ?_
        refine r_iload 0 C dX8_canLeave_61 rfl ?_
        refine r_if_eq 92 C dX8_canLeave_63 (by decide) (fun c42 => ?_) (fun c42 => ?_)
        · have c42' := i_eq c42
          exfalso; omega
        · have c42' := i_ne c42
          refine r_iload 1 C dX8_canLeave_66 rfl ?_
          refine r_iconst (v := (-1)) C dX8_canLeave_68 (by decide) ?_
          refine r_icmp_eq 92 C dX8_canLeave_69 (by decide) (fun c43 => ?_) (fun c43 => ?_)
          · have c43' := i_eq c43
            refine r_iconst (v := 0) C dX8_canLeave_92 (by decide) ?_
            exact hret _ _ _ _ dX8_canLeave_93 (nar_z (z_of (by omega))) ⟨h39, o37, by omega⟩
          · have c43' := i_ne c43
            refine r_iload 1 C dX8_canLeave_72 rfl ?_
            refine r_iload_n 6 C dX8_canLeave_74 rfl ?_
            refine r_aload_n 3 C dX8_canLeave_75 rfl ?_
            refine gfX8_24 3 C (kS sC h39 kc_55) (xS sC h39 xc_55_1) dX8_canLeave_76 ?_
            refine gfX8_140 8 C (kS sC h39 kc_3) (xS sC h39 xc_3_13) dX8_canLeave_79 ?_
            refine r_iload_n 5 C dX8_canLeave_82 rfl ?_
            refine r_iald C (kS sC h39 kc_8) (vin (by omega) (by omega)) dX8_canLeave_83 ?_
            generalize (wI w34 8 (a2).toNatClampNeg) = v44
            refine r_imul C dX8_canLeave_84 (fun v45 e46 => ?_)
            have k48 := i_rng v22
            have k49 := i_rng v45
            refine r_icmp_gt 92 C dX8_canLeave_85 (by decide) (fun c47 => ?_) (fun c47 => ?_)
            · have c47' := i_lt c47
              refine r_iconst (v := 0) C dX8_canLeave_92 (by decide) ?_
              exact hret _ _ _ _ dX8_canLeave_93 (nar_z (z_of (by omega))) ⟨h39, o37, by omega⟩
            · have c47' := i_nlt c47
              refine r_iconst (v := 1) C dX8_canLeave_88 (by decide) ?_
              refine r_goto 93 C dX8_canLeave_89 (by decide) ?_
              exact hret _ _ _ _ dX8_canLeave_93 (nar_z (z_of (by omega))) ⟨h39, o37, by omega⟩
set_option maxHeartbeats 4000000 in
set_option maxRecDepth 100000 in
theorem ctX8_canLeave_55_62 (l : Launch) (G : Gt) (w : Wv) (sC : Str KC XC w) (o0 : Inv RC w) (a2 : Int32) (a3 : Int32) (b2 : 0 ≤ a2.toInt ∧ a2.toInt ≤ 5) : CtI l G yX8_canLeave cX8_canLeave 7 .boolean ({ frames := 1, cells := 0, slots := 0, locals := 23 } : Room) [.ref (gz G + 55), .ref (gz G + 62), .int a2, .int a3] w (fun r w' => Ch [] [] w w' ∧ Inv RC w' ∧ ((0 ≤ r.toInt ∧ r.toInt ≤ 1))) := by
  refine enterI (by decide) (Nat.le_of_ble_eq_true rfl) ?_
  intro x el eG C hret
  subst el; subst eG
  show V x 0 0 w 0 [(0, .ref (gz (xG x) + 55)), (1, .ref (gz (xG x) + 62)), (2, .int a2), (3, .int a3)] []
  have h0 : Ch [] [] w w := Ch.rf
  have qm1 : ((-1) : Int32).toInt = (-1) := by decide
  have q0 : (0 : Int32).toInt = 0 := by decide
  have q1 : (1 : Int32).toInt = 1 := by decide
  refine r_aload_n 1 C dX8_canLeave_0 rfl ?_
  refine gfX8_128 63 C (kS sC h0 kc_62) (xS sC h0 xc_62_2) dX8_canLeave_1 ?_
  refine r_iload_n 2 C dX8_canLeave_4 rfl ?_
  refine r_iald C (kS sC h0 kc_63) (vin (by omega) (by omega)) dX8_canLeave_5 ?_
  generalize (wI w 63 (a2).toNatClampNeg) = v1
  refine r_istore [(4, .int v1), (0, .ref (gz (xG x) + 55)), (1, .ref (gz (xG x) + 62)), (2, .int a2), (3, .int a3)] C dX8_canLeave_6 (by decide) rfl ?_
  refine r_iload 0 C dX8_canLeave_8 rfl ?_
  refine callSI C cwX8_131_S (ctX1_isCell _ _ w v1 ) (by decide) rfl rfl (Nat.le_of_ble_eq_true rfl) (by decide) dX8_canLeave_10 (fun r4 w3 y2 => ?_)
  obtain ⟨y2, g5⟩ := y2
  obtain rfl := y2.symm
  show V x 0 0 w 13 [(4, .int v1), (0, .ref (gz (xG x) + 55)), (1, .ref (gz (xG x) + 62)), (2, .int a2), (3, .int a3)] [.int r4]
  refine r_if_eq 26 C dX8_canLeave_13 (by decide) (fun c6 => ?_) (fun c6 => ?_)
  · have c6' := i_eq c6
    refine r_iconst (v := (-1)) C dX8_canLeave_26 (by decide) ?_
    refine r_istore [(5, .int (-1)), (4, .int v1), (0, .ref (gz (xG x) + 55)), (1, .ref (gz (xG x) + 62)), (2, .int a2), (3, .int a3)] C dX8_canLeave_27 (by decide) rfl ?_
    refine r_aload_n 3 C dX8_canLeave_29 rfl ?_
    refine gfX8_134 64 C (kS sC h0 kc_62) (xS sC h0 xc_62_3) dX8_canLeave_30 ?_
    refine r_iload_n 4 C dX8_canLeave_33 rfl ?_
    refine r_iald C (kS sC h0 kc_64) (vin (by omega) (by omega)) dX8_canLeave_34 ?_
    generalize (wI w 64 (a2).toNatClampNeg) = v7
    refine r_iconst (v := (-1)) C dX8_canLeave_35 (by decide) ?_
    refine r_icmp_ne 54 C dX8_canLeave_36 (by decide) (fun c8 => ?_) (fun c8 => ?_)
    · have c8' := i_ne c8
      refine r_iconst (v := 1) C dX8_canLeave_54 (by decide) ?_
      refine r_goto 59 C dX8_canLeave_55 (by decide) ?_
      refine r_istore [(6, .int 1), (5, .int (-1)), (4, .int v1), (0, .ref (gz (xG x) + 55)), (1, .ref (gz (xG x) + 62)), (2, .int a2), (3, .int a3)] C dX8_canLeave_59 (by decide) rfl ?_
      refine r_iload 0 C dX8_canLeave_61 rfl ?_
      refine r_if_eq 92 C dX8_canLeave_63 (by decide) (fun c9 => ?_) (fun c9 => ?_)
      · have c9' := i_eq c9
        exfalso; omega
      · have c9' := i_ne c9
        refine r_iload 1 C dX8_canLeave_66 rfl ?_
        refine r_iconst (v := (-1)) C dX8_canLeave_68 (by decide) ?_
        refine r_icmp_eq 92 C dX8_canLeave_69 (by decide) (fun c10 => ?_) (fun c10 => ?_)
        · have c10' := i_eq c10
          refine r_iconst (v := 0) C dX8_canLeave_92 (by decide) ?_
          exact hret _ _ _ _ dX8_canLeave_93 (nar_z (z_of (by omega))) ⟨h0, o0, by omega⟩
        · have c10' := i_ne c10
          exfalso; omega
    · have c8' := i_eq c8
      refine r_aload_n 2 C dX8_canLeave_39 rfl ?_
      refine gfX8_24 3 C (kS sC h0 kc_55) (xS sC h0 xc_55_1) dX8_canLeave_40 ?_
      refine r_iload_n 4 C dX8_canLeave_43 rfl ?_
      refine r_aload_n 2 C dX8_canLeave_44 rfl ?_
      refine gfX8_50 (v := (wI w 55 9)) C (kS sC h0 kc_55) rfl dX8_canLeave_45 ?_
      refine callVI C cwX8_137_V (ctX9_isFollower_3 _ _ w (sS sC h0) o0 a2 (wI w 55 9) ) (by decide) (kS sC h0 kc_3) rfl rfl rfl (Nat.le_of_ble_eq_true rfl) (by decide) dX8_canLeave_48 (fun r13 w12 y11 => ?_)
      show V x 0 0 w12 51 [(5, .int (-1)), (4, .int v1), (0, .ref (gz (xG x) + 55)), (1, .ref (gz (xG x) + 62)), (2, .int a2), (3, .int a3)] [.int r13]
      obtain ⟨h14, o15, g16⟩ := y11
      have h17 := Ch.tr h0 h14 (by decide) (by decide)
      refine r_if_eq 58 C dX8_canLeave_51 (by decide) (fun c18 => ?_) (fun c18 => ?_)
      · have c18' := i_eq c18
        refine r_iconst (v := 0) C dX8_canLeave_58 (by decide) ?_
        refine r_istore [(6, .int 0), (5, .int (-1)), (4, .int v1), (0, .ref (gz (xG x) + 55)), (1, .ref (gz (xG x) + 62)), (2, .int a2), (3, .int a3)] C dX8_canLeave_59 (by decide) rfl ?_
        refine r_iload 0 C dX8_canLeave_61 rfl ?_
        refine r_if_eq 92 C dX8_canLeave_63 (by decide) (fun c19 => ?_) (fun c19 => ?_)
        · have c19' := i_eq c19
          refine r_iconst (v := 0) C dX8_canLeave_92 (by decide) ?_
          exact hret _ _ _ _ dX8_canLeave_93 (nar_z (z_of (by omega))) ⟨h17, o15, by omega⟩
        · have c19' := i_ne c19
          exfalso; omega
      · have c18' := i_ne c18
        refine r_iconst (v := 1) C dX8_canLeave_54 (by decide) ?_
        refine r_goto 59 C dX8_canLeave_55 (by decide) ?_
        refine r_istore [(6, .int 1), (5, .int (-1)), (4, .int v1), (0, .ref (gz (xG x) + 55)), (1, .ref (gz (xG x) + 62)), (2, .int a2), (3, .int a3)] C dX8_canLeave_59 (by decide) rfl ?_
        refine r_iload 0 C dX8_canLeave_61 rfl ?_
        refine r_if_eq 92 C dX8_canLeave_63 (by decide) (fun c20 => ?_) (fun c20 => ?_)
        · have c20' := i_eq c20
          exfalso; omega
        · have c20' := i_ne c20
          refine r_iload 1 C dX8_canLeave_66 rfl ?_
          refine r_iconst (v := (-1)) C dX8_canLeave_68 (by decide) ?_
          refine r_icmp_eq 92 C dX8_canLeave_69 (by decide) (fun c21 => ?_) (fun c21 => ?_)
          · have c21' := i_eq c21
            refine r_iconst (v := 0) C dX8_canLeave_92 (by decide) ?_
            exact hret _ _ _ _ dX8_canLeave_93 (nar_z (z_of (by omega))) ⟨h17, o15, by omega⟩
          · have c21' := i_ne c21
            exfalso; omega
  · have c6' := i_ne c6
    refine r_aload_n 1 C dX8_canLeave_16 rfl ?_
    refine gfX8_21 58 C (kS sC h0 kc_55) (xS sC h0 xc_55_5) dX8_canLeave_17 ?_
    refine r_iload 0 C dX8_canLeave_20 rfl ?_
    refine r_iald C (kS sC h0 kc_58) (vin (by omega) (by omega)) dX8_canLeave_22 ?_
    generalize (wI w 58 (v1).toNatClampNeg) = v22
    refine r_goto 27 C dX8_canLeave_23 (by decide) ?_
    refine r_istore [(5, .int v22), (4, .int v1), (0, .ref (gz (xG x) + 55)), (1, .ref (gz (xG x) + 62)), (2, .int a2), (3, .int a3)] C dX8_canLeave_27 (by decide) rfl ?_
    refine r_aload_n 3 C dX8_canLeave_29 rfl ?_
    refine gfX8_134 64 C (kS sC h0 kc_62) (xS sC h0 xc_62_3) dX8_canLeave_30 ?_
    refine r_iload_n 4 C dX8_canLeave_33 rfl ?_
    refine r_iald C (kS sC h0 kc_64) (vin (by omega) (by omega)) dX8_canLeave_34 ?_
    generalize (wI w 64 (a2).toNatClampNeg) = v23
    refine r_iconst (v := (-1)) C dX8_canLeave_35 (by decide) ?_
    refine r_icmp_ne 54 C dX8_canLeave_36 (by decide) (fun c24 => ?_) (fun c24 => ?_)
    · have c24' := i_ne c24
      refine r_iconst (v := 1) C dX8_canLeave_54 (by decide) ?_
      refine r_goto 59 C dX8_canLeave_55 (by decide) ?_
      refine r_istore [(6, .int 1), (5, .int v22), (4, .int v1), (0, .ref (gz (xG x) + 55)), (1, .ref (gz (xG x) + 62)), (2, .int a2), (3, .int a3)] C dX8_canLeave_59 (by decide) rfl ?_
      refine r_iload 0 C dX8_canLeave_61 rfl ?_
      refine r_if_eq 92 C dX8_canLeave_63 (by decide) (fun c25 => ?_) (fun c25 => ?_)
      · have c25' := i_eq c25
        exfalso; omega
      · have c25' := i_ne c25
        refine r_iload 1 C dX8_canLeave_66 rfl ?_
        refine r_iconst (v := (-1)) C dX8_canLeave_68 (by decide) ?_
        refine r_icmp_eq 92 C dX8_canLeave_69 (by decide) (fun c26 => ?_) (fun c26 => ?_)
        · have c26' := i_eq c26
          refine r_iconst (v := 0) C dX8_canLeave_92 (by decide) ?_
          exact hret _ _ _ _ dX8_canLeave_93 (nar_z (z_of (by omega))) ⟨h0, o0, by omega⟩
        · have c26' := i_ne c26
          refine r_iload 1 C dX8_canLeave_72 rfl ?_
          refine r_iload_n 6 C dX8_canLeave_74 rfl ?_
          refine r_aload_n 3 C dX8_canLeave_75 rfl ?_
          refine gfX8_24 3 C (kS sC h0 kc_55) (xS sC h0 xc_55_1) dX8_canLeave_76 ?_
          refine gfX8_140 8 C (kS sC h0 kc_3) (xS sC h0 xc_3_13) dX8_canLeave_79 ?_
          refine r_iload_n 5 C dX8_canLeave_82 rfl ?_
          refine r_iald C (kS sC h0 kc_8) (vin (by omega) (by omega)) dX8_canLeave_83 ?_
          generalize (wI w 8 (a2).toNatClampNeg) = v27
          refine r_imul C dX8_canLeave_84 (fun v28 e29 => ?_)
          have k31 := i_rng v22
          have k32 := i_rng v28
          refine r_icmp_gt 92 C dX8_canLeave_85 (by decide) (fun c30 => ?_) (fun c30 => ?_)
          · have c30' := i_lt c30
            refine r_iconst (v := 0) C dX8_canLeave_92 (by decide) ?_
            exact hret _ _ _ _ dX8_canLeave_93 (nar_z (z_of (by omega))) ⟨h0, o0, by omega⟩
          · have c30' := i_nlt c30
            refine r_iconst (v := 1) C dX8_canLeave_88 (by decide) ?_
            refine r_goto 93 C dX8_canLeave_89 (by decide) ?_
            exact hret _ _ _ _ dX8_canLeave_93 (nar_z (z_of (by omega))) ⟨h0, o0, by omega⟩
    · have c24' := i_eq c24
      refine r_aload_n 2 C dX8_canLeave_39 rfl ?_
      refine gfX8_24 3 C (kS sC h0 kc_55) (xS sC h0 xc_55_1) dX8_canLeave_40 ?_
      refine r_iload_n 4 C dX8_canLeave_43 rfl ?_
      refine r_aload_n 2 C dX8_canLeave_44 rfl ?_
      refine gfX8_50 (v := (wI w 55 9)) C (kS sC h0 kc_55) rfl dX8_canLeave_45 ?_
      refine callVI C cwX8_137_V (ctX9_isFollower_3 _ _ w (sS sC h0) o0 a2 (wI w 55 9) ) (by decide) (kS sC h0 kc_3) rfl rfl rfl (Nat.le_of_ble_eq_true rfl) (by decide) dX8_canLeave_48 (fun r35 w34 y33 => ?_)
      show V x 0 0 w34 51 [(5, .int v22), (4, .int v1), (0, .ref (gz (xG x) + 55)), (1, .ref (gz (xG x) + 62)), (2, .int a2), (3, .int a3)] [.int r35]
      obtain ⟨h36, o37, g38⟩ := y33
      have h39 := Ch.tr h0 h36 (by decide) (by decide)
      refine r_if_eq 58 C dX8_canLeave_51 (by decide) (fun c40 => ?_) (fun c40 => ?_)
      · have c40' := i_eq c40
        refine r_iconst (v := 0) C dX8_canLeave_58 (by decide) ?_
        refine r_istore [(6, .int 0), (5, .int v22), (4, .int v1), (0, .ref (gz (xG x) + 55)), (1, .ref (gz (xG x) + 62)), (2, .int a2), (3, .int a3)] C dX8_canLeave_59 (by decide) rfl ?_
        refine r_iload 0 C dX8_canLeave_61 rfl ?_
        refine r_if_eq 92 C dX8_canLeave_63 (by decide) (fun c41 => ?_) (fun c41 => ?_)
        · have c41' := i_eq c41
          refine r_iconst (v := 0) C dX8_canLeave_92 (by decide) ?_
          exact hret _ _ _ _ dX8_canLeave_93 (nar_z (z_of (by omega))) ⟨h39, o37, by omega⟩
        · have c41' := i_ne c41
          exfalso; omega
      · have c40' := i_ne c40
        refine r_iconst (v := 1) C dX8_canLeave_54 (by decide) ?_
        refine r_goto 59 C dX8_canLeave_55 (by decide) ?_
        refine r_istore [(6, .int 1), (5, .int v22), (4, .int v1), (0, .ref (gz (xG x) + 55)), (1, .ref (gz (xG x) + 62)), (2, .int a2), (3, .int a3)] C dX8_canLeave_59 (by decide) rfl ?_
        refine r_iload 0 C dX8_canLeave_61 rfl ?_
        refine r_if_eq 92 C dX8_canLeave_63 (by decide) (fun c42 => ?_) (fun c42 => ?_)
        · have c42' := i_eq c42
          exfalso; omega
        · have c42' := i_ne c42
          refine r_iload 1 C dX8_canLeave_66 rfl ?_
          refine r_iconst (v := (-1)) C dX8_canLeave_68 (by decide) ?_
          refine r_icmp_eq 92 C dX8_canLeave_69 (by decide) (fun c43 => ?_) (fun c43 => ?_)
          · have c43' := i_eq c43
            refine r_iconst (v := 0) C dX8_canLeave_92 (by decide) ?_
            exact hret _ _ _ _ dX8_canLeave_93 (nar_z (z_of (by omega))) ⟨h39, o37, by omega⟩
          · have c43' := i_ne c43
            refine r_iload 1 C dX8_canLeave_72 rfl ?_
            refine r_iload_n 6 C dX8_canLeave_74 rfl ?_
            refine r_aload_n 3 C dX8_canLeave_75 rfl ?_
            refine gfX8_24 3 C (kS sC h39 kc_55) (xS sC h39 xc_55_1) dX8_canLeave_76 ?_
            refine gfX8_140 8 C (kS sC h39 kc_3) (xS sC h39 xc_3_13) dX8_canLeave_79 ?_
            refine r_iload_n 5 C dX8_canLeave_82 rfl ?_
            refine r_iald C (kS sC h39 kc_8) (vin (by omega) (by omega)) dX8_canLeave_83 ?_
            generalize (wI w34 8 (a2).toNatClampNeg) = v44
            refine r_imul C dX8_canLeave_84 (fun v45 e46 => ?_)
            have k48 := i_rng v22
            have k49 := i_rng v45
            refine r_icmp_gt 92 C dX8_canLeave_85 (by decide) (fun c47 => ?_) (fun c47 => ?_)
            · have c47' := i_lt c47
              refine r_iconst (v := 0) C dX8_canLeave_92 (by decide) ?_
              exact hret _ _ _ _ dX8_canLeave_93 (nar_z (z_of (by omega))) ⟨h39, o37, by omega⟩
            · have c47' := i_nlt c47
              refine r_iconst (v := 1) C dX8_canLeave_88 (by decide) ?_
              refine r_goto 93 C dX8_canLeave_89 (by decide) ?_
              exact hret _ _ _ _ dX8_canLeave_93 (nar_z (z_of (by omega))) ⟨h39, o37, by omega⟩
set_option maxHeartbeats 4000000 in
set_option maxRecDepth 100000 in
theorem ctX8_canLeave_55_65 (l : Launch) (G : Gt) (w : Wv) (sC : Str KC XC w) (o0 : Inv RC w) (a2 : Int32) (a3 : Int32) (b2 : 0 ≤ a2.toInt ∧ a2.toInt ≤ 5) : CtI l G yX8_canLeave cX8_canLeave 7 .boolean ({ frames := 1, cells := 0, slots := 0, locals := 23 } : Room) [.ref (gz G + 55), .ref (gz G + 65), .int a2, .int a3] w (fun r w' => Ch [] [] w w' ∧ Inv RC w' ∧ ((0 ≤ r.toInt ∧ r.toInt ≤ 1))) := by
  refine enterI (by decide) (Nat.le_of_ble_eq_true rfl) ?_
  intro x el eG C hret
  subst el; subst eG
  show V x 0 0 w 0 [(0, .ref (gz (xG x) + 55)), (1, .ref (gz (xG x) + 65)), (2, .int a2), (3, .int a3)] []
  have h0 : Ch [] [] w w := Ch.rf
  have qm1 : ((-1) : Int32).toInt = (-1) := by decide
  have q0 : (0 : Int32).toInt = 0 := by decide
  have q1 : (1 : Int32).toInt = 1 := by decide
  refine r_aload_n 1 C dX8_canLeave_0 rfl ?_
  refine gfX8_128 66 C (kS sC h0 kc_65) (xS sC h0 xc_65_2) dX8_canLeave_1 ?_
  refine r_iload_n 2 C dX8_canLeave_4 rfl ?_
  refine r_iald C (kS sC h0 kc_66) (vin (by omega) (by omega)) dX8_canLeave_5 ?_
  generalize (wI w 66 (a2).toNatClampNeg) = v1
  refine r_istore [(4, .int v1), (0, .ref (gz (xG x) + 55)), (1, .ref (gz (xG x) + 65)), (2, .int a2), (3, .int a3)] C dX8_canLeave_6 (by decide) rfl ?_
  refine r_iload 0 C dX8_canLeave_8 rfl ?_
  refine callSI C cwX8_131_S (ctX1_isCell _ _ w v1 ) (by decide) rfl rfl (Nat.le_of_ble_eq_true rfl) (by decide) dX8_canLeave_10 (fun r4 w3 y2 => ?_)
  obtain ⟨y2, g5⟩ := y2
  obtain rfl := y2.symm
  show V x 0 0 w 13 [(4, .int v1), (0, .ref (gz (xG x) + 55)), (1, .ref (gz (xG x) + 65)), (2, .int a2), (3, .int a3)] [.int r4]
  refine r_if_eq 26 C dX8_canLeave_13 (by decide) (fun c6 => ?_) (fun c6 => ?_)
  · have c6' := i_eq c6
    refine r_iconst (v := (-1)) C dX8_canLeave_26 (by decide) ?_
    refine r_istore [(5, .int (-1)), (4, .int v1), (0, .ref (gz (xG x) + 55)), (1, .ref (gz (xG x) + 65)), (2, .int a2), (3, .int a3)] C dX8_canLeave_27 (by decide) rfl ?_
    refine r_aload_n 3 C dX8_canLeave_29 rfl ?_
    refine gfX8_134 67 C (kS sC h0 kc_65) (xS sC h0 xc_65_3) dX8_canLeave_30 ?_
    refine r_iload_n 4 C dX8_canLeave_33 rfl ?_
    refine r_iald C (kS sC h0 kc_67) (vin (by omega) (by omega)) dX8_canLeave_34 ?_
    generalize (wI w 67 (a2).toNatClampNeg) = v7
    refine r_iconst (v := (-1)) C dX8_canLeave_35 (by decide) ?_
    refine r_icmp_ne 54 C dX8_canLeave_36 (by decide) (fun c8 => ?_) (fun c8 => ?_)
    · have c8' := i_ne c8
      refine r_iconst (v := 1) C dX8_canLeave_54 (by decide) ?_
      refine r_goto 59 C dX8_canLeave_55 (by decide) ?_
      refine r_istore [(6, .int 1), (5, .int (-1)), (4, .int v1), (0, .ref (gz (xG x) + 55)), (1, .ref (gz (xG x) + 65)), (2, .int a2), (3, .int a3)] C dX8_canLeave_59 (by decide) rfl ?_
      refine r_iload 0 C dX8_canLeave_61 rfl ?_
      refine r_if_eq 92 C dX8_canLeave_63 (by decide) (fun c9 => ?_) (fun c9 => ?_)
      · have c9' := i_eq c9
        exfalso; omega
      · have c9' := i_ne c9
        refine r_iload 1 C dX8_canLeave_66 rfl ?_
        refine r_iconst (v := (-1)) C dX8_canLeave_68 (by decide) ?_
        refine r_icmp_eq 92 C dX8_canLeave_69 (by decide) (fun c10 => ?_) (fun c10 => ?_)
        · have c10' := i_eq c10
          refine r_iconst (v := 0) C dX8_canLeave_92 (by decide) ?_
          exact hret _ _ _ _ dX8_canLeave_93 (nar_z (z_of (by omega))) ⟨h0, o0, by omega⟩
        · have c10' := i_ne c10
          exfalso; omega
    · have c8' := i_eq c8
      refine r_aload_n 2 C dX8_canLeave_39 rfl ?_
      refine gfX8_24 3 C (kS sC h0 kc_55) (xS sC h0 xc_55_1) dX8_canLeave_40 ?_
      refine r_iload_n 4 C dX8_canLeave_43 rfl ?_
      refine r_aload_n 2 C dX8_canLeave_44 rfl ?_
      refine gfX8_50 (v := (wI w 55 9)) C (kS sC h0 kc_55) rfl dX8_canLeave_45 ?_
      refine callVI C cwX8_137_V (ctX9_isFollower_3 _ _ w (sS sC h0) o0 a2 (wI w 55 9) ) (by decide) (kS sC h0 kc_3) rfl rfl rfl (Nat.le_of_ble_eq_true rfl) (by decide) dX8_canLeave_48 (fun r13 w12 y11 => ?_)
      show V x 0 0 w12 51 [(5, .int (-1)), (4, .int v1), (0, .ref (gz (xG x) + 55)), (1, .ref (gz (xG x) + 65)), (2, .int a2), (3, .int a3)] [.int r13]
      obtain ⟨h14, o15, g16⟩ := y11
      have h17 := Ch.tr h0 h14 (by decide) (by decide)
      refine r_if_eq 58 C dX8_canLeave_51 (by decide) (fun c18 => ?_) (fun c18 => ?_)
      · have c18' := i_eq c18
        refine r_iconst (v := 0) C dX8_canLeave_58 (by decide) ?_
        refine r_istore [(6, .int 0), (5, .int (-1)), (4, .int v1), (0, .ref (gz (xG x) + 55)), (1, .ref (gz (xG x) + 65)), (2, .int a2), (3, .int a3)] C dX8_canLeave_59 (by decide) rfl ?_
        refine r_iload 0 C dX8_canLeave_61 rfl ?_
        refine r_if_eq 92 C dX8_canLeave_63 (by decide) (fun c19 => ?_) (fun c19 => ?_)
        · have c19' := i_eq c19
          refine r_iconst (v := 0) C dX8_canLeave_92 (by decide) ?_
          exact hret _ _ _ _ dX8_canLeave_93 (nar_z (z_of (by omega))) ⟨h17, o15, by omega⟩
        · have c19' := i_ne c19
          exfalso; omega
      · have c18' := i_ne c18
        refine r_iconst (v := 1) C dX8_canLeave_54 (by decide) ?_
        refine r_goto 59 C dX8_canLeave_55 (by decide) ?_
        refine r_istore [(6, .int 1), (5, .int (-1)), (4, .int v1), (0, .ref (gz (xG x) + 55)), (1, .ref (gz (xG x) + 65)), (2, .int a2), (3, .int a3)] C dX8_canLeave_59 (by decide) rfl ?_
        refine r_iload 0 C dX8_canLeave_61 rfl ?_
        refine r_if_eq 92 C dX8_canLeave_63 (by decide) (fun c20 => ?_) (fun c20 => ?_)
        · have c20' := i_eq c20
          exfalso; omega
        · have c20' := i_ne c20
          refine r_iload 1 C dX8_canLeave_66 rfl ?_
          refine r_iconst (v := (-1)) C dX8_canLeave_68 (by decide) ?_
          refine r_icmp_eq 92 C dX8_canLeave_69 (by decide) (fun c21 => ?_) (fun c21 => ?_)
          · have c21' := i_eq c21
            refine r_iconst (v := 0) C dX8_canLeave_92 (by decide) ?_
            exact hret _ _ _ _ dX8_canLeave_93 (nar_z (z_of (by omega))) ⟨h17, o15, by omega⟩
          · have c21' := i_ne c21
            exfalso; omega
  · have c6' := i_ne c6
    refine r_aload_n 1 C dX8_canLeave_16 rfl ?_
    refine gfX8_21 58 C (kS sC h0 kc_55) (xS sC h0 xc_55_5) dX8_canLeave_17 ?_
    refine r_iload 0 C dX8_canLeave_20 rfl ?_
    refine r_iald C (kS sC h0 kc_58) (vin (by omega) (by omega)) dX8_canLeave_22 ?_
    generalize (wI w 58 (v1).toNatClampNeg) = v22
    refine r_goto 27 C dX8_canLeave_23 (by decide) ?_
    refine r_istore [(5, .int v22), (4, .int v1), (0, .ref (gz (xG x) + 55)), (1, .ref (gz (xG x) + 65)), (2, .int a2), (3, .int a3)] C dX8_canLeave_27 (by decide) rfl ?_
    refine r_aload_n 3 C dX8_canLeave_29 rfl ?_
    refine gfX8_134 67 C (kS sC h0 kc_65) (xS sC h0 xc_65_3) dX8_canLeave_30 ?_
    refine r_iload_n 4 C dX8_canLeave_33 rfl ?_
    refine r_iald C (kS sC h0 kc_67) (vin (by omega) (by omega)) dX8_canLeave_34 ?_
    generalize (wI w 67 (a2).toNatClampNeg) = v23
    refine r_iconst (v := (-1)) C dX8_canLeave_35 (by decide) ?_
    refine r_icmp_ne 54 C dX8_canLeave_36 (by decide) (fun c24 => ?_) (fun c24 => ?_)
    · have c24' := i_ne c24
      refine r_iconst (v := 1) C dX8_canLeave_54 (by decide) ?_
      refine r_goto 59 C dX8_canLeave_55 (by decide) ?_
      refine r_istore [(6, .int 1), (5, .int v22), (4, .int v1), (0, .ref (gz (xG x) + 55)), (1, .ref (gz (xG x) + 65)), (2, .int a2), (3, .int a3)] C dX8_canLeave_59 (by decide) rfl ?_
      refine r_iload 0 C dX8_canLeave_61 rfl ?_
      refine r_if_eq 92 C dX8_canLeave_63 (by decide) (fun c25 => ?_) (fun c25 => ?_)
      · have c25' := i_eq c25
        exfalso; omega
      · have c25' := i_ne c25
        refine r_iload 1 C dX8_canLeave_66 rfl ?_
        refine r_iconst (v := (-1)) C dX8_canLeave_68 (by decide) ?_
        refine r_icmp_eq 92 C dX8_canLeave_69 (by decide) (fun c26 => ?_) (fun c26 => ?_)
        · have c26' := i_eq c26
          refine r_iconst (v := 0) C dX8_canLeave_92 (by decide) ?_
          exact hret _ _ _ _ dX8_canLeave_93 (nar_z (z_of (by omega))) ⟨h0, o0, by omega⟩
        · have c26' := i_ne c26
          refine r_iload 1 C dX8_canLeave_72 rfl ?_
          refine r_iload_n 6 C dX8_canLeave_74 rfl ?_
          refine r_aload_n 3 C dX8_canLeave_75 rfl ?_
          refine gfX8_24 3 C (kS sC h0 kc_55) (xS sC h0 xc_55_1) dX8_canLeave_76 ?_
          refine gfX8_140 8 C (kS sC h0 kc_3) (xS sC h0 xc_3_13) dX8_canLeave_79 ?_
          refine r_iload_n 5 C dX8_canLeave_82 rfl ?_
          refine r_iald C (kS sC h0 kc_8) (vin (by omega) (by omega)) dX8_canLeave_83 ?_
          generalize (wI w 8 (a2).toNatClampNeg) = v27
          refine r_imul C dX8_canLeave_84 (fun v28 e29 => ?_)
          have k31 := i_rng v22
          have k32 := i_rng v28
          refine r_icmp_gt 92 C dX8_canLeave_85 (by decide) (fun c30 => ?_) (fun c30 => ?_)
          · have c30' := i_lt c30
            refine r_iconst (v := 0) C dX8_canLeave_92 (by decide) ?_
            exact hret _ _ _ _ dX8_canLeave_93 (nar_z (z_of (by omega))) ⟨h0, o0, by omega⟩
          · have c30' := i_nlt c30
            refine r_iconst (v := 1) C dX8_canLeave_88 (by decide) ?_
            refine r_goto 93 C dX8_canLeave_89 (by decide) ?_
            exact hret _ _ _ _ dX8_canLeave_93 (nar_z (z_of (by omega))) ⟨h0, o0, by omega⟩
    · have c24' := i_eq c24
      refine r_aload_n 2 C dX8_canLeave_39 rfl ?_
      refine gfX8_24 3 C (kS sC h0 kc_55) (xS sC h0 xc_55_1) dX8_canLeave_40 ?_
      refine r_iload_n 4 C dX8_canLeave_43 rfl ?_
      refine r_aload_n 2 C dX8_canLeave_44 rfl ?_
      refine gfX8_50 (v := (wI w 55 9)) C (kS sC h0 kc_55) rfl dX8_canLeave_45 ?_
      refine callVI C cwX8_137_V (ctX9_isFollower_3 _ _ w (sS sC h0) o0 a2 (wI w 55 9) ) (by decide) (kS sC h0 kc_3) rfl rfl rfl (Nat.le_of_ble_eq_true rfl) (by decide) dX8_canLeave_48 (fun r35 w34 y33 => ?_)
      show V x 0 0 w34 51 [(5, .int v22), (4, .int v1), (0, .ref (gz (xG x) + 55)), (1, .ref (gz (xG x) + 65)), (2, .int a2), (3, .int a3)] [.int r35]
      obtain ⟨h36, o37, g38⟩ := y33
      have h39 := Ch.tr h0 h36 (by decide) (by decide)
      refine r_if_eq 58 C dX8_canLeave_51 (by decide) (fun c40 => ?_) (fun c40 => ?_)
      · have c40' := i_eq c40
        refine r_iconst (v := 0) C dX8_canLeave_58 (by decide) ?_
        refine r_istore [(6, .int 0), (5, .int v22), (4, .int v1), (0, .ref (gz (xG x) + 55)), (1, .ref (gz (xG x) + 65)), (2, .int a2), (3, .int a3)] C dX8_canLeave_59 (by decide) rfl ?_
        refine r_iload 0 C dX8_canLeave_61 rfl ?_
        refine r_if_eq 92 C dX8_canLeave_63 (by decide) (fun c41 => ?_) (fun c41 => ?_)
        · have c41' := i_eq c41
          refine r_iconst (v := 0) C dX8_canLeave_92 (by decide) ?_
          exact hret _ _ _ _ dX8_canLeave_93 (nar_z (z_of (by omega))) ⟨h39, o37, by omega⟩
        · have c41' := i_ne c41
          exfalso; omega
      · have c40' := i_ne c40
        refine r_iconst (v := 1) C dX8_canLeave_54 (by decide) ?_
        refine r_goto 59 C dX8_canLeave_55 (by decide) ?_
        refine r_istore [(6, .int 1), (5, .int v22), (4, .int v1), (0, .ref (gz (xG x) + 55)), (1, .ref (gz (xG x) + 65)), (2, .int a2), (3, .int a3)] C dX8_canLeave_59 (by decide) rfl ?_
        refine r_iload 0 C dX8_canLeave_61 rfl ?_
        refine r_if_eq 92 C dX8_canLeave_63 (by decide) (fun c42 => ?_) (fun c42 => ?_)
        · have c42' := i_eq c42
          exfalso; omega
        · have c42' := i_ne c42
          refine r_iload 1 C dX8_canLeave_66 rfl ?_
          refine r_iconst (v := (-1)) C dX8_canLeave_68 (by decide) ?_
          refine r_icmp_eq 92 C dX8_canLeave_69 (by decide) (fun c43 => ?_) (fun c43 => ?_)
          · have c43' := i_eq c43
            refine r_iconst (v := 0) C dX8_canLeave_92 (by decide) ?_
            exact hret _ _ _ _ dX8_canLeave_93 (nar_z (z_of (by omega))) ⟨h39, o37, by omega⟩
          · have c43' := i_ne c43
            refine r_iload 1 C dX8_canLeave_72 rfl ?_
            refine r_iload_n 6 C dX8_canLeave_74 rfl ?_
            refine r_aload_n 3 C dX8_canLeave_75 rfl ?_
            refine gfX8_24 3 C (kS sC h39 kc_55) (xS sC h39 xc_55_1) dX8_canLeave_76 ?_
            refine gfX8_140 8 C (kS sC h39 kc_3) (xS sC h39 xc_3_13) dX8_canLeave_79 ?_
            refine r_iload_n 5 C dX8_canLeave_82 rfl ?_
            refine r_iald C (kS sC h39 kc_8) (vin (by omega) (by omega)) dX8_canLeave_83 ?_
            generalize (wI w34 8 (a2).toNatClampNeg) = v44
            refine r_imul C dX8_canLeave_84 (fun v45 e46 => ?_)
            have k48 := i_rng v22
            have k49 := i_rng v45
            refine r_icmp_gt 92 C dX8_canLeave_85 (by decide) (fun c47 => ?_) (fun c47 => ?_)
            · have c47' := i_lt c47
              refine r_iconst (v := 0) C dX8_canLeave_92 (by decide) ?_
              exact hret _ _ _ _ dX8_canLeave_93 (nar_z (z_of (by omega))) ⟨h39, o37, by omega⟩
            · have c47' := i_nlt c47
              refine r_iconst (v := 1) C dX8_canLeave_88 (by decide) ?_
              refine r_goto 93 C dX8_canLeave_89 (by decide) ?_
              exact hret _ _ _ _ dX8_canLeave_93 (nar_z (z_of (by omega))) ⟨h39, o37, by omega⟩
set_option maxHeartbeats 4000000 in
set_option maxRecDepth 100000 in
theorem ctX8_canLeave_55_68 (l : Launch) (G : Gt) (w : Wv) (sC : Str KC XC w) (o0 : Inv RC w) (a2 : Int32) (a3 : Int32) (b2 : 0 ≤ a2.toInt ∧ a2.toInt ≤ 5) : CtI l G yX8_canLeave cX8_canLeave 7 .boolean ({ frames := 1, cells := 0, slots := 0, locals := 23 } : Room) [.ref (gz G + 55), .ref (gz G + 68), .int a2, .int a3] w (fun r w' => Ch [] [] w w' ∧ Inv RC w' ∧ ((0 ≤ r.toInt ∧ r.toInt ≤ 1))) := by
  refine enterI (by decide) (Nat.le_of_ble_eq_true rfl) ?_
  intro x el eG C hret
  subst el; subst eG
  show V x 0 0 w 0 [(0, .ref (gz (xG x) + 55)), (1, .ref (gz (xG x) + 68)), (2, .int a2), (3, .int a3)] []
  have h0 : Ch [] [] w w := Ch.rf
  have qm1 : ((-1) : Int32).toInt = (-1) := by decide
  have q0 : (0 : Int32).toInt = 0 := by decide
  have q1 : (1 : Int32).toInt = 1 := by decide
  refine r_aload_n 1 C dX8_canLeave_0 rfl ?_
  refine gfX8_128 69 C (kS sC h0 kc_68) (xS sC h0 xc_68_2) dX8_canLeave_1 ?_
  refine r_iload_n 2 C dX8_canLeave_4 rfl ?_
  refine r_iald C (kS sC h0 kc_69) (vin (by omega) (by omega)) dX8_canLeave_5 ?_
  generalize (wI w 69 (a2).toNatClampNeg) = v1
  refine r_istore [(4, .int v1), (0, .ref (gz (xG x) + 55)), (1, .ref (gz (xG x) + 68)), (2, .int a2), (3, .int a3)] C dX8_canLeave_6 (by decide) rfl ?_
  refine r_iload 0 C dX8_canLeave_8 rfl ?_
  refine callSI C cwX8_131_S (ctX1_isCell _ _ w v1 ) (by decide) rfl rfl (Nat.le_of_ble_eq_true rfl) (by decide) dX8_canLeave_10 (fun r4 w3 y2 => ?_)
  obtain ⟨y2, g5⟩ := y2
  obtain rfl := y2.symm
  show V x 0 0 w 13 [(4, .int v1), (0, .ref (gz (xG x) + 55)), (1, .ref (gz (xG x) + 68)), (2, .int a2), (3, .int a3)] [.int r4]
  refine r_if_eq 26 C dX8_canLeave_13 (by decide) (fun c6 => ?_) (fun c6 => ?_)
  · have c6' := i_eq c6
    refine r_iconst (v := (-1)) C dX8_canLeave_26 (by decide) ?_
    refine r_istore [(5, .int (-1)), (4, .int v1), (0, .ref (gz (xG x) + 55)), (1, .ref (gz (xG x) + 68)), (2, .int a2), (3, .int a3)] C dX8_canLeave_27 (by decide) rfl ?_
    refine r_aload_n 3 C dX8_canLeave_29 rfl ?_
    refine gfX8_134 70 C (kS sC h0 kc_68) (xS sC h0 xc_68_3) dX8_canLeave_30 ?_
    refine r_iload_n 4 C dX8_canLeave_33 rfl ?_
    refine r_iald C (kS sC h0 kc_70) (vin (by omega) (by omega)) dX8_canLeave_34 ?_
    generalize (wI w 70 (a2).toNatClampNeg) = v7
    refine r_iconst (v := (-1)) C dX8_canLeave_35 (by decide) ?_
    refine r_icmp_ne 54 C dX8_canLeave_36 (by decide) (fun c8 => ?_) (fun c8 => ?_)
    · have c8' := i_ne c8
      refine r_iconst (v := 1) C dX8_canLeave_54 (by decide) ?_
      refine r_goto 59 C dX8_canLeave_55 (by decide) ?_
      refine r_istore [(6, .int 1), (5, .int (-1)), (4, .int v1), (0, .ref (gz (xG x) + 55)), (1, .ref (gz (xG x) + 68)), (2, .int a2), (3, .int a3)] C dX8_canLeave_59 (by decide) rfl ?_
      refine r_iload 0 C dX8_canLeave_61 rfl ?_
      refine r_if_eq 92 C dX8_canLeave_63 (by decide) (fun c9 => ?_) (fun c9 => ?_)
      · have c9' := i_eq c9
        exfalso; omega
      · have c9' := i_ne c9
        refine r_iload 1 C dX8_canLeave_66 rfl ?_
        refine r_iconst (v := (-1)) C dX8_canLeave_68 (by decide) ?_
        refine r_icmp_eq 92 C dX8_canLeave_69 (by decide) (fun c10 => ?_) (fun c10 => ?_)
        · have c10' := i_eq c10
          refine r_iconst (v := 0) C dX8_canLeave_92 (by decide) ?_
          exact hret _ _ _ _ dX8_canLeave_93 (nar_z (z_of (by omega))) ⟨h0, o0, by omega⟩
        · have c10' := i_ne c10
          exfalso; omega
    · have c8' := i_eq c8
      refine r_aload_n 2 C dX8_canLeave_39 rfl ?_
      refine gfX8_24 3 C (kS sC h0 kc_55) (xS sC h0 xc_55_1) dX8_canLeave_40 ?_
      refine r_iload_n 4 C dX8_canLeave_43 rfl ?_
      refine r_aload_n 2 C dX8_canLeave_44 rfl ?_
      refine gfX8_50 (v := (wI w 55 9)) C (kS sC h0 kc_55) rfl dX8_canLeave_45 ?_
      refine callVI C cwX8_137_V (ctX9_isFollower_3 _ _ w (sS sC h0) o0 a2 (wI w 55 9) ) (by decide) (kS sC h0 kc_3) rfl rfl rfl (Nat.le_of_ble_eq_true rfl) (by decide) dX8_canLeave_48 (fun r13 w12 y11 => ?_)
      show V x 0 0 w12 51 [(5, .int (-1)), (4, .int v1), (0, .ref (gz (xG x) + 55)), (1, .ref (gz (xG x) + 68)), (2, .int a2), (3, .int a3)] [.int r13]
      obtain ⟨h14, o15, g16⟩ := y11
      have h17 := Ch.tr h0 h14 (by decide) (by decide)
      refine r_if_eq 58 C dX8_canLeave_51 (by decide) (fun c18 => ?_) (fun c18 => ?_)
      · have c18' := i_eq c18
        refine r_iconst (v := 0) C dX8_canLeave_58 (by decide) ?_
        refine r_istore [(6, .int 0), (5, .int (-1)), (4, .int v1), (0, .ref (gz (xG x) + 55)), (1, .ref (gz (xG x) + 68)), (2, .int a2), (3, .int a3)] C dX8_canLeave_59 (by decide) rfl ?_
        refine r_iload 0 C dX8_canLeave_61 rfl ?_
        refine r_if_eq 92 C dX8_canLeave_63 (by decide) (fun c19 => ?_) (fun c19 => ?_)
        · have c19' := i_eq c19
          refine r_iconst (v := 0) C dX8_canLeave_92 (by decide) ?_
          exact hret _ _ _ _ dX8_canLeave_93 (nar_z (z_of (by omega))) ⟨h17, o15, by omega⟩
        · have c19' := i_ne c19
          exfalso; omega
      · have c18' := i_ne c18
        refine r_iconst (v := 1) C dX8_canLeave_54 (by decide) ?_
        refine r_goto 59 C dX8_canLeave_55 (by decide) ?_
        refine r_istore [(6, .int 1), (5, .int (-1)), (4, .int v1), (0, .ref (gz (xG x) + 55)), (1, .ref (gz (xG x) + 68)), (2, .int a2), (3, .int a3)] C dX8_canLeave_59 (by decide) rfl ?_
        refine r_iload 0 C dX8_canLeave_61 rfl ?_
        refine r_if_eq 92 C dX8_canLeave_63 (by decide) (fun c20 => ?_) (fun c20 => ?_)
        · have c20' := i_eq c20
          exfalso; omega
        · have c20' := i_ne c20
          refine r_iload 1 C dX8_canLeave_66 rfl ?_
          refine r_iconst (v := (-1)) C dX8_canLeave_68 (by decide) ?_
          refine r_icmp_eq 92 C dX8_canLeave_69 (by decide) (fun c21 => ?_) (fun c21 => ?_)
          · have c21' := i_eq c21
            refine r_iconst (v := 0) C dX8_canLeave_92 (by decide) ?_
            exact hret _ _ _ _ dX8_canLeave_93 (nar_z (z_of (by omega))) ⟨h17, o15, by omega⟩
          · have c21' := i_ne c21
            exfalso; omega
  · have c6' := i_ne c6
    refine r_aload_n 1 C dX8_canLeave_16 rfl ?_
    refine gfX8_21 58 C (kS sC h0 kc_55) (xS sC h0 xc_55_5) dX8_canLeave_17 ?_
    refine r_iload 0 C dX8_canLeave_20 rfl ?_
    refine r_iald C (kS sC h0 kc_58) (vin (by omega) (by omega)) dX8_canLeave_22 ?_
    generalize (wI w 58 (v1).toNatClampNeg) = v22
    refine r_goto 27 C dX8_canLeave_23 (by decide) ?_
    refine r_istore [(5, .int v22), (4, .int v1), (0, .ref (gz (xG x) + 55)), (1, .ref (gz (xG x) + 68)), (2, .int a2), (3, .int a3)] C dX8_canLeave_27 (by decide) rfl ?_
    refine r_aload_n 3 C dX8_canLeave_29 rfl ?_
    refine gfX8_134 70 C (kS sC h0 kc_68) (xS sC h0 xc_68_3) dX8_canLeave_30 ?_
    refine r_iload_n 4 C dX8_canLeave_33 rfl ?_
    refine r_iald C (kS sC h0 kc_70) (vin (by omega) (by omega)) dX8_canLeave_34 ?_
    generalize (wI w 70 (a2).toNatClampNeg) = v23
    refine r_iconst (v := (-1)) C dX8_canLeave_35 (by decide) ?_
    refine r_icmp_ne 54 C dX8_canLeave_36 (by decide) (fun c24 => ?_) (fun c24 => ?_)
    · have c24' := i_ne c24
      refine r_iconst (v := 1) C dX8_canLeave_54 (by decide) ?_
      refine r_goto 59 C dX8_canLeave_55 (by decide) ?_
      refine r_istore [(6, .int 1), (5, .int v22), (4, .int v1), (0, .ref (gz (xG x) + 55)), (1, .ref (gz (xG x) + 68)), (2, .int a2), (3, .int a3)] C dX8_canLeave_59 (by decide) rfl ?_
      refine r_iload 0 C dX8_canLeave_61 rfl ?_
      refine r_if_eq 92 C dX8_canLeave_63 (by decide) (fun c25 => ?_) (fun c25 => ?_)
      · have c25' := i_eq c25
        exfalso; omega
      · have c25' := i_ne c25
        refine r_iload 1 C dX8_canLeave_66 rfl ?_
        refine r_iconst (v := (-1)) C dX8_canLeave_68 (by decide) ?_
        refine r_icmp_eq 92 C dX8_canLeave_69 (by decide) (fun c26 => ?_) (fun c26 => ?_)
        · have c26' := i_eq c26
          refine r_iconst (v := 0) C dX8_canLeave_92 (by decide) ?_
          exact hret _ _ _ _ dX8_canLeave_93 (nar_z (z_of (by omega))) ⟨h0, o0, by omega⟩
        · have c26' := i_ne c26
          refine r_iload 1 C dX8_canLeave_72 rfl ?_
          refine r_iload_n 6 C dX8_canLeave_74 rfl ?_
          refine r_aload_n 3 C dX8_canLeave_75 rfl ?_
          refine gfX8_24 3 C (kS sC h0 kc_55) (xS sC h0 xc_55_1) dX8_canLeave_76 ?_
          refine gfX8_140 8 C (kS sC h0 kc_3) (xS sC h0 xc_3_13) dX8_canLeave_79 ?_
          refine r_iload_n 5 C dX8_canLeave_82 rfl ?_
          refine r_iald C (kS sC h0 kc_8) (vin (by omega) (by omega)) dX8_canLeave_83 ?_
          generalize (wI w 8 (a2).toNatClampNeg) = v27
          refine r_imul C dX8_canLeave_84 (fun v28 e29 => ?_)
          have k31 := i_rng v22
          have k32 := i_rng v28
          refine r_icmp_gt 92 C dX8_canLeave_85 (by decide) (fun c30 => ?_) (fun c30 => ?_)
          · have c30' := i_lt c30
            refine r_iconst (v := 0) C dX8_canLeave_92 (by decide) ?_
            exact hret _ _ _ _ dX8_canLeave_93 (nar_z (z_of (by omega))) ⟨h0, o0, by omega⟩
          · have c30' := i_nlt c30
            refine r_iconst (v := 1) C dX8_canLeave_88 (by decide) ?_
            refine r_goto 93 C dX8_canLeave_89 (by decide) ?_
            exact hret _ _ _ _ dX8_canLeave_93 (nar_z (z_of (by omega))) ⟨h0, o0, by omega⟩
    · have c24' := i_eq c24
      refine r_aload_n 2 C dX8_canLeave_39 rfl ?_
      refine gfX8_24 3 C (kS sC h0 kc_55) (xS sC h0 xc_55_1) dX8_canLeave_40 ?_
      refine r_iload_n 4 C dX8_canLeave_43 rfl ?_
      refine r_aload_n 2 C dX8_canLeave_44 rfl ?_
      refine gfX8_50 (v := (wI w 55 9)) C (kS sC h0 kc_55) rfl dX8_canLeave_45 ?_
      refine callVI C cwX8_137_V (ctX9_isFollower_3 _ _ w (sS sC h0) o0 a2 (wI w 55 9) ) (by decide) (kS sC h0 kc_3) rfl rfl rfl (Nat.le_of_ble_eq_true rfl) (by decide) dX8_canLeave_48 (fun r35 w34 y33 => ?_)
      show V x 0 0 w34 51 [(5, .int v22), (4, .int v1), (0, .ref (gz (xG x) + 55)), (1, .ref (gz (xG x) + 68)), (2, .int a2), (3, .int a3)] [.int r35]
      obtain ⟨h36, o37, g38⟩ := y33
      have h39 := Ch.tr h0 h36 (by decide) (by decide)
      refine r_if_eq 58 C dX8_canLeave_51 (by decide) (fun c40 => ?_) (fun c40 => ?_)
      · have c40' := i_eq c40
        refine r_iconst (v := 0) C dX8_canLeave_58 (by decide) ?_
        refine r_istore [(6, .int 0), (5, .int v22), (4, .int v1), (0, .ref (gz (xG x) + 55)), (1, .ref (gz (xG x) + 68)), (2, .int a2), (3, .int a3)] C dX8_canLeave_59 (by decide) rfl ?_
        refine r_iload 0 C dX8_canLeave_61 rfl ?_
        refine r_if_eq 92 C dX8_canLeave_63 (by decide) (fun c41 => ?_) (fun c41 => ?_)
        · have c41' := i_eq c41
          refine r_iconst (v := 0) C dX8_canLeave_92 (by decide) ?_
          exact hret _ _ _ _ dX8_canLeave_93 (nar_z (z_of (by omega))) ⟨h39, o37, by omega⟩
        · have c41' := i_ne c41
          exfalso; omega
      · have c40' := i_ne c40
        refine r_iconst (v := 1) C dX8_canLeave_54 (by decide) ?_
        refine r_goto 59 C dX8_canLeave_55 (by decide) ?_
        refine r_istore [(6, .int 1), (5, .int v22), (4, .int v1), (0, .ref (gz (xG x) + 55)), (1, .ref (gz (xG x) + 68)), (2, .int a2), (3, .int a3)] C dX8_canLeave_59 (by decide) rfl ?_
        refine r_iload 0 C dX8_canLeave_61 rfl ?_
        refine r_if_eq 92 C dX8_canLeave_63 (by decide) (fun c42 => ?_) (fun c42 => ?_)
        · have c42' := i_eq c42
          exfalso; omega
        · have c42' := i_ne c42
          refine r_iload 1 C dX8_canLeave_66 rfl ?_
          refine r_iconst (v := (-1)) C dX8_canLeave_68 (by decide) ?_
          refine r_icmp_eq 92 C dX8_canLeave_69 (by decide) (fun c43 => ?_) (fun c43 => ?_)
          · have c43' := i_eq c43
            refine r_iconst (v := 0) C dX8_canLeave_92 (by decide) ?_
            exact hret _ _ _ _ dX8_canLeave_93 (nar_z (z_of (by omega))) ⟨h39, o37, by omega⟩
          · have c43' := i_ne c43
            refine r_iload 1 C dX8_canLeave_72 rfl ?_
            refine r_iload_n 6 C dX8_canLeave_74 rfl ?_
            refine r_aload_n 3 C dX8_canLeave_75 rfl ?_
            refine gfX8_24 3 C (kS sC h39 kc_55) (xS sC h39 xc_55_1) dX8_canLeave_76 ?_
            refine gfX8_140 8 C (kS sC h39 kc_3) (xS sC h39 xc_3_13) dX8_canLeave_79 ?_
            refine r_iload_n 5 C dX8_canLeave_82 rfl ?_
            refine r_iald C (kS sC h39 kc_8) (vin (by omega) (by omega)) dX8_canLeave_83 ?_
            generalize (wI w34 8 (a2).toNatClampNeg) = v44
            refine r_imul C dX8_canLeave_84 (fun v45 e46 => ?_)
            have k48 := i_rng v22
            have k49 := i_rng v45
            refine r_icmp_gt 92 C dX8_canLeave_85 (by decide) (fun c47 => ?_) (fun c47 => ?_)
            · have c47' := i_lt c47
              refine r_iconst (v := 0) C dX8_canLeave_92 (by decide) ?_
              exact hret _ _ _ _ dX8_canLeave_93 (nar_z (z_of (by omega))) ⟨h39, o37, by omega⟩
            · have c47' := i_nlt c47
              refine r_iconst (v := 1) C dX8_canLeave_88 (by decide) ?_
              refine r_goto 93 C dX8_canLeave_89 (by decide) ?_
              exact hret _ _ _ _ dX8_canLeave_93 (nar_z (z_of (by omega))) ⟨h39, o37, by omega⟩
set_option maxHeartbeats 4000000 in
set_option maxRecDepth 100000 in
theorem ctX8_canLeave_55_71 (l : Launch) (G : Gt) (w : Wv) (sC : Str KC XC w) (o0 : Inv RC w) (a2 : Int32) (a3 : Int32) (b2 : 0 ≤ a2.toInt ∧ a2.toInt ≤ 5) : CtI l G yX8_canLeave cX8_canLeave 7 .boolean ({ frames := 1, cells := 0, slots := 0, locals := 23 } : Room) [.ref (gz G + 55), .ref (gz G + 71), .int a2, .int a3] w (fun r w' => Ch [] [] w w' ∧ Inv RC w' ∧ ((0 ≤ r.toInt ∧ r.toInt ≤ 1))) := by
  refine enterI (by decide) (Nat.le_of_ble_eq_true rfl) ?_
  intro x el eG C hret
  subst el; subst eG
  show V x 0 0 w 0 [(0, .ref (gz (xG x) + 55)), (1, .ref (gz (xG x) + 71)), (2, .int a2), (3, .int a3)] []
  have h0 : Ch [] [] w w := Ch.rf
  have qm1 : ((-1) : Int32).toInt = (-1) := by decide
  have q0 : (0 : Int32).toInt = 0 := by decide
  have q1 : (1 : Int32).toInt = 1 := by decide
  refine r_aload_n 1 C dX8_canLeave_0 rfl ?_
  refine gfX8_128 72 C (kS sC h0 kc_71) (xS sC h0 xc_71_2) dX8_canLeave_1 ?_
  refine r_iload_n 2 C dX8_canLeave_4 rfl ?_
  refine r_iald C (kS sC h0 kc_72) (vin (by omega) (by omega)) dX8_canLeave_5 ?_
  generalize (wI w 72 (a2).toNatClampNeg) = v1
  refine r_istore [(4, .int v1), (0, .ref (gz (xG x) + 55)), (1, .ref (gz (xG x) + 71)), (2, .int a2), (3, .int a3)] C dX8_canLeave_6 (by decide) rfl ?_
  refine r_iload 0 C dX8_canLeave_8 rfl ?_
  refine callSI C cwX8_131_S (ctX1_isCell _ _ w v1 ) (by decide) rfl rfl (Nat.le_of_ble_eq_true rfl) (by decide) dX8_canLeave_10 (fun r4 w3 y2 => ?_)
  obtain ⟨y2, g5⟩ := y2
  obtain rfl := y2.symm
  show V x 0 0 w 13 [(4, .int v1), (0, .ref (gz (xG x) + 55)), (1, .ref (gz (xG x) + 71)), (2, .int a2), (3, .int a3)] [.int r4]
  refine r_if_eq 26 C dX8_canLeave_13 (by decide) (fun c6 => ?_) (fun c6 => ?_)
  · have c6' := i_eq c6
    refine r_iconst (v := (-1)) C dX8_canLeave_26 (by decide) ?_
    refine r_istore [(5, .int (-1)), (4, .int v1), (0, .ref (gz (xG x) + 55)), (1, .ref (gz (xG x) + 71)), (2, .int a2), (3, .int a3)] C dX8_canLeave_27 (by decide) rfl ?_
    refine r_aload_n 3 C dX8_canLeave_29 rfl ?_
    refine gfX8_134 73 C (kS sC h0 kc_71) (xS sC h0 xc_71_3) dX8_canLeave_30 ?_
    refine r_iload_n 4 C dX8_canLeave_33 rfl ?_
    refine r_iald C (kS sC h0 kc_73) (vin (by omega) (by omega)) dX8_canLeave_34 ?_
    generalize (wI w 73 (a2).toNatClampNeg) = v7
    refine r_iconst (v := (-1)) C dX8_canLeave_35 (by decide) ?_
    refine r_icmp_ne 54 C dX8_canLeave_36 (by decide) (fun c8 => ?_) (fun c8 => ?_)
    · have c8' := i_ne c8
      refine r_iconst (v := 1) C dX8_canLeave_54 (by decide) ?_
      refine r_goto 59 C dX8_canLeave_55 (by decide) ?_
      refine r_istore [(6, .int 1), (5, .int (-1)), (4, .int v1), (0, .ref (gz (xG x) + 55)), (1, .ref (gz (xG x) + 71)), (2, .int a2), (3, .int a3)] C dX8_canLeave_59 (by decide) rfl ?_
      refine r_iload 0 C dX8_canLeave_61 rfl ?_
      refine r_if_eq 92 C dX8_canLeave_63 (by decide) (fun c9 => ?_) (fun c9 => ?_)
      · have c9' := i_eq c9
        exfalso; omega
      · have c9' := i_ne c9
        refine r_iload 1 C dX8_canLeave_66 rfl ?_
        refine r_iconst (v := (-1)) C dX8_canLeave_68 (by decide) ?_
        refine r_icmp_eq 92 C dX8_canLeave_69 (by decide) (fun c10 => ?_) (fun c10 => ?_)
        · have c10' := i_eq c10
          refine r_iconst (v := 0) C dX8_canLeave_92 (by decide) ?_
          exact hret _ _ _ _ dX8_canLeave_93 (nar_z (z_of (by omega))) ⟨h0, o0, by omega⟩
        · have c10' := i_ne c10
          exfalso; omega
    · have c8' := i_eq c8
      refine r_aload_n 2 C dX8_canLeave_39 rfl ?_
      refine gfX8_24 3 C (kS sC h0 kc_55) (xS sC h0 xc_55_1) dX8_canLeave_40 ?_
      refine r_iload_n 4 C dX8_canLeave_43 rfl ?_
      refine r_aload_n 2 C dX8_canLeave_44 rfl ?_
      refine gfX8_50 (v := (wI w 55 9)) C (kS sC h0 kc_55) rfl dX8_canLeave_45 ?_
      refine callVI C cwX8_137_V (ctX9_isFollower_3 _ _ w (sS sC h0) o0 a2 (wI w 55 9) ) (by decide) (kS sC h0 kc_3) rfl rfl rfl (Nat.le_of_ble_eq_true rfl) (by decide) dX8_canLeave_48 (fun r13 w12 y11 => ?_)
      show V x 0 0 w12 51 [(5, .int (-1)), (4, .int v1), (0, .ref (gz (xG x) + 55)), (1, .ref (gz (xG x) + 71)), (2, .int a2), (3, .int a3)] [.int r13]
      obtain ⟨h14, o15, g16⟩ := y11
      have h17 := Ch.tr h0 h14 (by decide) (by decide)
      refine r_if_eq 58 C dX8_canLeave_51 (by decide) (fun c18 => ?_) (fun c18 => ?_)
      · have c18' := i_eq c18
        refine r_iconst (v := 0) C dX8_canLeave_58 (by decide) ?_
        refine r_istore [(6, .int 0), (5, .int (-1)), (4, .int v1), (0, .ref (gz (xG x) + 55)), (1, .ref (gz (xG x) + 71)), (2, .int a2), (3, .int a3)] C dX8_canLeave_59 (by decide) rfl ?_
        refine r_iload 0 C dX8_canLeave_61 rfl ?_
        refine r_if_eq 92 C dX8_canLeave_63 (by decide) (fun c19 => ?_) (fun c19 => ?_)
        · have c19' := i_eq c19
          refine r_iconst (v := 0) C dX8_canLeave_92 (by decide) ?_
          exact hret _ _ _ _ dX8_canLeave_93 (nar_z (z_of (by omega))) ⟨h17, o15, by omega⟩
        · have c19' := i_ne c19
          exfalso; omega
      · have c18' := i_ne c18
        refine r_iconst (v := 1) C dX8_canLeave_54 (by decide) ?_
        refine r_goto 59 C dX8_canLeave_55 (by decide) ?_
        refine r_istore [(6, .int 1), (5, .int (-1)), (4, .int v1), (0, .ref (gz (xG x) + 55)), (1, .ref (gz (xG x) + 71)), (2, .int a2), (3, .int a3)] C dX8_canLeave_59 (by decide) rfl ?_
        refine r_iload 0 C dX8_canLeave_61 rfl ?_
        refine r_if_eq 92 C dX8_canLeave_63 (by decide) (fun c20 => ?_) (fun c20 => ?_)
        · have c20' := i_eq c20
          exfalso; omega
        · have c20' := i_ne c20
          refine r_iload 1 C dX8_canLeave_66 rfl ?_
          refine r_iconst (v := (-1)) C dX8_canLeave_68 (by decide) ?_
          refine r_icmp_eq 92 C dX8_canLeave_69 (by decide) (fun c21 => ?_) (fun c21 => ?_)
          · have c21' := i_eq c21
            refine r_iconst (v := 0) C dX8_canLeave_92 (by decide) ?_
            exact hret _ _ _ _ dX8_canLeave_93 (nar_z (z_of (by omega))) ⟨h17, o15, by omega⟩
          · have c21' := i_ne c21
            exfalso; omega
  · have c6' := i_ne c6
    refine r_aload_n 1 C dX8_canLeave_16 rfl ?_
    refine gfX8_21 58 C (kS sC h0 kc_55) (xS sC h0 xc_55_5) dX8_canLeave_17 ?_
    refine r_iload 0 C dX8_canLeave_20 rfl ?_
    refine r_iald C (kS sC h0 kc_58) (vin (by omega) (by omega)) dX8_canLeave_22 ?_
    generalize (wI w 58 (v1).toNatClampNeg) = v22
    refine r_goto 27 C dX8_canLeave_23 (by decide) ?_
    refine r_istore [(5, .int v22), (4, .int v1), (0, .ref (gz (xG x) + 55)), (1, .ref (gz (xG x) + 71)), (2, .int a2), (3, .int a3)] C dX8_canLeave_27 (by decide) rfl ?_
    refine r_aload_n 3 C dX8_canLeave_29 rfl ?_
    refine gfX8_134 73 C (kS sC h0 kc_71) (xS sC h0 xc_71_3) dX8_canLeave_30 ?_
    refine r_iload_n 4 C dX8_canLeave_33 rfl ?_
    refine r_iald C (kS sC h0 kc_73) (vin (by omega) (by omega)) dX8_canLeave_34 ?_
    generalize (wI w 73 (a2).toNatClampNeg) = v23
    refine r_iconst (v := (-1)) C dX8_canLeave_35 (by decide) ?_
    refine r_icmp_ne 54 C dX8_canLeave_36 (by decide) (fun c24 => ?_) (fun c24 => ?_)
    · have c24' := i_ne c24
      refine r_iconst (v := 1) C dX8_canLeave_54 (by decide) ?_
      refine r_goto 59 C dX8_canLeave_55 (by decide) ?_
      refine r_istore [(6, .int 1), (5, .int v22), (4, .int v1), (0, .ref (gz (xG x) + 55)), (1, .ref (gz (xG x) + 71)), (2, .int a2), (3, .int a3)] C dX8_canLeave_59 (by decide) rfl ?_
      refine r_iload 0 C dX8_canLeave_61 rfl ?_
      refine r_if_eq 92 C dX8_canLeave_63 (by decide) (fun c25 => ?_) (fun c25 => ?_)
      · have c25' := i_eq c25
        exfalso; omega
      · have c25' := i_ne c25
        refine r_iload 1 C dX8_canLeave_66 rfl ?_
        refine r_iconst (v := (-1)) C dX8_canLeave_68 (by decide) ?_
        refine r_icmp_eq 92 C dX8_canLeave_69 (by decide) (fun c26 => ?_) (fun c26 => ?_)
        · have c26' := i_eq c26
          refine r_iconst (v := 0) C dX8_canLeave_92 (by decide) ?_
          exact hret _ _ _ _ dX8_canLeave_93 (nar_z (z_of (by omega))) ⟨h0, o0, by omega⟩
        · have c26' := i_ne c26
          refine r_iload 1 C dX8_canLeave_72 rfl ?_
          refine r_iload_n 6 C dX8_canLeave_74 rfl ?_
          refine r_aload_n 3 C dX8_canLeave_75 rfl ?_
          refine gfX8_24 3 C (kS sC h0 kc_55) (xS sC h0 xc_55_1) dX8_canLeave_76 ?_
          refine gfX8_140 8 C (kS sC h0 kc_3) (xS sC h0 xc_3_13) dX8_canLeave_79 ?_
          refine r_iload_n 5 C dX8_canLeave_82 rfl ?_
          refine r_iald C (kS sC h0 kc_8) (vin (by omega) (by omega)) dX8_canLeave_83 ?_
          generalize (wI w 8 (a2).toNatClampNeg) = v27
          refine r_imul C dX8_canLeave_84 (fun v28 e29 => ?_)
          have k31 := i_rng v22
          have k32 := i_rng v28
          refine r_icmp_gt 92 C dX8_canLeave_85 (by decide) (fun c30 => ?_) (fun c30 => ?_)
          · have c30' := i_lt c30
            refine r_iconst (v := 0) C dX8_canLeave_92 (by decide) ?_
            exact hret _ _ _ _ dX8_canLeave_93 (nar_z (z_of (by omega))) ⟨h0, o0, by omega⟩
          · have c30' := i_nlt c30
            refine r_iconst (v := 1) C dX8_canLeave_88 (by decide) ?_
            refine r_goto 93 C dX8_canLeave_89 (by decide) ?_
            exact hret _ _ _ _ dX8_canLeave_93 (nar_z (z_of (by omega))) ⟨h0, o0, by omega⟩
    · have c24' := i_eq c24
      refine r_aload_n 2 C dX8_canLeave_39 rfl ?_
      refine gfX8_24 3 C (kS sC h0 kc_55) (xS sC h0 xc_55_1) dX8_canLeave_40 ?_
      refine r_iload_n 4 C dX8_canLeave_43 rfl ?_
      refine r_aload_n 2 C dX8_canLeave_44 rfl ?_
      refine gfX8_50 (v := (wI w 55 9)) C (kS sC h0 kc_55) rfl dX8_canLeave_45 ?_
      refine callVI C cwX8_137_V (ctX9_isFollower_3 _ _ w (sS sC h0) o0 a2 (wI w 55 9) ) (by decide) (kS sC h0 kc_3) rfl rfl rfl (Nat.le_of_ble_eq_true rfl) (by decide) dX8_canLeave_48 (fun r35 w34 y33 => ?_)
      show V x 0 0 w34 51 [(5, .int v22), (4, .int v1), (0, .ref (gz (xG x) + 55)), (1, .ref (gz (xG x) + 71)), (2, .int a2), (3, .int a3)] [.int r35]
      obtain ⟨h36, o37, g38⟩ := y33
      have h39 := Ch.tr h0 h36 (by decide) (by decide)
      refine r_if_eq 58 C dX8_canLeave_51 (by decide) (fun c40 => ?_) (fun c40 => ?_)
      · have c40' := i_eq c40
        refine r_iconst (v := 0) C dX8_canLeave_58 (by decide) ?_
        refine r_istore [(6, .int 0), (5, .int v22), (4, .int v1), (0, .ref (gz (xG x) + 55)), (1, .ref (gz (xG x) + 71)), (2, .int a2), (3, .int a3)] C dX8_canLeave_59 (by decide) rfl ?_
        refine r_iload 0 C dX8_canLeave_61 rfl ?_
        refine r_if_eq 92 C dX8_canLeave_63 (by decide) (fun c41 => ?_) (fun c41 => ?_)
        · have c41' := i_eq c41
          refine r_iconst (v := 0) C dX8_canLeave_92 (by decide) ?_
          exact hret _ _ _ _ dX8_canLeave_93 (nar_z (z_of (by omega))) ⟨h39, o37, by omega⟩
        · have c41' := i_ne c41
          exfalso; omega
      · have c40' := i_ne c40
        refine r_iconst (v := 1) C dX8_canLeave_54 (by decide) ?_
        refine r_goto 59 C dX8_canLeave_55 (by decide) ?_
        refine r_istore [(6, .int 1), (5, .int v22), (4, .int v1), (0, .ref (gz (xG x) + 55)), (1, .ref (gz (xG x) + 71)), (2, .int a2), (3, .int a3)] C dX8_canLeave_59 (by decide) rfl ?_
        refine r_iload 0 C dX8_canLeave_61 rfl ?_
        refine r_if_eq 92 C dX8_canLeave_63 (by decide) (fun c42 => ?_) (fun c42 => ?_)
        · have c42' := i_eq c42
          exfalso; omega
        · have c42' := i_ne c42
          refine r_iload 1 C dX8_canLeave_66 rfl ?_
          refine r_iconst (v := (-1)) C dX8_canLeave_68 (by decide) ?_
          refine r_icmp_eq 92 C dX8_canLeave_69 (by decide) (fun c43 => ?_) (fun c43 => ?_)
          · have c43' := i_eq c43
            refine r_iconst (v := 0) C dX8_canLeave_92 (by decide) ?_
            exact hret _ _ _ _ dX8_canLeave_93 (nar_z (z_of (by omega))) ⟨h39, o37, by omega⟩
          · have c43' := i_ne c43
            refine r_iload 1 C dX8_canLeave_72 rfl ?_
            refine r_iload_n 6 C dX8_canLeave_74 rfl ?_
            refine r_aload_n 3 C dX8_canLeave_75 rfl ?_
            refine gfX8_24 3 C (kS sC h39 kc_55) (xS sC h39 xc_55_1) dX8_canLeave_76 ?_
            refine gfX8_140 8 C (kS sC h39 kc_3) (xS sC h39 xc_3_13) dX8_canLeave_79 ?_
            refine r_iload_n 5 C dX8_canLeave_82 rfl ?_
            refine r_iald C (kS sC h39 kc_8) (vin (by omega) (by omega)) dX8_canLeave_83 ?_
            generalize (wI w34 8 (a2).toNatClampNeg) = v44
            refine r_imul C dX8_canLeave_84 (fun v45 e46 => ?_)
            have k48 := i_rng v22
            have k49 := i_rng v45
            refine r_icmp_gt 92 C dX8_canLeave_85 (by decide) (fun c47 => ?_) (fun c47 => ?_)
            · have c47' := i_lt c47
              refine r_iconst (v := 0) C dX8_canLeave_92 (by decide) ?_
              exact hret _ _ _ _ dX8_canLeave_93 (nar_z (z_of (by omega))) ⟨h39, o37, by omega⟩
            · have c47' := i_nlt c47
              refine r_iconst (v := 1) C dX8_canLeave_88 (by decide) ?_
              refine r_goto 93 C dX8_canLeave_89 (by decide) ?_
              exact hret _ _ _ _ dX8_canLeave_93 (nar_z (z_of (by omega))) ⟨h39, o37, by omega⟩
set_option maxHeartbeats 4000000 in
set_option maxRecDepth 100000 in
theorem ctX8_canLeave_55_74 (l : Launch) (G : Gt) (w : Wv) (sC : Str KC XC w) (o0 : Inv RC w) (a2 : Int32) (a3 : Int32) (b2 : 0 ≤ a2.toInt ∧ a2.toInt ≤ 5) : CtI l G yX8_canLeave cX8_canLeave 7 .boolean ({ frames := 1, cells := 0, slots := 0, locals := 23 } : Room) [.ref (gz G + 55), .ref (gz G + 74), .int a2, .int a3] w (fun r w' => Ch [] [] w w' ∧ Inv RC w' ∧ ((0 ≤ r.toInt ∧ r.toInt ≤ 1))) := by
  refine enterI (by decide) (Nat.le_of_ble_eq_true rfl) ?_
  intro x el eG C hret
  subst el; subst eG
  show V x 0 0 w 0 [(0, .ref (gz (xG x) + 55)), (1, .ref (gz (xG x) + 74)), (2, .int a2), (3, .int a3)] []
  have h0 : Ch [] [] w w := Ch.rf
  have qm1 : ((-1) : Int32).toInt = (-1) := by decide
  have q0 : (0 : Int32).toInt = 0 := by decide
  have q1 : (1 : Int32).toInt = 1 := by decide
  refine r_aload_n 1 C dX8_canLeave_0 rfl ?_
  refine gfX8_128 75 C (kS sC h0 kc_74) (xS sC h0 xc_74_2) dX8_canLeave_1 ?_
  refine r_iload_n 2 C dX8_canLeave_4 rfl ?_
  refine r_iald C (kS sC h0 kc_75) (vin (by omega) (by omega)) dX8_canLeave_5 ?_
  generalize (wI w 75 (a2).toNatClampNeg) = v1
  refine r_istore [(4, .int v1), (0, .ref (gz (xG x) + 55)), (1, .ref (gz (xG x) + 74)), (2, .int a2), (3, .int a3)] C dX8_canLeave_6 (by decide) rfl ?_
  refine r_iload 0 C dX8_canLeave_8 rfl ?_
  refine callSI C cwX8_131_S (ctX1_isCell _ _ w v1 ) (by decide) rfl rfl (Nat.le_of_ble_eq_true rfl) (by decide) dX8_canLeave_10 (fun r4 w3 y2 => ?_)
  obtain ⟨y2, g5⟩ := y2
  obtain rfl := y2.symm
  show V x 0 0 w 13 [(4, .int v1), (0, .ref (gz (xG x) + 55)), (1, .ref (gz (xG x) + 74)), (2, .int a2), (3, .int a3)] [.int r4]
  refine r_if_eq 26 C dX8_canLeave_13 (by decide) (fun c6 => ?_) (fun c6 => ?_)
  · have c6' := i_eq c6
    refine r_iconst (v := (-1)) C dX8_canLeave_26 (by decide) ?_
    refine r_istore [(5, .int (-1)), (4, .int v1), (0, .ref (gz (xG x) + 55)), (1, .ref (gz (xG x) + 74)), (2, .int a2), (3, .int a3)] C dX8_canLeave_27 (by decide) rfl ?_
    refine r_aload_n 3 C dX8_canLeave_29 rfl ?_
    refine gfX8_134 76 C (kS sC h0 kc_74) (xS sC h0 xc_74_3) dX8_canLeave_30 ?_
    refine r_iload_n 4 C dX8_canLeave_33 rfl ?_
    refine r_iald C (kS sC h0 kc_76) (vin (by omega) (by omega)) dX8_canLeave_34 ?_
    generalize (wI w 76 (a2).toNatClampNeg) = v7
    refine r_iconst (v := (-1)) C dX8_canLeave_35 (by decide) ?_
    refine r_icmp_ne 54 C dX8_canLeave_36 (by decide) (fun c8 => ?_) (fun c8 => ?_)
    · have c8' := i_ne c8
      refine r_iconst (v := 1) C dX8_canLeave_54 (by decide) ?_
      refine r_goto 59 C dX8_canLeave_55 (by decide) ?_
      refine r_istore [(6, .int 1), (5, .int (-1)), (4, .int v1), (0, .ref (gz (xG x) + 55)), (1, .ref (gz (xG x) + 74)), (2, .int a2), (3, .int a3)] C dX8_canLeave_59 (by decide) rfl ?_
      refine r_iload 0 C dX8_canLeave_61 rfl ?_
      refine r_if_eq 92 C dX8_canLeave_63 (by decide) (fun c9 => ?_) (fun c9 => ?_)
      · have c9' := i_eq c9
        exfalso; omega
      · have c9' := i_ne c9
        refine r_iload 1 C dX8_canLeave_66 rfl ?_
        refine r_iconst (v := (-1)) C dX8_canLeave_68 (by decide) ?_
        refine r_icmp_eq 92 C dX8_canLeave_69 (by decide) (fun c10 => ?_) (fun c10 => ?_)
        · have c10' := i_eq c10
          refine r_iconst (v := 0) C dX8_canLeave_92 (by decide) ?_
          exact hret _ _ _ _ dX8_canLeave_93 (nar_z (z_of (by omega))) ⟨h0, o0, by omega⟩
        · have c10' := i_ne c10
          exfalso; omega
    · have c8' := i_eq c8
      refine r_aload_n 2 C dX8_canLeave_39 rfl ?_
      refine gfX8_24 3 C (kS sC h0 kc_55) (xS sC h0 xc_55_1) dX8_canLeave_40 ?_
      refine r_iload_n 4 C dX8_canLeave_43 rfl ?_
      refine r_aload_n 2 C dX8_canLeave_44 rfl ?_
      refine gfX8_50 (v := (wI w 55 9)) C (kS sC h0 kc_55) rfl dX8_canLeave_45 ?_
      refine callVI C cwX8_137_V (ctX9_isFollower_3 _ _ w (sS sC h0) o0 a2 (wI w 55 9) ) (by decide) (kS sC h0 kc_3) rfl rfl rfl (Nat.le_of_ble_eq_true rfl) (by decide) dX8_canLeave_48 (fun r13 w12 y11 => ?_)
      show V x 0 0 w12 51 [(5, .int (-1)), (4, .int v1), (0, .ref (gz (xG x) + 55)), (1, .ref (gz (xG x) + 74)), (2, .int a2), (3, .int a3)] [.int r13]
      obtain ⟨h14, o15, g16⟩ := y11
      have h17 := Ch.tr h0 h14 (by decide) (by decide)
      refine r_if_eq 58 C dX8_canLeave_51 (by decide) (fun c18 => ?_) (fun c18 => ?_)
      · have c18' := i_eq c18
        refine r_iconst (v := 0) C dX8_canLeave_58 (by decide) ?_
        refine r_istore [(6, .int 0), (5, .int (-1)), (4, .int v1), (0, .ref (gz (xG x) + 55)), (1, .ref (gz (xG x) + 74)), (2, .int a2), (3, .int a3)] C dX8_canLeave_59 (by decide) rfl ?_
        refine r_iload 0 C dX8_canLeave_61 rfl ?_
        refine r_if_eq 92 C dX8_canLeave_63 (by decide) (fun c19 => ?_) (fun c19 => ?_)
        · have c19' := i_eq c19
          refine r_iconst (v := 0) C dX8_canLeave_92 (by decide) ?_
          exact hret _ _ _ _ dX8_canLeave_93 (nar_z (z_of (by omega))) ⟨h17, o15, by omega⟩
        · have c19' := i_ne c19
          exfalso; omega
      · have c18' := i_ne c18
        refine r_iconst (v := 1) C dX8_canLeave_54 (by decide) ?_
        refine r_goto 59 C dX8_canLeave_55 (by decide) ?_
        refine r_istore [(6, .int 1), (5, .int (-1)), (4, .int v1), (0, .ref (gz (xG x) + 55)), (1, .ref (gz (xG x) + 74)), (2, .int a2), (3, .int a3)] C dX8_canLeave_59 (by decide) rfl ?_
        refine r_iload 0 C dX8_canLeave_61 rfl ?_
        refine r_if_eq 92 C dX8_canLeave_63 (by decide) (fun c20 => ?_) (fun c20 => ?_)
        · have c20' := i_eq c20
          exfalso; omega
        · have c20' := i_ne c20
          refine r_iload 1 C dX8_canLeave_66 rfl ?_
          refine r_iconst (v := (-1)) C dX8_canLeave_68 (by decide) ?_
          refine r_icmp_eq 92 C dX8_canLeave_69 (by decide) (fun c21 => ?_) (fun c21 => ?_)
          · have c21' := i_eq c21
            refine r_iconst (v := 0) C dX8_canLeave_92 (by decide) ?_
            exact hret _ _ _ _ dX8_canLeave_93 (nar_z (z_of (by omega))) ⟨h17, o15, by omega⟩
          · have c21' := i_ne c21
            exfalso; omega
  · have c6' := i_ne c6
    refine r_aload_n 1 C dX8_canLeave_16 rfl ?_
    refine gfX8_21 58 C (kS sC h0 kc_55) (xS sC h0 xc_55_5) dX8_canLeave_17 ?_
    refine r_iload 0 C dX8_canLeave_20 rfl ?_
    refine r_iald C (kS sC h0 kc_58) (vin (by omega) (by omega)) dX8_canLeave_22 ?_
    generalize (wI w 58 (v1).toNatClampNeg) = v22
    refine r_goto 27 C dX8_canLeave_23 (by decide) ?_
    refine r_istore [(5, .int v22), (4, .int v1), (0, .ref (gz (xG x) + 55)), (1, .ref (gz (xG x) + 74)), (2, .int a2), (3, .int a3)] C dX8_canLeave_27 (by decide) rfl ?_
    refine r_aload_n 3 C dX8_canLeave_29 rfl ?_
    refine gfX8_134 76 C (kS sC h0 kc_74) (xS sC h0 xc_74_3) dX8_canLeave_30 ?_
    refine r_iload_n 4 C dX8_canLeave_33 rfl ?_
    refine r_iald C (kS sC h0 kc_76) (vin (by omega) (by omega)) dX8_canLeave_34 ?_
    generalize (wI w 76 (a2).toNatClampNeg) = v23
    refine r_iconst (v := (-1)) C dX8_canLeave_35 (by decide) ?_
    refine r_icmp_ne 54 C dX8_canLeave_36 (by decide) (fun c24 => ?_) (fun c24 => ?_)
    · have c24' := i_ne c24
      refine r_iconst (v := 1) C dX8_canLeave_54 (by decide) ?_
      refine r_goto 59 C dX8_canLeave_55 (by decide) ?_
      refine r_istore [(6, .int 1), (5, .int v22), (4, .int v1), (0, .ref (gz (xG x) + 55)), (1, .ref (gz (xG x) + 74)), (2, .int a2), (3, .int a3)] C dX8_canLeave_59 (by decide) rfl ?_
      refine r_iload 0 C dX8_canLeave_61 rfl ?_
      refine r_if_eq 92 C dX8_canLeave_63 (by decide) (fun c25 => ?_) (fun c25 => ?_)
      · have c25' := i_eq c25
        exfalso; omega
      · have c25' := i_ne c25
        refine r_iload 1 C dX8_canLeave_66 rfl ?_
        refine r_iconst (v := (-1)) C dX8_canLeave_68 (by decide) ?_
        refine r_icmp_eq 92 C dX8_canLeave_69 (by decide) (fun c26 => ?_) (fun c26 => ?_)
        · have c26' := i_eq c26
          refine r_iconst (v := 0) C dX8_canLeave_92 (by decide) ?_
          exact hret _ _ _ _ dX8_canLeave_93 (nar_z (z_of (by omega))) ⟨h0, o0, by omega⟩
        · have c26' := i_ne c26
          refine r_iload 1 C dX8_canLeave_72 rfl ?_
          refine r_iload_n 6 C dX8_canLeave_74 rfl ?_
          refine r_aload_n 3 C dX8_canLeave_75 rfl ?_
          refine gfX8_24 3 C (kS sC h0 kc_55) (xS sC h0 xc_55_1) dX8_canLeave_76 ?_
          refine gfX8_140 8 C (kS sC h0 kc_3) (xS sC h0 xc_3_13) dX8_canLeave_79 ?_
          refine r_iload_n 5 C dX8_canLeave_82 rfl ?_
          refine r_iald C (kS sC h0 kc_8) (vin (by omega) (by omega)) dX8_canLeave_83 ?_
          generalize (wI w 8 (a2).toNatClampNeg) = v27
          refine r_imul C dX8_canLeave_84 (fun v28 e29 => ?_)
          have k31 := i_rng v22
          have k32 := i_rng v28
          refine r_icmp_gt 92 C dX8_canLeave_85 (by decide) (fun c30 => ?_) (fun c30 => ?_)
          · have c30' := i_lt c30
            refine r_iconst (v := 0) C dX8_canLeave_92 (by decide) ?_
            exact hret _ _ _ _ dX8_canLeave_93 (nar_z (z_of (by omega))) ⟨h0, o0, by omega⟩
          · have c30' := i_nlt c30
            refine r_iconst (v := 1) C dX8_canLeave_88 (by decide) ?_
            refine r_goto 93 C dX8_canLeave_89 (by decide) ?_
            exact hret _ _ _ _ dX8_canLeave_93 (nar_z (z_of (by omega))) ⟨h0, o0, by omega⟩
    · have c24' := i_eq c24
      refine r_aload_n 2 C dX8_canLeave_39 rfl ?_
      refine gfX8_24 3 C (kS sC h0 kc_55) (xS sC h0 xc_55_1) dX8_canLeave_40 ?_
      refine r_iload_n 4 C dX8_canLeave_43 rfl ?_
      refine r_aload_n 2 C dX8_canLeave_44 rfl ?_
      refine gfX8_50 (v := (wI w 55 9)) C (kS sC h0 kc_55) rfl dX8_canLeave_45 ?_
      refine callVI C cwX8_137_V (ctX9_isFollower_3 _ _ w (sS sC h0) o0 a2 (wI w 55 9) ) (by decide) (kS sC h0 kc_3) rfl rfl rfl (Nat.le_of_ble_eq_true rfl) (by decide) dX8_canLeave_48 (fun r35 w34 y33 => ?_)
      show V x 0 0 w34 51 [(5, .int v22), (4, .int v1), (0, .ref (gz (xG x) + 55)), (1, .ref (gz (xG x) + 74)), (2, .int a2), (3, .int a3)] [.int r35]
      obtain ⟨h36, o37, g38⟩ := y33
      have h39 := Ch.tr h0 h36 (by decide) (by decide)
      refine r_if_eq 58 C dX8_canLeave_51 (by decide) (fun c40 => ?_) (fun c40 => ?_)
      · have c40' := i_eq c40
        refine r_iconst (v := 0) C dX8_canLeave_58 (by decide) ?_
        refine r_istore [(6, .int 0), (5, .int v22), (4, .int v1), (0, .ref (gz (xG x) + 55)), (1, .ref (gz (xG x) + 74)), (2, .int a2), (3, .int a3)] C dX8_canLeave_59 (by decide) rfl ?_
        refine r_iload 0 C dX8_canLeave_61 rfl ?_
        refine r_if_eq 92 C dX8_canLeave_63 (by decide) (fun c41 => ?_) (fun c41 => ?_)
        · have c41' := i_eq c41
          refine r_iconst (v := 0) C dX8_canLeave_92 (by decide) ?_
          exact hret _ _ _ _ dX8_canLeave_93 (nar_z (z_of (by omega))) ⟨h39, o37, by omega⟩
        · have c41' := i_ne c41
          exfalso; omega
      · have c40' := i_ne c40
        refine r_iconst (v := 1) C dX8_canLeave_54 (by decide) ?_
        refine r_goto 59 C dX8_canLeave_55 (by decide) ?_
        refine r_istore [(6, .int 1), (5, .int v22), (4, .int v1), (0, .ref (gz (xG x) + 55)), (1, .ref (gz (xG x) + 74)), (2, .int a2), (3, .int a3)] C dX8_canLeave_59 (by decide) rfl ?_
        refine r_iload 0 C dX8_canLeave_61 rfl ?_
        refine r_if_eq 92 C dX8_canLeave_63 (by decide) (fun c42 => ?_) (fun c42 => ?_)
        · have c42' := i_eq c42
          exfalso; omega
        · have c42' := i_ne c42
          refine r_iload 1 C dX8_canLeave_66 rfl ?_
          refine r_iconst (v := (-1)) C dX8_canLeave_68 (by decide) ?_
          refine r_icmp_eq 92 C dX8_canLeave_69 (by decide) (fun c43 => ?_) (fun c43 => ?_)
          · have c43' := i_eq c43
            refine r_iconst (v := 0) C dX8_canLeave_92 (by decide) ?_
            exact hret _ _ _ _ dX8_canLeave_93 (nar_z (z_of (by omega))) ⟨h39, o37, by omega⟩
          · have c43' := i_ne c43
            refine r_iload 1 C dX8_canLeave_72 rfl ?_
            refine r_iload_n 6 C dX8_canLeave_74 rfl ?_
            refine r_aload_n 3 C dX8_canLeave_75 rfl ?_
            refine gfX8_24 3 C (kS sC h39 kc_55) (xS sC h39 xc_55_1) dX8_canLeave_76 ?_
            refine gfX8_140 8 C (kS sC h39 kc_3) (xS sC h39 xc_3_13) dX8_canLeave_79 ?_
            refine r_iload_n 5 C dX8_canLeave_82 rfl ?_
            refine r_iald C (kS sC h39 kc_8) (vin (by omega) (by omega)) dX8_canLeave_83 ?_
            generalize (wI w34 8 (a2).toNatClampNeg) = v44
            refine r_imul C dX8_canLeave_84 (fun v45 e46 => ?_)
            have k48 := i_rng v22
            have k49 := i_rng v45
            refine r_icmp_gt 92 C dX8_canLeave_85 (by decide) (fun c47 => ?_) (fun c47 => ?_)
            · have c47' := i_lt c47
              refine r_iconst (v := 0) C dX8_canLeave_92 (by decide) ?_
              exact hret _ _ _ _ dX8_canLeave_93 (nar_z (z_of (by omega))) ⟨h39, o37, by omega⟩
            · have c47' := i_nlt c47
              refine r_iconst (v := 1) C dX8_canLeave_88 (by decide) ?_
              refine r_goto 93 C dX8_canLeave_89 (by decide) ?_
              exact hret _ _ _ _ dX8_canLeave_93 (nar_z (z_of (by omega))) ⟨h39, o37, by omega⟩
set_option maxHeartbeats 4000000 in
set_option maxRecDepth 100000 in
theorem ctX8_canLeave_55_77 (l : Launch) (G : Gt) (w : Wv) (sC : Str KC XC w) (o0 : Inv RC w) (a2 : Int32) (a3 : Int32) (b2 : 0 ≤ a2.toInt ∧ a2.toInt ≤ 5) : CtI l G yX8_canLeave cX8_canLeave 7 .boolean ({ frames := 1, cells := 0, slots := 0, locals := 23 } : Room) [.ref (gz G + 55), .ref (gz G + 77), .int a2, .int a3] w (fun r w' => Ch [] [] w w' ∧ Inv RC w' ∧ ((0 ≤ r.toInt ∧ r.toInt ≤ 1))) := by
  refine enterI (by decide) (Nat.le_of_ble_eq_true rfl) ?_
  intro x el eG C hret
  subst el; subst eG
  show V x 0 0 w 0 [(0, .ref (gz (xG x) + 55)), (1, .ref (gz (xG x) + 77)), (2, .int a2), (3, .int a3)] []
  have h0 : Ch [] [] w w := Ch.rf
  have qm1 : ((-1) : Int32).toInt = (-1) := by decide
  have q0 : (0 : Int32).toInt = 0 := by decide
  have q1 : (1 : Int32).toInt = 1 := by decide
  refine r_aload_n 1 C dX8_canLeave_0 rfl ?_
  refine gfX8_128 78 C (kS sC h0 kc_77) (xS sC h0 xc_77_2) dX8_canLeave_1 ?_
  refine r_iload_n 2 C dX8_canLeave_4 rfl ?_
  refine r_iald C (kS sC h0 kc_78) (vin (by omega) (by omega)) dX8_canLeave_5 ?_
  generalize (wI w 78 (a2).toNatClampNeg) = v1
  refine r_istore [(4, .int v1), (0, .ref (gz (xG x) + 55)), (1, .ref (gz (xG x) + 77)), (2, .int a2), (3, .int a3)] C dX8_canLeave_6 (by decide) rfl ?_
  refine r_iload 0 C dX8_canLeave_8 rfl ?_
  refine callSI C cwX8_131_S (ctX1_isCell _ _ w v1 ) (by decide) rfl rfl (Nat.le_of_ble_eq_true rfl) (by decide) dX8_canLeave_10 (fun r4 w3 y2 => ?_)
  obtain ⟨y2, g5⟩ := y2
  obtain rfl := y2.symm
  show V x 0 0 w 13 [(4, .int v1), (0, .ref (gz (xG x) + 55)), (1, .ref (gz (xG x) + 77)), (2, .int a2), (3, .int a3)] [.int r4]
  refine r_if_eq 26 C dX8_canLeave_13 (by decide) (fun c6 => ?_) (fun c6 => ?_)
  · have c6' := i_eq c6
    refine r_iconst (v := (-1)) C dX8_canLeave_26 (by decide) ?_
    refine r_istore [(5, .int (-1)), (4, .int v1), (0, .ref (gz (xG x) + 55)), (1, .ref (gz (xG x) + 77)), (2, .int a2), (3, .int a3)] C dX8_canLeave_27 (by decide) rfl ?_
    refine r_aload_n 3 C dX8_canLeave_29 rfl ?_
    refine gfX8_134 79 C (kS sC h0 kc_77) (xS sC h0 xc_77_3) dX8_canLeave_30 ?_
    refine r_iload_n 4 C dX8_canLeave_33 rfl ?_
    refine r_iald C (kS sC h0 kc_79) (vin (by omega) (by omega)) dX8_canLeave_34 ?_
    generalize (wI w 79 (a2).toNatClampNeg) = v7
    refine r_iconst (v := (-1)) C dX8_canLeave_35 (by decide) ?_
    refine r_icmp_ne 54 C dX8_canLeave_36 (by decide) (fun c8 => ?_) (fun c8 => ?_)
    · have c8' := i_ne c8
      refine r_iconst (v := 1) C dX8_canLeave_54 (by decide) ?_
      refine r_goto 59 C dX8_canLeave_55 (by decide) ?_
      refine r_istore [(6, .int 1), (5, .int (-1)), (4, .int v1), (0, .ref (gz (xG x) + 55)), (1, .ref (gz (xG x) + 77)), (2, .int a2), (3, .int a3)] C dX8_canLeave_59 (by decide) rfl ?_
      refine r_iload 0 C dX8_canLeave_61 rfl ?_
      refine r_if_eq 92 C dX8_canLeave_63 (by decide) (fun c9 => ?_) (fun c9 => ?_)
      · have c9' := i_eq c9
        exfalso; omega
      · have c9' := i_ne c9
        refine r_iload 1 C dX8_canLeave_66 rfl ?_
        refine r_iconst (v := (-1)) C dX8_canLeave_68 (by decide) ?_
        refine r_icmp_eq 92 C dX8_canLeave_69 (by decide) (fun c10 => ?_) (fun c10 => ?_)
        · have c10' := i_eq c10
          refine r_iconst (v := 0) C dX8_canLeave_92 (by decide) ?_
          exact hret _ _ _ _ dX8_canLeave_93 (nar_z (z_of (by omega))) ⟨h0, o0, by omega⟩
        · have c10' := i_ne c10
          exfalso; omega
    · have c8' := i_eq c8
      refine r_aload_n 2 C dX8_canLeave_39 rfl ?_
      refine gfX8_24 3 C (kS sC h0 kc_55) (xS sC h0 xc_55_1) dX8_canLeave_40 ?_
      refine r_iload_n 4 C dX8_canLeave_43 rfl ?_
      refine r_aload_n 2 C dX8_canLeave_44 rfl ?_
      refine gfX8_50 (v := (wI w 55 9)) C (kS sC h0 kc_55) rfl dX8_canLeave_45 ?_
      refine callVI C cwX8_137_V (ctX9_isFollower_3 _ _ w (sS sC h0) o0 a2 (wI w 55 9) ) (by decide) (kS sC h0 kc_3) rfl rfl rfl (Nat.le_of_ble_eq_true rfl) (by decide) dX8_canLeave_48 (fun r13 w12 y11 => ?_)
      show V x 0 0 w12 51 [(5, .int (-1)), (4, .int v1), (0, .ref (gz (xG x) + 55)), (1, .ref (gz (xG x) + 77)), (2, .int a2), (3, .int a3)] [.int r13]
      obtain ⟨h14, o15, g16⟩ := y11
      have h17 := Ch.tr h0 h14 (by decide) (by decide)
      refine r_if_eq 58 C dX8_canLeave_51 (by decide) (fun c18 => ?_) (fun c18 => ?_)
      · have c18' := i_eq c18
        refine r_iconst (v := 0) C dX8_canLeave_58 (by decide) ?_
        refine r_istore [(6, .int 0), (5, .int (-1)), (4, .int v1), (0, .ref (gz (xG x) + 55)), (1, .ref (gz (xG x) + 77)), (2, .int a2), (3, .int a3)] C dX8_canLeave_59 (by decide) rfl ?_
        refine r_iload 0 C dX8_canLeave_61 rfl ?_
        refine r_if_eq 92 C dX8_canLeave_63 (by decide) (fun c19 => ?_) (fun c19 => ?_)
        · have c19' := i_eq c19
          refine r_iconst (v := 0) C dX8_canLeave_92 (by decide) ?_
          exact hret _ _ _ _ dX8_canLeave_93 (nar_z (z_of (by omega))) ⟨h17, o15, by omega⟩
        · have c19' := i_ne c19
          exfalso; omega
      · have c18' := i_ne c18
        refine r_iconst (v := 1) C dX8_canLeave_54 (by decide) ?_
        refine r_goto 59 C dX8_canLeave_55 (by decide) ?_
        refine r_istore [(6, .int 1), (5, .int (-1)), (4, .int v1), (0, .ref (gz (xG x) + 55)), (1, .ref (gz (xG x) + 77)), (2, .int a2), (3, .int a3)] C dX8_canLeave_59 (by decide) rfl ?_
        refine r_iload 0 C dX8_canLeave_61 rfl ?_
        refine r_if_eq 92 C dX8_canLeave_63 (by decide) (fun c20 => ?_) (fun c20 => ?_)
        · have c20' := i_eq c20
          exfalso; omega
        · have c20' := i_ne c20
          refine r_iload 1 C dX8_canLeave_66 rfl ?_
          refine r_iconst (v := (-1)) C dX8_canLeave_68 (by decide) ?_
          refine r_icmp_eq 92 C dX8_canLeave_69 (by decide) (fun c21 => ?_) (fun c21 => ?_)
          · have c21' := i_eq c21
            refine r_iconst (v := 0) C dX8_canLeave_92 (by decide) ?_
            exact hret _ _ _ _ dX8_canLeave_93 (nar_z (z_of (by omega))) ⟨h17, o15, by omega⟩
          · have c21' := i_ne c21
            exfalso; omega
  · have c6' := i_ne c6
    refine r_aload_n 1 C dX8_canLeave_16 rfl ?_
    refine gfX8_21 58 C (kS sC h0 kc_55) (xS sC h0 xc_55_5) dX8_canLeave_17 ?_
    refine r_iload 0 C dX8_canLeave_20 rfl ?_
    refine r_iald C (kS sC h0 kc_58) (vin (by omega) (by omega)) dX8_canLeave_22 ?_
    generalize (wI w 58 (v1).toNatClampNeg) = v22
    refine r_goto 27 C dX8_canLeave_23 (by decide) ?_
    refine r_istore [(5, .int v22), (4, .int v1), (0, .ref (gz (xG x) + 55)), (1, .ref (gz (xG x) + 77)), (2, .int a2), (3, .int a3)] C dX8_canLeave_27 (by decide) rfl ?_
    refine r_aload_n 3 C dX8_canLeave_29 rfl ?_
    refine gfX8_134 79 C (kS sC h0 kc_77) (xS sC h0 xc_77_3) dX8_canLeave_30 ?_
    refine r_iload_n 4 C dX8_canLeave_33 rfl ?_
    refine r_iald C (kS sC h0 kc_79) (vin (by omega) (by omega)) dX8_canLeave_34 ?_
    generalize (wI w 79 (a2).toNatClampNeg) = v23
    refine r_iconst (v := (-1)) C dX8_canLeave_35 (by decide) ?_
    refine r_icmp_ne 54 C dX8_canLeave_36 (by decide) (fun c24 => ?_) (fun c24 => ?_)
    · have c24' := i_ne c24
      refine r_iconst (v := 1) C dX8_canLeave_54 (by decide) ?_
      refine r_goto 59 C dX8_canLeave_55 (by decide) ?_
      refine r_istore [(6, .int 1), (5, .int v22), (4, .int v1), (0, .ref (gz (xG x) + 55)), (1, .ref (gz (xG x) + 77)), (2, .int a2), (3, .int a3)] C dX8_canLeave_59 (by decide) rfl ?_
      refine r_iload 0 C dX8_canLeave_61 rfl ?_
      refine r_if_eq 92 C dX8_canLeave_63 (by decide) (fun c25 => ?_) (fun c25 => ?_)
      · have c25' := i_eq c25
        exfalso; omega
      · have c25' := i_ne c25
        refine r_iload 1 C dX8_canLeave_66 rfl ?_
        refine r_iconst (v := (-1)) C dX8_canLeave_68 (by decide) ?_
        refine r_icmp_eq 92 C dX8_canLeave_69 (by decide) (fun c26 => ?_) (fun c26 => ?_)
        · have c26' := i_eq c26
          refine r_iconst (v := 0) C dX8_canLeave_92 (by decide) ?_
          exact hret _ _ _ _ dX8_canLeave_93 (nar_z (z_of (by omega))) ⟨h0, o0, by omega⟩
        · have c26' := i_ne c26
          refine r_iload 1 C dX8_canLeave_72 rfl ?_
          refine r_iload_n 6 C dX8_canLeave_74 rfl ?_
          refine r_aload_n 3 C dX8_canLeave_75 rfl ?_
          refine gfX8_24 3 C (kS sC h0 kc_55) (xS sC h0 xc_55_1) dX8_canLeave_76 ?_
          refine gfX8_140 8 C (kS sC h0 kc_3) (xS sC h0 xc_3_13) dX8_canLeave_79 ?_
          refine r_iload_n 5 C dX8_canLeave_82 rfl ?_
          refine r_iald C (kS sC h0 kc_8) (vin (by omega) (by omega)) dX8_canLeave_83 ?_
          generalize (wI w 8 (a2).toNatClampNeg) = v27
          refine r_imul C dX8_canLeave_84 (fun v28 e29 => ?_)
          have k31 := i_rng v22
          have k32 := i_rng v28
          refine r_icmp_gt 92 C dX8_canLeave_85 (by decide) (fun c30 => ?_) (fun c30 => ?_)
          · have c30' := i_lt c30
            refine r_iconst (v := 0) C dX8_canLeave_92 (by decide) ?_
            exact hret _ _ _ _ dX8_canLeave_93 (nar_z (z_of (by omega))) ⟨h0, o0, by omega⟩
          · have c30' := i_nlt c30
            refine r_iconst (v := 1) C dX8_canLeave_88 (by decide) ?_
            refine r_goto 93 C dX8_canLeave_89 (by decide) ?_
            exact hret _ _ _ _ dX8_canLeave_93 (nar_z (z_of (by omega))) ⟨h0, o0, by omega⟩
    · have c24' := i_eq c24
      refine r_aload_n 2 C dX8_canLeave_39 rfl ?_
      refine gfX8_24 3 C (kS sC h0 kc_55) (xS sC h0 xc_55_1) dX8_canLeave_40 ?_
      refine r_iload_n 4 C dX8_canLeave_43 rfl ?_
      refine r_aload_n 2 C dX8_canLeave_44 rfl ?_
      refine gfX8_50 (v := (wI w 55 9)) C (kS sC h0 kc_55) rfl dX8_canLeave_45 ?_
      refine callVI C cwX8_137_V (ctX9_isFollower_3 _ _ w (sS sC h0) o0 a2 (wI w 55 9) ) (by decide) (kS sC h0 kc_3) rfl rfl rfl (Nat.le_of_ble_eq_true rfl) (by decide) dX8_canLeave_48 (fun r35 w34 y33 => ?_)
      show V x 0 0 w34 51 [(5, .int v22), (4, .int v1), (0, .ref (gz (xG x) + 55)), (1, .ref (gz (xG x) + 77)), (2, .int a2), (3, .int a3)] [.int r35]
      obtain ⟨h36, o37, g38⟩ := y33
      have h39 := Ch.tr h0 h36 (by decide) (by decide)
      refine r_if_eq 58 C dX8_canLeave_51 (by decide) (fun c40 => ?_) (fun c40 => ?_)
      · have c40' := i_eq c40
        refine r_iconst (v := 0) C dX8_canLeave_58 (by decide) ?_
        refine r_istore [(6, .int 0), (5, .int v22), (4, .int v1), (0, .ref (gz (xG x) + 55)), (1, .ref (gz (xG x) + 77)), (2, .int a2), (3, .int a3)] C dX8_canLeave_59 (by decide) rfl ?_
        refine r_iload 0 C dX8_canLeave_61 rfl ?_
        refine r_if_eq 92 C dX8_canLeave_63 (by decide) (fun c41 => ?_) (fun c41 => ?_)
        · have c41' := i_eq c41
          refine r_iconst (v := 0) C dX8_canLeave_92 (by decide) ?_
          exact hret _ _ _ _ dX8_canLeave_93 (nar_z (z_of (by omega))) ⟨h39, o37, by omega⟩
        · have c41' := i_ne c41
          exfalso; omega
      · have c40' := i_ne c40
        refine r_iconst (v := 1) C dX8_canLeave_54 (by decide) ?_
        refine r_goto 59 C dX8_canLeave_55 (by decide) ?_
        refine r_istore [(6, .int 1), (5, .int v22), (4, .int v1), (0, .ref (gz (xG x) + 55)), (1, .ref (gz (xG x) + 77)), (2, .int a2), (3, .int a3)] C dX8_canLeave_59 (by decide) rfl ?_
        refine r_iload 0 C dX8_canLeave_61 rfl ?_
        refine r_if_eq 92 C dX8_canLeave_63 (by decide) (fun c42 => ?_) (fun c42 => ?_)
        · have c42' := i_eq c42
          exfalso; omega
        · have c42' := i_ne c42
          refine r_iload 1 C dX8_canLeave_66 rfl ?_
          refine r_iconst (v := (-1)) C dX8_canLeave_68 (by decide) ?_
          refine r_icmp_eq 92 C dX8_canLeave_69 (by decide) (fun c43 => ?_) (fun c43 => ?_)
          · have c43' := i_eq c43
            refine r_iconst (v := 0) C dX8_canLeave_92 (by decide) ?_
            exact hret _ _ _ _ dX8_canLeave_93 (nar_z (z_of (by omega))) ⟨h39, o37, by omega⟩
          · have c43' := i_ne c43
            refine r_iload 1 C dX8_canLeave_72 rfl ?_
            refine r_iload_n 6 C dX8_canLeave_74 rfl ?_
            refine r_aload_n 3 C dX8_canLeave_75 rfl ?_
            refine gfX8_24 3 C (kS sC h39 kc_55) (xS sC h39 xc_55_1) dX8_canLeave_76 ?_
            refine gfX8_140 8 C (kS sC h39 kc_3) (xS sC h39 xc_3_13) dX8_canLeave_79 ?_
            refine r_iload_n 5 C dX8_canLeave_82 rfl ?_
            refine r_iald C (kS sC h39 kc_8) (vin (by omega) (by omega)) dX8_canLeave_83 ?_
            generalize (wI w34 8 (a2).toNatClampNeg) = v44
            refine r_imul C dX8_canLeave_84 (fun v45 e46 => ?_)
            have k48 := i_rng v22
            have k49 := i_rng v45
            refine r_icmp_gt 92 C dX8_canLeave_85 (by decide) (fun c47 => ?_) (fun c47 => ?_)
            · have c47' := i_lt c47
              refine r_iconst (v := 0) C dX8_canLeave_92 (by decide) ?_
              exact hret _ _ _ _ dX8_canLeave_93 (nar_z (z_of (by omega))) ⟨h39, o37, by omega⟩
            · have c47' := i_nlt c47
              refine r_iconst (v := 1) C dX8_canLeave_88 (by decide) ?_
              refine r_goto 93 C dX8_canLeave_89 (by decide) ?_
              exact hret _ _ _ _ dX8_canLeave_93 (nar_z (z_of (by omega))) ⟨h39, o37, by omega⟩
set_option maxHeartbeats 4000000 in
set_option maxRecDepth 100000 in
theorem ctX8_outlook_55_59 (l : Launch) (G : Gt) (w : Wv) (sC : Str KC XC w) (o0 : Inv RC w) (a2 : Int32) : CtI l G yX8_outlook cX8_outlook 5 .int ({ frames := 2, cells := 0, slots := 0, locals := 49 } : Room) [.ref (gz G + 55), .ref (gz G + 59), .int a2] w (fun r w' => Ch [] [] w w' ∧ Inv RC w') := by
  refine enterI (by decide) (Nat.le_of_ble_eq_true rfl) ?_
  intro x el eG C hret
  subst el; subst eG
  show V x 0 0 w 0 [(0, .ref (gz (xG x) + 55)), (1, .ref (gz (xG x) + 59)), (2, .int a2)] []
  have h0 : Ch [] [] w w := Ch.rf
  have q0 : (0 : Int32).toInt = 0 := by decide
  have q1 : (1 : Int32).toInt = 1 := by decide
  have q2 : (2 : Int32).toInt = 2 := by decide
  have LP3 : ∀ (f4 : Nat) (u1 : Int32) (u2 : Int32) (w5 : Wv), Ch [] [] w w5 → Inv RC w5 → (0 ≤ u2.toInt ∧ u2.toInt ≤ 2147483647) → 2147483647 - u2.toInt < f4 → V x 0 0 w5 5 [(0, .ref (gz (xG x) + 55)), (1, .ref (gz (xG x) + 59)), (2, .int a2), (3, .int u1), (4, .int u2)] [] := by
    intro f4
    induction f4 with
    | zero => intro u1 u2 w5 h6 o7 z8 z9; exfalso; omega
    | succ f4 ih10 =>
      intro u1 u2 w5 h6 o7 z8 z9
      refine r_iload 4 C dX8_outlook_5 rfl ?_
      refine r_aload_n 0 C dX8_outlook_7 rfl ?_
      refine gfX8_24 3 C (kS sC h6 kc_55) (xS sC h6 xc_55_1) dX8_outlook_8 ?_
      refine gfX8_111 (v := (wI w 3 3)) C (kS sC h6 kc_3) (h6.I (by decide) (by decide) rfl) dX8_outlook_11 ?_
      have b11 := Inv.get o0 rt_3_3 (j := 3) (by decide) (by decide)
      have k13 := i_rng u2
      refine r_icmp_ge 114 C dX8_outlook_14 (by decide) (fun c12 => ?_) (fun c12 => ?_)
      · have c12' := i_le c12
        refine r_iload_n 3 C dX8_outlook_114 rfl ?_
        exact hret _ _ _ _ dX8_outlook_115 rfl ⟨h6, o7⟩
      · have c12' := i_nle c12
        refine r_iload_n 3 C dX8_outlook_17 rfl ?_
        refine r_if_eq 114 C dX8_outlook_18 (by decide) (fun c14 => ?_) (fun c14 => ?_)
        · have c14' := i_eq c14
          refine r_iload_n 3 C dX8_outlook_114 rfl ?_
          exact hret _ _ _ _ dX8_outlook_115 rfl ⟨h6, o7⟩
        · have c14' := i_ne c14
          refine r_aload_n 0 C dX8_outlook_21 rfl ?_
          refine gfX8_24 3 C (kS sC h6 kc_55) (xS sC h6 xc_55_1) dX8_outlook_22 ?_
          refine gfX8_116 5 C (kS sC h6 kc_3) (xS sC h6 xc_3_10) dX8_outlook_25 ?_
          refine r_iload 4 C dX8_outlook_28 rfl ?_
          refine r_iald C (kS sC h6 kc_5) (vin (by omega) (by omega)) dX8_outlook_30 ?_
          generalize (wI w5 5 (u2).toNatClampNeg) = v15
          refine r_aload_n 0 C dX8_outlook_31 rfl ?_
          refine gfX8_47 (v := (wI w 55 8)) C (kS sC h6 kc_55) (h6.I (by decide) (by decide) rfl) dX8_outlook_32 ?_
          refine r_icmp_eq 67 C dX8_outlook_35 (by decide) (fun c16 => ?_) (fun c16 => ?_)
          · have c16' := i_eq c16
            refine r_aload_n 1 C dX8_outlook_67 rfl ?_
            refine r_iload 4 C dX8_outlook_68 rfl ?_
            refine callVI C cwX8_121_V (ctX6_isHere_59 _ _ w5 (sS sC h6) o7 u2 ) (by decide) (kS sC h6 kc_59) rfl rfl rfl (Nat.le_of_ble_eq_true rfl) (by decide) dX8_outlook_70 (fun r19 w18 y17 => ?_)
            show V x 0 0 w18 73 [(0, .ref (gz (xG x) + 55)), (1, .ref (gz (xG x) + 59)), (2, .int a2), (3, .int u1), (4, .int u2)] [.int r19]
            obtain ⟨h20, o21, g22⟩ := y17
            have h23 := Ch.tr h6 h20 (by decide) (by decide)
            refine r_if_eq 96 C dX8_outlook_73 (by decide) (fun c24 => ?_) (fun c24 => ?_)
            · have c24' := i_eq c24
              refine r_aload_n 1 C dX8_outlook_96 rfl ?_
              refine r_iload 4 C dX8_outlook_97 rfl ?_
              refine callVI C cwX8_118_V (ctX6_fate_59 _ _ w18 (sS sC h23) o21 u2 ) (by decide) (kS sC h23 kc_59) rfl rfl rfl (Nat.le_of_ble_eq_true rfl) (by decide) dX8_outlook_99 (fun r27 w26 y25 => ?_)
              show V x 0 0 w26 102 [(0, .ref (gz (xG x) + 55)), (1, .ref (gz (xG x) + 59)), (2, .int a2), (3, .int u1), (4, .int u2)] [.int r27]
              obtain ⟨h28, o29⟩ := y25
              have h30 := Ch.tr h23 h28 (by decide) (by decide)
              refine r_iconst (v := 2) C dX8_outlook_102 (by decide) ?_
              refine r_icmp_ne 108 C dX8_outlook_103 (by decide) (fun c31 => ?_) (fun c31 => ?_)
              · have c31' := i_ne c31
                obtain ⟨i32, e33⟩ : ∃ z : Int32, u2 + Int32.ofInt 1 = z := ⟨_, rfl⟩
                have i32' := iinc_ok e33 (by decide) (by omega) (by omega)
                refine r_iinc [(4, .int i32), (0, .ref (gz (xG x) + 55)), (1, .ref (gz (xG x) + 59)), (2, .int a2), (3, .int u1)] 4 C dX8_outlook_108 rfl e33 (by decide) rfl ?_
                refine r_goto 5 C dX8_outlook_111 (by decide) ?_
                refine r_lv [1, 2, 3, 4, 0] rfl ?_
                exact ih10 u1 i32 w26 h30 o29 (by omega) (by omega)
              · have c31' := i_eq c31
                refine r_iconst (v := 0) C dX8_outlook_106 (by decide) ?_
                refine r_istore_n [(3, .int 0), (0, .ref (gz (xG x) + 55)), (1, .ref (gz (xG x) + 59)), (2, .int a2), (4, .int u2)] C dX8_outlook_107 (by decide) rfl ?_
                obtain ⟨i34, e35⟩ : ∃ z : Int32, u2 + Int32.ofInt 1 = z := ⟨_, rfl⟩
                have i34' := iinc_ok e35 (by decide) (by omega) (by omega)
                refine r_iinc [(4, .int i34), (3, .int 0), (0, .ref (gz (xG x) + 55)), (1, .ref (gz (xG x) + 59)), (2, .int a2)] 4 C dX8_outlook_108 rfl e35 (by decide) rfl ?_
                refine r_goto 5 C dX8_outlook_111 (by decide) ?_
                refine r_lv [2, 3, 4, 1, 0] rfl ?_
                exact ih10 0 i34 w26 h30 o29 (by omega) (by omega)
            · have c24' := i_ne c24
              refine r_aload_n 0 C dX8_outlook_76 rfl ?_
              refine r_aload_n 1 C dX8_outlook_77 rfl ?_
              refine r_iload 4 C dX8_outlook_78 rfl ?_
              refine r_iload_n 2 C dX8_outlook_80 rfl ?_
              refine callVI C cwX8_124_V (ctX8_canLeave_55_59 _ _ w18 (sS sC h23) o21 u2 a2 (by omega)) (by decide) (kS sC h23 kc_55) rfl rfl rfl (Nat.le_of_ble_eq_true rfl) (by decide) dX8_outlook_81 (fun r38 w37 y36 => ?_)
              show V x 0 0 w37 84 [(0, .ref (gz (xG x) + 55)), (1, .ref (gz (xG x) + 59)), (2, .int a2), (3, .int u1), (4, .int u2)] [.int r38]
              obtain ⟨h39, o40, g41⟩ := y36
              have h42 := Ch.tr h23 h39 (by decide) (by decide)
              refine r_if_eq 91 C dX8_outlook_84 (by decide) (fun c43 => ?_) (fun c43 => ?_)
              · have c43' := i_eq c43
                refine r_iconst (v := 0) C dX8_outlook_91 (by decide) ?_
                refine r_istore_n [(3, .int 0), (0, .ref (gz (xG x) + 55)), (1, .ref (gz (xG x) + 59)), (2, .int a2), (4, .int u2)] C dX8_outlook_92 (by decide) rfl ?_
                refine r_goto 108 C dX8_outlook_93 (by decide) ?_
                obtain ⟨i44, e45⟩ : ∃ z : Int32, u2 + Int32.ofInt 1 = z := ⟨_, rfl⟩
                have i44' := iinc_ok e45 (by decide) (by omega) (by omega)
                refine r_iinc [(4, .int i44), (3, .int 0), (0, .ref (gz (xG x) + 55)), (1, .ref (gz (xG x) + 59)), (2, .int a2)] 4 C dX8_outlook_108 rfl e45 (by decide) rfl ?_
                refine r_goto 5 C dX8_outlook_111 (by decide) ?_
                refine r_lv [2, 3, 4, 1, 0] rfl ?_
                exact ih10 0 i44 w37 h42 o40 (by omega) (by omega)
              · have c43' := i_ne c43
                refine r_iconst (v := 1) C dX8_outlook_87 (by decide) ?_
                refine r_goto 92 C dX8_outlook_88 (by decide) ?_
                refine r_istore_n [(3, .int 1), (0, .ref (gz (xG x) + 55)), (1, .ref (gz (xG x) + 59)), (2, .int a2), (4, .int u2)] C dX8_outlook_92 (by decide) rfl ?_
                refine r_goto 108 C dX8_outlook_93 (by decide) ?_
                obtain ⟨i46, e47⟩ : ∃ z : Int32, u2 + Int32.ofInt 1 = z := ⟨_, rfl⟩
                have i46' := iinc_ok e47 (by decide) (by omega) (by omega)
                refine r_iinc [(4, .int i46), (3, .int 1), (0, .ref (gz (xG x) + 55)), (1, .ref (gz (xG x) + 59)), (2, .int a2)] 4 C dX8_outlook_108 rfl e47 (by decide) rfl ?_
                refine r_goto 5 C dX8_outlook_111 (by decide) ?_
                refine r_lv [2, 3, 4, 1, 0] rfl ?_
                exact ih10 1 i46 w37 h42 o40 (by omega) (by omega)
          · have c16' := i_ne c16
            refine r_aload_n 1 C dX8_outlook_38 rfl ?_
            refine r_iload 4 C dX8_outlook_39 rfl ?_
            refine callVI C cwX8_118_V (ctX6_fate_59 _ _ w5 (sS sC h6) o7 u2 ) (by decide) (kS sC h6 kc_59) rfl rfl rfl (Nat.le_of_ble_eq_true rfl) (by decide) dX8_outlook_41 (fun r50 w49 y48 => ?_)
            show V x 0 0 w49 44 [(0, .ref (gz (xG x) + 55)), (1, .ref (gz (xG x) + 59)), (2, .int a2), (3, .int u1), (4, .int u2)] [.int r50]
            obtain ⟨h51, o52⟩ := y48
            have h53 := Ch.tr h6 h51 (by decide) (by decide)
            refine r_aload_n 0 C dX8_outlook_44 rfl ?_
            refine gfX8_11 56 C (kS sC h53 kc_55) (xS sC h53 xc_55_3) dX8_outlook_45 ?_
            refine r_iconst (v := 0) C dX8_outlook_48 (by decide) ?_
            refine r_aald 3 rfl C (kS sC h53 kc_56) (vin (by omega) (by omega)) (xS sC h53 xc_56_0) dX8_outlook_49 ?_
            refine r_iload 4 C dX8_outlook_50 rfl ?_
            refine callVI C cwX8_118_V (ctX6_fate_59 _ _ w49 (sS sC h53) o52 u2 ) (by decide) (kS sC h53 kc_59) rfl rfl rfl (Nat.le_of_ble_eq_true rfl) (by decide) dX8_outlook_52 (fun r56 w55 y54 => ?_)
            show V x 0 0 w55 55 [(0, .ref (gz (xG x) + 55)), (1, .ref (gz (xG x) + 59)), (2, .int a2), (3, .int u1), (4, .int u2)] [.int r56, .int r50]
            obtain ⟨h57, o58⟩ := y54
            have h59 := Ch.tr h53 h57 (by decide) (by decide)
            refine r_icmp_ne 62 C dX8_outlook_55 (by decide) (fun c60 => ?_) (fun c60 => ?_)
            · have c60' := i_ne c60
              refine r_iconst (v := 0) C dX8_outlook_62 (by decide) ?_
              refine r_istore_n [(3, .int 0), (0, .ref (gz (xG x) + 55)), (1, .ref (gz (xG x) + 59)), (2, .int a2), (4, .int u2)] C dX8_outlook_63 (by decide) rfl ?_
              refine r_goto 108 C dX8_outlook_64 (by decide) ?_
              obtain ⟨i61, e62⟩ : ∃ z : Int32, u2 + Int32.ofInt 1 = z := ⟨_, rfl⟩
              have i61' := iinc_ok e62 (by decide) (by omega) (by omega)
              refine r_iinc [(4, .int i61), (3, .int 0), (0, .ref (gz (xG x) + 55)), (1, .ref (gz (xG x) + 59)), (2, .int a2)] 4 C dX8_outlook_108 rfl e62 (by decide) rfl ?_
              refine r_goto 5 C dX8_outlook_111 (by decide) ?_
              refine r_lv [2, 3, 4, 1, 0] rfl ?_
              exact ih10 0 i61 w55 h59 o58 (by omega) (by omega)
            · have c60' := i_eq c60
              refine r_iload_n 3 C dX8_outlook_58 rfl ?_
              refine r_goto 63 C dX8_outlook_59 (by decide) ?_
              refine r_istore_n [(3, .int u1), (0, .ref (gz (xG x) + 55)), (1, .ref (gz (xG x) + 59)), (2, .int a2), (4, .int u2)] C dX8_outlook_63 (by decide) rfl ?_
              refine r_goto 108 C dX8_outlook_64 (by decide) ?_
              obtain ⟨i63, e64⟩ : ∃ z : Int32, u2 + Int32.ofInt 1 = z := ⟨_, rfl⟩
              have i63' := iinc_ok e64 (by decide) (by omega) (by omega)
              refine r_iinc [(4, .int i63), (3, .int u1), (0, .ref (gz (xG x) + 55)), (1, .ref (gz (xG x) + 59)), (2, .int a2)] 4 C dX8_outlook_108 rfl e64 (by decide) rfl ?_
              refine r_goto 5 C dX8_outlook_111 (by decide) ?_
              refine r_lv [2, 3, 4, 1, 0] rfl ?_
              exact ih10 u1 i63 w55 h59 o58 (by omega) (by omega)
  refine r_iconst (v := 2) C dX8_outlook_0 (by decide) ?_
  refine r_istore_n [(3, .int 2), (0, .ref (gz (xG x) + 55)), (1, .ref (gz (xG x) + 59)), (2, .int a2)] C dX8_outlook_1 (by decide) rfl ?_
  refine r_iconst (v := 0) C dX8_outlook_2 (by decide) ?_
  refine r_istore [(4, .int 0), (3, .int 2), (0, .ref (gz (xG x) + 55)), (1, .ref (gz (xG x) + 59)), (2, .int a2)] C dX8_outlook_3 (by decide) rfl ?_
  refine r_lv [2, 3, 4, 1, 0] rfl ?_
  exact LP3 4294967296 2 0 w h0 o0 (by omega) (by omega)
set_option maxHeartbeats 4000000 in
set_option maxRecDepth 100000 in
theorem ctX8_outlook_55_62 (l : Launch) (G : Gt) (w : Wv) (sC : Str KC XC w) (o0 : Inv RC w) (a2 : Int32) : CtI l G yX8_outlook cX8_outlook 5 .int ({ frames := 2, cells := 0, slots := 0, locals := 49 } : Room) [.ref (gz G + 55), .ref (gz G + 62), .int a2] w (fun r w' => Ch [] [] w w' ∧ Inv RC w') := by
  refine enterI (by decide) (Nat.le_of_ble_eq_true rfl) ?_
  intro x el eG C hret
  subst el; subst eG
  show V x 0 0 w 0 [(0, .ref (gz (xG x) + 55)), (1, .ref (gz (xG x) + 62)), (2, .int a2)] []
  have h0 : Ch [] [] w w := Ch.rf
  have q0 : (0 : Int32).toInt = 0 := by decide
  have q1 : (1 : Int32).toInt = 1 := by decide
  have q2 : (2 : Int32).toInt = 2 := by decide
  have LP3 : ∀ (f4 : Nat) (u1 : Int32) (u2 : Int32) (w5 : Wv), Ch [] [] w w5 → Inv RC w5 → (0 ≤ u2.toInt ∧ u2.toInt ≤ 2147483647) → 2147483647 - u2.toInt < f4 → V x 0 0 w5 5 [(0, .ref (gz (xG x) + 55)), (1, .ref (gz (xG x) + 62)), (2, .int a2), (3, .int u1), (4, .int u2)] [] := by
    intro f4
    induction f4 with
    | zero => intro u1 u2 w5 h6 o7 z8 z9; exfalso; omega
    | succ f4 ih10 =>
      intro u1 u2 w5 h6 o7 z8 z9
      refine r_iload 4 C dX8_outlook_5 rfl ?_
      refine r_aload_n 0 C dX8_outlook_7 rfl ?_
      refine gfX8_24 3 C (kS sC h6 kc_55) (xS sC h6 xc_55_1) dX8_outlook_8 ?_
      refine gfX8_111 (v := (wI w 3 3)) C (kS sC h6 kc_3) (h6.I (by decide) (by decide) rfl) dX8_outlook_11 ?_
      have b11 := Inv.get o0 rt_3_3 (j := 3) (by decide) (by decide)
      have k13 := i_rng u2
      refine r_icmp_ge 114 C dX8_outlook_14 (by decide) (fun c12 => ?_) (fun c12 => ?_)
      · have c12' := i_le c12
        refine r_iload_n 3 C dX8_outlook_114 rfl ?_
        exact hret _ _ _ _ dX8_outlook_115 rfl ⟨h6, o7⟩
      · have c12' := i_nle c12
        refine r_iload_n 3 C dX8_outlook_17 rfl ?_
        refine r_if_eq 114 C dX8_outlook_18 (by decide) (fun c14 => ?_) (fun c14 => ?_)
        · have c14' := i_eq c14
          refine r_iload_n 3 C dX8_outlook_114 rfl ?_
          exact hret _ _ _ _ dX8_outlook_115 rfl ⟨h6, o7⟩
        · have c14' := i_ne c14
          refine r_aload_n 0 C dX8_outlook_21 rfl ?_
          refine gfX8_24 3 C (kS sC h6 kc_55) (xS sC h6 xc_55_1) dX8_outlook_22 ?_
          refine gfX8_116 5 C (kS sC h6 kc_3) (xS sC h6 xc_3_10) dX8_outlook_25 ?_
          refine r_iload 4 C dX8_outlook_28 rfl ?_
          refine r_iald C (kS sC h6 kc_5) (vin (by omega) (by omega)) dX8_outlook_30 ?_
          generalize (wI w5 5 (u2).toNatClampNeg) = v15
          refine r_aload_n 0 C dX8_outlook_31 rfl ?_
          refine gfX8_47 (v := (wI w 55 8)) C (kS sC h6 kc_55) (h6.I (by decide) (by decide) rfl) dX8_outlook_32 ?_
          refine r_icmp_eq 67 C dX8_outlook_35 (by decide) (fun c16 => ?_) (fun c16 => ?_)
          · have c16' := i_eq c16
            refine r_aload_n 1 C dX8_outlook_67 rfl ?_
            refine r_iload 4 C dX8_outlook_68 rfl ?_
            refine callVI C cwX8_121_V (ctX6_isHere_62 _ _ w5 (sS sC h6) o7 u2 ) (by decide) (kS sC h6 kc_62) rfl rfl rfl (Nat.le_of_ble_eq_true rfl) (by decide) dX8_outlook_70 (fun r19 w18 y17 => ?_)
            show V x 0 0 w18 73 [(0, .ref (gz (xG x) + 55)), (1, .ref (gz (xG x) + 62)), (2, .int a2), (3, .int u1), (4, .int u2)] [.int r19]
            obtain ⟨h20, o21, g22⟩ := y17
            have h23 := Ch.tr h6 h20 (by decide) (by decide)
            refine r_if_eq 96 C dX8_outlook_73 (by decide) (fun c24 => ?_) (fun c24 => ?_)
            · have c24' := i_eq c24
              refine r_aload_n 1 C dX8_outlook_96 rfl ?_
              refine r_iload 4 C dX8_outlook_97 rfl ?_
              refine callVI C cwX8_118_V (ctX6_fate_62 _ _ w18 (sS sC h23) o21 u2 ) (by decide) (kS sC h23 kc_62) rfl rfl rfl (Nat.le_of_ble_eq_true rfl) (by decide) dX8_outlook_99 (fun r27 w26 y25 => ?_)
              show V x 0 0 w26 102 [(0, .ref (gz (xG x) + 55)), (1, .ref (gz (xG x) + 62)), (2, .int a2), (3, .int u1), (4, .int u2)] [.int r27]
              obtain ⟨h28, o29⟩ := y25
              have h30 := Ch.tr h23 h28 (by decide) (by decide)
              refine r_iconst (v := 2) C dX8_outlook_102 (by decide) ?_
              refine r_icmp_ne 108 C dX8_outlook_103 (by decide) (fun c31 => ?_) (fun c31 => ?_)
              · have c31' := i_ne c31
                obtain ⟨i32, e33⟩ : ∃ z : Int32, u2 + Int32.ofInt 1 = z := ⟨_, rfl⟩
                have i32' := iinc_ok e33 (by decide) (by omega) (by omega)
                refine r_iinc [(4, .int i32), (0, .ref (gz (xG x) + 55)), (1, .ref (gz (xG x) + 62)), (2, .int a2), (3, .int u1)] 4 C dX8_outlook_108 rfl e33 (by decide) rfl ?_
                refine r_goto 5 C dX8_outlook_111 (by decide) ?_
                refine r_lv [1, 2, 3, 4, 0] rfl ?_
                exact ih10 u1 i32 w26 h30 o29 (by omega) (by omega)
              · have c31' := i_eq c31
                refine r_iconst (v := 0) C dX8_outlook_106 (by decide) ?_
                refine r_istore_n [(3, .int 0), (0, .ref (gz (xG x) + 55)), (1, .ref (gz (xG x) + 62)), (2, .int a2), (4, .int u2)] C dX8_outlook_107 (by decide) rfl ?_
                obtain ⟨i34, e35⟩ : ∃ z : Int32, u2 + Int32.ofInt 1 = z := ⟨_, rfl⟩
                have i34' := iinc_ok e35 (by decide) (by omega) (by omega)
                refine r_iinc [(4, .int i34), (3, .int 0), (0, .ref (gz (xG x) + 55)), (1, .ref (gz (xG x) + 62)), (2, .int a2)] 4 C dX8_outlook_108 rfl e35 (by decide) rfl ?_
                refine r_goto 5 C dX8_outlook_111 (by decide) ?_
                refine r_lv [2, 3, 4, 1, 0] rfl ?_
                exact ih10 0 i34 w26 h30 o29 (by omega) (by omega)
            · have c24' := i_ne c24
              refine r_aload_n 0 C dX8_outlook_76 rfl ?_
              refine r_aload_n 1 C dX8_outlook_77 rfl ?_
              refine r_iload 4 C dX8_outlook_78 rfl ?_
              refine r_iload_n 2 C dX8_outlook_80 rfl ?_
              refine callVI C cwX8_124_V (ctX8_canLeave_55_62 _ _ w18 (sS sC h23) o21 u2 a2 (by omega)) (by decide) (kS sC h23 kc_55) rfl rfl rfl (Nat.le_of_ble_eq_true rfl) (by decide) dX8_outlook_81 (fun r38 w37 y36 => ?_)
              show V x 0 0 w37 84 [(0, .ref (gz (xG x) + 55)), (1, .ref (gz (xG x) + 62)), (2, .int a2), (3, .int u1), (4, .int u2)] [.int r38]
              obtain ⟨h39, o40, g41⟩ := y36
              have h42 := Ch.tr h23 h39 (by decide) (by decide)
              refine r_if_eq 91 C dX8_outlook_84 (by decide) (fun c43 => ?_) (fun c43 => ?_)
              · have c43' := i_eq c43
                refine r_iconst (v := 0) C dX8_outlook_91 (by decide) ?_
                refine r_istore_n [(3, .int 0), (0, .ref (gz (xG x) + 55)), (1, .ref (gz (xG x) + 62)), (2, .int a2), (4, .int u2)] C dX8_outlook_92 (by decide) rfl ?_
                refine r_goto 108 C dX8_outlook_93 (by decide) ?_
                obtain ⟨i44, e45⟩ : ∃ z : Int32, u2 + Int32.ofInt 1 = z := ⟨_, rfl⟩
                have i44' := iinc_ok e45 (by decide) (by omega) (by omega)
                refine r_iinc [(4, .int i44), (3, .int 0), (0, .ref (gz (xG x) + 55)), (1, .ref (gz (xG x) + 62)), (2, .int a2)] 4 C dX8_outlook_108 rfl e45 (by decide) rfl ?_
                refine r_goto 5 C dX8_outlook_111 (by decide) ?_
                refine r_lv [2, 3, 4, 1, 0] rfl ?_
                exact ih10 0 i44 w37 h42 o40 (by omega) (by omega)
              · have c43' := i_ne c43
                refine r_iconst (v := 1) C dX8_outlook_87 (by decide) ?_
                refine r_goto 92 C dX8_outlook_88 (by decide) ?_
                refine r_istore_n [(3, .int 1), (0, .ref (gz (xG x) + 55)), (1, .ref (gz (xG x) + 62)), (2, .int a2), (4, .int u2)] C dX8_outlook_92 (by decide) rfl ?_
                refine r_goto 108 C dX8_outlook_93 (by decide) ?_
                obtain ⟨i46, e47⟩ : ∃ z : Int32, u2 + Int32.ofInt 1 = z := ⟨_, rfl⟩
                have i46' := iinc_ok e47 (by decide) (by omega) (by omega)
                refine r_iinc [(4, .int i46), (3, .int 1), (0, .ref (gz (xG x) + 55)), (1, .ref (gz (xG x) + 62)), (2, .int a2)] 4 C dX8_outlook_108 rfl e47 (by decide) rfl ?_
                refine r_goto 5 C dX8_outlook_111 (by decide) ?_
                refine r_lv [2, 3, 4, 1, 0] rfl ?_
                exact ih10 1 i46 w37 h42 o40 (by omega) (by omega)
          · have c16' := i_ne c16
            refine r_aload_n 1 C dX8_outlook_38 rfl ?_
            refine r_iload 4 C dX8_outlook_39 rfl ?_
            refine callVI C cwX8_118_V (ctX6_fate_62 _ _ w5 (sS sC h6) o7 u2 ) (by decide) (kS sC h6 kc_62) rfl rfl rfl (Nat.le_of_ble_eq_true rfl) (by decide) dX8_outlook_41 (fun r50 w49 y48 => ?_)
            show V x 0 0 w49 44 [(0, .ref (gz (xG x) + 55)), (1, .ref (gz (xG x) + 62)), (2, .int a2), (3, .int u1), (4, .int u2)] [.int r50]
            obtain ⟨h51, o52⟩ := y48
            have h53 := Ch.tr h6 h51 (by decide) (by decide)
            refine r_aload_n 0 C dX8_outlook_44 rfl ?_
            refine gfX8_11 56 C (kS sC h53 kc_55) (xS sC h53 xc_55_3) dX8_outlook_45 ?_
            refine r_iconst (v := 0) C dX8_outlook_48 (by decide) ?_
            refine r_aald 3 rfl C (kS sC h53 kc_56) (vin (by omega) (by omega)) (xS sC h53 xc_56_0) dX8_outlook_49 ?_
            refine r_iload 4 C dX8_outlook_50 rfl ?_
            refine callVI C cwX8_118_V (ctX6_fate_59 _ _ w49 (sS sC h53) o52 u2 ) (by decide) (kS sC h53 kc_59) rfl rfl rfl (Nat.le_of_ble_eq_true rfl) (by decide) dX8_outlook_52 (fun r56 w55 y54 => ?_)
            show V x 0 0 w55 55 [(0, .ref (gz (xG x) + 55)), (1, .ref (gz (xG x) + 62)), (2, .int a2), (3, .int u1), (4, .int u2)] [.int r56, .int r50]
            obtain ⟨h57, o58⟩ := y54
            have h59 := Ch.tr h53 h57 (by decide) (by decide)
            refine r_icmp_ne 62 C dX8_outlook_55 (by decide) (fun c60 => ?_) (fun c60 => ?_)
            · have c60' := i_ne c60
              refine r_iconst (v := 0) C dX8_outlook_62 (by decide) ?_
              refine r_istore_n [(3, .int 0), (0, .ref (gz (xG x) + 55)), (1, .ref (gz (xG x) + 62)), (2, .int a2), (4, .int u2)] C dX8_outlook_63 (by decide) rfl ?_
              refine r_goto 108 C dX8_outlook_64 (by decide) ?_
              obtain ⟨i61, e62⟩ : ∃ z : Int32, u2 + Int32.ofInt 1 = z := ⟨_, rfl⟩
              have i61' := iinc_ok e62 (by decide) (by omega) (by omega)
              refine r_iinc [(4, .int i61), (3, .int 0), (0, .ref (gz (xG x) + 55)), (1, .ref (gz (xG x) + 62)), (2, .int a2)] 4 C dX8_outlook_108 rfl e62 (by decide) rfl ?_
              refine r_goto 5 C dX8_outlook_111 (by decide) ?_
              refine r_lv [2, 3, 4, 1, 0] rfl ?_
              exact ih10 0 i61 w55 h59 o58 (by omega) (by omega)
            · have c60' := i_eq c60
              refine r_iload_n 3 C dX8_outlook_58 rfl ?_
              refine r_goto 63 C dX8_outlook_59 (by decide) ?_
              refine r_istore_n [(3, .int u1), (0, .ref (gz (xG x) + 55)), (1, .ref (gz (xG x) + 62)), (2, .int a2), (4, .int u2)] C dX8_outlook_63 (by decide) rfl ?_
              refine r_goto 108 C dX8_outlook_64 (by decide) ?_
              obtain ⟨i63, e64⟩ : ∃ z : Int32, u2 + Int32.ofInt 1 = z := ⟨_, rfl⟩
              have i63' := iinc_ok e64 (by decide) (by omega) (by omega)
              refine r_iinc [(4, .int i63), (3, .int u1), (0, .ref (gz (xG x) + 55)), (1, .ref (gz (xG x) + 62)), (2, .int a2)] 4 C dX8_outlook_108 rfl e64 (by decide) rfl ?_
              refine r_goto 5 C dX8_outlook_111 (by decide) ?_
              refine r_lv [2, 3, 4, 1, 0] rfl ?_
              exact ih10 u1 i63 w55 h59 o58 (by omega) (by omega)
  refine r_iconst (v := 2) C dX8_outlook_0 (by decide) ?_
  refine r_istore_n [(3, .int 2), (0, .ref (gz (xG x) + 55)), (1, .ref (gz (xG x) + 62)), (2, .int a2)] C dX8_outlook_1 (by decide) rfl ?_
  refine r_iconst (v := 0) C dX8_outlook_2 (by decide) ?_
  refine r_istore [(4, .int 0), (3, .int 2), (0, .ref (gz (xG x) + 55)), (1, .ref (gz (xG x) + 62)), (2, .int a2)] C dX8_outlook_3 (by decide) rfl ?_
  refine r_lv [2, 3, 4, 1, 0] rfl ?_
  exact LP3 4294967296 2 0 w h0 o0 (by omega) (by omega)
set_option maxHeartbeats 4000000 in
set_option maxRecDepth 100000 in
theorem ctX8_outlook_55_65 (l : Launch) (G : Gt) (w : Wv) (sC : Str KC XC w) (o0 : Inv RC w) (a2 : Int32) : CtI l G yX8_outlook cX8_outlook 5 .int ({ frames := 2, cells := 0, slots := 0, locals := 49 } : Room) [.ref (gz G + 55), .ref (gz G + 65), .int a2] w (fun r w' => Ch [] [] w w' ∧ Inv RC w') := by
  refine enterI (by decide) (Nat.le_of_ble_eq_true rfl) ?_
  intro x el eG C hret
  subst el; subst eG
  show V x 0 0 w 0 [(0, .ref (gz (xG x) + 55)), (1, .ref (gz (xG x) + 65)), (2, .int a2)] []
  have h0 : Ch [] [] w w := Ch.rf
  have q0 : (0 : Int32).toInt = 0 := by decide
  have q1 : (1 : Int32).toInt = 1 := by decide
  have q2 : (2 : Int32).toInt = 2 := by decide
  have LP3 : ∀ (f4 : Nat) (u1 : Int32) (u2 : Int32) (w5 : Wv), Ch [] [] w w5 → Inv RC w5 → (0 ≤ u2.toInt ∧ u2.toInt ≤ 2147483647) → 2147483647 - u2.toInt < f4 → V x 0 0 w5 5 [(0, .ref (gz (xG x) + 55)), (1, .ref (gz (xG x) + 65)), (2, .int a2), (3, .int u1), (4, .int u2)] [] := by
    intro f4
    induction f4 with
    | zero => intro u1 u2 w5 h6 o7 z8 z9; exfalso; omega
    | succ f4 ih10 =>
      intro u1 u2 w5 h6 o7 z8 z9
      refine r_iload 4 C dX8_outlook_5 rfl ?_
      refine r_aload_n 0 C dX8_outlook_7 rfl ?_
      refine gfX8_24 3 C (kS sC h6 kc_55) (xS sC h6 xc_55_1) dX8_outlook_8 ?_
      refine gfX8_111 (v := (wI w 3 3)) C (kS sC h6 kc_3) (h6.I (by decide) (by decide) rfl) dX8_outlook_11 ?_
      have b11 := Inv.get o0 rt_3_3 (j := 3) (by decide) (by decide)
      have k13 := i_rng u2
      refine r_icmp_ge 114 C dX8_outlook_14 (by decide) (fun c12 => ?_) (fun c12 => ?_)
      · have c12' := i_le c12
        refine r_iload_n 3 C dX8_outlook_114 rfl ?_
        exact hret _ _ _ _ dX8_outlook_115 rfl ⟨h6, o7⟩
      · have c12' := i_nle c12
        refine r_iload_n 3 C dX8_outlook_17 rfl ?_
        refine r_if_eq 114 C dX8_outlook_18 (by decide) (fun c14 => ?_) (fun c14 => ?_)
        · have c14' := i_eq c14
          refine r_iload_n 3 C dX8_outlook_114 rfl ?_
          exact hret _ _ _ _ dX8_outlook_115 rfl ⟨h6, o7⟩
        · have c14' := i_ne c14
          refine r_aload_n 0 C dX8_outlook_21 rfl ?_
          refine gfX8_24 3 C (kS sC h6 kc_55) (xS sC h6 xc_55_1) dX8_outlook_22 ?_
          refine gfX8_116 5 C (kS sC h6 kc_3) (xS sC h6 xc_3_10) dX8_outlook_25 ?_
          refine r_iload 4 C dX8_outlook_28 rfl ?_
          refine r_iald C (kS sC h6 kc_5) (vin (by omega) (by omega)) dX8_outlook_30 ?_
          generalize (wI w5 5 (u2).toNatClampNeg) = v15
          refine r_aload_n 0 C dX8_outlook_31 rfl ?_
          refine gfX8_47 (v := (wI w 55 8)) C (kS sC h6 kc_55) (h6.I (by decide) (by decide) rfl) dX8_outlook_32 ?_
          refine r_icmp_eq 67 C dX8_outlook_35 (by decide) (fun c16 => ?_) (fun c16 => ?_)
          · have c16' := i_eq c16
            refine r_aload_n 1 C dX8_outlook_67 rfl ?_
            refine r_iload 4 C dX8_outlook_68 rfl ?_
            refine callVI C cwX8_121_V (ctX6_isHere_65 _ _ w5 (sS sC h6) o7 u2 ) (by decide) (kS sC h6 kc_65) rfl rfl rfl (Nat.le_of_ble_eq_true rfl) (by decide) dX8_outlook_70 (fun r19 w18 y17 => ?_)
            show V x 0 0 w18 73 [(0, .ref (gz (xG x) + 55)), (1, .ref (gz (xG x) + 65)), (2, .int a2), (3, .int u1), (4, .int u2)] [.int r19]
            obtain ⟨h20, o21, g22⟩ := y17
            have h23 := Ch.tr h6 h20 (by decide) (by decide)
            refine r_if_eq 96 C dX8_outlook_73 (by decide) (fun c24 => ?_) (fun c24 => ?_)
            · have c24' := i_eq c24
              refine r_aload_n 1 C dX8_outlook_96 rfl ?_
              refine r_iload 4 C dX8_outlook_97 rfl ?_
              refine callVI C cwX8_118_V (ctX6_fate_65 _ _ w18 (sS sC h23) o21 u2 ) (by decide) (kS sC h23 kc_65) rfl rfl rfl (Nat.le_of_ble_eq_true rfl) (by decide) dX8_outlook_99 (fun r27 w26 y25 => ?_)
              show V x 0 0 w26 102 [(0, .ref (gz (xG x) + 55)), (1, .ref (gz (xG x) + 65)), (2, .int a2), (3, .int u1), (4, .int u2)] [.int r27]
              obtain ⟨h28, o29⟩ := y25
              have h30 := Ch.tr h23 h28 (by decide) (by decide)
              refine r_iconst (v := 2) C dX8_outlook_102 (by decide) ?_
              refine r_icmp_ne 108 C dX8_outlook_103 (by decide) (fun c31 => ?_) (fun c31 => ?_)
              · have c31' := i_ne c31
                obtain ⟨i32, e33⟩ : ∃ z : Int32, u2 + Int32.ofInt 1 = z := ⟨_, rfl⟩
                have i32' := iinc_ok e33 (by decide) (by omega) (by omega)
                refine r_iinc [(4, .int i32), (0, .ref (gz (xG x) + 55)), (1, .ref (gz (xG x) + 65)), (2, .int a2), (3, .int u1)] 4 C dX8_outlook_108 rfl e33 (by decide) rfl ?_
                refine r_goto 5 C dX8_outlook_111 (by decide) ?_
                refine r_lv [1, 2, 3, 4, 0] rfl ?_
                exact ih10 u1 i32 w26 h30 o29 (by omega) (by omega)
              · have c31' := i_eq c31
                refine r_iconst (v := 0) C dX8_outlook_106 (by decide) ?_
                refine r_istore_n [(3, .int 0), (0, .ref (gz (xG x) + 55)), (1, .ref (gz (xG x) + 65)), (2, .int a2), (4, .int u2)] C dX8_outlook_107 (by decide) rfl ?_
                obtain ⟨i34, e35⟩ : ∃ z : Int32, u2 + Int32.ofInt 1 = z := ⟨_, rfl⟩
                have i34' := iinc_ok e35 (by decide) (by omega) (by omega)
                refine r_iinc [(4, .int i34), (3, .int 0), (0, .ref (gz (xG x) + 55)), (1, .ref (gz (xG x) + 65)), (2, .int a2)] 4 C dX8_outlook_108 rfl e35 (by decide) rfl ?_
                refine r_goto 5 C dX8_outlook_111 (by decide) ?_
                refine r_lv [2, 3, 4, 1, 0] rfl ?_
                exact ih10 0 i34 w26 h30 o29 (by omega) (by omega)
            · have c24' := i_ne c24
              refine r_aload_n 0 C dX8_outlook_76 rfl ?_
              refine r_aload_n 1 C dX8_outlook_77 rfl ?_
              refine r_iload 4 C dX8_outlook_78 rfl ?_
              refine r_iload_n 2 C dX8_outlook_80 rfl ?_
              refine callVI C cwX8_124_V (ctX8_canLeave_55_65 _ _ w18 (sS sC h23) o21 u2 a2 (by omega)) (by decide) (kS sC h23 kc_55) rfl rfl rfl (Nat.le_of_ble_eq_true rfl) (by decide) dX8_outlook_81 (fun r38 w37 y36 => ?_)
              show V x 0 0 w37 84 [(0, .ref (gz (xG x) + 55)), (1, .ref (gz (xG x) + 65)), (2, .int a2), (3, .int u1), (4, .int u2)] [.int r38]
              obtain ⟨h39, o40, g41⟩ := y36
              have h42 := Ch.tr h23 h39 (by decide) (by decide)
              refine r_if_eq 91 C dX8_outlook_84 (by decide) (fun c43 => ?_) (fun c43 => ?_)
              · have c43' := i_eq c43
                refine r_iconst (v := 0) C dX8_outlook_91 (by decide) ?_
                refine r_istore_n [(3, .int 0), (0, .ref (gz (xG x) + 55)), (1, .ref (gz (xG x) + 65)), (2, .int a2), (4, .int u2)] C dX8_outlook_92 (by decide) rfl ?_
                refine r_goto 108 C dX8_outlook_93 (by decide) ?_
                obtain ⟨i44, e45⟩ : ∃ z : Int32, u2 + Int32.ofInt 1 = z := ⟨_, rfl⟩
                have i44' := iinc_ok e45 (by decide) (by omega) (by omega)
                refine r_iinc [(4, .int i44), (3, .int 0), (0, .ref (gz (xG x) + 55)), (1, .ref (gz (xG x) + 65)), (2, .int a2)] 4 C dX8_outlook_108 rfl e45 (by decide) rfl ?_
                refine r_goto 5 C dX8_outlook_111 (by decide) ?_
                refine r_lv [2, 3, 4, 1, 0] rfl ?_
                exact ih10 0 i44 w37 h42 o40 (by omega) (by omega)
              · have c43' := i_ne c43
                refine r_iconst (v := 1) C dX8_outlook_87 (by decide) ?_
                refine r_goto 92 C dX8_outlook_88 (by decide) ?_
                refine r_istore_n [(3, .int 1), (0, .ref (gz (xG x) + 55)), (1, .ref (gz (xG x) + 65)), (2, .int a2), (4, .int u2)] C dX8_outlook_92 (by decide) rfl ?_
                refine r_goto 108 C dX8_outlook_93 (by decide) ?_
                obtain ⟨i46, e47⟩ : ∃ z : Int32, u2 + Int32.ofInt 1 = z := ⟨_, rfl⟩
                have i46' := iinc_ok e47 (by decide) (by omega) (by omega)
                refine r_iinc [(4, .int i46), (3, .int 1), (0, .ref (gz (xG x) + 55)), (1, .ref (gz (xG x) + 65)), (2, .int a2)] 4 C dX8_outlook_108 rfl e47 (by decide) rfl ?_
                refine r_goto 5 C dX8_outlook_111 (by decide) ?_
                refine r_lv [2, 3, 4, 1, 0] rfl ?_
                exact ih10 1 i46 w37 h42 o40 (by omega) (by omega)
          · have c16' := i_ne c16
            refine r_aload_n 1 C dX8_outlook_38 rfl ?_
            refine r_iload 4 C dX8_outlook_39 rfl ?_
            refine callVI C cwX8_118_V (ctX6_fate_65 _ _ w5 (sS sC h6) o7 u2 ) (by decide) (kS sC h6 kc_65) rfl rfl rfl (Nat.le_of_ble_eq_true rfl) (by decide) dX8_outlook_41 (fun r50 w49 y48 => ?_)
            show V x 0 0 w49 44 [(0, .ref (gz (xG x) + 55)), (1, .ref (gz (xG x) + 65)), (2, .int a2), (3, .int u1), (4, .int u2)] [.int r50]
            obtain ⟨h51, o52⟩ := y48
            have h53 := Ch.tr h6 h51 (by decide) (by decide)
            refine r_aload_n 0 C dX8_outlook_44 rfl ?_
            refine gfX8_11 56 C (kS sC h53 kc_55) (xS sC h53 xc_55_3) dX8_outlook_45 ?_
            refine r_iconst (v := 0) C dX8_outlook_48 (by decide) ?_
            refine r_aald 3 rfl C (kS sC h53 kc_56) (vin (by omega) (by omega)) (xS sC h53 xc_56_0) dX8_outlook_49 ?_
            refine r_iload 4 C dX8_outlook_50 rfl ?_
            refine callVI C cwX8_118_V (ctX6_fate_59 _ _ w49 (sS sC h53) o52 u2 ) (by decide) (kS sC h53 kc_59) rfl rfl rfl (Nat.le_of_ble_eq_true rfl) (by decide) dX8_outlook_52 (fun r56 w55 y54 => ?_)
            show V x 0 0 w55 55 [(0, .ref (gz (xG x) + 55)), (1, .ref (gz (xG x) + 65)), (2, .int a2), (3, .int u1), (4, .int u2)] [.int r56, .int r50]
            obtain ⟨h57, o58⟩ := y54
            have h59 := Ch.tr h53 h57 (by decide) (by decide)
            refine r_icmp_ne 62 C dX8_outlook_55 (by decide) (fun c60 => ?_) (fun c60 => ?_)
            · have c60' := i_ne c60
              refine r_iconst (v := 0) C dX8_outlook_62 (by decide) ?_
              refine r_istore_n [(3, .int 0), (0, .ref (gz (xG x) + 55)), (1, .ref (gz (xG x) + 65)), (2, .int a2), (4, .int u2)] C dX8_outlook_63 (by decide) rfl ?_
              refine r_goto 108 C dX8_outlook_64 (by decide) ?_
              obtain ⟨i61, e62⟩ : ∃ z : Int32, u2 + Int32.ofInt 1 = z := ⟨_, rfl⟩
              have i61' := iinc_ok e62 (by decide) (by omega) (by omega)
              refine r_iinc [(4, .int i61), (3, .int 0), (0, .ref (gz (xG x) + 55)), (1, .ref (gz (xG x) + 65)), (2, .int a2)] 4 C dX8_outlook_108 rfl e62 (by decide) rfl ?_
              refine r_goto 5 C dX8_outlook_111 (by decide) ?_
              refine r_lv [2, 3, 4, 1, 0] rfl ?_
              exact ih10 0 i61 w55 h59 o58 (by omega) (by omega)
            · have c60' := i_eq c60
              refine r_iload_n 3 C dX8_outlook_58 rfl ?_
              refine r_goto 63 C dX8_outlook_59 (by decide) ?_
              refine r_istore_n [(3, .int u1), (0, .ref (gz (xG x) + 55)), (1, .ref (gz (xG x) + 65)), (2, .int a2), (4, .int u2)] C dX8_outlook_63 (by decide) rfl ?_
              refine r_goto 108 C dX8_outlook_64 (by decide) ?_
              obtain ⟨i63, e64⟩ : ∃ z : Int32, u2 + Int32.ofInt 1 = z := ⟨_, rfl⟩
              have i63' := iinc_ok e64 (by decide) (by omega) (by omega)
              refine r_iinc [(4, .int i63), (3, .int u1), (0, .ref (gz (xG x) + 55)), (1, .ref (gz (xG x) + 65)), (2, .int a2)] 4 C dX8_outlook_108 rfl e64 (by decide) rfl ?_
              refine r_goto 5 C dX8_outlook_111 (by decide) ?_
              refine r_lv [2, 3, 4, 1, 0] rfl ?_
              exact ih10 u1 i63 w55 h59 o58 (by omega) (by omega)
  refine r_iconst (v := 2) C dX8_outlook_0 (by decide) ?_
  refine r_istore_n [(3, .int 2), (0, .ref (gz (xG x) + 55)), (1, .ref (gz (xG x) + 65)), (2, .int a2)] C dX8_outlook_1 (by decide) rfl ?_
  refine r_iconst (v := 0) C dX8_outlook_2 (by decide) ?_
  refine r_istore [(4, .int 0), (3, .int 2), (0, .ref (gz (xG x) + 55)), (1, .ref (gz (xG x) + 65)), (2, .int a2)] C dX8_outlook_3 (by decide) rfl ?_
  refine r_lv [2, 3, 4, 1, 0] rfl ?_
  exact LP3 4294967296 2 0 w h0 o0 (by omega) (by omega)
set_option maxHeartbeats 4000000 in
set_option maxRecDepth 100000 in
theorem ctX8_outlook_55_68 (l : Launch) (G : Gt) (w : Wv) (sC : Str KC XC w) (o0 : Inv RC w) (a2 : Int32) : CtI l G yX8_outlook cX8_outlook 5 .int ({ frames := 2, cells := 0, slots := 0, locals := 49 } : Room) [.ref (gz G + 55), .ref (gz G + 68), .int a2] w (fun r w' => Ch [] [] w w' ∧ Inv RC w') := by
  refine enterI (by decide) (Nat.le_of_ble_eq_true rfl) ?_
  intro x el eG C hret
  subst el; subst eG
  show V x 0 0 w 0 [(0, .ref (gz (xG x) + 55)), (1, .ref (gz (xG x) + 68)), (2, .int a2)] []
  have h0 : Ch [] [] w w := Ch.rf
  have q0 : (0 : Int32).toInt = 0 := by decide
  have q1 : (1 : Int32).toInt = 1 := by decide
  have q2 : (2 : Int32).toInt = 2 := by decide
  have LP3 : ∀ (f4 : Nat) (u1 : Int32) (u2 : Int32) (w5 : Wv), Ch [] [] w w5 → Inv RC w5 → (0 ≤ u2.toInt ∧ u2.toInt ≤ 2147483647) → 2147483647 - u2.toInt < f4 → V x 0 0 w5 5 [(0, .ref (gz (xG x) + 55)), (1, .ref (gz (xG x) + 68)), (2, .int a2), (3, .int u1), (4, .int u2)] [] := by
    intro f4
    induction f4 with
    | zero => intro u1 u2 w5 h6 o7 z8 z9; exfalso; omega
    | succ f4 ih10 =>
      intro u1 u2 w5 h6 o7 z8 z9
      refine r_iload 4 C dX8_outlook_5 rfl ?_
      refine r_aload_n 0 C dX8_outlook_7 rfl ?_
      refine gfX8_24 3 C (kS sC h6 kc_55) (xS sC h6 xc_55_1) dX8_outlook_8 ?_
      refine gfX8_111 (v := (wI w 3 3)) C (kS sC h6 kc_3) (h6.I (by decide) (by decide) rfl) dX8_outlook_11 ?_
      have b11 := Inv.get o0 rt_3_3 (j := 3) (by decide) (by decide)
      have k13 := i_rng u2
      refine r_icmp_ge 114 C dX8_outlook_14 (by decide) (fun c12 => ?_) (fun c12 => ?_)
      · have c12' := i_le c12
        refine r_iload_n 3 C dX8_outlook_114 rfl ?_
        exact hret _ _ _ _ dX8_outlook_115 rfl ⟨h6, o7⟩
      · have c12' := i_nle c12
        refine r_iload_n 3 C dX8_outlook_17 rfl ?_
        refine r_if_eq 114 C dX8_outlook_18 (by decide) (fun c14 => ?_) (fun c14 => ?_)
        · have c14' := i_eq c14
          refine r_iload_n 3 C dX8_outlook_114 rfl ?_
          exact hret _ _ _ _ dX8_outlook_115 rfl ⟨h6, o7⟩
        · have c14' := i_ne c14
          refine r_aload_n 0 C dX8_outlook_21 rfl ?_
          refine gfX8_24 3 C (kS sC h6 kc_55) (xS sC h6 xc_55_1) dX8_outlook_22 ?_
          refine gfX8_116 5 C (kS sC h6 kc_3) (xS sC h6 xc_3_10) dX8_outlook_25 ?_
          refine r_iload 4 C dX8_outlook_28 rfl ?_
          refine r_iald C (kS sC h6 kc_5) (vin (by omega) (by omega)) dX8_outlook_30 ?_
          generalize (wI w5 5 (u2).toNatClampNeg) = v15
          refine r_aload_n 0 C dX8_outlook_31 rfl ?_
          refine gfX8_47 (v := (wI w 55 8)) C (kS sC h6 kc_55) (h6.I (by decide) (by decide) rfl) dX8_outlook_32 ?_
          refine r_icmp_eq 67 C dX8_outlook_35 (by decide) (fun c16 => ?_) (fun c16 => ?_)
          · have c16' := i_eq c16
            refine r_aload_n 1 C dX8_outlook_67 rfl ?_
            refine r_iload 4 C dX8_outlook_68 rfl ?_
            refine callVI C cwX8_121_V (ctX6_isHere_68 _ _ w5 (sS sC h6) o7 u2 ) (by decide) (kS sC h6 kc_68) rfl rfl rfl (Nat.le_of_ble_eq_true rfl) (by decide) dX8_outlook_70 (fun r19 w18 y17 => ?_)
            show V x 0 0 w18 73 [(0, .ref (gz (xG x) + 55)), (1, .ref (gz (xG x) + 68)), (2, .int a2), (3, .int u1), (4, .int u2)] [.int r19]
            obtain ⟨h20, o21, g22⟩ := y17
            have h23 := Ch.tr h6 h20 (by decide) (by decide)
            refine r_if_eq 96 C dX8_outlook_73 (by decide) (fun c24 => ?_) (fun c24 => ?_)
            · have c24' := i_eq c24
              refine r_aload_n 1 C dX8_outlook_96 rfl ?_
              refine r_iload 4 C dX8_outlook_97 rfl ?_
              refine callVI C cwX8_118_V (ctX6_fate_68 _ _ w18 (sS sC h23) o21 u2 ) (by decide) (kS sC h23 kc_68) rfl rfl rfl (Nat.le_of_ble_eq_true rfl) (by decide) dX8_outlook_99 (fun r27 w26 y25 => ?_)
              show V x 0 0 w26 102 [(0, .ref (gz (xG x) + 55)), (1, .ref (gz (xG x) + 68)), (2, .int a2), (3, .int u1), (4, .int u2)] [.int r27]
              obtain ⟨h28, o29⟩ := y25
              have h30 := Ch.tr h23 h28 (by decide) (by decide)
              refine r_iconst (v := 2) C dX8_outlook_102 (by decide) ?_
              refine r_icmp_ne 108 C dX8_outlook_103 (by decide) (fun c31 => ?_) (fun c31 => ?_)
              · have c31' := i_ne c31
                obtain ⟨i32, e33⟩ : ∃ z : Int32, u2 + Int32.ofInt 1 = z := ⟨_, rfl⟩
                have i32' := iinc_ok e33 (by decide) (by omega) (by omega)
                refine r_iinc [(4, .int i32), (0, .ref (gz (xG x) + 55)), (1, .ref (gz (xG x) + 68)), (2, .int a2), (3, .int u1)] 4 C dX8_outlook_108 rfl e33 (by decide) rfl ?_
                refine r_goto 5 C dX8_outlook_111 (by decide) ?_
                refine r_lv [1, 2, 3, 4, 0] rfl ?_
                exact ih10 u1 i32 w26 h30 o29 (by omega) (by omega)
              · have c31' := i_eq c31
                refine r_iconst (v := 0) C dX8_outlook_106 (by decide) ?_
                refine r_istore_n [(3, .int 0), (0, .ref (gz (xG x) + 55)), (1, .ref (gz (xG x) + 68)), (2, .int a2), (4, .int u2)] C dX8_outlook_107 (by decide) rfl ?_
                obtain ⟨i34, e35⟩ : ∃ z : Int32, u2 + Int32.ofInt 1 = z := ⟨_, rfl⟩
                have i34' := iinc_ok e35 (by decide) (by omega) (by omega)
                refine r_iinc [(4, .int i34), (3, .int 0), (0, .ref (gz (xG x) + 55)), (1, .ref (gz (xG x) + 68)), (2, .int a2)] 4 C dX8_outlook_108 rfl e35 (by decide) rfl ?_
                refine r_goto 5 C dX8_outlook_111 (by decide) ?_
                refine r_lv [2, 3, 4, 1, 0] rfl ?_
                exact ih10 0 i34 w26 h30 o29 (by omega) (by omega)
            · have c24' := i_ne c24
              refine r_aload_n 0 C dX8_outlook_76 rfl ?_
              refine r_aload_n 1 C dX8_outlook_77 rfl ?_
              refine r_iload 4 C dX8_outlook_78 rfl ?_
              refine r_iload_n 2 C dX8_outlook_80 rfl ?_
              refine callVI C cwX8_124_V (ctX8_canLeave_55_68 _ _ w18 (sS sC h23) o21 u2 a2 (by omega)) (by decide) (kS sC h23 kc_55) rfl rfl rfl (Nat.le_of_ble_eq_true rfl) (by decide) dX8_outlook_81 (fun r38 w37 y36 => ?_)
              show V x 0 0 w37 84 [(0, .ref (gz (xG x) + 55)), (1, .ref (gz (xG x) + 68)), (2, .int a2), (3, .int u1), (4, .int u2)] [.int r38]
              obtain ⟨h39, o40, g41⟩ := y36
              have h42 := Ch.tr h23 h39 (by decide) (by decide)
              refine r_if_eq 91 C dX8_outlook_84 (by decide) (fun c43 => ?_) (fun c43 => ?_)
              · have c43' := i_eq c43
                refine r_iconst (v := 0) C dX8_outlook_91 (by decide) ?_
                refine r_istore_n [(3, .int 0), (0, .ref (gz (xG x) + 55)), (1, .ref (gz (xG x) + 68)), (2, .int a2), (4, .int u2)] C dX8_outlook_92 (by decide) rfl ?_
                refine r_goto 108 C dX8_outlook_93 (by decide) ?_
                obtain ⟨i44, e45⟩ : ∃ z : Int32, u2 + Int32.ofInt 1 = z := ⟨_, rfl⟩
                have i44' := iinc_ok e45 (by decide) (by omega) (by omega)
                refine r_iinc [(4, .int i44), (3, .int 0), (0, .ref (gz (xG x) + 55)), (1, .ref (gz (xG x) + 68)), (2, .int a2)] 4 C dX8_outlook_108 rfl e45 (by decide) rfl ?_
                refine r_goto 5 C dX8_outlook_111 (by decide) ?_
                refine r_lv [2, 3, 4, 1, 0] rfl ?_
                exact ih10 0 i44 w37 h42 o40 (by omega) (by omega)
              · have c43' := i_ne c43
                refine r_iconst (v := 1) C dX8_outlook_87 (by decide) ?_
                refine r_goto 92 C dX8_outlook_88 (by decide) ?_
                refine r_istore_n [(3, .int 1), (0, .ref (gz (xG x) + 55)), (1, .ref (gz (xG x) + 68)), (2, .int a2), (4, .int u2)] C dX8_outlook_92 (by decide) rfl ?_
                refine r_goto 108 C dX8_outlook_93 (by decide) ?_
                obtain ⟨i46, e47⟩ : ∃ z : Int32, u2 + Int32.ofInt 1 = z := ⟨_, rfl⟩
                have i46' := iinc_ok e47 (by decide) (by omega) (by omega)
                refine r_iinc [(4, .int i46), (3, .int 1), (0, .ref (gz (xG x) + 55)), (1, .ref (gz (xG x) + 68)), (2, .int a2)] 4 C dX8_outlook_108 rfl e47 (by decide) rfl ?_
                refine r_goto 5 C dX8_outlook_111 (by decide) ?_
                refine r_lv [2, 3, 4, 1, 0] rfl ?_
                exact ih10 1 i46 w37 h42 o40 (by omega) (by omega)
          · have c16' := i_ne c16
            refine r_aload_n 1 C dX8_outlook_38 rfl ?_
            refine r_iload 4 C dX8_outlook_39 rfl ?_
            refine callVI C cwX8_118_V (ctX6_fate_68 _ _ w5 (sS sC h6) o7 u2 ) (by decide) (kS sC h6 kc_68) rfl rfl rfl (Nat.le_of_ble_eq_true rfl) (by decide) dX8_outlook_41 (fun r50 w49 y48 => ?_)
            show V x 0 0 w49 44 [(0, .ref (gz (xG x) + 55)), (1, .ref (gz (xG x) + 68)), (2, .int a2), (3, .int u1), (4, .int u2)] [.int r50]
            obtain ⟨h51, o52⟩ := y48
            have h53 := Ch.tr h6 h51 (by decide) (by decide)
            refine r_aload_n 0 C dX8_outlook_44 rfl ?_
            refine gfX8_11 56 C (kS sC h53 kc_55) (xS sC h53 xc_55_3) dX8_outlook_45 ?_
            refine r_iconst (v := 0) C dX8_outlook_48 (by decide) ?_
            refine r_aald 3 rfl C (kS sC h53 kc_56) (vin (by omega) (by omega)) (xS sC h53 xc_56_0) dX8_outlook_49 ?_
            refine r_iload 4 C dX8_outlook_50 rfl ?_
            refine callVI C cwX8_118_V (ctX6_fate_59 _ _ w49 (sS sC h53) o52 u2 ) (by decide) (kS sC h53 kc_59) rfl rfl rfl (Nat.le_of_ble_eq_true rfl) (by decide) dX8_outlook_52 (fun r56 w55 y54 => ?_)
            show V x 0 0 w55 55 [(0, .ref (gz (xG x) + 55)), (1, .ref (gz (xG x) + 68)), (2, .int a2), (3, .int u1), (4, .int u2)] [.int r56, .int r50]
            obtain ⟨h57, o58⟩ := y54
            have h59 := Ch.tr h53 h57 (by decide) (by decide)
            refine r_icmp_ne 62 C dX8_outlook_55 (by decide) (fun c60 => ?_) (fun c60 => ?_)
            · have c60' := i_ne c60
              refine r_iconst (v := 0) C dX8_outlook_62 (by decide) ?_
              refine r_istore_n [(3, .int 0), (0, .ref (gz (xG x) + 55)), (1, .ref (gz (xG x) + 68)), (2, .int a2), (4, .int u2)] C dX8_outlook_63 (by decide) rfl ?_
              refine r_goto 108 C dX8_outlook_64 (by decide) ?_
              obtain ⟨i61, e62⟩ : ∃ z : Int32, u2 + Int32.ofInt 1 = z := ⟨_, rfl⟩
              have i61' := iinc_ok e62 (by decide) (by omega) (by omega)
              refine r_iinc [(4, .int i61), (3, .int 0), (0, .ref (gz (xG x) + 55)), (1, .ref (gz (xG x) + 68)), (2, .int a2)] 4 C dX8_outlook_108 rfl e62 (by decide) rfl ?_
              refine r_goto 5 C dX8_outlook_111 (by decide) ?_
              refine r_lv [2, 3, 4, 1, 0] rfl ?_
              exact ih10 0 i61 w55 h59 o58 (by omega) (by omega)
            · have c60' := i_eq c60
              refine r_iload_n 3 C dX8_outlook_58 rfl ?_
              refine r_goto 63 C dX8_outlook_59 (by decide) ?_
              refine r_istore_n [(3, .int u1), (0, .ref (gz (xG x) + 55)), (1, .ref (gz (xG x) + 68)), (2, .int a2), (4, .int u2)] C dX8_outlook_63 (by decide) rfl ?_
              refine r_goto 108 C dX8_outlook_64 (by decide) ?_
              obtain ⟨i63, e64⟩ : ∃ z : Int32, u2 + Int32.ofInt 1 = z := ⟨_, rfl⟩
              have i63' := iinc_ok e64 (by decide) (by omega) (by omega)
              refine r_iinc [(4, .int i63), (3, .int u1), (0, .ref (gz (xG x) + 55)), (1, .ref (gz (xG x) + 68)), (2, .int a2)] 4 C dX8_outlook_108 rfl e64 (by decide) rfl ?_
              refine r_goto 5 C dX8_outlook_111 (by decide) ?_
              refine r_lv [2, 3, 4, 1, 0] rfl ?_
              exact ih10 u1 i63 w55 h59 o58 (by omega) (by omega)
  refine r_iconst (v := 2) C dX8_outlook_0 (by decide) ?_
  refine r_istore_n [(3, .int 2), (0, .ref (gz (xG x) + 55)), (1, .ref (gz (xG x) + 68)), (2, .int a2)] C dX8_outlook_1 (by decide) rfl ?_
  refine r_iconst (v := 0) C dX8_outlook_2 (by decide) ?_
  refine r_istore [(4, .int 0), (3, .int 2), (0, .ref (gz (xG x) + 55)), (1, .ref (gz (xG x) + 68)), (2, .int a2)] C dX8_outlook_3 (by decide) rfl ?_
  refine r_lv [2, 3, 4, 1, 0] rfl ?_
  exact LP3 4294967296 2 0 w h0 o0 (by omega) (by omega)
set_option maxHeartbeats 4000000 in
set_option maxRecDepth 100000 in
theorem ctX8_outlook_55_71 (l : Launch) (G : Gt) (w : Wv) (sC : Str KC XC w) (o0 : Inv RC w) (a2 : Int32) : CtI l G yX8_outlook cX8_outlook 5 .int ({ frames := 2, cells := 0, slots := 0, locals := 49 } : Room) [.ref (gz G + 55), .ref (gz G + 71), .int a2] w (fun r w' => Ch [] [] w w' ∧ Inv RC w') := by
  refine enterI (by decide) (Nat.le_of_ble_eq_true rfl) ?_
  intro x el eG C hret
  subst el; subst eG
  show V x 0 0 w 0 [(0, .ref (gz (xG x) + 55)), (1, .ref (gz (xG x) + 71)), (2, .int a2)] []
  have h0 : Ch [] [] w w := Ch.rf
  have q0 : (0 : Int32).toInt = 0 := by decide
  have q1 : (1 : Int32).toInt = 1 := by decide
  have q2 : (2 : Int32).toInt = 2 := by decide
  have LP3 : ∀ (f4 : Nat) (u1 : Int32) (u2 : Int32) (w5 : Wv), Ch [] [] w w5 → Inv RC w5 → (0 ≤ u2.toInt ∧ u2.toInt ≤ 2147483647) → 2147483647 - u2.toInt < f4 → V x 0 0 w5 5 [(0, .ref (gz (xG x) + 55)), (1, .ref (gz (xG x) + 71)), (2, .int a2), (3, .int u1), (4, .int u2)] [] := by
    intro f4
    induction f4 with
    | zero => intro u1 u2 w5 h6 o7 z8 z9; exfalso; omega
    | succ f4 ih10 =>
      intro u1 u2 w5 h6 o7 z8 z9
      refine r_iload 4 C dX8_outlook_5 rfl ?_
      refine r_aload_n 0 C dX8_outlook_7 rfl ?_
      refine gfX8_24 3 C (kS sC h6 kc_55) (xS sC h6 xc_55_1) dX8_outlook_8 ?_
      refine gfX8_111 (v := (wI w 3 3)) C (kS sC h6 kc_3) (h6.I (by decide) (by decide) rfl) dX8_outlook_11 ?_
      have b11 := Inv.get o0 rt_3_3 (j := 3) (by decide) (by decide)
      have k13 := i_rng u2
      refine r_icmp_ge 114 C dX8_outlook_14 (by decide) (fun c12 => ?_) (fun c12 => ?_)
      · have c12' := i_le c12
        refine r_iload_n 3 C dX8_outlook_114 rfl ?_
        exact hret _ _ _ _ dX8_outlook_115 rfl ⟨h6, o7⟩
      · have c12' := i_nle c12
        refine r_iload_n 3 C dX8_outlook_17 rfl ?_
        refine r_if_eq 114 C dX8_outlook_18 (by decide) (fun c14 => ?_) (fun c14 => ?_)
        · have c14' := i_eq c14
          refine r_iload_n 3 C dX8_outlook_114 rfl ?_
          exact hret _ _ _ _ dX8_outlook_115 rfl ⟨h6, o7⟩
        · have c14' := i_ne c14
          refine r_aload_n 0 C dX8_outlook_21 rfl ?_
          refine gfX8_24 3 C (kS sC h6 kc_55) (xS sC h6 xc_55_1) dX8_outlook_22 ?_
          refine gfX8_116 5 C (kS sC h6 kc_3) (xS sC h6 xc_3_10) dX8_outlook_25 ?_
          refine r_iload 4 C dX8_outlook_28 rfl ?_
          refine r_iald C (kS sC h6 kc_5) (vin (by omega) (by omega)) dX8_outlook_30 ?_
          generalize (wI w5 5 (u2).toNatClampNeg) = v15
          refine r_aload_n 0 C dX8_outlook_31 rfl ?_
          refine gfX8_47 (v := (wI w 55 8)) C (kS sC h6 kc_55) (h6.I (by decide) (by decide) rfl) dX8_outlook_32 ?_
          refine r_icmp_eq 67 C dX8_outlook_35 (by decide) (fun c16 => ?_) (fun c16 => ?_)
          · have c16' := i_eq c16
            refine r_aload_n 1 C dX8_outlook_67 rfl ?_
            refine r_iload 4 C dX8_outlook_68 rfl ?_
            refine callVI C cwX8_121_V (ctX6_isHere_71 _ _ w5 (sS sC h6) o7 u2 ) (by decide) (kS sC h6 kc_71) rfl rfl rfl (Nat.le_of_ble_eq_true rfl) (by decide) dX8_outlook_70 (fun r19 w18 y17 => ?_)
            show V x 0 0 w18 73 [(0, .ref (gz (xG x) + 55)), (1, .ref (gz (xG x) + 71)), (2, .int a2), (3, .int u1), (4, .int u2)] [.int r19]
            obtain ⟨h20, o21, g22⟩ := y17
            have h23 := Ch.tr h6 h20 (by decide) (by decide)
            refine r_if_eq 96 C dX8_outlook_73 (by decide) (fun c24 => ?_) (fun c24 => ?_)
            · have c24' := i_eq c24
              refine r_aload_n 1 C dX8_outlook_96 rfl ?_
              refine r_iload 4 C dX8_outlook_97 rfl ?_
              refine callVI C cwX8_118_V (ctX6_fate_71 _ _ w18 (sS sC h23) o21 u2 ) (by decide) (kS sC h23 kc_71) rfl rfl rfl (Nat.le_of_ble_eq_true rfl) (by decide) dX8_outlook_99 (fun r27 w26 y25 => ?_)
              show V x 0 0 w26 102 [(0, .ref (gz (xG x) + 55)), (1, .ref (gz (xG x) + 71)), (2, .int a2), (3, .int u1), (4, .int u2)] [.int r27]
              obtain ⟨h28, o29⟩ := y25
              have h30 := Ch.tr h23 h28 (by decide) (by decide)
              refine r_iconst (v := 2) C dX8_outlook_102 (by decide) ?_
              refine r_icmp_ne 108 C dX8_outlook_103 (by decide) (fun c31 => ?_) (fun c31 => ?_)
              · have c31' := i_ne c31
                obtain ⟨i32, e33⟩ : ∃ z : Int32, u2 + Int32.ofInt 1 = z := ⟨_, rfl⟩
                have i32' := iinc_ok e33 (by decide) (by omega) (by omega)
                refine r_iinc [(4, .int i32), (0, .ref (gz (xG x) + 55)), (1, .ref (gz (xG x) + 71)), (2, .int a2), (3, .int u1)] 4 C dX8_outlook_108 rfl e33 (by decide) rfl ?_
                refine r_goto 5 C dX8_outlook_111 (by decide) ?_
                refine r_lv [1, 2, 3, 4, 0] rfl ?_
                exact ih10 u1 i32 w26 h30 o29 (by omega) (by omega)
              · have c31' := i_eq c31
                refine r_iconst (v := 0) C dX8_outlook_106 (by decide) ?_
                refine r_istore_n [(3, .int 0), (0, .ref (gz (xG x) + 55)), (1, .ref (gz (xG x) + 71)), (2, .int a2), (4, .int u2)] C dX8_outlook_107 (by decide) rfl ?_
                obtain ⟨i34, e35⟩ : ∃ z : Int32, u2 + Int32.ofInt 1 = z := ⟨_, rfl⟩
                have i34' := iinc_ok e35 (by decide) (by omega) (by omega)
                refine r_iinc [(4, .int i34), (3, .int 0), (0, .ref (gz (xG x) + 55)), (1, .ref (gz (xG x) + 71)), (2, .int a2)] 4 C dX8_outlook_108 rfl e35 (by decide) rfl ?_
                refine r_goto 5 C dX8_outlook_111 (by decide) ?_
                refine r_lv [2, 3, 4, 1, 0] rfl ?_
                exact ih10 0 i34 w26 h30 o29 (by omega) (by omega)
            · have c24' := i_ne c24
              refine r_aload_n 0 C dX8_outlook_76 rfl ?_
              refine r_aload_n 1 C dX8_outlook_77 rfl ?_
              refine r_iload 4 C dX8_outlook_78 rfl ?_
              refine r_iload_n 2 C dX8_outlook_80 rfl ?_
              refine callVI C cwX8_124_V (ctX8_canLeave_55_71 _ _ w18 (sS sC h23) o21 u2 a2 (by omega)) (by decide) (kS sC h23 kc_55) rfl rfl rfl (Nat.le_of_ble_eq_true rfl) (by decide) dX8_outlook_81 (fun r38 w37 y36 => ?_)
              show V x 0 0 w37 84 [(0, .ref (gz (xG x) + 55)), (1, .ref (gz (xG x) + 71)), (2, .int a2), (3, .int u1), (4, .int u2)] [.int r38]
              obtain ⟨h39, o40, g41⟩ := y36
              have h42 := Ch.tr h23 h39 (by decide) (by decide)
              refine r_if_eq 91 C dX8_outlook_84 (by decide) (fun c43 => ?_) (fun c43 => ?_)
              · have c43' := i_eq c43
                refine r_iconst (v := 0) C dX8_outlook_91 (by decide) ?_
                refine r_istore_n [(3, .int 0), (0, .ref (gz (xG x) + 55)), (1, .ref (gz (xG x) + 71)), (2, .int a2), (4, .int u2)] C dX8_outlook_92 (by decide) rfl ?_
                refine r_goto 108 C dX8_outlook_93 (by decide) ?_
                obtain ⟨i44, e45⟩ : ∃ z : Int32, u2 + Int32.ofInt 1 = z := ⟨_, rfl⟩
                have i44' := iinc_ok e45 (by decide) (by omega) (by omega)
                refine r_iinc [(4, .int i44), (3, .int 0), (0, .ref (gz (xG x) + 55)), (1, .ref (gz (xG x) + 71)), (2, .int a2)] 4 C dX8_outlook_108 rfl e45 (by decide) rfl ?_
                refine r_goto 5 C dX8_outlook_111 (by decide) ?_
                refine r_lv [2, 3, 4, 1, 0] rfl ?_
                exact ih10 0 i44 w37 h42 o40 (by omega) (by omega)
              · have c43' := i_ne c43
                refine r_iconst (v := 1) C dX8_outlook_87 (by decide) ?_
                refine r_goto 92 C dX8_outlook_88 (by decide) ?_
                refine r_istore_n [(3, .int 1), (0, .ref (gz (xG x) + 55)), (1, .ref (gz (xG x) + 71)), (2, .int a2), (4, .int u2)] C dX8_outlook_92 (by decide) rfl ?_
                refine r_goto 108 C dX8_outlook_93 (by decide) ?_
                obtain ⟨i46, e47⟩ : ∃ z : Int32, u2 + Int32.ofInt 1 = z := ⟨_, rfl⟩
                have i46' := iinc_ok e47 (by decide) (by omega) (by omega)
                refine r_iinc [(4, .int i46), (3, .int 1), (0, .ref (gz (xG x) + 55)), (1, .ref (gz (xG x) + 71)), (2, .int a2)] 4 C dX8_outlook_108 rfl e47 (by decide) rfl ?_
                refine r_goto 5 C dX8_outlook_111 (by decide) ?_
                refine r_lv [2, 3, 4, 1, 0] rfl ?_
                exact ih10 1 i46 w37 h42 o40 (by omega) (by omega)
          · have c16' := i_ne c16
            refine r_aload_n 1 C dX8_outlook_38 rfl ?_
            refine r_iload 4 C dX8_outlook_39 rfl ?_
            refine callVI C cwX8_118_V (ctX6_fate_71 _ _ w5 (sS sC h6) o7 u2 ) (by decide) (kS sC h6 kc_71) rfl rfl rfl (Nat.le_of_ble_eq_true rfl) (by decide) dX8_outlook_41 (fun r50 w49 y48 => ?_)
            show V x 0 0 w49 44 [(0, .ref (gz (xG x) + 55)), (1, .ref (gz (xG x) + 71)), (2, .int a2), (3, .int u1), (4, .int u2)] [.int r50]
            obtain ⟨h51, o52⟩ := y48
            have h53 := Ch.tr h6 h51 (by decide) (by decide)
            refine r_aload_n 0 C dX8_outlook_44 rfl ?_
            refine gfX8_11 56 C (kS sC h53 kc_55) (xS sC h53 xc_55_3) dX8_outlook_45 ?_
            refine r_iconst (v := 0) C dX8_outlook_48 (by decide) ?_
            refine r_aald 3 rfl C (kS sC h53 kc_56) (vin (by omega) (by omega)) (xS sC h53 xc_56_0) dX8_outlook_49 ?_
            refine r_iload 4 C dX8_outlook_50 rfl ?_
            refine callVI C cwX8_118_V (ctX6_fate_59 _ _ w49 (sS sC h53) o52 u2 ) (by decide) (kS sC h53 kc_59) rfl rfl rfl (Nat.le_of_ble_eq_true rfl) (by decide) dX8_outlook_52 (fun r56 w55 y54 => ?_)
            show V x 0 0 w55 55 [(0, .ref (gz (xG x) + 55)), (1, .ref (gz (xG x) + 71)), (2, .int a2), (3, .int u1), (4, .int u2)] [.int r56, .int r50]
            obtain ⟨h57, o58⟩ := y54
            have h59 := Ch.tr h53 h57 (by decide) (by decide)
            refine r_icmp_ne 62 C dX8_outlook_55 (by decide) (fun c60 => ?_) (fun c60 => ?_)
            · have c60' := i_ne c60
              refine r_iconst (v := 0) C dX8_outlook_62 (by decide) ?_
              refine r_istore_n [(3, .int 0), (0, .ref (gz (xG x) + 55)), (1, .ref (gz (xG x) + 71)), (2, .int a2), (4, .int u2)] C dX8_outlook_63 (by decide) rfl ?_
              refine r_goto 108 C dX8_outlook_64 (by decide) ?_
              obtain ⟨i61, e62⟩ : ∃ z : Int32, u2 + Int32.ofInt 1 = z := ⟨_, rfl⟩
              have i61' := iinc_ok e62 (by decide) (by omega) (by omega)
              refine r_iinc [(4, .int i61), (3, .int 0), (0, .ref (gz (xG x) + 55)), (1, .ref (gz (xG x) + 71)), (2, .int a2)] 4 C dX8_outlook_108 rfl e62 (by decide) rfl ?_
              refine r_goto 5 C dX8_outlook_111 (by decide) ?_
              refine r_lv [2, 3, 4, 1, 0] rfl ?_
              exact ih10 0 i61 w55 h59 o58 (by omega) (by omega)
            · have c60' := i_eq c60
              refine r_iload_n 3 C dX8_outlook_58 rfl ?_
              refine r_goto 63 C dX8_outlook_59 (by decide) ?_
              refine r_istore_n [(3, .int u1), (0, .ref (gz (xG x) + 55)), (1, .ref (gz (xG x) + 71)), (2, .int a2), (4, .int u2)] C dX8_outlook_63 (by decide) rfl ?_
              refine r_goto 108 C dX8_outlook_64 (by decide) ?_
              obtain ⟨i63, e64⟩ : ∃ z : Int32, u2 + Int32.ofInt 1 = z := ⟨_, rfl⟩
              have i63' := iinc_ok e64 (by decide) (by omega) (by omega)
              refine r_iinc [(4, .int i63), (3, .int u1), (0, .ref (gz (xG x) + 55)), (1, .ref (gz (xG x) + 71)), (2, .int a2)] 4 C dX8_outlook_108 rfl e64 (by decide) rfl ?_
              refine r_goto 5 C dX8_outlook_111 (by decide) ?_
              refine r_lv [2, 3, 4, 1, 0] rfl ?_
              exact ih10 u1 i63 w55 h59 o58 (by omega) (by omega)
  refine r_iconst (v := 2) C dX8_outlook_0 (by decide) ?_
  refine r_istore_n [(3, .int 2), (0, .ref (gz (xG x) + 55)), (1, .ref (gz (xG x) + 71)), (2, .int a2)] C dX8_outlook_1 (by decide) rfl ?_
  refine r_iconst (v := 0) C dX8_outlook_2 (by decide) ?_
  refine r_istore [(4, .int 0), (3, .int 2), (0, .ref (gz (xG x) + 55)), (1, .ref (gz (xG x) + 71)), (2, .int a2)] C dX8_outlook_3 (by decide) rfl ?_
  refine r_lv [2, 3, 4, 1, 0] rfl ?_
  exact LP3 4294967296 2 0 w h0 o0 (by omega) (by omega)
set_option maxHeartbeats 4000000 in
set_option maxRecDepth 100000 in
theorem ctX8_outlook_55_74 (l : Launch) (G : Gt) (w : Wv) (sC : Str KC XC w) (o0 : Inv RC w) (a2 : Int32) : CtI l G yX8_outlook cX8_outlook 5 .int ({ frames := 2, cells := 0, slots := 0, locals := 49 } : Room) [.ref (gz G + 55), .ref (gz G + 74), .int a2] w (fun r w' => Ch [] [] w w' ∧ Inv RC w') := by
  refine enterI (by decide) (Nat.le_of_ble_eq_true rfl) ?_
  intro x el eG C hret
  subst el; subst eG
  show V x 0 0 w 0 [(0, .ref (gz (xG x) + 55)), (1, .ref (gz (xG x) + 74)), (2, .int a2)] []
  have h0 : Ch [] [] w w := Ch.rf
  have q0 : (0 : Int32).toInt = 0 := by decide
  have q1 : (1 : Int32).toInt = 1 := by decide
  have q2 : (2 : Int32).toInt = 2 := by decide
  have LP3 : ∀ (f4 : Nat) (u1 : Int32) (u2 : Int32) (w5 : Wv), Ch [] [] w w5 → Inv RC w5 → (0 ≤ u2.toInt ∧ u2.toInt ≤ 2147483647) → 2147483647 - u2.toInt < f4 → V x 0 0 w5 5 [(0, .ref (gz (xG x) + 55)), (1, .ref (gz (xG x) + 74)), (2, .int a2), (3, .int u1), (4, .int u2)] [] := by
    intro f4
    induction f4 with
    | zero => intro u1 u2 w5 h6 o7 z8 z9; exfalso; omega
    | succ f4 ih10 =>
      intro u1 u2 w5 h6 o7 z8 z9
      refine r_iload 4 C dX8_outlook_5 rfl ?_
      refine r_aload_n 0 C dX8_outlook_7 rfl ?_
      refine gfX8_24 3 C (kS sC h6 kc_55) (xS sC h6 xc_55_1) dX8_outlook_8 ?_
      refine gfX8_111 (v := (wI w 3 3)) C (kS sC h6 kc_3) (h6.I (by decide) (by decide) rfl) dX8_outlook_11 ?_
      have b11 := Inv.get o0 rt_3_3 (j := 3) (by decide) (by decide)
      have k13 := i_rng u2
      refine r_icmp_ge 114 C dX8_outlook_14 (by decide) (fun c12 => ?_) (fun c12 => ?_)
      · have c12' := i_le c12
        refine r_iload_n 3 C dX8_outlook_114 rfl ?_
        exact hret _ _ _ _ dX8_outlook_115 rfl ⟨h6, o7⟩
      · have c12' := i_nle c12
        refine r_iload_n 3 C dX8_outlook_17 rfl ?_
        refine r_if_eq 114 C dX8_outlook_18 (by decide) (fun c14 => ?_) (fun c14 => ?_)
        · have c14' := i_eq c14
          refine r_iload_n 3 C dX8_outlook_114 rfl ?_
          exact hret _ _ _ _ dX8_outlook_115 rfl ⟨h6, o7⟩
        · have c14' := i_ne c14
          refine r_aload_n 0 C dX8_outlook_21 rfl ?_
          refine gfX8_24 3 C (kS sC h6 kc_55) (xS sC h6 xc_55_1) dX8_outlook_22 ?_
          refine gfX8_116 5 C (kS sC h6 kc_3) (xS sC h6 xc_3_10) dX8_outlook_25 ?_
          refine r_iload 4 C dX8_outlook_28 rfl ?_
          refine r_iald C (kS sC h6 kc_5) (vin (by omega) (by omega)) dX8_outlook_30 ?_
          generalize (wI w5 5 (u2).toNatClampNeg) = v15
          refine r_aload_n 0 C dX8_outlook_31 rfl ?_
          refine gfX8_47 (v := (wI w 55 8)) C (kS sC h6 kc_55) (h6.I (by decide) (by decide) rfl) dX8_outlook_32 ?_
          refine r_icmp_eq 67 C dX8_outlook_35 (by decide) (fun c16 => ?_) (fun c16 => ?_)
          · have c16' := i_eq c16
            refine r_aload_n 1 C dX8_outlook_67 rfl ?_
            refine r_iload 4 C dX8_outlook_68 rfl ?_
            refine callVI C cwX8_121_V (ctX6_isHere_74 _ _ w5 (sS sC h6) o7 u2 ) (by decide) (kS sC h6 kc_74) rfl rfl rfl (Nat.le_of_ble_eq_true rfl) (by decide) dX8_outlook_70 (fun r19 w18 y17 => ?_)
            show V x 0 0 w18 73 [(0, .ref (gz (xG x) + 55)), (1, .ref (gz (xG x) + 74)), (2, .int a2), (3, .int u1), (4, .int u2)] [.int r19]
            obtain ⟨h20, o21, g22⟩ := y17
            have h23 := Ch.tr h6 h20 (by decide) (by decide)
            refine r_if_eq 96 C dX8_outlook_73 (by decide) (fun c24 => ?_) (fun c24 => ?_)
            · have c24' := i_eq c24
              refine r_aload_n 1 C dX8_outlook_96 rfl ?_
              refine r_iload 4 C dX8_outlook_97 rfl ?_
              refine callVI C cwX8_118_V (ctX6_fate_74 _ _ w18 (sS sC h23) o21 u2 ) (by decide) (kS sC h23 kc_74) rfl rfl rfl (Nat.le_of_ble_eq_true rfl) (by decide) dX8_outlook_99 (fun r27 w26 y25 => ?_)
              show V x 0 0 w26 102 [(0, .ref (gz (xG x) + 55)), (1, .ref (gz (xG x) + 74)), (2, .int a2), (3, .int u1), (4, .int u2)] [.int r27]
              obtain ⟨h28, o29⟩ := y25
              have h30 := Ch.tr h23 h28 (by decide) (by decide)
              refine r_iconst (v := 2) C dX8_outlook_102 (by decide) ?_
              refine r_icmp_ne 108 C dX8_outlook_103 (by decide) (fun c31 => ?_) (fun c31 => ?_)
              · have c31' := i_ne c31
                obtain ⟨i32, e33⟩ : ∃ z : Int32, u2 + Int32.ofInt 1 = z := ⟨_, rfl⟩
                have i32' := iinc_ok e33 (by decide) (by omega) (by omega)
                refine r_iinc [(4, .int i32), (0, .ref (gz (xG x) + 55)), (1, .ref (gz (xG x) + 74)), (2, .int a2), (3, .int u1)] 4 C dX8_outlook_108 rfl e33 (by decide) rfl ?_
                refine r_goto 5 C dX8_outlook_111 (by decide) ?_
                refine r_lv [1, 2, 3, 4, 0] rfl ?_
                exact ih10 u1 i32 w26 h30 o29 (by omega) (by omega)
              · have c31' := i_eq c31
                refine r_iconst (v := 0) C dX8_outlook_106 (by decide) ?_
                refine r_istore_n [(3, .int 0), (0, .ref (gz (xG x) + 55)), (1, .ref (gz (xG x) + 74)), (2, .int a2), (4, .int u2)] C dX8_outlook_107 (by decide) rfl ?_
                obtain ⟨i34, e35⟩ : ∃ z : Int32, u2 + Int32.ofInt 1 = z := ⟨_, rfl⟩
                have i34' := iinc_ok e35 (by decide) (by omega) (by omega)
                refine r_iinc [(4, .int i34), (3, .int 0), (0, .ref (gz (xG x) + 55)), (1, .ref (gz (xG x) + 74)), (2, .int a2)] 4 C dX8_outlook_108 rfl e35 (by decide) rfl ?_
                refine r_goto 5 C dX8_outlook_111 (by decide) ?_
                refine r_lv [2, 3, 4, 1, 0] rfl ?_
                exact ih10 0 i34 w26 h30 o29 (by omega) (by omega)
            · have c24' := i_ne c24
              refine r_aload_n 0 C dX8_outlook_76 rfl ?_
              refine r_aload_n 1 C dX8_outlook_77 rfl ?_
              refine r_iload 4 C dX8_outlook_78 rfl ?_
              refine r_iload_n 2 C dX8_outlook_80 rfl ?_
              refine callVI C cwX8_124_V (ctX8_canLeave_55_74 _ _ w18 (sS sC h23) o21 u2 a2 (by omega)) (by decide) (kS sC h23 kc_55) rfl rfl rfl (Nat.le_of_ble_eq_true rfl) (by decide) dX8_outlook_81 (fun r38 w37 y36 => ?_)
              show V x 0 0 w37 84 [(0, .ref (gz (xG x) + 55)), (1, .ref (gz (xG x) + 74)), (2, .int a2), (3, .int u1), (4, .int u2)] [.int r38]
              obtain ⟨h39, o40, g41⟩ := y36
              have h42 := Ch.tr h23 h39 (by decide) (by decide)
              refine r_if_eq 91 C dX8_outlook_84 (by decide) (fun c43 => ?_) (fun c43 => ?_)
              · have c43' := i_eq c43
                refine r_iconst (v := 0) C dX8_outlook_91 (by decide) ?_
                refine r_istore_n [(3, .int 0), (0, .ref (gz (xG x) + 55)), (1, .ref (gz (xG x) + 74)), (2, .int a2), (4, .int u2)] C dX8_outlook_92 (by decide) rfl ?_
                refine r_goto 108 C dX8_outlook_93 (by decide) ?_
                obtain ⟨i44, e45⟩ : ∃ z : Int32, u2 + Int32.ofInt 1 = z := ⟨_, rfl⟩
                have i44' := iinc_ok e45 (by decide) (by omega) (by omega)
                refine r_iinc [(4, .int i44), (3, .int 0), (0, .ref (gz (xG x) + 55)), (1, .ref (gz (xG x) + 74)), (2, .int a2)] 4 C dX8_outlook_108 rfl e45 (by decide) rfl ?_
                refine r_goto 5 C dX8_outlook_111 (by decide) ?_
                refine r_lv [2, 3, 4, 1, 0] rfl ?_
                exact ih10 0 i44 w37 h42 o40 (by omega) (by omega)
              · have c43' := i_ne c43
                refine r_iconst (v := 1) C dX8_outlook_87 (by decide) ?_
                refine r_goto 92 C dX8_outlook_88 (by decide) ?_
                refine r_istore_n [(3, .int 1), (0, .ref (gz (xG x) + 55)), (1, .ref (gz (xG x) + 74)), (2, .int a2), (4, .int u2)] C dX8_outlook_92 (by decide) rfl ?_
                refine r_goto 108 C dX8_outlook_93 (by decide) ?_
                obtain ⟨i46, e47⟩ : ∃ z : Int32, u2 + Int32.ofInt 1 = z := ⟨_, rfl⟩
                have i46' := iinc_ok e47 (by decide) (by omega) (by omega)
                refine r_iinc [(4, .int i46), (3, .int 1), (0, .ref (gz (xG x) + 55)), (1, .ref (gz (xG x) + 74)), (2, .int a2)] 4 C dX8_outlook_108 rfl e47 (by decide) rfl ?_
                refine r_goto 5 C dX8_outlook_111 (by decide) ?_
                refine r_lv [2, 3, 4, 1, 0] rfl ?_
                exact ih10 1 i46 w37 h42 o40 (by omega) (by omega)
          · have c16' := i_ne c16
            refine r_aload_n 1 C dX8_outlook_38 rfl ?_
            refine r_iload 4 C dX8_outlook_39 rfl ?_
            refine callVI C cwX8_118_V (ctX6_fate_74 _ _ w5 (sS sC h6) o7 u2 ) (by decide) (kS sC h6 kc_74) rfl rfl rfl (Nat.le_of_ble_eq_true rfl) (by decide) dX8_outlook_41 (fun r50 w49 y48 => ?_)
            show V x 0 0 w49 44 [(0, .ref (gz (xG x) + 55)), (1, .ref (gz (xG x) + 74)), (2, .int a2), (3, .int u1), (4, .int u2)] [.int r50]
            obtain ⟨h51, o52⟩ := y48
            have h53 := Ch.tr h6 h51 (by decide) (by decide)
            refine r_aload_n 0 C dX8_outlook_44 rfl ?_
            refine gfX8_11 56 C (kS sC h53 kc_55) (xS sC h53 xc_55_3) dX8_outlook_45 ?_
            refine r_iconst (v := 0) C dX8_outlook_48 (by decide) ?_
            refine r_aald 3 rfl C (kS sC h53 kc_56) (vin (by omega) (by omega)) (xS sC h53 xc_56_0) dX8_outlook_49 ?_
            refine r_iload 4 C dX8_outlook_50 rfl ?_
            refine callVI C cwX8_118_V (ctX6_fate_59 _ _ w49 (sS sC h53) o52 u2 ) (by decide) (kS sC h53 kc_59) rfl rfl rfl (Nat.le_of_ble_eq_true rfl) (by decide) dX8_outlook_52 (fun r56 w55 y54 => ?_)
            show V x 0 0 w55 55 [(0, .ref (gz (xG x) + 55)), (1, .ref (gz (xG x) + 74)), (2, .int a2), (3, .int u1), (4, .int u2)] [.int r56, .int r50]
            obtain ⟨h57, o58⟩ := y54
            have h59 := Ch.tr h53 h57 (by decide) (by decide)
            refine r_icmp_ne 62 C dX8_outlook_55 (by decide) (fun c60 => ?_) (fun c60 => ?_)
            · have c60' := i_ne c60
              refine r_iconst (v := 0) C dX8_outlook_62 (by decide) ?_
              refine r_istore_n [(3, .int 0), (0, .ref (gz (xG x) + 55)), (1, .ref (gz (xG x) + 74)), (2, .int a2), (4, .int u2)] C dX8_outlook_63 (by decide) rfl ?_
              refine r_goto 108 C dX8_outlook_64 (by decide) ?_
              obtain ⟨i61, e62⟩ : ∃ z : Int32, u2 + Int32.ofInt 1 = z := ⟨_, rfl⟩
              have i61' := iinc_ok e62 (by decide) (by omega) (by omega)
              refine r_iinc [(4, .int i61), (3, .int 0), (0, .ref (gz (xG x) + 55)), (1, .ref (gz (xG x) + 74)), (2, .int a2)] 4 C dX8_outlook_108 rfl e62 (by decide) rfl ?_
              refine r_goto 5 C dX8_outlook_111 (by decide) ?_
              refine r_lv [2, 3, 4, 1, 0] rfl ?_
              exact ih10 0 i61 w55 h59 o58 (by omega) (by omega)
            · have c60' := i_eq c60
              refine r_iload_n 3 C dX8_outlook_58 rfl ?_
              refine r_goto 63 C dX8_outlook_59 (by decide) ?_
              refine r_istore_n [(3, .int u1), (0, .ref (gz (xG x) + 55)), (1, .ref (gz (xG x) + 74)), (2, .int a2), (4, .int u2)] C dX8_outlook_63 (by decide) rfl ?_
              refine r_goto 108 C dX8_outlook_64 (by decide) ?_
              obtain ⟨i63, e64⟩ : ∃ z : Int32, u2 + Int32.ofInt 1 = z := ⟨_, rfl⟩
              have i63' := iinc_ok e64 (by decide) (by omega) (by omega)
              refine r_iinc [(4, .int i63), (3, .int u1), (0, .ref (gz (xG x) + 55)), (1, .ref (gz (xG x) + 74)), (2, .int a2)] 4 C dX8_outlook_108 rfl e64 (by decide) rfl ?_
              refine r_goto 5 C dX8_outlook_111 (by decide) ?_
              refine r_lv [2, 3, 4, 1, 0] rfl ?_
              exact ih10 u1 i63 w55 h59 o58 (by omega) (by omega)
  refine r_iconst (v := 2) C dX8_outlook_0 (by decide) ?_
  refine r_istore_n [(3, .int 2), (0, .ref (gz (xG x) + 55)), (1, .ref (gz (xG x) + 74)), (2, .int a2)] C dX8_outlook_1 (by decide) rfl ?_
  refine r_iconst (v := 0) C dX8_outlook_2 (by decide) ?_
  refine r_istore [(4, .int 0), (3, .int 2), (0, .ref (gz (xG x) + 55)), (1, .ref (gz (xG x) + 74)), (2, .int a2)] C dX8_outlook_3 (by decide) rfl ?_
  refine r_lv [2, 3, 4, 1, 0] rfl ?_
  exact LP3 4294967296 2 0 w h0 o0 (by omega) (by omega)
set_option maxHeartbeats 4000000 in
set_option maxRecDepth 100000 in
theorem ctX8_outlook_55_77 (l : Launch) (G : Gt) (w : Wv) (sC : Str KC XC w) (o0 : Inv RC w) (a2 : Int32) : CtI l G yX8_outlook cX8_outlook 5 .int ({ frames := 2, cells := 0, slots := 0, locals := 49 } : Room) [.ref (gz G + 55), .ref (gz G + 77), .int a2] w (fun r w' => Ch [] [] w w' ∧ Inv RC w') := by
  refine enterI (by decide) (Nat.le_of_ble_eq_true rfl) ?_
  intro x el eG C hret
  subst el; subst eG
  show V x 0 0 w 0 [(0, .ref (gz (xG x) + 55)), (1, .ref (gz (xG x) + 77)), (2, .int a2)] []
  have h0 : Ch [] [] w w := Ch.rf
  have q0 : (0 : Int32).toInt = 0 := by decide
  have q1 : (1 : Int32).toInt = 1 := by decide
  have q2 : (2 : Int32).toInt = 2 := by decide
  have LP3 : ∀ (f4 : Nat) (u1 : Int32) (u2 : Int32) (w5 : Wv), Ch [] [] w w5 → Inv RC w5 → (0 ≤ u2.toInt ∧ u2.toInt ≤ 2147483647) → 2147483647 - u2.toInt < f4 → V x 0 0 w5 5 [(0, .ref (gz (xG x) + 55)), (1, .ref (gz (xG x) + 77)), (2, .int a2), (3, .int u1), (4, .int u2)] [] := by
    intro f4
    induction f4 with
    | zero => intro u1 u2 w5 h6 o7 z8 z9; exfalso; omega
    | succ f4 ih10 =>
      intro u1 u2 w5 h6 o7 z8 z9
      refine r_iload 4 C dX8_outlook_5 rfl ?_
      refine r_aload_n 0 C dX8_outlook_7 rfl ?_
      refine gfX8_24 3 C (kS sC h6 kc_55) (xS sC h6 xc_55_1) dX8_outlook_8 ?_
      refine gfX8_111 (v := (wI w 3 3)) C (kS sC h6 kc_3) (h6.I (by decide) (by decide) rfl) dX8_outlook_11 ?_
      have b11 := Inv.get o0 rt_3_3 (j := 3) (by decide) (by decide)
      have k13 := i_rng u2
      refine r_icmp_ge 114 C dX8_outlook_14 (by decide) (fun c12 => ?_) (fun c12 => ?_)
      · have c12' := i_le c12
        refine r_iload_n 3 C dX8_outlook_114 rfl ?_
        exact hret _ _ _ _ dX8_outlook_115 rfl ⟨h6, o7⟩
      · have c12' := i_nle c12
        refine r_iload_n 3 C dX8_outlook_17 rfl ?_
        refine r_if_eq 114 C dX8_outlook_18 (by decide) (fun c14 => ?_) (fun c14 => ?_)
        · have c14' := i_eq c14
          refine r_iload_n 3 C dX8_outlook_114 rfl ?_
          exact hret _ _ _ _ dX8_outlook_115 rfl ⟨h6, o7⟩
        · have c14' := i_ne c14
          refine r_aload_n 0 C dX8_outlook_21 rfl ?_
          refine gfX8_24 3 C (kS sC h6 kc_55) (xS sC h6 xc_55_1) dX8_outlook_22 ?_
          refine gfX8_116 5 C (kS sC h6 kc_3) (xS sC h6 xc_3_10) dX8_outlook_25 ?_
          refine r_iload 4 C dX8_outlook_28 rfl ?_
          refine r_iald C (kS sC h6 kc_5) (vin (by omega) (by omega)) dX8_outlook_30 ?_
          generalize (wI w5 5 (u2).toNatClampNeg) = v15
          refine r_aload_n 0 C dX8_outlook_31 rfl ?_
          refine gfX8_47 (v := (wI w 55 8)) C (kS sC h6 kc_55) (h6.I (by decide) (by decide) rfl) dX8_outlook_32 ?_
          refine r_icmp_eq 67 C dX8_outlook_35 (by decide) (fun c16 => ?_) (fun c16 => ?_)
          · have c16' := i_eq c16
            refine r_aload_n 1 C dX8_outlook_67 rfl ?_
            refine r_iload 4 C dX8_outlook_68 rfl ?_
            refine callVI C cwX8_121_V (ctX6_isHere_77 _ _ w5 (sS sC h6) o7 u2 ) (by decide) (kS sC h6 kc_77) rfl rfl rfl (Nat.le_of_ble_eq_true rfl) (by decide) dX8_outlook_70 (fun r19 w18 y17 => ?_)
            show V x 0 0 w18 73 [(0, .ref (gz (xG x) + 55)), (1, .ref (gz (xG x) + 77)), (2, .int a2), (3, .int u1), (4, .int u2)] [.int r19]
            obtain ⟨h20, o21, g22⟩ := y17
            have h23 := Ch.tr h6 h20 (by decide) (by decide)
            refine r_if_eq 96 C dX8_outlook_73 (by decide) (fun c24 => ?_) (fun c24 => ?_)
            · have c24' := i_eq c24
              refine r_aload_n 1 C dX8_outlook_96 rfl ?_
              refine r_iload 4 C dX8_outlook_97 rfl ?_
              refine callVI C cwX8_118_V (ctX6_fate_77 _ _ w18 (sS sC h23) o21 u2 ) (by decide) (kS sC h23 kc_77) rfl rfl rfl (Nat.le_of_ble_eq_true rfl) (by decide) dX8_outlook_99 (fun r27 w26 y25 => ?_)
              show V x 0 0 w26 102 [(0, .ref (gz (xG x) + 55)), (1, .ref (gz (xG x) + 77)), (2, .int a2), (3, .int u1), (4, .int u2)] [.int r27]
              obtain ⟨h28, o29⟩ := y25
              have h30 := Ch.tr h23 h28 (by decide) (by decide)
              refine r_iconst (v := 2) C dX8_outlook_102 (by decide) ?_
              refine r_icmp_ne 108 C dX8_outlook_103 (by decide) (fun c31 => ?_) (fun c31 => ?_)
              · have c31' := i_ne c31
                obtain ⟨i32, e33⟩ : ∃ z : Int32, u2 + Int32.ofInt 1 = z := ⟨_, rfl⟩
                have i32' := iinc_ok e33 (by decide) (by omega) (by omega)
                refine r_iinc [(4, .int i32), (0, .ref (gz (xG x) + 55)), (1, .ref (gz (xG x) + 77)), (2, .int a2), (3, .int u1)] 4 C dX8_outlook_108 rfl e33 (by decide) rfl ?_
                refine r_goto 5 C dX8_outlook_111 (by decide) ?_
                refine r_lv [1, 2, 3, 4, 0] rfl ?_
                exact ih10 u1 i32 w26 h30 o29 (by omega) (by omega)
              · have c31' := i_eq c31
                refine r_iconst (v := 0) C dX8_outlook_106 (by decide) ?_
                refine r_istore_n [(3, .int 0), (0, .ref (gz (xG x) + 55)), (1, .ref (gz (xG x) + 77)), (2, .int a2), (4, .int u2)] C dX8_outlook_107 (by decide) rfl ?_
                obtain ⟨i34, e35⟩ : ∃ z : Int32, u2 + Int32.ofInt 1 = z := ⟨_, rfl⟩
                have i34' := iinc_ok e35 (by decide) (by omega) (by omega)
                refine r_iinc [(4, .int i34), (3, .int 0), (0, .ref (gz (xG x) + 55)), (1, .ref (gz (xG x) + 77)), (2, .int a2)] 4 C dX8_outlook_108 rfl e35 (by decide) rfl ?_
                refine r_goto 5 C dX8_outlook_111 (by decide) ?_
                refine r_lv [2, 3, 4, 1, 0] rfl ?_
                exact ih10 0 i34 w26 h30 o29 (by omega) (by omega)
            · have c24' := i_ne c24
              refine r_aload_n 0 C dX8_outlook_76 rfl ?_
              refine r_aload_n 1 C dX8_outlook_77 rfl ?_
              refine r_iload 4 C dX8_outlook_78 rfl ?_
              refine r_iload_n 2 C dX8_outlook_80 rfl ?_
              refine callVI C cwX8_124_V (ctX8_canLeave_55_77 _ _ w18 (sS sC h23) o21 u2 a2 (by omega)) (by decide) (kS sC h23 kc_55) rfl rfl rfl (Nat.le_of_ble_eq_true rfl) (by decide) dX8_outlook_81 (fun r38 w37 y36 => ?_)
              show V x 0 0 w37 84 [(0, .ref (gz (xG x) + 55)), (1, .ref (gz (xG x) + 77)), (2, .int a2), (3, .int u1), (4, .int u2)] [.int r38]
              obtain ⟨h39, o40, g41⟩ := y36
              have h42 := Ch.tr h23 h39 (by decide) (by decide)
              refine r_if_eq 91 C dX8_outlook_84 (by decide) (fun c43 => ?_) (fun c43 => ?_)
              · have c43' := i_eq c43
                refine r_iconst (v := 0) C dX8_outlook_91 (by decide) ?_
                refine r_istore_n [(3, .int 0), (0, .ref (gz (xG x) + 55)), (1, .ref (gz (xG x) + 77)), (2, .int a2), (4, .int u2)] C dX8_outlook_92 (by decide) rfl ?_
                refine r_goto 108 C dX8_outlook_93 (by decide) ?_
                obtain ⟨i44, e45⟩ : ∃ z : Int32, u2 + Int32.ofInt 1 = z := ⟨_, rfl⟩
                have i44' := iinc_ok e45 (by decide) (by omega) (by omega)
                refine r_iinc [(4, .int i44), (3, .int 0), (0, .ref (gz (xG x) + 55)), (1, .ref (gz (xG x) + 77)), (2, .int a2)] 4 C dX8_outlook_108 rfl e45 (by decide) rfl ?_
                refine r_goto 5 C dX8_outlook_111 (by decide) ?_
                refine r_lv [2, 3, 4, 1, 0] rfl ?_
                exact ih10 0 i44 w37 h42 o40 (by omega) (by omega)
              · have c43' := i_ne c43
                refine r_iconst (v := 1) C dX8_outlook_87 (by decide) ?_
                refine r_goto 92 C dX8_outlook_88 (by decide) ?_
                refine r_istore_n [(3, .int 1), (0, .ref (gz (xG x) + 55)), (1, .ref (gz (xG x) + 77)), (2, .int a2), (4, .int u2)] C dX8_outlook_92 (by decide) rfl ?_
                refine r_goto 108 C dX8_outlook_93 (by decide) ?_
                obtain ⟨i46, e47⟩ : ∃ z : Int32, u2 + Int32.ofInt 1 = z := ⟨_, rfl⟩
                have i46' := iinc_ok e47 (by decide) (by omega) (by omega)
                refine r_iinc [(4, .int i46), (3, .int 1), (0, .ref (gz (xG x) + 55)), (1, .ref (gz (xG x) + 77)), (2, .int a2)] 4 C dX8_outlook_108 rfl e47 (by decide) rfl ?_
                refine r_goto 5 C dX8_outlook_111 (by decide) ?_
                refine r_lv [2, 3, 4, 1, 0] rfl ?_
                exact ih10 1 i46 w37 h42 o40 (by omega) (by omega)
          · have c16' := i_ne c16
            refine r_aload_n 1 C dX8_outlook_38 rfl ?_
            refine r_iload 4 C dX8_outlook_39 rfl ?_
            refine callVI C cwX8_118_V (ctX6_fate_77 _ _ w5 (sS sC h6) o7 u2 ) (by decide) (kS sC h6 kc_77) rfl rfl rfl (Nat.le_of_ble_eq_true rfl) (by decide) dX8_outlook_41 (fun r50 w49 y48 => ?_)
            show V x 0 0 w49 44 [(0, .ref (gz (xG x) + 55)), (1, .ref (gz (xG x) + 77)), (2, .int a2), (3, .int u1), (4, .int u2)] [.int r50]
            obtain ⟨h51, o52⟩ := y48
            have h53 := Ch.tr h6 h51 (by decide) (by decide)
            refine r_aload_n 0 C dX8_outlook_44 rfl ?_
            refine gfX8_11 56 C (kS sC h53 kc_55) (xS sC h53 xc_55_3) dX8_outlook_45 ?_
            refine r_iconst (v := 0) C dX8_outlook_48 (by decide) ?_
            refine r_aald 3 rfl C (kS sC h53 kc_56) (vin (by omega) (by omega)) (xS sC h53 xc_56_0) dX8_outlook_49 ?_
            refine r_iload 4 C dX8_outlook_50 rfl ?_
            refine callVI C cwX8_118_V (ctX6_fate_59 _ _ w49 (sS sC h53) o52 u2 ) (by decide) (kS sC h53 kc_59) rfl rfl rfl (Nat.le_of_ble_eq_true rfl) (by decide) dX8_outlook_52 (fun r56 w55 y54 => ?_)
            show V x 0 0 w55 55 [(0, .ref (gz (xG x) + 55)), (1, .ref (gz (xG x) + 77)), (2, .int a2), (3, .int u1), (4, .int u2)] [.int r56, .int r50]
            obtain ⟨h57, o58⟩ := y54
            have h59 := Ch.tr h53 h57 (by decide) (by decide)
            refine r_icmp_ne 62 C dX8_outlook_55 (by decide) (fun c60 => ?_) (fun c60 => ?_)
            · have c60' := i_ne c60
              refine r_iconst (v := 0) C dX8_outlook_62 (by decide) ?_
              refine r_istore_n [(3, .int 0), (0, .ref (gz (xG x) + 55)), (1, .ref (gz (xG x) + 77)), (2, .int a2), (4, .int u2)] C dX8_outlook_63 (by decide) rfl ?_
              refine r_goto 108 C dX8_outlook_64 (by decide) ?_
              obtain ⟨i61, e62⟩ : ∃ z : Int32, u2 + Int32.ofInt 1 = z := ⟨_, rfl⟩
              have i61' := iinc_ok e62 (by decide) (by omega) (by omega)
              refine r_iinc [(4, .int i61), (3, .int 0), (0, .ref (gz (xG x) + 55)), (1, .ref (gz (xG x) + 77)), (2, .int a2)] 4 C dX8_outlook_108 rfl e62 (by decide) rfl ?_
              refine r_goto 5 C dX8_outlook_111 (by decide) ?_
              refine r_lv [2, 3, 4, 1, 0] rfl ?_
              exact ih10 0 i61 w55 h59 o58 (by omega) (by omega)
            · have c60' := i_eq c60
              refine r_iload_n 3 C dX8_outlook_58 rfl ?_
              refine r_goto 63 C dX8_outlook_59 (by decide) ?_
              refine r_istore_n [(3, .int u1), (0, .ref (gz (xG x) + 55)), (1, .ref (gz (xG x) + 77)), (2, .int a2), (4, .int u2)] C dX8_outlook_63 (by decide) rfl ?_
              refine r_goto 108 C dX8_outlook_64 (by decide) ?_
              obtain ⟨i63, e64⟩ : ∃ z : Int32, u2 + Int32.ofInt 1 = z := ⟨_, rfl⟩
              have i63' := iinc_ok e64 (by decide) (by omega) (by omega)
              refine r_iinc [(4, .int i63), (3, .int u1), (0, .ref (gz (xG x) + 55)), (1, .ref (gz (xG x) + 77)), (2, .int a2)] 4 C dX8_outlook_108 rfl e64 (by decide) rfl ?_
              refine r_goto 5 C dX8_outlook_111 (by decide) ?_
              refine r_lv [2, 3, 4, 1, 0] rfl ?_
              exact ih10 u1 i63 w55 h59 o58 (by omega) (by omega)
  refine r_iconst (v := 2) C dX8_outlook_0 (by decide) ?_
  refine r_istore_n [(3, .int 2), (0, .ref (gz (xG x) + 55)), (1, .ref (gz (xG x) + 77)), (2, .int a2)] C dX8_outlook_1 (by decide) rfl ?_
  refine r_iconst (v := 0) C dX8_outlook_2 (by decide) ?_
  refine r_istore [(4, .int 0), (3, .int 2), (0, .ref (gz (xG x) + 55)), (1, .ref (gz (xG x) + 77)), (2, .int a2)] C dX8_outlook_3 (by decide) rfl ?_
  refine r_lv [2, 3, 4, 1, 0] rfl ?_
  exact LP3 4294967296 2 0 w h0 o0 (by omega) (by omega)
set_option maxHeartbeats 4000000 in
set_option maxRecDepth 100000 in
theorem ctX8_leads_55_d6 (l : Launch) (G : Gt) (w : Wv) (sC : Str KC XC w) (o0 : Inv RC w) (a1 : Int32) (a2 : Int32) (b1 : 6 ≤ a1.toInt ∧ a1.toInt ≤ 6) : CtI l G yX8_leads cX8_leads 10 .boolean ({ frames := 3, cells := 0, slots := 0, locals := 73 } : Room) [.ref (gz G + 55), .int a1, .int a2] w (fun r w' => Ch [] [] w w' ∧ Inv RC w' ∧ ((0 ≤ r.toInt ∧ r.toInt ≤ 1))) := by
  refine enterI (by decide) (Nat.le_of_ble_eq_true rfl) ?_
  intro x el eG C hret
  subst el; subst eG
  obtain rfl : a1 = 6 := i_of (by have q : (6 : Int32).toInt = 6 := (by decide); omega)
  show V x 0 0 w 0 [(0, .ref (gz (xG x) + 55)), (1, .int 6), (2, .int a2)] []
  have h0 : Ch [] [] w w := Ch.rf
  have q0 : (0 : Int32).toInt = 0 := by decide
  have q1 : (1 : Int32).toInt = 1 := by decide
  have q2 : (2 : Int32).toInt = 2 := by decide
  have q6 : (6 : Int32).toInt = 6 := by decide
  refine r_iload_n 1 C dX8_leads_0 rfl ?_
  refine r_if_lt 10 C dX8_leads_1 (by decide) (fun c1 => ?_) (fun c1 => ?_)
  · have c1' := i_lt c1
    exfalso; omega
  · have c1' := i_nlt c1
    refine r_iload_n 1 C dX8_leads_4 rfl ?_
    refine r_bipush (v := 6) C dX8_leads_5 (by decide) ?_
    refine r_icmp_le 12 C dX8_leads_7 (by decide) (fun c2 => ?_) (fun c2 => ?_)
    · have c2' := i_le c2
      refine r_aload_n 0 C dX8_leads_12 rfl ?_
      refine gfX8_11 56 C (kS sC h0 kc_55) (xS sC h0 xc_55_3) dX8_leads_13 ?_
      refine r_iload_n 1 C dX8_leads_16 rfl ?_
      refine r_aald 3 rfl C (kS sC h0 kc_56) (vin (by omega) (by omega)) (xS sC h0 xc_56_6) dX8_leads_17 ?_
      refine r_astore_n [(3, .ref (gz (xG x) + 77)), (0, .ref (gz (xG x) + 55)), (1, .int 6), (2, .int a2)] C dX8_leads_18 (by decide) rfl ?_
      refine r_iload_n 3 C dX8_leads_19 rfl ?_
      refine r_iload_n 2 C dX8_leads_20 rfl ?_
      refine r_isub C dX8_leads_21 (fun v3 e4 => ?_)
      refine r_istore [(4, .int v3), (3, .ref (gz (xG x) + 77)), (0, .ref (gz (xG x) + 55)), (1, .int 6), (2, .int a2)] C dX8_leads_22 (by decide) rfl ?_
      refine r_aload_n 2 C dX8_leads_24 rfl ?_
      refine r_aload_n 1 C dX8_leads_25 rfl ?_
      refine r_iload 0 C dX8_leads_26 rfl ?_
      refine callVI C cwX8_81_V (ctX8_outlook_55_77 _ _ w (sS sC h0) o0 v3 ) (by decide) (kS sC h0 kc_55) rfl rfl rfl (Nat.le_of_ble_eq_true rfl) (by decide) dX8_leads_28 (fun r7 w6 y5 => ?_)
      show V x 0 0 w6 31 [(4, .int v3), (3, .ref (gz (xG x) + 77)), (0, .ref (gz (xG x) + 55)), (1, .int 6), (2, .int a2)] [.int r7]
      obtain ⟨h8, o9⟩ := y5
      have h10 := Ch.tr h0 h8 (by decide) (by decide)
      refine r_istore [(5, .int r7), (4, .int v3), (3, .ref (gz (xG x) + 77)), (0, .ref (gz (xG x) + 55)), (1, .int 6), (2, .int a2)] C dX8_leads_31 (by decide) rfl ?_
      refine r_iload 0 C dX8_leads_33 rfl ?_
      refine r_iconst (v := 1) C dX8_leads_35 (by decide) ?_
      refine r_icmp_ne 50 C dX8_leads_36 (by decide) (fun c11 => ?_) (fun c11 => ?_)
      · have c11' := i_ne c11
        refine r_iload 0 C dX8_leads_50 rfl ?_
        refine r_iconst (v := 2) C dX8_leads_52 (by decide) ?_
        refine r_icmp_ne 60 C dX8_leads_53 (by decide) (fun c12 => ?_) (fun c12 => ?_)
        · have c12' := i_ne c12
          refine r_iconst (v := 0) C dX8_leads_60 (by decide) ?_
          exact hret _ _ _ _ dX8_leads_61 (nar_z (z_of (by omega))) ⟨h10, o9, by omega⟩
        · have c12' := i_eq c12
          refine r_iconst (v := 1) C dX8_leads_56 (by decide) ?_
          refine r_goto 61 C dX8_leads_57 (by decide) ?_
          exact hret _ _ _ _ dX8_leads_61 (nar_z (z_of (by omega))) ⟨h10, o9, by omega⟩
      · have c11' := i_eq c11
        refine r_iload 1 C dX8_leads_39 rfl ?_
        refine r_if_le 50 C dX8_leads_41 (by decide) (fun c13 => ?_) (fun c13 => ?_)
        · have c13' := i_le c13
          refine r_iload 0 C dX8_leads_50 rfl ?_
          refine r_iconst (v := 2) C dX8_leads_52 (by decide) ?_
          refine r_icmp_ne 60 C dX8_leads_53 (by decide) (fun c14 => ?_) (fun c14 => ?_)
          · have c14' := i_ne c14
            refine r_iconst (v := 0) C dX8_leads_60 (by decide) ?_
            exact hret _ _ _ _ dX8_leads_61 (nar_z (z_of (by omega))) ⟨h10, o9, by omega⟩
          · have c14' := i_eq c14
            exfalso; omega
        · have c13' := i_nle c13
          refine r_iload_n 4 C dX8_leads_44 rfl ?_
          refine r_bipush (v := 6) C dX8_leads_45 (by decide) ?_
          refine r_icmp_lt 62 C dX8_leads_47 (by decide) (fun c15 => ?_) (fun c15 => ?_)
          · have c15' := i_lt c15
            exfalso; omega
          · have c15' := i_nlt c15
            refine r_iload 0 C dX8_leads_50 rfl ?_
            refine r_iconst (v := 2) C dX8_leads_52 (by decide) ?_
            refine r_icmp_ne 60 C dX8_leads_53 (by decide) (fun c16 => ?_) (fun c16 => ?_)
            · have c16' := i_ne c16
              refine r_iconst (v := 0) C dX8_leads_60 (by decide) ?_
              exact hret _ _ _ _ dX8_leads_61 (nar_z (z_of (by omega))) ⟨h10, o9, by omega⟩
            · have c16' := i_eq c16
              exfalso; omega
    · have c2' := i_nle c2
      exfalso; omega
set_option maxHeartbeats 4000000 in
set_option maxRecDepth 100000 in
theorem ctX8_stepLeads_55_d5 (l : Launch) (G : Gt) (w : Wv) (sC : Str KC XC w) (o0 : Inv RC w) (a1 : Int32) (a2 : Int32) (b1 : 5 ≤ a1.toInt ∧ a1.toInt ≤ 5) : CtI l G yX8_stepLeads cX8_stepLeads 5 .boolean ({ frames := 4, cells := 0, slots := 0, locals := 102 } : Room) [.ref (gz G + 55), .int a1, .int a2] w (fun r w' => Ch [25, 26, 27, 57, 78, 79] [(77, 0), (77, 1)] w w' ∧ Inv RC w' ∧ ((0 ≤ r.toInt ∧ r.toInt ≤ 1))) := by
  refine enterI (by decide) (Nat.le_of_ble_eq_true rfl) ?_
  intro x el eG C hret
  subst el; subst eG
  obtain rfl : a1 = 5 := i_of (by have q : (5 : Int32).toInt = 5 := (by decide); omega)
  show V x 0 0 w 0 [(0, .ref (gz (xG x) + 55)), (1, .int 5), (2, .int a2)] []
  have h0 : Ch [25, 26, 27, 57, 78, 79] [(77, 0), (77, 1)] w w := Ch.rf
  have q0 : (0 : Int32).toInt = 0 := by decide
  have q1 : (1 : Int32).toInt = 1 := by decide
  have q4 : (4 : Int32).toInt = 4 := by decide
  have q5 : (5 : Int32).toInt = 5 := by decide
  have q6 : (6 : Int32).toInt = 6 := by decide
  have LP3 : ∀ (f4 : Nat) (u1 : Int32) (u2 : Int32) (w5 : Wv), Ch [25, 26, 27, 57, 78, 79] [(77, 0), (77, 1)] w w5 → Inv RC w5 → (0 ≤ u1.toInt ∧ u1.toInt ≤ 1) → (0 ≤ u2.toInt ∧ u2.toInt ≤ 2147483647) → 2147483647 - u2.toInt < f4 → V x 0 0 w5 5 [(0, .ref (gz (xG x) + 55)), (1, .int 5), (2, .int a2), (3, .int u1), (4, .int u2)] [] := by
    intro f4
    induction f4 with
    | zero => intro u1 u2 w5 h6 o7 z8 z9 z10; exfalso; omega
    | succ f4 ih11 =>
      intro u1 u2 w5 h6 o7 z8 z9 z10
      refine r_iload 4 C dX8_stepLeads_5 rfl ?_
      refine r_iconst (v := 4) C dX8_stepLeads_7 (by decide) ?_
      have k13 := i_rng u2
      refine r_icmp_gt 86 C dX8_stepLeads_8 (by decide) (fun c12 => ?_) (fun c12 => ?_)
      · have c12' := i_lt c12
        refine r_iload_n 3 C dX8_stepLeads_86 rfl ?_
        exact hret _ _ _ _ dX8_stepLeads_87 (nar_z (z_of (by omega))) ⟨h6, o7, by omega⟩
      · have c12' := i_nlt c12
        refine r_iload_n 3 C dX8_stepLeads_11 rfl ?_
        refine r_if_ne 86 C dX8_stepLeads_12 (by decide) (fun c14 => ?_) (fun c14 => ?_)
        · have c14' := i_ne c14
          refine r_iload_n 3 C dX8_stepLeads_86 rfl ?_
          exact hret _ _ _ _ dX8_stepLeads_87 (nar_z (z_of (by omega))) ⟨h6, o7, by omega⟩
        · have c14' := i_eq c14
          refine r_aload_n 0 C dX8_stepLeads_15 rfl ?_
          refine gfX8_11 56 C (kS sC h6 kc_55) (xS sC h6 xc_55_3) dX8_stepLeads_16 ?_
          refine r_iload_n 1 C dX8_stepLeads_19 rfl ?_
          refine r_aald 3 rfl C (kS sC h6 kc_56) (vin (by omega) (by omega)) (xS sC h6 xc_56_5) dX8_stepLeads_20 ?_
          refine r_iload 4 C dX8_stepLeads_21 rfl ?_
          refine callVI C cwX8_103_V (ctX6_may_74 _ _ w5 (sS sC h6) o7 u2 ) (by decide) (kS sC h6 kc_74) rfl rfl rfl (Nat.le_of_ble_eq_true rfl) (by decide) dX8_stepLeads_23 (fun r17 w16 y15 => ?_)
          show V x 0 0 w16 26 [(0, .ref (gz (xG x) + 55)), (1, .int 5), (2, .int a2), (3, .int u1), (4, .int u2)] [.int r17]
          obtain ⟨h18, o19, g20⟩ := y15
          have h21 := Ch.tr h6 h18 (by decide) (by decide)
          refine r_if_eq 80 C dX8_stepLeads_26 (by decide) (fun c22 => ?_) (fun c22 => ?_)
          · have c22' := i_eq c22
            obtain ⟨i23, e24⟩ : ∃ z : Int32, u2 + Int32.ofInt 1 = z := ⟨_, rfl⟩
            have i23' := iinc_ok e24 (by decide) (by omega) (by omega)
            refine r_iinc [(4, .int i23), (0, .ref (gz (xG x) + 55)), (1, .int 5), (2, .int a2), (3, .int u1)] 4 C dX8_stepLeads_80 rfl e24 (by decide) rfl ?_
            refine r_goto 5 C dX8_stepLeads_83 (by decide) ?_
            refine r_lv [1, 2, 3, 4, 0] rfl ?_
            exact ih11 u1 i23 w16 h21 o19 (by omega) (by omega) (by omega)
          · have c22' := i_ne c22
            refine r_aload_n 0 C dX8_stepLeads_29 rfl ?_
            refine gfX8_11 56 C (kS sC h21 kc_55) (xS sC h21 xc_55_3) dX8_stepLeads_30 ?_
            refine r_iload_n 1 C dX8_stepLeads_33 rfl ?_
            refine r_iconst (v := 1) C dX8_stepLeads_34 (by decide) ?_
            refine r_iadd C dX8_stepLeads_35 (fun v25 e26 => ?_)
            have v25' := iadd_ok e26 (by omega) (by omega)
            rcases (show v25.toInt = 6 by omega) with c27
            · obtain rfl : v25 = 6 := i_of (by omega)
              refine r_aald 3 rfl C (kS sC h21 kc_56) (vin (by omega) (by omega)) (xS sC h21 xc_56_6) dX8_stepLeads_36 ?_
              refine r_aload_n 0 C dX8_stepLeads_37 rfl ?_
              refine gfX8_11 56 C (kS sC h21 kc_55) (xS sC h21 xc_55_3) dX8_stepLeads_38 ?_
              refine r_iload_n 1 C dX8_stepLeads_41 rfl ?_
              refine r_aald 3 rfl C (kS sC h21 kc_56) (vin (by omega) (by omega)) (xS sC h21 xc_56_5) dX8_stepLeads_42 ?_
              refine callVV C cwX8_53_V (ctX6_copy_77_74 _ _ w16 (sS sC h21) o19  ) (by decide) (kS sC h21 kc_77) rfl rfl rfl (Nat.le_of_ble_eq_true rfl) (by decide) dX8_stepLeads_43 (fun w29 y28 => ?_)
              show V x 0 0 w29 46 [(0, .ref (gz (xG x) + 55)), (1, .int 5), (2, .int a2), (3, .int u1), (4, .int u2)] []
              obtain ⟨h31, o32⟩ := y28
              have h33 := Ch.tr h21 h31 (by decide) (by decide)
              refine r_aload_n 0 C dX8_stepLeads_46 rfl ?_
              refine gfX8_11 56 C (kS sC h33 kc_55) (xS sC h33 xc_55_3) dX8_stepLeads_47 ?_
              refine r_iload_n 1 C dX8_stepLeads_50 rfl ?_
              refine r_iconst (v := 1) C dX8_stepLeads_51 (by decide) ?_
              refine r_iadd C dX8_stepLeads_52 (fun v34 e35 => ?_)
              have v34' := iadd_ok e35 (by omega) (by omega)
              rcases (show v34.toInt = 6 by omega) with c36
              · obtain rfl : v34 = 6 := i_of (by omega)
                refine r_aald 3 rfl C (kS sC h33 kc_56) (vin (by omega) (by omega)) (xS sC h33 xc_56_6) dX8_stepLeads_53 ?_
                refine r_iload 4 C dX8_stepLeads_54 rfl ?_
                refine r_aload_n 0 C dX8_stepLeads_56 rfl ?_
                refine gfX8_50 (v := (wI w 55 9)) C (kS sC h33 kc_55) (h31.I (by decide) (by decide) (h18.I (by decide) (by decide) (h6.I (by decide) (by decide) rfl))) dX8_stepLeads_57 ?_
                refine callVV C cwX8_107_V (ctX6_pass_77 _ _ w29 (sS sC h33) o32 u2 (wI w 55 9) ) (by decide) (kS sC h33 kc_77) rfl rfl rfl (Nat.le_of_ble_eq_true rfl) (by decide) dX8_stepLeads_60 (fun w38 y37 => ?_)
                show V x 0 0 w38 63 [(0, .ref (gz (xG x) + 55)), (1, .int 5), (2, .int a2), (3, .int u1), (4, .int u2)] []
                obtain ⟨h40, o41⟩ := y37
                have h42 := Ch.tr h33 h40 (by decide) (by decide)
                refine r_aload_n 0 C dX8_stepLeads_63 rfl ?_
                refine gfX8_17 57 C (kS sC h42 kc_55) (xS sC h42 xc_55_4) dX8_stepLeads_64 ?_
                refine r_iload_n 1 C dX8_stepLeads_67 rfl ?_
                refine r_iload 4 C dX8_stepLeads_68 rfl ?_
                refine r_iast C (kS sC h42 kc_57) (vin (by omega) (by omega)) dX8_stepLeads_70 (fun w43 e44 => ?_)
                have h45 := Ch.putS h42 e44 (by decide)
                have o46 := Inv.put0 o41 e44 (by decide)
                refine r_aload_n 0 C dX8_stepLeads_71 rfl ?_
                refine r_iload_n 1 C dX8_stepLeads_72 rfl ?_
                refine r_iconst (v := 1) C dX8_stepLeads_73 (by decide) ?_
                refine r_iadd C dX8_stepLeads_74 (fun v47 e48 => ?_)
                have v47' := iadd_ok e48 (by omega) (by omega)
                refine r_iload_n 2 C dX8_stepLeads_75 rfl ?_
                refine callVI C cwX8_65_V (ctX8_leads_55_d6 _ _ w43 (sS sC h45) o46 v47 a2 (by omega)) (by decide) (kS sC h45 kc_55) rfl rfl rfl (Nat.le_of_ble_eq_true rfl) (by decide) dX8_stepLeads_76 (fun r51 w50 y49 => ?_)
                show V x 0 0 w50 79 [(0, .ref (gz (xG x) + 55)), (1, .int 5), (2, .int a2), (3, .int u1), (4, .int u2)] [.int r51]
                obtain ⟨h52, o53, g54⟩ := y49
                have h55 := Ch.tr h45 h52 (by decide) (by decide)
                refine r_istore_n [(3, .int r51), (0, .ref (gz (xG x) + 55)), (1, .int 5), (2, .int a2), (4, .int u2)] C dX8_stepLeads_79 (by decide) rfl ?_
                obtain ⟨i56, e57⟩ : ∃ z : Int32, u2 + Int32.ofInt 1 = z := ⟨_, rfl⟩
                have i56' := iinc_ok e57 (by decide) (by omega) (by omega)
                refine r_iinc [(4, .int i56), (3, .int r51), (0, .ref (gz (xG x) + 55)), (1, .int 5), (2, .int a2)] 4 C dX8_stepLeads_80 rfl e57 (by decide) rfl ?_
                refine r_goto 5 C dX8_stepLeads_83 (by decide) ?_
                refine r_lv [2, 3, 4, 1, 0] rfl ?_
                exact ih11 r51 i56 w50 h55 o53 (by omega) (by omega) (by omega)
  refine r_iconst (v := 0) C dX8_stepLeads_0 (by decide) ?_
  refine r_istore_n [(3, .int 0), (0, .ref (gz (xG x) + 55)), (1, .int 5), (2, .int a2)] C dX8_stepLeads_1 (by decide) rfl ?_
  refine r_iconst (v := 0) C dX8_stepLeads_2 (by decide) ?_
  refine r_istore [(4, .int 0), (3, .int 0), (0, .ref (gz (xG x) + 55)), (1, .int 5), (2, .int a2)] C dX8_stepLeads_3 (by decide) rfl ?_
  refine r_lv [2, 3, 4, 1, 0] rfl ?_
  exact LP3 4294967296 0 0 w h0 o0 (by omega) (by omega) (by omega)
set_option maxHeartbeats 4000000 in
set_option maxRecDepth 100000 in
theorem ctX8_leads_55_d5 (l : Launch) (G : Gt) (w : Wv) (sC : Str KC XC w) (o0 : Inv RC w) (a1 : Int32) (a2 : Int32) (b1 : 5 ≤ a1.toInt ∧ a1.toInt ≤ 5) : CtI l G yX8_leads cX8_leads 10 .boolean ({ frames := 5, cells := 0, slots := 0, locals := 126 } : Room) [.ref (gz G + 55), .int a1, .int a2] w (fun r w' => Ch [25, 26, 27, 52, 53, 54, 57, 78, 79] [(77, 0), (77, 1)] w w' ∧ Inv RC w' ∧ ((0 ≤ r.toInt ∧ r.toInt ≤ 1))) := by
  refine enterI (by decide) (Nat.le_of_ble_eq_true rfl) ?_
  intro x el eG C hret
  subst el; subst eG
  obtain rfl : a1 = 5 := i_of (by have q : (5 : Int32).toInt = 5 := (by decide); omega)
  show V x 0 0 w 0 [(0, .ref (gz (xG x) + 55)), (1, .int 5), (2, .int a2)] []
  have h0 : Ch [25, 26, 27, 52, 53, 54, 57, 78, 79] [(77, 0), (77, 1)] w w := Ch.rf
  have q0 : (0 : Int32).toInt = 0 := by decide
  have q1 : (1 : Int32).toInt = 1 := by decide
  have q2 : (2 : Int32).toInt = 2 := by decide
  have q5 : (5 : Int32).toInt = 5 := by decide
  have q6 : (6 : Int32).toInt = 6 := by decide
  refine r_iload_n 1 C dX8_leads_0 rfl ?_
  refine r_if_lt 10 C dX8_leads_1 (by decide) (fun c1 => ?_) (fun c1 => ?_)
  · have c1' := i_lt c1
    exfalso; omega
  · have c1' := i_nlt c1
    refine r_iload_n 1 C dX8_leads_4 rfl ?_
    refine r_bipush (v := 6) C dX8_leads_5 (by decide) ?_
    refine r_icmp_le 12 C dX8_leads_7 (by decide) (fun c2 => ?_) (fun c2 => ?_)
    · have c2' := i_le c2
      refine r_aload_n 0 C dX8_leads_12 rfl ?_
      refine gfX8_11 56 C (kS sC h0 kc_55) (xS sC h0 xc_55_3) dX8_leads_13 ?_
      refine r_iload_n 1 C dX8_leads_16 rfl ?_
      refine r_aald 3 rfl C (kS sC h0 kc_56) (vin (by omega) (by omega)) (xS sC h0 xc_56_5) dX8_leads_17 ?_
      refine r_astore_n [(3, .ref (gz (xG x) + 74)), (0, .ref (gz (xG x) + 55)), (1, .int 5), (2, .int a2)] C dX8_leads_18 (by decide) rfl ?_
      refine r_iload_n 3 C dX8_leads_19 rfl ?_
      refine r_iload_n 2 C dX8_leads_20 rfl ?_
      refine r_isub C dX8_leads_21 (fun v3 e4 => ?_)
      refine r_istore [(4, .int v3), (3, .ref (gz (xG x) + 74)), (0, .ref (gz (xG x) + 55)), (1, .int 5), (2, .int a2)] C dX8_leads_22 (by decide) rfl ?_
      refine r_aload_n 2 C dX8_leads_24 rfl ?_
      refine r_aload_n 1 C dX8_leads_25 rfl ?_
      refine r_iload 0 C dX8_leads_26 rfl ?_
      refine callVI C cwX8_81_V (ctX8_outlook_55_74 _ _ w (sS sC h0) o0 v3 ) (by decide) (kS sC h0 kc_55) rfl rfl rfl (Nat.le_of_ble_eq_true rfl) (by decide) dX8_leads_28 (fun r7 w6 y5 => ?_)
      show V x 0 0 w6 31 [(4, .int v3), (3, .ref (gz (xG x) + 74)), (0, .ref (gz (xG x) + 55)), (1, .int 5), (2, .int a2)] [.int r7]
      obtain ⟨h8, o9⟩ := y5
      have h10 := Ch.tr h0 h8 (by decide) (by decide)
      refine r_istore [(5, .int r7), (4, .int v3), (3, .ref (gz (xG x) + 74)), (0, .ref (gz (xG x) + 55)), (1, .int 5), (2, .int a2)] C dX8_leads_31 (by decide) rfl ?_
      refine r_iload 0 C dX8_leads_33 rfl ?_
      refine r_iconst (v := 1) C dX8_leads_35 (by decide) ?_
      refine r_icmp_ne 50 C dX8_leads_36 (by decide) (fun c11 => ?_) (fun c11 => ?_)
      · have c11' := i_ne c11
        refine r_iload 0 C dX8_leads_50 rfl ?_
        refine r_iconst (v := 2) C dX8_leads_52 (by decide) ?_
        refine r_icmp_ne 60 C dX8_leads_53 (by decide) (fun c12 => ?_) (fun c12 => ?_)
        · have c12' := i_ne c12
          refine r_iconst (v := 0) C dX8_leads_60 (by decide) ?_
          exact hret _ _ _ _ dX8_leads_61 (nar_z (z_of (by omega))) ⟨h10, o9, by omega⟩
        · have c12' := i_eq c12
          refine r_iconst (v := 1) C dX8_leads_56 (by decide) ?_
          refine r_goto 61 C dX8_leads_57 (by decide) ?_
          exact hret _ _ _ _ dX8_leads_61 (nar_z (z_of (by omega))) ⟨h10, o9, by omega⟩
      · have c11' := i_eq c11
        refine r_iload 1 C dX8_leads_39 rfl ?_
        refine r_if_le 50 C dX8_leads_41 (by decide) (fun c13 => ?_) (fun c13 => ?_)
        · have c13' := i_le c13
          refine r_iload 0 C dX8_leads_50 rfl ?_
          refine r_iconst (v := 2) C dX8_leads_52 (by decide) ?_
          refine r_icmp_ne 60 C dX8_leads_53 (by decide) (fun c14 => ?_) (fun c14 => ?_)
          · have c14' := i_ne c14
            refine r_iconst (v := 0) C dX8_leads_60 (by decide) ?_
            exact hret _ _ _ _ dX8_leads_61 (nar_z (z_of (by omega))) ⟨h10, o9, by omega⟩
          · have c14' := i_eq c14
            exfalso; omega
        · have c13' := i_nle c13
          refine r_iload_n 4 C dX8_leads_44 rfl ?_
          refine r_bipush (v := 6) C dX8_leads_45 (by decide) ?_
          refine r_icmp_lt 62 C dX8_leads_47 (by decide) (fun c15 => ?_) (fun c15 => ?_)
          · have c15' := i_lt c15
            refine r_aload_n 2 C dX8_leads_62 rfl ?_
            refine callVL C cwX8_85_V (ctX6_places_74 _ _ w6 (sS sC h10) o9  ) (by decide) (kS sC h10 kc_74) rfl rfl rfl (Nat.le_of_ble_eq_true rfl) (by decide) dX8_leads_63 (fun r18 w17 y16 => ?_)
            show V x 0 0 w17 66 [(5, .int r7), (4, .int v3), (3, .ref (gz (xG x) + 74)), (0, .ref (gz (xG x) + 55)), (1, .int 5), (2, .int a2)] [.long r18]
            obtain ⟨h19, o20⟩ := y16
            have h21 := Ch.tr h10 h19 (by decide) (by decide)
            refine r_lstore [(6, .long r18), (5, .int r7), (4, .int v3), (3, .ref (gz (xG x) + 74)), (0, .ref (gz (xG x) + 55)), (1, .int 5), (2, .int a2)] C dX8_leads_66 (by decide) rfl ?_
            refine r_aload_n 3 C dX8_leads_68 rfl ?_
            refine callVL C cwX8_89_V (ctX6_goals_74 _ _ w17 (sS sC h21) o20  ) (by decide) (kS sC h21 kc_74) rfl rfl rfl (Nat.le_of_ble_eq_true rfl) (by decide) dX8_leads_69 (fun r24 w23 y22 => ?_)
            show V x 0 0 w23 72 [(6, .long r18), (5, .int r7), (4, .int v3), (3, .ref (gz (xG x) + 74)), (0, .ref (gz (xG x) + 55)), (1, .int 5), (2, .int a2)] [.long r24]
            obtain ⟨h25, o26⟩ := y22
            have h27 := Ch.tr h21 h25 (by decide) (by decide)
            refine r_lstore [(8, .long r24), (6, .long r18), (5, .int r7), (4, .int v3), (3, .ref (gz (xG x) + 74)), (0, .ref (gz (xG x) + 55)), (1, .int 5), (2, .int a2)] C dX8_leads_72 (by decide) rfl ?_
            refine r_aload_n 5 C dX8_leads_74 rfl ?_
            refine gfX8_32 51 C (kS sC h27 kc_55) (xS sC h27 xc_55_6) dX8_leads_75 ?_
            refine r_lload 1 C dX8_leads_78 rfl ?_
            refine r_lload 0 C dX8_leads_80 rfl ?_
            refine callVI C cwX8_92_V (ctX3_value_51 _ _ w23 (sS sC h27) o26 r18 r24 ) (by decide) (kS sC h27 kc_51) rfl rfl rfl (Nat.le_of_ble_eq_true rfl) (by decide) dX8_leads_82 (fun r30 w29 y28 => ?_)
            show V x 0 0 w29 85 [(8, .long r24), (6, .long r18), (5, .int r7), (4, .int v3), (3, .ref (gz (xG x) + 74)), (0, .ref (gz (xG x) + 55)), (1, .int 5), (2, .int a2)] [.int r30]
            obtain ⟨h31, o32⟩ := y28
            have h33 := Ch.tr h27 h31 (by decide) (by decide)
            refine r_iload 3 C dX8_leads_85 rfl ?_
            have k35 := i_rng r30
            have k36 := i_rng v3
            refine r_icmp_lt 92 C dX8_leads_87 (by decide) (fun c34 => ?_) (fun c34 => ?_)
            · have c34' := i_lt c34
              refine r_aload_n 5 C dX8_leads_92 rfl ?_
              refine r_iload_n 6 C dX8_leads_93 rfl ?_
              refine r_iload_n 7 C dX8_leads_94 rfl ?_
              refine callVI C cwX8_96_V (ctX8_stepLeads_55_d5 _ _ w29 (sS sC h33) o32 5 a2 (by omega)) (by decide) (kS sC h33 kc_55) rfl rfl rfl (Nat.le_of_ble_eq_true rfl) (by decide) dX8_leads_95 (fun r39 w38 y37 => ?_)
              show V x 0 0 w38 98 [(8, .long r24), (6, .long r18), (5, .int r7), (4, .int v3), (3, .ref (gz (xG x) + 74)), (0, .ref (gz (xG x) + 55)), (1, .int 5), (2, .int a2)] [.int r39]
              obtain ⟨h40, o41, g42⟩ := y37
              have h43 := Ch.tr h33 h40 (by decide) (by decide)
              refine r_if_eq 103 C dX8_leads_98 (by decide) (fun c44 => ?_) (fun c44 => ?_)
              · have c44' := i_eq c44
                refine r_aload_n 5 C dX8_leads_103 rfl ?_
                refine gfX8_32 51 C (kS sC h43 kc_55) (xS sC h43 xc_55_6) dX8_leads_104 ?_
                refine r_lload 1 C dX8_leads_107 rfl ?_
                refine r_lload 0 C dX8_leads_109 rfl ?_
                refine r_iload 3 C dX8_leads_111 rfl ?_
                refine callVV C cwX8_99_V (ctX3_put_51 _ _ w38 (sS sC h43) o41 r18 r24 v3 ) (by decide) (kS sC h43 kc_51) rfl rfl rfl (Nat.le_of_ble_eq_true rfl) (by decide) dX8_leads_113 (fun w46 y45 => ?_)
                show V x 0 0 w46 116 [(8, .long r24), (6, .long r18), (5, .int r7), (4, .int v3), (3, .ref (gz (xG x) + 74)), (0, .ref (gz (xG x) + 55)), (1, .int 5), (2, .int a2)] []
                obtain ⟨h48, o49⟩ := y45
                have h50 := Ch.tr h43 h48 (by decide) (by decide)
                refine r_iconst (v := 0) C dX8_leads_116 (by decide) ?_
                exact hret _ _ _ _ dX8_leads_117 (nar_z (z_of (by omega))) ⟨h50, o49, by omega⟩
              · have c44' := i_ne c44
                refine r_iconst (v := 1) C dX8_leads_101 (by decide) ?_
                exact hret _ _ _ _ dX8_leads_102 (nar_z (z_of (by omega))) ⟨h43, o41, by omega⟩
            · have c34' := i_nlt c34
              refine r_iconst (v := 0) C dX8_leads_90 (by decide) ?_
              exact hret _ _ _ _ dX8_leads_91 (nar_z (z_of (by omega))) ⟨h33, o32, by omega⟩
          · have c15' := i_nlt c15
            exfalso; omega
    · have c2' := i_nle c2
      exfalso; omega
