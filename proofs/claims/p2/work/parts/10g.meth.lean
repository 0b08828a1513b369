set_option maxHeartbeats 4000000 in
set_option maxRecDepth 100000 in
theorem ctX2_take_104_35_21 (l : Launch) (G : Gt) (w : Wv) (sC : Str KC XC w) (o0 : Inv RC w) (a3 : Int32) : CtV l G yX2_take cX2_take 4 ({ frames := 1, cells := 0, slots := 0, locals := 22 } : Room) [.ref (gz G + 104), .ref (gz G + 35), .ref (gz G + 21), .int a3] w (fun w' => Ch [105, 107, 108] [(104, 0), (104, 1), (106, 0), (106, 1)] w w' ∧ Inv RC w') := by
  refine enterV (by decide) (Nat.le_of_ble_eq_true rfl) ?_
  intro x el eG C hnm hret
  subst el; subst eG
  show V x 0 0 w 0 [(0, .ref (gz (xG x) + 104)), (1, .ref (gz (xG x) + 35)), (2, .ref (gz (xG x) + 21)), (3, .int a3)] []
  have h0 : Ch [105, 107, 108] [(104, 0), (104, 1), (106, 0), (106, 1)] w w := Ch.rf
  have q1 : (1 : Int32).toInt = 1 := by decide
  refine r_aload_n 0 C dX2_take_0 rfl ?_
  refine r_iconst (v := 1) C dX2_take_1 (by decide) ?_
  refine pfX2_24 C (kS sC h0 kc_104) (z_of (by omega)) dX2_take_2 (fun w1 e2 => ?_)
  have h3 := Ch.putF h0 e2 (by decide)
  have o4 := Inv.putk o0 e2 (by decide)
  refine r_aload_n 0 C dX2_take_5 rfl ?_
  refine r_iload_n 3 C dX2_take_6 rfl ?_
  refine pfX2_28 C (kS sC h3 kc_104) dX2_take_7 (fun w5 e6 => ?_)
  have h7 := Ch.putF h3 e6 (by decide)
  have o8 := Inv.putk o4 e6 (by decide)
  refine r_aload_n 0 C dX2_take_10 rfl ?_
  refine gfX2_20 106 C (kS sC h7 kc_104) (xS sC h7 xc_104_2) dX2_take_11 ?_
  refine r_aload_n 1 C dX2_take_14 rfl ?_
  refine callVV C cwX2_32_V (ctX6_copy_106_35 _ _ w5 (sS sC h7) o8  ) (by decide) (kS sC h7 kc_106) rfl rfl rfl (Nat.le_of_ble_eq_true rfl) (by decide) dX2_take_15 (fun w10 y9 => ?_)
  show V x 0 0 w10 18 [(0, .ref (gz (xG x) + 104)), (1, .ref (gz (xG x) + 35)), (2, .ref (gz (xG x) + 21)), (3, .int a3)] []
  obtain ⟨h12, o13⟩ := y9
  have h14 := Ch.tr h7 h12 (by decide) (by decide)
  refine r_aload_n 2 C dX2_take_18 rfl ?_
  refine r_aload_n 0 C dX2_take_19 rfl ?_
  refine gfX2_9 105 C (kS sC h14 kc_104) (xS sC h14 xc_104_3) dX2_take_20 ?_
  refine callVV C cwX2_36_V (ctX1_giveWhats_21_105 _ _ w10 (sS sC h14) o13  ) (by decide) (kS sC h14 kc_21) rfl rfl rfl (Nat.le_of_ble_eq_true rfl) (by decide) dX2_take_23 (fun w16 y15 => ?_)
  show V x 0 0 w16 26 [(0, .ref (gz (xG x) + 104)), (1, .ref (gz (xG x) + 35)), (2, .ref (gz (xG x) + 21)), (3, .int a3)] []
  obtain ⟨h18, o19⟩ := y15
  have h20 := Ch.tr h14 h18 (by decide) (by decide)
  exact hret _ _ _ dX2_take_26 ⟨h20, o19⟩
set_option maxHeartbeats 4000000 in
set_option maxRecDepth 100000 in
theorem ctX2_give_104_35_21 (l : Launch) (G : Gt) (w : Wv) (sC : Str KC XC w) (o0 : Inv RC w)  : CtV l G yX2_give cX2_give 3 ({ frames := 2, cells := 0, slots := 0, locals := 43 } : Room) [.ref (gz G + 104), .ref (gz G + 35), .ref (gz G + 21)] w (fun w' => Ch [22, 26, 36, 37] [(35, 0), (35, 1)] w w' ∧ Inv RC w') := by
  refine enterV (by decide) (Nat.le_of_ble_eq_true rfl) ?_
  intro x el eG C hnm hret
  subst el; subst eG
  show V x 0 0 w 0 [(0, .ref (gz (xG x) + 104)), (1, .ref (gz (xG x) + 35)), (2, .ref (gz (xG x) + 21))] []
  have h0 : Ch [22, 26, 36, 37] [(35, 0), (35, 1)] w w := Ch.rf
  refine r_aload_n 1 C dX2_give_0 rfl ?_
  refine r_aload_n 0 C dX2_give_1 rfl ?_
  refine gfX2_20 106 C (kS sC h0 kc_104) (xS sC h0 xc_104_2) dX2_give_2 ?_
  refine callVV C cwX2_32_V (ctX6_copy_35_106 _ _ w (sS sC h0) o0  ) (by decide) (kS sC h0 kc_35) rfl rfl rfl (Nat.le_of_ble_eq_true rfl) (by decide) dX2_give_5 (fun w2 y1 => ?_)
  show V x 0 0 w2 8 [(0, .ref (gz (xG x) + 104)), (1, .ref (gz (xG x) + 35)), (2, .ref (gz (xG x) + 21))] []
  obtain ⟨h4, o5⟩ := y1
  have h6 := Ch.tr h0 h4 (by decide) (by decide)
  refine r_aload_n 2 C dX2_give_8 rfl ?_
  refine r_aload_n 0 C dX2_give_9 rfl ?_
  refine gfX2_9 105 C (kS sC h6 kc_104) (xS sC h6 xc_104_3) dX2_give_10 ?_
  refine callVV C cwX2_42_V (ctX1_takeWhats_21_105 _ _ w2 (sS sC h6) o5  ) (by decide) (kS sC h6 kc_21) rfl rfl rfl (Nat.le_of_ble_eq_true rfl) (by decide) dX2_give_13 (fun w8 y7 => ?_)
  show V x 0 0 w8 16 [(0, .ref (gz (xG x) + 104)), (1, .ref (gz (xG x) + 35)), (2, .ref (gz (xG x) + 21))] []
  obtain ⟨h10, o11⟩ := y7
  have h12 := Ch.tr h6 h10 (by decide) (by decide)
  exact hret _ _ _ dX2_give_16 ⟨h12, o11⟩
set_option maxHeartbeats 4000000 in
set_option maxRecDepth 100000 in
theorem ctX2_take_109_35_21 (l : Launch) (G : Gt) (w : Wv) (sC : Str KC XC w) (o0 : Inv RC w) (a3 : Int32) : CtV l G yX2_take cX2_take 4 ({ frames := 1, cells := 0, slots := 0, locals := 22 } : Room) [.ref (gz G + 109), .ref (gz G + 35), .ref (gz G + 21), .int a3] w (fun w' => Ch [110, 112, 113] [(109, 0), (109, 1), (111, 0), (111, 1)] w w' ∧ Inv RC w') := by
  refine enterV (by decide) (Nat.le_of_ble_eq_true rfl) ?_
  intro x el eG C hnm hret
  subst el; subst eG
  show V x 0 0 w 0 [(0, .ref (gz (xG x) + 109)), (1, .ref (gz (xG x) + 35)), (2, .ref (gz (xG x) + 21)), (3, .int a3)] []
  have h0 : Ch [110, 112, 113] [(109, 0), (109, 1), (111, 0), (111, 1)] w w := Ch.rf
  have q1 : (1 : Int32).toInt = 1 := by decide
  refine r_aload_n 0 C dX2_take_0 rfl ?_
  refine r_iconst (v := 1) C dX2_take_1 (by decide) ?_
  refine pfX2_24 C (kS sC h0 kc_109) (z_of (by omega)) dX2_take_2 (fun w1 e2 => ?_)
  have h3 := Ch.putF h0 e2 (by decide)
  have o4 := Inv.putk o0 e2 (by decide)
  refine r_aload_n 0 C dX2_take_5 rfl ?_
  refine r_iload_n 3 C dX2_take_6 rfl ?_
  refine pfX2_28 C (kS sC h3 kc_109) dX2_take_7 (fun w5 e6 => ?_)
  have h7 := Ch.putF h3 e6 (by decide)
  have o8 := Inv.putk o4 e6 (by decide)
  refine r_aload_n 0 C dX2_take_10 rfl ?_
  refine gfX2_20 111 C (kS sC h7 kc_109) (xS sC h7 xc_109_2) dX2_take_11 ?_
  refine r_aload_n 1 C dX2_take_14 rfl ?_
  refine callVV C cwX2_32_V (ctX6_copy_111_35 _ _ w5 (sS sC h7) o8  ) (by decide) (kS sC h7 kc_111) rfl rfl rfl (Nat.le_of_ble_eq_true rfl) (by decide) dX2_take_15 (fun w10 y9 => ?_)
  show V x 0 0 w10 18 [(0, .ref (gz (xG x) + 109)), (1, .ref (gz (xG x) + 35)), (2, .ref (gz (xG x) + 21)), (3, .int a3)] []
  obtain ⟨h12, o13⟩ := y9
  have h14 := Ch.tr h7 h12 (by decide) (by decide)
  refine r_aload_n 2 C dX2_take_18 rfl ?_
  refine r_aload_n 0 C dX2_take_19 rfl ?_
  refine gfX2_9 110 C (kS sC h14 kc_109) (xS sC h14 xc_109_3) dX2_take_20 ?_
  refine callVV C cwX2_36_V (ctX1_giveWhats_21_110 _ _ w10 (sS sC h14) o13  ) (by decide) (kS sC h14 kc_21) rfl rfl rfl (Nat.le_of_ble_eq_true rfl) (by decide) dX2_take_23 (fun w16 y15 => ?_)
  show V x 0 0 w16 26 [(0, .ref (gz (xG x) + 109)), (1, .ref (gz (xG x) + 35)), (2, .ref (gz (xG x) + 21)), (3, .int a3)] []
  obtain ⟨h18, o19⟩ := y15
  have h20 := Ch.tr h14 h18 (by decide) (by decide)
  exact hret _ _ _ dX2_take_26 ⟨h20, o19⟩
set_option maxHeartbeats 4000000 in
set_option maxRecDepth 100000 in
theorem ctX2_give_109_35_21 (l : Launch) (G : Gt) (w : Wv) (sC : Str KC XC w) (o0 : Inv RC w)  : CtV l G yX2_give cX2_give 3 ({ frames := 2, cells := 0, slots := 0, locals := 43 } : Room) [.ref (gz G + 109), .ref (gz G + 35), .ref (gz G + 21)] w (fun w' => Ch [22, 26, 36, 37] [(35, 0), (35, 1)] w w' ∧ Inv RC w') := by
  refine enterV (by decide) (Nat.le_of_ble_eq_true rfl) ?_
  intro x el eG C hnm hret
  subst el; subst eG
  show V x 0 0 w 0 [(0, .ref (gz (xG x) + 109)), (1, .ref (gz (xG x) + 35)), (2, .ref (gz (xG x) + 21))] []
  have h0 : Ch [22, 26, 36, 37] [(35, 0), (35, 1)] w w := Ch.rf
  refine r_aload_n 1 C dX2_give_0 rfl ?_
  refine r_aload_n 0 C dX2_give_1 rfl ?_
  refine gfX2_20 111 C (kS sC h0 kc_109) (xS sC h0 xc_109_2) dX2_give_2 ?_
  refine callVV C cwX2_32_V (ctX6_copy_35_111 _ _ w (sS sC h0) o0  ) (by decide) (kS sC h0 kc_35) rfl rfl rfl (Nat.le_of_ble_eq_true rfl) (by decide) dX2_give_5 (fun w2 y1 => ?_)
  show V x 0 0 w2 8 [(0, .ref (gz (xG x) + 109)), (1, .ref (gz (xG x) + 35)), (2, .ref (gz (xG x) + 21))] []
  obtain ⟨h4, o5⟩ := y1
  have h6 := Ch.tr h0 h4 (by decide) (by decide)
  refine r_aload_n 2 C dX2_give_8 rfl ?_
  refine r_aload_n 0 C dX2_give_9 rfl ?_
  refine gfX2_9 110 C (kS sC h6 kc_109) (xS sC h6 xc_109_3) dX2_give_10 ?_
  refine callVV C cwX2_42_V (ctX1_takeWhats_21_110 _ _ w2 (sS sC h6) o5  ) (by decide) (kS sC h6 kc_21) rfl rfl rfl (Nat.le_of_ble_eq_true rfl) (by decide) dX2_give_13 (fun w8 y7 => ?_)
  show V x 0 0 w8 16 [(0, .ref (gz (xG x) + 109)), (1, .ref (gz (xG x) + 35)), (2, .ref (gz (xG x) + 21))] []
  obtain ⟨h10, o11⟩ := y7
  have h12 := Ch.tr h6 h10 (by decide) (by decide)
  exact hret _ _ _ dX2_give_16 ⟨h12, o11⟩
set_option maxHeartbeats 4000000 in
set_option maxRecDepth 100000 in
theorem ctX8_forget_55 (l : Launch) (G : Gt) (w : Wv) (sC : Str KC XC w) (o0 : Inv RC w)  : CtV l G yX8_forget cX8_forget 1 ({ frames := 0, cells := 0, slots := 0, locals := 0 } : Room) [.ref (gz G + 55)] w (fun w' => Ch [] [(55, 7)] w w' ∧ Inv RC w') := by
  refine enterV (by decide) (Nat.le_of_ble_eq_true rfl) ?_
  intro x el eG C hnm hret
  subst el; subst eG
  show V x 0 0 w 0 [(0, .ref (gz (xG x) + 55))] []
  have h0 : Ch [] [(55, 7)] w w := Ch.rf
  have q0 : (0 : Int32).toInt = 0 := by decide
  refine r_aload_n 0 C dX8_forget_0 rfl ?_
  refine r_iconst (v := 0) C dX8_forget_1 (by decide) ?_
  refine pfX8_39 C (kS sC h0 kc_55) (z_of (by omega)) dX8_forget_2 (fun w1 e2 => ?_)
  have h3 := Ch.putF h0 e2 (by decide)
  have o4 := Inv.putk o0 e2 (by decide)
  exact hret _ _ _ dX8_forget_5 ⟨h3, o4⟩
set_option maxHeartbeats 4000000 in
set_option maxRecDepth 100000 in
theorem ctX8_stepAt_55 (l : Launch) (G : Gt) (w : Wv) (sC : Str KC XC w) (o0 : Inv RC w) (a1 : Int32) : CtI l G yX8_stepAt cX8_stepAt 2 .int ({ frames := 0, cells := 0, slots := 0, locals := 0 } : Room) [.ref (gz G + 55), .int a1] w (fun r w' => Ch [] [] w w' ∧ Inv RC w') := by
  refine enterI (by decide) (Nat.le_of_ble_eq_true rfl) ?_
  intro x el eG C hret
  subst el; subst eG
  show V x 0 0 w 0 [(0, .ref (gz (xG x) + 55)), (1, .int a1)] []
  have h0 : Ch [] [] w w := Ch.rf
  have qm1 : ((-1) : Int32).toInt = (-1) := by decide
  have q0 : (0 : Int32).toInt = 0 := by decide
  refine r_iload_n 1 C dX8_stepAt_0 rfl ?_
  refine r_if_lt 21 C dX8_stepAt_1 (by decide) (fun c1 => ?_) (fun c1 => ?_)
  · have c1' := i_lt c1
    refine r_iconst (v := (-1)) C dX8_stepAt_21 (by decide) ?_
    exact hret _ _ _ _ dX8_stepAt_22 rfl ⟨h0, o0⟩
  · have c1' := i_nlt c1
    refine r_iload_n 1 C dX8_stepAt_4 rfl ?_
    refine r_aload_n 0 C dX8_stepAt_5 rfl ?_
    refine gfX8_43 (v := (wI w 55 0)) C (kS sC h0 kc_55) rfl dX8_stepAt_6 ?_
    have b2 := Inv.get o0 rt_55_0 (j := 0) (by decide) (by decide)
    refine r_icmp_ge 21 C dX8_stepAt_9 (by decide) (fun c3 => ?_) (fun c3 => ?_)
    · have c3' := i_le c3
      refine r_iconst (v := (-1)) C dX8_stepAt_21 (by decide) ?_
      exact hret _ _ _ _ dX8_stepAt_22 rfl ⟨h0, o0⟩
    · have c3' := i_nle c3
      refine r_aload_n 0 C dX8_stepAt_12 rfl ?_
      refine gfX8_17 57 C (kS sC h0 kc_55) (xS sC h0 xc_55_4) dX8_stepAt_13 ?_
      refine r_iload_n 1 C dX8_stepAt_16 rfl ?_
      refine r_iald C (kS sC h0 kc_57) (vin (by omega) (by omega)) dX8_stepAt_17 ?_
      generalize (wI w 57 (a1).toNatClampNeg) = v4
      refine r_goto 22 C dX8_stepAt_18 (by decide) ?_
      exact hret _ _ _ _ dX8_stepAt_22 rfl ⟨h0, o0⟩
set_option maxHeartbeats 4000000 in
set_option maxRecDepth 100000 in
theorem ctX8_findGates_55 (l : Launch) (G : Gt) (w : Wv) (sC : Str KC XC w) (o0 : Inv RC w)  : CtV l G yX8_findGates cX8_findGates 4 ({ frames := 2, cells := 0, slots := 0, locals := 50 } : Room) [.ref (gz G + 55)] w (fun w' => Ch [25, 26, 27, 58] [] w w' ∧ Inv RC w') := by
  refine enterV (by decide) (Nat.le_of_ble_eq_true rfl) ?_
  intro x el eG C hnm hret
  subst el; subst eG
  show V x 0 0 w 0 [(0, .ref (gz (xG x) + 55))] []
  have h0 : Ch [25, 26, 27, 58] [] w w := Ch.rf
  have qm1 : ((-1) : Int32).toInt = (-1) := by decide
  have q0 : (0 : Int32).toInt = 0 := by decide
  have q3 : (3 : Int32).toInt = 3 := by decide
  have LP2 : ∀ (f3 : Nat) (u1 : Int32) (w4 : Wv), Ch [25, 26, 27, 58] [] w w4 → Inv RC w4 → (0 ≤ u1.toInt ∧ u1.toInt ≤ 2147483647) → 2147483647 - u1.toInt < f3 → V x 0 0 w4 2 [(0, .ref (gz (xG x) + 55)), (1, .int u1)] [] := by
    intro f3
    induction f3 with
    | zero => intro u1 w4 h5 o6 z7 z8; exfalso; omega
    | succ f3 ih9 =>
      intro u1 w4 h5 o6 z7 z8
      have LP13 : ∀ (f14 : Nat) (u12 : Int32) (w15 : Wv), Ch [25, 26, 27, 58] [] w w15 → Inv RC w15 → (0 ≤ u12.toInt ∧ u12.toInt ≤ 2147483647) → 2147483647 - u12.toInt < f14 → V x 0 0 w15 28 [(0, .ref (gz (xG x) + 55)), (1, .int u12)] [] := by
        intro f14
        induction f14 with
        | zero => intro u12 w15 h16 o17 z18 z19; exfalso; omega
        | succ f14 ih20 =>
          intro u12 w15 h16 o17 z18 z19
          have LP25 : ∀ (f26 : Nat) (u23 : Int32) (u24 : Int32) (w27 : Wv), Ch [25, 26, 27, 58] [] w w27 → Inv RC w27 → (0 ≤ u23.toInt ∧ u23.toInt ≤ 41) → (0 ≤ u24.toInt ∧ u24.toInt ≤ 2147483647) → 2147483647 - u24.toInt < f26 → V x 0 0 w27 41 [(0, .ref (gz (xG x) + 55)), (1, .int u23), (2, .int u24)] [] := by
            intro f26
            induction f26 with
            | zero => intro u23 u24 w27 h28 o29 z30 z31 z32; exfalso; omega
            | succ f26 ih33 =>
              intro u23 u24 w27 h28 o29 z30 z31 z32
              refine r_iload_n 2 C dX8_findGates_41 rfl ?_
              refine r_aload_n 0 C dX8_findGates_42 rfl ?_
              refine gfX8_28 21 C (kS sC h28 kc_55) (xS sC h28 xc_55_2) dX8_findGates_43 ?_
              refine gfX8_69 (v := (wI w 21 0)) C (kS sC h28 kc_21) (h28.I (by decide) (by decide) rfl) dX8_findGates_46 ?_
              have b34 := Inv.get o0 rt_21_0 (j := 0) (by decide) (by decide)
              refine r_icmp_ge 112 C dX8_findGates_49 (by decide) (fun c35 => ?_) (fun c35 => ?_)
              · have c35' := i_le c35
                obtain ⟨i36, e37⟩ : ∃ z : Int32, u23 + Int32.ofInt 1 = z := ⟨_, rfl⟩
                have i36' := iinc_ok e37 (by decide) (by omega) (by omega)
                refine r_iinc [(1, .int i36), (0, .ref (gz (xG x) + 55)), (2, .int u24)] 1 C dX8_findGates_112 rfl e37 (by decide) rfl ?_
                refine r_goto 28 C dX8_findGates_115 (by decide) ?_
                refine r_lv [1, 0] rfl ?_
                exact ih20 i36 w27 h28 o29 (by omega) (by omega)
              · have c35' := i_nle c35
                refine r_aload_n 0 C dX8_findGates_52 rfl ?_
                refine gfX8_28 21 C (kS sC h28 kc_55) (xS sC h28 xc_55_2) dX8_findGates_53 ?_
                refine r_iload_n 1 C dX8_findGates_56 rfl ?_
                refine callVI C cwX8_74_V (ctX1_what_21 _ _ w27 (sS sC h28) o29 u23 ) (by decide) (kS sC h28 kc_21) rfl rfl rfl (Nat.le_of_ble_eq_true rfl) (by decide) dX8_findGates_57 (fun r40 w39 y38 => ?_)
                show V x 0 0 w39 60 [(0, .ref (gz (xG x) + 55)), (1, .int u23), (2, .int u24)] [.int r40]
                obtain ⟨h41, o42⟩ := y38
                have h43 := Ch.tr h28 h41 (by decide) (by decide)
                refine r_iconst (v := 3) C dX8_findGates_60 (by decide) ?_
                refine r_icmp_ne 112 C dX8_findGates_61 (by decide) (fun c44 => ?_) (fun c44 => ?_)
                · have c44' := i_ne c44
                  obtain ⟨i45, e46⟩ : ∃ z : Int32, u23 + Int32.ofInt 1 = z := ⟨_, rfl⟩
                  have i45' := iinc_ok e46 (by decide) (by omega) (by omega)
                  refine r_iinc [(1, .int i45), (0, .ref (gz (xG x) + 55)), (2, .int u24)] 1 C dX8_findGates_112 rfl e46 (by decide) rfl ?_
                  refine r_goto 28 C dX8_findGates_115 (by decide) ?_
                  refine r_lv [1, 0] rfl ?_
                  exact ih20 i45 w39 h43 o42 (by omega) (by omega)
                · have c44' := i_eq c44
                  refine r_aload_n 0 C dX8_findGates_64 rfl ?_
                  refine gfX8_28 21 C (kS sC h43 kc_55) (xS sC h43 xc_55_2) dX8_findGates_65 ?_
                  refine r_iload_n 2 C dX8_findGates_68 rfl ?_
                  refine r_iload_n 1 C dX8_findGates_69 rfl ?_
                  refine callVI C cwX8_78_V (ctX1_steps_21 _ _ w39 (sS sC h43) o42 u24 u23 ) (by decide) (kS sC h43 kc_21) rfl rfl rfl (Nat.le_of_ble_eq_true rfl) (by decide) dX8_findGates_70 (fun r49 w48 y47 => ?_)
                  show V x 0 0 w48 73 [(0, .ref (gz (xG x) + 55)), (1, .int u23), (2, .int u24)] [.int r49]
                  obtain ⟨h50, o51⟩ := y47
                  have h52 := Ch.tr h43 h50 (by decide) (by decide)
                  refine r_istore_n [(3, .int r49), (0, .ref (gz (xG x) + 55)), (1, .int u23), (2, .int u24)] C dX8_findGates_73 (by decide) rfl ?_
                  refine r_iload_n 0 C dX8_findGates_74 rfl ?_
                  refine r_iconst (v := (-1)) C dX8_findGates_75 (by decide) ?_
                  refine r_icmp_eq 106 C dX8_findGates_76 (by decide) (fun c53 => ?_) (fun c53 => ?_)
                  · have c53' := i_eq c53
                    obtain ⟨i54, e55⟩ : ∃ z : Int32, u24 + Int32.ofInt 1 = z := ⟨_, rfl⟩
                    have i54' := iinc_ok e55 (by decide) (by omega) (by omega)
                    refine r_iinc [(2, .int i54), (3, .int r49), (0, .ref (gz (xG x) + 55)), (1, .int u23)] 3 C dX8_findGates_106 rfl e55 (by decide) rfl ?_
                    refine r_goto 41 C dX8_findGates_109 (by decide) ?_
                    refine r_lv [2, 3, 0] rfl ?_
                    exact ih33 u23 i54 w48 h52 o51 (by omega) (by omega) (by omega)
                  · have c53' := i_ne c53
                    refine r_aload_n 1 C dX8_findGates_79 rfl ?_
                    refine gfX8_21 58 C (kS sC h52 kc_55) (xS sC h52 xc_55_5) dX8_findGates_80 ?_
                    refine r_iload_n 3 C dX8_findGates_83 rfl ?_
                    refine r_iald C (kS sC h52 kc_58) (vin (by omega) (by omega)) dX8_findGates_84 ?_
                    generalize (wI w48 58 (u24).toNatClampNeg) = v56
                    refine r_iconst (v := (-1)) C dX8_findGates_85 (by decide) ?_
                    refine r_icmp_eq 99 C dX8_findGates_86 (by decide) (fun c57 => ?_) (fun c57 => ?_)
                    · have c57' := i_eq c57
                      refine r_aload_n 1 C dX8_findGates_99 rfl ?_
                      refine gfX8_21 58 C (kS sC h52 kc_55) (xS sC h52 xc_55_5) dX8_findGates_100 ?_
                      refine r_iload_n 3 C dX8_findGates_103 rfl ?_
                      refine r_iload_n 0 C dX8_findGates_104 rfl ?_
                      refine r_iast C (kS sC h52 kc_58) (vin (by omega) (by omega)) dX8_findGates_105 (fun w58 e59 => ?_)
                      have h60 := Ch.putS h52 e59 (by decide)
                      have o61 := Inv.put0 o51 e59 (by decide)
                      obtain ⟨i62, e63⟩ : ∃ z : Int32, u24 + Int32.ofInt 1 = z := ⟨_, rfl⟩
                      have i62' := iinc_ok e63 (by decide) (by omega) (by omega)
                      refine r_iinc [(2, .int i62), (3, .int r49), (0, .ref (gz (xG x) + 55)), (1, .int u23)] 3 C dX8_findGates_106 rfl e63 (by decide) rfl ?_
                      refine r_goto 41 C dX8_findGates_109 (by decide) ?_
                      refine r_lv [2, 3, 0] rfl ?_
                      exact ih33 u23 i62 w58 h60 o61 (by omega) (by omega) (by omega)
                    · have c57' := i_ne c57
                      refine r_iload_n 0 C dX8_findGates_89 rfl ?_
                      refine r_aload_n 1 C dX8_findGates_90 rfl ?_
                      refine gfX8_21 58 C (kS sC h52 kc_55) (xS sC h52 xc_55_5) dX8_findGates_91 ?_
                      refine r_iload_n 3 C dX8_findGates_94 rfl ?_
                      refine r_iald C (kS sC h52 kc_58) (vin (by omega) (by omega)) dX8_findGates_95 ?_
                      generalize (wI w48 58 (u24).toNatClampNeg) = v64
                      refine r_icmp_ge 106 C dX8_findGates_96 (by decide) (fun c65 => ?_) (fun c65 => ?_)
                      · have c65' := i_le c65
                        obtain ⟨i66, e67⟩ : ∃ z : Int32, u24 + Int32.ofInt 1 = z := ⟨_, rfl⟩
                        have i66' := iinc_ok e67 (by decide) (by omega) (by omega)
                        refine r_iinc [(2, .int i66), (3, .int r49), (0, .ref (gz (xG x) + 55)), (1, .int u23)] 3 C dX8_findGates_106 rfl e67 (by decide) rfl ?_
                        refine r_goto 41 C dX8_findGates_109 (by decide) ?_
                        refine r_lv [2, 3, 0] rfl ?_
                        exact ih33 u23 i66 w48 h52 o51 (by omega) (by omega) (by omega)
                      · have c65' := i_nle c65
                        refine r_aload_n 1 C dX8_findGates_99 rfl ?_
                        refine gfX8_21 58 C (kS sC h52 kc_55) (xS sC h52 xc_55_5) dX8_findGates_100 ?_
                        refine r_iload_n 3 C dX8_findGates_103 rfl ?_
                        refine r_iload_n 0 C dX8_findGates_104 rfl ?_
                        refine r_iast C (kS sC h52 kc_58) (vin (by omega) (by omega)) dX8_findGates_105 (fun w68 e69 => ?_)
                        have h70 := Ch.putS h52 e69 (by decide)
                        have o71 := Inv.put0 o51 e69 (by decide)
                        obtain ⟨i72, e73⟩ : ∃ z : Int32, u24 + Int32.ofInt 1 = z := ⟨_, rfl⟩
                        have i72' := iinc_ok e73 (by decide) (by omega) (by omega)
                        refine r_iinc [(2, .int i72), (3, .int r49), (0, .ref (gz (xG x) + 55)), (1, .int u23)] 3 C dX8_findGates_106 rfl e73 (by decide) rfl ?_
                        refine r_goto 41 C dX8_findGates_109 (by decide) ?_
                        refine r_lv [2, 3, 0] rfl ?_
                        exact ih33 u23 i72 w68 h70 o71 (by omega) (by omega) (by omega)
          refine r_iload_n 1 C dX8_findGates_28 rfl ?_
          refine r_aload_n 0 C dX8_findGates_29 rfl ?_
          refine gfX8_28 21 C (kS sC h16 kc_55) (xS sC h16 xc_55_2) dX8_findGates_30 ?_
          refine gfX8_69 (v := (wI w 21 0)) C (kS sC h16 kc_21) (h16.I (by decide) (by decide) rfl) dX8_findGates_33 ?_
          have b21 := Inv.get o0 rt_21_0 (j := 0) (by decide) (by decide)
          refine r_icmp_ge 118 C dX8_findGates_36 (by decide) (fun c22 => ?_) (fun c22 => ?_)
          · have c22' := i_le c22
            exact hret _ _ _ dX8_findGates_118 ⟨h16, o17⟩
          · have c22' := i_nle c22
            refine r_iconst (v := 0) C dX8_findGates_39 (by decide) ?_
            refine r_istore_n [(2, .int 0), (0, .ref (gz (xG x) + 55)), (1, .int u12)] C dX8_findGates_40 (by decide) rfl ?_
            refine r_lv [1, 2, 0] rfl ?_
            exact LP25 4294967296 u12 0 w15 h16 o17 (by omega) (by omega) (by omega)
      refine r_iload_n 1 C dX8_findGates_2 rfl ?_
      refine r_aload_n 0 C dX8_findGates_3 rfl ?_
      refine gfX8_28 21 C (kS sC h5 kc_55) (xS sC h5 xc_55_2) dX8_findGates_4 ?_
      refine gfX8_69 (v := (wI w 21 0)) C (kS sC h5 kc_21) (h5.I (by decide) (by decide) rfl) dX8_findGates_7 ?_
      have b10 := Inv.get o0 rt_21_0 (j := 0) (by decide) (by decide)
      refine r_icmp_ge 26 C dX8_findGates_10 (by decide) (fun c11 => ?_) (fun c11 => ?_)
      · have c11' := i_le c11
        refine r_iconst (v := 0) C dX8_findGates_26 (by decide) ?_
        refine r_istore_n [(1, .int 0), (0, .ref (gz (xG x) + 55))] C dX8_findGates_27 (by decide) rfl ?_
        refine r_lv [1, 0] rfl ?_
        exact LP13 4294967296 0 w4 h5 o6 (by omega) (by omega)
      · have c11' := i_nle c11
        refine r_aload_n 0 C dX8_findGates_13 rfl ?_
        refine gfX8_21 58 C (kS sC h5 kc_55) (xS sC h5 xc_55_5) dX8_findGates_14 ?_
        refine r_iload_n 1 C dX8_findGates_17 rfl ?_
        refine r_iconst (v := (-1)) C dX8_findGates_18 (by decide) ?_
        refine r_iast C (kS sC h5 kc_58) (vin (by omega) (by omega)) dX8_findGates_19 (fun w74 e75 => ?_)
        have h76 := Ch.putS h5 e75 (by decide)
        have o77 := Inv.put0 o6 e75 (by decide)
        obtain ⟨i78, e79⟩ : ∃ z : Int32, u1 + Int32.ofInt 1 = z := ⟨_, rfl⟩
        have i78' := iinc_ok e79 (by decide) (by omega) (by omega)
        refine r_iinc [(1, .int i78), (0, .ref (gz (xG x) + 55))] 1 C dX8_findGates_20 rfl e79 (by decide) rfl ?_
        refine r_goto 2 C dX8_findGates_23 (by decide) ?_
        refine r_lv [1, 0] rfl ?_
        exact ih9 i78 w74 h76 o77 (by omega) (by omega)
  refine r_iconst (v := 0) C dX8_findGates_0 (by decide) ?_
  refine r_istore_n [(1, .int 0), (0, .ref (gz (xG x) + 55))] C dX8_findGates_1 (by decide) rfl ?_
  refine r_lv [1, 0] rfl ?_
  exact LP2 4294967296 0 w h0 o0 (by omega) (by omega)
set_option maxHeartbeats 4000000 in
set_option maxRecDepth 100000 in
theorem ctX8_canLeave_55_59 (l : Launch) (G : Gt) (w : Wv) (sC : Str KC XC w) (o0 : Inv RC w) (a2 : Int32) (a3 : Int32) (b2 : 0 ≤ a2.toInt ∧ a2.toInt ≤ 5) : CtI l G yX8_canLeave cX8_canLeave 7 .boolean ({ frames := 1, cells := 0, slots := 0, locals := 23 } : Room) [.ref (gz G + 55), .ref (gz G + 59), .int a2, .int a3] w (fun r w' => Ch [] [] w w' ∧ Inv RC w') := by
  refine enterI (by decide) (Nat.le_of_ble_eq_true rfl) ?_
  intro x el eG C hret
  subst el; subst eG
  show V x 0 0 w 0 [(0, .ref (gz (xG x) + 55)), (1, .ref (gz (xG x) + 59)), (2, .int a2), (3, .int a3)] []
  have h0 : Ch [] [] w w := Ch.rf
  have qm1 : ((-1) : Int32).toInt = (-1) := by decide
  have q0 : (0 : Int32).toInt = 0 := by decide
  have q1 : (1 : Int32).toInt = 1 := by decide
  refine r_aload_n 1 C dX8_canLeave_0 rfl ?_
  refine gfX8_128 60 C (kS sC h0 kc_59) (xS sC h0 xc_59_2) dX8_canLeave_1 ?_
  refine r_iload_n 2 C dX8_canLeave_4 rfl ?_
  refine r_iald C (kS sC h0 kc_60) (vin (by omega) (by omega)) dX8_canLeave_5 ?_
  generalize (wI w 60 (a2).toNatClampNeg) = v1
  refine r_istore [(4, .int v1), (0, .ref (gz (xG x) + 55)), (1, .ref (gz (xG x) + 59)), (2, .int a2), (3, .int a3)] C dX8_canLeave_6 (by decide) rfl ?_
  refine r_iload 0 C dX8_canLeave_8 rfl ?_
  refine callSI C cwX8_131_S (ctX1_isCell _ _ w v1 ) (by decide) rfl rfl (Nat.le_of_ble_eq_true rfl) (by decide) dX8_canLeave_10 (fun r4 w3 y2 => ?_)
  obtain ⟨rfl, g5⟩ := y2
  show V x 0 0 w 13 [(4, .int v1), (0, .ref (gz (xG x) + 55)), (1, .ref (gz (xG x) + 59)), (2, .int a2), (3, .int a3)] [.int r4]
  refine r_if_eq 26 C dX8_canLeave_13 (by decide) (fun c6 => ?_) (fun c6 => ?_)
  · have c6' := i_eq c6
    refine r_iconst (v := (-1)) C dX8_canLeave_26 (by decide) ?_
    refine r_istore [(5, .int (-1)), (4, .int v1), (0, .ref (gz (xG x) + 55)), (1, .ref (gz (xG x) + 59)), (2, .int a2), (3, .int a3)] C dX8_canLeave_27 (by decide) rfl ?_
    refine r_aload_n 3 C dX8_canLeave_29 rfl ?_
    refine gfX8_134 61 C (kS sC h0 kc_59) (xS sC h0 xc_59_3) dX8_canLeave_30 ?_
    refine r_iload_n 4 C dX8_canLeave_33 rfl ?_
    refine r_iald C (kS sC h0 kc_61) (vin (by omega) (by omega)) dX8_canLeave_34 ?_
    generalize (wI w 61 (a2).toNatClampNeg) = v7
    refine r_iconst (v := (-1)) C dX8_canLeave_35 (by decide) ?_
    refine r_icmp_ne 54 C dX8_canLeave_36 (by decide) (fun c8 => ?_) (fun c8 => ?_)
    · have c8' := i_ne c8
      refine r_iconst (v := 1) C dX8_canLeave_54 (by decide) ?_
      refine r_goto 59 C dX8_canLeave_55 (by decide) ?_
      refine r_istore [(6, .int 1), (5, .int (-1)), (4, .int v1), (0, .ref (gz (xG x) + 55)), (1, .ref (gz (xG x) + 59)), (2, .int a2), (3, .int a3)] C dX8_canLeave_59 (by decide) rfl ?_
      refine r_iload 0 C dX8_canLeave_61 rfl ?_
      refine r_if_eq 92 C dX8_canLeave_63 (by decide) (fun c9 => ?_) (fun c9 => ?_)
      · have c9' := i_eq c9
        exfalso; omega
      · have c9' := i_ne c9
        refine r_iload 1 C dX8_canLeave_66 rfl ?_
        refine r_iconst (v := (-1)) C dX8_canLeave_68 (by decide) ?_
        refine r_icmp_eq 92 C dX8_canLeave_69 (by decide) (fun c10 => ?_) (fun c10 => ?_)
        · have c10' := i_eq c10
          refine r_iconst (v := 0) C dX8_canLeave_92 (by decide) ?_
          exact hret _ _ _ _ dX8_canLeave_93 (nar_z (z_of (by omega))) ⟨h0, o0⟩
        · have c10' := i_ne c10
          exfalso; omega
    · have c8' := i_eq c8
      refine r_aload_n 2 C dX8_canLeave_39 rfl ?_
      refine gfX8_24 3 C (kS sC h0 kc_55) (xS sC h0 xc_55_1) dX8_canLeave_40 ?_
      refine r_iload_n 4 C dX8_canLeave_43 rfl ?_
      refine r_aload_n 2 C dX8_canLeave_44 rfl ?_
      refine gfX8_50 (v := (wI w 55 9)) C (kS sC h0 kc_55) rfl dX8_canLeave_45 ?_
      refine callVI C cwX8_137_V (ctX9_isFollower_3 _ _ w (sS sC h0) o0 a2 (wI w 55 9) ) (by decide) (kS sC h0 kc_3) rfl rfl rfl (Nat.le_of_ble_eq_true rfl) (by decide) dX8_canLeave_48 (fun r13 w12 y11 => ?_)
      show V x 0 0 w12 51 [(5, .int (-1)), (4, .int v1), (0, .ref (gz (xG x) + 55)), (1, .ref (gz (xG x) + 59)), (2, .int a2), (3, .int a3)] [.int r13]
      obtain ⟨h14, o15, g16⟩ := y11
      have h17 := Ch.tr h0 h14 (by decide) (by decide)
      refine r_if_eq 58 C dX8_canLeave_51 (by decide) (fun c18 => ?_) (fun c18 => ?_)
      · have c18' := i_eq c18
        refine r_iconst (v := 0) C dX8_canLeave_58 (by decide) ?_
        refine r_istore [(6, .int 0), (5, .int (-1)), (4, .int v1), (0, .ref (gz (xG x) + 55)), (1, .ref (gz (xG x) + 59)), (2, .int a2), (3, .int a3)] C dX8_canLeave_59 (by decide) rfl ?_
        refine r_iload 0 C dX8_canLeave_61 rfl ?_
        refine r_if_eq 92 C dX8_canLeave_63 (by decide) (fun c19 => ?_) (fun c19 => ?_)
        · have c19' := i_eq c19
          refine r_iconst (v := 0) C dX8_canLeave_92 (by decide) ?_
          exact hret _ _ _ _ dX8_canLeave_93 (nar_z (z_of (by omega))) ⟨h17, o15⟩
        · have c19' := i_ne c19
          exfalso; omega
      · have c18' := i_ne c18
        refine r_iconst (v := 1) C dX8_canLeave_54 (by decide) ?_
        refine r_goto 59 C dX8_canLeave_55 (by decide) ?_
        refine r_istore [(6, .int 1), (5, .int (-1)), (4, .int v1), (0, .ref (gz (xG x) + 55)), (1, .ref (gz (xG x) + 59)), (2, .int a2), (3, .int a3)] C dX8_canLeave_59 (by decide) rfl ?_
        refine r_iload 0 C dX8_canLeave_61 rfl ?_
        refine r_if_eq 92 C dX8_canLeave_63 (by decide) (fun c20 => ?_) (fun c20 => ?_)
        · have c20' := i_eq c20
          exfalso; omega
        · have c20' := i_ne c20
          refine r_iload 1 C dX8_canLeave_66 rfl ?_
          refine r_iconst (v := (-1)) C dX8_canLeave_68 (by decide) ?_
          refine r_icmp_eq 92 C dX8_canLeave_69 (by decide) (fun c21 => ?_) (fun c21 => ?_)
          · have c21' := i_eq c21
            refine r_iconst (v := 0) C dX8_canLeave_92 (by decide) ?_
            exact hret _ _ _ _ dX8_canLeave_93 (nar_z (z_of (by omega))) ⟨h17, o15⟩
          · have c21' := i_ne c21
            exfalso; omega
  · have c6' := i_ne c6
    refine r_aload_n 1 C dX8_canLeave_16 rfl ?_
    refine gfX8_21 58 C (kS sC h0 kc_55) (xS sC h0 xc_55_5) dX8_canLeave_17 ?_
    refine r_iload 0 C dX8_canLeave_20 rfl ?_
    refine r_iald C (kS sC h0 kc_58) (vin (by omega) (by omega)) dX8_canLeave_22 ?_
    generalize (wI w 58 (v1).toNatClampNeg) = v22
    refine r_goto 27 C dX8_canLeave_23 (by decide) ?_
    refine r_istore [(5, .int v22), (4, .int v1), (0, .ref (gz (xG x) + 55)), (1, .ref (gz (xG x) + 59)), (2, .int a2), (3, .int a3)] C dX8_canLeave_27 (by decide) rfl ?_
    refine r_aload_n 3 C dX8_canLeave_29 rfl ?_
    refine gfX8_134 61 C (kS sC h0 kc_59) (xS sC h0 xc_59_3) dX8_canLeave_30 ?_
    refine r_iload_n 4 C dX8_canLeave_33 rfl ?_
    refine r_iald C (kS sC h0 kc_61) (vin (by omega) (by omega)) dX8_canLeave_34 ?_
    generalize (wI w 61 (a2).toNatClampNeg) = v23
    refine r_iconst (v := (-1)) C dX8_canLeave_35 (by decide) ?_
    refine r_icmp_ne 54 C dX8_canLeave_36 (by decide) (fun c24 => ?_) (fun c24 => ?_)
    · have c24' := i_ne c24
      refine r_iconst (v := 1) C dX8_canLeave_54 (by decide) ?_
      refine r_goto 59 C dX8_canLeave_55 (by decide) ?_
      refine r_istore [(6, .int 1), (5, .int v22), (4, .int v1), (0, .ref (gz (xG x) + 55)), (1, .ref (gz (xG x) + 59)), (2, .int a2), (3, .int a3)] C dX8_canLeave_59 (by decide) rfl ?_
      refine r_iload 0 C dX8_canLeave_61 rfl ?_
      refine r_if_eq 92 C dX8_canLeave_63 (by decide) (fun c25 => ?_) (fun c25 => ?_)
      · have c25' := i_eq c25
        exfalso; omega
      · have c25' := i_ne c25
        refine r_iload 1 C dX8_canLeave_66 rfl ?_
        refine r_iconst (v := (-1)) C dX8_canLeave_68 (by decide) ?_
        refine r_icmp_eq 92 C dX8_canLeave_69 (by decide) (fun c26 => ?_) (fun c26 => ?_)
        · have c26' := i_eq c26
          refine r_iconst (v := 0) C dX8_canLeave_92 (by decide) ?_
          exact hret _ _ _ _ dX8_canLeave_93 (nar_z (z_of (by omega))) ⟨h0, o0⟩
        · have c26' := i_ne c26
          refine r_iload 1 C dX8_canLeave_72 rfl ?_
          refine r_iload_n 6 C dX8_canLeave_74 rfl ?_
          refine r_aload_n 3 C dX8_canLeave_75 rfl ?_
          refine gfX8_24 3 C (kS sC h0 kc_55) (xS sC h0 xc_55_1) dX8_canLeave_76 ?_
          refine gfX8_140 8 C (kS sC h0 kc_3) (xS sC h0 xc_3_13) dX8_canLeave_79 ?_
          refine r_iload_n 5 C dX8_canLeave_82 rfl ?_
          refine r_iald C (kS sC h0 kc_8) (vin (by omega) (by omega)) dX8_canLeave_83 ?_
          generalize (wI w 8 (a2).toNatClampNeg) = v27
          refine r_imul C dX8_canLeave_84 (fun v28 e29 => ?_)
          refine r_icmp_gt 92 C dX8_canLeave_85 (by decide) (fun c30 => ?_) (fun c30 => ?_)
          · have c30' := i_lt c30
            refine r_iconst (v := 0) C dX8_canLeave_92 (by decide) ?_
            exact hret _ _ _ _ dX8_canLeave_93 (nar_z (z_of (by omega))) ⟨h0, o0⟩
          · have c30' := i_nlt c30
            refine r_iconst (v := 1) C dX8_canLeave_88 (by decide) ?_
            refine r_goto 93 C dX8_canLeave_89 (by decide) ?_
            exact hret _ _ _ _ dX8_canLeave_93 (nar_z (z_of (by omega))) ⟨h0, o0⟩
    · have c24' := i_eq c24
      refine r_aload_n 2 C dX8_canLeave_39 rfl ?_
      refine gfX8_24 3 C (kS sC h0 kc_55) (xS sC h0 xc_55_1) dX8_canLeave_40 ?_
      refine r_iload_n 4 C dX8_canLeave_43 rfl ?_
      refine r_aload_n 2 C dX8_canLeave_44 rfl ?_
      refine gfX8_50 (v := (wI w 55 9)) C (kS sC h0 kc_55) rfl dX8_canLeave_45 ?_
      refine callVI C cwX8_137_V (ctX9_isFollower_3 _ _ w (sS sC h0) o0 a2 (wI w 55 9) ) (by decide) (kS sC h0 kc_3) rfl rfl rfl (Nat.le_of_ble_eq_true rfl) (by decide) dX8_canLeave_48 (fun r33 w32 y31 => ?_)
      show V x 0 0 w32 51 [(5, .int v22), (4, .int v1), (0, .ref (gz (xG x) + 55)), (1, .ref (gz (xG x) + 59)), (2, .int a2), (3, .int a3)] [.int r33]
      obtain ⟨h34, o35, g36⟩ := y31
      have h37 := Ch.tr h0 h34 (by decide) (by decide)
      refine r_if_eq 58 C dX8_canLeave_51 (by decide) (fun c38 => ?_) (fun c38 => ?_)
      · have c38' := i_eq c38
        refine r_iconst (v := 0) C dX8_canLeave_58 (by decide) ?_
        refine r_istore [(6, .int 0), (5, .int v22), (4, .int v1), (0, .ref (gz (xG x) + 55)), (1, .ref (gz (xG x) + 59)), (2, .int a2), (3, .int a3)] C dX8_canLeave_59 (by decide) rfl ?_
        refine r_iload 0 C dX8_canLeave_61 rfl ?_
        refine r_if_eq 92 C dX8_canLeave_63 (by decide) (fun c39 => ?_) (fun c39 => ?_)
        · have c39' := i_eq c39
          refine r_iconst (v := 0) C dX8_canLeave_92 (by decide) ?_
          exact hret _ _ _ _ dX8_canLeave_93 (nar_z (z_of (by omega))) ⟨h37, o35⟩
        · have c39' := i_ne c39
          exfalso; omega
      · have c38' := i_ne c38
        refine r_iconst (v := 1) C dX8_canLeave_54 (by decide) ?_
        refine r_goto 59 C dX8_canLeave_55 (by decide) ?_
        refine r_istore [(6, .int 1), (5, .int v22), (4, .int v1), (0, .ref (gz (xG x) + 55)), (1, .ref (gz (xG x) + 59)), (2, .int a2), (3, .int a3)] C dX8_canLeave_59 (by decide) rfl ?_
        refine r_iload 0 C dX8_canLeave_61 rfl ?_
        refine r_if_eq 92 C dX8_canLeave_63 (by decide) (fun c40 => ?_) (fun c40 => ?_)
        · have c40' := i_eq c40
          exfalso; omega
        · have c40' := i_ne c40
          refine r_iload 1 C dX8_canLeave_66 rfl ?_
          refine r_iconst (v := (-1)) C dX8_canLeave_68 (by decide) ?_
          refine r_icmp_eq 92 C dX8_canLeave_69 (by decide) (fun c41 => ?_) (fun c41 => ?_)
          · have c41' := i_eq c41
            refine r_iconst (v := 0) C dX8_canLeave_92 (by decide) ?_
            exact hret _ _ _ _ dX8_canLeave_93 (nar_z (z_of (by omega))) ⟨h37, o35⟩
          · have c41' := i_ne c41
            refine r_iload 1 C dX8_canLeave_72 rfl ?_
            refine r_iload_n 6 C dX8_canLeave_74 rfl ?_
            refine r_aload_n 3 C dX8_canLeave_75 rfl ?_
            refine gfX8_24 3 C (kS sC h37 kc_55) (xS sC h37 xc_55_1) dX8_canLeave_76 ?_
            refine gfX8_140 8 C (kS sC h37 kc_3) (xS sC h37 xc_3_13) dX8_canLeave_79 ?_
            refine r_iload_n 5 C dX8_canLeave_82 rfl ?_
            refine r_iald C (kS sC h37 kc_8) (vin (by omega) (by omega)) dX8_canLeave_83 ?_
            generalize (wI w32 8 (a2).toNatClampNeg) = v42
            refine r_imul C dX8_canLeave_84 (fun v43 e44 => ?_)
            refine r_icmp_gt 92 C dX8_canLeave_85 (by decide) (fun c45 => ?_) (fun c45 => ?_)
            · have c45' := i_lt c45
              refine r_iconst (v := 0) C dX8_canLeave_92 (by decide) ?_
              exact hret _ _ _ _ dX8_canLeave_93 (nar_z (z_of (by omega))) ⟨h37, o35⟩
            · have c45' := i_nlt c45
              refine r_iconst (v := 1) C dX8_canLeave_88 (by decide) ?_
              refine r_goto 93 C dX8_canLeave_89 (by decide) ?_
              exact hret _ _ _ _ dX8_canLeave_93 (nar_z (z_of (by omega))) ⟨h37, o35⟩
set_option maxHeartbeats 4000000 in
set_option maxRecDepth 100000 in
theorem ctX8_canLeave_55_62 (l : Launch) (G : Gt) (w : Wv) (sC : Str KC XC w) (o0 : Inv RC w) (a2 : Int32) (a3 : Int32) (b2 : 0 ≤ a2.toInt ∧ a2.toInt ≤ 5) : CtI l G yX8_canLeave cX8_canLeave 7 .boolean ({ frames := 1, cells := 0, slots := 0, locals := 23 } : Room) [.ref (gz G + 55), .ref (gz G + 62), .int a2, .int a3] w (fun r w' => Ch [] [] w w' ∧ Inv RC w') := by
  refine enterI (by decide) (Nat.le_of_ble_eq_true rfl) ?_
  intro x el eG C hret
  subst el; subst eG
  show V x 0 0 w 0 [(0, .ref (gz (xG x) + 55)), (1, .ref (gz (xG x) + 62)), (2, .int a2), (3, .int a3)] []
  have h0 : Ch [] [] w w := Ch.rf
  have qm1 : ((-1) : Int32).toInt = (-1) := by decide
  have q0 : (0 : Int32).toInt = 0 := by decide
  have q1 : (1 : Int32).toInt = 1 := by decide
  refine r_aload_n 1 C dX8_canLeave_0 rfl ?_
  refine gfX8_128 63 C (kS sC h0 kc_62) (xS sC h0 xc_62_2) dX8_canLeave_1 ?_
  refine r_iload_n 2 C dX8_canLeave_4 rfl ?_
  refine r_iald C (kS sC h0 kc_63) (vin (by omega) (by omega)) dX8_canLeave_5 ?_
  generalize (wI w 63 (a2).toNatClampNeg) = v1
  refine r_istore [(4, .int v1), (0, .ref (gz (xG x) + 55)), (1, .ref (gz (xG x) + 62)), (2, .int a2), (3, .int a3)] C dX8_canLeave_6 (by decide) rfl ?_
  refine r_iload 0 C dX8_canLeave_8 rfl ?_
  refine callSI C cwX8_131_S (ctX1_isCell _ _ w v1 ) (by decide) rfl rfl (Nat.le_of_ble_eq_true rfl) (by decide) dX8_canLeave_10 (fun r4 w3 y2 => ?_)
  obtain ⟨rfl, g5⟩ := y2
  show V x 0 0 w 13 [(4, .int v1), (0, .ref (gz (xG x) + 55)), (1, .ref (gz (xG x) + 62)), (2, .int a2), (3, .int a3)] [.int r4]
  refine r_if_eq 26 C dX8_canLeave_13 (by decide) (fun c6 => ?_) (fun c6 => ?_)
  · have c6' := i_eq c6
    refine r_iconst (v := (-1)) C dX8_canLeave_26 (by decide) ?_
    refine r_istore [(5, .int (-1)), (4, .int v1), (0, .ref (gz (xG x) + 55)), (1, .ref (gz (xG x) + 62)), (2, .int a2), (3, .int a3)] C dX8_canLeave_27 (by decide) rfl ?_
    refine r_aload_n 3 C dX8_canLeave_29 rfl ?_
    refine gfX8_134 64 C (kS sC h0 kc_62) (xS sC h0 xc_62_3) dX8_canLeave_30 ?_
    refine r_iload_n 4 C dX8_canLeave_33 rfl ?_
    refine r_iald C (kS sC h0 kc_64) (vin (by omega) (by omega)) dX8_canLeave_34 ?_
    generalize (wI w 64 (a2).toNatClampNeg) = v7
    refine r_iconst (v := (-1)) C dX8_canLeave_35 (by decide) ?_
    refine r_icmp_ne 54 C dX8_canLeave_36 (by decide) (fun c8 => ?_) (fun c8 => ?_)
    · have c8' := i_ne c8
      refine r_iconst (v := 1) C dX8_canLeave_54 (by decide) ?_
      refine r_goto 59 C dX8_canLeave_55 (by decide) ?_
      refine r_istore [(6, .int 1), (5, .int (-1)), (4, .int v1), (0, .ref (gz (xG x) + 55)), (1, .ref (gz (xG x) + 62)), (2, .int a2), (3, .int a3)] C dX8_canLeave_59 (by decide) rfl ?_
      refine r_iload 0 C dX8_canLeave_61 rfl ?_
      refine r_if_eq 92 C dX8_canLeave_63 (by decide) (fun c9 => ?_) (fun c9 => ?_)
      · have c9' := i_eq c9
        exfalso; omega
      · have c9' := i_ne c9
        refine r_iload 1 C dX8_canLeave_66 rfl ?_
        refine r_iconst (v := (-1)) C dX8_canLeave_68 (by decide) ?_
        refine r_icmp_eq 92 C dX8_canLeave_69 (by decide) (fun c10 => ?_) (fun c10 => ?_)
        · have c10' := i_eq c10
          refine r_iconst (v := 0) C dX8_canLeave_92 (by decide) ?_
          exact hret _ _ _ _ dX8_canLeave_93 (nar_z (z_of (by omega))) ⟨h0, o0⟩
        · have c10' := i_ne c10
          exfalso; omega
    · have c8' := i_eq c8
      refine r_aload_n 2 C dX8_canLeave_39 rfl ?_
      refine gfX8_24 3 C (kS sC h0 kc_55) (xS sC h0 xc_55_1) dX8_canLeave_40 ?_
      refine r_iload_n 4 C dX8_canLeave_43 rfl ?_
      refine r_aload_n 2 C dX8_canLeave_44 rfl ?_
      refine gfX8_50 (v := (wI w 55 9)) C (kS sC h0 kc_55) rfl dX8_canLeave_45 ?_
      refine callVI C cwX8_137_V (ctX9_isFollower_3 _ _ w (sS sC h0) o0 a2 (wI w 55 9) ) (by decide) (kS sC h0 kc_3) rfl rfl rfl (Nat.le_of_ble_eq_true rfl) (by decide) dX8_canLeave_48 (fun r13 w12 y11 => ?_)
      show V x 0 0 w12 51 [(5, .int (-1)), (4, .int v1), (0, .ref (gz (xG x) + 55)), (1, .ref (gz (xG x) + 62)), (2, .int a2), (3, .int a3)] [.int r13]
      obtain ⟨h14, o15, g16⟩ := y11
      have h17 := Ch.tr h0 h14 (by decide) (by decide)
      refine r_if_eq 58 C dX8_canLeave_51 (by decide) (fun c18 => ?_) (fun c18 => ?_)
      · have c18' := i_eq c18
        refine r_iconst (v := 0) C dX8_canLeave_58 (by decide) ?_
        refine r_istore [(6, .int 0), (5, .int (-1)), (4, .int v1), (0, .ref (gz (xG x) + 55)), (1, .ref (gz (xG x) + 62)), (2, .int a2), (3, .int a3)] C dX8_canLeave_59 (by decide) rfl ?_
        refine r_iload 0 C dX8_canLeave_61 rfl ?_
        refine r_if_eq 92 C dX8_canLeave_63 (by decide) (fun c19 => ?_) (fun c19 => ?_)
        · have c19' := i_eq c19
          refine r_iconst (v := 0) C dX8_canLeave_92 (by decide) ?_
          exact hret _ _ _ _ dX8_canLeave_93 (nar_z (z_of (by omega))) ⟨h17, o15⟩
        · have c19' := i_ne c19
          exfalso; omega
      · have c18' := i_ne c18
        refine r_iconst (v := 1) C dX8_canLeave_54 (by decide) ?_
        refine r_goto 59 C dX8_canLeave_55 (by decide) ?_
        refine r_istore [(6, .int 1), (5, .int (-1)), (4, .int v1), (0, .ref (gz (xG x) + 55)), (1, .ref (gz (xG x) + 62)), (2, .int a2), (3, .int a3)] C dX8_canLeave_59 (by decide) rfl ?_
        refine r_iload 0 C dX8_canLeave_61 rfl ?_
        refine r_if_eq 92 C dX8_canLeave_63 (by decide) (fun c20 => ?_) (fun c20 => ?_)
        · have c20' := i_eq c20
          exfalso; omega
        · have c20' := i_ne c20
          refine r_iload 1 C dX8_canLeave_66 rfl ?_
          refine r_iconst (v := (-1)) C dX8_canLeave_68 (by decide) ?_
          refine r_icmp_eq 92 C dX8_canLeave_69 (by decide) (fun c21 => ?_) (fun c21 => ?_)
          · have c21' := i_eq c21
            refine r_iconst (v := 0) C dX8_canLeave_92 (by decide) ?_
            exact hret _ _ _ _ dX8_canLeave_93 (nar_z (z_of (by omega))) ⟨h17, o15⟩
          · have c21' := i_ne c21
            exfalso; omega
  · have c6' := i_ne c6
    refine r_aload_n 1 C dX8_canLeave_16 rfl ?_
    refine gfX8_21 58 C (kS sC h0 kc_55) (xS sC h0 xc_55_5) dX8_canLeave_17 ?_
    refine r_iload 0 C dX8_canLeave_20 rfl ?_
    refine r_iald C (kS sC h0 kc_58) (vin (by omega) (by omega)) dX8_canLeave_22 ?_
    generalize (wI w 58 (v1).toNatClampNeg) = v22
    refine r_goto 27 C dX8_canLeave_23 (by decide) ?_
    refine r_istore [(5, .int v22), (4, .int v1), (0, .ref (gz (xG x) + 55)), (1, .ref (gz (xG x) + 62)), (2, .int a2), (3, .int a3)] C dX8_canLeave_27 (by decide) rfl ?_
    refine r_aload_n 3 C dX8_canLeave_29 rfl ?_
    refine gfX8_134 64 C (kS sC h0 kc_62) (xS sC h0 xc_62_3) dX8_canLeave_30 ?_
    refine r_iload_n 4 C dX8_canLeave_33 rfl ?_
    refine r_iald C (kS sC h0 kc_64) (vin (by omega) (by omega)) dX8_canLeave_34 ?_
    generalize (wI w 64 (a2).toNatClampNeg) = v23
    refine r_iconst (v := (-1)) C dX8_canLeave_35 (by decide) ?_
    refine r_icmp_ne 54 C dX8_canLeave_36 (by decide) (fun c24 => ?_) (fun c24 => ?_)
    · have c24' := i_ne c24
      refine r_iconst (v := 1) C dX8_canLeave_54 (by decide) ?_
      refine r_goto 59 C dX8_canLeave_55 (by decide) ?_
      refine r_istore [(6, .int 1), (5, .int v22), (4, .int v1), (0, .ref (gz (xG x) + 55)), (1, .ref (gz (xG x) + 62)), (2, .int a2), (3, .int a3)] C dX8_canLeave_59 (by decide) rfl ?_
      refine r_iload 0 C dX8_canLeave_61 rfl ?_
      refine r_if_eq 92 C dX8_canLeave_63 (by decide) (fun c25 => ?_) (fun c25 => ?_)
      · have c25' := i_eq c25
        exfalso; omega
      · have c25' := i_ne c25
        refine r_iload 1 C dX8_canLeave_66 rfl ?_
        refine r_iconst (v := (-1)) C dX8_canLeave_68 (by decide) ?_
        refine r_icmp_eq 92 C dX8_canLeave_69 (by decide) (fun c26 => ?_) (fun c26 => ?_)
        · have c26' := i_eq c26
          refine r_iconst (v := 0) C dX8_canLeave_92 (by decide) ?_
          exact hret _ _ _ _ dX8_canLeave_93 (nar_z (z_of (by omega))) ⟨h0, o0⟩
        · have c26' := i_ne c26
          refine r_iload 1 C dX8_canLeave_72 rfl ?_
          refine r_iload_n 6 C dX8_canLeave_74 rfl ?_
          refine r_aload_n 3 C dX8_canLeave_75 rfl ?_
          refine gfX8_24 3 C (kS sC h0 kc_55) (xS sC h0 xc_55_1) dX8_canLeave_76 ?_
          refine gfX8_140 8 C (kS sC h0 kc_3) (xS sC h0 xc_3_13) dX8_canLeave_79 ?_
          refine r_iload_n 5 C dX8_canLeave_82 rfl ?_
          refine r_iald C (kS sC h0 kc_8) (vin (by omega) (by omega)) dX8_canLeave_83 ?_
          generalize (wI w 8 (a2).toNatClampNeg) = v27
          refine r_imul C dX8_canLeave_84 (fun v28 e29 => ?_)
          refine r_icmp_gt 92 C dX8_canLeave_85 (by decide) (fun c30 => ?_) (fun c30 => ?_)
          · have c30' := i_lt c30
            refine r_iconst (v := 0) C dX8_canLeave_92 (by decide) ?_
            exact hret _ _ _ _ dX8_canLeave_93 (nar_z (z_of (by omega))) ⟨h0, o0⟩
          · have c30' := i_nlt c30
            refine r_iconst (v := 1) C dX8_canLeave_88 (by decide) ?_
            refine r_goto 93 C dX8_canLeave_89 (by decide) ?_
            exact hret _ _ _ _ dX8_canLeave_93 (nar_z (z_of (by omega))) ⟨h0, o0⟩
    · have c24' := i_eq c24
      refine r_aload_n 2 C dX8_canLeave_39 rfl ?_
      refine gfX8_24 3 C (kS sC h0 kc_55) (xS sC h0 xc_55_1) dX8_canLeave_40 ?_
      refine r_iload_n 4 C dX8_canLeave_43 rfl ?_
      refine r_aload_n 2 C dX8_canLeave_44 rfl ?_
      refine gfX8_50 (v := (wI w 55 9)) C (kS sC h0 kc_55) rfl dX8_canLeave_45 ?_
      refine callVI C cwX8_137_V (ctX9_isFollower_3 _ _ w (sS sC h0) o0 a2 (wI w 55 9) ) (by decide) (kS sC h0 kc_3) rfl rfl rfl (Nat.le_of_ble_eq_true rfl) (by decide) dX8_canLeave_48 (fun r33 w32 y31 => ?_)
      show V x 0 0 w32 51 [(5, .int v22), (4, .int v1), (0, .ref (gz (xG x) + 55)), (1, .ref (gz (xG x) + 62)), (2, .int a2), (3, .int a3)] [.int r33]
      obtain ⟨h34, o35, g36⟩ := y31
      have h37 := Ch.tr h0 h34 (by decide) (by decide)
      refine r_if_eq 58 C dX8_canLeave_51 (by decide) (fun c38 => ?_) (fun c38 => ?_)
      · have c38' := i_eq c38
        refine r_iconst (v := 0) C dX8_canLeave_58 (by decide) ?_
        refine r_istore [(6, .int 0), (5, .int v22), (4, .int v1), (0, .ref (gz (xG x) + 55)), (1, .ref (gz (xG x) + 62)), (2, .int a2), (3, .int a3)] C dX8_canLeave_59 (by decide) rfl ?_
        refine r_iload 0 C dX8_canLeave_61 rfl ?_
        refine r_if_eq 92 C dX8_canLeave_63 (by decide) (fun c39 => ?_) (fun c39 => ?_)
        · have c39' := i_eq c39
          refine r_iconst (v := 0) C dX8_canLeave_92 (by decide) ?_
          exact hret _ _ _ _ dX8_canLeave_93 (nar_z (z_of (by omega))) ⟨h37, o35⟩
        · have c39' := i_ne c39
          exfalso; omega
      · have c38' := i_ne c38
        refine r_iconst (v := 1) C dX8_canLeave_54 (by decide) ?_
        refine r_goto 59 C dX8_canLeave_55 (by decide) ?_
        refine r_istore [(6, .int 1), (5, .int v22), (4, .int v1), (0, .ref (gz (xG x) + 55)), (1, .ref (gz (xG x) + 62)), (2, .int a2), (3, .int a3)] C dX8_canLeave_59 (by decide) rfl ?_
        refine r_iload 0 C dX8_canLeave_61 rfl ?_
        refine r_if_eq 92 C dX8_canLeave_63 (by decide) (fun c40 => ?_) (fun c40 => ?_)
        · have c40' := i_eq c40
          exfalso; omega
        · have c40' := i_ne c40
          refine r_iload 1 C dX8_canLeave_66 rfl ?_
          refine r_iconst (v := (-1)) C dX8_canLeave_68 (by decide) ?_
          refine r_icmp_eq 92 C dX8_canLeave_69 (by decide) (fun c41 => ?_) (fun c41 => ?_)
          · have c41' := i_eq c41
            refine r_iconst (v := 0) C dX8_canLeave_92 (by decide) ?_
            exact hret _ _ _ _ dX8_canLeave_93 (nar_z (z_of (by omega))) ⟨h37, o35⟩
          · have c41' := i_ne c41
            refine r_iload 1 C dX8_canLeave_72 rfl ?_
            refine r_iload_n 6 C dX8_canLeave_74 rfl ?_
            refine r_aload_n 3 C dX8_canLeave_75 rfl ?_
            refine gfX8_24 3 C (kS sC h37 kc_55) (xS sC h37 xc_55_1) dX8_canLeave_76 ?_
            refine gfX8_140 8 C (kS sC h37 kc_3) (xS sC h37 xc_3_13) dX8_canLeave_79 ?_
            refine r_iload_n 5 C dX8_canLeave_82 rfl ?_
            refine r_iald C (kS sC h37 kc_8) (vin (by omega) (by omega)) dX8_canLeave_83 ?_
            generalize (wI w32 8 (a2).toNatClampNeg) = v42
            refine r_imul C dX8_canLeave_84 (fun v43 e44 => ?_)
            refine r_icmp_gt 92 C dX8_canLeave_85 (by decide) (fun c45 => ?_) (fun c45 => ?_)
            · have c45' := i_lt c45
              refine r_iconst (v := 0) C dX8_canLeave_92 (by decide) ?_
              exact hret _ _ _ _ dX8_canLeave_93 (nar_z (z_of (by omega))) ⟨h37, o35⟩
            · have c45' := i_nlt c45
              refine r_iconst (v := 1) C dX8_canLeave_88 (by decide) ?_
              refine r_goto 93 C dX8_canLeave_89 (by decide) ?_
              exact hret _ _ _ _ dX8_canLeave_93 (nar_z (z_of (by omega))) ⟨h37, o35⟩
set_option maxHeartbeats 4000000 in
set_option maxRecDepth 100000 in
theorem ctX8_canLeave_55_65 (l : Launch) (G : Gt) (w : Wv) (sC : Str KC XC w) (o0 : Inv RC w) (a2 : Int32) (a3 : Int32) (b2 : 0 ≤ a2.toInt ∧ a2.toInt ≤ 5) : CtI l G yX8_canLeave cX8_canLeave 7 .boolean ({ frames := 1, cells := 0, slots := 0, locals := 23 } : Room) [.ref (gz G + 55), .ref (gz G + 65), .int a2, .int a3] w (fun r w' => Ch [] [] w w' ∧ Inv RC w') := by
  refine enterI (by decide) (Nat.le_of_ble_eq_true rfl) ?_
  intro x el eG C hret
  subst el; subst eG
  show V x 0 0 w 0 [(0, .ref (gz (xG x) + 55)), (1, .ref (gz (xG x) + 65)), (2, .int a2), (3, .int a3)] []
  have h0 : Ch [] [] w w := Ch.rf
  have qm1 : ((-1) : Int32).toInt = (-1) := by decide
  have q0 : (0 : Int32).toInt = 0 := by decide
  have q1 : (1 : Int32).toInt = 1 := by decide
  refine r_aload_n 1 C dX8_canLeave_0 rfl ?_
  refine gfX8_128 66 C (kS sC h0 kc_65) (xS sC h0 xc_65_2) dX8_canLeave_1 ?_
  refine r_iload_n 2 C dX8_canLeave_4 rfl ?_
  refine r_iald C (kS sC h0 kc_66) (vin (by omega) (by omega)) dX8_canLeave_5 ?_
  generalize (wI w 66 (a2).toNatClampNeg) = v1
  refine r_istore [(4, .int v1), (0, .ref (gz (xG x) + 55)), (1, .ref (gz (xG x) + 65)), (2, .int a2), (3, .int a3)] C dX8_canLeave_6 (by decide) rfl ?_
  refine r_iload 0 C dX8_canLeave_8 rfl ?_
  refine callSI C cwX8_131_S (ctX1_isCell _ _ w v1 ) (by decide) rfl rfl (Nat.le_of_ble_eq_true rfl) (by decide) dX8_canLeave_10 (fun r4 w3 y2 => ?_)
  obtain ⟨rfl, g5⟩ := y2
  show V x 0 0 w 13 [(4, .int v1), (0, .ref (gz (xG x) + 55)), (1, .ref (gz (xG x) + 65)), (2, .int a2), (3, .int a3)] [.int r4]
  refine r_if_eq 26 C dX8_canLeave_13 (by decide) (fun c6 => ?_) (fun c6 => ?_)
  · have c6' := i_eq c6
    refine r_iconst (v := (-1)) C dX8_canLeave_26 (by decide) ?_
    refine r_istore [(5, .int (-1)), (4, .int v1), (0, .ref (gz (xG x) + 55)), (1, .ref (gz (xG x) + 65)), (2, .int a2), (3, .int a3)] C dX8_canLeave_27 (by decide) rfl ?_
    refine r_aload_n 3 C dX8_canLeave_29 rfl ?_
    refine gfX8_134 67 C (kS sC h0 kc_65) (xS sC h0 xc_65_3) dX8_canLeave_30 ?_
    refine r_iload_n 4 C dX8_canLeave_33 rfl ?_
    refine r_iald C (kS sC h0 kc_67) (vin (by omega) (by omega)) dX8_canLeave_34 ?_
    generalize (wI w 67 (a2).toNatClampNeg) = v7
    refine r_iconst (v := (-1)) C dX8_canLeave_35 (by decide) ?_
    refine r_icmp_ne 54 C dX8_canLeave_36 (by decide) (fun c8 => ?_) (fun c8 => ?_)
    · have c8' := i_ne c8
      refine r_iconst (v := 1) C dX8_canLeave_54 (by decide) ?_
      refine r_goto 59 C dX8_canLeave_55 (by decide) ?_
      refine r_istore [(6, .int 1), (5, .int (-1)), (4, .int v1), (0, .ref (gz (xG x) + 55)), (1, .ref (gz (xG x) + 65)), (2, .int a2), (3, .int a3)] C dX8_canLeave_59 (by decide) rfl ?_
      refine r_iload 0 C dX8_canLeave_61 rfl ?_
      refine r_if_eq 92 C dX8_canLeave_63 (by decide) (fun c9 => ?_) (fun c9 => ?_)
      · have c9' := i_eq c9
        exfalso; omega
      · have c9' := i_ne c9
        refine r_iload 1 C dX8_canLeave_66 rfl ?_
        refine r_iconst (v := (-1)) C dX8_canLeave_68 (by decide) ?_
        refine r_icmp_eq 92 C dX8_canLeave_69 (by decide) (fun c10 => ?_) (fun c10 => ?_)
        · have c10' := i_eq c10
          refine r_iconst (v := 0) C dX8_canLeave_92 (by decide) ?_
          exact hret _ _ _ _ dX8_canLeave_93 (nar_z (z_of (by omega))) ⟨h0, o0⟩
        · have c10' := i_ne c10
          exfalso; omega
    · have c8' := i_eq c8
      refine r_aload_n 2 C dX8_canLeave_39 rfl ?_
      refine gfX8_24 3 C (kS sC h0 kc_55) (xS sC h0 xc_55_1) dX8_canLeave_40 ?_
      refine r_iload_n 4 C dX8_canLeave_43 rfl ?_
      refine r_aload_n 2 C dX8_canLeave_44 rfl ?_
      refine gfX8_50 (v := (wI w 55 9)) C (kS sC h0 kc_55) rfl dX8_canLeave_45 ?_
      refine callVI C cwX8_137_V (ctX9_isFollower_3 _ _ w (sS sC h0) o0 a2 (wI w 55 9) ) (by decide) (kS sC h0 kc_3) rfl rfl rfl (Nat.le_of_ble_eq_true rfl) (by decide) dX8_canLeave_48 (fun r13 w12 y11 => ?_)
      show V x 0 0 w12 51 [(5, .int (-1)), (4, .int v1), (0, .ref (gz (xG x) + 55)), (1, .ref (gz (xG x) + 65)), (2, .int a2), (3, .int a3)] [.int r13]
      obtain ⟨h14, o15, g16⟩ := y11
      have h17 := Ch.tr h0 h14 (by decide) (by decide)
      refine r_if_eq 58 C dX8_canLeave_51 (by decide) (fun c18 => ?_) (fun c18 => ?_)
      · have c18' := i_eq c18
        refine r_iconst (v := 0) C dX8_canLeave_58 (by decide) ?_
        refine r_istore [(6, .int 0), (5, .int (-1)), (4, .int v1), (0, .ref (gz (xG x) + 55)), (1, .ref (gz (xG x) + 65)), (2, .int a2), (3, .int a3)] C dX8_canLeave_59 (by decide) rfl ?_
        refine r_iload 0 C dX8_canLeave_61 rfl ?_
        refine r_if_eq 92 C dX8_canLeave_63 (by decide) (fun c19 => ?_) (fun c19 => ?_)
        · have c19' := i_eq c19
          refine r_iconst (v := 0) C dX8_canLeave_92 (by decide) ?_
          exact hret _ _ _ _ dX8_canLeave_93 (nar_z (z_of (by omega))) ⟨h17, o15⟩
        · have c19' := i_ne c19
          exfalso; omega
      · have c18' := i_ne c18
        refine r_iconst (v := 1) C dX8_canLeave_54 (by decide) ?_
        refine r_goto 59 C dX8_canLeave_55 (by decide) ?_
        refine r_istore [(6, .int 1), (5, .int (-1)), (4, .int v1), (0, .ref (gz (xG x) + 55)), (1, .ref (gz (xG x) + 65)), (2, .int a2), (3, .int a3)] C dX8_canLeave_59 (by decide) rfl ?_
        refine r_iload 0 C dX8_canLeave_61 rfl ?_
        refine r_if_eq 92 C dX8_canLeave_63 (by decide) (fun c20 => ?_) (fun c20 => ?_)
        · have c20' := i_eq c20
          exfalso; omega
        · have c20' := i_ne c20
          refine r_iload 1 C dX8_canLeave_66 rfl ?_
          refine r_iconst (v := (-1)) C dX8_canLeave_68 (by decide) ?_
          refine r_icmp_eq 92 C dX8_canLeave_69 (by decide) (fun c21 => ?_) (fun c21 => ?_)
          · have c21' := i_eq c21
            refine r_iconst (v := 0) C dX8_canLeave_92 (by decide) ?_
            exact hret _ _ _ _ dX8_canLeave_93 (nar_z (z_of (by omega))) ⟨h17, o15⟩
          · have c21' := i_ne c21
            exfalso; omega
  · have c6' := i_ne c6
    refine r_aload_n 1 C dX8_canLeave_16 rfl ?_
    refine gfX8_21 58 C (kS sC h0 kc_55) (xS sC h0 xc_55_5) dX8_canLeave_17 ?_
    refine r_iload 0 C dX8_canLeave_20 rfl ?_
    refine r_iald C (kS sC h0 kc_58) (vin (by omega) (by omega)) dX8_canLeave_22 ?_
    generalize (wI w 58 (v1).toNatClampNeg) = v22
    refine r_goto 27 C dX8_canLeave_23 (by decide) ?_
    refine r_istore [(5, .int v22), (4, .int v1), (0, .ref (gz (xG x) + 55)), (1, .ref (gz (xG x) + 65)), (2, .int a2), (3, .int a3)] C dX8_canLeave_27 (by decide) rfl ?_
    refine r_aload_n 3 C dX8_canLeave_29 rfl ?_
    refine gfX8_134 67 C (kS sC h0 kc_65) (xS sC h0 xc_65_3) dX8_canLeave_30 ?_
    refine r_iload_n 4 C dX8_canLeave_33 rfl ?_
    refine r_iald C (kS sC h0 kc_67) (vin (by omega) (by omega)) dX8_canLeave_34 ?_
    generalize (wI w 67 (a2).toNatClampNeg) = v23
    refine r_iconst (v := (-1)) C dX8_canLeave_35 (by decide) ?_
    refine r_icmp_ne 54 C dX8_canLeave_36 (by decide) (fun c24 => ?_) (fun c24 => ?_)
    · have c24' := i_ne c24
      refine r_iconst (v := 1) C dX8_canLeave_54 (by decide) ?_
      refine r_goto 59 C dX8_canLeave_55 (by decide) ?_
      refine r_istore [(6, .int 1), (5, .int v22), (4, .int v1), (0, .ref (gz (xG x) + 55)), (1, .ref (gz (xG x) + 65)), (2, .int a2), (3, .int a3)] C dX8_canLeave_59 (by decide) rfl ?_
      refine r_iload 0 C dX8_canLeave_61 rfl ?_
      refine r_if_eq 92 C dX8_canLeave_63 (by decide) (fun c25 => ?_) (fun c25 => ?_)
      · have c25' := i_eq c25
        exfalso; omega
      · have c25' := i_ne c25
        refine r_iload 1 C dX8_canLeave_66 rfl ?_
        refine r_iconst (v := (-1)) C dX8_canLeave_68 (by decide) ?_
        refine r_icmp_eq 92 C dX8_canLeave_69 (by decide) (fun c26 => ?_) (fun c26 => ?_)
        · have c26' := i_eq c26
          refine r_iconst (v := 0) C dX8_canLeave_92 (by decide) ?_
          exact hret _ _ _ _ dX8_canLeave_93 (nar_z (z_of (by omega))) ⟨h0, o0⟩
        · have c26' := i_ne c26
          refine r_iload 1 C dX8_canLeave_72 rfl ?_
          refine r_iload_n 6 C dX8_canLeave_74 rfl ?_
          refine r_aload_n 3 C dX8_canLeave_75 rfl ?_
          refine gfX8_24 3 C (kS sC h0 kc_55) (xS sC h0 xc_55_1) dX8_canLeave_76 ?_
          refine gfX8_140 8 C (kS sC h0 kc_3) (xS sC h0 xc_3_13) dX8_canLeave_79 ?_
          refine r_iload_n 5 C dX8_canLeave_82 rfl ?_
          refine r_iald C (kS sC h0 kc_8) (vin (by omega) (by omega)) dX8_canLeave_83 ?_
          generalize (wI w 8 (a2).toNatClampNeg) = v27
          refine r_imul C dX8_canLeave_84 (fun v28 e29 => ?_)
          refine r_icmp_gt 92 C dX8_canLeave_85 (by decide) (fun c30 => ?_) (fun c30 => ?_)
          · have c30' := i_lt c30
            refine r_iconst (v := 0) C dX8_canLeave_92 (by decide) ?_
            exact hret _ _ _ _ dX8_canLeave_93 (nar_z (z_of (by omega))) ⟨h0, o0⟩
          · have c30' := i_nlt c30
            refine r_iconst (v := 1) C dX8_canLeave_88 (by decide) ?_
            refine r_goto 93 C dX8_canLeave_89 (by decide) ?_
            exact hret _ _ _ _ dX8_canLeave_93 (nar_z (z_of (by omega))) ⟨h0, o0⟩
    · have c24' := i_eq c24
      refine r_aload_n 2 C dX8_canLeave_39 rfl ?_
      refine gfX8_24 3 C (kS sC h0 kc_55) (xS sC h0 xc_55_1) dX8_canLeave_40 ?_
      refine r_iload_n 4 C dX8_canLeave_43 rfl ?_
      refine r_aload_n 2 C dX8_canLeave_44 rfl ?_
      refine gfX8_50 (v := (wI w 55 9)) C (kS sC h0 kc_55) rfl dX8_canLeave_45 ?_
      refine callVI C cwX8_137_V (ctX9_isFollower_3 _ _ w (sS sC h0) o0 a2 (wI w 55 9) ) (by decide) (kS sC h0 kc_3) rfl rfl rfl (Nat.le_of_ble_eq_true rfl) (by decide) dX8_canLeave_48 (fun r33 w32 y31 => ?_)
      show V x 0 0 w32 51 [(5, .int v22), (4, .int v1), (0, .ref (gz (xG x) + 55)), (1, .ref (gz (xG x) + 65)), (2, .int a2), (3, .int a3)] [.int r33]
      obtain ⟨h34, o35, g36⟩ := y31
      have h37 := Ch.tr h0 h34 (by decide) (by decide)
      refine r_if_eq 58 C dX8_canLeave_51 (by decide) (fun c38 => ?_) (fun c38 => ?_)
      · have c38' := i_eq c38
        refine r_iconst (v := 0) C dX8_canLeave_58 (by decide) ?_
        refine r_istore [(6, .int 0), (5, .int v22), (4, .int v1), (0, .ref (gz (xG x) + 55)), (1, .ref (gz (xG x) + 65)), (2, .int a2), (3, .int a3)] C dX8_canLeave_59 (by decide) rfl ?_
        refine r_iload 0 C dX8_canLeave_61 rfl ?_
        refine r_if_eq 92 C dX8_canLeave_63 (by decide) (fun c39 => ?_) (fun c39 => ?_)
        · have c39' := i_eq c39
          refine r_iconst (v := 0) C dX8_canLeave_92 (by decide) ?_
          exact hret _ _ _ _ dX8_canLeave_93 (nar_z (z_of (by omega))) ⟨h37, o35⟩
        · have c39' := i_ne c39
          exfalso; omega
      · have c38' := i_ne c38
        refine r_iconst (v := 1) C dX8_canLeave_54 (by decide) ?_
        refine r_goto 59 C dX8_canLeave_55 (by decide) ?_
        refine r_istore [(6, .int 1), (5, .int v22), (4, .int v1), (0, .ref (gz (xG x) + 55)), (1, .ref (gz (xG x) + 65)), (2, .int a2), (3, .int a3)] C dX8_canLeave_59 (by decide) rfl ?_
        refine r_iload 0 C dX8_canLeave_61 rfl ?_
        refine r_if_eq 92 C dX8_canLeave_63 (by decide) (fun c40 => ?_) (fun c40 => ?_)
        · have c40' := i_eq c40
          exfalso; omega
        · have c40' := i_ne c40
          refine r_iload 1 C dX8_canLeave_66 rfl ?_
          refine r_iconst (v := (-1)) C dX8_canLeave_68 (by decide) ?_
          refine r_icmp_eq 92 C dX8_canLeave_69 (by decide) (fun c41 => ?_) (fun c41 => ?_)
          · have c41' := i_eq c41
            refine r_iconst (v := 0) C dX8_canLeave_92 (by decide) ?_
            exact hret _ _ _ _ dX8_canLeave_93 (nar_z (z_of (by omega))) ⟨h37, o35⟩
          · have c41' := i_ne c41
            refine r_iload 1 C dX8_canLeave_72 rfl ?_
            refine r_iload_n 6 C dX8_canLeave_74 rfl ?_
            refine r_aload_n 3 C dX8_canLeave_75 rfl ?_
            refine gfX8_24 3 C (kS sC h37 kc_55) (xS sC h37 xc_55_1) dX8_canLeave_76 ?_
            refine gfX8_140 8 C (kS sC h37 kc_3) (xS sC h37 xc_3_13) dX8_canLeave_79 ?_
            refine r_iload_n 5 C dX8_canLeave_82 rfl ?_
            refine r_iald C (kS sC h37 kc_8) (vin (by omega) (by omega)) dX8_canLeave_83 ?_
            generalize (wI w32 8 (a2).toNatClampNeg) = v42
            refine r_imul C dX8_canLeave_84 (fun v43 e44 => ?_)
            refine r_icmp_gt 92 C dX8_canLeave_85 (by decide) (fun c45 => ?_) (fun c45 => ?_)
            · have c45' := i_lt c45
              refine r_iconst (v := 0) C dX8_canLeave_92 (by decide) ?_
              exact hret _ _ _ _ dX8_canLeave_93 (nar_z (z_of (by omega))) ⟨h37, o35⟩
            · have c45' := i_nlt c45
              refine r_iconst (v := 1) C dX8_canLeave_88 (by decide) ?_
              refine r_goto 93 C dX8_canLeave_89 (by decide) ?_
              exact hret _ _ _ _ dX8_canLeave_93 (nar_z (z_of (by omega))) ⟨h37, o35⟩
set_option maxHeartbeats 4000000 in
set_option maxRecDepth 100000 in
theorem ctX8_canLeave_55_68 (l : Launch) (G : Gt) (w : Wv) (sC : Str KC XC w) (o0 : Inv RC w) (a2 : Int32) (a3 : Int32) (b2 : 0 ≤ a2.toInt ∧ a2.toInt ≤ 5) : CtI l G yX8_canLeave cX8_canLeave 7 .boolean ({ frames := 1, cells := 0, slots := 0, locals := 23 } : Room) [.ref (gz G + 55), .ref (gz G + 68), .int a2, .int a3] w (fun r w' => Ch [] [] w w' ∧ Inv RC w') := by
  refine enterI (by decide) (Nat.le_of_ble_eq_true rfl) ?_
  intro x el eG C hret
  subst el; subst eG
  show V x 0 0 w 0 [(0, .ref (gz (xG x) + 55)), (1, .ref (gz (xG x) + 68)), (2, .int a2), (3, .int a3)] []
  have h0 : Ch [] [] w w := Ch.rf
  have qm1 : ((-1) : Int32).toInt = (-1) := by decide
  have q0 : (0 : Int32).toInt = 0 := by decide
  have q1 : (1 : Int32).toInt = 1 := by decide
  refine r_aload_n 1 C dX8_canLeave_0 rfl ?_
  refine gfX8_128 69 C (kS sC h0 kc_68) (xS sC h0 xc_68_2) dX8_canLeave_1 ?_
  refine r_iload_n 2 C dX8_canLeave_4 rfl ?_
  refine r_iald C (kS sC h0 kc_69) (vin (by omega) (by omega)) dX8_canLeave_5 ?_
  generalize (wI w 69 (a2).toNatClampNeg) = v1
  refine r_istore [(4, .int v1), (0, .ref (gz (xG x) + 55)), (1, .ref (gz (xG x) + 68)), (2, .int a2), (3, .int a3)] C dX8_canLeave_6 (by decide) rfl ?_
  refine r_iload 0 C dX8_canLeave_8 rfl ?_
  refine callSI C cwX8_131_S (ctX1_isCell _ _ w v1 ) (by decide) rfl rfl (Nat.le_of_ble_eq_true rfl) (by decide) dX8_canLeave_10 (fun r4 w3 y2 => ?_)
  obtain ⟨rfl, g5⟩ := y2
  show V x 0 0 w 13 [(4, .int v1), (0, .ref (gz (xG x) + 55)), (1, .ref (gz (xG x) + 68)), (2, .int a2), (3, .int a3)] [.int r4]
  refine r_if_eq 26 C dX8_canLeave_13 (by decide) (fun c6 => ?_) (fun c6 => ?_)
  · have c6' := i_eq c6
    refine r_iconst (v := (-1)) C dX8_canLeave_26 (by decide) ?_
    refine r_istore [(5, .int (-1)), (4, .int v1), (0, .ref (gz (xG x) + 55)), (1, .ref (gz (xG x) + 68)), (2, .int a2), (3, .int a3)] C dX8_canLeave_27 (by decide) rfl ?_
    refine r_aload_n 3 C dX8_canLeave_29 rfl ?_
    refine gfX8_134 70 C (kS sC h0 kc_68) (xS sC h0 xc_68_3) dX8_canLeave_30 ?_
    refine r_iload_n 4 C dX8_canLeave_33 rfl ?_
    refine r_iald C (kS sC h0 kc_70) (vin (by omega) (by omega)) dX8_canLeave_34 ?_
    generalize (wI w 70 (a2).toNatClampNeg) = v7
    refine r_iconst (v := (-1)) C dX8_canLeave_35 (by decide) ?_
    refine r_icmp_ne 54 C dX8_canLeave_36 (by decide) (fun c8 => ?_) (fun c8 => ?_)
    · have c8' := i_ne c8
      refine r_iconst (v := 1) C dX8_canLeave_54 (by decide) ?_
      refine r_goto 59 C dX8_canLeave_55 (by decide) ?_
      refine r_istore [(6, .int 1), (5, .int (-1)), (4, .int v1), (0, .ref (gz (xG x) + 55)), (1, .ref (gz (xG x) + 68)), (2, .int a2), (3, .int a3)] C dX8_canLeave_59 (by decide) rfl ?_
      refine r_iload 0 C dX8_canLeave_61 rfl ?_
      refine r_if_eq 92 C dX8_canLeave_63 (by decide) (fun c9 => ?_) (fun c9 => ?_)
      · have c9' := i_eq c9
        exfalso; omega
      · have c9' := i_ne c9
        refine r_iload 1 C dX8_canLeave_66 rfl ?_
        refine r_iconst (v := (-1)) C dX8_canLeave_68 (by decide) ?_
        refine r_icmp_eq 92 C dX8_canLeave_69 (by decide) (fun c10 => ?_) (fun c10 => ?_)
        · have c10' := i_eq c10
          refine r_iconst (v := 0) C dX8_canLeave_92 (by decide) ?_
          exact hret _ _ _ _ dX8_canLeave_93 (nar_z (z_of (by omega))) ⟨h0, o0⟩
        · have c10' := i_ne c10
          exfalso; omega
    · have c8' := i_eq c8
      refine r_aload_n 2 C dX8_canLeave_39 rfl ?_
      refine gfX8_24 3 C (kS sC h0 kc_55) (xS sC h0 xc_55_1) dX8_canLeave_40 ?_
      refine r_iload_n 4 C dX8_canLeave_43 rfl ?_
      refine r_aload_n 2 C dX8_canLeave_44 rfl ?_
      refine gfX8_50 (v := (wI w 55 9)) C (kS sC h0 kc_55) rfl dX8_canLeave_45 ?_
      refine callVI C cwX8_137_V (ctX9_isFollower_3 _ _ w (sS sC h0) o0 a2 (wI w 55 9) ) (by decide) (kS sC h0 kc_3) rfl rfl rfl (Nat.le_of_ble_eq_true rfl) (by decide) dX8_canLeave_48 (fun r13 w12 y11 => ?_)
      show V x 0 0 w12 51 [(5, .int (-1)), (4, .int v1), (0, .ref (gz (xG x) + 55)), (1, .ref (gz (xG x) + 68)), (2, .int a2), (3, .int a3)] [.int r13]
      obtain ⟨h14, o15, g16⟩ := y11
      have h17 := Ch.tr h0 h14 (by decide) (by decide)
      refine r_if_eq 58 C dX8_canLeave_51 (by decide) (fun c18 => ?_) (fun c18 => ?_)
      · have c18' := i_eq c18
        refine r_iconst (v := 0) C dX8_canLeave_58 (by decide) ?_
        refine r_istore [(6, .int 0), (5, .int (-1)), (4, .int v1), (0, .ref (gz (xG x) + 55)), (1, .ref (gz (xG x) + 68)), (2, .int a2), (3, .int a3)] C dX8_canLeave_59 (by decide) rfl ?_
        refine r_iload 0 C dX8_canLeave_61 rfl ?_
        refine r_if_eq 92 C dX8_canLeave_63 (by decide) (fun c19 => ?_) (fun c19 => ?_)
        · have c19' := i_eq c19
          refine r_iconst (v := 0) C dX8_canLeave_92 (by decide) ?_
          exact hret _ _ _ _ dX8_canLeave_93 (nar_z (z_of (by omega))) ⟨h17, o15⟩
        · have c19' := i_ne c19
          exfalso; omega
      · have c18' := i_ne c18
        refine r_iconst (v := 1) C dX8_canLeave_54 (by decide) ?_
        refine r_goto 59 C dX8_canLeave_55 (by decide) ?_
        refine r_istore [(6, .int 1), (5, .int (-1)), (4, .int v1), (0, .ref (gz (xG x) + 55)), (1, .ref (gz (xG x) + 68)), (2, .int a2), (3, .int a3)] C dX8_canLeave_59 (by decide) rfl ?_
        refine r_iload 0 C dX8_canLeave_61 rfl ?_
        refine r_if_eq 92 C dX8_canLeave_63 (by decide) (fun c20 => ?_) (fun c20 => ?_)
        · have c20' := i_eq c20
          exfalso; omega
        · have c20' := i_ne c20
          refine r_iload 1 C dX8_canLeave_66 rfl ?_
          refine r_iconst (v := (-1)) C dX8_canLeave_68 (by decide) ?_
          refine r_icmp_eq 92 C dX8_canLeave_69 (by decide) (fun c21 => ?_) (fun c21 => ?_)
          · have c21' := i_eq c21
            refine r_iconst (v := 0) C dX8_canLeave_92 (by decide) ?_
            exact hret _ _ _ _ dX8_canLeave_93 (nar_z (z_of (by omega))) ⟨h17, o15⟩
          · have c21' := i_ne c21
            exfalso; omega
  · have c6' := i_ne c6
    refine r_aload_n 1 C dX8_canLeave_16 rfl ?_
    refine gfX8_21 58 C (kS sC h0 kc_55) (xS sC h0 xc_55_5) dX8_canLeave_17 ?_
    refine r_iload 0 C dX8_canLeave_20 rfl ?_
    refine r_iald C (kS sC h0 kc_58) (vin (by omega) (by omega)) dX8_canLeave_22 ?_
    generalize (wI w 58 (v1).toNatClampNeg) = v22
    refine r_goto 27 C dX8_canLeave_23 (by decide) ?_
    refine r_istore [(5, .int v22), (4, .int v1), (0, .ref (gz (xG x) + 55)), (1, .ref (gz (xG x) + 68)), (2, .int a2), (3, .int a3)] C dX8_canLeave_27 (by decide) rfl ?_
    refine r_aload_n 3 C dX8_canLeave_29 rfl ?_
    refine gfX8_134 70 C (kS sC h0 kc_68) (xS sC h0 xc_68_3) dX8_canLeave_30 ?_
    refine r_iload_n 4 C dX8_canLeave_33 rfl ?_
    refine r_iald C (kS sC h0 kc_70) (vin (by omega) (by omega)) dX8_canLeave_34 ?_
    generalize (wI w 70 (a2).toNatClampNeg) = v23
    refine r_iconst (v := (-1)) C dX8_canLeave_35 (by decide) ?_
    refine r_icmp_ne 54 C dX8_canLeave_36 (by decide) (fun c24 => ?_) (fun c24 => ?_)
    · have c24' := i_ne c24
      refine r_iconst (v := 1) C dX8_canLeave_54 (by decide) ?_
      refine r_goto 59 C dX8_canLeave_55 (by decide) ?_
      refine r_istore [(6, .int 1), (5, .int v22), (4, .int v1), (0, .ref (gz (xG x) + 55)), (1, .ref (gz (xG x) + 68)), (2, .int a2), (3, .int a3)] C dX8_canLeave_59 (by decide) rfl ?_
      refine r_iload 0 C dX8_canLeave_61 rfl ?_
      refine r_if_eq 92 C dX8_canLeave_63 (by decide) (fun c25 => ?_) (fun c25 => ?_)
      · have c25' := i_eq c25
        exfalso; omega
      · have c25' := i_ne c25
        refine r_iload 1 C dX8_canLeave_66 rfl ?_
        refine r_iconst (v := (-1)) C dX8_canLeave_68 (by decide) ?_
        refine r_icmp_eq 92 C dX8_canLeave_69 (by decide) (fun c26 => ?_) (fun c26 => ?_)
        · have c26' := i_eq c26
          refine r_iconst (v := 0) C dX8_canLeave_92 (by decide) ?_
          exact hret _ _ _ _ dX8_canLeave_93 (nar_z (z_of (by omega))) ⟨h0, o0⟩
        · have c26' := i_ne c26
          refine r_iload 1 C dX8_canLeave_72 rfl ?_
          refine r_iload_n 6 C dX8_canLeave_74 rfl ?_
          refine r_aload_n 3 C dX8_canLeave_75 rfl ?_
          refine gfX8_24 3 C (kS sC h0 kc_55) (xS sC h0 xc_55_1) dX8_canLeave_76 ?_
          refine gfX8_140 8 C (kS sC h0 kc_3) (xS sC h0 xc_3_13) dX8_canLeave_79 ?_
          refine r_iload_n 5 C dX8_canLeave_82 rfl ?_
          refine r_iald C (kS sC h0 kc_8) (vin (by omega) (by omega)) dX8_canLeave_83 ?_
          generalize (wI w 8 (a2).toNatClampNeg) = v27
          refine r_imul C dX8_canLeave_84 (fun v28 e29 => ?_)
          refine r_icmp_gt 92 C dX8_canLeave_85 (by decide) (fun c30 => ?_) (fun c30 => ?_)
          · have c30' := i_lt c30
            refine r_iconst (v := 0) C dX8_canLeave_92 (by decide) ?_
            exact hret _ _ _ _ dX8_canLeave_93 (nar_z (z_of (by omega))) ⟨h0, o0⟩
          · have c30' := i_nlt c30
            refine r_iconst (v := 1) C dX8_canLeave_88 (by decide) ?_
            refine r_goto 93 C dX8_canLeave_89 (by decide) ?_
            exact hret _ _ _ _ dX8_canLeave_93 (nar_z (z_of (by omega))) ⟨h0, o0⟩
    · have c24' := i_eq c24
      refine r_aload_n 2 C dX8_canLeave_39 rfl ?_
      refine gfX8_24 3 C (kS sC h0 kc_55) (xS sC h0 xc_55_1) dX8_canLeave_40 ?_
      refine r_iload_n 4 C dX8_canLeave_43 rfl ?_
      refine r_aload_n 2 C dX8_canLeave_44 rfl ?_
      refine gfX8_50 (v := (wI w 55 9)) C (kS sC h0 kc_55) rfl dX8_canLeave_45 ?_
      refine callVI C cwX8_137_V (ctX9_isFollower_3 _ _ w (sS sC h0) o0 a2 (wI w 55 9) ) (by decide) (kS sC h0 kc_3) rfl rfl rfl (Nat.le_of_ble_eq_true rfl) (by decide) dX8_canLeave_48 (fun r33 w32 y31 => ?_)
      show V x 0 0 w32 51 [(5, .int v22), (4, .int v1), (0, .ref (gz (xG x) + 55)), (1, .ref (gz (xG x) + 68)), (2, .int a2), (3, .int a3)] [.int r33]
      obtain ⟨h34, o35, g36⟩ := y31
      have h37 := Ch.tr h0 h34 (by decide) (by decide)
      refine r_if_eq 58 C dX8_canLeave_51 (by decide) (fun c38 => ?_) (fun c38 => ?_)
      · have c38' := i_eq c38
        refine r_iconst (v := 0) C dX8_canLeave_58 (by decide) ?_
        refine r_istore [(6, .int 0), (5, .int v22), (4, .int v1), (0, .ref (gz (xG x) + 55)), (1, .ref (gz (xG x) + 68)), (2, .int a2), (3, .int a3)] C dX8_canLeave_59 (by decide) rfl ?_
        refine r_iload 0 C dX8_canLeave_61 rfl ?_
        refine r_if_eq 92 C dX8_canLeave_63 (by decide) (fun c39 => ?_) (fun c39 => ?_)
        · have c39' := i_eq c39
          refine r_iconst (v := 0) C dX8_canLeave_92 (by decide) ?_
          exact hret _ _ _ _ dX8_canLeave_93 (nar_z (z_of (by omega))) ⟨h37, o35⟩
        · have c39' := i_ne c39
          exfalso; omega
      · have c38' := i_ne c38
        refine r_iconst (v := 1) C dX8_canLeave_54 (by decide) ?_
        refine r_goto 59 C dX8_canLeave_55 (by decide) ?_
        refine r_istore [(6, .int 1), (5, .int v22), (4, .int v1), (0, .ref (gz (xG x) + 55)), (1, .ref (gz (xG x) + 68)), (2, .int a2), (3, .int a3)] C dX8_canLeave_59 (by decide) rfl ?_
        refine r_iload 0 C dX8_canLeave_61 rfl ?_
        refine r_if_eq 92 C dX8_canLeave_63 (by decide) (fun c40 => ?_) (fun c40 => ?_)
        · have c40' := i_eq c40
          exfalso; omega
        · have c40' := i_ne c40
          refine r_iload 1 C dX8_canLeave_66 rfl ?_
          refine r_iconst (v := (-1)) C dX8_canLeave_68 (by decide) ?_
          refine r_icmp_eq 92 C dX8_canLeave_69 (by decide) (fun c41 => ?_) (fun c41 => ?_)
          · have c41' := i_eq c41
            refine r_iconst (v := 0) C dX8_canLeave_92 (by decide) ?_
            exact hret _ _ _ _ dX8_canLeave_93 (nar_z (z_of (by omega))) ⟨h37, o35⟩
          · have c41' := i_ne c41
            refine r_iload 1 C dX8_canLeave_72 rfl ?_
            refine r_iload_n 6 C dX8_canLeave_74 rfl ?_
            refine r_aload_n 3 C dX8_canLeave_75 rfl ?_
            refine gfX8_24 3 C (kS sC h37 kc_55) (xS sC h37 xc_55_1) dX8_canLeave_76 ?_
            refine gfX8_140 8 C (kS sC h37 kc_3) (xS sC h37 xc_3_13) dX8_canLeave_79 ?_
            refine r_iload_n 5 C dX8_canLeave_82 rfl ?_
            refine r_iald C (kS sC h37 kc_8) (vin (by omega) (by omega)) dX8_canLeave_83 ?_
            generalize (wI w32 8 (a2).toNatClampNeg) = v42
            refine r_imul C dX8_canLeave_84 (fun v43 e44 => ?_)
            refine r_icmp_gt 92 C dX8_canLeave_85 (by decide) (fun c45 => ?_) (fun c45 => ?_)
            · have c45' := i_lt c45
              refine r_iconst (v := 0) C dX8_canLeave_92 (by decide) ?_
              exact hret _ _ _ _ dX8_canLeave_93 (nar_z (z_of (by omega))) ⟨h37, o35⟩
            · have c45' := i_nlt c45
              refine r_iconst (v := 1) C dX8_canLeave_88 (by decide) ?_
              refine r_goto 93 C dX8_canLeave_89 (by decide) ?_
              exact hret _ _ _ _ dX8_canLeave_93 (nar_z (z_of (by omega))) ⟨h37, o35⟩
set_option maxHeartbeats 4000000 in
set_option maxRecDepth 100000 in
theorem ctX8_canLeave_55_71 (l : Launch) (G : Gt) (w : Wv) (sC : Str KC XC w) (o0 : Inv RC w) (a2 : Int32) (a3 : Int32) (b2 : 0 ≤ a2.toInt ∧ a2.toInt ≤ 5) : CtI l G yX8_canLeave cX8_canLeave 7 .boolean ({ frames := 1, cells := 0, slots := 0, locals := 23 } : Room) [.ref (gz G + 55), .ref (gz G + 71), .int a2, .int a3] w (fun r w' => Ch [] [] w w' ∧ Inv RC w') := by
  refine enterI (by decide) (Nat.le_of_ble_eq_true rfl) ?_
  intro x el eG C hret
  subst el; subst eG
  show V x 0 0 w 0 [(0, .ref (gz (xG x) + 55)), (1, .ref (gz (xG x) + 71)), (2, .int a2), (3, .int a3)] []
  have h0 : Ch [] [] w w := Ch.rf
  have qm1 : ((-1) : Int32).toInt = (-1) := by decide
  have q0 : (0 : Int32).toInt = 0 := by decide
  have q1 : (1 : Int32).toInt = 1 := by decide
  refine r_aload_n 1 C dX8_canLeave_0 rfl ?_
  refine gfX8_128 72 C (kS sC h0 kc_71) (xS sC h0 xc_71_2) dX8_canLeave_1 ?_
  refine r_iload_n 2 C dX8_canLeave_4 rfl ?_
  refine r_iald C (kS sC h0 kc_72) (vin (by omega) (by omega)) dX8_canLeave_5 ?_
  generalize (wI w 72 (a2).toNatClampNeg) = v1
  refine r_istore [(4, .int v1), (0, .ref (gz (xG x) + 55)), (1, .ref (gz (xG x) + 71)), (2, .int a2), (3, .int a3)] C dX8_canLeave_6 (by decide) rfl ?_
  refine r_iload 0 C dX8_canLeave_8 rfl ?_
  refine callSI C cwX8_131_S (ctX1_isCell _ _ w v1 ) (by decide) rfl rfl (Nat.le_of_ble_eq_true rfl) (by decide) dX8_canLeave_10 (fun r4 w3 y2 => ?_)
  obtain ⟨rfl, g5⟩ := y2
  show V x 0 0 w 13 [(4, .int v1), (0, .ref (gz (xG x) + 55)), (1, .ref (gz (xG x) + 71)), (2, .int a2), (3, .int a3)] [.int r4]
  refine r_if_eq 26 C dX8_canLeave_13 (by decide) (fun c6 => ?_) (fun c6 => ?_)
  · have c6' := i_eq c6
    refine r_iconst (v := (-1)) C dX8_canLeave_26 (by decide) ?_
    refine r_istore [(5, .int (-1)), (4, .int v1), (0, .ref (gz (xG x) + 55)), (1, .ref (gz (xG x) + 71)), (2, .int a2), (3, .int a3)] C dX8_canLeave_27 (by decide) rfl ?_
    refine r_aload_n 3 C dX8_canLeave_29 rfl ?_
    refine gfX8_134 73 C (kS sC h0 kc_71) (xS sC h0 xc_71_3) dX8_canLeave_30 ?_
    refine r_iload_n 4 C dX8_canLeave_33 rfl ?_
    refine r_iald C (kS sC h0 kc_73) (vin (by omega) (by omega)) dX8_canLeave_34 ?_
    generalize (wI w 73 (a2).toNatClampNeg) = v7
    refine r_iconst (v := (-1)) C dX8_canLeave_35 (by decide) ?_
    refine r_icmp_ne 54 C dX8_canLeave_36 (by decide) (fun c8 => ?_) (fun c8 => ?_)
    · have c8' := i_ne c8
      refine r_iconst (v := 1) C dX8_canLeave_54 (by decide) ?_
      refine r_goto 59 C dX8_canLeave_55 (by decide) ?_
      refine r_istore [(6, .int 1), (5, .int (-1)), (4, .int v1), (0, .ref (gz (xG x) + 55)), (1, .ref (gz (xG x) + 71)), (2, .int a2), (3, .int a3)] C dX8_canLeave_59 (by decide) rfl ?_
      refine r_iload 0 C dX8_canLeave_61 rfl ?_
      refine r_if_eq 92 C dX8_canLeave_63 (by decide) (fun c9 => ?_) (fun c9 => ?_)
      · have c9' := i_eq c9
        exfalso; omega
      · have c9' := i_ne c9
        refine r_iload 1 C dX8_canLeave_66 rfl ?_
        refine r_iconst (v := (-1)) C dX8_canLeave_68 (by decide) ?_
        refine r_icmp_eq 92 C dX8_canLeave_69 (by decide) (fun c10 => ?_) (fun c10 => ?_)
        · have c10' := i_eq c10
          refine r_iconst (v := 0) C dX8_canLeave_92 (by decide) ?_
          exact hret _ _ _ _ dX8_canLeave_93 (nar_z (z_of (by omega))) ⟨h0, o0⟩
        · have c10' := i_ne c10
          exfalso; omega
    · have c8' := i_eq c8
      refine r_aload_n 2 C dX8_canLeave_39 rfl ?_
      refine gfX8_24 3 C (kS sC h0 kc_55) (xS sC h0 xc_55_1) dX8_canLeave_40 ?_
      refine r_iload_n 4 C dX8_canLeave_43 rfl ?_
      refine r_aload_n 2 C dX8_canLeave_44 rfl ?_
      refine gfX8_50 (v := (wI w 55 9)) C (kS sC h0 kc_55) rfl dX8_canLeave_45 ?_
      refine callVI C cwX8_137_V (ctX9_isFollower_3 _ _ w (sS sC h0) o0 a2 (wI w 55 9) ) (by decide) (kS sC h0 kc_3) rfl rfl rfl (Nat.le_of_ble_eq_true rfl) (by decide) dX8_canLeave_48 (fun r13 w12 y11 => ?_)
      show V x 0 0 w12 51 [(5, .int (-1)), (4, .int v1), (0, .ref (gz (xG x) + 55)), (1, .ref (gz (xG x) + 71)), (2, .int a2), (3, .int a3)] [.int r13]
      obtain ⟨h14, o15, g16⟩ := y11
      have h17 := Ch.tr h0 h14 (by decide) (by decide)
      refine r_if_eq 58 C dX8_canLeave_51 (by decide) (fun c18 => ?_) (fun c18 => ?_)
      · have c18' := i_eq c18
        refine r_iconst (v := 0) C dX8_canLeave_58 (by decide) ?_
        refine r_istore [(6, .int 0), (5, .int (-1)), (4, .int v1), (0, .ref (gz (xG x) + 55)), (1, .ref (gz (xG x) + 71)), (2, .int a2), (3, .int a3)] C dX8_canLeave_59 (by decide) rfl ?_
        refine r_iload 0 C dX8_canLeave_61 rfl ?_
        refine r_if_eq 92 C dX8_canLeave_63 (by decide) (fun c19 => ?_) (fun c19 => ?_)
        · have c19' := i_eq c19
          refine r_iconst (v := 0) C dX8_canLeave_92 (by decide) ?_
          exact hret _ _ _ _ dX8_canLeave_93 (nar_z (z_of (by omega))) ⟨h17, o15⟩
        · have c19' := i_ne c19
          exfalso; omega
      · have c18' := i_ne c18
        refine r_iconst (v := 1) C dX8_canLeave_54 (by decide) ?_
        refine r_goto 59 C dX8_canLeave_55 (by decide) ?_
        refine r_istore [(6, .int 1), (5, .int (-1)), (4, .int v1), (0, .ref (gz (xG x) + 55)), (1, .ref (gz (xG x) + 71)), (2, .int a2), (3, .int a3)] C dX8_canLeave_59 (by decide) rfl ?_
        refine r_iload 0 C dX8_canLeave_61 rfl ?_
        refine r_if_eq 92 C dX8_canLeave_63 (by decide) (fun c20 => ?_) (fun c20 => ?_)
        · have c20' := i_eq c20
          exfalso; omega
        · have c20' := i_ne c20
          refine r_iload 1 C dX8_canLeave_66 rfl ?_
          refine r_iconst (v := (-1)) C dX8_canLeave_68 (by decide) ?_
          refine r_icmp_eq 92 C dX8_canLeave_69 (by decide) (fun c21 => ?_) (fun c21 => ?_)
          · have c21' := i_eq c21
            refine r_iconst (v := 0) C dX8_canLeave_92 (by decide) ?_
            exact hret _ _ _ _ dX8_canLeave_93 (nar_z (z_of (by omega))) ⟨h17, o15⟩
          · have c21' := i_ne c21
            exfalso; omega
  · have c6' := i_ne c6
    refine r_aload_n 1 C dX8_canLeave_16 rfl ?_
    refine gfX8_21 58 C (kS sC h0 kc_55) (xS sC h0 xc_55_5) dX8_canLeave_17 ?_
    refine r_iload 0 C dX8_canLeave_20 rfl ?_
    refine r_iald C (kS sC h0 kc_58) (vin (by omega) (by omega)) dX8_canLeave_22 ?_
    generalize (wI w 58 (v1).toNatClampNeg) = v22
    refine r_goto 27 C dX8_canLeave_23 (by decide) ?_
    refine r_istore [(5, .int v22), (4, .int v1), (0, .ref (gz (xG x) + 55)), (1, .ref (gz (xG x) + 71)), (2, .int a2), (3, .int a3)] C dX8_canLeave_27 (by decide) rfl ?_
    refine r_aload_n 3 C dX8_canLeave_29 rfl ?_
    refine gfX8_134 73 C (kS sC h0 kc_71) (xS sC h0 xc_71_3) dX8_canLeave_30 ?_
    refine r_iload_n 4 C dX8_canLeave_33 rfl ?_
    refine r_iald C (kS sC h0 kc_73) (vin (by omega) (by omega)) dX8_canLeave_34 ?_
    generalize (wI w 73 (a2).toNatClampNeg) = v23
    refine r_iconst (v := (-1)) C dX8_canLeave_35 (by decide) ?_
    refine r_icmp_ne 54 C dX8_canLeave_36 (by decide) (fun c24 => ?_) (fun c24 => ?_)
    · have c24' := i_ne c24
      refine r_iconst (v := 1) C dX8_canLeave_54 (by decide) ?_
      refine r_goto 59 C dX8_canLeave_55 (by decide) ?_
      refine r_istore [(6, .int 1), (5, .int v22), (4, .int v1), (0, .ref (gz (xG x) + 55)), (1, .ref (gz (xG x) + 71)), (2, .int a2), (3, .int a3)] C dX8_canLeave_59 (by decide) rfl ?_
      refine r_iload 0 C dX8_canLeave_61 rfl ?_
      refine r_if_eq 92 C dX8_canLeave_63 (by decide) (fun c25 => ?_) (fun c25 => ?_)
      · have c25' := i_eq c25
        exfalso; omega
      · have c25' := i_ne c25
        refine r_iload 1 C dX8_canLeave_66 rfl ?_
        refine r_iconst (v := (-1)) C dX8_canLeave_68 (by decide) ?_
        refine r_icmp_eq 92 C dX8_canLeave_69 (by decide) (fun c26 => ?_) (fun c26 => ?_)
        · have c26' := i_eq c26
          refine r_iconst (v := 0) C dX8_canLeave_92 (by decide) ?_
          exact hret _ _ _ _ dX8_canLeave_93 (nar_z (z_of (by omega))) ⟨h0, o0⟩
        · have c26' := i_ne c26
          refine r_iload 1 C dX8_canLeave_72 rfl ?_
          refine r_iload_n 6 C dX8_canLeave_74 rfl ?_
          refine r_aload_n 3 C dX8_canLeave_75 rfl ?_
          refine gfX8_24 3 C (kS sC h0 kc_55) (xS sC h0 xc_55_1) dX8_canLeave_76 ?_
          refine gfX8_140 8 C (kS sC h0 kc_3) (xS sC h0 xc_3_13) dX8_canLeave_79 ?_
          refine r_iload_n 5 C dX8_canLeave_82 rfl ?_
          refine r_iald C (kS sC h0 kc_8) (vin (by omega) (by omega)) dX8_canLeave_83 ?_
          generalize (wI w 8 (a2).toNatClampNeg) = v27
          refine r_imul C dX8_canLeave_84 (fun v28 e29 => ?_)
          refine r_icmp_gt 92 C dX8_canLeave_85 (by decide) (fun c30 => ?_) (fun c30 => ?_)
          · have c30' := i_lt c30
            refine r_iconst (v := 0) C dX8_canLeave_92 (by decide) ?_
            exact hret _ _ _ _ dX8_canLeave_93 (nar_z (z_of (by omega))) ⟨h0, o0⟩
          · have c30' := i_nlt c30
            refine r_iconst (v := 1) C dX8_canLeave_88 (by decide) ?_
            refine r_goto 93 C dX8_canLeave_89 (by decide) ?_
            exact hret _ _ _ _ dX8_canLeave_93 (nar_z (z_of (by omega))) ⟨h0, o0⟩
    · have c24' := i_eq c24
      refine r_aload_n 2 C dX8_canLeave_39 rfl ?_
      refine gfX8_24 3 C (kS sC h0 kc_55) (xS sC h0 xc_55_1) dX8_canLeave_40 ?_
      refine r_iload_n 4 C dX8_canLeave_43 rfl ?_
      refine r_aload_n 2 C dX8_canLeave_44 rfl ?_
      refine gfX8_50 (v := (wI w 55 9)) C (kS sC h0 kc_55) rfl dX8_canLeave_45 ?_
      refine callVI C cwX8_137_V (ctX9_isFollower_3 _ _ w (sS sC h0) o0 a2 (wI w 55 9) ) (by decide) (kS sC h0 kc_3) rfl rfl rfl (Nat.le_of_ble_eq_true rfl) (by decide) dX8_canLeave_48 (fun r33 w32 y31 => ?_)
      show V x 0 0 w32 51 [(5, .int v22), (4, .int v1), (0, .ref (gz (xG x) + 55)), (1, .ref (gz (xG x) + 71)), (2, .int a2), (3, .int a3)] [.int r33]
      obtain ⟨h34, o35, g36⟩ := y31
      have h37 := Ch.tr h0 h34 (by decide) (by decide)
      refine r_if_eq 58 C dX8_canLeave_51 (by decide) (fun c38 => ?_) (fun c38 => ?_)
      · have c38' := i_eq c38
        refine r_iconst (v := 0) C dX8_canLeave_58 (by decide) ?_
        refine r_istore [(6, .int 0), (5, .int v22), (4, .int v1), (0, .ref (gz (xG x) + 55)), (1, .ref (gz (xG x) + 71)), (2, .int a2), (3, .int a3)] C dX8_canLeave_59 (by decide) rfl ?_
        refine r_iload 0 C dX8_canLeave_61 rfl ?_
        refine r_if_eq 92 C dX8_canLeave_63 (by decide) (fun c39 => ?_) (fun c39 => ?_)
        · have c39' := i_eq c39
          refine r_iconst (v := 0) C dX8_canLeave_92 (by decide) ?_
          exact hret _ _ _ _ dX8_canLeave_93 (nar_z (z_of (by omega))) ⟨h37, o35⟩
        · have c39' := i_ne c39
          exfalso; omega
      · have c38' := i_ne c38
        refine r_iconst (v := 1) C dX8_canLeave_54 (by decide) ?_
        refine r_goto 59 C dX8_canLeave_55 (by decide) ?_
        refine r_istore [(6, .int 1), (5, .int v22), (4, .int v1), (0, .ref (gz (xG x) + 55)), (1, .ref (gz (xG x) + 71)), (2, .int a2), (3, .int a3)] C dX8_canLeave_59 (by decide) rfl ?_
        refine r_iload 0 C dX8_canLeave_61 rfl ?_
        refine r_if_eq 92 C dX8_canLeave_63 (by decide) (fun c40 => ?_) (fun c40 => ?_)
        · have c40' := i_eq c40
          exfalso; omega
        · have c40' := i_ne c40
          refine r_iload 1 C dX8_canLeave_66 rfl ?_
          refine r_iconst (v := (-1)) C dX8_canLeave_68 (by decide) ?_
          refine r_icmp_eq 92 C dX8_canLeave_69 (by decide) (fun c41 => ?_) (fun c41 => ?_)
          · have c41' := i_eq c41
            refine r_iconst (v := 0) C dX8_canLeave_92 (by decide) ?_
            exact hret _ _ _ _ dX8_canLeave_93 (nar_z (z_of (by omega))) ⟨h37, o35⟩
          · have c41' := i_ne c41
            refine r_iload 1 C dX8_canLeave_72 rfl ?_
            refine r_iload_n 6 C dX8_canLeave_74 rfl ?_
            refine r_aload_n 3 C dX8_canLeave_75 rfl ?_
            refine gfX8_24 3 C (kS sC h37 kc_55) (xS sC h37 xc_55_1) dX8_canLeave_76 ?_
            refine gfX8_140 8 C (kS sC h37 kc_3) (xS sC h37 xc_3_13) dX8_canLeave_79 ?_
            refine r_iload_n 5 C dX8_canLeave_82 rfl ?_
            refine r_iald C (kS sC h37 kc_8) (vin (by omega) (by omega)) dX8_canLeave_83 ?_
            generalize (wI w32 8 (a2).toNatClampNeg) = v42
            refine r_imul C dX8_canLeave_84 (fun v43 e44 => ?_)
            refine r_icmp_gt 92 C dX8_canLeave_85 (by decide) (fun c45 => ?_) (fun c45 => ?_)
            · have c45' := i_lt c45
              refine r_iconst (v := 0) C dX8_canLeave_92 (by decide) ?_
              exact hret _ _ _ _ dX8_canLeave_93 (nar_z (z_of (by omega))) ⟨h37, o35⟩
            · have c45' := i_nlt c45
              refine r_iconst (v := 1) C dX8_canLeave_88 (by decide) ?_
              refine r_goto 93 C dX8_canLeave_89 (by decide) ?_
              exact hret _ _ _ _ dX8_canLeave_93 (nar_z (z_of (by omega))) ⟨h37, o35⟩
set_option maxHeartbeats 4000000 in
set_option maxRecDepth 100000 in
theorem ctX8_canLeave_55_74 (l : Launch) (G : Gt) (w : Wv) (sC : Str KC XC w) (o0 : Inv RC w) (a2 : Int32) (a3 : Int32) (b2 : 0 ≤ a2.toInt ∧ a2.toInt ≤ 5) : CtI l G yX8_canLeave cX8_canLeave 7 .boolean ({ frames := 1, cells := 0, slots := 0, locals := 23 } : Room) [.ref (gz G + 55), .ref (gz G + 74), .int a2, .int a3] w (fun r w' => Ch [] [] w w' ∧ Inv RC w') := by
  refine enterI (by decide) (Nat.le_of_ble_eq_true rfl) ?_
  intro x el eG C hret
  subst el; subst eG
  show V x 0 0 w 0 [(0, .ref (gz (xG x) + 55)), (1, .ref (gz (xG x) + 74)), (2, .int a2), (3, .int a3)] []
  have h0 : Ch [] [] w w := Ch.rf
  have qm1 : ((-1) : Int32).toInt = (-1) := by decide
  have q0 : (0 : Int32).toInt = 0 := by decide
  have q1 : (1 : Int32).toInt = 1 := by decide
  refine r_aload_n 1 C dX8_canLeave_0 rfl ?_
  refine gfX8_128 75 C (kS sC h0 kc_74) (xS sC h0 xc_74_2) dX8_canLeave_1 ?_
  refine r_iload_n 2 C dX8_canLeave_4 rfl ?_
  refine r_iald C (kS sC h0 kc_75) (vin (by omega) (by omega)) dX8_canLeave_5 ?_
  generalize (wI w 75 (a2).toNatClampNeg) = v1
  refine r_istore [(4, .int v1), (0, .ref (gz (xG x) + 55)), (1, .ref (gz (xG x) + 74)), (2, .int a2), (3, .int a3)] C dX8_canLeave_6 (by decide) rfl ?_
  refine r_iload 0 C dX8_canLeave_8 rfl ?_
  refine callSI C cwX8_131_S (ctX1_isCell _ _ w v1 ) (by decide) rfl rfl (Nat.le_of_ble_eq_true rfl) (by decide) dX8_canLeave_10 (fun r4 w3 y2 => ?_)
  obtain ⟨rfl, g5⟩ := y2
  show V x 0 0 w 13 [(4, .int v1), (0, .ref (gz (xG x) + 55)), (1, .ref (gz (xG x) + 74)), (2, .int a2), (3, .int a3)] [.int r4]
  refine r_if_eq 26 C dX8_canLeave_13 (by decide) (fun c6 => ?_) (fun c6 => ?_)
  · have c6' := i_eq c6
    refine r_iconst (v := (-1)) C dX8_canLeave_26 (by decide) ?_
    refine r_istore [(5, .int (-1)), (4, .int v1), (0, .ref (gz (xG x) + 55)), (1, .ref (gz (xG x) + 74)), (2, .int a2), (3, .int a3)] C dX8_canLeave_27 (by decide) rfl ?_
    refine r_aload_n 3 C dX8_canLeave_29 rfl ?_
    refine gfX8_134 76 C (kS sC h0 kc_74) (xS sC h0 xc_74_3) dX8_canLeave_30 ?_
    refine r_iload_n 4 C dX8_canLeave_33 rfl ?_
    refine r_iald C (kS sC h0 kc_76) (vin (by omega) (by omega)) dX8_canLeave_34 ?_
    generalize (wI w 76 (a2).toNatClampNeg) = v7
    refine r_iconst (v := (-1)) C dX8_canLeave_35 (by decide) ?_
    refine r_icmp_ne 54 C dX8_canLeave_36 (by decide) (fun c8 => ?_) (fun c8 => ?_)
    · have c8' := i_ne c8
      refine r_iconst (v := 1) C dX8_canLeave_54 (by decide) ?_
      refine r_goto 59 C dX8_canLeave_55 (by decide) ?_
      refine r_istore [(6, .int 1), (5, .int (-1)), (4, .int v1), (0, .ref (gz (xG x) + 55)), (1, .ref (gz (xG x) + 74)), (2, .int a2), (3, .int a3)] C dX8_canLeave_59 (by decide) rfl ?_
      refine r_iload 0 C dX8_canLeave_61 rfl ?_
      refine r_if_eq 92 C dX8_canLeave_63 (by decide) (fun c9 => ?_) (fun c9 => ?_)
      · have c9' := i_eq c9
        exfalso; omega
      · have c9' := i_ne c9
        refine r_iload 1 C dX8_canLeave_66 rfl ?_
        refine r_iconst (v := (-1)) C dX8_canLeave_68 (by decide) ?_
        refine r_icmp_eq 92 C dX8_canLeave_69 (by decide) (fun c10 => ?_) (fun c10 => ?_)
        · have c10' := i_eq c10
          refine r_iconst (v := 0) C dX8_canLeave_92 (by decide) ?_
          exact hret _ _ _ _ dX8_canLeave_93 (nar_z (z_of (by omega))) ⟨h0, o0⟩
        · have c10' := i_ne c10
          exfalso; omega
    · have c8' := i_eq c8
      refine r_aload_n 2 C dX8_canLeave_39 rfl ?_
      refine gfX8_24 3 C (kS sC h0 kc_55) (xS sC h0 xc_55_1) dX8_canLeave_40 ?_
      refine r_iload_n 4 C dX8_canLeave_43 rfl ?_
      refine r_aload_n 2 C dX8_canLeave_44 rfl ?_
      refine gfX8_50 (v := (wI w 55 9)) C (kS sC h0 kc_55) rfl dX8_canLeave_45 ?_
      refine callVI C cwX8_137_V (ctX9_isFollower_3 _ _ w (sS sC h0) o0 a2 (wI w 55 9) ) (by decide) (kS sC h0 kc_3) rfl rfl rfl (Nat.le_of_ble_eq_true rfl) (by decide) dX8_canLeave_48 (fun r13 w12 y11 => ?_)
      show V x 0 0 w12 51 [(5, .int (-1)), (4, .int v1), (0, .ref (gz (xG x) + 55)), (1, .ref (gz (xG x) + 74)), (2, .int a2), (3, .int a3)] [.int r13]
      obtain ⟨h14, o15, g16⟩ := y11
      have h17 := Ch.tr h0 h14 (by decide) (by decide)
      refine r_if_eq 58 C dX8_canLeave_51 (by decide) (fun c18 => ?_) (fun c18 => ?_)
      · have c18' := i_eq c18
        refine r_iconst (v := 0) C dX8_canLeave_58 (by decide) ?_
        refine r_istore [(6, .int 0), (5, .int (-1)), (4, .int v1), (0, .ref (gz (xG x) + 55)), (1, .ref (gz (xG x) + 74)), (2, .int a2), (3, .int a3)] C dX8_canLeave_59 (by decide) rfl ?_
        refine r_iload 0 C dX8_canLeave_61 rfl ?_
        refine r_if_eq 92 C dX8_canLeave_63 (by decide) (fun c19 => ?_) (fun c19 => ?_)
        · have c19' := i_eq c19
          refine r_iconst (v := 0) C dX8_canLeave_92 (by decide) ?_
          exact hret _ _ _ _ dX8_canLeave_93 (nar_z (z_of (by omega))) ⟨h17, o15⟩
        · have c19' := i_ne c19
          exfalso; omega
      · have c18' := i_ne c18
        refine r_iconst (v := 1) C dX8_canLeave_54 (by decide) ?_
        refine r_goto 59 C dX8_canLeave_55 (by decide) ?_
        refine r_istore [(6, .int 1), (5, .int (-1)), (4, .int v1), (0, .ref (gz (xG x) + 55)), (1, .ref (gz (xG x) + 74)), (2, .int a2), (3, .int a3)] C dX8_canLeave_59 (by decide) rfl ?_
        refine r_iload 0 C dX8_canLeave_61 rfl ?_
        refine r_if_eq 92 C dX8_canLeave_63 (by decide) (fun c20 => ?_) (fun c20 => ?_)
        · have c20' := i_eq c20
          exfalso; omega
        · have c20' := i_ne c20
          refine r_iload 1 C dX8_canLeave_66 rfl ?_
          refine r_iconst (v := (-1)) C dX8_canLeave_68 (by decide) ?_
          refine r_icmp_eq 92 C dX8_canLeave_69 (by decide) (fun c21 => ?_) (fun c21 => ?_)
          · have c21' := i_eq c21
            refine r_iconst (v := 0) C dX8_canLeave_92 (by decide) ?_
            exact hret _ _ _ _ dX8_canLeave_93 (nar_z (z_of (by omega))) ⟨h17, o15⟩
          · have c21' := i_ne c21
            exfalso; omega
  · have c6' := i_ne c6
    refine r_aload_n 1 C dX8_canLeave_16 rfl ?_
    refine gfX8_21 58 C (kS sC h0 kc_55) (xS sC h0 xc_55_5) dX8_canLeave_17 ?_
    refine r_iload 0 C dX8_canLeave_20 rfl ?_
    refine r_iald C (kS sC h0 kc_58) (vin (by omega) (by omega)) dX8_canLeave_22 ?_
    generalize (wI w 58 (v1).toNatClampNeg) = v22
    refine r_goto 27 C dX8_canLeave_23 (by decide) ?_
    refine r_istore [(5, .int v22), (4, .int v1), (0, .ref (gz (xG x) + 55)), (1, .ref (gz (xG x) + 74)), (2, .int a2), (3, .int a3)] C dX8_canLeave_27 (by decide) rfl ?_
    refine r_aload_n 3 C dX8_canLeave_29 rfl ?_
    refine gfX8_134 76 C (kS sC h0 kc_74) (xS sC h0 xc_74_3) dX8_canLeave_30 ?_
    refine r_iload_n 4 C dX8_canLeave_33 rfl ?_
    refine r_iald C (kS sC h0 kc_76) (vin (by omega) (by omega)) dX8_canLeave_34 ?_
    generalize (wI w 76 (a2).toNatClampNeg) = v23
    refine r_iconst (v := (-1)) C dX8_canLeave_35 (by decide) ?_
    refine r_icmp_ne 54 C dX8_canLeave_36 (by decide) (fun c24 => ?_) (fun c24 => ?_)
    · have c24' := i_ne c24
      refine r_iconst (v := 1) C dX8_canLeave_54 (by decide) ?_
      refine r_goto 59 C dX8_canLeave_55 (by decide) ?_
      refine r_istore [(6, .int 1), (5, .int v22), (4, .int v1), (0, .ref (gz (xG x) + 55)), (1, .ref (gz (xG x) + 74)), (2, .int a2), (3, .int a3)] C dX8_canLeave_59 (by decide) rfl ?_
      refine r_iload 0 C dX8_canLeave_61 rfl ?_
      refine r_if_eq 92 C dX8_canLeave_63 (by decide) (fun c25 => ?_) (fun c25 => ?_)
      · have c25' := i_eq c25
        exfalso; omega
      · have c25' := i_ne c25
        refine r_iload 1 C dX8_canLeave_66 rfl ?_
        refine r_iconst (v := (-1)) C dX8_canLeave_68 (by decide) ?_
        refine r_icmp_eq 92 C dX8_canLeave_69 (by decide) (fun c26 => ?_) (fun c26 => ?_)
        · have c26' := i_eq c26
          refine r_iconst (v := 0) C dX8_canLeave_92 (by decide) ?_
          exact hret _ _ _ _ dX8_canLeave_93 (nar_z (z_of (by omega))) ⟨h0, o0⟩
        · have c26' := i_ne c26
          refine r_iload 1 C dX8_canLeave_72 rfl ?_
          refine r_iload_n 6 C dX8_canLeave_74 rfl ?_
          refine r_aload_n 3 C dX8_canLeave_75 rfl ?_
          refine gfX8_24 3 C (kS sC h0 kc_55) (xS sC h0 xc_55_1) dX8_canLeave_76 ?_
          refine gfX8_140 8 C (kS sC h0 kc_3) (xS sC h0 xc_3_13) dX8_canLeave_79 ?_
          refine r_iload_n 5 C dX8_canLeave_82 rfl ?_
          refine r_iald C (kS sC h0 kc_8) (vin (by omega) (by omega)) dX8_canLeave_83 ?_
          generalize (wI w 8 (a2).toNatClampNeg) = v27
          refine r_imul C dX8_canLeave_84 (fun v28 e29 => ?_)
          refine r_icmp_gt 92 C dX8_canLeave_85 (by decide) (fun c30 => ?_) (fun c30 => ?_)
          · have c30' := i_lt c30
            refine r_iconst (v := 0) C dX8_canLeave_92 (by decide) ?_
            exact hret _ _ _ _ dX8_canLeave_93 (nar_z (z_of (by omega))) ⟨h0, o0⟩
          · have c30' := i_nlt c30
            refine r_iconst (v := 1) C dX8_canLeave_88 (by decide) ?_
            refine r_goto 93 C dX8_canLeave_89 (by decide) ?_
            exact hret _ _ _ _ dX8_canLeave_93 (nar_z (z_of (by omega))) ⟨h0, o0⟩
    · have c24' := i_eq c24
      refine r_aload_n 2 C dX8_canLeave_39 rfl ?_
      refine gfX8_24 3 C (kS sC h0 kc_55) (xS sC h0 xc_55_1) dX8_canLeave_40 ?_
      refine r_iload_n 4 C dX8_canLeave_43 rfl ?_
      refine r_aload_n 2 C dX8_canLeave_44 rfl ?_
      refine gfX8_50 (v := (wI w 55 9)) C (kS sC h0 kc_55) rfl dX8_canLeave_45 ?_
      refine callVI C cwX8_137_V (ctX9_isFollower_3 _ _ w (sS sC h0) o0 a2 (wI w 55 9) ) (by decide) (kS sC h0 kc_3) rfl rfl rfl (Nat.le_of_ble_eq_true rfl) (by decide) dX8_canLeave_48 (fun r33 w32 y31 => ?_)
      show V x 0 0 w32 51 [(5, .int v22), (4, .int v1), (0, .ref (gz (xG x) + 55)), (1, .ref (gz (xG x) + 74)), (2, .int a2), (3, .int a3)] [.int r33]
      obtain ⟨h34, o35, g36⟩ := y31
      have h37 := Ch.tr h0 h34 (by decide) (by decide)
      refine r_if_eq 58 C dX8_canLeave_51 (by decide) (fun c38 => ?_) (fun c38 => ?_)
      · have c38' := i_eq c38
        refine r_iconst (v := 0) C dX8_canLeave_58 (by decide) ?_
        refine r_istore [(6, .int 0), (5, .int v22), (4, .int v1), (0, .ref (gz (xG x) + 55)), (1, .ref (gz (xG x) + 74)), (2, .int a2), (3, .int a3)] C dX8_canLeave_59 (by decide) rfl ?_
        refine r_iload 0 C dX8_canLeave_61 rfl ?_
        refine r_if_eq 92 C dX8_canLeave_63 (by decide) (fun c39 => ?_) (fun c39 => ?_)
        · have c39' := i_eq c39
          refine r_iconst (v := 0) C dX8_canLeave_92 (by decide) ?_
          exact hret _ _ _ _ dX8_canLeave_93 (nar_z (z_of (by omega))) ⟨h37, o35⟩
        · have c39' := i_ne c39
          exfalso; omega
      · have c38' := i_ne c38
        refine r_iconst (v := 1) C dX8_canLeave_54 (by decide) ?_
        refine r_goto 59 C dX8_canLeave_55 (by decide) ?_
        refine r_istore [(6, .int 1), (5, .int v22), (4, .int v1), (0, .ref (gz (xG x) + 55)), (1, .ref (gz (xG x) + 74)), (2, .int a2), (3, .int a3)] C dX8_canLeave_59 (by decide) rfl ?_
        refine r_iload 0 C dX8_canLeave_61 rfl ?_
        refine r_if_eq 92 C dX8_canLeave_63 (by decide) (fun c40 => ?_) (fun c40 => ?_)
        · have c40' := i_eq c40
          exfalso; omega
        · have c40' := i_ne c40
          refine r_iload 1 C dX8_canLeave_66 rfl ?_
          refine r_iconst (v := (-1)) C dX8_canLeave_68 (by decide) ?_
          refine r_icmp_eq 92 C dX8_canLeave_69 (by decide) (fun c41 => ?_) (fun c41 => ?_)
          · have c41' := i_eq c41
            refine r_iconst (v := 0) C dX8_canLeave_92 (by decide) ?_
            exact hret _ _ _ _ dX8_canLeave_93 (nar_z (z_of (by omega))) ⟨h37, o35⟩
          · have c41' := i_ne c41
            refine r_iload 1 C dX8_canLeave_72 rfl ?_
            refine r_iload_n 6 C dX8_canLeave_74 rfl ?_
            refine r_aload_n 3 C dX8_canLeave_75 rfl ?_
            refine gfX8_24 3 C (kS sC h37 kc_55) (xS sC h37 xc_55_1) dX8_canLeave_76 ?_
            refine gfX8_140 8 C (kS sC h37 kc_3) (xS sC h37 xc_3_13) dX8_canLeave_79 ?_
            refine r_iload_n 5 C dX8_canLeave_82 rfl ?_
            refine r_iald C (kS sC h37 kc_8) (vin (by omega) (by omega)) dX8_canLeave_83 ?_
            generalize (wI w32 8 (a2).toNatClampNeg) = v42
            refine r_imul C dX8_canLeave_84 (fun v43 e44 => ?_)
            refine r_icmp_gt 92 C dX8_canLeave_85 (by decide) (fun c45 => ?_) (fun c45 => ?_)
            · have c45' := i_lt c45
              refine r_iconst (v := 0) C dX8_canLeave_92 (by decide) ?_
              exact hret _ _ _ _ dX8_canLeave_93 (nar_z (z_of (by omega))) ⟨h37, o35⟩
            · have c45' := i_nlt c45
              refine r_iconst (v := 1) C dX8_canLeave_88 (by decide) ?_
              refine r_goto 93 C dX8_canLeave_89 (by decide) ?_
              exact hret _ _ _ _ dX8_canLeave_93 (nar_z (z_of (by omega))) ⟨h37, o35⟩
set_option maxHeartbeats 4000000 in
set_option maxRecDepth 100000 in
theorem ctX8_canLeave_55_77 (l : Launch) (G : Gt) (w : Wv) (sC : Str KC XC w) (o0 : Inv RC w) (a2 : Int32) (a3 : Int32) (b2 : 0 ≤ a2.toInt ∧ a2.toInt ≤ 5) : CtI l G yX8_canLeave cX8_canLeave 7 .boolean ({ frames := 1, cells := 0, slots := 0, locals := 23 } : Room) [.ref (gz G + 55), .ref (gz G + 77), .int a2, .int a3] w (fun r w' => Ch [] [] w w' ∧ Inv RC w') := by
  refine enterI (by decide) (Nat.le_of_ble_eq_true rfl) ?_
  intro x el eG C hret
  subst el; subst eG
  show V x 0 0 w 0 [(0, .ref (gz (xG x) + 55)), (1, .ref (gz (xG x) + 77)), (2, .int a2), (3, .int a3)] []
  have h0 : Ch [] [] w w := Ch.rf
  have qm1 : ((-1) : Int32).toInt = (-1) := by decide
  have q0 : (0 : Int32).toInt = 0 := by decide
  have q1 : (1 : Int32).toInt = 1 := by decide
  refine r_aload_n 1 C dX8_canLeave_0 rfl ?_
  refine gfX8_128 78 C (kS sC h0 kc_77) (xS sC h0 xc_77_2) dX8_canLeave_1 ?_
  refine r_iload_n 2 C dX8_canLeave_4 rfl ?_
  refine r_iald C (kS sC h0 kc_78) (vin (by omega) (by omega)) dX8_canLeave_5 ?_
  generalize (wI w 78 (a2).toNatClampNeg) = v1
  refine r_istore [(4, .int v1), (0, .ref (gz (xG x) + 55)), (1, .ref (gz (xG x) + 77)), (2, .int a2), (3, .int a3)] C dX8_canLeave_6 (by decide) rfl ?_
  refine r_iload 0 C dX8_canLeave_8 rfl ?_
  refine callSI C cwX8_131_S (ctX1_isCell _ _ w v1 ) (by decide) rfl rfl (Nat.le_of_ble_eq_true rfl) (by decide) dX8_canLeave_10 (fun r4 w3 y2 => ?_)
  obtain ⟨rfl, g5⟩ := y2
  show V x 0 0 w 13 [(4, .int v1), (0, .ref (gz (xG x) + 55)), (1, .ref (gz (xG x) + 77)), (2, .int a2), (3, .int a3)] [.int r4]
  refine r_if_eq 26 C dX8_canLeave_13 (by decide) (fun c6 => ?_) (fun c6 => ?_)
  · have c6' := i_eq c6
    refine r_iconst (v := (-1)) C dX8_canLeave_26 (by decide) ?_
    refine r_istore [(5, .int (-1)), (4, .int v1), (0, .ref (gz (xG x) + 55)), (1, .ref (gz (xG x) + 77)), (2, .int a2), (3, .int a3)] C dX8_canLeave_27 (by decide) rfl ?_
    refine r_aload_n 3 C dX8_canLeave_29 rfl ?_
    refine gfX8_134 79 C (kS sC h0 kc_77) (xS sC h0 xc_77_3) dX8_canLeave_30 ?_
    refine r_iload_n 4 C dX8_canLeave_33 rfl ?_
    refine r_iald C (kS sC h0 kc_79) (vin (by omega) (by omega)) dX8_canLeave_34 ?_
    generalize (wI w 79 (a2).toNatClampNeg) = v7
    refine r_iconst (v := (-1)) C dX8_canLeave_35 (by decide) ?_
    refine r_icmp_ne 54 C dX8_canLeave_36 (by decide) (fun c8 => ?_) (fun c8 => ?_)
    · have c8' := i_ne c8
      refine r_iconst (v := 1) C dX8_canLeave_54 (by decide) ?_
      refine r_goto 59 C dX8_canLeave_55 (by decide) ?_
      refine r_istore [(6, .int 1), (5, .int (-1)), (4, .int v1), (0, .ref (gz (xG x) + 55)), (1, .ref (gz (xG x) + 77)), (2, .int a2), (3, .int a3)] C dX8_canLeave_59 (by decide) rfl ?_
      refine r_iload 0 C dX8_canLeave_61 rfl ?_
      refine r_if_eq 92 C dX8_canLeave_63 (by decide) (fun c9 => ?_) (fun c9 => ?_)
      · have c9' := i_eq c9
        exfalso; omega
      · have c9' := i_ne c9
        refine r_iload 1 C dX8_canLeave_66 rfl ?_
        refine r_iconst (v := (-1)) C dX8_canLeave_68 (by decide) ?_
        refine r_icmp_eq 92 C dX8_canLeave_69 (by decide) (fun c10 => ?_) (fun c10 => ?_)
        · have c10' := i_eq c10
          refine r_iconst (v := 0) C dX8_canLeave_92 (by decide) ?_
          exact hret _ _ _ _ dX8_canLeave_93 (nar_z (z_of (by omega))) ⟨h0, o0⟩
        · have c10' := i_ne c10
          exfalso; omega
    · have c8' := i_eq c8
      refine r_aload_n 2 C dX8_canLeave_39 rfl ?_
      refine gfX8_24 3 C (kS sC h0 kc_55) (xS sC h0 xc_55_1) dX8_canLeave_40 ?_
      refine r_iload_n 4 C dX8_canLeave_43 rfl ?_
      refine r_aload_n 2 C dX8_canLeave_44 rfl ?_
      refine gfX8_50 (v := (wI w 55 9)) C (kS sC h0 kc_55) rfl dX8_canLeave_45 ?_
      refine callVI C cwX8_137_V (ctX9_isFollower_3 _ _ w (sS sC h0) o0 a2 (wI w 55 9) ) (by decide) (kS sC h0 kc_3) rfl rfl rfl (Nat.le_of_ble_eq_true rfl) (by decide) dX8_canLeave_48 (fun r13 w12 y11 => ?_)
      show V x 0 0 w12 51 [(5, .int (-1)), (4, .int v1), (0, .ref (gz (xG x) + 55)), (1, .ref (gz (xG x) + 77)), (2, .int a2), (3, .int a3)] [.int r13]
      obtain ⟨h14, o15, g16⟩ := y11
      have h17 := Ch.tr h0 h14 (by decide) (by decide)
      refine r_if_eq 58 C dX8_canLeave_51 (by decide) (fun c18 => ?_) (fun c18 => ?_)
      · have c18' := i_eq c18
        refine r_iconst (v := 0) C dX8_canLeave_58 (by decide) ?_
        refine r_istore [(6, .int 0), (5, .int (-1)), (4, .int v1), (0, .ref (gz (xG x) + 55)), (1, .ref (gz (xG x) + 77)), (2, .int a2), (3, .int a3)] C dX8_canLeave_59 (by decide) rfl ?_
        refine r_iload 0 C dX8_canLeave_61 rfl ?_
        refine r_if_eq 92 C dX8_canLeave_63 (by decide) (fun c19 => ?_) (fun c19 => ?_)
        · have c19' := i_eq c19
          refine r_iconst (v := 0) C dX8_canLeave_92 (by decide) ?_
          exact hret _ _ _ _ dX8_canLeave_93 (nar_z (z_of (by omega))) ⟨h17, o15⟩
        · have c19' := i_ne c19
          exfalso; omega
      · have c18' := i_ne c18
        refine r_iconst (v := 1) C dX8_canLeave_54 (by decide) ?_
        refine r_goto 59 C dX8_canLeave_55 (by decide) ?_
        refine r_istore [(6, .int 1), (5, .int (-1)), (4, .int v1), (0, .ref (gz (xG x) + 55)), (1, .ref (gz (xG x) + 77)), (2, .int a2), (3, .int a3)] C dX8_canLeave_59 (by decide) rfl ?_
        refine r_iload 0 C dX8_canLeave_61 rfl ?_
        refine r_if_eq 92 C dX8_canLeave_63 (by decide) (fun c20 => ?_) (fun c20 => ?_)
        · have c20' := i_eq c20
          exfalso; omega
        · have c20' := i_ne c20
          refine r_iload 1 C dX8_canLeave_66 rfl ?_
          refine r_iconst (v := (-1)) C dX8_canLeave_68 (by decide) ?_
          refine r_icmp_eq 92 C dX8_canLeave_69 (by decide) (fun c21 => ?_) (fun c21 => ?_)
          · have c21' := i_eq c21
            refine r_iconst (v := 0) C dX8_canLeave_92 (by decide) ?_
            exact hret _ _ _ _ dX8_canLeave_93 (nar_z (z_of (by omega))) ⟨h17, o15⟩
          · have c21' := i_ne c21
            exfalso; omega
  · have c6' := i_ne c6
    refine r_aload_n 1 C dX8_canLeave_16 rfl ?_
    refine gfX8_21 58 C (kS sC h0 kc_55) (xS sC h0 xc_55_5) dX8_canLeave_17 ?_
    refine r_iload 0 C dX8_canLeave_20 rfl ?_
    refine r_iald C (kS sC h0 kc_58) (vin (by omega) (by omega)) dX8_canLeave_22 ?_
    generalize (wI w 58 (v1).toNatClampNeg) = v22
    refine r_goto 27 C dX8_canLeave_23 (by decide) ?_
    refine r_istore [(5, .int v22), (4, .int v1), (0, .ref (gz (xG x) + 55)), (1, .ref (gz (xG x) + 77)), (2, .int a2), (3, .int a3)] C dX8_canLeave_27 (by decide) rfl ?_
    refine r_aload_n 3 C dX8_canLeave_29 rfl ?_
    refine gfX8_134 79 C (kS sC h0 kc_77) (xS sC h0 xc_77_3) dX8_canLeave_30 ?_
    refine r_iload_n 4 C dX8_canLeave_33 rfl ?_
    refine r_iald C (kS sC h0 kc_79) (vin (by omega) (by omega)) dX8_canLeave_34 ?_
    generalize (wI w 79 (a2).toNatClampNeg) = v23
    refine r_iconst (v := (-1)) C dX8_canLeave_35 (by decide) ?_
    refine r_icmp_ne 54 C dX8_canLeave_36 (by decide) (fun c24 => ?_) (fun c24 => ?_)
    · have c24' := i_ne c24
      refine r_iconst (v := 1) C dX8_canLeave_54 (by decide) ?_
      refine r_goto 59 C dX8_canLeave_55 (by decide) ?_
      refine r_istore [(6, .int 1), (5, .int v22), (4, .int v1), (0, .ref (gz (xG x) + 55)), (1, .ref (gz (xG x) + 77)), (2, .int a2), (3, .int a3)] C dX8_canLeave_59 (by decide) rfl ?_
      refine r_iload 0 C dX8_canLeave_61 rfl ?_
      refine r_if_eq 92 C dX8_canLeave_63 (by decide) (fun c25 => ?_) (fun c25 => ?_)
      · have c25' := i_eq c25
        exfalso; omega
      · have c25' := i_ne c25
        refine r_iload 1 C dX8_canLeave_66 rfl ?_
        refine r_iconst (v := (-1)) C dX8_canLeave_68 (by decide) ?_
        refine r_icmp_eq 92 C dX8_canLeave_69 (by decide) (fun c26 => ?_) (fun c26 => ?_)
        · have c26' := i_eq c26
          refine r_iconst (v := 0) C dX8_canLeave_92 (by decide) ?_
          exact hret _ _ _ _ dX8_canLeave_93 (nar_z (z_of (by omega))) ⟨h0, o0⟩
        · have c26' := i_ne c26
          refine r_iload 1 C dX8_canLeave_72 rfl ?_
          refine r_iload_n 6 C dX8_canLeave_74 rfl ?_
          refine r_aload_n 3 C dX8_canLeave_75 rfl ?_
          refine gfX8_24 3 C (kS sC h0 kc_55) (xS sC h0 xc_55_1) dX8_canLeave_76 ?_
          refine gfX8_140 8 C (kS sC h0 kc_3) (xS sC h0 xc_3_13) dX8_canLeave_79 ?_
          refine r_iload_n 5 C dX8_canLeave_82 rfl ?_
          refine r_iald C (kS sC h0 kc_8) (vin (by omega) (by omega)) dX8_canLeave_83 ?_
          generalize (wI w 8 (a2).toNatClampNeg) = v27
          refine r_imul C dX8_canLeave_84 (fun v28 e29 => ?_)
          refine r_icmp_gt 92 C dX8_canLeave_85 (by decide) (fun c30 => ?_) (fun c30 => ?_)
          · have c30' := i_lt c30
            refine r_iconst (v := 0) C dX8_canLeave_92 (by decide) ?_
            exact hret _ _ _ _ dX8_canLeave_93 (nar_z (z_of (by omega))) ⟨h0, o0⟩
          · have c30' := i_nlt c30
            refine r_iconst (v := 1) C dX8_canLeave_88 (by decide) ?_
            refine r_goto 93 C dX8_canLeave_89 (by decide) ?_
            exact hret _ _ _ _ dX8_canLeave_93 (nar_z (z_of (by omega))) ⟨h0, o0⟩
    · have c24' := i_eq c24
      refine r_aload_n 2 C dX8_canLeave_39 rfl ?_
      refine gfX8_24 3 C (kS sC h0 kc_55) (xS sC h0 xc_55_1) dX8_canLeave_40 ?_
      refine r_iload_n 4 C dX8_canLeave_43 rfl ?_
      refine r_aload_n 2 C dX8_canLeave_44 rfl ?_
      refine gfX8_50 (v := (wI w 55 9)) C (kS sC h0 kc_55) rfl dX8_canLeave_45 ?_
      refine callVI C cwX8_137_V (ctX9_isFollower_3 _ _ w (sS sC h0) o0 a2 (wI w 55 9) ) (by decide) (kS sC h0 kc_3) rfl rfl rfl (Nat.le_of_ble_eq_true rfl) (by decide) dX8_canLeave_48 (fun r33 w32 y31 => ?_)
      show V x 0 0 w32 51 [(5, .int v22), (4, .int v1), (0, .ref (gz (xG x) + 55)), (1, .ref (gz (xG x) + 77)), (2, .int a2), (3, .int a3)] [.int r33]
      obtain ⟨h34, o35, g36⟩ := y31
      have h37 := Ch.tr h0 h34 (by decide) (by decide)
      refine r_if_eq 58 C dX8_canLeave_51 (by decide) (fun c38 => ?_) (fun c38 => ?_)
      · have c38' := i_eq c38
        refine r_iconst (v := 0) C dX8_canLeave_58 (by decide) ?_
        refine r_istore [(6, .int 0), (5, .int v22), (4, .int v1), (0, .ref (gz (xG x) + 55)), (1, .ref (gz (xG x) + 77)), (2, .int a2), (3, .int a3)] C dX8_canLeave_59 (by decide) rfl ?_
        refine r_iload 0 C dX8_canLeave_61 rfl ?_
        refine r_if_eq 92 C dX8_canLeave_63 (by decide) (fun c39 => ?_) (fun c39 => ?_)
        · have c39' := i_eq c39
          refine r_iconst (v := 0) C dX8_canLeave_92 (by decide) ?_
          exact hret _ _ _ _ dX8_canLeave_93 (nar_z (z_of (by omega))) ⟨h37, o35⟩
        · have c39' := i_ne c39
          exfalso; omega
      · have c38' := i_ne c38
        refine r_iconst (v := 1) C dX8_canLeave_54 (by decide) ?_
        refine r_goto 59 C dX8_canLeave_55 (by decide) ?_
        refine r_istore [(6, .int 1), (5, .int v22), (4, .int v1), (0, .ref (gz (xG x) + 55)), (1, .ref (gz (xG x) + 77)), (2, .int a2), (3, .int a3)] C dX8_canLeave_59 (by decide) rfl ?_
        refine r_iload 0 C dX8_canLeave_61 rfl ?_
        refine r_if_eq 92 C dX8_canLeave_63 (by decide) (fun c40 => ?_) (fun c40 => ?_)
        · have c40' := i_eq c40
          exfalso; omega
        · have c40' := i_ne c40
          refine r_iload 1 C dX8_canLeave_66 rfl ?_
          refine r_iconst (v := (-1)) C dX8_canLeave_68 (by decide) ?_
          refine r_icmp_eq 92 C dX8_canLeave_69 (by decide) (fun c41 => ?_) (fun c41 => ?_)
          · have c41' := i_eq c41
            refine r_iconst (v := 0) C dX8_canLeave_92 (by decide) ?_
            exact hret _ _ _ _ dX8_canLeave_93 (nar_z (z_of (by omega))) ⟨h37, o35⟩
          · have c41' := i_ne c41
            refine r_iload 1 C dX8_canLeave_72 rfl ?_
            refine r_iload_n 6 C dX8_canLeave_74 rfl ?_
            refine r_aload_n 3 C dX8_canLeave_75 rfl ?_
            refine gfX8_24 3 C (kS sC h37 kc_55) (xS sC h37 xc_55_1) dX8_canLeave_76 ?_
            refine gfX8_140 8 C (kS sC h37 kc_3) (xS sC h37 xc_3_13) dX8_canLeave_79 ?_
            refine r_iload_n 5 C dX8_canLeave_82 rfl ?_
            refine r_iald C (kS sC h37 kc_8) (vin (by omega) (by omega)) dX8_canLeave_83 ?_
            generalize (wI w32 8 (a2).toNatClampNeg) = v42
            refine r_imul C dX8_canLeave_84 (fun v43 e44 => ?_)
            refine r_icmp_gt 92 C dX8_canLeave_85 (by decide) (fun c45 => ?_) (fun c45 => ?_)
            · have c45' := i_lt c45
              refine r_iconst (v := 0) C dX8_canLeave_92 (by decide) ?_
              exact hret _ _ _ _ dX8_canLeave_93 (nar_z (z_of (by omega))) ⟨h37, o35⟩
            · have c45' := i_nlt c45
              refine r_iconst (v := 1) C dX8_canLeave_88 (by decide) ?_
              refine r_goto 93 C dX8_canLeave_89 (by decide) ?_
              exact hret _ _ _ _ dX8_canLeave_93 (nar_z (z_of (by omega))) ⟨h37, o35⟩
set_option maxHeartbeats 4000000 in
set_option maxRecDepth 100000 in
theorem ctX8_outlook_55_59 (l : Launch) (G : Gt) (w : Wv) (sC : Str KC XC w) (o0 : Inv RC w) (a2 : Int32) : CtI l G yX8_outlook cX8_outlook 5 .int ({ frames := 2, cells := 0, slots := 0, locals := 49 } : Room) [.ref (gz G + 55), .ref (gz G + 59), .int a2] w (fun r w' => Ch [] [] w w' ∧ Inv RC w') := by
  refine enterI (by decide) (Nat.le_of_ble_eq_true rfl) ?_
  intro x el eG C hret
  subst el; subst eG
  show V x 0 0 w 0 [(0, .ref (gz (xG x) + 55)), (1, .ref (gz (xG x) + 59)), (2, .int a2)] []
  have h0 : Ch [] [] w w := Ch.rf
  have q0 : (0 : Int32).toInt = 0 := by decide
  have q1 : (1 : Int32).toInt = 1 := by decide
  have q2 : (2 : Int32).toInt = 2 := by decide
  have LP3 : ∀ (f4 : Nat) (u1 : Int32) (u2 : Int32) (w5 : Wv), Ch [] [] w w5 → Inv RC w5 → (0 ≤ u2.toInt ∧ u2.toInt ≤ 2147483647) → 2147483647 - u2.toInt < f4 → V x 0 0 w5 5 [(0, .ref (gz (xG x) + 55)), (1, .ref (gz (xG x) + 59)), (2, .int a2), (3, .int u1), (4, .int u2)] [] := by
    intro f4
    induction f4 with
    | zero => intro u1 u2 w5 h6 o7 z8 z9; exfalso; omega
    | succ f4 ih10 =>
      intro u1 u2 w5 h6 o7 z8 z9
      refine r_iload 4 C dX8_outlook_5 rfl ?_
      refine r_aload_n 0 C dX8_outlook_7 rfl ?_
      refine gfX8_24 3 C (kS sC h6 kc_55) (xS sC h6 xc_55_1) dX8_outlook_8 ?_
      refine gfX8_111 (v := (wI w 3 3)) C (kS sC h6 kc_3) (h6.I (by decide) (by decide) rfl) dX8_outlook_11 ?_
      have b11 := Inv.get o0 rt_3_3 (j := 3) (by decide) (by decide)
      refine r_icmp_ge 114 C dX8_outlook_14 (by decide) (fun c12 => ?_) (fun c12 => ?_)
      · have c12' := i_le c12
        refine r_iload_n 3 C dX8_outlook_114 rfl ?_
        exact hret _ _ _ _ dX8_outlook_115 rfl ⟨h6, o7⟩
      · have c12' := i_nle c12
        refine r_iload_n 3 C dX8_outlook_17 rfl ?_
        refine r_if_eq 114 C dX8_outlook_18 (by decide) (fun c13 => ?_) (fun c13 => ?_)
        · have c13' := i_eq c13
          refine r_iload_n 3 C dX8_outlook_114 rfl ?_
          exact hret _ _ _ _ dX8_outlook_115 rfl ⟨h6, o7⟩
        · have c13' := i_ne c13
          refine r_aload_n 0 C dX8_outlook_21 rfl ?_
          refine gfX8_24 3 C (kS sC h6 kc_55) (xS sC h6 xc_55_1) dX8_outlook_22 ?_
          refine gfX8_116 5 C (kS sC h6 kc_3) (xS sC h6 xc_3_10) dX8_outlook_25 ?_
          refine r_iload 4 C dX8_outlook_28 rfl ?_
          refine r_iald C (kS sC h6 kc_5) (vin (by omega) (by omega)) dX8_outlook_30 ?_
          generalize (wI w5 5 (u2).toNatClampNeg) = v14
          refine r_aload_n 0 C dX8_outlook_31 rfl ?_
          refine gfX8_47 (v := (wI w 55 8)) C (kS sC h6 kc_55) (h6.I (by decide) (by decide) rfl) dX8_outlook_32 ?_
          refine r_icmp_eq 67 C dX8_outlook_35 (by decide) (fun c15 => ?_) (fun c15 => ?_)
          · have c15' := i_eq c15
            refine r_aload_n 1 C dX8_outlook_67 rfl ?_
            refine r_iload 4 C dX8_outlook_68 rfl ?_
            refine callVI C cwX8_121_V (ctX6_isHere_59 _ _ w5 (sS sC h6) o7 u2 ) (by decide) (kS sC h6 kc_59) rfl rfl rfl (Nat.le_of_ble_eq_true rfl) (by decide) dX8_outlook_70 (fun r18 w17 y16 => ?_)
            show V x 0 0 w17 73 [(0, .ref (gz (xG x) + 55)), (1, .ref (gz (xG x) + 59)), (2, .int a2), (3, .int u1), (4, .int u2)] [.int r18]
            obtain ⟨h19, o20⟩ := y16
            have h21 := Ch.tr h6 h19 (by decide) (by decide)
            refine r_if_eq 96 C dX8_outlook_73 (by decide) (fun c22 => ?_) (fun c22 => ?_)
            · have c22' := i_eq c22
              refine r_aload_n 1 C dX8_outlook_96 rfl ?_
              refine r_iload 4 C dX8_outlook_97 rfl ?_
              refine callVI C cwX8_118_V (ctX6_fate_59 _ _ w17 (sS sC h21) o20 u2 ) (by decide) (kS sC h21 kc_59) rfl rfl rfl (Nat.le_of_ble_eq_true rfl) (by decide) dX8_outlook_99 (fun r25 w24 y23 => ?_)
              show V x 0 0 w24 102 [(0, .ref (gz (xG x) + 55)), (1, .ref (gz (xG x) + 59)), (2, .int a2), (3, .int u1), (4, .int u2)] [.int r25]
              obtain ⟨h26, o27⟩ := y23
              have h28 := Ch.tr h21 h26 (by decide) (by decide)
              refine r_iconst (v := 2) C dX8_outlook_102 (by decide) ?_
              refine r_icmp_ne 108 C dX8_outlook_103 (by decide) (fun c29 => ?_) (fun c29 => ?_)
              · have c29' := i_ne c29
                obtain ⟨i30, e31⟩ : ∃ z : Int32, u2 + Int32.ofInt 1 = z := ⟨_, rfl⟩
                have i30' := iinc_ok e31 (by decide) (by omega) (by omega)
                refine r_iinc [(4, .int i30), (0, .ref (gz (xG x) + 55)), (1, .ref (gz (xG x) + 59)), (2, .int a2), (3, .int u1)] 4 C dX8_outlook_108 rfl e31 (by decide) rfl ?_
                refine r_goto 5 C dX8_outlook_111 (by decide) ?_
                refine r_lv [1, 2, 3, 4, 0] rfl ?_
                exact ih10 u1 i30 w24 h28 o27 (by omega) (by omega)
              · have c29' := i_eq c29
                refine r_iconst (v := 0) C dX8_outlook_106 (by decide) ?_
                refine r_istore_n [(3, .int 0), (0, .ref (gz (xG x) + 55)), (1, .ref (gz (xG x) + 59)), (2, .int a2), (4, .int u2)] C dX8_outlook_107 (by decide) rfl ?_
                obtain ⟨i32, e33⟩ : ∃ z : Int32, u2 + Int32.ofInt 1 = z := ⟨_, rfl⟩
                have i32' := iinc_ok e33 (by decide) (by omega) (by omega)
                refine r_iinc [(4, .int i32), (3, .int 0), (0, .ref (gz (xG x) + 55)), (1, .ref (gz (xG x) + 59)), (2, .int a2)] 4 C dX8_outlook_108 rfl e33 (by decide) rfl ?_
                refine r_goto 5 C dX8_outlook_111 (by decide) ?_
                refine r_lv [2, 3, 4, 1, 0] rfl ?_
                exact ih10 0 i32 w24 h28 o27 (by omega) (by omega)
            · have c22' := i_ne c22
              refine r_aload_n 0 C dX8_outlook_76 rfl ?_
              refine r_aload_n 1 C dX8_outlook_77 rfl ?_
              refine r_iload 4 C dX8_outlook_78 rfl ?_
              refine r_iload_n 2 C dX8_outlook_80 rfl ?_
              refine callVI C cwX8_124_V (ctX8_canLeave_55_59 _ _ w17 (sS sC h21) o20 u2 a2 (by omega)) (by decide) (kS sC h21 kc_55) rfl rfl rfl (Nat.le_of_ble_eq_true rfl) (by decide) dX8_outlook_81 (fun r36 w35 y34 => ?_)
              show V x 0 0 w35 84 [(0, .ref (gz (xG x) + 55)), (1, .ref (gz (xG x) + 59)), (2, .int a2), (3, .int u1), (4, .int u2)] [.int r36]
              obtain ⟨h37, o38⟩ := y34
              have h39 := Ch.tr h21 h37 (by decide) (by decide)
              refine r_if_eq 91 C dX8_outlook_84 (by decide) (fun c40 => ?_) (fun c40 => ?_)
              · have c40' := i_eq c40
                refine r_iconst (v := 0) C dX8_outlook_91 (by decide) ?_
                refine r_istore_n [(3, .int 0), (0, .ref (gz (xG x) + 55)), (1, .ref (gz (xG x) + 59)), (2, .int a2), (4, .int u2)] C dX8_outlook_92 (by decide) rfl ?_
                refine r_goto 108 C dX8_outlook_93 (by decide) ?_
                obtain ⟨i41, e42⟩ : ∃ z : Int32, u2 + Int32.ofInt 1 = z := ⟨_, rfl⟩
                have i41' := iinc_ok e42 (by decide) (by omega) (by omega)
                refine r_iinc [(4, .int i41), (3, .int 0), (0, .ref (gz (xG x) + 55)), (1, .ref (gz (xG x) + 59)), (2, .int a2)] 4 C dX8_outlook_108 rfl e42 (by decide) rfl ?_
                refine r_goto 5 C dX8_outlook_111 (by decide) ?_
                refine r_lv [2, 3, 4, 1, 0] rfl ?_
                exact ih10 0 i41 w35 h39 o38 (by omega) (by omega)
              · have c40' := i_ne c40
                refine r_iconst (v := 1) C dX8_outlook_87 (by decide) ?_
                refine r_goto 92 C dX8_outlook_88 (by decide) ?_
                refine r_istore_n [(3, .int 1), (0, .ref (gz (xG x) + 55)), (1, .ref (gz (xG x) + 59)), (2, .int a2), (4, .int u2)] C dX8_outlook_92 (by decide) rfl ?_
                refine r_goto 108 C dX8_outlook_93 (by decide) ?_
                obtain ⟨i43, e44⟩ : ∃ z : Int32, u2 + Int32.ofInt 1 = z := ⟨_, rfl⟩
                have i43' := iinc_ok e44 (by decide) (by omega) (by omega)
                refine r_iinc [(4, .int i43), (3, .int 1), (0, .ref (gz (xG x) + 55)), (1, .ref (gz (xG x) + 59)), (2, .int a2)] 4 C dX8_outlook_108 rfl e44 (by decide) rfl ?_
                refine r_goto 5 C dX8_outlook_111 (by decide) ?_
                refine r_lv [2, 3, 4, 1, 0] rfl ?_
                exact ih10 1 i43 w35 h39 o38 (by omega) (by omega)
          · have c15' := i_ne c15
            refine r_aload_n 1 C dX8_outlook_38 rfl ?_
            refine r_iload 4 C dX8_outlook_39 rfl ?_
            refine callVI C cwX8_118_V (ctX6_fate_59 _ _ w5 (sS sC h6) o7 u2 ) (by decide) (kS sC h6 kc_59) rfl rfl rfl (Nat.le_of_ble_eq_true rfl) (by decide) dX8_outlook_41 (fun r47 w46 y45 => ?_)
            show V x 0 0 w46 44 [(0, .ref (gz (xG x) + 55)), (1, .ref (gz (xG x) + 59)), (2, .int a2), (3, .int u1), (4, .int u2)] [.int r47]
            obtain ⟨h48, o49⟩ := y45
            have h50 := Ch.tr h6 h48 (by decide) (by decide)
            refine r_aload_n 0 C dX8_outlook_44 rfl ?_
            refine gfX8_11 56 C (kS sC h50 kc_55) (xS sC h50 xc_55_3) dX8_outlook_45 ?_
            refine r_iconst (v := 0) C dX8_outlook_48 (by decide) ?_
            refine r_aald 3 rfl C (kS sC h50 kc_56) (vin (by omega) (by omega)) (xS sC h50 xc_56_0) dX8_outlook_49 ?_
            refine r_iload 4 C dX8_outlook_50 rfl ?_
            refine callVI C cwX8_118_V (ctX6_fate_59 _ _ w46 (sS sC h50) o49 u2 ) (by decide) (kS sC h50 kc_59) rfl rfl rfl (Nat.le_of_ble_eq_true rfl) (by decide) dX8_outlook_52 (fun r53 w52 y51 => ?_)
            show V x 0 0 w52 55 [(0, .ref (gz (xG x) + 55)), (1, .ref (gz (xG x) + 59)), (2, .int a2), (3, .int u1), (4, .int u2)] [.int r53, .int r47]
            obtain ⟨h54, o55⟩ := y51
            have h56 := Ch.tr h50 h54 (by decide) (by decide)
            refine r_icmp_ne 62 C dX8_outlook_55 (by decide) (fun c57 => ?_) (fun c57 => ?_)
            · have c57' := i_ne c57
              refine r_iconst (v := 0) C dX8_outlook_62 (by decide) ?_
              refine r_istore_n [(3, .int 0), (0, .ref (gz (xG x) + 55)), (1, .ref (gz (xG x) + 59)), (2, .int a2), (4, .int u2)] C dX8_outlook_63 (by decide) rfl ?_
              refine r_goto 108 C dX8_outlook_64 (by decide) ?_
              obtain ⟨i58, e59⟩ : ∃ z : Int32, u2 + Int32.ofInt 1 = z := ⟨_, rfl⟩
              have i58' := iinc_ok e59 (by decide) (by omega) (by omega)
              refine r_iinc [(4, .int i58), (3, .int 0), (0, .ref (gz (xG x) + 55)), (1, .ref (gz (xG x) + 59)), (2, .int a2)] 4 C dX8_outlook_108 rfl e59 (by decide) rfl ?_
              refine r_goto 5 C dX8_outlook_111 (by decide) ?_
              refine r_lv [2, 3, 4, 1, 0] rfl ?_
              exact ih10 0 i58 w52 h56 o55 (by omega) (by omega)
            · have c57' := i_eq c57
              refine r_iload_n 3 C dX8_outlook_58 rfl ?_
              refine r_goto 63 C dX8_outlook_59 (by decide) ?_
              refine r_istore_n [(3, .int u1), (0, .ref (gz (xG x) + 55)), (1, .ref (gz (xG x) + 59)), (2, .int a2), (4, .int u2)] C dX8_outlook_63 (by decide) rfl ?_
              refine r_goto 108 C dX8_outlook_64 (by decide) ?_
              obtain ⟨i60, e61⟩ : ∃ z : Int32, u2 + Int32.ofInt 1 = z := ⟨_, rfl⟩
              have i60' := iinc_ok e61 (by decide) (by omega) (by omega)
              refine r_iinc [(4, .int i60), (3, .int u1), (0, .ref (gz (xG x) + 55)), (1, .ref (gz (xG x) + 59)), (2, .int a2)] 4 C dX8_outlook_108 rfl e61 (by decide) rfl ?_
              refine r_goto 5 C dX8_outlook_111 (by decide) ?_
              refine r_lv [2, 3, 4, 1, 0] rfl ?_
              exact ih10 u1 i60 w52 h56 o55 (by omega) (by omega)
  refine r_iconst (v := 2) C dX8_outlook_0 (by decide) ?_
  refine r_istore_n [(3, .int 2), (0, .ref (gz (xG x) + 55)), (1, .ref (gz (xG x) + 59)), (2, .int a2)] C dX8_outlook_1 (by decide) rfl ?_
  refine r_iconst (v := 0) C dX8_outlook_2 (by decide) ?_
  refine r_istore [(4, .int 0), (3, .int 2), (0, .ref (gz (xG x) + 55)), (1, .ref (gz (xG x) + 59)), (2, .int a2)] C dX8_outlook_3 (by decide) rfl ?_
  refine r_lv [2, 3, 4, 1, 0] rfl ?_
  exact LP3 4294967296 2 0 w h0 o0 (by omega) (by omega)
set_option maxHeartbeats 4000000 in
set_option maxRecDepth 100000 in
theorem ctX8_outlook_55_62 (l : Launch) (G : Gt) (w : Wv) (sC : Str KC XC w) (o0 : Inv RC w) (a2 : Int32) : CtI l G yX8_outlook cX8_outlook 5 .int ({ frames := 2, cells := 0, slots := 0, locals := 49 } : Room) [.ref (gz G + 55), .ref (gz G + 62), .int a2] w (fun r w' => Ch [] [] w w' ∧ Inv RC w') := by
  refine enterI (by decide) (Nat.le_of_ble_eq_true rfl) ?_
  intro x el eG C hret
  subst el; subst eG
  show V x 0 0 w 0 [(0, .ref (gz (xG x) + 55)), (1, .ref (gz (xG x) + 62)), (2, .int a2)] []
  have h0 : Ch [] [] w w := Ch.rf
  have q0 : (0 : Int32).toInt = 0 := by decide
  have q1 : (1 : Int32).toInt = 1 := by decide
  have q2 : (2 : Int32).toInt = 2 := by decide
  have LP3 : ∀ (f4 : Nat) (u1 : Int32) (u2 : Int32) (w5 : Wv), Ch [] [] w w5 → Inv RC w5 → (0 ≤ u2.toInt ∧ u2.toInt ≤ 2147483647) → 2147483647 - u2.toInt < f4 → V x 0 0 w5 5 [(0, .ref (gz (xG x) + 55)), (1, .ref (gz (xG x) + 62)), (2, .int a2), (3, .int u1), (4, .int u2)] [] := by
    intro f4
    induction f4 with
    | zero => intro u1 u2 w5 h6 o7 z8 z9; exfalso; omega
    | succ f4 ih10 =>
      intro u1 u2 w5 h6 o7 z8 z9
      refine r_iload 4 C dX8_outlook_5 rfl ?_
      refine r_aload_n 0 C dX8_outlook_7 rfl ?_
      refine gfX8_24 3 C (kS sC h6 kc_55) (xS sC h6 xc_55_1) dX8_outlook_8 ?_
      refine gfX8_111 (v := (wI w 3 3)) C (kS sC h6 kc_3) (h6.I (by decide) (by decide) rfl) dX8_outlook_11 ?_
      have b11 := Inv.get o0 rt_3_3 (j := 3) (by decide) (by decide)
      refine r_icmp_ge 114 C dX8_outlook_14 (by decide) (fun c12 => ?_) (fun c12 => ?_)
      · have c12' := i_le c12
        refine r_iload_n 3 C dX8_outlook_114 rfl ?_
        exact hret _ _ _ _ dX8_outlook_115 rfl ⟨h6, o7⟩
      · have c12' := i_nle c12
        refine r_iload_n 3 C dX8_outlook_17 rfl ?_
        refine r_if_eq 114 C dX8_outlook_18 (by decide) (fun c13 => ?_) (fun c13 => ?_)
        · have c13' := i_eq c13
          refine r_iload_n 3 C dX8_outlook_114 rfl ?_
          exact hret _ _ _ _ dX8_outlook_115 rfl ⟨h6, o7⟩
        · have c13' := i_ne c13
          refine r_aload_n 0 C dX8_outlook_21 rfl ?_
          refine gfX8_24 3 C (kS sC h6 kc_55) (xS sC h6 xc_55_1) dX8_outlook_22 ?_
          refine gfX8_116 5 C (kS sC h6 kc_3) (xS sC h6 xc_3_10) dX8_outlook_25 ?_
          refine r_iload 4 C dX8_outlook_28 rfl ?_
          refine r_iald C (kS sC h6 kc_5) (vin (by omega) (by omega)) dX8_outlook_30 ?_
          generalize (wI w5 5 (u2).toNatClampNeg) = v14
          refine r_aload_n 0 C dX8_outlook_31 rfl ?_
          refine gfX8_47 (v := (wI w 55 8)) C (kS sC h6 kc_55) (h6.I (by decide) (by decide) rfl) dX8_outlook_32 ?_
          refine r_icmp_eq 67 C dX8_outlook_35 (by decide) (fun c15 => ?_) (fun c15 => ?_)
          · have c15' := i_eq c15
            refine r_aload_n 1 C dX8_outlook_67 rfl ?_
            refine r_iload 4 C dX8_outlook_68 rfl ?_
            refine callVI C cwX8_121_V (ctX6_isHere_62 _ _ w5 (sS sC h6) o7 u2 ) (by decide) (kS sC h6 kc_62) rfl rfl rfl (Nat.le_of_ble_eq_true rfl) (by decide) dX8_outlook_70 (fun r18 w17 y16 => ?_)
            show V x 0 0 w17 73 [(0, .ref (gz (xG x) + 55)), (1, .ref (gz (xG x) + 62)), (2, .int a2), (3, .int u1), (4, .int u2)] [.int r18]
            obtain ⟨h19, o20⟩ := y16
            have h21 := Ch.tr h6 h19 (by decide) (by decide)
            refine r_if_eq 96 C dX8_outlook_73 (by decide) (fun c22 => ?_) (fun c22 => ?_)
            · have c22' := i_eq c22
              refine r_aload_n 1 C dX8_outlook_96 rfl ?_
              refine r_iload 4 C dX8_outlook_97 rfl ?_
              refine callVI C cwX8_118_V (ctX6_fate_62 _ _ w17 (sS sC h21) o20 u2 ) (by decide) (kS sC h21 kc_62) rfl rfl rfl (Nat.le_of_ble_eq_true rfl) (by decide) dX8_outlook_99 (fun r25 w24 y23 => ?_)
              show V x 0 0 w24 102 [(0, .ref (gz (xG x) + 55)), (1, .ref (gz (xG x) + 62)), (2, .int a2), (3, .int u1), (4, .int u2)] [.int r25]
              obtain ⟨h26, o27⟩ := y23
              have h28 := Ch.tr h21 h26 (by decide) (by decide)
              refine r_iconst (v := 2) C dX8_outlook_102 (by decide) ?_
              refine r_icmp_ne 108 C dX8_outlook_103 (by decide) (fun c29 => ?_) (fun c29 => ?_)
              · have c29' := i_ne c29
                obtain ⟨i30, e31⟩ : ∃ z : Int32, u2 + Int32.ofInt 1 = z := ⟨_, rfl⟩
                have i30' := iinc_ok e31 (by decide) (by omega) (by omega)
                refine r_iinc [(4, .int i30), (0, .ref (gz (xG x) + 55)), (1, .ref (gz (xG x) + 62)), (2, .int a2), (3, .int u1)] 4 C dX8_outlook_108 rfl e31 (by decide) rfl ?_
                refine r_goto 5 C dX8_outlook_111 (by decide) ?_
                refine r_lv [1, 2, 3, 4, 0] rfl ?_
                exact ih10 u1 i30 w24 h28 o27 (by omega) (by omega)
              · have c29' := i_eq c29
                refine r_iconst (v := 0) C dX8_outlook_106 (by decide) ?_
                refine r_istore_n [(3, .int 0), (0, .ref (gz (xG x) + 55)), (1, .ref (gz (xG x) + 62)), (2, .int a2), (4, .int u2)] C dX8_outlook_107 (by decide) rfl ?_
                obtain ⟨i32, e33⟩ : ∃ z : Int32, u2 + Int32.ofInt 1 = z := ⟨_, rfl⟩
                have i32' := iinc_ok e33 (by decide) (by omega) (by omega)
                refine r_iinc [(4, .int i32), (3, .int 0), (0, .ref (gz (xG x) + 55)), (1, .ref (gz (xG x) + 62)), (2, .int a2)] 4 C dX8_outlook_108 rfl e33 (by decide) rfl ?_
                refine r_goto 5 C dX8_outlook_111 (by decide) ?_
                refine r_lv [2, 3, 4, 1, 0] rfl ?_
                exact ih10 0 i32 w24 h28 o27 (by omega) (by omega)
            · have c22' := i_ne c22
              refine r_aload_n 0 C dX8_outlook_76 rfl ?_
              refine r_aload_n 1 C dX8_outlook_77 rfl ?_
              refine r_iload 4 C dX8_outlook_78 rfl ?_
              refine r_iload_n 2 C dX8_outlook_80 rfl ?_
              refine callVI C cwX8_124_V (ctX8_canLeave_55_62 _ _ w17 (sS sC h21) o20 u2 a2 (by omega)) (by decide) (kS sC h21 kc_55) rfl rfl rfl (Nat.le_of_ble_eq_true rfl) (by decide) dX8_outlook_81 (fun r36 w35 y34 => ?_)
              show V x 0 0 w35 84 [(0, .ref (gz (xG x) + 55)), (1, .ref (gz (xG x) + 62)), (2, .int a2), (3, .int u1), (4, .int u2)] [.int r36]
              obtain ⟨h37, o38⟩ := y34
              have h39 := Ch.tr h21 h37 (by decide) (by decide)
              refine r_if_eq 91 C dX8_outlook_84 (by decide) (fun c40 => ?_) (fun c40 => ?_)
              · have c40' := i_eq c40
                refine r_iconst (v := 0) C dX8_outlook_91 (by decide) ?_
                refine r_istore_n [(3, .int 0), (0, .ref (gz (xG x) + 55)), (1, .ref (gz (xG x) + 62)), (2, .int a2), (4, .int u2)] C dX8_outlook_92 (by decide) rfl ?_
                refine r_goto 108 C dX8_outlook_93 (by decide) ?_
                obtain ⟨i41, e42⟩ : ∃ z : Int32, u2 + Int32.ofInt 1 = z := ⟨_, rfl⟩
                have i41' := iinc_ok e42 (by decide) (by omega) (by omega)
                refine r_iinc [(4, .int i41), (3, .int 0), (0, .ref (gz (xG x) + 55)), (1, .ref (gz (xG x) + 62)), (2, .int a2)] 4 C dX8_outlook_108 rfl e42 (by decide) rfl ?_
                refine r_goto 5 C dX8_outlook_111 (by decide) ?_
                refine r_lv [2, 3, 4, 1, 0] rfl ?_
                exact ih10 0 i41 w35 h39 o38 (by omega) (by omega)
              · have c40' := i_ne c40
                refine r_iconst (v := 1) C dX8_outlook_87 (by decide) ?_
                refine r_goto 92 C dX8_outlook_88 (by decide) ?_
                refine r_istore_n [(3, .int 1), (0, .ref (gz (xG x) + 55)), (1, .ref (gz (xG x) + 62)), (2, .int a2), (4, .int u2)] C dX8_outlook_92 (by decide) rfl ?_
                refine r_goto 108 C dX8_outlook_93 (by decide) ?_
                obtain ⟨i43, e44⟩ : ∃ z : Int32, u2 + Int32.ofInt 1 = z := ⟨_, rfl⟩
                have i43' := iinc_ok e44 (by decide) (by omega) (by omega)
                refine r_iinc [(4, .int i43), (3, .int 1), (0, .ref (gz (xG x) + 55)), (1, .ref (gz (xG x) + 62)), (2, .int a2)] 4 C dX8_outlook_108 rfl e44 (by decide) rfl ?_
                refine r_goto 5 C dX8_outlook_111 (by decide) ?_
                refine r_lv [2, 3, 4, 1, 0] rfl ?_
                exact ih10 1 i43 w35 h39 o38 (by omega) (by omega)
          · have c15' := i_ne c15
            refine r_aload_n 1 C dX8_outlook_38 rfl ?_
            refine r_iload 4 C dX8_outlook_39 rfl ?_
            refine callVI C cwX8_118_V (ctX6_fate_62 _ _ w5 (sS sC h6) o7 u2 ) (by decide) (kS sC h6 kc_62) rfl rfl rfl (Nat.le_of_ble_eq_true rfl) (by decide) dX8_outlook_41 (fun r47 w46 y45 => ?_)
            show V x 0 0 w46 44 [(0, .ref (gz (xG x) + 55)), (1, .ref (gz (xG x) + 62)), (2, .int a2), (3, .int u1), (4, .int u2)] [.int r47]
            obtain ⟨h48, o49⟩ := y45
            have h50 := Ch.tr h6 h48 (by decide) (by decide)
            refine r_aload_n 0 C dX8_outlook_44 rfl ?_
            refine gfX8_11 56 C (kS sC h50 kc_55) (xS sC h50 xc_55_3) dX8_outlook_45 ?_
            refine r_iconst (v := 0) C dX8_outlook_48 (by decide) ?_
            refine r_aald 3 rfl C (kS sC h50 kc_56) (vin (by omega) (by omega)) (xS sC h50 xc_56_0) dX8_outlook_49 ?_
            refine r_iload 4 C dX8_outlook_50 rfl ?_
            refine callVI C cwX8_118_V (ctX6_fate_59 _ _ w46 (sS sC h50) o49 u2 ) (by decide) (kS sC h50 kc_59) rfl rfl rfl (Nat.le_of_ble_eq_true rfl) (by decide) dX8_outlook_52 (fun r53 w52 y51 => ?_)
            show V x 0 0 w52 55 [(0, .ref (gz (xG x) + 55)), (1, .ref (gz (xG x) + 62)), (2, .int a2), (3, .int u1), (4, .int u2)] [.int r53, .int r47]
            obtain ⟨h54, o55⟩ := y51
            have h56 := Ch.tr h50 h54 (by decide) (by decide)
            refine r_icmp_ne 62 C dX8_outlook_55 (by decide) (fun c57 => ?_) (fun c57 => ?_)
            · have c57' := i_ne c57
              refine r_iconst (v := 0) C dX8_outlook_62 (by decide) ?_
              refine r_istore_n [(3, .int 0), (0, .ref (gz (xG x) + 55)), (1, .ref (gz (xG x) + 62)), (2, .int a2), (4, .int u2)] C dX8_outlook_63 (by decide) rfl ?_
              refine r_goto 108 C dX8_outlook_64 (by decide) ?_
              obtain ⟨i58, e59⟩ : ∃ z : Int32, u2 + Int32.ofInt 1 = z := ⟨_, rfl⟩
              have i58' := iinc_ok e59 (by decide) (by omega) (by omega)
              refine r_iinc [(4, .int i58), (3, .int 0), (0, .ref (gz (xG x) + 55)), (1, .ref (gz (xG x) + 62)), (2, .int a2)] 4 C dX8_outlook_108 rfl e59 (by decide) rfl ?_
              refine r_goto 5 C dX8_outlook_111 (by decide) ?_
              refine r_lv [2, 3, 4, 1, 0] rfl ?_
              exact ih10 0 i58 w52 h56 o55 (by omega) (by omega)
            · have c57' := i_eq c57
              refine r_iload_n 3 C dX8_outlook_58 rfl ?_
              refine r_goto 63 C dX8_outlook_59 (by decide) ?_
              refine r_istore_n [(3, .int u1), (0, .ref (gz (xG x) + 55)), (1, .ref (gz (xG x) + 62)), (2, .int a2), (4, .int u2)] C dX8_outlook_63 (by decide) rfl ?_
              refine r_goto 108 C dX8_outlook_64 (by decide) ?_
              obtain ⟨i60, e61⟩ : ∃ z : Int32, u2 + Int32.ofInt 1 = z := ⟨_, rfl⟩
              have i60' := iinc_ok e61 (by decide) (by omega) (by omega)
              refine r_iinc [(4, .int i60), (3, .int u1), (0, .ref (gz (xG x) + 55)), (1, .ref (gz (xG x) + 62)), (2, .int a2)] 4 C dX8_outlook_108 rfl e61 (by decide) rfl ?_
              refine r_goto 5 C dX8_outlook_111 (by decide) ?_
              refine r_lv [2, 3, 4, 1, 0] rfl ?_
              exact ih10 u1 i60 w52 h56 o55 (by omega) (by omega)
  refine r_iconst (v := 2) C dX8_outlook_0 (by decide) ?_
  refine r_istore_n [(3, .int 2), (0, .ref (gz (xG x) + 55)), (1, .ref (gz (xG x) + 62)), (2, .int a2)] C dX8_outlook_1 (by decide) rfl ?_
  refine r_iconst (v := 0) C dX8_outlook_2 (by decide) ?_
  refine r_istore [(4, .int 0), (3, .int 2), (0, .ref (gz (xG x) + 55)), (1, .ref (gz (xG x) + 62)), (2, .int a2)] C dX8_outlook_3 (by decide) rfl ?_
  refine r_lv [2, 3, 4, 1, 0] rfl ?_
  exact LP3 4294967296 2 0 w h0 o0 (by omega) (by omega)
set_option maxHeartbeats 4000000 in
set_option maxRecDepth 100000 in
theorem ctX8_outlook_55_65 (l : Launch) (G : Gt) (w : Wv) (sC : Str KC XC w) (o0 : Inv RC w) (a2 : Int32) : CtI l G yX8_outlook cX8_outlook 5 .int ({ frames := 2, cells := 0, slots := 0, locals := 49 } : Room) [.ref (gz G + 55), .ref (gz G + 65), .int a2] w (fun r w' => Ch [] [] w w' ∧ Inv RC w') := by
  refine enterI (by decide) (Nat.le_of_ble_eq_true rfl) ?_
  intro x el eG C hret
  subst el; subst eG
  show V x 0 0 w 0 [(0, .ref (gz (xG x) + 55)), (1, .ref (gz (xG x) + 65)), (2, .int a2)] []
  have h0 : Ch [] [] w w := Ch.rf
  have q0 : (0 : Int32).toInt = 0 := by decide
  have q1 : (1 : Int32).toInt = 1 := by decide
  have q2 : (2 : Int32).toInt = 2 := by decide
  have LP3 : ∀ (f4 : Nat) (u1 : Int32) (u2 : Int32) (w5 : Wv), Ch [] [] w w5 → Inv RC w5 → (0 ≤ u2.toInt ∧ u2.toInt ≤ 2147483647) → 2147483647 - u2.toInt < f4 → V x 0 0 w5 5 [(0, .ref (gz (xG x) + 55)), (1, .ref (gz (xG x) + 65)), (2, .int a2), (3, .int u1), (4, .int u2)] [] := by
    intro f4
    induction f4 with
    | zero => intro u1 u2 w5 h6 o7 z8 z9; exfalso; omega
    | succ f4 ih10 =>
      intro u1 u2 w5 h6 o7 z8 z9
      refine r_iload 4 C dX8_outlook_5 rfl ?_
      refine r_aload_n 0 C dX8_outlook_7 rfl ?_
      refine gfX8_24 3 C (kS sC h6 kc_55) (xS sC h6 xc_55_1) dX8_outlook_8 ?_
      refine gfX8_111 (v := (wI w 3 3)) C (kS sC h6 kc_3) (h6.I (by decide) (by decide) rfl) dX8_outlook_11 ?_
      have b11 := Inv.get o0 rt_3_3 (j := 3) (by decide) (by decide)
      refine r_icmp_ge 114 C dX8_outlook_14 (by decide) (fun c12 => ?_) (fun c12 => ?_)
      · have c12' := i_le c12
        refine r_iload_n 3 C dX8_outlook_114 rfl ?_
        exact hret _ _ _ _ dX8_outlook_115 rfl ⟨h6, o7⟩
      · have c12' := i_nle c12
        refine r_iload_n 3 C dX8_outlook_17 rfl ?_
        refine r_if_eq 114 C dX8_outlook_18 (by decide) (fun c13 => ?_) (fun c13 => ?_)
        · have c13' := i_eq c13
          refine r_iload_n 3 C dX8_outlook_114 rfl ?_
          exact hret _ _ _ _ dX8_outlook_115 rfl ⟨h6, o7⟩
        · have c13' := i_ne c13
          refine r_aload_n 0 C dX8_outlook_21 rfl ?_
          refine gfX8_24 3 C (kS sC h6 kc_55) (xS sC h6 xc_55_1) dX8_outlook_22 ?_
          refine gfX8_116 5 C (kS sC h6 kc_3) (xS sC h6 xc_3_10) dX8_outlook_25 ?_
          refine r_iload 4 C dX8_outlook_28 rfl ?_
          refine r_iald C (kS sC h6 kc_5) (vin (by omega) (by omega)) dX8_outlook_30 ?_
          generalize (wI w5 5 (u2).toNatClampNeg) = v14
          refine r_aload_n 0 C dX8_outlook_31 rfl ?_
          refine gfX8_47 (v := (wI w 55 8)) C (kS sC h6 kc_55) (h6.I (by decide) (by decide) rfl) dX8_outlook_32 ?_
          refine r_icmp_eq 67 C dX8_outlook_35 (by decide) (fun c15 => ?_) (fun c15 => ?_)
          · have c15' := i_eq c15
            refine r_aload_n 1 C dX8_outlook_67 rfl ?_
            refine r_iload 4 C dX8_outlook_68 rfl ?_
            refine callVI C cwX8_121_V (ctX6_isHere_65 _ _ w5 (sS sC h6) o7 u2 ) (by decide) (kS sC h6 kc_65) rfl rfl rfl (Nat.le_of_ble_eq_true rfl) (by decide) dX8_outlook_70 (fun r18 w17 y16 => ?_)
            show V x 0 0 w17 73 [(0, .ref (gz (xG x) + 55)), (1, .ref (gz (xG x) + 65)), (2, .int a2), (3, .int u1), (4, .int u2)] [.int r18]
            obtain ⟨h19, o20⟩ := y16
            have h21 := Ch.tr h6 h19 (by decide) (by decide)
            refine r_if_eq 96 C dX8_outlook_73 (by decide) (fun c22 => ?_) (fun c22 => ?_)
            · have c22' := i_eq c22
              refine r_aload_n 1 C dX8_outlook_96 rfl ?_
              refine r_iload 4 C dX8_outlook_97 rfl ?_
              refine callVI C cwX8_118_V (ctX6_fate_65 _ _ w17 (sS sC h21) o20 u2 ) (by decide) (kS sC h21 kc_65) rfl rfl rfl (Nat.le_of_ble_eq_true rfl) (by decide) dX8_outlook_99 (fun r25 w24 y23 => ?_)
              show V x 0 0 w24 102 [(0, .ref (gz (xG x) + 55)), (1, .ref (gz (xG x) + 65)), (2, .int a2), (3, .int u1), (4, .int u2)] [.int r25]
              obtain ⟨h26, o27⟩ := y23
              have h28 := Ch.tr h21 h26 (by decide) (by decide)
              refine r_iconst (v := 2) C dX8_outlook_102 (by decide) ?_
              refine r_icmp_ne 108 C dX8_outlook_103 (by decide) (fun c29 => ?_) (fun c29 => ?_)
              · have c29' := i_ne c29
                obtain ⟨i30, e31⟩ : ∃ z : Int32, u2 + Int32.ofInt 1 = z := ⟨_, rfl⟩
                have i30' := iinc_ok e31 (by decide) (by omega) (by omega)
                refine r_iinc [(4, .int i30), (0, .ref (gz (xG x) + 55)), (1, .ref (gz (xG x) + 65)), (2, .int a2), (3, .int u1)] 4 C dX8_outlook_108 rfl e31 (by decide) rfl ?_
                refine r_goto 5 C dX8_outlook_111 (by decide) ?_
                refine r_lv [1, 2, 3, 4, 0] rfl ?_
                exact ih10 u1 i30 w24 h28 o27 (by omega) (by omega)
              · have c29' := i_eq c29
                refine r_iconst (v := 0) C dX8_outlook_106 (by decide) ?_
                refine r_istore_n [(3, .int 0), (0, .ref (gz (xG x) + 55)), (1, .ref (gz (xG x) + 65)), (2, .int a2), (4, .int u2)] C dX8_outlook_107 (by decide) rfl ?_
                obtain ⟨i32, e33⟩ : ∃ z : Int32, u2 + Int32.ofInt 1 = z := ⟨_, rfl⟩
                have i32' := iinc_ok e33 (by decide) (by omega) (by omega)
                refine r_iinc [(4, .int i32), (3, .int 0), (0, .ref (gz (xG x) + 55)), (1, .ref (gz (xG x) + 65)), (2, .int a2)] 4 C dX8_outlook_108 rfl e33 (by decide) rfl ?_
                refine r_goto 5 C dX8_outlook_111 (by decide) ?_
                refine r_lv [2, 3, 4, 1, 0] rfl ?_
                exact ih10 0 i32 w24 h28 o27 (by omega) (by omega)
            · have c22' := i_ne c22
              refine r_aload_n 0 C dX8_outlook_76 rfl ?_
              refine r_aload_n 1 C dX8_outlook_77 rfl ?_
              refine r_iload 4 C dX8_outlook_78 rfl ?_
              refine r_iload_n 2 C dX8_outlook_80 rfl ?_
              refine callVI C cwX8_124_V (ctX8_canLeave_55_65 _ _ w17 (sS sC h21) o20 u2 a2 (by omega)) (by decide) (kS sC h21 kc_55) rfl rfl rfl (Nat.le_of_ble_eq_true rfl) (by decide) dX8_outlook_81 (fun r36 w35 y34 => ?_)
              show V x 0 0 w35 84 [(0, .ref (gz (xG x) + 55)), (1, .ref (gz (xG x) + 65)), (2, .int a2), (3, .int u1), (4, .int u2)] [.int r36]
              obtain ⟨h37, o38⟩ := y34
              have h39 := Ch.tr h21 h37 (by decide) (by decide)
              refine r_if_eq 91 C dX8_outlook_84 (by decide) (fun c40 => ?_) (fun c40 => ?_)
              · have c40' := i_eq c40
                refine r_iconst (v := 0) C dX8_outlook_91 (by decide) ?_
                refine r_istore_n [(3, .int 0), (0, .ref (gz (xG x) + 55)), (1, .ref (gz (xG x) + 65)), (2, .int a2), (4, .int u2)] C dX8_outlook_92 (by decide) rfl ?_
                refine r_goto 108 C dX8_outlook_93 (by decide) ?_
                obtain ⟨i41, e42⟩ : ∃ z : Int32, u2 + Int32.ofInt 1 = z := ⟨_, rfl⟩
                have i41' := iinc_ok e42 (by decide) (by omega) (by omega)
                refine r_iinc [(4, .int i41), (3, .int 0), (0, .ref (gz (xG x) + 55)), (1, .ref (gz (xG x) + 65)), (2, .int a2)] 4 C dX8_outlook_108 rfl e42 (by decide) rfl ?_
                refine r_goto 5 C dX8_outlook_111 (by decide) ?_
                refine r_lv [2, 3, 4, 1, 0] rfl ?_
                exact ih10 0 i41 w35 h39 o38 (by omega) (by omega)
              · have c40' := i_ne c40
                refine r_iconst (v := 1) C dX8_outlook_87 (by decide) ?_
                refine r_goto 92 C dX8_outlook_88 (by decide) ?_
                refine r_istore_n [(3, .int 1), (0, .ref (gz (xG x) + 55)), (1, .ref (gz (xG x) + 65)), (2, .int a2), (4, .int u2)] C dX8_outlook_92 (by decide) rfl ?_
                refine r_goto 108 C dX8_outlook_93 (by decide) ?_
                obtain ⟨i43, e44⟩ : ∃ z : Int32, u2 + Int32.ofInt 1 = z := ⟨_, rfl⟩
                have i43' := iinc_ok e44 (by decide) (by omega) (by omega)
                refine r_iinc [(4, .int i43), (3, .int 1), (0, .ref (gz (xG x) + 55)), (1, .ref (gz (xG x) + 65)), (2, .int a2)] 4 C dX8_outlook_108 rfl e44 (by decide) rfl ?_
                refine r_goto 5 C dX8_outlook_111 (by decide) ?_
                refine r_lv [2, 3, 4, 1, 0] rfl ?_
                exact ih10 1 i43 w35 h39 o38 (by omega) (by omega)
          · have c15' := i_ne c15
            refine r_aload_n 1 C dX8_outlook_38 rfl ?_
            refine r_iload 4 C dX8_outlook_39 rfl ?_
            refine callVI C cwX8_118_V (ctX6_fate_65 _ _ w5 (sS sC h6) o7 u2 ) (by decide) (kS sC h6 kc_65) rfl rfl rfl (Nat.le_of_ble_eq_true rfl) (by decide) dX8_outlook_41 (fun r47 w46 y45 => ?_)
            show V x 0 0 w46 44 [(0, .ref (gz (xG x) + 55)), (1, .ref (gz (xG x) + 65)), (2, .int a2), (3, .int u1), (4, .int u2)] [.int r47]
            obtain ⟨h48, o49⟩ := y45
            have h50 := Ch.tr h6 h48 (by decide) (by decide)
            refine r_aload_n 0 C dX8_outlook_44 rfl ?_
            refine gfX8_11 56 C (kS sC h50 kc_55) (xS sC h50 xc_55_3) dX8_outlook_45 ?_
            refine r_iconst (v := 0) C dX8_outlook_48 (by decide) ?_
            refine r_aald 3 rfl C (kS sC h50 kc_56) (vin (by omega) (by omega)) (xS sC h50 xc_56_0) dX8_outlook_49 ?_
            refine r_iload 4 C dX8_outlook_50 rfl ?_
            refine callVI C cwX8_118_V (ctX6_fate_59 _ _ w46 (sS sC h50) o49 u2 ) (by decide) (kS sC h50 kc_59) rfl rfl rfl (Nat.le_of_ble_eq_true rfl) (by decide) dX8_outlook_52 (fun r53 w52 y51 => ?_)
            show V x 0 0 w52 55 [(0, .ref (gz (xG x) + 55)), (1, .ref (gz (xG x) + 65)), (2, .int a2), (3, .int u1), (4, .int u2)] [.int r53, .int r47]
            obtain ⟨h54, o55⟩ := y51
            have h56 := Ch.tr h50 h54 (by decide) (by decide)
            refine r_icmp_ne 62 C dX8_outlook_55 (by decide) (fun c57 => ?_) (fun c57 => ?_)
            · have c57' := i_ne c57
              refine r_iconst (v := 0) C dX8_outlook_62 (by decide) ?_
              refine r_istore_n [(3, .int 0), (0, .ref (gz (xG x) + 55)), (1, .ref (gz (xG x) + 65)), (2, .int a2), (4, .int u2)] C dX8_outlook_63 (by decide) rfl ?_
              refine r_goto 108 C dX8_outlook_64 (by decide) ?_
              obtain ⟨i58, e59⟩ : ∃ z : Int32, u2 + Int32.ofInt 1 = z := ⟨_, rfl⟩
              have i58' := iinc_ok e59 (by decide) (by omega) (by omega)
              refine r_iinc [(4, .int i58), (3, .int 0), (0, .ref (gz (xG x) + 55)), (1, .ref (gz (xG x) + 65)), (2, .int a2)] 4 C dX8_outlook_108 rfl e59 (by decide) rfl ?_
              refine r_goto 5 C dX8_outlook_111 (by decide) ?_
              refine r_lv [2, 3, 4, 1, 0] rfl ?_
              exact ih10 0 i58 w52 h56 o55 (by omega) (by omega)
            · have c57' := i_eq c57
              refine r_iload_n 3 C dX8_outlook_58 rfl ?_
              refine r_goto 63 C dX8_outlook_59 (by decide) ?_
              refine r_istore_n [(3, .int u1), (0, .ref (gz (xG x) + 55)), (1, .ref (gz (xG x) + 65)), (2, .int a2), (4, .int u2)] C dX8_outlook_63 (by decide) rfl ?_
              refine r_goto 108 C dX8_outlook_64 (by decide) ?_
              obtain ⟨i60, e61⟩ : ∃ z : Int32, u2 + Int32.ofInt 1 = z := ⟨_, rfl⟩
              have i60' := iinc_ok e61 (by decide) (by omega) (by omega)
              refine r_iinc [(4, .int i60), (3, .int u1), (0, .ref (gz (xG x) + 55)), (1, .ref (gz (xG x) + 65)), (2, .int a2)] 4 C dX8_outlook_108 rfl e61 (by decide) rfl ?_
              refine r_goto 5 C dX8_outlook_111 (by decide) ?_
              refine r_lv [2, 3, 4, 1, 0] rfl ?_
              exact ih10 u1 i60 w52 h56 o55 (by omega) (by omega)
  refine r_iconst (v := 2) C dX8_outlook_0 (by decide) ?_
  refine r_istore_n [(3, .int 2), (0, .ref (gz (xG x) + 55)), (1, .ref (gz (xG x) + 65)), (2, .int a2)] C dX8_outlook_1 (by decide) rfl ?_
  refine r_iconst (v := 0) C dX8_outlook_2 (by decide) ?_
  refine r_istore [(4, .int 0), (3, .int 2), (0, .ref (gz (xG x) + 55)), (1, .ref (gz (xG x) + 65)), (2, .int a2)] C dX8_outlook_3 (by decide) rfl ?_
  refine r_lv [2, 3, 4, 1, 0] rfl ?_
  exact LP3 4294967296 2 0 w h0 o0 (by omega) (by omega)
set_option maxHeartbeats 4000000 in
set_option maxRecDepth 100000 in
theorem ctX8_outlook_55_68 (l : Launch) (G : Gt) (w : Wv) (sC : Str KC XC w) (o0 : Inv RC w) (a2 : Int32) : CtI l G yX8_outlook cX8_outlook 5 .int ({ frames := 2, cells := 0, slots := 0, locals := 49 } : Room) [.ref (gz G + 55), .ref (gz G + 68), .int a2] w (fun r w' => Ch [] [] w w' ∧ Inv RC w') := by
  refine enterI (by decide) (Nat.le_of_ble_eq_true rfl) ?_
  intro x el eG C hret
  subst el; subst eG
  show V x 0 0 w 0 [(0, .ref (gz (xG x) + 55)), (1, .ref (gz (xG x) + 68)), (2, .int a2)] []
  have h0 : Ch [] [] w w := Ch.rf
  have q0 : (0 : Int32).toInt = 0 := by decide
  have q1 : (1 : Int32).toInt = 1 := by decide
  have q2 : (2 : Int32).toInt = 2 := by decide
  have LP3 : ∀ (f4 : Nat) (u1 : Int32) (u2 : Int32) (w5 : Wv), Ch [] [] w w5 → Inv RC w5 → (0 ≤ u2.toInt ∧ u2.toInt ≤ 2147483647) → 2147483647 - u2.toInt < f4 → V x 0 0 w5 5 [(0, .ref (gz (xG x) + 55)), (1, .ref (gz (xG x) + 68)), (2, .int a2), (3, .int u1), (4, .int u2)] [] := by
    intro f4
    induction f4 with
    | zero => intro u1 u2 w5 h6 o7 z8 z9; exfalso; omega
    | succ f4 ih10 =>
      intro u1 u2 w5 h6 o7 z8 z9
      refine r_iload 4 C dX8_outlook_5 rfl ?_
      refine r_aload_n 0 C dX8_outlook_7 rfl ?_
      refine gfX8_24 3 C (kS sC h6 kc_55) (xS sC h6 xc_55_1) dX8_outlook_8 ?_
      refine gfX8_111 (v := (wI w 3 3)) C (kS sC h6 kc_3) (h6.I (by decide) (by decide) rfl) dX8_outlook_11 ?_
      have b11 := Inv.get o0 rt_3_3 (j := 3) (by decide) (by decide)
      refine r_icmp_ge 114 C dX8_outlook_14 (by decide) (fun c12 => ?_) (fun c12 => ?_)
      · have c12' := i_le c12
        refine r_iload_n 3 C dX8_outlook_114 rfl ?_
        exact hret _ _ _ _ dX8_outlook_115 rfl ⟨h6, o7⟩
      · have c12' := i_nle c12
        refine r_iload_n 3 C dX8_outlook_17 rfl ?_
        refine r_if_eq 114 C dX8_outlook_18 (by decide) (fun c13 => ?_) (fun c13 => ?_)
        · have c13' := i_eq c13
          refine r_iload_n 3 C dX8_outlook_114 rfl ?_
          exact hret _ _ _ _ dX8_outlook_115 rfl ⟨h6, o7⟩
        · have c13' := i_ne c13
          refine r_aload_n 0 C dX8_outlook_21 rfl ?_
          refine gfX8_24 3 C (kS sC h6 kc_55) (xS sC h6 xc_55_1) dX8_outlook_22 ?_
          refine gfX8_116 5 C (kS sC h6 kc_3) (xS sC h6 xc_3_10) dX8_outlook_25 ?_
          refine r_iload 4 C dX8_outlook_28 rfl ?_
          refine r_iald C (kS sC h6 kc_5) (vin (by omega) (by omega)) dX8_outlook_30 ?_
          generalize (wI w5 5 (u2).toNatClampNeg) = v14
          refine r_aload_n 0 C dX8_outlook_31 rfl ?_
          refine gfX8_47 (v := (wI w 55 8)) C (kS sC h6 kc_55) (h6.I (by decide) (by decide) rfl) dX8_outlook_32 ?_
          refine r_icmp_eq 67 C dX8_outlook_35 (by decide) (fun c15 => ?_) (fun c15 => ?_)
          · have c15' := i_eq c15
            refine r_aload_n 1 C dX8_outlook_67 rfl ?_
            refine r_iload 4 C dX8_outlook_68 rfl ?_
            refine callVI C cwX8_121_V (ctX6_isHere_68 _ _ w5 (sS sC h6) o7 u2 ) (by decide) (kS sC h6 kc_68) rfl rfl rfl (Nat.le_of_ble_eq_true rfl) (by decide) dX8_outlook_70 (fun r18 w17 y16 => ?_)
            show V x 0 0 w17 73 [(0, .ref (gz (xG x) + 55)), (1, .ref (gz (xG x) + 68)), (2, .int a2), (3, .int u1), (4, .int u2)] [.int r18]
            obtain ⟨h19, o20⟩ := y16
            have h21 := Ch.tr h6 h19 (by decide) (by decide)
            refine r_if_eq 96 C dX8_outlook_73 (by decide) (fun c22 => ?_) (fun c22 => ?_)
            · have c22' := i_eq c22
              refine r_aload_n 1 C dX8_outlook_96 rfl ?_
              refine r_iload 4 C dX8_outlook_97 rfl ?_
              refine callVI C cwX8_118_V (ctX6_fate_68 _ _ w17 (sS sC h21) o20 u2 ) (by decide) (kS sC h21 kc_68) rfl rfl rfl (Nat.le_of_ble_eq_true rfl) (by decide) dX8_outlook_99 (fun r25 w24 y23 => ?_)
              show V x 0 0 w24 102 [(0, .ref (gz (xG x) + 55)), (1, .ref (gz (xG x) + 68)), (2, .int a2), (3, .int u1), (4, .int u2)] [.int r25]
              obtain ⟨h26, o27⟩ := y23
              have h28 := Ch.tr h21 h26 (by decide) (by decide)
              refine r_iconst (v := 2) C dX8_outlook_102 (by decide) ?_
              refine r_icmp_ne 108 C dX8_outlook_103 (by decide) (fun c29 => ?_) (fun c29 => ?_)
              · have c29' := i_ne c29
                obtain ⟨i30, e31⟩ : ∃ z : Int32, u2 + Int32.ofInt 1 = z := ⟨_, rfl⟩
                have i30' := iinc_ok e31 (by decide) (by omega) (by omega)
                refine r_iinc [(4, .int i30), (0, .ref (gz (xG x) + 55)), (1, .ref (gz (xG x) + 68)), (2, .int a2), (3, .int u1)] 4 C dX8_outlook_108 rfl e31 (by decide) rfl ?_
                refine r_goto 5 C dX8_outlook_111 (by decide) ?_
                refine r_lv [1, 2, 3, 4, 0] rfl ?_
                exact ih10 u1 i30 w24 h28 o27 (by omega) (by omega)
              · have c29' := i_eq c29
                refine r_iconst (v := 0) C dX8_outlook_106 (by decide) ?_
                refine r_istore_n [(3, .int 0), (0, .ref (gz (xG x) + 55)), (1, .ref (gz (xG x) + 68)), (2, .int a2), (4, .int u2)] C dX8_outlook_107 (by decide) rfl ?_
                obtain ⟨i32, e33⟩ : ∃ z : Int32, u2 + Int32.ofInt 1 = z := ⟨_, rfl⟩
                have i32' := iinc_ok e33 (by decide) (by omega) (by omega)
                refine r_iinc [(4, .int i32), (3, .int 0), (0, .ref (gz (xG x) + 55)), (1, .ref (gz (xG x) + 68)), (2, .int a2)] 4 C dX8_outlook_108 rfl e33 (by decide) rfl ?_
                refine r_goto 5 C dX8_outlook_111 (by decide) ?_
                refine r_lv [2, 3, 4, 1, 0] rfl ?_
                exact ih10 0 i32 w24 h28 o27 (by omega) (by omega)
            · have c22' := i_ne c22
              refine r_aload_n 0 C dX8_outlook_76 rfl ?_
              refine r_aload_n 1 C dX8_outlook_77 rfl ?_
              refine r_iload 4 C dX8_outlook_78 rfl ?_
              refine r_iload_n 2 C dX8_outlook_80 rfl ?_
              refine callVI C cwX8_124_V (ctX8_canLeave_55_68 _ _ w17 (sS sC h21) o20 u2 a2 (by omega)) (by decide) (kS sC h21 kc_55) rfl rfl rfl (Nat.le_of_ble_eq_true rfl) (by decide) dX8_outlook_81 (fun r36 w35 y34 => ?_)
              show V x 0 0 w35 84 [(0, .ref (gz (xG x) + 55)), (1, .ref (gz (xG x) + 68)), (2, .int a2), (3, .int u1), (4, .int u2)] [.int r36]
              obtain ⟨h37, o38⟩ := y34
              have h39 := Ch.tr h21 h37 (by decide) (by decide)
              refine r_if_eq 91 C dX8_outlook_84 (by decide) (fun c40 => ?_) (fun c40 => ?_)
              · have c40' := i_eq c40
                refine r_iconst (v := 0) C dX8_outlook_91 (by decide) ?_
                refine r_istore_n [(3, .int 0), (0, .ref (gz (xG x) + 55)), (1, .ref (gz (xG x) + 68)), (2, .int a2), (4, .int u2)] C dX8_outlook_92 (by decide) rfl ?_
                refine r_goto 108 C dX8_outlook_93 (by decide) ?_
                obtain ⟨i41, e42⟩ : ∃ z : Int32, u2 + Int32.ofInt 1 = z := ⟨_, rfl⟩
                have i41' := iinc_ok e42 (by decide) (by omega) (by omega)
                refine r_iinc [(4, .int i41), (3, .int 0), (0, .ref (gz (xG x) + 55)), (1, .ref (gz (xG x) + 68)), (2, .int a2)] 4 C dX8_outlook_108 rfl e42 (by decide) rfl ?_
                refine r_goto 5 C dX8_outlook_111 (by decide) ?_
                refine r_lv [2, 3, 4, 1, 0] rfl ?_
                exact ih10 0 i41 w35 h39 o38 (by omega) (by omega)
              · have c40' := i_ne c40
                refine r_iconst (v := 1) C dX8_outlook_87 (by decide) ?_
                refine r_goto 92 C dX8_outlook_88 (by decide) ?_
                refine r_istore_n [(3, .int 1), (0, .ref (gz (xG x) + 55)), (1, .ref (gz (xG x) + 68)), (2, .int a2), (4, .int u2)] C dX8_outlook_92 (by decide) rfl ?_
                refine r_goto 108 C dX8_outlook_93 (by decide) ?_
                obtain ⟨i43, e44⟩ : ∃ z : Int32, u2 + Int32.ofInt 1 = z := ⟨_, rfl⟩
                have i43' := iinc_ok e44 (by decide) (by omega) (by omega)
                refine r_iinc [(4, .int i43), (3, .int 1), (0, .ref (gz (xG x) + 55)), (1, .ref (gz (xG x) + 68)), (2, .int a2)] 4 C dX8_outlook_108 rfl e44 (by decide) rfl ?_
                refine r_goto 5 C dX8_outlook_111 (by decide) ?_
                refine r_lv [2, 3, 4, 1, 0] rfl ?_
                exact ih10 1 i43 w35 h39 o38 (by omega) (by omega)
          · have c15' := i_ne c15
            refine r_aload_n 1 C dX8_outlook_38 rfl ?_
            refine r_iload 4 C dX8_outlook_39 rfl ?_
            refine callVI C cwX8_118_V (ctX6_fate_68 _ _ w5 (sS sC h6) o7 u2 ) (by decide) (kS sC h6 kc_68) rfl rfl rfl (Nat.le_of_ble_eq_true rfl) (by decide) dX8_outlook_41 (fun r47 w46 y45 => ?_)
            show V x 0 0 w46 44 [(0, .ref (gz (xG x) + 55)), (1, .ref (gz (xG x) + 68)), (2, .int a2), (3, .int u1), (4, .int u2)] [.int r47]
            obtain ⟨h48, o49⟩ := y45
            have h50 := Ch.tr h6 h48 (by decide) (by decide)
            refine r_aload_n 0 C dX8_outlook_44 rfl ?_
            refine gfX8_11 56 C (kS sC h50 kc_55) (xS sC h50 xc_55_3) dX8_outlook_45 ?_
            refine r_iconst (v := 0) C dX8_outlook_48 (by decide) ?_
            refine r_aald 3 rfl C (kS sC h50 kc_56) (vin (by omega) (by omega)) (xS sC h50 xc_56_0) dX8_outlook_49 ?_
            refine r_iload 4 C dX8_outlook_50 rfl ?_
            refine callVI C cwX8_118_V (ctX6_fate_59 _ _ w46 (sS sC h50) o49 u2 ) (by decide) (kS sC h50 kc_59) rfl rfl rfl (Nat.le_of_ble_eq_true rfl) (by decide) dX8_outlook_52 (fun r53 w52 y51 => ?_)
            show V x 0 0 w52 55 [(0, .ref (gz (xG x) + 55)), (1, .ref (gz (xG x) + 68)), (2, .int a2), (3, .int u1), (4, .int u2)] [.int r53, .int r47]
            obtain ⟨h54, o55⟩ := y51
            have h56 := Ch.tr h50 h54 (by decide) (by decide)
            refine r_icmp_ne 62 C dX8_outlook_55 (by decide) (fun c57 => ?_) (fun c57 => ?_)
            · have c57' := i_ne c57
              refine r_iconst (v := 0) C dX8_outlook_62 (by decide) ?_
              refine r_istore_n [(3, .int 0), (0, .ref (gz (xG x) + 55)), (1, .ref (gz (xG x) + 68)), (2, .int a2), (4, .int u2)] C dX8_outlook_63 (by decide) rfl ?_
              refine r_goto 108 C dX8_outlook_64 (by decide) ?_
              obtain ⟨i58, e59⟩ : ∃ z : Int32, u2 + Int32.ofInt 1 = z := ⟨_, rfl⟩
              have i58' := iinc_ok e59 (by decide) (by omega) (by omega)
              refine r_iinc [(4, .int i58), (3, .int 0), (0, .ref (gz (xG x) + 55)), (1, .ref (gz (xG x) + 68)), (2, .int a2)] 4 C dX8_outlook_108 rfl e59 (by decide) rfl ?_
              refine r_goto 5 C dX8_outlook_111 (by decide) ?_
              refine r_lv [2, 3, 4, 1, 0] rfl ?_
              exact ih10 0 i58 w52 h56 o55 (by omega) (by omega)
            · have c57' := i_eq c57
              refine r_iload_n 3 C dX8_outlook_58 rfl ?_
              refine r_goto 63 C dX8_outlook_59 (by decide) ?_
              refine r_istore_n [(3, .int u1), (0, .ref (gz (xG x) + 55)), (1, .ref (gz (xG x) + 68)), (2, .int a2), (4, .int u2)] C dX8_outlook_63 (by decide) rfl ?_
              refine r_goto 108 C dX8_outlook_64 (by decide) ?_
              obtain ⟨i60, e61⟩ : ∃ z : Int32, u2 + Int32.ofInt 1 = z := ⟨_, rfl⟩
              have i60' := iinc_ok e61 (by decide) (by omega) (by omega)
              refine r_iinc [(4, .int i60), (3, .int u1), (0, .ref (gz (xG x) + 55)), (1, .ref (gz (xG x) + 68)), (2, .int a2)] 4 C dX8_outlook_108 rfl e61 (by decide) rfl ?_
              refine r_goto 5 C dX8_outlook_111 (by decide) ?_
              refine r_lv [2, 3, 4, 1, 0] rfl ?_
              exact ih10 u1 i60 w52 h56 o55 (by omega) (by omega)
  refine r_iconst (v := 2) C dX8_outlook_0 (by decide) ?_
  refine r_istore_n [(3, .int 2), (0, .ref (gz (xG x) + 55)), (1, .ref (gz (xG x) + 68)), (2, .int a2)] C dX8_outlook_1 (by decide) rfl ?_
  refine r_iconst (v := 0) C dX8_outlook_2 (by decide) ?_
  refine r_istore [(4, .int 0), (3, .int 2), (0, .ref (gz (xG x) + 55)), (1, .ref (gz (xG x) + 68)), (2, .int a2)] C dX8_outlook_3 (by decide) rfl ?_
  refine r_lv [2, 3, 4, 1, 0] rfl ?_
  exact LP3 4294967296 2 0 w h0 o0 (by omega) (by omega)
set_option maxHeartbeats 4000000 in
set_option maxRecDepth 100000 in
theorem ctX8_outlook_55_71 (l : Launch) (G : Gt) (w : Wv) (sC : Str KC XC w) (o0 : Inv RC w) (a2 : Int32) : CtI l G yX8_outlook cX8_outlook 5 .int ({ frames := 2, cells := 0, slots := 0, locals := 49 } : Room) [.ref (gz G + 55), .ref (gz G + 71), .int a2] w (fun r w' => Ch [] [] w w' ∧ Inv RC w') := by
  refine enterI (by decide) (Nat.le_of_ble_eq_true rfl) ?_
  intro x el eG C hret
  subst el; subst eG
  show V x 0 0 w 0 [(0, .ref (gz (xG x) + 55)), (1, .ref (gz (xG x) + 71)), (2, .int a2)] []
  have h0 : Ch [] [] w w := Ch.rf
  have q0 : (0 : Int32).toInt = 0 := by decide
  have q1 : (1 : Int32).toInt = 1 := by decide
  have q2 : (2 : Int32).toInt = 2 := by decide
  have LP3 : ∀ (f4 : Nat) (u1 : Int32) (u2 : Int32) (w5 : Wv), Ch [] [] w w5 → Inv RC w5 → (0 ≤ u2.toInt ∧ u2.toInt ≤ 2147483647) → 2147483647 - u2.toInt < f4 → V x 0 0 w5 5 [(0, .ref (gz (xG x) + 55)), (1, .ref (gz (xG x) + 71)), (2, .int a2), (3, .int u1), (4, .int u2)] [] := by
    intro f4
    induction f4 with
    | zero => intro u1 u2 w5 h6 o7 z8 z9; exfalso; omega
    | succ f4 ih10 =>
      intro u1 u2 w5 h6 o7 z8 z9
      refine r_iload 4 C dX8_outlook_5 rfl ?_
      refine r_aload_n 0 C dX8_outlook_7 rfl ?_
      refine gfX8_24 3 C (kS sC h6 kc_55) (xS sC h6 xc_55_1) dX8_outlook_8 ?_
      refine gfX8_111 (v := (wI w 3 3)) C (kS sC h6 kc_3) (h6.I (by decide) (by decide) rfl) dX8_outlook_11 ?_
      have b11 := Inv.get o0 rt_3_3 (j := 3) (by decide) (by decide)
      refine r_icmp_ge 114 C dX8_outlook_14 (by decide) (fun c12 => ?_) (fun c12 => ?_)
      · have c12' := i_le c12
        refine r_iload_n 3 C dX8_outlook_114 rfl ?_
        exact hret _ _ _ _ dX8_outlook_115 rfl ⟨h6, o7⟩
      · have c12' := i_nle c12
        refine r_iload_n 3 C dX8_outlook_17 rfl ?_
        refine r_if_eq 114 C dX8_outlook_18 (by decide) (fun c13 => ?_) (fun c13 => ?_)
        · have c13' := i_eq c13
          refine r_iload_n 3 C dX8_outlook_114 rfl ?_
          exact hret _ _ _ _ dX8_outlook_115 rfl ⟨h6, o7⟩
        · have c13' := i_ne c13
          refine r_aload_n 0 C dX8_outlook_21 rfl ?_
          refine gfX8_24 3 C (kS sC h6 kc_55) (xS sC h6 xc_55_1) dX8_outlook_22 ?_
          refine gfX8_116 5 C (kS sC h6 kc_3) (xS sC h6 xc_3_10) dX8_outlook_25 ?_
          refine r_iload 4 C dX8_outlook_28 rfl ?_
          refine r_iald C (kS sC h6 kc_5) (vin (by omega) (by omega)) dX8_outlook_30 ?_
          generalize (wI w5 5 (u2).toNatClampNeg) = v14
          refine r_aload_n 0 C dX8_outlook_31 rfl ?_
          refine gfX8_47 (v := (wI w 55 8)) C (kS sC h6 kc_55) (h6.I (by decide) (by decide) rfl) dX8_outlook_32 ?_
          refine r_icmp_eq 67 C dX8_outlook_35 (by decide) (fun c15 => ?_) (fun c15 => ?_)
          · have c15' := i_eq c15
            refine r_aload_n 1 C dX8_outlook_67 rfl ?_
            refine r_iload 4 C dX8_outlook_68 rfl ?_
            refine callVI C cwX8_121_V (ctX6_isHere_71 _ _ w5 (sS sC h6) o7 u2 ) (by decide) (kS sC h6 kc_71) rfl rfl rfl (Nat.le_of_ble_eq_true rfl) (by decide) dX8_outlook_70 (fun r18 w17 y16 => ?_)
            show V x 0 0 w17 73 [(0, .ref (gz (xG x) + 55)), (1, .ref (gz (xG x) + 71)), (2, .int a2), (3, .int u1), (4, .int u2)] [.int r18]
            obtain ⟨h19, o20⟩ := y16
            have h21 := Ch.tr h6 h19 (by decide) (by decide)
            refine r_if_eq 96 C dX8_outlook_73 (by decide) (fun c22 => ?_) (fun c22 => ?_)
            · have c22' := i_eq c22
              refine r_aload_n 1 C dX8_outlook_96 rfl ?_
              refine r_iload 4 C dX8_outlook_97 rfl ?_
              refine callVI C cwX8_118_V (ctX6_fate_71 _ _ w17 (sS sC h21) o20 u2 ) (by decide) (kS sC h21 kc_71) rfl rfl rfl (Nat.le_of_ble_eq_true rfl) (by decide) dX8_outlook_99 (fun r25 w24 y23 => ?_)
              show V x 0 0 w24 102 [(0, .ref (gz (xG x) + 55)), (1, .ref (gz (xG x) + 71)), (2, .int a2), (3, .int u1), (4, .int u2)] [.int r25]
              obtain ⟨h26, o27⟩ := y23
              have h28 := Ch.tr h21 h26 (by decide) (by decide)
              refine r_iconst (v := 2) C dX8_outlook_102 (by decide) ?_
              refine r_icmp_ne 108 C dX8_outlook_103 (by decide) (fun c29 => ?_) (fun c29 => ?_)
              · have c29' := i_ne c29
                obtain ⟨i30, e31⟩ : ∃ z : Int32, u2 + Int32.ofInt 1 = z := ⟨_, rfl⟩
                have i30' := iinc_ok e31 (by decide) (by omega) (by omega)
                refine r_iinc [(4, .int i30), (0, .ref (gz (xG x) + 55)), (1, .ref (gz (xG x) + 71)), (2, .int a2), (3, .int u1)] 4 C dX8_outlook_108 rfl e31 (by decide) rfl ?_
                refine r_goto 5 C dX8_outlook_111 (by decide) ?_
                refine r_lv [1, 2, 3, 4, 0] rfl ?_
                exact ih10 u1 i30 w24 h28 o27 (by omega) (by omega)
              · have c29' := i_eq c29
                refine r_iconst (v := 0) C dX8_outlook_106 (by decide) ?_
                refine r_istore_n [(3, .int 0), (0, .ref (gz (xG x) + 55)), (1, .ref (gz (xG x) + 71)), (2, .int a2), (4, .int u2)] C dX8_outlook_107 (by decide) rfl ?_
                obtain ⟨i32, e33⟩ : ∃ z : Int32, u2 + Int32.ofInt 1 = z := ⟨_, rfl⟩
                have i32' := iinc_ok e33 (by decide) (by omega) (by omega)
                refine r_iinc [(4, .int i32), (3, .int 0), (0, .ref (gz (xG x) + 55)), (1, .ref (gz (xG x) + 71)), (2, .int a2)] 4 C dX8_outlook_108 rfl e33 (by decide) rfl ?_
                refine r_goto 5 C dX8_outlook_111 (by decide) ?_
                refine r_lv [2, 3, 4, 1, 0] rfl ?_
                exact ih10 0 i32 w24 h28 o27 (by omega) (by omega)
            · have c22' := i_ne c22
              refine r_aload_n 0 C dX8_outlook_76 rfl ?_
              refine r_aload_n 1 C dX8_outlook_77 rfl ?_
              refine r_iload 4 C dX8_outlook_78 rfl ?_
              refine r_iload_n 2 C dX8_outlook_80 rfl ?_
              refine callVI C cwX8_124_V (ctX8_canLeave_55_71 _ _ w17 (sS sC h21) o20 u2 a2 (by omega)) (by decide) (kS sC h21 kc_55) rfl rfl rfl (Nat.le_of_ble_eq_true rfl) (by decide) dX8_outlook_81 (fun r36 w35 y34 => ?_)
              show V x 0 0 w35 84 [(0, .ref (gz (xG x) + 55)), (1, .ref (gz (xG x) + 71)), (2, .int a2), (3, .int u1), (4, .int u2)] [.int r36]
              obtain ⟨h37, o38⟩ := y34
              have h39 := Ch.tr h21 h37 (by decide) (by decide)
              refine r_if_eq 91 C dX8_outlook_84 (by decide) (fun c40 => ?_) (fun c40 => ?_)
              · have c40' := i_eq c40
                refine r_iconst (v := 0) C dX8_outlook_91 (by decide) ?_
                refine r_istore_n [(3, .int 0), (0, .ref (gz (xG x) + 55)), (1, .ref (gz (xG x) + 71)), (2, .int a2), (4, .int u2)] C dX8_outlook_92 (by decide) rfl ?_
                refine r_goto 108 C dX8_outlook_93 (by decide) ?_
                obtain ⟨i41, e42⟩ : ∃ z : Int32, u2 + Int32.ofInt 1 = z := ⟨_, rfl⟩
                have i41' := iinc_ok e42 (by decide) (by omega) (by omega)
                refine r_iinc [(4, .int i41), (3, .int 0), (0, .ref (gz (xG x) + 55)), (1, .ref (gz (xG x) + 71)), (2, .int a2)] 4 C dX8_outlook_108 rfl e42 (by decide) rfl ?_
                refine r_goto 5 C dX8_outlook_111 (by decide) ?_
                refine r_lv [2, 3, 4, 1, 0] rfl ?_
                exact ih10 0 i41 w35 h39 o38 (by omega) (by omega)
              · have c40' := i_ne c40
                refine r_iconst (v := 1) C dX8_outlook_87 (by decide) ?_
                refine r_goto 92 C dX8_outlook_88 (by decide) ?_
                refine r_istore_n [(3, .int 1), (0, .ref (gz (xG x) + 55)), (1, .ref (gz (xG x) + 71)), (2, .int a2), (4, .int u2)] C dX8_outlook_92 (by decide) rfl ?_
                refine r_goto 108 C dX8_outlook_93 (by decide) ?_
                obtain ⟨i43, e44⟩ : ∃ z : Int32, u2 + Int32.ofInt 1 = z := ⟨_, rfl⟩
                have i43' := iinc_ok e44 (by decide) (by omega) (by omega)
                refine r_iinc [(4, .int i43), (3, .int 1), (0, .ref (gz (xG x) + 55)), (1, .ref (gz (xG x) + 71)), (2, .int a2)] 4 C dX8_outlook_108 rfl e44 (by decide) rfl ?_
                refine r_goto 5 C dX8_outlook_111 (by decide) ?_
                refine r_lv [2, 3, 4, 1, 0] rfl ?_
                exact ih10 1 i43 w35 h39 o38 (by omega) (by omega)
          · have c15' := i_ne c15
            refine r_aload_n 1 C dX8_outlook_38 rfl ?_
            refine r_iload 4 C dX8_outlook_39 rfl ?_
            refine callVI C cwX8_118_V (ctX6_fate_71 _ _ w5 (sS sC h6) o7 u2 ) (by decide) (kS sC h6 kc_71) rfl rfl rfl (Nat.le_of_ble_eq_true rfl) (by decide) dX8_outlook_41 (fun r47 w46 y45 => ?_)
            show V x 0 0 w46 44 [(0, .ref (gz (xG x) + 55)), (1, .ref (gz (xG x) + 71)), (2, .int a2), (3, .int u1), (4, .int u2)] [.int r47]
            obtain ⟨h48, o49⟩ := y45
            have h50 := Ch.tr h6 h48 (by decide) (by decide)
            refine r_aload_n 0 C dX8_outlook_44 rfl ?_
            refine gfX8_11 56 C (kS sC h50 kc_55) (xS sC h50 xc_55_3) dX8_outlook_45 ?_
            refine r_iconst (v := 0) C dX8_outlook_48 (by decide) ?_
            refine r_aald 3 rfl C (kS sC h50 kc_56) (vin (by omega) (by omega)) (xS sC h50 xc_56_0) dX8_outlook_49 ?_
            refine r_iload 4 C dX8_outlook_50 rfl ?_
            refine callVI C cwX8_118_V (ctX6_fate_59 _ _ w46 (sS sC h50) o49 u2 ) (by decide) (kS sC h50 kc_59) rfl rfl rfl (Nat.le_of_ble_eq_true rfl) (by decide) dX8_outlook_52 (fun r53 w52 y51 => ?_)
            show V x 0 0 w52 55 [(0, .ref (gz (xG x) + 55)), (1, .ref (gz (xG x) + 71)), (2, .int a2), (3, .int u1), (4, .int u2)] [.int r53, .int r47]
            obtain ⟨h54, o55⟩ := y51
            have h56 := Ch.tr h50 h54 (by decide) (by decide)
            refine r_icmp_ne 62 C dX8_outlook_55 (by decide) (fun c57 => ?_) (fun c57 => ?_)
            · have c57' := i_ne c57
              refine r_iconst (v := 0) C dX8_outlook_62 (by decide) ?_
              refine r_istore_n [(3, .int 0), (0, .ref (gz (xG x) + 55)), (1, .ref (gz (xG x) + 71)), (2, .int a2), (4, .int u2)] C dX8_outlook_63 (by decide) rfl ?_
              refine r_goto 108 C dX8_outlook_64 (by decide) ?_
              obtain ⟨i58, e59⟩ : ∃ z : Int32, u2 + Int32.ofInt 1 = z := ⟨_, rfl⟩
              have i58' := iinc_ok e59 (by decide) (by omega) (by omega)
              refine r_iinc [(4, .int i58), (3, .int 0), (0, .ref (gz (xG x) + 55)), (1, .ref (gz (xG x) + 71)), (2, .int a2)] 4 C dX8_outlook_108 rfl e59 (by decide) rfl ?_
              refine r_goto 5 C dX8_outlook_111 (by decide) ?_
              refine r_lv [2, 3, 4, 1, 0] rfl ?_
              exact ih10 0 i58 w52 h56 o55 (by omega) (by omega)
            · have c57' := i_eq c57
              refine r_iload_n 3 C dX8_outlook_58 rfl ?_
              refine r_goto 63 C dX8_outlook_59 (by decide) ?_
              refine r_istore_n [(3, .int u1), (0, .ref (gz (xG x) + 55)), (1, .ref (gz (xG x) + 71)), (2, .int a2), (4, .int u2)] C dX8_outlook_63 (by decide) rfl ?_
              refine r_goto 108 C dX8_outlook_64 (by decide) ?_
              obtain ⟨i60, e61⟩ : ∃ z : Int32, u2 + Int32.ofInt 1 = z := ⟨_, rfl⟩
              have i60' := iinc_ok e61 (by decide) (by omega) (by omega)
              refine r_iinc [(4, .int i60), (3, .int u1), (0, .ref (gz (xG x) + 55)), (1, .ref (gz (xG x) + 71)), (2, .int a2)] 4 C dX8_outlook_108 rfl e61 (by decide) rfl ?_
              refine r_goto 5 C dX8_outlook_111 (by decide) ?_
              refine r_lv [2, 3, 4, 1, 0] rfl ?_
              exact ih10 u1 i60 w52 h56 o55 (by omega) (by omega)
  refine r_iconst (v := 2) C dX8_outlook_0 (by decide) ?_
  refine r_istore_n [(3, .int 2), (0, .ref (gz (xG x) + 55)), (1, .ref (gz (xG x) + 71)), (2, .int a2)] C dX8_outlook_1 (by decide) rfl ?_
  refine r_iconst (v := 0) C dX8_outlook_2 (by decide) ?_
  refine r_istore [(4, .int 0), (3, .int 2), (0, .ref (gz (xG x) + 55)), (1, .ref (gz (xG x) + 71)), (2, .int a2)] C dX8_outlook_3 (by decide) rfl ?_
  refine r_lv [2, 3, 4, 1, 0] rfl ?_
  exact LP3 4294967296 2 0 w h0 o0 (by omega) (by omega)
set_option maxHeartbeats 4000000 in
set_option maxRecDepth 100000 in
theorem ctX8_outlook_55_74 (l : Launch) (G : Gt) (w : Wv) (sC : Str KC XC w) (o0 : Inv RC w) (a2 : Int32) : CtI l G yX8_outlook cX8_outlook 5 .int ({ frames := 2, cells := 0, slots := 0, locals := 49 } : Room) [.ref (gz G + 55), .ref (gz G + 74), .int a2] w (fun r w' => Ch [] [] w w' ∧ Inv RC w') := by
  refine enterI (by decide) (Nat.le_of_ble_eq_true rfl) ?_
  intro x el eG C hret
  subst el; subst eG
  show V x 0 0 w 0 [(0, .ref (gz (xG x) + 55)), (1, .ref (gz (xG x) + 74)), (2, .int a2)] []
  have h0 : Ch [] [] w w := Ch.rf
  have q0 : (0 : Int32).toInt = 0 := by decide
  have q1 : (1 : Int32).toInt = 1 := by decide
  have q2 : (2 : Int32).toInt = 2 := by decide
  have LP3 : ∀ (f4 : Nat) (u1 : Int32) (u2 : Int32) (w5 : Wv), Ch [] [] w w5 → Inv RC w5 → (0 ≤ u2.toInt ∧ u2.toInt ≤ 2147483647) → 2147483647 - u2.toInt < f4 → V x 0 0 w5 5 [(0, .ref (gz (xG x) + 55)), (1, .ref (gz (xG x) + 74)), (2, .int a2), (3, .int u1), (4, .int u2)] [] := by
    intro f4
    induction f4 with
    | zero => intro u1 u2 w5 h6 o7 z8 z9; exfalso; omega
    | succ f4 ih10 =>
      intro u1 u2 w5 h6 o7 z8 z9
      refine r_iload 4 C dX8_outlook_5 rfl ?_
      refine r_aload_n 0 C dX8_outlook_7 rfl ?_
      refine gfX8_24 3 C (kS sC h6 kc_55) (xS sC h6 xc_55_1) dX8_outlook_8 ?_
      refine gfX8_111 (v := (wI w 3 3)) C (kS sC h6 kc_3) (h6.I (by decide) (by decide) rfl) dX8_outlook_11 ?_
      have b11 := Inv.get o0 rt_3_3 (j := 3) (by decide) (by decide)
      refine r_icmp_ge 114 C dX8_outlook_14 (by decide) (fun c12 => ?_) (fun c12 => ?_)
      · have c12' := i_le c12
        refine r_iload_n 3 C dX8_outlook_114 rfl ?_
        exact hret _ _ _ _ dX8_outlook_115 rfl ⟨h6, o7⟩
      · have c12' := i_nle c12
        refine r_iload_n 3 C dX8_outlook_17 rfl ?_
        refine r_if_eq 114 C dX8_outlook_18 (by decide) (fun c13 => ?_) (fun c13 => ?_)
        · have c13' := i_eq c13
          refine r_iload_n 3 C dX8_outlook_114 rfl ?_
          exact hret _ _ _ _ dX8_outlook_115 rfl ⟨h6, o7⟩
        · have c13' := i_ne c13
          refine r_aload_n 0 C dX8_outlook_21 rfl ?_
          refine gfX8_24 3 C (kS sC h6 kc_55) (xS sC h6 xc_55_1) dX8_outlook_22 ?_
          refine gfX8_116 5 C (kS sC h6 kc_3) (xS sC h6 xc_3_10) dX8_outlook_25 ?_
          refine r_iload 4 C dX8_outlook_28 rfl ?_
          refine r_iald C (kS sC h6 kc_5) (vin (by omega) (by omega)) dX8_outlook_30 ?_
          generalize (wI w5 5 (u2).toNatClampNeg) = v14
          refine r_aload_n 0 C dX8_outlook_31 rfl ?_
          refine gfX8_47 (v := (wI w 55 8)) C (kS sC h6 kc_55) (h6.I (by decide) (by decide) rfl) dX8_outlook_32 ?_
          refine r_icmp_eq 67 C dX8_outlook_35 (by decide) (fun c15 => ?_) (fun c15 => ?_)
          · have c15' := i_eq c15
            refine r_aload_n 1 C dX8_outlook_67 rfl ?_
            refine r_iload 4 C dX8_outlook_68 rfl ?_
            refine callVI C cwX8_121_V (ctX6_isHere_74 _ _ w5 (sS sC h6) o7 u2 ) (by decide) (kS sC h6 kc_74) rfl rfl rfl (Nat.le_of_ble_eq_true rfl) (by decide) dX8_outlook_70 (fun r18 w17 y16 => ?_)
            show V x 0 0 w17 73 [(0, .ref (gz (xG x) + 55)), (1, .ref (gz (xG x) + 74)), (2, .int a2), (3, .int u1), (4, .int u2)] [.int r18]
            obtain ⟨h19, o20⟩ := y16
            have h21 := Ch.tr h6 h19 (by decide) (by decide)
            refine r_if_eq 96 C dX8_outlook_73 (by decide) (fun c22 => ?_) (fun c22 => ?_)
            · have c22' := i_eq c22
              refine r_aload_n 1 C dX8_outlook_96 rfl ?_
              refine r_iload 4 C dX8_outlook_97 rfl ?_
              refine callVI C cwX8_118_V (ctX6_fate_74 _ _ w17 (sS sC h21) o20 u2 ) (by decide) (kS sC h21 kc_74) rfl rfl rfl (Nat.le_of_ble_eq_true rfl) (by decide) dX8_outlook_99 (fun r25 w24 y23 => ?_)
              show V x 0 0 w24 102 [(0, .ref (gz (xG x) + 55)), (1, .ref (gz (xG x) + 74)), (2, .int a2), (3, .int u1), (4, .int u2)] [.int r25]
              obtain ⟨h26, o27⟩ := y23
              have h28 := Ch.tr h21 h26 (by decide) (by decide)
              refine r_iconst (v := 2) C dX8_outlook_102 (by decide) ?_
              refine r_icmp_ne 108 C dX8_outlook_103 (by decide) (fun c29 => ?_) (fun c29 => ?_)
              · have c29' := i_ne c29
                obtain ⟨i30, e31⟩ : ∃ z : Int32, u2 + Int32.ofInt 1 = z := ⟨_, rfl⟩
                have i30' := iinc_ok e31 (by decide) (by omega) (by omega)
                refine r_iinc [(4, .int i30), (0, .ref (gz (xG x) + 55)), (1, .ref (gz (xG x) + 74)), (2, .int a2), (3, .int u1)] 4 C dX8_outlook_108 rfl e31 (by decide) rfl ?_
                refine r_goto 5 C dX8_outlook_111 (by decide) ?_
                refine r_lv [1, 2, 3, 4, 0] rfl ?_
                exact ih10 u1 i30 w24 h28 o27 (by omega) (by omega)
              · have c29' := i_eq c29
                refine r_iconst (v := 0) C dX8_outlook_106 (by decide) ?_
                refine r_istore_n [(3, .int 0), (0, .ref (gz (xG x) + 55)), (1, .ref (gz (xG x) + 74)), (2, .int a2), (4, .int u2)] C dX8_outlook_107 (by decide) rfl ?_
                obtain ⟨i32, e33⟩ : ∃ z : Int32, u2 + Int32.ofInt 1 = z := ⟨_, rfl⟩
                have i32' := iinc_ok e33 (by decide) (by omega) (by omega)
                refine r_iinc [(4, .int i32), (3, .int 0), (0, .ref (gz (xG x) + 55)), (1, .ref (gz (xG x) + 74)), (2, .int a2)] 4 C dX8_outlook_108 rfl e33 (by decide) rfl ?_
                refine r_goto 5 C dX8_outlook_111 (by decide) ?_
                refine r_lv [2, 3, 4, 1, 0] rfl ?_
                exact ih10 0 i32 w24 h28 o27 (by omega) (by omega)
            · have c22' := i_ne c22
              refine r_aload_n 0 C dX8_outlook_76 rfl ?_
              refine r_aload_n 1 C dX8_outlook_77 rfl ?_
              refine r_iload 4 C dX8_outlook_78 rfl ?_
              refine r_iload_n 2 C dX8_outlook_80 rfl ?_
              refine callVI C cwX8_124_V (ctX8_canLeave_55_74 _ _ w17 (sS sC h21) o20 u2 a2 (by omega)) (by decide) (kS sC h21 kc_55) rfl rfl rfl (Nat.le_of_ble_eq_true rfl) (by decide) dX8_outlook_81 (fun r36 w35 y34 => ?_)
              show V x 0 0 w35 84 [(0, .ref (gz (xG x) + 55)), (1, .ref (gz (xG x) + 74)), (2, .int a2), (3, .int u1), (4, .int u2)] [.int r36]
              obtain ⟨h37, o38⟩ := y34
              have h39 := Ch.tr h21 h37 (by decide) (by decide)
              refine r_if_eq 91 C dX8_outlook_84 (by decide) (fun c40 => ?_) (fun c40 => ?_)
              · have c40' := i_eq c40
                refine r_iconst (v := 0) C dX8_outlook_91 (by decide) ?_
                refine r_istore_n [(3, .int 0), (0, .ref (gz (xG x) + 55)), (1, .ref (gz (xG x) + 74)), (2, .int a2), (4, .int u2)] C dX8_outlook_92 (by decide) rfl ?_
                refine r_goto 108 C dX8_outlook_93 (by decide) ?_
                obtain ⟨i41, e42⟩ : ∃ z : Int32, u2 + Int32.ofInt 1 = z := ⟨_, rfl⟩
                have i41' := iinc_ok e42 (by decide) (by omega) (by omega)
                refine r_iinc [(4, .int i41), (3, .int 0), (0, .ref (gz (xG x) + 55)), (1, .ref (gz (xG x) + 74)), (2, .int a2)] 4 C dX8_outlook_108 rfl e42 (by decide) rfl ?_
                refine r_goto 5 C dX8_outlook_111 (by decide) ?_
                refine r_lv [2, 3, 4, 1, 0] rfl ?_
                exact ih10 0 i41 w35 h39 o38 (by omega) (by omega)
              · have c40' := i_ne c40
                refine r_iconst (v := 1) C dX8_outlook_87 (by decide) ?_
                refine r_goto 92 C dX8_outlook_88 (by decide) ?_
                refine r_istore_n [(3, .int 1), (0, .ref (gz (xG x) + 55)), (1, .ref (gz (xG x) + 74)), (2, .int a2), (4, .int u2)] C dX8_outlook_92 (by decide) rfl ?_
                refine r_goto 108 C dX8_outlook_93 (by decide) ?_
                obtain ⟨i43, e44⟩ : ∃ z : Int32, u2 + Int32.ofInt 1 = z := ⟨_, rfl⟩
                have i43' := iinc_ok e44 (by decide) (by omega) (by omega)
                refine r_iinc [(4, .int i43), (3, .int 1), (0, .ref (gz (xG x) + 55)), (1, .ref (gz (xG x) + 74)), (2, .int a2)] 4 C dX8_outlook_108 rfl e44 (by decide) rfl ?_
                refine r_goto 5 C dX8_outlook_111 (by decide) ?_
                refine r_lv [2, 3, 4, 1, 0] rfl ?_
                exact ih10 1 i43 w35 h39 o38 (by omega) (by omega)
          · have c15' := i_ne c15
            refine r_aload_n 1 C dX8_outlook_38 rfl ?_
            refine r_iload 4 C dX8_outlook_39 rfl ?_
            refine callVI C cwX8_118_V (ctX6_fate_74 _ _ w5 (sS sC h6) o7 u2 ) (by decide) (kS sC h6 kc_74) rfl rfl rfl (Nat.le_of_ble_eq_true rfl) (by decide) dX8_outlook_41 (fun r47 w46 y45 => ?_)
            show V x 0 0 w46 44 [(0, .ref (gz (xG x) + 55)), (1, .ref (gz (xG x) + 74)), (2, .int a2), (3, .int u1), (4, .int u2)] [.int r47]
            obtain ⟨h48, o49⟩ := y45
            have h50 := Ch.tr h6 h48 (by decide) (by decide)
            refine r_aload_n 0 C dX8_outlook_44 rfl ?_
            refine gfX8_11 56 C (kS sC h50 kc_55) (xS sC h50 xc_55_3) dX8_outlook_45 ?_
            refine r_iconst (v := 0) C dX8_outlook_48 (by decide) ?_
            refine r_aald 3 rfl C (kS sC h50 kc_56) (vin (by omega) (by omega)) (xS sC h50 xc_56_0) dX8_outlook_49 ?_
            refine r_iload 4 C dX8_outlook_50 rfl ?_
            refine callVI C cwX8_118_V (ctX6_fate_59 _ _ w46 (sS sC h50) o49 u2 ) (by decide) (kS sC h50 kc_59) rfl rfl rfl (Nat.le_of_ble_eq_true rfl) (by decide) dX8_outlook_52 (fun r53 w52 y51 => ?_)
            show V x 0 0 w52 55 [(0, .ref (gz (xG x) + 55)), (1, .ref (gz (xG x) + 74)), (2, .int a2), (3, .int u1), (4, .int u2)] [.int r53, .int r47]
            obtain ⟨h54, o55⟩ := y51
            have h56 := Ch.tr h50 h54 (by decide) (by decide)
            refine r_icmp_ne 62 C dX8_outlook_55 (by decide) (fun c57 => ?_) (fun c57 => ?_)
            · have c57' := i_ne c57
              refine r_iconst (v := 0) C dX8_outlook_62 (by decide) ?_
              refine r_istore_n [(3, .int 0), (0, .ref (gz (xG x) + 55)), (1, .ref (gz (xG x) + 74)), (2, .int a2), (4, .int u2)] C dX8_outlook_63 (by decide) rfl ?_
              refine r_goto 108 C dX8_outlook_64 (by decide) ?_
              obtain ⟨i58, e59⟩ : ∃ z : Int32, u2 + Int32.ofInt 1 = z := ⟨_, rfl⟩
              have i58' := iinc_ok e59 (by decide) (by omega) (by omega)
              refine r_iinc [(4, .int i58), (3, .int 0), (0, .ref (gz (xG x) + 55)), (1, .ref (gz (xG x) + 74)), (2, .int a2)] 4 C dX8_outlook_108 rfl e59 (by decide) rfl ?_
              refine r_goto 5 C dX8_outlook_111 (by decide) ?_
              refine r_lv [2, 3, 4, 1, 0] rfl ?_
              exact ih10 0 i58 w52 h56 o55 (by omega) (by omega)
            · have c57' := i_eq c57
              refine r_iload_n 3 C dX8_outlook_58 rfl ?_
              refine r_goto 63 C dX8_outlook_59 (by decide) ?_
              refine r_istore_n [(3, .int u1), (0, .ref (gz (xG x) + 55)), (1, .ref (gz (xG x) + 74)), (2, .int a2), (4, .int u2)] C dX8_outlook_63 (by decide) rfl ?_
              refine r_goto 108 C dX8_outlook_64 (by decide) ?_
              obtain ⟨i60, e61⟩ : ∃ z : Int32, u2 + Int32.ofInt 1 = z := ⟨_, rfl⟩
              have i60' := iinc_ok e61 (by decide) (by omega) (by omega)
              refine r_iinc [(4, .int i60), (3, .int u1), (0, .ref (gz (xG x) + 55)), (1, .ref (gz (xG x) + 74)), (2, .int a2)] 4 C dX8_outlook_108 rfl e61 (by decide) rfl ?_
              refine r_goto 5 C dX8_outlook_111 (by decide) ?_
              refine r_lv [2, 3, 4, 1, 0] rfl ?_
              exact ih10 u1 i60 w52 h56 o55 (by omega) (by omega)
  refine r_iconst (v := 2) C dX8_outlook_0 (by decide) ?_
  refine r_istore_n [(3, .int 2), (0, .ref (gz (xG x) + 55)), (1, .ref (gz (xG x) + 74)), (2, .int a2)] C dX8_outlook_1 (by decide) rfl ?_
  refine r_iconst (v := 0) C dX8_outlook_2 (by decide) ?_
  refine r_istore [(4, .int 0), (3, .int 2), (0, .ref (gz (xG x) + 55)), (1, .ref (gz (xG x) + 74)), (2, .int a2)] C dX8_outlook_3 (by decide) rfl ?_
  refine r_lv [2, 3, 4, 1, 0] rfl ?_
  exact LP3 4294967296 2 0 w h0 o0 (by omega) (by omega)
set_option maxHeartbeats 4000000 in
set_option maxRecDepth 100000 in
theorem ctX8_outlook_55_77 (l : Launch) (G : Gt) (w : Wv) (sC : Str KC XC w) (o0 : Inv RC w) (a2 : Int32) : CtI l G yX8_outlook cX8_outlook 5 .int ({ frames := 2, cells := 0, slots := 0, locals := 49 } : Room) [.ref (gz G + 55), .ref (gz G + 77), .int a2] w (fun r w' => Ch [] [] w w' ∧ Inv RC w') := by
  refine enterI (by decide) (Nat.le_of_ble_eq_true rfl) ?_
  intro x el eG C hret
  subst el; subst eG
  show V x 0 0 w 0 [(0, .ref (gz (xG x) + 55)), (1, .ref (gz (xG x) + 77)), (2, .int a2)] []
  have h0 : Ch [] [] w w := Ch.rf
  have q0 : (0 : Int32).toInt = 0 := by decide
  have q1 : (1 : Int32).toInt = 1 := by decide
  have q2 : (2 : Int32).toInt = 2 := by decide
  have LP3 : ∀ (f4 : Nat) (u1 : Int32) (u2 : Int32) (w5 : Wv), Ch [] [] w w5 → Inv RC w5 → (0 ≤ u2.toInt ∧ u2.toInt ≤ 2147483647) → 2147483647 - u2.toInt < f4 → V x 0 0 w5 5 [(0, .ref (gz (xG x) + 55)), (1, .ref (gz (xG x) + 77)), (2, .int a2), (3, .int u1), (4, .int u2)] [] := by
    intro f4
    induction f4 with
    | zero => intro u1 u2 w5 h6 o7 z8 z9; exfalso; omega
    | succ f4 ih10 =>
      intro u1 u2 w5 h6 o7 z8 z9
      refine r_iload 4 C dX8_outlook_5 rfl ?_
      refine r_aload_n 0 C dX8_outlook_7 rfl ?_
      refine gfX8_24 3 C (kS sC h6 kc_55) (xS sC h6 xc_55_1) dX8_outlook_8 ?_
      refine gfX8_111 (v := (wI w 3 3)) C (kS sC h6 kc_3) (h6.I (by decide) (by decide) rfl) dX8_outlook_11 ?_
      have b11 := Inv.get o0 rt_3_3 (j := 3) (by decide) (by decide)
      refine r_icmp_ge 114 C dX8_outlook_14 (by decide) (fun c12 => ?_) (fun c12 => ?_)
      · have c12' := i_le c12
        refine r_iload_n 3 C dX8_outlook_114 rfl ?_
        exact hret _ _ _ _ dX8_outlook_115 rfl ⟨h6, o7⟩
      · have c12' := i_nle c12
        refine r_iload_n 3 C dX8_outlook_17 rfl ?_
        refine r_if_eq 114 C dX8_outlook_18 (by decide) (fun c13 => ?_) (fun c13 => ?_)
        · have c13' := i_eq c13
          refine r_iload_n 3 C dX8_outlook_114 rfl ?_
          exact hret _ _ _ _ dX8_outlook_115 rfl ⟨h6, o7⟩
        · have c13' := i_ne c13
          refine r_aload_n 0 C dX8_outlook_21 rfl ?_
          refine gfX8_24 3 C (kS sC h6 kc_55) (xS sC h6 xc_55_1) dX8_outlook_22 ?_
          refine gfX8_116 5 C (kS sC h6 kc_3) (xS sC h6 xc_3_10) dX8_outlook_25 ?_
          refine r_iload 4 C dX8_outlook_28 rfl ?_
          refine r_iald C (kS sC h6 kc_5) (vin (by omega) (by omega)) dX8_outlook_30 ?_
          generalize (wI w5 5 (u2).toNatClampNeg) = v14
          refine r_aload_n 0 C dX8_outlook_31 rfl ?_
          refine gfX8_47 (v := (wI w 55 8)) C (kS sC h6 kc_55) (h6.I (by decide) (by decide) rfl) dX8_outlook_32 ?_
          refine r_icmp_eq 67 C dX8_outlook_35 (by decide) (fun c15 => ?_) (fun c15 => ?_)
          · have c15' := i_eq c15
            refine r_aload_n 1 C dX8_outlook_67 rfl ?_
            refine r_iload 4 C dX8_outlook_68 rfl ?_
            refine callVI C cwX8_121_V (ctX6_isHere_77 _ _ w5 (sS sC h6) o7 u2 ) (by decide) (kS sC h6 kc_77) rfl rfl rfl (Nat.le_of_ble_eq_true rfl) (by decide) dX8_outlook_70 (fun r18 w17 y16 => ?_)
            show V x 0 0 w17 73 [(0, .ref (gz (xG x) + 55)), (1, .ref (gz (xG x) + 77)), (2, .int a2), (3, .int u1), (4, .int u2)] [.int r18]
            obtain ⟨h19, o20⟩ := y16
            have h21 := Ch.tr h6 h19 (by decide) (by decide)
            refine r_if_eq 96 C dX8_outlook_73 (by decide) (fun c22 => ?_) (fun c22 => ?_)
            · have c22' := i_eq c22
              refine r_aload_n 1 C dX8_outlook_96 rfl ?_
              refine r_iload 4 C dX8_outlook_97 rfl ?_
              refine callVI C cwX8_118_V (ctX6_fate_77 _ _ w17 (sS sC h21) o20 u2 ) (by decide) (kS sC h21 kc_77) rfl rfl rfl (Nat.le_of_ble_eq_true rfl) (by decide) dX8_outlook_99 (fun r25 w24 y23 => ?_)
              show V x 0 0 w24 102 [(0, .ref (gz (xG x) + 55)), (1, .ref (gz (xG x) + 77)), (2, .int a2), (3, .int u1), (4, .int u2)] [.int r25]
              obtain ⟨h26, o27⟩ := y23
              have h28 := Ch.tr h21 h26 (by decide) (by decide)
              refine r_iconst (v := 2) C dX8_outlook_102 (by decide) ?_
              refine r_icmp_ne 108 C dX8_outlook_103 (by decide) (fun c29 => ?_) (fun c29 => ?_)
              · have c29' := i_ne c29
                obtain ⟨i30, e31⟩ : ∃ z : Int32, u2 + Int32.ofInt 1 = z := ⟨_, rfl⟩
                have i30' := iinc_ok e31 (by decide) (by omega) (by omega)
                refine r_iinc [(4, .int i30), (0, .ref (gz (xG x) + 55)), (1, .ref (gz (xG x) + 77)), (2, .int a2), (3, .int u1)] 4 C dX8_outlook_108 rfl e31 (by decide) rfl ?_
                refine r_goto 5 C dX8_outlook_111 (by decide) ?_
                refine r_lv [1, 2, 3, 4, 0] rfl ?_
                exact ih10 u1 i30 w24 h28 o27 (by omega) (by omega)
              · have c29' := i_eq c29
                refine r_iconst (v := 0) C dX8_outlook_106 (by decide) ?_
                refine r_istore_n [(3, .int 0), (0, .ref (gz (xG x) + 55)), (1, .ref (gz (xG x) + 77)), (2, .int a2), (4, .int u2)] C dX8_outlook_107 (by decide) rfl ?_
                obtain ⟨i32, e33⟩ : ∃ z : Int32, u2 + Int32.ofInt 1 = z := ⟨_, rfl⟩
                have i32' := iinc_ok e33 (by decide) (by omega) (by omega)
                refine r_iinc [(4, .int i32), (3, .int 0), (0, .ref (gz (xG x) + 55)), (1, .ref (gz (xG x) + 77)), (2, .int a2)] 4 C dX8_outlook_108 rfl e33 (by decide) rfl ?_
                refine r_goto 5 C dX8_outlook_111 (by decide) ?_
                refine r_lv [2, 3, 4, 1, 0] rfl ?_
                exact ih10 0 i32 w24 h28 o27 (by omega) (by omega)
            · have c22' := i_ne c22
              refine r_aload_n 0 C dX8_outlook_76 rfl ?_
              refine r_aload_n 1 C dX8_outlook_77 rfl ?_
              refine r_iload 4 C dX8_outlook_78 rfl ?_
              refine r_iload_n 2 C dX8_outlook_80 rfl ?_
              refine callVI C cwX8_124_V (ctX8_canLeave_55_77 _ _ w17 (sS sC h21) o20 u2 a2 (by omega)) (by decide) (kS sC h21 kc_55) rfl rfl rfl (Nat.le_of_ble_eq_true rfl) (by decide) dX8_outlook_81 (fun r36 w35 y34 => ?_)
              show V x 0 0 w35 84 [(0, .ref (gz (xG x) + 55)), (1, .ref (gz (xG x) + 77)), (2, .int a2), (3, .int u1), (4, .int u2)] [.int r36]
              obtain ⟨h37, o38⟩ := y34
              have h39 := Ch.tr h21 h37 (by decide) (by decide)
              refine r_if_eq 91 C dX8_outlook_84 (by decide) (fun c40 => ?_) (fun c40 => ?_)
              · have c40' := i_eq c40
                refine r_iconst (v := 0) C dX8_outlook_91 (by decide) ?_
                refine r_istore_n [(3, .int 0), (0, .ref (gz (xG x) + 55)), (1, .ref (gz (xG x) + 77)), (2, .int a2), (4, .int u2)] C dX8_outlook_92 (by decide) rfl ?_
                refine r_goto 108 C dX8_outlook_93 (by decide) ?_
                obtain ⟨i41, e42⟩ : ∃ z : Int32, u2 + Int32.ofInt 1 = z := ⟨_, rfl⟩
                have i41' := iinc_ok e42 (by decide) (by omega) (by omega)
                refine r_iinc [(4, .int i41), (3, .int 0), (0, .ref (gz (xG x) + 55)), (1, .ref (gz (xG x) + 77)), (2, .int a2)] 4 C dX8_outlook_108 rfl e42 (by decide) rfl ?_
                refine r_goto 5 C dX8_outlook_111 (by decide) ?_
                refine r_lv [2, 3, 4, 1, 0] rfl ?_
                exact ih10 0 i41 w35 h39 o38 (by omega) (by omega)
              · have c40' := i_ne c40
                refine r_iconst (v := 1) C dX8_outlook_87 (by decide) ?_
                refine r_goto 92 C dX8_outlook_88 (by decide) ?_
                refine r_istore_n [(3, .int 1), (0, .ref (gz (xG x) + 55)), (1, .ref (gz (xG x) + 77)), (2, .int a2), (4, .int u2)] C dX8_outlook_92 (by decide) rfl ?_
                refine r_goto 108 C dX8_outlook_93 (by decide) ?_
                obtain ⟨i43, e44⟩ : ∃ z : Int32, u2 + Int32.ofInt 1 = z := ⟨_, rfl⟩
                have i43' := iinc_ok e44 (by decide) (by omega) (by omega)
                refine r_iinc [(4, .int i43), (3, .int 1), (0, .ref (gz (xG x) + 55)), (1, .ref (gz (xG x) + 77)), (2, .int a2)] 4 C dX8_outlook_108 rfl e44 (by decide) rfl ?_
                refine r_goto 5 C dX8_outlook_111 (by decide) ?_
                refine r_lv [2, 3, 4, 1, 0] rfl ?_
                exact ih10 1 i43 w35 h39 o38 (by omega) (by omega)
          · have c15' := i_ne c15
            refine r_aload_n 1 C dX8_outlook_38 rfl ?_
            refine r_iload 4 C dX8_outlook_39 rfl ?_
            refine callVI C cwX8_118_V (ctX6_fate_77 _ _ w5 (sS sC h6) o7 u2 ) (by decide) (kS sC h6 kc_77) rfl rfl rfl (Nat.le_of_ble_eq_true rfl) (by decide) dX8_outlook_41 (fun r47 w46 y45 => ?_)
            show V x 0 0 w46 44 [(0, .ref (gz (xG x) + 55)), (1, .ref (gz (xG x) + 77)), (2, .int a2), (3, .int u1), (4, .int u2)] [.int r47]
            obtain ⟨h48, o49⟩ := y45
            have h50 := Ch.tr h6 h48 (by decide) (by decide)
            refine r_aload_n 0 C dX8_outlook_44 rfl ?_
            refine gfX8_11 56 C (kS sC h50 kc_55) (xS sC h50 xc_55_3) dX8_outlook_45 ?_
            refine r_iconst (v := 0) C dX8_outlook_48 (by decide) ?_
            refine r_aald 3 rfl C (kS sC h50 kc_56) (vin (by omega) (by omega)) (xS sC h50 xc_56_0) dX8_outlook_49 ?_
            refine r_iload 4 C dX8_outlook_50 rfl ?_
            refine callVI C cwX8_118_V (ctX6_fate_59 _ _ w46 (sS sC h50) o49 u2 ) (by decide) (kS sC h50 kc_59) rfl rfl rfl (Nat.le_of_ble_eq_true rfl) (by decide) dX8_outlook_52 (fun r53 w52 y51 => ?_)
            show V x 0 0 w52 55 [(0, .ref (gz (xG x) + 55)), (1, .ref (gz (xG x) + 77)), (2, .int a2), (3, .int u1), (4, .int u2)] [.int r53, .int r47]
            obtain ⟨h54, o55⟩ := y51
            have h56 := Ch.tr h50 h54 (by decide) (by decide)
            refine r_icmp_ne 62 C dX8_outlook_55 (by decide) (fun c57 => ?_) (fun c57 => ?_)
            · have c57' := i_ne c57
              refine r_iconst (v := 0) C dX8_outlook_62 (by decide) ?_
              refine r_istore_n [(3, .int 0), (0, .ref (gz (xG x) + 55)), (1, .ref (gz (xG x) + 77)), (2, .int a2), (4, .int u2)] C dX8_outlook_63 (by decide) rfl ?_
              refine r_goto 108 C dX8_outlook_64 (by decide) ?_
              obtain ⟨i58, e59⟩ : ∃ z : Int32, u2 + Int32.ofInt 1 = z := ⟨_, rfl⟩
              have i58' := iinc_ok e59 (by decide) (by omega) (by omega)
              refine r_iinc [(4, .int i58), (3, .int 0), (0, .ref (gz (xG x) + 55)), (1, .ref (gz (xG x) + 77)), (2, .int a2)] 4 C dX8_outlook_108 rfl e59 (by decide) rfl ?_
              refine r_goto 5 C dX8_outlook_111 (by decide) ?_
              refine r_lv [2, 3, 4, 1, 0] rfl ?_
              exact ih10 0 i58 w52 h56 o55 (by omega) (by omega)
            · have c57' := i_eq c57
              refine r_iload_n 3 C dX8_outlook_58 rfl ?_
              refine r_goto 63 C dX8_outlook_59 (by decide) ?_
              refine r_istore_n [(3, .int u1), (0, .ref (gz (xG x) + 55)), (1, .ref (gz (xG x) + 77)), (2, .int a2), (4, .int u2)] C dX8_outlook_63 (by decide) rfl ?_
              refine r_goto 108 C dX8_outlook_64 (by decide) ?_
              obtain ⟨i60, e61⟩ : ∃ z : Int32, u2 + Int32.ofInt 1 = z := ⟨_, rfl⟩
              have i60' := iinc_ok e61 (by decide) (by omega) (by omega)
              refine r_iinc [(4, .int i60), (3, .int u1), (0, .ref (gz (xG x) + 55)), (1, .ref (gz (xG x) + 77)), (2, .int a2)] 4 C dX8_outlook_108 rfl e61 (by decide) rfl ?_
              refine r_goto 5 C dX8_outlook_111 (by decide) ?_
              refine r_lv [2, 3, 4, 1, 0] rfl ?_
              exact ih10 u1 i60 w52 h56 o55 (by omega) (by omega)
  refine r_iconst (v := 2) C dX8_outlook_0 (by decide) ?_
  refine r_istore_n [(3, .int 2), (0, .ref (gz (xG x) + 55)), (1, .ref (gz (xG x) + 77)), (2, .int a2)] C dX8_outlook_1 (by decide) rfl ?_
  refine r_iconst (v := 0) C dX8_outlook_2 (by decide) ?_
  refine r_istore [(4, .int 0), (3, .int 2), (0, .ref (gz (xG x) + 55)), (1, .ref (gz (xG x) + 77)), (2, .int a2)] C dX8_outlook_3 (by decide) rfl ?_
  refine r_lv [2, 3, 4, 1, 0] rfl ?_
  exact LP3 4294967296 2 0 w h0 o0 (by omega) (by omega)
set_option maxHeartbeats 4000000 in
set_option maxRecDepth 100000 in
theorem ctX8_leads_55_d6 (l : Launch) (G : Gt) (w : Wv) (sC : Str KC XC w) (o0 : Inv RC w) (a1 : Int32) (a2 : Int32) (b1 : 6 ≤ a1.toInt ∧ a1.toInt ≤ 6) : CtI l G yX8_leads cX8_leads 10 .boolean ({ frames := 3, cells := 0, slots := 0, locals := 73 } : Room) [.ref (gz G + 55), .int a1, .int a2] w (fun r w' => Ch [] [] w w' ∧ Inv RC w') := by
  refine enterI (by decide) (Nat.le_of_ble_eq_true rfl) ?_
  intro x el eG C hret
  subst el; subst eG
  obtain rfl : a1 = 6 := i_of (by have : (6 : Int32).toInt = 6 := by decide
                                   omega)
  show V x 0 0 w 0 [(0, .ref (gz (xG x) + 55)), (1, .int 6), (2, .int a2)] []
  have h0 : Ch [] [] w w := Ch.rf
  have q0 : (0 : Int32).toInt = 0 := by decide
  have q1 : (1 : Int32).toInt = 1 := by decide
  have q2 : (2 : Int32).toInt = 2 := by decide
  have q6 : (6 : Int32).toInt = 6 := by decide
  refine r_iload_n 1 C dX8_leads_0 rfl ?_
  refine r_if_lt 10 C dX8_leads_1 (by decide) (fun c1 => ?_) (fun c1 => ?_)
  · have c1' := i_lt c1
    exfalso; omega
  · have c1' := i_nlt c1
    refine r_iload_n 1 C dX8_leads_4 rfl ?_
    refine r_bipush (v := 6) C dX8_leads_5 (by decide) ?_
    refine r_icmp_le 12 C dX8_leads_7 (by decide) (fun c2 => ?_) (fun c2 => ?_)
    · have c2' := i_le c2
      refine r_aload_n 0 C dX8_leads_12 rfl ?_
      refine gfX8_11 56 C (kS sC h0 kc_55) (xS sC h0 xc_55_3) dX8_leads_13 ?_
      refine r_iload_n 1 C dX8_leads_16 rfl ?_
      refine r_aald 3 rfl C (kS sC h0 kc_56) (vin (by omega) (by omega)) (xS sC h0 xc_56_6) dX8_leads_17 ?_
      refine r_astore_n [(3, .ref (gz (xG x) + 77)), (0, .ref (gz (xG x) + 55)), (1, .int 6), (2, .int a2)] C dX8_leads_18 (by decide) rfl ?_
      refine r_iload_n 3 C dX8_leads_19 rfl ?_
      refine r_iload_n 2 C dX8_leads_20 rfl ?_
      refine r_isub C dX8_leads_21 (fun v3 e4 => ?_)
      refine r_istore [(4, .int v3), (3, .ref (gz (xG x) + 77)), (0, .ref (gz (xG x) + 55)), (1, .int 6), (2, .int a2)] C dX8_leads_22 (by decide) rfl ?_
      refine r_aload_n 2 C dX8_leads_24 rfl ?_
      refine r_aload_n 1 C dX8_leads_25 rfl ?_
      refine r_iload 0 C dX8_leads_26 rfl ?_
      refine callVI C cwX8_81_V (ctX8_outlook_55_77 _ _ w (sS sC h0) o0 v3 ) (by decide) (kS sC h0 kc_55) rfl rfl rfl (Nat.le_of_ble_eq_true rfl) (by decide) dX8_leads_28 (fun r7 w6 y5 => ?_)
      show V x 0 0 w6 31 [(4, .int v3), (3, .ref (gz (xG x) + 77)), (0, .ref (gz (xG x) + 55)), (1, .int 6), (2, .int a2)] [.int r7]
      obtain ⟨h8, o9⟩ := y5
      have h10 := Ch.tr h0 h8 (by decide) (by decide)
      refine r_istore [(5, .int r7), (4, .int v3), (3, .ref (gz (xG x) + 77)), (0, .ref (gz (xG x) + 55)), (1, .int 6), (2, .int a2)] C dX8_leads_31 (by decide) rfl ?_
      refine r_iload 0 C dX8_leads_33 rfl ?_
      refine r_iconst (v := 1) C dX8_leads_35 (by decide) ?_
      refine r_icmp_ne 50 C dX8_leads_36 (by decide) (fun c11 => ?_) (fun c11 => ?_)
      · have c11' := i_ne c11
        refine r_iload 0 C dX8_leads_50 rfl ?_
        refine r_iconst (v := 2) C dX8_leads_52 (by decide) ?_
        refine r_icmp_ne 60 C dX8_leads_53 (by decide) (fun c12 => ?_) (fun c12 => ?_)
        · have c12' := i_ne c12
          refine r_iconst (v := 0) C dX8_leads_60 (by decide) ?_
          exact hret _ _ _ _ dX8_leads_61 (nar_z (z_of (by omega))) ⟨h10, o9⟩
        · have c12' := i_eq c12
          refine r_iconst (v := 1) C dX8_leads_56 (by decide) ?_
          refine r_goto 61 C dX8_leads_57 (by decide) ?_
          exact hret _ _ _ _ dX8_leads_61 (nar_z (z_of (by omega))) ⟨h10, o9⟩
      · have c11' := i_eq c11
        refine r_iload 1 C dX8_leads_39 rfl ?_
        refine r_if_le 50 C dX8_leads_41 (by decide) (fun c13 => ?_) (fun c13 => ?_)
        · have c13' := i_le c13
          refine r_iload 0 C dX8_leads_50 rfl ?_
          refine r_iconst (v := 2) C dX8_leads_52 (by decide) ?_
          refine r_icmp_ne 60 C dX8_leads_53 (by decide) (fun c14 => ?_) (fun c14 => ?_)
          · have c14' := i_ne c14
            refine r_iconst (v := 0) C dX8_leads_60 (by decide) ?_
            exact hret _ _ _ _ dX8_leads_61 (nar_z (z_of (by omega))) ⟨h10, o9⟩
          · have c14' := i_eq c14
            exfalso; omega
        · have c13' := i_nle c13
          refine r_iload_n 4 C dX8_leads_44 rfl ?_
          refine r_bipush (v := 6) C dX8_leads_45 (by decide) ?_
          refine r_icmp_lt 62 C dX8_leads_47 (by decide) (fun c15 => ?_) (fun c15 => ?_)
          · have c15' := i_lt c15
            exfalso; omega
          · have c15' := i_nlt c15
            refine r_iload 0 C dX8_leads_50 rfl ?_
            refine r_iconst (v := 2) C dX8_leads_52 (by decide) ?_
            refine r_icmp_ne 60 C dX8_leads_53 (by decide) (fun c16 => ?_) (fun c16 => ?_)
            · have c16' := i_ne c16
              refine r_iconst (v := 0) C dX8_leads_60 (by decide) ?_
              exact hret _ _ _ _ dX8_leads_61 (nar_z (z_of (by omega))) ⟨h10, o9⟩
            · have c16' := i_eq c16
              exfalso; omega
    · have c2' := i_nle c2
      exfalso; omega
set_option maxHeartbeats 4000000 in
set_option maxRecDepth 100000 in
theorem ctX8_stepLeads_55_d5 (l : Launch) (G : Gt) (w : Wv) (sC : Str KC XC w) (o0 : Inv RC w) (a1 : Int32) (a2 : Int32) (b1 : 5 ≤ a1.toInt ∧ a1.toInt ≤ 5) : CtI l G yX8_stepLeads cX8_stepLeads 5 .boolean ({ frames := 4, cells := 0, slots := 0, locals := 102 } : Room) [.ref (gz G + 55), .int a1, .int a2] w (fun r w' => Ch [25, 26, 27, 57, 78, 79] [(77, 0), (77, 1)] w w' ∧ Inv RC w') := by
  refine enterI (by decide) (Nat.le_of_ble_eq_true rfl) ?_
  intro x el eG C hret
  subst el; subst eG
  obtain rfl : a1 = 5 := i_of (by have : (5 : Int32).toInt = 5 := by decide
                                   omega)
  show V x 0 0 w 0 [(0, .ref (gz (xG x) + 55)), (1, .int 5), (2, .int a2)] []
  have h0 : Ch [25, 26, 27, 57, 78, 79] [(77, 0), (77, 1)] w w := Ch.rf
  have q0 : (0 : Int32).toInt = 0 := by decide
  have q1 : (1 : Int32).toInt = 1 := by decide
  have q4 : (4 : Int32).toInt = 4 := by decide
  have q5 : (5 : Int32).toInt = 5 := by decide
  have q6 : (6 : Int32).toInt = 6 := by decide
  have LP3 : ∀ (f4 : Nat) (u1 : Int32) (u2 : Int32) (w5 : Wv), Ch [25, 26, 27, 57, 78, 79] [(77, 0), (77, 1)] w w5 → Inv RC w5 → (0 ≤ u2.toInt ∧ u2.toInt ≤ 2147483647) → 2147483647 - u2.toInt < f4 → V x 0 0 w5 5 [(0, .ref (gz (xG x) + 55)), (1, .int 5), (2, .int a2), (3, .int u1), (4, .int u2)] [] := by
    intro f4
    induction f4 with
    | zero => intro u1 u2 w5 h6 o7 z8 z9; exfalso; omega
    | succ f4 ih10 =>
      intro u1 u2 w5 h6 o7 z8 z9
      refine r_iload 4 C dX8_stepLeads_5 rfl ?_
      refine r_iconst (v := 4) C dX8_stepLeads_7 (by decide) ?_
      refine r_icmp_gt 86 C dX8_stepLeads_8 (by decide) (fun c11 => ?_) (fun c11 => ?_)
      · have c11' := i_lt c11
        refine r_iload_n 3 C dX8_stepLeads_86 rfl ?_
        exact hret _ _ _ _ dX8_stepLeads_87 (nar_z (z_of (by omega))) ⟨h6, o7⟩
      · have c11' := i_nlt c11
        refine r_iload_n 3 C dX8_stepLeads_11 rfl ?_
        refine r_if_ne 86 C dX8_stepLeads_12 (by decide) (fun c12 => ?_) (fun c12 => ?_)
        · have c12' := i_ne c12
          refine r_iload_n 3 C dX8_stepLeads_86 rfl ?_
          exact hret _ _ _ _ dX8_stepLeads_87 (nar_z (z_of (by omega))) ⟨h6, o7⟩
        · have c12' := i_eq c12
          refine r_aload_n 0 C dX8_stepLeads_15 rfl ?_
          refine gfX8_11 56 C (kS sC h6 kc_55) (xS sC h6 xc_55_3) dX8_stepLeads_16 ?_
          refine r_iload_n 1 C dX8_stepLeads_19 rfl ?_
          refine r_aald 3 rfl C (kS sC h6 kc_56) (vin (by omega) (by omega)) (xS sC h6 xc_56_5) dX8_stepLeads_20 ?_
          refine r_iload 4 C dX8_stepLeads_21 rfl ?_
          refine callVI C cwX8_103_V (ctX6_may_74 _ _ w5 (sS sC h6) o7 u2 ) (by decide) (kS sC h6 kc_74) rfl rfl rfl (Nat.le_of_ble_eq_true rfl) (by decide) dX8_stepLeads_23 (fun r15 w14 y13 => ?_)
          show V x 0 0 w14 26 [(0, .ref (gz (xG x) + 55)), (1, .int 5), (2, .int a2), (3, .int u1), (4, .int u2)] [.int r15]
          obtain ⟨h16, o17⟩ := y13
          have h18 := Ch.tr h6 h16 (by decide) (by decide)
          refine r_if_eq 80 C dX8_stepLeads_26 (by decide) (fun c19 => ?_) (fun c19 => ?_)
          · have c19' := i_eq c19
            obtain ⟨i20, e21⟩ : ∃ z : Int32, u2 + Int32.ofInt 1 = z := ⟨_, rfl⟩
            have i20' := iinc_ok e21 (by decide) (by omega) (by omega)
            refine r_iinc [(4, .int i20), (0, .ref (gz (xG x) + 55)), (1, .int 5), (2, .int a2), (3, .int u1)] 4 C dX8_stepLeads_80 rfl e21 (by decide) rfl ?_
            refine r_goto 5 C dX8_stepLeads_83 (by decide) ?_
            refine r_lv [1, 2, 3, 4, 0] rfl ?_
            exact ih10 u1 i20 w14 h18 o17 (by omega) (by omega)
          · have c19' := i_ne c19
            refine r_aload_n 0 C dX8_stepLeads_29 rfl ?_
            refine gfX8_11 56 C (kS sC h18 kc_55) (xS sC h18 xc_55_3) dX8_stepLeads_30 ?_
            refine r_iload_n 1 C dX8_stepLeads_33 rfl ?_
            refine r_iconst (v := 1) C dX8_stepLeads_34 (by decide) ?_
            refine r_iadd C dX8_stepLeads_35 (fun v22 e23 => ?_)
            have v22' := iadd_ok e23 (by omega) (by omega)
            rcases (show v22.toInt = 6 by omega) with c24
            · obtain rfl : v22 = 6 := i_of (by omega)
              refine r_aald 3 rfl C (kS sC h18 kc_56) (vin (by omega) (by omega)) (xS sC h18 xc_56_6) dX8_stepLeads_36 ?_
              refine r_aload_n 0 C dX8_stepLeads_37 rfl ?_
              refine gfX8_11 56 C (kS sC h18 kc_55) (xS sC h18 xc_55_3) dX8_stepLeads_38 ?_
              refine r_iload_n 1 C dX8_stepLeads_41 rfl ?_
              refine r_aald 3 rfl C (kS sC h18 kc_56) (vin (by omega) (by omega)) (xS sC h18 xc_56_5) dX8_stepLeads_42 ?_
              refine callVV C cwX8_53_V (ctX6_copy_77_74 _ _ w14 (sS sC h18) o17  ) (by decide) (kS sC h18 kc_77) rfl rfl rfl (Nat.le_of_ble_eq_true rfl) (by decide) dX8_stepLeads_43 (fun w26 y25 => ?_)
              show V x 0 0 w26 46 [(0, .ref (gz (xG x) + 55)), (1, .int 5), (2, .int a2), (3, .int u1), (4, .int u2)] []
              obtain ⟨h28, o29⟩ := y25
              have h30 := Ch.tr h18 h28 (by decide) (by decide)
              refine r_aload_n 0 C dX8_stepLeads_46 rfl ?_
              refine gfX8_11 56 C (kS sC h30 kc_55) (xS sC h30 xc_55_3) dX8_stepLeads_47 ?_
              refine r_iload_n 1 C dX8_stepLeads_50 rfl ?_
              refine r_iconst (v := 1) C dX8_stepLeads_51 (by decide) ?_
              refine r_iadd C dX8_stepLeads_52 (fun v31 e32 => ?_)
              have v31' := iadd_ok e32 (by omega) (by omega)
              rcases (show v31.toInt = 6 by omega) with c33
              · obtain rfl : v31 = 6 := i_of (by omega)
                refine r_aald 3 rfl C (kS sC h30 kc_56) (vin (by omega) (by omega)) (xS sC h30 xc_56_6) dX8_stepLeads_53 ?_
                refine r_iload 4 C dX8_stepLeads_54 rfl ?_
                refine r_aload_n 0 C dX8_stepLeads_56 rfl ?_
                refine gfX8_50 (v := (wI w 55 9)) C (kS sC h30 kc_55) (h28.I (by decide) (by decide) (h16.I (by decide) (by decide) (h6.I (by decide) (by decide) rfl))) dX8_stepLeads_57 ?_
                refine callVV C cwX8_107_V (ctX6_pass_77 _ _ w26 (sS sC h30) o29 u2 (wI w 55 9) ) (by decide) (kS sC h30 kc_77) rfl rfl rfl (Nat.le_of_ble_eq_true rfl) (by decide) dX8_stepLeads_60 (fun w35 y34 => ?_)
                show V x 0 0 w35 63 [(0, .ref (gz (xG x) + 55)), (1, .int 5), (2, .int a2), (3, .int u1), (4, .int u2)] []
                obtain ⟨h37, o38⟩ := y34
                have h39 := Ch.tr h30 h37 (by decide) (by decide)
                refine r_aload_n 0 C dX8_stepLeads_63 rfl ?_
                refine gfX8_17 57 C (kS sC h39 kc_55) (xS sC h39 xc_55_4) dX8_stepLeads_64 ?_
                refine r_iload_n 1 C dX8_stepLeads_67 rfl ?_
                refine r_iload 4 C dX8_stepLeads_68 rfl ?_
                refine r_iast C (kS sC h39 kc_57) (vin (by omega) (by omega)) dX8_stepLeads_70 (fun w40 e41 => ?_)
                have h42 := Ch.putS h39 e41 (by decide)
                have o43 := Inv.put0 o38 e41 (by decide)
                refine r_aload_n 0 C dX8_stepLeads_71 rfl ?_
                refine r_iload_n 1 C dX8_stepLeads_72 rfl ?_
                refine r_iconst (v := 1) C dX8_stepLeads_73 (by decide) ?_
                refine r_iadd C dX8_stepLeads_74 (fun v44 e45 => ?_)
                have v44' := iadd_ok e45 (by omega) (by omega)
                refine r_iload_n 2 C dX8_stepLeads_75 rfl ?_
                refine callVI C cwX8_65_V (ctX8_leads_55_d6 _ _ w40 (sS sC h42) o43 v44 a2 (by omega)) (by decide) (kS sC h42 kc_55) rfl rfl rfl (Nat.le_of_ble_eq_true rfl) (by decide) dX8_stepLeads_76 (fun r48 w47 y46 => ?_)
                show V x 0 0 w47 79 [(0, .ref (gz (xG x) + 55)), (1, .int 5), (2, .int a2), (3, .int u1), (4, .int u2)] [.int r48]
                obtain ⟨h49, o50⟩ := y46
                have h51 := Ch.tr h42 h49 (by decide) (by decide)
                refine r_istore_n [(3, .int r48), (0, .ref (gz (xG x) + 55)), (1, .int 5), (2, .int a2), (4, .int u2)] C dX8_stepLeads_79 (by decide) rfl ?_
                obtain ⟨i52, e53⟩ : ∃ z : Int32, u2 + Int32.ofInt 1 = z := ⟨_, rfl⟩
                have i52' := iinc_ok e53 (by decide) (by omega) (by omega)
                refine r_iinc [(4, .int i52), (3, .int r48), (0, .ref (gz (xG x) + 55)), (1, .int 5), (2, .int a2)] 4 C dX8_stepLeads_80 rfl e53 (by decide) rfl ?_
                refine r_goto 5 C dX8_stepLeads_83 (by decide) ?_
                refine r_lv [2, 3, 4, 1, 0] rfl ?_
                exact ih10 r48 i52 w47 h51 o50 (by omega) (by omega)
  refine r_iconst (v := 0) C dX8_stepLeads_0 (by decide) ?_
  refine r_istore_n [(3, .int 0), (0, .ref (gz (xG x) + 55)), (1, .int 5), (2, .int a2)] C dX8_stepLeads_1 (by decide) rfl ?_
  refine r_iconst (v := 0) C dX8_stepLeads_2 (by decide) ?_
  refine r_istore [(4, .int 0), (3, .int 0), (0, .ref (gz (xG x) + 55)), (1, .int 5), (2, .int a2)] C dX8_stepLeads_3 (by decide) rfl ?_
  refine r_lv [2, 3, 4, 1, 0] rfl ?_
  exact LP3 4294967296 0 0 w h0 o0 (by omega) (by omega)
set_option maxHeartbeats 4000000 in
set_option maxRecDepth 100000 in
theorem ctX8_leads_55_d5 (l : Launch) (G : Gt) (w : Wv) (sC : Str KC XC w) (o0 : Inv RC w) (a1 : Int32) (a2 : Int32) (b1 : 5 ≤ a1.toInt ∧ a1.toInt ≤ 5) : CtI l G yX8_leads cX8_leads 10 .boolean ({ frames := 5, cells := 0, slots := 0, locals := 126 } : Room) [.ref (gz G + 55), .int a1, .int a2] w (fun r w' => Ch [25, 26, 27, 52, 53, 54, 57, 78, 79] [(77, 0), (77, 1)] w w' ∧ Inv RC w') := by
  refine enterI (by decide) (Nat.le_of_ble_eq_true rfl) ?_
  intro x el eG C hret
  subst el; subst eG
  obtain rfl : a1 = 5 := i_of (by have : (5 : Int32).toInt = 5 := by decide
                                   omega)
  show V x 0 0 w 0 [(0, .ref (gz (xG x) + 55)), (1, .int 5), (2, .int a2)] []
  have h0 : Ch [25, 26, 27, 52, 53, 54, 57, 78, 79] [(77, 0), (77, 1)] w w := Ch.rf
  have q0 : (0 : Int32).toInt = 0 := by decide
  have q1 : (1 : Int32).toInt = 1 := by decide
  have q2 : (2 : Int32).toInt = 2 := by decide
  have q5 : (5 : Int32).toInt = 5 := by decide
  have q6 : (6 : Int32).toInt = 6 := by decide
  refine r_iload_n 1 C dX8_leads_0 rfl ?_
  refine r_if_lt 10 C dX8_leads_1 (by decide) (fun c1 => ?_) (fun c1 => ?_)
  · have c1' := i_lt c1
    exfalso; omega
  · have c1' := i_nlt c1
    refine r_iload_n 1 C dX8_leads_4 rfl ?_
    refine r_bipush (v := 6) C dX8_leads_5 (by decide) ?_
    refine r_icmp_le 12 C dX8_leads_7 (by decide) (fun c2 => ?_) (fun c2 => ?_)
    · have c2' := i_le c2
      refine r_aload_n 0 C dX8_leads_12 rfl ?_
      refine gfX8_11 56 C (kS sC h0 kc_55) (xS sC h0 xc_55_3) dX8_leads_13 ?_
      refine r_iload_n 1 C dX8_leads_16 rfl ?_
      refine r_aald 3 rfl C (kS sC h0 kc_56) (vin (by omega) (by omega)) (xS sC h0 xc_56_5) dX8_leads_17 ?_
      refine r_astore_n [(3, .ref (gz (xG x) + 74)), (0, .ref (gz (xG x) + 55)), (1, .int 5), (2, .int a2)] C dX8_leads_18 (by decide) rfl ?_
      refine r_iload_n 3 C dX8_leads_19 rfl ?_
      refine r_iload_n 2 C dX8_leads_20 rfl ?_
      refine r_isub C dX8_leads_21 (fun v3 e4 => ?_)
      refine r_istore [(4, .int v3), (3, .ref (gz (xG x) + 74)), (0, .ref (gz (xG x) + 55)), (1, .int 5), (2, .int a2)] C dX8_leads_22 (by decide) rfl ?_
      refine r_aload_n 2 C dX8_leads_24 rfl ?_
      refine r_aload_n 1 C dX8_leads_25 rfl ?_
      refine r_iload 0 C dX8_leads_26 rfl ?_
      refine callVI C cwX8_81_V (ctX8_outlook_55_74 _ _ w (sS sC h0) o0 v3 ) (by decide) (kS sC h0 kc_55) rfl rfl rfl (Nat.le_of_ble_eq_true rfl) (by decide) dX8_leads_28 (fun r7 w6 y5 => ?_)
      show V x 0 0 w6 31 [(4, .int v3), (3, .ref (gz (xG x) + 74)), (0, .ref (gz (xG x) + 55)), (1, .int 5), (2, .int a2)] [.int r7]
      obtain ⟨h8, o9⟩ := y5
      have h10 := Ch.tr h0 h8 (by decide) (by decide)
      refine r_istore [(5, .int r7), (4, .int v3), (3, .ref (gz (xG x) + 74)), (0, .ref (gz (xG x) + 55)), (1, .int 5), (2, .int a2)] C dX8_leads_31 (by decide) rfl ?_
      refine r_iload 0 C dX8_leads_33 rfl ?_
      refine r_iconst (v := 1) C dX8_leads_35 (by decide) ?_
      refine r_icmp_ne 50 C dX8_leads_36 (by decide) (fun c11 => ?_) (fun c11 => ?_)
      · have c11' := i_ne c11
        refine r_iload 0 C dX8_leads_50 rfl ?_
        refine r_iconst (v := 2) C dX8_leads_52 (by decide) ?_
        refine r_icmp_ne 60 C dX8_leads_53 (by decide) (fun c12 => ?_) (fun c12 => ?_)
        · have c12' := i_ne c12
          refine r_iconst (v := 0) C dX8_leads_60 (by decide) ?_
          exact hret _ _ _ _ dX8_leads_61 (nar_z (z_of (by omega))) ⟨h10, o9⟩
        · have c12' := i_eq c12
          refine r_iconst (v := 1) C dX8_leads_56 (by decide) ?_
          refine r_goto 61 C dX8_leads_57 (by decide) ?_
          exact hret _ _ _ _ dX8_leads_61 (nar_z (z_of (by omega))) ⟨h10, o9⟩
      · have c11' := i_eq c11
        refine r_iload 1 C dX8_leads_39 rfl ?_
        refine r_if_le 50 C dX8_leads_41 (by decide) (fun c13 => ?_) (fun c13 => ?_)
        · have c13' := i_le c13
          refine r_iload 0 C dX8_leads_50 rfl ?_
          refine r_iconst (v := 2) C dX8_leads_52 (by decide) ?_
          refine r_icmp_ne 60 C dX8_leads_53 (by decide) (fun c14 => ?_) (fun c14 => ?_)
          · have c14' := i_ne c14
            refine r_iconst (v := 0) C dX8_leads_60 (by decide) ?_
            exact hret _ _ _ _ dX8_leads_61 (nar_z (z_of (by omega))) ⟨h10, o9⟩
          · have c14' := i_eq c14
            exfalso; omega
        · have c13' := i_nle c13
          refine r_iload_n 4 C dX8_leads_44 rfl ?_
          refine r_bipush (v := 6) C dX8_leads_45 (by decide) ?_
          refine r_icmp_lt 62 C dX8_leads_47 (by decide) (fun c15 => ?_) (fun c15 => ?_)
          · have c15' := i_lt c15
            refine r_aload_n 2 C dX8_leads_62 rfl ?_
            refine callVL C cwX8_85_V (ctX6_places_74 _ _ w6 (sS sC h10) o9  ) (by decide) (kS sC h10 kc_74) rfl rfl rfl (Nat.le_of_ble_eq_true rfl) (by decide) dX8_leads_63 (fun r18 w17 y16 => ?_)
            show V x 0 0 w17 66 [(5, .int r7), (4, .int v3), (3, .ref (gz (xG x) + 74)), (0, .ref (gz (xG x) + 55)), (1, .int 5), (2, .int a2)] [.long r18]
            obtain ⟨h19, o20⟩ := y16
            have h21 := Ch.tr h10 h19 (by decide) (by decide)
            refine r_lstore [(6, .long r18), (5, .int r7), (4, .int v3), (3, .ref (gz (xG x) + 74)), (0, .ref (gz (xG x) + 55)), (1, .int 5), (2, .int a2)] C dX8_leads_66 (by decide) rfl ?_
            refine r_aload_n 3 C dX8_leads_68 rfl ?_
            refine callVL C cwX8_89_V (ctX6_goals_74 _ _ w17 (sS sC h21) o20  ) (by decide) (kS sC h21 kc_74) rfl rfl rfl (Nat.le_of_ble_eq_true rfl) (by decide) dX8_leads_69 (fun r24 w23 y22 => ?_)
            show V x 0 0 w23 72 [(6, .long r18), (5, .int r7), (4, .int v3), (3, .ref (gz (xG x) + 74)), (0, .ref (gz (xG x) + 55)), (1, .int 5), (2, .int a2)] [.long r24]
            obtain ⟨h25, o26⟩ := y22
            have h27 := Ch.tr h21 h25 (by decide) (by decide)
            refine r_lstore [(8, .long r24), (6, .long r18), (5, .int r7), (4, .int v3), (3, .ref (gz (xG x) + 74)), (0, .ref (gz (xG x) + 55)), (1, .int 5), (2, .int a2)] C dX8_leads_72 (by decide) rfl ?_
            refine r_aload_n 5 C dX8_leads_74 rfl ?_
            refine gfX8_32 51 C (kS sC h27 kc_55) (xS sC h27 xc_55_6) dX8_leads_75 ?_
            refine r_lload 1 C dX8_leads_78 rfl ?_
            refine r_lload 0 C dX8_leads_80 rfl ?_
            refine callVI C cwX8_92_V (ctX3_value_51 _ _ w23 (sS sC h27) o26 r18 r24 ) (by decide) (kS sC h27 kc_51) rfl rfl rfl (Nat.le_of_ble_eq_true rfl) (by decide) dX8_leads_82 (fun r30 w29 y28 => ?_)
            show V x 0 0 w29 85 [(8, .long r24), (6, .long r18), (5, .int r7), (4, .int v3), (3, .ref (gz (xG x) + 74)), (0, .ref (gz (xG x) + 55)), (1, .int 5), (2, .int a2)] [.int r30]
            obtain ⟨h31, o32⟩ := y28
            have h33 := Ch.tr h27 h31 (by decide) (by decide)
            refine r_iload 3 C dX8_leads_85 rfl ?_
            refine r_icmp_lt 92 C dX8_leads_87 (by decide) (fun c34 => ?_) (fun c34 => ?_)
            · have c34' := i_lt c34
              refine r_aload_n 5 C dX8_leads_92 rfl ?_
              refine r_iload_n 6 C dX8_leads_93 rfl ?_
              refine r_iload_n 7 C dX8_leads_94 rfl ?_
              refine callVI C cwX8_96_V (ctX8_stepLeads_55_d5 _ _ w29 (sS sC h33) o32 5 a2 (by omega)) (by decide) (kS sC h33 kc_55) rfl rfl rfl (Nat.le_of_ble_eq_true rfl) (by decide) dX8_leads_95 (fun r37 w36 y35 => ?_)
              show V x 0 0 w36 98 [(8, .long r24), (6, .long r18), (5, .int r7), (4, .int v3), (3, .ref (gz (xG x) + 74)), (0, .ref (gz (xG x) + 55)), (1, .int 5), (2, .int a2)] [.int r37]
              obtain ⟨h38, o39⟩ := y35
              have h40 := Ch.tr h33 h38 (by decide) (by decide)
              refine r_if_eq 103 C dX8_leads_98 (by decide) (fun c41 => ?_) (fun c41 => ?_)
              · have c41' := i_eq c41
                refine r_aload_n 5 C dX8_leads_103 rfl ?_
                refine gfX8_32 51 C (kS sC h40 kc_55) (xS sC h40 xc_55_6) dX8_leads_104 ?_
                refine r_lload 1 C dX8_leads_107 rfl ?_
                refine r_lload 0 C dX8_leads_109 rfl ?_
                refine r_iload 3 C dX8_leads_111 rfl ?_
                refine callVV C cwX8_99_V (ctX3_put_51 _ _ w36 (sS sC h40) o39 r18 r24 v3 ) (by decide) (kS sC h40 kc_51) rfl rfl rfl (Nat.le_of_ble_eq_true rfl) (by decide) dX8_leads_113 (fun w43 y42 => ?_)
                show V x 0 0 w43 116 [(8, .long r24), (6, .long r18), (5, .int r7), (4, .int v3), (3, .ref (gz (xG x) + 74)), (0, .ref (gz (xG x) + 55)), (1, .int 5), (2, .int a2)] []
                obtain ⟨h45, o46⟩ := y42
                have h47 := Ch.tr h40 h45 (by decide) (by decide)
                refine r_iconst (v := 0) C dX8_leads_116 (by decide) ?_
                exact hret _ _ _ _ dX8_leads_117 (nar_z (z_of (by omega))) ⟨h47, o46⟩
              · have c41' := i_ne c41
                refine r_iconst (v := 1) C dX8_leads_101 (by decide) ?_
                exact hret _ _ _ _ dX8_leads_102 (nar_z (z_of (by omega))) ⟨h40, o39⟩
            · have c34' := i_nlt c34
              refine r_iconst (v := 0) C dX8_leads_90 (by decide) ?_
              exact hret _ _ _ _ dX8_leads_91 (nar_z (z_of (by omega))) ⟨h33, o32⟩
          · have c15' := i_nlt c15
            exfalso; omega
    · have c2' := i_nle c2
      exfalso; omega
