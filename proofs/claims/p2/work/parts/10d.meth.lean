set_option maxHeartbeats 4000000 in
set_option maxRecDepth 100000 in
theorem ctX6_hears_65 (l : Launch) (G : Gt) (w : Wv) (sC : Str KC XC w) (o0 : Inv RC w) (a1 : Int32) (a2 : Int32) : CtI l G yX6_hears cX6_hears 4 .boolean ({ frames := 2, cells := 0, slots := 0, locals := 50 } : Room) [.ref (gz G + 65), .int a1, .int a2] w (fun r w' => Ch [25, 26, 27] [] w w' ∧ Inv RC w') := by
  refine enterI (by decide) (Nat.le_of_ble_eq_true rfl) ?_
  intro x el eG C hret
  subst el; subst eG
  show V x 0 0 w 0 [(0, .ref (gz (xG x) + 65)), (1, .int a1), (2, .int a2)] []
  have h0 : Ch [25, 26, 27] [] w w := Ch.rf
  have qm1 : ((-1) : Int32).toInt = (-1) := by decide
  have q0 : (0 : Int32).toInt = 0 := by decide
  have q1 : (1 : Int32).toInt = 1 := by decide
  refine r_aload_n 0 C dX6_hears_0 rfl ?_
  refine gfX6_18 3 C (kS sC h0 kc_65) (xS sC h0 xc_65_4) dX6_hears_1 ?_
  refine r_iload_n 1 C dX6_hears_4 rfl ?_
  refine r_iload_n 2 C dX6_hears_5 rfl ?_
  refine callVI C cwX6_63_V (ctX9_isFollower_3 _ _ w (sS sC h0) o0 a1 a2 ) (by decide) (kS sC h0 kc_3) rfl rfl rfl (Nat.le_of_ble_eq_true rfl) (by decide) dX6_hears_6 (fun r3 w2 y1 => ?_)
  show V x 0 0 w2 9 [(0, .ref (gz (xG x) + 65)), (1, .int a1), (2, .int a2)] [.int r3]
  obtain ⟨h4, o5, g6⟩ := y1
  have h7 := Ch.tr h0 h4 (by decide) (by decide)
  refine r_if_eq 20 C dX6_hears_9 (by decide) (fun c8 => ?_) (fun c8 => ?_)
  · have c8' := i_eq c8
    refine r_iconst (v := 0) C dX6_hears_20 (by decide) ?_
    exact hret _ _ _ _ dX6_hears_21 (nar_z (z_of (by omega))) ⟨h7, o5⟩
  · have c8' := i_ne c8
    refine r_aload_n 0 C dX6_hears_12 rfl ?_
    refine r_iload_n 1 C dX6_hears_13 rfl ?_
    refine callVI C cwX6_66_V (ctX6_isHere_65 _ _ w2 (sS sC h7) o5 a1 ) (by decide) (kS sC h7 kc_65) rfl rfl rfl (Nat.le_of_ble_eq_true rfl) (by decide) dX6_hears_14 (fun r11 w10 y9 => ?_)
    show V x 0 0 w10 17 [(0, .ref (gz (xG x) + 65)), (1, .int a1), (2, .int a2)] [.int r11]
    obtain ⟨h12, o13⟩ := y9
    have h14 := Ch.tr h7 h12 (by decide) (by decide)
    refine r_if_ne 22 C dX6_hears_17 (by decide) (fun c15 => ?_) (fun c15 => ?_)
    · have c15' := i_ne c15
      refine r_aload_n 0 C dX6_hears_22 rfl ?_
      refine gfX6_22 21 C (kS sC h14 kc_65) (xS sC h14 xc_65_5) dX6_hears_23 ?_
      refine r_aload_n 0 C dX6_hears_26 rfl ?_
      refine gfX6_9 66 C (kS sC h14 kc_65) (xS sC h14 xc_65_2) dX6_hears_27 ?_
      refine r_iload_n 1 C dX6_hears_30 rfl ?_
      refine r_iald C (kS sC h14 kc_66) (vin (by omega) (by omega)) dX6_hears_31 ?_
      generalize (wI w10 66 (a1).toNatClampNeg) = v16
      refine r_aload_n 0 C dX6_hears_32 rfl ?_
      refine gfX6_32 (v := (wI w 65 0)) C (kS sC h14 kc_65) (h12.I (by decide) (by decide) (h4.I (by decide) (by decide) rfl)) dX6_hears_33 ?_
      refine callVI C cwX6_70_V (ctX1_steps_21 _ _ w10 (sS sC h14) o13 v16 (wI w 65 0) ) (by decide) (kS sC h14 kc_21) rfl rfl rfl (Nat.le_of_ble_eq_true rfl) (by decide) dX6_hears_36 (fun r19 w18 y17 => ?_)
      show V x 0 0 w18 39 [(0, .ref (gz (xG x) + 65)), (1, .int a1), (2, .int a2)] [.int r19]
      obtain ⟨h20, o21⟩ := y17
      have h22 := Ch.tr h14 h20 (by decide) (by decide)
      refine r_istore_n [(3, .int r19), (0, .ref (gz (xG x) + 65)), (1, .int a1), (2, .int a2)] C dX6_hears_39 (by decide) rfl ?_
      refine r_iload_n 0 C dX6_hears_40 rfl ?_
      refine r_iconst (v := (-1)) C dX6_hears_41 (by decide) ?_
      refine r_icmp_eq 62 C dX6_hears_42 (by decide) (fun c23 => ?_) (fun c23 => ?_)
      · have c23' := i_eq c23
        refine r_iconst (v := 0) C dX6_hears_62 (by decide) ?_
        exact hret _ _ _ _ dX6_hears_63 (nar_z (z_of (by omega))) ⟨h22, o21⟩
      · have c23' := i_ne c23
        refine r_iload_n 0 C dX6_hears_45 rfl ?_
        refine r_aload_n 1 C dX6_hears_46 rfl ?_
        refine gfX6_18 3 C (kS sC h22 kc_65) (xS sC h22 xc_65_4) dX6_hears_47 ?_
        refine gfX6_73 11 C (kS sC h22 kc_3) (xS sC h22 xc_3_16) dX6_hears_50 ?_
        refine r_iload_n 3 C dX6_hears_53 rfl ?_
        refine r_iald C (kS sC h22 kc_11) (vin (by omega) (by omega)) dX6_hears_54 ?_
        generalize (wI w18 11 (a2).toNatClampNeg) = v24
        refine r_icmp_gt 62 C dX6_hears_55 (by decide) (fun c25 => ?_) (fun c25 => ?_)
        · have c25' := i_lt c25
          refine r_iconst (v := 0) C dX6_hears_62 (by decide) ?_
          exact hret _ _ _ _ dX6_hears_63 (nar_z (z_of (by omega))) ⟨h22, o21⟩
        · have c25' := i_nlt c25
          refine r_iconst (v := 1) C dX6_hears_58 (by decide) ?_
          refine r_goto 63 C dX6_hears_59 (by decide) ?_
          exact hret _ _ _ _ dX6_hears_63 (nar_z (z_of (by omega))) ⟨h22, o21⟩
    · have c15' := i_eq c15
      refine r_iconst (v := 0) C dX6_hears_20 (by decide) ?_
      exact hret _ _ _ _ dX6_hears_21 (nar_z (z_of (by omega))) ⟨h14, o13⟩
set_option maxHeartbeats 4000000 in
set_option maxRecDepth 100000 in
theorem ctX6_lead_65 (l : Launch) (G : Gt) (w : Wv) (sC : Str KC XC w) (o0 : Inv RC w) (a1 : Int32) (b1 : 0 ≤ a1.toInt ∧ a1.toInt ≤ 5) : CtV l G yX6_lead cX6_lead 4 ({ frames := 2, cells := 0, slots := 0, locals := 54 } : Room) [.ref (gz G + 65), .int a1] w (fun w' => Ch [25, 26, 27, 66, 67] [] w w' ∧ Inv RC w') := by
  refine enterV (by decide) (Nat.le_of_ble_eq_true rfl) ?_
  intro x el eG C hnm hret
  subst el; subst eG
  show V x 0 0 w 0 [(0, .ref (gz (xG x) + 65)), (1, .int a1)] []
  have h0 : Ch [25, 26, 27, 66, 67] [] w w := Ch.rf
  have qm1 : ((-1) : Int32).toInt = (-1) := by decide
  have q0 : (0 : Int32).toInt = 0 := by decide
  have LP2 : ∀ (f3 : Nat) (u1 : Int32) (w4 : Wv), Ch [25, 26, 27, 66, 67] [] w w4 → Inv RC w4 → (0 ≤ u1.toInt ∧ u1.toInt ≤ 2147483647) → 2147483647 - u1.toInt < f3 → V x 0 0 w4 2 [(0, .ref (gz (xG x) + 65)), (1, .int a1), (2, .int u1)] [] := by
    intro f3
    induction f3 with
    | zero => intro u1 w4 h5 o6 z7 z8; exfalso; omega
    | succ f3 ih9 =>
      intro u1 w4 h5 o6 z7 z8
      refine r_iload_n 2 C dX6_lead_2 rfl ?_
      refine r_aload_n 0 C dX6_lead_3 rfl ?_
      refine gfX6_18 3 C (kS sC h5 kc_65) (xS sC h5 xc_65_4) dX6_lead_4 ?_
      refine gfX6_76 8 C (kS sC h5 kc_3) (xS sC h5 xc_3_13) dX6_lead_7 ?_
      refine r_iload_n 1 C dX6_lead_10 rfl ?_
      refine r_iald C (kS sC h5 kc_8) (vin (by omega) (by omega)) dX6_lead_11 ?_
      generalize (wI w4 8 (a1).toNatClampNeg) = v10
      refine r_icmp_ge 102 C dX6_lead_12 (by decide) (fun c11 => ?_) (fun c11 => ?_)
      · have c11' := i_le c11
        exact hret _ _ _ dX6_lead_102 ⟨h5, o6⟩
      · have c11' := i_nle c11
        refine r_aload_n 0 C dX6_lead_15 rfl ?_
        refine gfX6_15 67 C (kS sC h5 kc_65) (xS sC h5 xc_65_3) dX6_lead_16 ?_
        refine r_iload_n 1 C dX6_lead_19 rfl ?_
        refine r_iald C (kS sC h5 kc_67) (vin (by omega) (by omega)) dX6_lead_20 ?_
        generalize (wI w4 67 (a1).toNatClampNeg) = v12
        refine r_iconst (v := (-1)) C dX6_lead_21 (by decide) ?_
        refine r_icmp_eq 102 C dX6_lead_22 (by decide) (fun c13 => ?_) (fun c13 => ?_)
        · have c13' := i_eq c13
          exact hret _ _ _ dX6_lead_102 ⟨h5, o6⟩
        · have c13' := i_ne c13
          refine r_aload_n 0 C dX6_lead_25 rfl ?_
          refine gfX6_22 21 C (kS sC h5 kc_65) (xS sC h5 xc_65_5) dX6_lead_26 ?_
          refine r_aload_n 0 C dX6_lead_29 rfl ?_
          refine gfX6_9 66 C (kS sC h5 kc_65) (xS sC h5 xc_65_2) dX6_lead_30 ?_
          refine r_iload_n 1 C dX6_lead_33 rfl ?_
          refine r_iald C (kS sC h5 kc_66) (vin (by omega) (by omega)) dX6_lead_34 ?_
          generalize (wI w4 66 (a1).toNatClampNeg) = v14
          refine r_aload_n 0 C dX6_lead_35 rfl ?_
          refine gfX6_15 67 C (kS sC h5 kc_65) (xS sC h5 xc_65_3) dX6_lead_36 ?_
          refine r_iload_n 1 C dX6_lead_39 rfl ?_
          refine r_iald C (kS sC h5 kc_67) (vin (by omega) (by omega)) dX6_lead_40 ?_
          generalize (wI w4 67 (a1).toNatClampNeg) = v15
          refine callVI C cwX6_79_V (ctX1_onward_21 _ _ w4 (sS sC h5) o6 v14 v15 ) (by decide) (kS sC h5 kc_21) rfl rfl rfl (Nat.le_of_ble_eq_true rfl) (by decide) dX6_lead_41 (fun r18 w17 y16 => ?_)
          show V x 0 0 w17 44 [(0, .ref (gz (xG x) + 65)), (1, .int a1), (2, .int u1)] [.int r18]
          obtain ⟨h19, o20⟩ := y16
          have h21 := Ch.tr h5 h19 (by decide) (by decide)
          refine r_istore_n [(3, .int r18), (0, .ref (gz (xG x) + 65)), (1, .int a1), (2, .int u1)] C dX6_lead_44 (by decide) rfl ?_
          refine r_aload_n 1 C dX6_lead_45 rfl ?_
          refine gfX6_9 66 C (kS sC h21 kc_65) (xS sC h21 xc_65_2) dX6_lead_46 ?_
          refine r_iload_n 2 C dX6_lead_49 rfl ?_
          refine r_iload_n 0 C dX6_lead_50 rfl ?_
          refine r_iconst (v := (-1)) C dX6_lead_51 (by decide) ?_
          refine r_icmp_ne 64 C dX6_lead_52 (by decide) (fun c22 => ?_) (fun c22 => ?_)
          · have c22' := i_ne c22
            refine r_iload_n 0 C dX6_lead_64 rfl ?_
            refine r_iast C (kS sC h21 kc_66) (vin (by omega) (by omega)) dX6_lead_65 (fun w23 e24 => ?_)
            have h25 := Ch.putS h21 e24 (by decide)
            have o26 := Inv.put0 o20 e24 (by decide)
            refine r_aload_n 1 C dX6_lead_66 rfl ?_
            refine gfX6_9 66 C (kS sC h25 kc_65) (xS sC h25 xc_65_2) dX6_lead_67 ?_
            refine r_iload_n 2 C dX6_lead_70 rfl ?_
            refine r_iald C (kS sC h25 kc_66) (vin (by omega) (by omega)) dX6_lead_71 ?_
            generalize (wI w23 66 (a1).toNatClampNeg) = v27
            refine r_aload_n 1 C dX6_lead_72 rfl ?_
            refine gfX6_15 67 C (kS sC h25 kc_65) (xS sC h25 xc_65_3) dX6_lead_73 ?_
            refine r_iload_n 2 C dX6_lead_76 rfl ?_
            refine r_iald C (kS sC h25 kc_67) (vin (by omega) (by omega)) dX6_lead_77 ?_
            generalize (wI w23 67 (a1).toNatClampNeg) = v28
            refine r_icmp_eq 89 C dX6_lead_78 (by decide) (fun c29 => ?_) (fun c29 => ?_)
            · have c29' := i_eq c29
              refine r_aload_n 1 C dX6_lead_89 rfl ?_
              refine gfX6_15 67 C (kS sC h25 kc_65) (xS sC h25 xc_65_3) dX6_lead_90 ?_
              refine r_iload_n 2 C dX6_lead_93 rfl ?_
              refine r_iconst (v := (-1)) C dX6_lead_94 (by decide) ?_
              refine r_iast C (kS sC h25 kc_67) (vin (by omega) (by omega)) dX6_lead_95 (fun w30 e31 => ?_)
              have h32 := Ch.putS h25 e31 (by decide)
              have o33 := Inv.put0 o26 e31 (by decide)
              obtain ⟨i34, e35⟩ : ∃ z : Int32, u1 + Int32.ofInt 1 = z := ⟨_, rfl⟩
              have i34' := iinc_ok e35 (by decide) (by omega) (by omega)
              refine r_iinc [(2, .int i34), (3, .int r18), (0, .ref (gz (xG x) + 65)), (1, .int a1)] 3 C dX6_lead_96 rfl e35 (by decide) rfl ?_
              refine r_goto 2 C dX6_lead_99 (by decide) ?_
              refine r_lv [2, 3, 0] rfl ?_
              exact ih9 i34 w30 h32 o33 (by omega) (by omega)
            · have c29' := i_ne c29
              refine r_aload_n 1 C dX6_lead_81 rfl ?_
              refine r_iload_n 2 C dX6_lead_82 rfl ?_
              refine callVI C cwX6_82_V (ctX6_fate_65 _ _ w23 (sS sC h25) o26 a1 ) (by decide) (kS sC h25 kc_65) rfl rfl rfl (Nat.le_of_ble_eq_true rfl) (by decide) dX6_lead_83 (fun r38 w37 y36 => ?_)
              show V x 0 0 w37 86 [(3, .int r18), (0, .ref (gz (xG x) + 65)), (1, .int a1), (2, .int u1)] [.int r38]
              obtain ⟨h39, o40⟩ := y36
              have h41 := Ch.tr h25 h39 (by decide) (by decide)
              refine r_if_eq 96 C dX6_lead_86 (by decide) (fun c42 => ?_) (fun c42 => ?_)
              · have c42' := i_eq c42
                obtain ⟨i43, e44⟩ : ∃ z : Int32, u1 + Int32.ofInt 1 = z := ⟨_, rfl⟩
                have i43' := iinc_ok e44 (by decide) (by omega) (by omega)
                refine r_iinc [(2, .int i43), (3, .int r18), (0, .ref (gz (xG x) + 65)), (1, .int a1)] 3 C dX6_lead_96 rfl e44 (by decide) rfl ?_
                refine r_goto 2 C dX6_lead_99 (by decide) ?_
                refine r_lv [2, 3, 0] rfl ?_
                exact ih9 i43 w37 h41 o40 (by omega) (by omega)
              · have c42' := i_ne c42
                refine r_aload_n 1 C dX6_lead_89 rfl ?_
                refine gfX6_15 67 C (kS sC h41 kc_65) (xS sC h41 xc_65_3) dX6_lead_90 ?_
                refine r_iload_n 2 C dX6_lead_93 rfl ?_
                refine r_iconst (v := (-1)) C dX6_lead_94 (by decide) ?_
                refine r_iast C (kS sC h41 kc_67) (vin (by omega) (by omega)) dX6_lead_95 (fun w45 e46 => ?_)
                have h47 := Ch.putS h41 e46 (by decide)
                have o48 := Inv.put0 o40 e46 (by decide)
                obtain ⟨i49, e50⟩ : ∃ z : Int32, u1 + Int32.ofInt 1 = z := ⟨_, rfl⟩
                have i49' := iinc_ok e50 (by decide) (by omega) (by omega)
                refine r_iinc [(2, .int i49), (3, .int r18), (0, .ref (gz (xG x) + 65)), (1, .int a1)] 3 C dX6_lead_96 rfl e50 (by decide) rfl ?_
                refine r_goto 2 C dX6_lead_99 (by decide) ?_
                refine r_lv [2, 3, 0] rfl ?_
                exact ih9 i49 w45 h47 o48 (by omega) (by omega)
          · have c22' := i_eq c22
            refine r_aload_n 1 C dX6_lead_55 rfl ?_
            refine gfX6_9 66 C (kS sC h21 kc_65) (xS sC h21 xc_65_2) dX6_lead_56 ?_
            refine r_iload_n 2 C dX6_lead_59 rfl ?_
            refine r_iald C (kS sC h21 kc_66) (vin (by omega) (by omega)) dX6_lead_60 ?_
            generalize (wI w17 66 (a1).toNatClampNeg) = v51
            refine r_goto 65 C dX6_lead_61 (by decide) ?_
            refine r_iast C (kS sC h21 kc_66) (vin (by omega) (by omega)) dX6_lead_65 (fun w52 e53 => ?_)
            have h54 := Ch.putS h21 e53 (by decide)
            have o55 := Inv.put0 o20 e53 (by decide)
            refine r_aload_n 1 C dX6_lead_66 rfl ?_
            refine gfX6_9 66 C (kS sC h54 kc_65) (xS sC h54 xc_65_2) dX6_lead_67 ?_
            refine r_iload_n 2 C dX6_lead_70 rfl ?_
            refine r_iald C (kS sC h54 kc_66) (vin (by omega) (by omega)) dX6_lead_71 ?_
            generalize (wI w52 66 (a1).toNatClampNeg) = v56
            refine r_aload_n 1 C dX6_lead_72 rfl ?_
            refine gfX6_15 67 C (kS sC h54 kc_65) (xS sC h54 xc_65_3) dX6_lead_73 ?_
            refine r_iload_n 2 C dX6_lead_76 rfl ?_
            refine r_iald C (kS sC h54 kc_67) (vin (by omega) (by omega)) dX6_lead_77 ?_
            generalize (wI w52 67 (a1).toNatClampNeg) = v57
            refine r_icmp_eq 89 C dX6_lead_78 (by decide) (fun c58 => ?_) (fun c58 => ?_)
            · have c58' := i_eq c58
              refine r_aload_n 1 C dX6_lead_89 rfl ?_
              refine gfX6_15 67 C (kS sC h54 kc_65) (xS sC h54 xc_65_3) dX6_lead_90 ?_
              refine r_iload_n 2 C dX6_lead_93 rfl ?_
              refine r_iconst (v := (-1)) C dX6_lead_94 (by decide) ?_
              refine r_iast C (kS sC h54 kc_67) (vin (by omega) (by omega)) dX6_lead_95 (fun w59 e60 => ?_)
              have h61 := Ch.putS h54 e60 (by decide)
              have o62 := Inv.put0 o55 e60 (by decide)
              obtain ⟨i63, e64⟩ : ∃ z : Int32, u1 + Int32.ofInt 1 = z := ⟨_, rfl⟩
              have i63' := iinc_ok e64 (by decide) (by omega) (by omega)
              refine r_iinc [(2, .int i63), (3, .int r18), (0, .ref (gz (xG x) + 65)), (1, .int a1)] 3 C dX6_lead_96 rfl e64 (by decide) rfl ?_
              refine r_goto 2 C dX6_lead_99 (by decide) ?_
              refine r_lv [2, 3, 0] rfl ?_
              exact ih9 i63 w59 h61 o62 (by omega) (by omega)
            · have c58' := i_ne c58
              refine r_aload_n 1 C dX6_lead_81 rfl ?_
              refine r_iload_n 2 C dX6_lead_82 rfl ?_
              refine callVI C cwX6_82_V (ctX6_fate_65 _ _ w52 (sS sC h54) o55 a1 ) (by decide) (kS sC h54 kc_65) rfl rfl rfl (Nat.le_of_ble_eq_true rfl) (by decide) dX6_lead_83 (fun r67 w66 y65 => ?_)
              show V x 0 0 w66 86 [(3, .int r18), (0, .ref (gz (xG x) + 65)), (1, .int a1), (2, .int u1)] [.int r67]
              obtain ⟨h68, o69⟩ := y65
              have h70 := Ch.tr h54 h68 (by decide) (by decide)
              refine r_if_eq 96 C dX6_lead_86 (by decide) (fun c71 => ?_) (fun c71 => ?_)
              · have c71' := i_eq c71
                obtain ⟨i72, e73⟩ : ∃ z : Int32, u1 + Int32.ofInt 1 = z := ⟨_, rfl⟩
                have i72' := iinc_ok e73 (by decide) (by omega) (by omega)
                refine r_iinc [(2, .int i72), (3, .int r18), (0, .ref (gz (xG x) + 65)), (1, .int a1)] 3 C dX6_lead_96 rfl e73 (by decide) rfl ?_
                refine r_goto 2 C dX6_lead_99 (by decide) ?_
                refine r_lv [2, 3, 0] rfl ?_
                exact ih9 i72 w66 h70 o69 (by omega) (by omega)
              · have c71' := i_ne c71
                refine r_aload_n 1 C dX6_lead_89 rfl ?_
                refine gfX6_15 67 C (kS sC h70 kc_65) (xS sC h70 xc_65_3) dX6_lead_90 ?_
                refine r_iload_n 2 C dX6_lead_93 rfl ?_
                refine r_iconst (v := (-1)) C dX6_lead_94 (by decide) ?_
                refine r_iast C (kS sC h70 kc_67) (vin (by omega) (by omega)) dX6_lead_95 (fun w74 e75 => ?_)
                have h76 := Ch.putS h70 e75 (by decide)
                have o77 := Inv.put0 o69 e75 (by decide)
                obtain ⟨i78, e79⟩ : ∃ z : Int32, u1 + Int32.ofInt 1 = z := ⟨_, rfl⟩
                have i78' := iinc_ok e79 (by decide) (by omega) (by omega)
                refine r_iinc [(2, .int i78), (3, .int r18), (0, .ref (gz (xG x) + 65)), (1, .int a1)] 3 C dX6_lead_96 rfl e79 (by decide) rfl ?_
                refine r_goto 2 C dX6_lead_99 (by decide) ?_
                refine r_lv [2, 3, 0] rfl ?_
                exact ih9 i78 w74 h76 o77 (by omega) (by omega)
  refine r_iconst (v := 0) C dX6_lead_0 (by decide) ?_
  refine r_istore_n [(2, .int 0), (0, .ref (gz (xG x) + 65)), (1, .int a1)] C dX6_lead_1 (by decide) rfl ?_
  refine r_lv [1, 2, 0] rfl ?_
  exact LP2 4294967296 0 w h0 o0 (by omega) (by omega)
set_option maxHeartbeats 4000000 in
set_option maxRecDepth 100000 in
theorem ctX6_hears_68 (l : Launch) (G : Gt) (w : Wv) (sC : Str KC XC w) (o0 : Inv RC w) (a1 : Int32) (a2 : Int32) : CtI l G yX6_hears cX6_hears 4 .boolean ({ frames := 2, cells := 0, slots := 0, locals := 50 } : Room) [.ref (gz G + 68), .int a1, .int a2] w (fun r w' => Ch [25, 26, 27] [] w w' ∧ Inv RC w') := by
  refine enterI (by decide) (Nat.le_of_ble_eq_true rfl) ?_
  intro x el eG C hret
  subst el; subst eG
  show V x 0 0 w 0 [(0, .ref (gz (xG x) + 68)), (1, .int a1), (2, .int a2)] []
  have h0 : Ch [25, 26, 27] [] w w := Ch.rf
  have qm1 : ((-1) : Int32).toInt = (-1) := by decide
  have q0 : (0 : Int32).toInt = 0 := by decide
  have q1 : (1 : Int32).toInt = 1 := by decide
  refine r_aload_n 0 C dX6_hears_0 rfl ?_
  refine gfX6_18 3 C (kS sC h0 kc_68) (xS sC h0 xc_68_4) dX6_hears_1 ?_
  refine r_iload_n 1 C dX6_hears_4 rfl ?_
  refine r_iload_n 2 C dX6_hears_5 rfl ?_
  refine callVI C cwX6_63_V (ctX9_isFollower_3 _ _ w (sS sC h0) o0 a1 a2 ) (by decide) (kS sC h0 kc_3) rfl rfl rfl (Nat.le_of_ble_eq_true rfl) (by decide) dX6_hears_6 (fun r3 w2 y1 => ?_)
  show V x 0 0 w2 9 [(0, .ref (gz (xG x) + 68)), (1, .int a1), (2, .int a2)] [.int r3]
  obtain ⟨h4, o5, g6⟩ := y1
  have h7 := Ch.tr h0 h4 (by decide) (by decide)
  refine r_if_eq 20 C dX6_hears_9 (by decide) (fun c8 => ?_) (fun c8 => ?_)
  · have c8' := i_eq c8
    refine r_iconst (v := 0) C dX6_hears_20 (by decide) ?_
    exact hret _ _ _ _ dX6_hears_21 (nar_z (z_of (by omega))) ⟨h7, o5⟩
  · have c8' := i_ne c8
    refine r_aload_n 0 C dX6_hears_12 rfl ?_
    refine r_iload_n 1 C dX6_hears_13 rfl ?_
    refine callVI C cwX6_66_V (ctX6_isHere_68 _ _ w2 (sS sC h7) o5 a1 ) (by decide) (kS sC h7 kc_68) rfl rfl rfl (Nat.le_of_ble_eq_true rfl) (by decide) dX6_hears_14 (fun r11 w10 y9 => ?_)
    show V x 0 0 w10 17 [(0, .ref (gz (xG x) + 68)), (1, .int a1), (2, .int a2)] [.int r11]
    obtain ⟨h12, o13⟩ := y9
    have h14 := Ch.tr h7 h12 (by decide) (by decide)
    refine r_if_ne 22 C dX6_hears_17 (by decide) (fun c15 => ?_) (fun c15 => ?_)
    · have c15' := i_ne c15
      refine r_aload_n 0 C dX6_hears_22 rfl ?_
      refine gfX6_22 21 C (kS sC h14 kc_68) (xS sC h14 xc_68_5) dX6_hears_23 ?_
      refine r_aload_n 0 C dX6_hears_26 rfl ?_
      refine gfX6_9 69 C (kS sC h14 kc_68) (xS sC h14 xc_68_2) dX6_hears_27 ?_
      refine r_iload_n 1 C dX6_hears_30 rfl ?_
      refine r_iald C (kS sC h14 kc_69) (vin (by omega) (by omega)) dX6_hears_31 ?_
      generalize (wI w10 69 (a1).toNatClampNeg) = v16
      refine r_aload_n 0 C dX6_hears_32 rfl ?_
      refine gfX6_32 (v := (wI w 68 0)) C (kS sC h14 kc_68) (h12.I (by decide) (by decide) (h4.I (by decide) (by decide) rfl)) dX6_hears_33 ?_
      refine callVI C cwX6_70_V (ctX1_steps_21 _ _ w10 (sS sC h14) o13 v16 (wI w 68 0) ) (by decide) (kS sC h14 kc_21) rfl rfl rfl (Nat.le_of_ble_eq_true rfl) (by decide) dX6_hears_36 (fun r19 w18 y17 => ?_)
      show V x 0 0 w18 39 [(0, .ref (gz (xG x) + 68)), (1, .int a1), (2, .int a2)] [.int r19]
      obtain ⟨h20, o21⟩ := y17
      have h22 := Ch.tr h14 h20 (by decide) (by decide)
      refine r_istore_n [(3, .int r19), (0, .ref (gz (xG x) + 68)), (1, .int a1), (2, .int a2)] C dX6_hears_39 (by decide) rfl ?_
      refine r_iload_n 0 C dX6_hears_40 rfl ?_
      refine r_iconst (v := (-1)) C dX6_hears_41 (by decide) ?_
      refine r_icmp_eq 62 C dX6_hears_42 (by decide) (fun c23 => ?_) (fun c23 => ?_)
      · have c23' := i_eq c23
        refine r_iconst (v := 0) C dX6_hears_62 (by decide) ?_
        exact hret _ _ _ _ dX6_hears_63 (nar_z (z_of (by omega))) ⟨h22, o21⟩
      · have c23' := i_ne c23
        refine r_iload_n 0 C dX6_hears_45 rfl ?_
        refine r_aload_n 1 C dX6_hears_46 rfl ?_
        refine gfX6_18 3 C (kS sC h22 kc_68) (xS sC h22 xc_68_4) dX6_hears_47 ?_
        refine gfX6_73 11 C (kS sC h22 kc_3) (xS sC h22 xc_3_16) dX6_hears_50 ?_
        refine r_iload_n 3 C dX6_hears_53 rfl ?_
        refine r_iald C (kS sC h22 kc_11) (vin (by omega) (by omega)) dX6_hears_54 ?_
        generalize (wI w18 11 (a2).toNatClampNeg) = v24
        refine r_icmp_gt 62 C dX6_hears_55 (by decide) (fun c25 => ?_) (fun c25 => ?_)
        · have c25' := i_lt c25
          refine r_iconst (v := 0) C dX6_hears_62 (by decide) ?_
          exact hret _ _ _ _ dX6_hears_63 (nar_z (z_of (by omega))) ⟨h22, o21⟩
        · have c25' := i_nlt c25
          refine r_iconst (v := 1) C dX6_hears_58 (by decide) ?_
          refine r_goto 63 C dX6_hears_59 (by decide) ?_
          exact hret _ _ _ _ dX6_hears_63 (nar_z (z_of (by omega))) ⟨h22, o21⟩
    · have c15' := i_eq c15
      refine r_iconst (v := 0) C dX6_hears_20 (by decide) ?_
      exact hret _ _ _ _ dX6_hears_21 (nar_z (z_of (by omega))) ⟨h14, o13⟩
set_option maxHeartbeats 4000000 in
set_option maxRecDepth 100000 in
theorem ctX6_lead_68 (l : Launch) (G : Gt) (w : Wv) (sC : Str KC XC w) (o0 : Inv RC w) (a1 : Int32) (b1 : 0 ≤ a1.toInt ∧ a1.toInt ≤ 5) : CtV l G yX6_lead cX6_lead 4 ({ frames := 2, cells := 0, slots := 0, locals := 54 } : Room) [.ref (gz G + 68), .int a1] w (fun w' => Ch [25, 26, 27, 69, 70] [] w w' ∧ Inv RC w') := by
  refine enterV (by decide) (Nat.le_of_ble_eq_true rfl) ?_
  intro x el eG C hnm hret
  subst el; subst eG
  show V x 0 0 w 0 [(0, .ref (gz (xG x) + 68)), (1, .int a1)] []
  have h0 : Ch [25, 26, 27, 69, 70] [] w w := Ch.rf
  have qm1 : ((-1) : Int32).toInt = (-1) := by decide
  have q0 : (0 : Int32).toInt = 0 := by decide
  have LP2 : ∀ (f3 : Nat) (u1 : Int32) (w4 : Wv), Ch [25, 26, 27, 69, 70] [] w w4 → Inv RC w4 → (0 ≤ u1.toInt ∧ u1.toInt ≤ 2147483647) → 2147483647 - u1.toInt < f3 → V x 0 0 w4 2 [(0, .ref (gz (xG x) + 68)), (1, .int a1), (2, .int u1)] [] := by
    intro f3
    induction f3 with
    | zero => intro u1 w4 h5 o6 z7 z8; exfalso; omega
    | succ f3 ih9 =>
      intro u1 w4 h5 o6 z7 z8
      refine r_iload_n 2 C dX6_lead_2 rfl ?_
      refine r_aload_n 0 C dX6_lead_3 rfl ?_
      refine gfX6_18 3 C (kS sC h5 kc_68) (xS sC h5 xc_68_4) dX6_lead_4 ?_
      refine gfX6_76 8 C (kS sC h5 kc_3) (xS sC h5 xc_3_13) dX6_lead_7 ?_
      refine r_iload_n 1 C dX6_lead_10 rfl ?_
      refine r_iald C (kS sC h5 kc_8) (vin (by omega) (by omega)) dX6_lead_11 ?_
      generalize (wI w4 8 (a1).toNatClampNeg) = v10
      refine r_icmp_ge 102 C dX6_lead_12 (by decide) (fun c11 => ?_) (fun c11 => ?_)
      · have c11' := i_le c11
        exact hret _ _ _ dX6_lead_102 ⟨h5, o6⟩
      · have c11' := i_nle c11
        refine r_aload_n 0 C dX6_lead_15 rfl ?_
        refine gfX6_15 70 C (kS sC h5 kc_68) (xS sC h5 xc_68_3) dX6_lead_16 ?_
        refine r_iload_n 1 C dX6_lead_19 rfl ?_
        refine r_iald C (kS sC h5 kc_70) (vin (by omega) (by omega)) dX6_lead_20 ?_
        generalize (wI w4 70 (a1).toNatClampNeg) = v12
        refine r_iconst (v := (-1)) C dX6_lead_21 (by decide) ?_
        refine r_icmp_eq 102 C dX6_lead_22 (by decide) (fun c13 => ?_) (fun c13 => ?_)
        · have c13' := i_eq c13
          exact hret _ _ _ dX6_lead_102 ⟨h5, o6⟩
        · have c13' := i_ne c13
          refine r_aload_n 0 C dX6_lead_25 rfl ?_
          refine gfX6_22 21 C (kS sC h5 kc_68) (xS sC h5 xc_68_5) dX6_lead_26 ?_
          refine r_aload_n 0 C dX6_lead_29 rfl ?_
          refine gfX6_9 69 C (kS sC h5 kc_68) (xS sC h5 xc_68_2) dX6_lead_30 ?_
          refine r_iload_n 1 C dX6_lead_33 rfl ?_
          refine r_iald C (kS sC h5 kc_69) (vin (by omega) (by omega)) dX6_lead_34 ?_
          generalize (wI w4 69 (a1).toNatClampNeg) = v14
          refine r_aload_n 0 C dX6_lead_35 rfl ?_
          refine gfX6_15 70 C (kS sC h5 kc_68) (xS sC h5 xc_68_3) dX6_lead_36 ?_
          refine r_iload_n 1 C dX6_lead_39 rfl ?_
          refine r_iald C (kS sC h5 kc_70) (vin (by omega) (by omega)) dX6_lead_40 ?_
          generalize (wI w4 70 (a1).toNatClampNeg) = v15
          refine callVI C cwX6_79_V (ctX1_onward_21 _ _ w4 (sS sC h5) o6 v14 v15 ) (by decide) (kS sC h5 kc_21) rfl rfl rfl (Nat.le_of_ble_eq_true rfl) (by decide) dX6_lead_41 (fun r18 w17 y16 => ?_)
          show V x 0 0 w17 44 [(0, .ref (gz (xG x) + 68)), (1, .int a1), (2, .int u1)] [.int r18]
          obtain ⟨h19, o20⟩ := y16
          have h21 := Ch.tr h5 h19 (by decide) (by decide)
          refine r_istore_n [(3, .int r18), (0, .ref (gz (xG x) + 68)), (1, .int a1), (2, .int u1)] C dX6_lead_44 (by decide) rfl ?_
          refine r_aload_n 1 C dX6_lead_45 rfl ?_
          refine gfX6_9 69 C (kS sC h21 kc_68) (xS sC h21 xc_68_2) dX6_lead_46 ?_
          refine r_iload_n 2 C dX6_lead_49 rfl ?_
          refine r_iload_n 0 C dX6_lead_50 rfl ?_
          refine r_iconst (v := (-1)) C dX6_lead_51 (by decide) ?_
          refine r_icmp_ne 64 C dX6_lead_52 (by decide) (fun c22 => ?_) (fun c22 => ?_)
          · have c22' := i_ne c22
            refine r_iload_n 0 C dX6_lead_64 rfl ?_
            refine r_iast C (kS sC h21 kc_69) (vin (by omega) (by omega)) dX6_lead_65 (fun w23 e24 => ?_)
            have h25 := Ch.putS h21 e24 (by decide)
            have o26 := Inv.put0 o20 e24 (by decide)
            refine r_aload_n 1 C dX6_lead_66 rfl ?_
            refine gfX6_9 69 C (kS sC h25 kc_68) (xS sC h25 xc_68_2) dX6_lead_67 ?_
            refine r_iload_n 2 C dX6_lead_70 rfl ?_
            refine r_iald C (kS sC h25 kc_69) (vin (by omega) (by omega)) dX6_lead_71 ?_
            generalize (wI w23 69 (a1).toNatClampNeg) = v27
            refine r_aload_n 1 C dX6_lead_72 rfl ?_
            refine gfX6_15 70 C (kS sC h25 kc_68) (xS sC h25 xc_68_3) dX6_lead_73 ?_
            refine r_iload_n 2 C dX6_lead_76 rfl ?_
            refine r_iald C (kS sC h25 kc_70) (vin (by omega) (by omega)) dX6_lead_77 ?_
            generalize (wI w23 70 (a1).toNatClampNeg) = v28
            refine r_icmp_eq 89 C dX6_lead_78 (by decide) (fun c29 => ?_) (fun c29 => ?_)
            · have c29' := i_eq c29
              refine r_aload_n 1 C dX6_lead_89 rfl ?_
              refine gfX6_15 70 C (kS sC h25 kc_68) (xS sC h25 xc_68_3) dX6_lead_90 ?_
              refine r_iload_n 2 C dX6_lead_93 rfl ?_
              refine r_iconst (v := (-1)) C dX6_lead_94 (by decide) ?_
              refine r_iast C (kS sC h25 kc_70) (vin (by omega) (by omega)) dX6_lead_95 (fun w30 e31 => ?_)
              have h32 := Ch.putS h25 e31 (by decide)
              have o33 := Inv.put0 o26 e31 (by decide)
              obtain ⟨i34, e35⟩ : ∃ z : Int32, u1 + Int32.ofInt 1 = z := ⟨_, rfl⟩
              have i34' := iinc_ok e35 (by decide) (by omega) (by omega)
              refine r_iinc [(2, .int i34), (3, .int r18), (0, .ref (gz (xG x) + 68)), (1, .int a1)] 3 C dX6_lead_96 rfl e35 (by decide) rfl ?_
              refine r_goto 2 C dX6_lead_99 (by decide) ?_
              refine r_lv [2, 3, 0] rfl ?_
              exact ih9 i34 w30 h32 o33 (by omega) (by omega)
            · have c29' := i_ne c29
              refine r_aload_n 1 C dX6_lead_81 rfl ?_
              refine r_iload_n 2 C dX6_lead_82 rfl ?_
              refine callVI C cwX6_82_V (ctX6_fate_68 _ _ w23 (sS sC h25) o26 a1 ) (by decide) (kS sC h25 kc_68) rfl rfl rfl (Nat.le_of_ble_eq_true rfl) (by decide) dX6_lead_83 (fun r38 w37 y36 => ?_)
              show V x 0 0 w37 86 [(3, .int r18), (0, .ref (gz (xG x) + 68)), (1, .int a1), (2, .int u1)] [.int r38]
              obtain ⟨h39, o40⟩ := y36
              have h41 := Ch.tr h25 h39 (by decide) (by decide)
              refine r_if_eq 96 C dX6_lead_86 (by decide) (fun c42 => ?_) (fun c42 => ?_)
              · have c42' := i_eq c42
                obtain ⟨i43, e44⟩ : ∃ z : Int32, u1 + Int32.ofInt 1 = z := ⟨_, rfl⟩
                have i43' := iinc_ok e44 (by decide) (by omega) (by omega)
                refine r_iinc [(2, .int i43), (3, .int r18), (0, .ref (gz (xG x) + 68)), (1, .int a1)] 3 C dX6_lead_96 rfl e44 (by decide) rfl ?_
                refine r_goto 2 C dX6_lead_99 (by decide) ?_
                refine r_lv [2, 3, 0] rfl ?_
                exact ih9 i43 w37 h41 o40 (by omega) (by omega)
              · have c42' := i_ne c42
                refine r_aload_n 1 C dX6_lead_89 rfl ?_
                refine gfX6_15 70 C (kS sC h41 kc_68) (xS sC h41 xc_68_3) dX6_lead_90 ?_
                refine r_iload_n 2 C dX6_lead_93 rfl ?_
                refine r_iconst (v := (-1)) C dX6_lead_94 (by decide) ?_
                refine r_iast C (kS sC h41 kc_70) (vin (by omega) (by omega)) dX6_lead_95 (fun w45 e46 => ?_)
                have h47 := Ch.putS h41 e46 (by decide)
                have o48 := Inv.put0 o40 e46 (by decide)
                obtain ⟨i49, e50⟩ : ∃ z : Int32, u1 + Int32.ofInt 1 = z := ⟨_, rfl⟩
                have i49' := iinc_ok e50 (by decide) (by omega) (by omega)
                refine r_iinc [(2, .int i49), (3, .int r18), (0, .ref (gz (xG x) + 68)), (1, .int a1)] 3 C dX6_lead_96 rfl e50 (by decide) rfl ?_
                refine r_goto 2 C dX6_lead_99 (by decide) ?_
                refine r_lv [2, 3, 0] rfl ?_
                exact ih9 i49 w45 h47 o48 (by omega) (by omega)
          · have c22' := i_eq c22
            refine r_aload_n 1 C dX6_lead_55 rfl ?_
            refine gfX6_9 69 C (kS sC h21 kc_68) (xS sC h21 xc_68_2) dX6_lead_56 ?_
            refine r_iload_n 2 C dX6_lead_59 rfl ?_
            refine r_iald C (kS sC h21 kc_69) (vin (by omega) (by omega)) dX6_lead_60 ?_
            generalize (wI w17 69 (a1).toNatClampNeg) = v51
            refine r_goto 65 C dX6_lead_61 (by decide) ?_
            refine r_iast C (kS sC h21 kc_69) (vin (by omega) (by omega)) dX6_lead_65 (fun w52 e53 => ?_)
            have h54 := Ch.putS h21 e53 (by decide)
            have o55 := Inv.put0 o20 e53 (by decide)
            refine r_aload_n 1 C dX6_lead_66 rfl ?_
            refine gfX6_9 69 C (kS sC h54 kc_68) (xS sC h54 xc_68_2) dX6_lead_67 ?_
            refine r_iload_n 2 C dX6_lead_70 rfl ?_
            refine r_iald C (kS sC h54 kc_69) (vin (by omega) (by omega)) dX6_lead_71 ?_
            generalize (wI w52 69 (a1).toNatClampNeg) = v56
            refine r_aload_n 1 C dX6_lead_72 rfl ?_
            refine gfX6_15 70 C (kS sC h54 kc_68) (xS sC h54 xc_68_3) dX6_lead_73 ?_
            refine r_iload_n 2 C dX6_lead_76 rfl ?_
            refine r_iald C (kS sC h54 kc_70) (vin (by omega) (by omega)) dX6_lead_77 ?_
            generalize (wI w52 70 (a1).toNatClampNeg) = v57
            refine r_icmp_eq 89 C dX6_lead_78 (by decide) (fun c58 => ?_) (fun c58 => ?_)
            · have c58' := i_eq c58
              refine r_aload_n 1 C dX6_lead_89 rfl ?_
              refine gfX6_15 70 C (kS sC h54 kc_68) (xS sC h54 xc_68_3) dX6_lead_90 ?_
              refine r_iload_n 2 C dX6_lead_93 rfl ?_
              refine r_iconst (v := (-1)) C dX6_lead_94 (by decide) ?_
              refine r_iast C (kS sC h54 kc_70) (vin (by omega) (by omega)) dX6_lead_95 (fun w59 e60 => ?_)
              have h61 := Ch.putS h54 e60 (by decide)
              have o62 := Inv.put0 o55 e60 (by decide)
              obtain ⟨i63, e64⟩ : ∃ z : Int32, u1 + Int32.ofInt 1 = z := ⟨_, rfl⟩
              have i63' := iinc_ok e64 (by decide) (by omega) (by omega)
              refine r_iinc [(2, .int i63), (3, .int r18), (0, .ref (gz (xG x) + 68)), (1, .int a1)] 3 C dX6_lead_96 rfl e64 (by decide) rfl ?_
              refine r_goto 2 C dX6_lead_99 (by decide) ?_
              refine r_lv [2, 3, 0] rfl ?_
              exact ih9 i63 w59 h61 o62 (by omega) (by omega)
            · have c58' := i_ne c58
              refine r_aload_n 1 C dX6_lead_81 rfl ?_
              refine r_iload_n 2 C dX6_lead_82 rfl ?_
              refine callVI C cwX6_82_V (ctX6_fate_68 _ _ w52 (sS sC h54) o55 a1 ) (by decide) (kS sC h54 kc_68) rfl rfl rfl (Nat.le_of_ble_eq_true rfl) (by decide) dX6_lead_83 (fun r67 w66 y65 => ?_)
              show V x 0 0 w66 86 [(3, .int r18), (0, .ref (gz (xG x) + 68)), (1, .int a1), (2, .int u1)] [.int r67]
              obtain ⟨h68, o69⟩ := y65
              have h70 := Ch.tr h54 h68 (by decide) (by decide)
              refine r_if_eq 96 C dX6_lead_86 (by decide) (fun c71 => ?_) (fun c71 => ?_)
              · have c71' := i_eq c71
                obtain ⟨i72, e73⟩ : ∃ z : Int32, u1 + Int32.ofInt 1 = z := ⟨_, rfl⟩
                have i72' := iinc_ok e73 (by decide) (by omega) (by omega)
                refine r_iinc [(2, .int i72), (3, .int r18), (0, .ref (gz (xG x) + 68)), (1, .int a1)] 3 C dX6_lead_96 rfl e73 (by decide) rfl ?_
                refine r_goto 2 C dX6_lead_99 (by decide) ?_
                refine r_lv [2, 3, 0] rfl ?_
                exact ih9 i72 w66 h70 o69 (by omega) (by omega)
              · have c71' := i_ne c71
                refine r_aload_n 1 C dX6_lead_89 rfl ?_
                refine gfX6_15 70 C (kS sC h70 kc_68) (xS sC h70 xc_68_3) dX6_lead_90 ?_
                refine r_iload_n 2 C dX6_lead_93 rfl ?_
                refine r_iconst (v := (-1)) C dX6_lead_94 (by decide) ?_
                refine r_iast C (kS sC h70 kc_70) (vin (by omega) (by omega)) dX6_lead_95 (fun w74 e75 => ?_)
                have h76 := Ch.putS h70 e75 (by decide)
                have o77 := Inv.put0 o69 e75 (by decide)
                obtain ⟨i78, e79⟩ : ∃ z : Int32, u1 + Int32.ofInt 1 = z := ⟨_, rfl⟩
                have i78' := iinc_ok e79 (by decide) (by omega) (by omega)
                refine r_iinc [(2, .int i78), (3, .int r18), (0, .ref (gz (xG x) + 68)), (1, .int a1)] 3 C dX6_lead_96 rfl e79 (by decide) rfl ?_
                refine r_goto 2 C dX6_lead_99 (by decide) ?_
                refine r_lv [2, 3, 0] rfl ?_
                exact ih9 i78 w74 h76 o77 (by omega) (by omega)
  refine r_iconst (v := 0) C dX6_lead_0 (by decide) ?_
  refine r_istore_n [(2, .int 0), (0, .ref (gz (xG x) + 68)), (1, .int a1)] C dX6_lead_1 (by decide) rfl ?_
  refine r_lv [1, 2, 0] rfl ?_
  exact LP2 4294967296 0 w h0 o0 (by omega) (by omega)
set_option maxHeartbeats 4000000 in
set_option maxRecDepth 100000 in
theorem ctX6_hears_71 (l : Launch) (G : Gt) (w : Wv) (sC : Str KC XC w) (o0 : Inv RC w) (a1 : Int32) (a2 : Int32) : CtI l G yX6_hears cX6_hears 4 .boolean ({ frames := 2, cells := 0, slots := 0, locals := 50 } : Room) [.ref (gz G + 71), .int a1, .int a2] w (fun r w' => Ch [25, 26, 27] [] w w' ∧ Inv RC w') := by
  refine enterI (by decide) (Nat.le_of_ble_eq_true rfl) ?_
  intro x el eG C hret
  subst el; subst eG
  show V x 0 0 w 0 [(0, .ref (gz (xG x) + 71)), (1, .int a1), (2, .int a2)] []
  have h0 : Ch [25, 26, 27] [] w w := Ch.rf
  have qm1 : ((-1) : Int32).toInt = (-1) := by decide
  have q0 : (0 : Int32).toInt = 0 := by decide
  have q1 : (1 : Int32).toInt = 1 := by decide
  refine r_aload_n 0 C dX6_hears_0 rfl ?_
  refine gfX6_18 3 C (kS sC h0 kc_71) (xS sC h0 xc_71_4) dX6_hears_1 ?_
  refine r_iload_n 1 C dX6_hears_4 rfl ?_
  refine r_iload_n 2 C dX6_hears_5 rfl ?_
  refine callVI C cwX6_63_V (ctX9_isFollower_3 _ _ w (sS sC h0) o0 a1 a2 ) (by decide) (kS sC h0 kc_3) rfl rfl rfl (Nat.le_of_ble_eq_true rfl) (by decide) dX6_hears_6 (fun r3 w2 y1 => ?_)
  show V x 0 0 w2 9 [(0, .ref (gz (xG x) + 71)), (1, .int a1), (2, .int a2)] [.int r3]
  obtain ⟨h4, o5, g6⟩ := y1
  have h7 := Ch.tr h0 h4 (by decide) (by decide)
  refine r_if_eq 20 C dX6_hears_9 (by decide) (fun c8 => ?_) (fun c8 => ?_)
  · have c8' := i_eq c8
    refine r_iconst (v := 0) C dX6_hears_20 (by decide) ?_
    exact hret _ _ _ _ dX6_hears_21 (nar_z (z_of (by omega))) ⟨h7, o5⟩
  · have c8' := i_ne c8
    refine r_aload_n 0 C dX6_hears_12 rfl ?_
    refine r_iload_n 1 C dX6_hears_13 rfl ?_
    refine callVI C cwX6_66_V (ctX6_isHere_71 _ _ w2 (sS sC h7) o5 a1 ) (by decide) (kS sC h7 kc_71) rfl rfl rfl (Nat.le_of_ble_eq_true rfl) (by decide) dX6_hears_14 (fun r11 w10 y9 => ?_)
    show V x 0 0 w10 17 [(0, .ref (gz (xG x) + 71)), (1, .int a1), (2, .int a2)] [.int r11]
    obtain ⟨h12, o13⟩ := y9
    have h14 := Ch.tr h7 h12 (by decide) (by decide)
    refine r_if_ne 22 C dX6_hears_17 (by decide) (fun c15 => ?_) (fun c15 => ?_)
    · have c15' := i_ne c15
      refine r_aload_n 0 C dX6_hears_22 rfl ?_
      refine gfX6_22 21 C (kS sC h14 kc_71) (xS sC h14 xc_71_5) dX6_hears_23 ?_
      refine r_aload_n 0 C dX6_hears_26 rfl ?_
      refine gfX6_9 72 C (kS sC h14 kc_71) (xS sC h14 xc_71_2) dX6_hears_27 ?_
      refine r_iload_n 1 C dX6_hears_30 rfl ?_
      refine r_iald C (kS sC h14 kc_72) (vin (by omega) (by omega)) dX6_hears_31 ?_
      generalize (wI w10 72 (a1).toNatClampNeg) = v16
      refine r_aload_n 0 C dX6_hears_32 rfl ?_
      refine gfX6_32 (v := (wI w 71 0)) C (kS sC h14 kc_71) (h12.I (by decide) (by decide) (h4.I (by decide) (by decide) rfl)) dX6_hears_33 ?_
      refine callVI C cwX6_70_V (ctX1_steps_21 _ _ w10 (sS sC h14) o13 v16 (wI w 71 0) ) (by decide) (kS sC h14 kc_21) rfl rfl rfl (Nat.le_of_ble_eq_true rfl) (by decide) dX6_hears_36 (fun r19 w18 y17 => ?_)
      show V x 0 0 w18 39 [(0, .ref (gz (xG x) + 71)), (1, .int a1), (2, .int a2)] [.int r19]
      obtain ⟨h20, o21⟩ := y17
      have h22 := Ch.tr h14 h20 (by decide) (by decide)
      refine r_istore_n [(3, .int r19), (0, .ref (gz (xG x) + 71)), (1, .int a1), (2, .int a2)] C dX6_hears_39 (by decide) rfl ?_
      refine r_iload_n 0 C dX6_hears_40 rfl ?_
      refine r_iconst (v := (-1)) C dX6_hears_41 (by decide) ?_
      refine r_icmp_eq 62 C dX6_hears_42 (by decide) (fun c23 => ?_) (fun c23 => ?_)
      · have c23' := i_eq c23
        refine r_iconst (v := 0) C dX6_hears_62 (by decide) ?_
        exact hret _ _ _ _ dX6_hears_63 (nar_z (z_of (by omega))) ⟨h22, o21⟩
      · have c23' := i_ne c23
        refine r_iload_n 0 C dX6_hears_45 rfl ?_
        refine r_aload_n 1 C dX6_hears_46 rfl ?_
        refine gfX6_18 3 C (kS sC h22 kc_71) (xS sC h22 xc_71_4) dX6_hears_47 ?_
        refine gfX6_73 11 C (kS sC h22 kc_3) (xS sC h22 xc_3_16) dX6_hears_50 ?_
        refine r_iload_n 3 C dX6_hears_53 rfl ?_
        refine r_iald C (kS sC h22 kc_11) (vin (by omega) (by omega)) dX6_hears_54 ?_
        generalize (wI w18 11 (a2).toNatClampNeg) = v24
        refine r_icmp_gt 62 C dX6_hears_55 (by decide) (fun c25 => ?_) (fun c25 => ?_)
        · have c25' := i_lt c25
          refine r_iconst (v := 0) C dX6_hears_62 (by decide) ?_
          exact hret _ _ _ _ dX6_hears_63 (nar_z (z_of (by omega))) ⟨h22, o21⟩
        · have c25' := i_nlt c25
          refine r_iconst (v := 1) C dX6_hears_58 (by decide) ?_
          refine r_goto 63 C dX6_hears_59 (by decide) ?_
          exact hret _ _ _ _ dX6_hears_63 (nar_z (z_of (by omega))) ⟨h22, o21⟩
    · have c15' := i_eq c15
      refine r_iconst (v := 0) C dX6_hears_20 (by decide) ?_
      exact hret _ _ _ _ dX6_hears_21 (nar_z (z_of (by omega))) ⟨h14, o13⟩
set_option maxHeartbeats 4000000 in
set_option maxRecDepth 100000 in
theorem ctX6_lead_71 (l : Launch) (G : Gt) (w : Wv) (sC : Str KC XC w) (o0 : Inv RC w) (a1 : Int32) (b1 : 0 ≤ a1.toInt ∧ a1.toInt ≤ 5) : CtV l G yX6_lead cX6_lead 4 ({ frames := 2, cells := 0, slots := 0, locals := 54 } : Room) [.ref (gz G + 71), .int a1] w (fun w' => Ch [25, 26, 27, 72, 73] [] w w' ∧ Inv RC w') := by
  refine enterV (by decide) (Nat.le_of_ble_eq_true rfl) ?_
  intro x el eG C hnm hret
  subst el; subst eG
  show V x 0 0 w 0 [(0, .ref (gz (xG x) + 71)), (1, .int a1)] []
  have h0 : Ch [25, 26, 27, 72, 73] [] w w := Ch.rf
  have qm1 : ((-1) : Int32).toInt = (-1) := by decide
  have q0 : (0 : Int32).toInt = 0 := by decide
  have LP2 : ∀ (f3 : Nat) (u1 : Int32) (w4 : Wv), Ch [25, 26, 27, 72, 73] [] w w4 → Inv RC w4 → (0 ≤ u1.toInt ∧ u1.toInt ≤ 2147483647) → 2147483647 - u1.toInt < f3 → V x 0 0 w4 2 [(0, .ref (gz (xG x) + 71)), (1, .int a1), (2, .int u1)] [] := by
    intro f3
    induction f3 with
    | zero => intro u1 w4 h5 o6 z7 z8; exfalso; omega
    | succ f3 ih9 =>
      intro u1 w4 h5 o6 z7 z8
      refine r_iload_n 2 C dX6_lead_2 rfl ?_
      refine r_aload_n 0 C dX6_lead_3 rfl ?_
      refine gfX6_18 3 C (kS sC h5 kc_71) (xS sC h5 xc_71_4) dX6_lead_4 ?_
      refine gfX6_76 8 C (kS sC h5 kc_3) (xS sC h5 xc_3_13) dX6_lead_7 ?_
      refine r_iload_n 1 C dX6_lead_10 rfl ?_
      refine r_iald C (kS sC h5 kc_8) (vin (by omega) (by omega)) dX6_lead_11 ?_
      generalize (wI w4 8 (a1).toNatClampNeg) = v10
      refine r_icmp_ge 102 C dX6_lead_12 (by decide) (fun c11 => ?_) (fun c11 => ?_)
      · have c11' := i_le c11
        exact hret _ _ _ dX6_lead_102 ⟨h5, o6⟩
      · have c11' := i_nle c11
        refine r_aload_n 0 C dX6_lead_15 rfl ?_
        refine gfX6_15 73 C (kS sC h5 kc_71) (xS sC h5 xc_71_3) dX6_lead_16 ?_
        refine r_iload_n 1 C dX6_lead_19 rfl ?_
        refine r_iald C (kS sC h5 kc_73) (vin (by omega) (by omega)) dX6_lead_20 ?_
        generalize (wI w4 73 (a1).toNatClampNeg) = v12
        refine r_iconst (v := (-1)) C dX6_lead_21 (by decide) ?_
        refine r_icmp_eq 102 C dX6_lead_22 (by decide) (fun c13 => ?_) (fun c13 => ?_)
        · have c13' := i_eq c13
          exact hret _ _ _ dX6_lead_102 ⟨h5, o6⟩
        · have c13' := i_ne c13
          refine r_aload_n 0 C dX6_lead_25 rfl ?_
          refine gfX6_22 21 C (kS sC h5 kc_71) (xS sC h5 xc_71_5) dX6_lead_26 ?_
          refine r_aload_n 0 C dX6_lead_29 rfl ?_
          refine gfX6_9 72 C (kS sC h5 kc_71) (xS sC h5 xc_71_2) dX6_lead_30 ?_
          refine r_iload_n 1 C dX6_lead_33 rfl ?_
          refine r_iald C (kS sC h5 kc_72) (vin (by omega) (by omega)) dX6_lead_34 ?_
          generalize (wI w4 72 (a1).toNatClampNeg) = v14
          refine r_aload_n 0 C dX6_lead_35 rfl ?_
          refine gfX6_15 73 C (kS sC h5 kc_71) (xS sC h5 xc_71_3) dX6_lead_36 ?_
          refine r_iload_n 1 C dX6_lead_39 rfl ?_
          refine r_iald C (kS sC h5 kc_73) (vin (by omega) (by omega)) dX6_lead_40 ?_
          generalize (wI w4 73 (a1).toNatClampNeg) = v15
          refine callVI C cwX6_79_V (ctX1_onward_21 _ _ w4 (sS sC h5) o6 v14 v15 ) (by decide) (kS sC h5 kc_21) rfl rfl rfl (Nat.le_of_ble_eq_true rfl) (by decide) dX6_lead_41 (fun r18 w17 y16 => ?_)
          show V x 0 0 w17 44 [(0, .ref (gz (xG x) + 71)), (1, .int a1), (2, .int u1)] [.int r18]
          obtain ⟨h19, o20⟩ := y16
          have h21 := Ch.tr h5 h19 (by decide) (by decide)
          refine r_istore_n [(3, .int r18), (0, .ref (gz (xG x) + 71)), (1, .int a1), (2, .int u1)] C dX6_lead_44 (by decide) rfl ?_
          refine r_aload_n 1 C dX6_lead_45 rfl ?_
          refine gfX6_9 72 C (kS sC h21 kc_71) (xS sC h21 xc_71_2) dX6_lead_46 ?_
          refine r_iload_n 2 C dX6_lead_49 rfl ?_
          refine r_iload_n 0 C dX6_lead_50 rfl ?_
          refine r_iconst (v := (-1)) C dX6_lead_51 (by decide) ?_
          refine r_icmp_ne 64 C dX6_lead_52 (by decide) (fun c22 => ?_) (fun c22 => ?_)
          · have c22' := i_ne c22
            refine r_iload_n 0 C dX6_lead_64 rfl ?_
            refine r_iast C (kS sC h21 kc_72) (vin (by omega) (by omega)) dX6_lead_65 (fun w23 e24 => ?_)
            have h25 := Ch.putS h21 e24 (by decide)
            have o26 := Inv.put0 o20 e24 (by decide)
            refine r_aload_n 1 C dX6_lead_66 rfl ?_
            refine gfX6_9 72 C (kS sC h25 kc_71) (xS sC h25 xc_71_2) dX6_lead_67 ?_
            refine r_iload_n 2 C dX6_lead_70 rfl ?_
            refine r_iald C (kS sC h25 kc_72) (vin (by omega) (by omega)) dX6_lead_71 ?_
            generalize (wI w23 72 (a1).toNatClampNeg) = v27
            refine r_aload_n 1 C dX6_lead_72 rfl ?_
            refine gfX6_15 73 C (kS sC h25 kc_71) (xS sC h25 xc_71_3) dX6_lead_73 ?_
            refine r_iload_n 2 C dX6_lead_76 rfl ?_
            refine r_iald C (kS sC h25 kc_73) (vin (by omega) (by omega)) dX6_lead_77 ?_
            generalize (wI w23 73 (a1).toNatClampNeg) = v28
            refine r_icmp_eq 89 C dX6_lead_78 (by decide) (fun c29 => ?_) (fun c29 => ?_)
            · have c29' := i_eq c29
              refine r_aload_n 1 C dX6_lead_89 rfl ?_
              refine gfX6_15 73 C (kS sC h25 kc_71) (xS sC h25 xc_71_3) dX6_lead_90 ?_
              refine r_iload_n 2 C dX6_lead_93 rfl ?_
              refine r_iconst (v := (-1)) C dX6_lead_94 (by decide) ?_
              refine r_iast C (kS sC h25 kc_73) (vin (by omega) (by omega)) dX6_lead_95 (fun w30 e31 => ?_)
              have h32 := Ch.putS h25 e31 (by decide)
              have o33 := Inv.put0 o26 e31 (by decide)
              obtain ⟨i34, e35⟩ : ∃ z : Int32, u1 + Int32.ofInt 1 = z := ⟨_, rfl⟩
              have i34' := iinc_ok e35 (by decide) (by omega) (by omega)
              refine r_iinc [(2, .int i34), (3, .int r18), (0, .ref (gz (xG x) + 71)), (1, .int a1)] 3 C dX6_lead_96 rfl e35 (by decide) rfl ?_
              refine r_goto 2 C dX6_lead_99 (by decide) ?_
              refine r_lv [2, 3, 0] rfl ?_
              exact ih9 i34 w30 h32 o33 (by omega) (by omega)
            · have c29' := i_ne c29
              refine r_aload_n 1 C dX6_lead_81 rfl ?_
              refine r_iload_n 2 C dX6_lead_82 rfl ?_
              refine callVI C cwX6_82_V (ctX6_fate_71 _ _ w23 (sS sC h25) o26 a1 ) (by decide) (kS sC h25 kc_71) rfl rfl rfl (Nat.le_of_ble_eq_true rfl) (by decide) dX6_lead_83 (fun r38 w37 y36 => ?_)
              show V x 0 0 w37 86 [(3, .int r18), (0, .ref (gz (xG x) + 71)), (1, .int a1), (2, .int u1)] [.int r38]
              obtain ⟨h39, o40⟩ := y36
              have h41 := Ch.tr h25 h39 (by decide) (by decide)
              refine r_if_eq 96 C dX6_lead_86 (by decide) (fun c42 => ?_) (fun c42 => ?_)
              · have c42' := i_eq c42
                obtain ⟨i43, e44⟩ : ∃ z : Int32, u1 + Int32.ofInt 1 = z := ⟨_, rfl⟩
                have i43' := iinc_ok e44 (by decide) (by omega) (by omega)
                refine r_iinc [(2, .int i43), (3, .int r18), (0, .ref (gz (xG x) + 71)), (1, .int a1)] 3 C dX6_lead_96 rfl e44 (by decide) rfl ?_
                refine r_goto 2 C dX6_lead_99 (by decide) ?_
                refine r_lv [2, 3, 0] rfl ?_
                exact ih9 i43 w37 h41 o40 (by omega) (by omega)
              · have c42' := i_ne c42
                refine r_aload_n 1 C dX6_lead_89 rfl ?_
                refine gfX6_15 73 C (kS sC h41 kc_71) (xS sC h41 xc_71_3) dX6_lead_90 ?_
                refine r_iload_n 2 C dX6_lead_93 rfl ?_
                refine r_iconst (v := (-1)) C dX6_lead_94 (by decide) ?_
                refine r_iast C (kS sC h41 kc_73) (vin (by omega) (by omega)) dX6_lead_95 (fun w45 e46 => ?_)
                have h47 := Ch.putS h41 e46 (by decide)
                have o48 := Inv.put0 o40 e46 (by decide)
                obtain ⟨i49, e50⟩ : ∃ z : Int32, u1 + Int32.ofInt 1 = z := ⟨_, rfl⟩
                have i49' := iinc_ok e50 (by decide) (by omega) (by omega)
                refine r_iinc [(2, .int i49), (3, .int r18), (0, .ref (gz (xG x) + 71)), (1, .int a1)] 3 C dX6_lead_96 rfl e50 (by decide) rfl ?_
                refine r_goto 2 C dX6_lead_99 (by decide) ?_
                refine r_lv [2, 3, 0] rfl ?_
                exact ih9 i49 w45 h47 o48 (by omega) (by omega)
          · have c22' := i_eq c22
            refine r_aload_n 1 C dX6_lead_55 rfl ?_
            refine gfX6_9 72 C (kS sC h21 kc_71) (xS sC h21 xc_71_2) dX6_lead_56 ?_
            refine r_iload_n 2 C dX6_lead_59 rfl ?_
            refine r_iald C (kS sC h21 kc_72) (vin (by omega) (by omega)) dX6_lead_60 ?_
            generalize (wI w17 72 (a1).toNatClampNeg) = v51
            refine r_goto 65 C dX6_lead_61 (by decide) ?_
            refine r_iast C (kS sC h21 kc_72) (vin (by omega) (by omega)) dX6_lead_65 (fun w52 e53 => ?_)
            have h54 := Ch.putS h21 e53 (by decide)
            have o55 := Inv.put0 o20 e53 (by decide)
            refine r_aload_n 1 C dX6_lead_66 rfl ?_
            refine gfX6_9 72 C (kS sC h54 kc_71) (xS sC h54 xc_71_2) dX6_lead_67 ?_
            refine r_iload_n 2 C dX6_lead_70 rfl ?_
            refine r_iald C (kS sC h54 kc_72) (vin (by omega) (by omega)) dX6_lead_71 ?_
            generalize (wI w52 72 (a1).toNatClampNeg) = v56
            refine r_aload_n 1 C dX6_lead_72 rfl ?_
            refine gfX6_15 73 C (kS sC h54 kc_71) (xS sC h54 xc_71_3) dX6_lead_73 ?_
            refine r_iload_n 2 C dX6_lead_76 rfl ?_
            refine r_iald C (kS sC h54 kc_73) (vin (by omega) (by omega)) dX6_lead_77 ?_
            generalize (wI w52 73 (a1).toNatClampNeg) = v57
            refine r_icmp_eq 89 C dX6_lead_78 (by decide) (fun c58 => ?_) (fun c58 => ?_)
            · have c58' := i_eq c58
              refine r_aload_n 1 C dX6_lead_89 rfl ?_
              refine gfX6_15 73 C (kS sC h54 kc_71) (xS sC h54 xc_71_3) dX6_lead_90 ?_
              refine r_iload_n 2 C dX6_lead_93 rfl ?_
              refine r_iconst (v := (-1)) C dX6_lead_94 (by decide) ?_
              refine r_iast C (kS sC h54 kc_73) (vin (by omega) (by omega)) dX6_lead_95 (fun w59 e60 => ?_)
              have h61 := Ch.putS h54 e60 (by decide)
              have o62 := Inv.put0 o55 e60 (by decide)
              obtain ⟨i63, e64⟩ : ∃ z : Int32, u1 + Int32.ofInt 1 = z := ⟨_, rfl⟩
              have i63' := iinc_ok e64 (by decide) (by omega) (by omega)
              refine r_iinc [(2, .int i63), (3, .int r18), (0, .ref (gz (xG x) + 71)), (1, .int a1)] 3 C dX6_lead_96 rfl e64 (by decide) rfl ?_
              refine r_goto 2 C dX6_lead_99 (by decide) ?_
              refine r_lv [2, 3, 0] rfl ?_
              exact ih9 i63 w59 h61 o62 (by omega) (by omega)
            · have c58' := i_ne c58
              refine r_aload_n 1 C dX6_lead_81 rfl ?_
              refine r_iload_n 2 C dX6_lead_82 rfl ?_
              refine callVI C cwX6_82_V (ctX6_fate_71 _ _ w52 (sS sC h54) o55 a1 ) (by decide) (kS sC h54 kc_71) rfl rfl rfl (Nat.le_of_ble_eq_true rfl) (by decide) dX6_lead_83 (fun r67 w66 y65 => ?_)
              show V x 0 0 w66 86 [(3, .int r18), (0, .ref (gz (xG x) + 71)), (1, .int a1), (2, .int u1)] [.int r67]
              obtain ⟨h68, o69⟩ := y65
              have h70 := Ch.tr h54 h68 (by decide) (by decide)
              refine r_if_eq 96 C dX6_lead_86 (by decide) (fun c71 => ?_) (fun c71 => ?_)
              · have c71' := i_eq c71
                obtain ⟨i72, e73⟩ : ∃ z : Int32, u1 + Int32.ofInt 1 = z := ⟨_, rfl⟩
                have i72' := iinc_ok e73 (by decide) (by omega) (by omega)
                refine r_iinc [(2, .int i72), (3, .int r18), (0, .ref (gz (xG x) + 71)), (1, .int a1)] 3 C dX6_lead_96 rfl e73 (by decide) rfl ?_
                refine r_goto 2 C dX6_lead_99 (by decide) ?_
                refine r_lv [2, 3, 0] rfl ?_
                exact ih9 i72 w66 h70 o69 (by omega) (by omega)
              · have c71' := i_ne c71
                refine r_aload_n 1 C dX6_lead_89 rfl ?_
                refine gfX6_15 73 C (kS sC h70 kc_71) (xS sC h70 xc_71_3) dX6_lead_90 ?_
                refine r_iload_n 2 C dX6_lead_93 rfl ?_
                refine r_iconst (v := (-1)) C dX6_lead_94 (by decide) ?_
                refine r_iast C (kS sC h70 kc_73) (vin (by omega) (by omega)) dX6_lead_95 (fun w74 e75 => ?_)
                have h76 := Ch.putS h70 e75 (by decide)
                have o77 := Inv.put0 o69 e75 (by decide)
                obtain ⟨i78, e79⟩ : ∃ z : Int32, u1 + Int32.ofInt 1 = z := ⟨_, rfl⟩
                have i78' := iinc_ok e79 (by decide) (by omega) (by omega)
                refine r_iinc [(2, .int i78), (3, .int r18), (0, .ref (gz (xG x) + 71)), (1, .int a1)] 3 C dX6_lead_96 rfl e79 (by decide) rfl ?_
                refine r_goto 2 C dX6_lead_99 (by decide) ?_
                refine r_lv [2, 3, 0] rfl ?_
                exact ih9 i78 w74 h76 o77 (by omega) (by omega)
  refine r_iconst (v := 0) C dX6_lead_0 (by decide) ?_
  refine r_istore_n [(2, .int 0), (0, .ref (gz (xG x) + 71)), (1, .int a1)] C dX6_lead_1 (by decide) rfl ?_
  refine r_lv [1, 2, 0] rfl ?_
  exact LP2 4294967296 0 w h0 o0 (by omega) (by omega)
set_option maxHeartbeats 4000000 in
set_option maxRecDepth 100000 in
theorem ctX6_hears_74 (l : Launch) (G : Gt) (w : Wv) (sC : Str KC XC w) (o0 : Inv RC w) (a1 : Int32) (a2 : Int32) : CtI l G yX6_hears cX6_hears 4 .boolean ({ frames := 2, cells := 0, slots := 0, locals := 50 } : Room) [.ref (gz G + 74), .int a1, .int a2] w (fun r w' => Ch [25, 26, 27] [] w w' ∧ Inv RC w') := by
  refine enterI (by decide) (Nat.le_of_ble_eq_true rfl) ?_
  intro x el eG C hret
  subst el; subst eG
  show V x 0 0 w 0 [(0, .ref (gz (xG x) + 74)), (1, .int a1), (2, .int a2)] []
  have h0 : Ch [25, 26, 27] [] w w := Ch.rf
  have qm1 : ((-1) : Int32).toInt = (-1) := by decide
  have q0 : (0 : Int32).toInt = 0 := by decide
  have q1 : (1 : Int32).toInt = 1 := by decide
  refine r_aload_n 0 C dX6_hears_0 rfl ?_
  refine gfX6_18 3 C (kS sC h0 kc_74) (xS sC h0 xc_74_4) dX6_hears_1 ?_
  refine r_iload_n 1 C dX6_hears_4 rfl ?_
  refine r_iload_n 2 C dX6_hears_5 rfl ?_
  refine callVI C cwX6_63_V (ctX9_isFollower_3 _ _ w (sS sC h0) o0 a1 a2 ) (by decide) (kS sC h0 kc_3) rfl rfl rfl (Nat.le_of_ble_eq_true rfl) (by decide) dX6_hears_6 (fun r3 w2 y1 => ?_)
  show V x 0 0 w2 9 [(0, .ref (gz (xG x) + 74)), (1, .int a1), (2, .int a2)] [.int r3]
  obtain ⟨h4, o5, g6⟩ := y1
  have h7 := Ch.tr h0 h4 (by decide) (by decide)
  refine r_if_eq 20 C dX6_hears_9 (by decide) (fun c8 => ?_) (fun c8 => ?_)
  · have c8' := i_eq c8
    refine r_iconst (v := 0) C dX6_hears_20 (by decide) ?_
    exact hret _ _ _ _ dX6_hears_21 (nar_z (z_of (by omega))) ⟨h7, o5⟩
  · have c8' := i_ne c8
    refine r_aload_n 0 C dX6_hears_12 rfl ?_
    refine r_iload_n 1 C dX6_hears_13 rfl ?_
    refine callVI C cwX6_66_V (ctX6_isHere_74 _ _ w2 (sS sC h7) o5 a1 ) (by decide) (kS sC h7 kc_74) rfl rfl rfl (Nat.le_of_ble_eq_true rfl) (by decide) dX6_hears_14 (fun r11 w10 y9 => ?_)
    show V x 0 0 w10 17 [(0, .ref (gz (xG x) + 74)), (1, .int a1), (2, .int a2)] [.int r11]
    obtain ⟨h12, o13⟩ := y9
    have h14 := Ch.tr h7 h12 (by decide) (by decide)
    refine r_if_ne 22 C dX6_hears_17 (by decide) (fun c15 => ?_) (fun c15 => ?_)
    · have c15' := i_ne c15
      refine r_aload_n 0 C dX6_hears_22 rfl ?_
      refine gfX6_22 21 C (kS sC h14 kc_74) (xS sC h14 xc_74_5) dX6_hears_23 ?_
      refine r_aload_n 0 C dX6_hears_26 rfl ?_
      refine gfX6_9 75 C (kS sC h14 kc_74) (xS sC h14 xc_74_2) dX6_hears_27 ?_
      refine r_iload_n 1 C dX6_hears_30 rfl ?_
      refine r_iald C (kS sC h14 kc_75) (vin (by omega) (by omega)) dX6_hears_31 ?_
      generalize (wI w10 75 (a1).toNatClampNeg) = v16
      refine r_aload_n 0 C dX6_hears_32 rfl ?_
      refine gfX6_32 (v := (wI w 74 0)) C (kS sC h14 kc_74) (h12.I (by decide) (by decide) (h4.I (by decide) (by decide) rfl)) dX6_hears_33 ?_
      refine callVI C cwX6_70_V (ctX1_steps_21 _ _ w10 (sS sC h14) o13 v16 (wI w 74 0) ) (by decide) (kS sC h14 kc_21) rfl rfl rfl (Nat.le_of_ble_eq_true rfl) (by decide) dX6_hears_36 (fun r19 w18 y17 => ?_)
      show V x 0 0 w18 39 [(0, .ref (gz (xG x) + 74)), (1, .int a1), (2, .int a2)] [.int r19]
      obtain ⟨h20, o21⟩ := y17
      have h22 := Ch.tr h14 h20 (by decide) (by decide)
      refine r_istore_n [(3, .int r19), (0, .ref (gz (xG x) + 74)), (1, .int a1), (2, .int a2)] C dX6_hears_39 (by decide) rfl ?_
      refine r_iload_n 0 C dX6_hears_40 rfl ?_
      refine r_iconst (v := (-1)) C dX6_hears_41 (by decide) ?_
      refine r_icmp_eq 62 C dX6_hears_42 (by decide) (fun c23 => ?_) (fun c23 => ?_)
      · have c23' := i_eq c23
        refine r_iconst (v := 0) C dX6_hears_62 (by decide) ?_
        exact hret _ _ _ _ dX6_hears_63 (nar_z (z_of (by omega))) ⟨h22, o21⟩
      · have c23' := i_ne c23
        refine r_iload_n 0 C dX6_hears_45 rfl ?_
        refine r_aload_n 1 C dX6_hears_46 rfl ?_
        refine gfX6_18 3 C (kS sC h22 kc_74) (xS sC h22 xc_74_4) dX6_hears_47 ?_
        refine gfX6_73 11 C (kS sC h22 kc_3) (xS sC h22 xc_3_16) dX6_hears_50 ?_
        refine r_iload_n 3 C dX6_hears_53 rfl ?_
        refine r_iald C (kS sC h22 kc_11) (vin (by omega) (by omega)) dX6_hears_54 ?_
        generalize (wI w18 11 (a2).toNatClampNeg) = v24
        refine r_icmp_gt 62 C dX6_hears_55 (by decide) (fun c25 => ?_) (fun c25 => ?_)
        · have c25' := i_lt c25
          refine r_iconst (v := 0) C dX6_hears_62 (by decide) ?_
          exact hret _ _ _ _ dX6_hears_63 (nar_z (z_of (by omega))) ⟨h22, o21⟩
        · have c25' := i_nlt c25
          refine r_iconst (v := 1) C dX6_hears_58 (by decide) ?_
          refine r_goto 63 C dX6_hears_59 (by decide) ?_
          exact hret _ _ _ _ dX6_hears_63 (nar_z (z_of (by omega))) ⟨h22, o21⟩
    · have c15' := i_eq c15
      refine r_iconst (v := 0) C dX6_hears_20 (by decide) ?_
      exact hret _ _ _ _ dX6_hears_21 (nar_z (z_of (by omega))) ⟨h14, o13⟩
set_option maxHeartbeats 4000000 in
set_option maxRecDepth 100000 in
theorem ctX6_lead_74 (l : Launch) (G : Gt) (w : Wv) (sC : Str KC XC w) (o0 : Inv RC w) (a1 : Int32) (b1 : 0 ≤ a1.toInt ∧ a1.toInt ≤ 5) : CtV l G yX6_lead cX6_lead 4 ({ frames := 2, cells := 0, slots := 0, locals := 54 } : Room) [.ref (gz G + 74), .int a1] w (fun w' => Ch [25, 26, 27, 75, 76] [] w w' ∧ Inv RC w') := by
  refine enterV (by decide) (Nat.le_of_ble_eq_true rfl) ?_
  intro x el eG C hnm hret
  subst el; subst eG
  show V x 0 0 w 0 [(0, .ref (gz (xG x) + 74)), (1, .int a1)] []
  have h0 : Ch [25, 26, 27, 75, 76] [] w w := Ch.rf
  have qm1 : ((-1) : Int32).toInt = (-1) := by decide
  have q0 : (0 : Int32).toInt = 0 := by decide
  have LP2 : ∀ (f3 : Nat) (u1 : Int32) (w4 : Wv), Ch [25, 26, 27, 75, 76] [] w w4 → Inv RC w4 → (0 ≤ u1.toInt ∧ u1.toInt ≤ 2147483647) → 2147483647 - u1.toInt < f3 → V x 0 0 w4 2 [(0, .ref (gz (xG x) + 74)), (1, .int a1), (2, .int u1)] [] := by
    intro f3
    induction f3 with
    | zero => intro u1 w4 h5 o6 z7 z8; exfalso; omega
    | succ f3 ih9 =>
      intro u1 w4 h5 o6 z7 z8
      refine r_iload_n 2 C dX6_lead_2 rfl ?_
      refine r_aload_n 0 C dX6_lead_3 rfl ?_
      refine gfX6_18 3 C (kS sC h5 kc_74) (xS sC h5 xc_74_4) dX6_lead_4 ?_
      refine gfX6_76 8 C (kS sC h5 kc_3) (xS sC h5 xc_3_13) dX6_lead_7 ?_
      refine r_iload_n 1 C dX6_lead_10 rfl ?_
      refine r_iald C (kS sC h5 kc_8) (vin (by omega) (by omega)) dX6_lead_11 ?_
      generalize (wI w4 8 (a1).toNatClampNeg) = v10
      refine r_icmp_ge 102 C dX6_lead_12 (by decide) (fun c11 => ?_) (fun c11 => ?_)
      · have c11' := i_le c11
        exact hret _ _ _ dX6_lead_102 ⟨h5, o6⟩
      · have c11' := i_nle c11
        refine r_aload_n 0 C dX6_lead_15 rfl ?_
        refine gfX6_15 76 C (kS sC h5 kc_74) (xS sC h5 xc_74_3) dX6_lead_16 ?_
        refine r_iload_n 1 C dX6_lead_19 rfl ?_
        refine r_iald C (kS sC h5 kc_76) (vin (by omega) (by omega)) dX6_lead_20 ?_
        generalize (wI w4 76 (a1).toNatClampNeg) = v12
        refine r_iconst (v := (-1)) C dX6_lead_21 (by decide) ?_
        refine r_icmp_eq 102 C dX6_lead_22 (by decide) (fun c13 => ?_) (fun c13 => ?_)
        · have c13' := i_eq c13
          exact hret _ _ _ dX6_lead_102 ⟨h5, o6⟩
        · have c13' := i_ne c13
          refine r_aload_n 0 C dX6_lead_25 rfl ?_
          refine gfX6_22 21 C (kS sC h5 kc_74) (xS sC h5 xc_74_5) dX6_lead_26 ?_
          refine r_aload_n 0 C dX6_lead_29 rfl ?_
          refine gfX6_9 75 C (kS sC h5 kc_74) (xS sC h5 xc_74_2) dX6_lead_30 ?_
          refine r_iload_n 1 C dX6_lead_33 rfl ?_
          refine r_iald C (kS sC h5 kc_75) (vin (by omega) (by omega)) dX6_lead_34 ?_
          generalize (wI w4 75 (a1).toNatClampNeg) = v14
          refine r_aload_n 0 C dX6_lead_35 rfl ?_
          refine gfX6_15 76 C (kS sC h5 kc_74) (xS sC h5 xc_74_3) dX6_lead_36 ?_
          refine r_iload_n 1 C dX6_lead_39 rfl ?_
          refine r_iald C (kS sC h5 kc_76) (vin (by omega) (by omega)) dX6_lead_40 ?_
          generalize (wI w4 76 (a1).toNatClampNeg) = v15
          refine callVI C cwX6_79_V (ctX1_onward_21 _ _ w4 (sS sC h5) o6 v14 v15 ) (by decide) (kS sC h5 kc_21) rfl rfl rfl (Nat.le_of_ble_eq_true rfl) (by decide) dX6_lead_41 (fun r18 w17 y16 => ?_)
          show V x 0 0 w17 44 [(0, .ref (gz (xG x) + 74)), (1, .int a1), (2, .int u1)] [.int r18]
          obtain ⟨h19, o20⟩ := y16
          have h21 := Ch.tr h5 h19 (by decide) (by decide)
          refine r_istore_n [(3, .int r18), (0, .ref (gz (xG x) + 74)), (1, .int a1), (2, .int u1)] C dX6_lead_44 (by decide) rfl ?_
          refine r_aload_n 1 C dX6_lead_45 rfl ?_
          refine gfX6_9 75 C (kS sC h21 kc_74) (xS sC h21 xc_74_2) dX6_lead_46 ?_
          refine r_iload_n 2 C dX6_lead_49 rfl ?_
          refine r_iload_n 0 C dX6_lead_50 rfl ?_
          refine r_iconst (v := (-1)) C dX6_lead_51 (by decide) ?_
          refine r_icmp_ne 64 C dX6_lead_52 (by decide) (fun c22 => ?_) (fun c22 => ?_)
          · have c22' := i_ne c22
            refine r_iload_n 0 C dX6_lead_64 rfl ?_
            refine r_iast C (kS sC h21 kc_75) (vin (by omega) (by omega)) dX6_lead_65 (fun w23 e24 => ?_)
            have h25 := Ch.putS h21 e24 (by decide)
            have o26 := Inv.put0 o20 e24 (by decide)
            refine r_aload_n 1 C dX6_lead_66 rfl ?_
            refine gfX6_9 75 C (kS sC h25 kc_74) (xS sC h25 xc_74_2) dX6_lead_67 ?_
            refine r_iload_n 2 C dX6_lead_70 rfl ?_
            refine r_iald C (kS sC h25 kc_75) (vin (by omega) (by omega)) dX6_lead_71 ?_
            generalize (wI w23 75 (a1).toNatClampNeg) = v27
            refine r_aload_n 1 C dX6_lead_72 rfl ?_
            refine gfX6_15 76 C (kS sC h25 kc_74) (xS sC h25 xc_74_3) dX6_lead_73 ?_
            refine r_iload_n 2 C dX6_lead_76 rfl ?_
            refine r_iald C (kS sC h25 kc_76) (vin (by omega) (by omega)) dX6_lead_77 ?_
            generalize (wI w23 76 (a1).toNatClampNeg) = v28
            refine r_icmp_eq 89 C dX6_lead_78 (by decide) (fun c29 => ?_) (fun c29 => ?_)
            · have c29' := i_eq c29
              refine r_aload_n 1 C dX6_lead_89 rfl ?_
              refine gfX6_15 76 C (kS sC h25 kc_74) (xS sC h25 xc_74_3) dX6_lead_90 ?_
              refine r_iload_n 2 C dX6_lead_93 rfl ?_
              refine r_iconst (v := (-1)) C dX6_lead_94 (by decide) ?_
              refine r_iast C (kS sC h25 kc_76) (vin (by omega) (by omega)) dX6_lead_95 (fun w30 e31 => ?_)
              have h32 := Ch.putS h25 e31 (by decide)
              have o33 := Inv.put0 o26 e31 (by decide)
              obtain ⟨i34, e35⟩ : ∃ z : Int32, u1 + Int32.ofInt 1 = z := ⟨_, rfl⟩
              have i34' := iinc_ok e35 (by decide) (by omega) (by omega)
              refine r_iinc [(2, .int i34), (3, .int r18), (0, .ref (gz (xG x) + 74)), (1, .int a1)] 3 C dX6_lead_96 rfl e35 (by decide) rfl ?_
              refine r_goto 2 C dX6_lead_99 (by decide) ?_
              refine r_lv [2, 3, 0] rfl ?_
              exact ih9 i34 w30 h32 o33 (by omega) (by omega)
            · have c29' := i_ne c29
              refine r_aload_n 1 C dX6_lead_81 rfl ?_
              refine r_iload_n 2 C dX6_lead_82 rfl ?_
              refine callVI C cwX6_82_V (ctX6_fate_74 _ _ w23 (sS sC h25) o26 a1 ) (by decide) (kS sC h25 kc_74) rfl rfl rfl (Nat.le_of_ble_eq_true rfl) (by decide) dX6_lead_83 (fun r38 w37 y36 => ?_)
              show V x 0 0 w37 86 [(3, .int r18), (0, .ref (gz (xG x) + 74)), (1, .int a1), (2, .int u1)] [.int r38]
              obtain ⟨h39, o40⟩ := y36
              have h41 := Ch.tr h25 h39 (by decide) (by decide)
              refine r_if_eq 96 C dX6_lead_86 (by decide) (fun c42 => ?_) (fun c42 => ?_)
              · have c42' := i_eq c42
                obtain ⟨i43, e44⟩ : ∃ z : Int32, u1 + Int32.ofInt 1 = z := ⟨_, rfl⟩
                have i43' := iinc_ok e44 (by decide) (by omega) (by omega)
                refine r_iinc [(2, .int i43), (3, .int r18), (0, .ref (gz (xG x) + 74)), (1, .int a1)] 3 C dX6_lead_96 rfl e44 (by decide) rfl ?_
                refine r_goto 2 C dX6_lead_99 (by decide) ?_
                refine r_lv [2, 3, 0] rfl ?_
                exact ih9 i43 w37 h41 o40 (by omega) (by omega)
              · have c42' := i_ne c42
                refine r_aload_n 1 C dX6_lead_89 rfl ?_
                refine gfX6_15 76 C (kS sC h41 kc_74) (xS sC h41 xc_74_3) dX6_lead_90 ?_
                refine r_iload_n 2 C dX6_lead_93 rfl ?_
                refine r_iconst (v := (-1)) C dX6_lead_94 (by decide) ?_
                refine r_iast C (kS sC h41 kc_76) (vin (by omega) (by omega)) dX6_lead_95 (fun w45 e46 => ?_)
                have h47 := Ch.putS h41 e46 (by decide)
                have o48 := Inv.put0 o40 e46 (by decide)
                obtain ⟨i49, e50⟩ : ∃ z : Int32, u1 + Int32.ofInt 1 = z := ⟨_, rfl⟩
                have i49' := iinc_ok e50 (by decide) (by omega) (by omega)
                refine r_iinc [(2, .int i49), (3, .int r18), (0, .ref (gz (xG x) + 74)), (1, .int a1)] 3 C dX6_lead_96 rfl e50 (by decide) rfl ?_
                refine r_goto 2 C dX6_lead_99 (by decide) ?_
                refine r_lv [2, 3, 0] rfl ?_
                exact ih9 i49 w45 h47 o48 (by omega) (by omega)
          · have c22' := i_eq c22
            refine r_aload_n 1 C dX6_lead_55 rfl ?_
            refine gfX6_9 75 C (kS sC h21 kc_74) (xS sC h21 xc_74_2) dX6_lead_56 ?_
            refine r_iload_n 2 C dX6_lead_59 rfl ?_
            refine r_iald C (kS sC h21 kc_75) (vin (by omega) (by omega)) dX6_lead_60 ?_
            generalize (wI w17 75 (a1).toNatClampNeg) = v51
            refine r_goto 65 C dX6_lead_61 (by decide) ?_
            refine r_iast C (kS sC h21 kc_75) (vin (by omega) (by omega)) dX6_lead_65 (fun w52 e53 => ?_)
            have h54 := Ch.putS h21 e53 (by decide)
            have o55 := Inv.put0 o20 e53 (by decide)
            refine r_aload_n 1 C dX6_lead_66 rfl ?_
            refine gfX6_9 75 C (kS sC h54 kc_74) (xS sC h54 xc_74_2) dX6_lead_67 ?_
            refine r_iload_n 2 C dX6_lead_70 rfl ?_
            refine r_iald C (kS sC h54 kc_75) (vin (by omega) (by omega)) dX6_lead_71 ?_
            generalize (wI w52 75 (a1).toNatClampNeg) = v56
            refine r_aload_n 1 C dX6_lead_72 rfl ?_
            refine gfX6_15 76 C (kS sC h54 kc_74) (xS sC h54 xc_74_3) dX6_lead_73 ?_
            refine r_iload_n 2 C dX6_lead_76 rfl ?_
            refine r_iald C (kS sC h54 kc_76) (vin (by omega) (by omega)) dX6_lead_77 ?_
            generalize (wI w52 76 (a1).toNatClampNeg) = v57
            refine r_icmp_eq 89 C dX6_lead_78 (by decide) (fun c58 => ?_) (fun c58 => ?_)
            · have c58' := i_eq c58
              refine r_aload_n 1 C dX6_lead_89 rfl ?_
              refine gfX6_15 76 C (kS sC h54 kc_74) (xS sC h54 xc_74_3) dX6_lead_90 ?_
              refine r_iload_n 2 C dX6_lead_93 rfl ?_
              refine r_iconst (v := (-1)) C dX6_lead_94 (by decide) ?_
              refine r_iast C (kS sC h54 kc_76) (vin (by omega) (by omega)) dX6_lead_95 (fun w59 e60 => ?_)
              have h61 := Ch.putS h54 e60 (by decide)
              have o62 := Inv.put0 o55 e60 (by decide)
              obtain ⟨i63, e64⟩ : ∃ z : Int32, u1 + Int32.ofInt 1 = z := ⟨_, rfl⟩
              have i63' := iinc_ok e64 (by decide) (by omega) (by omega)
              refine r_iinc [(2, .int i63), (3, .int r18), (0, .ref (gz (xG x) + 74)), (1, .int a1)] 3 C dX6_lead_96 rfl e64 (by decide) rfl ?_
              refine r_goto 2 C dX6_lead_99 (by decide) ?_
              refine r_lv [2, 3, 0] rfl ?_
              exact ih9 i63 w59 h61 o62 (by omega) (by omega)
            · have c58' := i_ne c58
              refine r_aload_n 1 C dX6_lead_81 rfl ?_
              refine r_iload_n 2 C dX6_lead_82 rfl ?_
              refine callVI C cwX6_82_V (ctX6_fate_74 _ _ w52 (sS sC h54) o55 a1 ) (by decide) (kS sC h54 kc_74) rfl rfl rfl (Nat.le_of_ble_eq_true rfl) (by decide) dX6_lead_83 (fun r67 w66 y65 => ?_)
              show V x 0 0 w66 86 [(3, .int r18), (0, .ref (gz (xG x) + 74)), (1, .int a1), (2, .int u1)] [.int r67]
              obtain ⟨h68, o69⟩ := y65
              have h70 := Ch.tr h54 h68 (by decide) (by decide)
              refine r_if_eq 96 C dX6_lead_86 (by decide) (fun c71 => ?_) (fun c71 => ?_)
              · have c71' := i_eq c71
                obtain ⟨i72, e73⟩ : ∃ z : Int32, u1 + Int32.ofInt 1 = z := ⟨_, rfl⟩
                have i72' := iinc_ok e73 (by decide) (by omega) (by omega)
                refine r_iinc [(2, .int i72), (3, .int r18), (0, .ref (gz (xG x) + 74)), (1, .int a1)] 3 C dX6_lead_96 rfl e73 (by decide) rfl ?_
                refine r_goto 2 C dX6_lead_99 (by decide) ?_
                refine r_lv [2, 3, 0] rfl ?_
                exact ih9 i72 w66 h70 o69 (by omega) (by omega)
              · have c71' := i_ne c71
                refine r_aload_n 1 C dX6_lead_89 rfl ?_
                refine gfX6_15 76 C (kS sC h70 kc_74) (xS sC h70 xc_74_3) dX6_lead_90 ?_
                refine r_iload_n 2 C dX6_lead_93 rfl ?_
                refine r_iconst (v := (-1)) C dX6_lead_94 (by decide) ?_
                refine r_iast C (kS sC h70 kc_76) (vin (by omega) (by omega)) dX6_lead_95 (fun w74 e75 => ?_)
                have h76 := Ch.putS h70 e75 (by decide)
                have o77 := Inv.put0 o69 e75 (by decide)
                obtain ⟨i78, e79⟩ : ∃ z : Int32, u1 + Int32.ofInt 1 = z := ⟨_, rfl⟩
                have i78' := iinc_ok e79 (by decide) (by omega) (by omega)
                refine r_iinc [(2, .int i78), (3, .int r18), (0, .ref (gz (xG x) + 74)), (1, .int a1)] 3 C dX6_lead_96 rfl e79 (by decide) rfl ?_
                refine r_goto 2 C dX6_lead_99 (by decide) ?_
                refine r_lv [2, 3, 0] rfl ?_
                exact ih9 i78 w74 h76 o77 (by omega) (by omega)
  refine r_iconst (v := 0) C dX6_lead_0 (by decide) ?_
  refine r_istore_n [(2, .int 0), (0, .ref (gz (xG x) + 74)), (1, .int a1)] C dX6_lead_1 (by decide) rfl ?_
  refine r_lv [1, 2, 0] rfl ?_
  exact LP2 4294967296 0 w h0 o0 (by omega) (by omega)
set_option maxHeartbeats 4000000 in
set_option maxRecDepth 100000 in
theorem ctX6_hears_77 (l : Launch) (G : Gt) (w : Wv) (sC : Str KC XC w) (o0 : Inv RC w) (a1 : Int32) (a2 : Int32) : CtI l G yX6_hears cX6_hears 4 .boolean ({ frames := 2, cells := 0, slots := 0, locals := 50 } : Room) [.ref (gz G + 77), .int a1, .int a2] w (fun r w' => Ch [25, 26, 27] [] w w' ∧ Inv RC w') := by
  refine enterI (by decide) (Nat.le_of_ble_eq_true rfl) ?_
  intro x el eG C hret
  subst el; subst eG
  show V x 0 0 w 0 [(0, .ref (gz (xG x) + 77)), (1, .int a1), (2, .int a2)] []
  have h0 : Ch [25, 26, 27] [] w w := Ch.rf
  have qm1 : ((-1) : Int32).toInt = (-1) := by decide
  have q0 : (0 : Int32).toInt = 0 := by decide
  have q1 : (1 : Int32).toInt = 1 := by decide
  refine r_aload_n 0 C dX6_hears_0 rfl ?_
  refine gfX6_18 3 C (kS sC h0 kc_77) (xS sC h0 xc_77_4) dX6_hears_1 ?_
  refine r_iload_n 1 C dX6_hears_4 rfl ?_
  refine r_iload_n 2 C dX6_hears_5 rfl ?_
  refine callVI C cwX6_63_V (ctX9_isFollower_3 _ _ w (sS sC h0) o0 a1 a2 ) (by decide) (kS sC h0 kc_3) rfl rfl rfl (Nat.le_of_ble_eq_true rfl) (by decide) dX6_hears_6 (fun r3 w2 y1 => ?_)
  show V x 0 0 w2 9 [(0, .ref (gz (xG x) + 77)), (1, .int a1), (2, .int a2)] [.int r3]
  obtain ⟨h4, o5, g6⟩ := y1
  have h7 := Ch.tr h0 h4 (by decide) (by decide)
  refine r_if_eq 20 C dX6_hears_9 (by decide) (fun c8 => ?_) (fun c8 => ?_)
  · have c8' := i_eq c8
    refine r_iconst (v := 0) C dX6_hears_20 (by decide) ?_
    exact hret _ _ _ _ dX6_hears_21 (nar_z (z_of (by omega))) ⟨h7, o5⟩
  · have c8' := i_ne c8
    refine r_aload_n 0 C dX6_hears_12 rfl ?_
    refine r_iload_n 1 C dX6_hears_13 rfl ?_
    refine callVI C cwX6_66_V (ctX6_isHere_77 _ _ w2 (sS sC h7) o5 a1 ) (by decide) (kS sC h7 kc_77) rfl rfl rfl (Nat.le_of_ble_eq_true rfl) (by decide) dX6_hears_14 (fun r11 w10 y9 => ?_)
    show V x 0 0 w10 17 [(0, .ref (gz (xG x) + 77)), (1, .int a1), (2, .int a2)] [.int r11]
    obtain ⟨h12, o13⟩ := y9
    have h14 := Ch.tr h7 h12 (by decide) (by decide)
    refine r_if_ne 22 C dX6_hears_17 (by decide) (fun c15 => ?_) (fun c15 => ?_)
    · have c15' := i_ne c15
      refine r_aload_n 0 C dX6_hears_22 rfl ?_
      refine gfX6_22 21 C (kS sC h14 kc_77) (xS sC h14 xc_77_5) dX6_hears_23 ?_
      refine r_aload_n 0 C dX6_hears_26 rfl ?_
      refine gfX6_9 78 C (kS sC h14 kc_77) (xS sC h14 xc_77_2) dX6_hears_27 ?_
      refine r_iload_n 1 C dX6_hears_30 rfl ?_
      refine r_iald C (kS sC h14 kc_78) (vin (by omega) (by omega)) dX6_hears_31 ?_
      generalize (wI w10 78 (a1).toNatClampNeg) = v16
      refine r_aload_n 0 C dX6_hears_32 rfl ?_
      refine gfX6_32 (v := (wI w 77 0)) C (kS sC h14 kc_77) (h12.I (by decide) (by decide) (h4.I (by decide) (by decide) rfl)) dX6_hears_33 ?_
      refine callVI C cwX6_70_V (ctX1_steps_21 _ _ w10 (sS sC h14) o13 v16 (wI w 77 0) ) (by decide) (kS sC h14 kc_21) rfl rfl rfl (Nat.le_of_ble_eq_true rfl) (by decide) dX6_hears_36 (fun r19 w18 y17 => ?_)
      show V x 0 0 w18 39 [(0, .ref (gz (xG x) + 77)), (1, .int a1), (2, .int a2)] [.int r19]
      obtain ⟨h20, o21⟩ := y17
      have h22 := Ch.tr h14 h20 (by decide) (by decide)
      refine r_istore_n [(3, .int r19), (0, .ref (gz (xG x) + 77)), (1, .int a1), (2, .int a2)] C dX6_hears_39 (by decide) rfl ?_
      refine r_iload_n 0 C dX6_hears_40 rfl ?_
      refine r_iconst (v := (-1)) C dX6_hears_41 (by decide) ?_
      refine r_icmp_eq 62 C dX6_hears_42 (by decide) (fun c23 => ?_) (fun c23 => ?_)
      · have c23' := i_eq c23
        refine r_iconst (v := 0) C dX6_hears_62 (by decide) ?_
        exact hret _ _ _ _ dX6_hears_63 (nar_z (z_of (by omega))) ⟨h22, o21⟩
      · have c23' := i_ne c23
        refine r_iload_n 0 C dX6_hears_45 rfl ?_
        refine r_aload_n 1 C dX6_hears_46 rfl ?_
        refine gfX6_18 3 C (kS sC h22 kc_77) (xS sC h22 xc_77_4) dX6_hears_47 ?_
        refine gfX6_73 11 C (kS sC h22 kc_3) (xS sC h22 xc_3_16) dX6_hears_50 ?_
        refine r_iload_n 3 C dX6_hears_53 rfl ?_
        refine r_iald C (kS sC h22 kc_11) (vin (by omega) (by omega)) dX6_hears_54 ?_
        generalize (wI w18 11 (a2).toNatClampNeg) = v24
        refine r_icmp_gt 62 C dX6_hears_55 (by decide) (fun c25 => ?_) (fun c25 => ?_)
        · have c25' := i_lt c25
          refine r_iconst (v := 0) C dX6_hears_62 (by decide) ?_
          exact hret _ _ _ _ dX6_hears_63 (nar_z (z_of (by omega))) ⟨h22, o21⟩
        · have c25' := i_nlt c25
          refine r_iconst (v := 1) C dX6_hears_58 (by decide) ?_
          refine r_goto 63 C dX6_hears_59 (by decide) ?_
          exact hret _ _ _ _ dX6_hears_63 (nar_z (z_of (by omega))) ⟨h22, o21⟩
    · have c15' := i_eq c15
      refine r_iconst (v := 0) C dX6_hears_20 (by decide) ?_
      exact hret _ _ _ _ dX6_hears_21 (nar_z (z_of (by omega))) ⟨h14, o13⟩
set_option maxHeartbeats 4000000 in
set_option maxRecDepth 100000 in
theorem ctX6_lead_77 (l : Launch) (G : Gt) (w : Wv) (sC : Str KC XC w) (o0 : Inv RC w) (a1 : Int32) (b1 : 0 ≤ a1.toInt ∧ a1.toInt ≤ 5) : CtV l G yX6_lead cX6_lead 4 ({ frames := 2, cells := 0, slots := 0, locals := 54 } : Room) [.ref (gz G + 77), .int a1] w (fun w' => Ch [25, 26, 27, 78, 79] [] w w' ∧ Inv RC w') := by
  refine enterV (by decide) (Nat.le_of_ble_eq_true rfl) ?_
  intro x el eG C hnm hret
  subst el; subst eG
  show V x 0 0 w 0 [(0, .ref (gz (xG x) + 77)), (1, .int a1)] []
  have h0 : Ch [25, 26, 27, 78, 79] [] w w := Ch.rf
  have qm1 : ((-1) : Int32).toInt = (-1) := by decide
  have q0 : (0 : Int32).toInt = 0 := by decide
  have LP2 : ∀ (f3 : Nat) (u1 : Int32) (w4 : Wv), Ch [25, 26, 27, 78, 79] [] w w4 → Inv RC w4 → (0 ≤ u1.toInt ∧ u1.toInt ≤ 2147483647) → 2147483647 - u1.toInt < f3 → V x 0 0 w4 2 [(0, .ref (gz (xG x) + 77)), (1, .int a1), (2, .int u1)] [] := by
    intro f3
    induction f3 with
    | zero => intro u1 w4 h5 o6 z7 z8; exfalso; omega
    | succ f3 ih9 =>
      intro u1 w4 h5 o6 z7 z8
      refine r_iload_n 2 C dX6_lead_2 rfl ?_
      refine r_aload_n 0 C dX6_lead_3 rfl ?_
      refine gfX6_18 3 C (kS sC h5 kc_77) (xS sC h5 xc_77_4) dX6_lead_4 ?_
      refine gfX6_76 8 C (kS sC h5 kc_3) (xS sC h5 xc_3_13) dX6_lead_7 ?_
      refine r_iload_n 1 C dX6_lead_10 rfl ?_
      refine r_iald C (kS sC h5 kc_8) (vin (by omega) (by omega)) dX6_lead_11 ?_
      generalize (wI w4 8 (a1).toNatClampNeg) = v10
      refine r_icmp_ge 102 C dX6_lead_12 (by decide) (fun c11 => ?_) (fun c11 => ?_)
      · have c11' := i_le c11
        exact hret _ _ _ dX6_lead_102 ⟨h5, o6⟩
      · have c11' := i_nle c11
        refine r_aload_n 0 C dX6_lead_15 rfl ?_
        refine gfX6_15 79 C (kS sC h5 kc_77) (xS sC h5 xc_77_3) dX6_lead_16 ?_
        refine r_iload_n 1 C dX6_lead_19 rfl ?_
        refine r_iald C (kS sC h5 kc_79) (vin (by omega) (by omega)) dX6_lead_20 ?_
        generalize (wI w4 79 (a1).toNatClampNeg) = v12
        refine r_iconst (v := (-1)) C dX6_lead_21 (by decide) ?_
        refine r_icmp_eq 102 C dX6_lead_22 (by decide) (fun c13 => ?_) (fun c13 => ?_)
        · have c13' := i_eq c13
          exact hret _ _ _ dX6_lead_102 ⟨h5, o6⟩
        · have c13' := i_ne c13
          refine r_aload_n 0 C dX6_lead_25 rfl ?_
          refine gfX6_22 21 C (kS sC h5 kc_77) (xS sC h5 xc_77_5) dX6_lead_26 ?_
          refine r_aload_n 0 C dX6_lead_29 rfl ?_
          refine gfX6_9 78 C (kS sC h5 kc_77) (xS sC h5 xc_77_2) dX6_lead_30 ?_
          refine r_iload_n 1 C dX6_lead_33 rfl ?_
          refine r_iald C (kS sC h5 kc_78) (vin (by omega) (by omega)) dX6_lead_34 ?_
          generalize (wI w4 78 (a1).toNatClampNeg) = v14
          refine r_aload_n 0 C dX6_lead_35 rfl ?_
          refine gfX6_15 79 C (kS sC h5 kc_77) (xS sC h5 xc_77_3) dX6_lead_36 ?_
          refine r_iload_n 1 C dX6_lead_39 rfl ?_
          refine r_iald C (kS sC h5 kc_79) (vin (by omega) (by omega)) dX6_lead_40 ?_
          generalize (wI w4 79 (a1).toNatClampNeg) = v15
          refine callVI C cwX6_79_V (ctX1_onward_21 _ _ w4 (sS sC h5) o6 v14 v15 ) (by decide) (kS sC h5 kc_21) rfl rfl rfl (Nat.le_of_ble_eq_true rfl) (by decide) dX6_lead_41 (fun r18 w17 y16 => ?_)
          show V x 0 0 w17 44 [(0, .ref (gz (xG x) + 77)), (1, .int a1), (2, .int u1)] [.int r18]
          obtain ⟨h19, o20⟩ := y16
          have h21 := Ch.tr h5 h19 (by decide) (by decide)
          refine r_istore_n [(3, .int r18), (0, .ref (gz (xG x) + 77)), (1, .int a1), (2, .int u1)] C dX6_lead_44 (by decide) rfl ?_
          refine r_aload_n 1 C dX6_lead_45 rfl ?_
          refine gfX6_9 78 C (kS sC h21 kc_77) (xS sC h21 xc_77_2) dX6_lead_46 ?_
          refine r_iload_n 2 C dX6_lead_49 rfl ?_
          refine r_iload_n 0 C dX6_lead_50 rfl ?_
          refine r_iconst (v := (-1)) C dX6_lead_51 (by decide) ?_
          refine r_icmp_ne 64 C dX6_lead_52 (by decide) (fun c22 => ?_) (fun c22 => ?_)
          · have c22' := i_ne c22
            refine r_iload_n 0 C dX6_lead_64 rfl ?_
            refine r_iast C (kS sC h21 kc_78) (vin (by omega) (by omega)) dX6_lead_65 (fun w23 e24 => ?_)
            have h25 := Ch.putS h21 e24 (by decide)
            have o26 := Inv.put0 o20 e24 (by decide)
            refine r_aload_n 1 C dX6_lead_66 rfl ?_
            refine gfX6_9 78 C (kS sC h25 kc_77) (xS sC h25 xc_77_2) dX6_lead_67 ?_
            refine r_iload_n 2 C dX6_lead_70 rfl ?_
            refine r_iald C (kS sC h25 kc_78) (vin (by omega) (by omega)) dX6_lead_71 ?_
            generalize (wI w23 78 (a1).toNatClampNeg) = v27
            refine r_aload_n 1 C dX6_lead_72 rfl ?_
            refine gfX6_15 79 C (kS sC h25 kc_77) (xS sC h25 xc_77_3) dX6_lead_73 ?_
            refine r_iload_n 2 C dX6_lead_76 rfl ?_
            refine r_iald C (kS sC h25 kc_79) (vin (by omega) (by omega)) dX6_lead_77 ?_
            generalize (wI w23 79 (a1).toNatClampNeg) = v28
            refine r_icmp_eq 89 C dX6_lead_78 (by decide) (fun c29 => ?_) (fun c29 => ?_)
            · have c29' := i_eq c29
              refine r_aload_n 1 C dX6_lead_89 rfl ?_
              refine gfX6_15 79 C (kS sC h25 kc_77) (xS sC h25 xc_77_3) dX6_lead_90 ?_
              refine r_iload_n 2 C dX6_lead_93 rfl ?_
              refine r_iconst (v := (-1)) C dX6_lead_94 (by decide) ?_
              refine r_iast C (kS sC h25 kc_79) (vin (by omega) (by omega)) dX6_lead_95 (fun w30 e31 => ?_)
              have h32 := Ch.putS h25 e31 (by decide)
              have o33 := Inv.put0 o26 e31 (by decide)
              obtain ⟨i34, e35⟩ : ∃ z : Int32, u1 + Int32.ofInt 1 = z := ⟨_, rfl⟩
              have i34' := iinc_ok e35 (by decide) (by omega) (by omega)
              refine r_iinc [(2, .int i34), (3, .int r18), (0, .ref (gz (xG x) + 77)), (1, .int a1)] 3 C dX6_lead_96 rfl e35 (by decide) rfl ?_
              refine r_goto 2 C dX6_lead_99 (by decide) ?_
              refine r_lv [2, 3, 0] rfl ?_
              exact ih9 i34 w30 h32 o33 (by omega) (by omega)
            · have c29' := i_ne c29
              refine r_aload_n 1 C dX6_lead_81 rfl ?_
              refine r_iload_n 2 C dX6_lead_82 rfl ?_
              refine callVI C cwX6_82_V (ctX6_fate_77 _ _ w23 (sS sC h25) o26 a1 ) (by decide) (kS sC h25 kc_77) rfl rfl rfl (Nat.le_of_ble_eq_true rfl) (by decide) dX6_lead_83 (fun r38 w37 y36 => ?_)
              show V x 0 0 w37 86 [(3, .int r18), (0, .ref (gz (xG x) + 77)), (1, .int a1), (2, .int u1)] [.int r38]
              obtain ⟨h39, o40⟩ := y36
              have h41 := Ch.tr h25 h39 (by decide) (by decide)
              refine r_if_eq 96 C dX6_lead_86 (by decide) (fun c42 => ?_) (fun c42 => ?_)
              · have c42' := i_eq c42
                obtain ⟨i43, e44⟩ : ∃ z : Int32, u1 + Int32.ofInt 1 = z := ⟨_, rfl⟩
                have i43' := iinc_ok e44 (by decide) (by omega) (by omega)
                refine r_iinc [(2, .int i43), (3, .int r18), (0, .ref (gz (xG x) + 77)), (1, .int a1)] 3 C dX6_lead_96 rfl e44 (by decide) rfl ?_
                refine r_goto 2 C dX6_lead_99 (by decide) ?_
                refine r_lv [2, 3, 0] rfl ?_
                exact ih9 i43 w37 h41 o40 (by omega) (by omega)
              · have c42' := i_ne c42
                refine r_aload_n 1 C dX6_lead_89 rfl ?_
                refine gfX6_15 79 C (kS sC h41 kc_77) (xS sC h41 xc_77_3) dX6_lead_90 ?_
                refine r_iload_n 2 C dX6_lead_93 rfl ?_
                refine r_iconst (v := (-1)) C dX6_lead_94 (by decide) ?_
                refine r_iast C (kS sC h41 kc_79) (vin (by omega) (by omega)) dX6_lead_95 (fun w45 e46 => ?_)
                have h47 := Ch.putS h41 e46 (by decide)
                have o48 := Inv.put0 o40 e46 (by decide)
                obtain ⟨i49, e50⟩ : ∃ z : Int32, u1 + Int32.ofInt 1 = z := ⟨_, rfl⟩
                have i49' := iinc_ok e50 (by decide) (by omega) (by omega)
                refine r_iinc [(2, .int i49), (3, .int r18), (0, .ref (gz (xG x) + 77)), (1, .int a1)] 3 C dX6_lead_96 rfl e50 (by decide) rfl ?_
                refine r_goto 2 C dX6_lead_99 (by decide) ?_
                refine r_lv [2, 3, 0] rfl ?_
                exact ih9 i49 w45 h47 o48 (by omega) (by omega)
          · have c22' := i_eq c22
            refine r_aload_n 1 C dX6_lead_55 rfl ?_
            refine gfX6_9 78 C (kS sC h21 kc_77) (xS sC h21 xc_77_2) dX6_lead_56 ?_
            refine r_iload_n 2 C dX6_lead_59 rfl ?_
            refine r_iald C (kS sC h21 kc_78) (vin (by omega) (by omega)) dX6_lead_60 ?_
            generalize (wI w17 78 (a1).toNatClampNeg) = v51
            refine r_goto 65 C dX6_lead_61 (by decide) ?_
            refine r_iast C (kS sC h21 kc_78) (vin (by omega) (by omega)) dX6_lead_65 (fun w52 e53 => ?_)
            have h54 := Ch.putS h21 e53 (by decide)
            have o55 := Inv.put0 o20 e53 (by decide)
            refine r_aload_n 1 C dX6_lead_66 rfl ?_
            refine gfX6_9 78 C (kS sC h54 kc_77) (xS sC h54 xc_77_2) dX6_lead_67 ?_
            refine r_iload_n 2 C dX6_lead_70 rfl ?_
            refine r_iald C (kS sC h54 kc_78) (vin (by omega) (by omega)) dX6_lead_71 ?_
            generalize (wI w52 78 (a1).toNatClampNeg) = v56
            refine r_aload_n 1 C dX6_lead_72 rfl ?_
            refine gfX6_15 79 C (kS sC h54 kc_77) (xS sC h54 xc_77_3) dX6_lead_73 ?_
            refine r_iload_n 2 C dX6_lead_76 rfl ?_
            refine r_iald C (kS sC h54 kc_79) (vin (by omega) (by omega)) dX6_lead_77 ?_
            generalize (wI w52 79 (a1).toNatClampNeg) = v57
            refine r_icmp_eq 89 C dX6_lead_78 (by decide) (fun c58 => ?_) (fun c58 => ?_)
            · have c58' := i_eq c58
              refine r_aload_n 1 C dX6_lead_89 rfl ?_
              refine gfX6_15 79 C (kS sC h54 kc_77) (xS sC h54 xc_77_3) dX6_lead_90 ?_
              refine r_iload_n 2 C dX6_lead_93 rfl ?_
              refine r_iconst (v := (-1)) C dX6_lead_94 (by decide) ?_
              refine r_iast C (kS sC h54 kc_79) (vin (by omega) (by omega)) dX6_lead_95 (fun w59 e60 => ?_)
              have h61 := Ch.putS h54 e60 (by decide)
              have o62 := Inv.put0 o55 e60 (by decide)
              obtain ⟨i63, e64⟩ : ∃ z : Int32, u1 + Int32.ofInt 1 = z := ⟨_, rfl⟩
              have i63' := iinc_ok e64 (by decide) (by omega) (by omega)
              refine r_iinc [(2, .int i63), (3, .int r18), (0, .ref (gz (xG x) + 77)), (1, .int a1)] 3 C dX6_lead_96 rfl e64 (by decide) rfl ?_
              refine r_goto 2 C dX6_lead_99 (by decide) ?_
              refine r_lv [2, 3, 0] rfl ?_
              exact ih9 i63 w59 h61 o62 (by omega) (by omega)
            · have c58' := i_ne c58
              refine r_aload_n 1 C dX6_lead_81 rfl ?_
              refine r_iload_n 2 C dX6_lead_82 rfl ?_
              refine callVI C cwX6_82_V (ctX6_fate_77 _ _ w52 (sS sC h54) o55 a1 ) (by decide) (kS sC h54 kc_77) rfl rfl rfl (Nat.le_of_ble_eq_true rfl) (by decide) dX6_lead_83 (fun r67 w66 y65 => ?_)
              show V x 0 0 w66 86 [(3, .int r18), (0, .ref (gz (xG x) + 77)), (1, .int a1), (2, .int u1)] [.int r67]
              obtain ⟨h68, o69⟩ := y65
              have h70 := Ch.tr h54 h68 (by decide) (by decide)
              refine r_if_eq 96 C dX6_lead_86 (by decide) (fun c71 => ?_) (fun c71 => ?_)
              · have c71' := i_eq c71
                obtain ⟨i72, e73⟩ : ∃ z : Int32, u1 + Int32.ofInt 1 = z := ⟨_, rfl⟩
                have i72' := iinc_ok e73 (by decide) (by omega) (by omega)
                refine r_iinc [(2, .int i72), (3, .int r18), (0, .ref (gz (xG x) + 77)), (1, .int a1)] 3 C dX6_lead_96 rfl e73 (by decide) rfl ?_
                refine r_goto 2 C dX6_lead_99 (by decide) ?_
                refine r_lv [2, 3, 0] rfl ?_
                exact ih9 i72 w66 h70 o69 (by omega) (by omega)
              · have c71' := i_ne c71
                refine r_aload_n 1 C dX6_lead_89 rfl ?_
                refine gfX6_15 79 C (kS sC h70 kc_77) (xS sC h70 xc_77_3) dX6_lead_90 ?_
                refine r_iload_n 2 C dX6_lead_93 rfl ?_
                refine r_iconst (v := (-1)) C dX6_lead_94 (by decide) ?_
                refine r_iast C (kS sC h70 kc_79) (vin (by omega) (by omega)) dX6_lead_95 (fun w74 e75 => ?_)
                have h76 := Ch.putS h70 e75 (by decide)
                have o77 := Inv.put0 o69 e75 (by decide)
                obtain ⟨i78, e79⟩ : ∃ z : Int32, u1 + Int32.ofInt 1 = z := ⟨_, rfl⟩
                have i78' := iinc_ok e79 (by decide) (by omega) (by omega)
                refine r_iinc [(2, .int i78), (3, .int r18), (0, .ref (gz (xG x) + 77)), (1, .int a1)] 3 C dX6_lead_96 rfl e79 (by decide) rfl ?_
                refine r_goto 2 C dX6_lead_99 (by decide) ?_
                refine r_lv [2, 3, 0] rfl ?_
                exact ih9 i78 w74 h76 o77 (by omega) (by omega)
  refine r_iconst (v := 0) C dX6_lead_0 (by decide) ?_
  refine r_istore_n [(2, .int 0), (0, .ref (gz (xG x) + 77)), (1, .int a1)] C dX6_lead_1 (by decide) rfl ?_
  refine r_lv [1, 2, 0] rfl ?_
  exact LP2 4294967296 0 w h0 o0 (by omega) (by omega)
set_option maxHeartbeats 4000000 in
set_option maxRecDepth 100000 in
theorem ctX6_hears_88 (l : Launch) (G : Gt) (w : Wv) (sC : Str KC XC w) (o0 : Inv RC w) (a1 : Int32) (a2 : Int32) : CtI l G yX6_hears cX6_hears 4 .boolean ({ frames := 2, cells := 0, slots := 0, locals := 50 } : Room) [.ref (gz G + 88), .int a1, .int a2] w (fun r w' => Ch [25, 26, 27] [] w w' ∧ Inv RC w') := by
  refine enterI (by decide) (Nat.le_of_ble_eq_true rfl) ?_
  intro x el eG C hret
  subst el; subst eG
  show V x 0 0 w 0 [(0, .ref (gz (xG x) + 88)), (1, .int a1), (2, .int a2)] []
  have h0 : Ch [25, 26, 27] [] w w := Ch.rf
  have qm1 : ((-1) : Int32).toInt = (-1) := by decide
  have q0 : (0 : Int32).toInt = 0 := by decide
  have q1 : (1 : Int32).toInt = 1 := by decide
  refine r_aload_n 0 C dX6_hears_0 rfl ?_
  refine gfX6_18 3 C (kS sC h0 kc_88) (xS sC h0 xc_88_4) dX6_hears_1 ?_
  refine r_iload_n 1 C dX6_hears_4 rfl ?_
  refine r_iload_n 2 C dX6_hears_5 rfl ?_
  refine callVI C cwX6_63_V (ctX9_isFollower_3 _ _ w (sS sC h0) o0 a1 a2 ) (by decide) (kS sC h0 kc_3) rfl rfl rfl (Nat.le_of_ble_eq_true rfl) (by decide) dX6_hears_6 (fun r3 w2 y1 => ?_)
  show V x 0 0 w2 9 [(0, .ref (gz (xG x) + 88)), (1, .int a1), (2, .int a2)] [.int r3]
  obtain ⟨h4, o5, g6⟩ := y1
  have h7 := Ch.tr h0 h4 (by decide) (by decide)
  refine r_if_eq 20 C dX6_hears_9 (by decide) (fun c8 => ?_) (fun c8 => ?_)
  · have c8' := i_eq c8
    refine r_iconst (v := 0) C dX6_hears_20 (by decide) ?_
    exact hret _ _ _ _ dX6_hears_21 (nar_z (z_of (by omega))) ⟨h7, o5⟩
  · have c8' := i_ne c8
    refine r_aload_n 0 C dX6_hears_12 rfl ?_
    refine r_iload_n 1 C dX6_hears_13 rfl ?_
    refine callVI C cwX6_66_V (ctX6_isHere_88 _ _ w2 (sS sC h7) o5 a1 ) (by decide) (kS sC h7 kc_88) rfl rfl rfl (Nat.le_of_ble_eq_true rfl) (by decide) dX6_hears_14 (fun r11 w10 y9 => ?_)
    show V x 0 0 w10 17 [(0, .ref (gz (xG x) + 88)), (1, .int a1), (2, .int a2)] [.int r11]
    obtain ⟨h12, o13⟩ := y9
    have h14 := Ch.tr h7 h12 (by decide) (by decide)
    refine r_if_ne 22 C dX6_hears_17 (by decide) (fun c15 => ?_) (fun c15 => ?_)
    · have c15' := i_ne c15
      refine r_aload_n 0 C dX6_hears_22 rfl ?_
      refine gfX6_22 21 C (kS sC h14 kc_88) (xS sC h14 xc_88_5) dX6_hears_23 ?_
      refine r_aload_n 0 C dX6_hears_26 rfl ?_
      refine gfX6_9 89 C (kS sC h14 kc_88) (xS sC h14 xc_88_2) dX6_hears_27 ?_
      refine r_iload_n 1 C dX6_hears_30 rfl ?_
      refine r_iald C (kS sC h14 kc_89) (vin (by omega) (by omega)) dX6_hears_31 ?_
      generalize (wI w10 89 (a1).toNatClampNeg) = v16
      refine r_aload_n 0 C dX6_hears_32 rfl ?_
      refine gfX6_32 (v := (wI w 88 0)) C (kS sC h14 kc_88) (h12.I (by decide) (by decide) (h4.I (by decide) (by decide) rfl)) dX6_hears_33 ?_
      refine callVI C cwX6_70_V (ctX1_steps_21 _ _ w10 (sS sC h14) o13 v16 (wI w 88 0) ) (by decide) (kS sC h14 kc_21) rfl rfl rfl (Nat.le_of_ble_eq_true rfl) (by decide) dX6_hears_36 (fun r19 w18 y17 => ?_)
      show V x 0 0 w18 39 [(0, .ref (gz (xG x) + 88)), (1, .int a1), (2, .int a2)] [.int r19]
      obtain ⟨h20, o21⟩ := y17
      have h22 := Ch.tr h14 h20 (by decide) (by decide)
      refine r_istore_n [(3, .int r19), (0, .ref (gz (xG x) + 88)), (1, .int a1), (2, .int a2)] C dX6_hears_39 (by decide) rfl ?_
      refine r_iload_n 0 C dX6_hears_40 rfl ?_
      refine r_iconst (v := (-1)) C dX6_hears_41 (by decide) ?_
      refine r_icmp_eq 62 C dX6_hears_42 (by decide) (fun c23 => ?_) (fun c23 => ?_)
      · have c23' := i_eq c23
        refine r_iconst (v := 0) C dX6_hears_62 (by decide) ?_
        exact hret _ _ _ _ dX6_hears_63 (nar_z (z_of (by omega))) ⟨h22, o21⟩
      · have c23' := i_ne c23
        refine r_iload_n 0 C dX6_hears_45 rfl ?_
        refine r_aload_n 1 C dX6_hears_46 rfl ?_
        refine gfX6_18 3 C (kS sC h22 kc_88) (xS sC h22 xc_88_4) dX6_hears_47 ?_
        refine gfX6_73 11 C (kS sC h22 kc_3) (xS sC h22 xc_3_16) dX6_hears_50 ?_
        refine r_iload_n 3 C dX6_hears_53 rfl ?_
        refine r_iald C (kS sC h22 kc_11) (vin (by omega) (by omega)) dX6_hears_54 ?_
        generalize (wI w18 11 (a2).toNatClampNeg) = v24
        refine r_icmp_gt 62 C dX6_hears_55 (by decide) (fun c25 => ?_) (fun c25 => ?_)
        · have c25' := i_lt c25
          refine r_iconst (v := 0) C dX6_hears_62 (by decide) ?_
          exact hret _ _ _ _ dX6_hears_63 (nar_z (z_of (by omega))) ⟨h22, o21⟩
        · have c25' := i_nlt c25
          refine r_iconst (v := 1) C dX6_hears_58 (by decide) ?_
          refine r_goto 63 C dX6_hears_59 (by decide) ?_
          exact hret _ _ _ _ dX6_hears_63 (nar_z (z_of (by omega))) ⟨h22, o21⟩
    · have c15' := i_eq c15
      refine r_iconst (v := 0) C dX6_hears_20 (by decide) ?_
      exact hret _ _ _ _ dX6_hears_21 (nar_z (z_of (by omega))) ⟨h14, o13⟩
set_option maxHeartbeats 4000000 in
set_option maxRecDepth 100000 in
theorem ctX6_lead_88 (l : Launch) (G : Gt) (w : Wv) (sC : Str KC XC w) (o0 : Inv RC w) (a1 : Int32) (b1 : 0 ≤ a1.toInt ∧ a1.toInt ≤ 5) : CtV l G yX6_lead cX6_lead 4 ({ frames := 2, cells := 0, slots := 0, locals := 54 } : Room) [.ref (gz G + 88), .int a1] w (fun w' => Ch [25, 26, 27, 89, 90] [] w w' ∧ Inv RC w') := by
  refine enterV (by decide) (Nat.le_of_ble_eq_true rfl) ?_
  intro x el eG C hnm hret
  subst el; subst eG
  show V x 0 0 w 0 [(0, .ref (gz (xG x) + 88)), (1, .int a1)] []
  have h0 : Ch [25, 26, 27, 89, 90] [] w w := Ch.rf
  have qm1 : ((-1) : Int32).toInt = (-1) := by decide
  have q0 : (0 : Int32).toInt = 0 := by decide
  have LP2 : ∀ (f3 : Nat) (u1 : Int32) (w4 : Wv), Ch [25, 26, 27, 89, 90] [] w w4 → Inv RC w4 → (0 ≤ u1.toInt ∧ u1.toInt ≤ 2147483647) → 2147483647 - u1.toInt < f3 → V x 0 0 w4 2 [(0, .ref (gz (xG x) + 88)), (1, .int a1), (2, .int u1)] [] := by
    intro f3
    induction f3 with
    | zero => intro u1 w4 h5 o6 z7 z8; exfalso; omega
    | succ f3 ih9 =>
      intro u1 w4 h5 o6 z7 z8
      refine r_iload_n 2 C dX6_lead_2 rfl ?_
      refine r_aload_n 0 C dX6_lead_3 rfl ?_
      refine gfX6_18 3 C (kS sC h5 kc_88) (xS sC h5 xc_88_4) dX6_lead_4 ?_
      refine gfX6_76 8 C (kS sC h5 kc_3) (xS sC h5 xc_3_13) dX6_lead_7 ?_
      refine r_iload_n 1 C dX6_lead_10 rfl ?_
      refine r_iald C (kS sC h5 kc_8) (vin (by omega) (by omega)) dX6_lead_11 ?_
      generalize (wI w4 8 (a1).toNatClampNeg) = v10
      refine r_icmp_ge 102 C dX6_lead_12 (by decide) (fun c11 => ?_) (fun c11 => ?_)
      · have c11' := i_le c11
        exact hret _ _ _ dX6_lead_102 ⟨h5, o6⟩
      · have c11' := i_nle c11
        refine r_aload_n 0 C dX6_lead_15 rfl ?_
        refine gfX6_15 90 C (kS sC h5 kc_88) (xS sC h5 xc_88_3) dX6_lead_16 ?_
        refine r_iload_n 1 C dX6_lead_19 rfl ?_
        refine r_iald C (kS sC h5 kc_90) (vin (by omega) (by omega)) dX6_lead_20 ?_
        generalize (wI w4 90 (a1).toNatClampNeg) = v12
        refine r_iconst (v := (-1)) C dX6_lead_21 (by decide) ?_
        refine r_icmp_eq 102 C dX6_lead_22 (by decide) (fun c13 => ?_) (fun c13 => ?_)
        · have c13' := i_eq c13
          exact hret _ _ _ dX6_lead_102 ⟨h5, o6⟩
        · have c13' := i_ne c13
          refine r_aload_n 0 C dX6_lead_25 rfl ?_
          refine gfX6_22 21 C (kS sC h5 kc_88) (xS sC h5 xc_88_5) dX6_lead_26 ?_
          refine r_aload_n 0 C dX6_lead_29 rfl ?_
          refine gfX6_9 89 C (kS sC h5 kc_88) (xS sC h5 xc_88_2) dX6_lead_30 ?_
          refine r_iload_n 1 C dX6_lead_33 rfl ?_
          refine r_iald C (kS sC h5 kc_89) (vin (by omega) (by omega)) dX6_lead_34 ?_
          generalize (wI w4 89 (a1).toNatClampNeg) = v14
          refine r_aload_n 0 C dX6_lead_35 rfl ?_
          refine gfX6_15 90 C (kS sC h5 kc_88) (xS sC h5 xc_88_3) dX6_lead_36 ?_
          refine r_iload_n 1 C dX6_lead_39 rfl ?_
          refine r_iald C (kS sC h5 kc_90) (vin (by omega) (by omega)) dX6_lead_40 ?_
          generalize (wI w4 90 (a1).toNatClampNeg) = v15
          refine callVI C cwX6_79_V (ctX1_onward_21 _ _ w4 (sS sC h5) o6 v14 v15 ) (by decide) (kS sC h5 kc_21) rfl rfl rfl (Nat.le_of_ble_eq_true rfl) (by decide) dX6_lead_41 (fun r18 w17 y16 => ?_)
          show V x 0 0 w17 44 [(0, .ref (gz (xG x) + 88)), (1, .int a1), (2, .int u1)] [.int r18]
          obtain ⟨h19, o20⟩ := y16
          have h21 := Ch.tr h5 h19 (by decide) (by decide)
          refine r_istore_n [(3, .int r18), (0, .ref (gz (xG x) + 88)), (1, .int a1), (2, .int u1)] C dX6_lead_44 (by decide) rfl ?_
          refine r_aload_n 1 C dX6_lead_45 rfl ?_
          refine gfX6_9 89 C (kS sC h21 kc_88) (xS sC h21 xc_88_2) dX6_lead_46 ?_
          refine r_iload_n 2 C dX6_lead_49 rfl ?_
          refine r_iload_n 0 C dX6_lead_50 rfl ?_
          refine r_iconst (v := (-1)) C dX6_lead_51 (by decide) ?_
          refine r_icmp_ne 64 C dX6_lead_52 (by decide) (fun c22 => ?_) (fun c22 => ?_)
          · have c22' := i_ne c22
            refine r_iload_n 0 C dX6_lead_64 rfl ?_
            refine r_iast C (kS sC h21 kc_89) (vin (by omega) (by omega)) dX6_lead_65 (fun w23 e24 => ?_)
            have h25 := Ch.putS h21 e24 (by decide)
            have o26 := Inv.put0 o20 e24 (by decide)
            refine r_aload_n 1 C dX6_lead_66 rfl ?_
            refine gfX6_9 89 C (kS sC h25 kc_88) (xS sC h25 xc_88_2) dX6_lead_67 ?_
            refine r_iload_n 2 C dX6_lead_70 rfl ?_
            refine r_iald C (kS sC h25 kc_89) (vin (by omega) (by omega)) dX6_lead_71 ?_
            generalize (wI w23 89 (a1).toNatClampNeg) = v27
            refine r_aload_n 1 C dX6_lead_72 rfl ?_
            refine gfX6_15 90 C (kS sC h25 kc_88) (xS sC h25 xc_88_3) dX6_lead_73 ?_
            refine r_iload_n 2 C dX6_lead_76 rfl ?_
            refine r_iald C (kS sC h25 kc_90) (vin (by omega) (by omega)) dX6_lead_77 ?_
            generalize (wI w23 90 (a1).toNatClampNeg) = v28
            refine r_icmp_eq 89 C dX6_lead_78 (by decide) (fun c29 => ?_) (fun c29 => ?_)
            · have c29' := i_eq c29
              refine r_aload_n 1 C dX6_lead_89 rfl ?_
              refine gfX6_15 90 C (kS sC h25 kc_88) (xS sC h25 xc_88_3) dX6_lead_90 ?_
              refine r_iload_n 2 C dX6_lead_93 rfl ?_
              refine r_iconst (v := (-1)) C dX6_lead_94 (by decide) ?_
              refine r_iast C (kS sC h25 kc_90) (vin (by omega) (by omega)) dX6_lead_95 (fun w30 e31 => ?_)
              have h32 := Ch.putS h25 e31 (by decide)
              have o33 := Inv.put0 o26 e31 (by decide)
              obtain ⟨i34, e35⟩ : ∃ z : Int32, u1 + Int32.ofInt 1 = z := ⟨_, rfl⟩
              have i34' := iinc_ok e35 (by decide) (by omega) (by omega)
              refine r_iinc [(2, .int i34), (3, .int r18), (0, .ref (gz (xG x) + 88)), (1, .int a1)] 3 C dX6_lead_96 rfl e35 (by decide) rfl ?_
              refine r_goto 2 C dX6_lead_99 (by decide) ?_
              refine r_lv [2, 3, 0] rfl ?_
              exact ih9 i34 w30 h32 o33 (by omega) (by omega)
            · have c29' := i_ne c29
              refine r_aload_n 1 C dX6_lead_81 rfl ?_
              refine r_iload_n 2 C dX6_lead_82 rfl ?_
              refine callVI C cwX6_82_V (ctX6_fate_88 _ _ w23 (sS sC h25) o26 a1 ) (by decide) (kS sC h25 kc_88) rfl rfl rfl (Nat.le_of_ble_eq_true rfl) (by decide) dX6_lead_83 (fun r38 w37 y36 => ?_)
              show V x 0 0 w37 86 [(3, .int r18), (0, .ref (gz (xG x) + 88)), (1, .int a1), (2, .int u1)] [.int r38]
              obtain ⟨h39, o40⟩ := y36
              have h41 := Ch.tr h25 h39 (by decide) (by decide)
              refine r_if_eq 96 C dX6_lead_86 (by decide) (fun c42 => ?_) (fun c42 => ?_)
              · have c42' := i_eq c42
                obtain ⟨i43, e44⟩ : ∃ z : Int32, u1 + Int32.ofInt 1 = z := ⟨_, rfl⟩
                have i43' := iinc_ok e44 (by decide) (by omega) (by omega)
                refine r_iinc [(2, .int i43), (3, .int r18), (0, .ref (gz (xG x) + 88)), (1, .int a1)] 3 C dX6_lead_96 rfl e44 (by decide) rfl ?_
                refine r_goto 2 C dX6_lead_99 (by decide) ?_
                refine r_lv [2, 3, 0] rfl ?_
                exact ih9 i43 w37 h41 o40 (by omega) (by omega)
              · have c42' := i_ne c42
                refine r_aload_n 1 C dX6_lead_89 rfl ?_
                refine gfX6_15 90 C (kS sC h41 kc_88) (xS sC h41 xc_88_3) dX6_lead_90 ?_
                refine r_iload_n 2 C dX6_lead_93 rfl ?_
                refine r_iconst (v := (-1)) C dX6_lead_94 (by decide) ?_
                refine r_iast C (kS sC h41 kc_90) (vin (by omega) (by omega)) dX6_lead_95 (fun w45 e46 => ?_)
                have h47 := Ch.putS h41 e46 (by decide)
                have o48 := Inv.put0 o40 e46 (by decide)
                obtain ⟨i49, e50⟩ : ∃ z : Int32, u1 + Int32.ofInt 1 = z := ⟨_, rfl⟩
                have i49' := iinc_ok e50 (by decide) (by omega) (by omega)
                refine r_iinc [(2, .int i49), (3, .int r18), (0, .ref (gz (xG x) + 88)), (1, .int a1)] 3 C dX6_lead_96 rfl e50 (by decide) rfl ?_
                refine r_goto 2 C dX6_lead_99 (by decide) ?_
                refine r_lv [2, 3, 0] rfl ?_
                exact ih9 i49 w45 h47 o48 (by omega) (by omega)
          · have c22' := i_eq c22
            refine r_aload_n 1 C dX6_lead_55 rfl ?_
            refine gfX6_9 89 C (kS sC h21 kc_88) (xS sC h21 xc_88_2) dX6_lead_56 ?_
            refine r_iload_n 2 C dX6_lead_59 rfl ?_
            refine r_iald C (kS sC h21 kc_89) (vin (by omega) (by omega)) dX6_lead_60 ?_
            generalize (wI w17 89 (a1).toNatClampNeg) = v51
            refine r_goto 65 C dX6_lead_61 (by decide) ?_
            refine r_iast C (kS sC h21 kc_89) (vin (by omega) (by omega)) dX6_lead_65 (fun w52 e53 => ?_)
            have h54 := Ch.putS h21 e53 (by decide)
            have o55 := Inv.put0 o20 e53 (by decide)
            refine r_aload_n 1 C dX6_lead_66 rfl ?_
            refine gfX6_9 89 C (kS sC h54 kc_88) (xS sC h54 xc_88_2) dX6_lead_67 ?_
            refine r_iload_n 2 C dX6_lead_70 rfl ?_
            refine r_iald C (kS sC h54 kc_89) (vin (by omega) (by omega)) dX6_lead_71 ?_
            generalize (wI w52 89 (a1).toNatClampNeg) = v56
            refine r_aload_n 1 C dX6_lead_72 rfl ?_
            refine gfX6_15 90 C (kS sC h54 kc_88) (xS sC h54 xc_88_3) dX6_lead_73 ?_
            refine r_iload_n 2 C dX6_lead_76 rfl ?_
            refine r_iald C (kS sC h54 kc_90) (vin (by omega) (by omega)) dX6_lead_77 ?_
            generalize (wI w52 90 (a1).toNatClampNeg) = v57
            refine r_icmp_eq 89 C dX6_lead_78 (by decide) (fun c58 => ?_) (fun c58 => ?_)
            · have c58' := i_eq c58
              refine r_aload_n 1 C dX6_lead_89 rfl ?_
              refine gfX6_15 90 C (kS sC h54 kc_88) (xS sC h54 xc_88_3) dX6_lead_90 ?_
              refine r_iload_n 2 C dX6_lead_93 rfl ?_
              refine r_iconst (v := (-1)) C dX6_lead_94 (by decide) ?_
              refine r_iast C (kS sC h54 kc_90) (vin (by omega) (by omega)) dX6_lead_95 (fun w59 e60 => ?_)
              have h61 := Ch.putS h54 e60 (by decide)
              have o62 := Inv.put0 o55 e60 (by decide)
              obtain ⟨i63, e64⟩ : ∃ z : Int32, u1 + Int32.ofInt 1 = z := ⟨_, rfl⟩
              have i63' := iinc_ok e64 (by decide) (by omega) (by omega)
              refine r_iinc [(2, .int i63), (3, .int r18), (0, .ref (gz (xG x) + 88)), (1, .int a1)] 3 C dX6_lead_96 rfl e64 (by decide) rfl ?_
              refine r_goto 2 C dX6_lead_99 (by decide) ?_
              refine r_lv [2, 3, 0] rfl ?_
              exact ih9 i63 w59 h61 o62 (by omega) (by omega)
            · have c58' := i_ne c58
              refine r_aload_n 1 C dX6_lead_81 rfl ?_
              refine r_iload_n 2 C dX6_lead_82 rfl ?_
              refine callVI C cwX6_82_V (ctX6_fate_88 _ _ w52 (sS sC h54) o55 a1 ) (by decide) (kS sC h54 kc_88) rfl rfl rfl (Nat.le_of_ble_eq_true rfl) (by decide) dX6_lead_83 (fun r67 w66 y65 => ?_)
              show V x 0 0 w66 86 [(3, .int r18), (0, .ref (gz (xG x) + 88)), (1, .int a1), (2, .int u1)] [.int r67]
              obtain ⟨h68, o69⟩ := y65
              have h70 := Ch.tr h54 h68 (by decide) (by decide)
              refine r_if_eq 96 C dX6_lead_86 (by decide) (fun c71 => ?_) (fun c71 => ?_)
              · have c71' := i_eq c71
                obtain ⟨i72, e73⟩ : ∃ z : Int32, u1 + Int32.ofInt 1 = z := ⟨_, rfl⟩
                have i72' := iinc_ok e73 (by decide) (by omega) (by omega)
                refine r_iinc [(2, .int i72), (3, .int r18), (0, .ref (gz (xG x) + 88)), (1, .int a1)] 3 C dX6_lead_96 rfl e73 (by decide) rfl ?_
                refine r_goto 2 C dX6_lead_99 (by decide) ?_
                refine r_lv [2, 3, 0] rfl ?_
                exact ih9 i72 w66 h70 o69 (by omega) (by omega)
              · have c71' := i_ne c71
                refine r_aload_n 1 C dX6_lead_89 rfl ?_
                refine gfX6_15 90 C (kS sC h70 kc_88) (xS sC h70 xc_88_3) dX6_lead_90 ?_
                refine r_iload_n 2 C dX6_lead_93 rfl ?_
                refine r_iconst (v := (-1)) C dX6_lead_94 (by decide) ?_
                refine r_iast C (kS sC h70 kc_90) (vin (by omega) (by omega)) dX6_lead_95 (fun w74 e75 => ?_)
                have h76 := Ch.putS h70 e75 (by decide)
                have o77 := Inv.put0 o69 e75 (by decide)
                obtain ⟨i78, e79⟩ : ∃ z : Int32, u1 + Int32.ofInt 1 = z := ⟨_, rfl⟩
                have i78' := iinc_ok e79 (by decide) (by omega) (by omega)
                refine r_iinc [(2, .int i78), (3, .int r18), (0, .ref (gz (xG x) + 88)), (1, .int a1)] 3 C dX6_lead_96 rfl e79 (by decide) rfl ?_
                refine r_goto 2 C dX6_lead_99 (by decide) ?_
                refine r_lv [2, 3, 0] rfl ?_
                exact ih9 i78 w74 h76 o77 (by omega) (by omega)
  refine r_iconst (v := 0) C dX6_lead_0 (by decide) ?_
  refine r_istore_n [(2, .int 0), (0, .ref (gz (xG x) + 88)), (1, .int a1)] C dX6_lead_1 (by decide) rfl ?_
  refine r_lv [1, 2, 0] rfl ?_
  exact LP2 4294967296 0 w h0 o0 (by omega) (by omega)
set_option maxHeartbeats 4000000 in
set_option maxRecDepth 100000 in
theorem ctX6_hears_91 (l : Launch) (G : Gt) (w : Wv) (sC : Str KC XC w) (o0 : Inv RC w) (a1 : Int32) (a2 : Int32) : CtI l G yX6_hears cX6_hears 4 .boolean ({ frames := 2, cells := 0, slots := 0, locals := 50 } : Room) [.ref (gz G + 91), .int a1, .int a2] w (fun r w' => Ch [25, 26, 27] [] w w' ∧ Inv RC w') := by
  refine enterI (by decide) (Nat.le_of_ble_eq_true rfl) ?_
  intro x el eG C hret
  subst el; subst eG
  show V x 0 0 w 0 [(0, .ref (gz (xG x) + 91)), (1, .int a1), (2, .int a2)] []
  have h0 : Ch [25, 26, 27] [] w w := Ch.rf
  have qm1 : ((-1) : Int32).toInt = (-1) := by decide
  have q0 : (0 : Int32).toInt = 0 := by decide
  have q1 : (1 : Int32).toInt = 1 := by decide
  refine r_aload_n 0 C dX6_hears_0 rfl ?_
  refine gfX6_18 3 C (kS sC h0 kc_91) (xS sC h0 xc_91_4) dX6_hears_1 ?_
  refine r_iload_n 1 C dX6_hears_4 rfl ?_
  refine r_iload_n 2 C dX6_hears_5 rfl ?_
  refine callVI C cwX6_63_V (ctX9_isFollower_3 _ _ w (sS sC h0) o0 a1 a2 ) (by decide) (kS sC h0 kc_3) rfl rfl rfl (Nat.le_of_ble_eq_true rfl) (by decide) dX6_hears_6 (fun r3 w2 y1 => ?_)
  show V x 0 0 w2 9 [(0, .ref (gz (xG x) + 91)), (1, .int a1), (2, .int a2)] [.int r3]
  obtain ⟨h4, o5, g6⟩ := y1
  have h7 := Ch.tr h0 h4 (by decide) (by decide)
  refine r_if_eq 20 C dX6_hears_9 (by decide) (fun c8 => ?_) (fun c8 => ?_)
  · have c8' := i_eq c8
    refine r_iconst (v := 0) C dX6_hears_20 (by decide) ?_
    exact hret _ _ _ _ dX6_hears_21 (nar_z (z_of (by omega))) ⟨h7, o5⟩
  · have c8' := i_ne c8
    refine r_aload_n 0 C dX6_hears_12 rfl ?_
    refine r_iload_n 1 C dX6_hears_13 rfl ?_
    refine callVI C cwX6_66_V (ctX6_isHere_91 _ _ w2 (sS sC h7) o5 a1 ) (by decide) (kS sC h7 kc_91) rfl rfl rfl (Nat.le_of_ble_eq_true rfl) (by decide) dX6_hears_14 (fun r11 w10 y9 => ?_)
    show V x 0 0 w10 17 [(0, .ref (gz (xG x) + 91)), (1, .int a1), (2, .int a2)] [.int r11]
    obtain ⟨h12, o13⟩ := y9
    have h14 := Ch.tr h7 h12 (by decide) (by decide)
    refine r_if_ne 22 C dX6_hears_17 (by decide) (fun c15 => ?_) (fun c15 => ?_)
    · have c15' := i_ne c15
      refine r_aload_n 0 C dX6_hears_22 rfl ?_
      refine gfX6_22 21 C (kS sC h14 kc_91) (xS sC h14 xc_91_5) dX6_hears_23 ?_
      refine r_aload_n 0 C dX6_hears_26 rfl ?_
      refine gfX6_9 92 C (kS sC h14 kc_91) (xS sC h14 xc_91_2) dX6_hears_27 ?_
      refine r_iload_n 1 C dX6_hears_30 rfl ?_
      refine r_iald C (kS sC h14 kc_92) (vin (by omega) (by omega)) dX6_hears_31 ?_
      generalize (wI w10 92 (a1).toNatClampNeg) = v16
      refine r_aload_n 0 C dX6_hears_32 rfl ?_
      refine gfX6_32 (v := (wI w 91 0)) C (kS sC h14 kc_91) (h12.I (by decide) (by decide) (h4.I (by decide) (by decide) rfl)) dX6_hears_33 ?_
      refine callVI C cwX6_70_V (ctX1_steps_21 _ _ w10 (sS sC h14) o13 v16 (wI w 91 0) ) (by decide) (kS sC h14 kc_21) rfl rfl rfl (Nat.le_of_ble_eq_true rfl) (by decide) dX6_hears_36 (fun r19 w18 y17 => ?_)
      show V x 0 0 w18 39 [(0, .ref (gz (xG x) + 91)), (1, .int a1), (2, .int a2)] [.int r19]
      obtain ⟨h20, o21⟩ := y17
      have h22 := Ch.tr h14 h20 (by decide) (by decide)
      refine r_istore_n [(3, .int r19), (0, .ref (gz (xG x) + 91)), (1, .int a1), (2, .int a2)] C dX6_hears_39 (by decide) rfl ?_
      refine r_iload_n 0 C dX6_hears_40 rfl ?_
      refine r_iconst (v := (-1)) C dX6_hears_41 (by decide) ?_
      refine r_icmp_eq 62 C dX6_hears_42 (by decide) (fun c23 => ?_) (fun c23 => ?_)
      · have c23' := i_eq c23
        refine r_iconst (v := 0) C dX6_hears_62 (by decide) ?_
        exact hret _ _ _ _ dX6_hears_63 (nar_z (z_of (by omega))) ⟨h22, o21⟩
      · have c23' := i_ne c23
        refine r_iload_n 0 C dX6_hears_45 rfl ?_
        refine r_aload_n 1 C dX6_hears_46 rfl ?_
        refine gfX6_18 3 C (kS sC h22 kc_91) (xS sC h22 xc_91_4) dX6_hears_47 ?_
        refine gfX6_73 11 C (kS sC h22 kc_3) (xS sC h22 xc_3_16) dX6_hears_50 ?_
        refine r_iload_n 3 C dX6_hears_53 rfl ?_
        refine r_iald C (kS sC h22 kc_11) (vin (by omega) (by omega)) dX6_hears_54 ?_
        generalize (wI w18 11 (a2).toNatClampNeg) = v24
        refine r_icmp_gt 62 C dX6_hears_55 (by decide) (fun c25 => ?_) (fun c25 => ?_)
        · have c25' := i_lt c25
          refine r_iconst (v := 0) C dX6_hears_62 (by decide) ?_
          exact hret _ _ _ _ dX6_hears_63 (nar_z (z_of (by omega))) ⟨h22, o21⟩
        · have c25' := i_nlt c25
          refine r_iconst (v := 1) C dX6_hears_58 (by decide) ?_
          refine r_goto 63 C dX6_hears_59 (by decide) ?_
          exact hret _ _ _ _ dX6_hears_63 (nar_z (z_of (by omega))) ⟨h22, o21⟩
    · have c15' := i_eq c15
      refine r_iconst (v := 0) C dX6_hears_20 (by decide) ?_
      exact hret _ _ _ _ dX6_hears_21 (nar_z (z_of (by omega))) ⟨h14, o13⟩
set_option maxHeartbeats 4000000 in
set_option maxRecDepth 100000 in
theorem ctX6_lead_91 (l : Launch) (G : Gt) (w : Wv) (sC : Str KC XC w) (o0 : Inv RC w) (a1 : Int32) (b1 : 0 ≤ a1.toInt ∧ a1.toInt ≤ 5) : CtV l G yX6_lead cX6_lead 4 ({ frames := 2, cells := 0, slots := 0, locals := 54 } : Room) [.ref (gz G + 91), .int a1] w (fun w' => Ch [25, 26, 27, 92, 93] [] w w' ∧ Inv RC w') := by
  refine enterV (by decide) (Nat.le_of_ble_eq_true rfl) ?_
  intro x el eG C hnm hret
  subst el; subst eG
  show V x 0 0 w 0 [(0, .ref (gz (xG x) + 91)), (1, .int a1)] []
  have h0 : Ch [25, 26, 27, 92, 93] [] w w := Ch.rf
  have qm1 : ((-1) : Int32).toInt = (-1) := by decide
  have q0 : (0 : Int32).toInt = 0 := by decide
  have LP2 : ∀ (f3 : Nat) (u1 : Int32) (w4 : Wv), Ch [25, 26, 27, 92, 93] [] w w4 → Inv RC w4 → (0 ≤ u1.toInt ∧ u1.toInt ≤ 2147483647) → 2147483647 - u1.toInt < f3 → V x 0 0 w4 2 [(0, .ref (gz (xG x) + 91)), (1, .int a1), (2, .int u1)] [] := by
    intro f3
    induction f3 with
    | zero => intro u1 w4 h5 o6 z7 z8; exfalso; omega
    | succ f3 ih9 =>
      intro u1 w4 h5 o6 z7 z8
      refine r_iload_n 2 C dX6_lead_2 rfl ?_
      refine r_aload_n 0 C dX6_lead_3 rfl ?_
      refine gfX6_18 3 C (kS sC h5 kc_91) (xS sC h5 xc_91_4) dX6_lead_4 ?_
      refine gfX6_76 8 C (kS sC h5 kc_3) (xS sC h5 xc_3_13) dX6_lead_7 ?_
      refine r_iload_n 1 C dX6_lead_10 rfl ?_
      refine r_iald C (kS sC h5 kc_8) (vin (by omega) (by omega)) dX6_lead_11 ?_
      generalize (wI w4 8 (a1).toNatClampNeg) = v10
      refine r_icmp_ge 102 C dX6_lead_12 (by decide) (fun c11 => ?_) (fun c11 => ?_)
      · have c11' := i_le c11
        exact hret _ _ _ dX6_lead_102 ⟨h5, o6⟩
      · have c11' := i_nle c11
        refine r_aload_n 0 C dX6_lead_15 rfl ?_
        refine gfX6_15 93 C (kS sC h5 kc_91) (xS sC h5 xc_91_3) dX6_lead_16 ?_
        refine r_iload_n 1 C dX6_lead_19 rfl ?_
        refine r_iald C (kS sC h5 kc_93) (vin (by omega) (by omega)) dX6_lead_20 ?_
        generalize (wI w4 93 (a1).toNatClampNeg) = v12
        refine r_iconst (v := (-1)) C dX6_lead_21 (by decide) ?_
        refine r_icmp_eq 102 C dX6_lead_22 (by decide) (fun c13 => ?_) (fun c13 => ?_)
        · have c13' := i_eq c13
          exact hret _ _ _ dX6_lead_102 ⟨h5, o6⟩
        · have c13' := i_ne c13
          refine r_aload_n 0 C dX6_lead_25 rfl ?_
          refine gfX6_22 21 C (kS sC h5 kc_91) (xS sC h5 xc_91_5) dX6_lead_26 ?_
          refine r_aload_n 0 C dX6_lead_29 rfl ?_
          refine gfX6_9 92 C (kS sC h5 kc_91) (xS sC h5 xc_91_2) dX6_lead_30 ?_
          refine r_iload_n 1 C dX6_lead_33 rfl ?_
          refine r_iald C (kS sC h5 kc_92) (vin (by omega) (by omega)) dX6_lead_34 ?_
          generalize (wI w4 92 (a1).toNatClampNeg) = v14
          refine r_aload_n 0 C dX6_lead_35 rfl ?_
          refine gfX6_15 93 C (kS sC h5 kc_91) (xS sC h5 xc_91_3) dX6_lead_36 ?_
          refine r_iload_n 1 C dX6_lead_39 rfl ?_
          refine r_iald C (kS sC h5 kc_93) (vin (by omega) (by omega)) dX6_lead_40 ?_
          generalize (wI w4 93 (a1).toNatClampNeg) = v15
          refine callVI C cwX6_79_V (ctX1_onward_21 _ _ w4 (sS sC h5) o6 v14 v15 ) (by decide) (kS sC h5 kc_21) rfl rfl rfl (Nat.le_of_ble_eq_true rfl) (by decide) dX6_lead_41 (fun r18 w17 y16 => ?_)
          show V x 0 0 w17 44 [(0, .ref (gz (xG x) + 91)), (1, .int a1), (2, .int u1)] [.int r18]
          obtain ⟨h19, o20⟩ := y16
          have h21 := Ch.tr h5 h19 (by decide) (by decide)
          refine r_istore_n [(3, .int r18), (0, .ref (gz (xG x) + 91)), (1, .int a1), (2, .int u1)] C dX6_lead_44 (by decide) rfl ?_
          refine r_aload_n 1 C dX6_lead_45 rfl ?_
          refine gfX6_9 92 C (kS sC h21 kc_91) (xS sC h21 xc_91_2) dX6_lead_46 ?_
          refine r_iload_n 2 C dX6_lead_49 rfl ?_
          refine r_iload_n 0 C dX6_lead_50 rfl ?_
          refine r_iconst (v := (-1)) C dX6_lead_51 (by decide) ?_
          refine r_icmp_ne 64 C dX6_lead_52 (by decide) (fun c22 => ?_) (fun c22 => ?_)
          · have c22' := i_ne c22
            refine r_iload_n 0 C dX6_lead_64 rfl ?_
            refine r_iast C (kS sC h21 kc_92) (vin (by omega) (by omega)) dX6_lead_65 (fun w23 e24 => ?_)
            have h25 := Ch.putS h21 e24 (by decide)
            have o26 := Inv.put0 o20 e24 (by decide)
            refine r_aload_n 1 C dX6_lead_66 rfl ?_
            refine gfX6_9 92 C (kS sC h25 kc_91) (xS sC h25 xc_91_2) dX6_lead_67 ?_
            refine r_iload_n 2 C dX6_lead_70 rfl ?_
            refine r_iald C (kS sC h25 kc_92) (vin (by omega) (by omega)) dX6_lead_71 ?_
            generalize (wI w23 92 (a1).toNatClampNeg) = v27
            refine r_aload_n 1 C dX6_lead_72 rfl ?_
            refine gfX6_15 93 C (kS sC h25 kc_91) (xS sC h25 xc_91_3) dX6_lead_73 ?_
            refine r_iload_n 2 C dX6_lead_76 rfl ?_
            refine r_iald C (kS sC h25 kc_93) (vin (by omega) (by omega)) dX6_lead_77 ?_
            generalize (wI w23 93 (a1).toNatClampNeg) = v28
            refine r_icmp_eq 89 C dX6_lead_78 (by decide) (fun c29 => ?_) (fun c29 => ?_)
            · have c29' := i_eq c29
              refine r_aload_n 1 C dX6_lead_89 rfl ?_
              refine gfX6_15 93 C (kS sC h25 kc_91) (xS sC h25 xc_91_3) dX6_lead_90 ?_
              refine r_iload_n 2 C dX6_lead_93 rfl ?_
              refine r_iconst (v := (-1)) C dX6_lead_94 (by decide) ?_
              refine r_iast C (kS sC h25 kc_93) (vin (by omega) (by omega)) dX6_lead_95 (fun w30 e31 => ?_)
              have h32 := Ch.putS h25 e31 (by decide)
              have o33 := Inv.put0 o26 e31 (by decide)
              obtain ⟨i34, e35⟩ : ∃ z : Int32, u1 + Int32.ofInt 1 = z := ⟨_, rfl⟩
              have i34' := iinc_ok e35 (by decide) (by omega) (by omega)
              refine r_iinc [(2, .int i34), (3, .int r18), (0, .ref (gz (xG x) + 91)), (1, .int a1)] 3 C dX6_lead_96 rfl e35 (by decide) rfl ?_
              refine r_goto 2 C dX6_lead_99 (by decide) ?_
              refine r_lv [2, 3, 0] rfl ?_
              exact ih9 i34 w30 h32 o33 (by omega) (by omega)
            · have c29' := i_ne c29
              refine r_aload_n 1 C dX6_lead_81 rfl ?_
              refine r_iload_n 2 C dX6_lead_82 rfl ?_
              refine callVI C cwX6_82_V (ctX6_fate_91 _ _ w23 (sS sC h25) o26 a1 ) (by decide) (kS sC h25 kc_91) rfl rfl rfl (Nat.le_of_ble_eq_true rfl) (by decide) dX6_lead_83 (fun r38 w37 y36 => ?_)
              show V x 0 0 w37 86 [(3, .int r18), (0, .ref (gz (xG x) + 91)), (1, .int a1), (2, .int u1)] [.int r38]
              obtain ⟨h39, o40⟩ := y36
              have h41 := Ch.tr h25 h39 (by decide) (by decide)
              refine r_if_eq 96 C dX6_lead_86 (by decide) (fun c42 => ?_) (fun c42 => ?_)
              · have c42' := i_eq c42
                obtain ⟨i43, e44⟩ : ∃ z : Int32, u1 + Int32.ofInt 1 = z := ⟨_, rfl⟩
                have i43' := iinc_ok e44 (by decide) (by omega) (by omega)
                refine r_iinc [(2, .int i43), (3, .int r18), (0, .ref (gz (xG x) + 91)), (1, .int a1)] 3 C dX6_lead_96 rfl e44 (by decide) rfl ?_
                refine r_goto 2 C dX6_lead_99 (by decide) ?_
                refine r_lv [2, 3, 0] rfl ?_
                exact ih9 i43 w37 h41 o40 (by omega) (by omega)
              · have c42' := i_ne c42
                refine r_aload_n 1 C dX6_lead_89 rfl ?_
                refine gfX6_15 93 C (kS sC h41 kc_91) (xS sC h41 xc_91_3) dX6_lead_90 ?_
                refine r_iload_n 2 C dX6_lead_93 rfl ?_
                refine r_iconst (v := (-1)) C dX6_lead_94 (by decide) ?_
                refine r_iast C (kS sC h41 kc_93) (vin (by omega) (by omega)) dX6_lead_95 (fun w45 e46 => ?_)
                have h47 := Ch.putS h41 e46 (by decide)
                have o48 := Inv.put0 o40 e46 (by decide)
                obtain ⟨i49, e50⟩ : ∃ z : Int32, u1 + Int32.ofInt 1 = z := ⟨_, rfl⟩
                have i49' := iinc_ok e50 (by decide) (by omega) (by omega)
                refine r_iinc [(2, .int i49), (3, .int r18), (0, .ref (gz (xG x) + 91)), (1, .int a1)] 3 C dX6_lead_96 rfl e50 (by decide) rfl ?_
                refine r_goto 2 C dX6_lead_99 (by decide) ?_
                refine r_lv [2, 3, 0] rfl ?_
                exact ih9 i49 w45 h47 o48 (by omega) (by omega)
          · have c22' := i_eq c22
            refine r_aload_n 1 C dX6_lead_55 rfl ?_
            refine gfX6_9 92 C (kS sC h21 kc_91) (xS sC h21 xc_91_2) dX6_lead_56 ?_
            refine r_iload_n 2 C dX6_lead_59 rfl ?_
            refine r_iald C (kS sC h21 kc_92) (vin (by omega) (by omega)) dX6_lead_60 ?_
            generalize (wI w17 92 (a1).toNatClampNeg) = v51
            refine r_goto 65 C dX6_lead_61 (by decide) ?_
            refine r_iast C (kS sC h21 kc_92) (vin (by omega) (by omega)) dX6_lead_65 (fun w52 e53 => ?_)
            have h54 := Ch.putS h21 e53 (by decide)
            have o55 := Inv.put0 o20 e53 (by decide)
            refine r_aload_n 1 C dX6_lead_66 rfl ?_
            refine gfX6_9 92 C (kS sC h54 kc_91) (xS sC h54 xc_91_2) dX6_lead_67 ?_
            refine r_iload_n 2 C dX6_lead_70 rfl ?_
            refine r_iald C (kS sC h54 kc_92) (vin (by omega) (by omega)) dX6_lead_71 ?_
            generalize (wI w52 92 (a1).toNatClampNeg) = v56
            refine r_aload_n 1 C dX6_lead_72 rfl ?_
            refine gfX6_15 93 C (kS sC h54 kc_91) (xS sC h54 xc_91_3) dX6_lead_73 ?_
            refine r_iload_n 2 C dX6_lead_76 rfl ?_
            refine r_iald C (kS sC h54 kc_93) (vin (by omega) (by omega)) dX6_lead_77 ?_
            generalize (wI w52 93 (a1).toNatClampNeg) = v57
            refine r_icmp_eq 89 C dX6_lead_78 (by decide) (fun c58 => ?_) (fun c58 => ?_)
            · have c58' := i_eq c58
              refine r_aload_n 1 C dX6_lead_89 rfl ?_
              refine gfX6_15 93 C (kS sC h54 kc_91) (xS sC h54 xc_91_3) dX6_lead_90 ?_
              refine r_iload_n 2 C dX6_lead_93 rfl ?_
              refine r_iconst (v := (-1)) C dX6_lead_94 (by decide) ?_
              refine r_iast C (kS sC h54 kc_93) (vin (by omega) (by omega)) dX6_lead_95 (fun w59 e60 => ?_)
              have h61 := Ch.putS h54 e60 (by decide)
              have o62 := Inv.put0 o55 e60 (by decide)
              obtain ⟨i63, e64⟩ : ∃ z : Int32, u1 + Int32.ofInt 1 = z := ⟨_, rfl⟩
              have i63' := iinc_ok e64 (by decide) (by omega) (by omega)
              refine r_iinc [(2, .int i63), (3, .int r18), (0, .ref (gz (xG x) + 91)), (1, .int a1)] 3 C dX6_lead_96 rfl e64 (by decide) rfl ?_
              refine r_goto 2 C dX6_lead_99 (by decide) ?_
              refine r_lv [2, 3, 0] rfl ?_
              exact ih9 i63 w59 h61 o62 (by omega) (by omega)
            · have c58' := i_ne c58
              refine r_aload_n 1 C dX6_lead_81 rfl ?_
              refine r_iload_n 2 C dX6_lead_82 rfl ?_
              refine callVI C cwX6_82_V (ctX6_fate_91 _ _ w52 (sS sC h54) o55 a1 ) (by decide) (kS sC h54 kc_91) rfl rfl rfl (Nat.le_of_ble_eq_true rfl) (by decide) dX6_lead_83 (fun r67 w66 y65 => ?_)
              show V x 0 0 w66 86 [(3, .int r18), (0, .ref (gz (xG x) + 91)), (1, .int a1), (2, .int u1)] [.int r67]
              obtain ⟨h68, o69⟩ := y65
              have h70 := Ch.tr h54 h68 (by decide) (by decide)
              refine r_if_eq 96 C dX6_lead_86 (by decide) (fun c71 => ?_) (fun c71 => ?_)
              · have c71' := i_eq c71
                obtain ⟨i72, e73⟩ : ∃ z : Int32, u1 + Int32.ofInt 1 = z := ⟨_, rfl⟩
                have i72' := iinc_ok e73 (by decide) (by omega) (by omega)
                refine r_iinc [(2, .int i72), (3, .int r18), (0, .ref (gz (xG x) + 91)), (1, .int a1)] 3 C dX6_lead_96 rfl e73 (by decide) rfl ?_
                refine r_goto 2 C dX6_lead_99 (by decide) ?_
                refine r_lv [2, 3, 0] rfl ?_
                exact ih9 i72 w66 h70 o69 (by omega) (by omega)
              · have c71' := i_ne c71
                refine r_aload_n 1 C dX6_lead_89 rfl ?_
                refine gfX6_15 93 C (kS sC h70 kc_91) (xS sC h70 xc_91_3) dX6_lead_90 ?_
                refine r_iload_n 2 C dX6_lead_93 rfl ?_
                refine r_iconst (v := (-1)) C dX6_lead_94 (by decide) ?_
                refine r_iast C (kS sC h70 kc_93) (vin (by omega) (by omega)) dX6_lead_95 (fun w74 e75 => ?_)
                have h76 := Ch.putS h70 e75 (by decide)
                have o77 := Inv.put0 o69 e75 (by decide)
                obtain ⟨i78, e79⟩ : ∃ z : Int32, u1 + Int32.ofInt 1 = z := ⟨_, rfl⟩
                have i78' := iinc_ok e79 (by decide) (by omega) (by omega)
                refine r_iinc [(2, .int i78), (3, .int r18), (0, .ref (gz (xG x) + 91)), (1, .int a1)] 3 C dX6_lead_96 rfl e79 (by decide) rfl ?_
                refine r_goto 2 C dX6_lead_99 (by decide) ?_
                refine r_lv [2, 3, 0] rfl ?_
                exact ih9 i78 w74 h76 o77 (by omega) (by omega)
  refine r_iconst (v := 0) C dX6_lead_0 (by decide) ?_
  refine r_istore_n [(2, .int 0), (0, .ref (gz (xG x) + 91)), (1, .int a1)] C dX6_lead_1 (by decide) rfl ?_
  refine r_lv [1, 2, 0] rfl ?_
  exact LP2 4294967296 0 w h0 o0 (by omega) (by omega)
set_option maxHeartbeats 4000000 in
set_option maxRecDepth 100000 in
theorem ctX6_hears_94 (l : Launch) (G : Gt) (w : Wv) (sC : Str KC XC w) (o0 : Inv RC w) (a1 : Int32) (a2 : Int32) : CtI l G yX6_hears cX6_hears 4 .boolean ({ frames := 2, cells := 0, slots := 0, locals := 50 } : Room) [.ref (gz G + 94), .int a1, .int a2] w (fun r w' => Ch [25, 26, 27] [] w w' ∧ Inv RC w') := by
  refine enterI (by decide) (Nat.le_of_ble_eq_true rfl) ?_
  intro x el eG C hret
  subst el; subst eG
  show V x 0 0 w 0 [(0, .ref (gz (xG x) + 94)), (1, .int a1), (2, .int a2)] []
  have h0 : Ch [25, 26, 27] [] w w := Ch.rf
  have qm1 : ((-1) : Int32).toInt = (-1) := by decide
  have q0 : (0 : Int32).toInt = 0 := by decide
  have q1 : (1 : Int32).toInt = 1 := by decide
  refine r_aload_n 0 C dX6_hears_0 rfl ?_
  refine gfX6_18 3 C (kS sC h0 kc_94) (xS sC h0 xc_94_4) dX6_hears_1 ?_
  refine r_iload_n 1 C dX6_hears_4 rfl ?_
  refine r_iload_n 2 C dX6_hears_5 rfl ?_
  refine callVI C cwX6_63_V (ctX9_isFollower_3 _ _ w (sS sC h0) o0 a1 a2 ) (by decide) (kS sC h0 kc_3) rfl rfl rfl (Nat.le_of_ble_eq_true rfl) (by decide) dX6_hears_6 (fun r3 w2 y1 => ?_)
  show V x 0 0 w2 9 [(0, .ref (gz (xG x) + 94)), (1, .int a1), (2, .int a2)] [.int r3]
  obtain ⟨h4, o5, g6⟩ := y1
  have h7 := Ch.tr h0 h4 (by decide) (by decide)
  refine r_if_eq 20 C dX6_hears_9 (by decide) (fun c8 => ?_) (fun c8 => ?_)
  · have c8' := i_eq c8
    refine r_iconst (v := 0) C dX6_hears_20 (by decide) ?_
    exact hret _ _ _ _ dX6_hears_21 (nar_z (z_of (by omega))) ⟨h7, o5⟩
  · have c8' := i_ne c8
    refine r_aload_n 0 C dX6_hears_12 rfl ?_
    refine r_iload_n 1 C dX6_hears_13 rfl ?_
    refine callVI C cwX6_66_V (ctX6_isHere_94 _ _ w2 (sS sC h7) o5 a1 ) (by decide) (kS sC h7 kc_94) rfl rfl rfl (Nat.le_of_ble_eq_true rfl) (by decide) dX6_hears_14 (fun r11 w10 y9 => ?_)
    show V x 0 0 w10 17 [(0, .ref (gz (xG x) + 94)), (1, .int a1), (2, .int a2)] [.int r11]
    obtain ⟨h12, o13⟩ := y9
    have h14 := Ch.tr h7 h12 (by decide) (by decide)
    refine r_if_ne 22 C dX6_hears_17 (by decide) (fun c15 => ?_) (fun c15 => ?_)
    · have c15' := i_ne c15
      refine r_aload_n 0 C dX6_hears_22 rfl ?_
      refine gfX6_22 21 C (kS sC h14 kc_94) (xS sC h14 xc_94_5) dX6_hears_23 ?_
      refine r_aload_n 0 C dX6_hears_26 rfl ?_
      refine gfX6_9 95 C (kS sC h14 kc_94) (xS sC h14 xc_94_2) dX6_hears_27 ?_
      refine r_iload_n 1 C dX6_hears_30 rfl ?_
      refine r_iald C (kS sC h14 kc_95) (vin (by omega) (by omega)) dX6_hears_31 ?_
      generalize (wI w10 95 (a1).toNatClampNeg) = v16
      refine r_aload_n 0 C dX6_hears_32 rfl ?_
      refine gfX6_32 (v := (wI w 94 0)) C (kS sC h14 kc_94) (h12.I (by decide) (by decide) (h4.I (by decide) (by decide) rfl)) dX6_hears_33 ?_
      refine callVI C cwX6_70_V (ctX1_steps_21 _ _ w10 (sS sC h14) o13 v16 (wI w 94 0) ) (by decide) (kS sC h14 kc_21) rfl rfl rfl (Nat.le_of_ble_eq_true rfl) (by decide) dX6_hears_36 (fun r19 w18 y17 => ?_)
      show V x 0 0 w18 39 [(0, .ref (gz (xG x) + 94)), (1, .int a1), (2, .int a2)] [.int r19]
      obtain ⟨h20, o21⟩ := y17
      have h22 := Ch.tr h14 h20 (by decide) (by decide)
      refine r_istore_n [(3, .int r19), (0, .ref (gz (xG x) + 94)), (1, .int a1), (2, .int a2)] C dX6_hears_39 (by decide) rfl ?_
      refine r_iload_n 0 C dX6_hears_40 rfl ?_
      refine r_iconst (v := (-1)) C dX6_hears_41 (by decide) ?_
      refine r_icmp_eq 62 C dX6_hears_42 (by decide) (fun c23 => ?_) (fun c23 => ?_)
      · have c23' := i_eq c23
        refine r_iconst (v := 0) C dX6_hears_62 (by decide) ?_
        exact hret _ _ _ _ dX6_hears_63 (nar_z (z_of (by omega))) ⟨h22, o21⟩
      · have c23' := i_ne c23
        refine r_iload_n 0 C dX6_hears_45 rfl ?_
        refine r_aload_n 1 C dX6_hears_46 rfl ?_
        refine gfX6_18 3 C (kS sC h22 kc_94) (xS sC h22 xc_94_4) dX6_hears_47 ?_
        refine gfX6_73 11 C (kS sC h22 kc_3) (xS sC h22 xc_3_16) dX6_hears_50 ?_
        refine r_iload_n 3 C dX6_hears_53 rfl ?_
        refine r_iald C (kS sC h22 kc_11) (vin (by omega) (by omega)) dX6_hears_54 ?_
        generalize (wI w18 11 (a2).toNatClampNeg) = v24
        refine r_icmp_gt 62 C dX6_hears_55 (by decide) (fun c25 => ?_) (fun c25 => ?_)
        · have c25' := i_lt c25
          refine r_iconst (v := 0) C dX6_hears_62 (by decide) ?_
          exact hret _ _ _ _ dX6_hears_63 (nar_z (z_of (by omega))) ⟨h22, o21⟩
        · have c25' := i_nlt c25
          refine r_iconst (v := 1) C dX6_hears_58 (by decide) ?_
          refine r_goto 63 C dX6_hears_59 (by decide) ?_
          exact hret _ _ _ _ dX6_hears_63 (nar_z (z_of (by omega))) ⟨h22, o21⟩
    · have c15' := i_eq c15
      refine r_iconst (v := 0) C dX6_hears_20 (by decide) ?_
      exact hret _ _ _ _ dX6_hears_21 (nar_z (z_of (by omega))) ⟨h14, o13⟩
set_option maxHeartbeats 4000000 in
set_option maxRecDepth 100000 in
theorem ctX6_lead_94 (l : Launch) (G : Gt) (w : Wv) (sC : Str KC XC w) (o0 : Inv RC w) (a1 : Int32) (b1 : 0 ≤ a1.toInt ∧ a1.toInt ≤ 5) : CtV l G yX6_lead cX6_lead 4 ({ frames := 2, cells := 0, slots := 0, locals := 54 } : Room) [.ref (gz G + 94), .int a1] w (fun w' => Ch [25, 26, 27, 95, 96] [] w w' ∧ Inv RC w') := by
  refine enterV (by decide) (Nat.le_of_ble_eq_true rfl) ?_
  intro x el eG C hnm hret
  subst el; subst eG
  show V x 0 0 w 0 [(0, .ref (gz (xG x) + 94)), (1, .int a1)] []
  have h0 : Ch [25, 26, 27, 95, 96] [] w w := Ch.rf
  have qm1 : ((-1) : Int32).toInt = (-1) := by decide
  have q0 : (0 : Int32).toInt = 0 := by decide
  have LP2 : ∀ (f3 : Nat) (u1 : Int32) (w4 : Wv), Ch [25, 26, 27, 95, 96] [] w w4 → Inv RC w4 → (0 ≤ u1.toInt ∧ u1.toInt ≤ 2147483647) → 2147483647 - u1.toInt < f3 → V x 0 0 w4 2 [(0, .ref (gz (xG x) + 94)), (1, .int a1), (2, .int u1)] [] := by
    intro f3
    induction f3 with
    | zero => intro u1 w4 h5 o6 z7 z8; exfalso; omega
    | succ f3 ih9 =>
      intro u1 w4 h5 o6 z7 z8
      refine r_iload_n 2 C dX6_lead_2 rfl ?_
      refine r_aload_n 0 C dX6_lead_3 rfl ?_
      refine gfX6_18 3 C (kS sC h5 kc_94) (xS sC h5 xc_94_4) dX6_lead_4 ?_
      refine gfX6_76 8 C (kS sC h5 kc_3) (xS sC h5 xc_3_13) dX6_lead_7 ?_
      refine r_iload_n 1 C dX6_lead_10 rfl ?_
      refine r_iald C (kS sC h5 kc_8) (vin (by omega) (by omega)) dX6_lead_11 ?_
      generalize (wI w4 8 (a1).toNatClampNeg) = v10
      refine r_icmp_ge 102 C dX6_lead_12 (by decide) (fun c11 => ?_) (fun c11 => ?_)
      · have c11' := i_le c11
        exact hret _ _ _ dX6_lead_102 ⟨h5, o6⟩
      · have c11' := i_nle c11
        refine r_aload_n 0 C dX6_lead_15 rfl ?_
        refine gfX6_15 96 C (kS sC h5 kc_94) (xS sC h5 xc_94_3) dX6_lead_16 ?_
        refine r_iload_n 1 C dX6_lead_19 rfl ?_
        refine r_iald C (kS sC h5 kc_96) (vin (by omega) (by omega)) dX6_lead_20 ?_
        generalize (wI w4 96 (a1).toNatClampNeg) = v12
        refine r_iconst (v := (-1)) C dX6_lead_21 (by decide) ?_
        refine r_icmp_eq 102 C dX6_lead_22 (by decide) (fun c13 => ?_) (fun c13 => ?_)
        · have c13' := i_eq c13
          exact hret _ _ _ dX6_lead_102 ⟨h5, o6⟩
        · have c13' := i_ne c13
          refine r_aload_n 0 C dX6_lead_25 rfl ?_
          refine gfX6_22 21 C (kS sC h5 kc_94) (xS sC h5 xc_94_5) dX6_lead_26 ?_
          refine r_aload_n 0 C dX6_lead_29 rfl ?_
          refine gfX6_9 95 C (kS sC h5 kc_94) (xS sC h5 xc_94_2) dX6_lead_30 ?_
          refine r_iload_n 1 C dX6_lead_33 rfl ?_
          refine r_iald C (kS sC h5 kc_95) (vin (by omega) (by omega)) dX6_lead_34 ?_
          generalize (wI w4 95 (a1).toNatClampNeg) = v14
          refine r_aload_n 0 C dX6_lead_35 rfl ?_
          refine gfX6_15 96 C (kS sC h5 kc_94) (xS sC h5 xc_94_3) dX6_lead_36 ?_
          refine r_iload_n 1 C dX6_lead_39 rfl ?_
          refine r_iald C (kS sC h5 kc_96) (vin (by omega) (by omega)) dX6_lead_40 ?_
          generalize (wI w4 96 (a1).toNatClampNeg) = v15
          refine callVI C cwX6_79_V (ctX1_onward_21 _ _ w4 (sS sC h5) o6 v14 v15 ) (by decide) (kS sC h5 kc_21) rfl rfl rfl (Nat.le_of_ble_eq_true rfl) (by decide) dX6_lead_41 (fun r18 w17 y16 => ?_)
          show V x 0 0 w17 44 [(0, .ref (gz (xG x) + 94)), (1, .int a1), (2, .int u1)] [.int r18]
          obtain ⟨h19, o20⟩ := y16
          have h21 := Ch.tr h5 h19 (by decide) (by decide)
          refine r_istore_n [(3, .int r18), (0, .ref (gz (xG x) + 94)), (1, .int a1), (2, .int u1)] C dX6_lead_44 (by decide) rfl ?_
          refine r_aload_n 1 C dX6_lead_45 rfl ?_
          refine gfX6_9 95 C (kS sC h21 kc_94) (xS sC h21 xc_94_2) dX6_lead_46 ?_
          refine r_iload_n 2 C dX6_lead_49 rfl ?_
          refine r_iload_n 0 C dX6_lead_50 rfl ?_
          refine r_iconst (v := (-1)) C dX6_lead_51 (by decide) ?_
          refine r_icmp_ne 64 C dX6_lead_52 (by decide) (fun c22 => ?_) (fun c22 => ?_)
          · have c22' := i_ne c22
            refine r_iload_n 0 C dX6_lead_64 rfl ?_
            refine r_iast C (kS sC h21 kc_95) (vin (by omega) (by omega)) dX6_lead_65 (fun w23 e24 => ?_)
            have h25 := Ch.putS h21 e24 (by decide)
            have o26 := Inv.put0 o20 e24 (by decide)
            refine r_aload_n 1 C dX6_lead_66 rfl ?_
            refine gfX6_9 95 C (kS sC h25 kc_94) (xS sC h25 xc_94_2) dX6_lead_67 ?_
            refine r_iload_n 2 C dX6_lead_70 rfl ?_
            refine r_iald C (kS sC h25 kc_95) (vin (by omega) (by omega)) dX6_lead_71 ?_
            generalize (wI w23 95 (a1).toNatClampNeg) = v27
            refine r_aload_n 1 C dX6_lead_72 rfl ?_
            refine gfX6_15 96 C (kS sC h25 kc_94) (xS sC h25 xc_94_3) dX6_lead_73 ?_
            refine r_iload_n 2 C dX6_lead_76 rfl ?_
            refine r_iald C (kS sC h25 kc_96) (vin (by omega) (by omega)) dX6_lead_77 ?_
            generalize (wI w23 96 (a1).toNatClampNeg) = v28
            refine r_icmp_eq 89 C dX6_lead_78 (by decide) (fun c29 => ?_) (fun c29 => ?_)
            · have c29' := i_eq c29
              refine r_aload_n 1 C dX6_lead_89 rfl ?_
              refine gfX6_15 96 C (kS sC h25 kc_94) (xS sC h25 xc_94_3) dX6_lead_90 ?_
              refine r_iload_n 2 C dX6_lead_93 rfl ?_
              refine r_iconst (v := (-1)) C dX6_lead_94 (by decide) ?_
              refine r_iast C (kS sC h25 kc_96) (vin (by omega) (by omega)) dX6_lead_95 (fun w30 e31 => ?_)
              have h32 := Ch.putS h25 e31 (by decide)
              have o33 := Inv.put0 o26 e31 (by decide)
              obtain ⟨i34, e35⟩ : ∃ z : Int32, u1 + Int32.ofInt 1 = z := ⟨_, rfl⟩
              have i34' := iinc_ok e35 (by decide) (by omega) (by omega)
              refine r_iinc [(2, .int i34), (3, .int r18), (0, .ref (gz (xG x) + 94)), (1, .int a1)] 3 C dX6_lead_96 rfl e35 (by decide) rfl ?_
              refine r_goto 2 C dX6_lead_99 (by decide) ?_
              refine r_lv [2, 3, 0] rfl ?_
              exact ih9 i34 w30 h32 o33 (by omega) (by omega)
            · have c29' := i_ne c29
              refine r_aload_n 1 C dX6_lead_81 rfl ?_
              refine r_iload_n 2 C dX6_lead_82 rfl ?_
              refine callVI C cwX6_82_V (ctX6_fate_94 _ _ w23 (sS sC h25) o26 a1 ) (by decide) (kS sC h25 kc_94) rfl rfl rfl (Nat.le_of_ble_eq_true rfl) (by decide) dX6_lead_83 (fun r38 w37 y36 => ?_)
              show V x 0 0 w37 86 [(3, .int r18), (0, .ref (gz (xG x) + 94)), (1, .int a1), (2, .int u1)] [.int r38]
              obtain ⟨h39, o40⟩ := y36
              have h41 := Ch.tr h25 h39 (by decide) (by decide)
              refine r_if_eq 96 C dX6_lead_86 (by decide) (fun c42 => ?_) (fun c42 => ?_)
              · have c42' := i_eq c42
                obtain ⟨i43, e44⟩ : ∃ z : Int32, u1 + Int32.ofInt 1 = z := ⟨_, rfl⟩
                have i43' := iinc_ok e44 (by decide) (by omega) (by omega)
                refine r_iinc [(2, .int i43), (3, .int r18), (0, .ref (gz (xG x) + 94)), (1, .int a1)] 3 C dX6_lead_96 rfl e44 (by decide) rfl ?_
                refine r_goto 2 C dX6_lead_99 (by decide) ?_
                refine r_lv [2, 3, 0] rfl ?_
                exact ih9 i43 w37 h41 o40 (by omega) (by omega)
              · have c42' := i_ne c42
                refine r_aload_n 1 C dX6_lead_89 rfl ?_
                refine gfX6_15 96 C (kS sC h41 kc_94) (xS sC h41 xc_94_3) dX6_lead_90 ?_
                refine r_iload_n 2 C dX6_lead_93 rfl ?_
                refine r_iconst (v := (-1)) C dX6_lead_94 (by decide) ?_
                refine r_iast C (kS sC h41 kc_96) (vin (by omega) (by omega)) dX6_lead_95 (fun w45 e46 => ?_)
                have h47 := Ch.putS h41 e46 (by decide)
                have o48 := Inv.put0 o40 e46 (by decide)
                obtain ⟨i49, e50⟩ : ∃ z : Int32, u1 + Int32.ofInt 1 = z := ⟨_, rfl⟩
                have i49' := iinc_ok e50 (by decide) (by omega) (by omega)
                refine r_iinc [(2, .int i49), (3, .int r18), (0, .ref (gz (xG x) + 94)), (1, .int a1)] 3 C dX6_lead_96 rfl e50 (by decide) rfl ?_
                refine r_goto 2 C dX6_lead_99 (by decide) ?_
                refine r_lv [2, 3, 0] rfl ?_
                exact ih9 i49 w45 h47 o48 (by omega) (by omega)
          · have c22' := i_eq c22
            refine r_aload_n 1 C dX6_lead_55 rfl ?_
            refine gfX6_9 95 C (kS sC h21 kc_94) (xS sC h21 xc_94_2) dX6_lead_56 ?_
            refine r_iload_n 2 C dX6_lead_59 rfl ?_
            refine r_iald C (kS sC h21 kc_95) (vin (by omega) (by omega)) dX6_lead_60 ?_
            generalize (wI w17 95 (a1).toNatClampNeg) = v51
            refine r_goto 65 C dX6_lead_61 (by decide) ?_
            refine r_iast C (kS sC h21 kc_95) (vin (by omega) (by omega)) dX6_lead_65 (fun w52 e53 => ?_)
            have h54 := Ch.putS h21 e53 (by decide)
            have o55 := Inv.put0 o20 e53 (by decide)
            refine r_aload_n 1 C dX6_lead_66 rfl ?_
            refine gfX6_9 95 C (kS sC h54 kc_94) (xS sC h54 xc_94_2) dX6_lead_67 ?_
            refine r_iload_n 2 C dX6_lead_70 rfl ?_
            refine r_iald C (kS sC h54 kc_95) (vin (by omega) (by omega)) dX6_lead_71 ?_
            generalize (wI w52 95 (a1).toNatClampNeg) = v56
            refine r_aload_n 1 C dX6_lead_72 rfl ?_
            refine gfX6_15 96 C (kS sC h54 kc_94) (xS sC h54 xc_94_3) dX6_lead_73 ?_
            refine r_iload_n 2 C dX6_lead_76 rfl ?_
            refine r_iald C (kS sC h54 kc_96) (vin (by omega) (by omega)) dX6_lead_77 ?_
            generalize (wI w52 96 (a1).toNatClampNeg) = v57
            refine r_icmp_eq 89 C dX6_lead_78 (by decide) (fun c58 => ?_) (fun c58 => ?_)
            · have c58' := i_eq c58
              refine r_aload_n 1 C dX6_lead_89 rfl ?_
              refine gfX6_15 96 C (kS sC h54 kc_94) (xS sC h54 xc_94_3) dX6_lead_90 ?_
              refine r_iload_n 2 C dX6_lead_93 rfl ?_
              refine r_iconst (v := (-1)) C dX6_lead_94 (by decide) ?_
              refine r_iast C (kS sC h54 kc_96) (vin (by omega) (by omega)) dX6_lead_95 (fun w59 e60 => ?_)
              have h61 := Ch.putS h54 e60 (by decide)
              have o62 := Inv.put0 o55 e60 (by decide)
              obtain ⟨i63, e64⟩ : ∃ z : Int32, u1 + Int32.ofInt 1 = z := ⟨_, rfl⟩
              have i63' := iinc_ok e64 (by decide) (by omega) (by omega)
              refine r_iinc [(2, .int i63), (3, .int r18), (0, .ref (gz (xG x) + 94)), (1, .int a1)] 3 C dX6_lead_96 rfl e64 (by decide) rfl ?_
              refine r_goto 2 C dX6_lead_99 (by decide) ?_
              refine r_lv [2, 3, 0] rfl ?_
              exact ih9 i63 w59 h61 o62 (by omega) (by omega)
            · have c58' := i_ne c58
              refine r_aload_n 1 C dX6_lead_81 rfl ?_
              refine r_iload_n 2 C dX6_lead_82 rfl ?_
              refine callVI C cwX6_82_V (ctX6_fate_94 _ _ w52 (sS sC h54) o55 a1 ) (by decide) (kS sC h54 kc_94) rfl rfl rfl (Nat.le_of_ble_eq_true rfl) (by decide) dX6_lead_83 (fun r67 w66 y65 => ?_)
              show V x 0 0 w66 86 [(3, .int r18), (0, .ref (gz (xG x) + 94)), (1, .int a1), (2, .int u1)] [.int r67]
              obtain ⟨h68, o69⟩ := y65
              have h70 := Ch.tr h54 h68 (by decide) (by decide)
              refine r_if_eq 96 C dX6_lead_86 (by decide) (fun c71 => ?_) (fun c71 => ?_)
              · have c71' := i_eq c71
                obtain ⟨i72, e73⟩ : ∃ z : Int32, u1 + Int32.ofInt 1 = z := ⟨_, rfl⟩
                have i72' := iinc_ok e73 (by decide) (by omega) (by omega)
                refine r_iinc [(2, .int i72), (3, .int r18), (0, .ref (gz (xG x) + 94)), (1, .int a1)] 3 C dX6_lead_96 rfl e73 (by decide) rfl ?_
                refine r_goto 2 C dX6_lead_99 (by decide) ?_
                refine r_lv [2, 3, 0] rfl ?_
                exact ih9 i72 w66 h70 o69 (by omega) (by omega)
              · have c71' := i_ne c71
                refine r_aload_n 1 C dX6_lead_89 rfl ?_
                refine gfX6_15 96 C (kS sC h70 kc_94) (xS sC h70 xc_94_3) dX6_lead_90 ?_
                refine r_iload_n 2 C dX6_lead_93 rfl ?_
                refine r_iconst (v := (-1)) C dX6_lead_94 (by decide) ?_
                refine r_iast C (kS sC h70 kc_96) (vin (by omega) (by omega)) dX6_lead_95 (fun w74 e75 => ?_)
                have h76 := Ch.putS h70 e75 (by decide)
                have o77 := Inv.put0 o69 e75 (by decide)
                obtain ⟨i78, e79⟩ : ∃ z : Int32, u1 + Int32.ofInt 1 = z := ⟨_, rfl⟩
                have i78' := iinc_ok e79 (by decide) (by omega) (by omega)
                refine r_iinc [(2, .int i78), (3, .int r18), (0, .ref (gz (xG x) + 94)), (1, .int a1)] 3 C dX6_lead_96 rfl e79 (by decide) rfl ?_
                refine r_goto 2 C dX6_lead_99 (by decide) ?_
                refine r_lv [2, 3, 0] rfl ?_
                exact ih9 i78 w74 h76 o77 (by omega) (by omega)
  refine r_iconst (v := 0) C dX6_lead_0 (by decide) ?_
  refine r_istore_n [(2, .int 0), (0, .ref (gz (xG x) + 94)), (1, .int a1)] C dX6_lead_1 (by decide) rfl ?_
  refine r_lv [1, 2, 0] rfl ?_
  exact LP2 4294967296 0 w h0 o0 (by omega) (by omega)
set_option maxHeartbeats 4000000 in
set_option maxRecDepth 100000 in
theorem ctX6_hears_97 (l : Launch) (G : Gt) (w : Wv) (sC : Str KC XC w) (o0 : Inv RC w) (a1 : Int32) (a2 : Int32) : CtI l G yX6_hears cX6_hears 4 .boolean ({ frames := 2, cells := 0, slots := 0, locals := 50 } : Room) [.ref (gz G + 97), .int a1, .int a2] w (fun r w' => Ch [25, 26, 27] [] w w' ∧ Inv RC w') := by
  refine enterI (by decide) (Nat.le_of_ble_eq_true rfl) ?_
  intro x el eG C hret
  subst el; subst eG
  show V x 0 0 w 0 [(0, .ref (gz (xG x) + 97)), (1, .int a1), (2, .int a2)] []
  have h0 : Ch [25, 26, 27] [] w w := Ch.rf
  have qm1 : ((-1) : Int32).toInt = (-1) := by decide
  have q0 : (0 : Int32).toInt = 0 := by decide
  have q1 : (1 : Int32).toInt = 1 := by decide
  refine r_aload_n 0 C dX6_hears_0 rfl ?_
  refine gfX6_18 3 C (kS sC h0 kc_97) (xS sC h0 xc_97_4) dX6_hears_1 ?_
  refine r_iload_n 1 C dX6_hears_4 rfl ?_
  refine r_iload_n 2 C dX6_hears_5 rfl ?_
  refine callVI C cwX6_63_V (ctX9_isFollower_3 _ _ w (sS sC h0) o0 a1 a2 ) (by decide) (kS sC h0 kc_3) rfl rfl rfl (Nat.le_of_ble_eq_true rfl) (by decide) dX6_hears_6 (fun r3 w2 y1 => ?_)
  show V x 0 0 w2 9 [(0, .ref (gz (xG x) + 97)), (1, .int a1), (2, .int a2)] [.int r3]
  obtain ⟨h4, o5, g6⟩ := y1
  have h7 := Ch.tr h0 h4 (by decide) (by decide)
  refine r_if_eq 20 C dX6_hears_9 (by decide) (fun c8 => ?_) (fun c8 => ?_)
  · have c8' := i_eq c8
    refine r_iconst (v := 0) C dX6_hears_20 (by decide) ?_
    exact hret _ _ _ _ dX6_hears_21 (nar_z (z_of (by omega))) ⟨h7, o5⟩
  · have c8' := i_ne c8
    refine r_aload_n 0 C dX6_hears_12 rfl ?_
    refine r_iload_n 1 C dX6_hears_13 rfl ?_
    refine callVI C cwX6_66_V (ctX6_isHere_97 _ _ w2 (sS sC h7) o5 a1 ) (by decide) (kS sC h7 kc_97) rfl rfl rfl (Nat.le_of_ble_eq_true rfl) (by decide) dX6_hears_14 (fun r11 w10 y9 => ?_)
    show V x 0 0 w10 17 [(0, .ref (gz (xG x) + 97)), (1, .int a1), (2, .int a2)] [.int r11]
    obtain ⟨h12, o13⟩ := y9
    have h14 := Ch.tr h7 h12 (by decide) (by decide)
    refine r_if_ne 22 C dX6_hears_17 (by decide) (fun c15 => ?_) (fun c15 => ?_)
    · have c15' := i_ne c15
      refine r_aload_n 0 C dX6_hears_22 rfl ?_
      refine gfX6_22 21 C (kS sC h14 kc_97) (xS sC h14 xc_97_5) dX6_hears_23 ?_
      refine r_aload_n 0 C dX6_hears_26 rfl ?_
      refine gfX6_9 98 C (kS sC h14 kc_97) (xS sC h14 xc_97_2) dX6_hears_27 ?_
      refine r_iload_n 1 C dX6_hears_30 rfl ?_
      refine r_iald C (kS sC h14 kc_98) (vin (by omega) (by omega)) dX6_hears_31 ?_
      generalize (wI w10 98 (a1).toNatClampNeg) = v16
      refine r_aload_n 0 C dX6_hears_32 rfl ?_
      refine gfX6_32 (v := (wI w 97 0)) C (kS sC h14 kc_97) (h12.I (by decide) (by decide) (h4.I (by decide) (by decide) rfl)) dX6_hears_33 ?_
      refine callVI C cwX6_70_V (ctX1_steps_21 _ _ w10 (sS sC h14) o13 v16 (wI w 97 0) ) (by decide) (kS sC h14 kc_21) rfl rfl rfl (Nat.le_of_ble_eq_true rfl) (by decide) dX6_hears_36 (fun r19 w18 y17 => ?_)
      show V x 0 0 w18 39 [(0, .ref (gz (xG x) + 97)), (1, .int a1), (2, .int a2)] [.int r19]
      obtain ⟨h20, o21⟩ := y17
      have h22 := Ch.tr h14 h20 (by decide) (by decide)
      refine r_istore_n [(3, .int r19), (0, .ref (gz (xG x) + 97)), (1, .int a1), (2, .int a2)] C dX6_hears_39 (by decide) rfl ?_
      refine r_iload_n 0 C dX6_hears_40 rfl ?_
      refine r_iconst (v := (-1)) C dX6_hears_41 (by decide) ?_
      refine r_icmp_eq 62 C dX6_hears_42 (by decide) (fun c23 => ?_) (fun c23 => ?_)
      · have c23' := i_eq c23
        refine r_iconst (v := 0) C dX6_hears_62 (by decide) ?_
        exact hret _ _ _ _ dX6_hears_63 (nar_z (z_of (by omega))) ⟨h22, o21⟩
      · have c23' := i_ne c23
        refine r_iload_n 0 C dX6_hears_45 rfl ?_
        refine r_aload_n 1 C dX6_hears_46 rfl ?_
        refine gfX6_18 3 C (kS sC h22 kc_97) (xS sC h22 xc_97_4) dX6_hears_47 ?_
        refine gfX6_73 11 C (kS sC h22 kc_3) (xS sC h22 xc_3_16) dX6_hears_50 ?_
        refine r_iload_n 3 C dX6_hears_53 rfl ?_
        refine r_iald C (kS sC h22 kc_11) (vin (by omega) (by omega)) dX6_hears_54 ?_
        generalize (wI w18 11 (a2).toNatClampNeg) = v24
        refine r_icmp_gt 62 C dX6_hears_55 (by decide) (fun c25 => ?_) (fun c25 => ?_)
        · have c25' := i_lt c25
          refine r_iconst (v := 0) C dX6_hears_62 (by decide) ?_
          exact hret _ _ _ _ dX6_hears_63 (nar_z (z_of (by omega))) ⟨h22, o21⟩
        · have c25' := i_nlt c25
          refine r_iconst (v := 1) C dX6_hears_58 (by decide) ?_
          refine r_goto 63 C dX6_hears_59 (by decide) ?_
          exact hret _ _ _ _ dX6_hears_63 (nar_z (z_of (by omega))) ⟨h22, o21⟩
    · have c15' := i_eq c15
      refine r_iconst (v := 0) C dX6_hears_20 (by decide) ?_
      exact hret _ _ _ _ dX6_hears_21 (nar_z (z_of (by omega))) ⟨h14, o13⟩
set_option maxHeartbeats 4000000 in
set_option maxRecDepth 100000 in
theorem ctX6_lead_97 (l : Launch) (G : Gt) (w : Wv) (sC : Str KC XC w) (o0 : Inv RC w) (a1 : Int32) (b1 : 0 ≤ a1.toInt ∧ a1.toInt ≤ 5) : CtV l G yX6_lead cX6_lead 4 ({ frames := 2, cells := 0, slots := 0, locals := 54 } : Room) [.ref (gz G + 97), .int a1] w (fun w' => Ch [25, 26, 27, 98, 99] [] w w' ∧ Inv RC w') := by
  refine enterV (by decide) (Nat.le_of_ble_eq_true rfl) ?_
  intro x el eG C hnm hret
  subst el; subst eG
  show V x 0 0 w 0 [(0, .ref (gz (xG x) + 97)), (1, .int a1)] []
  have h0 : Ch [25, 26, 27, 98, 99] [] w w := Ch.rf
  have qm1 : ((-1) : Int32).toInt = (-1) := by decide
  have q0 : (0 : Int32).toInt = 0 := by decide
  have LP2 : ∀ (f3 : Nat) (u1 : Int32) (w4 : Wv), Ch [25, 26, 27, 98, 99] [] w w4 → Inv RC w4 → (0 ≤ u1.toInt ∧ u1.toInt ≤ 2147483647) → 2147483647 - u1.toInt < f3 → V x 0 0 w4 2 [(0, .ref (gz (xG x) + 97)), (1, .int a1), (2, .int u1)] [] := by
    intro f3
    induction f3 with
    | zero => intro u1 w4 h5 o6 z7 z8; exfalso; omega
    | succ f3 ih9 =>
      intro u1 w4 h5 o6 z7 z8
      refine r_iload_n 2 C dX6_lead_2 rfl ?_
      refine r_aload_n 0 C dX6_lead_3 rfl ?_
      refine gfX6_18 3 C (kS sC h5 kc_97) (xS sC h5 xc_97_4) dX6_lead_4 ?_
      refine gfX6_76 8 C (kS sC h5 kc_3) (xS sC h5 xc_3_13) dX6_lead_7 ?_
      refine r_iload_n 1 C dX6_lead_10 rfl ?_
      refine r_iald C (kS sC h5 kc_8) (vin (by omega) (by omega)) dX6_lead_11 ?_
      generalize (wI w4 8 (a1).toNatClampNeg) = v10
      refine r_icmp_ge 102 C dX6_lead_12 (by decide) (fun c11 => ?_) (fun c11 => ?_)
      · have c11' := i_le c11
        exact hret _ _ _ dX6_lead_102 ⟨h5, o6⟩
      · have c11' := i_nle c11
        refine r_aload_n 0 C dX6_lead_15 rfl ?_
        refine gfX6_15 99 C (kS sC h5 kc_97) (xS sC h5 xc_97_3) dX6_lead_16 ?_
        refine r_iload_n 1 C dX6_lead_19 rfl ?_
        refine r_iald C (kS sC h5 kc_99) (vin (by omega) (by omega)) dX6_lead_20 ?_
        generalize (wI w4 99 (a1).toNatClampNeg) = v12
        refine r_iconst (v := (-1)) C dX6_lead_21 (by decide) ?_
        refine r_icmp_eq 102 C dX6_lead_22 (by decide) (fun c13 => ?_) (fun c13 => ?_)
        · have c13' := i_eq c13
          exact hret _ _ _ dX6_lead_102 ⟨h5, o6⟩
        · have c13' := i_ne c13
          refine r_aload_n 0 C dX6_lead_25 rfl ?_
          refine gfX6_22 21 C (kS sC h5 kc_97) (xS sC h5 xc_97_5) dX6_lead_26 ?_
          refine r_aload_n 0 C dX6_lead_29 rfl ?_
          refine gfX6_9 98 C (kS sC h5 kc_97) (xS sC h5 xc_97_2) dX6_lead_30 ?_
          refine r_iload_n 1 C dX6_lead_33 rfl ?_
          refine r_iald C (kS sC h5 kc_98) (vin (by omega) (by omega)) dX6_lead_34 ?_
          generalize (wI w4 98 (a1).toNatClampNeg) = v14
          refine r_aload_n 0 C dX6_lead_35 rfl ?_
          refine gfX6_15 99 C (kS sC h5 kc_97) (xS sC h5 xc_97_3) dX6_lead_36 ?_
          refine r_iload_n 1 C dX6_lead_39 rfl ?_
          refine r_iald C (kS sC h5 kc_99) (vin (by omega) (by omega)) dX6_lead_40 ?_
          generalize (wI w4 99 (a1).toNatClampNeg) = v15
          refine callVI C cwX6_79_V (ctX1_onward_21 _ _ w4 (sS sC h5) o6 v14 v15 ) (by decide) (kS sC h5 kc_21) rfl rfl rfl (Nat.le_of_ble_eq_true rfl) (by decide) dX6_lead_41 (fun r18 w17 y16 => ?_)
          show V x 0 0 w17 44 [(0, .ref (gz (xG x) + 97)), (1, .int a1), (2, .int u1)] [.int r18]
          obtain ⟨h19, o20⟩ := y16
          have h21 := Ch.tr h5 h19 (by decide) (by decide)
          refine r_istore_n [(3, .int r18), (0, .ref (gz (xG x) + 97)), (1, .int a1), (2, .int u1)] C dX6_lead_44 (by decide) rfl ?_
          refine r_aload_n 1 C dX6_lead_45 rfl ?_
          refine gfX6_9 98 C (kS sC h21 kc_97) (xS sC h21 xc_97_2) dX6_lead_46 ?_
          refine r_iload_n 2 C dX6_lead_49 rfl ?_
          refine r_iload_n 0 C dX6_lead_50 rfl ?_
          refine r_iconst (v := (-1)) C dX6_lead_51 (by decide) ?_
          refine r_icmp_ne 64 C dX6_lead_52 (by decide) (fun c22 => ?_) (fun c22 => ?_)
          · have c22' := i_ne c22
            refine r_iload_n 0 C dX6_lead_64 rfl ?_
            refine r_iast C (kS sC h21 kc_98) (vin (by omega) (by omega)) dX6_lead_65 (fun w23 e24 => ?_)
            have h25 := Ch.putS h21 e24 (by decide)
            have o26 := Inv.put0 o20 e24 (by decide)
            refine r_aload_n 1 C dX6_lead_66 rfl ?_
            refine gfX6_9 98 C (kS sC h25 kc_97) (xS sC h25 xc_97_2) dX6_lead_67 ?_
            refine r_iload_n 2 C dX6_lead_70 rfl ?_
            refine r_iald C (kS sC h25 kc_98) (vin (by omega) (by omega)) dX6_lead_71 ?_
            generalize (wI w23 98 (a1).toNatClampNeg) = v27
            refine r_aload_n 1 C dX6_lead_72 rfl ?_
            refine gfX6_15 99 C (kS sC h25 kc_97) (xS sC h25 xc_97_3) dX6_lead_73 ?_
            refine r_iload_n 2 C dX6_lead_76 rfl ?_
            refine r_iald C (kS sC h25 kc_99) (vin (by omega) (by omega)) dX6_lead_77 ?_
            generalize (wI w23 99 (a1).toNatClampNeg) = v28
            refine r_icmp_eq 89 C dX6_lead_78 (by decide) (fun c29 => ?_) (fun c29 => ?_)
            · have c29' := i_eq c29
              refine r_aload_n 1 C dX6_lead_89 rfl ?_
              refine gfX6_15 99 C (kS sC h25 kc_97) (xS sC h25 xc_97_3) dX6_lead_90 ?_
              refine r_iload_n 2 C dX6_lead_93 rfl ?_
              refine r_iconst (v := (-1)) C dX6_lead_94 (by decide) ?_
              refine r_iast C (kS sC h25 kc_99) (vin (by omega) (by omega)) dX6_lead_95 (fun w30 e31 => ?_)
              have h32 := Ch.putS h25 e31 (by decide)
              have o33 := Inv.put0 o26 e31 (by decide)
              obtain ⟨i34, e35⟩ : ∃ z : Int32, u1 + Int32.ofInt 1 = z := ⟨_, rfl⟩
              have i34' := iinc_ok e35 (by decide) (by omega) (by omega)
              refine r_iinc [(2, .int i34), (3, .int r18), (0, .ref (gz (xG x) + 97)), (1, .int a1)] 3 C dX6_lead_96 rfl e35 (by decide) rfl ?_
              refine r_goto 2 C dX6_lead_99 (by decide) ?_
              refine r_lv [2, 3, 0] rfl ?_
              exact ih9 i34 w30 h32 o33 (by omega) (by omega)
            · have c29' := i_ne c29
              refine r_aload_n 1 C dX6_lead_81 rfl ?_
              refine r_iload_n 2 C dX6_lead_82 rfl ?_
              refine callVI C cwX6_82_V (ctX6_fate_97 _ _ w23 (sS sC h25) o26 a1 ) (by decide) (kS sC h25 kc_97) rfl rfl rfl (Nat.le_of_ble_eq_true rfl) (by decide) dX6_lead_83 (fun r38 w37 y36 => ?_)
              show V x 0 0 w37 86 [(3, .int r18), (0, .ref (gz (xG x) + 97)), (1, .int a1), (2, .int u1)] [.int r38]
              obtain ⟨h39, o40⟩ := y36
              have h41 := Ch.tr h25 h39 (by decide) (by decide)
              refine r_if_eq 96 C dX6_lead_86 (by decide) (fun c42 => ?_) (fun c42 => ?_)
              · have c42' := i_eq c42
                obtain ⟨i43, e44⟩ : ∃ z : Int32, u1 + Int32.ofInt 1 = z := ⟨_, rfl⟩
                have i43' := iinc_ok e44 (by decide) (by omega) (by omega)
                refine r_iinc [(2, .int i43), (3, .int r18), (0, .ref (gz (xG x) + 97)), (1, .int a1)] 3 C dX6_lead_96 rfl e44 (by decide) rfl ?_
                refine r_goto 2 C dX6_lead_99 (by decide) ?_
                refine r_lv [2, 3, 0] rfl ?_
                exact ih9 i43 w37 h41 o40 (by omega) (by omega)
              · have c42' := i_ne c42
                refine r_aload_n 1 C dX6_lead_89 rfl ?_
                refine gfX6_15 99 C (kS sC h41 kc_97) (xS sC h41 xc_97_3) dX6_lead_90 ?_
                refine r_iload_n 2 C dX6_lead_93 rfl ?_
                refine r_iconst (v := (-1)) C dX6_lead_94 (by decide) ?_
                refine r_iast C (kS sC h41 kc_99) (vin (by omega) (by omega)) dX6_lead_95 (fun w45 e46 => ?_)
                have h47 := Ch.putS h41 e46 (by decide)
                have o48 := Inv.put0 o40 e46 (by decide)
                obtain ⟨i49, e50⟩ : ∃ z : Int32, u1 + Int32.ofInt 1 = z := ⟨_, rfl⟩
                have i49' := iinc_ok e50 (by decide) (by omega) (by omega)
                refine r_iinc [(2, .int i49), (3, .int r18), (0, .ref (gz (xG x) + 97)), (1, .int a1)] 3 C dX6_lead_96 rfl e50 (by decide) rfl ?_
                refine r_goto 2 C dX6_lead_99 (by decide) ?_
                refine r_lv [2, 3, 0] rfl ?_
                exact ih9 i49 w45 h47 o48 (by omega) (by omega)
          · have c22' := i_eq c22
            refine r_aload_n 1 C dX6_lead_55 rfl ?_
            refine gfX6_9 98 C (kS sC h21 kc_97) (xS sC h21 xc_97_2) dX6_lead_56 ?_
            refine r_iload_n 2 C dX6_lead_59 rfl ?_
            refine r_iald C (kS sC h21 kc_98) (vin (by omega) (by omega)) dX6_lead_60 ?_
            generalize (wI w17 98 (a1).toNatClampNeg) = v51
            refine r_goto 65 C dX6_lead_61 (by decide) ?_
            refine r_iast C (kS sC h21 kc_98) (vin (by omega) (by omega)) dX6_lead_65 (fun w52 e53 => ?_)
            have h54 := Ch.putS h21 e53 (by decide)
            have o55 := Inv.put0 o20 e53 (by decide)
            refine r_aload_n 1 C dX6_lead_66 rfl ?_
            refine gfX6_9 98 C (kS sC h54 kc_97) (xS sC h54 xc_97_2) dX6_lead_67 ?_
            refine r_iload_n 2 C dX6_lead_70 rfl ?_
            refine r_iald C (kS sC h54 kc_98) (vin (by omega) (by omega)) dX6_lead_71 ?_
            generalize (wI w52 98 (a1).toNatClampNeg) = v56
            refine r_aload_n 1 C dX6_lead_72 rfl ?_
            refine gfX6_15 99 C (kS sC h54 kc_97) (xS sC h54 xc_97_3) dX6_lead_73 ?_
            refine r_iload_n 2 C dX6_lead_76 rfl ?_
            refine r_iald C (kS sC h54 kc_99) (vin (by omega) (by omega)) dX6_lead_77 ?_
            generalize (wI w52 99 (a1).toNatClampNeg) = v57
            refine r_icmp_eq 89 C dX6_lead_78 (by decide) (fun c58 => ?_) (fun c58 => ?_)
            · have c58' := i_eq c58
              refine r_aload_n 1 C dX6_lead_89 rfl ?_
              refine gfX6_15 99 C (kS sC h54 kc_97) (xS sC h54 xc_97_3) dX6_lead_90 ?_
              refine r_iload_n 2 C dX6_lead_93 rfl ?_
              refine r_iconst (v := (-1)) C dX6_lead_94 (by decide) ?_
              refine r_iast C (kS sC h54 kc_99) (vin (by omega) (by omega)) dX6_lead_95 (fun w59 e60 => ?_)
              have h61 := Ch.putS h54 e60 (by decide)
              have o62 := Inv.put0 o55 e60 (by decide)
              obtain ⟨i63, e64⟩ : ∃ z : Int32, u1 + Int32.ofInt 1 = z := ⟨_, rfl⟩
              have i63' := iinc_ok e64 (by decide) (by omega) (by omega)
              refine r_iinc [(2, .int i63), (3, .int r18), (0, .ref (gz (xG x) + 97)), (1, .int a1)] 3 C dX6_lead_96 rfl e64 (by decide) rfl ?_
              refine r_goto 2 C dX6_lead_99 (by decide) ?_
              refine r_lv [2, 3, 0] rfl ?_
              exact ih9 i63 w59 h61 o62 (by omega) (by omega)
            · have c58' := i_ne c58
              refine r_aload_n 1 C dX6_lead_81 rfl ?_
              refine r_iload_n 2 C dX6_lead_82 rfl ?_
              refine callVI C cwX6_82_V (ctX6_fate_97 _ _ w52 (sS sC h54) o55 a1 ) (by decide) (kS sC h54 kc_97) rfl rfl rfl (Nat.le_of_ble_eq_true rfl) (by decide) dX6_lead_83 (fun r67 w66 y65 => ?_)
              show V x 0 0 w66 86 [(3, .int r18), (0, .ref (gz (xG x) + 97)), (1, .int a1), (2, .int u1)] [.int r67]
              obtain ⟨h68, o69⟩ := y65
              have h70 := Ch.tr h54 h68 (by decide) (by decide)
              refine r_if_eq 96 C dX6_lead_86 (by decide) (fun c71 => ?_) (fun c71 => ?_)
              · have c71' := i_eq c71
                obtain ⟨i72, e73⟩ : ∃ z : Int32, u1 + Int32.ofInt 1 = z := ⟨_, rfl⟩
                have i72' := iinc_ok e73 (by decide) (by omega) (by omega)
                refine r_iinc [(2, .int i72), (3, .int r18), (0, .ref (gz (xG x) + 97)), (1, .int a1)] 3 C dX6_lead_96 rfl e73 (by decide) rfl ?_
                refine r_goto 2 C dX6_lead_99 (by decide) ?_
                refine r_lv [2, 3, 0] rfl ?_
                exact ih9 i72 w66 h70 o69 (by omega) (by omega)
              · have c71' := i_ne c71
                refine r_aload_n 1 C dX6_lead_89 rfl ?_
                refine gfX6_15 99 C (kS sC h70 kc_97) (xS sC h70 xc_97_3) dX6_lead_90 ?_
                refine r_iload_n 2 C dX6_lead_93 rfl ?_
                refine r_iconst (v := (-1)) C dX6_lead_94 (by decide) ?_
                refine r_iast C (kS sC h70 kc_99) (vin (by omega) (by omega)) dX6_lead_95 (fun w74 e75 => ?_)
                have h76 := Ch.putS h70 e75 (by decide)
                have o77 := Inv.put0 o69 e75 (by decide)
                obtain ⟨i78, e79⟩ : ∃ z : Int32, u1 + Int32.ofInt 1 = z := ⟨_, rfl⟩
                have i78' := iinc_ok e79 (by decide) (by omega) (by omega)
                refine r_iinc [(2, .int i78), (3, .int r18), (0, .ref (gz (xG x) + 97)), (1, .int a1)] 3 C dX6_lead_96 rfl e79 (by decide) rfl ?_
                refine r_goto 2 C dX6_lead_99 (by decide) ?_
                refine r_lv [2, 3, 0] rfl ?_
                exact ih9 i78 w74 h76 o77 (by omega) (by omega)
  refine r_iconst (v := 0) C dX6_lead_0 (by decide) ?_
  refine r_istore_n [(2, .int 0), (0, .ref (gz (xG x) + 97)), (1, .int a1)] C dX6_lead_1 (by decide) rfl ?_
  refine r_lv [1, 2, 0] rfl ?_
  exact LP2 4294967296 0 w h0 o0 (by omega) (by omega)
set_option maxHeartbeats 4000000 in
set_option maxRecDepth 100000 in
theorem ctX6_hears_100 (l : Launch) (G : Gt) (w : Wv) (sC : Str KC XC w) (o0 : Inv RC w) (a1 : Int32) (a2 : Int32) : CtI l G yX6_hears cX6_hears 4 .boolean ({ frames := 2, cells := 0, slots := 0, locals := 50 } : Room) [.ref (gz G + 100), .int a1, .int a2] w (fun r w' => Ch [25, 26, 27] [] w w' ∧ Inv RC w') := by
  refine enterI (by decide) (Nat.le_of_ble_eq_true rfl) ?_
  intro x el eG C hret
  subst el; subst eG
  show V x 0 0 w 0 [(0, .ref (gz (xG x) + 100)), (1, .int a1), (2, .int a2)] []
  have h0 : Ch [25, 26, 27] [] w w := Ch.rf
  have qm1 : ((-1) : Int32).toInt = (-1) := by decide
  have q0 : (0 : Int32).toInt = 0 := by decide
  have q1 : (1 : Int32).toInt = 1 := by decide
  refine r_aload_n 0 C dX6_hears_0 rfl ?_
  refine gfX6_18 3 C (kS sC h0 kc_100) (xS sC h0 xc_100_4) dX6_hears_1 ?_
  refine r_iload_n 1 C dX6_hears_4 rfl ?_
  refine r_iload_n 2 C dX6_hears_5 rfl ?_
  refine callVI C cwX6_63_V (ctX9_isFollower_3 _ _ w (sS sC h0) o0 a1 a2 ) (by decide) (kS sC h0 kc_3) rfl rfl rfl (Nat.le_of_ble_eq_true rfl) (by decide) dX6_hears_6 (fun r3 w2 y1 => ?_)
  show V x 0 0 w2 9 [(0, .ref (gz (xG x) + 100)), (1, .int a1), (2, .int a2)] [.int r3]
  obtain ⟨h4, o5, g6⟩ := y1
  have h7 := Ch.tr h0 h4 (by decide) (by decide)
  refine r_if_eq 20 C dX6_hears_9 (by decide) (fun c8 => ?_) (fun c8 => ?_)
  · have c8' := i_eq c8
    refine r_iconst (v := 0) C dX6_hears_20 (by decide) ?_
    exact hret _ _ _ _ dX6_hears_21 (nar_z (z_of (by omega))) ⟨h7, o5⟩
  · have c8' := i_ne c8
    refine r_aload_n 0 C dX6_hears_12 rfl ?_
    refine r_iload_n 1 C dX6_hears_13 rfl ?_
    refine callVI C cwX6_66_V (ctX6_isHere_100 _ _ w2 (sS sC h7) o5 a1 ) (by decide) (kS sC h7 kc_100) rfl rfl rfl (Nat.le_of_ble_eq_true rfl) (by decide) dX6_hears_14 (fun r11 w10 y9 => ?_)
    show V x 0 0 w10 17 [(0, .ref (gz (xG x) + 100)), (1, .int a1), (2, .int a2)] [.int r11]
    obtain ⟨h12, o13⟩ := y9
    have h14 := Ch.tr h7 h12 (by decide) (by decide)
    refine r_if_ne 22 C dX6_hears_17 (by decide) (fun c15 => ?_) (fun c15 => ?_)
    · have c15' := i_ne c15
      refine r_aload_n 0 C dX6_hears_22 rfl ?_
      refine gfX6_22 21 C (kS sC h14 kc_100) (xS sC h14 xc_100_5) dX6_hears_23 ?_
      refine r_aload_n 0 C dX6_hears_26 rfl ?_
      refine gfX6_9 101 C (kS sC h14 kc_100) (xS sC h14 xc_100_2) dX6_hears_27 ?_
      refine r_iload_n 1 C dX6_hears_30 rfl ?_
      refine r_iald C (kS sC h14 kc_101) (vin (by omega) (by omega)) dX6_hears_31 ?_
      generalize (wI w10 101 (a1).toNatClampNeg) = v16
      refine r_aload_n 0 C dX6_hears_32 rfl ?_
      refine gfX6_32 (v := (wI w 100 0)) C (kS sC h14 kc_100) (h12.I (by decide) (by decide) (h4.I (by decide) (by decide) rfl)) dX6_hears_33 ?_
      refine callVI C cwX6_70_V (ctX1_steps_21 _ _ w10 (sS sC h14) o13 v16 (wI w 100 0) ) (by decide) (kS sC h14 kc_21) rfl rfl rfl (Nat.le_of_ble_eq_true rfl) (by decide) dX6_hears_36 (fun r19 w18 y17 => ?_)
      show V x 0 0 w18 39 [(0, .ref (gz (xG x) + 100)), (1, .int a1), (2, .int a2)] [.int r19]
      obtain ⟨h20, o21⟩ := y17
      have h22 := Ch.tr h14 h20 (by decide) (by decide)
      refine r_istore_n [(3, .int r19), (0, .ref (gz (xG x) + 100)), (1, .int a1), (2, .int a2)] C dX6_hears_39 (by decide) rfl ?_
      refine r_iload_n 0 C dX6_hears_40 rfl ?_
      refine r_iconst (v := (-1)) C dX6_hears_41 (by decide) ?_
      refine r_icmp_eq 62 C dX6_hears_42 (by decide) (fun c23 => ?_) (fun c23 => ?_)
      · have c23' := i_eq c23
        refine r_iconst (v := 0) C dX6_hears_62 (by decide) ?_
        exact hret _ _ _ _ dX6_hears_63 (nar_z (z_of (by omega))) ⟨h22, o21⟩
      · have c23' := i_ne c23
        refine r_iload_n 0 C dX6_hears_45 rfl ?_
        refine r_aload_n 1 C dX6_hears_46 rfl ?_
        refine gfX6_18 3 C (kS sC h22 kc_100) (xS sC h22 xc_100_4) dX6_hears_47 ?_
        refine gfX6_73 11 C (kS sC h22 kc_3) (xS sC h22 xc_3_16) dX6_hears_50 ?_
        refine r_iload_n 3 C dX6_hears_53 rfl ?_
        refine r_iald C (kS sC h22 kc_11) (vin (by omega) (by omega)) dX6_hears_54 ?_
        generalize (wI w18 11 (a2).toNatClampNeg) = v24
        refine r_icmp_gt 62 C dX6_hears_55 (by decide) (fun c25 => ?_) (fun c25 => ?_)
        · have c25' := i_lt c25
          refine r_iconst (v := 0) C dX6_hears_62 (by decide) ?_
          exact hret _ _ _ _ dX6_hears_63 (nar_z (z_of (by omega))) ⟨h22, o21⟩
        · have c25' := i_nlt c25
          refine r_iconst (v := 1) C dX6_hears_58 (by decide) ?_
          refine r_goto 63 C dX6_hears_59 (by decide) ?_
          exact hret _ _ _ _ dX6_hears_63 (nar_z (z_of (by omega))) ⟨h22, o21⟩
    · have c15' := i_eq c15
      refine r_iconst (v := 0) C dX6_hears_20 (by decide) ?_
      exact hret _ _ _ _ dX6_hears_21 (nar_z (z_of (by omega))) ⟨h14, o13⟩
set_option maxHeartbeats 4000000 in
set_option maxRecDepth 100000 in
theorem ctX6_lead_100 (l : Launch) (G : Gt) (w : Wv) (sC : Str KC XC w) (o0 : Inv RC w) (a1 : Int32) (b1 : 0 ≤ a1.toInt ∧ a1.toInt ≤ 5) : CtV l G yX6_lead cX6_lead 4 ({ frames := 2, cells := 0, slots := 0, locals := 54 } : Room) [.ref (gz G + 100), .int a1] w (fun w' => Ch [25, 26, 27, 101, 102] [] w w' ∧ Inv RC w') := by
  refine enterV (by decide) (Nat.le_of_ble_eq_true rfl) ?_
  intro x el eG C hnm hret
  subst el; subst eG
  show V x 0 0 w 0 [(0, .ref (gz (xG x) + 100)), (1, .int a1)] []
  have h0 : Ch [25, 26, 27, 101, 102] [] w w := Ch.rf
  have qm1 : ((-1) : Int32).toInt = (-1) := by decide
  have q0 : (0 : Int32).toInt = 0 := by decide
  have LP2 : ∀ (f3 : Nat) (u1 : Int32) (w4 : Wv), Ch [25, 26, 27, 101, 102] [] w w4 → Inv RC w4 → (0 ≤ u1.toInt ∧ u1.toInt ≤ 2147483647) → 2147483647 - u1.toInt < f3 → V x 0 0 w4 2 [(0, .ref (gz (xG x) + 100)), (1, .int a1), (2, .int u1)] [] := by
    intro f3
    induction f3 with
    | zero => intro u1 w4 h5 o6 z7 z8; exfalso; omega
    | succ f3 ih9 =>
      intro u1 w4 h5 o6 z7 z8
      refine r_iload_n 2 C dX6_lead_2 rfl ?_
      refine r_aload_n 0 C dX6_lead_3 rfl ?_
      refine gfX6_18 3 C (kS sC h5 kc_100) (xS sC h5 xc_100_4) dX6_lead_4 ?_
      refine gfX6_76 8 C (kS sC h5 kc_3) (xS sC h5 xc_3_13) dX6_lead_7 ?_
      refine r_iload_n 1 C dX6_lead_10 rfl ?_
      refine r_iald C (kS sC h5 kc_8) (vin (by omega) (by omega)) dX6_lead_11 ?_
      generalize (wI w4 8 (a1).toNatClampNeg) = v10
      refine r_icmp_ge 102 C dX6_lead_12 (by decide) (fun c11 => ?_) (fun c11 => ?_)
      · have c11' := i_le c11
        exact hret _ _ _ dX6_lead_102 ⟨h5, o6⟩
      · have c11' := i_nle c11
        refine r_aload_n 0 C dX6_lead_15 rfl ?_
        refine gfX6_15 102 C (kS sC h5 kc_100) (xS sC h5 xc_100_3) dX6_lead_16 ?_
        refine r_iload_n 1 C dX6_lead_19 rfl ?_
        refine r_iald C (kS sC h5 kc_102) (vin (by omega) (by omega)) dX6_lead_20 ?_
        generalize (wI w4 102 (a1).toNatClampNeg) = v12
        refine r_iconst (v := (-1)) C dX6_lead_21 (by decide) ?_
        refine r_icmp_eq 102 C dX6_lead_22 (by decide) (fun c13 => ?_) (fun c13 => ?_)
        · have c13' := i_eq c13
          exact hret _ _ _ dX6_lead_102 ⟨h5, o6⟩
        · have c13' := i_ne c13
          refine r_aload_n 0 C dX6_lead_25 rfl ?_
          refine gfX6_22 21 C (kS sC h5 kc_100) (xS sC h5 xc_100_5) dX6_lead_26 ?_
          refine r_aload_n 0 C dX6_lead_29 rfl ?_
          refine gfX6_9 101 C (kS sC h5 kc_100) (xS sC h5 xc_100_2) dX6_lead_30 ?_
          refine r_iload_n 1 C dX6_lead_33 rfl ?_
          refine r_iald C (kS sC h5 kc_101) (vin (by omega) (by omega)) dX6_lead_34 ?_
          generalize (wI w4 101 (a1).toNatClampNeg) = v14
          refine r_aload_n 0 C dX6_lead_35 rfl ?_
          refine gfX6_15 102 C (kS sC h5 kc_100) (xS sC h5 xc_100_3) dX6_lead_36 ?_
          refine r_iload_n 1 C dX6_lead_39 rfl ?_
          refine r_iald C (kS sC h5 kc_102) (vin (by omega) (by omega)) dX6_lead_40 ?_
          generalize (wI w4 102 (a1).toNatClampNeg) = v15
          refine callVI C cwX6_79_V (ctX1_onward_21 _ _ w4 (sS sC h5) o6 v14 v15 ) (by decide) (kS sC h5 kc_21) rfl rfl rfl (Nat.le_of_ble_eq_true rfl) (by decide) dX6_lead_41 (fun r18 w17 y16 => ?_)
          show V x 0 0 w17 44 [(0, .ref (gz (xG x) + 100)), (1, .int a1), (2, .int u1)] [.int r18]
          obtain ⟨h19, o20⟩ := y16
          have h21 := Ch.tr h5 h19 (by decide) (by decide)
          refine r_istore_n [(3, .int r18), (0, .ref (gz (xG x) + 100)), (1, .int a1), (2, .int u1)] C dX6_lead_44 (by decide) rfl ?_
          refine r_aload_n 1 C dX6_lead_45 rfl ?_
          refine gfX6_9 101 C (kS sC h21 kc_100) (xS sC h21 xc_100_2) dX6_lead_46 ?_
          refine r_iload_n 2 C dX6_lead_49 rfl ?_
          refine r_iload_n 0 C dX6_lead_50 rfl ?_
          refine r_iconst (v := (-1)) C dX6_lead_51 (by decide) ?_
          refine r_icmp_ne 64 C dX6_lead_52 (by decide) (fun c22 => ?_) (fun c22 => ?_)
          · have c22' := i_ne c22
            refine r_iload_n 0 C dX6_lead_64 rfl ?_
            refine r_iast C (kS sC h21 kc_101) (vin (by omega) (by omega)) dX6_lead_65 (fun w23 e24 => ?_)
            have h25 := Ch.putS h21 e24 (by decide)
            have o26 := Inv.put0 o20 e24 (by decide)
            refine r_aload_n 1 C dX6_lead_66 rfl ?_
            refine gfX6_9 101 C (kS sC h25 kc_100) (xS sC h25 xc_100_2) dX6_lead_67 ?_
            refine r_iload_n 2 C dX6_lead_70 rfl ?_
            refine r_iald C (kS sC h25 kc_101) (vin (by omega) (by omega)) dX6_lead_71 ?_
            generalize (wI w23 101 (a1).toNatClampNeg) = v27
            refine r_aload_n 1 C dX6_lead_72 rfl ?_
            refine gfX6_15 102 C (kS sC h25 kc_100) (xS sC h25 xc_100_3) dX6_lead_73 ?_
            refine r_iload_n 2 C dX6_lead_76 rfl ?_
            refine r_iald C (kS sC h25 kc_102) (vin (by omega) (by omega)) dX6_lead_77 ?_
            generalize (wI w23 102 (a1).toNatClampNeg) = v28
            refine r_icmp_eq 89 C dX6_lead_78 (by decide) (fun c29 => ?_) (fun c29 => ?_)
            · have c29' := i_eq c29
              refine r_aload_n 1 C dX6_lead_89 rfl ?_
              refine gfX6_15 102 C (kS sC h25 kc_100) (xS sC h25 xc_100_3) dX6_lead_90 ?_
              refine r_iload_n 2 C dX6_lead_93 rfl ?_
              refine r_iconst (v := (-1)) C dX6_lead_94 (by decide) ?_
              refine r_iast C (kS sC h25 kc_102) (vin (by omega) (by omega)) dX6_lead_95 (fun w30 e31 => ?_)
              have h32 := Ch.putS h25 e31 (by decide)
              have o33 := Inv.put0 o26 e31 (by decide)
              obtain ⟨i34, e35⟩ : ∃ z : Int32, u1 + Int32.ofInt 1 = z := ⟨_, rfl⟩
              have i34' := iinc_ok e35 (by decide) (by omega) (by omega)
              refine r_iinc [(2, .int i34), (3, .int r18), (0, .ref (gz (xG x) + 100)), (1, .int a1)] 3 C dX6_lead_96 rfl e35 (by decide) rfl ?_
              refine r_goto 2 C dX6_lead_99 (by decide) ?_
              refine r_lv [2, 3, 0] rfl ?_
              exact ih9 i34 w30 h32 o33 (by omega) (by omega)
            · have c29' := i_ne c29
              refine r_aload_n 1 C dX6_lead_81 rfl ?_
              refine r_iload_n 2 C dX6_lead_82 rfl ?_
              refine callVI C cwX6_82_V (ctX6_fate_100 _ _ w23 (sS sC h25) o26 a1 ) (by decide) (kS sC h25 kc_100) rfl rfl rfl (Nat.le_of_ble_eq_true rfl) (by decide) dX6_lead_83 (fun r38 w37 y36 => ?_)
              show V x 0 0 w37 86 [(3, .int r18), (0, .ref (gz (xG x) + 100)), (1, .int a1), (2, .int u1)] [.int r38]
              obtain ⟨h39, o40⟩ := y36
              have h41 := Ch.tr h25 h39 (by decide) (by decide)
              refine r_if_eq 96 C dX6_lead_86 (by decide) (fun c42 => ?_) (fun c42 => ?_)
              · have c42' := i_eq c42
                obtain ⟨i43, e44⟩ : ∃ z : Int32, u1 + Int32.ofInt 1 = z := ⟨_, rfl⟩
                have i43' := iinc_ok e44 (by decide) (by omega) (by omega)
                refine r_iinc [(2, .int i43), (3, .int r18), (0, .ref (gz (xG x) + 100)), (1, .int a1)] 3 C dX6_lead_96 rfl e44 (by decide) rfl ?_
                refine r_goto 2 C dX6_lead_99 (by decide) ?_
                refine r_lv [2, 3, 0] rfl ?_
                exact ih9 i43 w37 h41 o40 (by omega) (by omega)
              · have c42' := i_ne c42
                refine r_aload_n 1 C dX6_lead_89 rfl ?_
                refine gfX6_15 102 C (kS sC h41 kc_100) (xS sC h41 xc_100_3) dX6_lead_90 ?_
                refine r_iload_n 2 C dX6_lead_93 rfl ?_
                refine r_iconst (v := (-1)) C dX6_lead_94 (by decide) ?_
                refine r_iast C (kS sC h41 kc_102) (vin (by omega) (by omega)) dX6_lead_95 (fun w45 e46 => ?_)
                have h47 := Ch.putS h41 e46 (by decide)
                have o48 := Inv.put0 o40 e46 (by decide)
                obtain ⟨i49, e50⟩ : ∃ z : Int32, u1 + Int32.ofInt 1 = z := ⟨_, rfl⟩
                have i49' := iinc_ok e50 (by decide) (by omega) (by omega)
                refine r_iinc [(2, .int i49), (3, .int r18), (0, .ref (gz (xG x) + 100)), (1, .int a1)] 3 C dX6_lead_96 rfl e50 (by decide) rfl ?_
                refine r_goto 2 C dX6_lead_99 (by decide) ?_
                refine r_lv [2, 3, 0] rfl ?_
                exact ih9 i49 w45 h47 o48 (by omega) (by omega)
          · have c22' := i_eq c22
            refine r_aload_n 1 C dX6_lead_55 rfl ?_
            refine gfX6_9 101 C (kS sC h21 kc_100) (xS sC h21 xc_100_2) dX6_lead_56 ?_
            refine r_iload_n 2 C dX6_lead_59 rfl ?_
            refine r_iald C (kS sC h21 kc_101) (vin (by omega) (by omega)) dX6_lead_60 ?_
            generalize (wI w17 101 (a1).toNatClampNeg) = v51
            refine r_goto 65 C dX6_lead_61 (by decide) ?_
            refine r_iast C (kS sC h21 kc_101) (vin (by omega) (by omega)) dX6_lead_65 (fun w52 e53 => ?_)
            have h54 := Ch.putS h21 e53 (by decide)
            have o55 := Inv.put0 o20 e53 (by decide)
            refine r_aload_n 1 C dX6_lead_66 rfl ?_
            refine gfX6_9 101 C (kS sC h54 kc_100) (xS sC h54 xc_100_2) dX6_lead_67 ?_
            refine r_iload_n 2 C dX6_lead_70 rfl ?_
            refine r_iald C (kS sC h54 kc_101) (vin (by omega) (by omega)) dX6_lead_71 ?_
            generalize (wI w52 101 (a1).toNatClampNeg) = v56
            refine r_aload_n 1 C dX6_lead_72 rfl ?_
            refine gfX6_15 102 C (kS sC h54 kc_100) (xS sC h54 xc_100_3) dX6_lead_73 ?_
            refine r_iload_n 2 C dX6_lead_76 rfl ?_
            refine r_iald C (kS sC h54 kc_102) (vin (by omega) (by omega)) dX6_lead_77 ?_
            generalize (wI w52 102 (a1).toNatClampNeg) = v57
            refine r_icmp_eq 89 C dX6_lead_78 (by decide) (fun c58 => ?_) (fun c58 => ?_)
            · have c58' := i_eq c58
              refine r_aload_n 1 C dX6_lead_89 rfl ?_
              refine gfX6_15 102 C (kS sC h54 kc_100) (xS sC h54 xc_100_3) dX6_lead_90 ?_
              refine r_iload_n 2 C dX6_lead_93 rfl ?_
              refine r_iconst (v := (-1)) C dX6_lead_94 (by decide) ?_
              refine r_iast C (kS sC h54 kc_102) (vin (by omega) (by omega)) dX6_lead_95 (fun w59 e60 => ?_)
              have h61 := Ch.putS h54 e60 (by decide)
              have o62 := Inv.put0 o55 e60 (by decide)
              obtain ⟨i63, e64⟩ : ∃ z : Int32, u1 + Int32.ofInt 1 = z := ⟨_, rfl⟩
              have i63' := iinc_ok e64 (by decide) (by omega) (by omega)
              refine r_iinc [(2, .int i63), (3, .int r18), (0, .ref (gz (xG x) + 100)), (1, .int a1)] 3 C dX6_lead_96 rfl e64 (by decide) rfl ?_
              refine r_goto 2 C dX6_lead_99 (by decide) ?_
              refine r_lv [2, 3, 0] rfl ?_
              exact ih9 i63 w59 h61 o62 (by omega) (by omega)
            · have c58' := i_ne c58
              refine r_aload_n 1 C dX6_lead_81 rfl ?_
              refine r_iload_n 2 C dX6_lead_82 rfl ?_
              refine callVI C cwX6_82_V (ctX6_fate_100 _ _ w52 (sS sC h54) o55 a1 ) (by decide) (kS sC h54 kc_100) rfl rfl rfl (Nat.le_of_ble_eq_true rfl) (by decide) dX6_lead_83 (fun r67 w66 y65 => ?_)
              show V x 0 0 w66 86 [(3, .int r18), (0, .ref (gz (xG x) + 100)), (1, .int a1), (2, .int u1)] [.int r67]
              obtain ⟨h68, o69⟩ := y65
              have h70 := Ch.tr h54 h68 (by decide) (by decide)
              refine r_if_eq 96 C dX6_lead_86 (by decide) (fun c71 => ?_) (fun c71 => ?_)
              · have c71' := i_eq c71
                obtain ⟨i72, e73⟩ : ∃ z : Int32, u1 + Int32.ofInt 1 = z := ⟨_, rfl⟩
                have i72' := iinc_ok e73 (by decide) (by omega) (by omega)
                refine r_iinc [(2, .int i72), (3, .int r18), (0, .ref (gz (xG x) + 100)), (1, .int a1)] 3 C dX6_lead_96 rfl e73 (by decide) rfl ?_
                refine r_goto 2 C dX6_lead_99 (by decide) ?_
                refine r_lv [2, 3, 0] rfl ?_
                exact ih9 i72 w66 h70 o69 (by omega) (by omega)
              · have c71' := i_ne c71
                refine r_aload_n 1 C dX6_lead_89 rfl ?_
                refine gfX6_15 102 C (kS sC h70 kc_100) (xS sC h70 xc_100_3) dX6_lead_90 ?_
                refine r_iload_n 2 C dX6_lead_93 rfl ?_
                refine r_iconst (v := (-1)) C dX6_lead_94 (by decide) ?_
                refine r_iast C (kS sC h70 kc_102) (vin (by omega) (by omega)) dX6_lead_95 (fun w74 e75 => ?_)
                have h76 := Ch.putS h70 e75 (by decide)
                have o77 := Inv.put0 o69 e75 (by decide)
                obtain ⟨i78, e79⟩ : ∃ z : Int32, u1 + Int32.ofInt 1 = z := ⟨_, rfl⟩
                have i78' := iinc_ok e79 (by decide) (by omega) (by omega)
                refine r_iinc [(2, .int i78), (3, .int r18), (0, .ref (gz (xG x) + 100)), (1, .int a1)] 3 C dX6_lead_96 rfl e79 (by decide) rfl ?_
                refine r_goto 2 C dX6_lead_99 (by decide) ?_
                refine r_lv [2, 3, 0] rfl ?_
                exact ih9 i78 w74 h76 o77 (by omega) (by omega)
  refine r_iconst (v := 0) C dX6_lead_0 (by decide) ?_
  refine r_istore_n [(2, .int 0), (0, .ref (gz (xG x) + 100)), (1, .int a1)] C dX6_lead_1 (by decide) rfl ?_
  refine r_lv [1, 2, 0] rfl ?_
  exact LP2 4294967296 0 w h0 o0 (by omega) (by omega)
set_option maxHeartbeats 4000000 in
set_option maxRecDepth 100000 in
theorem ctX6_pass_35 (l : Launch) (G : Gt) (w : Wv) (sC : Str KC XC w) (o0 : Inv RC w) (a1 : Int32) (a2 : Int32) : CtV l G yX6_pass cX6_pass 4 ({ frames := 3, cells := 0, slots := 0, locals := 77 } : Room) [.ref (gz G + 35), .int a1, .int a2] w (fun w' => Ch [25, 26, 27, 36, 37] [(35, 0), (35, 1)] w w' ∧ Inv RC w') := by
  refine enterV (by decide) (Nat.le_of_ble_eq_true rfl) ?_
  intro x el eG C hnm hret
  subst el; subst eG
  show V x 0 0 w 0 [(0, .ref (gz (xG x) + 35)), (1, .int a1), (2, .int a2)] []
  have h0 : Ch [25, 26, 27, 36, 37] [(35, 0), (35, 1)] w w := Ch.rf
  have qm1 : ((-1) : Int32).toInt = (-1) := by decide
  have q0 : (0 : Int32).toInt = 0 := by decide
  have q1 : (1 : Int32).toInt = 1 := by decide
  have LP3 : ∀ (f4 : Nat) (u2 : Int32) (w5 : Wv), Ch [25, 26, 27, 36, 37] [(35, 0), (35, 1)] w w5 → Inv RC w5 → (0 ≤ u2.toInt ∧ u2.toInt ≤ 2147483647) → (0 ≤ a1.toInt ∧ a1.toInt ≤ 0) → 2147483647 - u2.toInt < f4 → V x 0 0 w5 22 [(0, .ref (gz (xG x) + 35)), (1, .int a1), (2, .int a2), (3, .int u2)] [] := by
    intro f4
    induction f4 with
    | zero => intro u2 w5 h6 o7 z8 z9 z10; exfalso; omega
    | succ f4 ih11 =>
      intro u2 w5 h6 o7 z8 z9 z10
      refine r_iload_n 3 C dX6_pass_22 rfl ?_
      refine r_aload_n 0 C dX6_pass_23 rfl ?_
      refine gfX6_18 3 C (kS sC h6 kc_35) (xS sC h6 xc_35_4) dX6_pass_24 ?_
      refine gfX6_39 (v := (wI w 3 3)) C (kS sC h6 kc_3) (h6.I (by decide) (by decide) rfl) dX6_pass_27 ?_
      have b12 := Inv.get o0 rt_3_3 (j := 3) (by decide) (by decide)
      refine r_icmp_ge 78 C dX6_pass_30 (by decide) (fun c13 => ?_) (fun c13 => ?_)
      · have c13' := i_le c13
        refine r_aload_n 0 C dX6_pass_78 rfl ?_
        refine r_dup C dX6_pass_79 rfl ?_
        refine gfX6_33 (v := (wI w5 35 1)) C (kS sC h6 kc_35) rfl dX6_pass_80 ?_
        refine r_iconst (v := 1) C dX6_pass_83 (by decide) ?_
        refine r_iadd C dX6_pass_84 (fun v14 e15 => ?_)
        refine pfX6_33 C (kS sC h6 kc_35) dX6_pass_85 (fun w16 e17 => ?_)
        have h18 := Ch.putF h6 e17 (by decide)
        have o19 := Inv.putk o7 e17 (by decide)
        exact hret _ _ _ dX6_pass_88 ⟨h18, o19⟩
      · have c13' := i_nle c13
        refine r_iload_n 2 C dX6_pass_33 rfl ?_
        refine r_iconst (v := (-1)) C dX6_pass_34 (by decide) ?_
        refine r_icmp_eq 57 C dX6_pass_35 (by decide) (fun c20 => ?_) (fun c20 => ?_)
        · have c20' := i_eq c20
          refine r_aload_n 0 C dX6_pass_57 rfl ?_
          refine gfX6_15 37 C (kS sC h6 kc_35) (xS sC h6 xc_35_3) dX6_pass_58 ?_
          refine r_iload_n 3 C dX6_pass_61 rfl ?_
          refine r_iald C (kS sC h6 kc_37) (vin (by omega) (by omega)) dX6_pass_62 ?_
          generalize (wI w5 37 (u2).toNatClampNeg) = v21
          refine r_iconst (v := (-1)) C dX6_pass_63 (by decide) ?_
          refine r_icmp_eq 72 C dX6_pass_64 (by decide) (fun c22 => ?_) (fun c22 => ?_)
          · have c22' := i_eq c22
            obtain ⟨i23, e24⟩ : ∃ z : Int32, u2 + Int32.ofInt 1 = z := ⟨_, rfl⟩
            have i23' := iinc_ok e24 (by decide) (by omega) (by omega)
            refine r_iinc [(3, .int i23), (0, .ref (gz (xG x) + 35)), (1, .int a1), (2, .int a2)] 3 C dX6_pass_72 rfl e24 (by decide) rfl ?_
            refine r_goto 22 C dX6_pass_75 (by decide) ?_
            refine r_lv [1, 2, 3, 0] rfl ?_
            exact ih11 i23 w5 h6 o7 (by omega) (by omega) (by omega)
          · have c22' := i_ne c22
            refine r_aload_n 0 C dX6_pass_67 rfl ?_
            refine r_iload_n 3 C dX6_pass_68 rfl ?_
            refine callVV C cwX6_59_V (ctX6_lead_35 _ _ w5 (sS sC h6) o7 u2 (by omega)) (by decide) (kS sC h6 kc_35) rfl rfl rfl (Nat.le_of_ble_eq_true rfl) (by decide) dX6_pass_69 (fun w26 y25 => ?_)
            show V x 0 0 w26 72 [(0, .ref (gz (xG x) + 35)), (1, .int a1), (2, .int a2), (3, .int u2)] []
            obtain ⟨h28, o29⟩ := y25
            have h30 := Ch.tr h6 h28 (by decide) (by decide)
            obtain ⟨i31, e32⟩ : ∃ z : Int32, u2 + Int32.ofInt 1 = z := ⟨_, rfl⟩
            have i31' := iinc_ok e32 (by decide) (by omega) (by omega)
            refine r_iinc [(3, .int i31), (0, .ref (gz (xG x) + 35)), (1, .int a1), (2, .int a2)] 3 C dX6_pass_72 rfl e32 (by decide) rfl ?_
            refine r_goto 22 C dX6_pass_75 (by decide) ?_
            refine r_lv [1, 2, 3, 0] rfl ?_
            exact ih11 i31 w26 h30 o29 (by omega) (by omega) (by omega)
        · have c20' := i_ne c20
          refine r_aload_n 0 C dX6_pass_38 rfl ?_
          refine r_iload_n 3 C dX6_pass_39 rfl ?_
          refine r_iload_n 2 C dX6_pass_40 rfl ?_
          refine callVI C cwX6_55_V (ctX6_hears_35 _ _ w5 (sS sC h6) o7 u2 a2 ) (by decide) (kS sC h6 kc_35) rfl rfl rfl (Nat.le_of_ble_eq_true rfl) (by decide) dX6_pass_41 (fun r35 w34 y33 => ?_)
          show V x 0 0 w34 44 [(0, .ref (gz (xG x) + 35)), (1, .int a1), (2, .int a2), (3, .int u2)] [.int r35]
          obtain ⟨h36, o37⟩ := y33
          have h38 := Ch.tr h6 h36 (by decide) (by decide)
          refine r_if_eq 57 C dX6_pass_44 (by decide) (fun c39 => ?_) (fun c39 => ?_)
          · have c39' := i_eq c39
            refine r_aload_n 0 C dX6_pass_57 rfl ?_
            refine gfX6_15 37 C (kS sC h38 kc_35) (xS sC h38 xc_35_3) dX6_pass_58 ?_
            refine r_iload_n 3 C dX6_pass_61 rfl ?_
            refine r_iald C (kS sC h38 kc_37) (vin (by omega) (by omega)) dX6_pass_62 ?_
            generalize (wI w34 37 (u2).toNatClampNeg) = v40
            refine r_iconst (v := (-1)) C dX6_pass_63 (by decide) ?_
            refine r_icmp_eq 72 C dX6_pass_64 (by decide) (fun c41 => ?_) (fun c41 => ?_)
            · have c41' := i_eq c41
              obtain ⟨i42, e43⟩ : ∃ z : Int32, u2 + Int32.ofInt 1 = z := ⟨_, rfl⟩
              have i42' := iinc_ok e43 (by decide) (by omega) (by omega)
              refine r_iinc [(3, .int i42), (0, .ref (gz (xG x) + 35)), (1, .int a1), (2, .int a2)] 3 C dX6_pass_72 rfl e43 (by decide) rfl ?_
              refine r_goto 22 C dX6_pass_75 (by decide) ?_
              refine r_lv [1, 2, 3, 0] rfl ?_
              exact ih11 i42 w34 h38 o37 (by omega) (by omega) (by omega)
            · have c41' := i_ne c41
              refine r_aload_n 0 C dX6_pass_67 rfl ?_
              refine r_iload_n 3 C dX6_pass_68 rfl ?_
              refine callVV C cwX6_59_V (ctX6_lead_35 _ _ w34 (sS sC h38) o37 u2 (by omega)) (by decide) (kS sC h38 kc_35) rfl rfl rfl (Nat.le_of_ble_eq_true rfl) (by decide) dX6_pass_69 (fun w45 y44 => ?_)
              show V x 0 0 w45 72 [(0, .ref (gz (xG x) + 35)), (1, .int a1), (2, .int a2), (3, .int u2)] []
              obtain ⟨h47, o48⟩ := y44
              have h49 := Ch.tr h38 h47 (by decide) (by decide)
              obtain ⟨i50, e51⟩ : ∃ z : Int32, u2 + Int32.ofInt 1 = z := ⟨_, rfl⟩
              have i50' := iinc_ok e51 (by decide) (by omega) (by omega)
              refine r_iinc [(3, .int i50), (0, .ref (gz (xG x) + 35)), (1, .int a1), (2, .int a2)] 3 C dX6_pass_72 rfl e51 (by decide) rfl ?_
              refine r_goto 22 C dX6_pass_75 (by decide) ?_
              refine r_lv [1, 2, 3, 0] rfl ?_
              exact ih11 i50 w45 h49 o48 (by omega) (by omega) (by omega)
          · have c39' := i_ne c39
            refine r_aload_n 0 C dX6_pass_47 rfl ?_
            refine gfX6_15 37 C (kS sC h38 kc_35) (xS sC h38 xc_35_3) dX6_pass_48 ?_
            refine r_iload_n 3 C dX6_pass_51 rfl ?_
            refine r_aload_n 0 C dX6_pass_52 rfl ?_
            refine gfX6_32 (v := (wI w5 35 0)) C (kS sC h38 kc_35) (h36.I (by decide) (by decide) rfl) dX6_pass_53 ?_
            refine r_iast C (kS sC h38 kc_37) (vin (by omega) (by omega)) dX6_pass_56 (fun w52 e53 => ?_)
            have h54 := Ch.putS h38 e53 (by decide)
            have o55 := Inv.put0 o37 e53 (by decide)
            refine r_aload_n 0 C dX6_pass_57 rfl ?_
            refine gfX6_15 37 C (kS sC h54 kc_35) (xS sC h54 xc_35_3) dX6_pass_58 ?_
            refine r_iload_n 3 C dX6_pass_61 rfl ?_
            refine r_iald C (kS sC h54 kc_37) (vin (by omega) (by omega)) dX6_pass_62 ?_
            generalize (wI w52 37 (u2).toNatClampNeg) = v56
            refine r_iconst (v := (-1)) C dX6_pass_63 (by decide) ?_
            refine r_icmp_eq 72 C dX6_pass_64 (by decide) (fun c57 => ?_) (fun c57 => ?_)
            · have c57' := i_eq c57
              obtain ⟨i58, e59⟩ : ∃ z : Int32, u2 + Int32.ofInt 1 = z := ⟨_, rfl⟩
              have i58' := iinc_ok e59 (by decide) (by omega) (by omega)
              refine r_iinc [(3, .int i58), (0, .ref (gz (xG x) + 35)), (1, .int a1), (2, .int a2)] 3 C dX6_pass_72 rfl e59 (by decide) rfl ?_
              refine r_goto 22 C dX6_pass_75 (by decide) ?_
              refine r_lv [1, 2, 3, 0] rfl ?_
              exact ih11 i58 w52 h54 o55 (by omega) (by omega) (by omega)
            · have c57' := i_ne c57
              refine r_aload_n 0 C dX6_pass_67 rfl ?_
              refine r_iload_n 3 C dX6_pass_68 rfl ?_
              refine callVV C cwX6_59_V (ctX6_lead_35 _ _ w52 (sS sC h54) o55 u2 (by omega)) (by decide) (kS sC h54 kc_35) rfl rfl rfl (Nat.le_of_ble_eq_true rfl) (by decide) dX6_pass_69 (fun w61 y60 => ?_)
              show V x 0 0 w61 72 [(0, .ref (gz (xG x) + 35)), (1, .int a1), (2, .int a2), (3, .int u2)] []
              obtain ⟨h63, o64⟩ := y60
              have h65 := Ch.tr h54 h63 (by decide) (by decide)
              obtain ⟨i66, e67⟩ : ∃ z : Int32, u2 + Int32.ofInt 1 = z := ⟨_, rfl⟩
              have i66' := iinc_ok e67 (by decide) (by omega) (by omega)
              refine r_iinc [(3, .int i66), (0, .ref (gz (xG x) + 35)), (1, .int a1), (2, .int a2)] 3 C dX6_pass_72 rfl e67 (by decide) rfl ?_
              refine r_goto 22 C dX6_pass_75 (by decide) ?_
              refine r_lv [1, 2, 3, 0] rfl ?_
              exact ih11 i66 w61 h65 o64 (by omega) (by omega) (by omega)
  refine r_iload_n 1 C dX6_pass_0 rfl ?_
  refine r_if_eq 20 C dX6_pass_1 (by decide) (fun c1 => ?_) (fun c1 => ?_)
  · have c1' := i_eq c1
    refine r_iconst (v := 0) C dX6_pass_20 (by decide) ?_
    refine r_istore_n [(3, .int 0), (0, .ref (gz (xG x) + 35)), (1, .int a1), (2, .int a2)] C dX6_pass_21 (by decide) rfl ?_
    refine r_lv [1, 2, 3, 0] rfl ?_
    exact LP3 4294967296 0 w h0 o0 (by omega) (by omega) (by omega)
  · have c1' := i_ne c1
    refine r_aload_n 0 C dX6_pass_4 rfl ?_
    refine r_aload_n 0 C dX6_pass_5 rfl ?_
    refine gfX6_22 21 C (kS sC h0 kc_35) (xS sC h0 xc_35_5) dX6_pass_6 ?_
    refine r_aload_n 0 C dX6_pass_9 rfl ?_
    refine gfX6_32 (v := (wI w 35 0)) C (kS sC h0 kc_35) rfl dX6_pass_10 ?_
    refine r_iload_n 1 C dX6_pass_13 rfl ?_
    refine callVI C cwX6_47_V (ctX1_beside_21 _ _ w (sS sC h0) o0 (wI w 35 0) a1 ) (by decide) (kS sC h0 kc_21) rfl rfl rfl (Nat.le_of_ble_eq_true rfl) (by decide) dX6_pass_14 (fun r70 w69 y68 => ?_)
    show V x 0 0 w69 17 [(0, .ref (gz (xG x) + 35)), (1, .int a1), (2, .int a2)] [.int r70, .ref (gz (xG x) + 35)]
    obtain ⟨h71, o72⟩ := y68
    have h73 := Ch.tr h0 h71 (by decide) (by decide)
    refine pfX6_32 C (kS sC h73 kc_35) dX6_pass_17 (fun w74 e75 => ?_)
    have h76 := Ch.putF h73 e75 (by decide)
    have o77 := Inv.putk o72 e75 (by decide)
    refine r_iconst (v := 0) C dX6_pass_20 (by decide) ?_
    refine r_istore_n [(3, .int 0), (0, .ref (gz (xG x) + 35)), (1, .int a1), (2, .int a2)] C dX6_pass_21 (by decide) rfl ?_
    refine r_lv [1, 2, 3, 0] rfl ?_
    exact LP3 4294967296 0 w74 h76 o77 (by omega) (by omega) (by omega)
set_option maxHeartbeats 4000000 in
set_option maxRecDepth 100000 in
theorem ctX6_pass_38 (l : Launch) (G : Gt) (w : Wv) (sC : Str KC XC w) (o0 : Inv RC w) (a1 : Int32) (a2 : Int32) : CtV l G yX6_pass cX6_pass 4 ({ frames := 3, cells := 0, slots := 0, locals := 77 } : Room) [.ref (gz G + 38), .int a1, .int a2] w (fun w' => Ch [25, 26, 27, 39, 40] [(38, 0), (38, 1)] w w' ∧ Inv RC w') := by
  refine enterV (by decide) (Nat.le_of_ble_eq_true rfl) ?_
  intro x el eG C hnm hret
  subst el; subst eG
  show V x 0 0 w 0 [(0, .ref (gz (xG x) + 38)), (1, .int a1), (2, .int a2)] []
  have h0 : Ch [25, 26, 27, 39, 40] [(38, 0), (38, 1)] w w := Ch.rf
  have qm1 : ((-1) : Int32).toInt = (-1) := by decide
  have q0 : (0 : Int32).toInt = 0 := by decide
  have q1 : (1 : Int32).toInt = 1 := by decide
  have LP3 : ∀ (f4 : Nat) (u2 : Int32) (w5 : Wv), Ch [25, 26, 27, 39, 40] [(38, 0), (38, 1)] w w5 → Inv RC w5 → (0 ≤ u2.toInt ∧ u2.toInt ≤ 2147483647) → (0 ≤ a1.toInt ∧ a1.toInt ≤ 0) → 2147483647 - u2.toInt < f4 → V x 0 0 w5 22 [(0, .ref (gz (xG x) + 38)), (1, .int a1), (2, .int a2), (3, .int u2)] [] := by
    intro f4
    induction f4 with
    | zero => intro u2 w5 h6 o7 z8 z9 z10; exfalso; omega
    | succ f4 ih11 =>
      intro u2 w5 h6 o7 z8 z9 z10
      refine r_iload_n 3 C dX6_pass_22 rfl ?_
      refine r_aload_n 0 C dX6_pass_23 rfl ?_
      refine gfX6_18 3 C (kS sC h6 kc_38) (xS sC h6 xc_38_4) dX6_pass_24 ?_
      refine gfX6_39 (v := (wI w 3 3)) C (kS sC h6 kc_3) (h6.I (by decide) (by decide) rfl) dX6_pass_27 ?_
      have b12 := Inv.get o0 rt_3_3 (j := 3) (by decide) (by decide)
      refine r_icmp_ge 78 C dX6_pass_30 (by decide) (fun c13 => ?_) (fun c13 => ?_)
      · have c13' := i_le c13
        refine r_aload_n 0 C dX6_pass_78 rfl ?_
        refine r_dup C dX6_pass_79 rfl ?_
        refine gfX6_33 (v := (wI w5 38 1)) C (kS sC h6 kc_38) rfl dX6_pass_80 ?_
        refine r_iconst (v := 1) C dX6_pass_83 (by decide) ?_
        refine r_iadd C dX6_pass_84 (fun v14 e15 => ?_)
        refine pfX6_33 C (kS sC h6 kc_38) dX6_pass_85 (fun w16 e17 => ?_)
        have h18 := Ch.putF h6 e17 (by decide)
        have o19 := Inv.putk o7 e17 (by decide)
        exact hret _ _ _ dX6_pass_88 ⟨h18, o19⟩
      · have c13' := i_nle c13
        refine r_iload_n 2 C dX6_pass_33 rfl ?_
        refine r_iconst (v := (-1)) C dX6_pass_34 (by decide) ?_
        refine r_icmp_eq 57 C dX6_pass_35 (by decide) (fun c20 => ?_) (fun c20 => ?_)
        · have c20' := i_eq c20
          refine r_aload_n 0 C dX6_pass_57 rfl ?_
          refine gfX6_15 40 C (kS sC h6 kc_38) (xS sC h6 xc_38_3) dX6_pass_58 ?_
          refine r_iload_n 3 C dX6_pass_61 rfl ?_
          refine r_iald C (kS sC h6 kc_40) (vin (by omega) (by omega)) dX6_pass_62 ?_
          generalize (wI w5 40 (u2).toNatClampNeg) = v21
          refine r_iconst (v := (-1)) C dX6_pass_63 (by decide) ?_
          refine r_icmp_eq 72 C dX6_pass_64 (by decide) (fun c22 => ?_) (fun c22 => ?_)
          · have c22' := i_eq c22
            obtain ⟨i23, e24⟩ : ∃ z : Int32, u2 + Int32.ofInt 1 = z := ⟨_, rfl⟩
            have i23' := iinc_ok e24 (by decide) (by omega) (by omega)
            refine r_iinc [(3, .int i23), (0, .ref (gz (xG x) + 38)), (1, .int a1), (2, .int a2)] 3 C dX6_pass_72 rfl e24 (by decide) rfl ?_
            refine r_goto 22 C dX6_pass_75 (by decide) ?_
            refine r_lv [1, 2, 3, 0] rfl ?_
            exact ih11 i23 w5 h6 o7 (by omega) (by omega) (by omega)
          · have c22' := i_ne c22
            refine r_aload_n 0 C dX6_pass_67 rfl ?_
            refine r_iload_n 3 C dX6_pass_68 rfl ?_
            refine callVV C cwX6_59_V (ctX6_lead_38 _ _ w5 (sS sC h6) o7 u2 (by omega)) (by decide) (kS sC h6 kc_38) rfl rfl rfl (Nat.le_of_ble_eq_true rfl) (by decide) dX6_pass_69 (fun w26 y25 => ?_)
            show V x 0 0 w26 72 [(0, .ref (gz (xG x) + 38)), (1, .int a1), (2, .int a2), (3, .int u2)] []
            obtain ⟨h28, o29⟩ := y25
            have h30 := Ch.tr h6 h28 (by decide) (by decide)
            obtain ⟨i31, e32⟩ : ∃ z : Int32, u2 + Int32.ofInt 1 = z := ⟨_, rfl⟩
            have i31' := iinc_ok e32 (by decide) (by omega) (by omega)
            refine r_iinc [(3, .int i31), (0, .ref (gz (xG x) + 38)), (1, .int a1), (2, .int a2)] 3 C dX6_pass_72 rfl e32 (by decide) rfl ?_
            refine r_goto 22 C dX6_pass_75 (by decide) ?_
            refine r_lv [1, 2, 3, 0] rfl ?_
            exact ih11 i31 w26 h30 o29 (by omega) (by omega) (by omega)
        · have c20' := i_ne c20
          refine r_aload_n 0 C dX6_pass_38 rfl ?_
          refine r_iload_n 3 C dX6_pass_39 rfl ?_
          refine r_iload_n 2 C dX6_pass_40 rfl ?_
          refine callVI C cwX6_55_V (ctX6_hears_38 _ _ w5 (sS sC h6) o7 u2 a2 ) (by decide) (kS sC h6 kc_38) rfl rfl rfl (Nat.le_of_ble_eq_true rfl) (by decide) dX6_pass_41 (fun r35 w34 y33 => ?_)
          show V x 0 0 w34 44 [(0, .ref (gz (xG x) + 38)), (1, .int a1), (2, .int a2), (3, .int u2)] [.int r35]
          obtain ⟨h36, o37⟩ := y33
          have h38 := Ch.tr h6 h36 (by decide) (by decide)
          refine r_if_eq 57 C dX6_pass_44 (by decide) (fun c39 => ?_) (fun c39 => ?_)
          · have c39' := i_eq c39
            refine r_aload_n 0 C dX6_pass_57 rfl ?_
            refine gfX6_15 40 C (kS sC h38 kc_38) (xS sC h38 xc_38_3) dX6_pass_58 ?_
            refine r_iload_n 3 C dX6_pass_61 rfl ?_
            refine r_iald C (kS sC h38 kc_40) (vin (by omega) (by omega)) dX6_pass_62 ?_
            generalize (wI w34 40 (u2).toNatClampNeg) = v40
            refine r_iconst (v := (-1)) C dX6_pass_63 (by decide) ?_
            refine r_icmp_eq 72 C dX6_pass_64 (by decide) (fun c41 => ?_) (fun c41 => ?_)
            · have c41' := i_eq c41
              obtain ⟨i42, e43⟩ : ∃ z : Int32, u2 + Int32.ofInt 1 = z := ⟨_, rfl⟩
              have i42' := iinc_ok e43 (by decide) (by omega) (by omega)
              refine r_iinc [(3, .int i42), (0, .ref (gz (xG x) + 38)), (1, .int a1), (2, .int a2)] 3 C dX6_pass_72 rfl e43 (by decide) rfl ?_
              refine r_goto 22 C dX6_pass_75 (by decide) ?_
              refine r_lv [1, 2, 3, 0] rfl ?_
              exact ih11 i42 w34 h38 o37 (by omega) (by omega) (by omega)
            · have c41' := i_ne c41
              refine r_aload_n 0 C dX6_pass_67 rfl ?_
              refine r_iload_n 3 C dX6_pass_68 rfl ?_
              refine callVV C cwX6_59_V (ctX6_lead_38 _ _ w34 (sS sC h38) o37 u2 (by omega)) (by decide) (kS sC h38 kc_38) rfl rfl rfl (Nat.le_of_ble_eq_true rfl) (by decide) dX6_pass_69 (fun w45 y44 => ?_)
              show V x 0 0 w45 72 [(0, .ref (gz (xG x) + 38)), (1, .int a1), (2, .int a2), (3, .int u2)] []
              obtain ⟨h47, o48⟩ := y44
              have h49 := Ch.tr h38 h47 (by decide) (by decide)
              obtain ⟨i50, e51⟩ : ∃ z : Int32, u2 + Int32.ofInt 1 = z := ⟨_, rfl⟩
              have i50' := iinc_ok e51 (by decide) (by omega) (by omega)
              refine r_iinc [(3, .int i50), (0, .ref (gz (xG x) + 38)), (1, .int a1), (2, .int a2)] 3 C dX6_pass_72 rfl e51 (by decide) rfl ?_
              refine r_goto 22 C dX6_pass_75 (by decide) ?_
              refine r_lv [1, 2, 3, 0] rfl ?_
              exact ih11 i50 w45 h49 o48 (by omega) (by omega) (by omega)
          · have c39' := i_ne c39
            refine r_aload_n 0 C dX6_pass_47 rfl ?_
            refine gfX6_15 40 C (kS sC h38 kc_38) (xS sC h38 xc_38_3) dX6_pass_48 ?_
            refine r_iload_n 3 C dX6_pass_51 rfl ?_
            refine r_aload_n 0 C dX6_pass_52 rfl ?_
            refine gfX6_32 (v := (wI w5 38 0)) C (kS sC h38 kc_38) (h36.I (by decide) (by decide) rfl) dX6_pass_53 ?_
            refine r_iast C (kS sC h38 kc_40) (vin (by omega) (by omega)) dX6_pass_56 (fun w52 e53 => ?_)
            have h54 := Ch.putS h38 e53 (by decide)
            have o55 := Inv.put0 o37 e53 (by decide)
            refine r_aload_n 0 C dX6_pass_57 rfl ?_
            refine gfX6_15 40 C (kS sC h54 kc_38) (xS sC h54 xc_38_3) dX6_pass_58 ?_
            refine r_iload_n 3 C dX6_pass_61 rfl ?_
            refine r_iald C (kS sC h54 kc_40) (vin (by omega) (by omega)) dX6_pass_62 ?_
            generalize (wI w52 40 (u2).toNatClampNeg) = v56
            refine r_iconst (v := (-1)) C dX6_pass_63 (by decide) ?_
            refine r_icmp_eq 72 C dX6_pass_64 (by decide) (fun c57 => ?_) (fun c57 => ?_)
            · have c57' := i_eq c57
              obtain ⟨i58, e59⟩ : ∃ z : Int32, u2 + Int32.ofInt 1 = z := ⟨_, rfl⟩
              have i58' := iinc_ok e59 (by decide) (by omega) (by omega)
              refine r_iinc [(3, .int i58), (0, .ref (gz (xG x) + 38)), (1, .int a1), (2, .int a2)] 3 C dX6_pass_72 rfl e59 (by decide) rfl ?_
              refine r_goto 22 C dX6_pass_75 (by decide) ?_
              refine r_lv [1, 2, 3, 0] rfl ?_
              exact ih11 i58 w52 h54 o55 (by omega) (by omega) (by omega)
            · have c57' := i_ne c57
              refine r_aload_n 0 C dX6_pass_67 rfl ?_
              refine r_iload_n 3 C dX6_pass_68 rfl ?_
              refine callVV C cwX6_59_V (ctX6_lead_38 _ _ w52 (sS sC h54) o55 u2 (by omega)) (by decide) (kS sC h54 kc_38) rfl rfl rfl (Nat.le_of_ble_eq_true rfl) (by decide) dX6_pass_69 (fun w61 y60 => ?_)
              show V x 0 0 w61 72 [(0, .ref (gz (xG x) + 38)), (1, .int a1), (2, .int a2), (3, .int u2)] []
              obtain ⟨h63, o64⟩ := y60
              have h65 := Ch.tr h54 h63 (by decide) (by decide)
              obtain ⟨i66, e67⟩ : ∃ z : Int32, u2 + Int32.ofInt 1 = z := ⟨_, rfl⟩
              have i66' := iinc_ok e67 (by decide) (by omega) (by omega)
              refine r_iinc [(3, .int i66), (0, .ref (gz (xG x) + 38)), (1, .int a1), (2, .int a2)] 3 C dX6_pass_72 rfl e67 (by decide) rfl ?_
              refine r_goto 22 C dX6_pass_75 (by decide) ?_
              refine r_lv [1, 2, 3, 0] rfl ?_
              exact ih11 i66 w61 h65 o64 (by omega) (by omega) (by omega)
  refine r_iload_n 1 C dX6_pass_0 rfl ?_
  refine r_if_eq 20 C dX6_pass_1 (by decide) (fun c1 => ?_) (fun c1 => ?_)
  · have c1' := i_eq c1
    refine r_iconst (v := 0) C dX6_pass_20 (by decide) ?_
    refine r_istore_n [(3, .int 0), (0, .ref (gz (xG x) + 38)), (1, .int a1), (2, .int a2)] C dX6_pass_21 (by decide) rfl ?_
    refine r_lv [1, 2, 3, 0] rfl ?_
    exact LP3 4294967296 0 w h0 o0 (by omega) (by omega) (by omega)
  · have c1' := i_ne c1
    refine r_aload_n 0 C dX6_pass_4 rfl ?_
    refine r_aload_n 0 C dX6_pass_5 rfl ?_
    refine gfX6_22 21 C (kS sC h0 kc_38) (xS sC h0 xc_38_5) dX6_pass_6 ?_
    refine r_aload_n 0 C dX6_pass_9 rfl ?_
    refine gfX6_32 (v := (wI w 38 0)) C (kS sC h0 kc_38) rfl dX6_pass_10 ?_
    refine r_iload_n 1 C dX6_pass_13 rfl ?_
    refine callVI C cwX6_47_V (ctX1_beside_21 _ _ w (sS sC h0) o0 (wI w 38 0) a1 ) (by decide) (kS sC h0 kc_21) rfl rfl rfl (Nat.le_of_ble_eq_true rfl) (by decide) dX6_pass_14 (fun r70 w69 y68 => ?_)
    show V x 0 0 w69 17 [(0, .ref (gz (xG x) + 38)), (1, .int a1), (2, .int a2)] [.int r70, .ref (gz (xG x) + 38)]
    obtain ⟨h71, o72⟩ := y68
    have h73 := Ch.tr h0 h71 (by decide) (by decide)
    refine pfX6_32 C (kS sC h73 kc_38) dX6_pass_17 (fun w74 e75 => ?_)
    have h76 := Ch.putF h73 e75 (by decide)
    have o77 := Inv.putk o72 e75 (by decide)
    refine r_iconst (v := 0) C dX6_pass_20 (by decide) ?_
    refine r_istore_n [(3, .int 0), (0, .ref (gz (xG x) + 38)), (1, .int a1), (2, .int a2)] C dX6_pass_21 (by decide) rfl ?_
    refine r_lv [1, 2, 3, 0] rfl ?_
    exact LP3 4294967296 0 w74 h76 o77 (by omega) (by omega) (by omega)
set_option maxHeartbeats 4000000 in
set_option maxRecDepth 100000 in
theorem ctX6_pass_41 (l : Launch) (G : Gt) (w : Wv) (sC : Str KC XC w) (o0 : Inv RC w) (a1 : Int32) (a2 : Int32) : CtV l G yX6_pass cX6_pass 4 ({ frames := 3, cells := 0, slots := 0, locals := 77 } : Room) [.ref (gz G + 41), .int a1, .int a2] w (fun w' => Ch [32, 33, 34, 42, 43] [(41, 0), (41, 1)] w w' ∧ Inv RC w') := by
  refine enterV (by decide) (Nat.le_of_ble_eq_true rfl) ?_
  intro x el eG C hnm hret
  subst el; subst eG
  show V x 0 0 w 0 [(0, .ref (gz (xG x) + 41)), (1, .int a1), (2, .int a2)] []
  have h0 : Ch [32, 33, 34, 42, 43] [(41, 0), (41, 1)] w w := Ch.rf
  have qm1 : ((-1) : Int32).toInt = (-1) := by decide
  have q0 : (0 : Int32).toInt = 0 := by decide
  have q1 : (1 : Int32).toInt = 1 := by decide
  have LP3 : ∀ (f4 : Nat) (u2 : Int32) (w5 : Wv), Ch [32, 33, 34, 42, 43] [(41, 0), (41, 1)] w w5 → Inv RC w5 → (0 ≤ u2.toInt ∧ u2.toInt ≤ 2147483647) → (0 ≤ a1.toInt ∧ a1.toInt ≤ 0) → 2147483647 - u2.toInt < f4 → V x 0 0 w5 22 [(0, .ref (gz (xG x) + 41)), (1, .int a1), (2, .int a2), (3, .int u2)] [] := by
    intro f4
    induction f4 with
    | zero => intro u2 w5 h6 o7 z8 z9 z10; exfalso; omega
    | succ f4 ih11 =>
      intro u2 w5 h6 o7 z8 z9 z10
      refine r_iload_n 3 C dX6_pass_22 rfl ?_
      refine r_aload_n 0 C dX6_pass_23 rfl ?_
      refine gfX6_18 3 C (kS sC h6 kc_41) (xS sC h6 xc_41_4) dX6_pass_24 ?_
      refine gfX6_39 (v := (wI w 3 3)) C (kS sC h6 kc_3) (h6.I (by decide) (by decide) rfl) dX6_pass_27 ?_
      have b12 := Inv.get o0 rt_3_3 (j := 3) (by decide) (by decide)
      refine r_icmp_ge 78 C dX6_pass_30 (by decide) (fun c13 => ?_) (fun c13 => ?_)
      · have c13' := i_le c13
        refine r_aload_n 0 C dX6_pass_78 rfl ?_
        refine r_dup C dX6_pass_79 rfl ?_
        refine gfX6_33 (v := (wI w5 41 1)) C (kS sC h6 kc_41) rfl dX6_pass_80 ?_
        refine r_iconst (v := 1) C dX6_pass_83 (by decide) ?_
        refine r_iadd C dX6_pass_84 (fun v14 e15 => ?_)
        refine pfX6_33 C (kS sC h6 kc_41) dX6_pass_85 (fun w16 e17 => ?_)
        have h18 := Ch.putF h6 e17 (by decide)
        have o19 := Inv.putk o7 e17 (by decide)
        exact hret _ _ _ dX6_pass_88 ⟨h18, o19⟩
      · have c13' := i_nle c13
        refine r_iload_n 2 C dX6_pass_33 rfl ?_
        refine r_iconst (v := (-1)) C dX6_pass_34 (by decide) ?_
        refine r_icmp_eq 57 C dX6_pass_35 (by decide) (fun c20 => ?_) (fun c20 => ?_)
        · have c20' := i_eq c20
          refine r_aload_n 0 C dX6_pass_57 rfl ?_
          refine gfX6_15 43 C (kS sC h6 kc_41) (xS sC h6 xc_41_3) dX6_pass_58 ?_
          refine r_iload_n 3 C dX6_pass_61 rfl ?_
          refine r_iald C (kS sC h6 kc_43) (vin (by omega) (by omega)) dX6_pass_62 ?_
          generalize (wI w5 43 (u2).toNatClampNeg) = v21
          refine r_iconst (v := (-1)) C dX6_pass_63 (by decide) ?_
          refine r_icmp_eq 72 C dX6_pass_64 (by decide) (fun c22 => ?_) (fun c22 => ?_)
          · have c22' := i_eq c22
            obtain ⟨i23, e24⟩ : ∃ z : Int32, u2 + Int32.ofInt 1 = z := ⟨_, rfl⟩
            have i23' := iinc_ok e24 (by decide) (by omega) (by omega)
            refine r_iinc [(3, .int i23), (0, .ref (gz (xG x) + 41)), (1, .int a1), (2, .int a2)] 3 C dX6_pass_72 rfl e24 (by decide) rfl ?_
            refine r_goto 22 C dX6_pass_75 (by decide) ?_
            refine r_lv [1, 2, 3, 0] rfl ?_
            exact ih11 i23 w5 h6 o7 (by omega) (by omega) (by omega)
          · have c22' := i_ne c22
            refine r_aload_n 0 C dX6_pass_67 rfl ?_
            refine r_iload_n 3 C dX6_pass_68 rfl ?_
            refine callVV C cwX6_59_V (ctX6_lead_41 _ _ w5 (sS sC h6) o7 u2 (by omega)) (by decide) (kS sC h6 kc_41) rfl rfl rfl (Nat.le_of_ble_eq_true rfl) (by decide) dX6_pass_69 (fun w26 y25 => ?_)
            show V x 0 0 w26 72 [(0, .ref (gz (xG x) + 41)), (1, .int a1), (2, .int a2), (3, .int u2)] []
            obtain ⟨h28, o29⟩ := y25
            have h30 := Ch.tr h6 h28 (by decide) (by decide)
            obtain ⟨i31, e32⟩ : ∃ z : Int32, u2 + Int32.ofInt 1 = z := ⟨_, rfl⟩
            have i31' := iinc_ok e32 (by decide) (by omega) (by omega)
            refine r_iinc [(3, .int i31), (0, .ref (gz (xG x) + 41)), (1, .int a1), (2, .int a2)] 3 C dX6_pass_72 rfl e32 (by decide) rfl ?_
            refine r_goto 22 C dX6_pass_75 (by decide) ?_
            refine r_lv [1, 2, 3, 0] rfl ?_
            exact ih11 i31 w26 h30 o29 (by omega) (by omega) (by omega)
        · have c20' := i_ne c20
          refine r_aload_n 0 C dX6_pass_38 rfl ?_
          refine r_iload_n 3 C dX6_pass_39 rfl ?_
          refine r_iload_n 2 C dX6_pass_40 rfl ?_
          refine callVI C cwX6_55_V (ctX6_hears_41 _ _ w5 (sS sC h6) o7 u2 a2 ) (by decide) (kS sC h6 kc_41) rfl rfl rfl (Nat.le_of_ble_eq_true rfl) (by decide) dX6_pass_41 (fun r35 w34 y33 => ?_)
          show V x 0 0 w34 44 [(0, .ref (gz (xG x) + 41)), (1, .int a1), (2, .int a2), (3, .int u2)] [.int r35]
          obtain ⟨h36, o37⟩ := y33
          have h38 := Ch.tr h6 h36 (by decide) (by decide)
          refine r_if_eq 57 C dX6_pass_44 (by decide) (fun c39 => ?_) (fun c39 => ?_)
          · have c39' := i_eq c39
            refine r_aload_n 0 C dX6_pass_57 rfl ?_
            refine gfX6_15 43 C (kS sC h38 kc_41) (xS sC h38 xc_41_3) dX6_pass_58 ?_
            refine r_iload_n 3 C dX6_pass_61 rfl ?_
            refine r_iald C (kS sC h38 kc_43) (vin (by omega) (by omega)) dX6_pass_62 ?_
            generalize (wI w34 43 (u2).toNatClampNeg) = v40
            refine r_iconst (v := (-1)) C dX6_pass_63 (by decide) ?_
            refine r_icmp_eq 72 C dX6_pass_64 (by decide) (fun c41 => ?_) (fun c41 => ?_)
            · have c41' := i_eq c41
              obtain ⟨i42, e43⟩ : ∃ z : Int32, u2 + Int32.ofInt 1 = z := ⟨_, rfl⟩
              have i42' := iinc_ok e43 (by decide) (by omega) (by omega)
              refine r_iinc [(3, .int i42), (0, .ref (gz (xG x) + 41)), (1, .int a1), (2, .int a2)] 3 C dX6_pass_72 rfl e43 (by decide) rfl ?_
              refine r_goto 22 C dX6_pass_75 (by decide) ?_
              refine r_lv [1, 2, 3, 0] rfl ?_
              exact ih11 i42 w34 h38 o37 (by omega) (by omega) (by omega)
            · have c41' := i_ne c41
              refine r_aload_n 0 C dX6_pass_67 rfl ?_
              refine r_iload_n 3 C dX6_pass_68 rfl ?_
              refine callVV C cwX6_59_V (ctX6_lead_41 _ _ w34 (sS sC h38) o37 u2 (by omega)) (by decide) (kS sC h38 kc_41) rfl rfl rfl (Nat.le_of_ble_eq_true rfl) (by decide) dX6_pass_69 (fun w45 y44 => ?_)
              show V x 0 0 w45 72 [(0, .ref (gz (xG x) + 41)), (1, .int a1), (2, .int a2), (3, .int u2)] []
              obtain ⟨h47, o48⟩ := y44
              have h49 := Ch.tr h38 h47 (by decide) (by decide)
              obtain ⟨i50, e51⟩ : ∃ z : Int32, u2 + Int32.ofInt 1 = z := ⟨_, rfl⟩
              have i50' := iinc_ok e51 (by decide) (by omega) (by omega)
              refine r_iinc [(3, .int i50), (0, .ref (gz (xG x) + 41)), (1, .int a1), (2, .int a2)] 3 C dX6_pass_72 rfl e51 (by decide) rfl ?_
              refine r_goto 22 C dX6_pass_75 (by decide) ?_
              refine r_lv [1, 2, 3, 0] rfl ?_
              exact ih11 i50 w45 h49 o48 (by omega) (by omega) (by omega)
          · have c39' := i_ne c39
            refine r_aload_n 0 C dX6_pass_47 rfl ?_
            refine gfX6_15 43 C (kS sC h38 kc_41) (xS sC h38 xc_41_3) dX6_pass_48 ?_
            refine r_iload_n 3 C dX6_pass_51 rfl ?_
            refine r_aload_n 0 C dX6_pass_52 rfl ?_
            refine gfX6_32 (v := (wI w5 41 0)) C (kS sC h38 kc_41) (h36.I (by decide) (by decide) rfl) dX6_pass_53 ?_
            refine r_iast C (kS sC h38 kc_43) (vin (by omega) (by omega)) dX6_pass_56 (fun w52 e53 => ?_)
            have h54 := Ch.putS h38 e53 (by decide)
            have o55 := Inv.put0 o37 e53 (by decide)
            refine r_aload_n 0 C dX6_pass_57 rfl ?_
            refine gfX6_15 43 C (kS sC h54 kc_41) (xS sC h54 xc_41_3) dX6_pass_58 ?_
            refine r_iload_n 3 C dX6_pass_61 rfl ?_
            refine r_iald C (kS sC h54 kc_43) (vin (by omega) (by omega)) dX6_pass_62 ?_
            generalize (wI w52 43 (u2).toNatClampNeg) = v56
            refine r_iconst (v := (-1)) C dX6_pass_63 (by decide) ?_
            refine r_icmp_eq 72 C dX6_pass_64 (by decide) (fun c57 => ?_) (fun c57 => ?_)
            · have c57' := i_eq c57
              obtain ⟨i58, e59⟩ : ∃ z : Int32, u2 + Int32.ofInt 1 = z := ⟨_, rfl⟩
              have i58' := iinc_ok e59 (by decide) (by omega) (by omega)
              refine r_iinc [(3, .int i58), (0, .ref (gz (xG x) + 41)), (1, .int a1), (2, .int a2)] 3 C dX6_pass_72 rfl e59 (by decide) rfl ?_
              refine r_goto 22 C dX6_pass_75 (by decide) ?_
              refine r_lv [1, 2, 3, 0] rfl ?_
              exact ih11 i58 w52 h54 o55 (by omega) (by omega) (by omega)
            · have c57' := i_ne c57
              refine r_aload_n 0 C dX6_pass_67 rfl ?_
              refine r_iload_n 3 C dX6_pass_68 rfl ?_
              refine callVV C cwX6_59_V (ctX6_lead_41 _ _ w52 (sS sC h54) o55 u2 (by omega)) (by decide) (kS sC h54 kc_41) rfl rfl rfl (Nat.le_of_ble_eq_true rfl) (by decide) dX6_pass_69 (fun w61 y60 => ?_)
              show V x 0 0 w61 72 [(0, .ref (gz (xG x) + 41)), (1, .int a1), (2, .int a2), (3, .int u2)] []
              obtain ⟨h63, o64⟩ := y60
              have h65 := Ch.tr h54 h63 (by decide) (by decide)
              obtain ⟨i66, e67⟩ : ∃ z : Int32, u2 + Int32.ofInt 1 = z := ⟨_, rfl⟩
              have i66' := iinc_ok e67 (by decide) (by omega) (by omega)
              refine r_iinc [(3, .int i66), (0, .ref (gz (xG x) + 41)), (1, .int a1), (2, .int a2)] 3 C dX6_pass_72 rfl e67 (by decide) rfl ?_
              refine r_goto 22 C dX6_pass_75 (by decide) ?_
              refine r_lv [1, 2, 3, 0] rfl ?_
              exact ih11 i66 w61 h65 o64 (by omega) (by omega) (by omega)
  refine r_iload_n 1 C dX6_pass_0 rfl ?_
  refine r_if_eq 20 C dX6_pass_1 (by decide) (fun c1 => ?_) (fun c1 => ?_)
  · have c1' := i_eq c1
    refine r_iconst (v := 0) C dX6_pass_20 (by decide) ?_
    refine r_istore_n [(3, .int 0), (0, .ref (gz (xG x) + 41)), (1, .int a1), (2, .int a2)] C dX6_pass_21 (by decide) rfl ?_
    refine r_lv [1, 2, 3, 0] rfl ?_
    exact LP3 4294967296 0 w h0 o0 (by omega) (by omega) (by omega)
  · have c1' := i_ne c1
    refine r_aload_n 0 C dX6_pass_4 rfl ?_
    refine r_aload_n 0 C dX6_pass_5 rfl ?_
    refine gfX6_22 28 C (kS sC h0 kc_41) (xS sC h0 xc_41_5) dX6_pass_6 ?_
    refine r_aload_n 0 C dX6_pass_9 rfl ?_
    refine gfX6_32 (v := (wI w 41 0)) C (kS sC h0 kc_41) rfl dX6_pass_10 ?_
    refine r_iload_n 1 C dX6_pass_13 rfl ?_
    refine callVI C cwX6_47_V (ctX1_beside_28 _ _ w (sS sC h0) o0 (wI w 41 0) a1 ) (by decide) (kS sC h0 kc_28) rfl rfl rfl (Nat.le_of_ble_eq_true rfl) (by decide) dX6_pass_14 (fun r70 w69 y68 => ?_)
    show V x 0 0 w69 17 [(0, .ref (gz (xG x) + 41)), (1, .int a1), (2, .int a2)] [.int r70, .ref (gz (xG x) + 41)]
    obtain ⟨h71, o72⟩ := y68
    have h73 := Ch.tr h0 h71 (by decide) (by decide)
    refine pfX6_32 C (kS sC h73 kc_41) dX6_pass_17 (fun w74 e75 => ?_)
    have h76 := Ch.putF h73 e75 (by decide)
    have o77 := Inv.putk o72 e75 (by decide)
    refine r_iconst (v := 0) C dX6_pass_20 (by decide) ?_
    refine r_istore_n [(3, .int 0), (0, .ref (gz (xG x) + 41)), (1, .int a1), (2, .int a2)] C dX6_pass_21 (by decide) rfl ?_
    refine r_lv [1, 2, 3, 0] rfl ?_
    exact LP3 4294967296 0 w74 h76 o77 (by omega) (by omega) (by omega)
