set_option maxHeartbeats 4000000 in
set_option maxRecDepth 100000 in
theorem ctX6_hears_65 (l : Launch) (G : Gt) (w : Wv) (sC : Str KC XC w) (o0 : Inv RC w) (a1 : Int32) (a2 : Int32) : CtI l G yX6_hears cX6_hears 4 .boolean ({ frames := 2, cells := 0, slots := 0, locals := 50 } : Room) [.ref (gz G + 65), .int a1, .int a2] w (fun r w' => Ch [25, 26, 27] [] w w' ∧ Inv RC w' ∧ ((0 ≤ r.toInt ∧ r.toInt ≤ 1))) := by
  refine enterI (by decide) (Nat.le_of_ble_eq_true rfl) ?_
  intro x el eG C hret
  subst el; subst eG
  show V x 0 0 w 0 [(0, .ref (gz (xG x) + 65)), (1, .int a1), (2, .int a2)] []
  have h0 : Ch [25, 26, 27] [] w w := Ch.rf
  have qm1 : ((-1) : Int32).toInt = (-1) := by decide
  have q0 : (0 : Int32).toInt = 0 := by decide
  have q1 : (1 : Int32).toInt = 1 := by decide
  refine r_aload_n 0 C dX6_hears_0 rfl ?_
  refine gfX6_18 3 C (kS sC h0 kc_65) (xS sC h0 xc_65_4) dX6_hears_1 ?_
  refine r_iload_n 1 C dX6_hears_4 rfl ?_
  refine r_iload_n 2 C dX6_hears_5 rfl ?_
  refine callVI C cwX6_63_V (ctX9_isFollower_3 _ _ w (sS sC h0) o0 a1 a2 ) (by decide) (kS sC h0 kc_3) rfl rfl rfl (Nat.le_of_ble_eq_true rfl) (by decide) dX6_hears_6 (fun r3 w2 y1 => ?_)
  show V x 0 0 w2 9 [(0, .ref (gz (xG x) + 65)), (1, .int a1), (2, .int a2)] [.int r3]
  obtain ⟨h4, o5, g6⟩ := y1
  have h7 := Ch.tr h0 h4 (by decide) (by decide)
  refine r_if_eq 20 C dX6_hears_9 (by decide) (fun c8 => ?_) (fun c8 => ?_)
  · have c8' := i_eq c8
    refine r_iconst (v := 0) C dX6_hears_20 (by decide) ?_
    exact hret _ _ _ _ dX6_hears_21 (nar_z (z_of (by omega))) ⟨h7, o5, by omega⟩
  · have c8' := i_ne c8
    refine r_aload_n 0 C dX6_hears_12 rfl ?_
    refine r_iload_n 1 C dX6_hears_13 rfl ?_
    refine callVI C cwX6_66_V (ctX6_isHere_65 _ _ w2 (sS sC h7) o5 a1 ) (by decide) (kS sC h7 kc_65) rfl rfl rfl (Nat.le_of_ble_eq_true rfl) (by decide) dX6_hears_14 (fun r11 w10 y9 => ?_)
    show V x 0 0 w10 17 [(0, .ref (gz (xG x) + 65)), (1, .int a1), (2, .int a2)] [.int r11]
    obtain ⟨h12, o13, g14⟩ := y9
    have h15 := Ch.tr h7 h12 (by decide) (by decide)
    refine r_if_ne 22 C dX6_hears_17 (by decide) (fun c16 => ?_) (fun c16 => ?_)
    · have c16' := i_ne c16
      refine r_aload_n 0 C dX6_hears_22 rfl ?_
      refine gfX6_22 21 C (kS sC h15 kc_65) (xS sC h15 xc_65_5) dX6_hears_23 ?_
      refine r_aload_n 0 C dX6_hears_26 rfl ?_
      refine gfX6_9 66 C (kS sC h15 kc_65) (xS sC h15 xc_65_2) dX6_hears_27 ?_
      refine r_iload_n 1 C dX6_hears_30 rfl ?_
      refine r_iald C (kS sC h15 kc_66) (vin (by omega) (by omega)) dX6_hears_31 ?_
      generalize (wI w10 66 (a1).toNatClampNeg) = v17
      refine r_aload_n 0 C dX6_hears_32 rfl ?_
      refine gfX6_32 (v := (wI w 65 0)) C (kS sC h15 kc_65) (h12.I (by decide) (by decide) (h4.I (by decide) (by decide) rfl)) dX6_hears_33 ?_
      refine callVI C cwX6_70_V (ctX1_steps_21 _ _ w10 (sS sC h15) o13 v17 (wI w 65 0) ) (by decide) (kS sC h15 kc_21) rfl rfl rfl (Nat.le_of_ble_eq_true rfl) (by decide) dX6_hears_36 (fun r20 w19 y18 => ?_)
      show V x 0 0 w19 39 [(0, .ref (gz (xG x) + 65)), (1, .int a1), (2, .int a2)] [.int r20]
      obtain ⟨h21, o22⟩ := y18
      have h23 := Ch.tr h15 h21 (by decide) (by decide)
      refine r_istore_n [(3, .int r20), (0, .ref (gz (xG x) + 65)), (1, .int a1), (2, .int a2)] C dX6_hears_39 (by decide) rfl ?_
      refine r_iload_n 0 C dX6_hears_40 rfl ?_
      refine r_iconst (v := (-1)) C dX6_hears_41 (by decide) ?_
      refine r_icmp_eq 62 C dX6_hears_42 (by decide) (fun c24 => ?_) (fun c24 => ?_)
      · have c24' := i_eq c24
        refine r_iconst (v := 0) C dX6_hears_62 (by decide) ?_
        exact hret _ _ _ _ dX6_hears_63 (nar_z (z_of (by omega))) ⟨h23, o22, by omega⟩
      · have c24' := i_ne c24
        refine r_iload_n 0 C dX6_hears_45 rfl ?_
        refine r_aload_n 1 C dX6_hears_46 rfl ?_
        refine gfX6_18 3 C (kS sC h23 kc_65) (xS sC h23 xc_65_4) dX6_hears_47 ?_
        refine gfX6_73 11 C (kS sC h23 kc_3) (xS sC h23 xc_3_16) dX6_hears_50 ?_
        refine r_iload_n 3 C dX6_hears_53 rfl ?_
        refine r_iald C (kS sC h23 kc_11) (vin (by omega) (by omega)) dX6_hears_54 ?_
        generalize (wI w19 11 (a2).toNatClampNeg) = v25
        have k27 := i_rng r20
        have k28 := i_rng v25
        refine r_icmp_gt 62 C dX6_hears_55 (by decide) (fun c26 => ?_) (fun c26 => ?_)
        · have c26' := i_lt c26
          refine r_iconst (v := 0) C dX6_hears_62 (by decide) ?_
          exact hret _ _ _ _ dX6_hears_63 (nar_z (z_of (by omega))) ⟨h23, o22, by omega⟩
        · have c26' := i_nlt c26
          refine r_iconst (v := 1) C dX6_hears_58 (by decide) ?_
          refine r_goto 63 C dX6_hears_59 (by decide) ?_
          exact hret _ _ _ _ dX6_hears_63 (nar_z (z_of (by omega))) ⟨h23, o22, by omega⟩
    · have c16' := i_eq c16
      refine r_iconst (v := 0) C dX6_hears_20 (by decide) ?_
      exact hret _ _ _ _ dX6_hears_21 (nar_z (z_of (by omega))) ⟨h15, o13, by omega⟩
set_option maxHeartbeats 4000000 in
set_option maxRecDepth 100000 in
theorem ctX6_lead_65 (l : Launch) (G : Gt) (w : Wv) (sC : Str KC XC w) (o0 : Inv RC w) (a1 : Int32) (b1 : 0 ≤ a1.toInt ∧ a1.toInt ≤ 5) : CtV l G yX6_lead cX6_lead 4 ({ frames := 2, cells := 0, slots := 0, locals := 54 } : Room) [.ref (gz G + 65), .int a1] w (fun w' => Ch [25, 26, 27, 66, 67] [] w w' ∧ Inv RC w') := by
  refine enterV (by decide) (Nat.le_of_ble_eq_true rfl) ?_
  intro x el eG C hnm hret
  subst el; subst eG
  show V x 0 0 w 0 [(0, .ref (gz (xG x) + 65)), (1, .int a1)] []
  have h0 : Ch [25, 26, 27, 66, 67] [] w w := Ch.rf
  have qm1 : ((-1) : Int32).toInt = (-1) := by decide
  have q0 : (0 : Int32).toInt = 0 := by decide
  have LP2 : ∀ (f3 : Nat) (u1 : Int32) (w4 : Wv), Ch [25, 26, 27, 66, 67] [] w w4 → Inv RC w4 → (0 ≤ u1.toInt ∧ u1.toInt ≤ 2147483647) → 2147483647 - u1.toInt < f3 → V x 0 0 w4 2 [(0, .ref (gz (xG x) + 65)), (1, .int a1), (2, .int u1)] [] := by
    intro f3
    induction f3 with
    | zero => intro u1 w4 h5 o6 z7 z8; exfalso; omega
    | succ f3 ih9 =>
      intro u1 w4 h5 o6 z7 z8
      refine r_iload_n 2 C dX6_lead_2 rfl ?_
      refine r_aload_n 0 C dX6_lead_3 rfl ?_
      refine gfX6_18 3 C (kS sC h5 kc_65) (xS sC h5 xc_65_4) dX6_lead_4 ?_
      refine gfX6_76 8 C (kS sC h5 kc_3) (xS sC h5 xc_3_13) dX6_lead_7 ?_
      refine r_iload_n 1 C dX6_lead_10 rfl ?_
      refine r_iald C (kS sC h5 kc_8) (vin (by omega) (by omega)) dX6_lead_11 ?_
      generalize (wI w4 8 (a1).toNatClampNeg) = v10
      have k12 := i_rng u1
      have k13 := i_rng v10
      refine r_icmp_ge 102 C dX6_lead_12 (by decide) (fun c11 => ?_) (fun c11 => ?_)
      · have c11' := i_le c11
        exact hret _ _ _ dX6_lead_102 ⟨h5, o6⟩
      · have c11' := i_nle c11
        refine r_aload_n 0 C dX6_lead_15 rfl ?_
        refine gfX6_15 67 C (kS sC h5 kc_65) (xS sC h5 xc_65_3) dX6_lead_16 ?_
        refine r_iload_n 1 C dX6_lead_19 rfl ?_
        refine r_iald C (kS sC h5 kc_67) (vin (by omega) (by omega)) dX6_lead_20 ?_
        generalize (wI w4 67 (a1).toNatClampNeg) = v14
        refine r_iconst (v := (-1)) C dX6_lead_21 (by decide) ?_
        refine r_icmp_eq 102 C dX6_lead_22 (by decide) (fun c15 => ?_) (fun c15 => ?_)
        · have c15' := i_eq c15
          exact hret _ _ _ dX6_lead_102 ⟨h5, o6⟩
        · have c15' := i_ne c15
          refine r_aload_n 0 C dX6_lead_25 rfl ?_
          refine gfX6_22 21 C (kS sC h5 kc_65) (xS sC h5 xc_65_5) dX6_lead_26 ?_
          refine r_aload_n 0 C dX6_lead_29 rfl ?_
          refine gfX6_9 66 C (kS sC h5 kc_65) (xS sC h5 xc_65_2) dX6_lead_30 ?_
          refine r_iload_n 1 C dX6_lead_33 rfl ?_
          refine r_iald C (kS sC h5 kc_66) (vin (by omega) (by omega)) dX6_lead_34 ?_
          generalize (wI w4 66 (a1).toNatClampNeg) = v16
          refine r_aload_n 0 C dX6_lead_35 rfl ?_
          refine gfX6_15 67 C (kS sC h5 kc_65) (xS sC h5 xc_65_3) dX6_lead_36 ?_
          refine r_iload_n 1 C dX6_lead_39 rfl ?_
          refine r_iald C (kS sC h5 kc_67) (vin (by omega) (by omega)) dX6_lead_40 ?_
          generalize (wI w4 67 (a1).toNatClampNeg) = v17
          refine callVI C cwX6_79_V (ctX1_onward_21 _ _ w4 (sS sC h5) o6 v16 v17 ) (by decide) (kS sC h5 kc_21) rfl rfl rfl (Nat.le_of_ble_eq_true rfl) (by decide) dX6_lead_41 (fun r20 w19 y18 => ?_)
          show V x 0 0 w19 44 [(0, .ref (gz (xG x) + 65)), (1, .int a1), (2, .int u1)] [.int r20]
          obtain ⟨h21, o22⟩ := y18
          have h23 := Ch.tr h5 h21 (by decide) (by decide)
          refine r_istore_n [(3, .int r20), (0, .ref (gz (xG x) + 65)), (1, .int a1), (2, .int u1)] C dX6_lead_44 (by decide) rfl ?_
          refine r_aload_n 1 C dX6_lead_45 rfl ?_
          refine gfX6_9 66 C (kS sC h23 kc_65) (xS sC h23 xc_65_2) dX6_lead_46 ?_
          refine r_iload_n 2 C dX6_lead_49 rfl ?_
          refine r_iload_n 0 C dX6_lead_50 rfl ?_
          refine r_iconst (v := (-1)) C dX6_lead_51 (by decide) ?_
          refine r_icmp_ne 64 C dX6_lead_52 (by decide) (fun c24 => ?_) (fun c24 => ?_)
          · have c24' := i_ne c24
            refine r_iload_n 0 C dX6_lead_64 rfl ?_
            refine r_iast C (kS sC h23 kc_66) (vin (by omega) (by omega)) dX6_lead_65 (fun w25 e26 => ?_)
            have h27 := Ch.putS h23 e26 (by decide)
            have o28 := Inv.put0 o22 e26 (by decide)
            refine r_aload_n 1 C dX6_lead_66 rfl ?_
            refine gfX6_9 66 C (kS sC h27 kc_65) (xS sC h27 xc_65_2) dX6_lead_67 ?_
            refine r_iload_n 2 C dX6_lead_70 rfl ?_
            refine r_iald C (kS sC h27 kc_66) (vin (by omega) (by omega)) dX6_lead_71 ?_
            generalize (wI w25 66 (a1).toNatClampNeg) = v29
            refine r_aload_n 1 C dX6_lead_72 rfl ?_
            refine gfX6_15 67 C (kS sC h27 kc_65) (xS sC h27 xc_65_3) dX6_lead_73 ?_
            refine r_iload_n 2 C dX6_lead_76 rfl ?_
            refine r_iald C (kS sC h27 kc_67) (vin (by omega) (by omega)) dX6_lead_77 ?_
            generalize (wI w25 67 (a1).toNatClampNeg) = v30
            refine r_icmp_eq 89 C dX6_lead_78 (by decide) (fun c31 => ?_) (fun c31 => ?_)
            · have c31' := i_eq c31
              refine r_aload_n 1 C dX6_lead_89 rfl ?_
              refine gfX6_15 67 C (kS sC h27 kc_65) (xS sC h27 xc_65_3) dX6_lead_90 ?_
              refine r_iload_n 2 C dX6_lead_93 rfl ?_
              refine r_iconst (v := (-1)) C dX6_lead_94 (by decide) ?_
              refine r_iast C (kS sC h27 kc_67) (vin (by omega) (by omega)) dX6_lead_95 (fun w32 e33 => ?_)
              have h34 := Ch.putS h27 e33 (by decide)
              have o35 := Inv.put0 o28 e33 (by decide)
              obtain ⟨i36, e37⟩ : ∃ z : Int32, u1 + Int32.ofInt 1 = z := ⟨_, rfl⟩
              have i36' := iinc_ok e37 (by decide) (by omega) (by omega)
              refine r_iinc [(2, .int i36), (3, .int r20), (0, .ref (gz (xG x) + 65)), (1, .int a1)] 3 C dX6_lead_96 rfl e37 (by decide) rfl ?_
              refine r_goto 2 C dX6_lead_99 (by decide) ?_
              refine r_lv [2, 3, 0] rfl ?_
              exact ih9 i36 w32 h34 o35 (by omega) (by omega)
            · have c31' := i_ne c31
              refine r_aload_n 1 C dX6_lead_81 rfl ?_
              refine r_iload_n 2 C dX6_lead_82 rfl ?_
              refine callVI C cwX6_82_V (ctX6_fate_65 _ _ w25 (sS sC h27) o28 a1 ) (by decide) (kS sC h27 kc_65) rfl rfl rfl (Nat.le_of_ble_eq_true rfl) (by decide) dX6_lead_83 (fun r40 w39 y38 => ?_)
              show V x 0 0 w39 86 [(3, .int r20), (0, .ref (gz (xG x) + 65)), (1, .int a1), (2, .int u1)] [.int r40]
              obtain ⟨h41, o42⟩ := y38
              have h43 := Ch.tr h27 h41 (by decide) (by decide)
              refine r_if_eq 96 C dX6_lead_86 (by decide) (fun c44 => ?_) (fun c44 => ?_)
              · have c44' := i_eq c44
                obtain ⟨i45, e46⟩ : ∃ z : Int32, u1 + Int32.ofInt 1 = z := ⟨_, rfl⟩
                have i45' := iinc_ok e46 (by decide) (by omega) (by omega)
                refine r_iinc [(2, .int i45), (3, .int r20), (0, .ref (gz (xG x) + 65)), (1, .int a1)] 3 C dX6_lead_96 rfl e46 (by decide) rfl ?_
                refine r_goto 2 C dX6_lead_99 (by decide) ?_
                refine r_lv [2, 3, 0] rfl ?_
                exact ih9 i45 w39 h43 o42 (by omega) (by omega)
              · have c44' := i_ne c44
                refine r_aload_n 1 C dX6_lead_89 rfl ?_
                refine gfX6_15 67 C (kS sC h43 kc_65) (xS sC h43 xc_65_3) dX6_lead_90 ?_
                refine r_iload_n 2 C dX6_lead_93 rfl ?_
                refine r_iconst (v := (-1)) C dX6_lead_94 (by decide) ?_
                refine r_iast C (kS sC h43 kc_67) (vin (by omega) (by omega)) dX6_lead_95 (fun w47 e48 => ?_)
                have h49 := Ch.putS h43 e48 (by decide)
                have o50 := Inv.put0 o42 e48 (by decide)
                obtain ⟨i51, e52⟩ : ∃ z : Int32, u1 + Int32.ofInt 1 = z := ⟨_, rfl⟩
                have i51' := iinc_ok e52 (by decide) (by omega) (by omega)
                refine r_iinc [(2, .int i51), (3, .int r20), (0, .ref (gz (xG x) + 65)), (1, .int a1)] 3 C dX6_lead_96 rfl e52 (by decide) rfl ?_
                refine r_goto 2 C dX6_lead_99 (by decide) ?_
                refine r_lv [2, 3, 0] rfl ?_
                exact ih9 i51 w47 h49 o50 (by omega) (by omega)
          · have c24' := i_eq c24
            refine r_aload_n 1 C dX6_lead_55 rfl ?_
            refine gfX6_9 66 C (kS sC h23 kc_65) (xS sC h23 xc_65_2) dX6_lead_56 ?_
            refine r_iload_n 2 C dX6_lead_59 rfl ?_
            refine r_iald C (kS sC h23 kc_66) (vin (by omega) (by omega)) dX6_lead_60 ?_
            generalize (wI w19 66 (a1).toNatClampNeg) = v53
            refine r_goto 65 C dX6_lead_61 (by decide) ?_
            refine r_iast C (kS sC h23 kc_66) (vin (by omega) (by omega)) dX6_lead_65 (fun w54 e55 => ?_)
            have h56 := Ch.putS h23 e55 (by decide)
            have o57 := Inv.put0 o22 e55 (by decide)
            refine r_aload_n 1 C dX6_lead_66 rfl ?_
            refine gfX6_9 66 C (kS sC h56 kc_65) (xS sC h56 xc_65_2) dX6_lead_67 ?_
            refine r_iload_n 2 C dX6_lead_70 rfl ?_
            refine r_iald C (kS sC h56 kc_66) (vin (by omega) (by omega)) dX6_lead_71 ?_
            generalize (wI w54 66 (a1).toNatClampNeg) = v58
            refine r_aload_n 1 C dX6_lead_72 rfl ?_
            refine gfX6_15 67 C (kS sC h56 kc_65) (xS sC h56 xc_65_3) dX6_lead_73 ?_
            refine r_iload_n 2 C dX6_lead_76 rfl ?_
            refine r_iald C (kS sC h56 kc_67) (vin (by omega) (by omega)) dX6_lead_77 ?_
            generalize (wI w54 67 (a1).toNatClampNeg) = v59
            refine r_icmp_eq 89 C dX6_lead_78 (by decide) (fun c60 => ?_) (fun c60 => ?_)
            · have c60' := i_eq c60
              refine r_aload_n 1 C dX6_lead_89 rfl ?_
              refine gfX6_15 67 C (kS sC h56 kc_65) (xS sC h56 xc_65_3) dX6_lead_90 ?_
              refine r_iload_n 2 C dX6_lead_93 rfl ?_
              refine r_iconst (v := (-1)) C dX6_lead_94 (by decide) ?_
              refine r_iast C (kS sC h56 kc_67) (vin (by omega) (by omega)) dX6_lead_95 (fun w61 e62 => ?_)
              have h63 := Ch.putS h56 e62 (by decide)
              have o64 := Inv.put0 o57 e62 (by decide)
              obtain ⟨i65, e66⟩ : ∃ z : Int32, u1 + Int32.ofInt 1 = z := ⟨_, rfl⟩
              have i65' := iinc_ok e66 (by decide) (by omega) (by omega)
              refine r_iinc [(2, .int i65), (3, .int r20), (0, .ref (gz (xG x) + 65)), (1, .int a1)] 3 C dX6_lead_96 rfl e66 (by decide) rfl ?_
              refine r_goto 2 C dX6_lead_99 (by decide) ?_
              refine r_lv [2, 3, 0] rfl ?_
              exact ih9 i65 w61 h63 o64 (by omega) (by omega)
            · have c60' := i_ne c60
              refine r_aload_n 1 C dX6_lead_81 rfl ?_
              refine r_iload_n 2 C dX6_lead_82 rfl ?_
              refine callVI C cwX6_82_V (ctX6_fate_65 _ _ w54 (sS sC h56) o57 a1 ) (by decide) (kS sC h56 kc_65) rfl rfl rfl (Nat.le_of_ble_eq_true rfl) (by decide) dX6_lead_83 (fun r69 w68 y67 => ?_)
              show V x 0 0 w68 86 [(3, .int r20), (0, .ref (gz (xG x) + 65)), (1, .int a1), (2, .int u1)] [.int r69]
              obtain ⟨h70, o71⟩ := y67
              have h72 := Ch.tr h56 h70 (by decide) (by decide)
              refine r_if_eq 96 C dX6_lead_86 (by decide) (fun c73 => ?_) (fun c73 => ?_)
              · have c73' := i_eq c73
                obtain ⟨i74, e75⟩ : ∃ z : Int32, u1 + Int32.ofInt 1 = z := ⟨_, rfl⟩
                have i74' := iinc_ok e75 (by decide) (by omega) (by omega)
                refine r_iinc [(2, .int i74), (3, .int r20), (0, .ref (gz (xG x) + 65)), (1, .int a1)] 3 C dX6_lead_96 rfl e75 (by decide) rfl ?_
                refine r_goto 2 C dX6_lead_99 (by decide) ?_
                refine r_lv [2, 3, 0] rfl ?_
                exact ih9 i74 w68 h72 o71 (by omega) (by omega)
              · have c73' := i_ne c73
                refine r_aload_n 1 C dX6_lead_89 rfl ?_
                refine gfX6_15 67 C (kS sC h72 kc_65) (xS sC h72 xc_65_3) dX6_lead_90 ?_
                refine r_iload_n 2 C dX6_lead_93 rfl ?_
                refine r_iconst (v := (-1)) C dX6_lead_94 (by decide) ?_
                refine r_iast C (kS sC h72 kc_67) (vin (by omega) (by omega)) dX6_lead_95 (fun w76 e77 => ?_)
                have h78 := Ch.putS h72 e77 (by decide)
                have o79 := Inv.put0 o71 e77 (by decide)
                obtain ⟨i80, e81⟩ : ∃ z : Int32, u1 + Int32.ofInt 1 = z := ⟨_, rfl⟩
                have i80' := iinc_ok e81 (by decide) (by omega) (by omega)
                refine r_iinc [(2, .int i80), (3, .int r20), (0, .ref (gz (xG x) + 65)), (1, .int a1)] 3 C dX6_lead_96 rfl e81 (by decide) rfl ?_
                refine r_goto 2 C dX6_lead_99 (by decide) ?_
                refine r_lv [2, 3, 0] rfl ?_
                exact ih9 i80 w76 h78 o79 (by omega) (by omega)
  refine r_iconst (v := 0) C dX6_lead_0 (by decide) ?_
  refine r_istore_n [(2, .int 0), (0, .ref (gz (xG x) + 65)), (1, .int a1)] C dX6_lead_1 (by decide) rfl ?_
  refine r_lv [1, 2, 0] rfl ?_
  exact LP2 4294967296 0 w h0 o0 (by omega) (by omega)
set_option maxHeartbeats 4000000 in
set_option maxRecDepth 100000 in
theorem ctX6_hears_68 (l : Launch) (G : Gt) (w : Wv) (sC : Str KC XC w) (o0 : Inv RC w) (a1 : Int32) (a2 : Int32) : CtI l G yX6_hears cX6_hears 4 .boolean ({ frames := 2, cells := 0, slots := 0, locals := 50 } : Room) [.ref (gz G + 68), .int a1, .int a2] w (fun r w' => Ch [25, 26, 27] [] w w' ∧ Inv RC w' ∧ ((0 ≤ r.toInt ∧ r.toInt ≤ 1))) := by
  refine enterI (by decide) (Nat.le_of_ble_eq_true rfl) ?_
  intro x el eG C hret
  subst el; subst eG
  show V x 0 0 w 0 [(0, .ref (gz (xG x) + 68)), (1, .int a1), (2, .int a2)] []
  have h0 : Ch [25, 26, 27] [] w w := Ch.rf
  have qm1 : ((-1) : Int32).toInt = (-1) := by decide
  have q0 : (0 : Int32).toInt = 0 := by decide
  have q1 : (1 : Int32).toInt = 1 := by decide
  refine r_aload_n 0 C dX6_hears_0 rfl ?_
  refine gfX6_18 3 C (kS sC h0 kc_68) (xS sC h0 xc_68_4) dX6_hears_1 ?_
  refine r_iload_n 1 C dX6_hears_4 rfl ?_
  refine r_iload_n 2 C dX6_hears_5 rfl ?_
  refine callVI C cwX6_63_V (ctX9_isFollower_3 _ _ w (sS sC h0) o0 a1 a2 ) (by decide) (kS sC h0 kc_3) rfl rfl rfl (Nat.le_of_ble_eq_true rfl) (by decide) dX6_hears_6 (fun r3 w2 y1 => ?_)
  show V x 0 0 w2 9 [(0, .ref (gz (xG x) + 68)), (1, .int a1), (2, .int a2)] [.int r3]
  obtain ⟨h4, o5, g6⟩ := y1
  have h7 := Ch.tr h0 h4 (by decide) (by decide)
  refine r_if_eq 20 C dX6_hears_9 (by decide) (fun c8 => ?_) (fun c8 => ?_)
  · have c8' := i_eq c8
    refine r_iconst (v := 0) C dX6_hears_20 (by decide) ?_
    exact hret _ _ _ _ dX6_hears_21 (nar_z (z_of (by omega))) ⟨h7, o5, by omega⟩
  · have c8' := i_ne c8
    refine r_aload_n 0 C dX6_hears_12 rfl ?_
    refine r_iload_n 1 C dX6_hears_13 rfl ?_
    refine callVI C cwX6_66_V (ctX6_isHere_68 _ _ w2 (sS sC h7) o5 a1 ) (by decide) (kS sC h7 kc_68) rfl rfl rfl (Nat.le_of_ble_eq_true rfl) (by decide) dX6_hears_14 (fun r11 w10 y9 => ?_)
    show V x 0 0 w10 17 [(0, .ref (gz (xG x) + 68)), (1, .int a1), (2, .int a2)] [.int r11]
    obtain ⟨h12, o13, g14⟩ := y9
    have h15 := Ch.tr h7 h12 (by decide) (by decide)
    refine r_if_ne 22 C dX6_hears_17 (by decide) (fun c16 => ?_) (fun c16 => ?_)
    · have c16' := i_ne c16
      refine r_aload_n 0 C dX6_hears_22 rfl ?_
      refine gfX6_22 21 C (kS sC h15 kc_68) (xS sC h15 xc_68_5) dX6_hears_23 ?_
      refine r_aload_n 0 C dX6_hears_26 rfl ?_
      refine gfX6_9 69 C (kS sC h15 kc_68) (xS sC h15 xc_68_2) dX6_hears_27 ?_
      refine r_iload_n 1 C dX6_hears_30 rfl ?_
      refine r_iald C (kS sC h15 kc_69) (vin (by omega) (by omega)) dX6_hears_31 ?_
      generalize (wI w10 69 (a1).toNatClampNeg) = v17
      refine r_aload_n 0 C dX6_hears_32 rfl ?_
      refine gfX6_32 (v := (wI w 68 0)) C (kS sC h15 kc_68) (h12.I (by decide) (by decide) (h4.I (by decide) (by decide) rfl)) dX6_hears_33 ?_
      refine callVI C cwX6_70_V (ctX1_steps_21 _ _ w10 (sS sC h15) o13 v17 (wI w 68 0) ) (by decide) (kS sC h15 kc_21) rfl rfl rfl (Nat.le_of_ble_eq_true rfl) (by decide) dX6_hears_36 (fun r20 w19 y18 => ?_)
      show V x 0 0 w19 39 [(0, .ref (gz (xG x) + 68)), (1, .int a1), (2, .int a2)] [.int r20]
      obtain ⟨h21, o22⟩ := y18
      have h23 := Ch.tr h15 h21 (by decide) (by decide)
      refine r_istore_n [(3, .int r20), (0, .ref (gz (xG x) + 68)), (1, .int a1), (2, .int a2)] C dX6_hears_39 (by decide) rfl ?_
      refine r_iload_n 0 C dX6_hears_40 rfl ?_
      refine r_iconst (v := (-1)) C dX6_hears_41 (by decide) ?_
      refine r_icmp_eq 62 C dX6_hears_42 (by decide) (fun c24 => ?_) (fun c24 => ?_)
      · have c24' := i_eq c24
        refine r_iconst (v := 0) C dX6_hears_62 (by decide) ?_
        exact hret _ _ _ _ dX6_hears_63 (nar_z (z_of (by omega))) ⟨h23, o22, by omega⟩
      · have c24' := i_ne c24
        refine r_iload_n 0 C dX6_hears_45 rfl ?_
        refine r_aload_n 1 C dX6_hears_46 rfl ?_
        refine gfX6_18 3 C (kS sC h23 kc_68) (xS sC h23 xc_68_4) dX6_hears_47 ?_
        refine gfX6_73 11 C (kS sC h23 kc_3) (xS sC h23 xc_3_16) dX6_hears_50 ?_
        refine r_iload_n 3 C dX6_hears_53 rfl ?_
        refine r_iald C (kS sC h23 kc_11) (vin (by omega) (by omega)) dX6_hears_54 ?_
        generalize (wI w19 11 (a2).toNatClampNeg) = v25
        have k27 := i_rng r20
        have k28 := i_rng v25
        refine r_icmp_gt 62 C dX6_hears_55 (by decide) (fun c26 => ?_) (fun c26 => ?_)
        · have c26' := i_lt c26
          refine r_iconst (v := 0) C dX6_hears_62 (by decide) ?_
          exact hret _ _ _ _ dX6_hears_63 (nar_z (z_of (by omega))) ⟨h23, o22, by omega⟩
        · have c26' := i_nlt c26
          refine r_iconst (v := 1) C dX6_hears_58 (by decide) ?_
          refine r_goto 63 C dX6_hears_59 (by decide) ?_
          exact hret _ _ _ _ dX6_hears_63 (nar_z (z_of (by omega))) ⟨h23, o22, by omega⟩
    · have c16' := i_eq c16
      refine r_iconst (v := 0) C dX6_hears_20 (by decide) ?_
      exact hret _ _ _ _ dX6_hears_21 (nar_z (z_of (by omega))) ⟨h15, o13, by omega⟩
set_option maxHeartbeats 4000000 in
set_option maxRecDepth 100000 in
theorem ctX6_lead_68 (l : Launch) (G : Gt) (w : Wv) (sC : Str KC XC w) (o0 : Inv RC w) (a1 : Int32) (b1 : 0 ≤ a1.toInt ∧ a1.toInt ≤ 5) : CtV l G yX6_lead cX6_lead 4 ({ frames := 2, cells := 0, slots := 0, locals := 54 } : Room) [.ref (gz G + 68), .int a1] w (fun w' => Ch [25, 26, 27, 69, 70] [] w w' ∧ Inv RC w') := by
  refine enterV (by decide) (Nat.le_of_ble_eq_true rfl) ?_
  intro x el eG C hnm hret
  subst el; subst eG
  show V x 0 0 w 0 [(0, .ref (gz (xG x) + 68)), (1, .int a1)] []
  have h0 : Ch [25, 26, 27, 69, 70] [] w w := Ch.rf
  have qm1 : ((-1) : Int32).toInt = (-1) := by decide
  have q0 : (0 : Int32).toInt = 0 := by decide
  have LP2 : ∀ (f3 : Nat) (u1 : Int32) (w4 : Wv), Ch [25, 26, 27, 69, 70] [] w w4 → Inv RC w4 → (0 ≤ u1.toInt ∧ u1.toInt ≤ 2147483647) → 2147483647 - u1.toInt < f3 → V x 0 0 w4 2 [(0, .ref (gz (xG x) + 68)), (1, .int a1), (2, .int u1)] [] := by
    intro f3
    induction f3 with
    | zero => intro u1 w4 h5 o6 z7 z8; exfalso; omega
    | succ f3 ih9 =>
      intro u1 w4 h5 o6 z7 z8
      refine r_iload_n 2 C dX6_lead_2 rfl ?_
      refine r_aload_n 0 C dX6_lead_3 rfl ?_
      refine gfX6_18 3 C (kS sC h5 kc_68) (xS sC h5 xc_68_4) dX6_lead_4 ?_
      refine gfX6_76 8 C (kS sC h5 kc_3) (xS sC h5 xc_3_13) dX6_lead_7 ?_
      refine r_iload_n 1 C dX6_lead_10 rfl ?_
      refine r_iald C (kS sC h5 kc_8) (vin (by omega) (by omega)) dX6_lead_11 ?_
      generalize (wI w4 8 (a1).toNatClampNeg) = v10
      have k12 := i_rng u1
      have k13 := i_rng v10
      refine r_icmp_ge 102 C dX6_lead_12 (by decide) (fun c11 => ?_) (fun c11 => ?_)
      · have c11' := i_le c11
        exact hret _ _ _ dX6_lead_102 ⟨h5, o6⟩
      · have c11' := i_nle c11
        refine r_aload_n 0 C dX6_lead_15 rfl ?_
        refine gfX6_15 70 C (kS sC h5 kc_68) (xS sC h5 xc_68_3) dX6_lead_16 ?_
        refine r_iload_n 1 C dX6_lead_19 rfl ?_
        refine r_iald C (kS sC h5 kc_70) (vin (by omega) (by omega)) dX6_lead_20 ?_
        generalize (wI w4 70 (a1).toNatClampNeg) = v14
        refine r_iconst (v := (-1)) C dX6_lead_21 (by decide) ?_
        refine r_icmp_eq 102 C dX6_lead_22 (by decide) (fun c15 => ?_) (fun c15 => ?_)
        · have c15' := i_eq c15
          exact hret _ _ _ dX6_lead_102 ⟨h5, o6⟩
        · have c15' := i_ne c15
          refine r_aload_n 0 C dX6_lead_25 rfl ?_
          refine gfX6_22 21 C (kS sC h5 kc_68) (xS sC h5 xc_68_5) dX6_lead_26 ?_
          refine r_aload_n 0 C dX6_lead_29 rfl ?_
          refine gfX6_9 69 C (kS sC h5 kc_68) (xS sC h5 xc_68_2) dX6_lead_30 ?_
          refine r_iload_n 1 C dX6_lead_33 rfl ?_
          refine r_iald C (kS sC h5 kc_69) (vin (by omega) (by omega)) dX6_lead_34 ?_
          generalize (wI w4 69 (a1).toNatClampNeg) = v16
          refine r_aload_n 0 C dX6_lead_35 rfl ?_
          refine gfX6_15 70 C (kS sC h5 kc_68) (xS sC h5 xc_68_3) dX6_lead_36 ?_
          refine r_iload_n 1 C dX6_lead_39 rfl ?_
          refine r_iald C (kS sC h5 kc_70) (vin (by omega) (by omega)) dX6_lead_40 ?_
          generalize (wI w4 70 (a1).toNatClampNeg) = v17
          refine callVI C cwX6_79_V (ctX1_onward_21 _ _ w4 (sS sC h5) o6 v16 v17 ) (by decide) (kS sC h5 kc_21) rfl rfl rfl (Nat.le_of_ble_eq_true rfl) (by decide) dX6_lead_41 (fun r20 w19 y18 => ?_)
          show V x 0 0 w19 44 [(0, .ref (gz (xG x) + 68)), (1, .int a1), (2, .int u1)] [.int r20]
          obtain ⟨h21, o22⟩ := y18
          have h23 := Ch.tr h5 h21 (by decide) (by decide)
          refine r_istore_n [(3, .int r20), (0, .ref (gz (xG x) + 68)), (1, .int a1), (2, .int u1)] C dX6_lead_44 (by decide) rfl ?_
          refine r_aload_n 1 C dX6_lead_45 rfl ?_
          refine gfX6_9 69 C (kS sC h23 kc_68) (xS sC h23 xc_68_2) dX6_lead_46 ?_
          refine r_iload_n 2 C dX6_lead_49 rfl ?_
          refine r_iload_n 0 C dX6_lead_50 rfl ?_
          refine r_iconst (v := (-1)) C dX6_lead_51 (by decide) ?_
          refine r_icmp_ne 64 C dX6_lead_52 (by decide) (fun c24 => ?_) (fun c24 => ?_)
          · have c24' := i_ne c24
            refine r_iload_n 0 C dX6_lead_64 rfl ?_
            refine r_iast C (kS sC h23 kc_69) (vin (by omega) (by omega)) dX6_lead_65 (fun w25 e26 => ?_)
            have h27 := Ch.putS h23 e26 (by decide)
            have o28 := Inv.put0 o22 e26 (by decide)
            refine r_aload_n 1 C dX6_lead_66 rfl ?_
            refine gfX6_9 69 C (kS sC h27 kc_68) (xS sC h27 xc_68_2) dX6_lead_67 ?_
            refine r_iload_n 2 C dX6_lead_70 rfl ?_
            refine r_iald C (kS sC h27 kc_69) (vin (by omega) (by omega)) dX6_lead_71 ?_
            generalize (wI w25 69 (a1).toNatClampNeg) = v29
            refine r_aload_n 1 C dX6_lead_72 rfl ?_
            refine gfX6_15 70 C (kS sC h27 kc_68) (xS sC h27 xc_68_3) dX6_lead_73 ?_
            refine r_iload_n 2 C dX6_lead_76 rfl ?_
            refine r_iald C (kS sC h27 kc_70) (vin (by omega) (by omega)) dX6_lead_77 ?_
            generalize (wI w25 70 (a1).toNatClampNeg) = v30
            refine r_icmp_eq 89 C dX6_lead_78 (by decide) (fun c31 => ?_) (fun c31 => ?_)
            · have c31' := i_eq c31
              refine r_aload_n 1 C dX6_lead_89 rfl ?_
              refine gfX6_15 70 C (kS sC h27 kc_68) (xS sC h27 xc_68_3) dX6_lead_90 ?_
              refine r_iload_n 2 C dX6_lead_93 rfl ?_
              refine r_iconst (v := (-1)) C dX6_lead_94 (by decide) ?_
              refine r_iast C (kS sC h27 kc_70) (vin (by omega) (by omega)) dX6_lead_95 (fun w32 e33 => ?_)
              have h34 := Ch.putS h27 e33 (by decide)
              have o35 := Inv.put0 o28 e33 (by decide)
              obtain ⟨i36, e37⟩ : ∃ z : Int32, u1 + Int32.ofInt 1 = z := ⟨_, rfl⟩
              have i36' := iinc_ok e37 (by decide) (by omega) (by omega)
              refine r_iinc [(2, .int i36), (3, .int r20), (0, .ref (gz (xG x) + 68)), (1, .int a1)] 3 C dX6_lead_96 rfl e37 (by decide) rfl ?_
              refine r_goto 2 C dX6_lead_99 (by decide) ?_
              refine r_lv [2, 3, 0] rfl ?_
              exact ih9 i36 w32 h34 o35 (by omega) (by omega)
            · have c31' := i_ne c31
              refine r_aload_n 1 C dX6_lead_81 rfl ?_
              refine r_iload_n 2 C dX6_lead_82 rfl ?_
              refine callVI C cwX6_82_V (ctX6_fate_68 _ _ w25 (sS sC h27) o28 a1 ) (by decide) (kS sC h27 kc_68) rfl rfl rfl (Nat.le_of_ble_eq_true rfl) (by decide) dX6_lead_83 (fun r40 w39 y38 => ?_)
              show V x 0 0 w39 86 [(3, .int r20), (0, .ref (gz (xG x) + 68)), (1, .int a1), (2, .int u1)] [.int r40]
              obtain ⟨h41, o42⟩ := y38
              have h43 := Ch.tr h27 h41 (by decide) (by decide)
              refine r_if_eq 96 C dX6_lead_86 (by decide) (fun c44 => ?_) (fun c44 => ?_)
              · have c44' := i_eq c44
                obtain ⟨i45, e46⟩ : ∃ z : Int32, u1 + Int32.ofInt 1 = z := ⟨_, rfl⟩
                have i45' := iinc_ok e46 (by decide) (by omega) (by omega)
                refine r_iinc [(2, .int i45), (3, .int r20), (0, .ref (gz (xG x) + 68)), (1, .int a1)] 3 C dX6_lead_96 rfl e46 (by decide) rfl ?_
                refine r_goto 2 C dX6_lead_99 (by decide) ?_
                refine r_lv [2, 3, 0] rfl ?_
                exact ih9 i45 w39 h43 o42 (by omega) (by omega)
              · have c44' := i_ne c44
                refine r_aload_n 1 C dX6_lead_89 rfl ?_
                refine gfX6_15 70 C (kS sC h43 kc_68) (xS sC h43 xc_68_3) dX6_lead_90 ?_
                refine r_iload_n 2 C dX6_lead_93 rfl ?_
                refine r_iconst (v := (-1)) C dX6_lead_94 (by decide) ?_
                refine r_iast C (kS sC h43 kc_70) (vin (by omega) (by omega)) dX6_lead_95 (fun w47 e48 => ?_)
                have h49 := Ch.putS h43 e48 (by decide)
                have o50 := Inv.put0 o42 e48 (by decide)
                obtain ⟨i51, e52⟩ : ∃ z : Int32, u1 + Int32.ofInt 1 = z := ⟨_, rfl⟩
                have i51' := iinc_ok e52 (by decide) (by omega) (by omega)
                refine r_iinc [(2, .int i51), (3, .int r20), (0, .ref (gz (xG x) + 68)), (1, .int a1)] 3 C dX6_lead_96 rfl e52 (by decide) rfl ?_
                refine r_goto 2 C dX6_lead_99 (by decide) ?_
                refine r_lv [2, 3, 0] rfl ?_
                exact ih9 i51 w47 h49 o50 (by omega) (by omega)
          · have c24' := i_eq c24
            refine r_aload_n 1 C dX6_lead_55 rfl ?_
            refine gfX6_9 69 C (kS sC h23 kc_68) (xS sC h23 xc_68_2) dX6_lead_56 ?_
            refine r_iload_n 2 C dX6_lead_59 rfl ?_
            refine r_iald C (kS sC h23 kc_69) (vin (by omega) (by omega)) dX6_lead_60 ?_
            generalize (wI w19 69 (a1).toNatClampNeg) = v53
            refine r_goto 65 C dX6_lead_61 (by decide) ?_
            refine r_iast C (kS sC h23 kc_69) (vin (by omega) (by omega)) dX6_lead_65 (fun w54 e55 => ?_)
            have h56 := Ch.putS h23 e55 (by decide)
            have o57 := Inv.put0 o22 e55 (by decide)
            refine r_aload_n 1 C dX6_lead_66 rfl ?_
            refine gfX6_9 69 C (kS sC h56 kc_68) (xS sC h56 xc_68_2) dX6_lead_67 ?_
            refine r_iload_n 2 C dX6_lead_70 rfl ?_
            refine r_iald C (kS sC h56 kc_69) (vin (by omega) (by omega)) dX6_lead_71 ?_
            generalize (wI w54 69 (a1).toNatClampNeg) = v58
            refine r_aload_n 1 C dX6_lead_72 rfl ?_
            refine gfX6_15 70 C (kS sC h56 kc_68) (xS sC h56 xc_68_3) dX6_lead_73 ?_
            refine r_iload_n 2 C dX6_lead_76 rfl ?_
            refine r_iald C (kS sC h56 kc_70) (vin (by omega) (by omega)) dX6_lead_77 ?_
            generalize (wI w54 70 (a1).toNatClampNeg) = v59
            refine r_icmp_eq 89 C dX6_lead_78 (by decide) (fun c60 => ?_) (fun c60 => ?_)
            · have c60' := i_eq c60
              refine r_aload_n 1 C dX6_lead_89 rfl ?_
              refine gfX6_15 70 C (kS sC h56 kc_68) (xS sC h56 xc_68_3) dX6_lead_90 ?_
              refine r_iload_n 2 C dX6_lead_93 rfl ?_
              refine r_iconst (v := (-1)) C dX6_lead_94 (by decide) ?_
              refine r_iast C (kS sC h56 kc_70) (vin (by omega) (by omega)) dX6_lead_95 (fun w61 e62 => ?_)
              have h63 := Ch.putS h56 e62 (by decide)
              have o64 := Inv.put0 o57 e62 (by decide)
              obtain ⟨i65, e66⟩ : ∃ z : Int32, u1 + Int32.ofInt 1 = z := ⟨_, rfl⟩
              have i65' := iinc_ok e66 (by decide) (by omega) (by omega)
              refine r_iinc [(2, .int i65), (3, .int r20), (0, .ref (gz (xG x) + 68)), (1, .int a1)] 3 C dX6_lead_96 rfl e66 (by decide) rfl ?_
              refine r_goto 2 C dX6_lead_99 (by decide) ?_
              refine r_lv [2, 3, 0] rfl ?_
              exact ih9 i65 w61 h63 o64 (by omega) (by omega)
            · have c60' := i_ne c60
              refine r_aload_n 1 C dX6_lead_81 rfl ?_
              refine r_iload_n 2 C dX6_lead_82 rfl ?_
              refine callVI C cwX6_82_V (ctX6_fate_68 _ _ w54 (sS sC h56) o57 a1 ) (by decide) (kS sC h56 kc_68) rfl rfl rfl (Nat.le_of_ble_eq_true rfl) (by decide) dX6_lead_83 (fun r69 w68 y67 => ?_)
              show V x 0 0 w68 86 [(3, .int r20), (0, .ref (gz (xG x) + 68)), (1, .int a1), (2, .int u1)] [.int r69]
              obtain ⟨h70, o71⟩ := y67
              have h72 := Ch.tr h56 h70 (by decide) (by decide)
              refine r_if_eq 96 C dX6_lead_86 (by decide) (fun c73 => ?_) (fun c73 => ?_)
              · have c73' := i_eq c73
                obtain ⟨i74, e75⟩ : ∃ z : Int32, u1 + Int32.ofInt 1 = z := ⟨_, rfl⟩
                have i74' := iinc_ok e75 (by decide) (by omega) (by omega)
                refine r_iinc [(2, .int i74), (3, .int r20), (0, .ref (gz (xG x) + 68)), (1, .int a1)] 3 C dX6_lead_96 rfl e75 (by decide) rfl ?_
                refine r_goto 2 C dX6_lead_99 (by decide) ?_
                refine r_lv [2, 3, 0] rfl ?_
                exact ih9 i74 w68 h72 o71 (by omega) (by omega)
              · have c73' := i_ne c73
                refine r_aload_n 1 C dX6_lead_89 rfl ?_
                refine gfX6_15 70 C (kS sC h72 kc_68) (xS sC h72 xc_68_3) dX6_lead_90 ?_
                refine r_iload_n 2 C dX6_lead_93 rfl ?_
                refine r_iconst (v := (-1)) C dX6_lead_94 (by decide) ?_
                refine r_iast C (kS sC h72 kc_70) (vin (by omega) (by omega)) dX6_lead_95 (fun w76 e77 => ?_)
                have h78 := Ch.putS h72 e77 (by decide)
                have o79 := Inv.put0 o71 e77 (by decide)
                obtain ⟨i80, e81⟩ : ∃ z : Int32, u1 + Int32.ofInt 1 = z := ⟨_, rfl⟩
                have i80' := iinc_ok e81 (by decide) (by omega) (by omega)
                refine r_iinc [(2, .int i80), (3, .int r20), (0, .ref (gz (xG x) + 68)), (1, .int a1)] 3 C dX6_lead_96 rfl e81 (by decide) rfl ?_
                refine r_goto 2 C dX6_lead_99 (by decide) ?_
                refine r_lv [2, 3, 0] rfl ?_
                exact ih9 i80 w76 h78 o79 (by omega) (by omega)
  refine r_iconst (v := 0) C dX6_lead_0 (by decide) ?_
  refine r_istore_n [(2, .int 0), (0, .ref (gz (xG x) + 68)), (1, .int a1)] C dX6_lead_1 (by decide) rfl ?_
  refine r_lv [1, 2, 0] rfl ?_
  exact LP2 4294967296 0 w h0 o0 (by omega) (by omega)
set_option maxHeartbeats 4000000 in
set_option maxRecDepth 100000 in
theorem ctX6_hears_71 (l : Launch) (G : Gt) (w : Wv) (sC : Str KC XC w) (o0 : Inv RC w) (a1 : Int32) (a2 : Int32) : CtI l G yX6_hears cX6_hears 4 .boolean ({ frames := 2, cells := 0, slots := 0, locals := 50 } : Room) [.ref (gz G + 71), .int a1, .int a2] w (fun r w' => Ch [25, 26, 27] [] w w' ∧ Inv RC w' ∧ ((0 ≤ r.toInt ∧ r.toInt ≤ 1))) := by
  refine enterI (by decide) (Nat.le_of_ble_eq_true rfl) ?_
  intro x el eG C hret
  subst el; subst eG
  show V x 0 0 w 0 [(0, .ref (gz (xG x) + 71)), (1, .int a1), (2, .int a2)] []
  have h0 : Ch [25, 26, 27] [] w w := Ch.rf
  have qm1 : ((-1) : Int32).toInt = (-1) := by decide
  have q0 : (0 : Int32).toInt = 0 := by decide
  have q1 : (1 : Int32).toInt = 1 := by decide
  refine r_aload_n 0 C dX6_hears_0 rfl ?_
  refine gfX6_18 3 C (kS sC h0 kc_71) (xS sC h0 xc_71_4) dX6_hears_1 ?_
  refine r_iload_n 1 C dX6_hears_4 rfl ?_
  refine r_iload_n 2 C dX6_hears_5 rfl ?_
  refine callVI C cwX6_63_V (ctX9_isFollower_3 _ _ w (sS sC h0) o0 a1 a2 ) (by decide) (kS sC h0 kc_3) rfl rfl rfl (Nat.le_of_ble_eq_true rfl) (by decide) dX6_hears_6 (fun r3 w2 y1 => ?_)
  show V x 0 0 w2 9 [(0, .ref (gz (xG x) + 71)), (1, .int a1), (2, .int a2)] [.int r3]
  obtain ⟨h4, o5, g6⟩ := y1
  have h7 := Ch.tr h0 h4 (by decide) (by decide)
  refine r_if_eq 20 C dX6_hears_9 (by decide) (fun c8 => ?_) (fun c8 => ?_)
  · have c8' := i_eq c8
    refine r_iconst (v := 0) C dX6_hears_20 (by decide) ?_
    exact hret _ _ _ _ dX6_hears_21 (nar_z (z_of (by omega))) ⟨h7, o5, by omega⟩
  · have c8' := i_ne c8
    refine r_aload_n 0 C dX6_hears_12 rfl ?_
    refine r_iload_n 1 C dX6_hears_13 rfl ?_
    refine callVI C cwX6_66_V (ctX6_isHere_71 _ _ w2 (sS sC h7) o5 a1 ) (by decide) (kS sC h7 kc_71) rfl rfl rfl (Nat.le_of_ble_eq_true rfl) (by decide) dX6_hears_14 (fun r11 w10 y9 => ?_)
    show V x 0 0 w10 17 [(0, .ref (gz (xG x) + 71)), (1, .int a1), (2, .int a2)] [.int r11]
    obtain ⟨h12, o13, g14⟩ := y9
    have h15 := Ch.tr h7 h12 (by decide) (by decide)
    refine r_if_ne 22 C dX6_hears_17 (by decide) (fun c16 => ?_) (fun c16 => ?_)
    · have c16' := i_ne c16
      refine r_aload_n 0 C dX6_hears_22 rfl ?_
      refine gfX6_22 21 C (kS sC h15 kc_71) (xS sC h15 xc_71_5) dX6_hears_23 ?_
      refine r_aload_n 0 C dX6_hears_26 rfl ?_
      refine gfX6_9 72 C (kS sC h15 kc_71) (xS sC h15 xc_71_2) dX6_hears_27 ?_
      refine r_iload_n 1 C dX6_hears_30 rfl ?_
      refine r_iald C (kS sC h15 kc_72) (vin (by omega) (by omega)) dX6_hears_31 ?_
      generalize (wI w10 72 (a1).toNatClampNeg) = v17
      refine r_aload_n 0 C dX6_hears_32 rfl ?_
      refine gfX6_32 (v := (wI w 71 0)) C (kS sC h15 kc_71) (h12.I (by decide) (by decide) (h4.I (by decide) (by decide) rfl)) dX6_hears_33 ?_
      refine callVI C cwX6_70_V (ctX1_steps_21 _ _ w10 (sS sC h15) o13 v17 (wI w 71 0) ) (by decide) (kS sC h15 kc_21) rfl rfl rfl (Nat.le_of_ble_eq_true rfl) (by decide) dX6_hears_36 (fun r20 w19 y18 => ?_)
      show V x 0 0 w19 39 [(0, .ref (gz (xG x) + 71)), (1, .int a1), (2, .int a2)] [.int r20]
      obtain ⟨h21, o22⟩ := y18
      have h23 := Ch.tr h15 h21 (by decide) (by decide)
      refine r_istore_n [(3, .int r20), (0, .ref (gz (xG x) + 71)), (1, .int a1), (2, .int a2)] C dX6_hears_39 (by decide) rfl ?_
      refine r_iload_n 0 C dX6_hears_40 rfl ?_
      refine r_iconst (v := (-1)) C dX6_hears_41 (by decide) ?_
      refine r_icmp_eq 62 C dX6_hears_42 (by decide) (fun c24 => ?_) (fun c24 => ?_)
      · have c24' := i_eq c24
        refine r_iconst (v := 0) C dX6_hears_62 (by decide) ?_
        exact hret _ _ _ _ dX6_hears_63 (nar_z (z_of (by omega))) ⟨h23, o22, by omega⟩
      · have c24' := i_ne c24
        refine r_iload_n 0 C dX6_hears_45 rfl ?_
        refine r_aload_n 1 C dX6_hears_46 rfl ?_
        refine gfX6_18 3 C (kS sC h23 kc_71) (xS sC h23 xc_71_4) dX6_hears_47 ?_
        refine gfX6_73 11 C (kS sC h23 kc_3) (xS sC h23 xc_3_16) dX6_hears_50 ?_
        refine r_iload_n 3 C dX6_hears_53 rfl ?_
        refine r_iald C (kS sC h23 kc_11) (vin (by omega) (by omega)) dX6_hears_54 ?_
        generalize (wI w19 11 (a2).toNatClampNeg) = v25
        have k27 := i_rng r20
        have k28 := i_rng v25
        refine r_icmp_gt 62 C dX6_hears_55 (by decide) (fun c26 => ?_) (fun c26 => ?_)
        · have c26' := i_lt c26
          refine r_iconst (v := 0) C dX6_hears_62 (by decide) ?_
          exact hret _ _ _ _ dX6_hears_63 (nar_z (z_of (by omega))) ⟨h23, o22, by omega⟩
        · have c26' := i_nlt c26
          refine r_iconst (v := 1) C dX6_hears_58 (by decide) ?_
          refine r_goto 63 C dX6_hears_59 (by decide) ?_
          exact hret _ _ _ _ dX6_hears_63 (nar_z (z_of (by omega))) ⟨h23, o22, by omega⟩
    · have c16' := i_eq c16
      refine r_iconst (v := 0) C dX6_hears_20 (by decide) ?_
      exact hret _ _ _ _ dX6_hears_21 (nar_z (z_of (by omega))) ⟨h15, o13, by omega⟩
set_option maxHeartbeats 4000000 in
set_option maxRecDepth 100000 in
theorem ctX6_lead_71 (l : Launch) (G : Gt) (w : Wv) (sC : Str KC XC w) (o0 : Inv RC w) (a1 : Int32) (b1 : 0 ≤ a1.toInt ∧ a1.toInt ≤ 5) : CtV l G yX6_lead cX6_lead 4 ({ frames := 2, cells := 0, slots := 0, locals := 54 } : Room) [.ref (gz G + 71), .int a1] w (fun w' => Ch [25, 26, 27, 72, 73] [] w w' ∧ Inv RC w') := by
  refine enterV (by decide) (Nat.le_of_ble_eq_true rfl) ?_
  intro x el eG C hnm hret
  subst el; subst eG
  show V x 0 0 w 0 [(0, .ref (gz (xG x) + 71)), (1, .int a1)] []
  have h0 : Ch [25, 26, 27, 72, 73] [] w w := Ch.rf
  have qm1 : ((-1) : Int32).toInt = (-1) := by decide
  have q0 : (0 : Int32).toInt = 0 := by decide
  have LP2 : ∀ (f3 : Nat) (u1 : Int32) (w4 : Wv), Ch [25, 26, 27, 72, 73] [] w w4 → Inv RC w4 → (0 ≤ u1.toInt ∧ u1.toInt ≤ 2147483647) → 2147483647 - u1.toInt < f3 → V x 0 0 w4 2 [(0, .ref (gz (xG x) + 71)), (1, .int a1), (2, .int u1)] [] := by
    intro f3
    induction f3 with
    | zero => intro u1 w4 h5 o6 z7 z8; exfalso; omega
    | succ f3 ih9 =>
      intro u1 w4 h5 o6 z7 z8
      refine r_iload_n 2 C dX6_lead_2 rfl ?_
      refine r_aload_n 0 C dX6_lead_3 rfl ?_
      refine gfX6_18 3 C (kS sC h5 kc_71) (xS sC h5 xc_71_4) dX6_lead_4 ?_
      refine gfX6_76 8 C (kS sC h5 kc_3) (xS sC h5 xc_3_13) dX6_lead_7 ?_
      refine r_iload_n 1 C dX6_lead_10 rfl ?_
      refine r_iald C (kS sC h5 kc_8) (vin (by omega) (by omega)) dX6_lead_11 ?_
      generalize (wI w4 8 (a1).toNatClampNeg) = v10
      have k12 := i_rng u1
      have k13 := i_rng v10
      refine r_icmp_ge 102 C dX6_lead_12 (by decide) (fun c11 => ?_) (fun c11 => ?_)
      · have c11' := i_le c11
        exact hret _ _ _ dX6_lead_102 ⟨h5, o6⟩
      · have c11' := i_nle c11
        refine r_aload_n 0 C dX6_lead_15 rfl ?_
        refine gfX6_15 73 C (kS sC h5 kc_71) (xS sC h5 xc_71_3) dX6_lead_16 ?_
        refine r_iload_n 1 C dX6_lead_19 rfl ?_
        refine r_iald C (kS sC h5 kc_73) (vin (by omega) (by omega)) dX6_lead_20 ?_
        generalize (wI w4 73 (a1).toNatClampNeg) = v14
        refine r_iconst (v := (-1)) C dX6_lead_21 (by decide) ?_
        refine r_icmp_eq 102 C dX6_lead_22 (by decide) (fun c15 => ?_) (fun c15 => ?_)
        · have c15' := i_eq c15
          exact hret _ _ _ dX6_lead_102 ⟨h5, o6⟩
        · have c15' := i_ne c15
          refine r_aload_n 0 C dX6_lead_25 rfl ?_
          refine gfX6_22 21 C (kS sC h5 kc_71) (xS sC h5 xc_71_5) dX6_lead_26 ?_
          refine r_aload_n 0 C dX6_lead_29 rfl ?_
          refine gfX6_9 72 C (kS sC h5 kc_71) (xS sC h5 xc_71_2) dX6_lead_30 ?_
          refine r_iload_n 1 C dX6_lead_33 rfl ?_
          refine r_iald C (kS sC h5 kc_72) (vin (by omega) (by omega)) dX6_lead_34 ?_
          generalize (wI w4 72 (a1).toNatClampNeg) = v16
          refine r_aload_n 0 C dX6_lead_35 rfl ?_
          refine gfX6_15 73 C (kS sC h5 kc_71) (xS sC h5 xc_71_3) dX6_lead_36 ?_
          refine r_iload_n 1 C dX6_lead_39 rfl ?_
          refine r_iald C (kS sC h5 kc_73) (vin (by omega) (by omega)) dX6_lead_40 ?_
          generalize (wI w4 73 (a1).toNatClampNeg) = v17
          refine callVI C cwX6_79_V (ctX1_onward_21 _ _ w4 (sS sC h5) o6 v16 v17 ) (by decide) (kS sC h5 kc_21) rfl rfl rfl (Nat.le_of_ble_eq_true rfl) (by decide) dX6_lead_41 (fun r20 w19 y18 => ?_)
          show V x 0 0 w19 44 [(0, .ref (gz (xG x) + 71)), (1, .int a1), (2, .int u1)] [.int r20]
          obtain ⟨h21, o22⟩ := y18
          have h23 := Ch.tr h5 h21 (by decide) (by decide)
          refine r_istore_n [(3, .int r20), (0, .ref (gz (xG x) + 71)), (1, .int a1), (2, .int u1)] C dX6_lead_44 (by decide) rfl ?_
          refine r_aload_n 1 C dX6_lead_45 rfl ?_
          refine gfX6_9 72 C (kS sC h23 kc_71) (xS sC h23 xc_71_2) dX6_lead_46 ?_
          refine r_iload_n 2 C dX6_lead_49 rfl ?_
          refine r_iload_n 0 C dX6_lead_50 rfl ?_
          refine r_iconst (v := (-1)) C dX6_lead_51 (by decide) ?_
          refine r_icmp_ne 64 C dX6_lead_52 (by decide) (fun c24 => ?_) (fun c24 => ?_)
          · have c24' := i_ne c24
            refine r_iload_n 0 C dX6_lead_64 rfl ?_
            refine r_iast C (kS sC h23 kc_72) (vin (by omega) (by omega)) dX6_lead_65 (fun w25 e26 => ?_)
            have h27 := Ch.putS h23 e26 (by decide)
            have o28 := Inv.put0 o22 e26 (by decide)
            refine r_aload_n 1 C dX6_lead_66 rfl ?_
            refine gfX6_9 72 C (kS sC h27 kc_71) (xS sC h27 xc_71_2) dX6_lead_67 ?_
            refine r_iload_n 2 C dX6_lead_70 rfl ?_
            refine r_iald C (kS sC h27 kc_72) (vin (by omega) (by omega)) dX6_lead_71 ?_
            generalize (wI w25 72 (a1).toNatClampNeg) = v29
            refine r_aload_n 1 C dX6_lead_72 rfl ?_
            refine gfX6_15 73 C (kS sC h27 kc_71) (xS sC h27 xc_71_3) dX6_lead_73 ?_
            refine r_iload_n 2 C dX6_lead_76 rfl ?_
            refine r_iald C (kS sC h27 kc_73) (vin (by omega) (by omega)) dX6_lead_77 ?_
            generalize (wI w25 73 (a1).toNatClampNeg) = v30
            refine r_icmp_eq 89 C dX6_lead_78 (by decide) (fun c31 => ?_) (fun c31 => ?_)
            · have c31' := i_eq c31
              refine r_aload_n 1 C dX6_lead_89 rfl ?_
              refine gfX6_15 73 C (kS sC h27 kc_71) (xS sC h27 xc_71_3) dX6_lead_90 ?_
              refine r_iload_n 2 C dX6_lead_93 rfl ?_
              refine r_iconst (v := (-1)) C dX6_lead_94 (by decide) ?_
              refine r_iast C (kS sC h27 kc_73) (vin (by omega) (by omega)) dX6_lead_95 (fun w32 e33 => ?_)
              have h34 := Ch.putS h27 e33 (by decide)
              have o35 := Inv.put0 o28 e33 (by decide)
              obtain ⟨i36, e37⟩ : ∃ z : Int32, u1 + Int32.ofInt 1 = z := ⟨_, rfl⟩
              have i36' := iinc_ok e37 (by decide) (by omega) (by omega)
              refine r_iinc [(2, .int i36), (3, .int r20), (0, .ref (gz (xG x) + 71)), (1, .int a1)] 3 C dX6_lead_96 rfl e37 (by decide) rfl ?_
              refine r_goto 2 C dX6_lead_99 (by decide) ?_
              refine r_lv [2, 3, 0] rfl ?_
              exact ih9 i36 w32 h34 o35 (by omega) (by omega)
            · have c31' := i_ne c31
              refine r_aload_n 1 C dX6_lead_81 rfl ?_
              refine r_iload_n 2 C dX6_lead_82 rfl ?_
              refine callVI C cwX6_82_V (ctX6_fate_71 _ _ w25 (sS sC h27) o28 a1 ) (by decide) (kS sC h27 kc_71) rfl rfl rfl (Nat.le_of_ble_eq_true rfl) (by decide) dX6_lead_83 (fun r40 w39 y38 => ?_)
              show V x 0 0 w39 86 [(3, .int r20), (0, .ref (gz (xG x) + 71)), (1, .int a1), (2, .int u1)] [.int r40]
              obtain ⟨h41, o42⟩ := y38
              have h43 := Ch.tr h27 h41 (by decide) (by decide)
              refine r_if_eq 96 C dX6_lead_86 (by decide) (fun c44 => ?_) (fun c44 => ?_)
              · have c44' := i_eq c44
                obtain ⟨i45, e46⟩ : ∃ z : Int32, u1 + Int32.ofInt 1 = z := ⟨_, rfl⟩
                have i45' := iinc_ok e46 (by decide) (by omega) (by omega)
                refine r_iinc [(2, .int i45), (3, .int r20), (0, .ref (gz (xG x) + 71)), (1, .int a1)] 3 C dX6_lead_96 rfl e46 (by decide) rfl ?_
                refine r_goto 2 C dX6_lead_99 (by decide) ?_
                refine r_lv [2, 3, 0] rfl ?_
                exact ih9 i45 w39 h43 o42 (by omega) (by omega)
              · have c44' := i_ne c44
                refine r_aload_n 1 C dX6_lead_89 rfl ?_
                refine gfX6_15 73 C (kS sC h43 kc_71) (xS sC h43 xc_71_3) dX6_lead_90 ?_
                refine r_iload_n 2 C dX6_lead_93 rfl ?_
                refine r_iconst (v := (-1)) C dX6_lead_94 (by decide) ?_
                refine r_iast C (kS sC h43 kc_73) (vin (by omega) (by omega)) dX6_lead_95 (fun w47 e48 => ?_)
                have h49 := Ch.putS h43 e48 (by decide)
                have o50 := Inv.put0 o42 e48 (by decide)
                obtain ⟨i51, e52⟩ : ∃ z : Int32, u1 + Int32.ofInt 1 = z := ⟨_, rfl⟩
                have i51' := iinc_ok e52 (by decide) (by omega) (by omega)
                refine r_iinc [(2, .int i51), (3, .int r20), (0, .ref (gz (xG x) + 71)), (1, .int a1)] 3 C dX6_lead_96 rfl e52 (by decide) rfl ?_
                refine r_goto 2 C dX6_lead_99 (by decide) ?_
                refine r_lv [2, 3, 0] rfl ?_
                exact ih9 i51 w47 h49 o50 (by omega) (by omega)
          · have c24' := i_eq c24
            refine r_aload_n 1 C dX6_lead_55 rfl ?_
            refine gfX6_9 72 C (kS sC h23 kc_71) (xS sC h23 xc_71_2) dX6_lead_56 ?_
            refine r_iload_n 2 C dX6_lead_59 rfl ?_
            refine r_iald C (kS sC h23 kc_72) (vin (by omega) (by omega)) dX6_lead_60 ?_
            generalize (wI w19 72 (a1).toNatClampNeg) = v53
            refine r_goto 65 C dX6_lead_61 (by decide) ?_
            refine r_iast C (kS sC h23 kc_72) (vin (by omega) (by omega)) dX6_lead_65 (fun w54 e55 => ?_)
            have h56 := Ch.putS h23 e55 (by decide)
            have o57 := Inv.put0 o22 e55 (by decide)
            refine r_aload_n 1 C dX6_lead_66 rfl ?_
            refine gfX6_9 72 C (kS sC h56 kc_71) (xS sC h56 xc_71_2) dX6_lead_67 ?_
            refine r_iload_n 2 C dX6_lead_70 rfl ?_
            refine r_iald C (kS sC h56 kc_72) (vin (by omega) (by omega)) dX6_lead_71 ?_
            generalize (wI w54 72 (a1).toNatClampNeg) = v58
            refine r_aload_n 1 C dX6_lead_72 rfl ?_
            refine gfX6_15 73 C (kS sC h56 kc_71) (xS sC h56 xc_71_3) dX6_lead_73 ?_
            refine r_iload_n 2 C dX6_lead_76 rfl ?_
            refine r_iald C (kS sC h56 kc_73) (vin (by omega) (by omega)) dX6_lead_77 ?_
            generalize (wI w54 73 (a1).toNatClampNeg) = v59
            refine r_icmp_eq 89 C dX6_lead_78 (by decide) (fun c60 => ?_) (fun c60 => ?_)
            · have c60' := i_eq c60
              refine r_aload_n 1 C dX6_lead_89 rfl ?_
              refine gfX6_15 73 C (kS sC h56 kc_71) (xS sC h56 xc_71_3) dX6_lead_90 ?_
              refine r_iload_n 2 C dX6_lead_93 rfl ?_
              refine r_iconst (v := (-1)) C dX6_lead_94 (by decide) ?_
              refine r_iast C (kS sC h56 kc_73) (vin (by omega) (by omega)) dX6_lead_95 (fun w61 e62 => ?_)
              have h63 := Ch.putS h56 e62 (by decide)
              have o64 := Inv.put0 o57 e62 (by decide)
              obtain ⟨i65, e66⟩ : ∃ z : Int32, u1 + Int32.ofInt 1 = z := ⟨_, rfl⟩
              have i65' := iinc_ok e66 (by decide) (by omega) (by omega)
              refine r_iinc [(2, .int i65), (3, .int r20), (0, .ref (gz (xG x) + 71)), (1, .int a1)] 3 C dX6_lead_96 rfl e66 (by decide) rfl ?_
              refine r_goto 2 C dX6_lead_99 (by decide) ?_
              refine r_lv [2, 3, 0] rfl ?_
              exact ih9 i65 w61 h63 o64 (by omega) (by omega)
            · have c60' := i_ne c60
              refine r_aload_n 1 C dX6_lead_81 rfl ?_
              refine r_iload_n 2 C dX6_lead_82 rfl ?_
              refine callVI C cwX6_82_V (ctX6_fate_71 _ _ w54 (sS sC h56) o57 a1 ) (by decide) (kS sC h56 kc_71) rfl rfl rfl (Nat.le_of_ble_eq_true rfl) (by decide) dX6_lead_83 (fun r69 w68 y67 => ?_)
              show V x 0 0 w68 86 [(3, .int r20), (0, .ref (gz (xG x) + 71)), (1, .int a1), (2, .int u1)] [.int r69]
              obtain ⟨h70, o71⟩ := y67
              have h72 := Ch.tr h56 h70 (by decide) (by decide)
              refine r_if_eq 96 C dX6_lead_86 (by decide) (fun c73 => ?_) (fun c73 => ?_)
              · have c73' := i_eq c73
                obtain ⟨i74, e75⟩ : ∃ z : Int32, u1 + Int32.ofInt 1 = z := ⟨_, rfl⟩
                have i74' := iinc_ok e75 (by decide) (by omega) (by omega)
                refine r_iinc [(2, .int i74), (3, .int r20), (0, .ref (gz (xG x) + 71)), (1, .int a1)] 3 C dX6_lead_96 rfl e75 (by decide) rfl ?_
                refine r_goto 2 C dX6_lead_99 (by decide) ?_
                refine r_lv [2, 3, 0] rfl ?_
                exact ih9 i74 w68 h72 o71 (by omega) (by omega)
              · have c73' := i_ne c73
                refine r_aload_n 1 C dX6_lead_89 rfl ?_
                refine gfX6_15 73 C (kS sC h72 kc_71) (xS sC h72 xc_71_3) dX6_lead_90 ?_
                refine r_iload_n 2 C dX6_lead_93 rfl ?_
                refine r_iconst (v := (-1)) C dX6_lead_94 (by decide) ?_
                refine r_iast C (kS sC h72 kc_73) (vin (by omega) (by omega)) dX6_lead_95 (fun w76 e77 => ?_)
                have h78 := Ch.putS h72 e77 (by decide)
                have o79 := Inv.put0 o71 e77 (by decide)
                obtain ⟨i80, e81⟩ : ∃ z : Int32, u1 + Int32.ofInt 1 = z := ⟨_, rfl⟩
                have i80' := iinc_ok e81 (by decide) (by omega) (by omega)
                refine r_iinc [(2, .int i80), (3, .int r20), (0, .ref (gz (xG x) + 71)), (1, .int a1)] 3 C dX6_lead_96 rfl e81 (by decide) rfl ?_
                refine r_goto 2 C dX6_lead_99 (by decide) ?_
                refine r_lv [2, 3, 0] rfl ?_
                exact ih9 i80 w76 h78 o79 (by omega) (by omega)
  refine r_iconst (v := 0) C dX6_lead_0 (by decide) ?_
  refine r_istore_n [(2, .int 0), (0, .ref (gz (xG x) + 71)), (1, .int a1)] C dX6_lead_1 (by decide) rfl ?_
  refine r_lv [1, 2, 0] rfl ?_
  exact LP2 4294967296 0 w h0 o0 (by omega) (by omega)
set_option maxHeartbeats 4000000 in
set_option maxRecDepth 100000 in
theorem ctX6_hears_74 (l : Launch) (G : Gt) (w : Wv) (sC : Str KC XC w) (o0 : Inv RC w) (a1 : Int32) (a2 : Int32) : CtI l G yX6_hears cX6_hears 4 .boolean ({ frames := 2, cells := 0, slots := 0, locals := 50 } : Room) [.ref (gz G + 74), .int a1, .int a2] w (fun r w' => Ch [25, 26, 27] [] w w' ∧ Inv RC w' ∧ ((0 ≤ r.toInt ∧ r.toInt ≤ 1))) := by
  refine enterI (by decide) (Nat.le_of_ble_eq_true rfl) ?_
  intro x el eG C hret
  subst el; subst eG
  show V x 0 0 w 0 [(0, .ref (gz (xG x) + 74)), (1, .int a1), (2, .int a2)] []
  have h0 : Ch [25, 26, 27] [] w w := Ch.rf
  have qm1 : ((-1) : Int32).toInt = (-1) := by decide
  have q0 : (0 : Int32).toInt = 0 := by decide
  have q1 : (1 : Int32).toInt = 1 := by decide
  refine r_aload_n 0 C dX6_hears_0 rfl ?_
  refine gfX6_18 3 C (kS sC h0 kc_74) (xS sC h0 xc_74_4) dX6_hears_1 ?_
  refine r_iload_n 1 C dX6_hears_4 rfl ?_
  refine r_iload_n 2 C dX6_hears_5 rfl ?_
  refine callVI C cwX6_63_V (ctX9_isFollower_3 _ _ w (sS sC h0) o0 a1 a2 ) (by decide) (kS sC h0 kc_3) rfl rfl rfl (Nat.le_of_ble_eq_true rfl) (by decide) dX6_hears_6 (fun r3 w2 y1 => ?_)
  show V x 0 0 w2 9 [(0, .ref (gz (xG x) + 74)), (1, .int a1), (2, .int a2)] [.int r3]
  obtain ⟨h4, o5, g6⟩ := y1
  have h7 := Ch.tr h0 h4 (by decide) (by decide)
  refine r_if_eq 20 C dX6_hears_9 (by decide) (fun c8 => ?_) (fun c8 => ?_)
  · have c8' := i_eq c8
    refine r_iconst (v := 0) C dX6_hears_20 (by decide) ?_
    exact hret _ _ _ _ dX6_hears_21 (nar_z (z_of (by omega))) ⟨h7, o5, by omega⟩
  · have c8' := i_ne c8
    refine r_aload_n 0 C dX6_hears_12 rfl ?_
    refine r_iload_n 1 C dX6_hears_13 rfl ?_
    refine callVI C cwX6_66_V (ctX6_isHere_74 _ _ w2 (sS sC h7) o5 a1 ) (by decide) (kS sC h7 kc_74) rfl rfl rfl (Nat.le_of_ble_eq_true rfl) (by decide) dX6_hears_14 (fun r11 w10 y9 => ?_)
    show V x 0 0 w10 17 [(0, .ref (gz (xG x) + 74)), (1, .int a1), (2, .int a2)] [.int r11]
    obtain ⟨h12, o13, g14⟩ := y9
    have h15 := Ch.tr h7 h12 (by decide) (by decide)
    refine r_if_ne 22 C dX6_hears_17 (by decide) (fun c16 => ?_) (fun c16 => ?_)
    · have c16' := i_ne c16
      refine r_aload_n 0 C dX6_hears_22 rfl ?_
      refine gfX6_22 21 C (kS sC h15 kc_74) (xS sC h15 xc_74_5) dX6_hears_23 ?_
      refine r_aload_n 0 C dX6_hears_26 rfl ?_
      refine gfX6_9 75 C (kS sC h15 kc_74) (xS sC h15 xc_74_2) dX6_hears_27 ?_
      refine r_iload_n 1 C dX6_hears_30 rfl ?_
      refine r_iald C (kS sC h15 kc_75) (vin (by omega) (by omega)) dX6_hears_31 ?_
      generalize (wI w10 75 (a1).toNatClampNeg) = v17
      refine r_aload_n 0 C dX6_hears_32 rfl ?_
      refine gfX6_32 (v := (wI w 74 0)) C (kS sC h15 kc_74) (h12.I (by decide) (by decide) (h4.I (by decide) (by decide) rfl)) dX6_hears_33 ?_
      refine callVI C cwX6_70_V (ctX1_steps_21 _ _ w10 (sS sC h15) o13 v17 (wI w 74 0) ) (by decide) (kS sC h15 kc_21) rfl rfl rfl (Nat.le_of_ble_eq_true rfl) (by decide) dX6_hears_36 (fun r20 w19 y18 => ?_)
      show V x 0 0 w19 39 [(0, .ref (gz (xG x) + 74)), (1, .int a1), (2, .int a2)] [.int r20]
      obtain ⟨h21, o22⟩ := y18
      have h23 := Ch.tr h15 h21 (by decide) (by decide)
      refine r_istore_n [(3, .int r20), (0, .ref (gz (xG x) + 74)), (1, .int a1), (2, .int a2)] C dX6_hears_39 (by decide) rfl ?_
      refine r_iload_n 0 C dX6_hears_40 rfl ?_
      refine r_iconst (v := (-1)) C dX6_hears_41 (by decide) ?_
      refine r_icmp_eq 62 C dX6_hears_42 (by decide) (fun c24 => ?_) (fun c24 => ?_)
      · have c24' := i_eq c24
        refine r_iconst (v := 0) C dX6_hears_62 (by decide) ?_
        exact hret _ _ _ _ dX6_hears_63 (nar_z (z_of (by omega))) ⟨h23, o22, by omega⟩
      · have c24' := i_ne c24
        refine r_iload_n 0 C dX6_hears_45 rfl ?_
        refine r_aload_n 1 C dX6_hears_46 rfl ?_
        refine gfX6_18 3 C (kS sC h23 kc_74) (xS sC h23 xc_74_4) dX6_hears_47 ?_
        refine gfX6_73 11 C (kS sC h23 kc_3) (xS sC h23 xc_3_16) dX6_hears_50 ?_
        refine r_iload_n 3 C dX6_hears_53 rfl ?_
        refine r_iald C (kS sC h23 kc_11) (vin (by omega) (by omega)) dX6_hears_54 ?_
        generalize (wI w19 11 (a2).toNatClampNeg) = v25
        have k27 := i_rng r20
        have k28 := i_rng v25
        refine r_icmp_gt 62 C dX6_hears_55 (by decide) (fun c26 => ?_) (fun c26 => ?_)
        · have c26' := i_lt c26
          refine r_iconst (v := 0) C dX6_hears_62 (by decide) ?_
          exact hret _ _ _ _ dX6_hears_63 (nar_z (z_of (by omega))) ⟨h23, o22, by omega⟩
        · have c26' := i_nlt c26
          refine r_iconst (v := 1) C dX6_hears_58 (by decide) ?_
          refine r_goto 63 C dX6_hears_59 (by decide) ?_
          exact hret _ _ _ _ dX6_hears_63 (nar_z (z_of (by omega))) ⟨h23, o22, by omega⟩
    · have c16' := i_eq c16
      refine r_iconst (v := 0) C dX6_hears_20 (by decide) ?_
      exact hret _ _ _ _ dX6_hears_21 (nar_z (z_of (by omega))) ⟨h15, o13, by omega⟩
set_option maxHeartbeats 4000000 in
set_option maxRecDepth 100000 in
theorem ctX6_lead_74 (l : Launch) (G : Gt) (w : Wv) (sC : Str KC XC w) (o0 : Inv RC w) (a1 : Int32) (b1 : 0 ≤ a1.toInt ∧ a1.toInt ≤ 5) : CtV l G yX6_lead cX6_lead 4 ({ frames := 2, cells := 0, slots := 0, locals := 54 } : Room) [.ref (gz G + 74), .int a1] w (fun w' => Ch [25, 26, 27, 75, 76] [] w w' ∧ Inv RC w') := by
  refine enterV (by decide) (Nat.le_of_ble_eq_true rfl) ?_
  intro x el eG C hnm hret
  subst el; subst eG
  show V x 0 0 w 0 [(0, .ref (gz (xG x) + 74)), (1, .int a1)] []
  have h0 : Ch [25, 26, 27, 75, 76] [] w w := Ch.rf
  have qm1 : ((-1) : Int32).toInt = (-1) := by decide
  have q0 : (0 : Int32).toInt = 0 := by decide
  have LP2 : ∀ (f3 : Nat) (u1 : Int32) (w4 : Wv), Ch [25, 26, 27, 75, 76] [] w w4 → Inv RC w4 → (0 ≤ u1.toInt ∧ u1.toInt ≤ 2147483647) → 2147483647 - u1.toInt < f3 → V x 0 0 w4 2 [(0, .ref (gz (xG x) + 74)), (1, .int a1), (2, .int u1)] [] := by
    intro f3
    induction f3 with
    | zero => intro u1 w4 h5 o6 z7 z8; exfalso; omega
    | succ f3 ih9 =>
      intro u1 w4 h5 o6 z7 z8
      refine r_iload_n 2 C dX6_lead_2 rfl ?_
      refine r_aload_n 0 C dX6_lead_3 rfl ?_
      refine gfX6_18 3 C (kS sC h5 kc_74) (xS sC h5 xc_74_4) dX6_lead_4 ?_
      refine gfX6_76 8 C (kS sC h5 kc_3) (xS sC h5 xc_3_13) dX6_lead_7 ?_
      refine r_iload_n 1 C dX6_lead_10 rfl ?_
      refine r_iald C (kS sC h5 kc_8) (vin (by omega) (by omega)) dX6_lead_11 ?_
      generalize (wI w4 8 (a1).toNatClampNeg) = v10
      have k12 := i_rng u1
      have k13 := i_rng v10
      refine r_icmp_ge 102 C dX6_lead_12 (by decide) (fun c11 => ?_) (fun c11 => ?_)
      · have c11' := i_le c11
        exact hret _ _ _ dX6_lead_102 ⟨h5, o6⟩
      · have c11' := i_nle c11
        refine r_aload_n 0 C dX6_lead_15 rfl ?_
        refine gfX6_15 76 C (kS sC h5 kc_74) (xS sC h5 xc_74_3) dX6_lead_16 ?_
        refine r_iload_n 1 C dX6_lead_19 rfl ?_
        refine r_iald C (kS sC h5 kc_76) (vin (by omega) (by omega)) dX6_lead_20 ?_
        generalize (wI w4 76 (a1).toNatClampNeg) = v14
        refine r_iconst (v := (-1)) C dX6_lead_21 (by decide) ?_
        refine r_icmp_eq 102 C dX6_lead_22 (by decide) (fun c15 => ?_) (fun c15 => ?_)
        · have c15' := i_eq c15
          exact hret _ _ _ dX6_lead_102 ⟨h5, o6⟩
        · have c15' := i_ne c15
          refine r_aload_n 0 C dX6_lead_25 rfl ?_
          refine gfX6_22 21 C (kS sC h5 kc_74) (xS sC h5 xc_74_5) dX6_lead_26 ?_
          refine r_aload_n 0 C dX6_lead_29 rfl ?_
          refine gfX6_9 75 C (kS sC h5 kc_74) (xS sC h5 xc_74_2) dX6_lead_30 ?_
          refine r_iload_n 1 C dX6_lead_33 rfl ?_
          refine r_iald C (kS sC h5 kc_75) (vin (by omega) (by omega)) dX6_lead_34 ?_
          generalize (wI w4 75 (a1).toNatClampNeg) = v16
          refine r_aload_n 0 C dX6_lead_35 rfl ?_
          refine gfX6_15 76 C (kS sC h5 kc_74) (xS sC h5 xc_74_3) dX6_lead_36 ?_
          refine r_iload_n 1 C dX6_lead_39 rfl ?_
          refine r_iald C (kS sC h5 kc_76) (vin (by omega) (by omega)) dX6_lead_40 ?_
          generalize (wI w4 76 (a1).toNatClampNeg) = v17
          refine callVI C cwX6_79_V (ctX1_onward_21 _ _ w4 (sS sC h5) o6 v16 v17 ) (by decide) (kS sC h5 kc_21) rfl rfl rfl (Nat.le_of_ble_eq_true rfl) (by decide) dX6_lead_41 (fun r20 w19 y18 => ?_)
          show V x 0 0 w19 44 [(0, .ref (gz (xG x) + 74)), (1, .int a1), (2, .int u1)] [.int r20]
          obtain ⟨h21, o22⟩ := y18
          have h23 := Ch.tr h5 h21 (by decide) (by decide)
          refine r_istore_n [(3, .int r20), (0, .ref (gz (xG x) + 74)), (1, .int a1), (2, .int u1)] C dX6_lead_44 (by decide) rfl ?_
          refine r_aload_n 1 C dX6_lead_45 rfl ?_
          refine gfX6_9 75 C (kS sC h23 kc_74) (xS sC h23 xc_74_2) dX6_lead_46 ?_
          refine r_iload_n 2 C dX6_lead_49 rfl ?_
          refine r_iload_n 0 C dX6_lead_50 rfl ?_
          refine r_iconst (v := (-1)) C dX6_lead_51 (by decide) ?_
          refine r_icmp_ne 64 C dX6_lead_52 (by decide) (fun c24 => ?_) (fun c24 => ?_)
          · have c24' := i_ne c24
            refine r_iload_n 0 C dX6_lead_64 rfl ?_
            refine r_iast C (kS sC h23 kc_75) (vin (by omega) (by omega)) dX6_lead_65 (fun w25 e26 => ?_)
            have h27 := Ch.putS h23 e26 (by decide)
            have o28 := Inv.put0 o22 e26 (by decide)
            refine r_aload_n 1 C dX6_lead_66 rfl ?_
            refine gfX6_9 75 C (kS sC h27 kc_74) (xS sC h27 xc_74_2) dX6_lead_67 ?_
            refine r_iload_n 2 C dX6_lead_70 rfl ?_
            refine r_iald C (kS sC h27 kc_75) (vin (by omega) (by omega)) dX6_lead_71 ?_
            generalize (wI w25 75 (a1).toNatClampNeg) = v29
            refine r_aload_n 1 C dX6_lead_72 rfl ?_
            refine gfX6_15 76 C (kS sC h27 kc_74) (xS sC h27 xc_74_3) dX6_lead_73 ?_
            refine r_iload_n 2 C dX6_lead_76 rfl ?_
            refine r_iald C (kS sC h27 kc_76) (vin (by omega) (by omega)) dX6_lead_77 ?_
            generalize (wI w25 76 (a1).toNatClampNeg) = v30
            refine r_icmp_eq 89 C dX6_lead_78 (by decide) (fun c31 => ?_) (fun c31 => ?_)
            · have c31' := i_eq c31
              refine r_aload_n 1 C dX6_lead_89 rfl ?_
              refine gfX6_15 76 C (kS sC h27 kc_74) (xS sC h27 xc_74_3) dX6_lead_90 ?_
              refine r_iload_n 2 C dX6_lead_93 rfl ?_
              refine r_iconst (v := (-1)) C dX6_lead_94 (by decide) ?_
              refine r_iast C (kS sC h27 kc_76) (vin (by omega) (by omega)) dX6_lead_95 (fun w32 e33 => ?_)
              have h34 := Ch.putS h27 e33 (by decide)
              have o35 := Inv.put0 o28 e33 (by decide)
              obtain ⟨i36, e37⟩ : ∃ z : Int32, u1 + Int32.ofInt 1 = z := ⟨_, rfl⟩
              have i36' := iinc_ok e37 (by decide) (by omega) (by omega)
              refine r_iinc [(2, .int i36), (3, .int r20), (0, .ref (gz (xG x) + 74)), (1, .int a1)] 3 C dX6_lead_96 rfl e37 (by decide) rfl ?_
              refine r_goto 2 C dX6_lead_99 (by decide) ?_
              refine r_lv [2, 3, 0] rfl ?_
              exact ih9 i36 w32 h34 o35 (by omega) (by omega)
            · have c31' := i_ne c31
              refine r_aload_n 1 C dX6_lead_81 rfl ?_
              refine r_iload_n 2 C dX6_lead_82 rfl ?_
              refine callVI C cwX6_82_V (ctX6_fate_74 _ _ w25 (sS sC h27) o28 a1 ) (by decide) (kS sC h27 kc_74) rfl rfl rfl (Nat.le_of_ble_eq_true rfl) (by decide) dX6_lead_83 (fun r40 w39 y38 => ?_)
              show V x 0 0 w39 86 [(3, .int r20), (0, .ref (gz (xG x) + 74)), (1, .int a1), (2, .int u1)] [.int r40]
              obtain ⟨h41, o42⟩ := y38
              have h43 := Ch.tr h27 h41 (by decide) (by decide)
              refine r_if_eq 96 C dX6_lead_86 (by decide) (fun c44 => ?_) (fun c44 => ?_)
              · have c44' := i_eq c44
                obtain ⟨i45, e46⟩ : ∃ z : Int32, u1 + Int32.ofInt 1 = z := ⟨_, rfl⟩
                have i45' := iinc_ok e46 (by decide) (by omega) (by omega)
                refine r_iinc [(2, .int i45), (3, .int r20), (0, .ref (gz (xG x) + 74)), (1, .int a1)] 3 C dX6_lead_96 rfl e46 (by decide) rfl ?_
                refine r_goto 2 C dX6_lead_99 (by decide) ?_
                refine r_lv [2, 3, 0] rfl ?_
                exact ih9 i45 w39 h43 o42 (by omega) (by omega)
              · have c44' := i_ne c44
                refine r_aload_n 1 C dX6_lead_89 rfl ?_
                refine gfX6_15 76 C (kS sC h43 kc_74) (xS sC h43 xc_74_3) dX6_lead_90 ?_
                refine r_iload_n 2 C dX6_lead_93 rfl ?_
                refine r_iconst (v := (-1)) C dX6_lead_94 (by decide) ?_
                refine r_iast C (kS sC h43 kc_76) (vin (by omega) (by omega)) dX6_lead_95 (fun w47 e48 => ?_)
                have h49 := Ch.putS h43 e48 (by decide)
                have o50 := Inv.put0 o42 e48 (by decide)
                obtain ⟨i51, e52⟩ : ∃ z : Int32, u1 + Int32.ofInt 1 = z := ⟨_, rfl⟩
                have i51' := iinc_ok e52 (by decide) (by omega) (by omega)
                refine r_iinc [(2, .int i51), (3, .int r20), (0, .ref (gz (xG x) + 74)), (1, .int a1)] 3 C dX6_lead_96 rfl e52 (by decide) rfl ?_
                refine r_goto 2 C dX6_lead_99 (by decide) ?_
                refine r_lv [2, 3, 0] rfl ?_
                exact ih9 i51 w47 h49 o50 (by omega) (by omega)
          · have c24' := i_eq c24
            refine r_aload_n 1 C dX6_lead_55 rfl ?_
            refine gfX6_9 75 C (kS sC h23 kc_74) (xS sC h23 xc_74_2) dX6_lead_56 ?_
            refine r_iload_n 2 C dX6_lead_59 rfl ?_
            refine r_iald C (kS sC h23 kc_75) (vin (by omega) (by omega)) dX6_lead_60 ?_
            generalize (wI w19 75 (a1).toNatClampNeg) = v53
            refine r_goto 65 C dX6_lead_61 (by decide) ?_
            refine r_iast C (kS sC h23 kc_75) (vin (by omega) (by omega)) dX6_lead_65 (fun w54 e55 => ?_)
            have h56 := Ch.putS h23 e55 (by decide)
            have o57 := Inv.put0 o22 e55 (by decide)
            refine r_aload_n 1 C dX6_lead_66 rfl ?_
            refine gfX6_9 75 C (kS sC h56 kc_74) (xS sC h56 xc_74_2) dX6_lead_67 ?_
            refine r_iload_n 2 C dX6_lead_70 rfl ?_
            refine r_iald C (kS sC h56 kc_75) (vin (by omega) (by omega)) dX6_lead_71 ?_
            generalize (wI w54 75 (a1).toNatClampNeg) = v58
            refine r_aload_n 1 C dX6_lead_72 rfl ?_
            refine gfX6_15 76 C (kS sC h56 kc_74) (xS sC h56 xc_74_3) dX6_lead_73 ?_
            refine r_iload_n 2 C dX6_lead_76 rfl ?_
            refine r_iald C (kS sC h56 kc_76) (vin (by omega) (by omega)) dX6_lead_77 ?_
            generalize (wI w54 76 (a1).toNatClampNeg) = v59
            refine r_icmp_eq 89 C dX6_lead_78 (by decide) (fun c60 => ?_) (fun c60 => ?_)
            · have c60' := i_eq c60
              refine r_aload_n 1 C dX6_lead_89 rfl ?_
              refine gfX6_15 76 C (kS sC h56 kc_74) (xS sC h56 xc_74_3) dX6_lead_90 ?_
              refine r_iload_n 2 C dX6_lead_93 rfl ?_
              refine r_iconst (v := (-1)) C dX6_lead_94 (by decide) ?_
              refine r_iast C (kS sC h56 kc_76) (vin (by omega) (by omega)) dX6_lead_95 (fun w61 e62 => ?_)
              have h63 := Ch.putS h56 e62 (by decide)
              have o64 := Inv.put0 o57 e62 (by decide)
              obtain ⟨i65, e66⟩ : ∃ z : Int32, u1 + Int32.ofInt 1 = z := ⟨_, rfl⟩
              have i65' := iinc_ok e66 (by decide) (by omega) (by omega)
              refine r_iinc [(2, .int i65), (3, .int r20), (0, .ref (gz (xG x) + 74)), (1, .int a1)] 3 C dX6_lead_96 rfl e66 (by decide) rfl ?_
              refine r_goto 2 C dX6_lead_99 (by decide) ?_
              refine r_lv [2, 3, 0] rfl ?_
              exact ih9 i65 w61 h63 o64 (by omega) (by omega)
            · have c60' := i_ne c60
              refine r_aload_n 1 C dX6_lead_81 rfl ?_
              refine r_iload_n 2 C dX6_lead_82 rfl ?_
              refine callVI C cwX6_82_V (ctX6_fate_74 _ _ w54 (sS sC h56) o57 a1 ) (by decide) (kS sC h56 kc_74) rfl rfl rfl (Nat.le_of_ble_eq_true rfl) (by decide) dX6_lead_83 (fun r69 w68 y67 => ?_)
              show V x 0 0 w68 86 [(3, .int r20), (0, .ref (gz (xG x) + 74)), (1, .int a1), (2, .int u1)] [.int r69]
              obtain ⟨h70, o71⟩ := y67
              have h72 := Ch.tr h56 h70 (by decide) (by decide)
              refine r_if_eq 96 C dX6_lead_86 (by decide) (fun c73 => ?_) (fun c73 => ?_)
              · have c73' := i_eq c73
                obtain ⟨i74, e75⟩ : ∃ z : Int32, u1 + Int32.ofInt 1 = z := ⟨_, rfl⟩
                have i74' := iinc_ok e75 (by decide) (by omega) (by omega)
                refine r_iinc [(2, .int i74), (3, .int r20), (0, .ref (gz (xG x) + 74)), (1, .int a1)] 3 C dX6_lead_96 rfl e75 (by decide) rfl ?_
                refine r_goto 2 C dX6_lead_99 (by decide) ?_
                refine r_lv [2, 3, 0] rfl ?_
                exact ih9 i74 w68 h72 o71 (by omega) (by omega)
              · have c73' := i_ne c73
                refine r_aload_n 1 C dX6_lead_89 rfl ?_
                refine gfX6_15 76 C (kS sC h72 kc_74) (xS sC h72 xc_74_3) dX6_lead_90 ?_
                refine r_iload_n 2 C dX6_lead_93 rfl ?_
                refine r_iconst (v := (-1)) C dX6_lead_94 (by decide) ?_
                refine r_iast C (kS sC h72 kc_76) (vin (by omega) (by omega)) dX6_lead_95 (fun w76 e77 => ?_)
                have h78 := Ch.putS h72 e77 (by decide)
                have o79 := Inv.put0 o71 e77 (by decide)
                obtain ⟨i80, e81⟩ : ∃ z : Int32, u1 + Int32.ofInt 1 = z := ⟨_, rfl⟩
                have i80' := iinc_ok e81 (by decide) (by omega) (by omega)
                refine r_iinc [(2, .int i80), (3, .int r20), (0, .ref (gz (xG x) + 74)), (1, .int a1)] 3 C dX6_lead_96 rfl e81 (by decide) rfl ?_
                refine r_goto 2 C dX6_lead_99 (by decide) ?_
                refine r_lv [2, 3, 0] rfl ?_
                exact ih9 i80 w76 h78 o79 (by omega) (by omega)
  refine r_iconst (v := 0) C dX6_lead_0 (by decide) ?_
  refine r_istore_n [(2, .int 0), (0, .ref (gz (xG x) + 74)), (1, .int a1)] C dX6_lead_1 (by decide) rfl ?_
  refine r_lv [1, 2, 0] rfl ?_
  exact LP2 4294967296 0 w h0 o0 (by omega) (by omega)
set_option maxHeartbeats 4000000 in
set_option maxRecDepth 100000 in
theorem ctX6_hears_77 (l : Launch) (G : Gt) (w : Wv) (sC : Str KC XC w) (o0 : Inv RC w) (a1 : Int32) (a2 : Int32) : CtI l G yX6_hears cX6_hears 4 .boolean ({ frames := 2, cells := 0, slots := 0, locals := 50 } : Room) [.ref (gz G + 77), .int a1, .int a2] w (fun r w' => Ch [25, 26, 27] [] w w' ∧ Inv RC w' ∧ ((0 ≤ r.toInt ∧ r.toInt ≤ 1))) := by
  refine enterI (by decide) (Nat.le_of_ble_eq_true rfl) ?_
  intro x el eG C hret
  subst el; subst eG
  show V x 0 0 w 0 [(0, .ref (gz (xG x) + 77)), (1, .int a1), (2, .int a2)] []
  have h0 : Ch [25, 26, 27] [] w w := Ch.rf
  have qm1 : ((-1) : Int32).toInt = (-1) := by decide
  have q0 : (0 : Int32).toInt = 0 := by decide
  have q1 : (1 : Int32).toInt = 1 := by decide
  refine r_aload_n 0 C dX6_hears_0 rfl ?_
  refine gfX6_18 3 C (kS sC h0 kc_77) (xS sC h0 xc_77_4) dX6_hears_1 ?_
  refine r_iload_n 1 C dX6_hears_4 rfl ?_
  refine r_iload_n 2 C dX6_hears_5 rfl ?_
  refine callVI C cwX6_63_V (ctX9_isFollower_3 _ _ w (sS sC h0) o0 a1 a2 ) (by decide) (kS sC h0 kc_3) rfl rfl rfl (Nat.le_of_ble_eq_true rfl) (by decide) dX6_hears_6 (fun r3 w2 y1 => ?_)
  show V x 0 0 w2 9 [(0, .ref (gz (xG x) + 77)), (1, .int a1), (2, .int a2)] [.int r3]
  obtain ⟨h4, o5, g6⟩ := y1
  have h7 := Ch.tr h0 h4 (by decide) (by decide)
  refine r_if_eq 20 C dX6_hears_9 (by decide) (fun c8 => ?_) (fun c8 => ?_)
  · have c8' := i_eq c8
    refine r_iconst (v := 0) C dX6_hears_20 (by decide) ?_
    exact hret _ _ _ _ dX6_hears_21 (nar_z (z_of (by omega))) ⟨h7, o5, by omega⟩
  · have c8' := i_ne c8
    refine r_aload_n 0 C dX6_hears_12 rfl ?_
    refine r_iload_n 1 C dX6_hears_13 rfl ?_
    refine callVI C cwX6_66_V (ctX6_isHere_77 _ _ w2 (sS sC h7) o5 a1 ) (by decide) (kS sC h7 kc_77) rfl rfl rfl (Nat.le_of_ble_eq_true rfl) (by decide) dX6_hears_14 (fun r11 w10 y9 => ?_)
    show V x 0 0 w10 17 [(0, .ref (gz (xG x) + 77)), (1, .int a1), (2, .int a2)] [.int r11]
    obtain ⟨h12, o13, g14⟩ := y9
    have h15 := Ch.tr h7 h12 (by decide) (by decide)
    refine r_if_ne 22 C dX6_hears_17 (by decide) (fun c16 => ?_) (fun c16 => ?_)
    · have c16' := i_ne c16
      refine r_aload_n 0 C dX6_hears_22 rfl ?_
      refine gfX6_22 21 C (kS sC h15 kc_77) (xS sC h15 xc_77_5) dX6_hears_23 ?_
      refine r_aload_n 0 C dX6_hears_26 rfl ?_
      refine gfX6_9 78 C (kS sC h15 kc_77) (xS sC h15 xc_77_2) dX6_hears_27 ?_
      refine r_iload_n 1 C dX6_hears_30 rfl ?_
      refine r_iald C (kS sC h15 kc_78) (vin (by omega) (by omega)) dX6_hears_31 ?_
      generalize (wI w10 78 (a1).toNatClampNeg) = v17
      refine r_aload_n 0 C dX6_hears_32 rfl ?_
      refine gfX6_32 (v := (wI w 77 0)) C (kS sC h15 kc_77) (h12.I (by decide) (by decide) (h4.I (by decide) (by decide) rfl)) dX6_hears_33 ?_
      refine callVI C cwX6_70_V (ctX1_steps_21 _ _ w10 (sS sC h15) o13 v17 (wI w 77 0) ) (by decide) (kS sC h15 kc_21) rfl rfl rfl (Nat.le_of_ble_eq_true rfl) (by decide) dX6_hears_36 (fun r20 w19 y18 => ?_)
      show V x 0 0 w19 39 [(0, .ref (gz (xG x) + 77)), (1, .int a1), (2, .int a2)] [.int r20]
      obtain ⟨h21, o22⟩ := y18
      have h23 := Ch.tr h15 h21 (by decide) (by decide)
      refine r_istore_n [(3, .int r20), (0, .ref (gz (xG x) + 77)), (1, .int a1), (2, .int a2)] C dX6_hears_39 (by decide) rfl ?_
      refine r_iload_n 0 C dX6_hears_40 rfl ?_
      refine r_iconst (v := (-1)) C dX6_hears_41 (by decide) ?_
      refine r_icmp_eq 62 C dX6_hears_42 (by decide) (fun c24 => ?_) (fun c24 => ?_)
      · have c24' := i_eq c24
        refine r_iconst (v := 0) C dX6_hears_62 (by decide) ?_
        exact hret _ _ _ _ dX6_hears_63 (nar_z (z_of (by omega))) ⟨h23, o22, by omega⟩
      · have c24' := i_ne c24
        refine r_iload_n 0 C dX6_hears_45 rfl ?_
        refine r_aload_n 1 C dX6_hears_46 rfl ?_
        refine gfX6_18 3 C (kS sC h23 kc_77) (xS sC h23 xc_77_4) dX6_hears_47 ?_
        refine gfX6_73 11 C (kS sC h23 kc_3) (xS sC h23 xc_3_16) dX6_hears_50 ?_
        refine r_iload_n 3 C dX6_hears_53 rfl ?_
        refine r_iald C (kS sC h23 kc_11) (vin (by omega) (by omega)) dX6_hears_54 ?_
        generalize (wI w19 11 (a2).toNatClampNeg) = v25
        have k27 := i_rng r20
        have k28 := i_rng v25
        refine r_icmp_gt 62 C dX6_hears_55 (by decide) (fun c26 => ?_) (fun c26 => ?_)
        · have c26' := i_lt c26
          refine r_iconst (v := 0) C dX6_hears_62 (by decide) ?_
          exact hret _ _ _ _ dX6_hears_63 (nar_z (z_of (by omega))) ⟨h23, o22, by omega⟩
        · have c26' := i_nlt c26
          refine r_iconst (v := 1) C dX6_hears_58 (by decide) ?_
          refine r_goto 63 C dX6_hears_59 (by decide) ?_
          exact hret _ _ _ _ dX6_hears_63 (nar_z (z_of (by omega))) ⟨h23, o22, by omega⟩
    · have c16' := i_eq c16
      refine r_iconst (v := 0) C dX6_hears_20 (by decide) ?_
      exact hret _ _ _ _ dX6_hears_21 (nar_z (z_of (by omega))) ⟨h15, o13, by omega⟩
set_option maxHeartbeats 4000000 in
set_option maxRecDepth 100000 in
theorem ctX6_lead_77 (l : Launch) (G : Gt) (w : Wv) (sC : Str KC XC w) (o0 : Inv RC w) (a1 : Int32) (b1 : 0 ≤ a1.toInt ∧ a1.toInt ≤ 5) : CtV l G yX6_lead cX6_lead 4 ({ frames := 2, cells := 0, slots := 0, locals := 54 } : Room) [.ref (gz G + 77), .int a1] w (fun w' => Ch [25, 26, 27, 78, 79] [] w w' ∧ Inv RC w') := by
  refine enterV (by decide) (Nat.le_of_ble_eq_true rfl) ?_
  intro x el eG C hnm hret
  subst el; subst eG
  show V x 0 0 w 0 [(0, .ref (gz (xG x) + 77)), (1, .int a1)] []
  have h0 : Ch [25, 26, 27, 78, 79] [] w w := Ch.rf
  have qm1 : ((-1) : Int32).toInt = (-1) := by decide
  have q0 : (0 : Int32).toInt = 0 := by decide
  have LP2 : ∀ (f3 : Nat) (u1 : Int32) (w4 : Wv), Ch [25, 26, 27, 78, 79] [] w w4 → Inv RC w4 → (0 ≤ u1.toInt ∧ u1.toInt ≤ 2147483647) → 2147483647 - u1.toInt < f3 → V x 0 0 w4 2 [(0, .ref (gz (xG x) + 77)), (1, .int a1), (2, .int u1)] [] := by
    intro f3
    induction f3 with
    | zero => intro u1 w4 h5 o6 z7 z8; exfalso; omega
    | succ f3 ih9 =>
      intro u1 w4 h5 o6 z7 z8
      refine r_iload_n 2 C dX6_lead_2 rfl ?_
      refine r_aload_n 0 C dX6_lead_3 rfl ?_
      refine gfX6_18 3 C (kS sC h5 kc_77) (xS sC h5 xc_77_4) dX6_lead_4 ?_
      refine gfX6_76 8 C (kS sC h5 kc_3) (xS sC h5 xc_3_13) dX6_lead_7 ?_
      refine r_iload_n 1 C dX6_lead_10 rfl ?_
      refine r_iald C (kS sC h5 kc_8) (vin (by omega) (by omega)) dX6_lead_11 ?_
      generalize (wI w4 8 (a1).toNatClampNeg) = v10
      have k12 := i_rng u1
      have k13 := i_rng v10
      refine r_icmp_ge 102 C dX6_lead_12 (by decide) (fun c11 => ?_) (fun c11 => ?_)
      · have c11' := i_le c11
        exact hret _ _ _ dX6_lead_102 ⟨h5, o6⟩
      · have c11' := i_nle c11
        refine r_aload_n 0 C dX6_lead_15 rfl ?_
        refine gfX6_15 79 C (kS sC h5 kc_77) (xS sC h5 xc_77_3) dX6_lead_16 ?_
        refine r_iload_n 1 C dX6_lead_19 rfl ?_
        refine r_iald C (kS sC h5 kc_79) (vin (by omega) (by omega)) dX6_lead_20 ?_
        generalize (wI w4 79 (a1).toNatClampNeg) = v14
        refine r_iconst (v := (-1)) C dX6_lead_21 (by decide) ?_
        refine r_icmp_eq 102 C dX6_lead_22 (by decide) (fun c15 => ?_) (fun c15 => ?_)
        · have c15' := i_eq c15
          exact hret _ _ _ dX6_lead_102 ⟨h5, o6⟩
        · have c15' := i_ne c15
          refine r_aload_n 0 C dX6_lead_25 rfl ?_
          refine gfX6_22 21 C (kS sC h5 kc_77) (xS sC h5 xc_77_5) dX6_lead_26 ?_
          refine r_aload_n 0 C dX6_lead_29 rfl ?_
          refine gfX6_9 78 C (kS sC h5 kc_77) (xS sC h5 xc_77_2) dX6_lead_30 ?_
          refine r_iload_n 1 C dX6_lead_33 rfl ?_
          refine r_iald C (kS sC h5 kc_78) (vin (by omega) (by omega)) dX6_lead_34 ?_
          generalize (wI w4 78 (a1).toNatClampNeg) = v16
          refine r_aload_n 0 C dX6_lead_35 rfl ?_
          refine gfX6_15 79 C (kS sC h5 kc_77) (xS sC h5 xc_77_3) dX6_lead_36 ?_
          refine r_iload_n 1 C dX6_lead_39 rfl ?_
          refine r_iald C (kS sC h5 kc_79) (vin (by omega) (by omega)) dX6_lead_40 ?_
          generalize (wI w4 79 (a1).toNatClampNeg) = v17
          refine callVI C cwX6_79_V (ctX1_onward_21 _ _ w4 (sS sC h5) o6 v16 v17 ) (by decide) (kS sC h5 kc_21) rfl rfl rfl (Nat.le_of_ble_eq_true rfl) (by decide) dX6_lead_41 (fun r20 w19 y18 => ?_)
          show V x 0 0 w19 44 [(0, .ref (gz (xG x) + 77)), (1, .int a1), (2, .int u1)] [.int r20]
          obtain ⟨h21, o22⟩ := y18
          have h23 := Ch.tr h5 h21 (by decide) (by decide)
          refine r_istore_n [(3, .int r20), (0, .ref (gz (xG x) + 77)), (1, .int a1), (2, .int u1)] C dX6_lead_44 (by decide) rfl ?_
          refine r_aload_n 1 C dX6_lead_45 rfl ?_
          refine gfX6_9 78 C (kS sC h23 kc_77) (xS sC h23 xc_77_2) dX6_lead_46 ?_
          refine r_iload_n 2 C dX6_lead_49 rfl ?_
          refine r_iload_n 0 C dX6_lead_50 rfl ?_
          refine r_iconst (v := (-1)) C dX6_lead_51 (by decide) ?_
          refine r_icmp_ne 64 C dX6_lead_52 (by decide) (fun c24 => ?_) (fun c24 => ?_)
          · have c24' := i_ne c24
            refine r_iload_n 0 C dX6_lead_64 rfl ?_
            refine r_iast C (kS sC h23 kc_78) (vin (by omega) (by omega)) dX6_lead_65 (fun w25 e26 => ?_)
            have h27 := Ch.putS h23 e26 (by decide)
            have o28 := Inv.put0 o22 e26 (by decide)
            refine r_aload_n 1 C dX6_lead_66 rfl ?_
            refine gfX6_9 78 C (kS sC h27 kc_77) (xS sC h27 xc_77_2) dX6_lead_67 ?_
            refine r_iload_n 2 C dX6_lead_70 rfl ?_
            refine r_iald C (kS sC h27 kc_78) (vin (by omega) (by omega)) dX6_lead_71 ?_
            generalize (wI w25 78 (a1).toNatClampNeg) = v29
            refine r_aload_n 1 C dX6_lead_72 rfl ?_
            refine gfX6_15 79 C (kS sC h27 kc_77) (xS sC h27 xc_77_3) dX6_lead_73 ?_
            refine r_iload_n 2 C dX6_lead_76 rfl ?_
            refine r_iald C (kS sC h27 kc_79) (vin (by omega) (by omega)) dX6_lead_77 ?_
            generalize (wI w25 79 (a1).toNatClampNeg) = v30
            refine r_icmp_eq 89 C dX6_lead_78 (by decide) (fun c31 => ?_) (fun c31 => ?_)
            · have c31' := i_eq c31
              refine r_aload_n 1 C dX6_lead_89 rfl ?_
              refine gfX6_15 79 C (kS sC h27 kc_77) (xS sC h27 xc_77_3) dX6_lead_90 ?_
              refine r_iload_n 2 C dX6_lead_93 rfl ?_
              refine r_iconst (v := (-1)) C dX6_lead_94 (by decide) ?_
              refine r_iast C (kS sC h27 kc_79) (vin (by omega) (by omega)) dX6_lead_95 (fun w32 e33 => ?_)
              have h34 := Ch.putS h27 e33 (by decide)
              have o35 := Inv.put0 o28 e33 (by decide)
              obtain ⟨i36, e37⟩ : ∃ z : Int32, u1 + Int32.ofInt 1 = z := ⟨_, rfl⟩
              have i36' := iinc_ok e37 (by decide) (by omega) (by omega)
              refine r_iinc [(2, .int i36), (3, .int r20), (0, .ref (gz (xG x) + 77)), (1, .int a1)] 3 C dX6_lead_96 rfl e37 (by decide) rfl ?_
              refine r_goto 2 C dX6_lead_99 (by decide) ?_
              refine r_lv [2, 3, 0] rfl ?_
              exact ih9 i36 w32 h34 o35 (by omega) (by omega)
            · have c31' := i_ne c31
              refine r_aload_n 1 C dX6_lead_81 rfl ?_
              refine r_iload_n 2 C dX6_lead_82 rfl ?_
              refine callVI C cwX6_82_V (ctX6_fate_77 _ _ w25 (sS sC h27) o28 a1 ) (by decide) (kS sC h27 kc_77) rfl rfl rfl (Nat.le_of_ble_eq_true rfl) (by decide) dX6_lead_83 (fun r40 w39 y38 => ?_)
              show V x 0 0 w39 86 [(3, .int r20), (0, .ref (gz (xG x) + 77)), (1, .int a1), (2, .int u1)] [.int r40]
              obtain ⟨h41, o42⟩ := y38
              have h43 := Ch.tr h27 h41 (by decide) (by decide)
              refine r_if_eq 96 C dX6_lead_86 (by decide) (fun c44 => ?_) (fun c44 => ?_)
              · have c44' := i_eq c44
                obtain ⟨i45, e46⟩ : ∃ z : Int32, u1 + Int32.ofInt 1 = z := ⟨_, rfl⟩
                have i45' := iinc_ok e46 (by decide) (by omega) (by omega)
                refine r_iinc [(2, .int i45), (3, .int r20), (0, .ref (gz (xG x) + 77)), (1, .int a1)] 3 C dX6_lead_96 rfl e46 (by decide) rfl ?_
                refine r_goto 2 C dX6_lead_99 (by decide) ?_
                refine r_lv [2, 3, 0] rfl ?_
                exact ih9 i45 w39 h43 o42 (by omega) (by omega)
              · have c44' := i_ne c44
                refine r_aload_n 1 C dX6_lead_89 rfl ?_
                refine gfX6_15 79 C (kS sC h43 kc_77) (xS sC h43 xc_77_3) dX6_lead_90 ?_
                refine r_iload_n 2 C dX6_lead_93 rfl ?_
                refine r_iconst (v := (-1)) C dX6_lead_94 (by decide) ?_
                refine r_iast C (kS sC h43 kc_79) (vin (by omega) (by omega)) dX6_lead_95 (fun w47 e48 => ?_)
                have h49 := Ch.putS h43 e48 (by decide)
                have o50 := Inv.put0 o42 e48 (by decide)
                obtain ⟨i51, e52⟩ : ∃ z : Int32, u1 + Int32.ofInt 1 = z := ⟨_, rfl⟩
                have i51' := iinc_ok e52 (by decide) (by omega) (by omega)
                refine r_iinc [(2, .int i51), (3, .int r20), (0, .ref (gz (xG x) + 77)), (1, .int a1)] 3 C dX6_lead_96 rfl e52 (by decide) rfl ?_
                refine r_goto 2 C dX6_lead_99 (by decide) ?_
                refine r_lv [2, 3, 0] rfl ?_
                exact ih9 i51 w47 h49 o50 (by omega) (by omega)
          · have c24' := i_eq c24
            refine r_aload_n 1 C dX6_lead_55 rfl ?_
            refine gfX6_9 78 C (kS sC h23 kc_77) (xS sC h23 xc_77_2) dX6_lead_56 ?_
            refine r_iload_n 2 C dX6_lead_59 rfl ?_
            refine r_iald C (kS sC h23 kc_78) (vin (by omega) (by omega)) dX6_lead_60 ?_
            generalize (wI w19 78 (a1).toNatClampNeg) = v53
            refine r_goto 65 C dX6_lead_61 (by decide) ?_
            refine r_iast C (kS sC h23 kc_78) (vin (by omega) (by omega)) dX6_lead_65 (fun w54 e55 => ?_)
            have h56 := Ch.putS h23 e55 (by decide)
            have o57 := Inv.put0 o22 e55 (by decide)
            refine r_aload_n 1 C dX6_lead_66 rfl ?_
            refine gfX6_9 78 C (kS sC h56 kc_77) (xS sC h56 xc_77_2) dX6_lead_67 ?_
            refine r_iload_n 2 C dX6_lead_70 rfl ?_
            refine r_iald C (kS sC h56 kc_78) (vin (by omega) (by omega)) dX6_lead_71 ?_
            generalize (wI w54 78 (a1).toNatClampNeg) = v58
            refine r_aload_n 1 C dX6_lead_72 rfl ?_
            refine gfX6_15 79 C (kS sC h56 kc_77) (xS sC h56 xc_77_3) dX6_lead_73 ?_
            refine r_iload_n 2 C dX6_lead_76 rfl ?_
            refine r_iald C (kS sC h56 kc_79) (vin (by omega) (by omega)) dX6_lead_77 ?_
            generalize (wI w54 79 (a1).toNatClampNeg) = v59
            refine r_icmp_eq 89 C dX6_lead_78 (by decide) (fun c60 => ?_) (fun c60 => ?_)
            · have c60' := i_eq c60
              refine r_aload_n 1 C dX6_lead_89 rfl ?_
              refine gfX6_15 79 C (kS sC h56 kc_77) (xS sC h56 xc_77_3) dX6_lead_90 ?_
              refine r_iload_n 2 C dX6_lead_93 rfl ?_
              refine r_iconst (v := (-1)) C dX6_lead_94 (by decide) ?_
              refine r_iast C (kS sC h56 kc_79) (vin (by omega) (by omega)) dX6_lead_95 (fun w61 e62 => ?_)
              have h63 := Ch.putS h56 e62 (by decide)
              have o64 := Inv.put0 o57 e62 (by decide)
              obtain ⟨i65, e66⟩ : ∃ z : Int32, u1 + Int32.ofInt 1 = z := ⟨_, rfl⟩
              have i65' := iinc_ok e66 (by decide) (by omega) (by omega)
              refine r_iinc [(2, .int i65), (3, .int r20), (0, .ref (gz (xG x) + 77)), (1, .int a1)] 3 C dX6_lead_96 rfl e66 (by decide) rfl ?_
              refine r_goto 2 C dX6_lead_99 (by decide) ?_
              refine r_lv [2, 3, 0] rfl ?_
              exact ih9 i65 w61 h63 o64 (by omega) (by omega)
            · have c60' := i_ne c60
              refine r_aload_n 1 C dX6_lead_81 rfl ?_
              refine r_iload_n 2 C dX6_lead_82 rfl ?_
              refine callVI C cwX6_82_V (ctX6_fate_77 _ _ w54 (sS sC h56) o57 a1 ) (by decide) (kS sC h56 kc_77) rfl rfl rfl (Nat.le_of_ble_eq_true rfl) (by decide) dX6_lead_83 (fun r69 w68 y67 => ?_)
              show V x 0 0 w68 86 [(3, .int r20), (0, .ref (gz (xG x) + 77)), (1, .int a1), (2, .int u1)] [.int r69]
              obtain ⟨h70, o71⟩ := y67
              have h72 := Ch.tr h56 h70 (by decide) (by decide)
              refine r_if_eq 96 C dX6_lead_86 (by decide) (fun c73 => ?_) (fun c73 => ?_)
              · have c73' := i_eq c73
                obtain ⟨i74, e75⟩ : ∃ z : Int32, u1 + Int32.ofInt 1 = z := ⟨_, rfl⟩
                have i74' := iinc_ok e75 (by decide) (by omega) (by omega)
                refine r_iinc [(2, .int i74), (3, .int r20), (0, .ref (gz (xG x) + 77)), (1, .int a1)] 3 C dX6_lead_96 rfl e75 (by decide) rfl ?_
                refine r_goto 2 C dX6_lead_99 (by decide) ?_
                refine r_lv [2, 3, 0] rfl ?_
                exact ih9 i74 w68 h72 o71 (by omega) (by omega)
              · have c73' := i_ne c73
                refine r_aload_n 1 C dX6_lead_89 rfl ?_
                refine gfX6_15 79 C (kS sC h72 kc_77) (xS sC h72 xc_77_3) dX6_lead_90 ?_
                refine r_iload_n 2 C dX6_lead_93 rfl ?_
                refine r_iconst (v := (-1)) C dX6_lead_94 (by decide) ?_
                refine r_iast C (kS sC h72 kc_79) (vin (by omega) (by omega)) dX6_lead_95 (fun w76 e77 => ?_)
                have h78 := Ch.putS h72 e77 (by decide)
                have o79 := Inv.put0 o71 e77 (by decide)
                obtain ⟨i80, e81⟩ : ∃ z : Int32, u1 + Int32.ofInt 1 = z := ⟨_, rfl⟩
                have i80' := iinc_ok e81 (by decide) (by omega) (by omega)
                refine r_iinc [(2, .int i80), (3, .int r20), (0, .ref (gz (xG x) + 77)), (1, .int a1)] 3 C dX6_lead_96 rfl e81 (by decide) rfl ?_
                refine r_goto 2 C dX6_lead_99 (by decide) ?_
                refine r_lv [2, 3, 0] rfl ?_
                exact ih9 i80 w76 h78 o79 (by omega) (by omega)
  refine r_iconst (v := 0) C dX6_lead_0 (by decide) ?_
  refine r_istore_n [(2, .int 0), (0, .ref (gz (xG x) + 77)), (1, .int a1)] C dX6_lead_1 (by decide) rfl ?_
  refine r_lv [1, 2, 0] rfl ?_
  exact LP2 4294967296 0 w h0 o0 (by omega) (by omega)
set_option maxHeartbeats 4000000 in
set_option maxRecDepth 100000 in
theorem ctX6_hears_88 (l : Launch) (G : Gt) (w : Wv) (sC : Str KC XC w) (o0 : Inv RC w) (a1 : Int32) (a2 : Int32) : CtI l G yX6_hears cX6_hears 4 .boolean ({ frames := 2, cells := 0, slots := 0, locals := 50 } : Room) [.ref (gz G + 88), .int a1, .int a2] w (fun r w' => Ch [25, 26, 27] [] w w' ∧ Inv RC w' ∧ ((0 ≤ r.toInt ∧ r.toInt ≤ 1))) := by
  refine enterI (by decide) (Nat.le_of_ble_eq_true rfl) ?_
  intro x el eG C hret
  subst el; subst eG
  show V x 0 0 w 0 [(0, .ref (gz (xG x) + 88)), (1, .int a1), (2, .int a2)] []
  have h0 : Ch [25, 26, 27] [] w w := Ch.rf
  have qm1 : ((-1) : Int32).toInt = (-1) := by decide
  have q0 : (0 : Int32).toInt = 0 := by decide
  have q1 : (1 : Int32).toInt = 1 := by decide
  refine r_aload_n 0 C dX6_hears_0 rfl ?_
  refine gfX6_18 3 C (kS sC h0 kc_88) (xS sC h0 xc_88_4) dX6_hears_1 ?_
  refine r_iload_n 1 C dX6_hears_4 rfl ?_
  refine r_iload_n 2 C dX6_hears_5 rfl ?_
  refine callVI C cwX6_63_V (ctX9_isFollower_3 _ _ w (sS sC h0) o0 a1 a2 ) (by decide) (kS sC h0 kc_3) rfl rfl rfl (Nat.le_of_ble_eq_true rfl) (by decide) dX6_hears_6 (fun r3 w2 y1 => ?_)
  show V x 0 0 w2 9 [(0, .ref (gz (xG x) + 88)), (1, .int a1), (2, .int a2)] [.int r3]
  obtain ⟨h4, o5, g6⟩ := y1
  have h7 := Ch.tr h0 h4 (by decide) (by decide)
  refine r_if_eq 20 C dX6_hears_9 (by decide) (fun c8 => ?_) (fun c8 => ?_)
  · have c8' := i_eq c8
    refine r_iconst (v := 0) C dX6_hears_20 (by decide) ?_
    exact hret _ _ _ _ dX6_hears_21 (nar_z (z_of (by omega))) ⟨h7, o5, by omega⟩
  · have c8' := i_ne c8
    refine r_aload_n 0 C dX6_hears_12 rfl ?_
    refine r_iload_n 1 C dX6_hears_13 rfl ?_
    refine callVI C cwX6_66_V (ctX6_isHere_88 _ _ w2 (sS sC h7) o5 a1 ) (by decide) (kS sC h7 kc_88) rfl rfl rfl (Nat.le_of_ble_eq_true rfl) (by decide) dX6_hears_14 (fun r11 w10 y9 => ?_)
    show V x 0 0 w10 17 [(0, .ref (gz (xG x) + 88)), (1, .int a1), (2, .int a2)] [.int r11]
    obtain ⟨h12, o13, g14⟩ := y9
    have h15 := Ch.tr h7 h12 (by decide) (by decide)
    refine r_if_ne 22 C dX6_hears_17 (by decide) (fun c16 => ?_) (fun c16 => ?_)
    · have c16' := i_ne c16
      refine r_aload_n 0 C dX6_hears_22 rfl ?_
      refine gfX6_22 21 C (kS sC h15 kc_88) (xS sC h15 xc_88_5) dX6_hears_23 ?_
      refine r_aload_n 0 C dX6_hears_26 rfl ?_
      refine gfX6_9 89 C (kS sC h15 kc_88) (xS sC h15 xc_88_2) dX6_hears_27 ?_
      refine r_iload_n 1 C dX6_hears_30 rfl ?_
      refine r_iald C (kS sC h15 kc_89) (vin (by omega) (by omega)) dX6_hears_31 ?_
      generalize (wI w10 89 (a1).toNatClampNeg) = v17
      refine r_aload_n 0 C dX6_hears_32 rfl ?_
      refine gfX6_32 (v := (wI w 88 0)) C (kS sC h15 kc_88) (h12.I (by decide) (by decide) (h4.I (by decide) (by decide) rfl)) dX6_hears_33 ?_
      refine callVI C cwX6_70_V (ctX1_steps_21 _ _ w10 (sS sC h15) o13 v17 (wI w 88 0) ) (by decide) (kS sC h15 kc_21) rfl rfl rfl (Nat.le_of_ble_eq_true rfl) (by decide) dX6_hears_36 (fun r20 w19 y18 => ?_)
      show V x 0 0 w19 39 [(0, .ref (gz (xG x) + 88)), (1, .int a1), (2, .int a2)] [.int r20]
      obtain ⟨h21, o22⟩ := y18
      have h23 := Ch.tr h15 h21 (by decide) (by decide)
      refine r_istore_n [(3, .int r20), (0, .ref (gz (xG x) + 88)), (1, .int a1), (2, .int a2)] C dX6_hears_39 (by decide) rfl ?_
      refine r_iload_n 0 C dX6_hears_40 rfl ?_
      refine r_iconst (v := (-1)) C dX6_hears_41 (by decide) ?_
      refine r_icmp_eq 62 C dX6_hears_42 (by decide) (fun c24 => ?_) (fun c24 => ?_)
      · have c24' := i_eq c24
        refine r_iconst (v := 0) C dX6_hears_62 (by decide) ?_
        exact hret _ _ _ _ dX6_hears_63 (nar_z (z_of (by omega))) ⟨h23, o22, by omega⟩
      · have c24' := i_ne c24
        refine r_iload_n 0 C dX6_hears_45 rfl ?_
        refine r_aload_n 1 C dX6_hears_46 rfl ?_
        refine gfX6_18 3 C (kS sC h23 kc_88) (xS sC h23 xc_88_4) dX6_hears_47 ?_
        refine gfX6_73 11 C (kS sC h23 kc_3) (xS sC h23 xc_3_16) dX6_hears_50 ?_
        refine r_iload_n 3 C dX6_hears_53 rfl ?_
        refine r_iald C (kS sC h23 kc_11) (vin (by omega) (by omega)) dX6_hears_54 ?_
        generalize (wI w19 11 (a2).toNatClampNeg) = v25
        have k27 := i_rng r20
        have k28 := i_rng v25
        refine r_icmp_gt 62 C dX6_hears_55 (by decide) (fun c26 => ?_) (fun c26 => ?_)
        · have c26' := i_lt c26
          refine r_iconst (v := 0) C dX6_hears_62 (by decide) ?_
          exact hret _ _ _ _ dX6_hears_63 (nar_z (z_of (by omega))) ⟨h23, o22, by omega⟩
        · have c26' := i_nlt c26
          refine r_iconst (v := 1) C dX6_hears_58 (by decide) ?_
          refine r_goto 63 C dX6_hears_59 (by decide) ?_
          exact hret _ _ _ _ dX6_hears_63 (nar_z (z_of (by omega))) ⟨h23, o22, by omega⟩
    · have c16' := i_eq c16
      refine r_iconst (v := 0) C dX6_hears_20 (by decide) ?_
      exact hret _ _ _ _ dX6_hears_21 (nar_z (z_of (by omega))) ⟨h15, o13, by omega⟩
set_option maxHeartbeats 4000000 in
set_option maxRecDepth 100000 in
theorem ctX6_lead_88 (l : Launch) (G : Gt) (w : Wv) (sC : Str KC XC w) (o0 : Inv RC w) (a1 : Int32) (b1 : 0 ≤ a1.toInt ∧ a1.toInt ≤ 5) : CtV l G yX6_lead cX6_lead 4 ({ frames := 2, cells := 0, slots := 0, locals := 54 } : Room) [.ref (gz G + 88), .int a1] w (fun w' => Ch [25, 26, 27, 89, 90] [] w w' ∧ Inv RC w') := by
  refine enterV (by decide) (Nat.le_of_ble_eq_true rfl) ?_
  intro x el eG C hnm hret
  subst el; subst eG
  show V x 0 0 w 0 [(0, .ref (gz (xG x) + 88)), (1, .int a1)] []
  have h0 : Ch [25, 26, 27, 89, 90] [] w w := Ch.rf
  have qm1 : ((-1) : Int32).toInt = (-1) := by decide
  have q0 : (0 : Int32).toInt = 0 := by decide
  have LP2 : ∀ (f3 : Nat) (u1 : Int32) (w4 : Wv), Ch [25, 26, 27, 89, 90] [] w w4 → Inv RC w4 → (0 ≤ u1.toInt ∧ u1.toInt ≤ 2147483647) → 2147483647 - u1.toInt < f3 → V x 0 0 w4 2 [(0, .ref (gz (xG x) + 88)), (1, .int a1), (2, .int u1)] [] := by
    intro f3
    induction f3 with
    | zero => intro u1 w4 h5 o6 z7 z8; exfalso; omega
    | succ f3 ih9 =>
      intro u1 w4 h5 o6 z7 z8
      refine r_iload_n 2 C dX6_lead_2 rfl ?_
      refine r_aload_n 0 C dX6_lead_3 rfl ?_
      refine gfX6_18 3 C (kS sC h5 kc_88) (xS sC h5 xc_88_4) dX6_lead_4 ?_
      refine gfX6_76 8 C (kS sC h5 kc_3) (xS sC h5 xc_3_13) dX6_lead_7 ?_
      refine r_iload_n 1 C dX6_lead_10 rfl ?_
      refine r_iald C (kS sC h5 kc_8) (vin (by omega) (by omega)) dX6_lead_11 ?_
      generalize (wI w4 8 (a1).toNatClampNeg) = v10
      have k12 := i_rng u1
      have k13 := i_rng v10
      refine r_icmp_ge 102 C dX6_lead_12 (by decide) (fun c11 => ?_) (fun c11 => ?_)
      · have c11' := i_le c11
        exact hret _ _ _ dX6_lead_102 ⟨h5, o6⟩
      · have c11' := i_nle c11
        refine r_aload_n 0 C dX6_lead_15 rfl ?_
        refine gfX6_15 90 C (kS sC h5 kc_88) (xS sC h5 xc_88_3) dX6_lead_16 ?_
        refine r_iload_n 1 C dX6_lead_19 rfl ?_
        refine r_iald C (kS sC h5 kc_90) (vin (by omega) (by omega)) dX6_lead_20 ?_
        generalize (wI w4 90 (a1).toNatClampNeg) = v14
        refine r_iconst (v := (-1)) C dX6_lead_21 (by decide) ?_
        refine r_icmp_eq 102 C dX6_lead_22 (by decide) (fun c15 => ?_) (fun c15 => ?_)
        · have c15' := i_eq c15
          exact hret _ _ _ dX6_lead_102 ⟨h5, o6⟩
        · have c15' := i_ne c15
          refine r_aload_n 0 C dX6_lead_25 rfl ?_
          refine gfX6_22 21 C (kS sC h5 kc_88) (xS sC h5 xc_88_5) dX6_lead_26 ?_
          refine r_aload_n 0 C dX6_lead_29 rfl ?_
          refine gfX6_9 89 C (kS sC h5 kc_88) (xS sC h5 xc_88_2) dX6_lead_30 ?_
          refine r_iload_n 1 C dX6_lead_33 rfl ?_
          refine r_iald C (kS sC h5 kc_89) (vin (by omega) (by omega)) dX6_lead_34 ?_
          generalize (wI w4 89 (a1).toNatClampNeg) = v16
          refine r_aload_n 0 C dX6_lead_35 rfl ?_
          refine gfX6_15 90 C (kS sC h5 kc_88) (xS sC h5 xc_88_3) dX6_lead_36 ?_
          refine r_iload_n 1 C dX6_lead_39 rfl ?_
          refine r_iald C (kS sC h5 kc_90) (vin (by omega) (by omega)) dX6_lead_40 ?_
          generalize (wI w4 90 (a1).toNatClampNeg) = v17
          refine callVI C cwX6_79_V (ctX1_onward_21 _ _ w4 (sS sC h5) o6 v16 v17 ) (by decide) (kS sC h5 kc_21) rfl rfl rfl (Nat.le_of_ble_eq_true rfl) (by decide) dX6_lead_41 (fun r20 w19 y18 => ?_)
          show V x 0 0 w19 44 [(0, .ref (gz (xG x) + 88)), (1, .int a1), (2, .int u1)] [.int r20]
          obtain ⟨h21, o22⟩ := y18
          have h23 := Ch.tr h5 h21 (by decide) (by decide)
          refine r_istore_n [(3, .int r20), (0, .ref (gz (xG x) + 88)), (1, .int a1), (2, .int u1)] C dX6_lead_44 (by decide) rfl ?_
          refine r_aload_n 1 C dX6_lead_45 rfl ?_
          refine gfX6_9 89 C (kS sC h23 kc_88) (xS sC h23 xc_88_2) dX6_lead_46 ?_
          refine r_iload_n 2 C dX6_lead_49 rfl ?_
          refine r_iload_n 0 C dX6_lead_50 rfl ?_
          refine r_iconst (v := (-1)) C dX6_lead_51 (by decide) ?_
          refine r_icmp_ne 64 C dX6_lead_52 (by decide) (fun c24 => ?_) (fun c24 => ?_)
          · have c24' := i_ne c24
            refine r_iload_n 0 C dX6_lead_64 rfl ?_
            refine r_iast C (kS sC h23 kc_89) (vin (by omega) (by omega)) dX6_lead_65 (fun w25 e26 => ?_)
            have h27 := Ch.putS h23 e26 (by decide)
            have o28 := Inv.put0 o22 e26 (by decide)
            refine r_aload_n 1 C dX6_lead_66 rfl ?_
            refine gfX6_9 89 C (kS sC h27 kc_88) (xS sC h27 xc_88_2) dX6_lead_67 ?_
            refine r_iload_n 2 C dX6_lead_70 rfl ?_
            refine r_iald C (kS sC h27 kc_89) (vin (by omega) (by omega)) dX6_lead_71 ?_
            generalize (wI w25 89 (a1).toNatClampNeg) = v29
            refine r_aload_n 1 C dX6_lead_72 rfl ?_
            refine gfX6_15 90 C (kS sC h27 kc_88) (xS sC h27 xc_88_3) dX6_lead_73 ?_
            refine r_iload_n 2 C dX6_lead_76 rfl ?_
            refine r_iald C (kS sC h27 kc_90) (vin (by omega) (by omega)) dX6_lead_77 ?_
            generalize (wI w25 90 (a1).toNatClampNeg) = v30
            refine r_icmp_eq 89 C dX6_lead_78 (by decide) (fun c31 => ?_) (fun c31 => ?_)
            · have c31' := i_eq c31
              refine r_aload_n 1 C dX6_lead_89 rfl ?_
              refine gfX6_15 90 C (kS sC h27 kc_88) (xS sC h27 xc_88_3) dX6_lead_90 ?_
              refine r_iload_n 2 C dX6_lead_93 rfl ?_
              refine r_iconst (v := (-1)) C dX6_lead_94 (by decide) ?_
              refine r_iast C (kS sC h27 kc_90) (vin (by omega) (by omega)) dX6_lead_95 (fun w32 e33 => ?_)
              have h34 := Ch.putS h27 e33 (by decide)
              have o35 := Inv.put0 o28 e33 (by decide)
              obtain ⟨i36, e37⟩ : ∃ z : Int32, u1 + Int32.ofInt 1 = z := ⟨_, rfl⟩
              have i36' := iinc_ok e37 (by decide) (by omega) (by omega)
              refine r_iinc [(2, .int i36), (3, .int r20), (0, .ref (gz (xG x) + 88)), (1, .int a1)] 3 C dX6_lead_96 rfl e37 (by decide) rfl ?_
              refine r_goto 2 C dX6_lead_99 (by decide) ?_
              refine r_lv [2, 3, 0] rfl ?_
              exact ih9 i36 w32 h34 o35 (by omega) (by omega)
            · have c31' := i_ne c31
              refine r_aload_n 1 C dX6_lead_81 rfl ?_
              refine r_iload_n 2 C dX6_lead_82 rfl ?_
              refine callVI C cwX6_82_V (ctX6_fate_88 _ _ w25 (sS sC h27) o28 a1 ) (by decide) (kS sC h27 kc_88) rfl rfl rfl (Nat.le_of_ble_eq_true rfl) (by decide) dX6_lead_83 (fun r40 w39 y38 => ?_)
              show V x 0 0 w39 86 [(3, .int r20), (0, .ref (gz (xG x) + 88)), (1, .int a1), (2, .int u1)] [.int r40]
              obtain ⟨h41, o42⟩ := y38
              have h43 := Ch.tr h27 h41 (by decide) (by decide)
              refine r_if_eq 96 C dX6_lead_86 (by decide) (fun c44 => ?_) (fun c44 => ?_)
              · have c44' := i_eq c44
                obtain ⟨i45, e46⟩ : ∃ z : Int32, u1 + Int32.ofInt 1 = z := ⟨_, rfl⟩
                have i45' := iinc_ok e46 (by decide) (by omega) (by omega)
                refine r_iinc [(2, .int i45), (3, .int r20), (0, .ref (gz (xG x) + 88)), (1, .int a1)] 3 C dX6_lead_96 rfl e46 (by decide) rfl ?_
                refine r_goto 2 C dX6_lead_99 (by decide) ?_
                refine r_lv [2, 3, 0] rfl ?_
                exact ih9 i45 w39 h43 o42 (by omega) (by omega)
              · have c44' := i_ne c44
                refine r_aload_n 1 C dX6_lead_89 rfl ?_
                refine gfX6_15 90 C (kS sC h43 kc_88) (xS sC h43 xc_88_3) dX6_lead_90 ?_
                refine r_iload_n 2 C dX6_lead_93 rfl ?_
                refine r_iconst (v := (-1)) C dX6_lead_94 (by decide) ?_
                refine r_iast C (kS sC h43 kc_90) (vin (by omega) (by omega)) dX6_lead_95 (fun w47 e48 => ?_)
                have h49 := Ch.putS h43 e48 (by decide)
                have o50 := Inv.put0 o42 e48 (by decide)
                obtain ⟨i51, e52⟩ : ∃ z : Int32, u1 + Int32.ofInt 1 = z := ⟨_, rfl⟩
                have i51' := iinc_ok e52 (by decide) (by omega) (by omega)
                refine r_iinc [(2, .int i51), (3, .int r20), (0, .ref (gz (xG x) + 88)), (1, .int a1)] 3 C dX6_lead_96 rfl e52 (by decide) rfl ?_
                refine r_goto 2 C dX6_lead_99 (by decide) ?_
                refine r_lv [2, 3, 0] rfl ?_
                exact ih9 i51 w47 h49 o50 (by omega) (by omega)
          · have c24' := i_eq c24
            refine r_aload_n 1 C dX6_lead_55 rfl ?_
            refine gfX6_9 89 C (kS sC h23 kc_88) (xS sC h23 xc_88_2) dX6_lead_56 ?_
            refine r_iload_n 2 C dX6_lead_59 rfl ?_
            refine r_iald C (kS sC h23 kc_89) (vin (by omega) (by omega)) dX6_lead_60 ?_
            generalize (wI w19 89 (a1).toNatClampNeg) = v53
            refine r_goto 65 C dX6_lead_61 (by decide) ?_
            refine r_iast C (kS sC h23 kc_89) (vin (by omega) (by omega)) dX6_lead_65 (fun w54 e55 => ?_)
            have h56 := Ch.putS h23 e55 (by decide)
            have o57 := Inv.put0 o22 e55 (by decide)
            refine r_aload_n 1 C dX6_lead_66 rfl ?_
            refine gfX6_9 89 C (kS sC h56 kc_88) (xS sC h56 xc_88_2) dX6_lead_67 ?_
            refine r_iload_n 2 C dX6_lead_70 rfl ?_
            refine r_iald C (kS sC h56 kc_89) (vin (by omega) (by omega)) dX6_lead_71 ?_
            generalize (wI w54 89 (a1).toNatClampNeg) = v58
            refine r_aload_n 1 C dX6_lead_72 rfl ?_
            refine gfX6_15 90 C (kS sC h56 kc_88) (xS sC h56 xc_88_3) dX6_lead_73 ?_
            refine r_iload_n 2 C dX6_lead_76 rfl ?_
            refine r_iald C (kS sC h56 kc_90) (vin (by omega) (by omega)) dX6_lead_77 ?_
            generalize (wI w54 90 (a1).toNatClampNeg) = v59
            refine r_icmp_eq 89 C dX6_lead_78 (by decide) (fun c60 => ?_) (fun c60 => ?_)
            · have c60' := i_eq c60
              refine r_aload_n 1 C dX6_lead_89 rfl ?_
              refine gfX6_15 90 C (kS sC h56 kc_88) (xS sC h56 xc_88_3) dX6_lead_90 ?_
              refine r_iload_n 2 C dX6_lead_93 rfl ?_
              refine r_iconst (v := (-1)) C dX6_lead_94 (by decide) ?_
              refine r_iast C (kS sC h56 kc_90) (vin (by omega) (by omega)) dX6_lead_95 (fun w61 e62 => ?_)
              have h63 := Ch.putS h56 e62 (by decide)
              have o64 := Inv.put0 o57 e62 (by decide)
              obtain ⟨i65, e66⟩ : ∃ z : Int32, u1 + Int32.ofInt 1 = z := ⟨_, rfl⟩
              have i65' := iinc_ok e66 (by decide) (by omega) (by omega)
              refine r_iinc [(2, .int i65), (3, .int r20), (0, .ref (gz (xG x) + 88)), (1, .int a1)] 3 C dX6_lead_96 rfl e66 (by decide) rfl ?_
              refine r_goto 2 C dX6_lead_99 (by decide) ?_
              refine r_lv [2, 3, 0] rfl ?_
              exact ih9 i65 w61 h63 o64 (by omega) (by omega)
            · have c60' := i_ne c60
              refine r_aload_n 1 C dX6_lead_81 rfl ?_
              refine r_iload_n 2 C dX6_lead_82 rfl ?_
              refine callVI C cwX6_82_V (ctX6_fate_88 _ _ w54 (sS sC h56) o57 a1 ) (by decide) (kS sC h56 kc_88) rfl rfl rfl (Nat.le_of_ble_eq_true rfl) (by decide) dX6_lead_83 (fun r69 w68 y67 => ?_)
              show V x 0 0 w68 86 [(3, .int r20), (0, .ref (gz (xG x) + 88)), (1, .int a1), (2, .int u1)] [.int r69]
              obtain ⟨h70, o71⟩ := y67
              have h72 := Ch.tr h56 h70 (by decide) (by decide)
              refine r_if_eq 96 C dX6_lead_86 (by decide) (fun c73 => ?_) (fun c73 => ?_)
              · have c73' := i_eq c73
                obtain ⟨i74, e75⟩ : ∃ z : Int32, u1 + Int32.ofInt 1 = z := ⟨_, rfl⟩
                have i74' := iinc_ok e75 (by decide) (by omega) (by omega)
                refine r_iinc [(2, .int i74), (3, .int r20), (0, .ref (gz (xG x) + 88)), (1, .int a1)] 3 C dX6_lead_96 rfl e75 (by decide) rfl ?_
                refine r_goto 2 C dX6_lead_99 (by decide) ?_
                refine r_lv [2, 3, 0] rfl ?_
                exact ih9 i74 w68 h72 o71 (by omega) (by omega)
              · have c73' := i_ne c73
                refine r_aload_n 1 C dX6_lead_89 rfl ?_
                refine gfX6_15 90 C (kS sC h72 kc_88) (xS sC h72 xc_88_3) dX6_lead_90 ?_
                refine r_iload_n 2 C dX6_lead_93 rfl ?_
                refine r_iconst (v := (-1)) C dX6_lead_94 (by decide) ?_
                refine r_iast C (kS sC h72 kc_90) (vin (by omega) (by omega)) dX6_lead_95 (fun w76 e77 => ?_)
                have h78 := Ch.putS h72 e77 (by decide)
                have o79 := Inv.put0 o71 e77 (by decide)
                obtain ⟨i80, e81⟩ : ∃ z : Int32, u1 + Int32.ofInt 1 = z := ⟨_, rfl⟩
                have i80' := iinc_ok e81 (by decide) (by omega) (by omega)
                refine r_iinc [(2, .int i80), (3, .int r20), (0, .ref (gz (xG x) + 88)), (1, .int a1)] 3 C dX6_lead_96 rfl e81 (by decide) rfl ?_
                refine r_goto 2 C dX6_lead_99 (by decide) ?_
                refine r_lv [2, 3, 0] rfl ?_
                exact ih9 i80 w76 h78 o79 (by omega) (by omega)
  refine r_iconst (v := 0) C dX6_lead_0 (by decide) ?_
  refine r_istore_n [(2, .int 0), (0, .ref (gz (xG x) + 88)), (1, .int a1)] C dX6_lead_1 (by decide) rfl ?_
  refine r_lv [1, 2, 0] rfl ?_
  exact LP2 4294967296 0 w h0 o0 (by omega) (by omega)
set_option maxHeartbeats 4000000 in
set_option maxRecDepth 100000 in
theorem ctX6_hears_91 (l : Launch) (G : Gt) (w : Wv) (sC : Str KC XC w) (o0 : Inv RC w) (a1 : Int32) (a2 : Int32) : CtI l G yX6_hears cX6_hears 4 .boolean ({ frames := 2, cells := 0, slots := 0, locals := 50 } : Room) [.ref (gz G + 91), .int a1, .int a2] w (fun r w' => Ch [25, 26, 27] [] w w' ∧ Inv RC w' ∧ ((0 ≤ r.toInt ∧ r.toInt ≤ 1))) := by
  refine enterI (by decide) (Nat.le_of_ble_eq_true rfl) ?_
  intro x el eG C hret
  subst el; subst eG
  show V x 0 0 w 0 [(0, .ref (gz (xG x) + 91)), (1, .int a1), (2, .int a2)] []
  have h0 : Ch [25, 26, 27] [] w w := Ch.rf
  have qm1 : ((-1) : Int32).toInt = (-1) := by decide
  have q0 : (0 : Int32).toInt = 0 := by decide
  have q1 : (1 : Int32).toInt = 1 := by decide
  refine r_aload_n 0 C dX6_hears_0 rfl ?_
  refine gfX6_18 3 C (kS sC h0 kc_91) (xS sC h0 xc_91_4) dX6_hears_1 ?_
  refine r_iload_n 1 C dX6_hears_4 rfl ?_
  refine r_iload_n 2 C dX6_hears_5 rfl ?_
  refine callVI C cwX6_63_V (ctX9_isFollower_3 _ _ w (sS sC h0) o0 a1 a2 ) (by decide) (kS sC h0 kc_3) rfl rfl rfl (Nat.le_of_ble_eq_true rfl) (by decide) dX6_hears_6 (fun r3 w2 y1 => ?_)
  show V x 0 0 w2 9 [(0, .ref (gz (xG x) + 91)), (1, .int a1), (2, .int a2)] [.int r3]
  obtain ⟨h4, o5, g6⟩ := y1
  have h7 := Ch.tr h0 h4 (by decide) (by decide)
  refine r_if_eq 20 C dX6_hears_9 (by decide) (fun c8 => ?_) (fun c8 => ?_)
  · have c8' := i_eq c8
    refine r_iconst (v := 0) C dX6_hears_20 (by decide) ?_
    exact hret _ _ _ _ dX6_hears_21 (nar_z (z_of (by omega))) ⟨h7, o5, by omega⟩
  · have c8' := i_ne c8
    refine r_aload_n 0 C dX6_hears_12 rfl ?_
    refine r_iload_n 1 C dX6_hears_13 rfl ?_
    refine callVI C cwX6_66_V (ctX6_isHere_91 _ _ w2 (sS sC h7) o5 a1 ) (by decide) (kS sC h7 kc_91) rfl rfl rfl (Nat.le_of_ble_eq_true rfl) (by decide) dX6_hears_14 (fun r11 w10 y9 => ?_)
    show V x 0 0 w10 17 [(0, .ref (gz (xG x) + 91)), (1, .int a1), (2, .int a2)] [.int r11]
    obtain ⟨h12, o13, g14⟩ := y9
    have h15 := Ch.tr h7 h12 (by decide) (by decide)
    refine r_if_ne 22 C dX6_hears_17 (by decide) (fun c16 => ?_) (fun c16 => ?_)
    · have c16' := i_ne c16
      refine r_aload_n 0 C dX6_hears_22 rfl ?_
      refine gfX6_22 21 C (kS sC h15 kc_91) (xS sC h15 xc_91_5) dX6_hears_23 ?_
      refine r_aload_n 0 C dX6_hears_26 rfl ?_
      refine gfX6_9 92 C (kS sC h15 kc_91) (xS sC h15 xc_91_2) dX6_hears_27 ?_
      refine r_iload_n 1 C dX6_hears_30 rfl ?_
      refine r_iald C (kS sC h15 kc_92) (vin (by omega) (by omega)) dX6_hears_31 ?_
      generalize (wI w10 92 (a1).toNatClampNeg) = v17
      refine r_aload_n 0 C dX6_hears_32 rfl ?_
      refine gfX6_32 (v := (wI w 91 0)) C (kS sC h15 kc_91) (h12.I (by decide) (by decide) (h4.I (by decide) (by decide) rfl)) dX6_hears_33 ?_
      refine callVI C cwX6_70_V (ctX1_steps_21 _ _ w10 (sS sC h15) o13 v17 (wI w 91 0) ) (by decide) (kS sC h15 kc_21) rfl rfl rfl (Nat.le_of_ble_eq_true rfl) (by decide) dX6_hears_36 (fun r20 w19 y18 => ?_)
      show V x 0 0 w19 39 [(0, .ref (gz (xG x) + 91)), (1, .int a1), (2, .int a2)] [.int r20]
      obtain ⟨h21, o22⟩ := y18
      have h23 := Ch.tr h15 h21 (by decide) (by decide)
      refine r_istore_n [(3, .int r20), (0, .ref (gz (xG x) + 91)), (1, .int a1), (2, .int a2)] C dX6_hears_39 (by decide) rfl ?_
      refine r_iload_n 0 C dX6_hears_40 rfl ?_
      refine r_iconst (v := (-1)) C dX6_hears_41 (by decide) ?_
      refine r_icmp_eq 62 C dX6_hears_42 (by decide) (fun c24 => ?_) (fun c24 => ?_)
      · have c24' := i_eq c24
        refine r_iconst (v := 0) C dX6_hears_62 (by decide) ?_
        exact hret _ _ _ _ dX6_hears_63 (nar_z (z_of (by omega))) ⟨h23, o22, by omega⟩
      · have c24' := i_ne c24
        refine r_iload_n 0 C dX6_hears_45 rfl ?_
        refine r_aload_n 1 C dX6_hears_46 rfl ?_
        refine gfX6_18 3 C (kS sC h23 kc_91) (xS sC h23 xc_91_4) dX6_hears_47 ?_
        refine gfX6_73 11 C (kS sC h23 kc_3) (xS sC h23 xc_3_16) dX6_hears_50 ?_
        refine r_iload_n 3 C dX6_hears_53 rfl ?_
        refine r_iald C (kS sC h23 kc_11) (vin (by omega) (by omega)) dX6_hears_54 ?_
        generalize (wI w19 11 (a2).toNatClampNeg) = v25
        have k27 := i_rng r20
        have k28 := i_rng v25
        refine r_icmp_gt 62 C dX6_hears_55 (by decide) (fun c26 => ?_) (fun c26 => ?_)
        · have c26' := i_lt c26
          refine r_iconst (v := 0) C dX6_hears_62 (by decide) ?_
          exact hret _ _ _ _ dX6_hears_63 (nar_z (z_of (by omega))) ⟨h23, o22, by omega⟩
        · have c26' := i_nlt c26
          refine r_iconst (v := 1) C dX6_hears_58 (by decide) ?_
          refine r_goto 63 C dX6_hears_59 (by decide) ?_
          exact hret _ _ _ _ dX6_hears_63 (nar_z (z_of (by omega))) ⟨h23, o22, by omega⟩
    · have c16' := i_eq c16
      refine r_iconst (v := 0) C dX6_hears_20 (by decide) ?_
      exact hret _ _ _ _ dX6_hears_21 (nar_z (z_of (by omega))) ⟨h15, o13, by omega⟩
set_option maxHeartbeats 4000000 in
set_option maxRecDepth 100000 in
theorem ctX6_lead_91 (l : Launch) (G : Gt) (w : Wv) (sC : Str KC XC w) (o0 : Inv RC w) (a1 : Int32) (b1 : 0 ≤ a1.toInt ∧ a1.toInt ≤ 5) : CtV l G yX6_lead cX6_lead 4 ({ frames := 2, cells := 0, slots := 0, locals := 54 } : Room) [.ref (gz G + 91), .int a1] w (fun w' => Ch [25, 26, 27, 92, 93] [] w w' ∧ Inv RC w') := by
  refine enterV (by decide) (Nat.le_of_ble_eq_true rfl) ?_
  intro x el eG C hnm hret
  subst el; subst eG
  show V x 0 0 w 0 [(0, .ref (gz (xG x) + 91)), (1, .int a1)] []
  have h0 : Ch [25, 26, 27, 92, 93] [] w w := Ch.rf
  have qm1 : ((-1) : Int32).toInt = (-1) := by decide
  have q0 : (0 : Int32).toInt = 0 := by decide
  have LP2 : ∀ (f3 : Nat) (u1 : Int32) (w4 : Wv), Ch [25, 26, 27, 92, 93] [] w w4 → Inv RC w4 → (0 ≤ u1.toInt ∧ u1.toInt ≤ 2147483647) → 2147483647 - u1.toInt < f3 → V x 0 0 w4 2 [(0, .ref (gz (xG x) + 91)), (1, .int a1), (2, .int u1)] [] := by
    intro f3
    induction f3 with
    | zero => intro u1 w4 h5 o6 z7 z8; exfalso; omega
    | succ f3 ih9 =>
      intro u1 w4 h5 o6 z7 z8
      refine r_iload_n 2 C dX6_lead_2 rfl ?_
      refine r_aload_n 0 C dX6_lead_3 rfl ?_
      refine gfX6_18 3 C (kS sC h5 kc_91) (xS sC h5 xc_91_4) dX6_lead_4 ?_
      refine gfX6_76 8 C (kS sC h5 kc_3) (xS sC h5 xc_3_13) dX6_lead_7 ?_
      refine r_iload_n 1 C dX6_lead_10 rfl ?_
      refine r_iald C (kS sC h5 kc_8) (vin (by omega) (by omega)) dX6_lead_11 ?_
      generalize (wI w4 8 (a1).toNatClampNeg) = v10
      have k12 := i_rng u1
      have k13 := i_rng v10
      refine r_icmp_ge 102 C dX6_lead_12 (by decide) (fun c11 => ?_) (fun c11 => ?_)
      · have c11' := i_le c11
        exact hret _ _ _ dX6_lead_102 ⟨h5, o6⟩
      · have c11' := i_nle c11
        refine r_aload_n 0 C dX6_lead_15 rfl ?_
        refine gfX6_15 93 C (kS sC h5 kc_91) (xS sC h5 xc_91_3) dX6_lead_16 ?_
        refine r_iload_n 1 C dX6_lead_19 rfl ?_
        refine r_iald C (kS sC h5 kc_93) (vin (by omega) (by omega)) dX6_lead_20 ?_
        generalize (wI w4 93 (a1).toNatClampNeg) = v14
        refine r_iconst (v := (-1)) C dX6_lead_21 (by decide) ?_
        refine r_icmp_eq 102 C dX6_lead_22 (by decide) (fun c15 => ?_) (fun c15 => ?_)
        · have c15' := i_eq c15
          exact hret _ _ _ dX6_lead_102 ⟨h5, o6⟩
        · have c15' := i_ne c15
          refine r_aload_n 0 C dX6_lead_25 rfl ?_
          refine gfX6_22 21 C (kS sC h5 kc_91) (xS sC h5 xc_91_5) dX6_lead_26 ?_
          refine r_aload_n 0 C dX6_lead_29 rfl ?_
          refine gfX6_9 92 C (kS sC h5 kc_91) (xS sC h5 xc_91_2) dX6_lead_30 ?_
          refine r_iload_n 1 C dX6_lead_33 rfl ?_
          refine r_iald C (kS sC h5 kc_92) (vin (by omega) (by omega)) dX6_lead_34 ?_
          generalize (wI w4 92 (a1).toNatClampNeg) = v16
          refine r_aload_n 0 C dX6_lead_35 rfl ?_
          refine gfX6_15 93 C (kS sC h5 kc_91) (xS sC h5 xc_91_3) dX6_lead_36 ?_
          refine r_iload_n 1 C dX6_lead_39 rfl ?_
          refine r_iald C (kS sC h5 kc_93) (vin (by omega) (by omega)) dX6_lead_40 ?_
          generalize (wI w4 93 (a1).toNatClampNeg) = v17
          refine callVI C cwX6_79_V (ctX1_onward_21 _ _ w4 (sS sC h5) o6 v16 v17 ) (by decide) (kS sC h5 kc_21) rfl rfl rfl (Nat.le_of_ble_eq_true rfl) (by decide) dX6_lead_41 (fun r20 w19 y18 => ?_)
          show V x 0 0 w19 44 [(0, .ref (gz (xG x) + 91)), (1, .int a1), (2, .int u1)] [.int r20]
          obtain ⟨h21, o22⟩ := y18
          have h23 := Ch.tr h5 h21 (by decide) (by decide)
          refine r_istore_n [(3, .int r20), (0, .ref (gz (xG x) + 91)), (1, .int a1), (2, .int u1)] C dX6_lead_44 (by decide) rfl ?_
          refine r_aload_n 1 C dX6_lead_45 rfl ?_
          refine gfX6_9 92 C (kS sC h23 kc_91) (xS sC h23 xc_91_2) dX6_lead_46 ?_
          refine r_iload_n 2 C dX6_lead_49 rfl ?_
          refine r_iload_n 0 C dX6_lead_50 rfl ?_
          refine r_iconst (v := (-1)) C dX6_lead_51 (by decide) ?_
          refine r_icmp_ne 64 C dX6_lead_52 (by decide) (fun c24 => ?_) (fun c24 => ?_)
          · have c24' := i_ne c24
            refine r_iload_n 0 C dX6_lead_64 rfl ?_
            refine r_iast C (kS sC h23 kc_92) (vin (by omega) (by omega)) dX6_lead_65 (fun w25 e26 => ?_)
            have h27 := Ch.putS h23 e26 (by decide)
            have o28 := Inv.put0 o22 e26 (by decide)
            refine r_aload_n 1 C dX6_lead_66 rfl ?_
            refine gfX6_9 92 C (kS sC h27 kc_91) (xS sC h27 xc_91_2) dX6_lead_67 ?_
            refine r_iload_n 2 C dX6_lead_70 rfl ?_
            refine r_iald C (kS sC h27 kc_92) (vin (by omega) (by omega)) dX6_lead_71 ?_
            generalize (wI w25 92 (a1).toNatClampNeg) = v29
            refine r_aload_n 1 C dX6_lead_72 rfl ?_
            refine gfX6_15 93 C (kS sC h27 kc_91) (xS sC h27 xc_91_3) dX6_lead_73 ?_
            refine r_iload_n 2 C dX6_lead_76 rfl ?_
            refine r_iald C (kS sC h27 kc_93) (vin (by omega) (by omega)) dX6_lead_77 ?_
            generalize (wI w25 93 (a1).toNatClampNeg) = v30
            refine r_icmp_eq 89 C dX6_lead_78 (by decide) (fun c31 => ?_) (fun c31 => ?_)
            · have c31' := i_eq c31
              refine r_aload_n 1 C dX6_lead_89 rfl ?_
              refine gfX6_15 93 C (kS sC h27 kc_91) (xS sC h27 xc_91_3) dX6_lead_90 ?_
              refine r_iload_n 2 C dX6_lead_93 rfl ?_
              refine r_iconst (v := (-1)) C dX6_lead_94 (by decide) ?_
              refine r_iast C (kS sC h27 kc_93) (vin (by omega) (by omega)) dX6_lead_95 (fun w32 e33 => ?_)
              have h34 := Ch.putS h27 e33 (by decide)
              have o35 := Inv.put0 o28 e33 (by decide)
              obtain ⟨i36, e37⟩ : ∃ z : Int32, u1 + Int32.ofInt 1 = z := ⟨_, rfl⟩
              have i36' := iinc_ok e37 (by decide) (by omega) (by omega)
              refine r_iinc [(2, .int i36), (3, .int r20), (0, .ref (gz (xG x) + 91)), (1, .int a1)] 3 C dX6_lead_96 rfl e37 (by decide) rfl ?_
              refine r_goto 2 C dX6_lead_99 (by decide) ?_
              refine r_lv [2, 3, 0] rfl ?_
              exact ih9 i36 w32 h34 o35 (by omega) (by omega)
            · have c31' := i_ne c31
              refine r_aload_n 1 C dX6_lead_81 rfl ?_
              refine r_iload_n 2 C dX6_lead_82 rfl ?_
              refine callVI C cwX6_82_V (ctX6_fate_91 _ _ w25 (sS sC h27) o28 a1 ) (by decide) (kS sC h27 kc_91) rfl rfl rfl (Nat.le_of_ble_eq_true rfl) (by decide) dX6_lead_83 (fun r40 w39 y38 => ?_)
              show V x 0 0 w39 86 [(3, .int r20), (0, .ref (gz (xG x) + 91)), (1, .int a1), (2, .int u1)] [.int r40]
              obtain ⟨h41, o42⟩ := y38
              have h43 := Ch.tr h27 h41 (by decide) (by decide)
              refine r_if_eq 96 C dX6_lead_86 (by decide) (fun c44 => ?_) (fun c44 => ?_)
              · have c44' := i_eq c44
                obtain ⟨i45, e46⟩ : ∃ z : Int32, u1 + Int32.ofInt 1 = z := ⟨_, rfl⟩
                have i45' := iinc_ok e46 (by decide) (by omega) (by omega)
                refine r_iinc [(2, .int i45), (3, .int r20), (0, .ref (gz (xG x) + 91)), (1, .int a1)] 3 C dX6_lead_96 rfl e46 (by decide) rfl ?_
                refine r_goto 2 C dX6_lead_99 (by decide) ?_
                refine r_lv [2, 3, 0] rfl ?_
                exact ih9 i45 w39 h43 o42 (by omega) (by omega)
              · have c44' := i_ne c44
                refine r_aload_n 1 C dX6_lead_89 rfl ?_
                refine gfX6_15 93 C (kS sC h43 kc_91) (xS sC h43 xc_91_3) dX6_lead_90 ?_
                refine r_iload_n 2 C dX6_lead_93 rfl ?_
                refine r_iconst (v := (-1)) C dX6_lead_94 (by decide) ?_
                refine r_iast C (kS sC h43 kc_93) (vin (by omega) (by omega)) dX6_lead_95 (fun w47 e48 => ?_)
                have h49 := Ch.putS h43 e48 (by decide)
                have o50 := Inv.put0 o42 e48 (by decide)
                obtain ⟨i51, e52⟩ : ∃ z : Int32, u1 + Int32.ofInt 1 = z := ⟨_, rfl⟩
                have i51' := iinc_ok e52 (by decide) (by omega) (by omega)
                refine r_iinc [(2, .int i51), (3, .int r20), (0, .ref (gz (xG x) + 91)), (1, .int a1)] 3 C dX6_lead_96 rfl e52 (by decide) rfl ?_
                refine r_goto 2 C dX6_lead_99 (by decide) ?_
                refine r_lv [2, 3, 0] rfl ?_
                exact ih9 i51 w47 h49 o50 (by omega) (by omega)
          · have c24' := i_eq c24
            refine r_aload_n 1 C dX6_lead_55 rfl ?_
            refine gfX6_9 92 C (kS sC h23 kc_91) (xS sC h23 xc_91_2) dX6_lead_56 ?_
            refine r_iload_n 2 C dX6_lead_59 rfl ?_
            refine r_iald C (kS sC h23 kc_92) (vin (by omega) (by omega)) dX6_lead_60 ?_
            generalize (wI w19 92 (a1).toNatClampNeg) = v53
            refine r_goto 65 C dX6_lead_61 (by decide) ?_
            refine r_iast C (kS sC h23 kc_92) (vin (by omega) (by omega)) dX6_lead_65 (fun w54 e55 => ?_)
            have h56 := Ch.putS h23 e55 (by decide)
            have o57 := Inv.put0 o22 e55 (by decide)
            refine r_aload_n 1 C dX6_lead_66 rfl ?_
            refine gfX6_9 92 C (kS sC h56 kc_91) (xS sC h56 xc_91_2) dX6_lead_67 ?_
            refine r_iload_n 2 C dX6_lead_70 rfl ?_
            refine r_iald C (kS sC h56 kc_92) (vin (by omega) (by omega)) dX6_lead_71 ?_
            generalize (wI w54 92 (a1).toNatClampNeg) = v58
            refine r_aload_n 1 C dX6_lead_72 rfl ?_
            refine gfX6_15 93 C (kS sC h56 kc_91) (xS sC h56 xc_91_3) dX6_lead_73 ?_
            refine r_iload_n 2 C dX6_lead_76 rfl ?_
            refine r_iald C (kS sC h56 kc_93) (vin (by omega) (by omega)) dX6_lead_77 ?_
            generalize (wI w54 93 (a1).toNatClampNeg) = v59
            refine r_icmp_eq 89 C dX6_lead_78 (by decide) (fun c60 => ?_) (fun c60 => ?_)
            · have c60' := i_eq c60
              refine r_aload_n 1 C dX6_lead_89 rfl ?_
              refine gfX6_15 93 C (kS sC h56 kc_91) (xS sC h56 xc_91_3) dX6_lead_90 ?_
              refine r_iload_n 2 C dX6_lead_93 rfl ?_
              refine r_iconst (v := (-1)) C dX6_lead_94 (by decide) ?_
              refine r_iast C (kS sC h56 kc_93) (vin (by omega) (by omega)) dX6_lead_95 (fun w61 e62 => ?_)
              have h63 := Ch.putS h56 e62 (by decide)
              have o64 := Inv.put0 o57 e62 (by decide)
              obtain ⟨i65, e66⟩ : ∃ z : Int32, u1 + Int32.ofInt 1 = z := ⟨_, rfl⟩
              have i65' := iinc_ok e66 (by decide) (by omega) (by omega)
              refine r_iinc [(2, .int i65), (3, .int r20), (0, .ref (gz (xG x) + 91)), (1, .int a1)] 3 C dX6_lead_96 rfl e66 (by decide) rfl ?_
              refine r_goto 2 C dX6_lead_99 (by decide) ?_
              refine r_lv [2, 3, 0] rfl ?_
              exact ih9 i65 w61 h63 o64 (by omega) (by omega)
            · have c60' := i_ne c60
              refine r_aload_n 1 C dX6_lead_81 rfl ?_
              refine r_iload_n 2 C dX6_lead_82 rfl ?_
              refine callVI C cwX6_82_V (ctX6_fate_91 _ _ w54 (sS sC h56) o57 a1 ) (by decide) (kS sC h56 kc_91) rfl rfl rfl (Nat.le_of_ble_eq_true rfl) (by decide) dX6_lead_83 (fun r69 w68 y67 => ?_)
              show V x 0 0 w68 86 [(3, .int r20), (0, .ref (gz (xG x) + 91)), (1, .int a1), (2, .int u1)] [.int r69]
              obtain ⟨h70, o71⟩ := y67
              have h72 := Ch.tr h56 h70 (by decide) (by decide)
              refine r_if_eq 96 C dX6_lead_86 (by decide) (fun c73 => ?_) (fun c73 => ?_)
              · have c73' := i_eq c73
                obtain ⟨i74, e75⟩ : ∃ z : Int32, u1 + Int32.ofInt 1 = z := ⟨_, rfl⟩
                have i74' := iinc_ok e75 (by decide) (by omega) (by omega)
                refine r_iinc [(2, .int i74), (3, .int r20), (0, .ref (gz (xG x) + 91)), (1, .int a1)] 3 C dX6_lead_96 rfl e75 (by decide) rfl ?_
                refine r_goto 2 C dX6_lead_99 (by decide) ?_
                refine r_lv [2, 3, 0] rfl ?_
                exact ih9 i74 w68 h72 o71 (by omega) (by omega)
              · have c73' := i_ne c73
                refine r_aload_n 1 C dX6_lead_89 rfl ?_
                refine gfX6_15 93 C (kS sC h72 kc_91) (xS sC h72 xc_91_3) dX6_lead_90 ?_
                refine r_iload_n 2 C dX6_lead_93 rfl ?_
                refine r_iconst (v := (-1)) C dX6_lead_94 (by decide) ?_
                refine r_iast C (kS sC h72 kc_93) (vin (by omega) (by omega)) dX6_lead_95 (fun w76 e77 => ?_)
                have h78 := Ch.putS h72 e77 (by decide)
                have o79 := Inv.put0 o71 e77 (by decide)
                obtain ⟨i80, e81⟩ : ∃ z : Int32, u1 + Int32.ofInt 1 = z := ⟨_, rfl⟩
                have i80' := iinc_ok e81 (by decide) (by omega) (by omega)
                refine r_iinc [(2, .int i80), (3, .int r20), (0, .ref (gz (xG x) + 91)), (1, .int a1)] 3 C dX6_lead_96 rfl e81 (by decide) rfl ?_
                refine r_goto 2 C dX6_lead_99 (by decide) ?_
                refine r_lv [2, 3, 0] rfl ?_
                exact ih9 i80 w76 h78 o79 (by omega) (by omega)
  refine r_iconst (v := 0) C dX6_lead_0 (by decide) ?_
  refine r_istore_n [(2, .int 0), (0, .ref (gz (xG x) + 91)), (1, .int a1)] C dX6_lead_1 (by decide) rfl ?_
  refine r_lv [1, 2, 0] rfl ?_
  exact LP2 4294967296 0 w h0 o0 (by omega) (by omega)
set_option maxHeartbeats 4000000 in
set_option maxRecDepth 100000 in
theorem ctX6_hears_94 (l : Launch) (G : Gt) (w : Wv) (sC : Str KC XC w) (o0 : Inv RC w) (a1 : Int32) (a2 : Int32) : CtI l G yX6_hears cX6_hears 4 .boolean ({ frames := 2, cells := 0, slots := 0, locals := 50 } : Room) [.ref (gz G + 94), .int a1, .int a2] w (fun r w' => Ch [25, 26, 27] [] w w' ∧ Inv RC w' ∧ ((0 ≤ r.toInt ∧ r.toInt ≤ 1))) := by
  refine enterI (by decide) (Nat.le_of_ble_eq_true rfl) ?_
  intro x el eG C hret
  subst el; subst eG
  show V x 0 0 w 0 [(0, .ref (gz (xG x) + 94)), (1, .int a1), (2, .int a2)] []
  have h0 : Ch [25, 26, 27] [] w w := Ch.rf
  have qm1 : ((-1) : Int32).toInt = (-1) := by decide
  have q0 : (0 : Int32).toInt = 0 := by decide
  have q1 : (1 : Int32).toInt = 1 := by decide
  refine r_aload_n 0 C dX6_hears_0 rfl ?_
  refine gfX6_18 3 C (kS sC h0 kc_94) (xS sC h0 xc_94_4) dX6_hears_1 ?_
  refine r_iload_n 1 C dX6_hears_4 rfl ?_
  refine r_iload_n 2 C dX6_hears_5 rfl ?_
  refine callVI C cwX6_63_V (ctX9_isFollower_3 _ _ w (sS sC h0) o0 a1 a2 ) (by decide) (kS sC h0 kc_3) rfl rfl rfl (Nat.le_of_ble_eq_true rfl) (by decide) dX6_hears_6 (fun r3 w2 y1 => ?_)
  show V x 0 0 w2 9 [(0, .ref (gz (xG x) + 94)), (1, .int a1), (2, .int a2)] [.int r3]
  obtain ⟨h4, o5, g6⟩ := y1
  have h7 := Ch.tr h0 h4 (by decide) (by decide)
  refine r_if_eq 20 C dX6_hears_9 (by decide) (fun c8 => ?_) (fun c8 => ?_)
  · have c8' := i_eq c8
    refine r_iconst (v := 0) C dX6_hears_20 (by decide) ?_
    exact hret _ _ _ _ dX6_hears_21 (nar_z (z_of (by omega))) ⟨h7, o5, by omega⟩
  · have c8' := i_ne c8
    refine r_aload_n 0 C dX6_hears_12 rfl ?_
    refine r_iload_n 1 C dX6_hears_13 rfl ?_
    refine callVI C cwX6_66_V (ctX6_isHere_94 _ _ w2 (sS sC h7) o5 a1 ) (by decide) (kS sC h7 kc_94) rfl rfl rfl (Nat.le_of_ble_eq_true rfl) (by decide) dX6_hears_14 (fun r11 w10 y9 => ?_)
    show V x 0 0 w10 17 [(0, .ref (gz (xG x) + 94)), (1, .int a1), (2, .int a2)] [.int r11]
    obtain ⟨h12, o13, g14⟩ := y9
    have h15 := Ch.tr h7 h12 (by decide) (by decide)
    refine r_if_ne 22 C dX6_hears_17 (by decide) (fun c16 => ?_) (fun c16 => ?_)
    · have c16' := i_ne c16
      refine r_aload_n 0 C dX6_hears_22 rfl ?_
      refine gfX6_22 21 C (kS sC h15 kc_94) (xS sC h15 xc_94_5) dX6_hears_23 ?_
      refine r_aload_n 0 C dX6_hears_26 rfl ?_
      refine gfX6_9 95 C (kS sC h15 kc_94) (xS sC h15 xc_94_2) dX6_hears_27 ?_
      refine r_iload_n 1 C dX6_hears_30 rfl ?_
      refine r_iald C (kS sC h15 kc_95) (vin (by omega) (by omega)) dX6_hears_31 ?_
      generalize (wI w10 95 (a1).toNatClampNeg) = v17
      refine r_aload_n 0 C dX6_hears_32 rfl ?_
      refine gfX6_32 (v := (wI w 94 0)) C (kS sC h15 kc_94) (h12.I (by decide) (by decide) (h4.I (by decide) (by decide) rfl)) dX6_hears_33 ?_
      refine callVI C cwX6_70_V (ctX1_steps_21 _ _ w10 (sS sC h15) o13 v17 (wI w 94 0) ) (by decide) (kS sC h15 kc_21) rfl rfl rfl (Nat.le_of_ble_eq_true rfl) (by decide) dX6_hears_36 (fun r20 w19 y18 => ?_)
      show V x 0 0 w19 39 [(0, .ref (gz (xG x) + 94)), (1, .int a1), (2, .int a2)] [.int r20]
      obtain ⟨h21, o22⟩ := y18
      have h23 := Ch.tr h15 h21 (by decide) (by decide)
      refine r_istore_n [(3, .int r20), (0, .ref (gz (xG x) + 94)), (1, .int a1), (2, .int a2)] C dX6_hears_39 (by decide) rfl ?_
      refine r_iload_n 0 C dX6_hears_40 rfl ?_
      refine r_iconst (v := (-1)) C dX6_hears_41 (by decide) ?_
      refine r_icmp_eq 62 C dX6_hears_42 (by decide) (fun c24 => ?_) (fun c24 => ?_)
      · have c24' := i_eq c24
        refine r_iconst (v := 0) C dX6_hears_62 (by decide) ?_
        exact hret _ _ _ _ dX6_hears_63 (nar_z (z_of (by omega))) ⟨h23, o22, by omega⟩
      · have c24' := i_ne c24
        refine r_iload_n 0 C dX6_hears_45 rfl ?_
        refine r_aload_n 1 C dX6_hears_46 rfl ?_
        refine gfX6_18 3 C (kS sC h23 kc_94) (xS sC h23 xc_94_4) dX6_hears_47 ?_
        refine gfX6_73 11 C (kS sC h23 kc_3) (xS sC h23 xc_3_16) dX6_hears_50 ?_
        refine r_iload_n 3 C dX6_hears_53 rfl ?_
        refine r_iald C (kS sC h23 kc_11) (vin (by omega) (by omega)) dX6_hears_54 ?_
        generalize (wI w19 11 (a2).toNatClampNeg) = v25
        have k27 := i_rng r20
        have k28 := i_rng v25
        refine r_icmp_gt 62 C dX6_hears_55 (by decide) (fun c26 => ?_) (fun c26 => ?_)
        · have c26' := i_lt c26
          refine r_iconst (v := 0) C dX6_hears_62 (by decide) ?_
          exact hret _ _ _ _ dX6_hears_63 (nar_z (z_of (by omega))) ⟨h23, o22, by omega⟩
        · have c26' := i_nlt c26
          refine r_iconst (v := 1) C dX6_hears_58 (by decide) ?_
          refine r_goto 63 C dX6_hears_59 (by decide) ?_
          exact hret _ _ _ _ dX6_hears_63 (nar_z (z_of (by omega))) ⟨h23, o22, by omega⟩
    · have c16' := i_eq c16
      refine r_iconst (v := 0) C dX6_hears_20 (by decide) ?_
      exact hret _ _ _ _ dX6_hears_21 (nar_z (z_of (by omega))) ⟨h15, o13, by omega⟩
set_option maxHeartbeats 4000000 in
set_option maxRecDepth 100000 in
theorem ctX6_lead_94 (l : Launch) (G : Gt) (w : Wv) (sC : Str KC XC w) (o0 : Inv RC w) (a1 : Int32) (b1 : 0 ≤ a1.toInt ∧ a1.toInt ≤ 5) : CtV l G yX6_lead cX6_lead 4 ({ frames := 2, cells := 0, slots := 0, locals := 54 } : Room) [.ref (gz G + 94), .int a1] w (fun w' => Ch [25, 26, 27, 95, 96] [] w w' ∧ Inv RC w') := by
  refine enterV (by decide) (Nat.le_of_ble_eq_true rfl) ?_
  intro x el eG C hnm hret
  subst el; subst eG
  show V x 0 0 w 0 [(0, .ref (gz (xG x) + 94)), (1, .int a1)] []
  have h0 : Ch [25, 26, 27, 95, 96] [] w w := Ch.rf
  have qm1 : ((-1) : Int32).toInt = (-1) := by decide
  have q0 : (0 : Int32).toInt = 0 := by decide
  have LP2 : ∀ (f3 : Nat) (u1 : Int32) (w4 : Wv), Ch [25, 26, 27, 95, 96] [] w w4 → Inv RC w4 → (0 ≤ u1.toInt ∧ u1.toInt ≤ 2147483647) → 2147483647 - u1.toInt < f3 → V x 0 0 w4 2 [(0, .ref (gz (xG x) + 94)), (1, .int a1), (2, .int u1)] [] := by
    intro f3
    induction f3 with
    | zero => intro u1 w4 h5 o6 z7 z8; exfalso; omega
    | succ f3 ih9 =>
      intro u1 w4 h5 o6 z7 z8
      refine r_iload_n 2 C dX6_lead_2 rfl ?_
      refine r_aload_n 0 C dX6_lead_3 rfl ?_
      refine gfX6_18 3 C (kS sC h5 kc_94) (xS sC h5 xc_94_4) dX6_lead_4 ?_
      refine gfX6_76 8 C (kS sC h5 kc_3) (xS sC h5 xc_3_13) dX6_lead_7 ?_
      refine r_iload_n 1 C dX6_lead_10 rfl ?_
      refine r_iald C (kS sC h5 kc_8) (vin (by omega) (by omega)) dX6_lead_11 ?_
      generalize (wI w4 8 (a1).toNatClampNeg) = v10
      have k12 := i_rng u1
      have k13 := i_rng v10
      refine r_icmp_ge 102 C dX6_lead_12 (by decide) (fun c11 => ?_) (fun c11 => ?_)
      · have c11' := i_le c11
        exact hret _ _ _ dX6_lead_102 ⟨h5, o6⟩
      · have c11' := i_nle c11
        refine r_aload_n 0 C dX6_lead_15 rfl ?_
        refine gfX6_15 96 C (kS sC h5 kc_94) (xS sC h5 xc_94_3) dX6_lead_16 ?_
        refine r_iload_n 1 C dX6_lead_19 rfl ?_
        refine r_iald C (kS sC h5 kc_96) (vin (by omega) (by omega)) dX6_lead_20 ?_
        generalize (wI w4 96 (a1).toNatClampNeg) = v14
        refine r_iconst (v := (-1)) C dX6_lead_21 (by decide) ?_
        refine r_icmp_eq 102 C dX6_lead_22 (by decide) (fun c15 => ?_) (fun c15 => ?_)
        · have c15' := i_eq c15
          exact hret _ _ _ dX6_lead_102 ⟨h5, o6⟩
        · have c15' := i_ne c15
          refine r_aload_n 0 C dX6_lead_25 rfl ?_
          refine gfX6_22 21 C (kS sC h5 kc_94) (xS sC h5 xc_94_5) dX6_lead_26 ?_
          refine r_aload_n 0 C dX6_lead_29 rfl ?_
          refine gfX6_9 95 C (kS sC h5 kc_94) (xS sC h5 xc_94_2) dX6_lead_30 ?_
          refine r_iload_n 1 C dX6_lead_33 rfl ?_
          refine r_iald C (kS sC h5 kc_95) (vin (by omega) (by omega)) dX6_lead_34 ?_
          generalize (wI w4 95 (a1).toNatClampNeg) = v16
          refine r_aload_n 0 C dX6_lead_35 rfl ?_
          refine gfX6_15 96 C (kS sC h5 kc_94) (xS sC h5 xc_94_3) dX6_lead_36 ?_
          refine r_iload_n 1 C dX6_lead_39 rfl ?_
          refine r_iald C (kS sC h5 kc_96) (vin (by omega) (by omega)) dX6_lead_40 ?_
          generalize (wI w4 96 (a1).toNatClampNeg) = v17
          refine callVI C cwX6_79_V (ctX1_onward_21 _ _ w4 (sS sC h5) o6 v16 v17 ) (by decide) (kS sC h5 kc_21) rfl rfl rfl (Nat.le_of_ble_eq_true rfl) (by decide) dX6_lead_41 (fun r20 w19 y18 => ?_)
          show V x 0 0 w19 44 [(0, .ref (gz (xG x) + 94)), (1, .int a1), (2, .int u1)] [.int r20]
          obtain ⟨h21, o22⟩ := y18
          have h23 := Ch.tr h5 h21 (by decide) (by decide)
          refine r_istore_n [(3, .int r20), (0, .ref (gz (xG x) + 94)), (1, .int a1), (2, .int u1)] C dX6_lead_44 (by decide) rfl ?_
          refine r_aload_n 1 C dX6_lead_45 rfl ?_
          refine gfX6_9 95 C (kS sC h23 kc_94) (xS sC h23 xc_94_2) dX6_lead_46 ?_
          refine r_iload_n 2 C dX6_lead_49 rfl ?_
          refine r_iload_n 0 C dX6_lead_50 rfl ?_
          refine r_iconst (v := (-1)) C dX6_lead_51 (by decide) ?_
          refine r_icmp_ne 64 C dX6_lead_52 (by decide) (fun c24 => ?_) (fun c24 => ?_)
          · have c24' := i_ne c24
            refine r_iload_n 0 C dX6_lead_64 rfl ?_
            refine r_iast C (kS sC h23 kc_95) (vin (by omega) (by omega)) dX6_lead_65 (fun w25 e26 => ?_)
            have h27 := Ch.putS h23 e26 (by decide)
            have o28 := Inv.put0 o22 e26 (by decide)
            refine r_aload_n 1 C dX6_lead_66 rfl ?_
            refine gfX6_9 95 C (kS sC h27 kc_94) (xS sC h27 xc_94_2) dX6_lead_67 ?_
            refine r_iload_n 2 C dX6_lead_70 rfl ?_
            refine r_iald C (kS sC h27 kc_95) (vin (by omega) (by omega)) dX6_lead_71 ?_
            generalize (wI w25 95 (a1).toNatClampNeg) = v29
            refine r_aload_n 1 C dX6_lead_72 rfl ?_
            refine gfX6_15 96 C (kS sC h27 kc_94) (xS sC h27 xc_94_3) dX6_lead_73 ?_
            refine r_iload_n 2 C dX6_lead_76 rfl ?_
            refine r_iald C (kS sC h27 kc_96) (vin (by omega) (by omega)) dX6_lead_77 ?_
            generalize (wI w25 96 (a1).toNatClampNeg) = v30
            refine r_icmp_eq 89 C dX6_lead_78 (by decide) (fun c31 => ?_) (fun c31 => ?_)
            · have c31' := i_eq c31
              refine r_aload_n 1 C dX6_lead_89 rfl ?_
              refine gfX6_15 96 C (kS sC h27 kc_94) (xS sC h27 xc_94_3) dX6_lead_90 ?_
              refine r_iload_n 2 C dX6_lead_93 rfl ?_
              refine r_iconst (v := (-1)) C dX6_lead_94 (by decide) ?_
              refine r_iast C (kS sC h27 kc_96) (vin (by omega) (by omega)) dX6_lead_95 (fun w32 e33 => ?_)
              have h34 := Ch.putS h27 e33 (by decide)
              have o35 := Inv.put0 o28 e33 (by decide)
              obtain ⟨i36, e37⟩ : ∃ z : Int32, u1 + Int32.ofInt 1 = z := ⟨_, rfl⟩
              have i36' := iinc_ok e37 (by decide) (by omega) (by omega)
              refine r_iinc [(2, .int i36), (3, .int r20), (0, .ref (gz (xG x) + 94)), (1, .int a1)] 3 C dX6_lead_96 rfl e37 (by decide) rfl ?_
              refine r_goto 2 C dX6_lead_99 (by decide) ?_
              refine r_lv [2, 3, 0] rfl ?_
              exact ih9 i36 w32 h34 o35 (by omega) (by omega)
            · have c31' := i_ne c31
              refine r_aload_n 1 C dX6_lead_81 rfl ?_
              refine r_iload_n 2 C dX6_lead_82 rfl ?_
              refine callVI C cwX6_82_V (ctX6_fate_94 _ _ w25 (sS sC h27) o28 a1 ) (by decide) (kS sC h27 kc_94) rfl rfl rfl (Nat.le_of_ble_eq_true rfl) (by decide) dX6_lead_83 (fun r40 w39 y38 => ?_)
              show V x 0 0 w39 86 [(3, .int r20), (0, .ref (gz (xG x) + 94)), (1, .int a1), (2, .int u1)] [.int r40]
              obtain ⟨h41, o42⟩ := y38
              have h43 := Ch.tr h27 h41 (by decide) (by decide)
              refine r_if_eq 96 C dX6_lead_86 (by decide) (fun c44 => ?_) (fun c44 => ?_)
              · have c44' := i_eq c44
                obtain ⟨i45, e46⟩ : ∃ z : Int32, u1 + Int32.ofInt 1 = z := ⟨_, rfl⟩
                have i45' := iinc_ok e46 (by decide) (by omega) (by omega)
                refine r_iinc [(2, .int i45), (3, .int r20), (0, .ref (gz (xG x) + 94)), (1, .int a1)] 3 C dX6_lead_96 rfl e46 (by decide) rfl ?_
                refine r_goto 2 C dX6_lead_99 (by decide) ?_
                refine r_lv [2, 3, 0] rfl ?_
                exact ih9 i45 w39 h43 o42 (by omega) (by omega)
              · have c44' := i_ne c44
                refine r_aload_n 1 C dX6_lead_89 rfl ?_
                refine gfX6_15 96 C (kS sC h43 kc_94) (xS sC h43 xc_94_3) dX6_lead_90 ?_
                refine r_iload_n 2 C dX6_lead_93 rfl ?_
                refine r_iconst (v := (-1)) C dX6_lead_94 (by decide) ?_
                refine r_iast C (kS sC h43 kc_96) (vin (by omega) (by omega)) dX6_lead_95 (fun w47 e48 => ?_)
                have h49 := Ch.putS h43 e48 (by decide)
                have o50 := Inv.put0 o42 e48 (by decide)
                obtain ⟨i51, e52⟩ : ∃ z : Int32, u1 + Int32.ofInt 1 = z := ⟨_, rfl⟩
                have i51' := iinc_ok e52 (by decide) (by omega) (by omega)
                refine r_iinc [(2, .int i51), (3, .int r20), (0, .ref (gz (xG x) + 94)), (1, .int a1)] 3 C dX6_lead_96 rfl e52 (by decide) rfl ?_
                refine r_goto 2 C dX6_lead_99 (by decide) ?_
                refine r_lv [2, 3, 0] rfl ?_
                exact ih9 i51 w47 h49 o50 (by omega) (by omega)
          · have c24' := i_eq c24
            refine r_aload_n 1 C dX6_lead_55 rfl ?_
            refine gfX6_9 95 C (kS sC h23 kc_94) (xS sC h23 xc_94_2) dX6_lead_56 ?_
            refine r_iload_n 2 C dX6_lead_59 rfl ?_
            refine r_iald C (kS sC h23 kc_95) (vin (by omega) (by omega)) dX6_lead_60 ?_
            generalize (wI w19 95 (a1).toNatClampNeg) = v53
            refine r_goto 65 C dX6_lead_61 (by decide) ?_
            refine r_iast C (kS sC h23 kc_95) (vin (by omega) (by omega)) dX6_lead_65 (fun w54 e55 => ?_)
            have h56 := Ch.putS h23 e55 (by decide)
            have o57 := Inv.put0 o22 e55 (by decide)
            refine r_aload_n 1 C dX6_lead_66 rfl ?_
            refine gfX6_9 95 C (kS sC h56 kc_94) (xS sC h56 xc_94_2) dX6_lead_67 ?_
            refine r_iload_n 2 C dX6_lead_70 rfl ?_
            refine r_iald C (kS sC h56 kc_95) (vin (by omega) (by omega)) dX6_lead_71 ?_
            generalize (wI w54 95 (a1).toNatClampNeg) = v58
            refine r_aload_n 1 C dX6_lead_72 rfl ?_
            refine gfX6_15 96 C (kS sC h56 kc_94) (xS sC h56 xc_94_3) dX6_lead_73 ?_
            refine r_iload_n 2 C dX6_lead_76 rfl ?_
            refine r_iald C (kS sC h56 kc_96) (vin (by omega) (by omega)) dX6_lead_77 ?_
            generalize (wI w54 96 (a1).toNatClampNeg) = v59
            refine r_icmp_eq 89 C dX6_lead_78 (by decide) (fun c60 => ?_) (fun c60 => ?_)
            · have c60' := i_eq c60
              refine r_aload_n 1 C dX6_lead_89 rfl ?_
              refine gfX6_15 96 C (kS sC h56 kc_94) (xS sC h56 xc_94_3) dX6_lead_90 ?_
              refine r_iload_n 2 C dX6_lead_93 rfl ?_
              refine r_iconst (v := (-1)) C dX6_lead_94 (by decide) ?_
              refine r_iast C (kS sC h56 kc_96) (vin (by omega) (by omega)) dX6_lead_95 (fun w61 e62 => ?_)
              have h63 := Ch.putS h56 e62 (by decide)
              have o64 := Inv.put0 o57 e62 (by decide)
              obtain ⟨i65, e66⟩ : ∃ z : Int32, u1 + Int32.ofInt 1 = z := ⟨_, rfl⟩
              have i65' := iinc_ok e66 (by decide) (by omega) (by omega)
              refine r_iinc [(2, .int i65), (3, .int r20), (0, .ref (gz (xG x) + 94)), (1, .int a1)] 3 C dX6_lead_96 rfl e66 (by decide) rfl ?_
              refine r_goto 2 C dX6_lead_99 (by decide) ?_
              refine r_lv [2, 3, 0] rfl ?_
              exact ih9 i65 w61 h63 o64 (by omega) (by omega)
            · have c60' := i_ne c60
              refine r_aload_n 1 C dX6_lead_81 rfl ?_
              refine r_iload_n 2 C dX6_lead_82 rfl ?_
              refine callVI C cwX6_82_V (ctX6_fate_94 _ _ w54 (sS sC h56) o57 a1 ) (by decide) (kS sC h56 kc_94) rfl rfl rfl (Nat.le_of_ble_eq_true rfl) (by decide) dX6_lead_83 (fun r69 w68 y67 => ?_)
              show V x 0 0 w68 86 [(3, .int r20), (0, .ref (gz (xG x) + 94)), (1, .int a1), (2, .int u1)] [.int r69]
              obtain ⟨h70, o71⟩ := y67
              have h72 := Ch.tr h56 h70 (by decide) (by decide)
              refine r_if_eq 96 C dX6_lead_86 (by decide) (fun c73 => ?_) (fun c73 => ?_)
              · have c73' := i_eq c73
                obtain ⟨i74, e75⟩ : ∃ z : Int32, u1 + Int32.ofInt 1 = z := ⟨_, rfl⟩
                have i74' := iinc_ok e75 (by decide) (by omega) (by omega)
                refine r_iinc [(2, .int i74), (3, .int r20), (0, .ref (gz (xG x) + 94)), (1, .int a1)] 3 C dX6_lead_96 rfl e75 (by decide) rfl ?_
                refine r_goto 2 C dX6_lead_99 (by decide) ?_
                refine r_lv [2, 3, 0] rfl ?_
                exact ih9 i74 w68 h72 o71 (by omega) (by omega)
              · have c73' := i_ne c73
                refine r_aload_n 1 C dX6_lead_89 rfl ?_
                refine gfX6_15 96 C (kS sC h72 kc_94) (xS sC h72 xc_94_3) dX6_lead_90 ?_
                refine r_iload_n 2 C dX6_lead_93 rfl ?_
                refine r_iconst (v := (-1)) C dX6_lead_94 (by decide) ?_
                refine r_iast C (kS sC h72 kc_96) (vin (by omega) (by omega)) dX6_lead_95 (fun w76 e77 => ?_)
                have h78 := Ch.putS h72 e77 (by decide)
                have o79 := Inv.put0 o71 e77 (by decide)
                obtain ⟨i80, e81⟩ : ∃ z : Int32, u1 + Int32.ofInt 1 = z := ⟨_, rfl⟩
                have i80' := iinc_ok e81 (by decide) (by omega) (by omega)
                refine r_iinc [(2, .int i80), (3, .int r20), (0, .ref (gz (xG x) + 94)), (1, .int a1)] 3 C dX6_lead_96 rfl e81 (by decide) rfl ?_
                refine r_goto 2 C dX6_lead_99 (by decide) ?_
                refine r_lv [2, 3, 0] rfl ?_
                exact ih9 i80 w76 h78 o79 (by omega) (by omega)
  refine r_iconst (v := 0) C dX6_lead_0 (by decide) ?_
  refine r_istore_n [(2, .int 0), (0, .ref (gz (xG x) + 94)), (1, .int a1)] C dX6_lead_1 (by decide) rfl ?_
  refine r_lv [1, 2, 0] rfl ?_
  exact LP2 4294967296 0 w h0 o0 (by omega) (by omega)
set_option maxHeartbeats 4000000 in
set_option maxRecDepth 100000 in
theorem ctX6_hears_97 (l : Launch) (G : Gt) (w : Wv) (sC : Str KC XC w) (o0 : Inv RC w) (a1 : Int32) (a2 : Int32) : CtI l G yX6_hears cX6_hears 4 .boolean ({ frames := 2, cells := 0, slots := 0, locals := 50 } : Room) [.ref (gz G + 97), .int a1, .int a2] w (fun r w' => Ch [25, 26, 27] [] w w' ∧ Inv RC w' ∧ ((0 ≤ r.toInt ∧ r.toInt ≤ 1))) := by
  refine enterI (by decide) (Nat.le_of_ble_eq_true rfl) ?_
  intro x el eG C hret
  subst el; subst eG
  show V x 0 0 w 0 [(0, .ref (gz (xG x) + 97)), (1, .int a1), (2, .int a2)] []
  have h0 : Ch [25, 26, 27] [] w w := Ch.rf
  have qm1 : ((-1) : Int32).toInt = (-1) := by decide
  have q0 : (0 : Int32).toInt = 0 := by decide
  have q1 : (1 : Int32).toInt = 1 := by decide
  refine r_aload_n 0 C dX6_hears_0 rfl ?_
  refine gfX6_18 3 C (kS sC h0 kc_97) (xS sC h0 xc_97_4) dX6_hears_1 ?_
  refine r_iload_n 1 C dX6_hears_4 rfl ?_
  refine r_iload_n 2 C dX6_hears_5 rfl ?_
  refine callVI C cwX6_63_V (ctX9_isFollower_3 _ _ w (sS sC h0) o0 a1 a2 ) (by decide) (kS sC h0 kc_3) rfl rfl rfl (Nat.le_of_ble_eq_true rfl) (by decide) dX6_hears_6 (fun r3 w2 y1 => ?_)
  show V x 0 0 w2 9 [(0, .ref (gz (xG x) + 97)), (1, .int a1), (2, .int a2)] [.int r3]
  obtain ⟨h4, o5, g6⟩ := y1
  have h7 := Ch.tr h0 h4 (by decide) (by decide)
  refine r_if_eq 20 C dX6_hears_9 (by decide) (fun c8 => ?_) (fun c8 => ?_)
  · have c8' := i_eq c8
    refine r_iconst (v := 0) C dX6_hears_20 (by decide) ?_
    exact hret _ _ _ _ dX6_hears_21 (nar_z (z_of (by omega))) ⟨h7, o5, by omega⟩
  · have c8' := i_ne c8
    refine r_aload_n 0 C dX6_hears_12 rfl ?_
    refine r_iload_n 1 C dX6_hears_13 rfl ?_
    refine callVI C cwX6_66_V (ctX6_isHere_97 _ _ w2 (sS sC h7) o5 a1 ) (by decide) (kS sC h7 kc_97) rfl rfl rfl (Nat.le_of_ble_eq_true rfl) (by decide) dX6_hears_14 (fun r11 w10 y9 => ?_)
    show V x 0 0 w10 17 [(0, .ref (gz (xG x) + 97)), (1, .int a1), (2, .int a2)] [.int r11]
    obtain ⟨h12, o13, g14⟩ := y9
    have h15 := Ch.tr h7 h12 (by decide) (by decide)
    refine r_if_ne 22 C dX6_hears_17 (by decide) (fun c16 => ?_) (fun c16 => ?_)
    · have c16' := i_ne c16
      refine r_aload_n 0 C dX6_hears_22 rfl ?_
      refine gfX6_22 21 C (kS sC h15 kc_97) (xS sC h15 xc_97_5) dX6_hears_23 ?_
      refine r_aload_n 0 C dX6_hears_26 rfl ?_
      refine gfX6_9 98 C (kS sC h15 kc_97) (xS sC h15 xc_97_2) dX6_hears_27 ?_
      refine r_iload_n 1 C dX6_hears_30 rfl ?_
      refine r_iald C (kS sC h15 kc_98) (vin (by omega) (by omega)) dX6_hears_31 ?_
      generalize (wI w10 98 (a1).toNatClampNeg) = v17
      refine r_aload_n 0 C dX6_hears_32 rfl ?_
      refine gfX6_32 (v := (wI w 97 0)) C (kS sC h15 kc_97) (h12.I (by decide) (by decide) (h4.I (by decide) (by decide) rfl)) dX6_hears_33 ?_
      refine callVI C cwX6_70_V (ctX1_steps_21 _ _ w10 (sS sC h15) o13 v17 (wI w 97 0) ) (by decide) (kS sC h15 kc_21) rfl rfl rfl (Nat.le_of_ble_eq_true rfl) (by decide) dX6_hears_36 (fun r20 w19 y18 => ?_)
      show V x 0 0 w19 39 [(0, .ref (gz (xG x) + 97)), (1, .int a1), (2, .int a2)] [.int r20]
      obtain ⟨h21, o22⟩ := y18
      have h23 := Ch.tr h15 h21 (by decide) (by decide)
      refine r_istore_n [(3, .int r20), (0, .ref (gz (xG x) + 97)), (1, .int a1), (2, .int a2)] C dX6_hears_39 (by decide) rfl ?_
      refine r_iload_n 0 C dX6_hears_40 rfl ?_
      refine r_iconst (v := (-1)) C dX6_hears_41 (by decide) ?_
      refine r_icmp_eq 62 C dX6_hears_42 (by decide) (fun c24 => ?_) (fun c24 => ?_)
      · have c24' := i_eq c24
        refine r_iconst (v := 0) C dX6_hears_62 (by decide) ?_
        exact hret _ _ _ _ dX6_hears_63 (nar_z (z_of (by omega))) ⟨h23, o22, by omega⟩
      · have c24' := i_ne c24
        refine r_iload_n 0 C dX6_hears_45 rfl ?_
        refine r_aload_n 1 C dX6_hears_46 rfl ?_
        refine gfX6_18 3 C (kS sC h23 kc_97) (xS sC h23 xc_97_4) dX6_hears_47 ?_
        refine gfX6_73 11 C (kS sC h23 kc_3) (xS sC h23 xc_3_16) dX6_hears_50 ?_
        refine r_iload_n 3 C dX6_hears_53 rfl ?_
        refine r_iald C (kS sC h23 kc_11) (vin (by omega) (by omega)) dX6_hears_54 ?_
        generalize (wI w19 11 (a2).toNatClampNeg) = v25
        have k27 := i_rng r20
        have k28 := i_rng v25
        refine r_icmp_gt 62 C dX6_hears_55 (by decide) (fun c26 => ?_) (fun c26 => ?_)
        · have c26' := i_lt c26
          refine r_iconst (v := 0) C dX6_hears_62 (by decide) ?_
          exact hret _ _ _ _ dX6_hears_63 (nar_z (z_of (by omega))) ⟨h23, o22, by omega⟩
        · have c26' := i_nlt c26
          refine r_iconst (v := 1) C dX6_hears_58 (by decide) ?_
          refine r_goto 63 C dX6_hears_59 (by decide) ?_
          exact hret _ _ _ _ dX6_hears_63 (nar_z (z_of (by omega))) ⟨h23, o22, by omega⟩
    · have c16' := i_eq c16
      refine r_iconst (v := 0) C dX6_hears_20 (by decide) ?_
      exact hret _ _ _ _ dX6_hears_21 (nar_z (z_of (by omega))) ⟨h15, o13, by omega⟩
set_option maxHeartbeats 4000000 in
set_option maxRecDepth 100000 in
theorem ctX6_lead_97 (l : Launch) (G : Gt) (w : Wv) (sC : Str KC XC w) (o0 : Inv RC w) (a1 : Int32) (b1 : 0 ≤ a1.toInt ∧ a1.toInt ≤ 5) : CtV l G yX6_lead cX6_lead 4 ({ frames := 2, cells := 0, slots := 0, locals := 54 } : Room) [.ref (gz G + 97), .int a1] w (fun w' => Ch [25, 26, 27, 98, 99] [] w w' ∧ Inv RC w') := by
  refine enterV (by decide) (Nat.le_of_ble_eq_true rfl) ?_
  intro x el eG C hnm hret
  subst el; subst eG
  show V x 0 0 w 0 [(0, .ref (gz (xG x) + 97)), (1, .int a1)] []
  have h0 : Ch [25, 26, 27, 98, 99] [] w w := Ch.rf
  have qm1 : ((-1) : Int32).toInt = (-1) := by decide
  have q0 : (0 : Int32).toInt = 0 := by decide
  have LP2 : ∀ (f3 : Nat) (u1 : Int32) (w4 : Wv), Ch [25, 26, 27, 98, 99] [] w w4 → Inv RC w4 → (0 ≤ u1.toInt ∧ u1.toInt ≤ 2147483647) → 2147483647 - u1.toInt < f3 → V x 0 0 w4 2 [(0, .ref (gz (xG x) + 97)), (1, .int a1), (2, .int u1)] [] := by
    intro f3
    induction f3 with
    | zero => intro u1 w4 h5 o6 z7 z8; exfalso; omega
    | succ f3 ih9 =>
      intro u1 w4 h5 o6 z7 z8
      refine r_iload_n 2 C dX6_lead_2 rfl ?_
      refine r_aload_n 0 C dX6_lead_3 rfl ?_
      refine gfX6_18 3 C (kS sC h5 kc_97) (xS sC h5 xc_97_4) dX6_lead_4 ?_
      refine gfX6_76 8 C (kS sC h5 kc_3) (xS sC h5 xc_3_13) dX6_lead_7 ?_
      refine r_iload_n 1 C dX6_lead_10 rfl ?_
      refine r_iald C (kS sC h5 kc_8) (vin (by omega) (by omega)) dX6_lead_11 ?_
      generalize (wI w4 8 (a1).toNatClampNeg) = v10
      have k12 := i_rng u1
      have k13 := i_rng v10
      refine r_icmp_ge 102 C dX6_lead_12 (by decide) (fun c11 => ?_) (fun c11 => ?_)
      · have c11' := i_le c11
        exact hret _ _ _ dX6_lead_102 ⟨h5, o6⟩
      · have c11' := i_nle c11
        refine r_aload_n 0 C dX6_lead_15 rfl ?_
        refine gfX6_15 99 C (kS sC h5 kc_97) (xS sC h5 xc_97_3) dX6_lead_16 ?_
        refine r_iload_n 1 C dX6_lead_19 rfl ?_
        refine r_iald C (kS sC h5 kc_99) (vin (by omega) (by omega)) dX6_lead_20 ?_
        generalize (wI w4 99 (a1).toNatClampNeg) = v14
        refine r_iconst (v := (-1)) C dX6_lead_21 (by decide) ?_
        refine r_icmp_eq 102 C dX6_lead_22 (by decide) (fun c15 => ?_) (fun c15 => ?_)
        · have c15' := i_eq c15
          exact hret _ _ _ dX6_lead_102 ⟨h5, o6⟩
        · have c15' := i_ne c15
          refine r_aload_n 0 C dX6_lead_25 rfl ?_
          refine gfX6_22 21 C (kS sC h5 kc_97) (xS sC h5 xc_97_5) dX6_lead_26 ?_
          refine r_aload_n 0 C dX6_lead_29 rfl ?_
          refine gfX6_9 98 C (kS sC h5 kc_97) (xS sC h5 xc_97_2) dX6_lead_30 ?_
          refine r_iload_n 1 C dX6_lead_33 rfl ?_
          refine r_iald C (kS sC h5 kc_98) (vin (by omega) (by omega)) dX6_lead_34 ?_
          generalize (wI w4 98 (a1).toNatClampNeg) = v16
          refine r_aload_n 0 C dX6_lead_35 rfl ?_
          refine gfX6_15 99 C (kS sC h5 kc_97) (xS sC h5 xc_97_3) dX6_lead_36 ?_
          refine r_iload_n 1 C dX6_lead_39 rfl ?_
          refine r_iald C (kS sC h5 kc_99) (vin (by omega) (by omega)) dX6_lead_40 ?_
          generalize (wI w4 99 (a1).toNatClampNeg) = v17
          refine callVI C cwX6_79_V (ctX1_onward_21 _ _ w4 (sS sC h5) o6 v16 v17 ) (by decide) (kS sC h5 kc_21) rfl rfl rfl (Nat.le_of_ble_eq_true rfl) (by decide) dX6_lead_41 (fun r20 w19 y18 => ?_)
          show V x 0 0 w19 44 [(0, .ref (gz (xG x) + 97)), (1, .int a1), (2, .int u1)] [.int r20]
          obtain ⟨h21, o22⟩ := y18
          have h23 := Ch.tr h5 h21 (by decide) (by decide)
          refine r_istore_n [(3, .int r20), (0, .ref (gz (xG x) + 97)), (1, .int a1), (2, .int u1)] C dX6_lead_44 (by decide) rfl ?_
          refine r_aload_n 1 C dX6_lead_45 rfl ?_
          refine gfX6_9 98 C (kS sC h23 kc_97) (xS sC h23 xc_97_2) dX6_lead_46 ?_
          refine r_iload_n 2 C dX6_lead_49 rfl ?_
          refine r_iload_n 0 C dX6_lead_50 rfl ?_
          refine r_iconst (v := (-1)) C dX6_lead_51 (by decide) ?_
          refine r_icmp_ne 64 C dX6_lead_52 (by decide) (fun c24 => ?_) (fun c24 => ?_)
          · have c24' := i_ne c24
            refine r_iload_n 0 C dX6_lead_64 rfl ?_
            refine r_iast C (kS sC h23 kc_98) (vin (by omega) (by omega)) dX6_lead_65 (fun w25 e26 => ?_)
            have h27 := Ch.putS h23 e26 (by decide)
            have o28 := Inv.put0 o22 e26 (by decide)
            refine r_aload_n 1 C dX6_lead_66 rfl ?_
            refine gfX6_9 98 C (kS sC h27 kc_97) (xS sC h27 xc_97_2) dX6_lead_67 ?_
            refine r_iload_n 2 C dX6_lead_70 rfl ?_
            refine r_iald C (kS sC h27 kc_98) (vin (by omega) (by omega)) dX6_lead_71 ?_
            generalize (wI w25 98 (a1).toNatClampNeg) = v29
            refine r_aload_n 1 C dX6_lead_72 rfl ?_
            refine gfX6_15 99 C (kS sC h27 kc_97) (xS sC h27 xc_97_3) dX6_lead_73 ?_
            refine r_iload_n 2 C dX6_lead_76 rfl ?_
            refine r_iald C (kS sC h27 kc_99) (vin (by omega) (by omega)) dX6_lead_77 ?_
            generalize (wI w25 99 (a1).toNatClampNeg) = v30
            refine r_icmp_eq 89 C dX6_lead_78 (by decide) (fun c31 => ?_) (fun c31 => ?_)
            · have c31' := i_eq c31
              refine r_aload_n 1 C dX6_lead_89 rfl ?_
              refine gfX6_15 99 C (kS sC h27 kc_97) (xS sC h27 xc_97_3) dX6_lead_90 ?_
              refine r_iload_n 2 C dX6_lead_93 rfl ?_
              refine r_iconst (v := (-1)) C dX6_lead_94 (by decide) ?_
              refine r_iast C (kS sC h27 kc_99) (vin (by omega) (by omega)) dX6_lead_95 (fun w32 e33 => ?_)
              have h34 := Ch.putS h27 e33 (by decide)
              have o35 := Inv.put0 o28 e33 (by decide)
              obtain ⟨i36, e37⟩ : ∃ z : Int32, u1 + Int32.ofInt 1 = z := ⟨_, rfl⟩
              have i36' := iinc_ok e37 (by decide) (by omega) (by omega)
              refine r_iinc [(2, .int i36), (3, .int r20), (0, .ref (gz (xG x) + 97)), (1, .int a1)] 3 C dX6_lead_96 rfl e37 (by decide) rfl ?_
              refine r_goto 2 C dX6_lead_99 (by decide) ?_
              refine r_lv [2, 3, 0] rfl ?_
              exact ih9 i36 w32 h34 o35 (by omega) (by omega)
            · have c31' := i_ne c31
              refine r_aload_n 1 C dX6_lead_81 rfl ?_
              refine r_iload_n 2 C dX6_lead_82 rfl ?_
              refine callVI C cwX6_82_V (ctX6_fate_97 _ _ w25 (sS sC h27) o28 a1 ) (by decide) (kS sC h27 kc_97) rfl rfl rfl (Nat.le_of_ble_eq_true rfl) (by decide) dX6_lead_83 (fun r40 w39 y38 => ?_)
              show V x 0 0 w39 86 [(3, .int r20), (0, .ref (gz (xG x) + 97)), (1, .int a1), (2, .int u1)] [.int r40]
              obtain ⟨h41, o42⟩ := y38
              have h43 := Ch.tr h27 h41 (by decide) (by decide)
              refine r_if_eq 96 C dX6_lead_86 (by decide) (fun c44 => ?_) (fun c44 => ?_)
              · have c44' := i_eq c44
                obtain ⟨i45, e46⟩ : ∃ z : Int32, u1 + Int32.ofInt 1 = z := ⟨_, rfl⟩
                have i45' := iinc_ok e46 (by decide) (by omega) (by omega)
                refine r_iinc [(2, .int i45), (3, .int r20), (0, .ref (gz (xG x) + 97)), (1, .int a1)] 3 C dX6_lead_96 rfl e46 (by decide) rfl ?_
                refine r_goto 2 C dX6_lead_99 (by decide) ?_
                refine r_lv [2, 3, 0] rfl ?_
                exact ih9 i45 w39 h43 o42 (by omega) (by omega)
              · have c44' := i_ne c44
                refine r_aload_n 1 C dX6_lead_89 rfl ?_
                refine gfX6_15 99 C (kS sC h43 kc_97) (xS sC h43 xc_97_3) dX6_lead_90 ?_
                refine r_iload_n 2 C dX6_lead_93 rfl ?_
                refine r_iconst (v := (-1)) C dX6_lead_94 (by decide) ?_
                refine r_iast C (kS sC h43 kc_99) (vin (by omega) (by omega)) dX6_lead_95 (fun w47 e48 => ?_)
                have h49 := Ch.putS h43 e48 (by decide)
                have o50 := Inv.put0 o42 e48 (by decide)
                obtain ⟨i51, e52⟩ : ∃ z : Int32, u1 + Int32.ofInt 1 = z := ⟨_, rfl⟩
                have i51' := iinc_ok e52 (by decide) (by omega) (by omega)
                refine r_iinc [(2, .int i51), (3, .int r20), (0, .ref (gz (xG x) + 97)), (1, .int a1)] 3 C dX6_lead_96 rfl e52 (by decide) rfl ?_
                refine r_goto 2 C dX6_lead_99 (by decide) ?_
                refine r_lv [2, 3, 0] rfl ?_
                exact ih9 i51 w47 h49 o50 (by omega) (by omega)
          · have c24' := i_eq c24
            refine r_aload_n 1 C dX6_lead_55 rfl ?_
            refine gfX6_9 98 C (kS sC h23 kc_97) (xS sC h23 xc_97_2) dX6_lead_56 ?_
            refine r_iload_n 2 C dX6_lead_59 rfl ?_
            refine r_iald C (kS sC h23 kc_98) (vin (by omega) (by omega)) dX6_lead_60 ?_
            generalize (wI w19 98 (a1).toNatClampNeg) = v53
            refine r_goto 65 C dX6_lead_61 (by decide) ?_
            refine r_iast C (kS sC h23 kc_98) (vin (by omega) (by omega)) dX6_lead_65 (fun w54 e55 => ?_)
            have h56 := Ch.putS h23 e55 (by decide)
            have o57 := Inv.put0 o22 e55 (by decide)
            refine r_aload_n 1 C dX6_lead_66 rfl ?_
            refine gfX6_9 98 C (kS sC h56 kc_97) (xS sC h56 xc_97_2) dX6_lead_67 ?_
            refine r_iload_n 2 C dX6_lead_70 rfl ?_
            refine r_iald C (kS sC h56 kc_98) (vin (by omega) (by omega)) dX6_lead_71 ?_
            generalize (wI w54 98 (a1).toNatClampNeg) = v58
            refine r_aload_n 1 C dX6_lead_72 rfl ?_
            refine gfX6_15 99 C (kS sC h56 kc_97) (xS sC h56 xc_97_3) dX6_lead_73 ?_
            refine r_iload_n 2 C dX6_lead_76 rfl ?_
            refine r_iald C (kS sC h56 kc_99) (vin (by omega) (by omega)) dX6_lead_77 ?_
            generalize (wI w54 99 (a1).toNatClampNeg) = v59
            refine r_icmp_eq 89 C dX6_lead_78 (by decide) (fun c60 => ?_) (fun c60 => ?_)
            · have c60' := i_eq c60
              refine r_aload_n 1 C dX6_lead_89 rfl ?_
              refine gfX6_15 99 C (kS sC h56 kc_97) (xS sC h56 xc_97_3) dX6_lead_90 ?_
              refine r_iload_n 2 C dX6_lead_93 rfl ?_
              refine r_iconst (v := (-1)) C dX6_lead_94 (by decide) ?_
              refine r_iast C (kS sC h56 kc_99) (vin (by omega) (by omega)) dX6_lead_95 (fun w61 e62 => ?_)
              have h63 := Ch.putS h56 e62 (by decide)
              have o64 := Inv.put0 o57 e62 (by decide)
              obtain ⟨i65, e66⟩ : ∃ z : Int32, u1 + Int32.ofInt 1 = z := ⟨_, rfl⟩
              have i65' := iinc_ok e66 (by decide) (by omega) (by omega)
              refine r_iinc [(2, .int i65), (3, .int r20), (0, .ref (gz (xG x) + 97)), (1, .int a1)] 3 C dX6_lead_96 rfl e66 (by decide) rfl ?_
              refine r_goto 2 C dX6_lead_99 (by decide) ?_
              refine r_lv [2, 3, 0] rfl ?_
              exact ih9 i65 w61 h63 o64 (by omega) (by omega)
            · have c60' := i_ne c60
              refine r_aload_n 1 C dX6_lead_81 rfl ?_
              refine r_iload_n 2 C dX6_lead_82 rfl ?_
              refine callVI C cwX6_82_V (ctX6_fate_97 _ _ w54 (sS sC h56) o57 a1 ) (by decide) (kS sC h56 kc_97) rfl rfl rfl (Nat.le_of_ble_eq_true rfl) (by decide) dX6_lead_83 (fun r69 w68 y67 => ?_)
              show V x 0 0 w68 86 [(3, .int r20), (0, .ref (gz (xG x) + 97)), (1, .int a1), (2, .int u1)] [.int r69]
              obtain ⟨h70, o71⟩ := y67
              have h72 := Ch.tr h56 h70 (by decide) (by decide)
              refine r_if_eq 96 C dX6_lead_86 (by decide) (fun c73 => ?_) (fun c73 => ?_)
              · have c73' := i_eq c73
                obtain ⟨i74, e75⟩ : ∃ z : Int32, u1 + Int32.ofInt 1 = z := ⟨_, rfl⟩
                have i74' := iinc_ok e75 (by decide) (by omega) (by omega)
                refine r_iinc [(2, .int i74), (3, .int r20), (0, .ref (gz (xG x) + 97)), (1, .int a1)] 3 C dX6_lead_96 rfl e75 (by decide) rfl ?_
                refine r_goto 2 C dX6_lead_99 (by decide) ?_
                refine r_lv [2, 3, 0] rfl ?_
                exact ih9 i74 w68 h72 o71 (by omega) (by omega)
              · have c73' := i_ne c73
                refine r_aload_n 1 C dX6_lead_89 rfl ?_
                refine gfX6_15 99 C (kS sC h72 kc_97) (xS sC h72 xc_97_3) dX6_lead_90 ?_
                refine r_iload_n 2 C dX6_lead_93 rfl ?_
                refine r_iconst (v := (-1)) C dX6_lead_94 (by decide) ?_
                refine r_iast C (kS sC h72 kc_99) (vin (by omega) (by omega)) dX6_lead_95 (fun w76 e77 => ?_)
                have h78 := Ch.putS h72 e77 (by decide)
                have o79 := Inv.put0 o71 e77 (by decide)
                obtain ⟨i80, e81⟩ : ∃ z : Int32, u1 + Int32.ofInt 1 = z := ⟨_, rfl⟩
                have i80' := iinc_ok e81 (by decide) (by omega) (by omega)
                refine r_iinc [(2, .int i80), (3, .int r20), (0, .ref (gz (xG x) + 97)), (1, .int a1)] 3 C dX6_lead_96 rfl e81 (by decide) rfl ?_
                refine r_goto 2 C dX6_lead_99 (by decide) ?_
                refine r_lv [2, 3, 0] rfl ?_
                exact ih9 i80 w76 h78 o79 (by omega) (by omega)
  refine r_iconst (v := 0) C dX6_lead_0 (by decide) ?_
  refine r_istore_n [(2, .int 0), (0, .ref (gz (xG x) + 97)), (1, .int a1)] C dX6_lead_1 (by decide) rfl ?_
  refine r_lv [1, 2, 0] rfl ?_
  exact LP2 4294967296 0 w h0 o0 (by omega) (by omega)
set_option maxHeartbeats 4000000 in
set_option maxRecDepth 100000 in
theorem ctX6_hears_100 (l : Launch) (G : Gt) (w : Wv) (sC : Str KC XC w) (o0 : Inv RC w) (a1 : Int32) (a2 : Int32) : CtI l G yX6_hears cX6_hears 4 .boolean ({ frames := 2, cells := 0, slots := 0, locals := 50 } : Room) [.ref (gz G + 100), .int a1, .int a2] w (fun r w' => Ch [25, 26, 27] [] w w' ∧ Inv RC w' ∧ ((0 ≤ r.toInt ∧ r.toInt ≤ 1))) := by
  refine enterI (by decide) (Nat.le_of_ble_eq_true rfl) ?_
  intro x el eG C hret
  subst el; subst eG
  show V x 0 0 w 0 [(0, .ref (gz (xG x) + 100)), (1, .int a1), (2, .int a2)] []
  have h0 : Ch [25, 26, 27] [] w w := Ch.rf
  have qm1 : ((-1) : Int32).toInt = (-1) := by decide
  have q0 : (0 : Int32).toInt = 0 := by decide
  have q1 : (1 : Int32).toInt = 1 := by decide
  refine r_aload_n 0 C dX6_hears_0 rfl ?_
  refine gfX6_18 3 C (kS sC h0 kc_100) (xS sC h0 xc_100_4) dX6_hears_1 ?_
  refine r_iload_n 1 C dX6_hears_4 rfl ?_
  refine r_iload_n 2 C dX6_hears_5 rfl ?_
  refine callVI C cwX6_63_V (ctX9_isFollower_3 _ _ w (sS sC h0) o0 a1 a2 ) (by decide) (kS sC h0 kc_3) rfl rfl rfl (Nat.le_of_ble_eq_true rfl) (by decide) dX6_hears_6 (fun r3 w2 y1 => ?_)
  show V x 0 0 w2 9 [(0, .ref (gz (xG x) + 100)), (1, .int a1), (2, .int a2)] [.int r3]
  obtain ⟨h4, o5, g6⟩ := y1
  have h7 := Ch.tr h0 h4 (by decide) (by decide)
  refine r_if_eq 20 C dX6_hears_9 (by decide) (fun c8 => ?_) (fun c8 => ?_)
  · have c8' := i_eq c8
    refine r_iconst (v := 0) C dX6_hears_20 (by decide) ?_
    exact hret _ _ _ _ dX6_hears_21 (nar_z (z_of (by omega))) ⟨h7, o5, by omega⟩
  · have c8' := i_ne c8
    refine r_aload_n 0 C dX6_hears_12 rfl ?_
    refine r_iload_n 1 C dX6_hears_13 rfl ?_
    refine callVI C cwX6_66_V (ctX6_isHere_100 _ _ w2 (sS sC h7) o5 a1 ) (by decide) (kS sC h7 kc_100) rfl rfl rfl (Nat.le_of_ble_eq_true rfl) (by decide) dX6_hears_14 (fun r11 w10 y9 => ?_)
    show V x 0 0 w10 17 [(0, .ref (gz (xG x) + 100)), (1, .int a1), (2, .int a2)] [.int r11]
    obtain ⟨h12, o13, g14⟩ := y9
    have h15 := Ch.tr h7 h12 (by decide) (by decide)
    refine r_if_ne 22 C dX6_hears_17 (by decide) (fun c16 => ?_) (fun c16 => ?_)
    · have c16' := i_ne c16
      refine r_aload_n 0 C dX6_hears_22 rfl ?_
      refine gfX6_22 21 C (kS sC h15 kc_100) (xS sC h15 xc_100_5) dX6_hears_23 ?_
      refine r_aload_n 0 C dX6_hears_26 rfl ?_
      refine gfX6_9 101 C (kS sC h15 kc_100) (xS sC h15 xc_100_2) dX6_hears_27 ?_
      refine r_iload_n 1 C dX6_hears_30 rfl ?_
      refine r_iald C (kS sC h15 kc_101) (vin (by omega) (by omega)) dX6_hears_31 ?_
      generalize (wI w10 101 (a1).toNatClampNeg) = v17
      refine r_aload_n 0 C dX6_hears_32 rfl ?_
      refine gfX6_32 (v := (wI w 100 0)) C (kS sC h15 kc_100) (h12.I (by decide) (by decide) (h4.I (by decide) (by decide) rfl)) dX6_hears_33 ?_
      refine callVI C cwX6_70_V (ctX1_steps_21 _ _ w10 (sS sC h15) o13 v17 (wI w 100 0) ) (by decide) (kS sC h15 kc_21) rfl rfl rfl (Nat.le_of_ble_eq_true rfl) (by decide) dX6_hears_36 (fun r20 w19 y18 => ?_)
      show V x 0 0 w19 39 [(0, .ref (gz (xG x) + 100)), (1, .int a1), (2, .int a2)] [.int r20]
      obtain ⟨h21, o22⟩ := y18
      have h23 := Ch.tr h15 h21 (by decide) (by decide)
      refine r_istore_n [(3, .int r20), (0, .ref (gz (xG x) + 100)), (1, .int a1), (2, .int a2)] C dX6_hears_39 (by decide) rfl ?_
      refine r_iload_n 0 C dX6_hears_40 rfl ?_
      refine r_iconst (v := (-1)) C dX6_hears_41 (by decide) ?_
      refine r_icmp_eq 62 C dX6_hears_42 (by decide) (fun c24 => ?_) (fun c24 => ?_)
      · have c24' := i_eq c24
        refine r_iconst (v := 0) C dX6_hears_62 (by decide) ?_
        exact hret _ _ _ _ dX6_hears_63 (nar_z (z_of (by omega))) ⟨h23, o22, by omega⟩
      · have c24' := i_ne c24
        refine r_iload_n 0 C dX6_hears_45 rfl ?_
        refine r_aload_n 1 C dX6_hears_46 rfl ?_
        refine gfX6_18 3 C (kS sC h23 kc_100) (xS sC h23 xc_100_4) dX6_hears_47 ?_
        refine gfX6_73 11 C (kS sC h23 kc_3) (xS sC h23 xc_3_16) dX6_hears_50 ?_
        refine r_iload_n 3 C dX6_hears_53 rfl ?_
        refine r_iald C (kS sC h23 kc_11) (vin (by omega) (by omega)) dX6_hears_54 ?_
        generalize (wI w19 11 (a2).toNatClampNeg) = v25
        have k27 := i_rng r20
        have k28 := i_rng v25
        refine r_icmp_gt 62 C dX6_hears_55 (by decide) (fun c26 => ?_) (fun c26 => ?_)
        · have c26' := i_lt c26
          refine r_iconst (v := 0) C dX6_hears_62 (by decide) ?_
          exact hret _ _ _ _ dX6_hears_63 (nar_z (z_of (by omega))) ⟨h23, o22, by omega⟩
        · have c26' := i_nlt c26
          refine r_iconst (v := 1) C dX6_hears_58 (by decide) ?_
          refine r_goto 63 C dX6_hears_59 (by decide) ?_
          exact hret _ _ _ _ dX6_hears_63 (nar_z (z_of (by omega))) ⟨h23, o22, by omega⟩
    · have c16' := i_eq c16
      refine r_iconst (v := 0) C dX6_hears_20 (by decide) ?_
      exact hret _ _ _ _ dX6_hears_21 (nar_z (z_of (by omega))) ⟨h15, o13, by omega⟩
set_option maxHeartbeats 4000000 in
set_option maxRecDepth 100000 in
theorem ctX6_lead_100 (l : Launch) (G : Gt) (w : Wv) (sC : Str KC XC w) (o0 : Inv RC w) (a1 : Int32) (b1 : 0 ≤ a1.toInt ∧ a1.toInt ≤ 5) : CtV l G yX6_lead cX6_lead 4 ({ frames := 2, cells := 0, slots := 0, locals := 54 } : Room) [.ref (gz G + 100), .int a1] w (fun w' => Ch [25, 26, 27, 101, 102] [] w w' ∧ Inv RC w') := by
  refine enterV (by decide) (Nat.le_of_ble_eq_true rfl) ?_
  intro x el eG C hnm hret
  subst el; subst eG
  show V x 0 0 w 0 [(0, .ref (gz (xG x) + 100)), (1, .int a1)] []
  have h0 : Ch [25, 26, 27, 101, 102] [] w w := Ch.rf
  have qm1 : ((-1) : Int32).toInt = (-1) := by decide
  have q0 : (0 : Int32).toInt = 0 := by decide
  have LP2 : ∀ (f3 : Nat) (u1 : Int32) (w4 : Wv), Ch [25, 26, 27, 101, 102] [] w w4 → Inv RC w4 → (0 ≤ u1.toInt ∧ u1.toInt ≤ 2147483647) → 2147483647 - u1.toInt < f3 → V x 0 0 w4 2 [(0, .ref (gz (xG x) + 100)), (1, .int a1), (2, .int u1)] [] := by
    intro f3
    induction f3 with
    | zero => intro u1 w4 h5 o6 z7 z8; exfalso; omega
    | succ f3 ih9 =>
      intro u1 w4 h5 o6 z7 z8
      refine r_iload_n 2 C dX6_lead_2 rfl ?_
      refine r_aload_n 0 C dX6_lead_3 rfl ?_
      refine gfX6_18 3 C (kS sC h5 kc_100) (xS sC h5 xc_100_4) dX6_lead_4 ?_
      refine gfX6_76 8 C (kS sC h5 kc_3) (xS sC h5 xc_3_13) dX6_lead_7 ?_
      refine r_iload_n 1 C dX6_lead_10 rfl ?_
      refine r_iald C (kS sC h5 kc_8) (vin (by omega) (by omega)) dX6_lead_11 ?_
      generalize (wI w4 8 (a1).toNatClampNeg) = v10
      have k12 := i_rng u1
      have k13 := i_rng v10
      refine r_icmp_ge 102 C dX6_lead_12 (by decide) (fun c11 => ?_) (fun c11 => ?_)
      · have c11' := i_le c11
        exact hret _ _ _ dX6_lead_102 ⟨h5, o6⟩
      · have c11' := i_nle c11
        refine r_aload_n 0 C dX6_lead_15 rfl ?_
        refine gfX6_15 102 C (kS sC h5 kc_100) (xS sC h5 xc_100_3) dX6_lead_16 ?_
        refine r_iload_n 1 C dX6_lead_19 rfl ?_
        refine r_iald C (kS sC h5 kc_102) (vin (by omega) (by omega)) dX6_lead_20 ?_
        generalize (wI w4 102 (a1).toNatClampNeg) = v14
        refine r_iconst (v := (-1)) C dX6_lead_21 (by decide) ?_
        refine r_icmp_eq 102 C dX6_lead_22 (by decide) (fun c15 => ?_) (fun c15 => ?_)
        · have c15' := i_eq c15
          exact hret _ _ _ dX6_lead_102 ⟨h5, o6⟩
        · have c15' := i_ne c15
          refine r_aload_n 0 C dX6_lead_25 rfl ?_
          refine gfX6_22 21 C (kS sC h5 kc_100) (xS sC h5 xc_100_5) dX6_lead_26 ?_
          refine r_aload_n 0 C dX6_lead_29 rfl ?_
          refine gfX6_9 101 C (kS sC h5 kc_100) (xS sC h5 xc_100_2) dX6_lead_30 ?_
          refine r_iload_n 1 C dX6_lead_33 rfl ?_
          refine r_iald C (kS sC h5 kc_101) (vin (by omega) (by omega)) dX6_lead_34 ?_
          generalize (wI w4 101 (a1).toNatClampNeg) = v16
          refine r_aload_n 0 C dX6_lead_35 rfl ?_
          refine gfX6_15 102 C (kS sC h5 kc_100) (xS sC h5 xc_100_3) dX6_lead_36 ?_
          refine r_iload_n 1 C dX6_lead_39 rfl ?_
          refine r_iald C (kS sC h5 kc_102) (vin (by omega) (by omega)) dX6_lead_40 ?_
          generalize (wI w4 102 (a1).toNatClampNeg) = v17
          refine callVI C cwX6_79_V (ctX1_onward_21 _ _ w4 (sS sC h5) o6 v16 v17 ) (by decide) (kS sC h5 kc_21) rfl rfl rfl (Nat.le_of_ble_eq_true rfl) (by decide) dX6_lead_41 (fun r20 w19 y18 => ?_)
          show V x 0 0 w19 44 [(0, .ref (gz (xG x) + 100)), (1, .int a1), (2, .int u1)] [.int r20]
          obtain ⟨h21, o22⟩ := y18
          have h23 := Ch.tr h5 h21 (by decide) (by decide)
          refine r_istore_n [(3, .int r20), (0, .ref (gz (xG x) + 100)), (1, .int a1), (2, .int u1)] C dX6_lead_44 (by decide) rfl ?_
          refine r_aload_n 1 C dX6_lead_45 rfl ?_
          refine gfX6_9 101 C (kS sC h23 kc_100) (xS sC h23 xc_100_2) dX6_lead_46 ?_
          refine r_iload_n 2 C dX6_lead_49 rfl ?_
          refine r_iload_n 0 C dX6_lead_50 rfl ?_
          refine r_iconst (v := (-1)) C dX6_lead_51 (by decide) ?_
          refine r_icmp_ne 64 C dX6_lead_52 (by decide) (fun c24 => ?_) (fun c24 => ?_)
          · have c24' := i_ne c24
            refine r_iload_n 0 C dX6_lead_64 rfl ?_
            refine r_iast C (kS sC h23 kc_101) (vin (by omega) (by omega)) dX6_lead_65 (fun w25 e26 => ?_)
            have h27 := Ch.putS h23 e26 (by decide)
            have o28 := Inv.put0 o22 e26 (by decide)
            refine r_aload_n 1 C dX6_lead_66 rfl ?_
            refine gfX6_9 101 C (kS sC h27 kc_100) (xS sC h27 xc_100_2) dX6_lead_67 ?_
            refine r_iload_n 2 C dX6_lead_70 rfl ?_
            refine r_iald C (kS sC h27 kc_101) (vin (by omega) (by omega)) dX6_lead_71 ?_
            generalize (wI w25 101 (a1).toNatClampNeg) = v29
            refine r_aload_n 1 C dX6_lead_72 rfl ?_
            refine gfX6_15 102 C (kS sC h27 kc_100) (xS sC h27 xc_100_3) dX6_lead_73 ?_
            refine r_iload_n 2 C dX6_lead_76 rfl ?_
            refine r_iald C (kS sC h27 kc_102) (vin (by omega) (by omega)) dX6_lead_77 ?_
            generalize (wI w25 102 (a1).toNatClampNeg) = v30
            refine r_icmp_eq 89 C dX6_lead_78 (by decide) (fun c31 => ?_) (fun c31 => ?_)
            · have c31' := i_eq c31
              refine r_aload_n 1 C dX6_lead_89 rfl ?_
              refine gfX6_15 102 C (kS sC h27 kc_100) (xS sC h27 xc_100_3) dX6_lead_90 ?_
              refine r_iload_n 2 C dX6_lead_93 rfl ?_
              refine r_iconst (v := (-1)) C dX6_lead_94 (by decide) ?_
              refine r_iast C (kS sC h27 kc_102) (vin (by omega) (by omega)) dX6_lead_95 (fun w32 e33 => ?_)
              have h34 := Ch.putS h27 e33 (by decide)
              have o35 := Inv.put0 o28 e33 (by decide)
              obtain ⟨i36, e37⟩ : ∃ z : Int32, u1 + Int32.ofInt 1 = z := ⟨_, rfl⟩
              have i36' := iinc_ok e37 (by decide) (by omega) (by omega)
              refine r_iinc [(2, .int i36), (3, .int r20), (0, .ref (gz (xG x) + 100)), (1, .int a1)] 3 C dX6_lead_96 rfl e37 (by decide) rfl ?_
              refine r_goto 2 C dX6_lead_99 (by decide) ?_
              refine r_lv [2, 3, 0] rfl ?_
              exact ih9 i36 w32 h34 o35 (by omega) (by omega)
            · have c31' := i_ne c31
              refine r_aload_n 1 C dX6_lead_81 rfl ?_
              refine r_iload_n 2 C dX6_lead_82 rfl ?_
              refine callVI C cwX6_82_V (ctX6_fate_100 _ _ w25 (sS sC h27) o28 a1 ) (by decide) (kS sC h27 kc_100) rfl rfl rfl (Nat.le_of_ble_eq_true rfl) (by decide) dX6_lead_83 (fun r40 w39 y38 => ?_)
              show V x 0 0 w39 86 [(3, .int r20), (0, .ref (gz (xG x) + 100)), (1, .int a1), (2, .int u1)] [.int r40]
              obtain ⟨h41, o42⟩ := y38
              have h43 := Ch.tr h27 h41 (by decide) (by decide)
              refine r_if_eq 96 C dX6_lead_86 (by decide) (fun c44 => ?_) (fun c44 => ?_)
              · have c44' := i_eq c44
                obtain ⟨i45, e46⟩ : ∃ z : Int32, u1 + Int32.ofInt 1 = z := ⟨_, rfl⟩
                have i45' := iinc_ok e46 (by decide) (by omega) (by omega)
                refine r_iinc [(2, .int i45), (3, .int r20), (0, .ref (gz (xG x) + 100)), (1, .int a1)] 3 C dX6_lead_96 rfl e46 (by decide) rfl ?_
                refine r_goto 2 C dX6_lead_99 (by decide) ?_
                refine r_lv [2, 3, 0] rfl ?_
                exact ih9 i45 w39 h43 o42 (by omega) (by omega)
              · have c44' := i_ne c44
                refine r_aload_n 1 C dX6_lead_89 rfl ?_
                refine gfX6_15 102 C (kS sC h43 kc_100) (xS sC h43 xc_100_3) dX6_lead_90 ?_
                refine r_iload_n 2 C dX6_lead_93 rfl ?_
                refine r_iconst (v := (-1)) C dX6_lead_94 (by decide) ?_
                refine r_iast C (kS sC h43 kc_102) (vin (by omega) (by omega)) dX6_lead_95 (fun w47 e48 => ?_)
                have h49 := Ch.putS h43 e48 (by decide)
                have o50 := Inv.put0 o42 e48 (by decide)
                obtain ⟨i51, e52⟩ : ∃ z : Int32, u1 + Int32.ofInt 1 = z := ⟨_, rfl⟩
                have i51' := iinc_ok e52 (by decide) (by omega) (by omega)
                refine r_iinc [(2, .int i51), (3, .int r20), (0, .ref (gz (xG x) + 100)), (1, .int a1)] 3 C dX6_lead_96 rfl e52 (by decide) rfl ?_
                refine r_goto 2 C dX6_lead_99 (by decide) ?_
                refine r_lv [2, 3, 0] rfl ?_
                exact ih9 i51 w47 h49 o50 (by omega) (by omega)
          · have c24' := i_eq c24
            refine r_aload_n 1 C dX6_lead_55 rfl ?_
            refine gfX6_9 101 C (kS sC h23 kc_100) (xS sC h23 xc_100_2) dX6_lead_56 ?_
            refine r_iload_n 2 C dX6_lead_59 rfl ?_
            refine r_iald C (kS sC h23 kc_101) (vin (by omega) (by omega)) dX6_lead_60 ?_
            generalize (wI w19 101 (a1).toNatClampNeg) = v53
            refine r_goto 65 C dX6_lead_61 (by decide) ?_
            refine r_iast C (kS sC h23 kc_101) (vin (by omega) (by omega)) dX6_lead_65 (fun w54 e55 => ?_)
            have h56 := Ch.putS h23 e55 (by decide)
            have o57 := Inv.put0 o22 e55 (by decide)
            refine r_aload_n 1 C dX6_lead_66 rfl ?_
            refine gfX6_9 101 C (kS sC h56 kc_100) (xS sC h56 xc_100_2) dX6_lead_67 ?_
            refine r_iload_n 2 C dX6_lead_70 rfl ?_
            refine r_iald C (kS sC h56 kc_101) (vin (by omega) (by omega)) dX6_lead_71 ?_
            generalize (wI w54 101 (a1).toNatClampNeg) = v58
            refine r_aload_n 1 C dX6_lead_72 rfl ?_
            refine gfX6_15 102 C (kS sC h56 kc_100) (xS sC h56 xc_100_3) dX6_lead_73 ?_
            refine r_iload_n 2 C dX6_lead_76 rfl ?_
            refine r_iald C (kS sC h56 kc_102) (vin (by omega) (by omega)) dX6_lead_77 ?_
            generalize (wI w54 102 (a1).toNatClampNeg) = v59
            refine r_icmp_eq 89 C dX6_lead_78 (by decide) (fun c60 => ?_) (fun c60 => ?_)
            · have c60' := i_eq c60
              refine r_aload_n 1 C dX6_lead_89 rfl ?_
              refine gfX6_15 102 C (kS sC h56 kc_100) (xS sC h56 xc_100_3) dX6_lead_90 ?_
              refine r_iload_n 2 C dX6_lead_93 rfl ?_
              refine r_iconst (v := (-1)) C dX6_lead_94 (by decide) ?_
              refine r_iast C (kS sC h56 kc_102) (vin (by omega) (by omega)) dX6_lead_95 (fun w61 e62 => ?_)
              have h63 := Ch.putS h56 e62 (by decide)
              have o64 := Inv.put0 o57 e62 (by decide)
              obtain ⟨i65, e66⟩ : ∃ z : Int32, u1 + Int32.ofInt 1 = z := ⟨_, rfl⟩
              have i65' := iinc_ok e66 (by decide) (by omega) (by omega)
              refine r_iinc [(2, .int i65), (3, .int r20), (0, .ref (gz (xG x) + 100)), (1, .int a1)] 3 C dX6_lead_96 rfl e66 (by decide) rfl ?_
              refine r_goto 2 C dX6_lead_99 (by decide) ?_
              refine r_lv [2, 3, 0] rfl ?_
              exact ih9 i65 w61 h63 o64 (by omega) (by omega)
            · have c60' := i_ne c60
              refine r_aload_n 1 C dX6_lead_81 rfl ?_
              refine r_iload_n 2 C dX6_lead_82 rfl ?_
              refine callVI C cwX6_82_V (ctX6_fate_100 _ _ w54 (sS sC h56) o57 a1 ) (by decide) (kS sC h56 kc_100) rfl rfl rfl (Nat.le_of_ble_eq_true rfl) (by decide) dX6_lead_83 (fun r69 w68 y67 => ?_)
              show V x 0 0 w68 86 [(3, .int r20), (0, .ref (gz (xG x) + 100)), (1, .int a1), (2, .int u1)] [.int r69]
              obtain ⟨h70, o71⟩ := y67
              have h72 := Ch.tr h56 h70 (by decide) (by decide)
              refine r_if_eq 96 C dX6_lead_86 (by decide) (fun c73 => ?_) (fun c73 => ?_)
              · have c73' := i_eq c73
                obtain ⟨i74, e75⟩ : ∃ z : Int32, u1 + Int32.ofInt 1 = z := ⟨_, rfl⟩
                have i74' := iinc_ok e75 (by decide) (by omega) (by omega)
                refine r_iinc [(2, .int i74), (3, .int r20), (0, .ref (gz (xG x) + 100)), (1, .int a1)] 3 C dX6_lead_96 rfl e75 (by decide) rfl ?_
                refine r_goto 2 C dX6_lead_99 (by decide) ?_
                refine r_lv [2, 3, 0] rfl ?_
                exact ih9 i74 w68 h72 o71 (by omega) (by omega)
              · have c73' := i_ne c73
                refine r_aload_n 1 C dX6_lead_89 rfl ?_
                refine gfX6_15 102 C (kS sC h72 kc_100) (xS sC h72 xc_100_3) dX6_lead_90 ?_
                refine r_iload_n 2 C dX6_lead_93 rfl ?_
                refine r_iconst (v := (-1)) C dX6_lead_94 (by decide) ?_
                refine r_iast C (kS sC h72 kc_102) (vin (by omega) (by omega)) dX6_lead_95 (fun w76 e77 => ?_)
                have h78 := Ch.putS h72 e77 (by decide)
                have o79 := Inv.put0 o71 e77 (by decide)
                obtain ⟨i80, e81⟩ : ∃ z : Int32, u1 + Int32.ofInt 1 = z := ⟨_, rfl⟩
                have i80' := iinc_ok e81 (by decide) (by omega) (by omega)
                refine r_iinc [(2, .int i80), (3, .int r20), (0, .ref (gz (xG x) + 100)), (1, .int a1)] 3 C dX6_lead_96 rfl e81 (by decide) rfl ?_
                refine r_goto 2 C dX6_lead_99 (by decide) ?_
                refine r_lv [2, 3, 0] rfl ?_
                exact ih9 i80 w76 h78 o79 (by omega) (by omega)
  refine r_iconst (v := 0) C dX6_lead_0 (by decide) ?_
  refine r_istore_n [(2, .int 0), (0, .ref (gz (xG x) + 100)), (1, .int a1)] C dX6_lead_1 (by decide) rfl ?_
  refine r_lv [1, 2, 0] rfl ?_
  exact LP2 4294967296 0 w h0 o0 (by omega) (by omega)
set_option maxHeartbeats 4000000 in
set_option maxRecDepth 100000 in
theorem ctX6_pass_35 (l : Launch) (G : Gt) (w : Wv) (sC : Str KC XC w) (o0 : Inv RC w) (a1 : Int32) (a2 : Int32) : CtV l G yX6_pass cX6_pass 4 ({ frames := 3, cells := 0, slots := 0, locals := 77 } : Room) [.ref (gz G + 35), .int a1, .int a2] w (fun w' => Ch [25, 26, 27, 36, 37] [(35, 0), (35, 1)] w w' ∧ Inv RC w') := by
  refine enterV (by decide) (Nat.le_of_ble_eq_true rfl) ?_
  intro x el eG C hnm hret
  subst el; subst eG
  show V x 0 0 w 0 [(0, .ref (gz (xG x) + 35)), (1, .int a1), (2, .int a2)] []
  have h0 : Ch [25, 26, 27, 36, 37] [(35, 0), (35, 1)] w w := Ch.rf
  have qm1 : ((-1) : Int32).toInt = (-1) := by decide
  have q0 : (0 : Int32).toInt = 0 := by decide
  have q1 : (1 : Int32).toInt = 1 := by decide
  have LP3 : ∀ (f4 : Nat) (u2 : Int32) (w5 : Wv), Ch [25, 26, 27, 36, 37] [(35, 0), (35, 1)] w w5 → Inv RC w5 → (0 ≤ u2.toInt ∧ u2.toInt ≤ 2147483647) → 2147483647 - u2.toInt < f4 → V x 0 0 w5 22 [(0, .ref (gz (xG x) + 35)), (1, .int a1), (2, .int a2), (3, .int u2)] [] := by
    intro f4
    induction f4 with
    | zero => intro u2 w5 h6 o7 z8 z9; exfalso; omega
    | succ f4 ih10 =>
      intro u2 w5 h6 o7 z8 z9
      refine r_iload_n 3 C dX6_pass_22 rfl ?_
      refine r_aload_n 0 C dX6_pass_23 rfl ?_
      refine gfX6_18 3 C (kS sC h6 kc_35) (xS sC h6 xc_35_4) dX6_pass_24 ?_
      refine gfX6_39 (v := (wI w 3 3)) C (kS sC h6 kc_3) (h6.I (by decide) (by decide) rfl) dX6_pass_27 ?_
      have b11 := Inv.get o0 rt_3_3 (j := 3) (by decide) (by decide)
      have k13 := i_rng u2
      refine r_icmp_ge 78 C dX6_pass_30 (by decide) (fun c12 => ?_) (fun c12 => ?_)
      · have c12' := i_le c12
        refine r_aload_n 0 C dX6_pass_78 rfl ?_
        refine r_dup C dX6_pass_79 rfl ?_
        refine gfX6_33 (v := (wI w5 35 1)) C (kS sC h6 kc_35) rfl dX6_pass_80 ?_
        refine r_iconst (v := 1) C dX6_pass_83 (by decide) ?_
        refine r_iadd C dX6_pass_84 (fun v14 e15 => ?_)
        refine pfX6_33 C (kS sC h6 kc_35) dX6_pass_85 (fun w16 e17 => ?_)
        have h18 := Ch.putF h6 e17 (by decide)
        have o19 := Inv.putk o7 e17 (by decide)
        exact hret _ _ _ dX6_pass_88 ⟨h18, o19⟩
      · have c12' := i_nle c12
        refine r_iload_n 2 C dX6_pass_33 rfl ?_
        refine r_iconst (v := (-1)) C dX6_pass_34 (by decide) ?_
        refine r_icmp_eq 57 C dX6_pass_35 (by decide) (fun c20 => ?_) (fun c20 => ?_)
        · have c20' := i_eq c20
          refine r_aload_n 0 C dX6_pass_57 rfl ?_
          refine gfX6_15 37 C (kS sC h6 kc_35) (xS sC h6 xc_35_3) dX6_pass_58 ?_
          refine r_iload_n 3 C dX6_pass_61 rfl ?_
          refine r_iald C (kS sC h6 kc_37) (vin (by omega) (by omega)) dX6_pass_62 ?_
          generalize (wI w5 37 (u2).toNatClampNeg) = v21
          refine r_iconst (v := (-1)) C dX6_pass_63 (by decide) ?_
          refine r_icmp_eq 72 C dX6_pass_64 (by decide) (fun c22 => ?_) (fun c22 => ?_)
          · have c22' := i_eq c22
            obtain ⟨i23, e24⟩ : ∃ z : Int32, u2 + Int32.ofInt 1 = z := ⟨_, rfl⟩
            have i23' := iinc_ok e24 (by decide) (by omega) (by omega)
            refine r_iinc [(3, .int i23), (0, .ref (gz (xG x) + 35)), (1, .int a1), (2, .int a2)] 3 C dX6_pass_72 rfl e24 (by decide) rfl ?_
            refine r_goto 22 C dX6_pass_75 (by decide) ?_
            refine r_lv [1, 2, 3, 0] rfl ?_
            exact ih10 i23 w5 h6 o7 (by omega) (by omega)
          · have c22' := i_ne c22
            refine r_aload_n 0 C dX6_pass_67 rfl ?_
            refine r_iload_n 3 C dX6_pass_68 rfl ?_
            refine callVV C cwX6_59_V (ctX6_lead_35 _ _ w5 (sS sC h6) o7 u2 (by omega)) (by decide) (kS sC h6 kc_35) rfl rfl rfl (Nat.le_of_ble_eq_true rfl) (by decide) dX6_pass_69 (fun w26 y25 => ?_)
            show V x 0 0 w26 72 [(0, .ref (gz (xG x) + 35)), (1, .int a1), (2, .int a2), (3, .int u2)] []
            obtain ⟨h28, o29⟩ := y25
            have h30 := Ch.tr h6 h28 (by decide) (by decide)
            obtain ⟨i31, e32⟩ : ∃ z : Int32, u2 + Int32.ofInt 1 = z := ⟨_, rfl⟩
            have i31' := iinc_ok e32 (by decide) (by omega) (by omega)
            refine r_iinc [(3, .int i31), (0, .ref (gz (xG x) + 35)), (1, .int a1), (2, .int a2)] 3 C dX6_pass_72 rfl e32 (by decide) rfl ?_
            refine r_goto 22 C dX6_pass_75 (by decide) ?_
            refine r_lv [1, 2, 3, 0] rfl ?_
            exact ih10 i31 w26 h30 o29 (by omega) (by omega)
        · have c20' := i_ne c20
          refine r_aload_n 0 C dX6_pass_38 rfl ?_
          refine r_iload_n 3 C dX6_pass_39 rfl ?_
          refine r_iload_n 2 C dX6_pass_40 rfl ?_
          refine callVI C cwX6_55_V (ctX6_hears_35 _ _ w5 (sS sC h6) o7 u2 a2 ) (by decide) (kS sC h6 kc_35) rfl rfl rfl (Nat.le_of_ble_eq_true rfl) (by decide) dX6_pass_41 (fun r35 w34 y33 => ?_)
          show V x 0 0 w34 44 [(0, .ref (gz (xG x) + 35)), (1, .int a1), (2, .int a2), (3, .int u2)] [.int r35]
          obtain ⟨h36, o37, g38⟩ := y33
          have h39 := Ch.tr h6 h36 (by decide) (by decide)
          refine r_if_eq 57 C dX6_pass_44 (by decide) (fun c40 => ?_) (fun c40 => ?_)
          · have c40' := i_eq c40
            refine r_aload_n 0 C dX6_pass_57 rfl ?_
            refine gfX6_15 37 C (kS sC h39 kc_35) (xS sC h39 xc_35_3) dX6_pass_58 ?_
            refine r_iload_n 3 C dX6_pass_61 rfl ?_
            refine r_iald C (kS sC h39 kc_37) (vin (by omega) (by omega)) dX6_pass_62 ?_
            generalize (wI w34 37 (u2).toNatClampNeg) = v41
            refine r_iconst (v := (-1)) C dX6_pass_63 (by decide) ?_
            refine r_icmp_eq 72 C dX6_pass_64 (by decide) (fun c42 => ?_) (fun c42 => ?_)
            · have c42' := i_eq c42
              obtain ⟨i43, e44⟩ : ∃ z : Int32, u2 + Int32.ofInt 1 = z := ⟨_, rfl⟩
              have i43' := iinc_ok e44 (by decide) (by omega) (by omega)
              refine r_iinc [(3, .int i43), (0, .ref (gz (xG x) + 35)), (1, .int a1), (2, .int a2)] 3 C dX6_pass_72 rfl e44 (by decide) rfl ?_
              refine r_goto 22 C dX6_pass_75 (by decide) ?_
              refine r_lv [1, 2, 3, 0] rfl ?_
              exact ih10 i43 w34 h39 o37 (by omega) (by omega)
            · have c42' := i_ne c42
              refine r_aload_n 0 C dX6_pass_67 rfl ?_
              refine r_iload_n 3 C dX6_pass_68 rfl ?_
              refine callVV C cwX6_59_V (ctX6_lead_35 _ _ w34 (sS sC h39) o37 u2 (by omega)) (by decide) (kS sC h39 kc_35) rfl rfl rfl (Nat.le_of_ble_eq_true rfl) (by decide) dX6_pass_69 (fun w46 y45 => ?_)
              show V x 0 0 w46 72 [(0, .ref (gz (xG x) + 35)), (1, .int a1), (2, .int a2), (3, .int u2)] []
              obtain ⟨h48, o49⟩ := y45
              have h50 := Ch.tr h39 h48 (by decide) (by decide)
              obtain ⟨i51, e52⟩ : ∃ z : Int32, u2 + Int32.ofInt 1 = z := ⟨_, rfl⟩
              have i51' := iinc_ok e52 (by decide) (by omega) (by omega)
              refine r_iinc [(3, .int i51), (0, .ref (gz (xG x) + 35)), (1, .int a1), (2, .int a2)] 3 C dX6_pass_72 rfl e52 (by decide) rfl ?_
              refine r_goto 22 C dX6_pass_75 (by decide) ?_
              refine r_lv [1, 2, 3, 0] rfl ?_
              exact ih10 i51 w46 h50 o49 (by omega) (by omega)
          · have c40' := i_ne c40
            refine r_aload_n 0 C dX6_pass_47 rfl ?_
            refine gfX6_15 37 C (kS sC h39 kc_35) (xS sC h39 xc_35_3) dX6_pass_48 ?_
            refine r_iload_n 3 C dX6_pass_51 rfl ?_
            refine r_aload_n 0 C dX6_pass_52 rfl ?_
            refine gfX6_32 (v := (wI w5 35 0)) C (kS sC h39 kc_35) (h36.I (by decide) (by decide) rfl) dX6_pass_53 ?_
            refine r_iast C (kS sC h39 kc_37) (vin (by omega) (by omega)) dX6_pass_56 (fun w53 e54 => ?_)
            have h55 := Ch.putS h39 e54 (by decide)
            have o56 := Inv.put0 o37 e54 (by decide)
            refine r_aload_n 0 C dX6_pass_57 rfl ?_
            refine gfX6_15 37 C (kS sC h55 kc_35) (xS sC h55 xc_35_3) dX6_pass_58 ?_
            refine r_iload_n 3 C dX6_pass_61 rfl ?_
            refine r_iald C (kS sC h55 kc_37) (vin (by omega) (by omega)) dX6_pass_62 ?_
            generalize (wI w53 37 (u2).toNatClampNeg) = v57
            refine r_iconst (v := (-1)) C dX6_pass_63 (by decide) ?_
            refine r_icmp_eq 72 C dX6_pass_64 (by decide) (fun c58 => ?_) (fun c58 => ?_)
            · have c58' := i_eq c58
              obtain ⟨i59, e60⟩ : ∃ z : Int32, u2 + Int32.ofInt 1 = z := ⟨_, rfl⟩
              have i59' := iinc_ok e60 (by decide) (by omega) (by omega)
              refine r_iinc [(3, .int i59), (0, .ref (gz (xG x) + 35)), (1, .int a1), (2, .int a2)] 3 C dX6_pass_72 rfl e60 (by decide) rfl ?_
              refine r_goto 22 C dX6_pass_75 (by decide) ?_
              refine r_lv [1, 2, 3, 0] rfl ?_
              exact ih10 i59 w53 h55 o56 (by omega) (by omega)
            · have c58' := i_ne c58
              refine r_aload_n 0 C dX6_pass_67 rfl ?_
              refine r_iload_n 3 C dX6_pass_68 rfl ?_
              refine callVV C cwX6_59_V (ctX6_lead_35 _ _ w53 (sS sC h55) o56 u2 (by omega)) (by decide) (kS sC h55 kc_35) rfl rfl rfl (Nat.le_of_ble_eq_true rfl) (by decide) dX6_pass_69 (fun w62 y61 => ?_)
              show V x 0 0 w62 72 [(0, .ref (gz (xG x) + 35)), (1, .int a1), (2, .int a2), (3, .int u2)] []
              obtain ⟨h64, o65⟩ := y61
              have h66 := Ch.tr h55 h64 (by decide) (by decide)
              obtain ⟨i67, e68⟩ : ∃ z : Int32, u2 + Int32.ofInt 1 = z := ⟨_, rfl⟩
              have i67' := iinc_ok e68 (by decide) (by omega) (by omega)
              refine r_iinc [(3, .int i67), (0, .ref (gz (xG x) + 35)), (1, .int a1), (2, .int a2)] 3 C dX6_pass_72 rfl e68 (by decide) rfl ?_
              refine r_goto 22 C dX6_pass_75 (by decide) ?_
              refine r_lv [1, 2, 3, 0] rfl ?_
              exact ih10 i67 w62 h66 o65 (by omega) (by omega)
  refine r_iload_n 1 C dX6_pass_0 rfl ?_
  refine r_if_eq 20 C dX6_pass_1 (by decide) (fun c1 => ?_) (fun c1 => ?_)
  · have c1' := i_eq c1
    refine r_iconst (v := 0) C dX6_pass_20 (by decide) ?_
    refine r_istore_n [(3, .int 0), (0, .ref (gz (xG x) + 35)), (1, .int a1), (2, .int a2)] C dX6_pass_21 (by decide) rfl ?_
    refine r_lv [1, 2, 3, 0] rfl ?_
    exact LP3 4294967296 0 w h0 o0 (by omega) (by omega)
  · have c1' := i_ne c1
    refine r_aload_n 0 C dX6_pass_4 rfl ?_
    refine r_aload_n 0 C dX6_pass_5 rfl ?_
    refine gfX6_22 21 C (kS sC h0 kc_35) (xS sC h0 xc_35_5) dX6_pass_6 ?_
    refine r_aload_n 0 C dX6_pass_9 rfl ?_
    refine gfX6_32 (v := (wI w 35 0)) C (kS sC h0 kc_35) rfl dX6_pass_10 ?_
    refine r_iload_n 1 C dX6_pass_13 rfl ?_
    refine callVI C cwX6_47_V (ctX1_beside_21 _ _ w (sS sC h0) o0 (wI w 35 0) a1 ) (by decide) (kS sC h0 kc_21) rfl rfl rfl (Nat.le_of_ble_eq_true rfl) (by decide) dX6_pass_14 (fun r71 w70 y69 => ?_)
    show V x 0 0 w70 17 [(0, .ref (gz (xG x) + 35)), (1, .int a1), (2, .int a2)] [.int r71, .ref (gz (xG x) + 35)]
    obtain ⟨h72, o73⟩ := y69
    have h74 := Ch.tr h0 h72 (by decide) (by decide)
    refine pfX6_32 C (kS sC h74 kc_35) dX6_pass_17 (fun w75 e76 => ?_)
    have h77 := Ch.putF h74 e76 (by decide)
    have o78 := Inv.putk o73 e76 (by decide)
    refine r_iconst (v := 0) C dX6_pass_20 (by decide) ?_
    refine r_istore_n [(3, .int 0), (0, .ref (gz (xG x) + 35)), (1, .int a1), (2, .int a2)] C dX6_pass_21 (by decide) rfl ?_
    refine r_lv [1, 2, 3, 0] rfl ?_
    exact LP3 4294967296 0 w75 h77 o78 (by omega) (by omega)
set_option maxHeartbeats 4000000 in
set_option maxRecDepth 100000 in
theorem ctX6_pass_38 (l : Launch) (G : Gt) (w : Wv) (sC : Str KC XC w) (o0 : Inv RC w) (a1 : Int32) (a2 : Int32) : CtV l G yX6_pass cX6_pass 4 ({ frames := 3, cells := 0, slots := 0, locals := 77 } : Room) [.ref (gz G + 38), .int a1, .int a2] w (fun w' => Ch [25, 26, 27, 39, 40] [(38, 0), (38, 1)] w w' ∧ Inv RC w') := by
  refine enterV (by decide) (Nat.le_of_ble_eq_true rfl) ?_
  intro x el eG C hnm hret
  subst el; subst eG
  show V x 0 0 w 0 [(0, .ref (gz (xG x) + 38)), (1, .int a1), (2, .int a2)] []
  have h0 : Ch [25, 26, 27, 39, 40] [(38, 0), (38, 1)] w w := Ch.rf
  have qm1 : ((-1) : Int32).toInt = (-1) := by decide
  have q0 : (0 : Int32).toInt = 0 := by decide
  have q1 : (1 : Int32).toInt = 1 := by decide
  have LP3 : ∀ (f4 : Nat) (u2 : Int32) (w5 : Wv), Ch [25, 26, 27, 39, 40] [(38, 0), (38, 1)] w w5 → Inv RC w5 → (0 ≤ u2.toInt ∧ u2.toInt ≤ 2147483647) → 2147483647 - u2.toInt < f4 → V x 0 0 w5 22 [(0, .ref (gz (xG x) + 38)), (1, .int a1), (2, .int a2), (3, .int u2)] [] := by
    intro f4
    induction f4 with
    | zero => intro u2 w5 h6 o7 z8 z9; exfalso; omega
    | succ f4 ih10 =>
      intro u2 w5 h6 o7 z8 z9
      refine r_iload_n 3 C dX6_pass_22 rfl ?_
      refine r_aload_n 0 C dX6_pass_23 rfl ?_
      refine gfX6_18 3 C (kS sC h6 kc_38) (xS sC h6 xc_38_4) dX6_pass_24 ?_
      refine gfX6_39 (v := (wI w 3 3)) C (kS sC h6 kc_3) (h6.I (by decide) (by decide) rfl) dX6_pass_27 ?_
      have b11 := Inv.get o0 rt_3_3 (j := 3) (by decide) (by decide)
      have k13 := i_rng u2
      refine r_icmp_ge 78 C dX6_pass_30 (by decide) (fun c12 => ?_) (fun c12 => ?_)
      · have c12' := i_le c12
        refine r_aload_n 0 C dX6_pass_78 rfl ?_
        refine r_dup C dX6_pass_79 rfl ?_
        refine gfX6_33 (v := (wI w5 38 1)) C (kS sC h6 kc_38) rfl dX6_pass_80 ?_
        refine r_iconst (v := 1) C dX6_pass_83 (by decide) ?_
        refine r_iadd C dX6_pass_84 (fun v14 e15 => ?_)
        refine pfX6_33 C (kS sC h6 kc_38) dX6_pass_85 (fun w16 e17 => ?_)
        have h18 := Ch.putF h6 e17 (by decide)
        have o19 := Inv.putk o7 e17 (by decide)
        exact hret _ _ _ dX6_pass_88 ⟨h18, o19⟩
      · have c12' := i_nle c12
        refine r_iload_n 2 C dX6_pass_33 rfl ?_
        refine r_iconst (v := (-1)) C dX6_pass_34 (by decide) ?_
        refine r_icmp_eq 57 C dX6_pass_35 (by decide) (fun c20 => ?_) (fun c20 => ?_)
        · have c20' := i_eq c20
          refine r_aload_n 0 C dX6_pass_57 rfl ?_
          refine gfX6_15 40 C (kS sC h6 kc_38) (xS sC h6 xc_38_3) dX6_pass_58 ?_
          refine r_iload_n 3 C dX6_pass_61 rfl ?_
          refine r_iald C (kS sC h6 kc_40) (vin (by omega) (by omega)) dX6_pass_62 ?_
          generalize (wI w5 40 (u2).toNatClampNeg) = v21
          refine r_iconst (v := (-1)) C dX6_pass_63 (by decide) ?_
          refine r_icmp_eq 72 C dX6_pass_64 (by decide) (fun c22 => ?_) (fun c22 => ?_)
          · have c22' := i_eq c22
            obtain ⟨i23, e24⟩ : ∃ z : Int32, u2 + Int32.ofInt 1 = z := ⟨_, rfl⟩
            have i23' := iinc_ok e24 (by decide) (by omega) (by omega)
            refine r_iinc [(3, .int i23), (0, .ref (gz (xG x) + 38)), (1, .int a1), (2, .int a2)] 3 C dX6_pass_72 rfl e24 (by decide) rfl ?_
            refine r_goto 22 C dX6_pass_75 (by decide) ?_
            refine r_lv [1, 2, 3, 0] rfl ?_
            exact ih10 i23 w5 h6 o7 (by omega) (by omega)
          · have c22' := i_ne c22
            refine r_aload_n 0 C dX6_pass_67 rfl ?_
            refine r_iload_n 3 C dX6_pass_68 rfl ?_
            refine callVV C cwX6_59_V (ctX6_lead_38 _ _ w5 (sS sC h6) o7 u2 (by omega)) (by decide) (kS sC h6 kc_38) rfl rfl rfl (Nat.le_of_ble_eq_true rfl) (by decide) dX6_pass_69 (fun w26 y25 => ?_)
            show V x 0 0 w26 72 [(0, .ref (gz (xG x) + 38)), (1, .int a1), (2, .int a2), (3, .int u2)] []
            obtain ⟨h28, o29⟩ := y25
            have h30 := Ch.tr h6 h28 (by decide) (by decide)
            obtain ⟨i31, e32⟩ : ∃ z : Int32, u2 + Int32.ofInt 1 = z := ⟨_, rfl⟩
            have i31' := iinc_ok e32 (by decide) (by omega) (by omega)
            refine r_iinc [(3, .int i31), (0, .ref (gz (xG x) + 38)), (1, .int a1), (2, .int a2)] 3 C dX6_pass_72 rfl e32 (by decide) rfl ?_
            refine r_goto 22 C dX6_pass_75 (by decide) ?_
            refine r_lv [1, 2, 3, 0] rfl ?_
            exact ih10 i31 w26 h30 o29 (by omega) (by omega)
        · have c20' := i_ne c20
          refine r_aload_n 0 C dX6_pass_38 rfl ?_
          refine r_iload_n 3 C dX6_pass_39 rfl ?_
          refine r_iload_n 2 C dX6_pass_40 rfl ?_
          refine callVI C cwX6_55_V (ctX6_hears_38 _ _ w5 (sS sC h6) o7 u2 a2 ) (by decide) (kS sC h6 kc_38) rfl rfl rfl (Nat.le_of_ble_eq_true rfl) (by decide) dX6_pass_41 (fun r35 w34 y33 => ?_)
          show V x 0 0 w34 44 [(0, .ref (gz (xG x) + 38)), (1, .int a1), (2, .int a2), (3, .int u2)] [.int r35]
          obtain ⟨h36, o37, g38⟩ := y33
          have h39 := Ch.tr h6 h36 (by decide) (by decide)
          refine r_if_eq 57 C dX6_pass_44 (by decide) (fun c40 => ?_) (fun c40 => ?_)
          · have c40' := i_eq c40
            refine r_aload_n 0 C dX6_pass_57 rfl ?_
            refine gfX6_15 40 C (kS sC h39 kc_38) (xS sC h39 xc_38_3) dX6_pass_58 ?_
            refine r_iload_n 3 C dX6_pass_61 rfl ?_
            refine r_iald C (kS sC h39 kc_40) (vin (by omega) (by omega)) dX6_pass_62 ?_
            generalize (wI w34 40 (u2).toNatClampNeg) = v41
            refine r_iconst (v := (-1)) C dX6_pass_63 (by decide) ?_
            refine r_icmp_eq 72 C dX6_pass_64 (by decide) (fun c42 => ?_) (fun c42 => ?_)
            · have c42' := i_eq c42
              obtain ⟨i43, e44⟩ : ∃ z : Int32, u2 + Int32.ofInt 1 = z := ⟨_, rfl⟩
              have i43' := iinc_ok e44 (by decide) (by omega) (by omega)
              refine r_iinc [(3, .int i43), (0, .ref (gz (xG x) + 38)), (1, .int a1), (2, .int a2)] 3 C dX6_pass_72 rfl e44 (by decide) rfl ?_
              refine r_goto 22 C dX6_pass_75 (by decide) ?_
              refine r_lv [1, 2, 3, 0] rfl ?_
              exact ih10 i43 w34 h39 o37 (by omega) (by omega)
            · have c42' := i_ne c42
              refine r_aload_n 0 C dX6_pass_67 rfl ?_
              refine r_iload_n 3 C dX6_pass_68 rfl ?_
              refine callVV C cwX6_59_V (ctX6_lead_38 _ _ w34 (sS sC h39) o37 u2 (by omega)) (by decide) (kS sC h39 kc_38) rfl rfl rfl (Nat.le_of_ble_eq_true rfl) (by decide) dX6_pass_69 (fun w46 y45 => ?_)
              show V x 0 0 w46 72 [(0, .ref (gz (xG x) + 38)), (1, .int a1), (2, .int a2), (3, .int u2)] []
              obtain ⟨h48, o49⟩ := y45
              have h50 := Ch.tr h39 h48 (by decide) (by decide)
              obtain ⟨i51, e52⟩ : ∃ z : Int32, u2 + Int32.ofInt 1 = z := ⟨_, rfl⟩
              have i51' := iinc_ok e52 (by decide) (by omega) (by omega)
              refine r_iinc [(3, .int i51), (0, .ref (gz (xG x) + 38)), (1, .int a1), (2, .int a2)] 3 C dX6_pass_72 rfl e52 (by decide) rfl ?_
              refine r_goto 22 C dX6_pass_75 (by decide) ?_
              refine r_lv [1, 2, 3, 0] rfl ?_
              exact ih10 i51 w46 h50 o49 (by omega) (by omega)
          · have c40' := i_ne c40
            refine r_aload_n 0 C dX6_pass_47 rfl ?_
            refine gfX6_15 40 C (kS sC h39 kc_38) (xS sC h39 xc_38_3) dX6_pass_48 ?_
            refine r_iload_n 3 C dX6_pass_51 rfl ?_
            refine r_aload_n 0 C dX6_pass_52 rfl ?_
            refine gfX6_32 (v := (wI w5 38 0)) C (kS sC h39 kc_38) (h36.I (by decide) (by decide) rfl) dX6_pass_53 ?_
            refine r_iast C (kS sC h39 kc_40) (vin (by omega) (by omega)) dX6_pass_56 (fun w53 e54 => ?_)
            have h55 := Ch.putS h39 e54 (by decide)
            have o56 := Inv.put0 o37 e54 (by decide)
            refine r_aload_n 0 C dX6_pass_57 rfl ?_
            refine gfX6_15 40 C (kS sC h55 kc_38) (xS sC h55 xc_38_3) dX6_pass_58 ?_
            refine r_iload_n 3 C dX6_pass_61 rfl ?_
            refine r_iald C (kS sC h55 kc_40) (vin (by omega) (by omega)) dX6_pass_62 ?_
            generalize (wI w53 40 (u2).toNatClampNeg) = v57
            refine r_iconst (v := (-1)) C dX6_pass_63 (by decide) ?_
            refine r_icmp_eq 72 C dX6_pass_64 (by decide) (fun c58 => ?_) (fun c58 => ?_)
            · have c58' := i_eq c58
              obtain ⟨i59, e60⟩ : ∃ z : Int32, u2 + Int32.ofInt 1 = z := ⟨_, rfl⟩
              have i59' := iinc_ok e60 (by decide) (by omega) (by omega)
              refine r_iinc [(3, .int i59), (0, .ref (gz (xG x) + 38)), (1, .int a1), (2, .int a2)] 3 C dX6_pass_72 rfl e60 (by decide) rfl ?_
              refine r_goto 22 C dX6_pass_75 (by decide) ?_
              refine r_lv [1, 2, 3, 0] rfl ?_
              exact ih10 i59 w53 h55 o56 (by omega) (by omega)
            · have c58' := i_ne c58
              refine r_aload_n 0 C dX6_pass_67 rfl ?_
              refine r_iload_n 3 C dX6_pass_68 rfl ?_
              refine callVV C cwX6_59_V (ctX6_lead_38 _ _ w53 (sS sC h55) o56 u2 (by omega)) (by decide) (kS sC h55 kc_38) rfl rfl rfl (Nat.le_of_ble_eq_true rfl) (by decide) dX6_pass_69 (fun w62 y61 => ?_)
              show V x 0 0 w62 72 [(0, .ref (gz (xG x) + 38)), (1, .int a1), (2, .int a2), (3, .int u2)] []
              obtain ⟨h64, o65⟩ := y61
              have h66 := Ch.tr h55 h64 (by decide) (by decide)
              obtain ⟨i67, e68⟩ : ∃ z : Int32, u2 + Int32.ofInt 1 = z := ⟨_, rfl⟩
              have i67' := iinc_ok e68 (by decide) (by omega) (by omega)
              refine r_iinc [(3, .int i67), (0, .ref (gz (xG x) + 38)), (1, .int a1), (2, .int a2)] 3 C dX6_pass_72 rfl e68 (by decide) rfl ?_
              refine r_goto 22 C dX6_pass_75 (by decide) ?_
              refine r_lv [1, 2, 3, 0] rfl ?_
              exact ih10 i67 w62 h66 o65 (by omega) (by omega)
  refine r_iload_n 1 C dX6_pass_0 rfl ?_
  refine r_if_eq 20 C dX6_pass_1 (by decide) (fun c1 => ?_) (fun c1 => ?_)
  · have c1' := i_eq c1
    refine r_iconst (v := 0) C dX6_pass_20 (by decide) ?_
    refine r_istore_n [(3, .int 0), (0, .ref (gz (xG x) + 38)), (1, .int a1), (2, .int a2)] C dX6_pass_21 (by decide) rfl ?_
    refine r_lv [1, 2, 3, 0] rfl ?_
    exact LP3 4294967296 0 w h0 o0 (by omega) (by omega)
  · have c1' := i_ne c1
    refine r_aload_n 0 C dX6_pass_4 rfl ?_
    refine r_aload_n 0 C dX6_pass_5 rfl ?_
    refine gfX6_22 21 C (kS sC h0 kc_38) (xS sC h0 xc_38_5) dX6_pass_6 ?_
    refine r_aload_n 0 C dX6_pass_9 rfl ?_
    refine gfX6_32 (v := (wI w 38 0)) C (kS sC h0 kc_38) rfl dX6_pass_10 ?_
    refine r_iload_n 1 C dX6_pass_13 rfl ?_
    refine callVI C cwX6_47_V (ctX1_beside_21 _ _ w (sS sC h0) o0 (wI w 38 0) a1 ) (by decide) (kS sC h0 kc_21) rfl rfl rfl (Nat.le_of_ble_eq_true rfl) (by decide) dX6_pass_14 (fun r71 w70 y69 => ?_)
    show V x 0 0 w70 17 [(0, .ref (gz (xG x) + 38)), (1, .int a1), (2, .int a2)] [.int r71, .ref (gz (xG x) + 38)]
    obtain ⟨h72, o73⟩ := y69
    have h74 := Ch.tr h0 h72 (by decide) (by decide)
    refine pfX6_32 C (kS sC h74 kc_38) dX6_pass_17 (fun w75 e76 => ?_)
    have h77 := Ch.putF h74 e76 (by decide)
    have o78 := Inv.putk o73 e76 (by decide)
    refine r_iconst (v := 0) C dX6_pass_20 (by decide) ?_
    refine r_istore_n [(3, .int 0), (0, .ref (gz (xG x) + 38)), (1, .int a1), (2, .int a2)] C dX6_pass_21 (by decide) rfl ?_
    refine r_lv [1, 2, 3, 0] rfl ?_
    exact LP3 4294967296 0 w75 h77 o78 (by omega) (by omega)
set_option maxHeartbeats 4000000 in
set_option maxRecDepth 100000 in
theorem ctX6_pass_41 (l : Launch) (G : Gt) (w : Wv) (sC : Str KC XC w) (o0 : Inv RC w) (a1 : Int32) (a2 : Int32) : CtV l G yX6_pass cX6_pass 4 ({ frames := 3, cells := 0, slots := 0, locals := 77 } : Room) [.ref (gz G + 41), .int a1, .int a2] w (fun w' => Ch [32, 33, 34, 42, 43] [(41, 0), (41, 1)] w w' ∧ Inv RC w') := by
  refine enterV (by decide) (Nat.le_of_ble_eq_true rfl) ?_
  intro x el eG C hnm hret
  subst el; subst eG
  show V x 0 0 w 0 [(0, .ref (gz (xG x) + 41)), (1, .int a1), (2, .int a2)] []
  have h0 : Ch [32, 33, 34, 42, 43] [(41, 0), (41, 1)] w w := Ch.rf
  have qm1 : ((-1) : Int32).toInt = (-1) := by decide
  have q0 : (0 : Int32).toInt = 0 := by decide
  have q1 : (1 : Int32).toInt = 1 := by decide
  have LP3 : ∀ (f4 : Nat) (u2 : Int32) (w5 : Wv), Ch [32, 33, 34, 42, 43] [(41, 0), (41, 1)] w w5 → Inv RC w5 → (0 ≤ u2.toInt ∧ u2.toInt ≤ 2147483647) → 2147483647 - u2.toInt < f4 → V x 0 0 w5 22 [(0, .ref (gz (xG x) + 41)), (1, .int a1), (2, .int a2), (3, .int u2)] [] := by
    intro f4
    induction f4 with
    | zero => intro u2 w5 h6 o7 z8 z9; exfalso; omega
    | succ f4 ih10 =>
      intro u2 w5 h6 o7 z8 z9
      refine r_iload_n 3 C dX6_pass_22 rfl ?_
      refine r_aload_n 0 C dX6_pass_23 rfl ?_
      refine gfX6_18 3 C (kS sC h6 kc_41) (xS sC h6 xc_41_4) dX6_pass_24 ?_
      refine gfX6_39 (v := (wI w 3 3)) C (kS sC h6 kc_3) (h6.I (by decide) (by decide) rfl) dX6_pass_27 ?_
      have b11 := Inv.get o0 rt_3_3 (j := 3) (by decide) (by decide)
      have k13 := i_rng u2
      refine r_icmp_ge 78 C dX6_pass_30 (by decide) (fun c12 => ?_) (fun c12 => ?_)
      · have c12' := i_le c12
        refine r_aload_n 0 C dX6_pass_78 rfl ?_
        refine r_dup C dX6_pass_79 rfl ?_
        refine gfX6_33 (v := (wI w5 41 1)) C (kS sC h6 kc_41) rfl dX6_pass_80 ?_
        refine r_iconst (v := 1) C dX6_pass_83 (by decide) ?_
        refine r_iadd C dX6_pass_84 (fun v14 e15 => ?_)
        refine pfX6_33 C (kS sC h6 kc_41) dX6_pass_85 (fun w16 e17 => ?_)
        have h18 := Ch.putF h6 e17 (by decide)
        have o19 := Inv.putk o7 e17 (by decide)
        exact hret _ _ _ dX6_pass_88 ⟨h18, o19⟩
      · have c12' := i_nle c12
        refine r_iload_n 2 C dX6_pass_33 rfl ?_
        refine r_iconst (v := (-1)) C dX6_pass_34 (by decide) ?_
        refine r_icmp_eq 57 C dX6_pass_35 (by decide) (fun c20 => ?_) (fun c20 => ?_)
        · have c20' := i_eq c20
          refine r_aload_n 0 C dX6_pass_57 rfl ?_
          refine gfX6_15 43 C (kS sC h6 kc_41) (xS sC h6 xc_41_3) dX6_pass_58 ?_
          refine r_iload_n 3 C dX6_pass_61 rfl ?_
          refine r_iald C (kS sC h6 kc_43) (vin (by omega) (by omega)) dX6_pass_62 ?_
          generalize (wI w5 43 (u2).toNatClampNeg) = v21
          refine r_iconst (v := (-1)) C dX6_pass_63 (by decide) ?_
          refine r_icmp_eq 72 C dX6_pass_64 (by decide) (fun c22 => ?_) (fun c22 => ?_)
          · have c22' := i_eq c22
            obtain ⟨i23, e24⟩ : ∃ z : Int32, u2 + Int32.ofInt 1 = z := ⟨_, rfl⟩
            have i23' := iinc_ok e24 (by decide) (by omega) (by omega)
            refine r_iinc [(3, .int i23), (0, .ref (gz (xG x) + 41)), (1, .int a1), (2, .int a2)] 3 C dX6_pass_72 rfl e24 (by decide) rfl ?_
            refine r_goto 22 C dX6_pass_75 (by decide) ?_
            refine r_lv [1, 2, 3, 0] rfl ?_
            exact ih10 i23 w5 h6 o7 (by omega) (by omega)
          · have c22' := i_ne c22
            refine r_aload_n 0 C dX6_pass_67 rfl ?_
            refine r_iload_n 3 C dX6_pass_68 rfl ?_
            refine callVV C cwX6_59_V (ctX6_lead_41 _ _ w5 (sS sC h6) o7 u2 (by omega)) (by decide) (kS sC h6 kc_41) rfl rfl rfl (Nat.le_of_ble_eq_true rfl) (by decide) dX6_pass_69 (fun w26 y25 => ?_)
            show V x 0 0 w26 72 [(0, .ref (gz (xG x) + 41)), (1, .int a1), (2, .int a2), (3, .int u2)] []
            obtain ⟨h28, o29⟩ := y25
            have h30 := Ch.tr h6 h28 (by decide) (by decide)
            obtain ⟨i31, e32⟩ : ∃ z : Int32, u2 + Int32.ofInt 1 = z := ⟨_, rfl⟩
            have i31' := iinc_ok e32 (by decide) (by omega) (by omega)
            refine r_iinc [(3, .int i31), (0, .ref (gz (xG x) + 41)), (1, .int a1), (2, .int a2)] 3 C dX6_pass_72 rfl e32 (by decide) rfl ?_
            refine r_goto 22 C dX6_pass_75 (by decide) ?_
            refine r_lv [1, 2, 3, 0] rfl ?_
            exact ih10 i31 w26 h30 o29 (by omega) (by omega)
        · have c20' := i_ne c20
          refine r_aload_n 0 C dX6_pass_38 rfl ?_
          refine r_iload_n 3 C dX6_pass_39 rfl ?_
          refine r_iload_n 2 C dX6_pass_40 rfl ?_
          refine callVI C cwX6_55_V (ctX6_hears_41 _ _ w5 (sS sC h6) o7 u2 a2 ) (by decide) (kS sC h6 kc_41) rfl rfl rfl (Nat.le_of_ble_eq_true rfl) (by decide) dX6_pass_41 (fun r35 w34 y33 => ?_)
          show V x 0 0 w34 44 [(0, .ref (gz (xG x) + 41)), (1, .int a1), (2, .int a2), (3, .int u2)] [.int r35]
          obtain ⟨h36, o37, g38⟩ := y33
          have h39 := Ch.tr h6 h36 (by decide) (by decide)
          refine r_if_eq 57 C dX6_pass_44 (by decide) (fun c40 => ?_) (fun c40 => ?_)
          · have c40' := i_eq c40
            refine r_aload_n 0 C dX6_pass_57 rfl ?_
            refine gfX6_15 43 C (kS sC h39 kc_41) (xS sC h39 xc_41_3) dX6_pass_58 ?_
            refine r_iload_n 3 C dX6_pass_61 rfl ?_
            refine r_iald C (kS sC h39 kc_43) (vin (by omega) (by omega)) dX6_pass_62 ?_
            generalize (wI w34 43 (u2).toNatClampNeg) = v41
            refine r_iconst (v := (-1)) C dX6_pass_63 (by decide) ?_
            refine r_icmp_eq 72 C dX6_pass_64 (by decide) (fun c42 => ?_) (fun c42 => ?_)
            · have c42' := i_eq c42
              obtain ⟨i43, e44⟩ : ∃ z : Int32, u2 + Int32.ofInt 1 = z := ⟨_, rfl⟩
              have i43' := iinc_ok e44 (by decide) (by omega) (by omega)
              refine r_iinc [(3, .int i43), (0, .ref (gz (xG x) + 41)), (1, .int a1), (2, .int a2)] 3 C dX6_pass_72 rfl e44 (by decide) rfl ?_
              refine r_goto 22 C dX6_pass_75 (by decide) ?_
              refine r_lv [1, 2, 3, 0] rfl ?_
              exact ih10 i43 w34 h39 o37 (by omega) (by omega)
            · have c42' := i_ne c42
              refine r_aload_n 0 C dX6_pass_67 rfl ?_
              refine r_iload_n 3 C dX6_pass_68 rfl ?_
              refine callVV C cwX6_59_V (ctX6_lead_41 _ _ w34 (sS sC h39) o37 u2 (by omega)) (by decide) (kS sC h39 kc_41) rfl rfl rfl (Nat.le_of_ble_eq_true rfl) (by decide) dX6_pass_69 (fun w46 y45 => ?_)
              show V x 0 0 w46 72 [(0, .ref (gz (xG x) + 41)), (1, .int a1), (2, .int a2), (3, .int u2)] []
              obtain ⟨h48, o49⟩ := y45
              have h50 := Ch.tr h39 h48 (by decide) (by decide)
              obtain ⟨i51, e52⟩ : ∃ z : Int32, u2 + Int32.ofInt 1 = z := ⟨_, rfl⟩
              have i51' := iinc_ok e52 (by decide) (by omega) (by omega)
              refine r_iinc [(3, .int i51), (0, .ref (gz (xG x) + 41)), (1, .int a1), (2, .int a2)] 3 C dX6_pass_72 rfl e52 (by decide) rfl ?_
              refine r_goto 22 C dX6_pass_75 (by decide) ?_
              refine r_lv [1, 2, 3, 0] rfl ?_
              exact ih10 i51 w46 h50 o49 (by omega) (by omega)
          · have c40' := i_ne c40
            refine r_aload_n 0 C dX6_pass_47 rfl ?_
            refine gfX6_15 43 C (kS sC h39 kc_41) (xS sC h39 xc_41_3) dX6_pass_48 ?_
            refine r_iload_n 3 C dX6_pass_51 rfl ?_
            refine r_aload_n 0 C dX6_pass_52 rfl ?_
            refine gfX6_32 (v := (wI w5 41 0)) C (kS sC h39 kc_41) (h36.I (by decide) (by decide) rfl) dX6_pass_53 ?_
            refine r_iast C (kS sC h39 kc_43) (vin (by omega) (by omega)) dX6_pass_56 (fun w53 e54 => ?_)
            have h55 := Ch.putS h39 e54 (by decide)
            have o56 := Inv.put0 o37 e54 (by decide)
            refine r_aload_n 0 C dX6_pass_57 rfl ?_
            refine gfX6_15 43 C (kS sC h55 kc_41) (xS sC h55 xc_41_3) dX6_pass_58 ?_
            refine r_iload_n 3 C dX6_pass_61 rfl ?_
            refine r_iald C (kS sC h55 kc_43) (vin (by omega) (by omega)) dX6_pass_62 ?_
            generalize (wI w53 43 (u2).toNatClampNeg) = v57
            refine r_iconst (v := (-1)) C dX6_pass_63 (by decide) ?_
            refine r_icmp_eq 72 C dX6_pass_64 (by decide) (fun c58 => ?_) (fun c58 => ?_)
            · have c58' := i_eq c58
              obtain ⟨i59, e60⟩ : ∃ z : Int32, u2 + Int32.ofInt 1 = z := ⟨_, rfl⟩
              have i59' := iinc_ok e60 (by decide) (by omega) (by omega)
              refine r_iinc [(3, .int i59), (0, .ref (gz (xG x) + 41)), (1, .int a1), (2, .int a2)] 3 C dX6_pass_72 rfl e60 (by decide) rfl ?_
              refine r_goto 22 C dX6_pass_75 (by decide) ?_
              refine r_lv [1, 2, 3, 0] rfl ?_
              exact ih10 i59 w53 h55 o56 (by omega) (by omega)
            · have c58' := i_ne c58
              refine r_aload_n 0 C dX6_pass_67 rfl ?_
              refine r_iload_n 3 C dX6_pass_68 rfl ?_
              refine callVV C cwX6_59_V (ctX6_lead_41 _ _ w53 (sS sC h55) o56 u2 (by omega)) (by decide) (kS sC h55 kc_41) rfl rfl rfl (Nat.le_of_ble_eq_true rfl) (by decide) dX6_pass_69 (fun w62 y61 => ?_)
              show V x 0 0 w62 72 [(0, .ref (gz (xG x) + 41)), (1, .int a1), (2, .int a2), (3, .int u2)] []
              obtain ⟨h64, o65⟩ := y61
              have h66 := Ch.tr h55 h64 (by decide) (by decide)
              obtain ⟨i67, e68⟩ : ∃ z : Int32, u2 + Int32.ofInt 1 = z := ⟨_, rfl⟩
              have i67' := iinc_ok e68 (by decide) (by omega) (by omega)
              refine r_iinc [(3, .int i67), (0, .ref (gz (xG x) + 41)), (1, .int a1), (2, .int a2)] 3 C dX6_pass_72 rfl e68 (by decide) rfl ?_
              refine r_goto 22 C dX6_pass_75 (by decide) ?_
              refine r_lv [1, 2, 3, 0] rfl ?_
              exact ih10 i67 w62 h66 o65 (by omega) (by omega)
  refine r_iload_n 1 C dX6_pass_0 rfl ?_
  refine r_if_eq 20 C dX6_pass_1 (by decide) (fun c1 => ?_) (fun c1 => ?_)
  · have c1' := i_eq c1
    refine r_iconst (v := 0) C dX6_pass_20 (by decide) ?_
    refine r_istore_n [(3, .int 0), (0, .ref (gz (xG x) + 41)), (1, .int a1), (2, .int a2)] C dX6_pass_21 (by decide) rfl ?_
    refine r_lv [1, 2, 3, 0] rfl ?_
    exact LP3 4294967296 0 w h0 o0 (by omega) (by omega)
  · have c1' := i_ne c1
    refine r_aload_n 0 C dX6_pass_4 rfl ?_
    refine r_aload_n 0 C dX6_pass_5 rfl ?_
    refine gfX6_22 28 C (kS sC h0 kc_41) (xS sC h0 xc_41_5) dX6_pass_6 ?_
    refine r_aload_n 0 C dX6_pass_9 rfl ?_
    refine gfX6_32 (v := (wI w 41 0)) C (kS sC h0 kc_41) rfl dX6_pass_10 ?_
    refine r_iload_n 1 C dX6_pass_13 rfl ?_
    refine callVI C cwX6_47_V (ctX1_beside_28 _ _ w (sS sC h0) o0 (wI w 41 0) a1 ) (by decide) (kS sC h0 kc_28) rfl rfl rfl (Nat.le_of_ble_eq_true rfl) (by decide) dX6_pass_14 (fun r71 w70 y69 => ?_)
    show V x 0 0 w70 17 [(0, .ref (gz (xG x) + 41)), (1, .int a1), (2, .int a2)] [.int r71, .ref (gz (xG x) + 41)]
    obtain ⟨h72, o73⟩ := y69
    have h74 := Ch.tr h0 h72 (by decide) (by decide)
    refine pfX6_32 C (kS sC h74 kc_41) dX6_pass_17 (fun w75 e76 => ?_)
    have h77 := Ch.putF h74 e76 (by decide)
    have o78 := Inv.putk o73 e76 (by decide)
    refine r_iconst (v := 0) C dX6_pass_20 (by decide) ?_
    refine r_istore_n [(3, .int 0), (0, .ref (gz (xG x) + 41)), (1, .int a1), (2, .int a2)] C dX6_pass_21 (by decide) rfl ?_
    refine r_lv [1, 2, 3, 0] rfl ?_
    exact LP3 4294967296 0 w75 h77 o78 (by omega) (by omega)
