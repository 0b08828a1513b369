set_option maxHeartbeats 4000000 in
set_option maxRecDepth 100000 in
theorem ctX8_stepLeads_55_d4 (l : Launch) (G : Gt) (w : Wv) (sC : Str KC XC w) (o0 : Inv RC w) (a1 : Int32) (a2 : Int32) (b1 : 4 ≤ a1.toInt ∧ a1.toInt ≤ 4) : CtI l G yX8_stepLeads cX8_stepLeads 5 .boolean ({ frames := 6, cells := 0, slots := 0, locals := 155 } : Room) [.ref (gz G + 55), .int a1, .int a2] w (fun r w' => Ch [25, 26, 27, 52, 53, 54, 57, 75, 76, 78, 79] [(74, 0), (74, 1), (77, 0), (77, 1)] w w' ∧ Inv RC w' ∧ ((0 ≤ r.toInt ∧ r.toInt ≤ 1))) := by
  refine enterI (by decide) (Nat.le_of_ble_eq_true rfl) ?_
  intro x el eG C hret
  subst el; subst eG
  obtain rfl : a1 = 4 := i_of (by have q : (4 : Int32).toInt = 4 := (by decide); omega)
  show V x 0 0 w 0 [(0, .ref (gz (xG x) + 55)), (1, .int 4), (2, .int a2)] []
  have h0 : Ch [25, 26, 27, 52, 53, 54, 57, 75, 76, 78, 79] [(74, 0), (74, 1), (77, 0), (77, 1)] w w := Ch.rf
  have q0 : (0 : Int32).toInt = 0 := by decide
  have q1 : (1 : Int32).toInt = 1 := by decide
  have q4 : (4 : Int32).toInt = 4 := by decide
  have q5 : (5 : Int32).toInt = 5 := by decide
  have LP3 : ∀ (f4 : Nat) (u1 : Int32) (u2 : Int32) (w5 : Wv), Ch [25, 26, 27, 52, 53, 54, 57, 75, 76, 78, 79] [(74, 0), (74, 1), (77, 0), (77, 1)] w w5 → Inv RC w5 → (0 ≤ u1.toInt ∧ u1.toInt ≤ 1) → (0 ≤ u2.toInt ∧ u2.toInt ≤ 2147483647) → 2147483647 - u2.toInt < f4 → V x 0 0 w5 5 [(0, .ref (gz (xG x) + 55)), (1, .int 4), (2, .int a2), (3, .int u1), (4, .int u2)] [] := by
    intro f4
    induction f4 with
    | zero => intro u1 u2 w5 h6 o7 z8 z9 z10; exfalso; omega
    | succ f4 ih11 =>
      intro u1 u2 w5 h6 o7 z8 z9 z10
      refine r_iload 4 C dX8_stepLeads_5 rfl ?_
      refine r_iconst (v := 4) C dX8_stepLeads_7 (by decide) ?_
      have k13 := i_rng u2
      refine r_icmp_gt 86 C dX8_stepLeads_8 (by decide) (fun c12 => ?_) (fun c12 => ?_)
      · have c12' := i_lt c12
        refine r_iload_n 3 C dX8_stepLeads_86 rfl ?_
        exact hret _ _ _ _ dX8_stepLeads_87 (nar_z (z_of (by omega))) ⟨h6, o7, by omega⟩
      · have c12' := i_nlt c12
        refine r_iload_n 3 C dX8_stepLeads_11 rfl ?_
        refine r_if_ne 86 C dX8_stepLeads_12 (by decide) (fun c14 => ?_) (fun c14 => ?_)
        · have c14' := i_ne c14
          refine r_iload_n 3 C dX8_stepLeads_86 rfl ?_
          exact hret _ _ _ _ dX8_stepLeads_87 (nar_z (z_of (by omega))) ⟨h6, o7, by omega⟩
        · have c14' := i_eq c14
          refine r_aload_n 0 C dX8_stepLeads_15 rfl ?_
          refine gfX8_11 56 C (kS sC h6 kc_55) (xS sC h6 xc_55_3) dX8_stepLeads_16 ?_
          refine r_iload_n 1 C dX8_stepLeads_19 rfl ?_
          refine r_aald 3 rfl C (kS sC h6 kc_56) (vin (by omega) (by omega)) (xS sC h6 xc_56_4) dX8_stepLeads_20 ?_
          refine r_iload 4 C dX8_stepLeads_21 rfl ?_
          refine callVI C cwX8_103_V (ctX6_may_71 _ _ w5 (sS sC h6) o7 u2 ) (by decide) (kS sC h6 kc_71) rfl rfl rfl (Nat.le_of_ble_eq_true rfl) (by decide) dX8_stepLeads_23 (fun r17 w16 y15 => ?_)
          show V x 0 0 w16 26 [(0, .ref (gz (xG x) + 55)), (1, .int 4), (2, .int a2), (3, .int u1), (4, .int u2)] [.int r17]
          obtain ⟨h18, o19, g20⟩ := y15
          have h21 := Ch.tr h6 h18 (by decide) (by decide)
          refine r_if_eq 80 C dX8_stepLeads_26 (by decide) (fun c22 => ?_) (fun c22 => ?_)
          · have c22' := i_eq c22
            obtain ⟨i23, e24⟩ : ∃ z : Int32, u2 + Int32.ofInt 1 = z := ⟨_, rfl⟩
            have i23' := iinc_ok e24 (by decide) (by omega) (by omega)
            refine r_iinc [(4, .int i23), (0, .ref (gz (xG x) + 55)), (1, .int 4), (2, .int a2), (3, .int u1)] 4 C dX8_stepLeads_80 rfl e24 (by decide) rfl ?_
            refine r_goto 5 C dX8_stepLeads_83 (by decide) ?_
            refine r_lv [1, 2, 3, 4, 0] rfl ?_
            exact ih11 u1 i23 w16 h21 o19 (by omega) (by omega) (by omega)
          · have c22' := i_ne c22
            refine r_aload_n 0 C dX8_stepLeads_29 rfl ?_
            refine gfX8_11 56 C (kS sC h21 kc_55) (xS sC h21 xc_55_3) dX8_stepLeads_30 ?_
            refine r_iload_n 1 C dX8_stepLeads_33 rfl ?_
            refine r_iconst (v := 1) C dX8_stepLeads_34 (by decide) ?_
            refine r_iadd C dX8_stepLeads_35 (fun v25 e26 => ?_)
            have v25' := iadd_ok e26 (by omega) (by omega)
            rcases (show v25.toInt = 5 by omega) with c27
            · obtain rfl : v25 = 5 := i_of (by omega)
              refine r_aald 3 rfl C (kS sC h21 kc_56) (vin (by omega) (by omega)) (xS sC h21 xc_56_5) dX8_stepLeads_36 ?_
              refine r_aload_n 0 C dX8_stepLeads_37 rfl ?_
              refine gfX8_11 56 C (kS sC h21 kc_55) (xS sC h21 xc_55_3) dX8_stepLeads_38 ?_
              refine r_iload_n 1 C dX8_stepLeads_41 rfl ?_
              refine r_aald 3 rfl C (kS sC h21 kc_56) (vin (by omega) (by omega)) (xS sC h21 xc_56_4) dX8_stepLeads_42 ?_
              refine callVV C cwX8_53_V (ctX6_copy_74_71 _ _ w16 (sS sC h21) o19  ) (by decide) (kS sC h21 kc_74) rfl rfl rfl (Nat.le_of_ble_eq_true rfl) (by decide) dX8_stepLeads_43 (fun w29 y28 => ?_)
              show V x 0 0 w29 46 [(0, .ref (gz (xG x) + 55)), (1, .int 4), (2, .int a2), (3, .int u1), (4, .int u2)] []
              obtain ⟨h31, o32⟩ := y28
              have h33 := Ch.tr h21 h31 (by decide) (by decide)
              refine r_aload_n 0 C dX8_stepLeads_46 rfl ?_
              refine gfX8_11 56 C (kS sC h33 kc_55) (xS sC h33 xc_55_3) dX8_stepLeads_47 ?_
              refine r_iload_n 1 C dX8_stepLeads_50 rfl ?_
              refine r_iconst (v := 1) C dX8_stepLeads_51 (by decide) ?_
              refine r_iadd C dX8_stepLeads_52 (fun v34 e35 => ?_)
              have v34' := iadd_ok e35 (by omega) (by omega)
              rcases (show v34.toInt = 5 by omega) with c36
              · obtain rfl : v34 = 5 := i_of (by omega)
                refine r_aald 3 rfl C (kS sC h33 kc_56) (vin (by omega) (by omega)) (xS sC h33 xc_56_5) dX8_stepLeads_53 ?_
                refine r_iload 4 C dX8_stepLeads_54 rfl ?_
                refine r_aload_n 0 C dX8_stepLeads_56 rfl ?_
                refine gfX8_50 (v := (wI w 55 9)) C (kS sC h33 kc_55) (h31.I (by decide) (by decide) (h18.I (by decide) (by decide) (h6.I (by decide) (by decide) rfl))) dX8_stepLeads_57 ?_
                refine callVV C cwX8_107_V (ctX6_pass_74 _ _ w29 (sS sC h33) o32 u2 (wI w 55 9) ) (by decide) (kS sC h33 kc_74) rfl rfl rfl (Nat.le_of_ble_eq_true rfl) (by decide) dX8_stepLeads_60 (fun w38 y37 => ?_)
                show V x 0 0 w38 63 [(0, .ref (gz (xG x) + 55)), (1, .int 4), (2, .int a2), (3, .int u1), (4, .int u2)] []
                obtain ⟨h40, o41⟩ := y37
                have h42 := Ch.tr h33 h40 (by decide) (by decide)
                refine r_aload_n 0 C dX8_stepLeads_63 rfl ?_
                refine gfX8_17 57 C (kS sC h42 kc_55) (xS sC h42 xc_55_4) dX8_stepLeads_64 ?_
                refine r_iload_n 1 C dX8_stepLeads_67 rfl ?_
                refine r_iload 4 C dX8_stepLeads_68 rfl ?_
                refine r_iast C (kS sC h42 kc_57) (vin (by omega) (by omega)) dX8_stepLeads_70 (fun w43 e44 => ?_)
                have h45 := Ch.putS h42 e44 (by decide)
                have o46 := Inv.put0 o41 e44 (by decide)
                refine r_aload_n 0 C dX8_stepLeads_71 rfl ?_
                refine r_iload_n 1 C dX8_stepLeads_72 rfl ?_
                refine r_iconst (v := 1) C dX8_stepLeads_73 (by decide) ?_
                refine r_iadd C dX8_stepLeads_74 (fun v47 e48 => ?_)
                have v47' := iadd_ok e48 (by omega) (by omega)
                refine r_iload_n 2 C dX8_stepLeads_75 rfl ?_
                refine callVI C cwX8_65_V (ctX8_leads_55_d5 _ _ w43 (sS sC h45) o46 v47 a2 (by omega)) (by decide) (kS sC h45 kc_55) rfl rfl rfl (Nat.le_of_ble_eq_true rfl) (by decide) dX8_stepLeads_76 (fun r51 w50 y49 => ?_)
                show V x 0 0 w50 79 [(0, .ref (gz (xG x) + 55)), (1, .int 4), (2, .int a2), (3, .int u1), (4, .int u2)] [.int r51]
                obtain ⟨h52, o53, g54⟩ := y49
                have h55 := Ch.tr h45 h52 (by decide) (by decide)
                refine r_istore_n [(3, .int r51), (0, .ref (gz (xG x) + 55)), (1, .int 4), (2, .int a2), (4, .int u2)] C dX8_stepLeads_79 (by decide) rfl ?_
                obtain ⟨i56, e57⟩ : ∃ z : Int32, u2 + Int32.ofInt 1 = z := ⟨_, rfl⟩
                have i56' := iinc_ok e57 (by decide) (by omega) (by omega)
                refine r_iinc [(4, .int i56), (3, .int r51), (0, .ref (gz (xG x) + 55)), (1, .int 4), (2, .int a2)] 4 C dX8_stepLeads_80 rfl e57 (by decide) rfl ?_
                refine r_goto 5 C dX8_stepLeads_83 (by decide) ?_
                refine r_lv [2, 3, 4, 1, 0] rfl ?_
                exact ih11 r51 i56 w50 h55 o53 (by omega) (by omega) (by omega)
  refine r_iconst (v := 0) C dX8_stepLeads_0 (by decide) ?_
  refine r_istore_n [(3, .int 0), (0, .ref (gz (xG x) + 55)), (1, .int 4), (2, .int a2)] C dX8_stepLeads_1 (by decide) rfl ?_
  refine r_iconst (v := 0) C dX8_stepLeads_2 (by decide) ?_
  refine r_istore [(4, .int 0), (3, .int 0), (0, .ref (gz (xG x) + 55)), (1, .int 4), (2, .int a2)] C dX8_stepLeads_3 (by decide) rfl ?_
  refine r_lv [2, 3, 4, 1, 0] rfl ?_
  exact LP3 4294967296 0 0 w h0 o0 (by omega) (by omega) (by omega)
set_option maxHeartbeats 4000000 in
set_option maxRecDepth 100000 in
theorem ctX8_leads_55_d4 (l : Launch) (G : Gt) (w : Wv) (sC : Str KC XC w) (o0 : Inv RC w) (a1 : Int32) (a2 : Int32) (b1 : 4 ≤ a1.toInt ∧ a1.toInt ≤ 4) : CtI l G yX8_leads cX8_leads 10 .boolean ({ frames := 7, cells := 0, slots := 0, locals := 179 } : Room) [.ref (gz G + 55), .int a1, .int a2] w (fun r w' => Ch [25, 26, 27, 52, 53, 54, 57, 75, 76, 78, 79] [(74, 0), (74, 1), (77, 0), (77, 1)] w w' ∧ Inv RC w' ∧ ((0 ≤ r.toInt ∧ r.toInt ≤ 1))) := by
  refine enterI (by decide) (Nat.le_of_ble_eq_true rfl) ?_
  intro x el eG C hret
  subst el; subst eG
  obtain rfl : a1 = 4 := i_of (by have q : (4 : Int32).toInt = 4 := (by decide); omega)
  show V x 0 0 w 0 [(0, .ref (gz (xG x) + 55)), (1, .int 4), (2, .int a2)] []
  have h0 : Ch [25, 26, 27, 52, 53, 54, 57, 75, 76, 78, 79] [(74, 0), (74, 1), (77, 0), (77, 1)] w w := Ch.rf
  have q0 : (0 : Int32).toInt = 0 := by decide
  have q1 : (1 : Int32).toInt = 1 := by decide
  have q2 : (2 : Int32).toInt = 2 := by decide
  have q4 : (4 : Int32).toInt = 4 := by decide
  have q6 : (6 : Int32).toInt = 6 := by decide
  refine r_iload_n 1 C dX8_leads_0 rfl ?_
  refine r_if_lt 10 C dX8_leads_1 (by decide) (fun c1 => ?_) (fun c1 => ?_)
  · have c1' := i_lt c1
    exfalso; omega
  · have c1' := i_nlt c1
    refine r_iload_n 1 C dX8_leads_4 rfl ?_
    refine r_bipush (v := 6) C dX8_leads_5 (by decide) ?_
    refine r_icmp_le 12 C dX8_leads_7 (by decide) (fun c2 => ?_) (fun c2 => ?_)
    · have c2' := i_le c2
      refine r_aload_n 0 C dX8_leads_12 rfl ?_
      refine gfX8_11 56 C (kS sC h0 kc_55) (xS sC h0 xc_55_3) dX8_leads_13 ?_
      refine r_iload_n 1 C dX8_leads_16 rfl ?_
      refine r_aald 3 rfl C (kS sC h0 kc_56) (vin (by omega) (by omega)) (xS sC h0 xc_56_4) dX8_leads_17 ?_
      refine r_astore_n [(3, .ref (gz (xG x) + 71)), (0, .ref (gz (xG x) + 55)), (1, .int 4), (2, .int a2)] C dX8_leads_18 (by decide) rfl ?_
      refine r_iload_n 3 C dX8_leads_19 rfl ?_
      refine r_iload_n 2 C dX8_leads_20 rfl ?_
      refine r_isub C dX8_leads_21 (fun v3 e4 => ?_)
      refine r_istore [(4, .int v3), (3, .ref (gz (xG x) + 71)), (0, .ref (gz (xG x) + 55)), (1, .int 4), (2, .int a2)] C dX8_leads_22 (by decide) rfl ?_
      refine r_aload_n 2 C dX8_leads_24 rfl ?_
      refine r_aload_n 1 C dX8_leads_25 rfl ?_
      refine r_iload 0 C dX8_leads_26 rfl ?_
      refine callVI C cwX8_81_V (ctX8_outlook_55_71 _ _ w (sS sC h0) o0 v3 ) (by decide) (kS sC h0 kc_55) rfl rfl rfl (Nat.le_of_ble_eq_true rfl) (by decide) dX8_leads_28 (fun r7 w6 y5 => ?_)
      show V x 0 0 w6 31 [(4, .int v3), (3, .ref (gz (xG x) + 71)), (0, .ref (gz (xG x) + 55)), (1, .int 4), (2, .int a2)] [.int r7]
      obtain ⟨h8, o9⟩ := y5
      have h10 := Ch.tr h0 h8 (by decide) (by decide)
      refine r_istore [(5, .int r7), (4, .int v3), (3, .ref (gz (xG x) + 71)), (0, .ref (gz (xG x) + 55)), (1, .int 4), (2, .int a2)] C dX8_leads_31 (by decide) rfl ?_
      refine r_iload 0 C dX8_leads_33 rfl ?_
      refine r_iconst (v := 1) C dX8_leads_35 (by decide) ?_
      refine r_icmp_ne 50 C dX8_leads_36 (by decide) (fun c11 => ?_) (fun c11 => ?_)
      · have c11' := i_ne c11
        refine r_iload 0 C dX8_leads_50 rfl ?_
        refine r_iconst (v := 2) C dX8_leads_52 (by decide) ?_
        refine r_icmp_ne 60 C dX8_leads_53 (by decide) (fun c12 => ?_) (fun c12 => ?_)
        · have c12' := i_ne c12
          refine r_iconst (v := 0) C dX8_leads_60 (by decide) ?_
          exact hret _ _ _ _ dX8_leads_61 (nar_z (z_of (by omega))) ⟨h10, o9, by omega⟩
        · have c12' := i_eq c12
          refine r_iconst (v := 1) C dX8_leads_56 (by decide) ?_
          refine r_goto 61 C dX8_leads_57 (by decide) ?_
          exact hret _ _ _ _ dX8_leads_61 (nar_z (z_of (by omega))) ⟨h10, o9, by omega⟩
      · have c11' := i_eq c11
        refine r_iload 1 C dX8_leads_39 rfl ?_
        refine r_if_le 50 C dX8_leads_41 (by decide) (fun c13 => ?_) (fun c13 => ?_)
        · have c13' := i_le c13
          refine r_iload 0 C dX8_leads_50 rfl ?_
          refine r_iconst (v := 2) C dX8_leads_52 (by decide) ?_
          refine r_icmp_ne 60 C dX8_leads_53 (by decide) (fun c14 => ?_) (fun c14 => ?_)
          · have c14' := i_ne c14
            refine r_iconst (v := 0) C dX8_leads_60 (by decide) ?_
            exact hret _ _ _ _ dX8_leads_61 (nar_z (z_of (by omega))) ⟨h10, o9, by omega⟩
          · have c14' := i_eq c14
            exfalso; omega
        · have c13' := i_nle c13
          refine r_iload_n 4 C dX8_leads_44 rfl ?_
          refine r_bipush (v := 6) C dX8_leads_45 (by decide) ?_
          refine r_icmp_lt 62 C dX8_leads_47 (by decide) (fun c15 => ?_) (fun c15 => ?_)
          · have c15' := i_lt c15
            refine r_aload_n 2 C dX8_leads_62 rfl ?_
            refine callVL C cwX8_85_V (ctX6_places_71 _ _ w6 (sS sC h10) o9  ) (by decide) (kS sC h10 kc_71) rfl rfl rfl (Nat.le_of_ble_eq_true rfl) (by decide) dX8_leads_63 (fun r18 w17 y16 => ?_)
            show V x 0 0 w17 66 [(5, .int r7), (4, .int v3), (3, .ref (gz (xG x) + 71)), (0, .ref (gz (xG x) + 55)), (1, .int 4), (2, .int a2)] [.long r18]
            obtain ⟨h19, o20⟩ := y16
            have h21 := Ch.tr h10 h19 (by decide) (by decide)
            refine r_lstore [(6, .long r18), (5, .int r7), (4, .int v3), (3, .ref (gz (xG x) + 71)), (0, .ref (gz (xG x) + 55)), (1, .int 4), (2, .int a2)] C dX8_leads_66 (by decide) rfl ?_
            refine r_aload_n 3 C dX8_leads_68 rfl ?_
            refine callVL C cwX8_89_V (ctX6_goals_71 _ _ w17 (sS sC h21) o20  ) (by decide) (kS sC h21 kc_71) rfl rfl rfl (Nat.le_of_ble_eq_true rfl) (by decide) dX8_leads_69 (fun r24 w23 y22 => ?_)
            show V x 0 0 w23 72 [(6, .long r18), (5, .int r7), (4, .int v3), (3, .ref (gz (xG x) + 71)), (0, .ref (gz (xG x) + 55)), (1, .int 4), (2, .int a2)] [.long r24]
            obtain ⟨h25, o26⟩ := y22
            have h27 := Ch.tr h21 h25 (by decide) (by decide)
            refine r_lstore [(8, .long r24), (6, .long r18), (5, .int r7), (4, .int v3), (3, .ref (gz (xG x) + 71)), (0, .ref (gz (xG x) + 55)), (1, .int 4), (2, .int a2)] C dX8_leads_72 (by decide) rfl ?_
            refine r_aload_n 5 C dX8_leads_74 rfl ?_
            refine gfX8_32 51 C (kS sC h27 kc_55) (xS sC h27 xc_55_6) dX8_leads_75 ?_
            refine r_lload 1 C dX8_leads_78 rfl ?_
            refine r_lload 0 C dX8_leads_80 rfl ?_
            refine callVI C cwX8_92_V (ctX3_value_51 _ _ w23 (sS sC h27) o26 r18 r24 ) (by decide) (kS sC h27 kc_51) rfl rfl rfl (Nat.le_of_ble_eq_true rfl) (by decide) dX8_leads_82 (fun r30 w29 y28 => ?_)
            show V x 0 0 w29 85 [(8, .long r24), (6, .long r18), (5, .int r7), (4, .int v3), (3, .ref (gz (xG x) + 71)), (0, .ref (gz (xG x) + 55)), (1, .int 4), (2, .int a2)] [.int r30]
            obtain ⟨h31, o32⟩ := y28
            have h33 := Ch.tr h27 h31 (by decide) (by decide)
            refine r_iload 3 C dX8_leads_85 rfl ?_
            have k35 := i_rng r30
            have k36 := i_rng v3
            refine r_icmp_lt 92 C dX8_leads_87 (by decide) (fun c34 => ?_) (fun c34 => ?_)
            · have c34' := i_lt c34
              refine r_aload_n 5 C dX8_leads_92 rfl ?_
              refine r_iload_n 6 C dX8_leads_93 rfl ?_
              refine r_iload_n 7 C dX8_leads_94 rfl ?_
              refine callVI C cwX8_96_V (ctX8_stepLeads_55_d4 _ _ w29 (sS sC h33) o32 4 a2 (by omega)) (by decide) (kS sC h33 kc_55) rfl rfl rfl (Nat.le_of_ble_eq_true rfl) (by decide) dX8_leads_95 (fun r39 w38 y37 => ?_)
              show V x 0 0 w38 98 [(8, .long r24), (6, .long r18), (5, .int r7), (4, .int v3), (3, .ref (gz (xG x) + 71)), (0, .ref (gz (xG x) + 55)), (1, .int 4), (2, .int a2)] [.int r39]
              obtain ⟨h40, o41, g42⟩ := y37
              have h43 := Ch.tr h33 h40 (by decide) (by decide)
              refine r_if_eq 103 C dX8_leads_98 (by decide) (fun c44 => ?_) (fun c44 => ?_)
              · have c44' := i_eq c44
                refine r_aload_n 5 C dX8_leads_103 rfl ?_
                refine gfX8_32 51 C (kS sC h43 kc_55) (xS sC h43 xc_55_6) dX8_leads_104 ?_
                refine r_lload 1 C dX8_leads_107 rfl ?_
                refine r_lload 0 C dX8_leads_109 rfl ?_
                refine r_iload 3 C dX8_leads_111 rfl ?_
                refine callVV C cwX8_99_V (ctX3_put_51 _ _ w38 (sS sC h43) o41 r18 r24 v3 ) (by decide) (kS sC h43 kc_51) rfl rfl rfl (Nat.le_of_ble_eq_true rfl) (by decide) dX8_leads_113 (fun w46 y45 => ?_)
                show V x 0 0 w46 116 [(8, .long r24), (6, .long r18), (5, .int r7), (4, .int v3), (3, .ref (gz (xG x) + 71)), (0, .ref (gz (xG x) + 55)), (1, .int 4), (2, .int a2)] []
                obtain ⟨h48, o49⟩ := y45
                have h50 := Ch.tr h43 h48 (by decide) (by decide)
                refine r_iconst (v := 0) C dX8_leads_116 (by decide) ?_
                exact hret _ _ _ _ dX8_leads_117 (nar_z (z_of (by omega))) ⟨h50, o49, by omega⟩
              · have c44' := i_ne c44
                refine r_iconst (v := 1) C dX8_leads_101 (by decide) ?_
                exact hret _ _ _ _ dX8_leads_102 (nar_z (z_of (by omega))) ⟨h43, o41, by omega⟩
            · have c34' := i_nlt c34
              refine r_iconst (v := 0) C dX8_leads_90 (by decide) ?_
              exact hret _ _ _ _ dX8_leads_91 (nar_z (z_of (by omega))) ⟨h33, o32, by omega⟩
          · have c15' := i_nlt c15
            exfalso; omega
    · have c2' := i_nle c2
      exfalso; omega
set_option maxHeartbeats 4000000 in
set_option maxRecDepth 100000 in
theorem ctX8_stepLeads_55_d3 (l : Launch) (G : Gt) (w : Wv) (sC : Str KC XC w) (o0 : Inv RC w) (a1 : Int32) (a2 : Int32) (b1 : 3 ≤ a1.toInt ∧ a1.toInt ≤ 3) : CtI l G yX8_stepLeads cX8_stepLeads 5 .boolean ({ frames := 8, cells := 0, slots := 0, locals := 208 } : Room) [.ref (gz G + 55), .int a1, .int a2] w (fun r w' => Ch [25, 26, 27, 52, 53, 54, 57, 72, 73, 75, 76, 78, 79] [(71, 0), (71, 1), (74, 0), (74, 1), (77, 0), (77, 1)] w w' ∧ Inv RC w' ∧ ((0 ≤ r.toInt ∧ r.toInt ≤ 1))) := by
  refine enterI (by decide) (Nat.le_of_ble_eq_true rfl) ?_
  intro x el eG C hret
  subst el; subst eG
  obtain rfl : a1 = 3 := i_of (by have q : (3 : Int32).toInt = 3 := (by decide); omega)
  show V x 0 0 w 0 [(0, .ref (gz (xG x) + 55)), (1, .int 3), (2, .int a2)] []
  have h0 : Ch [25, 26, 27, 52, 53, 54, 57, 72, 73, 75, 76, 78, 79] [(71, 0), (71, 1), (74, 0), (74, 1), (77, 0), (77, 1)] w w := Ch.rf
  have q0 : (0 : Int32).toInt = 0 := by decide
  have q1 : (1 : Int32).toInt = 1 := by decide
  have q3 : (3 : Int32).toInt = 3 := by decide
  have q4 : (4 : Int32).toInt = 4 := by decide
  have LP3 : ∀ (f4 : Nat) (u1 : Int32) (u2 : Int32) (w5 : Wv), Ch [25, 26, 27, 52, 53, 54, 57, 72, 73, 75, 76, 78, 79] [(71, 0), (71, 1), (74, 0), (74, 1), (77, 0), (77, 1)] w w5 → Inv RC w5 → (0 ≤ u1.toInt ∧ u1.toInt ≤ 1) → (0 ≤ u2.toInt ∧ u2.toInt ≤ 2147483647) → 2147483647 - u2.toInt < f4 → V x 0 0 w5 5 [(0, .ref (gz (xG x) + 55)), (1, .int 3), (2, .int a2), (3, .int u1), (4, .int u2)] [] := by
    intro f4
    induction f4 with
    | zero => intro u1 u2 w5 h6 o7 z8 z9 z10; exfalso; omega
    | succ f4 ih11 =>
      intro u1 u2 w5 h6 o7 z8 z9 z10
      refine r_iload 4 C dX8_stepLeads_5 rfl ?_
      refine r_iconst (v := 4) C dX8_stepLeads_7 (by decide) ?_
      have k13 := i_rng u2
      refine r_icmp_gt 86 C dX8_stepLeads_8 (by decide) (fun c12 => ?_) (fun c12 => ?_)
      · have c12' := i_lt c12
        refine r_iload_n 3 C dX8_stepLeads_86 rfl ?_
        exact hret _ _ _ _ dX8_stepLeads_87 (nar_z (z_of (by omega))) ⟨h6, o7, by omega⟩
      · have c12' := i_nlt c12
        refine r_iload_n 3 C dX8_stepLeads_11 rfl ?_
        refine r_if_ne 86 C dX8_stepLeads_12 (by decide) (fun c14 => ?_) (fun c14 => ?_)
        · have c14' := i_ne c14
          refine r_iload_n 3 C dX8_stepLeads_86 rfl ?_
          exact hret _ _ _ _ dX8_stepLeads_87 (nar_z (z_of (by omega))) ⟨h6, o7, by omega⟩
        · have c14' := i_eq c14
          refine r_aload_n 0 C dX8_stepLeads_15 rfl ?_
          refine gfX8_11 56 C (kS sC h6 kc_55) (xS sC h6 xc_55_3) dX8_stepLeads_16 ?_
          refine r_iload_n 1 C dX8_stepLeads_19 rfl ?_
          refine r_aald 3 rfl C (kS sC h6 kc_56) (vin (by omega) (by omega)) (xS sC h6 xc_56_3) dX8_stepLeads_20 ?_
          refine r_iload 4 C dX8_stepLeads_21 rfl ?_
          refine callVI C cwX8_103_V (ctX6_may_68 _ _ w5 (sS sC h6) o7 u2 ) (by decide) (kS sC h6 kc_68) rfl rfl rfl (Nat.le_of_ble_eq_true rfl) (by decide) dX8_stepLeads_23 (fun r17 w16 y15 => ?_)
          show V x 0 0 w16 26 [(0, .ref (gz (xG x) + 55)), (1, .int 3), (2, .int a2), (3, .int u1), (4, .int u2)] [.int r17]
          obtain ⟨h18, o19, g20⟩ := y15
          have h21 := Ch.tr h6 h18 (by decide) (by decide)
          refine r_if_eq 80 C dX8_stepLeads_26 (by decide) (fun c22 => ?_) (fun c22 => ?_)
          · have c22' := i_eq c22
            obtain ⟨i23, e24⟩ : ∃ z : Int32, u2 + Int32.ofInt 1 = z := ⟨_, rfl⟩
            have i23' := iinc_ok e24 (by decide) (by omega) (by omega)
            refine r_iinc [(4, .int i23), (0, .ref (gz (xG x) + 55)), (1, .int 3), (2, .int a2), (3, .int u1)] 4 C dX8_stepLeads_80 rfl e24 (by decide) rfl ?_
            refine r_goto 5 C dX8_stepLeads_83 (by decide) ?_
            refine r_lv [1, 2, 3, 4, 0] rfl ?_
            exact ih11 u1 i23 w16 h21 o19 (by omega) (by omega) (by omega)
          · have c22' := i_ne c22
            refine r_aload_n 0 C dX8_stepLeads_29 rfl ?_
            refine gfX8_11 56 C (kS sC h21 kc_55) (xS sC h21 xc_55_3) dX8_stepLeads_30 ?_
            refine r_iload_n 1 C dX8_stepLeads_33 rfl ?_
            refine r_iconst (v := 1) C dX8_stepLeads_34 (by decide) ?_
            refine r_iadd C dX8_stepLeads_35 (fun v25 e26 => ?_)
            have v25' := iadd_ok e26 (by omega) (by omega)
            rcases (show v25.toInt = 4 by omega) with c27
            · obtain rfl : v25 = 4 := i_of (by omega)
              refine r_aald 3 rfl C (kS sC h21 kc_56) (vin (by omega) (by omega)) (xS sC h21 xc_56_4) dX8_stepLeads_36 ?_
              refine r_aload_n 0 C dX8_stepLeads_37 rfl ?_
              refine gfX8_11 56 C (kS sC h21 kc_55) (xS sC h21 xc_55_3) dX8_stepLeads_38 ?_
              refine r_iload_n 1 C dX8_stepLeads_41 rfl ?_
              refine r_aald 3 rfl C (kS sC h21 kc_56) (vin (by omega) (by omega)) (xS sC h21 xc_56_3) dX8_stepLeads_42 ?_
              refine callVV C cwX8_53_V (ctX6_copy_71_68 _ _ w16 (sS sC h21) o19  ) (by decide) (kS sC h21 kc_71) rfl rfl rfl (Nat.le_of_ble_eq_true rfl) (by decide) dX8_stepLeads_43 (fun w29 y28 => ?_)
              show V x 0 0 w29 46 [(0, .ref (gz (xG x) + 55)), (1, .int 3), (2, .int a2), (3, .int u1), (4, .int u2)] []
              obtain ⟨h31, o32⟩ := y28
              have h33 := Ch.tr h21 h31 (by decide) (by decide)
              refine r_aload_n 0 C dX8_stepLeads_46 rfl ?_
              refine gfX8_11 56 C (kS sC h33 kc_55) (xS sC h33 xc_55_3) dX8_stepLeads_47 ?_
              refine r_iload_n 1 C dX8_stepLeads_50 rfl ?_
              refine r_iconst (v := 1) C dX8_stepLeads_51 (by decide) ?_
              refine r_iadd C dX8_stepLeads_52 (fun v34 e35 => ?_)
              have v34' := iadd_ok e35 (by omega) (by omega)
              rcases (show v34.toInt = 4 by omega) with c36
              · obtain rfl : v34 = 4 := i_of (by omega)
                refine r_aald 3 rfl C (kS sC h33 kc_56) (vin (by omega) (by omega)) (xS sC h33 xc_56_4) dX8_stepLeads_53 ?_
                refine r_iload 4 C dX8_stepLeads_54 rfl ?_
                refine r_aload_n 0 C dX8_stepLeads_56 rfl ?_
                refine gfX8_50 (v := (wI w 55 9)) C (kS sC h33 kc_55) (h31.I (by decide) (by decide) (h18.I (by decide) (by decide) (h6.I (by decide) (by decide) rfl))) dX8_stepLeads_57 ?_
                refine callVV C cwX8_107_V (ctX6_pass_71 _ _ w29 (sS sC h33) o32 u2 (wI w 55 9) ) (by decide) (kS sC h33 kc_71) rfl rfl rfl (Nat.le_of_ble_eq_true rfl) (by decide) dX8_stepLeads_60 (fun w38 y37 => ?_)
                show V x 0 0 w38 63 [(0, .ref (gz (xG x) + 55)), (1, .int 3), (2, .int a2), (3, .int u1), (4, .int u2)] []
                obtain ⟨h40, o41⟩ := y37
                have h42 := Ch.tr h33 h40 (by decide) (by decide)
                refine r_aload_n 0 C dX8_stepLeads_63 rfl ?_
                refine gfX8_17 57 C (kS sC h42 kc_55) (xS sC h42 xc_55_4) dX8_stepLeads_64 ?_
                refine r_iload_n 1 C dX8_stepLeads_67 rfl ?_
                refine r_iload 4 C dX8_stepLeads_68 rfl ?_
                refine r_iast C (kS sC h42 kc_57) (vin (by omega) (by omega)) dX8_stepLeads_70 (fun w43 e44 => ?_)
                have h45 := Ch.putS h42 e44 (by decide)
                have o46 := Inv.put0 o41 e44 (by decide)
                refine r_aload_n 0 C dX8_stepLeads_71 rfl ?_
                refine r_iload_n 1 C dX8_stepLeads_72 rfl ?_
                refine r_iconst (v := 1) C dX8_stepLeads_73 (by decide) ?_
                refine r_iadd C dX8_stepLeads_74 (fun v47 e48 => ?_)
                have v47' := iadd_ok e48 (by omega) (by omega)
                refine r_iload_n 2 C dX8_stepLeads_75 rfl ?_
                refine callVI C cwX8_65_V (ctX8_leads_55_d4 _ _ w43 (sS sC h45) o46 v47 a2 (by omega)) (by decide) (kS sC h45 kc_55) rfl rfl rfl (Nat.le_of_ble_eq_true rfl) (by decide) dX8_stepLeads_76 (fun r51 w50 y49 => ?_)
                show V x 0 0 w50 79 [(0, .ref (gz (xG x) + 55)), (1, .int 3), (2, .int a2), (3, .int u1), (4, .int u2)] [.int r51]
                obtain ⟨h52, o53, g54⟩ := y49
                have h55 := Ch.tr h45 h52 (by decide) (by decide)
                refine r_istore_n [(3, .int r51), (0, .ref (gz (xG x) + 55)), (1, .int 3), (2, .int a2), (4, .int u2)] C dX8_stepLeads_79 (by decide) rfl ?_
                obtain ⟨i56, e57⟩ : ∃ z : Int32, u2 + Int32.ofInt 1 = z := ⟨_, rfl⟩
                have i56' := iinc_ok e57 (by decide) (by omega) (by omega)
                refine r_iinc [(4, .int i56), (3, .int r51), (0, .ref (gz (xG x) + 55)), (1, .int 3), (2, .int a2)] 4 C dX8_stepLeads_80 rfl e57 (by decide) rfl ?_
                refine r_goto 5 C dX8_stepLeads_83 (by decide) ?_
                refine r_lv [2, 3, 4, 1, 0] rfl ?_
                exact ih11 r51 i56 w50 h55 o53 (by omega) (by omega) (by omega)
  refine r_iconst (v := 0) C dX8_stepLeads_0 (by decide) ?_
  refine r_istore_n [(3, .int 0), (0, .ref (gz (xG x) + 55)), (1, .int 3), (2, .int a2)] C dX8_stepLeads_1 (by decide) rfl ?_
  refine r_iconst (v := 0) C dX8_stepLeads_2 (by decide) ?_
  refine r_istore [(4, .int 0), (3, .int 0), (0, .ref (gz (xG x) + 55)), (1, .int 3), (2, .int a2)] C dX8_stepLeads_3 (by decide) rfl ?_
  refine r_lv [2, 3, 4, 1, 0] rfl ?_
  exact LP3 4294967296 0 0 w h0 o0 (by omega) (by omega) (by omega)
set_option maxHeartbeats 4000000 in
set_option maxRecDepth 100000 in
theorem ctX8_leads_55_d3 (l : Launch) (G : Gt) (w : Wv) (sC : Str KC XC w) (o0 : Inv RC w) (a1 : Int32) (a2 : Int32) (b1 : 3 ≤ a1.toInt ∧ a1.toInt ≤ 3) : CtI l G yX8_leads cX8_leads 10 .boolean ({ frames := 9, cells := 0, slots := 0, locals := 232 } : Room) [.ref (gz G + 55), .int a1, .int a2] w (fun r w' => Ch [25, 26, 27, 52, 53, 54, 57, 72, 73, 75, 76, 78, 79] [(71, 0), (71, 1), (74, 0), (74, 1), (77, 0), (77, 1)] w w' ∧ Inv RC w' ∧ ((0 ≤ r.toInt ∧ r.toInt ≤ 1))) := by
  refine enterI (by decide) (Nat.le_of_ble_eq_true rfl) ?_
  intro x el eG C hret
  subst el; subst eG
  obtain rfl : a1 = 3 := i_of (by have q : (3 : Int32).toInt = 3 := (by decide); omega)
  show V x 0 0 w 0 [(0, .ref (gz (xG x) + 55)), (1, .int 3), (2, .int a2)] []
  have h0 : Ch [25, 26, 27, 52, 53, 54, 57, 72, 73, 75, 76, 78, 79] [(71, 0), (71, 1), (74, 0), (74, 1), (77, 0), (77, 1)] w w := Ch.rf
  have q0 : (0 : Int32).toInt = 0 := by decide
  have q1 : (1 : Int32).toInt = 1 := by decide
  have q2 : (2 : Int32).toInt = 2 := by decide
  have q3 : (3 : Int32).toInt = 3 := by decide
  have q6 : (6 : Int32).toInt = 6 := by decide
  refine r_iload_n 1 C dX8_leads_0 rfl ?_
  refine r_if_lt 10 C dX8_leads_1 (by decide) (fun c1 => ?_) (fun c1 => ?_)
  · have c1' := i_lt c1
    exfalso; omega
  · have c1' := i_nlt c1
    refine r_iload_n 1 C dX8_leads_4 rfl ?_
    refine r_bipush (v := 6) C dX8_leads_5 (by decide) ?_
    refine r_icmp_le 12 C dX8_leads_7 (by decide) (fun c2 => ?_) (fun c2 => ?_)
    · have c2' := i_le c2
      refine r_aload_n 0 C dX8_leads_12 rfl ?_
      refine gfX8_11 56 C (kS sC h0 kc_55) (xS sC h0 xc_55_3) dX8_leads_13 ?_
      refine r_iload_n 1 C dX8_leads_16 rfl ?_
      refine r_aald 3 rfl C (kS sC h0 kc_56) (vin (by omega) (by omega)) (xS sC h0 xc_56_3) dX8_leads_17 ?_
      refine r_astore_n [(3, .ref (gz (xG x) + 68)), (0, .ref (gz (xG x) + 55)), (1, .int 3), (2, .int a2)] C dX8_leads_18 (by decide) rfl ?_
      refine r_iload_n 3 C dX8_leads_19 rfl ?_
      refine r_iload_n 2 C dX8_leads_20 rfl ?_
      refine r_isub C dX8_leads_21 (fun v3 e4 => ?_)
      refine r_istore [(4, .int v3), (3, .ref (gz (xG x) + 68)), (0, .ref (gz (xG x) + 55)), (1, .int 3), (2, .int a2)] C dX8_leads_22 (by decide) rfl ?_
      refine r_aload_n 2 C dX8_leads_24 rfl ?_
      refine r_aload_n 1 C dX8_leads_25 rfl ?_
      refine r_iload 0 C dX8_leads_26 rfl ?_
      refine callVI C cwX8_81_V (ctX8_outlook_55_68 _ _ w (sS sC h0) o0 v3 ) (by decide) (kS sC h0 kc_55) rfl rfl rfl (Nat.le_of_ble_eq_true rfl) (by decide) dX8_leads_28 (fun r7 w6 y5 => ?_)
      show V x 0 0 w6 31 [(4, .int v3), (3, .ref (gz (xG x) + 68)), (0, .ref (gz (xG x) + 55)), (1, .int 3), (2, .int a2)] [.int r7]
      obtain ⟨h8, o9⟩ := y5
      have h10 := Ch.tr h0 h8 (by decide) (by decide)
      refine r_istore [(5, .int r7), (4, .int v3), (3, .ref (gz (xG x) + 68)), (0, .ref (gz (xG x) + 55)), (1, .int 3), (2, .int a2)] C dX8_leads_31 (by decide) rfl ?_
      refine r_iload 0 C dX8_leads_33 rfl ?_
      refine r_iconst (v := 1) C dX8_leads_35 (by decide) ?_
      refine r_icmp_ne 50 C dX8_leads_36 (by decide) (fun c11 => ?_) (fun c11 => ?_)
      · have c11' := i_ne c11
        refine r_iload 0 C dX8_leads_50 rfl ?_
        refine r_iconst (v := 2) C dX8_leads_52 (by decide) ?_
        refine r_icmp_ne 60 C dX8_leads_53 (by decide) (fun c12 => ?_) (fun c12 => ?_)
        · have c12' := i_ne c12
          refine r_iconst (v := 0) C dX8_leads_60 (by decide) ?_
          exact hret _ _ _ _ dX8_leads_61 (nar_z (z_of (by omega))) ⟨h10, o9, by omega⟩
        · have c12' := i_eq c12
          refine r_iconst (v := 1) C dX8_leads_56 (by decide) ?_
          refine r_goto 61 C dX8_leads_57 (by decide) ?_
          exact hret _ _ _ _ dX8_leads_61 (nar_z (z_of (by omega))) ⟨h10, o9, by omega⟩
      · have c11' := i_eq c11
        refine r_iload 1 C dX8_leads_39 rfl ?_
        refine r_if_le 50 C dX8_leads_41 (by decide) (fun c13 => ?_) (fun c13 => ?_)
        · have c13' := i_le c13
          refine r_iload 0 C dX8_leads_50 rfl ?_
          refine r_iconst (v := 2) C dX8_leads_52 (by decide) ?_
          refine r_icmp_ne 60 C dX8_leads_53 (by decide) (fun c14 => ?_) (fun c14 => ?_)
          · have c14' := i_ne c14
            refine r_iconst (v := 0) C dX8_leads_60 (by decide) ?_
            exact hret _ _ _ _ dX8_leads_61 (nar_z (z_of (by omega))) ⟨h10, o9, by omega⟩
          · have c14' := i_eq c14
            exfalso; omega
        · have c13' := i_nle c13
          refine r_iload_n 4 C dX8_leads_44 rfl ?_
          refine r_bipush (v := 6) C dX8_leads_45 (by decide) ?_
          refine r_icmp_lt 62 C dX8_leads_47 (by decide) (fun c15 => ?_) (fun c15 => ?_)
          · have c15' := i_lt c15
            refine r_aload_n 2 C dX8_leads_62 rfl ?_
            refine callVL C cwX8_85_V (ctX6_places_68 _ _ w6 (sS sC h10) o9  ) (by decide) (kS sC h10 kc_68) rfl rfl rfl (Nat.le_of_ble_eq_true rfl) (by decide) dX8_leads_63 (fun r18 w17 y16 => ?_)
            show V x 0 0 w17 66 [(5, .int r7), (4, .int v3), (3, .ref (gz (xG x) + 68)), (0, .ref (gz (xG x) + 55)), (1, .int 3), (2, .int a2)] [.long r18]
            obtain ⟨h19, o20⟩ := y16
            have h21 := Ch.tr h10 h19 (by decide) (by decide)
            refine r_lstore [(6, .long r18), (5, .int r7), (4, .int v3), (3, .ref (gz (xG x) + 68)), (0, .ref (gz (xG x) + 55)), (1, .int 3), (2, .int a2)] C dX8_leads_66 (by decide) rfl ?_
            refine r_aload_n 3 C dX8_leads_68 rfl ?_
            refine callVL C cwX8_89_V (ctX6_goals_68 _ _ w17 (sS sC h21) o20  ) (by decide) (kS sC h21 kc_68) rfl rfl rfl (Nat.le_of_ble_eq_true rfl) (by decide) dX8_leads_69 (fun r24 w23 y22 => ?_)
            show V x 0 0 w23 72 [(6, .long r18), (5, .int r7), (4, .int v3), (3, .ref (gz (xG x) + 68)), (0, .ref (gz (xG x) + 55)), (1, .int 3), (2, .int a2)] [.long r24]
            obtain ⟨h25, o26⟩ := y22
            have h27 := Ch.tr h21 h25 (by decide) (by decide)
            refine r_lstore [(8, .long r24), (6, .long r18), (5, .int r7), (4, .int v3), (3, .ref (gz (xG x) + 68)), (0, .ref (gz (xG x) + 55)), (1, .int 3), (2, .int a2)] C dX8_leads_72 (by decide) rfl ?_
            refine r_aload_n 5 C dX8_leads_74 rfl ?_
            refine gfX8_32 51 C (kS sC h27 kc_55) (xS sC h27 xc_55_6) dX8_leads_75 ?_
            refine r_lload 1 C dX8_leads_78 rfl ?_
            refine r_lload 0 C dX8_leads_80 rfl ?_
            refine callVI C cwX8_92_V (ctX3_value_51 _ _ w23 (sS sC h27) o26 r18 r24 ) (by decide) (kS sC h27 kc_51) rfl rfl rfl (Nat.le_of_ble_eq_true rfl) (by decide) dX8_leads_82 (fun r30 w29 y28 => ?_)
            show V x 0 0 w29 85 [(8, .long r24), (6, .long r18), (5, .int r7), (4, .int v3), (3, .ref (gz (xG x) + 68)), (0, .ref (gz (xG x) + 55)), (1, .int 3), (2, .int a2)] [.int r30]
            obtain ⟨h31, o32⟩ := y28
            have h33 := Ch.tr h27 h31 (by decide) (by decide)
            refine r_iload 3 C dX8_leads_85 rfl ?_
            have k35 := i_rng r30
            have k36 := i_rng v3
            refine r_icmp_lt 92 C dX8_leads_87 (by decide) (fun c34 => ?_) (fun c34 => ?_)
            · have c34' := i_lt c34
              refine r_aload_n 5 C dX8_leads_92 rfl ?_
              refine r_iload_n 6 C dX8_leads_93 rfl ?_
              refine r_iload_n 7 C dX8_leads_94 rfl ?_
              refine callVI C cwX8_96_V (ctX8_stepLeads_55_d3 _ _ w29 (sS sC h33) o32 3 a2 (by omega)) (by decide) (kS sC h33 kc_55) rfl rfl rfl (Nat.le_of_ble_eq_true rfl) (by decide) dX8_leads_95 (fun r39 w38 y37 => ?_)
              show V x 0 0 w38 98 [(8, .long r24), (6, .long r18), (5, .int r7), (4, .int v3), (3, .ref (gz (xG x) + 68)), (0, .ref (gz (xG x) + 55)), (1, .int 3), (2, .int a2)] [.int r39]
              obtain ⟨h40, o41, g42⟩ := y37
              have h43 := Ch.tr h33 h40 (by decide) (by decide)
              refine r_if_eq 103 C dX8_leads_98 (by decide) (fun c44 => ?_) (fun c44 => ?_)
              · have c44' := i_eq c44
                refine r_aload_n 5 C dX8_leads_103 rfl ?_
                refine gfX8_32 51 C (kS sC h43 kc_55) (xS sC h43 xc_55_6) dX8_leads_104 ?_
                refine r_lload 1 C dX8_leads_107 rfl ?_
                refine r_lload 0 C dX8_leads_109 rfl ?_
                refine r_iload 3 C dX8_leads_111 rfl ?_
                refine callVV C cwX8_99_V (ctX3_put_51 _ _ w38 (sS sC h43) o41 r18 r24 v3 ) (by decide) (kS sC h43 kc_51) rfl rfl rfl (Nat.le_of_ble_eq_true rfl) (by decide) dX8_leads_113 (fun w46 y45 => ?_)
                show V x 0 0 w46 116 [(8, .long r24), (6, .long r18), (5, .int r7), (4, .int v3), (3, .ref (gz (xG x) + 68)), (0, .ref (gz (xG x) + 55)), (1, .int 3), (2, .int a2)] []
                obtain ⟨h48, o49⟩ := y45
                have h50 := Ch.tr h43 h48 (by decide) (by decide)
                refine r_iconst (v := 0) C dX8_leads_116 (by decide) ?_
                exact hret _ _ _ _ dX8_leads_117 (nar_z (z_of (by omega))) ⟨h50, o49, by omega⟩
              · have c44' := i_ne c44
                refine r_iconst (v := 1) C dX8_leads_101 (by decide) ?_
                exact hret _ _ _ _ dX8_leads_102 (nar_z (z_of (by omega))) ⟨h43, o41, by omega⟩
            · have c34' := i_nlt c34
              refine r_iconst (v := 0) C dX8_leads_90 (by decide) ?_
              exact hret _ _ _ _ dX8_leads_91 (nar_z (z_of (by omega))) ⟨h33, o32, by omega⟩
          · have c15' := i_nlt c15
            exfalso; omega
    · have c2' := i_nle c2
      exfalso; omega
set_option maxHeartbeats 4000000 in
set_option maxRecDepth 100000 in
theorem ctX8_stepLeads_55_d2 (l : Launch) (G : Gt) (w : Wv) (sC : Str KC XC w) (o0 : Inv RC w) (a1 : Int32) (a2 : Int32) (b1 : 2 ≤ a1.toInt ∧ a1.toInt ≤ 2) : CtI l G yX8_stepLeads cX8_stepLeads 5 .boolean ({ frames := 10, cells := 0, slots := 0, locals := 261 } : Room) [.ref (gz G + 55), .int a1, .int a2] w (fun r w' => Ch [25, 26, 27, 52, 53, 54, 57, 69, 70, 72, 73, 75, 76, 78, 79] [(68, 0), (68, 1), (71, 0), (71, 1), (74, 0), (74, 1), (77, 0), (77, 1)] w w' ∧ Inv RC w' ∧ ((0 ≤ r.toInt ∧ r.toInt ≤ 1))) := by
  refine enterI (by decide) (Nat.le_of_ble_eq_true rfl) ?_
  intro x el eG C hret
  subst el; subst eG
  obtain rfl : a1 = 2 := i_of (by have q : (2 : Int32).toInt = 2 := (by decide); omega)
  show V x 0 0 w 0 [(0, .ref (gz (xG x) + 55)), (1, .int 2), (2, .int a2)] []
  have h0 : Ch [25, 26, 27, 52, 53, 54, 57, 69, 70, 72, 73, 75, 76, 78, 79] [(68, 0), (68, 1), (71, 0), (71, 1), (74, 0), (74, 1), (77, 0), (77, 1)] w w := Ch.rf
  have q0 : (0 : Int32).toInt = 0 := by decide
  have q1 : (1 : Int32).toInt = 1 := by decide
  have q2 : (2 : Int32).toInt = 2 := by decide
  have q3 : (3 : Int32).toInt = 3 := by decide
  have q4 : (4 : Int32).toInt = 4 := by decide
  have LP3 : ∀ (f4 : Nat) (u1 : Int32) (u2 : Int32) (w5 : Wv), Ch [25, 26, 27, 52, 53, 54, 57, 69, 70, 72, 73, 75, 76, 78, 79] [(68, 0), (68, 1), (71, 0), (71, 1), (74, 0), (74, 1), (77, 0), (77, 1)] w w5 → Inv RC w5 → (0 ≤ u1.toInt ∧ u1.toInt ≤ 1) → (0 ≤ u2.toInt ∧ u2.toInt ≤ 2147483647) → 2147483647 - u2.toInt < f4 → V x 0 0 w5 5 [(0, .ref (gz (xG x) + 55)), (1, .int 2), (2, .int a2), (3, .int u1), (4, .int u2)] [] := by
    intro f4
    induction f4 with
    | zero => intro u1 u2 w5 h6 o7 z8 z9 z10; exfalso; omega
    | succ f4 ih11 =>
      intro u1 u2 w5 h6 o7 z8 z9 z10
      refine r_iload 4 C dX8_stepLeads_5 rfl ?_
      refine r_iconst (v := 4) C dX8_stepLeads_7 (by decide) ?_
      have k13 := i_rng u2
      refine r_icmp_gt 86 C dX8_stepLeads_8 (by decide) (fun c12 => ?_) (fun c12 => ?_)
      · have c12' := i_lt c12
        refine r_iload_n 3 C dX8_stepLeads_86 rfl ?_
        exact hret _ _ _ _ dX8_stepLeads_87 (nar_z (z_of (by omega))) ⟨h6, o7, by omega⟩
      · have c12' := i_nlt c12
        refine r_iload_n 3 C dX8_stepLeads_11 rfl ?_
        refine r_if_ne 86 C dX8_stepLeads_12 (by decide) (fun c14 => ?_) (fun c14 => ?_)
        · have c14' := i_ne c14
          refine r_iload_n 3 C dX8_stepLeads_86 rfl ?_
          exact hret _ _ _ _ dX8_stepLeads_87 (nar_z (z_of (by omega))) ⟨h6, o7, by omega⟩
        · have c14' := i_eq c14
          refine r_aload_n 0 C dX8_stepLeads_15 rfl ?_
          refine gfX8_11 56 C (kS sC h6 kc_55) (xS sC h6 xc_55_3) dX8_stepLeads_16 ?_
          refine r_iload_n 1 C dX8_stepLeads_19 rfl ?_
          refine r_aald 3 rfl C (kS sC h6 kc_56) (vin (by omega) (by omega)) (xS sC h6 xc_56_2) dX8_stepLeads_20 ?_
          refine r_iload 4 C dX8_stepLeads_21 rfl ?_
          refine callVI C cwX8_103_V (ctX6_may_65 _ _ w5 (sS sC h6) o7 u2 ) (by decide) (kS sC h6 kc_65) rfl rfl rfl (Nat.le_of_ble_eq_true rfl) (by decide) dX8_stepLeads_23 (fun r17 w16 y15 => ?_)
          show V x 0 0 w16 26 [(0, .ref (gz (xG x) + 55)), (1, .int 2), (2, .int a2), (3, .int u1), (4, .int u2)] [.int r17]
          obtain ⟨h18, o19, g20⟩ := y15
          have h21 := Ch.tr h6 h18 (by decide) (by decide)
          refine r_if_eq 80 C dX8_stepLeads_26 (by decide) (fun c22 => ?_) (fun c22 => ?_)
          · have c22' := i_eq c22
            obtain ⟨i23, e24⟩ : ∃ z : Int32, u2 + Int32.ofInt 1 = z := ⟨_, rfl⟩
            have i23' := iinc_ok e24 (by decide) (by omega) (by omega)
            refine r_iinc [(4, .int i23), (0, .ref (gz (xG x) + 55)), (1, .int 2), (2, .int a2), (3, .int u1)] 4 C dX8_stepLeads_80 rfl e24 (by decide) rfl ?_
            refine r_goto 5 C dX8_stepLeads_83 (by decide) ?_
            refine r_lv [1, 2, 3, 4, 0] rfl ?_
            exact ih11 u1 i23 w16 h21 o19 (by omega) (by omega) (by omega)
          · have c22' := i_ne c22
            refine r_aload_n 0 C dX8_stepLeads_29 rfl ?_
            refine gfX8_11 56 C (kS sC h21 kc_55) (xS sC h21 xc_55_3) dX8_stepLeads_30 ?_
            refine r_iload_n 1 C dX8_stepLeads_33 rfl ?_
            refine r_iconst (v := 1) C dX8_stepLeads_34 (by decide) ?_
            refine r_iadd C dX8_stepLeads_35 (fun v25 e26 => ?_)
            have v25' := iadd_ok e26 (by omega) (by omega)
            rcases (show v25.toInt = 3 by omega) with c27
            · obtain rfl : v25 = 3 := i_of (by omega)
              refine r_aald 3 rfl C (kS sC h21 kc_56) (vin (by omega) (by omega)) (xS sC h21 xc_56_3) dX8_stepLeads_36 ?_
              refine r_aload_n 0 C dX8_stepLeads_37 rfl ?_
              refine gfX8_11 56 C (kS sC h21 kc_55) (xS sC h21 xc_55_3) dX8_stepLeads_38 ?_
              refine r_iload_n 1 C dX8_stepLeads_41 rfl ?_
              refine r_aald 3 rfl C (kS sC h21 kc_56) (vin (by omega) (by omega)) (xS sC h21 xc_56_2) dX8_stepLeads_42 ?_
              refine callVV C cwX8_53_V (ctX6_copy_68_65 _ _ w16 (sS sC h21) o19  ) (by decide) (kS sC h21 kc_68) rfl rfl rfl (Nat.le_of_ble_eq_true rfl) (by decide) dX8_stepLeads_43 (fun w29 y28 => ?_)
              show V x 0 0 w29 46 [(0, .ref (gz (xG x) + 55)), (1, .int 2), (2, .int a2), (3, .int u1), (4, .int u2)] []
              obtain ⟨h31, o32⟩ := y28
              have h33 := Ch.tr h21 h31 (by decide) (by decide)
              refine r_aload_n 0 C dX8_stepLeads_46 rfl ?_
              refine gfX8_11 56 C (kS sC h33 kc_55) (xS sC h33 xc_55_3) dX8_stepLeads_47 ?_
              refine r_iload_n 1 C dX8_stepLeads_50 rfl ?_
              refine r_iconst (v := 1) C dX8_stepLeads_51 (by decide) ?_
              refine r_iadd C dX8_stepLeads_52 (fun v34 e35 => ?_)
              have v34' := iadd_ok e35 (by omega) (by omega)
              rcases (show v34.toInt = 3 by omega) with c36
              · obtain rfl : v34 = 3 := i_of (by omega)
                refine r_aald 3 rfl C (kS sC h33 kc_56) (vin (by omega) (by omega)) (xS sC h33 xc_56_3) dX8_stepLeads_53 ?_
                refine r_iload 4 C dX8_stepLeads_54 rfl ?_
                refine r_aload_n 0 C dX8_stepLeads_56 rfl ?_
                refine gfX8_50 (v := (wI w 55 9)) C (kS sC h33 kc_55) (h31.I (by decide) (by decide) (h18.I (by decide) (by decide) (h6.I (by decide) (by decide) rfl))) dX8_stepLeads_57 ?_
                refine callVV C cwX8_107_V (ctX6_pass_68 _ _ w29 (sS sC h33) o32 u2 (wI w 55 9) ) (by decide) (kS sC h33 kc_68) rfl rfl rfl (Nat.le_of_ble_eq_true rfl) (by decide) dX8_stepLeads_60 (fun w38 y37 => ?_)
                show V x 0 0 w38 63 [(0, .ref (gz (xG x) + 55)), (1, .int 2), (2, .int a2), (3, .int u1), (4, .int u2)] []
                obtain ⟨h40, o41⟩ := y37
                have h42 := Ch.tr h33 h40 (by decide) (by decide)
                refine r_aload_n 0 C dX8_stepLeads_63 rfl ?_
                refine gfX8_17 57 C (kS sC h42 kc_55) (xS sC h42 xc_55_4) dX8_stepLeads_64 ?_
                refine r_iload_n 1 C dX8_stepLeads_67 rfl ?_
                refine r_iload 4 C dX8_stepLeads_68 rfl ?_
                refine r_iast C (kS sC h42 kc_57) (vin (by omega) (by omega)) dX8_stepLeads_70 (fun w43 e44 => ?_)
                have h45 := Ch.putS h42 e44 (by decide)
                have o46 := Inv.put0 o41 e44 (by decide)
                refine r_aload_n 0 C dX8_stepLeads_71 rfl ?_
                refine r_iload_n 1 C dX8_stepLeads_72 rfl ?_
                refine r_iconst (v := 1) C dX8_stepLeads_73 (by decide) ?_
                refine r_iadd C dX8_stepLeads_74 (fun v47 e48 => ?_)
                have v47' := iadd_ok e48 (by omega) (by omega)
                refine r_iload_n 2 C dX8_stepLeads_75 rfl ?_
                refine callVI C cwX8_65_V (ctX8_leads_55_d3 _ _ w43 (sS sC h45) o46 v47 a2 (by omega)) (by decide) (kS sC h45 kc_55) rfl rfl rfl (Nat.le_of_ble_eq_true rfl) (by decide) dX8_stepLeads_76 (fun r51 w50 y49 => ?_)
                show V x 0 0 w50 79 [(0, .ref (gz (xG x) + 55)), (1, .int 2), (2, .int a2), (3, .int u1), (4, .int u2)] [.int r51]
                obtain ⟨h52, o53, g54⟩ := y49
                have h55 := Ch.tr h45 h52 (by decide) (by decide)
                refine r_istore_n [(3, .int r51), (0, .ref (gz (xG x) + 55)), (1, .int 2), (2, .int a2), (4, .int u2)] C dX8_stepLeads_79 (by decide) rfl ?_
                obtain ⟨i56, e57⟩ : ∃ z : Int32, u2 + Int32.ofInt 1 = z := ⟨_, rfl⟩
                have i56' := iinc_ok e57 (by decide) (by omega) (by omega)
                refine r_iinc [(4, .int i56), (3, .int r51), (0, .ref (gz (xG x) + 55)), (1, .int 2), (2, .int a2)] 4 C dX8_stepLeads_80 rfl e57 (by decide) rfl ?_
                refine r_goto 5 C dX8_stepLeads_83 (by decide) ?_
                refine r_lv [2, 3, 4, 1, 0] rfl ?_
                exact ih11 r51 i56 w50 h55 o53 (by omega) (by omega) (by omega)
  refine r_iconst (v := 0) C dX8_stepLeads_0 (by decide) ?_
  refine r_istore_n [(3, .int 0), (0, .ref (gz (xG x) + 55)), (1, .int 2), (2, .int a2)] C dX8_stepLeads_1 (by decide) rfl ?_
  refine r_iconst (v := 0) C dX8_stepLeads_2 (by decide) ?_
  refine r_istore [(4, .int 0), (3, .int 0), (0, .ref (gz (xG x) + 55)), (1, .int 2), (2, .int a2)] C dX8_stepLeads_3 (by decide) rfl ?_
  refine r_lv [2, 3, 4, 1, 0] rfl ?_
  exact LP3 4294967296 0 0 w h0 o0 (by omega) (by omega) (by omega)
set_option maxHeartbeats 4000000 in
set_option maxRecDepth 100000 in
theorem ctX8_leads_55_d2 (l : Launch) (G : Gt) (w : Wv) (sC : Str KC XC w) (o0 : Inv RC w) (a1 : Int32) (a2 : Int32) (b1 : 2 ≤ a1.toInt ∧ a1.toInt ≤ 2) : CtI l G yX8_leads cX8_leads 10 .boolean ({ frames := 11, cells := 0, slots := 0, locals := 285 } : Room) [.ref (gz G + 55), .int a1, .int a2] w (fun r w' => Ch [25, 26, 27, 52, 53, 54, 57, 69, 70, 72, 73, 75, 76, 78, 79] [(68, 0), (68, 1), (71, 0), (71, 1), (74, 0), (74, 1), (77, 0), (77, 1)] w w' ∧ Inv RC w' ∧ ((0 ≤ r.toInt ∧ r.toInt ≤ 1))) := by
  refine enterI (by decide) (Nat.le_of_ble_eq_true rfl) ?_
  intro x el eG C hret
  subst el; subst eG
  obtain rfl : a1 = 2 := i_of (by have q : (2 : Int32).toInt = 2 := (by decide); omega)
  show V x 0 0 w 0 [(0, .ref (gz (xG x) + 55)), (1, .int 2), (2, .int a2)] []
  have h0 : Ch [25, 26, 27, 52, 53, 54, 57, 69, 70, 72, 73, 75, 76, 78, 79] [(68, 0), (68, 1), (71, 0), (71, 1), (74, 0), (74, 1), (77, 0), (77, 1)] w w := Ch.rf
  have q0 : (0 : Int32).toInt = 0 := by decide
  have q1 : (1 : Int32).toInt = 1 := by decide
  have q2 : (2 : Int32).toInt = 2 := by decide
  have q6 : (6 : Int32).toInt = 6 := by decide
  refine r_iload_n 1 C dX8_leads_0 rfl ?_
  refine r_if_lt 10 C dX8_leads_1 (by decide) (fun c1 => ?_) (fun c1 => ?_)
  · have c1' := i_lt c1
    exfalso; omega
  · have c1' := i_nlt c1
    refine r_iload_n 1 C dX8_leads_4 rfl ?_
    refine r_bipush (v := 6) C dX8_leads_5 (by decide) ?_
    refine r_icmp_le 12 C dX8_leads_7 (by decide) (fun c2 => ?_) (fun c2 => ?_)
    · have c2' := i_le c2
      refine r_aload_n 0 C dX8_leads_12 rfl ?_
      refine gfX8_11 56 C (kS sC h0 kc_55) (xS sC h0 xc_55_3) dX8_leads_13 ?_
      refine r_iload_n 1 C dX8_leads_16 rfl ?_
      refine r_aald 3 rfl C (kS sC h0 kc_56) (vin (by omega) (by omega)) (xS sC h0 xc_56_2) dX8_leads_17 ?_
      refine r_astore_n [(3, .ref (gz (xG x) + 65)), (0, .ref (gz (xG x) + 55)), (1, .int 2), (2, .int a2)] C dX8_leads_18 (by decide) rfl ?_
      refine r_iload_n 3 C dX8_leads_19 rfl ?_
      refine r_iload_n 2 C dX8_leads_20 rfl ?_
      refine r_isub C dX8_leads_21 (fun v3 e4 => ?_)
      refine r_istore [(4, .int v3), (3, .ref (gz (xG x) + 65)), (0, .ref (gz (xG x) + 55)), (1, .int 2), (2, .int a2)] C dX8_leads_22 (by decide) rfl ?_
      refine r_aload_n 2 C dX8_leads_24 rfl ?_
      refine r_aload_n 1 C dX8_leads_25 rfl ?_
      refine r_iload 0 C dX8_leads_26 rfl ?_
      refine callVI C cwX8_81_V (ctX8_outlook_55_65 _ _ w (sS sC h0) o0 v3 ) (by decide) (kS sC h0 kc_55) rfl rfl rfl (Nat.le_of_ble_eq_true rfl) (by decide) dX8_leads_28 (fun r7 w6 y5 => ?_)
      show V x 0 0 w6 31 [(4, .int v3), (3, .ref (gz (xG x) + 65)), (0, .ref (gz (xG x) + 55)), (1, .int 2), (2, .int a2)] [.int r7]
      obtain ⟨h8, o9⟩ := y5
      have h10 := Ch.tr h0 h8 (by decide) (by decide)
      refine r_istore [(5, .int r7), (4, .int v3), (3, .ref (gz (xG x) + 65)), (0, .ref (gz (xG x) + 55)), (1, .int 2), (2, .int a2)] C dX8_leads_31 (by decide) rfl ?_
      refine r_iload 0 C dX8_leads_33 rfl ?_
      refine r_iconst (v := 1) C dX8_leads_35 (by decide) ?_
      refine r_icmp_ne 50 C dX8_leads_36 (by decide) (fun c11 => ?_) (fun c11 => ?_)
      · have c11' := i_ne c11
        refine r_iload 0 C dX8_leads_50 rfl ?_
        refine r_iconst (v := 2) C dX8_leads_52 (by decide) ?_
        refine r_icmp_ne 60 C dX8_leads_53 (by decide) (fun c12 => ?_) (fun c12 => ?_)
        · have c12' := i_ne c12
          refine r_iconst (v := 0) C dX8_leads_60 (by decide) ?_
          exact hret _ _ _ _ dX8_leads_61 (nar_z (z_of (by omega))) ⟨h10, o9, by omega⟩
        · have c12' := i_eq c12
          refine r_iconst (v := 1) C dX8_leads_56 (by decide) ?_
          refine r_goto 61 C dX8_leads_57 (by decide) ?_
          exact hret _ _ _ _ dX8_leads_61 (nar_z (z_of (by omega))) ⟨h10, o9, by omega⟩
      · have c11' := i_eq c11
        refine r_iload 1 C dX8_leads_39 rfl ?_
        refine r_if_le 50 C dX8_leads_41 (by decide) (fun c13 => ?_) (fun c13 => ?_)
        · have c13' := i_le c13
          refine r_iload 0 C dX8_leads_50 rfl ?_
          refine r_iconst (v := 2) C dX8_leads_52 (by decide) ?_
          refine r_icmp_ne 60 C dX8_leads_53 (by decide) (fun c14 => ?_) (fun c14 => ?_)
          · have c14' := i_ne c14
            refine r_iconst (v := 0) C dX8_leads_60 (by decide) ?_
            exact hret _ _ _ _ dX8_leads_61 (nar_z (z_of (by omega))) ⟨h10, o9, by omega⟩
          · have c14' := i_eq c14
            exfalso; omega
        · have c13' := i_nle c13
          refine r_iload_n 4 C dX8_leads_44 rfl ?_
          refine r_bipush (v := 6) C dX8_leads_45 (by decide) ?_
          refine r_icmp_lt 62 C dX8_leads_47 (by decide) (fun c15 => ?_) (fun c15 => ?_)
          · have c15' := i_lt c15
            refine r_aload_n 2 C dX8_leads_62 rfl ?_
            refine callVL C cwX8_85_V (ctX6_places_65 _ _ w6 (sS sC h10) o9  ) (by decide) (kS sC h10 kc_65) rfl rfl rfl (Nat.le_of_ble_eq_true rfl) (by decide) dX8_leads_63 (fun r18 w17 y16 => ?_)
            show V x 0 0 w17 66 [(5, .int r7), (4, .int v3), (3, .ref (gz (xG x) + 65)), (0, .ref (gz (xG x) + 55)), (1, .int 2), (2, .int a2)] [.long r18]
            obtain ⟨h19, o20⟩ := y16
            have h21 := Ch.tr h10 h19 (by decide) (by decide)
            refine r_lstore [(6, .long r18), (5, .int r7), (4, .int v3), (3, .ref (gz (xG x) + 65)), (0, .ref (gz (xG x) + 55)), (1, .int 2), (2, .int a2)] C dX8_leads_66 (by decide) rfl ?_
            refine r_aload_n 3 C dX8_leads_68 rfl ?_
            refine callVL C cwX8_89_V (ctX6_goals_65 _ _ w17 (sS sC h21) o20  ) (by decide) (kS sC h21 kc_65) rfl rfl rfl (Nat.le_of_ble_eq_true rfl) (by decide) dX8_leads_69 (fun r24 w23 y22 => ?_)
            show V x 0 0 w23 72 [(6, .long r18), (5, .int r7), (4, .int v3), (3, .ref (gz (xG x) + 65)), (0, .ref (gz (xG x) + 55)), (1, .int 2), (2, .int a2)] [.long r24]
            obtain ⟨h25, o26⟩ := y22
            have h27 := Ch.tr h21 h25 (by decide) (by decide)
            refine r_lstore [(8, .long r24), (6, .long r18), (5, .int r7), (4, .int v3), (3, .ref (gz (xG x) + 65)), (0, .ref (gz (xG x) + 55)), (1, .int 2), (2, .int a2)] C dX8_leads_72 (by decide) rfl ?_
            refine r_aload_n 5 C dX8_leads_74 rfl ?_
            refine gfX8_32 51 C (kS sC h27 kc_55) (xS sC h27 xc_55_6) dX8_leads_75 ?_
            refine r_lload 1 C dX8_leads_78 rfl ?_
            refine r_lload 0 C dX8_leads_80 rfl ?_
            refine callVI C cwX8_92_V (ctX3_value_51 _ _ w23 (sS sC h27) o26 r18 r24 ) (by decide) (kS sC h27 kc_51) rfl rfl rfl (Nat.le_of_ble_eq_true rfl) (by decide) dX8_leads_82 (fun r30 w29 y28 => ?_)
            show V x 0 0 w29 85 [(8, .long r24), (6, .long r18), (5, .int r7), (4, .int v3), (3, .ref (gz (xG x) + 65)), (0, .ref (gz (xG x) + 55)), (1, .int 2), (2, .int a2)] [.int r30]
            obtain ⟨h31, o32⟩ := y28
            have h33 := Ch.tr h27 h31 (by decide) (by decide)
            refine r_iload 3 C dX8_leads_85 rfl ?_
            have k35 := i_rng r30
            have k36 := i_rng v3
            refine r_icmp_lt 92 C dX8_leads_87 (by decide) (fun c34 => ?_) (fun c34 => ?_)
            · have c34' := i_lt c34
              refine r_aload_n 5 C dX8_leads_92 rfl ?_
              refine r_iload_n 6 C dX8_leads_93 rfl ?_
              refine r_iload_n 7 C dX8_leads_94 rfl ?_
              refine callVI C cwX8_96_V (ctX8_stepLeads_55_d2 _ _ w29 (sS sC h33) o32 2 a2 (by omega)) (by decide) (kS sC h33 kc_55) rfl rfl rfl (Nat.le_of_ble_eq_true rfl) (by decide) dX8_leads_95 (fun r39 w38 y37 => ?_)
              show V x 0 0 w38 98 [(8, .long r24), (6, .long r18), (5, .int r7), (4, .int v3), (3, .ref (gz (xG x) + 65)), (0, .ref (gz (xG x) + 55)), (1, .int 2), (2, .int a2)] [.int r39]
              obtain ⟨h40, o41, g42⟩ := y37
              have h43 := Ch.tr h33 h40 (by decide) (by decide)
              refine r_if_eq 103 C dX8_leads_98 (by decide) (fun c44 => ?_) (fun c44 => ?_)
              · have c44' := i_eq c44
                refine r_aload_n 5 C dX8_leads_103 rfl ?_
                refine gfX8_32 51 C (kS sC h43 kc_55) (xS sC h43 xc_55_6) dX8_leads_104 ?_
                refine r_lload 1 C dX8_leads_107 rfl ?_
                refine r_lload 0 C dX8_leads_109 rfl ?_
                refine r_iload 3 C dX8_leads_111 rfl ?_
                refine callVV C cwX8_99_V (ctX3_put_51 _ _ w38 (sS sC h43) o41 r18 r24 v3 ) (by decide) (kS sC h43 kc_51) rfl rfl rfl (Nat.le_of_ble_eq_true rfl) (by decide) dX8_leads_113 (fun w46 y45 => ?_)
                show V x 0 0 w46 116 [(8, .long r24), (6, .long r18), (5, .int r7), (4, .int v3), (3, .ref (gz (xG x) + 65)), (0, .ref (gz (xG x) + 55)), (1, .int 2), (2, .int a2)] []
                obtain ⟨h48, o49⟩ := y45
                have h50 := Ch.tr h43 h48 (by decide) (by decide)
                refine r_iconst (v := 0) C dX8_leads_116 (by decide) ?_
                exact hret _ _ _ _ dX8_leads_117 (nar_z (z_of (by omega))) ⟨h50, o49, by omega⟩
              · have c44' := i_ne c44
                refine r_iconst (v := 1) C dX8_leads_101 (by decide) ?_
                exact hret _ _ _ _ dX8_leads_102 (nar_z (z_of (by omega))) ⟨h43, o41, by omega⟩
            · have c34' := i_nlt c34
              refine r_iconst (v := 0) C dX8_leads_90 (by decide) ?_
              exact hret _ _ _ _ dX8_leads_91 (nar_z (z_of (by omega))) ⟨h33, o32, by omega⟩
          · have c15' := i_nlt c15
            exfalso; omega
    · have c2' := i_nle c2
      exfalso; omega
set_option maxHeartbeats 4000000 in
set_option maxRecDepth 100000 in
theorem ctX8_stepLeads_55_d1 (l : Launch) (G : Gt) (w : Wv) (sC : Str KC XC w) (o0 : Inv RC w) (a1 : Int32) (a2 : Int32) (b1 : 1 ≤ a1.toInt ∧ a1.toInt ≤ 1) : CtI l G yX8_stepLeads cX8_stepLeads 5 .boolean ({ frames := 12, cells := 0, slots := 0, locals := 314 } : Room) [.ref (gz G + 55), .int a1, .int a2] w (fun r w' => Ch [25, 26, 27, 52, 53, 54, 57, 66, 67, 69, 70, 72, 73, 75, 76, 78, 79] [(65, 0), (65, 1), (68, 0), (68, 1), (71, 0), (71, 1), (74, 0), (74, 1), (77, 0), (77, 1)] w w' ∧ Inv RC w' ∧ ((0 ≤ r.toInt ∧ r.toInt ≤ 1))) := by
  refine enterI (by decide) (Nat.le_of_ble_eq_true rfl) ?_
  intro x el eG C hret
  subst el; subst eG
  obtain rfl : a1 = 1 := i_of (by have q : (1 : Int32).toInt = 1 := (by decide); omega)
  show V x 0 0 w 0 [(0, .ref (gz (xG x) + 55)), (1, .int 1), (2, .int a2)] []
  have h0 : Ch [25, 26, 27, 52, 53, 54, 57, 66, 67, 69, 70, 72, 73, 75, 76, 78, 79] [(65, 0), (65, 1), (68, 0), (68, 1), (71, 0), (71, 1), (74, 0), (74, 1), (77, 0), (77, 1)] w w := Ch.rf
  have q0 : (0 : Int32).toInt = 0 := by decide
  have q1 : (1 : Int32).toInt = 1 := by decide
  have q2 : (2 : Int32).toInt = 2 := by decide
  have q4 : (4 : Int32).toInt = 4 := by decide
  have LP3 : ∀ (f4 : Nat) (u1 : Int32) (u2 : Int32) (w5 : Wv), Ch [25, 26, 27, 52, 53, 54, 57, 66, 67, 69, 70, 72, 73, 75, 76, 78, 79] [(65, 0), (65, 1), (68, 0), (68, 1), (71, 0), (71, 1), (74, 0), (74, 1), (77, 0), (77, 1)] w w5 → Inv RC w5 → (0 ≤ u1.toInt ∧ u1.toInt ≤ 1) → (0 ≤ u2.toInt ∧ u2.toInt ≤ 2147483647) → 2147483647 - u2.toInt < f4 → V x 0 0 w5 5 [(0, .ref (gz (xG x) + 55)), (1, .int 1), (2, .int a2), (3, .int u1), (4, .int u2)] [] := by
    intro f4
    induction f4 with
    | zero => intro u1 u2 w5 h6 o7 z8 z9 z10; exfalso; omega
    | succ f4 ih11 =>
      intro u1 u2 w5 h6 o7 z8 z9 z10
      refine r_iload 4 C dX8_stepLeads_5 rfl ?_
      refine r_iconst (v := 4) C dX8_stepLeads_7 (by decide) ?_
      have k13 := i_rng u2
      refine r_icmp_gt 86 C dX8_stepLeads_8 (by decide) (fun c12 => ?_) (fun c12 => ?_)
      · have c12' := i_lt c12
        refine r_iload_n 3 C dX8_stepLeads_86 rfl ?_
        exact hret _ _ _ _ dX8_stepLeads_87 (nar_z (z_of (by omega))) ⟨h6, o7, by omega⟩
      · have c12' := i_nlt c12
        refine r_iload_n 3 C dX8_stepLeads_11 rfl ?_
        refine r_if_ne 86 C dX8_stepLeads_12 (by decide) (fun c14 => ?_) (fun c14 => ?_)
        · have c14' := i_ne c14
          refine r_iload_n 3 C dX8_stepLeads_86 rfl ?_
          exact hret _ _ _ _ dX8_stepLeads_87 (nar_z (z_of (by omega))) ⟨h6, o7, by omega⟩
        · have c14' := i_eq c14
          refine r_aload_n 0 C dX8_stepLeads_15 rfl ?_
          refine gfX8_11 56 C (kS sC h6 kc_55) (xS sC h6 xc_55_3) dX8_stepLeads_16 ?_
          refine r_iload_n 1 C dX8_stepLeads_19 rfl ?_
          refine r_aald 3 rfl C (kS sC h6 kc_56) (vin (by omega) (by omega)) (xS sC h6 xc_56_1) dX8_stepLeads_20 ?_
          refine r_iload 4 C dX8_stepLeads_21 rfl ?_
          refine callVI C cwX8_103_V (ctX6_may_62 _ _ w5 (sS sC h6) o7 u2 ) (by decide) (kS sC h6 kc_62) rfl rfl rfl (Nat.le_of_ble_eq_true rfl) (by decide) dX8_stepLeads_23 (fun r17 w16 y15 => ?_)
          show V x 0 0 w16 26 [(0, .ref (gz (xG x) + 55)), (1, .int 1), (2, .int a2), (3, .int u1), (4, .int u2)] [.int r17]
          obtain ⟨h18, o19, g20⟩ := y15
          have h21 := Ch.tr h6 h18 (by decide) (by decide)
          refine r_if_eq 80 C dX8_stepLeads_26 (by decide) (fun c22 => ?_) (fun c22 => ?_)
          · have c22' := i_eq c22
            obtain ⟨i23, e24⟩ : ∃ z : Int32, u2 + Int32.ofInt 1 = z := ⟨_, rfl⟩
            have i23' := iinc_ok e24 (by decide) (by omega) (by omega)
            refine r_iinc [(4, .int i23), (0, .ref (gz (xG x) + 55)), (1, .int 1), (2, .int a2), (3, .int u1)] 4 C dX8_stepLeads_80 rfl e24 (by decide) rfl ?_
            refine r_goto 5 C dX8_stepLeads_83 (by decide) ?_
            refine r_lv [1, 2, 3, 4, 0] rfl ?_
            exact ih11 u1 i23 w16 h21 o19 (by omega) (by omega) (by omega)
          · have c22' := i_ne c22
            refine r_aload_n 0 C dX8_stepLeads_29 rfl ?_
            refine gfX8_11 56 C (kS sC h21 kc_55) (xS sC h21 xc_55_3) dX8_stepLeads_30 ?_
            refine r_iload_n 1 C dX8_stepLeads_33 rfl ?_
            refine r_iconst (v := 1) C dX8_stepLeads_34 (by decide) ?_
            refine r_iadd C dX8_stepLeads_35 (fun v25 e26 => ?_)
            have v25' := iadd_ok e26 (by omega) (by omega)
            rcases (show v25.toInt = 2 by omega) with c27
            · obtain rfl : v25 = 2 := i_of (by omega)
              refine r_aald 3 rfl C (kS sC h21 kc_56) (vin (by omega) (by omega)) (xS sC h21 xc_56_2) dX8_stepLeads_36 ?_
              refine r_aload_n 0 C dX8_stepLeads_37 rfl ?_
              refine gfX8_11 56 C (kS sC h21 kc_55) (xS sC h21 xc_55_3) dX8_stepLeads_38 ?_
              refine r_iload_n 1 C dX8_stepLeads_41 rfl ?_
              refine r_aald 3 rfl C (kS sC h21 kc_56) (vin (by omega) (by omega)) (xS sC h21 xc_56_1) dX8_stepLeads_42 ?_
              refine callVV C cwX8_53_V (ctX6_copy_65_62 _ _ w16 (sS sC h21) o19  ) (by decide) (kS sC h21 kc_65) rfl rfl rfl (Nat.le_of_ble_eq_true rfl) (by decide) dX8_stepLeads_43 (fun w29 y28 => ?_)
              show V x 0 0 w29 46 [(0, .ref (gz (xG x) + 55)), (1, .int 1), (2, .int a2), (3, .int u1), (4, .int u2)] []
              obtain ⟨h31, o32⟩ := y28
              have h33 := Ch.tr h21 h31 (by decide) (by decide)
              refine r_aload_n 0 C dX8_stepLeads_46 rfl ?_
              refine gfX8_11 56 C (kS sC h33 kc_55) (xS sC h33 xc_55_3) dX8_stepLeads_47 ?_
              refine r_iload_n 1 C dX8_stepLeads_50 rfl ?_
              refine r_iconst (v := 1) C dX8_stepLeads_51 (by decide) ?_
              refine r_iadd C dX8_stepLeads_52 (fun v34 e35 => ?_)
              have v34' := iadd_ok e35 (by omega) (by omega)
              rcases (show v34.toInt = 2 by omega) with c36
              · obtain rfl : v34 = 2 := i_of (by omega)
                refine r_aald 3 rfl C (kS sC h33 kc_56) (vin (by omega) (by omega)) (xS sC h33 xc_56_2) dX8_stepLeads_53 ?_
                refine r_iload 4 C dX8_stepLeads_54 rfl ?_
                refine r_aload_n 0 C dX8_stepLeads_56 rfl ?_
                refine gfX8_50 (v := (wI w 55 9)) C (kS sC h33 kc_55) (h31.I (by decide) (by decide) (h18.I (by decide) (by decide) (h6.I (by decide) (by decide) rfl))) dX8_stepLeads_57 ?_
                refine callVV C cwX8_107_V (ctX6_pass_65 _ _ w29 (sS sC h33) o32 u2 (wI w 55 9) ) (by decide) (kS sC h33 kc_65) rfl rfl rfl (Nat.le_of_ble_eq_true rfl) (by decide) dX8_stepLeads_60 (fun w38 y37 => ?_)
                show V x 0 0 w38 63 [(0, .ref (gz (xG x) + 55)), (1, .int 1), (2, .int a2), (3, .int u1), (4, .int u2)] []
                obtain ⟨h40, o41⟩ := y37
                have h42 := Ch.tr h33 h40 (by decide) (by decide)
                refine r_aload_n 0 C dX8_stepLeads_63 rfl ?_
                refine gfX8_17 57 C (kS sC h42 kc_55) (xS sC h42 xc_55_4) dX8_stepLeads_64 ?_
                refine r_iload_n 1 C dX8_stepLeads_67 rfl ?_
                refine r_iload 4 C dX8_stepLeads_68 rfl ?_
                refine r_iast C (kS sC h42 kc_57) (vin (by omega) (by omega)) dX8_stepLeads_70 (fun w43 e44 => ?_)
                have h45 := Ch.putS h42 e44 (by decide)
                have o46 := Inv.put0 o41 e44 (by decide)
                refine r_aload_n 0 C dX8_stepLeads_71 rfl ?_
                refine r_iload_n 1 C dX8_stepLeads_72 rfl ?_
                refine r_iconst (v := 1) C dX8_stepLeads_73 (by decide) ?_
                refine r_iadd C dX8_stepLeads_74 (fun v47 e48 => ?_)
                have v47' := iadd_ok e48 (by omega) (by omega)
                refine r_iload_n 2 C dX8_stepLeads_75 rfl ?_
                refine callVI C cwX8_65_V (ctX8_leads_55_d2 _ _ w43 (sS sC h45) o46 v47 a2 (by omega)) (by decide) (kS sC h45 kc_55) rfl rfl rfl (Nat.le_of_ble_eq_true rfl) (by decide) dX8_stepLeads_76 (fun r51 w50 y49 => ?_)
                show V x 0 0 w50 79 [(0, .ref (gz (xG x) + 55)), (1, .int 1), (2, .int a2), (3, .int u1), (4, .int u2)] [.int r51]
                obtain ⟨h52, o53, g54⟩ := y49
                have h55 := Ch.tr h45 h52 (by decide) (by decide)
                refine r_istore_n [(3, .int r51), (0, .ref (gz (xG x) + 55)), (1, .int 1), (2, .int a2), (4, .int u2)] C dX8_stepLeads_79 (by decide) rfl ?_
                obtain ⟨i56, e57⟩ : ∃ z : Int32, u2 + Int32.ofInt 1 = z := ⟨_, rfl⟩
                have i56' := iinc_ok e57 (by decide) (by omega) (by omega)
                refine r_iinc [(4, .int i56), (3, .int r51), (0, .ref (gz (xG x) + 55)), (1, .int 1), (2, .int a2)] 4 C dX8_stepLeads_80 rfl e57 (by decide) rfl ?_
                refine r_goto 5 C dX8_stepLeads_83 (by decide) ?_
                refine r_lv [2, 3, 4, 1, 0] rfl ?_
                exact ih11 r51 i56 w50 h55 o53 (by omega) (by omega) (by omega)
  refine r_iconst (v := 0) C dX8_stepLeads_0 (by decide) ?_
  refine r_istore_n [(3, .int 0), (0, .ref (gz (xG x) + 55)), (1, .int 1), (2, .int a2)] C dX8_stepLeads_1 (by decide) rfl ?_
  refine r_iconst (v := 0) C dX8_stepLeads_2 (by decide) ?_
  refine r_istore [(4, .int 0), (3, .int 0), (0, .ref (gz (xG x) + 55)), (1, .int 1), (2, .int a2)] C dX8_stepLeads_3 (by decide) rfl ?_
  refine r_lv [2, 3, 4, 1, 0] rfl ?_
  exact LP3 4294967296 0 0 w h0 o0 (by omega) (by omega) (by omega)
set_option maxHeartbeats 4000000 in
set_option maxRecDepth 100000 in
theorem ctX8_leads_55_d1 (l : Launch) (G : Gt) (w : Wv) (sC : Str KC XC w) (o0 : Inv RC w) (a1 : Int32) (a2 : Int32) (b1 : 1 ≤ a1.toInt ∧ a1.toInt ≤ 1) : CtI l G yX8_leads cX8_leads 10 .boolean ({ frames := 13, cells := 0, slots := 0, locals := 338 } : Room) [.ref (gz G + 55), .int a1, .int a2] w (fun r w' => Ch [25, 26, 27, 52, 53, 54, 57, 66, 67, 69, 70, 72, 73, 75, 76, 78, 79] [(65, 0), (65, 1), (68, 0), (68, 1), (71, 0), (71, 1), (74, 0), (74, 1), (77, 0), (77, 1)] w w' ∧ Inv RC w' ∧ ((0 ≤ r.toInt ∧ r.toInt ≤ 1))) := by
  refine enterI (by decide) (Nat.le_of_ble_eq_true rfl) ?_
  intro x el eG C hret
  subst el; subst eG
  obtain rfl : a1 = 1 := i_of (by have q : (1 : Int32).toInt = 1 := (by decide); omega)
  show V x 0 0 w 0 [(0, .ref (gz (xG x) + 55)), (1, .int 1), (2, .int a2)] []
  have h0 : Ch [25, 26, 27, 52, 53, 54, 57, 66, 67, 69, 70, 72, 73, 75, 76, 78, 79] [(65, 0), (65, 1), (68, 0), (68, 1), (71, 0), (71, 1), (74, 0), (74, 1), (77, 0), (77, 1)] w w := Ch.rf
  have q0 : (0 : Int32).toInt = 0 := by decide
  have q1 : (1 : Int32).toInt = 1 := by decide
  have q2 : (2 : Int32).toInt = 2 := by decide
  have q6 : (6 : Int32).toInt = 6 := by decide
  refine r_iload_n 1 C dX8_leads_0 rfl ?_
  refine r_if_lt 10 C dX8_leads_1 (by decide) (fun c1 => ?_) (fun c1 => ?_)
  · have c1' := i_lt c1
    exfalso; omega
  · have c1' := i_nlt c1
    refine r_iload_n 1 C dX8_leads_4 rfl ?_
    refine r_bipush (v := 6) C dX8_leads_5 (by decide) ?_
    refine r_icmp_le 12 C dX8_leads_7 (by decide) (fun c2 => ?_) (fun c2 => ?_)
    · have c2' := i_le c2
      refine r_aload_n 0 C dX8_leads_12 rfl ?_
      refine gfX8_11 56 C (kS sC h0 kc_55) (xS sC h0 xc_55_3) dX8_leads_13 ?_
      refine r_iload_n 1 C dX8_leads_16 rfl ?_
      refine r_aald 3 rfl C (kS sC h0 kc_56) (vin (by omega) (by omega)) (xS sC h0 xc_56_1) dX8_leads_17 ?_
      refine r_astore_n [(3, .ref (gz (xG x) + 62)), (0, .ref (gz (xG x) + 55)), (1, .int 1), (2, .int a2)] C dX8_leads_18 (by decide) rfl ?_
      refine r_iload_n 3 C dX8_leads_19 rfl ?_
      refine r_iload_n 2 C dX8_leads_20 rfl ?_
      refine r_isub C dX8_leads_21 (fun v3 e4 => ?_)
      refine r_istore [(4, .int v3), (3, .ref (gz (xG x) + 62)), (0, .ref (gz (xG x) + 55)), (1, .int 1), (2, .int a2)] C dX8_leads_22 (by decide) rfl ?_
      refine r_aload_n 2 C dX8_leads_24 rfl ?_
      refine r_aload_n 1 C dX8_leads_25 rfl ?_
      refine r_iload 0 C dX8_leads_26 rfl ?_
      refine callVI C cwX8_81_V (ctX8_outlook_55_62 _ _ w (sS sC h0) o0 v3 ) (by decide) (kS sC h0 kc_55) rfl rfl rfl (Nat.le_of_ble_eq_true rfl) (by decide) dX8_leads_28 (fun r7 w6 y5 => ?_)
      show V x 0 0 w6 31 [(4, .int v3), (3, .ref (gz (xG x) + 62)), (0, .ref (gz (xG x) + 55)), (1, .int 1), (2, .int a2)] [.int r7]
      obtain ⟨h8, o9⟩ := y5
      have h10 := Ch.tr h0 h8 (by decide) (by decide)
      refine r_istore [(5, .int r7), (4, .int v3), (3, .ref (gz (xG x) + 62)), (0, .ref (gz (xG x) + 55)), (1, .int 1), (2, .int a2)] C dX8_leads_31 (by decide) rfl ?_
      refine r_iload 0 C dX8_leads_33 rfl ?_
      refine r_iconst (v := 1) C dX8_leads_35 (by decide) ?_
      refine r_icmp_ne 50 C dX8_leads_36 (by decide) (fun c11 => ?_) (fun c11 => ?_)
      · have c11' := i_ne c11
        refine r_iload 0 C dX8_leads_50 rfl ?_
        refine r_iconst (v := 2) C dX8_leads_52 (by decide) ?_
        refine r_icmp_ne 60 C dX8_leads_53 (by decide) (fun c12 => ?_) (fun c12 => ?_)
        · have c12' := i_ne c12
          refine r_iconst (v := 0) C dX8_leads_60 (by decide) ?_
          exact hret _ _ _ _ dX8_leads_61 (nar_z (z_of (by omega))) ⟨h10, o9, by omega⟩
        · have c12' := i_eq c12
          refine r_iconst (v := 1) C dX8_leads_56 (by decide) ?_
          refine r_goto 61 C dX8_leads_57 (by decide) ?_
          exact hret _ _ _ _ dX8_leads_61 (nar_z (z_of (by omega))) ⟨h10, o9, by omega⟩
      · have c11' := i_eq c11
        refine r_iload 1 C dX8_leads_39 rfl ?_
        refine r_if_le 50 C dX8_leads_41 (by decide) (fun c13 => ?_) (fun c13 => ?_)
        · have c13' := i_le c13
          refine r_iload 0 C dX8_leads_50 rfl ?_
          refine r_iconst (v := 2) C dX8_leads_52 (by decide) ?_
          refine r_icmp_ne 60 C dX8_leads_53 (by decide) (fun c14 => ?_) (fun c14 => ?_)
          · have c14' := i_ne c14
            refine r_iconst (v := 0) C dX8_leads_60 (by decide) ?_
            exact hret _ _ _ _ dX8_leads_61 (nar_z (z_of (by omega))) ⟨h10, o9, by omega⟩
          · have c14' := i_eq c14
            exfalso; omega
        · have c13' := i_nle c13
          refine r_iload_n 4 C dX8_leads_44 rfl ?_
          refine r_bipush (v := 6) C dX8_leads_45 (by decide) ?_
          refine r_icmp_lt 62 C dX8_leads_47 (by decide) (fun c15 => ?_) (fun c15 => ?_)
          · have c15' := i_lt c15
            refine r_aload_n 2 C dX8_leads_62 rfl ?_
            refine callVL C cwX8_85_V (ctX6_places_62 _ _ w6 (sS sC h10) o9  ) (by decide) (kS sC h10 kc_62) rfl rfl rfl (Nat.le_of_ble_eq_true rfl) (by decide) dX8_leads_63 (fun r18 w17 y16 => ?_)
            show V x 0 0 w17 66 [(5, .int r7), (4, .int v3), (3, .ref (gz (xG x) + 62)), (0, .ref (gz (xG x) + 55)), (1, .int 1), (2, .int a2)] [.long r18]
            obtain ⟨h19, o20⟩ := y16
            have h21 := Ch.tr h10 h19 (by decide) (by decide)
            refine r_lstore [(6, .long r18), (5, .int r7), (4, .int v3), (3, .ref (gz (xG x) + 62)), (0, .ref (gz (xG x) + 55)), (1, .int 1), (2, .int a2)] C dX8_leads_66 (by decide) rfl ?_
            refine r_aload_n 3 C dX8_leads_68 rfl ?_
            refine callVL C cwX8_89_V (ctX6_goals_62 _ _ w17 (sS sC h21) o20  ) (by decide) (kS sC h21 kc_62) rfl rfl rfl (Nat.le_of_ble_eq_true rfl) (by decide) dX8_leads_69 (fun r24 w23 y22 => ?_)
            show V x 0 0 w23 72 [(6, .long r18), (5, .int r7), (4, .int v3), (3, .ref (gz (xG x) + 62)), (0, .ref (gz (xG x) + 55)), (1, .int 1), (2, .int a2)] [.long r24]
            obtain ⟨h25, o26⟩ := y22
            have h27 := Ch.tr h21 h25 (by decide) (by decide)
            refine r_lstore [(8, .long r24), (6, .long r18), (5, .int r7), (4, .int v3), (3, .ref (gz (xG x) + 62)), (0, .ref (gz (xG x) + 55)), (1, .int 1), (2, .int a2)] C dX8_leads_72 (by decide) rfl ?_
            refine r_aload_n 5 C dX8_leads_74 rfl ?_
            refine gfX8_32 51 C (kS sC h27 kc_55) (xS sC h27 xc_55_6) dX8_leads_75 ?_
            refine r_lload 1 C dX8_leads_78 rfl ?_
            refine r_lload 0 C dX8_leads_80 rfl ?_
            refine callVI C cwX8_92_V (ctX3_value_51 _ _ w23 (sS sC h27) o26 r18 r24 ) (by decide) (kS sC h27 kc_51) rfl rfl rfl (Nat.le_of_ble_eq_true rfl) (by decide) dX8_leads_82 (fun r30 w29 y28 => ?_)
            show V x 0 0 w29 85 [(8, .long r24), (6, .long r18), (5, .int r7), (4, .int v3), (3, .ref (gz (xG x) + 62)), (0, .ref (gz (xG x) + 55)), (1, .int 1), (2, .int a2)] [.int r30]
            obtain ⟨h31, o32⟩ := y28
            have h33 := Ch.tr h27 h31 (by decide) (by decide)
            refine r_iload 3 C dX8_leads_85 rfl ?_
            have k35 := i_rng r30
            have k36 := i_rng v3
            refine r_icmp_lt 92 C dX8_leads_87 (by decide) (fun c34 => ?_) (fun c34 => ?_)
            · have c34' := i_lt c34
              refine r_aload_n 5 C dX8_leads_92 rfl ?_
              refine r_iload_n 6 C dX8_leads_93 rfl ?_
              refine r_iload_n 7 C dX8_leads_94 rfl ?_
              refine callVI C cwX8_96_V (ctX8_stepLeads_55_d1 _ _ w29 (sS sC h33) o32 1 a2 (by omega)) (by decide) (kS sC h33 kc_55) rfl rfl rfl (Nat.le_of_ble_eq_true rfl) (by decide) dX8_leads_95 (fun r39 w38 y37 => ?_)
              show V x 0 0 w38 98 [(8, .long r24), (6, .long r18), (5, .int r7), (4, .int v3), (3, .ref (gz (xG x) + 62)), (0, .ref (gz (xG x) + 55)), (1, .int 1), (2, .int a2)] [.int r39]
              obtain ⟨h40, o41, g42⟩ := y37
              have h43 := Ch.tr h33 h40 (by decide) (by decide)
              refine r_if_eq 103 C dX8_leads_98 (by decide) (fun c44 => ?_) (fun c44 => ?_)
              · have c44' := i_eq c44
                refine r_aload_n 5 C dX8_leads_103 rfl ?_
                refine gfX8_32 51 C (kS sC h43 kc_55) (xS sC h43 xc_55_6) dX8_leads_104 ?_
                refine r_lload 1 C dX8_leads_107 rfl ?_
                refine r_lload 0 C dX8_leads_109 rfl ?_
                refine r_iload 3 C dX8_leads_111 rfl ?_
                refine callVV C cwX8_99_V (ctX3_put_51 _ _ w38 (sS sC h43) o41 r18 r24 v3 ) (by decide) (kS sC h43 kc_51) rfl rfl rfl (Nat.le_of_ble_eq_true rfl) (by decide) dX8_leads_113 (fun w46 y45 => ?_)
                show V x 0 0 w46 116 [(8, .long r24), (6, .long r18), (5, .int r7), (4, .int v3), (3, .ref (gz (xG x) + 62)), (0, .ref (gz (xG x) + 55)), (1, .int 1), (2, .int a2)] []
                obtain ⟨h48, o49⟩ := y45
                have h50 := Ch.tr h43 h48 (by decide) (by decide)
                refine r_iconst (v := 0) C dX8_leads_116 (by decide) ?_
                exact hret _ _ _ _ dX8_leads_117 (nar_z (z_of (by omega))) ⟨h50, o49, by omega⟩
              · have c44' := i_ne c44
                refine r_iconst (v := 1) C dX8_leads_101 (by decide) ?_
                exact hret _ _ _ _ dX8_leads_102 (nar_z (z_of (by omega))) ⟨h43, o41, by omega⟩
            · have c34' := i_nlt c34
              refine r_iconst (v := 0) C dX8_leads_90 (by decide) ?_
              exact hret _ _ _ _ dX8_leads_91 (nar_z (z_of (by omega))) ⟨h33, o32, by omega⟩
          · have c15' := i_nlt c15
            exfalso; omega
    · have c2' := i_nle c2
      exfalso; omega
set_option maxHeartbeats 4000000 in
set_option maxRecDepth 100000 in
theorem ctX8_stepLeads_55_d0 (l : Launch) (G : Gt) (w : Wv) (sC : Str KC XC w) (o0 : Inv RC w) (a1 : Int32) (a2 : Int32) (b1 : 0 ≤ a1.toInt ∧ a1.toInt ≤ 0) : CtI l G yX8_stepLeads cX8_stepLeads 5 .boolean ({ frames := 14, cells := 0, slots := 0, locals := 367 } : Room) [.ref (gz G + 55), .int a1, .int a2] w (fun r w' => Ch [25, 26, 27, 52, 53, 54, 57, 63, 64, 66, 67, 69, 70, 72, 73, 75, 76, 78, 79] [(62, 0), (62, 1), (65, 0), (65, 1), (68, 0), (68, 1), (71, 0), (71, 1), (74, 0), (74, 1), (77, 0), (77, 1)] w w' ∧ Inv RC w' ∧ ((0 ≤ r.toInt ∧ r.toInt ≤ 1))) := by
  refine enterI (by decide) (Nat.le_of_ble_eq_true rfl) ?_
  intro x el eG C hret
  subst el; subst eG
  obtain rfl : a1 = 0 := i_of (by have q : (0 : Int32).toInt = 0 := (by decide); omega)
  show V x 0 0 w 0 [(0, .ref (gz (xG x) + 55)), (1, .int 0), (2, .int a2)] []
  have h0 : Ch [25, 26, 27, 52, 53, 54, 57, 63, 64, 66, 67, 69, 70, 72, 73, 75, 76, 78, 79] [(62, 0), (62, 1), (65, 0), (65, 1), (68, 0), (68, 1), (71, 0), (71, 1), (74, 0), (74, 1), (77, 0), (77, 1)] w w := Ch.rf
  have q0 : (0 : Int32).toInt = 0 := by decide
  have q1 : (1 : Int32).toInt = 1 := by decide
  have q4 : (4 : Int32).toInt = 4 := by decide
  have LP3 : ∀ (f4 : Nat) (u1 : Int32) (u2 : Int32) (w5 : Wv), Ch [25, 26, 27, 52, 53, 54, 57, 63, 64, 66, 67, 69, 70, 72, 73, 75, 76, 78, 79] [(62, 0), (62, 1), (65, 0), (65, 1), (68, 0), (68, 1), (71, 0), (71, 1), (74, 0), (74, 1), (77, 0), (77, 1)] w w5 → Inv RC w5 → (0 ≤ u1.toInt ∧ u1.toInt ≤ 1) → (0 ≤ u2.toInt ∧ u2.toInt ≤ 2147483647) → 2147483647 - u2.toInt < f4 → V x 0 0 w5 5 [(0, .ref (gz (xG x) + 55)), (1, .int 0), (2, .int a2), (3, .int u1), (4, .int u2)] [] := by
    intro f4
    induction f4 with
    | zero => intro u1 u2 w5 h6 o7 z8 z9 z10; exfalso; omega
    | succ f4 ih11 =>
      intro u1 u2 w5 h6 o7 z8 z9 z10
      refine r_iload 4 C dX8_stepLeads_5 rfl ?_
      refine r_iconst (v := 4) C dX8_stepLeads_7 (by decide) ?_
      have k13 := i_rng u2
      refine r_icmp_gt 86 C dX8_stepLeads_8 (by decide) (fun c12 => ?_) (fun c12 => ?_)
      · have c12' := i_lt c12
        refine r_iload_n 3 C dX8_stepLeads_86 rfl ?_
        exact hret _ _ _ _ dX8_stepLeads_87 (nar_z (z_of (by omega))) ⟨h6, o7, by omega⟩
      · have c12' := i_nlt c12
        refine r_iload_n 3 C dX8_stepLeads_11 rfl ?_
        refine r_if_ne 86 C dX8_stepLeads_12 (by decide) (fun c14 => ?_) (fun c14 => ?_)
        · have c14' := i_ne c14
          refine r_iload_n 3 C dX8_stepLeads_86 rfl ?_
          exact hret _ _ _ _ dX8_stepLeads_87 (nar_z (z_of (by omega))) ⟨h6, o7, by omega⟩
        · have c14' := i_eq c14
          refine r_aload_n 0 C dX8_stepLeads_15 rfl ?_
          refine gfX8_11 56 C (kS sC h6 kc_55) (xS sC h6 xc_55_3) dX8_stepLeads_16 ?_
          refine r_iload_n 1 C dX8_stepLeads_19 rfl ?_
          refine r_aald 3 rfl C (kS sC h6 kc_56) (vin (by omega) (by omega)) (xS sC h6 xc_56_0) dX8_stepLeads_20 ?_
          refine r_iload 4 C dX8_stepLeads_21 rfl ?_
          refine callVI C cwX8_103_V (ctX6_may_59 _ _ w5 (sS sC h6) o7 u2 ) (by decide) (kS sC h6 kc_59) rfl rfl rfl (Nat.le_of_ble_eq_true rfl) (by decide) dX8_stepLeads_23 (fun r17 w16 y15 => ?_)
          show V x 0 0 w16 26 [(0, .ref (gz (xG x) + 55)), (1, .int 0), (2, .int a2), (3, .int u1), (4, .int u2)] [.int r17]
          obtain ⟨h18, o19, g20⟩ := y15
          have h21 := Ch.tr h6 h18 (by decide) (by decide)
          refine r_if_eq 80 C dX8_stepLeads_26 (by decide) (fun c22 => ?_) (fun c22 => ?_)
          · have c22' := i_eq c22
            obtain ⟨i23, e24⟩ : ∃ z : Int32, u2 + Int32.ofInt 1 = z := ⟨_, rfl⟩
            have i23' := iinc_ok e24 (by decide) (by omega) (by omega)
            refine r_iinc [(4, .int i23), (0, .ref (gz (xG x) + 55)), (1, .int 0), (2, .int a2), (3, .int u1)] 4 C dX8_stepLeads_80 rfl e24 (by decide) rfl ?_
            refine r_goto 5 C dX8_stepLeads_83 (by decide) ?_
            refine r_lv [1, 2, 3, 4, 0] rfl ?_
            exact ih11 u1 i23 w16 h21 o19 (by omega) (by omega) (by omega)
          · have c22' := i_ne c22
            refine r_aload_n 0 C dX8_stepLeads_29 rfl ?_
            refine gfX8_11 56 C (kS sC h21 kc_55) (xS sC h21 xc_55_3) dX8_stepLeads_30 ?_
            refine r_iload_n 1 C dX8_stepLeads_33 rfl ?_
            refine r_iconst (v := 1) C dX8_stepLeads_34 (by decide) ?_
            refine r_iadd C dX8_stepLeads_35 (fun v25 e26 => ?_)
            have v25' := iadd_ok e26 (by omega) (by omega)
            rcases (show v25.toInt = 1 by omega) with c27
            · obtain rfl : v25 = 1 := i_of (by omega)
              refine r_aald 3 rfl C (kS sC h21 kc_56) (vin (by omega) (by omega)) (xS sC h21 xc_56_1) dX8_stepLeads_36 ?_
              refine r_aload_n 0 C dX8_stepLeads_37 rfl ?_
              refine gfX8_11 56 C (kS sC h21 kc_55) (xS sC h21 xc_55_3) dX8_stepLeads_38 ?_
              refine r_iload_n 1 C dX8_stepLeads_41 rfl ?_
              refine r_aald 3 rfl C (kS sC h21 kc_56) (vin (by omega) (by omega)) (xS sC h21 xc_56_0) dX8_stepLeads_42 ?_
              refine callVV C cwX8_53_V (ctX6_copy_62_59 _ _ w16 (sS sC h21) o19  ) (by decide) (kS sC h21 kc_62) rfl rfl rfl (Nat.le_of_ble_eq_true rfl) (by decide) dX8_stepLeads_43 (fun w29 y28 => ?_)
              show V x 0 0 w29 46 [(0, .ref (gz (xG x) + 55)), (1, .int 0), (2, .int a2), (3, .int u1), (4, .int u2)] []
              obtain ⟨h31, o32⟩ := y28
              have h33 := Ch.tr h21 h31 (by decide) (by decide)
              refine r_aload_n 0 C dX8_stepLeads_46 rfl ?_
              refine gfX8_11 56 C (kS sC h33 kc_55) (xS sC h33 xc_55_3) dX8_stepLeads_47 ?_
              refine r_iload_n 1 C dX8_stepLeads_50 rfl ?_
              refine r_iconst (v := 1) C dX8_stepLeads_51 (by decide) ?_
              refine r_iadd C dX8_stepLeads_52 (fun v34 e35 => ?_)
              have v34' := iadd_ok e35 (by omega) (by omega)
              rcases (show v34.toInt = 1 by omega) with c36
              · obtain rfl : v34 = 1 := i_of (by omega)
                refine r_aald 3 rfl C (kS sC h33 kc_56) (vin (by omega) (by omega)) (xS sC h33 xc_56_1) dX8_stepLeads_53 ?_
                refine r_iload 4 C dX8_stepLeads_54 rfl ?_
                refine r_aload_n 0 C dX8_stepLeads_56 rfl ?_
                refine gfX8_50 (v := (wI w 55 9)) C (kS sC h33 kc_55) (h31.I (by decide) (by decide) (h18.I (by decide) (by decide) (h6.I (by decide) (by decide) rfl))) dX8_stepLeads_57 ?_
                refine callVV C cwX8_107_V (ctX6_pass_62 _ _ w29 (sS sC h33) o32 u2 (wI w 55 9) ) (by decide) (kS sC h33 kc_62) rfl rfl rfl (Nat.le_of_ble_eq_true rfl) (by decide) dX8_stepLeads_60 (fun w38 y37 => ?_)
                show V x 0 0 w38 63 [(0, .ref (gz (xG x) + 55)), (1, .int 0), (2, .int a2), (3, .int u1), (4, .int u2)] []
                obtain ⟨h40, o41⟩ := y37
                have h42 := Ch.tr h33 h40 (by decide) (by decide)
                refine r_aload_n 0 C dX8_stepLeads_63 rfl ?_
                refine gfX8_17 57 C (kS sC h42 kc_55) (xS sC h42 xc_55_4) dX8_stepLeads_64 ?_
                refine r_iload_n 1 C dX8_stepLeads_67 rfl ?_
                refine r_iload 4 C dX8_stepLeads_68 rfl ?_
                refine r_iast C (kS sC h42 kc_57) (vin (by omega) (by omega)) dX8_stepLeads_70 (fun w43 e44 => ?_)
                have h45 := Ch.putS h42 e44 (by decide)
                have o46 := Inv.put0 o41 e44 (by decide)
                refine r_aload_n 0 C dX8_stepLeads_71 rfl ?_
                refine r_iload_n 1 C dX8_stepLeads_72 rfl ?_
                refine r_iconst (v := 1) C dX8_stepLeads_73 (by decide) ?_
                refine r_iadd C dX8_stepLeads_74 (fun v47 e48 => ?_)
                have v47' := iadd_ok e48 (by omega) (by omega)
                refine r_iload_n 2 C dX8_stepLeads_75 rfl ?_
                refine callVI C cwX8_65_V (ctX8_leads_55_d1 _ _ w43 (sS sC h45) o46 v47 a2 (by omega)) (by decide) (kS sC h45 kc_55) rfl rfl rfl (Nat.le_of_ble_eq_true rfl) (by decide) dX8_stepLeads_76 (fun r51 w50 y49 => ?_)
                show V x 0 0 w50 79 [(0, .ref (gz (xG x) + 55)), (1, .int 0), (2, .int a2), (3, .int u1), (4, .int u2)] [.int r51]
                obtain ⟨h52, o53, g54⟩ := y49
                have h55 := Ch.tr h45 h52 (by decide) (by decide)
                refine r_istore_n [(3, .int r51), (0, .ref (gz (xG x) + 55)), (1, .int 0), (2, .int a2), (4, .int u2)] C dX8_stepLeads_79 (by decide) rfl ?_
                obtain ⟨i56, e57⟩ : ∃ z : Int32, u2 + Int32.ofInt 1 = z := ⟨_, rfl⟩
                have i56' := iinc_ok e57 (by decide) (by omega) (by omega)
                refine r_iinc [(4, .int i56), (3, .int r51), (0, .ref (gz (xG x) + 55)), (1, .int 0), (2, .int a2)] 4 C dX8_stepLeads_80 rfl e57 (by decide) rfl ?_
                refine r_goto 5 C dX8_stepLeads_83 (by decide) ?_
                refine r_lv [2, 3, 4, 1, 0] rfl ?_
                exact ih11 r51 i56 w50 h55 o53 (by omega) (by omega) (by omega)
  refine r_iconst (v := 0) C dX8_stepLeads_0 (by decide) ?_
  refine r_istore_n [(3, .int 0), (0, .ref (gz (xG x) + 55)), (1, .int 0), (2, .int a2)] C dX8_stepLeads_1 (by decide) rfl ?_
  refine r_iconst (v := 0) C dX8_stepLeads_2 (by decide) ?_
  refine r_istore [(4, .int 0), (3, .int 0), (0, .ref (gz (xG x) + 55)), (1, .int 0), (2, .int a2)] C dX8_stepLeads_3 (by decide) rfl ?_
  refine r_lv [2, 3, 4, 1, 0] rfl ?_
  exact LP3 4294967296 0 0 w h0 o0 (by omega) (by omega) (by omega)
set_option maxHeartbeats 4000000 in
set_option maxRecDepth 100000 in
theorem ctX8_leads_55_d0 (l : Launch) (G : Gt) (w : Wv) (sC : Str KC XC w) (o0 : Inv RC w) (a1 : Int32) (a2 : Int32) (b1 : 0 ≤ a1.toInt ∧ a1.toInt ≤ 0) : CtI l G yX8_leads cX8_leads 10 .boolean ({ frames := 15, cells := 0, slots := 0, locals := 391 } : Room) [.ref (gz G + 55), .int a1, .int a2] w (fun r w' => Ch [25, 26, 27, 52, 53, 54, 57, 63, 64, 66, 67, 69, 70, 72, 73, 75, 76, 78, 79] [(62, 0), (62, 1), (65, 0), (65, 1), (68, 0), (68, 1), (71, 0), (71, 1), (74, 0), (74, 1), (77, 0), (77, 1)] w w' ∧ Inv RC w' ∧ ((0 ≤ r.toInt ∧ r.toInt ≤ 1))) := by
  refine enterI (by decide) (Nat.le_of_ble_eq_true rfl) ?_
  intro x el eG C hret
  subst el; subst eG
  obtain rfl : a1 = 0 := i_of (by have q : (0 : Int32).toInt = 0 := (by decide); omega)
  show V x 0 0 w 0 [(0, .ref (gz (xG x) + 55)), (1, .int 0), (2, .int a2)] []
  have h0 : Ch [25, 26, 27, 52, 53, 54, 57, 63, 64, 66, 67, 69, 70, 72, 73, 75, 76, 78, 79] [(62, 0), (62, 1), (65, 0), (65, 1), (68, 0), (68, 1), (71, 0), (71, 1), (74, 0), (74, 1), (77, 0), (77, 1)] w w := Ch.rf
  have q0 : (0 : Int32).toInt = 0 := by decide
  have q1 : (1 : Int32).toInt = 1 := by decide
  have q2 : (2 : Int32).toInt = 2 := by decide
  have q6 : (6 : Int32).toInt = 6 := by decide
  refine r_iload_n 1 C dX8_leads_0 rfl ?_
  refine r_if_lt 10 C dX8_leads_1 (by decide) (fun c1 => ?_) (fun c1 => ?_)
  · have c1' := i_lt c1
    exfalso; omega
  · have c1' := i_nlt c1
    refine r_iload_n 1 C dX8_leads_4 rfl ?_
    refine r_bipush (v := 6) C dX8_leads_5 (by decide) ?_
    refine r_icmp_le 12 C dX8_leads_7 (by decide) (fun c2 => ?_) (fun c2 => ?_)
    · have c2' := i_le c2
      refine r_aload_n 0 C dX8_leads_12 rfl ?_
      refine gfX8_11 56 C (kS sC h0 kc_55) (xS sC h0 xc_55_3) dX8_leads_13 ?_
      refine r_iload_n 1 C dX8_leads_16 rfl ?_
      refine r_aald 3 rfl C (kS sC h0 kc_56) (vin (by omega) (by omega)) (xS sC h0 xc_56_0) dX8_leads_17 ?_
      refine r_astore_n [(3, .ref (gz (xG x) + 59)), (0, .ref (gz (xG x) + 55)), (1, .int 0), (2, .int a2)] C dX8_leads_18 (by decide) rfl ?_
      refine r_iload_n 3 C dX8_leads_19 rfl ?_
      refine r_iload_n 2 C dX8_leads_20 rfl ?_
      refine r_isub C dX8_leads_21 (fun v3 e4 => ?_)
      have k5 := i_rng a2
      have v3' := isub_ok e4 (by omega) (by omega)
      refine r_istore [(4, .int v3), (3, .ref (gz (xG x) + 59)), (0, .ref (gz (xG x) + 55)), (1, .int 0), (2, .int a2)] C dX8_leads_22 (by decide) rfl ?_
      refine r_aload_n 2 C dX8_leads_24 rfl ?_
      refine r_aload_n 1 C dX8_leads_25 rfl ?_
      refine r_iload 0 C dX8_leads_26 rfl ?_
      refine callVI C cwX8_81_V (ctX8_outlook_55_59 _ _ w (sS sC h0) o0 v3 ) (by decide) (kS sC h0 kc_55) rfl rfl rfl (Nat.le_of_ble_eq_true rfl) (by decide) dX8_leads_28 (fun r8 w7 y6 => ?_)
      show V x 0 0 w7 31 [(4, .int v3), (3, .ref (gz (xG x) + 59)), (0, .ref (gz (xG x) + 55)), (1, .int 0), (2, .int a2)] [.int r8]
      obtain ⟨h9, o10⟩ := y6
      have h11 := Ch.tr h0 h9 (by decide) (by decide)
      refine r_istore [(5, .int r8), (4, .int v3), (3, .ref (gz (xG x) + 59)), (0, .ref (gz (xG x) + 55)), (1, .int 0), (2, .int a2)] C dX8_leads_31 (by decide) rfl ?_
      refine r_iload 0 C dX8_leads_33 rfl ?_
      refine r_iconst (v := 1) C dX8_leads_35 (by decide) ?_
      refine r_icmp_ne 50 C dX8_leads_36 (by decide) (fun c12 => ?_) (fun c12 => ?_)
      · have c12' := i_ne c12
        refine r_iload 0 C dX8_leads_50 rfl ?_
        refine r_iconst (v := 2) C dX8_leads_52 (by decide) ?_
        refine r_icmp_ne 60 C dX8_leads_53 (by decide) (fun c13 => ?_) (fun c13 => ?_)
        · have c13' := i_ne c13
          refine r_iconst (v := 0) C dX8_leads_60 (by decide) ?_
          exact hret _ _ _ _ dX8_leads_61 (nar_z (z_of (by omega))) ⟨h11, o10, by omega⟩
        · have c13' := i_eq c13
          refine r_iconst (v := 1) C dX8_leads_56 (by decide) ?_
          refine r_goto 61 C dX8_leads_57 (by decide) ?_
          exact hret _ _ _ _ dX8_leads_61 (nar_z (z_of (by omega))) ⟨h11, o10, by omega⟩
      · have c12' := i_eq c12
        refine r_iload 1 C dX8_leads_39 rfl ?_
        refine r_if_le 50 C dX8_leads_41 (by decide) (fun c14 => ?_) (fun c14 => ?_)
        · have c14' := i_le c14
          refine r_iload 0 C dX8_leads_50 rfl ?_
          refine r_iconst (v := 2) C dX8_leads_52 (by decide) ?_
          refine r_icmp_ne 60 C dX8_leads_53 (by decide) (fun c15 => ?_) (fun c15 => ?_)
          · have c15' := i_ne c15
            refine r_iconst (v := 0) C dX8_leads_60 (by decide) ?_
            exact hret _ _ _ _ dX8_leads_61 (nar_z (z_of (by omega))) ⟨h11, o10, by omega⟩
          · have c15' := i_eq c15
            exfalso; omega
        · have c14' := i_nle c14
          refine r_iload_n 4 C dX8_leads_44 rfl ?_
          refine r_bipush (v := 6) C dX8_leads_45 (by decide) ?_
          refine r_icmp_lt 62 C dX8_leads_47 (by decide) (fun c16 => ?_) (fun c16 => ?_)
          · have c16' := i_lt c16
            refine r_aload_n 2 C dX8_leads_62 rfl ?_
            refine callVL C cwX8_85_V (ctX6_places_59 _ _ w7 (sS sC h11) o10  ) (by decide) (kS sC h11 kc_59) rfl rfl rfl (Nat.le_of_ble_eq_true rfl) (by decide) dX8_leads_63 (fun r19 w18 y17 => ?_)
            show V x 0 0 w18 66 [(5, .int r8), (4, .int v3), (3, .ref (gz (xG x) + 59)), (0, .ref (gz (xG x) + 55)), (1, .int 0), (2, .int a2)] [.long r19]
            obtain ⟨h20, o21⟩ := y17
            have h22 := Ch.tr h11 h20 (by decide) (by decide)
            refine r_lstore [(6, .long r19), (5, .int r8), (4, .int v3), (3, .ref (gz (xG x) + 59)), (0, .ref (gz (xG x) + 55)), (1, .int 0), (2, .int a2)] C dX8_leads_66 (by decide) rfl ?_
            refine r_aload_n 3 C dX8_leads_68 rfl ?_
            refine callVL C cwX8_89_V (ctX6_goals_59 _ _ w18 (sS sC h22) o21  ) (by decide) (kS sC h22 kc_59) rfl rfl rfl (Nat.le_of_ble_eq_true rfl) (by decide) dX8_leads_69 (fun r25 w24 y23 => ?_)
            show V x 0 0 w24 72 [(6, .long r19), (5, .int r8), (4, .int v3), (3, .ref (gz (xG x) + 59)), (0, .ref (gz (xG x) + 55)), (1, .int 0), (2, .int a2)] [.long r25]
            obtain ⟨h26, o27⟩ := y23
            have h28 := Ch.tr h22 h26 (by decide) (by decide)
            refine r_lstore [(8, .long r25), (6, .long r19), (5, .int r8), (4, .int v3), (3, .ref (gz (xG x) + 59)), (0, .ref (gz (xG x) + 55)), (1, .int 0), (2, .int a2)] C dX8_leads_72 (by decide) rfl ?_
            refine r_aload_n 5 C dX8_leads_74 rfl ?_
            refine gfX8_32 51 C (kS sC h28 kc_55) (xS sC h28 xc_55_6) dX8_leads_75 ?_
            refine r_lload 1 C dX8_leads_78 rfl ?_
            refine r_lload 0 C dX8_leads_80 rfl ?_
            refine callVI C cwX8_92_V (ctX3_value_51 _ _ w24 (sS sC h28) o27 r19 r25 ) (by decide) (kS sC h28 kc_51) rfl rfl rfl (Nat.le_of_ble_eq_true rfl) (by decide) dX8_leads_82 (fun r31 w30 y29 => ?_)
            show V x 0 0 w30 85 [(8, .long r25), (6, .long r19), (5, .int r8), (4, .int v3), (3, .ref (gz (xG x) + 59)), (0, .ref (gz (xG x) + 55)), (1, .int 0), (2, .int a2)] [.int r31]
            obtain ⟨h32, o33⟩ := y29
            have h34 := Ch.tr h28 h32 (by decide) (by decide)
            refine r_iload 3 C dX8_leads_85 rfl ?_
            have k36 := i_rng r31
            have k37 := i_rng v3
            refine r_icmp_lt 92 C dX8_leads_87 (by decide) (fun c35 => ?_) (fun c35 => ?_)
            · have c35' := i_lt c35
              refine r_aload_n 5 C dX8_leads_92 rfl ?_
              refine r_iload_n 6 C dX8_leads_93 rfl ?_
              refine r_iload_n 7 C dX8_leads_94 rfl ?_
              refine callVI C cwX8_96_V (ctX8_stepLeads_55_d0 _ _ w30 (sS sC h34) o33 0 a2 (by omega)) (by decide) (kS sC h34 kc_55) rfl rfl rfl (Nat.le_of_ble_eq_true rfl) (by decide) dX8_leads_95 (fun r40 w39 y38 => ?_)
              show V x 0 0 w39 98 [(8, .long r25), (6, .long r19), (5, .int r8), (4, .int v3), (3, .ref (gz (xG x) + 59)), (0, .ref (gz (xG x) + 55)), (1, .int 0), (2, .int a2)] [.int r40]
              obtain ⟨h41, o42, g43⟩ := y38
              have h44 := Ch.tr h34 h41 (by decide) (by decide)
              refine r_if_eq 103 C dX8_leads_98 (by decide) (fun c45 => ?_) (fun c45 => ?_)
              · have c45' := i_eq c45
                refine r_aload_n 5 C dX8_leads_103 rfl ?_
                refine gfX8_32 51 C (kS sC h44 kc_55) (xS sC h44 xc_55_6) dX8_leads_104 ?_
                refine r_lload 1 C dX8_leads_107 rfl ?_
                refine r_lload 0 C dX8_leads_109 rfl ?_
                refine r_iload 3 C dX8_leads_111 rfl ?_
                refine callVV C cwX8_99_V (ctX3_put_51 _ _ w39 (sS sC h44) o42 r19 r25 v3 ) (by decide) (kS sC h44 kc_51) rfl rfl rfl (Nat.le_of_ble_eq_true rfl) (by decide) dX8_leads_113 (fun w47 y46 => ?_)
                show V x 0 0 w47 116 [(8, .long r25), (6, .long r19), (5, .int r8), (4, .int v3), (3, .ref (gz (xG x) + 59)), (0, .ref (gz (xG x) + 55)), (1, .int 0), (2, .int a2)] []
                obtain ⟨h49, o50⟩ := y46
                have h51 := Ch.tr h44 h49 (by decide) (by decide)
                refine r_iconst (v := 0) C dX8_leads_116 (by decide) ?_
                exact hret _ _ _ _ dX8_leads_117 (nar_z (z_of (by omega))) ⟨h51, o50, by omega⟩
              · have c45' := i_ne c45
                refine r_iconst (v := 1) C dX8_leads_101 (by decide) ?_
                exact hret _ _ _ _ dX8_leads_102 (nar_z (z_of (by omega))) ⟨h44, o42, by omega⟩
            · have c35' := i_nlt c35
              refine r_iconst (v := 0) C dX8_leads_90 (by decide) ?_
              exact hret _ _ _ _ dX8_leads_91 (nar_z (z_of (by omega))) ⟨h34, o33, by omega⟩
          · have c16' := i_nlt c16
            exfalso; omega
    · have c2' := i_nle c2
      exfalso; omega
set_option maxHeartbeats 4000000 in
set_option maxRecDepth 100000 in
theorem ctX8_search_55_35 (l : Launch) (G : Gt) (w : Wv) (sC : Str KC XC w) (o0 : Inv RC w) (a2 : Int32) (a3 : Int32) : CtV l G yX8_search cX8_search 5 ({ frames := 16, cells := 0, slots := 0, locals := 420 } : Room) [.ref (gz G + 55), .ref (gz G + 35), .int a2, .int a3] w (fun w' => Ch [25, 26, 27, 52, 53, 54, 57, 58, 60, 61, 63, 64, 66, 67, 69, 70, 72, 73, 75, 76, 78, 79] [(55, 0), (55, 7), (55, 8), (55, 9), (59, 0), (59, 1), (62, 0), (62, 1), (65, 0), (65, 1), (68, 0), (68, 1), (71, 0), (71, 1), (74, 0), (74, 1), (77, 0), (77, 1)] w w' ∧ Inv RC w') := by
  refine enterV (by decide) (Nat.le_of_ble_eq_true rfl) ?_
  intro x el eG C hnm hret
  subst el; subst eG
  show V x 0 0 w 0 [(0, .ref (gz (xG x) + 55)), (1, .ref (gz (xG x) + 35)), (2, .int a2), (3, .int a3)] []
  have h0 : Ch [25, 26, 27, 52, 53, 54, 57, 58, 60, 61, 63, 64, 66, 67, 69, 70, 72, 73, 75, 76, 78, 79] [(55, 0), (55, 7), (55, 8), (55, 9), (59, 0), (59, 1), (62, 0), (62, 1), (65, 0), (65, 1), (68, 0), (68, 1), (71, 0), (71, 1), (74, 0), (74, 1), (77, 0), (77, 1)] w w := Ch.rf
  have qm1 : ((-1) : Int32).toInt = (-1) := by decide
  have q0 : (0 : Int32).toInt = 0 := by decide
  have q1 : (1 : Int32).toInt = 1 := by decide
  have q6 : (6 : Int32).toInt = 6 := by decide
  have LP39 : ∀ (f40 : Nat) (u38 : Int32) (w41 : Wv), Ch [25, 26, 27, 52, 53, 54, 57, 58, 60, 61, 63, 64, 66, 67, 69, 70, 72, 73, 75, 76, 78, 79] [(55, 0), (55, 7), (55, 8), (55, 9), (59, 0), (59, 1), (62, 0), (62, 1), (65, 0), (65, 1), (68, 0), (68, 1), (71, 0), (71, 1), (74, 0), (74, 1), (77, 0), (77, 1)] w w41 → Inv RC w41 → (0 ≤ u38.toInt ∧ u38.toInt ≤ 2147483647) → 2147483647 - u38.toInt < f40 → V x 0 0 w41 68 [(0, .ref (gz (xG x) + 55)), (1, .ref (gz (xG x) + 35)), (2, .int a2), (3, .int a3), (4, .int u38)] [] := by
    intro f40
    induction f40 with
    | zero => intro u38 w41 h42 o43 z44 z45; exfalso; omega
    | succ f40 ih46 =>
      intro u38 w41 h42 o43 z44 z45
      refine r_iload 4 C dX8_search_68 rfl ?_
      refine r_bipush (v := 6) C dX8_search_70 (by decide) ?_
      have k48 := i_rng u38
      refine r_icmp_gt 105 C dX8_search_72 (by decide) (fun c47 => ?_) (fun c47 => ?_)
      · have c47' := i_lt c47
        exact hret _ _ _ dX8_search_105 ⟨h42, o43⟩
      · have c47' := i_nlt c47
        refine r_aload_n 0 C dX8_search_75 rfl ?_
        refine gfX8_43 (v := (wI w41 55 0)) C (kS sC h42 kc_55) rfl dX8_search_76 ?_
        have b49 := Inv.get o43 rt_55_0 (j := 0) (by decide) (by decide)
        refine r_iconst (v := (-1)) C dX8_search_79 (by decide) ?_
        refine r_icmp_ne 105 C dX8_search_80 (by decide) (fun c50 => ?_) (fun c50 => ?_)
        · have c50' := i_ne c50
          exact hret _ _ _ dX8_search_105 ⟨h42, o43⟩
        · have c50' := i_eq c50
          refine r_aload_n 0 C dX8_search_83 rfl ?_
          refine r_iconst (v := 0) C dX8_search_84 (by decide) ?_
          refine r_iload 4 C dX8_search_85 rfl ?_
          refine callVI C cwX8_65_V (ctX8_leads_55_d0 _ _ w41 (sS sC h42) o43 0 u38 (by omega)) (by decide) (kS sC h42 kc_55) rfl rfl rfl (Nat.le_of_ble_eq_true rfl) (by decide) dX8_search_87 (fun r53 w52 y51 => ?_)
          show V x 0 0 w52 90 [(0, .ref (gz (xG x) + 55)), (1, .ref (gz (xG x) + 35)), (2, .int a2), (3, .int a3), (4, .int u38)] [.int r53]
          obtain ⟨h54, o55, g56⟩ := y51
          have h57 := Ch.tr h42 h54 (by decide) (by decide)
          refine r_if_eq 99 C dX8_search_90 (by decide) (fun c58 => ?_) (fun c58 => ?_)
          · have c58' := i_eq c58
            obtain ⟨i59, e60⟩ : ∃ z : Int32, u38 + Int32.ofInt 1 = z := ⟨_, rfl⟩
            have i59' := iinc_ok e60 (by decide) (by omega) (by omega)
            refine r_iinc [(4, .int i59), (0, .ref (gz (xG x) + 55)), (1, .ref (gz (xG x) + 35)), (2, .int a2), (3, .int a3)] 4 C dX8_search_99 rfl e60 (by decide) rfl ?_
            refine r_goto 68 C dX8_search_102 (by decide) ?_
            refine r_lv [1, 2, 3, 4, 0] rfl ?_
            exact ih46 i59 w52 h57 o55 (by omega) (by omega)
          · have c58' := i_ne c58
            refine r_aload_n 0 C dX8_search_93 rfl ?_
            refine r_iload 4 C dX8_search_94 rfl ?_
            refine pfX8_43 C (kS sC h57 kc_55) dX8_search_96 (fun w61 e62 => ?_)
            have h63 := Ch.putF h57 e62 (by decide)
            have o64 := Inv.put o55 e62 (-1) 6 (by omega) (by decide)
            obtain ⟨i65, e66⟩ : ∃ z : Int32, u38 + Int32.ofInt 1 = z := ⟨_, rfl⟩
            have i65' := iinc_ok e66 (by decide) (by omega) (by omega)
            refine r_iinc [(4, .int i65), (0, .ref (gz (xG x) + 55)), (1, .ref (gz (xG x) + 35)), (2, .int a2), (3, .int a3)] 4 C dX8_search_99 rfl e66 (by decide) rfl ?_
            refine r_goto 68 C dX8_search_102 (by decide) ?_
            refine r_lv [1, 2, 3, 4, 0] rfl ?_
            exact ih46 i65 w61 h63 o64 (by omega) (by omega)
  refine r_aload_n 0 C dX8_search_0 rfl ?_
  refine gfX8_39 (v := (wI w 55 7)) C (kS sC h0 kc_55) rfl dX8_search_1 ?_
  refine r_if_eq 24 C dX8_search_4 (by decide) (fun c1 => ?_) (fun c1 => ?_)
  · have c1' := i_eq c1
    refine r_aload_n 0 C dX8_search_24 rfl ?_
    refine r_iconst (v := 1) C dX8_search_25 (by decide) ?_
    refine pfX8_39 C (kS sC h0 kc_55) (z_of (by omega)) dX8_search_26 (fun w2 e3 => ?_)
    have h4 := Ch.putF h0 e3 (by decide)
    have o5 := Inv.putk o0 e3 (by decide)
    refine r_aload_n 0 C dX8_search_29 rfl ?_
    refine r_iload_n 2 C dX8_search_30 rfl ?_
    refine pfX8_47 C (kS sC h4 kc_55) dX8_search_31 (fun w6 e7 => ?_)
    have h8 := Ch.putF h4 e7 (by decide)
    have k10 := i_rng a2
    have o9 := Inv.putk o5 e7 (by decide)
    refine r_aload_n 0 C dX8_search_34 rfl ?_
    refine r_iload_n 3 C dX8_search_35 rfl ?_
    refine pfX8_50 C (kS sC h8 kc_55) dX8_search_36 (fun w11 e12 => ?_)
    have h13 := Ch.putF h8 e12 (by decide)
    have k15 := i_rng a3
    have o14 := Inv.putk o9 e12 (by decide)
    refine r_aload_n 0 C dX8_search_39 rfl ?_
    refine r_iconst (v := (-1)) C dX8_search_40 (by decide) ?_
    refine pfX8_43 C (kS sC h13 kc_55) dX8_search_41 (fun w16 e17 => ?_)
    have h18 := Ch.putF h13 e17 (by decide)
    have o19 := Inv.put o14 e17 (-1) 6 (by omega) (by decide)
    refine r_aload_n 0 C dX8_search_44 rfl ?_
    refine gfX8_11 56 C (kS sC h18 kc_55) (xS sC h18 xc_55_3) dX8_search_45 ?_
    refine r_iconst (v := 0) C dX8_search_48 (by decide) ?_
    refine r_aald 3 rfl C (kS sC h18 kc_56) (vin (by omega) (by omega)) (xS sC h18 xc_56_0) dX8_search_49 ?_
    refine r_aload_n 1 C dX8_search_50 rfl ?_
    refine callVV C cwX8_53_V (ctX6_copy_59_35 _ _ w16 (sS sC h18) o19  ) (by decide) (kS sC h18 kc_59) rfl rfl rfl (Nat.le_of_ble_eq_true rfl) (by decide) dX8_search_51 (fun w21 y20 => ?_)
    show V x 0 0 w21 54 [(0, .ref (gz (xG x) + 55)), (1, .ref (gz (xG x) + 35)), (2, .int a2), (3, .int a3)] []
    obtain ⟨h23, o24⟩ := y20
    have h25 := Ch.tr h18 h23 (by decide) (by decide)
    refine r_aload_n 0 C dX8_search_54 rfl ?_
    refine gfX8_32 51 C (kS sC h25 kc_55) (xS sC h25 xc_55_6) dX8_search_55 ?_
    refine callVV C cwX8_57_V (ctX3_clear_51 _ _ w21 (sS sC h25) o24  ) (by decide) (kS sC h25 kc_51) rfl rfl rfl (Nat.le_of_ble_eq_true rfl) (by decide) dX8_search_58 (fun w27 y26 => ?_)
    show V x 0 0 w27 61 [(0, .ref (gz (xG x) + 55)), (1, .ref (gz (xG x) + 35)), (2, .int a2), (3, .int a3)] []
    obtain ⟨h29, o30⟩ := y26
    have h31 := Ch.tr h25 h29 (by decide) (by decide)
    refine r_aload_n 0 C dX8_search_61 rfl ?_
    refine callVV C cwX8_62_V (ctX8_findGates_55 _ _ w27 (sS sC h31) o30  ) (by decide) (kS sC h31 kc_55) rfl rfl rfl (Nat.le_of_ble_eq_true rfl) (by decide) dX8_search_62 (fun w33 y32 => ?_)
    show V x 0 0 w33 65 [(0, .ref (gz (xG x) + 55)), (1, .ref (gz (xG x) + 35)), (2, .int a2), (3, .int a3)] []
    obtain ⟨h35, o36⟩ := y32
    have h37 := Ch.tr h31 h35 (by decide) (by decide)
    refine r_iconst (v := 0) C dX8_search_65 (by decide) ?_
    refine r_istore [(4, .int 0), (0, .ref (gz (xG x) + 55)), (1, .ref (gz (xG x) + 35)), (2, .int a2), (3, .int a3)] C dX8_search_66 (by decide) rfl ?_
    refine r_lv [1, 2, 3, 4, 0] rfl ?_
    exact LP39 4294967296 0 w33 h37 o36 (by omega) (by omega)
  · have c1' := i_ne c1
    refine r_aload_n 0 C dX8_search_7 rfl ?_
    refine gfX8_47 (v := (wI w 55 8)) C (kS sC h0 kc_55) rfl dX8_search_8 ?_
    refine r_iload_n 2 C dX8_search_11 rfl ?_
    refine r_icmp_ne 24 C dX8_search_12 (by decide) (fun c67 => ?_) (fun c67 => ?_)
    · have c67' := i_ne c67
      refine r_aload_n 0 C dX8_search_24 rfl ?_
      refine r_iconst (v := 1) C dX8_search_25 (by decide) ?_
      refine pfX8_39 C (kS sC h0 kc_55) (z_of (by omega)) dX8_search_26 (fun w68 e69 => ?_)
      have h70 := Ch.putF h0 e69 (by decide)
      have o71 := Inv.putk o0 e69 (by decide)
      refine r_aload_n 0 C dX8_search_29 rfl ?_
      refine r_iload_n 2 C dX8_search_30 rfl ?_
      refine pfX8_47 C (kS sC h70 kc_55) dX8_search_31 (fun w72 e73 => ?_)
      have h74 := Ch.putF h70 e73 (by decide)
      have k76 := i_rng a2
      have o75 := Inv.putk o71 e73 (by decide)
      refine r_aload_n 0 C dX8_search_34 rfl ?_
      refine r_iload_n 3 C dX8_search_35 rfl ?_
      refine pfX8_50 C (kS sC h74 kc_55) dX8_search_36 (fun w77 e78 => ?_)
      have h79 := Ch.putF h74 e78 (by decide)
      have k81 := i_rng a3
      have o80 := Inv.putk o75 e78 (by decide)
      refine r_aload_n 0 C dX8_search_39 rfl ?_
      refine r_iconst (v := (-1)) C dX8_search_40 (by decide) ?_
      refine pfX8_43 C (kS sC h79 kc_55) dX8_search_41 (fun w82 e83 => ?_)
      have h84 := Ch.putF h79 e83 (by decide)
      have o85 := Inv.put o80 e83 (-1) 6 (by omega) (by decide)
      refine r_aload_n 0 C dX8_search_44 rfl ?_
      refine gfX8_11 56 C (kS sC h84 kc_55) (xS sC h84 xc_55_3) dX8_search_45 ?_
      refine r_iconst (v := 0) C dX8_search_48 (by decide) ?_
      refine r_aald 3 rfl C (kS sC h84 kc_56) (vin (by omega) (by omega)) (xS sC h84 xc_56_0) dX8_search_49 ?_
      refine r_aload_n 1 C dX8_search_50 rfl ?_
      refine callVV C cwX8_53_V (ctX6_copy_59_35 _ _ w82 (sS sC h84) o85  ) (by decide) (kS sC h84 kc_59) rfl rfl rfl (Nat.le_of_ble_eq_true rfl) (by decide) dX8_search_51 (fun w87 y86 => ?_)
      show V x 0 0 w87 54 [(0, .ref (gz (xG x) + 55)), (1, .ref (gz (xG x) + 35)), (2, .int a2), (3, .int a3)] []
      obtain ⟨h89, o90⟩ := y86
      have h91 := Ch.tr h84 h89 (by decide) (by decide)
      refine r_aload_n 0 C dX8_search_54 rfl ?_
      refine gfX8_32 51 C (kS sC h91 kc_55) (xS sC h91 xc_55_6) dX8_search_55 ?_
      refine callVV C cwX8_57_V (ctX3_clear_51 _ _ w87 (sS sC h91) o90  ) (by decide) (kS sC h91 kc_51) rfl rfl rfl (Nat.le_of_ble_eq_true rfl) (by decide) dX8_search_58 (fun w93 y92 => ?_)
      show V x 0 0 w93 61 [(0, .ref (gz (xG x) + 55)), (1, .ref (gz (xG x) + 35)), (2, .int a2), (3, .int a3)] []
      obtain ⟨h95, o96⟩ := y92
      have h97 := Ch.tr h91 h95 (by decide) (by decide)
      refine r_aload_n 0 C dX8_search_61 rfl ?_
      refine callVV C cwX8_62_V (ctX8_findGates_55 _ _ w93 (sS sC h97) o96  ) (by decide) (kS sC h97 kc_55) rfl rfl rfl (Nat.le_of_ble_eq_true rfl) (by decide) dX8_search_62 (fun w99 y98 => ?_)
      show V x 0 0 w99 65 [(0, .ref (gz (xG x) + 55)), (1, .ref (gz (xG x) + 35)), (2, .int a2), (3, .int a3)] []
      obtain ⟨h101, o102⟩ := y98
      have h103 := Ch.tr h97 h101 (by decide) (by decide)
      refine r_iconst (v := 0) C dX8_search_65 (by decide) ?_
      refine r_istore [(4, .int 0), (0, .ref (gz (xG x) + 55)), (1, .ref (gz (xG x) + 35)), (2, .int a2), (3, .int a3)] C dX8_search_66 (by decide) rfl ?_
      refine r_lv [1, 2, 3, 4, 0] rfl ?_
      exact LP39 4294967296 0 w99 h103 o102 (by omega) (by omega)
    · have c67' := i_eq c67
      refine r_aload_n 0 C dX8_search_15 rfl ?_
      refine gfX8_50 (v := (wI w 55 9)) C (kS sC h0 kc_55) rfl dX8_search_16 ?_
      refine r_iload_n 3 C dX8_search_19 rfl ?_
      refine r_icmp_ne 24 C dX8_search_20 (by decide) (fun c104 => ?_) (fun c104 => ?_)
      · have c104' := i_ne c104
        refine r_aload_n 0 C dX8_search_24 rfl ?_
        refine r_iconst (v := 1) C dX8_search_25 (by decide) ?_
        refine pfX8_39 C (kS sC h0 kc_55) (z_of (by omega)) dX8_search_26 (fun w105 e106 => ?_)
        have h107 := Ch.putF h0 e106 (by decide)
        have o108 := Inv.putk o0 e106 (by decide)
        refine r_aload_n 0 C dX8_search_29 rfl ?_
        refine r_iload_n 2 C dX8_search_30 rfl ?_
        refine pfX8_47 C (kS sC h107 kc_55) dX8_search_31 (fun w109 e110 => ?_)
        have h111 := Ch.putF h107 e110 (by decide)
        have k113 := i_rng a2
        have o112 := Inv.putk o108 e110 (by decide)
        refine r_aload_n 0 C dX8_search_34 rfl ?_
        refine r_iload_n 3 C dX8_search_35 rfl ?_
        refine pfX8_50 C (kS sC h111 kc_55) dX8_search_36 (fun w114 e115 => ?_)
        have h116 := Ch.putF h111 e115 (by decide)
        have k118 := i_rng a3
        have o117 := Inv.putk o112 e115 (by decide)
        refine r_aload_n 0 C dX8_search_39 rfl ?_
        refine r_iconst (v := (-1)) C dX8_search_40 (by decide) ?_
        refine pfX8_43 C (kS sC h116 kc_55) dX8_search_41 (fun w119 e120 => ?_)
        have h121 := Ch.putF h116 e120 (by decide)
        have o122 := Inv.put o117 e120 (-1) 6 (by omega) (by decide)
        refine r_aload_n 0 C dX8_search_44 rfl ?_
        refine gfX8_11 56 C (kS sC h121 kc_55) (xS sC h121 xc_55_3) dX8_search_45 ?_
        refine r_iconst (v := 0) C dX8_search_48 (by decide) ?_
        refine r_aald 3 rfl C (kS sC h121 kc_56) (vin (by omega) (by omega)) (xS sC h121 xc_56_0) dX8_search_49 ?_
        refine r_aload_n 1 C dX8_search_50 rfl ?_
        refine callVV C cwX8_53_V (ctX6_copy_59_35 _ _ w119 (sS sC h121) o122  ) (by decide) (kS sC h121 kc_59) rfl rfl rfl (Nat.le_of_ble_eq_true rfl) (by decide) dX8_search_51 (fun w124 y123 => ?_)
        show V x 0 0 w124 54 [(0, .ref (gz (xG x) + 55)), (1, .ref (gz (xG x) + 35)), (2, .int a2), (3, .int a3)] []
        obtain ⟨h126, o127⟩ := y123
        have h128 := Ch.tr h121 h126 (by decide) (by decide)
        refine r_aload_n 0 C dX8_search_54 rfl ?_
        refine gfX8_32 51 C (kS sC h128 kc_55) (xS sC h128 xc_55_6) dX8_search_55 ?_
        refine callVV C cwX8_57_V (ctX3_clear_51 _ _ w124 (sS sC h128) o127  ) (by decide) (kS sC h128 kc_51) rfl rfl rfl (Nat.le_of_ble_eq_true rfl) (by decide) dX8_search_58 (fun w130 y129 => ?_)
        show V x 0 0 w130 61 [(0, .ref (gz (xG x) + 55)), (1, .ref (gz (xG x) + 35)), (2, .int a2), (3, .int a3)] []
        obtain ⟨h132, o133⟩ := y129
        have h134 := Ch.tr h128 h132 (by decide) (by decide)
        refine r_aload_n 0 C dX8_search_61 rfl ?_
        refine callVV C cwX8_62_V (ctX8_findGates_55 _ _ w130 (sS sC h134) o133  ) (by decide) (kS sC h134 kc_55) rfl rfl rfl (Nat.le_of_ble_eq_true rfl) (by decide) dX8_search_62 (fun w136 y135 => ?_)
        show V x 0 0 w136 65 [(0, .ref (gz (xG x) + 55)), (1, .ref (gz (xG x) + 35)), (2, .int a2), (3, .int a3)] []
        obtain ⟨h138, o139⟩ := y135
        have h140 := Ch.tr h134 h138 (by decide) (by decide)
        refine r_iconst (v := 0) C dX8_search_65 (by decide) ?_
        refine r_istore [(4, .int 0), (0, .ref (gz (xG x) + 55)), (1, .ref (gz (xG x) + 35)), (2, .int a2), (3, .int a3)] C dX8_search_66 (by decide) rfl ?_
        refine r_lv [1, 2, 3, 4, 0] rfl ?_
        exact LP39 4294967296 0 w136 h140 o139 (by omega) (by omega)
      · have c104' := i_eq c104
        exact hret _ _ _ dX8_search_23 ⟨h0, o0⟩
set_option maxHeartbeats 4000000 in
set_option maxRecDepth 100000 in
theorem ctX0_stepAt_80 (l : Launch) (G : Gt) (w : Wv) (sC : Str KC XC w) (o0 : Inv RC w) (a1 : Int32) : CtI l G yX0_stepAt cX0_stepAt 2 .int ({ frames := 0, cells := 0, slots := 0, locals := 0 } : Room) [.ref (gz G + 80), .int a1] w (fun r w' => Ch [] [] w w' ∧ Inv RC w') := by
  refine enterI (by decide) (Nat.le_of_ble_eq_true rfl) ?_
  intro x el eG C hret
  subst el; subst eG
  show V x 0 0 w 0 [(0, .ref (gz (xG x) + 80)), (1, .int a1)] []
  have h0 : Ch [] [] w w := Ch.rf
  have qm1 : ((-1) : Int32).toInt = (-1) := by decide
  have q0 : (0 : Int32).toInt = 0 := by decide
  refine r_aload_n 0 C dX0_stepAt_0 rfl ?_
  refine gfX0_42 (v := (wI w 80 8)) C (kS sC h0 kc_80) rfl dX0_stepAt_1 ?_
  refine r_if_eq 28 C dX0_stepAt_4 (by decide) (fun c1 => ?_) (fun c1 => ?_)
  · have c1' := i_eq c1
    refine r_iconst (v := (-1)) C dX0_stepAt_28 (by decide) ?_
    exact hret _ _ _ _ dX0_stepAt_29 rfl ⟨h0, o0⟩
  · have c1' := i_ne c1
    refine r_iload_n 1 C dX0_stepAt_7 rfl ?_
    refine r_if_lt 28 C dX0_stepAt_8 (by decide) (fun c2 => ?_) (fun c2 => ?_)
    · have c2' := i_lt c2
      refine r_iconst (v := (-1)) C dX0_stepAt_28 (by decide) ?_
      exact hret _ _ _ _ dX0_stepAt_29 rfl ⟨h0, o0⟩
    · have c2' := i_nlt c2
      refine r_iload_n 1 C dX0_stepAt_11 rfl ?_
      refine r_aload_n 0 C dX0_stepAt_12 rfl ?_
      refine gfX0_46 (v := (wI w 80 9)) C (kS sC h0 kc_80) rfl dX0_stepAt_13 ?_
      have b3 := Inv.get o0 rt_80_9 (j := 9) (by decide) (by decide)
      have k5 := i_rng a1
      refine r_icmp_ge 28 C dX0_stepAt_16 (by decide) (fun c4 => ?_) (fun c4 => ?_)
      · have c4' := i_le c4
        refine r_iconst (v := (-1)) C dX0_stepAt_28 (by decide) ?_
        exact hret _ _ _ _ dX0_stepAt_29 rfl ⟨h0, o0⟩
      · have c4' := i_nle c4
        refine r_aload_n 0 C dX0_stepAt_19 rfl ?_
        refine gfX0_21 83 C (kS sC h0 kc_80) (xS sC h0 xc_80_5) dX0_stepAt_20 ?_
        refine r_iload_n 1 C dX0_stepAt_23 rfl ?_
        refine r_iald C (kS sC h0 kc_83) (vin (by omega) (by omega)) dX0_stepAt_24 ?_
        generalize (wI w 83 (a1).toNatClampNeg) = v6
        refine r_goto 29 C dX0_stepAt_25 (by decide) ?_
        exact hret _ _ _ _ dX0_stepAt_29 rfl ⟨h0, o0⟩
set_option maxHeartbeats 4000000 in
set_option maxRecDepth 100000 in
theorem ctX0_freeFrom_80 (l : Launch) (G : Gt) (w : Wv) (sC : Str KC XC w) (o0 : Inv RC w) (a1 : Int32) (a2 : Int32) : CtI l G yX0_freeFrom cX0_freeFrom 3 .int ({ frames := 1, cells := 0, slots := 0, locals := 20 } : Room) [.ref (gz G + 80), .int a1, .int a2] w (fun r w' => Ch [] [] w w' ∧ Inv RC w') := by
  refine enterI (by decide) (Nat.le_of_ble_eq_true rfl) ?_
  intro x el eG C hret
  subst el; subst eG
  show V x 0 0 w 0 [(0, .ref (gz (xG x) + 80)), (1, .int a1), (2, .int a2)] []
  have h0 : Ch [] [] w w := Ch.rf
  have q0 : (0 : Int32).toInt = 0 := by decide
  have q5 : (5 : Int32).toInt = 5 := by decide
  have q42 : (42 : Int32).toInt = 42 := by decide
  refine r_iload_n 1 C dX0_freeFrom_0 rfl ?_
  refine callSI C cwX0_100_S (ctX1_isCell _ _ w a1 ) (by decide) rfl rfl (Nat.le_of_ble_eq_true rfl) (by decide) dX0_freeFrom_1 (fun r3 w2 y1 => ?_)
  obtain ⟨y1, g4⟩ := y1
  obtain rfl := y1.symm
  show V x 0 0 w 4 [(0, .ref (gz (xG x) + 80)), (1, .int a1), (2, .int a2)] [.int r3]
  refine r_if_eq 30 C dX0_freeFrom_4 (by decide) (fun c5 => ?_) (fun c5 => ?_)
  · have c5' := i_eq c5
    refine r_iconst (v := 0) C dX0_freeFrom_30 (by decide) ?_
    exact hret _ _ _ _ dX0_freeFrom_31 rfl ⟨h0, o0⟩
  · have c5' := i_ne c5
    refine r_iload_n 2 C dX0_freeFrom_7 rfl ?_
    refine r_if_lt 30 C dX0_freeFrom_8 (by decide) (fun c6 => ?_) (fun c6 => ?_)
    · have c6' := i_lt c6
      refine r_iconst (v := 0) C dX0_freeFrom_30 (by decide) ?_
      exact hret _ _ _ _ dX0_freeFrom_31 rfl ⟨h0, o0⟩
    · have c6' := i_nlt c6
      refine r_iload_n 2 C dX0_freeFrom_11 rfl ?_
      refine r_iconst (v := 5) C dX0_freeFrom_12 (by decide) ?_
      have k8 := i_rng a2
      refine r_icmp_gt 30 C dX0_freeFrom_13 (by decide) (fun c7 => ?_) (fun c7 => ?_)
      · have c7' := i_lt c7
        refine r_iconst (v := 0) C dX0_freeFrom_30 (by decide) ?_
        exact hret _ _ _ _ dX0_freeFrom_31 rfl ⟨h0, o0⟩
      · have c7' := i_nlt c7
        refine r_aload_n 0 C dX0_freeFrom_16 rfl ?_
        refine gfX0_24 84 C (kS sC h0 kc_80) (xS sC h0 xc_80_6) dX0_freeFrom_17 ?_
        refine r_iload_n 2 C dX0_freeFrom_20 rfl ?_
        refine r_bipush (v := 42) C dX0_freeFrom_21 (by decide) ?_
        refine r_imul C dX0_freeFrom_23 (fun v9 e10 => ?_)
        have k11 : (42 : Int32).toInt = 42 := by omega
        have v9' := imul_ok e10 (by rw [k11]; omega) (by rw [k11]; omega)
        rw [k11] at v9'
        refine r_iload_n 1 C dX0_freeFrom_24 rfl ?_
        refine r_iadd C dX0_freeFrom_25 (fun v12 e13 => ?_)
        have v12' := iadd_ok e13 (by omega) (by omega)
        refine r_iald C (kS sC h0 kc_84) (vin (by omega) (by omega)) dX0_freeFrom_26 ?_
        generalize (wI w 84 (v12).toNatClampNeg) = v14
        refine r_goto 31 C dX0_freeFrom_27 (by decide) ?_
        exact hret _ _ _ _ dX0_freeFrom_31 rfl ⟨h0, o0⟩
set_option maxHeartbeats 4000000 in
set_option maxRecDepth 100000 in
theorem ctX0_countFreeFrom_80_88 (l : Launch) (G : Gt) (w : Wv) (sC : Str KC XC w) (o0 : Inv RC w) (a2 : Int32) : CtI l G yX0_countFreeFrom cX0_countFreeFrom 5 .int ({ frames := 2, cells := 0, slots := 0, locals := 45 } : Room) [.ref (gz G + 80), .ref (gz G + 88), .int a2] w (fun r w' => Ch [] [] w w' ∧ Inv RC w') := by
  refine enterI (by decide) (Nat.le_of_ble_eq_true rfl) ?_
  intro x el eG C hret
  subst el; subst eG
  show V x 0 0 w 0 [(0, .ref (gz (xG x) + 80)), (1, .ref (gz (xG x) + 88)), (2, .int a2)] []
  have h0 : Ch [] [] w w := Ch.rf
  have q0 : (0 : Int32).toInt = 0 := by decide
  have q1 : (1 : Int32).toInt = 1 := by decide
  have q4 : (4 : Int32).toInt = 4 := by decide
  have LP9 : ∀ (f10 : Nat) (u7 : Int32) (u8 : Int32) (w11 : Wv), Ch [] [] w w11 → Inv RC w11 → (0 ≤ u8.toInt ∧ u8.toInt ≤ 2147483647) → 2147483647 - u8.toInt < f10 → V x 0 0 w11 13 [(0, .ref (gz (xG x) + 80)), (1, .ref (gz (xG x) + 88)), (2, .int a2), (3, .int u7), (4, .int u8)] [] := by
    intro f10
    induction f10 with
    | zero => intro u7 u8 w11 h12 o13 z14 z15; exfalso; omega
    | succ f10 ih16 =>
      intro u7 u8 w11 h12 o13 z14 z15
      refine r_iload 4 C dX0_countFreeFrom_13 rfl ?_
      refine r_iconst (v := 4) C dX0_countFreeFrom_15 (by decide) ?_
      have k18 := i_rng u8
      refine r_icmp_gt 55 C dX0_countFreeFrom_16 (by decide) (fun c17 => ?_) (fun c17 => ?_)
      · have c17' := i_lt c17
        refine r_iload_n 3 C dX0_countFreeFrom_55 rfl ?_
        exact hret _ _ _ _ dX0_countFreeFrom_56 rfl ⟨h12, o13⟩
      · have c17' := i_nlt c17
        refine r_aload_n 1 C dX0_countFreeFrom_19 rfl ?_
        refine r_iload 4 C dX0_countFreeFrom_20 rfl ?_
        refine callVI C cwX0_93_V (ctX6_may_88 _ _ w11 (sS sC h12) o13 u8 ) (by decide) (kS sC h12 kc_88) rfl rfl rfl (Nat.le_of_ble_eq_true rfl) (by decide) dX0_countFreeFrom_22 (fun r21 w20 y19 => ?_)
        show V x 0 0 w20 25 [(0, .ref (gz (xG x) + 80)), (1, .ref (gz (xG x) + 88)), (2, .int a2), (3, .int u7), (4, .int u8)] [.int r21]
        obtain ⟨h22, o23, g24⟩ := y19
        have h25 := Ch.tr h12 h22 (by decide) (by decide)
        refine r_if_eq 49 C dX0_countFreeFrom_25 (by decide) (fun c26 => ?_) (fun c26 => ?_)
        · have c26' := i_eq c26
          obtain ⟨i27, e28⟩ : ∃ z : Int32, u8 + Int32.ofInt 1 = z := ⟨_, rfl⟩
          have i27' := iinc_ok e28 (by decide) (by omega) (by omega)
          refine r_iinc [(4, .int i27), (0, .ref (gz (xG x) + 80)), (1, .ref (gz (xG x) + 88)), (2, .int a2), (3, .int u7)] 4 C dX0_countFreeFrom_49 rfl e28 (by decide) rfl ?_
          refine r_goto 13 C dX0_countFreeFrom_52 (by decide) ?_
          refine r_lv [1, 2, 3, 4, 0] rfl ?_
          exact ih16 u7 i27 w20 h25 o23 (by omega) (by omega)
        · have c26' := i_ne c26
          refine r_iload_n 3 C dX0_countFreeFrom_28 rfl ?_
          refine r_aload_n 0 C dX0_countFreeFrom_29 rfl ?_
          refine r_aload_n 0 C dX0_countFreeFrom_30 rfl ?_
          refine gfX0_27 21 C (kS sC h25 kc_80) (xS sC h25 xc_80_2) dX0_countFreeFrom_31 ?_
          refine r_aload_n 1 C dX0_countFreeFrom_34 rfl ?_
          refine gfX0_82 (v := (wI w 88 0)) C (kS sC h25 kc_88) (h22.I (by decide) (by decide) (h12.I (by decide) (by decide) rfl)) dX0_countFreeFrom_35 ?_
          refine r_iload 4 C dX0_countFreeFrom_38 rfl ?_
          refine callVI C cwX0_97_V (ctX1_beside_21 _ _ w20 (sS sC h25) o23 (wI w 88 0) u8 ) (by decide) (kS sC h25 kc_21) rfl rfl rfl (Nat.le_of_ble_eq_true rfl) (by decide) dX0_countFreeFrom_40 (fun r31 w30 y29 => ?_)
          show V x 0 0 w30 43 [(0, .ref (gz (xG x) + 80)), (1, .ref (gz (xG x) + 88)), (2, .int a2), (3, .int u7), (4, .int u8)] [.int r31, .ref (gz (xG x) + 80), .int u7]
          obtain ⟨h32, o33⟩ := y29
          have h34 := Ch.tr h25 h32 (by decide) (by decide)
          refine r_iload_n 2 C dX0_countFreeFrom_43 rfl ?_
          refine callVI C cwX0_89_V (ctX0_freeFrom_80 _ _ w30 (sS sC h34) o33 r31 a2 ) (by decide) (kS sC h34 kc_80) rfl rfl rfl (Nat.le_of_ble_eq_true rfl) (by decide) dX0_countFreeFrom_44 (fun r37 w36 y35 => ?_)
          show V x 0 0 w36 47 [(0, .ref (gz (xG x) + 80)), (1, .ref (gz (xG x) + 88)), (2, .int a2), (3, .int u7), (4, .int u8)] [.int r37, .int u7]
          obtain ⟨h38, o39⟩ := y35
          have h40 := Ch.tr h34 h38 (by decide) (by decide)
          refine r_iadd C dX0_countFreeFrom_47 (fun v41 e42 => ?_)
          refine r_istore_n [(3, .int v41), (0, .ref (gz (xG x) + 80)), (1, .ref (gz (xG x) + 88)), (2, .int a2), (4, .int u8)] C dX0_countFreeFrom_48 (by decide) rfl ?_
          obtain ⟨i43, e44⟩ : ∃ z : Int32, u8 + Int32.ofInt 1 = z := ⟨_, rfl⟩
          have i43' := iinc_ok e44 (by decide) (by omega) (by omega)
          refine r_iinc [(4, .int i43), (3, .int v41), (0, .ref (gz (xG x) + 80)), (1, .ref (gz (xG x) + 88)), (2, .int a2)] 4 C dX0_countFreeFrom_49 rfl e44 (by decide) rfl ?_
          refine r_goto 13 C dX0_countFreeFrom_52 (by decide) ?_
          refine r_lv [2, 3, 4, 1, 0] rfl ?_
          exact ih16 v41 i43 w36 h40 o39 (by omega) (by omega)
  refine r_aload_n 0 C dX0_countFreeFrom_0 rfl ?_
  refine r_aload_n 1 C dX0_countFreeFrom_1 rfl ?_
  refine gfX0_82 (v := (wI w 88 0)) C (kS sC h0 kc_88) rfl dX0_countFreeFrom_2 ?_
  refine r_iload_n 2 C dX0_countFreeFrom_5 rfl ?_
  refine callVI C cwX0_89_V (ctX0_freeFrom_80 _ _ w (sS sC h0) o0 (wI w 88 0) a2 ) (by decide) (kS sC h0 kc_80) rfl rfl rfl (Nat.le_of_ble_eq_true rfl) (by decide) dX0_countFreeFrom_6 (fun r3 w2 y1 => ?_)
  show V x 0 0 w2 9 [(0, .ref (gz (xG x) + 80)), (1, .ref (gz (xG x) + 88)), (2, .int a2)] [.int r3]
  obtain ⟨h4, o5⟩ := y1
  have h6 := Ch.tr h0 h4 (by decide) (by decide)
  refine r_istore_n [(3, .int r3), (0, .ref (gz (xG x) + 80)), (1, .ref (gz (xG x) + 88)), (2, .int a2)] C dX0_countFreeFrom_9 (by decide) rfl ?_
  refine r_iconst (v := 1) C dX0_countFreeFrom_10 (by decide) ?_
  refine r_istore [(4, .int 1), (3, .int r3), (0, .ref (gz (xG x) + 80)), (1, .ref (gz (xG x) + 88)), (2, .int a2)] C dX0_countFreeFrom_11 (by decide) rfl ?_
  refine r_lv [2, 3, 4, 1, 0] rfl ?_
  exact LP9 4294967296 r3 1 w2 h6 o5 (by omega) (by omega)
set_option maxHeartbeats 4000000 in
set_option maxRecDepth 100000 in
theorem ctX0_countFree_80 (l : Launch) (G : Gt) (w : Wv) (sC : Str KC XC w) (o0 : Inv RC w)  : CtV l G yX0_countFree cX0_countFree 4 ({ frames := 3, cells := 0, slots := 0, locals := 69 } : Room) [.ref (gz G + 80)] w (fun w' => Ch [84] [(88, 0)] w w' ∧ Inv RC w') := by
  refine enterV (by decide) (Nat.le_of_ble_eq_true rfl) ?_
  intro x el eG C hnm hret
  subst el; subst eG
  show V x 0 0 w 0 [(0, .ref (gz (xG x) + 80))] []
  have h0 : Ch [84] [(88, 0)] w w := Ch.rf
  have q0 : (0 : Int32).toInt = 0 := by decide
  have q1 : (1 : Int32).toInt = 1 := by decide
  have q42 : (42 : Int32).toInt = 42 := by decide
  have LP2 : ∀ (f3 : Nat) (u1 : Int32) (w4 : Wv), Ch [84] [(88, 0)] w w4 → Inv RC w4 → (0 ≤ u1.toInt ∧ u1.toInt ≤ 2147483647) → 2147483647 - u1.toInt < f3 → V x 0 0 w4 9 [(0, .ref (gz (xG x) + 80)), (1, .ref (gz (xG x) + 88)), (2, .int u1)] [] := by
    intro f3
    induction f3 with
    | zero => intro u1 w4 h5 o6 z7 z8; exfalso; omega
    | succ f3 ih9 =>
      intro u1 w4 h5 o6 z7 z8
      have LP14 : ∀ (f15 : Nat) (u13 : Int32) (w16 : Wv), Ch [84] [(88, 0)] w w16 → Inv RC w16 → (0 ≤ u13.toInt ∧ u13.toInt ≤ 2147483647) → 2147483647 - u13.toInt < f15 → V x 0 0 w16 35 [(0, .ref (gz (xG x) + 80)), (1, .ref (gz (xG x) + 88)), (2, .int u13)] [] := by
        intro f15
        induction f15 with
        | zero => intro u13 w16 h17 o18 z19 z20; exfalso; omega
        | succ f15 ih21 =>
          intro u13 w16 h17 o18 z19 z20
          have LP29 : ∀ (f30 : Nat) (u28 : Int32) (w31 : Wv), Ch [84] [(88, 0)] w w31 → Inv RC w31 → (0 ≤ u28.toInt ∧ u28.toInt ≤ 2147483647) → (0 ≤ u13.toInt ∧ u13.toInt ≤ 5) → 2147483647 - u28.toInt < f30 → V x 0 0 w31 50 [(0, .ref (gz (xG x) + 80)), (1, .ref (gz (xG x) + 88)), (2, .int u13), (3, .int u28)] [] := by
            intro f30
            induction f30 with
            | zero => intro u28 w31 h32 o33 z34 z35 z36; exfalso; omega
            | succ f30 ih37 =>
              intro u28 w31 h32 o33 z34 z35 z36
              refine r_iload_n 3 C dX0_countFree_50 rfl ?_
              refine r_aload_n 0 C dX0_countFree_51 rfl ?_
              refine gfX0_27 21 C (kS sC h32 kc_80) (xS sC h32 xc_80_2) dX0_countFree_52 ?_
              refine gfX0_79 (v := (wI w 21 0)) C (kS sC h32 kc_21) (h32.I (by decide) (by decide) rfl) dX0_countFree_55 ?_
              have b38 := Inv.get o0 rt_21_0 (j := 0) (by decide) (by decide)
              have k40 := i_rng u28
              refine r_icmp_ge 91 C dX0_countFree_58 (by decide) (fun c39 => ?_) (fun c39 => ?_)
              · have c39' := i_le c39
                obtain ⟨i41, e42⟩ : ∃ z : Int32, u13 + Int32.ofInt 1 = z := ⟨_, rfl⟩
                have i41' := iinc_ok e42 (by decide) (by omega) (by omega)
                refine r_iinc [(2, .int i41), (0, .ref (gz (xG x) + 80)), (1, .ref (gz (xG x) + 88)), (3, .int u28)] 2 C dX0_countFree_91 rfl e42 (by decide) rfl ?_
                refine r_goto 35 C dX0_countFree_94 (by decide) ?_
                refine r_lv [1, 2, 0] rfl ?_
                exact ih21 i41 w31 h32 o33 (by omega) (by omega)
              · have c39' := i_nle c39
                refine r_aload_n 1 C dX0_countFree_61 rfl ?_
                refine r_iload_n 3 C dX0_countFree_62 rfl ?_
                refine pfX0_82 C (kS sC h32 kc_88) dX0_countFree_63 (fun w43 e44 => ?_)
                have h45 := Ch.putF h32 e44 (by decide)
                have o46 := Inv.putk o33 e44 (by decide)
                refine r_aload_n 0 C dX0_countFree_66 rfl ?_
                refine gfX0_24 84 C (kS sC h45 kc_80) (xS sC h45 xc_80_6) dX0_countFree_67 ?_
                refine r_iload_n 2 C dX0_countFree_70 rfl ?_
                refine r_bipush (v := 42) C dX0_countFree_71 (by decide) ?_
                refine r_imul C dX0_countFree_73 (fun v47 e48 => ?_)
                have k49 : (42 : Int32).toInt = 42 := by omega
                have v47' := imul_ok e48 (by rw [k49]; omega) (by rw [k49]; omega)
                rw [k49] at v47'
                refine r_iload_n 3 C dX0_countFree_74 rfl ?_
                refine r_iadd C dX0_countFree_75 (fun v50 e51 => ?_)
                have v50' := iadd_ok e51 (by omega) (by omega)
                refine r_aload_n 0 C dX0_countFree_76 rfl ?_
                refine r_aload_n 1 C dX0_countFree_77 rfl ?_
                refine r_iload_n 2 C dX0_countFree_78 rfl ?_
                refine r_iconst (v := 1) C dX0_countFree_79 (by decide) ?_
                refine r_isub C dX0_countFree_80 (fun v52 e53 => ?_)
                have v52' := isub_ok e53 (by omega) (by omega)
                refine callVI C cwX0_85_V (ctX0_countFreeFrom_80_88 _ _ w43 (sS sC h45) o46 v52 ) (by decide) (kS sC h45 kc_80) rfl rfl rfl (Nat.le_of_ble_eq_true rfl) (by decide) dX0_countFree_81 (fun r56 w55 y54 => ?_)
                show V x 0 0 w55 84 [(0, .ref (gz (xG x) + 80)), (1, .ref (gz (xG x) + 88)), (2, .int u13), (3, .int u28)] [.int r56, .int v50, .ref (gz (xG x) + 84)]
                obtain ⟨h57, o58⟩ := y54
                have h59 := Ch.tr h45 h57 (by decide) (by decide)
                refine r_iast C (kS sC h59 kc_84) (vin (by omega) (by omega)) dX0_countFree_84 (fun w60 e61 => ?_)
                have h62 := Ch.putS h59 e61 (by decide)
                have o63 := Inv.put0 o58 e61 (by decide)
                obtain ⟨i64, e65⟩ : ∃ z : Int32, u28 + Int32.ofInt 1 = z := ⟨_, rfl⟩
                have i64' := iinc_ok e65 (by decide) (by omega) (by omega)
                refine r_iinc [(3, .int i64), (0, .ref (gz (xG x) + 80)), (1, .ref (gz (xG x) + 88)), (2, .int u13)] 3 C dX0_countFree_85 rfl e65 (by decide) rfl ?_
                refine r_goto 50 C dX0_countFree_88 (by decide) ?_
                refine r_lv [1, 2, 3, 0] rfl ?_
                exact ih37 i64 w60 h62 o63 (by omega) (by omega) (by omega)
          refine r_iload_n 2 C dX0_countFree_35 rfl ?_
          refine r_aload_n 0 C dX0_countFree_36 rfl ?_
          refine gfX0_46 (v := (wI w 80 9)) C (kS sC h17 kc_80) (h17.I (by decide) (by decide) rfl) dX0_countFree_37 ?_
          have b22 := Inv.get o0 rt_80_9 (j := 9) (by decide) (by decide)
          refine r_aload_n 0 C dX0_countFree_40 rfl ?_
          refine gfX0_56 (v := (wI w 80 10)) C (kS sC h17 kc_80) (h17.I (by decide) (by decide) rfl) dX0_countFree_41 ?_
          have b23 := Inv.get o0 rt_80_10 (j := 10) (by decide) (by decide)
          refine r_isub C dX0_countFree_44 (fun v24 e25 => ?_)
          have v24' := isub_ok e25 (by omega) (by omega)
          have k27 := i_rng u13
          refine r_icmp_gt 97 C dX0_countFree_45 (by decide) (fun c26 => ?_) (fun c26 => ?_)
          · have c26' := i_lt c26
            exact hret _ _ _ dX0_countFree_97 ⟨h17, o18⟩
          · have c26' := i_nlt c26
            refine r_iconst (v := 0) C dX0_countFree_48 (by decide) ?_
            refine r_istore_n [(3, .int 0), (0, .ref (gz (xG x) + 80)), (1, .ref (gz (xG x) + 88)), (2, .int u13)] C dX0_countFree_49 (by decide) rfl ?_
            refine r_lv [1, 2, 3, 0] rfl ?_
            exact LP29 4294967296 0 w16 h17 o18 (by omega) (by omega) (by omega)
      refine r_iload_n 2 C dX0_countFree_9 rfl ?_
      refine r_aload_n 0 C dX0_countFree_10 rfl ?_
      refine gfX0_27 21 C (kS sC h5 kc_80) (xS sC h5 xc_80_2) dX0_countFree_11 ?_
      refine gfX0_79 (v := (wI w 21 0)) C (kS sC h5 kc_21) (h5.I (by decide) (by decide) rfl) dX0_countFree_14 ?_
      have b10 := Inv.get o0 rt_21_0 (j := 0) (by decide) (by decide)
      have k12 := i_rng u1
      refine r_icmp_ge 33 C dX0_countFree_17 (by decide) (fun c11 => ?_) (fun c11 => ?_)
      · have c11' := i_le c11
        refine r_iconst (v := 1) C dX0_countFree_33 (by decide) ?_
        refine r_istore_n [(2, .int 1), (0, .ref (gz (xG x) + 80)), (1, .ref (gz (xG x) + 88))] C dX0_countFree_34 (by decide) rfl ?_
        refine r_lv [1, 2, 0] rfl ?_
        exact LP14 4294967296 1 w4 h5 o6 (by omega) (by omega)
      · have c11' := i_nle c11
        refine r_aload_n 0 C dX0_countFree_20 rfl ?_
        refine gfX0_24 84 C (kS sC h5 kc_80) (xS sC h5 xc_80_6) dX0_countFree_21 ?_
        refine r_iload_n 2 C dX0_countFree_24 rfl ?_
        refine r_iconst (v := 1) C dX0_countFree_25 (by decide) ?_
        refine r_iast C (kS sC h5 kc_84) (vin (by omega) (by omega)) dX0_countFree_26 (fun w66 e67 => ?_)
        have h68 := Ch.putS h5 e67 (by decide)
        have o69 := Inv.put0 o6 e67 (by decide)
        obtain ⟨i70, e71⟩ : ∃ z : Int32, u1 + Int32.ofInt 1 = z := ⟨_, rfl⟩
        have i70' := iinc_ok e71 (by decide) (by omega) (by omega)
        refine r_iinc [(2, .int i70), (0, .ref (gz (xG x) + 80)), (1, .ref (gz (xG x) + 88))] 2 C dX0_countFree_27 rfl e71 (by decide) rfl ?_
        refine r_goto 9 C dX0_countFree_30 (by decide) ?_
        refine r_lv [1, 2, 0] rfl ?_
        exact ih9 i70 w66 h68 o69 (by omega) (by omega)
  refine r_aload_n 0 C dX0_countFree_0 rfl ?_
  refine gfX0_11 81 C (kS sC h0 kc_80) (xS sC h0 xc_80_3) dX0_countFree_1 ?_
  refine r_iconst (v := 1) C dX0_countFree_4 (by decide) ?_
  refine r_aald 3 rfl C (kS sC h0 kc_81) (vin (by omega) (by omega)) (xS sC h0 xc_81_1) dX0_countFree_5 ?_
  refine r_astore_n [(1, .ref (gz (xG x) + 88)), (0, .ref (gz (xG x) + 80))] C dX0_countFree_6 (by decide) rfl ?_
  refine r_iconst (v := 0) C dX0_countFree_7 (by decide) ?_
  refine r_istore_n [(2, .int 0), (1, .ref (gz (xG x) + 88)), (0, .ref (gz (xG x) + 80))] C dX0_countFree_8 (by decide) rfl ?_
  refine r_lv [2, 1, 0] rfl ?_
  exact LP2 4294967296 0 w h0 o0 (by omega) (by omega)
set_option maxHeartbeats 4000000 in
set_option maxRecDepth 100000 in
theorem ctX0_keepFirst_80 (l : Launch) (G : Gt) (w : Wv) (sC : Str KC XC w) (o0 : Inv RC w)  : CtV l G yX0_keepFirst cX0_keepFirst 2 ({ frames := 0, cells := 0, slots := 0, locals := 0 } : Room) [.ref (gz G + 80)] w (fun w' => Ch [83] [(80, 8)] w w' ∧ Inv RC w') := by
  refine enterV (by decide) (Nat.le_of_ble_eq_true rfl) ?_
  intro x el eG C hnm hret
  subst el; subst eG
  show V x 0 0 w 0 [(0, .ref (gz (xG x) + 80))] []
  have h0 : Ch [83] [(80, 8)] w w := Ch.rf
  have q0 : (0 : Int32).toInt = 0 := by decide
  have q1 : (1 : Int32).toInt = 1 := by decide
  have q5 : (5 : Int32).toInt = 5 := by decide
  have LP2 : ∀ (f3 : Nat) (u1 : Int32) (w4 : Wv), Ch [83] [(80, 8)] w w4 → Inv RC w4 → (0 ≤ u1.toInt ∧ u1.toInt ≤ 2147483647) → 2147483647 - u1.toInt < f3 → V x 0 0 w4 2 [(0, .ref (gz (xG x) + 80)), (1, .int u1)] [] := by
    intro f3
    induction f3 with
    | zero => intro u1 w4 h5 o6 z7 z8; exfalso; omega
    | succ f3 ih9 =>
      intro u1 w4 h5 o6 z7 z8
      refine r_iload_n 1 C dX0_keepFirst_2 rfl ?_
      refine r_iconst (v := 5) C dX0_keepFirst_3 (by decide) ?_
      have k11 := i_rng u1
      refine r_icmp_ge 44 C dX0_keepFirst_4 (by decide) (fun c10 => ?_) (fun c10 => ?_)
      · have c10' := i_le c10
        refine r_aload_n 0 C dX0_keepFirst_44 rfl ?_
        refine r_iconst (v := 1) C dX0_keepFirst_45 (by decide) ?_
        refine pfX0_42 C (kS sC h5 kc_80) (z_of (by omega)) dX0_keepFirst_46 (fun w12 e13 => ?_)
        have h14 := Ch.putF h5 e13 (by decide)
        have o15 := Inv.putk o6 e13 (by decide)
        exact hret _ _ _ dX0_keepFirst_49 ⟨h14, o15⟩
      · have c10' := i_nle c10
        refine r_aload_n 0 C dX0_keepFirst_7 rfl ?_
        refine gfX0_42 (v := (wI w4 80 8)) C (kS sC h5 kc_80) rfl dX0_keepFirst_8 ?_
        refine r_if_ne 44 C dX0_keepFirst_11 (by decide) (fun c16 => ?_) (fun c16 => ?_)
        · have c16' := i_ne c16
          refine r_aload_n 0 C dX0_keepFirst_44 rfl ?_
          refine r_iconst (v := 1) C dX0_keepFirst_45 (by decide) ?_
          refine pfX0_42 C (kS sC h5 kc_80) (z_of (by omega)) dX0_keepFirst_46 (fun w17 e18 => ?_)
          have h19 := Ch.putF h5 e18 (by decide)
          have o20 := Inv.putk o6 e18 (by decide)
          exact hret _ _ _ dX0_keepFirst_49 ⟨h19, o20⟩
        · have c16' := i_eq c16
          refine r_aload_n 0 C dX0_keepFirst_14 rfl ?_
          refine gfX0_21 83 C (kS sC h5 kc_80) (xS sC h5 xc_80_5) dX0_keepFirst_15 ?_
          refine r_iload_n 1 C dX0_keepFirst_18 rfl ?_
          refine r_iload_n 1 C dX0_keepFirst_19 rfl ?_
          refine r_aload_n 0 C dX0_keepFirst_20 rfl ?_
          refine gfX0_56 (v := (wI w 80 10)) C (kS sC h5 kc_80) (h5.I (by decide) (by decide) rfl) dX0_keepFirst_21 ?_
          have b21 := Inv.get o0 rt_80_10 (j := 10) (by decide) (by decide)
          refine r_icmp_ge 36 C dX0_keepFirst_24 (by decide) (fun c22 => ?_) (fun c22 => ?_)
          · have c22' := i_le c22
            refine r_iconst (v := 0) C dX0_keepFirst_36 (by decide) ?_
            refine r_iast C (kS sC h5 kc_83) (vin (by omega) (by omega)) dX0_keepFirst_37 (fun w23 e24 => ?_)
            have h25 := Ch.putS h5 e24 (by decide)
            have o26 := Inv.put0 o6 e24 (by decide)
            obtain ⟨i27, e28⟩ : ∃ z : Int32, u1 + Int32.ofInt 1 = z := ⟨_, rfl⟩
            have i27' := iinc_ok e28 (by decide) (by omega) (by omega)
            refine r_iinc [(1, .int i27), (0, .ref (gz (xG x) + 80))] 1 C dX0_keepFirst_38 rfl e28 (by decide) rfl ?_
            refine r_goto 2 C dX0_keepFirst_41 (by decide) ?_
            refine r_lv [1, 0] rfl ?_
            exact ih9 i27 w23 h25 o26 (by omega) (by omega)
          · have c22' := i_nle c22
            refine r_aload_n 0 C dX0_keepFirst_27 rfl ?_
            refine gfX0_17 82 C (kS sC h5 kc_80) (xS sC h5 xc_80_4) dX0_keepFirst_28 ?_
            refine r_iload_n 1 C dX0_keepFirst_31 rfl ?_
            refine r_iald C (kS sC h5 kc_82) (vin (by omega) (by omega)) dX0_keepFirst_32 ?_
            generalize (wI w4 82 (u1).toNatClampNeg) = v29
            refine r_goto 37 C dX0_keepFirst_33 (by decide) ?_
            refine r_iast C (kS sC h5 kc_83) (vin (by omega) (by omega)) dX0_keepFirst_37 (fun w30 e31 => ?_)
            have h32 := Ch.putS h5 e31 (by decide)
            have o33 := Inv.put0 o6 e31 (by decide)
            obtain ⟨i34, e35⟩ : ∃ z : Int32, u1 + Int32.ofInt 1 = z := ⟨_, rfl⟩
            have i34' := iinc_ok e35 (by decide) (by omega) (by omega)
            refine r_iinc [(1, .int i34), (0, .ref (gz (xG x) + 80))] 1 C dX0_keepFirst_38 rfl e35 (by decide) rfl ?_
            refine r_goto 2 C dX0_keepFirst_41 (by decide) ?_
            refine r_lv [1, 0] rfl ?_
            exact ih9 i34 w30 h32 o33 (by omega) (by omega)
  refine r_iconst (v := 0) C dX0_keepFirst_0 (by decide) ?_
  refine r_istore_n [(1, .int 0), (0, .ref (gz (xG x) + 80))] C dX0_keepFirst_1 (by decide) rfl ?_
  refine r_lv [1, 0] rfl ?_
  exact LP2 4294967296 0 w h0 o0 (by omega) (by omega)
set_option maxHeartbeats 4000000 in
set_option maxRecDepth 100000 in
theorem ctX0_fit_80_d5 (l : Launch) (G : Gt) (w : Wv) (sC : Str KC XC w) (o0 : Inv RC w) (a1 : Int32) (b1 : 5 ≤ a1.toInt ∧ a1.toInt ≤ 5) : CtI l G yX0_fit cX0_fit 9 .int ({ frames := 2, cells := 0, slots := 0, locals := 42 } : Room) [.ref (gz G + 80), .int a1] w (fun r w' => Ch [83] [(80, 8)] w w' ∧ Inv RC w') := by
  refine enterI (by decide) (Nat.le_of_ble_eq_true rfl) ?_
  intro x el eG C hret
  subst el; subst eG
  obtain rfl : a1 = 5 := i_of (by have q : (5 : Int32).toInt = 5 := (by decide); omega)
  show V x 0 0 w 0 [(0, .ref (gz (xG x) + 80)), (1, .int 5)] []
  have h0 : Ch [83] [(80, 8)] w w := Ch.rf
  have q0 : (0 : Int32).toInt = 0 := by decide
  have q5 : (5 : Int32).toInt = 5 := by decide
  refine r_iload_n 1 C dX0_fit_0 rfl ?_
  refine r_if_lt 9 C dX0_fit_1 (by decide) (fun c1 => ?_) (fun c1 => ?_)
  · have c1' := i_lt c1
    exfalso; omega
  · have c1' := i_nlt c1
    refine r_iload_n 1 C dX0_fit_4 rfl ?_
    refine r_iconst (v := 5) C dX0_fit_5 (by decide) ?_
    refine r_icmp_le 11 C dX0_fit_6 (by decide) (fun c2 => ?_) (fun c2 => ?_)
    · have c2' := i_le c2
      refine r_aload_n 0 C dX0_fit_11 rfl ?_
      refine gfX0_11 81 C (kS sC h0 kc_80) (xS sC h0 xc_80_3) dX0_fit_12 ?_
      refine r_iload_n 1 C dX0_fit_15 rfl ?_
      refine r_aald 3 rfl C (kS sC h0 kc_81) (vin (by omega) (by omega)) (xS sC h0 xc_81_5) dX0_fit_16 ?_
      refine r_astore_n [(2, .ref (gz (xG x) + 100)), (0, .ref (gz (xG x) + 80)), (1, .int 5)] C dX0_fit_17 (by decide) rfl ?_
      refine r_iload_n 2 C dX0_fit_18 rfl ?_
      refine r_aload_n 1 C dX0_fit_19 rfl ?_
      refine gfX0_56 (v := (wI w 80 10)) C (kS sC h0 kc_80) rfl dX0_fit_20 ?_
      have b3 := Inv.get o0 rt_80_10 (j := 10) (by decide) (by decide)
      refine r_icmp_ge 31 C dX0_fit_23 (by decide) (fun c4 => ?_) (fun c4 => ?_)
      · have c4' := i_le c4
        refine r_aload_n 1 C dX0_fit_31 rfl ?_
        refine callVV C cwX0_103_V (ctX0_keepFirst_80 _ _ w (sS sC h0) o0  ) (by decide) (kS sC h0 kc_80) rfl rfl rfl (Nat.le_of_ble_eq_true rfl) (by decide) dX0_fit_32 (fun w6 y5 => ?_)
        show V x 0 0 w6 35 [(2, .ref (gz (xG x) + 100)), (0, .ref (gz (xG x) + 80)), (1, .int 5)] []
        obtain ⟨h8, o9⟩ := y5
        have h10 := Ch.tr h0 h8 (by decide) (by decide)
        refine r_aload_n 1 C dX0_fit_35 rfl ?_
        refine r_aload_n 0 C dX0_fit_36 rfl ?_
        refine gfX0_82 (v := (wI w 100 0)) C (kS sC h10 kc_100) (h8.I (by decide) (by decide) rfl) dX0_fit_37 ?_
        refine r_aload_n 1 C dX0_fit_40 rfl ?_
        refine gfX0_46 (v := (wI w 80 9)) C (kS sC h10 kc_80) (h8.I (by decide) (by decide) rfl) dX0_fit_41 ?_
        have b11 := Inv.get o0 rt_80_9 (j := 9) (by decide) (by decide)
        refine r_aload_n 1 C dX0_fit_44 rfl ?_
        refine gfX0_56 (v := (wI w 80 10)) C (kS sC h10 kc_80) (h8.I (by decide) (by decide) rfl) dX0_fit_45 ?_
        refine r_isub C dX0_fit_48 (fun v12 e13 => ?_)
        have v12' := isub_ok e13 (by omega) (by omega)
        refine callVI C cwX0_89_V (ctX0_freeFrom_80 _ _ w6 (sS sC h10) o9 (wI w 100 0) v12 ) (by decide) (kS sC h10 kc_80) rfl rfl rfl (Nat.le_of_ble_eq_true rfl) (by decide) dX0_fit_49 (fun r16 w15 y14 => ?_)
        show V x 0 0 w15 52 [(2, .ref (gz (xG x) + 100)), (0, .ref (gz (xG x) + 80)), (1, .int 5)] [.int r16]
        obtain ⟨h17, o18⟩ := y14
        have h19 := Ch.tr h10 h17 (by decide) (by decide)
        exact hret _ _ _ _ dX0_fit_52 rfl ⟨h19, o18⟩
      · have c4' := i_nle c4
        exfalso; omega
    · have c2' := i_nle c2
      exfalso; omega
set_option maxHeartbeats 4000000 in
set_option maxRecDepth 100000 in
theorem ctX0_fitSteps_80_d4 (l : Launch) (G : Gt) (w : Wv) (sC : Str KC XC w) (o0 : Inv RC w) (a1 : Int32) (b1 : 4 ≤ a1.toInt ∧ a1.toInt ≤ 4) : CtI l G yX0_fitSteps cX0_fitSteps 4 .int ({ frames := 4, cells := 0, slots := 0, locals := 100 } : Room) [.ref (gz G + 80), .int a1] w (fun r w' => Ch [25, 26, 27, 82, 83, 101, 102] [(80, 8), (100, 0), (100, 1)] w w' ∧ Inv RC w') := by
  refine enterI (by decide) (Nat.le_of_ble_eq_true rfl) ?_
  intro x el eG C hret
  subst el; subst eG
  obtain rfl : a1 = 4 := i_of (by have q : (4 : Int32).toInt = 4 := (by decide); omega)
  show V x 0 0 w 0 [(0, .ref (gz (xG x) + 80)), (1, .int 4)] []
  have h0 : Ch [25, 26, 27, 82, 83, 101, 102] [(80, 8), (100, 0), (100, 1)] w w := Ch.rf
  have q0 : (0 : Int32).toInt = 0 := by decide
  have q1 : (1 : Int32).toInt = 1 := by decide
  have q4 : (4 : Int32).toInt = 4 := by decide
  have q5 : (5 : Int32).toInt = 5 := by decide
  have LP3 : ∀ (f4 : Nat) (u1 : Int32) (u2 : Int32) (w5 : Wv), Ch [25, 26, 27, 82, 83, 101, 102] [(80, 8), (100, 0), (100, 1)] w w5 → Inv RC w5 → (0 ≤ u2.toInt ∧ u2.toInt ≤ 2147483647) → 2147483647 - u2.toInt < f4 → V x 0 0 w5 4 [(0, .ref (gz (xG x) + 80)), (1, .int 4), (2, .int u1), (3, .int u2)] [] := by
    intro f4
    induction f4 with
    | zero => intro u1 u2 w5 h6 o7 z8 z9; exfalso; omega
    | succ f4 ih10 =>
      intro u1 u2 w5 h6 o7 z8 z9
      refine r_iload_n 3 C dX0_fitSteps_4 rfl ?_
      refine r_iconst (v := 4) C dX0_fitSteps_5 (by decide) ?_
      have k12 := i_rng u2
      refine r_icmp_gt 103 C dX0_fitSteps_6 (by decide) (fun c11 => ?_) (fun c11 => ?_)
      · have c11' := i_lt c11
        refine r_iload_n 2 C dX0_fitSteps_103 rfl ?_
        exact hret _ _ _ _ dX0_fitSteps_104 rfl ⟨h6, o7⟩
      · have c11' := i_nlt c11
        refine r_aload_n 0 C dX0_fitSteps_9 rfl ?_
        refine gfX0_11 81 C (kS sC h6 kc_80) (xS sC h6 xc_80_3) dX0_fitSteps_10 ?_
        refine r_iload_n 1 C dX0_fitSteps_13 rfl ?_
        refine r_aald 3 rfl C (kS sC h6 kc_81) (vin (by omega) (by omega)) (xS sC h6 xc_81_4) dX0_fitSteps_14 ?_
        refine r_iload_n 3 C dX0_fitSteps_15 rfl ?_
        refine callVI C cwX0_93_V (ctX6_may_97 _ _ w5 (sS sC h6) o7 u2 ) (by decide) (kS sC h6 kc_97) rfl rfl rfl (Nat.le_of_ble_eq_true rfl) (by decide) dX0_fitSteps_16 (fun r15 w14 y13 => ?_)
        show V x 0 0 w14 19 [(0, .ref (gz (xG x) + 80)), (1, .int 4), (2, .int u1), (3, .int u2)] [.int r15]
        obtain ⟨h16, o17, g18⟩ := y13
        have h19 := Ch.tr h6 h16 (by decide) (by decide)
        refine r_if_eq 97 C dX0_fitSteps_19 (by decide) (fun c20 => ?_) (fun c20 => ?_)
        · have c20' := i_eq c20
          obtain ⟨i21, e22⟩ : ∃ z : Int32, u2 + Int32.ofInt 1 = z := ⟨_, rfl⟩
          have i21' := iinc_ok e22 (by decide) (by omega) (by omega)
          refine r_iinc [(3, .int i21), (0, .ref (gz (xG x) + 80)), (1, .int 4), (2, .int u1)] 3 C dX0_fitSteps_97 rfl e22 (by decide) rfl ?_
          refine r_goto 4 C dX0_fitSteps_100 (by decide) ?_
          refine r_lv [1, 2, 3, 0] rfl ?_
          exact ih10 u1 i21 w14 h19 o17 (by omega) (by omega)
        · have c20' := i_ne c20
          refine r_aload_n 0 C dX0_fitSteps_22 rfl ?_
          refine gfX0_11 81 C (kS sC h19 kc_80) (xS sC h19 xc_80_3) dX0_fitSteps_23 ?_
          refine r_iload_n 1 C dX0_fitSteps_26 rfl ?_
          refine r_iconst (v := 1) C dX0_fitSteps_27 (by decide) ?_
          refine r_iadd C dX0_fitSteps_28 (fun v23 e24 => ?_)
          have v23' := iadd_ok e24 (by omega) (by omega)
          rcases (show v23.toInt = 5 by omega) with c25
          · obtain rfl : v23 = 5 := i_of (by omega)
            refine r_aald 3 rfl C (kS sC h19 kc_81) (vin (by omega) (by omega)) (xS sC h19 xc_81_5) dX0_fitSteps_29 ?_
            refine r_aload_n 0 C dX0_fitSteps_30 rfl ?_
            refine gfX0_11 81 C (kS sC h19 kc_80) (xS sC h19 xc_80_3) dX0_fitSteps_31 ?_
            refine r_iload_n 1 C dX0_fitSteps_34 rfl ?_
            refine r_aald 3 rfl C (kS sC h19 kc_81) (vin (by omega) (by omega)) (xS sC h19 xc_81_4) dX0_fitSteps_35 ?_
            refine callVV C cwX0_61_V (ctX6_copy_100_97 _ _ w14 (sS sC h19) o17  ) (by decide) (kS sC h19 kc_100) rfl rfl rfl (Nat.le_of_ble_eq_true rfl) (by decide) dX0_fitSteps_36 (fun w27 y26 => ?_)
            show V x 0 0 w27 39 [(0, .ref (gz (xG x) + 80)), (1, .int 4), (2, .int u1), (3, .int u2)] []
            obtain ⟨h29, o30⟩ := y26
            have h31 := Ch.tr h19 h29 (by decide) (by decide)
            refine r_aload_n 0 C dX0_fitSteps_39 rfl ?_
            refine gfX0_11 81 C (kS sC h31 kc_80) (xS sC h31 xc_80_3) dX0_fitSteps_40 ?_
            refine r_iload_n 1 C dX0_fitSteps_43 rfl ?_
            refine r_iconst (v := 1) C dX0_fitSteps_44 (by decide) ?_
            refine r_iadd C dX0_fitSteps_45 (fun v32 e33 => ?_)
            have v32' := iadd_ok e33 (by omega) (by omega)
            rcases (show v32.toInt = 5 by omega) with c34
            · obtain rfl : v32 = 5 := i_of (by omega)
              refine r_aald 3 rfl C (kS sC h31 kc_81) (vin (by omega) (by omega)) (xS sC h31 xc_81_5) dX0_fitSteps_46 ?_
              refine r_iload_n 3 C dX0_fitSteps_47 rfl ?_
              refine r_aload_n 0 C dX0_fitSteps_48 rfl ?_
              refine gfX0_58 (v := (wI w 80 11)) C (kS sC h31 kc_80) (h29.I (by decide) (by decide) (h16.I (by decide) (by decide) (h6.I (by decide) (by decide) rfl))) dX0_fitSteps_49 ?_
              refine callVV C cwX0_124_V (ctX6_pass_100 _ _ w27 (sS sC h31) o30 u2 (wI w 80 11) ) (by decide) (kS sC h31 kc_100) rfl rfl rfl (Nat.le_of_ble_eq_true rfl) (by decide) dX0_fitSteps_52 (fun w36 y35 => ?_)
              show V x 0 0 w36 55 [(0, .ref (gz (xG x) + 80)), (1, .int 4), (2, .int u1), (3, .int u2)] []
              obtain ⟨h38, o39⟩ := y35
              have h40 := Ch.tr h31 h38 (by decide) (by decide)
              refine r_aload_n 0 C dX0_fitSteps_55 rfl ?_
              refine gfX0_17 82 C (kS sC h40 kc_80) (xS sC h40 xc_80_4) dX0_fitSteps_56 ?_
              refine r_iload_n 1 C dX0_fitSteps_59 rfl ?_
              refine r_iload_n 3 C dX0_fitSteps_60 rfl ?_
              refine r_iast C (kS sC h40 kc_82) (vin (by omega) (by omega)) dX0_fitSteps_61 (fun w41 e42 => ?_)
              have h43 := Ch.putS h40 e42 (by decide)
              have o44 := Inv.put0 o39 e42 (by decide)
              refine r_iload_n 2 C dX0_fitSteps_62 rfl ?_
              refine r_aload_n 0 C dX0_fitSteps_63 rfl ?_
              refine gfX0_31 47 C (kS sC h43 kc_80) (xS sC h43 xc_80_1) dX0_fitSteps_64 ?_
              refine r_aload_n 0 C dX0_fitSteps_67 rfl ?_
              refine gfX0_11 81 C (kS sC h43 kc_80) (xS sC h43 xc_80_3) dX0_fitSteps_68 ?_
              refine r_iload_n 1 C dX0_fitSteps_71 rfl ?_
              refine r_iconst (v := 1) C dX0_fitSteps_72 (by decide) ?_
              refine r_iadd C dX0_fitSteps_73 (fun v45 e46 => ?_)
              have v45' := iadd_ok e46 (by omega) (by omega)
              rcases (show v45.toInt = 5 by omega) with c47
              · obtain rfl : v45 = 5 := i_of (by omega)
                refine r_aald 3 rfl C (kS sC h43 kc_81) (vin (by omega) (by omega)) (xS sC h43 xc_81_5) dX0_fitSteps_74 ?_
                refine r_iload_n 1 C dX0_fitSteps_75 rfl ?_
                refine r_iconst (v := 1) C dX0_fitSteps_76 (by decide) ?_
                refine r_iadd C dX0_fitSteps_77 (fun v48 e49 => ?_)
                have v48' := iadd_ok e49 (by omega) (by omega)
                refine callVI C cwX0_128_V (ctX7_fits_47_100 _ _ w41 (sS sC h43) o44 v48 ) (by decide) (kS sC h43 kc_47) rfl rfl rfl (Nat.le_of_ble_eq_true rfl) (by decide) dX0_fitSteps_78 (fun r52 w51 y50 => ?_)
                show V x 0 0 w51 81 [(0, .ref (gz (xG x) + 80)), (1, .int 4), (2, .int u1), (3, .int u2)] [.int r52, .int u1]
                obtain ⟨h53, o54, g55⟩ := y50
                have h56 := Ch.tr h43 h53 (by decide) (by decide)
                refine r_if_eq 94 C dX0_fitSteps_81 (by decide) (fun c57 => ?_) (fun c57 => ?_)
                · have c57' := i_eq c57
                  refine r_iconst (v := 0) C dX0_fitSteps_94 (by decide) ?_
                  refine r_iadd C dX0_fitSteps_95 (fun v58 e59 => ?_)
                  have k60 := i_rng u1
                  have v58' := iadd_ok e59 (by omega) (by omega)
                  refine r_istore_n [(2, .int v58), (0, .ref (gz (xG x) + 80)), (1, .int 4), (3, .int u2)] C dX0_fitSteps_96 (by decide) rfl ?_
                  obtain ⟨i61, e62⟩ : ∃ z : Int32, u2 + Int32.ofInt 1 = z := ⟨_, rfl⟩
                  have i61' := iinc_ok e62 (by decide) (by omega) (by omega)
                  refine r_iinc [(3, .int i61), (2, .int v58), (0, .ref (gz (xG x) + 80)), (1, .int 4)] 3 C dX0_fitSteps_97 rfl e62 (by decide) rfl ?_
                  refine r_goto 4 C dX0_fitSteps_100 (by decide) ?_
                  refine r_lv [2, 3, 1, 0] rfl ?_
                  exact ih10 v58 i61 w51 h56 o54 (by omega) (by omega)
                · have c57' := i_ne c57
                  refine r_aload_n 0 C dX0_fitSteps_84 rfl ?_
                  refine r_iload_n 1 C dX0_fitSteps_85 rfl ?_
                  refine r_iconst (v := 1) C dX0_fitSteps_86 (by decide) ?_
                  refine r_iadd C dX0_fitSteps_87 (fun v63 e64 => ?_)
                  have v63' := iadd_ok e64 (by omega) (by omega)
                  refine callVI C cwX0_73_V (ctX0_fit_80_d5 _ _ w51 (sS sC h56) o54 v63 (by omega)) (by decide) (kS sC h56 kc_80) rfl rfl rfl (Nat.le_of_ble_eq_true rfl) (by decide) dX0_fitSteps_88 (fun r67 w66 y65 => ?_)
                  show V x 0 0 w66 91 [(0, .ref (gz (xG x) + 80)), (1, .int 4), (2, .int u1), (3, .int u2)] [.int r67, .int u1]
                  obtain ⟨h68, o69⟩ := y65
                  have h70 := Ch.tr h56 h68 (by decide) (by decide)
                  refine r_goto 95 C dX0_fitSteps_91 (by decide) ?_
                  refine r_iadd C dX0_fitSteps_95 (fun v71 e72 => ?_)
                  refine r_istore_n [(2, .int v71), (0, .ref (gz (xG x) + 80)), (1, .int 4), (3, .int u2)] C dX0_fitSteps_96 (by decide) rfl ?_
                  obtain ⟨i73, e74⟩ : ∃ z : Int32, u2 + Int32.ofInt 1 = z := ⟨_, rfl⟩
                  have i73' := iinc_ok e74 (by decide) (by omega) (by omega)
                  refine r_iinc [(3, .int i73), (2, .int v71), (0, .ref (gz (xG x) + 80)), (1, .int 4)] 3 C dX0_fitSteps_97 rfl e74 (by decide) rfl ?_
                  refine r_goto 4 C dX0_fitSteps_100 (by decide) ?_
                  refine r_lv [2, 3, 1, 0] rfl ?_
                  exact ih10 v71 i73 w66 h70 o69 (by omega) (by omega)
  refine r_iconst (v := 0) C dX0_fitSteps_0 (by decide) ?_
  refine r_istore_n [(2, .int 0), (0, .ref (gz (xG x) + 80)), (1, .int 4)] C dX0_fitSteps_1 (by decide) rfl ?_
  refine r_iconst (v := 0) C dX0_fitSteps_2 (by decide) ?_
  refine r_istore_n [(3, .int 0), (2, .int 0), (0, .ref (gz (xG x) + 80)), (1, .int 4)] C dX0_fitSteps_3 (by decide) rfl ?_
  refine r_lv [2, 3, 1, 0] rfl ?_
  exact LP3 4294967296 0 0 w h0 o0 (by omega) (by omega)
set_option maxHeartbeats 4000000 in
set_option maxRecDepth 100000 in
theorem ctX0_fit_80_d4 (l : Launch) (G : Gt) (w : Wv) (sC : Str KC XC w) (o0 : Inv RC w) (a1 : Int32) (b1 : 4 ≤ a1.toInt ∧ a1.toInt ≤ 4) : CtI l G yX0_fit cX0_fit 9 .int ({ frames := 5, cells := 0, slots := 0, locals := 123 } : Room) [.ref (gz G + 80), .int a1] w (fun r w' => Ch [25, 26, 27, 52, 53, 54, 82, 83, 101, 102] [(80, 8), (100, 0), (100, 1)] w w' ∧ Inv RC w') := by
  refine enterI (by decide) (Nat.le_of_ble_eq_true rfl) ?_
  intro x el eG C hret
  subst el; subst eG
  obtain rfl : a1 = 4 := i_of (by have q : (4 : Int32).toInt = 4 := (by decide); omega)
  show V x 0 0 w 0 [(0, .ref (gz (xG x) + 80)), (1, .int 4)] []
  have h0 : Ch [25, 26, 27, 52, 53, 54, 82, 83, 101, 102] [(80, 8), (100, 0), (100, 1)] w w := Ch.rf
  have qm1 : ((-1) : Int32).toInt = (-1) := by decide
  have q0 : (0 : Int32).toInt = 0 := by decide
  have q4 : (4 : Int32).toInt = 4 := by decide
  have q5 : (5 : Int32).toInt = 5 := by decide
  have q42 : (42 : Int32).toInt = 42 := by decide
  refine r_iload_n 1 C dX0_fit_0 rfl ?_
  refine r_if_lt 9 C dX0_fit_1 (by decide) (fun c1 => ?_) (fun c1 => ?_)
  · have c1' := i_lt c1
    exfalso; omega
  · have c1' := i_nlt c1
    refine r_iload_n 1 C dX0_fit_4 rfl ?_
    refine r_iconst (v := 5) C dX0_fit_5 (by decide) ?_
    refine r_icmp_le 11 C dX0_fit_6 (by decide) (fun c2 => ?_) (fun c2 => ?_)
    · have c2' := i_le c2
      refine r_aload_n 0 C dX0_fit_11 rfl ?_
      refine gfX0_11 81 C (kS sC h0 kc_80) (xS sC h0 xc_80_3) dX0_fit_12 ?_
      refine r_iload_n 1 C dX0_fit_15 rfl ?_
      refine r_aald 3 rfl C (kS sC h0 kc_81) (vin (by omega) (by omega)) (xS sC h0 xc_81_4) dX0_fit_16 ?_
      refine r_astore_n [(2, .ref (gz (xG x) + 97)), (0, .ref (gz (xG x) + 80)), (1, .int 4)] C dX0_fit_17 (by decide) rfl ?_
      refine r_iload_n 2 C dX0_fit_18 rfl ?_
      refine r_aload_n 1 C dX0_fit_19 rfl ?_
      refine gfX0_56 (v := (wI w 80 10)) C (kS sC h0 kc_80) rfl dX0_fit_20 ?_
      have b3 := Inv.get o0 rt_80_10 (j := 10) (by decide) (by decide)
      refine r_icmp_ge 31 C dX0_fit_23 (by decide) (fun c4 => ?_) (fun c4 => ?_)
      · have c4' := i_le c4
        refine r_aload_n 1 C dX0_fit_31 rfl ?_
        refine callVV C cwX0_103_V (ctX0_keepFirst_80 _ _ w (sS sC h0) o0  ) (by decide) (kS sC h0 kc_80) rfl rfl rfl (Nat.le_of_ble_eq_true rfl) (by decide) dX0_fit_32 (fun w6 y5 => ?_)
        show V x 0 0 w6 35 [(2, .ref (gz (xG x) + 97)), (0, .ref (gz (xG x) + 80)), (1, .int 4)] []
        obtain ⟨h8, o9⟩ := y5
        have h10 := Ch.tr h0 h8 (by decide) (by decide)
        refine r_aload_n 1 C dX0_fit_35 rfl ?_
        refine r_aload_n 0 C dX0_fit_36 rfl ?_
        refine gfX0_82 (v := (wI w 97 0)) C (kS sC h10 kc_97) (h8.I (by decide) (by decide) rfl) dX0_fit_37 ?_
        refine r_aload_n 1 C dX0_fit_40 rfl ?_
        refine gfX0_46 (v := (wI w 80 9)) C (kS sC h10 kc_80) (h8.I (by decide) (by decide) rfl) dX0_fit_41 ?_
        have b11 := Inv.get o0 rt_80_9 (j := 9) (by decide) (by decide)
        refine r_aload_n 1 C dX0_fit_44 rfl ?_
        refine gfX0_56 (v := (wI w 80 10)) C (kS sC h10 kc_80) (h8.I (by decide) (by decide) rfl) dX0_fit_45 ?_
        refine r_isub C dX0_fit_48 (fun v12 e13 => ?_)
        have v12' := isub_ok e13 (by omega) (by omega)
        refine callVI C cwX0_89_V (ctX0_freeFrom_80 _ _ w6 (sS sC h10) o9 (wI w 97 0) v12 ) (by decide) (kS sC h10 kc_80) rfl rfl rfl (Nat.le_of_ble_eq_true rfl) (by decide) dX0_fit_49 (fun r16 w15 y14 => ?_)
        show V x 0 0 w15 52 [(2, .ref (gz (xG x) + 97)), (0, .ref (gz (xG x) + 80)), (1, .int 4)] [.int r16]
        obtain ⟨h17, o18⟩ := y14
        have h19 := Ch.tr h10 h17 (by decide) (by decide)
        exact hret _ _ _ _ dX0_fit_52 rfl ⟨h19, o18⟩
      · have c4' := i_nle c4
        refine r_iload_n 2 C dX0_fit_26 rfl ?_
        refine r_iconst (v := 5) C dX0_fit_27 (by decide) ?_
        refine r_icmp_lt 53 C dX0_fit_28 (by decide) (fun c20 => ?_) (fun c20 => ?_)
        · have c20' := i_lt c20
          refine r_iload_n 2 C dX0_fit_53 rfl ?_
          refine r_i2l C dX0_fit_54 (fun v21 e22 => ?_)
          have v21' := i2l_ok e22
          refine r_bipush (v := 42) C dX0_fit_55 (by decide) ?_
          refine r_lshl C dX0_fit_57 (fun v23 e24 => ?_)
          refine r_aload_n 0 C dX0_fit_58 rfl ?_
          refine callVL C cwX0_106_V (ctX6_places_97 _ _ w (sS sC h0) o0  ) (by decide) (kS sC h0 kc_97) rfl rfl rfl (Nat.le_of_ble_eq_true rfl) (by decide) dX0_fit_59 (fun r27 w26 y25 => ?_)
          show V x 0 0 w26 62 [(2, .ref (gz (xG x) + 97)), (0, .ref (gz (xG x) + 80)), (1, .int 4)] [.long r27, .long v23]
          obtain ⟨h28, o29⟩ := y25
          have h30 := Ch.tr h0 h28 (by decide) (by decide)
          refine r_lor C dX0_fit_62 (fun v31 e32 => ?_)
          refine r_lstore_n [(3, .long v31), (2, .ref (gz (xG x) + 97)), (0, .ref (gz (xG x) + 80)), (1, .int 4)] C dX0_fit_63 (by decide) rfl ?_
          refine r_aload_n 1 C dX0_fit_64 rfl ?_
          refine callVL C cwX0_110_V (ctX6_goals_97 _ _ w26 (sS sC h30) o29  ) (by decide) (kS sC h30 kc_97) rfl rfl rfl (Nat.le_of_ble_eq_true rfl) (by decide) dX0_fit_65 (fun r35 w34 y33 => ?_)
          show V x 0 0 w34 68 [(3, .long v31), (2, .ref (gz (xG x) + 97)), (0, .ref (gz (xG x) + 80)), (1, .int 4)] [.long r35]
          obtain ⟨h36, o37⟩ := y33
          have h38 := Ch.tr h30 h36 (by decide) (by decide)
          refine r_lstore [(5, .long r35), (3, .long v31), (2, .ref (gz (xG x) + 97)), (0, .ref (gz (xG x) + 80)), (1, .int 4)] C dX0_fit_68 (by decide) rfl ?_
          refine r_aload_n 3 C dX0_fit_70 rfl ?_
          refine gfX0_35 51 C (kS sC h38 kc_80) (xS sC h38 xc_80_7) dX0_fit_71 ?_
          refine r_lload_n 1 C dX0_fit_74 rfl ?_
          refine r_lload 0 C dX0_fit_75 rfl ?_
          refine callVI C cwX0_113_V (ctX3_value_51 _ _ w34 (sS sC h38) o37 v31 r35 ) (by decide) (kS sC h38 kc_51) rfl rfl rfl (Nat.le_of_ble_eq_true rfl) (by decide) dX0_fit_77 (fun r41 w40 y39 => ?_)
          show V x 0 0 w40 80 [(5, .long r35), (3, .long v31), (2, .ref (gz (xG x) + 97)), (0, .ref (gz (xG x) + 80)), (1, .int 4)] [.int r41]
          obtain ⟨h42, o43⟩ := y39
          have h44 := Ch.tr h38 h42 (by decide) (by decide)
          refine r_istore [(7, .int r41), (5, .long r35), (3, .long v31), (2, .ref (gz (xG x) + 97)), (0, .ref (gz (xG x) + 80)), (1, .int 4)] C dX0_fit_80 (by decide) rfl ?_
          refine r_iload 0 C dX0_fit_82 rfl ?_
          refine r_iconst (v := (-1)) C dX0_fit_84 (by decide) ?_
          refine r_icmp_eq 91 C dX0_fit_85 (by decide) (fun c45 => ?_) (fun c45 => ?_)
          · have c45' := i_eq c45
            refine r_aload_n 4 C dX0_fit_91 rfl ?_
            refine r_iload_n 5 C dX0_fit_92 rfl ?_
            refine callVI C cwX0_117_V (ctX0_fitSteps_80_d4 _ _ w40 (sS sC h44) o43 4 (by omega)) (by decide) (kS sC h44 kc_80) rfl rfl rfl (Nat.le_of_ble_eq_true rfl) (by decide) dX0_fit_93 (fun r48 w47 y46 => ?_)
            show V x 0 0 w47 96 [(7, .int r41), (5, .long r35), (3, .long v31), (2, .ref (gz (xG x) + 97)), (0, .ref (gz (xG x) + 80)), (1, .int 4)] [.int r48]
            obtain ⟨h49, o50⟩ := y46
            have h51 := Ch.tr h44 h49 (by decide) (by decide)
            refine r_istore [(8, .int r48), (7, .int r41), (5, .long r35), (3, .long v31), (2, .ref (gz (xG x) + 97)), (0, .ref (gz (xG x) + 80)), (1, .int 4)] C dX0_fit_96 (by decide) rfl ?_
            refine r_aload_n 5 C dX0_fit_98 rfl ?_
            refine gfX0_35 51 C (kS sC h51 kc_80) (xS sC h51 xc_80_7) dX0_fit_99 ?_
            refine r_lload_n 3 C dX0_fit_102 rfl ?_
            refine r_lload 2 C dX0_fit_103 rfl ?_
            refine r_iload 0 C dX0_fit_105 rfl ?_
            refine callVV C cwX0_120_V (ctX3_put_51 _ _ w47 (sS sC h51) o50 v31 r35 r48 ) (by decide) (kS sC h51 kc_51) rfl rfl rfl (Nat.le_of_ble_eq_true rfl) (by decide) dX0_fit_107 (fun w53 y52 => ?_)
            show V x 0 0 w53 110 [(8, .int r48), (7, .int r41), (5, .long r35), (3, .long v31), (2, .ref (gz (xG x) + 97)), (0, .ref (gz (xG x) + 80)), (1, .int 4)] []
            obtain ⟨h55, o56⟩ := y52
            have h57 := Ch.tr h51 h55 (by decide) (by decide)
            refine r_iload 0 C dX0_fit_110 rfl ?_
            exact hret _ _ _ _ dX0_fit_112 rfl ⟨h57, o56⟩
          · have c45' := i_ne c45
            refine r_iload 0 C dX0_fit_88 rfl ?_
            exact hret _ _ _ _ dX0_fit_90 rfl ⟨h44, o43⟩
        · have c20' := i_nlt c20
          exfalso; omega
    · have c2' := i_nle c2
      exfalso; omega
set_option maxHeartbeats 4000000 in
set_option maxRecDepth 100000 in
theorem ctX0_fitSteps_80_d3 (l : Launch) (G : Gt) (w : Wv) (sC : Str KC XC w) (o0 : Inv RC w) (a1 : Int32) (b1 : 3 ≤ a1.toInt ∧ a1.toInt ≤ 3) : CtI l G yX0_fitSteps cX0_fitSteps 4 .int ({ frames := 6, cells := 0, slots := 0, locals := 151 } : Room) [.ref (gz G + 80), .int a1] w (fun r w' => Ch [25, 26, 27, 52, 53, 54, 82, 83, 98, 99, 101, 102] [(80, 8), (97, 0), (97, 1), (100, 0), (100, 1)] w w' ∧ Inv RC w') := by
  refine enterI (by decide) (Nat.le_of_ble_eq_true rfl) ?_
  intro x el eG C hret
  subst el; subst eG
  obtain rfl : a1 = 3 := i_of (by have q : (3 : Int32).toInt = 3 := (by decide); omega)
  show V x 0 0 w 0 [(0, .ref (gz (xG x) + 80)), (1, .int 3)] []
  have h0 : Ch [25, 26, 27, 52, 53, 54, 82, 83, 98, 99, 101, 102] [(80, 8), (97, 0), (97, 1), (100, 0), (100, 1)] w w := Ch.rf
  have q0 : (0 : Int32).toInt = 0 := by decide
  have q1 : (1 : Int32).toInt = 1 := by decide
  have q3 : (3 : Int32).toInt = 3 := by decide
  have q4 : (4 : Int32).toInt = 4 := by decide
  have LP3 : ∀ (f4 : Nat) (u1 : Int32) (u2 : Int32) (w5 : Wv), Ch [25, 26, 27, 52, 53, 54, 82, 83, 98, 99, 101, 102] [(80, 8), (97, 0), (97, 1), (100, 0), (100, 1)] w w5 → Inv RC w5 → (0 ≤ u2.toInt ∧ u2.toInt ≤ 2147483647) → 2147483647 - u2.toInt < f4 → V x 0 0 w5 4 [(0, .ref (gz (xG x) + 80)), (1, .int 3), (2, .int u1), (3, .int u2)] [] := by
    intro f4
    induction f4 with
    | zero => intro u1 u2 w5 h6 o7 z8 z9; exfalso; omega
    | succ f4 ih10 =>
      intro u1 u2 w5 h6 o7 z8 z9
      refine r_iload_n 3 C dX0_fitSteps_4 rfl ?_
      refine r_iconst (v := 4) C dX0_fitSteps_5 (by decide) ?_
      have k12 := i_rng u2
      refine r_icmp_gt 103 C dX0_fitSteps_6 (by decide) (fun c11 => ?_) (fun c11 => ?_)
      · have c11' := i_lt c11
        refine r_iload_n 2 C dX0_fitSteps_103 rfl ?_
        exact hret _ _ _ _ dX0_fitSteps_104 rfl ⟨h6, o7⟩
      · have c11' := i_nlt c11
        refine r_aload_n 0 C dX0_fitSteps_9 rfl ?_
        refine gfX0_11 81 C (kS sC h6 kc_80) (xS sC h6 xc_80_3) dX0_fitSteps_10 ?_
        refine r_iload_n 1 C dX0_fitSteps_13 rfl ?_
        refine r_aald 3 rfl C (kS sC h6 kc_81) (vin (by omega) (by omega)) (xS sC h6 xc_81_3) dX0_fitSteps_14 ?_
        refine r_iload_n 3 C dX0_fitSteps_15 rfl ?_
        refine callVI C cwX0_93_V (ctX6_may_94 _ _ w5 (sS sC h6) o7 u2 ) (by decide) (kS sC h6 kc_94) rfl rfl rfl (Nat.le_of_ble_eq_true rfl) (by decide) dX0_fitSteps_16 (fun r15 w14 y13 => ?_)
        show V x 0 0 w14 19 [(0, .ref (gz (xG x) + 80)), (1, .int 3), (2, .int u1), (3, .int u2)] [.int r15]
        obtain ⟨h16, o17, g18⟩ := y13
        have h19 := Ch.tr h6 h16 (by decide) (by decide)
        refine r_if_eq 97 C dX0_fitSteps_19 (by decide) (fun c20 => ?_) (fun c20 => ?_)
        · have c20' := i_eq c20
          obtain ⟨i21, e22⟩ : ∃ z : Int32, u2 + Int32.ofInt 1 = z := ⟨_, rfl⟩
          have i21' := iinc_ok e22 (by decide) (by omega) (by omega)
          refine r_iinc [(3, .int i21), (0, .ref (gz (xG x) + 80)), (1, .int 3), (2, .int u1)] 3 C dX0_fitSteps_97 rfl e22 (by decide) rfl ?_
          refine r_goto 4 C dX0_fitSteps_100 (by decide) ?_
          refine r_lv [1, 2, 3, 0] rfl ?_
          exact ih10 u1 i21 w14 h19 o17 (by omega) (by omega)
        · have c20' := i_ne c20
          refine r_aload_n 0 C dX0_fitSteps_22 rfl ?_
          refine gfX0_11 81 C (kS sC h19 kc_80) (xS sC h19 xc_80_3) dX0_fitSteps_23 ?_
          refine r_iload_n 1 C dX0_fitSteps_26 rfl ?_
          refine r_iconst (v := 1) C dX0_fitSteps_27 (by decide) ?_
          refine r_iadd C dX0_fitSteps_28 (fun v23 e24 => ?_)
          have v23' := iadd_ok e24 (by omega) (by omega)
          rcases (show v23.toInt = 4 by omega) with c25
          · obtain rfl : v23 = 4 := i_of (by omega)
            refine r_aald 3 rfl C (kS sC h19 kc_81) (vin (by omega) (by omega)) (xS sC h19 xc_81_4) dX0_fitSteps_29 ?_
            refine r_aload_n 0 C dX0_fitSteps_30 rfl ?_
            refine gfX0_11 81 C (kS sC h19 kc_80) (xS sC h19 xc_80_3) dX0_fitSteps_31 ?_
            refine r_iload_n 1 C dX0_fitSteps_34 rfl ?_
            refine r_aald 3 rfl C (kS sC h19 kc_81) (vin (by omega) (by omega)) (xS sC h19 xc_81_3) dX0_fitSteps_35 ?_
            refine callVV C cwX0_61_V (ctX6_copy_97_94 _ _ w14 (sS sC h19) o17  ) (by decide) (kS sC h19 kc_97) rfl rfl rfl (Nat.le_of_ble_eq_true rfl) (by decide) dX0_fitSteps_36 (fun w27 y26 => ?_)
            show V x 0 0 w27 39 [(0, .ref (gz (xG x) + 80)), (1, .int 3), (2, .int u1), (3, .int u2)] []
            obtain ⟨h29, o30⟩ := y26
            have h31 := Ch.tr h19 h29 (by decide) (by decide)
            refine r_aload_n 0 C dX0_fitSteps_39 rfl ?_
            refine gfX0_11 81 C (kS sC h31 kc_80) (xS sC h31 xc_80_3) dX0_fitSteps_40 ?_
            refine r_iload_n 1 C dX0_fitSteps_43 rfl ?_
            refine r_iconst (v := 1) C dX0_fitSteps_44 (by decide) ?_
            refine r_iadd C dX0_fitSteps_45 (fun v32 e33 => ?_)
            have v32' := iadd_ok e33 (by omega) (by omega)
            rcases (show v32.toInt = 4 by omega) with c34
            · obtain rfl : v32 = 4 := i_of (by omega)
              refine r_aald 3 rfl C (kS sC h31 kc_81) (vin (by omega) (by omega)) (xS sC h31 xc_81_4) dX0_fitSteps_46 ?_
              refine r_iload_n 3 C dX0_fitSteps_47 rfl ?_
              refine r_aload_n 0 C dX0_fitSteps_48 rfl ?_
              refine gfX0_58 (v := (wI w 80 11)) C (kS sC h31 kc_80) (h29.I (by decide) (by decide) (h16.I (by decide) (by decide) (h6.I (by decide) (by decide) rfl))) dX0_fitSteps_49 ?_
              refine callVV C cwX0_124_V (ctX6_pass_97 _ _ w27 (sS sC h31) o30 u2 (wI w 80 11) ) (by decide) (kS sC h31 kc_97) rfl rfl rfl (Nat.le_of_ble_eq_true rfl) (by decide) dX0_fitSteps_52 (fun w36 y35 => ?_)
              show V x 0 0 w36 55 [(0, .ref (gz (xG x) + 80)), (1, .int 3), (2, .int u1), (3, .int u2)] []
              obtain ⟨h38, o39⟩ := y35
              have h40 := Ch.tr h31 h38 (by decide) (by decide)
              refine r_aload_n 0 C dX0_fitSteps_55 rfl ?_
              refine gfX0_17 82 C (kS sC h40 kc_80) (xS sC h40 xc_80_4) dX0_fitSteps_56 ?_
              refine r_iload_n 1 C dX0_fitSteps_59 rfl ?_
              refine r_iload_n 3 C dX0_fitSteps_60 rfl ?_
              refine r_iast C (kS sC h40 kc_82) (vin (by omega) (by omega)) dX0_fitSteps_61 (fun w41 e42 => ?_)
              have h43 := Ch.putS h40 e42 (by decide)
              have o44 := Inv.put0 o39 e42 (by decide)
              refine r_iload_n 2 C dX0_fitSteps_62 rfl ?_
              refine r_aload_n 0 C dX0_fitSteps_63 rfl ?_
              refine gfX0_31 47 C (kS sC h43 kc_80) (xS sC h43 xc_80_1) dX0_fitSteps_64 ?_
              refine r_aload_n 0 C dX0_fitSteps_67 rfl ?_
              refine gfX0_11 81 C (kS sC h43 kc_80) (xS sC h43 xc_80_3) dX0_fitSteps_68 ?_
              refine r_iload_n 1 C dX0_fitSteps_71 rfl ?_
              refine r_iconst (v := 1) C dX0_fitSteps_72 (by decide) ?_
              refine r_iadd C dX0_fitSteps_73 (fun v45 e46 => ?_)
              have v45' := iadd_ok e46 (by omega) (by omega)
              rcases (show v45.toInt = 4 by omega) with c47
              · obtain rfl : v45 = 4 := i_of (by omega)
                refine r_aald 3 rfl C (kS sC h43 kc_81) (vin (by omega) (by omega)) (xS sC h43 xc_81_4) dX0_fitSteps_74 ?_
                refine r_iload_n 1 C dX0_fitSteps_75 rfl ?_
                refine r_iconst (v := 1) C dX0_fitSteps_76 (by decide) ?_
                refine r_iadd C dX0_fitSteps_77 (fun v48 e49 => ?_)
                have v48' := iadd_ok e49 (by omega) (by omega)
                refine callVI C cwX0_128_V (ctX7_fits_47_97 _ _ w41 (sS sC h43) o44 v48 ) (by decide) (kS sC h43 kc_47) rfl rfl rfl (Nat.le_of_ble_eq_true rfl) (by decide) dX0_fitSteps_78 (fun r52 w51 y50 => ?_)
                show V x 0 0 w51 81 [(0, .ref (gz (xG x) + 80)), (1, .int 3), (2, .int u1), (3, .int u2)] [.int r52, .int u1]
                obtain ⟨h53, o54, g55⟩ := y50
                have h56 := Ch.tr h43 h53 (by decide) (by decide)
                refine r_if_eq 94 C dX0_fitSteps_81 (by decide) (fun c57 => ?_) (fun c57 => ?_)
                · have c57' := i_eq c57
                  refine r_iconst (v := 0) C dX0_fitSteps_94 (by decide) ?_
                  refine r_iadd C dX0_fitSteps_95 (fun v58 e59 => ?_)
                  have k60 := i_rng u1
                  have v58' := iadd_ok e59 (by omega) (by omega)
                  refine r_istore_n [(2, .int v58), (0, .ref (gz (xG x) + 80)), (1, .int 3), (3, .int u2)] C dX0_fitSteps_96 (by decide) rfl ?_
                  obtain ⟨i61, e62⟩ : ∃ z : Int32, u2 + Int32.ofInt 1 = z := ⟨_, rfl⟩
                  have i61' := iinc_ok e62 (by decide) (by omega) (by omega)
                  refine r_iinc [(3, .int i61), (2, .int v58), (0, .ref (gz (xG x) + 80)), (1, .int 3)] 3 C dX0_fitSteps_97 rfl e62 (by decide) rfl ?_
                  refine r_goto 4 C dX0_fitSteps_100 (by decide) ?_
                  refine r_lv [2, 3, 1, 0] rfl ?_
                  exact ih10 v58 i61 w51 h56 o54 (by omega) (by omega)
                · have c57' := i_ne c57
                  refine r_aload_n 0 C dX0_fitSteps_84 rfl ?_
                  refine r_iload_n 1 C dX0_fitSteps_85 rfl ?_
                  refine r_iconst (v := 1) C dX0_fitSteps_86 (by decide) ?_
                  refine r_iadd C dX0_fitSteps_87 (fun v63 e64 => ?_)
                  have v63' := iadd_ok e64 (by omega) (by omega)
                  refine callVI C cwX0_73_V (ctX0_fit_80_d4 _ _ w51 (sS sC h56) o54 v63 (by omega)) (by decide) (kS sC h56 kc_80) rfl rfl rfl (Nat.le_of_ble_eq_true rfl) (by decide) dX0_fitSteps_88 (fun r67 w66 y65 => ?_)
                  show V x 0 0 w66 91 [(0, .ref (gz (xG x) + 80)), (1, .int 3), (2, .int u1), (3, .int u2)] [.int r67, .int u1]
                  obtain ⟨h68, o69⟩ := y65
                  have h70 := Ch.tr h56 h68 (by decide) (by decide)
                  refine r_goto 95 C dX0_fitSteps_91 (by decide) ?_
                  refine r_iadd C dX0_fitSteps_95 (fun v71 e72 => ?_)
                  refine r_istore_n [(2, .int v71), (0, .ref (gz (xG x) + 80)), (1, .int 3), (3, .int u2)] C dX0_fitSteps_96 (by decide) rfl ?_
                  obtain ⟨i73, e74⟩ : ∃ z : Int32, u2 + Int32.ofInt 1 = z := ⟨_, rfl⟩
                  have i73' := iinc_ok e74 (by decide) (by omega) (by omega)
                  refine r_iinc [(3, .int i73), (2, .int v71), (0, .ref (gz (xG x) + 80)), (1, .int 3)] 3 C dX0_fitSteps_97 rfl e74 (by decide) rfl ?_
                  refine r_goto 4 C dX0_fitSteps_100 (by decide) ?_
                  refine r_lv [2, 3, 1, 0] rfl ?_
                  exact ih10 v71 i73 w66 h70 o69 (by omega) (by omega)
  refine r_iconst (v := 0) C dX0_fitSteps_0 (by decide) ?_
  refine r_istore_n [(2, .int 0), (0, .ref (gz (xG x) + 80)), (1, .int 3)] C dX0_fitSteps_1 (by decide) rfl ?_
  refine r_iconst (v := 0) C dX0_fitSteps_2 (by decide) ?_
  refine r_istore_n [(3, .int 0), (2, .int 0), (0, .ref (gz (xG x) + 80)), (1, .int 3)] C dX0_fitSteps_3 (by decide) rfl ?_
  refine r_lv [2, 3, 1, 0] rfl ?_
  exact LP3 4294967296 0 0 w h0 o0 (by omega) (by omega)
set_option maxHeartbeats 4000000 in
set_option maxRecDepth 100000 in
theorem ctX0_fit_80_d3 (l : Launch) (G : Gt) (w : Wv) (sC : Str KC XC w) (o0 : Inv RC w) (a1 : Int32) (b1 : 3 ≤ a1.toInt ∧ a1.toInt ≤ 3) : CtI l G yX0_fit cX0_fit 9 .int ({ frames := 7, cells := 0, slots := 0, locals := 174 } : Room) [.ref (gz G + 80), .int a1] w (fun r w' => Ch [25, 26, 27, 52, 53, 54, 82, 83, 98, 99, 101, 102] [(80, 8), (97, 0), (97, 1), (100, 0), (100, 1)] w w' ∧ Inv RC w') := by
  refine enterI (by decide) (Nat.le_of_ble_eq_true rfl) ?_
  intro x el eG C hret
  subst el; subst eG
  obtain rfl : a1 = 3 := i_of (by have q : (3 : Int32).toInt = 3 := (by decide); omega)
  show V x 0 0 w 0 [(0, .ref (gz (xG x) + 80)), (1, .int 3)] []
  have h0 : Ch [25, 26, 27, 52, 53, 54, 82, 83, 98, 99, 101, 102] [(80, 8), (97, 0), (97, 1), (100, 0), (100, 1)] w w := Ch.rf
  have qm1 : ((-1) : Int32).toInt = (-1) := by decide
  have q0 : (0 : Int32).toInt = 0 := by decide
  have q3 : (3 : Int32).toInt = 3 := by decide
  have q5 : (5 : Int32).toInt = 5 := by decide
  have q42 : (42 : Int32).toInt = 42 := by decide
  refine r_iload_n 1 C dX0_fit_0 rfl ?_
  refine r_if_lt 9 C dX0_fit_1 (by decide) (fun c1 => ?_) (fun c1 => ?_)
  · have c1' := i_lt c1
    exfalso; omega
  · have c1' := i_nlt c1
    refine r_iload_n 1 C dX0_fit_4 rfl ?_
    refine r_iconst (v := 5) C dX0_fit_5 (by decide) ?_
    refine r_icmp_le 11 C dX0_fit_6 (by decide) (fun c2 => ?_) (fun c2 => ?_)
    · have c2' := i_le c2
      refine r_aload_n 0 C dX0_fit_11 rfl ?_
      refine gfX0_11 81 C (kS sC h0 kc_80) (xS sC h0 xc_80_3) dX0_fit_12 ?_
      refine r_iload_n 1 C dX0_fit_15 rfl ?_
      refine r_aald 3 rfl C (kS sC h0 kc_81) (vin (by omega) (by omega)) (xS sC h0 xc_81_3) dX0_fit_16 ?_
      refine r_astore_n [(2, .ref (gz (xG x) + 94)), (0, .ref (gz (xG x) + 80)), (1, .int 3)] C dX0_fit_17 (by decide) rfl ?_
      refine r_iload_n 2 C dX0_fit_18 rfl ?_
      refine r_aload_n 1 C dX0_fit_19 rfl ?_
      refine gfX0_56 (v := (wI w 80 10)) C (kS sC h0 kc_80) rfl dX0_fit_20 ?_
      have b3 := Inv.get o0 rt_80_10 (j := 10) (by decide) (by decide)
      refine r_icmp_ge 31 C dX0_fit_23 (by decide) (fun c4 => ?_) (fun c4 => ?_)
      · have c4' := i_le c4
        refine r_aload_n 1 C dX0_fit_31 rfl ?_
        refine callVV C cwX0_103_V (ctX0_keepFirst_80 _ _ w (sS sC h0) o0  ) (by decide) (kS sC h0 kc_80) rfl rfl rfl (Nat.le_of_ble_eq_true rfl) (by decide) dX0_fit_32 (fun w6 y5 => ?_)
        show V x 0 0 w6 35 [(2, .ref (gz (xG x) + 94)), (0, .ref (gz (xG x) + 80)), (1, .int 3)] []
        obtain ⟨h8, o9⟩ := y5
        have h10 := Ch.tr h0 h8 (by decide) (by decide)
        refine r_aload_n 1 C dX0_fit_35 rfl ?_
        refine r_aload_n 0 C dX0_fit_36 rfl ?_
        refine gfX0_82 (v := (wI w 94 0)) C (kS sC h10 kc_94) (h8.I (by decide) (by decide) rfl) dX0_fit_37 ?_
        refine r_aload_n 1 C dX0_fit_40 rfl ?_
        refine gfX0_46 (v := (wI w 80 9)) C (kS sC h10 kc_80) (h8.I (by decide) (by decide) rfl) dX0_fit_41 ?_
        have b11 := Inv.get o0 rt_80_9 (j := 9) (by decide) (by decide)
        refine r_aload_n 1 C dX0_fit_44 rfl ?_
        refine gfX0_56 (v := (wI w 80 10)) C (kS sC h10 kc_80) (h8.I (by decide) (by decide) rfl) dX0_fit_45 ?_
        refine r_isub C dX0_fit_48 (fun v12 e13 => ?_)
        have v12' := isub_ok e13 (by omega) (by omega)
        refine callVI C cwX0_89_V (ctX0_freeFrom_80 _ _ w6 (sS sC h10) o9 (wI w 94 0) v12 ) (by decide) (kS sC h10 kc_80) rfl rfl rfl (Nat.le_of_ble_eq_true rfl) (by decide) dX0_fit_49 (fun r16 w15 y14 => ?_)
        show V x 0 0 w15 52 [(2, .ref (gz (xG x) + 94)), (0, .ref (gz (xG x) + 80)), (1, .int 3)] [.int r16]
        obtain ⟨h17, o18⟩ := y14
        have h19 := Ch.tr h10 h17 (by decide) (by decide)
        exact hret _ _ _ _ dX0_fit_52 rfl ⟨h19, o18⟩
      · have c4' := i_nle c4
        refine r_iload_n 2 C dX0_fit_26 rfl ?_
        refine r_iconst (v := 5) C dX0_fit_27 (by decide) ?_
        refine r_icmp_lt 53 C dX0_fit_28 (by decide) (fun c20 => ?_) (fun c20 => ?_)
        · have c20' := i_lt c20
          refine r_iload_n 2 C dX0_fit_53 rfl ?_
          refine r_i2l C dX0_fit_54 (fun v21 e22 => ?_)
          have v21' := i2l_ok e22
          refine r_bipush (v := 42) C dX0_fit_55 (by decide) ?_
          refine r_lshl C dX0_fit_57 (fun v23 e24 => ?_)
          refine r_aload_n 0 C dX0_fit_58 rfl ?_
          refine callVL C cwX0_106_V (ctX6_places_94 _ _ w (sS sC h0) o0  ) (by decide) (kS sC h0 kc_94) rfl rfl rfl (Nat.le_of_ble_eq_true rfl) (by decide) dX0_fit_59 (fun r27 w26 y25 => ?_)
          show V x 0 0 w26 62 [(2, .ref (gz (xG x) + 94)), (0, .ref (gz (xG x) + 80)), (1, .int 3)] [.long r27, .long v23]
          obtain ⟨h28, o29⟩ := y25
          have h30 := Ch.tr h0 h28 (by decide) (by decide)
          refine r_lor C dX0_fit_62 (fun v31 e32 => ?_)
          refine r_lstore_n [(3, .long v31), (2, .ref (gz (xG x) + 94)), (0, .ref (gz (xG x) + 80)), (1, .int 3)] C dX0_fit_63 (by decide) rfl ?_
          refine r_aload_n 1 C dX0_fit_64 rfl ?_
          refine callVL C cwX0_110_V (ctX6_goals_94 _ _ w26 (sS sC h30) o29  ) (by decide) (kS sC h30 kc_94) rfl rfl rfl (Nat.le_of_ble_eq_true rfl) (by decide) dX0_fit_65 (fun r35 w34 y33 => ?_)
          show V x 0 0 w34 68 [(3, .long v31), (2, .ref (gz (xG x) + 94)), (0, .ref (gz (xG x) + 80)), (1, .int 3)] [.long r35]
          obtain ⟨h36, o37⟩ := y33
          have h38 := Ch.tr h30 h36 (by decide) (by decide)
          refine r_lstore [(5, .long r35), (3, .long v31), (2, .ref (gz (xG x) + 94)), (0, .ref (gz (xG x) + 80)), (1, .int 3)] C dX0_fit_68 (by decide) rfl ?_
          refine r_aload_n 3 C dX0_fit_70 rfl ?_
          refine gfX0_35 51 C (kS sC h38 kc_80) (xS sC h38 xc_80_7) dX0_fit_71 ?_
          refine r_lload_n 1 C dX0_fit_74 rfl ?_
          refine r_lload 0 C dX0_fit_75 rfl ?_
          refine callVI C cwX0_113_V (ctX3_value_51 _ _ w34 (sS sC h38) o37 v31 r35 ) (by decide) (kS sC h38 kc_51) rfl rfl rfl (Nat.le_of_ble_eq_true rfl) (by decide) dX0_fit_77 (fun r41 w40 y39 => ?_)
          show V x 0 0 w40 80 [(5, .long r35), (3, .long v31), (2, .ref (gz (xG x) + 94)), (0, .ref (gz (xG x) + 80)), (1, .int 3)] [.int r41]
          obtain ⟨h42, o43⟩ := y39
          have h44 := Ch.tr h38 h42 (by decide) (by decide)
          refine r_istore [(7, .int r41), (5, .long r35), (3, .long v31), (2, .ref (gz (xG x) + 94)), (0, .ref (gz (xG x) + 80)), (1, .int 3)] C dX0_fit_80 (by decide) rfl ?_
          refine r_iload 0 C dX0_fit_82 rfl ?_
          refine r_iconst (v := (-1)) C dX0_fit_84 (by decide) ?_
          refine r_icmp_eq 91 C dX0_fit_85 (by decide) (fun c45 => ?_) (fun c45 => ?_)
          · have c45' := i_eq c45
            refine r_aload_n 4 C dX0_fit_91 rfl ?_
            refine r_iload_n 5 C dX0_fit_92 rfl ?_
            refine callVI C cwX0_117_V (ctX0_fitSteps_80_d3 _ _ w40 (sS sC h44) o43 3 (by omega)) (by decide) (kS sC h44 kc_80) rfl rfl rfl (Nat.le_of_ble_eq_true rfl) (by decide) dX0_fit_93 (fun r48 w47 y46 => ?_)
            show V x 0 0 w47 96 [(7, .int r41), (5, .long r35), (3, .long v31), (2, .ref (gz (xG x) + 94)), (0, .ref (gz (xG x) + 80)), (1, .int 3)] [.int r48]
            obtain ⟨h49, o50⟩ := y46
            have h51 := Ch.tr h44 h49 (by decide) (by decide)
            refine r_istore [(8, .int r48), (7, .int r41), (5, .long r35), (3, .long v31), (2, .ref (gz (xG x) + 94)), (0, .ref (gz (xG x) + 80)), (1, .int 3)] C dX0_fit_96 (by decide) rfl ?_
            refine r_aload_n 5 C dX0_fit_98 rfl ?_
            refine gfX0_35 51 C (kS sC h51 kc_80) (xS sC h51 xc_80_7) dX0_fit_99 ?_
            refine r_lload_n 3 C dX0_fit_102 rfl ?_
            refine r_lload 2 C dX0_fit_103 rfl ?_
            refine r_iload 0 C dX0_fit_105 rfl ?_
            refine callVV C cwX0_120_V (ctX3_put_51 _ _ w47 (sS sC h51) o50 v31 r35 r48 ) (by decide) (kS sC h51 kc_51) rfl rfl rfl (Nat.le_of_ble_eq_true rfl) (by decide) dX0_fit_107 (fun w53 y52 => ?_)
            show V x 0 0 w53 110 [(8, .int r48), (7, .int r41), (5, .long r35), (3, .long v31), (2, .ref (gz (xG x) + 94)), (0, .ref (gz (xG x) + 80)), (1, .int 3)] []
            obtain ⟨h55, o56⟩ := y52
            have h57 := Ch.tr h51 h55 (by decide) (by decide)
            refine r_iload 0 C dX0_fit_110 rfl ?_
            exact hret _ _ _ _ dX0_fit_112 rfl ⟨h57, o56⟩
          · have c45' := i_ne c45
            refine r_iload 0 C dX0_fit_88 rfl ?_
            exact hret _ _ _ _ dX0_fit_90 rfl ⟨h44, o43⟩
        · have c20' := i_nlt c20
          exfalso; omega
    · have c2' := i_nle c2
      exfalso; omega
set_option maxHeartbeats 4000000 in
set_option maxRecDepth 100000 in
theorem ctX0_fitSteps_80_d2 (l : Launch) (G : Gt) (w : Wv) (sC : Str KC XC w) (o0 : Inv RC w) (a1 : Int32) (b1 : 2 ≤ a1.toInt ∧ a1.toInt ≤ 2) : CtI l G yX0_fitSteps cX0_fitSteps 4 .int ({ frames := 8, cells := 0, slots := 0, locals := 202 } : Room) [.ref (gz G + 80), .int a1] w (fun r w' => Ch [25, 26, 27, 52, 53, 54, 82, 83, 95, 96, 98, 99, 101, 102] [(80, 8), (94, 0), (94, 1), (97, 0), (97, 1), (100, 0), (100, 1)] w w' ∧ Inv RC w') := by
  refine enterI (by decide) (Nat.le_of_ble_eq_true rfl) ?_
  intro x el eG C hret
  subst el; subst eG
  obtain rfl : a1 = 2 := i_of (by have q : (2 : Int32).toInt = 2 := (by decide); omega)
  show V x 0 0 w 0 [(0, .ref (gz (xG x) + 80)), (1, .int 2)] []
  have h0 : Ch [25, 26, 27, 52, 53, 54, 82, 83, 95, 96, 98, 99, 101, 102] [(80, 8), (94, 0), (94, 1), (97, 0), (97, 1), (100, 0), (100, 1)] w w := Ch.rf
  have q0 : (0 : Int32).toInt = 0 := by decide
  have q1 : (1 : Int32).toInt = 1 := by decide
  have q2 : (2 : Int32).toInt = 2 := by decide
  have q3 : (3 : Int32).toInt = 3 := by decide
  have q4 : (4 : Int32).toInt = 4 := by decide
  have LP3 : ∀ (f4 : Nat) (u1 : Int32) (u2 : Int32) (w5 : Wv), Ch [25, 26, 27, 52, 53, 54, 82, 83, 95, 96, 98, 99, 101, 102] [(80, 8), (94, 0), (94, 1), (97, 0), (97, 1), (100, 0), (100, 1)] w w5 → Inv RC w5 → (0 ≤ u2.toInt ∧ u2.toInt ≤ 2147483647) → 2147483647 - u2.toInt < f4 → V x 0 0 w5 4 [(0, .ref (gz (xG x) + 80)), (1, .int 2), (2, .int u1), (3, .int u2)] [] := by
    intro f4
    induction f4 with
    | zero => intro u1 u2 w5 h6 o7 z8 z9; exfalso; omega
    | succ f4 ih10 =>
      intro u1 u2 w5 h6 o7 z8 z9
      refine r_iload_n 3 C dX0_fitSteps_4 rfl ?_
      refine r_iconst (v := 4) C dX0_fitSteps_5 (by decide) ?_
      have k12 := i_rng u2
      refine r_icmp_gt 103 C dX0_fitSteps_6 (by decide) (fun c11 => ?_) (fun c11 => ?_)
      · have c11' := i_lt c11
        refine r_iload_n 2 C dX0_fitSteps_103 rfl ?_
        exact hret _ _ _ _ dX0_fitSteps_104 rfl ⟨h6, o7⟩
      · have c11' := i_nlt c11
        refine r_aload_n 0 C dX0_fitSteps_9 rfl ?_
        refine gfX0_11 81 C (kS sC h6 kc_80) (xS sC h6 xc_80_3) dX0_fitSteps_10 ?_
        refine r_iload_n 1 C dX0_fitSteps_13 rfl ?_
        refine r_aald 3 rfl C (kS sC h6 kc_81) (vin (by omega) (by omega)) (xS sC h6 xc_81_2) dX0_fitSteps_14 ?_
        refine r_iload_n 3 C dX0_fitSteps_15 rfl ?_
        refine callVI C cwX0_93_V (ctX6_may_91 _ _ w5 (sS sC h6) o7 u2 ) (by decide) (kS sC h6 kc_91) rfl rfl rfl (Nat.le_of_ble_eq_true rfl) (by decide) dX0_fitSteps_16 (fun r15 w14 y13 => ?_)
        show V x 0 0 w14 19 [(0, .ref (gz (xG x) + 80)), (1, .int 2), (2, .int u1), (3, .int u2)] [.int r15]
        obtain ⟨h16, o17, g18⟩ := y13
        have h19 := Ch.tr h6 h16 (by decide) (by decide)
        refine r_if_eq 97 C dX0_fitSteps_19 (by decide) (fun c20 => ?_) (fun c20 => ?_)
        · have c20' := i_eq c20
          obtain ⟨i21, e22⟩ : ∃ z : Int32, u2 + Int32.ofInt 1 = z := ⟨_, rfl⟩
          have i21' := iinc_ok e22 (by decide) (by omega) (by omega)
          refine r_iinc [(3, .int i21), (0, .ref (gz (xG x) + 80)), (1, .int 2), (2, .int u1)] 3 C dX0_fitSteps_97 rfl e22 (by decide) rfl ?_
          refine r_goto 4 C dX0_fitSteps_100 (by decide) ?_
          refine r_lv [1, 2, 3, 0] rfl ?_
          exact ih10 u1 i21 w14 h19 o17 (by omega) (by omega)
        · have c20' := i_ne c20
          refine r_aload_n 0 C dX0_fitSteps_22 rfl ?_
          refine gfX0_11 81 C (kS sC h19 kc_80) (xS sC h19 xc_80_3) dX0_fitSteps_23 ?_
          refine r_iload_n 1 C dX0_fitSteps_26 rfl ?_
          refine r_iconst (v := 1) C dX0_fitSteps_27 (by decide) ?_
          refine r_iadd C dX0_fitSteps_28 (fun v23 e24 => ?_)
          have v23' := iadd_ok e24 (by omega) (by omega)
          rcases (show v23.toInt = 3 by omega) with c25
          · obtain rfl : v23 = 3 := i_of (by omega)
            refine r_aald 3 rfl C (kS sC h19 kc_81) (vin (by omega) (by omega)) (xS sC h19 xc_81_3) dX0_fitSteps_29 ?_
            refine r_aload_n 0 C dX0_fitSteps_30 rfl ?_
            refine gfX0_11 81 C (kS sC h19 kc_80) (xS sC h19 xc_80_3) dX0_fitSteps_31 ?_
            refine r_iload_n 1 C dX0_fitSteps_34 rfl ?_
            refine r_aald 3 rfl C (kS sC h19 kc_81) (vin (by omega) (by omega)) (xS sC h19 xc_81_2) dX0_fitSteps_35 ?_
            refine callVV C cwX0_61_V (ctX6_copy_94_91 _ _ w14 (sS sC h19) o17  ) (by decide) (kS sC h19 kc_94) rfl rfl rfl (Nat.le_of_ble_eq_true rfl) (by decide) dX0_fitSteps_36 (fun w27 y26 => ?_)
            show V x 0 0 w27 39 [(0, .ref (gz (xG x) + 80)), (1, .int 2), (2, .int u1), (3, .int u2)] []
            obtain ⟨h29, o30⟩ := y26
            have h31 := Ch.tr h19 h29 (by decide) (by decide)
            refine r_aload_n 0 C dX0_fitSteps_39 rfl ?_
            refine gfX0_11 81 C (kS sC h31 kc_80) (xS sC h31 xc_80_3) dX0_fitSteps_40 ?_
            refine r_iload_n 1 C dX0_fitSteps_43 rfl ?_
            refine r_iconst (v := 1) C dX0_fitSteps_44 (by decide) ?_
            refine r_iadd C dX0_fitSteps_45 (fun v32 e33 => ?_)
            have v32' := iadd_ok e33 (by omega) (by omega)
            rcases (show v32.toInt = 3 by omega) with c34
            · obtain rfl : v32 = 3 := i_of (by omega)
              refine r_aald 3 rfl C (kS sC h31 kc_81) (vin (by omega) (by omega)) (xS sC h31 xc_81_3) dX0_fitSteps_46 ?_
              refine r_iload_n 3 C dX0_fitSteps_47 rfl ?_
              refine r_aload_n 0 C dX0_fitSteps_48 rfl ?_
              refine gfX0_58 (v := (wI w 80 11)) C (kS sC h31 kc_80) (h29.I (by decide) (by decide) (h16.I (by decide) (by decide) (h6.I (by decide) (by decide) rfl))) dX0_fitSteps_49 ?_
              refine callVV C cwX0_124_V (ctX6_pass_94 _ _ w27 (sS sC h31) o30 u2 (wI w 80 11) ) (by decide) (kS sC h31 kc_94) rfl rfl rfl (Nat.le_of_ble_eq_true rfl) (by decide) dX0_fitSteps_52 (fun w36 y35 => ?_)
              show V x 0 0 w36 55 [(0, .ref (gz (xG x) + 80)), (1, .int 2), (2, .int u1), (3, .int u2)] []
              obtain ⟨h38, o39⟩ := y35
              have h40 := Ch.tr h31 h38 (by decide) (by decide)
              refine r_aload_n 0 C dX0_fitSteps_55 rfl ?_
              refine gfX0_17 82 C (kS sC h40 kc_80) (xS sC h40 xc_80_4) dX0_fitSteps_56 ?_
              refine r_iload_n 1 C dX0_fitSteps_59 rfl ?_
              refine r_iload_n 3 C dX0_fitSteps_60 rfl ?_
              refine r_iast C (kS sC h40 kc_82) (vin (by omega) (by omega)) dX0_fitSteps_61 (fun w41 e42 => ?_)
              have h43 := Ch.putS h40 e42 (by decide)
              have o44 := Inv.put0 o39 e42 (by decide)
              refine r_iload_n 2 C dX0_fitSteps_62 rfl ?_
              refine r_aload_n 0 C dX0_fitSteps_63 rfl ?_
              refine gfX0_31 47 C (kS sC h43 kc_80) (xS sC h43 xc_80_1) dX0_fitSteps_64 ?_
              refine r_aload_n 0 C dX0_fitSteps_67 rfl ?_
              refine gfX0_11 81 C (kS sC h43 kc_80) (xS sC h43 xc_80_3) dX0_fitSteps_68 ?_
              refine r_iload_n 1 C dX0_fitSteps_71 rfl ?_
              refine r_iconst (v := 1) C dX0_fitSteps_72 (by decide) ?_
              refine r_iadd C dX0_fitSteps_73 (fun v45 e46 => ?_)
              have v45' := iadd_ok e46 (by omega) (by omega)
              rcases (show v45.toInt = 3 by omega) with c47
              · obtain rfl : v45 = 3 := i_of (by omega)
                refine r_aald 3 rfl C (kS sC h43 kc_81) (vin (by omega) (by omega)) (xS sC h43 xc_81_3) dX0_fitSteps_74 ?_
                refine r_iload_n 1 C dX0_fitSteps_75 rfl ?_
                refine r_iconst (v := 1) C dX0_fitSteps_76 (by decide) ?_
                refine r_iadd C dX0_fitSteps_77 (fun v48 e49 => ?_)
                have v48' := iadd_ok e49 (by omega) (by omega)
                refine callVI C cwX0_128_V (ctX7_fits_47_94 _ _ w41 (sS sC h43) o44 v48 ) (by decide) (kS sC h43 kc_47) rfl rfl rfl (Nat.le_of_ble_eq_true rfl) (by decide) dX0_fitSteps_78 (fun r52 w51 y50 => ?_)
                show V x 0 0 w51 81 [(0, .ref (gz (xG x) + 80)), (1, .int 2), (2, .int u1), (3, .int u2)] [.int r52, .int u1]
                obtain ⟨h53, o54, g55⟩ := y50
                have h56 := Ch.tr h43 h53 (by decide) (by decide)
                refine r_if_eq 94 C dX0_fitSteps_81 (by decide) (fun c57 => ?_) (fun c57 => ?_)
                · have c57' := i_eq c57
                  refine r_iconst (v := 0) C dX0_fitSteps_94 (by decide) ?_
                  refine r_iadd C dX0_fitSteps_95 (fun v58 e59 => ?_)
                  have k60 := i_rng u1
                  have v58' := iadd_ok e59 (by omega) (by omega)
                  refine r_istore_n [(2, .int v58), (0, .ref (gz (xG x) + 80)), (1, .int 2), (3, .int u2)] C dX0_fitSteps_96 (by decide) rfl ?_
                  obtain ⟨i61, e62⟩ : ∃ z : Int32, u2 + Int32.ofInt 1 = z := ⟨_, rfl⟩
                  have i61' := iinc_ok e62 (by decide) (by omega) (by omega)
                  refine r_iinc [(3, .int i61), (2, .int v58), (0, .ref (gz (xG x) + 80)), (1, .int 2)] 3 C dX0_fitSteps_97 rfl e62 (by decide) rfl ?_
                  refine r_goto 4 C dX0_fitSteps_100 (by decide) ?_
                  refine r_lv [2, 3, 1, 0] rfl ?_
                  exact ih10 v58 i61 w51 h56 o54 (by omega) (by omega)
                · have c57' := i_ne c57
                  refine r_aload_n 0 C dX0_fitSteps_84 rfl ?_
                  refine r_iload_n 1 C dX0_fitSteps_85 rfl ?_
                  refine r_iconst (v := 1) C dX0_fitSteps_86 (by decide) ?_
                  refine r_iadd C dX0_fitSteps_87 (fun v63 e64 => ?_)
                  have v63' := iadd_ok e64 (by omega) (by omega)
                  refine callVI C cwX0_73_V (ctX0_fit_80_d3 _ _ w51 (sS sC h56) o54 v63 (by omega)) (by decide) (kS sC h56 kc_80) rfl rfl rfl (Nat.le_of_ble_eq_true rfl) (by decide) dX0_fitSteps_88 (fun r67 w66 y65 => ?_)
                  show V x 0 0 w66 91 [(0, .ref (gz (xG x) + 80)), (1, .int 2), (2, .int u1), (3, .int u2)] [.int r67, .int u1]
                  obtain ⟨h68, o69⟩ := y65
                  have h70 := Ch.tr h56 h68 (by decide) (by decide)
                  refine r_goto 95 C dX0_fitSteps_91 (by decide) ?_
                  refine r_iadd C dX0_fitSteps_95 (fun v71 e72 => ?_)
                  refine r_istore_n [(2, .int v71), (0, .ref (gz (xG x) + 80)), (1, .int 2), (3, .int u2)] C dX0_fitSteps_96 (by decide) rfl ?_
                  obtain ⟨i73, e74⟩ : ∃ z : Int32, u2 + Int32.ofInt 1 = z := ⟨_, rfl⟩
                  have i73' := iinc_ok e74 (by decide) (by omega) (by omega)
                  refine r_iinc [(3, .int i73), (2, .int v71), (0, .ref (gz (xG x) + 80)), (1, .int 2)] 3 C dX0_fitSteps_97 rfl e74 (by decide) rfl ?_
                  refine r_goto 4 C dX0_fitSteps_100 (by decide) ?_
                  refine r_lv [2, 3, 1, 0] rfl ?_
                  exact ih10 v71 i73 w66 h70 o69 (by omega) (by omega)
  refine r_iconst (v := 0) C dX0_fitSteps_0 (by decide) ?_
  refine r_istore_n [(2, .int 0), (0, .ref (gz (xG x) + 80)), (1, .int 2)] C dX0_fitSteps_1 (by decide) rfl ?_
  refine r_iconst (v := 0) C dX0_fitSteps_2 (by decide) ?_
  refine r_istore_n [(3, .int 0), (2, .int 0), (0, .ref (gz (xG x) + 80)), (1, .int 2)] C dX0_fitSteps_3 (by decide) rfl ?_
  refine r_lv [2, 3, 1, 0] rfl ?_
  exact LP3 4294967296 0 0 w h0 o0 (by omega) (by omega)
set_option maxHeartbeats 4000000 in
set_option maxRecDepth 100000 in
theorem ctX0_fit_80_d2 (l : Launch) (G : Gt) (w : Wv) (sC : Str KC XC w) (o0 : Inv RC w) (a1 : Int32) (b1 : 2 ≤ a1.toInt ∧ a1.toInt ≤ 2) : CtI l G yX0_fit cX0_fit 9 .int ({ frames := 9, cells := 0, slots := 0, locals := 225 } : Room) [.ref (gz G + 80), .int a1] w (fun r w' => Ch [25, 26, 27, 52, 53, 54, 82, 83, 95, 96, 98, 99, 101, 102] [(80, 8), (94, 0), (94, 1), (97, 0), (97, 1), (100, 0), (100, 1)] w w' ∧ Inv RC w') := by
  refine enterI (by decide) (Nat.le_of_ble_eq_true rfl) ?_
  intro x el eG C hret
  subst el; subst eG
  obtain rfl : a1 = 2 := i_of (by have q : (2 : Int32).toInt = 2 := (by decide); omega)
  show V x 0 0 w 0 [(0, .ref (gz (xG x) + 80)), (1, .int 2)] []
  have h0 : Ch [25, 26, 27, 52, 53, 54, 82, 83, 95, 96, 98, 99, 101, 102] [(80, 8), (94, 0), (94, 1), (97, 0), (97, 1), (100, 0), (100, 1)] w w := Ch.rf
  have qm1 : ((-1) : Int32).toInt = (-1) := by decide
  have q0 : (0 : Int32).toInt = 0 := by decide
  have q2 : (2 : Int32).toInt = 2 := by decide
  have q5 : (5 : Int32).toInt = 5 := by decide
  have q42 : (42 : Int32).toInt = 42 := by decide
  refine r_iload_n 1 C dX0_fit_0 rfl ?_
  refine r_if_lt 9 C dX0_fit_1 (by decide) (fun c1 => ?_) (fun c1 => ?_)
  · have c1' := i_lt c1
    exfalso; omega
  · have c1' := i_nlt c1
    refine r_iload_n 1 C dX0_fit_4 rfl ?_
    refine r_iconst (v := 5) C dX0_fit_5 (by decide) ?_
    refine r_icmp_le 11 C dX0_fit_6 (by decide) (fun c2 => ?_) (fun c2 => ?_)
    · have c2' := i_le c2
      refine r_aload_n 0 C dX0_fit_11 rfl ?_
      refine gfX0_11 81 C (kS sC h0 kc_80) (xS sC h0 xc_80_3) dX0_fit_12 ?_
      refine r_iload_n 1 C dX0_fit_15 rfl ?_
      refine r_aald 3 rfl C (kS sC h0 kc_81) (vin (by omega) (by omega)) (xS sC h0 xc_81_2) dX0_fit_16 ?_
      refine r_astore_n [(2, .ref (gz (xG x) + 91)), (0, .ref (gz (xG x) + 80)), (1, .int 2)] C dX0_fit_17 (by decide) rfl ?_
      refine r_iload_n 2 C dX0_fit_18 rfl ?_
      refine r_aload_n 1 C dX0_fit_19 rfl ?_
      refine gfX0_56 (v := (wI w 80 10)) C (kS sC h0 kc_80) rfl dX0_fit_20 ?_
      have b3 := Inv.get o0 rt_80_10 (j := 10) (by decide) (by decide)
      refine r_icmp_ge 31 C dX0_fit_23 (by decide) (fun c4 => ?_) (fun c4 => ?_)
      · have c4' := i_le c4
        refine r_aload_n 1 C dX0_fit_31 rfl ?_
        refine callVV C cwX0_103_V (ctX0_keepFirst_80 _ _ w (sS sC h0) o0  ) (by decide) (kS sC h0 kc_80) rfl rfl rfl (Nat.le_of_ble_eq_true rfl) (by decide) dX0_fit_32 (fun w6 y5 => ?_)
        show V x 0 0 w6 35 [(2, .ref (gz (xG x) + 91)), (0, .ref (gz (xG x) + 80)), (1, .int 2)] []
        obtain ⟨h8, o9⟩ := y5
        have h10 := Ch.tr h0 h8 (by decide) (by decide)
        refine r_aload_n 1 C dX0_fit_35 rfl ?_
        refine r_aload_n 0 C dX0_fit_36 rfl ?_
        refine gfX0_82 (v := (wI w 91 0)) C (kS sC h10 kc_91) (h8.I (by decide) (by decide) rfl) dX0_fit_37 ?_
        refine r_aload_n 1 C dX0_fit_40 rfl ?_
        refine gfX0_46 (v := (wI w 80 9)) C (kS sC h10 kc_80) (h8.I (by decide) (by decide) rfl) dX0_fit_41 ?_
        have b11 := Inv.get o0 rt_80_9 (j := 9) (by decide) (by decide)
        refine r_aload_n 1 C dX0_fit_44 rfl ?_
        refine gfX0_56 (v := (wI w 80 10)) C (kS sC h10 kc_80) (h8.I (by decide) (by decide) rfl) dX0_fit_45 ?_
        refine r_isub C dX0_fit_48 (fun v12 e13 => ?_)
        have v12' := isub_ok e13 (by omega) (by omega)
        refine callVI C cwX0_89_V (ctX0_freeFrom_80 _ _ w6 (sS sC h10) o9 (wI w 91 0) v12 ) (by decide) (kS sC h10 kc_80) rfl rfl rfl (Nat.le_of_ble_eq_true rfl) (by decide) dX0_fit_49 (fun r16 w15 y14 => ?_)
        show V x 0 0 w15 52 [(2, .ref (gz (xG x) + 91)), (0, .ref (gz (xG x) + 80)), (1, .int 2)] [.int r16]
        obtain ⟨h17, o18⟩ := y14
        have h19 := Ch.tr h10 h17 (by decide) (by decide)
        exact hret _ _ _ _ dX0_fit_52 rfl ⟨h19, o18⟩
      · have c4' := i_nle c4
        refine r_iload_n 2 C dX0_fit_26 rfl ?_
        refine r_iconst (v := 5) C dX0_fit_27 (by decide) ?_
        refine r_icmp_lt 53 C dX0_fit_28 (by decide) (fun c20 => ?_) (fun c20 => ?_)
        · have c20' := i_lt c20
          refine r_iload_n 2 C dX0_fit_53 rfl ?_
          refine r_i2l C dX0_fit_54 (fun v21 e22 => ?_)
          have v21' := i2l_ok e22
          refine r_bipush (v := 42) C dX0_fit_55 (by decide) ?_
          refine r_lshl C dX0_fit_57 (fun v23 e24 => ?_)
          refine r_aload_n 0 C dX0_fit_58 rfl ?_
          refine callVL C cwX0_106_V (ctX6_places_91 _ _ w (sS sC h0) o0  ) (by decide) (kS sC h0 kc_91) rfl rfl rfl (Nat.le_of_ble_eq_true rfl) (by decide) dX0_fit_59 (fun r27 w26 y25 => ?_)
          show V x 0 0 w26 62 [(2, .ref (gz (xG x) + 91)), (0, .ref (gz (xG x) + 80)), (1, .int 2)] [.long r27, .long v23]
          obtain ⟨h28, o29⟩ := y25
          have h30 := Ch.tr h0 h28 (by decide) (by decide)
          refine r_lor C dX0_fit_62 (fun v31 e32 => ?_)
          refine r_lstore_n [(3, .long v31), (2, .ref (gz (xG x) + 91)), (0, .ref (gz (xG x) + 80)), (1, .int 2)] C dX0_fit_63 (by decide) rfl ?_
          refine r_aload_n 1 C dX0_fit_64 rfl ?_
          refine callVL C cwX0_110_V (ctX6_goals_91 _ _ w26 (sS sC h30) o29  ) (by decide) (kS sC h30 kc_91) rfl rfl rfl (Nat.le_of_ble_eq_true rfl) (by decide) dX0_fit_65 (fun r35 w34 y33 => ?_)
          show V x 0 0 w34 68 [(3, .long v31), (2, .ref (gz (xG x) + 91)), (0, .ref (gz (xG x) + 80)), (1, .int 2)] [.long r35]
          obtain ⟨h36, o37⟩ := y33
          have h38 := Ch.tr h30 h36 (by decide) (by decide)
          refine r_lstore [(5, .long r35), (3, .long v31), (2, .ref (gz (xG x) + 91)), (0, .ref (gz (xG x) + 80)), (1, .int 2)] C dX0_fit_68 (by decide) rfl ?_
          refine r_aload_n 3 C dX0_fit_70 rfl ?_
          refine gfX0_35 51 C (kS sC h38 kc_80) (xS sC h38 xc_80_7) dX0_fit_71 ?_
          refine r_lload_n 1 C dX0_fit_74 rfl ?_
          refine r_lload 0 C dX0_fit_75 rfl ?_
          refine callVI C cwX0_113_V (ctX3_value_51 _ _ w34 (sS sC h38) o37 v31 r35 ) (by decide) (kS sC h38 kc_51) rfl rfl rfl (Nat.le_of_ble_eq_true rfl) (by decide) dX0_fit_77 (fun r41 w40 y39 => ?_)
          show V x 0 0 w40 80 [(5, .long r35), (3, .long v31), (2, .ref (gz (xG x) + 91)), (0, .ref (gz (xG x) + 80)), (1, .int 2)] [.int r41]
          obtain ⟨h42, o43⟩ := y39
          have h44 := Ch.tr h38 h42 (by decide) (by decide)
          refine r_istore [(7, .int r41), (5, .long r35), (3, .long v31), (2, .ref (gz (xG x) + 91)), (0, .ref (gz (xG x) + 80)), (1, .int 2)] C dX0_fit_80 (by decide) rfl ?_
          refine r_iload 0 C dX0_fit_82 rfl ?_
          refine r_iconst (v := (-1)) C dX0_fit_84 (by decide) ?_
          refine r_icmp_eq 91 C dX0_fit_85 (by decide) (fun c45 => ?_) (fun c45 => ?_)
          · have c45' := i_eq c45
            refine r_aload_n 4 C dX0_fit_91 rfl ?_
            refine r_iload_n 5 C dX0_fit_92 rfl ?_
            refine callVI C cwX0_117_V (ctX0_fitSteps_80_d2 _ _ w40 (sS sC h44) o43 2 (by omega)) (by decide) (kS sC h44 kc_80) rfl rfl rfl (Nat.le_of_ble_eq_true rfl) (by decide) dX0_fit_93 (fun r48 w47 y46 => ?_)
            show V x 0 0 w47 96 [(7, .int r41), (5, .long r35), (3, .long v31), (2, .ref (gz (xG x) + 91)), (0, .ref (gz (xG x) + 80)), (1, .int 2)] [.int r48]
            obtain ⟨h49, o50⟩ := y46
            have h51 := Ch.tr h44 h49 (by decide) (by decide)
            refine r_istore [(8, .int r48), (7, .int r41), (5, .long r35), (3, .long v31), (2, .ref (gz (xG x) + 91)), (0, .ref (gz (xG x) + 80)), (1, .int 2)] C dX0_fit_96 (by decide) rfl ?_
            refine r_aload_n 5 C dX0_fit_98 rfl ?_
            refine gfX0_35 51 C (kS sC h51 kc_80) (xS sC h51 xc_80_7) dX0_fit_99 ?_
            refine r_lload_n 3 C dX0_fit_102 rfl ?_
            refine r_lload 2 C dX0_fit_103 rfl ?_
            refine r_iload 0 C dX0_fit_105 rfl ?_
            refine callVV C cwX0_120_V (ctX3_put_51 _ _ w47 (sS sC h51) o50 v31 r35 r48 ) (by decide) (kS sC h51 kc_51) rfl rfl rfl (Nat.le_of_ble_eq_true rfl) (by decide) dX0_fit_107 (fun w53 y52 => ?_)
            show V x 0 0 w53 110 [(8, .int r48), (7, .int r41), (5, .long r35), (3, .long v31), (2, .ref (gz (xG x) + 91)), (0, .ref (gz (xG x) + 80)), (1, .int 2)] []
            obtain ⟨h55, o56⟩ := y52
            have h57 := Ch.tr h51 h55 (by decide) (by decide)
            refine r_iload 0 C dX0_fit_110 rfl ?_
            exact hret _ _ _ _ dX0_fit_112 rfl ⟨h57, o56⟩
          · have c45' := i_ne c45
            refine r_iload 0 C dX0_fit_88 rfl ?_
            exact hret _ _ _ _ dX0_fit_90 rfl ⟨h44, o43⟩
        · have c20' := i_nlt c20
          exfalso; omega
    · have c2' := i_nle c2
      exfalso; omega
set_option maxHeartbeats 4000000 in
set_option maxRecDepth 100000 in
theorem ctX0_fitSteps_80_d1 (l : Launch) (G : Gt) (w : Wv) (sC : Str KC XC w) (o0 : Inv RC w) (a1 : Int32) (b1 : 1 ≤ a1.toInt ∧ a1.toInt ≤ 1) : CtI l G yX0_fitSteps cX0_fitSteps 4 .int ({ frames := 10, cells := 0, slots := 0, locals := 253 } : Room) [.ref (gz G + 80), .int a1] w (fun r w' => Ch [25, 26, 27, 52, 53, 54, 82, 83, 92, 93, 95, 96, 98, 99, 101, 102] [(80, 8), (91, 0), (91, 1), (94, 0), (94, 1), (97, 0), (97, 1), (100, 0), (100, 1)] w w' ∧ Inv RC w') := by
  refine enterI (by decide) (Nat.le_of_ble_eq_true rfl) ?_
  intro x el eG C hret
  subst el; subst eG
  obtain rfl : a1 = 1 := i_of (by have q : (1 : Int32).toInt = 1 := (by decide); omega)
  show V x 0 0 w 0 [(0, .ref (gz (xG x) + 80)), (1, .int 1)] []
  have h0 : Ch [25, 26, 27, 52, 53, 54, 82, 83, 92, 93, 95, 96, 98, 99, 101, 102] [(80, 8), (91, 0), (91, 1), (94, 0), (94, 1), (97, 0), (97, 1), (100, 0), (100, 1)] w w := Ch.rf
  have q0 : (0 : Int32).toInt = 0 := by decide
  have q1 : (1 : Int32).toInt = 1 := by decide
  have q2 : (2 : Int32).toInt = 2 := by decide
  have q4 : (4 : Int32).toInt = 4 := by decide
  have LP3 : ∀ (f4 : Nat) (u1 : Int32) (u2 : Int32) (w5 : Wv), Ch [25, 26, 27, 52, 53, 54, 82, 83, 92, 93, 95, 96, 98, 99, 101, 102] [(80, 8), (91, 0), (91, 1), (94, 0), (94, 1), (97, 0), (97, 1), (100, 0), (100, 1)] w w5 → Inv RC w5 → (0 ≤ u2.toInt ∧ u2.toInt ≤ 2147483647) → 2147483647 - u2.toInt < f4 → V x 0 0 w5 4 [(0, .ref (gz (xG x) + 80)), (1, .int 1), (2, .int u1), (3, .int u2)] [] := by
    intro f4
    induction f4 with
    | zero => intro u1 u2 w5 h6 o7 z8 z9; exfalso; omega
    | succ f4 ih10 =>
      intro u1 u2 w5 h6 o7 z8 z9
      refine r_iload_n 3 C dX0_fitSteps_4 rfl ?_
      refine r_iconst (v := 4) C dX0_fitSteps_5 (by decide) ?_
      have k12 := i_rng u2
      refine r_icmp_gt 103 C dX0_fitSteps_6 (by decide) (fun c11 => ?_) (fun c11 => ?_)
      · have c11' := i_lt c11
        refine r_iload_n 2 C dX0_fitSteps_103 rfl ?_
        exact hret _ _ _ _ dX0_fitSteps_104 rfl ⟨h6, o7⟩
      · have c11' := i_nlt c11
        refine r_aload_n 0 C dX0_fitSteps_9 rfl ?_
        refine gfX0_11 81 C (kS sC h6 kc_80) (xS sC h6 xc_80_3) dX0_fitSteps_10 ?_
        refine r_iload_n 1 C dX0_fitSteps_13 rfl ?_
        refine r_aald 3 rfl C (kS sC h6 kc_81) (vin (by omega) (by omega)) (xS sC h6 xc_81_1) dX0_fitSteps_14 ?_
        refine r_iload_n 3 C dX0_fitSteps_15 rfl ?_
        refine callVI C cwX0_93_V (ctX6_may_88 _ _ w5 (sS sC h6) o7 u2 ) (by decide) (kS sC h6 kc_88) rfl rfl rfl (Nat.le_of_ble_eq_true rfl) (by decide) dX0_fitSteps_16 (fun r15 w14 y13 => ?_)
        show V x 0 0 w14 19 [(0, .ref (gz (xG x) + 80)), (1, .int 1), (2, .int u1), (3, .int u2)] [.int r15]
        obtain ⟨h16, o17, g18⟩ := y13
        have h19 := Ch.tr h6 h16 (by decide) (by decide)
        refine r_if_eq 97 C dX0_fitSteps_19 (by decide) (fun c20 => ?_) (fun c20 => ?_)
        · have c20' := i_eq c20
          obtain ⟨i21, e22⟩ : ∃ z : Int32, u2 + Int32.ofInt 1 = z := ⟨_, rfl⟩
          have i21' := iinc_ok e22 (by decide) (by omega) (by omega)
          refine r_iinc [(3, .int i21), (0, .ref (gz (xG x) + 80)), (1, .int 1), (2, .int u1)] 3 C dX0_fitSteps_97 rfl e22 (by decide) rfl ?_
          refine r_goto 4 C dX0_fitSteps_100 (by decide) ?_
          refine r_lv [1, 2, 3, 0] rfl ?_
          exact ih10 u1 i21 w14 h19 o17 (by omega) (by omega)
        · have c20' := i_ne c20
          refine r_aload_n 0 C dX0_fitSteps_22 rfl ?_
          refine gfX0_11 81 C (kS sC h19 kc_80) (xS sC h19 xc_80_3) dX0_fitSteps_23 ?_
          refine r_iload_n 1 C dX0_fitSteps_26 rfl ?_
          refine r_iconst (v := 1) C dX0_fitSteps_27 (by decide) ?_
          refine r_iadd C dX0_fitSteps_28 (fun v23 e24 => ?_)
          have v23' := iadd_ok e24 (by omega) (by omega)
          rcases (show v23.toInt = 2 by omega) with c25
          · obtain rfl : v23 = 2 := i_of (by omega)
            refine r_aald 3 rfl C (kS sC h19 kc_81) (vin (by omega) (by omega)) (xS sC h19 xc_81_2) dX0_fitSteps_29 ?_
            refine r_aload_n 0 C dX0_fitSteps_30 rfl ?_
            refine gfX0_11 81 C (kS sC h19 kc_80) (xS sC h19 xc_80_3) dX0_fitSteps_31 ?_
            refine r_iload_n 1 C dX0_fitSteps_34 rfl ?_
            refine r_aald 3 rfl C (kS sC h19 kc_81) (vin (by omega) (by omega)) (xS sC h19 xc_81_1) dX0_fitSteps_35 ?_
            refine callVV C cwX0_61_V (ctX6_copy_91_88 _ _ w14 (sS sC h19) o17  ) (by decide) (kS sC h19 kc_91) rfl rfl rfl (Nat.le_of_ble_eq_true rfl) (by decide) dX0_fitSteps_36 (fun w27 y26 => ?_)
            show V x 0 0 w27 39 [(0, .ref (gz (xG x) + 80)), (1, .int 1), (2, .int u1), (3, .int u2)] []
            obtain ⟨h29, o30⟩ := y26
            have h31 := Ch.tr h19 h29 (by decide) (by decide)
            refine r_aload_n 0 C dX0_fitSteps_39 rfl ?_
            refine gfX0_11 81 C (kS sC h31 kc_80) (xS sC h31 xc_80_3) dX0_fitSteps_40 ?_
            refine r_iload_n 1 C dX0_fitSteps_43 rfl ?_
            refine r_iconst (v := 1) C dX0_fitSteps_44 (by decide) ?_
            refine r_iadd C dX0_fitSteps_45 (fun v32 e33 => ?_)
            have v32' := iadd_ok e33 (by omega) (by omega)
            rcases (show v32.toInt = 2 by omega) with c34
            · obtain rfl : v32 = 2 := i_of (by omega)
              refine r_aald 3 rfl C (kS sC h31 kc_81) (vin (by omega) (by omega)) (xS sC h31 xc_81_2) dX0_fitSteps_46 ?_
              refine r_iload_n 3 C dX0_fitSteps_47 rfl ?_
              refine r_aload_n 0 C dX0_fitSteps_48 rfl ?_
              refine gfX0_58 (v := (wI w 80 11)) C (kS sC h31 kc_80) (h29.I (by decide) (by decide) (h16.I (by decide) (by decide) (h6.I (by decide) (by decide) rfl))) dX0_fitSteps_49 ?_
              refine callVV C cwX0_124_V (ctX6_pass_91 _ _ w27 (sS sC h31) o30 u2 (wI w 80 11) ) (by decide) (kS sC h31 kc_91) rfl rfl rfl (Nat.le_of_ble_eq_true rfl) (by decide) dX0_fitSteps_52 (fun w36 y35 => ?_)
              show V x 0 0 w36 55 [(0, .ref (gz (xG x) + 80)), (1, .int 1), (2, .int u1), (3, .int u2)] []
              obtain ⟨h38, o39⟩ := y35
              have h40 := Ch.tr h31 h38 (by decide) (by decide)
              refine r_aload_n 0 C dX0_fitSteps_55 rfl ?_
              refine gfX0_17 82 C (kS sC h40 kc_80) (xS sC h40 xc_80_4) dX0_fitSteps_56 ?_
              refine r_iload_n 1 C dX0_fitSteps_59 rfl ?_
              refine r_iload_n 3 C dX0_fitSteps_60 rfl ?_
              refine r_iast C (kS sC h40 kc_82) (vin (by omega) (by omega)) dX0_fitSteps_61 (fun w41 e42 => ?_)
              have h43 := Ch.putS h40 e42 (by decide)
              have o44 := Inv.put0 o39 e42 (by decide)
              refine r_iload_n 2 C dX0_fitSteps_62 rfl ?_
              refine r_aload_n 0 C dX0_fitSteps_63 rfl ?_
              refine gfX0_31 47 C (kS sC h43 kc_80) (xS sC h43 xc_80_1) dX0_fitSteps_64 ?_
              refine r_aload_n 0 C dX0_fitSteps_67 rfl ?_
              refine gfX0_11 81 C (kS sC h43 kc_80) (xS sC h43 xc_80_3) dX0_fitSteps_68 ?_
              refine r_iload_n 1 C dX0_fitSteps_71 rfl ?_
              refine r_iconst (v := 1) C dX0_fitSteps_72 (by decide) ?_
              refine r_iadd C dX0_fitSteps_73 (fun v45 e46 => ?_)
              have v45' := iadd_ok e46 (by omega) (by omega)
              rcases (show v45.toInt = 2 by omega) with c47
              · obtain rfl : v45 = 2 := i_of (by omega)
                refine r_aald 3 rfl C (kS sC h43 kc_81) (vin (by omega) (by omega)) (xS sC h43 xc_81_2) dX0_fitSteps_74 ?_
                refine r_iload_n 1 C dX0_fitSteps_75 rfl ?_
                refine r_iconst (v := 1) C dX0_fitSteps_76 (by decide) ?_
                refine r_iadd C dX0_fitSteps_77 (fun v48 e49 => ?_)
                have v48' := iadd_ok e49 (by omega) (by omega)
                refine callVI C cwX0_128_V (ctX7_fits_47_91 _ _ w41 (sS sC h43) o44 v48 ) (by decide) (kS sC h43 kc_47) rfl rfl rfl (Nat.le_of_ble_eq_true rfl) (by decide) dX0_fitSteps_78 (fun r52 w51 y50 => ?_)
                show V x 0 0 w51 81 [(0, .ref (gz (xG x) + 80)), (1, .int 1), (2, .int u1), (3, .int u2)] [.int r52, .int u1]
                obtain ⟨h53, o54, g55⟩ := y50
                have h56 := Ch.tr h43 h53 (by decide) (by decide)
                refine r_if_eq 94 C dX0_fitSteps_81 (by decide) (fun c57 => ?_) (fun c57 => ?_)
                · have c57' := i_eq c57
                  refine r_iconst (v := 0) C dX0_fitSteps_94 (by decide) ?_
                  refine r_iadd C dX0_fitSteps_95 (fun v58 e59 => ?_)
                  have k60 := i_rng u1
                  have v58' := iadd_ok e59 (by omega) (by omega)
                  refine r_istore_n [(2, .int v58), (0, .ref (gz (xG x) + 80)), (1, .int 1), (3, .int u2)] C dX0_fitSteps_96 (by decide) rfl ?_
                  obtain ⟨i61, e62⟩ : ∃ z : Int32, u2 + Int32.ofInt 1 = z := ⟨_, rfl⟩
                  have i61' := iinc_ok e62 (by decide) (by omega) (by omega)
                  refine r_iinc [(3, .int i61), (2, .int v58), (0, .ref (gz (xG x) + 80)), (1, .int 1)] 3 C dX0_fitSteps_97 rfl e62 (by decide) rfl ?_
                  refine r_goto 4 C dX0_fitSteps_100 (by decide) ?_
                  refine r_lv [2, 3, 1, 0] rfl ?_
                  exact ih10 v58 i61 w51 h56 o54 (by omega) (by omega)
                · have c57' := i_ne c57
                  refine r_aload_n 0 C dX0_fitSteps_84 rfl ?_
                  refine r_iload_n 1 C dX0_fitSteps_85 rfl ?_
                  refine r_iconst (v := 1) C dX0_fitSteps_86 (by decide) ?_
                  refine r_iadd C dX0_fitSteps_87 (fun v63 e64 => ?_)
                  have v63' := iadd_ok e64 (by omega) (by omega)
                  refine callVI C cwX0_73_V (ctX0_fit_80_d2 _ _ w51 (sS sC h56) o54 v63 (by omega)) (by decide) (kS sC h56 kc_80) rfl rfl rfl (Nat.le_of_ble_eq_true rfl) (by decide) dX0_fitSteps_88 (fun r67 w66 y65 => ?_)
                  show V x 0 0 w66 91 [(0, .ref (gz (xG x) + 80)), (1, .int 1), (2, .int u1), (3, .int u2)] [.int r67, .int u1]
                  obtain ⟨h68, o69⟩ := y65
                  have h70 := Ch.tr h56 h68 (by decide) (by decide)
                  refine r_goto 95 C dX0_fitSteps_91 (by decide) ?_
                  refine r_iadd C dX0_fitSteps_95 (fun v71 e72 => ?_)
                  refine r_istore_n [(2, .int v71), (0, .ref (gz (xG x) + 80)), (1, .int 1), (3, .int u2)] C dX0_fitSteps_96 (by decide) rfl ?_
                  obtain ⟨i73, e74⟩ : ∃ z : Int32, u2 + Int32.ofInt 1 = z := ⟨_, rfl⟩
                  have i73' := iinc_ok e74 (by decide) (by omega) (by omega)
                  refine r_iinc [(3, .int i73), (2, .int v71), (0, .ref (gz (xG x) + 80)), (1, .int 1)] 3 C dX0_fitSteps_97 rfl e74 (by decide) rfl ?_
                  refine r_goto 4 C dX0_fitSteps_100 (by decide) ?_
                  refine r_lv [2, 3, 1, 0] rfl ?_
                  exact ih10 v71 i73 w66 h70 o69 (by omega) (by omega)
  refine r_iconst (v := 0) C dX0_fitSteps_0 (by decide) ?_
  refine r_istore_n [(2, .int 0), (0, .ref (gz (xG x) + 80)), (1, .int 1)] C dX0_fitSteps_1 (by decide) rfl ?_
  refine r_iconst (v := 0) C dX0_fitSteps_2 (by decide) ?_
  refine r_istore_n [(3, .int 0), (2, .int 0), (0, .ref (gz (xG x) + 80)), (1, .int 1)] C dX0_fitSteps_3 (by decide) rfl ?_
  refine r_lv [2, 3, 1, 0] rfl ?_
  exact LP3 4294967296 0 0 w h0 o0 (by omega) (by omega)
set_option maxHeartbeats 4000000 in
set_option maxRecDepth 100000 in
theorem ctX0_fit_80_d1 (l : Launch) (G : Gt) (w : Wv) (sC : Str KC XC w) (o0 : Inv RC w) (a1 : Int32) (b1 : 1 ≤ a1.toInt ∧ a1.toInt ≤ 1) : CtI l G yX0_fit cX0_fit 9 .int ({ frames := 11, cells := 0, slots := 0, locals := 276 } : Room) [.ref (gz G + 80), .int a1] w (fun r w' => Ch [25, 26, 27, 52, 53, 54, 82, 83, 92, 93, 95, 96, 98, 99, 101, 102] [(80, 8), (91, 0), (91, 1), (94, 0), (94, 1), (97, 0), (97, 1), (100, 0), (100, 1)] w w' ∧ Inv RC w') := by
  refine enterI (by decide) (Nat.le_of_ble_eq_true rfl) ?_
  intro x el eG C hret
  subst el; subst eG
  obtain rfl : a1 = 1 := i_of (by have q : (1 : Int32).toInt = 1 := (by decide); omega)
  show V x 0 0 w 0 [(0, .ref (gz (xG x) + 80)), (1, .int 1)] []
  have h0 : Ch [25, 26, 27, 52, 53, 54, 82, 83, 92, 93, 95, 96, 98, 99, 101, 102] [(80, 8), (91, 0), (91, 1), (94, 0), (94, 1), (97, 0), (97, 1), (100, 0), (100, 1)] w w := Ch.rf
  have qm1 : ((-1) : Int32).toInt = (-1) := by decide
  have q0 : (0 : Int32).toInt = 0 := by decide
  have q1 : (1 : Int32).toInt = 1 := by decide
  have q5 : (5 : Int32).toInt = 5 := by decide
  have q42 : (42 : Int32).toInt = 42 := by decide
  refine r_iload_n 1 C dX0_fit_0 rfl ?_
  refine r_if_lt 9 C dX0_fit_1 (by decide) (fun c1 => ?_) (fun c1 => ?_)
  · have c1' := i_lt c1
    exfalso; omega
  · have c1' := i_nlt c1
    refine r_iload_n 1 C dX0_fit_4 rfl ?_
    refine r_iconst (v := 5) C dX0_fit_5 (by decide) ?_
    refine r_icmp_le 11 C dX0_fit_6 (by decide) (fun c2 => ?_) (fun c2 => ?_)
    · have c2' := i_le c2
      refine r_aload_n 0 C dX0_fit_11 rfl ?_
      refine gfX0_11 81 C (kS sC h0 kc_80) (xS sC h0 xc_80_3) dX0_fit_12 ?_
      refine r_iload_n 1 C dX0_fit_15 rfl ?_
      refine r_aald 3 rfl C (kS sC h0 kc_81) (vin (by omega) (by omega)) (xS sC h0 xc_81_1) dX0_fit_16 ?_
      refine r_astore_n [(2, .ref (gz (xG x) + 88)), (0, .ref (gz (xG x) + 80)), (1, .int 1)] C dX0_fit_17 (by decide) rfl ?_
      refine r_iload_n 2 C dX0_fit_18 rfl ?_
      refine r_aload_n 1 C dX0_fit_19 rfl ?_
      refine gfX0_56 (v := (wI w 80 10)) C (kS sC h0 kc_80) rfl dX0_fit_20 ?_
      have b3 := Inv.get o0 rt_80_10 (j := 10) (by decide) (by decide)
      refine r_icmp_ge 31 C dX0_fit_23 (by decide) (fun c4 => ?_) (fun c4 => ?_)
      · have c4' := i_le c4
        refine r_aload_n 1 C dX0_fit_31 rfl ?_
        refine callVV C cwX0_103_V (ctX0_keepFirst_80 _ _ w (sS sC h0) o0  ) (by decide) (kS sC h0 kc_80) rfl rfl rfl (Nat.le_of_ble_eq_true rfl) (by decide) dX0_fit_32 (fun w6 y5 => ?_)
        show V x 0 0 w6 35 [(2, .ref (gz (xG x) + 88)), (0, .ref (gz (xG x) + 80)), (1, .int 1)] []
        obtain ⟨h8, o9⟩ := y5
        have h10 := Ch.tr h0 h8 (by decide) (by decide)
        refine r_aload_n 1 C dX0_fit_35 rfl ?_
        refine r_aload_n 0 C dX0_fit_36 rfl ?_
        refine gfX0_82 (v := (wI w 88 0)) C (kS sC h10 kc_88) (h8.I (by decide) (by decide) rfl) dX0_fit_37 ?_
        refine r_aload_n 1 C dX0_fit_40 rfl ?_
        refine gfX0_46 (v := (wI w 80 9)) C (kS sC h10 kc_80) (h8.I (by decide) (by decide) rfl) dX0_fit_41 ?_
        have b11 := Inv.get o0 rt_80_9 (j := 9) (by decide) (by decide)
        refine r_aload_n 1 C dX0_fit_44 rfl ?_
        refine gfX0_56 (v := (wI w 80 10)) C (kS sC h10 kc_80) (h8.I (by decide) (by decide) rfl) dX0_fit_45 ?_
        refine r_isub C dX0_fit_48 (fun v12 e13 => ?_)
        have v12' := isub_ok e13 (by omega) (by omega)
        refine callVI C cwX0_89_V (ctX0_freeFrom_80 _ _ w6 (sS sC h10) o9 (wI w 88 0) v12 ) (by decide) (kS sC h10 kc_80) rfl rfl rfl (Nat.le_of_ble_eq_true rfl) (by decide) dX0_fit_49 (fun r16 w15 y14 => ?_)
        show V x 0 0 w15 52 [(2, .ref (gz (xG x) + 88)), (0, .ref (gz (xG x) + 80)), (1, .int 1)] [.int r16]
        obtain ⟨h17, o18⟩ := y14
        have h19 := Ch.tr h10 h17 (by decide) (by decide)
        exact hret _ _ _ _ dX0_fit_52 rfl ⟨h19, o18⟩
      · have c4' := i_nle c4
        refine r_iload_n 2 C dX0_fit_26 rfl ?_
        refine r_iconst (v := 5) C dX0_fit_27 (by decide) ?_
        refine r_icmp_lt 53 C dX0_fit_28 (by decide) (fun c20 => ?_) (fun c20 => ?_)
        · have c20' := i_lt c20
          refine r_iload_n 2 C dX0_fit_53 rfl ?_
          refine r_i2l C dX0_fit_54 (fun v21 e22 => ?_)
          have v21' := i2l_ok e22
          refine r_bipush (v := 42) C dX0_fit_55 (by decide) ?_
          refine r_lshl C dX0_fit_57 (fun v23 e24 => ?_)
          refine r_aload_n 0 C dX0_fit_58 rfl ?_
          refine callVL C cwX0_106_V (ctX6_places_88 _ _ w (sS sC h0) o0  ) (by decide) (kS sC h0 kc_88) rfl rfl rfl (Nat.le_of_ble_eq_true rfl) (by decide) dX0_fit_59 (fun r27 w26 y25 => ?_)
          show V x 0 0 w26 62 [(2, .ref (gz (xG x) + 88)), (0, .ref (gz (xG x) + 80)), (1, .int 1)] [.long r27, .long v23]
          obtain ⟨h28, o29⟩ := y25
          have h30 := Ch.tr h0 h28 (by decide) (by decide)
          refine r_lor C dX0_fit_62 (fun v31 e32 => ?_)
          refine r_lstore_n [(3, .long v31), (2, .ref (gz (xG x) + 88)), (0, .ref (gz (xG x) + 80)), (1, .int 1)] C dX0_fit_63 (by decide) rfl ?_
          refine r_aload_n 1 C dX0_fit_64 rfl ?_
          refine callVL C cwX0_110_V (ctX6_goals_88 _ _ w26 (sS sC h30) o29  ) (by decide) (kS sC h30 kc_88) rfl rfl rfl (Nat.le_of_ble_eq_true rfl) (by decide) dX0_fit_65 (fun r35 w34 y33 => ?_)
          show V x 0 0 w34 68 [(3, .long v31), (2, .ref (gz (xG x) + 88)), (0, .ref (gz (xG x) + 80)), (1, .int 1)] [.long r35]
          obtain ⟨h36, o37⟩ := y33
          have h38 := Ch.tr h30 h36 (by decide) (by decide)
          refine r_lstore [(5, .long r35), (3, .long v31), (2, .ref (gz (xG x) + 88)), (0, .ref (gz (xG x) + 80)), (1, .int 1)] C dX0_fit_68 (by decide) rfl ?_
          refine r_aload_n 3 C dX0_fit_70 rfl ?_
          refine gfX0_35 51 C (kS sC h38 kc_80) (xS sC h38 xc_80_7) dX0_fit_71 ?_
          refine r_lload_n 1 C dX0_fit_74 rfl ?_
          refine r_lload 0 C dX0_fit_75 rfl ?_
          refine callVI C cwX0_113_V (ctX3_value_51 _ _ w34 (sS sC h38) o37 v31 r35 ) (by decide) (kS sC h38 kc_51) rfl rfl rfl (Nat.le_of_ble_eq_true rfl) (by decide) dX0_fit_77 (fun r41 w40 y39 => ?_)
          show V x 0 0 w40 80 [(5, .long r35), (3, .long v31), (2, .ref (gz (xG x) + 88)), (0, .ref (gz (xG x) + 80)), (1, .int 1)] [.int r41]
          obtain ⟨h42, o43⟩ := y39
          have h44 := Ch.tr h38 h42 (by decide) (by decide)
          refine r_istore [(7, .int r41), (5, .long r35), (3, .long v31), (2, .ref (gz (xG x) + 88)), (0, .ref (gz (xG x) + 80)), (1, .int 1)] C dX0_fit_80 (by decide) rfl ?_
          refine r_iload 0 C dX0_fit_82 rfl ?_
          refine r_iconst (v := (-1)) C dX0_fit_84 (by decide) ?_
          refine r_icmp_eq 91 C dX0_fit_85 (by decide) (fun c45 => ?_) (fun c45 => ?_)
          · have c45' := i_eq c45
            refine r_aload_n 4 C dX0_fit_91 rfl ?_
            refine r_iload_n 5 C dX0_fit_92 rfl ?_
            refine callVI C cwX0_117_V (ctX0_fitSteps_80_d1 _ _ w40 (sS sC h44) o43 1 (by omega)) (by decide) (kS sC h44 kc_80) rfl rfl rfl (Nat.le_of_ble_eq_true rfl) (by decide) dX0_fit_93 (fun r48 w47 y46 => ?_)
            show V x 0 0 w47 96 [(7, .int r41), (5, .long r35), (3, .long v31), (2, .ref (gz (xG x) + 88)), (0, .ref (gz (xG x) + 80)), (1, .int 1)] [.int r48]
            obtain ⟨h49, o50⟩ := y46
            have h51 := Ch.tr h44 h49 (by decide) (by decide)
            refine r_istore [(8, .int r48), (7, .int r41), (5, .long r35), (3, .long v31), (2, .ref (gz (xG x) + 88)), (0, .ref (gz (xG x) + 80)), (1, .int 1)] C dX0_fit_96 (by decide) rfl ?_
            refine r_aload_n 5 C dX0_fit_98 rfl ?_
            refine gfX0_35 51 C (kS sC h51 kc_80) (xS sC h51 xc_80_7) dX0_fit_99 ?_
            refine r_lload_n 3 C dX0_fit_102 rfl ?_
            refine r_lload 2 C dX0_fit_103 rfl ?_
            refine r_iload 0 C dX0_fit_105 rfl ?_
            refine callVV C cwX0_120_V (ctX3_put_51 _ _ w47 (sS sC h51) o50 v31 r35 r48 ) (by decide) (kS sC h51 kc_51) rfl rfl rfl (Nat.le_of_ble_eq_true rfl) (by decide) dX0_fit_107 (fun w53 y52 => ?_)
            show V x 0 0 w53 110 [(8, .int r48), (7, .int r41), (5, .long r35), (3, .long v31), (2, .ref (gz (xG x) + 88)), (0, .ref (gz (xG x) + 80)), (1, .int 1)] []
            obtain ⟨h55, o56⟩ := y52
            have h57 := Ch.tr h51 h55 (by decide) (by decide)
            refine r_iload 0 C dX0_fit_110 rfl ?_
            exact hret _ _ _ _ dX0_fit_112 rfl ⟨h57, o56⟩
          · have c45' := i_ne c45
            refine r_iload 0 C dX0_fit_88 rfl ?_
            exact hret _ _ _ _ dX0_fit_90 rfl ⟨h44, o43⟩
        · have c20' := i_nlt c20
          exfalso; omega
    · have c2' := i_nle c2
      exfalso; omega
set_option maxHeartbeats 4000000 in
set_option maxRecDepth 100000 in
theorem ctX0_fitSteps_80_d0 (l : Launch) (G : Gt) (w : Wv) (sC : Str KC XC w) (o0 : Inv RC w) (a1 : Int32) (b1 : 0 ≤ a1.toInt ∧ a1.toInt ≤ 0) : CtI l G yX0_fitSteps cX0_fitSteps 4 .int ({ frames := 12, cells := 0, slots := 0, locals := 304 } : Room) [.ref (gz G + 80), .int a1] w (fun r w' => Ch [25, 26, 27, 52, 53, 54, 82, 83, 89, 90, 92, 93, 95, 96, 98, 99, 101, 102] [(80, 8), (88, 0), (88, 1), (91, 0), (91, 1), (94, 0), (94, 1), (97, 0), (97, 1), (100, 0), (100, 1)] w w' ∧ Inv RC w') := by
  refine enterI (by decide) (Nat.le_of_ble_eq_true rfl) ?_
  intro x el eG C hret
  subst el; subst eG
  obtain rfl : a1 = 0 := i_of (by have q : (0 : Int32).toInt = 0 := (by decide); omega)
  show V x 0 0 w 0 [(0, .ref (gz (xG x) + 80)), (1, .int 0)] []
  have h0 : Ch [25, 26, 27, 52, 53, 54, 82, 83, 89, 90, 92, 93, 95, 96, 98, 99, 101, 102] [(80, 8), (88, 0), (88, 1), (91, 0), (91, 1), (94, 0), (94, 1), (97, 0), (97, 1), (100, 0), (100, 1)] w w := Ch.rf
  have q0 : (0 : Int32).toInt = 0 := by decide
  have q1 : (1 : Int32).toInt = 1 := by decide
  have q4 : (4 : Int32).toInt = 4 := by decide
  have LP3 : ∀ (f4 : Nat) (u1 : Int32) (u2 : Int32) (w5 : Wv), Ch [25, 26, 27, 52, 53, 54, 82, 83, 89, 90, 92, 93, 95, 96, 98, 99, 101, 102] [(80, 8), (88, 0), (88, 1), (91, 0), (91, 1), (94, 0), (94, 1), (97, 0), (97, 1), (100, 0), (100, 1)] w w5 → Inv RC w5 → (0 ≤ u2.toInt ∧ u2.toInt ≤ 2147483647) → 2147483647 - u2.toInt < f4 → V x 0 0 w5 4 [(0, .ref (gz (xG x) + 80)), (1, .int 0), (2, .int u1), (3, .int u2)] [] := by
    intro f4
    induction f4 with
    | zero => intro u1 u2 w5 h6 o7 z8 z9; exfalso; omega
    | succ f4 ih10 =>
      intro u1 u2 w5 h6 o7 z8 z9
      refine r_iload_n 3 C dX0_fitSteps_4 rfl ?_
      refine r_iconst (v := 4) C dX0_fitSteps_5 (by decide) ?_
      have k12 := i_rng u2
      refine r_icmp_gt 103 C dX0_fitSteps_6 (by decide) (fun c11 => ?_) (fun c11 => ?_)
      · have c11' := i_lt c11
        refine r_iload_n 2 C dX0_fitSteps_103 rfl ?_
        exact hret _ _ _ _ dX0_fitSteps_104 rfl ⟨h6, o7⟩
      · have c11' := i_nlt c11
        refine r_aload_n 0 C dX0_fitSteps_9 rfl ?_
        refine gfX0_11 81 C (kS sC h6 kc_80) (xS sC h6 xc_80_3) dX0_fitSteps_10 ?_
        refine r_iload_n 1 C dX0_fitSteps_13 rfl ?_
        refine r_aald 3 rfl C (kS sC h6 kc_81) (vin (by omega) (by omega)) (xS sC h6 xc_81_0) dX0_fitSteps_14 ?_
        refine r_iload_n 3 C dX0_fitSteps_15 rfl ?_
        refine callVI C cwX0_93_V (ctX6_may_85 _ _ w5 (sS sC h6) o7 u2 ) (by decide) (kS sC h6 kc_85) rfl rfl rfl (Nat.le_of_ble_eq_true rfl) (by decide) dX0_fitSteps_16 (fun r15 w14 y13 => ?_)
        show V x 0 0 w14 19 [(0, .ref (gz (xG x) + 80)), (1, .int 0), (2, .int u1), (3, .int u2)] [.int r15]
        obtain ⟨h16, o17, g18⟩ := y13
        have h19 := Ch.tr h6 h16 (by decide) (by decide)
        refine r_if_eq 97 C dX0_fitSteps_19 (by decide) (fun c20 => ?_) (fun c20 => ?_)
        · have c20' := i_eq c20
          obtain ⟨i21, e22⟩ : ∃ z : Int32, u2 + Int32.ofInt 1 = z := ⟨_, rfl⟩
          have i21' := iinc_ok e22 (by decide) (by omega) (by omega)
          refine r_iinc [(3, .int i21), (0, .ref (gz (xG x) + 80)), (1, .int 0), (2, .int u1)] 3 C dX0_fitSteps_97 rfl e22 (by decide) rfl ?_
          refine r_goto 4 C dX0_fitSteps_100 (by decide) ?_
          refine r_lv [1, 2, 3, 0] rfl ?_
          exact ih10 u1 i21 w14 h19 o17 (by omega) (by omega)
        · have c20' := i_ne c20
          refine r_aload_n 0 C dX0_fitSteps_22 rfl ?_
          refine gfX0_11 81 C (kS sC h19 kc_80) (xS sC h19 xc_80_3) dX0_fitSteps_23 ?_
          refine r_iload_n 1 C dX0_fitSteps_26 rfl ?_
          refine r_iconst (v := 1) C dX0_fitSteps_27 (by decide) ?_
          refine r_iadd C dX0_fitSteps_28 (fun v23 e24 => ?_)
          have v23' := iadd_ok e24 (by omega) (by omega)
          rcases (show v23.toInt = 1 by omega) with c25
          · obtain rfl : v23 = 1 := i_of (by omega)
            refine r_aald 3 rfl C (kS sC h19 kc_81) (vin (by omega) (by omega)) (xS sC h19 xc_81_1) dX0_fitSteps_29 ?_
            refine r_aload_n 0 C dX0_fitSteps_30 rfl ?_
            refine gfX0_11 81 C (kS sC h19 kc_80) (xS sC h19 xc_80_3) dX0_fitSteps_31 ?_
            refine r_iload_n 1 C dX0_fitSteps_34 rfl ?_
            refine r_aald 3 rfl C (kS sC h19 kc_81) (vin (by omega) (by omega)) (xS sC h19 xc_81_0) dX0_fitSteps_35 ?_
            refine callVV C cwX0_61_V (ctX6_copy_88_85 _ _ w14 (sS sC h19) o17  ) (by decide) (kS sC h19 kc_88) rfl rfl rfl (Nat.le_of_ble_eq_true rfl) (by decide) dX0_fitSteps_36 (fun w27 y26 => ?_)
            show V x 0 0 w27 39 [(0, .ref (gz (xG x) + 80)), (1, .int 0), (2, .int u1), (3, .int u2)] []
            obtain ⟨h29, o30⟩ := y26
            have h31 := Ch.tr h19 h29 (by decide) (by decide)
            refine r_aload_n 0 C dX0_fitSteps_39 rfl ?_
            refine gfX0_11 81 C (kS sC h31 kc_80) (xS sC h31 xc_80_3) dX0_fitSteps_40 ?_
            refine r_iload_n 1 C dX0_fitSteps_43 rfl ?_
            refine r_iconst (v := 1) C dX0_fitSteps_44 (by decide) ?_
            refine r_iadd C dX0_fitSteps_45 (fun v32 e33 => ?_)
            have v32' := iadd_ok e33 (by omega) (by omega)
            rcases (show v32.toInt = 1 by omega) with c34
            · obtain rfl : v32 = 1 := i_of (by omega)
              refine r_aald 3 rfl C (kS sC h31 kc_81) (vin (by omega) (by omega)) (xS sC h31 xc_81_1) dX0_fitSteps_46 ?_
              refine r_iload_n 3 C dX0_fitSteps_47 rfl ?_
              refine r_aload_n 0 C dX0_fitSteps_48 rfl ?_
              refine gfX0_58 (v := (wI w 80 11)) C (kS sC h31 kc_80) (h29.I (by decide) (by decide) (h16.I (by decide) (by decide) (h6.I (by decide) (by decide) rfl))) dX0_fitSteps_49 ?_
              refine callVV C cwX0_124_V (ctX6_pass_88 _ _ w27 (sS sC h31) o30 u2 (wI w 80 11) ) (by decide) (kS sC h31 kc_88) rfl rfl rfl (Nat.le_of_ble_eq_true rfl) (by decide) dX0_fitSteps_52 (fun w36 y35 => ?_)
              show V x 0 0 w36 55 [(0, .ref (gz (xG x) + 80)), (1, .int 0), (2, .int u1), (3, .int u2)] []
              obtain ⟨h38, o39⟩ := y35
              have h40 := Ch.tr h31 h38 (by decide) (by decide)
              refine r_aload_n 0 C dX0_fitSteps_55 rfl ?_
              refine gfX0_17 82 C (kS sC h40 kc_80) (xS sC h40 xc_80_4) dX0_fitSteps_56 ?_
              refine r_iload_n 1 C dX0_fitSteps_59 rfl ?_
              refine r_iload_n 3 C dX0_fitSteps_60 rfl ?_
              refine r_iast C (kS sC h40 kc_82) (vin (by omega) (by omega)) dX0_fitSteps_61 (fun w41 e42 => ?_)
              have h43 := Ch.putS h40 e42 (by decide)
              have o44 := Inv.put0 o39 e42 (by decide)
              refine r_iload_n 2 C dX0_fitSteps_62 rfl ?_
              refine r_aload_n 0 C dX0_fitSteps_63 rfl ?_
              refine gfX0_31 47 C (kS sC h43 kc_80) (xS sC h43 xc_80_1) dX0_fitSteps_64 ?_
              refine r_aload_n 0 C dX0_fitSteps_67 rfl ?_
              refine gfX0_11 81 C (kS sC h43 kc_80) (xS sC h43 xc_80_3) dX0_fitSteps_68 ?_
              refine r_iload_n 1 C dX0_fitSteps_71 rfl ?_
              refine r_iconst (v := 1) C dX0_fitSteps_72 (by decide) ?_
              refine r_iadd C dX0_fitSteps_73 (fun v45 e46 => ?_)
              have v45' := iadd_ok e46 (by omega) (by omega)
              rcases (show v45.toInt = 1 by omega) with c47
              · obtain rfl : v45 = 1 := i_of (by omega)
                refine r_aald 3 rfl C (kS sC h43 kc_81) (vin (by omega) (by omega)) (xS sC h43 xc_81_1) dX0_fitSteps_74 ?_
                refine r_iload_n 1 C dX0_fitSteps_75 rfl ?_
                refine r_iconst (v := 1) C dX0_fitSteps_76 (by decide) ?_
                refine r_iadd C dX0_fitSteps_77 (fun v48 e49 => ?_)
                have v48' := iadd_ok e49 (by omega) (by omega)
                refine callVI C cwX0_128_V (ctX7_fits_47_88 _ _ w41 (sS sC h43) o44 v48 ) (by decide) (kS sC h43 kc_47) rfl rfl rfl (Nat.le_of_ble_eq_true rfl) (by decide) dX0_fitSteps_78 (fun r52 w51 y50 => ?_)
                show V x 0 0 w51 81 [(0, .ref (gz (xG x) + 80)), (1, .int 0), (2, .int u1), (3, .int u2)] [.int r52, .int u1]
                obtain ⟨h53, o54, g55⟩ := y50
                have h56 := Ch.tr h43 h53 (by decide) (by decide)
                refine r_if_eq 94 C dX0_fitSteps_81 (by decide) (fun c57 => ?_) (fun c57 => ?_)
                · have c57' := i_eq c57
                  refine r_iconst (v := 0) C dX0_fitSteps_94 (by decide) ?_
                  refine r_iadd C dX0_fitSteps_95 (fun v58 e59 => ?_)
                  have k60 := i_rng u1
                  have v58' := iadd_ok e59 (by omega) (by omega)
                  refine r_istore_n [(2, .int v58), (0, .ref (gz (xG x) + 80)), (1, .int 0), (3, .int u2)] C dX0_fitSteps_96 (by decide) rfl ?_
                  obtain ⟨i61, e62⟩ : ∃ z : Int32, u2 + Int32.ofInt 1 = z := ⟨_, rfl⟩
                  have i61' := iinc_ok e62 (by decide) (by omega) (by omega)
                  refine r_iinc [(3, .int i61), (2, .int v58), (0, .ref (gz (xG x) + 80)), (1, .int 0)] 3 C dX0_fitSteps_97 rfl e62 (by decide) rfl ?_
                  refine r_goto 4 C dX0_fitSteps_100 (by decide) ?_
                  refine r_lv [2, 3, 1, 0] rfl ?_
                  exact ih10 v58 i61 w51 h56 o54 (by omega) (by omega)
                · have c57' := i_ne c57
                  refine r_aload_n 0 C dX0_fitSteps_84 rfl ?_
                  refine r_iload_n 1 C dX0_fitSteps_85 rfl ?_
                  refine r_iconst (v := 1) C dX0_fitSteps_86 (by decide) ?_
                  refine r_iadd C dX0_fitSteps_87 (fun v63 e64 => ?_)
                  have v63' := iadd_ok e64 (by omega) (by omega)
                  refine callVI C cwX0_73_V (ctX0_fit_80_d1 _ _ w51 (sS sC h56) o54 v63 (by omega)) (by decide) (kS sC h56 kc_80) rfl rfl rfl (Nat.le_of_ble_eq_true rfl) (by decide) dX0_fitSteps_88 (fun r67 w66 y65 => ?_)
                  show V x 0 0 w66 91 [(0, .ref (gz (xG x) + 80)), (1, .int 0), (2, .int u1), (3, .int u2)] [.int r67, .int u1]
                  obtain ⟨h68, o69⟩ := y65
                  have h70 := Ch.tr h56 h68 (by decide) (by decide)
                  refine r_goto 95 C dX0_fitSteps_91 (by decide) ?_
                  refine r_iadd C dX0_fitSteps_95 (fun v71 e72 => ?_)
                  refine r_istore_n [(2, .int v71), (0, .ref (gz (xG x) + 80)), (1, .int 0), (3, .int u2)] C dX0_fitSteps_96 (by decide) rfl ?_
                  obtain ⟨i73, e74⟩ : ∃ z : Int32, u2 + Int32.ofInt 1 = z := ⟨_, rfl⟩
                  have i73' := iinc_ok e74 (by decide) (by omega) (by omega)
                  refine r_iinc [(3, .int i73), (2, .int v71), (0, .ref (gz (xG x) + 80)), (1, .int 0)] 3 C dX0_fitSteps_97 rfl e74 (by decide) rfl ?_
                  refine r_goto 4 C dX0_fitSteps_100 (by decide) ?_
                  refine r_lv [2, 3, 1, 0] rfl ?_
                  exact ih10 v71 i73 w66 h70 o69 (by omega) (by omega)
  refine r_iconst (v := 0) C dX0_fitSteps_0 (by decide) ?_
  refine r_istore_n [(2, .int 0), (0, .ref (gz (xG x) + 80)), (1, .int 0)] C dX0_fitSteps_1 (by decide) rfl ?_
  refine r_iconst (v := 0) C dX0_fitSteps_2 (by decide) ?_
  refine r_istore_n [(3, .int 0), (2, .int 0), (0, .ref (gz (xG x) + 80)), (1, .int 0)] C dX0_fitSteps_3 (by decide) rfl ?_
  refine r_lv [2, 3, 1, 0] rfl ?_
  exact LP3 4294967296 0 0 w h0 o0 (by omega) (by omega)
