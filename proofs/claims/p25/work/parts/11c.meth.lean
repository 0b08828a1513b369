set_option maxHeartbeats 4000000 in
set_option maxRecDepth 100000 in
theorem ctX11_where (l : Launch) (G : Gt) (w : Wv) (sM : Str KM XM w) (o0 : OkM w) (a1 : Int32) (a2 : Int32) : CtI l G yX11_where cX11_where 5 .int ({ frames := 7, cells := 0, slots := 0, locals := 162 } : Room) [.ref (gz G + 114), .int a1, .int a2] w (fun r w' => Ch [122, 123, 124, 135, 136, 137] [(114, 13), (114, 45)] w w' ∧ OkM w') := by
  refine enterI (by decide) (Nat.le_of_ble_eq_true rfl) ?_
  intro x el eG C hret
  subst el; subst eG
  show V x 0 0 w 0 [(0, .ref (gz (xG x) + 114)), (1, .int a1), (2, .int a2)] []
  have h0 : Ch [122, 123, 124, 135, 136, 137] [(114, 13), (114, 45)] w w := Ch.rf
  have qm1000000002 : ((-1000000002) : Int32).toInt = (-1000000002) := by decide
  have qm1000000001 : ((-1000000001) : Int32).toInt = (-1000000001) := by decide
  have q0 : (0 : Int32).toInt = 0 := by decide
  have ql0 : (0 : Int64).toInt = 0 := by decide
  have ql30 : (30 : Int64).toInt = 30 := by decide
  obtain ⟨rA, rB, rC, rD⟩ := (o0.2 : Rel w)
  refine r_aload_n 0 C dX11_where_0 rfl ?_
  refine r_iload_n 1 C dX11_where_1 rfl ?_
  have b1 := Inv.get o0.1 rt_114_3 (j := 3) (by decide) (by decide)
  refine callVI C cwX11_301_V (ctX11_isCrowd _ _ w (sS sM h0) o0 (wI w 114 3) rfl (by omega) a1 ) (by decide) (kS sM h0 kc_114) rfl rfl rfl (Nat.le_of_ble_eq_true rfl) (by decide) dX11_where_2 (fun r4 w3 y2 => ?_)
  show V x 0 0 w3 5 [(0, .ref (gz (xG x) + 114)), (1, .int a1), (2, .int a2)] [.int r4]
  obtain ⟨h5, o6, g7⟩ := y2
  have h8 := Ch.tr h0 h5 (by decide) (by decide)
  refine r_if_ne 12 C dX11_where_5 (by decide) (fun c9 => ?_) (fun c9 => ?_)
  · have c9' := i_ne c9
    refine r_iload_n 2 C dX11_where_12 rfl ?_
    refine r_i2l C dX11_where_13 (fun v10 e11 => ?_)
    have v10' := i2l_ok e11
    refine r_lconst (v := 0) C dX11_where_14 (by decide) ?_
    refine r_ldc2 C mw7_6 dX11_where_15 ?_
    refine callSI C cwX11_114_S (ctX11_in _ _ w3 v10 0 30 ) (by decide) rfl rfl (Nat.le_of_ble_eq_true rfl) (by decide) dX11_where_18 (fun r14 w13 y12 => ?_)
    obtain ⟨y12, g15⟩ := y12
    obtain rfl := y12.symm
    show V x 0 0 w3 21 [(0, .ref (gz (xG x) + 114)), (1, .int a1), (2, .int a2)] [.int r14]
    refine r_if_ne 27 C dX11_where_21 (by decide) (fun c16 => ?_) (fun c16 => ?_)
    · have c16' := i_ne c16
      refine r_aload_n 0 C dX11_where_27 rfl ?_
      refine callVV C cwX11_355_V (ctX11_save _ _ w3 (sS sM h8) o6  ) (by decide) (kS sM h8 kc_114) rfl rfl rfl (Nat.le_of_ble_eq_true rfl) (by decide) dX11_where_28 (fun w18 y17 => ?_)
      show V x 0 0 w18 31 [(0, .ref (gz (xG x) + 114)), (1, .int a1), (2, .int a2)] []
      obtain ⟨h20, o21⟩ := y17
      have h22 := Ch.tr h8 h20 (by decide) (by decide)
      refine r_aload_n 0 C dX11_where_31 rfl ?_
      refine r_iload_n 2 C dX11_where_32 rfl ?_
      have b23 := Inv.get o0.1 rt_114_0 (j := 0) (by decide) (by decide)
      have b24 := Inv.get o0.1 rt_114_1 (j := 1) (by decide) (by decide)
      refine callVI C cwX11_358_V (ctX11_follow _ _ w18 (sS sM h22) o21 (wI w 114 0) (h20.I (by decide) (by decide) (h5.I (by decide) (by decide) rfl)) (by omega) (wI w 114 1) (h20.I (by decide) (by decide) (h5.I (by decide) (by decide) rfl)) (by omega) a2 ) (by decide) (kS sM h22 kc_114) rfl rfl rfl (Nat.le_of_ble_eq_true rfl) (by decide) dX11_where_33 (fun r27 w26 y25 => ?_)
      show V x 0 0 w26 36 [(0, .ref (gz (xG x) + 114)), (1, .int a1), (2, .int a2)] [.int r27]
      obtain ⟨h28, o29⟩ := y25
      have h30 := Ch.tr h22 h28 (by decide) (by decide)
      refine r_istore_n [(3, .int r27), (0, .ref (gz (xG x) + 114)), (1, .int a1), (2, .int a2)] C dX11_where_36 (by decide) rfl ?_
      refine r_aload_n 1 C dX11_where_37 rfl ?_
      refine r_aload_n 1 C dX11_where_38 rfl ?_
      refine gfX11_38 122 C (kS sM h30 kc_114) (xS sM h30 xc_114_14) dX11_where_39 ?_
      refine r_iload_n 2 C dX11_where_42 rfl ?_
      refine r_iald C (kS sM h30 kc_122) (vin (by omega) (by omega)) dX11_where_43 ?_
      have b32 := Inv.geta o29.1 rt_122_0 (i := a1) (by omega) (by omega) (by omega)
      generalize (wI w26 122 (a1).toNatClampNeg) = v31 at b32 ⊢
      refine callVI C cwX11_292_V (ctX11_told10 _ _ w26 (sS sM h30) o29 (wI w 114 0) (h28.I (by decide) (by decide) (h20.I (by decide) (by decide) (h5.I (by decide) (by decide) rfl))) (by omega) v31 (by omega)) (by decide) (kS sM h30 kc_114) rfl rfl rfl (Nat.le_of_ble_eq_true rfl) (by decide) dX11_where_44 (fun r35 w34 y33 => ?_)
      show V x 0 0 w34 47 [(3, .int r27), (0, .ref (gz (xG x) + 114)), (1, .int a1), (2, .int a2)] [.int r35]
      obtain ⟨h36, o37⟩ := y33
      have h38 := Ch.tr h30 h36 (by decide) (by decide)
      refine r_istore [(4, .int r35), (3, .int r27), (0, .ref (gz (xG x) + 114)), (1, .int a1), (2, .int a2)] C dX11_where_47 (by decide) rfl ?_
      refine r_aload_n 2 C dX11_where_49 rfl ?_
      refine callVV C cwX11_361_V (ctX11_putBack _ _ w34 (sS sM h38) o37  ) (by decide) (kS sM h38 kc_114) rfl rfl rfl (Nat.le_of_ble_eq_true rfl) (by decide) dX11_where_50 (fun w40 y39 => ?_)
      show V x 0 0 w40 53 [(4, .int r35), (3, .int r27), (0, .ref (gz (xG x) + 114)), (1, .int a1), (2, .int a2)] []
      obtain ⟨h42, o43⟩ := y39
      have h44 := Ch.tr h38 h42 (by decide) (by decide)
      refine r_iload 0 C dX11_where_53 rfl ?_
      exact hret _ _ _ _ dX11_where_55 rfl ⟨h44, o43⟩
    · have c16' := i_eq c16
      refine r_ldc C mw5_239 dX11_where_24 ?_
      exact hret _ _ _ _ dX11_where_26 rfl ⟨h8, o6⟩
  · have c9' := i_eq c9
    refine r_ldcw C mw6_112 dX11_where_8 ?_
    exact hret _ _ _ _ dX11_where_11 rfl ⟨h8, o6⟩
set_option maxHeartbeats 4000000 in
set_option maxRecDepth 100000 in
theorem ctX11_power (l : Launch) (G : Gt) (w : Wv) (sM : Str KM XM w) (o0 : OkM w) (a1 : Int32) (b1 : (-10) ≤ a1.toInt ∧ a1.toInt ≤ 6) : CtI l G yX11_power cX11_power 3 .int ({ frames := 0, cells := 0, slots := 0, locals := 0 } : Room) [.int a1] w (fun r w' => Ch [] [] w w' ∧ OkM w' ∧ (1 ≤ r.toInt ∧ r.toInt ≤ 15625)) := by
  refine enterI (by decide) (Nat.le_of_ble_eq_true rfl) ?_
  intro x el eG C hret
  subst el; subst eG
  show V x 0 0 w 0 [(0, .int a1)] []
  have h0 : Ch [] [] w w := Ch.rf
  have q0 : (0 : Int32).toInt = 0 := by decide
  have q1 : (1 : Int32).toInt = 1 := by decide
  have q5 : (5 : Int32).toInt = 5 := by decide
  obtain ⟨rA, rB, rC, rD⟩ := (o0.2 : Rel w)
  have LP3 : ∀ (f4 : Nat) (u1 : Int32) (u2 : Int32) (w5 : Wv), Ch [] [] w w5 → OkM w5 → (1 ≤ u1.toInt ∧ u1.toInt ≤ 15625) → (0 ≤ u2.toInt ∧ u2.toInt ≤ 6) → ((u2.toInt = 0 ∧ u1.toInt = 1) ∨ (u2.toInt = 1 ∧ u1.toInt = 5) ∨ (u2.toInt = 2 ∧ u1.toInt = 25) ∨ (u2.toInt = 3 ∧ u1.toInt = 125) ∨ (u2.toInt = 4 ∧ u1.toInt = 625) ∨ (u2.toInt = 5 ∧ u1.toInt = 3125) ∨ (u2.toInt = 6 ∧ u1.toInt = 15625)) → 6 - u2.toInt < f4 → V x 0 0 w5 4 [(0, .int a1), (1, .int u1), (2, .int u2)] [] := by
    intro f4
    induction f4 with
    | zero => intro u1 u2 w5 h6 o7 z8 z9 z10 z11; exfalso; omega
    | succ f4 ih12 =>
      intro u1 u2 w5 h6 o7 z8 z9 z10 z11
      refine r_iload_n 2 C dX11_power_4 rfl ?_
      refine r_iload_n 0 C dX11_power_5 rfl ?_
      refine r_icmp_ge 19 C dX11_power_6 (by decide) (fun c13 => ?_) (fun c13 => ?_)
      · have c13' := i_le c13
        refine r_iload_n 1 C dX11_power_19 rfl ?_
        exact hret _ _ _ _ dX11_power_20 rfl ⟨h6, o7, by omega⟩
      · have c13' := i_nle c13
        refine r_iload_n 1 C dX11_power_9 rfl ?_
        refine r_iconst (v := 5) C dX11_power_10 (by decide) ?_
        refine r_imul C dX11_power_11 (fun v14 e15 => ?_)
        have k16 : (5 : Int32).toInt = 5 := by omega
        have v14' := imul_ok e15 (by rw [k16]; omega) (by rw [k16]; omega)
        rw [k16] at v14'
        refine r_istore_n [(1, .int v14), (0, .int a1), (2, .int u2)] C dX11_power_12 (by decide) rfl ?_
        obtain ⟨i17, e18⟩ : ∃ z : Int32, u2 + Int32.ofInt 1 = z := ⟨_, rfl⟩
        have i17' := iinc_ok e18 (by decide) (by omega) (by omega)
        refine r_iinc [(2, .int i17), (1, .int v14), (0, .int a1)] 2 C dX11_power_13 rfl e18 (by decide) rfl ?_
        refine r_goto 4 C dX11_power_16 (by decide) ?_
        refine r_lv [2, 1, 0] rfl ?_
        exact ih12 v14 i17 w5 h6 o7 (by omega) (by omega) (by omega) (by omega)
  refine r_iconst (v := 1) C dX11_power_0 (by decide) ?_
  refine r_istore_n [(1, .int 1), (0, .int a1)] C dX11_power_1 (by decide) rfl ?_
  refine r_iconst (v := 0) C dX11_power_2 (by decide) ?_
  refine r_istore_n [(2, .int 0), (1, .int 1), (0, .int a1)] C dX11_power_3 (by decide) rfl ?_
  refine r_lv [2, 1, 0] rfl ?_
  exact LP3 4294967296 1 0 w h0 o0 (by omega) (by omega) (by omega) (by omega)
set_option maxHeartbeats 4000000 in
set_option maxRecDepth 100000 in
theorem ctX11_stepIn (l : Launch) (G : Gt) (w : Wv) (sM : Str KM XM w) (o0 : OkM w) (a1 : Int32) (a2 : Int32) (a3 : Int32) (b2 : 0 ≤ a2.toInt ∧ a2.toInt ≤ 6) (b3 : 0 ≤ a3.toInt ∧ a3.toInt ≤ 6) : CtI l G yX11_stepIn cX11_stepIn 3 .int ({ frames := 1, cells := 0, slots := 0, locals := 22 } : Room) [.int a1, .int a2, .int a3] w (fun r w' => Ch [] [] w w' ∧ OkM w') := by
  refine enterI (by decide) (Nat.le_of_ble_eq_true rfl) ?_
  intro x el eG C hret
  subst el; subst eG
  show V x 0 0 w 0 [(0, .int a1), (1, .int a2), (2, .int a3)] []
  have h0 : Ch [] [] w w := Ch.rf
  have q0 : (0 : Int32).toInt = 0 := by decide
  have q1 : (1 : Int32).toInt = 1 := by decide
  have q5 : (5 : Int32).toInt = 5 := by decide
  obtain ⟨rA, rB, rC, rD⟩ := (o0.2 : Rel w)
  refine r_iload_n 0 C dX11_stepIn_0 rfl ?_
  refine r_iload_n 1 C dX11_stepIn_1 rfl ?_
  refine r_iconst (v := 1) C dX11_stepIn_2 (by decide) ?_
  refine r_isub C dX11_stepIn_3 (fun v1 e2 => ?_)
  have v1' := isub_ok e2 (by omega) (by omega)
  refine r_iload_n 2 C dX11_stepIn_4 rfl ?_
  refine r_isub C dX11_stepIn_5 (fun v3 e4 => ?_)
  have v3' := isub_ok e4 (by omega) (by omega)
  refine callSI C cwX11_370_S (ctX11_power _ _ w (sS sM h0) o0 v3 (by omega)) (by decide) rfl rfl (Nat.le_of_ble_eq_true rfl) (by decide) dX11_stepIn_6 (fun r7 w6 y5 => ?_)
  show V x 0 0 w6 9 [(0, .int a1), (1, .int a2), (2, .int a3)] [.int r7, .int a1]
  obtain ⟨h8, o9, g10⟩ := y5
  have h11 := Ch.tr h0 h8 (by decide) (by decide)
  refine r_idiv C dX11_stepIn_9 (fun q => by have q := i_eq q; omega) (fun v12 e13 => ?_)
  refine r_iconst (v := 5) C dX11_stepIn_10 (by decide) ?_
  refine r_irem C dX11_stepIn_11 (fun q => by have q := i_eq q; omega) (fun v14 e15 => ?_)
  exact hret _ _ _ _ dX11_stepIn_12 rfl ⟨h11, o9⟩
set_option maxHeartbeats 4000000 in
set_option maxRecDepth 100000 in
theorem ctX11_isLedOut (l : Launch) (G : Gt) (w : Wv) (sM : Str KM XM w) (o0 : OkM w) (a1 : Int32) : CtI l G yX11_isLedOut cX11_isLedOut 5 .boolean ({ frames := 1, cells := 0, slots := 0, locals := 21 } : Room) [.ref (gz G + 114), .int a1] w (fun r w' => Ch [] [] w w' ∧ OkM w' ∧ ((0 ≤ r.toInt ∧ r.toInt ≤ 1))) := by
  refine enterI (by decide) (Nat.le_of_ble_eq_true rfl) ?_
  intro x el eG C hret
  subst el; subst eG
  show V x 0 0 w 0 [(0, .ref (gz (xG x) + 114)), (1, .int a1)] []
  have h0 : Ch [] [] w w := Ch.rf
  have q0 : (0 : Int32).toInt = 0 := by decide
  have q1 : (1 : Int32).toInt = 1 := by decide
  obtain ⟨rA, rB, rC, rD⟩ := (o0.2 : Rel w)
  have LP3 : ∀ (f4 : Nat) (u1 : Int32) (u2 : Int32) (w5 : Wv), Ch [] [] w w5 → OkM w5 → (0 ≤ u1.toInt ∧ u1.toInt ≤ 1) → (0 ≤ u2.toInt ∧ u2.toInt ≤ 2147483647) → 2147483647 - u2.toInt < f4 → V x 0 0 w5 4 [(0, .ref (gz (xG x) + 114)), (1, .int a1), (2, .int u1), (3, .int u2)] [] := by
    intro f4
    induction f4 with
    | zero => intro u1 u2 w5 h6 o7 z8 z9 z10; exfalso; omega
    | succ f4 ih11 =>
      intro u1 u2 w5 h6 o7 z8 z9 z10
      refine r_iload_n 3 C dX11_isLedOut_4 rfl ?_
      refine r_aload_n 0 C dX11_isLedOut_5 rfl ?_
      refine gfX11_121 (v := (wI w 114 3)) C (kS sM h6 kc_114) (h6.I (by decide) (by decide) rfl) dX11_isLedOut_6 ?_
      have b12 := Inv.get o0.1 rt_114_3 (j := 3) (by decide) (by decide)
      have k14 := i_rng u2
      refine r_icmp_ge 86 C dX11_isLedOut_9 (by decide) (fun c13 => ?_) (fun c13 => ?_)
      · have c13' := i_le c13
        refine r_iload_n 2 C dX11_isLedOut_86 rfl ?_
        exact hret _ _ _ _ dX11_isLedOut_87 (nar_z (z_of (by omega))) ⟨h6, o7, by omega⟩
      · have c13' := i_nle c13
        refine r_aload_n 0 C dX11_isLedOut_12 rfl ?_
        refine gfX11_13 116 C (kS sM h6 kc_114) (xS sM h6 xc_114_4) dX11_isLedOut_13 ?_
        refine r_iload_n 3 C dX11_isLedOut_16 rfl ?_
        refine r_iald C (kS sM h6 kc_116) (vin (by omega) (by omega)) dX11_isLedOut_17 ?_
        generalize (wI w5 116 (u2).toNatClampNeg) = v15
        refine r_iload_n 1 C dX11_isLedOut_18 rfl ?_
        refine r_icmp_ne 26 C dX11_isLedOut_19 (by decide) (fun c16 => ?_) (fun c16 => ?_)
        · have c16' := i_ne c16
          refine r_iconst (v := 0) C dX11_isLedOut_26 (by decide) ?_
          refine r_istore [(4, .int 0), (0, .ref (gz (xG x) + 114)), (1, .int a1), (2, .int u1), (3, .int u2)] C dX11_isLedOut_27 (by decide) rfl ?_
          refine r_iload_n 3 C dX11_isLedOut_29 rfl ?_
          refine r_if_eq 78 C dX11_isLedOut_30 (by decide) (fun c17 => ?_) (fun c17 => ?_)
          · have c17' := i_eq c17
            refine r_iconst (v := 0) C dX11_isLedOut_78 (by decide) ?_
            refine r_istore_n [(2, .int 0), (4, .int 0), (0, .ref (gz (xG x) + 114)), (1, .int a1), (3, .int u2)] C dX11_isLedOut_79 (by decide) rfl ?_
            obtain ⟨i18, e19⟩ : ∃ z : Int32, u2 + Int32.ofInt 1 = z := ⟨_, rfl⟩
            have i18' := iinc_ok e19 (by decide) (by omega) (by omega)
            refine r_iinc [(3, .int i18), (2, .int 0), (4, .int 0), (0, .ref (gz (xG x) + 114)), (1, .int a1)] 4 C dX11_isLedOut_80 rfl e19 (by decide) rfl ?_
            refine r_goto 4 C dX11_isLedOut_83 (by decide) ?_
            refine r_lv [3, 4, 1, 0] rfl ?_
            exact ih11 0 i18 w5 h6 o7 (by omega) (by omega) (by omega)
          · have c17' := i_ne c17
            refine r_aload_n 1 C dX11_isLedOut_33 rfl ?_
            refine r_iload_n 4 C dX11_isLedOut_34 rfl ?_
            refine callVI C cwX11_286_V (ctX11_followers _ _ w5 (sS sM h6) o7 u2 (by omega)) (by decide) (kS sM h6 kc_114) rfl rfl rfl (Nat.le_of_ble_eq_true rfl) (by decide) dX11_isLedOut_35 (fun r22 w21 y20 => ?_)
            show V x 0 0 w21 38 [(4, .int 0), (0, .ref (gz (xG x) + 114)), (1, .int a1), (2, .int u1), (3, .int u2)] [.int r22]
            obtain ⟨h23, o24⟩ := y20
            have h25 := Ch.tr h6 h23 (by decide) (by decide)
            refine r_if_eq 74 C dX11_isLedOut_38 (by decide) (fun c26 => ?_) (fun c26 => ?_)
            · have c26' := i_eq c26
              refine r_iconst (v := 1) C dX11_isLedOut_74 (by decide) ?_
              refine r_goto 79 C dX11_isLedOut_75 (by decide) ?_
              refine r_istore_n [(2, .int 1), (4, .int 0), (0, .ref (gz (xG x) + 114)), (1, .int a1), (3, .int u2)] C dX11_isLedOut_79 (by decide) rfl ?_
              obtain ⟨i27, e28⟩ : ∃ z : Int32, u2 + Int32.ofInt 1 = z := ⟨_, rfl⟩
              have i27' := iinc_ok e28 (by decide) (by omega) (by omega)
              refine r_iinc [(3, .int i27), (2, .int 1), (4, .int 0), (0, .ref (gz (xG x) + 114)), (1, .int a1)] 4 C dX11_isLedOut_80 rfl e28 (by decide) rfl ?_
              refine r_goto 4 C dX11_isLedOut_83 (by decide) ?_
              refine r_lv [3, 4, 1, 0] rfl ?_
              exact ih11 1 i27 w21 h25 o24 (by omega) (by omega) (by omega)
            · have c26' := i_ne c26
              refine r_iload 0 C dX11_isLedOut_41 rfl ?_
              refine r_if_eq 59 C dX11_isLedOut_43 (by decide) (fun c29 => ?_) (fun c29 => ?_)
              · have c29' := i_eq c29
                refine r_aload_n 1 C dX11_isLedOut_59 rfl ?_
                refine gfX11_44 124 C (kS sM h25 kc_114) (xS sM h25 xc_114_16) dX11_isLedOut_60 ?_
                refine r_iload_n 4 C dX11_isLedOut_63 rfl ?_
                refine r_iald C (kS sM h25 kc_124) (vin (by omega) (by omega)) dX11_isLedOut_64 ?_
                generalize (wI w21 124 (u2).toNatClampNeg) = v30
                refine r_aload_n 1 C dX11_isLedOut_65 rfl ?_
                refine gfX11_86 137 C (kS sM h25 kc_114) (xS sM h25 xc_114_48) dX11_isLedOut_66 ?_
                refine r_iload_n 4 C dX11_isLedOut_69 rfl ?_
                refine r_iald C (kS sM h25 kc_137) (vin (by omega) (by omega)) dX11_isLedOut_70 ?_
                generalize (wI w21 137 (u2).toNatClampNeg) = v31
                refine r_icmp_ne 78 C dX11_isLedOut_71 (by decide) (fun c32 => ?_) (fun c32 => ?_)
                · have c32' := i_ne c32
                  refine r_iconst (v := 0) C dX11_isLedOut_78 (by decide) ?_
                  refine r_istore_n [(2, .int 0), (4, .int 0), (0, .ref (gz (xG x) + 114)), (1, .int a1), (3, .int u2)] C dX11_isLedOut_79 (by decide) rfl ?_
                  obtain ⟨i33, e34⟩ : ∃ z : Int32, u2 + Int32.ofInt 1 = z := ⟨_, rfl⟩
                  have i33' := iinc_ok e34 (by decide) (by omega) (by omega)
                  refine r_iinc [(3, .int i33), (2, .int 0), (4, .int 0), (0, .ref (gz (xG x) + 114)), (1, .int a1)] 4 C dX11_isLedOut_80 rfl e34 (by decide) rfl ?_
                  refine r_goto 4 C dX11_isLedOut_83 (by decide) ?_
                  refine r_lv [3, 4, 1, 0] rfl ?_
                  exact ih11 0 i33 w21 h25 o24 (by omega) (by omega) (by omega)
                · have c32' := i_eq c32
                  refine r_iconst (v := 1) C dX11_isLedOut_74 (by decide) ?_
                  refine r_goto 79 C dX11_isLedOut_75 (by decide) ?_
                  refine r_istore_n [(2, .int 1), (4, .int 0), (0, .ref (gz (xG x) + 114)), (1, .int a1), (3, .int u2)] C dX11_isLedOut_79 (by decide) rfl ?_
                  obtain ⟨i35, e36⟩ : ∃ z : Int32, u2 + Int32.ofInt 1 = z := ⟨_, rfl⟩
                  have i35' := iinc_ok e36 (by decide) (by omega) (by omega)
                  refine r_iinc [(3, .int i35), (2, .int 1), (4, .int 0), (0, .ref (gz (xG x) + 114)), (1, .int a1)] 4 C dX11_isLedOut_80 rfl e36 (by decide) rfl ?_
                  refine r_goto 4 C dX11_isLedOut_83 (by decide) ?_
                  refine r_lv [3, 4, 1, 0] rfl ?_
                  exact ih11 1 i35 w21 h25 o24 (by omega) (by omega) (by omega)
              · have c29' := i_ne c29
                exfalso; omega
        · have c16' := i_eq c16
          refine r_iconst (v := 1) C dX11_isLedOut_22 (by decide) ?_
          refine r_goto 27 C dX11_isLedOut_23 (by decide) ?_
          refine r_istore [(4, .int 1), (0, .ref (gz (xG x) + 114)), (1, .int a1), (2, .int u1), (3, .int u2)] C dX11_isLedOut_27 (by decide) rfl ?_
          refine r_iload_n 3 C dX11_isLedOut_29 rfl ?_
          refine r_if_eq 78 C dX11_isLedOut_30 (by decide) (fun c37 => ?_) (fun c37 => ?_)
          · have c37' := i_eq c37
            refine r_iconst (v := 0) C dX11_isLedOut_78 (by decide) ?_
            refine r_istore_n [(2, .int 0), (4, .int 1), (0, .ref (gz (xG x) + 114)), (1, .int a1), (3, .int u2)] C dX11_isLedOut_79 (by decide) rfl ?_
            obtain ⟨i38, e39⟩ : ∃ z : Int32, u2 + Int32.ofInt 1 = z := ⟨_, rfl⟩
            have i38' := iinc_ok e39 (by decide) (by omega) (by omega)
            refine r_iinc [(3, .int i38), (2, .int 0), (4, .int 1), (0, .ref (gz (xG x) + 114)), (1, .int a1)] 4 C dX11_isLedOut_80 rfl e39 (by decide) rfl ?_
            refine r_goto 4 C dX11_isLedOut_83 (by decide) ?_
            refine r_lv [3, 4, 1, 0] rfl ?_
            exact ih11 0 i38 w5 h6 o7 (by omega) (by omega) (by omega)
          · have c37' := i_ne c37
            refine r_aload_n 1 C dX11_isLedOut_33 rfl ?_
            refine r_iload_n 4 C dX11_isLedOut_34 rfl ?_
            refine callVI C cwX11_286_V (ctX11_followers _ _ w5 (sS sM h6) o7 u2 (by omega)) (by decide) (kS sM h6 kc_114) rfl rfl rfl (Nat.le_of_ble_eq_true rfl) (by decide) dX11_isLedOut_35 (fun r42 w41 y40 => ?_)
            show V x 0 0 w41 38 [(4, .int 1), (0, .ref (gz (xG x) + 114)), (1, .int a1), (2, .int u1), (3, .int u2)] [.int r42]
            obtain ⟨h43, o44⟩ := y40
            have h45 := Ch.tr h6 h43 (by decide) (by decide)
            refine r_if_eq 74 C dX11_isLedOut_38 (by decide) (fun c46 => ?_) (fun c46 => ?_)
            · have c46' := i_eq c46
              refine r_iconst (v := 1) C dX11_isLedOut_74 (by decide) ?_
              refine r_goto 79 C dX11_isLedOut_75 (by decide) ?_
              refine r_istore_n [(2, .int 1), (4, .int 1), (0, .ref (gz (xG x) + 114)), (1, .int a1), (3, .int u2)] C dX11_isLedOut_79 (by decide) rfl ?_
              obtain ⟨i47, e48⟩ : ∃ z : Int32, u2 + Int32.ofInt 1 = z := ⟨_, rfl⟩
              have i47' := iinc_ok e48 (by decide) (by omega) (by omega)
              refine r_iinc [(3, .int i47), (2, .int 1), (4, .int 1), (0, .ref (gz (xG x) + 114)), (1, .int a1)] 4 C dX11_isLedOut_80 rfl e48 (by decide) rfl ?_
              refine r_goto 4 C dX11_isLedOut_83 (by decide) ?_
              refine r_lv [3, 4, 1, 0] rfl ?_
              exact ih11 1 i47 w41 h45 o44 (by omega) (by omega) (by omega)
            · have c46' := i_ne c46
              refine r_iload 0 C dX11_isLedOut_41 rfl ?_
              refine r_if_eq 59 C dX11_isLedOut_43 (by decide) (fun c49 => ?_) (fun c49 => ?_)
              · have c49' := i_eq c49
                exfalso; omega
              · have c49' := i_ne c49
                refine r_aload_n 1 C dX11_isLedOut_46 rfl ?_
                refine gfX11_44 124 C (kS sM h45 kc_114) (xS sM h45 xc_114_16) dX11_isLedOut_47 ?_
                refine r_iload_n 4 C dX11_isLedOut_50 rfl ?_
                refine r_iald C (kS sM h45 kc_124) (vin (by omega) (by omega)) dX11_isLedOut_51 ?_
                generalize (wI w41 124 (u2).toNatClampNeg) = v50
                refine r_iconst (v := 1) C dX11_isLedOut_52 (by decide) ?_
                refine r_icmp_ne 78 C dX11_isLedOut_53 (by decide) (fun c51 => ?_) (fun c51 => ?_)
                · have c51' := i_ne c51
                  refine r_iconst (v := 0) C dX11_isLedOut_78 (by decide) ?_
                  refine r_istore_n [(2, .int 0), (4, .int 1), (0, .ref (gz (xG x) + 114)), (1, .int a1), (3, .int u2)] C dX11_isLedOut_79 (by decide) rfl ?_
                  obtain ⟨i52, e53⟩ : ∃ z : Int32, u2 + Int32.ofInt 1 = z := ⟨_, rfl⟩
                  have i52' := iinc_ok e53 (by decide) (by omega) (by omega)
                  refine r_iinc [(3, .int i52), (2, .int 0), (4, .int 1), (0, .ref (gz (xG x) + 114)), (1, .int a1)] 4 C dX11_isLedOut_80 rfl e53 (by decide) rfl ?_
                  refine r_goto 4 C dX11_isLedOut_83 (by decide) ?_
                  refine r_lv [3, 4, 1, 0] rfl ?_
                  exact ih11 0 i52 w41 h45 o44 (by omega) (by omega) (by omega)
                · have c51' := i_eq c51
                  refine r_goto 74 C dX11_isLedOut_56 (by decide) ?_
                  refine r_iconst (v := 1) C dX11_isLedOut_74 (by decide) ?_
                  refine r_goto 79 C dX11_isLedOut_75 (by decide) ?_
                  refine r_istore_n [(2, .int 1), (4, .int 1), (0, .ref (gz (xG x) + 114)), (1, .int a1), (3, .int u2)] C dX11_isLedOut_79 (by decide) rfl ?_
                  obtain ⟨i54, e55⟩ : ∃ z : Int32, u2 + Int32.ofInt 1 = z := ⟨_, rfl⟩
                  have i54' := iinc_ok e55 (by decide) (by omega) (by omega)
                  refine r_iinc [(3, .int i54), (2, .int 1), (4, .int 1), (0, .ref (gz (xG x) + 114)), (1, .int a1)] 4 C dX11_isLedOut_80 rfl e55 (by decide) rfl ?_
                  refine r_goto 4 C dX11_isLedOut_83 (by decide) ?_
                  refine r_lv [3, 4, 1, 0] rfl ?_
                  exact ih11 1 i54 w41 h45 o44 (by omega) (by omega) (by omega)
  refine r_iconst (v := 1) C dX11_isLedOut_0 (by decide) ?_
  refine r_istore_n [(2, .int 1), (0, .ref (gz (xG x) + 114)), (1, .int a1)] C dX11_isLedOut_1 (by decide) rfl ?_
  refine r_iconst (v := 0) C dX11_isLedOut_2 (by decide) ?_
  refine r_istore_n [(3, .int 0), (2, .int 1), (0, .ref (gz (xG x) + 114)), (1, .int a1)] C dX11_isLedOut_3 (by decide) rfl ?_
  refine r_lv [2, 3, 1, 0] rfl ?_
  exact LP3 4294967296 1 0 w h0 o0 (by omega) (by omega) (by omega)
set_option maxHeartbeats 4000000 in
set_option maxRecDepth 100000 in
theorem ctX11_leadsOut (l : Launch) (G : Gt) (w : Wv) (sM : Str KM XM w) (o0 : OkM w) (a1 : Int32) (a2 : Int32) (a3 : Int32) (a4 : Int32) (b2 : 0 ≤ a2.toInt ∧ a2.toInt ≤ 2) (b3 : 0 ≤ a3.toInt ∧ a3.toInt ≤ 6) : CtI l G yX11_leadsOut cX11_leadsOut 7 .boolean ({ frames := 6, cells := 0, slots := 0, locals := 140 } : Room) [.ref (gz G + 114), .int a1, .int a2, .int a3, .int a4] w (fun r w' => Ch [122, 123, 124] [(114, 13)] w w' ∧ OkM w' ∧ ((0 ≤ r.toInt ∧ r.toInt ≤ 1))) := by
  refine enterI (by decide) (Nat.le_of_ble_eq_true rfl) ?_
  intro x el eG C hret
  subst el; subst eG
  show V x 0 0 w 0 [(0, .ref (gz (xG x) + 114)), (1, .int a1), (2, .int a2), (3, .int a3), (4, .int a4)] []
  have h0 : Ch [122, 123, 124] [(114, 13)] w w := Ch.rf
  have q0 : (0 : Int32).toInt = 0 := by decide
  have q1 : (1 : Int32).toInt = 1 := by decide
  obtain ⟨rA, rB, rC, rD⟩ := (o0.2 : Rel w)
  have LP3 : ∀ (f4 : Nat) (u1 : Int32) (u2 : Int32) (w5 : Wv), Ch [122, 123, 124] [(114, 13)] w w5 → OkM w5 → (0 ≤ u1.toInt ∧ u1.toInt ≤ 1) → (0 ≤ u2.toInt ∧ u2.toInt ≤ 2147483647) → 2147483647 - u2.toInt < f4 → V x 0 0 w5 6 [(0, .ref (gz (xG x) + 114)), (1, .int a1), (2, .int a2), (3, .int a3), (4, .int a4), (5, .int u1), (6, .int u2)] [] := by
    intro f4
    induction f4 with
    | zero => intro u1 u2 w5 h6 o7 z8 z9 z10; exfalso; omega
    | succ f4 ih11 =>
      intro u1 u2 w5 h6 o7 z8 z9 z10
      refine r_iload 6 C dX11_leadsOut_6 rfl ?_
      refine r_iload_n 3 C dX11_leadsOut_8 rfl ?_
      have k13 := i_rng u2
      refine r_icmp_ge 38 C dX11_leadsOut_9 (by decide) (fun c12 => ?_) (fun c12 => ?_)
      · have c12' := i_le c12
        refine r_iload 5 C dX11_leadsOut_38 rfl ?_
        refine r_if_eq 55 C dX11_leadsOut_40 (by decide) (fun c14 => ?_) (fun c14 => ?_)
        · have c14' := i_eq c14
          refine r_iconst (v := 0) C dX11_leadsOut_55 (by decide) ?_
          exact hret _ _ _ _ dX11_leadsOut_56 (nar_z (z_of (by omega))) ⟨h6, o7, by omega⟩
        · have c14' := i_ne c14
          refine r_aload_n 0 C dX11_leadsOut_43 rfl ?_
          refine r_iload_n 1 C dX11_leadsOut_44 rfl ?_
          refine callVI C cwX11_377_V (ctX11_isLedOut _ _ w5 (sS sM h6) o7 a1 ) (by decide) (kS sM h6 kc_114) rfl rfl rfl (Nat.le_of_ble_eq_true rfl) (by decide) dX11_leadsOut_45 (fun r17 w16 y15 => ?_)
          show V x 0 0 w16 48 [(0, .ref (gz (xG x) + 114)), (1, .int a1), (2, .int a2), (3, .int a3), (4, .int a4), (5, .int u1), (6, .int u2)] [.int r17]
          obtain ⟨h18, o19, g20⟩ := y15
          have h21 := Ch.tr h6 h18 (by decide) (by decide)
          refine r_if_eq 55 C dX11_leadsOut_48 (by decide) (fun c22 => ?_) (fun c22 => ?_)
          · have c22' := i_eq c22
            refine r_iconst (v := 0) C dX11_leadsOut_55 (by decide) ?_
            exact hret _ _ _ _ dX11_leadsOut_56 (nar_z (z_of (by omega))) ⟨h21, o19, by omega⟩
          · have c22' := i_ne c22
            refine r_iconst (v := 1) C dX11_leadsOut_51 (by decide) ?_
            refine r_goto 56 C dX11_leadsOut_52 (by decide) ?_
            exact hret _ _ _ _ dX11_leadsOut_56 (nar_z (z_of (by omega))) ⟨h21, o19, by omega⟩
      · have c12' := i_nle c12
        refine r_iload 5 C dX11_leadsOut_12 rfl ?_
        refine r_if_eq 38 C dX11_leadsOut_14 (by decide) (fun c23 => ?_) (fun c23 => ?_)
        · have c23' := i_eq c23
          refine r_iload 5 C dX11_leadsOut_38 rfl ?_
          refine r_if_eq 55 C dX11_leadsOut_40 (by decide) (fun c24 => ?_) (fun c24 => ?_)
          · have c24' := i_eq c24
            refine r_iconst (v := 0) C dX11_leadsOut_55 (by decide) ?_
            exact hret _ _ _ _ dX11_leadsOut_56 (nar_z (z_of (by omega))) ⟨h6, o7, by omega⟩
          · have c24' := i_ne c24
            exfalso; omega
        · have c23' := i_ne c23
          refine r_aload_n 0 C dX11_leadsOut_17 rfl ?_
          refine r_iload 4 C dX11_leadsOut_18 rfl ?_
          refine r_iload_n 3 C dX11_leadsOut_20 rfl ?_
          refine r_iload 6 C dX11_leadsOut_21 rfl ?_
          refine callSI C cwX11_373_S (ctX11_stepIn _ _ w5 (sS sM h6) o7 a4 a3 u2 (by omega) (by omega)) (by decide) rfl rfl (Nat.le_of_ble_eq_true rfl) (by decide) dX11_leadsOut_23 (fun r27 w26 y25 => ?_)
          show V x 0 0 w26 26 [(0, .ref (gz (xG x) + 114)), (1, .int a1), (2, .int a2), (3, .int a3), (4, .int a4), (5, .int u1), (6, .int u2)] [.int r27, .ref (gz (xG x) + 114)]
          obtain ⟨h28, o29⟩ := y25
          have h30 := Ch.tr h6 h28 (by decide) (by decide)
          refine r_iload_n 2 C dX11_leadsOut_26 rfl ?_
          have b31 := Inv.get o0.1 rt_114_0 (j := 0) (by decide) (by decide)
          have b32 := Inv.get o0.1 rt_114_1 (j := 1) (by decide) (by decide)
          refine callVI C cwX11_327_V (ctX11_minuteBy _ _ w26 (sS sM h30) o29 (wI w 114 0) (h28.I (by decide) (by decide) (h6.I (by decide) (by decide) rfl)) (by omega) (wI w 114 1) (h28.I (by decide) (by decide) (h6.I (by decide) (by decide) rfl)) (by omega) r27 a2 (by omega)) (by decide) (kS sM h30 kc_114) rfl rfl rfl (Nat.le_of_ble_eq_true rfl) (by decide) dX11_leadsOut_27 (fun r35 w34 y33 => ?_)
          show V x 0 0 w34 30 [(0, .ref (gz (xG x) + 114)), (1, .int a1), (2, .int a2), (3, .int a3), (4, .int a4), (5, .int u1), (6, .int u2)] [.int r35]
          obtain ⟨h36, o37, g38⟩ := y33
          have h39 := Ch.tr h30 h36 (by decide) (by decide)
          refine r_istore [(5, .int r35), (0, .ref (gz (xG x) + 114)), (1, .int a1), (2, .int a2), (3, .int a3), (4, .int a4), (6, .int u2)] C dX11_leadsOut_30 (by decide) rfl ?_
          obtain ⟨i40, e41⟩ : ∃ z : Int32, u2 + Int32.ofInt 1 = z := ⟨_, rfl⟩
          have i40' := iinc_ok e41 (by decide) (by omega) (by omega)
          refine r_iinc [(6, .int i40), (5, .int r35), (0, .ref (gz (xG x) + 114)), (1, .int a1), (2, .int a2), (3, .int a3), (4, .int a4)] 6 C dX11_leadsOut_32 rfl e41 (by decide) rfl ?_
          refine r_goto 6 C dX11_leadsOut_35 (by decide) ?_
          refine r_lv [2, 3, 4, 5, 6, 1, 0] rfl ?_
          exact ih11 r35 i40 w34 h39 o37 (by omega) (by omega) (by omega)
  refine r_iconst (v := 1) C dX11_leadsOut_0 (by decide) ?_
  refine r_istore [(5, .int 1), (0, .ref (gz (xG x) + 114)), (1, .int a1), (2, .int a2), (3, .int a3), (4, .int a4)] C dX11_leadsOut_1 (by decide) rfl ?_
  refine r_iconst (v := 0) C dX11_leadsOut_3 (by decide) ?_
  refine r_istore [(6, .int 0), (5, .int 1), (0, .ref (gz (xG x) + 114)), (1, .int a1), (2, .int a2), (3, .int a3), (4, .int a4)] C dX11_leadsOut_4 (by decide) rfl ?_
  refine r_lv [2, 3, 4, 5, 6, 1, 0] rfl ?_
  exact LP3 4294967296 1 0 w h0 o0 (by omega) (by omega) (by omega)
set_option maxHeartbeats 4000000 in
set_option maxRecDepth 100000 in
theorem ctX11_soonest (l : Launch) (G : Gt) (w : Wv) (sM : Str KM XM w) (o0 : OkM w) (a1 : Int32) (a2 : Int32) (a3 : Int32) : CtI l G yX11_soonest cX11_soonest 7 .int ({ frames := 7, cells := 0, slots := 0, locals := 166 } : Room) [.ref (gz G + 114), .int a1, .int a2, .int a3] w (fun r w' => Ch [122, 123, 124, 135, 136, 137] [(114, 13), (114, 45)] w w' ∧ OkM w') := by
  refine enterI (by decide) (Nat.le_of_ble_eq_true rfl) ?_
  intro x el eG C hret
  subst el; subst eG
  show V x 0 0 w 0 [(0, .ref (gz (xG x) + 114)), (1, .int a1), (2, .int a2), (3, .int a3)] []
  have h0 : Ch [122, 123, 124, 135, 136, 137] [(114, 13), (114, 45)] w w := Ch.rf
  have qm1000000001 : ((-1000000001) : Int32).toInt = (-1000000001) := by decide
  have qm1 : ((-1) : Int32).toInt = (-1) := by decide
  have q0 : (0 : Int32).toInt = 0 := by decide
  have q1 : (1 : Int32).toInt = 1 := by decide
  have q7 : (7 : Int32).toInt = 7 := by decide
  have ql0 : (0 : Int64).toInt = 0 := by decide
  have ql2 : (2 : Int64).toInt = 2 := by decide
  obtain ⟨rA, rB, rC, rD⟩ := (o0.2 : Rel w)
  have LP24 : ∀ (f25 : Nat) (u23 : Int32) (w26 : Wv), Ch [122, 123, 124, 135, 136, 137] [(114, 13), (114, 45)] w w26 → OkM w26 → (0 ≤ u23.toInt ∧ u23.toInt ≤ 2147483647) → (0 ≤ a1.toInt ∧ a1.toInt ≤ 2) → (0 ≤ a2.toInt ∧ a2.toInt ≤ 2) → 2147483647 - u23.toInt < f25 → V x 0 0 w26 31 [(0, .ref (gz (xG x) + 114)), (1, .int a1), (2, .int a2), (3, .int a3), (4, .int u23)] [] := by
    intro f25
    induction f25 with
    | zero => intro u23 w26 h27 o28 z29 z30 z31 z32; exfalso; omega
    | succ f25 ih33 =>
      intro u23 w26 h27 o28 z29 z30 z31 z32
      have LP37 : ∀ (f38 : Nat) (u36 : Int32) (w39 : Wv), Ch [122, 123, 124, 135, 136, 137] [(114, 13), (114, 45)] w w39 → OkM w39 → (0 ≤ u36.toInt ∧ u36.toInt ≤ 2147483647) → (0 ≤ a1.toInt ∧ a1.toInt ≤ 2) → (0 ≤ a2.toInt ∧ a2.toInt ≤ 2) → (0 ≤ u23.toInt ∧ u23.toInt ≤ 6) → 2147483647 - u36.toInt < f38 → V x 0 0 w39 41 [(0, .ref (gz (xG x) + 114)), (1, .int a1), (2, .int a2), (3, .int a3), (4, .int u23), (5, .int u36)] [] := by
        intro f38
        induction f38 with
        | zero => intro u36 w39 h40 o41 z42 z43 z44 z45 z46; exfalso; omega
        | succ f38 ih47 =>
          intro u36 w39 h40 o41 z42 z43 z44 z45 z46
          refine r_iload 5 C dX11_soonest_41 rfl ?_
          refine r_iload 4 C dX11_soonest_43 rfl ?_
          refine callSI C cwX11_370_S (ctX11_power _ _ w39 (sS sM h40) o41 u23 (by omega)) (by decide) rfl rfl (Nat.le_of_ble_eq_true rfl) (by decide) dX11_soonest_45 (fun r50 w49 y48 => ?_)
          show V x 0 0 w49 48 [(0, .ref (gz (xG x) + 114)), (1, .int a1), (2, .int a2), (3, .int a3), (4, .int u23), (5, .int u36)] [.int r50, .int u36]
          obtain ⟨h51, o52, g53⟩ := y48
          have h54 := Ch.tr h40 h51 (by decide) (by decide)
          have k56 := i_rng u36
          refine r_icmp_ge 115 C dX11_soonest_48 (by decide) (fun c55 => ?_) (fun c55 => ?_)
          · have c55' := i_le c55
            obtain ⟨i57, e58⟩ : ∃ z : Int32, u23 + Int32.ofInt 1 = z := ⟨_, rfl⟩
            have i57' := iinc_ok e58 (by decide) (by omega) (by omega)
            refine r_iinc [(4, .int i57), (0, .ref (gz (xG x) + 114)), (1, .int a1), (2, .int a2), (3, .int a3), (5, .int u36)] 4 C dX11_soonest_115 rfl e58 (by decide) rfl ?_
            refine r_goto 31 C dX11_soonest_118 (by decide) ?_
            refine r_lv [1, 2, 3, 4, 0] rfl ?_
            exact ih33 i57 w49 h54 o52 (by omega) (by omega) (by omega) (by omega)
          · have c55' := i_nle c55
            refine r_aload_n 0 C dX11_soonest_51 rfl ?_
            refine r_iload_n 1 C dX11_soonest_52 rfl ?_
            refine r_iload_n 2 C dX11_soonest_53 rfl ?_
            refine r_iload 4 C dX11_soonest_54 rfl ?_
            refine r_iload 5 C dX11_soonest_56 rfl ?_
            refine callVI C cwX11_380_V (ctX11_leadsOut _ _ w49 (sS sM h54) o52 a1 a2 u23 u36 (by omega) (by omega)) (by decide) (kS sM h54 kc_114) rfl rfl rfl (Nat.le_of_ble_eq_true rfl) (by decide) dX11_soonest_58 (fun r61 w60 y59 => ?_)
            show V x 0 0 w60 61 [(0, .ref (gz (xG x) + 114)), (1, .int a1), (2, .int a2), (3, .int a3), (4, .int u23), (5, .int u36)] [.int r61]
            obtain ⟨h62, o63, g64⟩ := y59
            have h65 := Ch.tr h54 h62 (by decide) (by decide)
            refine r_istore [(6, .int r61), (0, .ref (gz (xG x) + 114)), (1, .int a1), (2, .int a2), (3, .int a3), (4, .int u23), (5, .int u36)] C dX11_soonest_61 (by decide) rfl ?_
            refine r_aload_n 1 C dX11_soonest_63 rfl ?_
            refine callVV C cwX11_361_V (ctX11_putBack _ _ w60 (sS sM h65) o63  ) (by decide) (kS sM h65 kc_114) rfl rfl rfl (Nat.le_of_ble_eq_true rfl) (by decide) dX11_soonest_64 (fun w67 y66 => ?_)
            show V x 0 0 w67 67 [(6, .int r61), (0, .ref (gz (xG x) + 114)), (1, .int a1), (2, .int a2), (3, .int a3), (4, .int u23), (5, .int u36)] []
            obtain ⟨h69, o70⟩ := y66
            have h71 := Ch.tr h65 h69 (by decide) (by decide)
            refine r_iload 0 C dX11_soonest_67 rfl ?_
            refine r_if_eq 109 C dX11_soonest_69 (by decide) (fun c72 => ?_) (fun c72 => ?_)
            · have c72' := i_eq c72
              obtain ⟨i73, e74⟩ : ∃ z : Int32, u36 + Int32.ofInt 1 = z := ⟨_, rfl⟩
              have i73' := iinc_ok e74 (by decide) (by omega) (by omega)
              refine r_iinc [(5, .int i73), (6, .int r61), (0, .ref (gz (xG x) + 114)), (1, .int a1), (2, .int a2), (3, .int a3), (4, .int u23)] 6 C dX11_soonest_109 rfl e74 (by decide) rfl ?_
              refine r_goto 41 C dX11_soonest_112 (by decide) ?_
              refine r_lv [2, 3, 4, 5, 6, 0] rfl ?_
              exact ih47 i73 w67 h71 o70 (by omega) (by omega) (by omega) (by omega) (by omega)
            · have c72' := i_ne c72
              refine r_iload_n 4 C dX11_soonest_72 rfl ?_
              refine r_iconst (v := (-1)) C dX11_soonest_73 (by decide) ?_
              refine r_icmp_ne 82 C dX11_soonest_74 (by decide) (fun c75 => ?_) (fun c75 => ?_)
              · have c75' := i_ne c75
                refine r_iload_n 4 C dX11_soonest_82 rfl ?_
                refine r_i2l C dX11_soonest_83 (fun v76 e77 => ?_)
                have v76' := i2l_ok e77
                refine r_lconst (v := 0) C dX11_soonest_84 (by decide) ?_
                refine r_iload 5 C dX11_soonest_85 rfl ?_
                refine r_iconst (v := 1) C dX11_soonest_87 (by decide) ?_
                refine r_isub C dX11_soonest_88 (fun v78 e79 => ?_)
                have v78' := isub_ok e79 (by omega) (by omega)
                refine r_i2l C dX11_soonest_89 (fun v80 e81 => ?_)
                have v80' := i2l_ok e81
                refine callSI C cwX11_114_S (ctX11_in _ _ w67 v76 0 v80 ) (by decide) rfl rfl (Nat.le_of_ble_eq_true rfl) (by decide) dX11_soonest_90 (fun r84 w83 y82 => ?_)
                obtain ⟨y82, g85⟩ := y82
                obtain rfl := y82.symm
                show V x 0 0 w67 93 [(6, .int r61), (0, .ref (gz (xG x) + 114)), (1, .int a1), (2, .int a2), (3, .int a3), (4, .int u23), (5, .int u36)] [.int r84]
                refine r_if_eq 107 C dX11_soonest_93 (by decide) (fun c86 => ?_) (fun c86 => ?_)
                · have c86' := i_eq c86
                  refine r_iconst (v := (-1)) C dX11_soonest_107 (by decide) ?_
                  exact hret _ _ _ _ dX11_soonest_108 rfl ⟨h71, o70⟩
                · have c86' := i_ne c86
                  refine r_iload 6 C dX11_soonest_96 rfl ?_
                  refine r_iload 5 C dX11_soonest_98 rfl ?_
                  refine r_iload_n 4 C dX11_soonest_100 rfl ?_
                  refine callSI C cwX11_373_S (ctX11_stepIn _ _ w67 (sS sM h71) o70 u36 u23 a3 (by omega) (by omega)) (by decide) rfl rfl (Nat.le_of_ble_eq_true rfl) (by decide) dX11_soonest_101 (fun r89 w88 y87 => ?_)
                  show V x 0 0 w88 104 [(6, .int r61), (0, .ref (gz (xG x) + 114)), (1, .int a1), (2, .int a2), (3, .int a3), (4, .int u23), (5, .int u36)] [.int r89]
                  obtain ⟨h90, o91⟩ := y87
                  have h92 := Ch.tr h71 h90 (by decide) (by decide)
                  refine r_goto 108 C dX11_soonest_104 (by decide) ?_
                  exact hret _ _ _ _ dX11_soonest_108 rfl ⟨h92, o91⟩
              · have c75' := i_eq c75
                refine r_iload 5 C dX11_soonest_77 rfl ?_
                refine r_goto 108 C dX11_soonest_79 (by decide) ?_
                exact hret _ _ _ _ dX11_soonest_108 rfl ⟨h71, o70⟩
      refine r_iload 4 C dX11_soonest_31 rfl ?_
      refine r_bipush (v := 7) C dX11_soonest_33 (by decide) ?_
      have k35 := i_rng u23
      refine r_icmp_ge 121 C dX11_soonest_35 (by decide) (fun c34 => ?_) (fun c34 => ?_)
      · have c34' := i_le c34
        refine r_iconst (v := (-1)) C dX11_soonest_121 (by decide) ?_
        exact hret _ _ _ _ dX11_soonest_122 rfl ⟨h27, o28⟩
      · have c34' := i_nle c34
        refine r_iconst (v := 0) C dX11_soonest_38 (by decide) ?_
        refine r_istore [(5, .int 0), (0, .ref (gz (xG x) + 114)), (1, .int a1), (2, .int a2), (3, .int a3), (4, .int u23)] C dX11_soonest_39 (by decide) rfl ?_
        refine r_lv [1, 2, 3, 4, 5, 0] rfl ?_
        exact LP37 4294967296 0 w26 h27 o28 (by omega) (by omega) (by omega) (by omega) (by omega)
  refine r_iload_n 1 C dX11_soonest_0 rfl ?_
  refine r_i2l C dX11_soonest_1 (fun v1 e2 => ?_)
  have v1' := i2l_ok e2
  refine r_lconst (v := 0) C dX11_soonest_2 (by decide) ?_
  refine r_ldc2 C mw7_1 dX11_soonest_3 ?_
  refine callSI C cwX11_114_S (ctX11_in _ _ w v1 0 2 ) (by decide) rfl rfl (Nat.le_of_ble_eq_true rfl) (by decide) dX11_soonest_6 (fun r5 w4 y3 => ?_)
  obtain ⟨y3, g6⟩ := y3
  obtain rfl := y3.symm
  show V x 0 0 w 9 [(0, .ref (gz (xG x) + 114)), (1, .int a1), (2, .int a2), (3, .int a3)] [.int r5]
  refine r_if_eq 20 C dX11_soonest_9 (by decide) (fun c7 => ?_) (fun c7 => ?_)
  · have c7' := i_eq c7
    refine r_ldcw C mw6_112 dX11_soonest_20 ?_
    exact hret _ _ _ _ dX11_soonest_23 rfl ⟨h0, o0⟩
  · have c7' := i_ne c7
    refine r_aload_n 0 C dX11_soonest_12 rfl ?_
    refine r_iload_n 2 C dX11_soonest_13 rfl ?_
    have b8 := Inv.get o0.1 rt_114_8 (j := 8) (by decide) (by decide)
    refine callVI C cwX11_310_V (ctX11_isTune _ _ w (sS sM h0) o0 (wI w 114 8) rfl (by omega) a2 ) (by decide) (kS sM h0 kc_114) rfl rfl rfl (Nat.le_of_ble_eq_true rfl) (by decide) dX11_soonest_14 (fun r11 w10 y9 => ?_)
    show V x 0 0 w10 17 [(0, .ref (gz (xG x) + 114)), (1, .int a1), (2, .int a2), (3, .int a3)] [.int r11]
    obtain ⟨h12, o13, g14⟩ := y9
    have h15 := Ch.tr h0 h12 (by decide) (by decide)
    refine r_if_ne 24 C dX11_soonest_17 (by decide) (fun c16 => ?_) (fun c16 => ?_)
    · have c16' := i_ne c16
      refine r_aload_n 0 C dX11_soonest_24 rfl ?_
      refine callVV C cwX11_355_V (ctX11_save _ _ w10 (sS sM h15) o13  ) (by decide) (kS sM h15 kc_114) rfl rfl rfl (Nat.le_of_ble_eq_true rfl) (by decide) dX11_soonest_25 (fun w18 y17 => ?_)
      show V x 0 0 w18 28 [(0, .ref (gz (xG x) + 114)), (1, .int a1), (2, .int a2), (3, .int a3)] []
      obtain ⟨h20, o21⟩ := y17
      have h22 := Ch.tr h15 h20 (by decide) (by decide)
      refine r_iconst (v := 0) C dX11_soonest_28 (by decide) ?_
      refine r_istore [(4, .int 0), (0, .ref (gz (xG x) + 114)), (1, .int a1), (2, .int a2), (3, .int a3)] C dX11_soonest_29 (by decide) rfl ?_
      refine r_lv [1, 2, 3, 4, 0] rfl ?_
      exact LP24 4294967296 0 w18 h22 o21 (by omega) (by omega) (by omega) (by omega)
    · have c16' := i_eq c16
      refine r_ldcw C mw6_112 dX11_soonest_20 ?_
      exact hret _ _ _ _ dX11_soonest_23 rfl ⟨h15, o13⟩
set_option maxHeartbeats 4000000 in
set_option maxRecDepth 100000 in
theorem ctX11_bestWall (l : Launch) (G : Gt) (w : Wv) (sM : Str KM XM w) (o0 : OkM w) (W : Int32) (pW : wI w 114 0 = W) (bW : 0 ≤ W.toInt ∧ W.toInt ≤ 9) (D : Int32) (pD : wI w 114 1 = D) (bD : 0 ≤ D.toInt ∧ D.toInt ≤ 9) (a1 : Int32) (a2 : Int32) : CtI l G yX11_bestWall cX11_bestWall 9 .int ({ frames := 7, cells := 0, slots := 0, locals := 162 } : Room) [.ref (gz G + 114), .int a1, .int a2] w (fun r w' => Ch [115, 122, 123, 124, 134, 135, 136, 137] [(114, 13), (114, 45)] w w' ∧ OkM w') := by
  refine enterI (by decide) (Nat.le_of_ble_eq_true rfl) ?_
  intro x el eG C hret
  subst el; subst eG
  show V x 0 0 w 0 [(0, .ref (gz (xG x) + 114)), (1, .int a1), (2, .int a2)] []
  have h0 : Ch [115, 122, 123, 124, 134, 135, 136, 137] [(114, 13), (114, 45)] w w := Ch.rf
  have qm1000000002 : ((-1000000002) : Int32).toInt = (-1000000002) := by decide
  have qm1000000001 : ((-1000000001) : Int32).toInt = (-1000000001) := by decide
  have qm1 : ((-1) : Int32).toInt = (-1) := by decide
  have q0 : (0 : Int32).toInt = 0 := by decide
  have q1 : (1 : Int32).toInt = 1 := by decide
  have q30 : (30 : Int32).toInt = 30 := by decide
  have ql0 : (0 : Int64).toInt = 0 := by decide
  have ql1 : (1 : Int64).toInt = 1 := by decide
  have ql2 : (2 : Int64).toInt = 2 := by decide
  obtain ⟨rA, rB, rC, rD⟩ := (o0.2 : Rel w)
  (try simp only [pW] at rA); (try simp only [pW] at rB); (try simp only [pW] at rC); (try simp only [pW] at rD)
  (try simp only [pD] at rA); (try simp only [pD] at rB); (try simp only [pD] at rC); (try simp only [pD] at rD)
  have LP24 : ∀ (f25 : Nat) (u21 : Int32) (u22 : Int32) (u23 : Int32) (w26 : Wv), Ch [115, 122, 123, 124, 134, 135, 136, 137] [(114, 13), (114, 45)] w w26 → OkM w26 → ((-1) ≤ u21.toInt ∧ u21.toInt ≤ 41) → (0 ≤ u23.toInt ∧ u23.toInt ≤ 2147483647) → (0 ≤ a1.toInt ∧ a1.toInt ≤ 2) → (0 ≤ a2.toInt ∧ a2.toInt ≤ 1) → ((u21.toInt = -1 ∨ (0 ≤ u21.toInt ∧ 0 < W.toInt))) → 2147483647 - u23.toInt < f25 → V x 0 0 w26 41 [(0, .ref (gz (xG x) + 114)), (1, .int a1), (2, .int a2), (3, .int u21), (4, .int u22), (5, .int u23)] [] := by
    intro f25
    induction f25 with
    | zero => intro u21 u22 u23 w26 h27 o28 z29 z30 z31 z32 z33 z34; exfalso; omega
    | succ f25 ih35 =>
      intro u21 u22 u23 w26 h27 o28 z29 z30 z31 z32 z33 z34
      refine r_iload 5 C dX11_bestWall_41 rfl ?_
      refine r_aload_n 0 C dX11_bestWall_43 rfl ?_
      refine gfX11_111 (v := W) C (kS sM h27 kc_114) (h27.I (by decide) (by decide) pW) dX11_bestWall_44 ?_
      refine r_aload_n 0 C dX11_bestWall_47 rfl ?_
      refine gfX11_118 (v := D) C (kS sM h27 kc_114) (h27.I (by decide) (by decide) pD) dX11_bestWall_48 ?_
      refine r_imul C dX11_bestWall_51 (fun v36 e37 => ?_)
      have v36' := imul_rng e37 (A := 9) (B := 9) (by omega) (by omega) (by decide)
      have k39 := i_rng u23
      refine r_icmp_ge 164 C dX11_bestWall_52 (by decide) (fun c38 => ?_) (fun c38 => ?_)
      · have c38' := i_le c38
        refine r_aload_n 0 C dX11_bestWall_164 rfl ?_
        refine callVV C cwX11_271_V (ctX11_findFar _ _ w26 (sS sM h27) o28 W (h27.I (by decide) (by decide) pW) (by omega) D (h27.I (by decide) (by decide) pD) (by omega)  ) (by decide) (kS sM h27 kc_114) rfl rfl rfl (Nat.le_of_ble_eq_true rfl) (by decide) dX11_bestWall_165 (fun w41 y40 => ?_)
        show V x 0 0 w41 168 [(0, .ref (gz (xG x) + 114)), (1, .int a1), (2, .int a2), (3, .int u21), (4, .int u22), (5, .int u23)] []
        obtain ⟨h43, o44⟩ := y40
        have h45 := Ch.tr h27 h43 (by decide) (by decide)
        refine r_iload_n 3 C dX11_bestWall_168 rfl ?_
        refine r_if_ge 176 C dX11_bestWall_169 (by decide) (fun c46 => ?_) (fun c46 => ?_)
        · have c46' := i_le c46
          refine r_iload_n 2 C dX11_bestWall_176 rfl ?_
          refine r_if_ne 188 C dX11_bestWall_177 (by decide) (fun c47 => ?_) (fun c47 => ?_)
          · have c47' := i_ne c47
            refine r_iload 4 C dX11_bestWall_188 rfl ?_
            exact hret _ _ _ _ dX11_bestWall_190 rfl ⟨h45, o44⟩
          · have c47' := i_eq c47
            refine r_aload_n 0 C dX11_bestWall_180 rfl ?_
            refine r_iload_n 3 C dX11_bestWall_181 rfl ?_
            refine callVI C cwX11_292_V (ctX11_told10 _ _ w41 (sS sM h45) o44 W (h43.I (by decide) (by decide) (h27.I (by decide) (by decide) pW)) (by omega) u21 (by omega)) (by decide) (kS sM h45 kc_114) rfl rfl rfl (Nat.le_of_ble_eq_true rfl) (by decide) dX11_bestWall_182 (fun r50 w49 y48 => ?_)
            show V x 0 0 w49 185 [(0, .ref (gz (xG x) + 114)), (1, .int a1), (2, .int a2), (3, .int u21), (4, .int u22), (5, .int u23)] [.int r50]
            obtain ⟨h51, o52⟩ := y48
            have h53 := Ch.tr h45 h51 (by decide) (by decide)
            refine r_goto 190 C dX11_bestWall_185 (by decide) ?_
            exact hret _ _ _ _ dX11_bestWall_190 rfl ⟨h53, o52⟩
        · have c46' := i_nle c46
          refine r_iconst (v := (-1)) C dX11_bestWall_172 (by decide) ?_
          refine r_goto 190 C dX11_bestWall_173 (by decide) ?_
          exact hret _ _ _ _ dX11_bestWall_190 rfl ⟨h45, o44⟩
      · have c38' := i_nle c38
        have k54 := prod_pos (W := (W : Int32).toInt) (D := (D : Int32).toInt) (c := (u23 : Int32).toInt) (by omega) (by omega) (by omega)
        refine r_aload_n 0 C dX11_bestWall_55 rfl ?_
        refine gfX11_7 115 C (kS sM h27 kc_114) (xS sM h27 xc_114_2) dX11_bestWall_56 ?_
        refine r_iload 5 C dX11_bestWall_59 rfl ?_
        refine r_iald C (kS sM h27 kc_115) (vin (by omega) (by omega)) dX11_bestWall_61 ?_
        generalize (wI w26 115 (u23).toNatClampNeg) = v55
        refine r_if_ne 158 C dX11_bestWall_62 (by decide) (fun c56 => ?_) (fun c56 => ?_)
        · have c56' := i_ne c56
          obtain ⟨i57, e58⟩ : ∃ z : Int32, u23 + Int32.ofInt 1 = z := ⟨_, rfl⟩
          have i57' := iinc_ok e58 (by decide) (by omega) (by omega)
          refine r_iinc [(5, .int i57), (0, .ref (gz (xG x) + 114)), (1, .int a1), (2, .int a2), (3, .int u21), (4, .int u22)] 5 C dX11_bestWall_158 rfl e58 (by decide) rfl ?_
          refine r_goto 41 C dX11_bestWall_161 (by decide) ?_
          refine r_lv [1, 2, 3, 4, 5, 0] rfl ?_
          exact ih35 u21 u22 i57 w26 h27 o28 (by omega) (by omega) (by omega) (by omega) (by omega) (by omega)
        · have c56' := i_eq c56
          refine r_aload_n 0 C dX11_bestWall_65 rfl ?_
          refine r_iload 5 C dX11_bestWall_66 rfl ?_
          refine callVI C cwX11_331_V (ctX11_isSomebody _ _ w26 (sS sM h27) o28 u23 ) (by decide) (kS sM h27 kc_114) rfl rfl rfl (Nat.le_of_ble_eq_true rfl) (by decide) dX11_bestWall_68 (fun r61 w60 y59 => ?_)
          show V x 0 0 w60 71 [(0, .ref (gz (xG x) + 114)), (1, .int a1), (2, .int a2), (3, .int u21), (4, .int u22), (5, .int u23)] [.int r61]
          obtain ⟨h62, o63, g64⟩ := y59
          have h65 := Ch.tr h27 h62 (by decide) (by decide)
          refine r_if_ne 158 C dX11_bestWall_71 (by decide) (fun c66 => ?_) (fun c66 => ?_)
          · have c66' := i_ne c66
            obtain ⟨i67, e68⟩ : ∃ z : Int32, u23 + Int32.ofInt 1 = z := ⟨_, rfl⟩
            have i67' := iinc_ok e68 (by decide) (by omega) (by omega)
            refine r_iinc [(5, .int i67), (0, .ref (gz (xG x) + 114)), (1, .int a1), (2, .int a2), (3, .int u21), (4, .int u22)] 5 C dX11_bestWall_158 rfl e68 (by decide) rfl ?_
            refine r_goto 41 C dX11_bestWall_161 (by decide) ?_
            refine r_lv [1, 2, 3, 4, 5, 0] rfl ?_
            exact ih35 u21 u22 i67 w60 h65 o63 (by omega) (by omega) (by omega) (by omega) (by omega) (by omega)
          · have c66' := i_eq c66
            refine r_aload_n 0 C dX11_bestWall_74 rfl ?_
            refine gfX11_7 115 C (kS sM h65 kc_114) (xS sM h65 xc_114_2) dX11_bestWall_75 ?_
            refine r_iload 5 C dX11_bestWall_78 rfl ?_
            refine r_iconst (v := 1) C dX11_bestWall_80 (by decide) ?_
            refine r_iast C (kS sM h65 kc_115) (vin (by omega) (by omega)) dX11_bestWall_81 (fun w69 e70 => ?_)
            have h71 := Ch.putS h65 e70 (by decide)
            have o72 : OkM w69 := ⟨Inv.put0 o63.1 e70 (by decide), Rel.putS o63.2 e70 (by decide)⟩
            refine r_aload_n 0 C dX11_bestWall_82 rfl ?_
            refine callVV C cwX11_271_V (ctX11_findFar _ _ w69 (sS sM h71) o72 W (g_nn e70 (by decide) (h62.I (by decide) (by decide) (h27.I (by decide) (by decide) pW))) (by omega) D (g_nn e70 (by decide) (h62.I (by decide) (by decide) (h27.I (by decide) (by decide) pD))) (by omega)  ) (by decide) (kS sM h71 kc_114) rfl rfl rfl (Nat.le_of_ble_eq_true rfl) (by decide) dX11_bestWall_83 (fun w74 y73 => ?_)
            show V x 0 0 w74 86 [(0, .ref (gz (xG x) + 114)), (1, .int a1), (2, .int a2), (3, .int u21), (4, .int u22), (5, .int u23)] []
            obtain ⟨h76, o77⟩ := y73
            have h78 := Ch.tr h71 h76 (by decide) (by decide)
            refine r_aload_n 0 C dX11_bestWall_86 rfl ?_
            refine r_bipush (v := 30) C dX11_bestWall_87 (by decide) ?_
            refine callVI C cwX11_358_V (ctX11_follow _ _ w74 (sS sM h78) o77 W (h76.I (by decide) (by decide) (g_nn e70 (by decide) (h62.I (by decide) (by decide) (h27.I (by decide) (by decide) pW)))) (by omega) D (h76.I (by decide) (by decide) (g_nn e70 (by decide) (h62.I (by decide) (by decide) (h27.I (by decide) (by decide) pD)))) (by omega) 30 ) (by decide) (kS sM h78 kc_114) rfl rfl rfl (Nat.le_of_ble_eq_true rfl) (by decide) dX11_bestWall_89 (fun r81 w80 y79 => ?_)
            show V x 0 0 w80 92 [(0, .ref (gz (xG x) + 114)), (1, .int a1), (2, .int a2), (3, .int u21), (4, .int u22), (5, .int u23)] [.int r81]
            obtain ⟨h82, o83⟩ := y79
            have h84 := Ch.tr h78 h82 (by decide) (by decide)
            refine r_istore [(6, .int r81), (0, .ref (gz (xG x) + 114)), (1, .int a1), (2, .int a2), (3, .int u21), (4, .int u22), (5, .int u23)] C dX11_bestWall_92 (by decide) rfl ?_
            refine r_aload_n 1 C dX11_bestWall_94 rfl ?_
            refine r_iload_n 2 C dX11_bestWall_95 rfl ?_
            refine r_iconst (v := 1) C dX11_bestWall_96 (by decide) ?_
            refine callVI C cwX11_289_V (ctX11_headsBy _ _ w80 (sS sM h84) o83 a1 1 ) (by decide) (kS sM h84 kc_114) rfl rfl rfl (Nat.le_of_ble_eq_true rfl) (by decide) dX11_bestWall_97 (fun r87 w86 y85 => ?_)
            show V x 0 0 w86 100 [(6, .int r81), (0, .ref (gz (xG x) + 114)), (1, .int a1), (2, .int a2), (3, .int u21), (4, .int u22), (5, .int u23)] [.int r87]
            obtain ⟨h88, o89⟩ := y85
            have h90 := Ch.tr h84 h88 (by decide) (by decide)
            refine r_istore [(7, .int r87), (6, .int r81), (0, .ref (gz (xG x) + 114)), (1, .int a1), (2, .int a2), (3, .int u21), (4, .int u22), (5, .int u23)] C dX11_bestWall_100 (by decide) rfl ?_
            refine r_aload_n 2 C dX11_bestWall_102 rfl ?_
            refine callVV C cwX11_361_V (ctX11_putBack _ _ w86 (sS sM h90) o89  ) (by decide) (kS sM h90 kc_114) rfl rfl rfl (Nat.le_of_ble_eq_true rfl) (by decide) dX11_bestWall_103 (fun w92 y91 => ?_)
            show V x 0 0 w92 106 [(7, .int r87), (6, .int r81), (0, .ref (gz (xG x) + 114)), (1, .int a1), (2, .int a2), (3, .int u21), (4, .int u22), (5, .int u23)] []
            obtain ⟨h94, o95⟩ := y91
            have h96 := Ch.tr h90 h94 (by decide) (by decide)
            refine r_aload_n 2 C dX11_bestWall_106 rfl ?_
            refine gfX11_7 115 C (kS sM h96 kc_114) (xS sM h96 xc_114_2) dX11_bestWall_107 ?_
            refine r_iload 7 C dX11_bestWall_110 rfl ?_
            refine r_iconst (v := 0) C dX11_bestWall_112 (by decide) ?_
            refine r_iast C (kS sM h96 kc_115) (vin (by omega) (by omega)) dX11_bestWall_113 (fun w97 e98 => ?_)
            have h99 := Ch.putS h96 e98 (by decide)
            have o100 : OkM w97 := ⟨Inv.put0 o95.1 e98 (by decide), Rel.putS o95.2 e98 (by decide)⟩
            refine r_iload_n 5 C dX11_bestWall_114 rfl ?_
            refine r_if_lt 125 C dX11_bestWall_115 (by decide) (fun c101 => ?_) (fun c101 => ?_)
            · have c101' := i_lt c101
              refine r_iconst (v := 1) C dX11_bestWall_125 (by decide) ?_
              refine r_goto 130 C dX11_bestWall_126 (by decide) ?_
              refine r_istore [(8, .int 1), (7, .int r87), (6, .int r81), (0, .ref (gz (xG x) + 114)), (1, .int a1), (2, .int a2), (3, .int u21), (4, .int u22), (5, .int u23)] C dX11_bestWall_130 (by decide) rfl ?_
              refine r_iload 0 C dX11_bestWall_132 rfl ?_
              refine r_if_eq 142 C dX11_bestWall_134 (by decide) (fun c102 => ?_) (fun c102 => ?_)
              · have c102' := i_eq c102
                exfalso; omega
              · have c102' := i_ne c102
                refine r_iload 8 C dX11_bestWall_137 rfl ?_
                refine r_goto 143 C dX11_bestWall_139 (by decide) ?_
                refine r_istore_n [(3, .int u23), (8, .int 1), (7, .int r87), (6, .int r81), (0, .ref (gz (xG x) + 114)), (1, .int a1), (2, .int a2), (4, .int u22), (5, .int u23)] C dX11_bestWall_143 (by decide) rfl ?_
                refine r_iload 1 C dX11_bestWall_144 rfl ?_
                refine r_if_eq 154 C dX11_bestWall_146 (by decide) (fun c103 => ?_) (fun c103 => ?_)
                · have c103' := i_eq c103
                  exfalso; omega
                · have c103' := i_ne c103
                  refine r_iload 2 C dX11_bestWall_149 rfl ?_
                  refine r_goto 156 C dX11_bestWall_151 (by decide) ?_
                  refine r_istore [(4, .int r87), (3, .int u23), (8, .int 1), (7, .int r87), (6, .int r81), (0, .ref (gz (xG x) + 114)), (1, .int a1), (2, .int a2), (5, .int u23)] C dX11_bestWall_156 (by decide) rfl ?_
                  obtain ⟨i104, e105⟩ : ∃ z : Int32, u23 + Int32.ofInt 1 = z := ⟨_, rfl⟩
                  have i104' := iinc_ok e105 (by decide) (by omega) (by omega)
                  refine r_iinc [(5, .int i104), (4, .int r87), (3, .int u23), (8, .int 1), (7, .int r87), (6, .int r81), (0, .ref (gz (xG x) + 114)), (1, .int a1), (2, .int a2)] 8 C dX11_bestWall_158 rfl e105 (by decide) rfl ?_
                  refine r_goto 41 C dX11_bestWall_161 (by decide) ?_
                  refine r_lv [6, 7, 8, 2, 1, 0] rfl ?_
                  exact ih35 u23 r87 i104 w97 h99 o100 (by omega) (by omega) (by omega) (by omega) (by omega) (by omega)
            · have c101' := i_nlt c101
              refine r_iload 0 C dX11_bestWall_118 rfl ?_
              refine r_iload 6 C dX11_bestWall_120 rfl ?_
              have k107 := i_rng r87
              have k108 := i_rng u22
              refine r_icmp_ge 129 C dX11_bestWall_122 (by decide) (fun c106 => ?_) (fun c106 => ?_)
              · have c106' := i_le c106
                refine r_iconst (v := 0) C dX11_bestWall_129 (by decide) ?_
                refine r_istore [(8, .int 0), (7, .int r87), (6, .int r81), (0, .ref (gz (xG x) + 114)), (1, .int a1), (2, .int a2), (3, .int u21), (4, .int u22), (5, .int u23)] C dX11_bestWall_130 (by decide) rfl ?_
                refine r_iload 0 C dX11_bestWall_132 rfl ?_
                refine r_if_eq 142 C dX11_bestWall_134 (by decide) (fun c109 => ?_) (fun c109 => ?_)
                · have c109' := i_eq c109
                  refine r_iload_n 6 C dX11_bestWall_142 rfl ?_
                  refine r_istore_n [(3, .int u21), (8, .int 0), (7, .int r87), (6, .int r81), (0, .ref (gz (xG x) + 114)), (1, .int a1), (2, .int a2), (4, .int u22), (5, .int u23)] C dX11_bestWall_143 (by decide) rfl ?_
                  refine r_iload 1 C dX11_bestWall_144 rfl ?_
                  refine r_if_eq 154 C dX11_bestWall_146 (by decide) (fun c110 => ?_) (fun c110 => ?_)
                  · have c110' := i_eq c110
                    refine r_iload 7 C dX11_bestWall_154 rfl ?_
                    refine r_istore [(4, .int u22), (3, .int u21), (8, .int 0), (7, .int r87), (6, .int r81), (0, .ref (gz (xG x) + 114)), (1, .int a1), (2, .int a2), (5, .int u23)] C dX11_bestWall_156 (by decide) rfl ?_
                    obtain ⟨i111, e112⟩ : ∃ z : Int32, u23 + Int32.ofInt 1 = z := ⟨_, rfl⟩
                    have i111' := iinc_ok e112 (by decide) (by omega) (by omega)
                    refine r_iinc [(5, .int i111), (4, .int u22), (3, .int u21), (8, .int 0), (7, .int r87), (6, .int r81), (0, .ref (gz (xG x) + 114)), (1, .int a1), (2, .int a2)] 8 C dX11_bestWall_158 rfl e112 (by decide) rfl ?_
                    refine r_goto 41 C dX11_bestWall_161 (by decide) ?_
                    refine r_lv [6, 7, 8, 2, 1, 0] rfl ?_
                    exact ih35 u21 u22 i111 w97 h99 o100 (by omega) (by omega) (by omega) (by omega) (by omega) (by omega)
                  · have c110' := i_ne c110
                    exfalso; omega
                · have c109' := i_ne c109
                  exfalso; omega
              · have c106' := i_nle c106
                refine r_iconst (v := 1) C dX11_bestWall_125 (by decide) ?_
                refine r_goto 130 C dX11_bestWall_126 (by decide) ?_
                refine r_istore [(8, .int 1), (7, .int r87), (6, .int r81), (0, .ref (gz (xG x) + 114)), (1, .int a1), (2, .int a2), (3, .int u21), (4, .int u22), (5, .int u23)] C dX11_bestWall_130 (by decide) rfl ?_
                refine r_iload 0 C dX11_bestWall_132 rfl ?_
                refine r_if_eq 142 C dX11_bestWall_134 (by decide) (fun c113 => ?_) (fun c113 => ?_)
                · have c113' := i_eq c113
                  exfalso; omega
                · have c113' := i_ne c113
                  refine r_iload 8 C dX11_bestWall_137 rfl ?_
                  refine r_goto 143 C dX11_bestWall_139 (by decide) ?_
                  refine r_istore_n [(3, .int u23), (8, .int 1), (7, .int r87), (6, .int r81), (0, .ref (gz (xG x) + 114)), (1, .int a1), (2, .int a2), (4, .int u22), (5, .int u23)] C dX11_bestWall_143 (by decide) rfl ?_
                  refine r_iload 1 C dX11_bestWall_144 rfl ?_
                  refine r_if_eq 154 C dX11_bestWall_146 (by decide) (fun c114 => ?_) (fun c114 => ?_)
                  · have c114' := i_eq c114
                    exfalso; omega
                  · have c114' := i_ne c114
                    refine r_iload 2 C dX11_bestWall_149 rfl ?_
                    refine r_goto 156 C dX11_bestWall_151 (by decide) ?_
                    refine r_istore [(4, .int r87), (3, .int u23), (8, .int 1), (7, .int r87), (6, .int r81), (0, .ref (gz (xG x) + 114)), (1, .int a1), (2, .int a2), (5, .int u23)] C dX11_bestWall_156 (by decide) rfl ?_
                    obtain ⟨i115, e116⟩ : ∃ z : Int32, u23 + Int32.ofInt 1 = z := ⟨_, rfl⟩
                    have i115' := iinc_ok e116 (by decide) (by omega) (by omega)
                    refine r_iinc [(5, .int i115), (4, .int r87), (3, .int u23), (8, .int 1), (7, .int r87), (6, .int r81), (0, .ref (gz (xG x) + 114)), (1, .int a1), (2, .int a2)] 8 C dX11_bestWall_158 rfl e116 (by decide) rfl ?_
                    refine r_goto 41 C dX11_bestWall_161 (by decide) ?_
                    refine r_lv [6, 7, 8, 2, 1, 0] rfl ?_
                    exact ih35 u23 r87 i115 w97 h99 o100 (by omega) (by omega) (by omega) (by omega) (by omega) (by omega)
  refine r_iload_n 1 C dX11_bestWall_0 rfl ?_
  refine r_i2l C dX11_bestWall_1 (fun v1 e2 => ?_)
  have v1' := i2l_ok e2
  refine r_lconst (v := 0) C dX11_bestWall_2 (by decide) ?_
  refine r_ldc2 C mw7_1 dX11_bestWall_3 ?_
  refine callSI C cwX11_114_S (ctX11_in _ _ w v1 0 2 ) (by decide) rfl rfl (Nat.le_of_ble_eq_true rfl) (by decide) dX11_bestWall_6 (fun r5 w4 y3 => ?_)
  obtain ⟨y3, g6⟩ := y3
  obtain rfl := y3.symm
  show V x 0 0 w 9 [(0, .ref (gz (xG x) + 114)), (1, .int a1), (2, .int a2)] [.int r5]
  refine r_if_ne 16 C dX11_bestWall_9 (by decide) (fun c7 => ?_) (fun c7 => ?_)
  · have c7' := i_ne c7
    refine r_iload_n 2 C dX11_bestWall_16 rfl ?_
    refine r_i2l C dX11_bestWall_17 (fun v8 e9 => ?_)
    have v8' := i2l_ok e9
    refine r_lconst (v := 0) C dX11_bestWall_18 (by decide) ?_
    refine r_lconst (v := 1) C dX11_bestWall_19 (by decide) ?_
    refine callSI C cwX11_114_S (ctX11_in _ _ w v8 0 1 ) (by decide) rfl rfl (Nat.le_of_ble_eq_true rfl) (by decide) dX11_bestWall_20 (fun r12 w11 y10 => ?_)
    obtain ⟨y10, g13⟩ := y10
    obtain rfl := y10.symm
    show V x 0 0 w 23 [(0, .ref (gz (xG x) + 114)), (1, .int a1), (2, .int a2)] [.int r12]
    refine r_if_ne 29 C dX11_bestWall_23 (by decide) (fun c14 => ?_) (fun c14 => ?_)
    · have c14' := i_ne c14
      refine r_iconst (v := (-1)) C dX11_bestWall_29 (by decide) ?_
      refine r_istore_n [(3, .int (-1)), (0, .ref (gz (xG x) + 114)), (1, .int a1), (2, .int a2)] C dX11_bestWall_30 (by decide) rfl ?_
      refine r_iconst (v := 0) C dX11_bestWall_31 (by decide) ?_
      refine r_istore [(4, .int 0), (3, .int (-1)), (0, .ref (gz (xG x) + 114)), (1, .int a1), (2, .int a2)] C dX11_bestWall_32 (by decide) rfl ?_
      refine r_aload_n 2 C dX11_bestWall_34 rfl ?_
      refine callVV C cwX11_355_V (ctX11_save _ _ w (sS sM h0) o0  ) (by decide) (kS sM h0 kc_114) rfl rfl rfl (Nat.le_of_ble_eq_true rfl) (by decide) dX11_bestWall_35 (fun w16 y15 => ?_)
      show V x 0 0 w16 38 [(4, .int 0), (3, .int (-1)), (0, .ref (gz (xG x) + 114)), (1, .int a1), (2, .int a2)] []
      obtain ⟨h18, o19⟩ := y15
      have h20 := Ch.tr h0 h18 (by decide) (by decide)
      refine r_iconst (v := 0) C dX11_bestWall_38 (by decide) ?_
      refine r_istore [(5, .int 0), (4, .int 0), (3, .int (-1)), (0, .ref (gz (xG x) + 114)), (1, .int a1), (2, .int a2)] C dX11_bestWall_39 (by decide) rfl ?_
      refine r_lv [3, 4, 5, 2, 1, 0] rfl ?_
      exact LP24 4294967296 (-1) 0 0 w16 h20 o19 (by omega) (by omega) (by omega) (by omega) (by omega) (by omega)
    · have c14' := i_eq c14
      refine r_ldc C mw5_239 dX11_bestWall_26 ?_
      exact hret _ _ _ _ dX11_bestWall_28 rfl ⟨h0, o0⟩
  · have c7' := i_eq c7
    refine r_ldcw C mw6_112 dX11_bestWall_12 ?_
    exact hret _ _ _ _ dX11_bestWall_15 rfl ⟨h0, o0⟩
set_option maxHeartbeats 4000000 in
set_option maxRecDepth 100000 in
theorem ctX11_wax (l : Launch) (G : Gt) (w : Wv) (sM : Str KM XM w) (o0 : OkM w) (a1 : Int32) : CtI l G yX11_wax cX11_wax 5 .int ({ frames := 7, cells := 0, slots := 0, locals := 162 } : Room) [.ref (gz G + 114), .int a1] w (fun r w' => Ch [122, 123, 124, 135, 136, 137] [(114, 13), (114, 45)] w w' ∧ OkM w') := by
  refine enterI (by decide) (Nat.le_of_ble_eq_true rfl) ?_
  intro x el eG C hret
  subst el; subst eG
  show V x 0 0 w 0 [(0, .ref (gz (xG x) + 114)), (1, .int a1)] []
  have h0 : Ch [122, 123, 124, 135, 136, 137] [(114, 13), (114, 45)] w w := Ch.rf
  have qm1000000001 : ((-1000000001) : Int32).toInt = (-1000000001) := by decide
  have q0 : (0 : Int32).toInt = 0 := by decide
  have q1 : (1 : Int32).toInt = 1 := by decide
  have q30 : (30 : Int32).toInt = 30 := by decide
  have ql0 : (0 : Int64).toInt = 0 := by decide
  have ql2 : (2 : Int64).toInt = 2 := by decide
  obtain ⟨rA, rB, rC, rD⟩ := (o0.2 : Rel w)
  have LP25 : ∀ (f26 : Nat) (u22 : Int32) (u23 : Int32) (u24 : Int32) (w27 : Wv), Ch [122, 123, 124, 135, 136, 137] [(114, 13), (114, 45)] w w27 → OkM w27 → (0 ≤ u24.toInt ∧ u24.toInt ≤ 2147483647) → (0 ≤ a1.toInt ∧ a1.toInt ≤ 2) → 2147483647 - u24.toInt < f26 → V x 0 0 w27 32 [(0, .ref (gz (xG x) + 114)), (1, .int a1), (2, .int u22), (3, .int u23), (4, .int u24)] [] := by
    intro f26
    induction f26 with
    | zero => intro u22 u23 u24 w27 h28 o29 z30 z31 z32; exfalso; omega
    | succ f26 ih33 =>
      intro u22 u23 u24 w27 h28 o29 z30 z31 z32
      refine r_iload 4 C dX11_wax_32 rfl ?_
      refine r_aload_n 0 C dX11_wax_34 rfl ?_
      refine gfX11_121 (v := (wI w 114 3)) C (kS sM h28 kc_114) (h28.I (by decide) (by decide) rfl) dX11_wax_35 ?_
      have b34 := Inv.get o0.1 rt_114_3 (j := 3) (by decide) (by decide)
      have k36 := i_rng u24
      refine r_icmp_ge 98 C dX11_wax_38 (by decide) (fun c35 => ?_) (fun c35 => ?_)
      · have c35' := i_le c35
        refine r_aload_n 0 C dX11_wax_98 rfl ?_
        refine callVV C cwX11_361_V (ctX11_putBack _ _ w27 (sS sM h28) o29  ) (by decide) (kS sM h28 kc_114) rfl rfl rfl (Nat.le_of_ble_eq_true rfl) (by decide) dX11_wax_99 (fun w38 y37 => ?_)
        show V x 0 0 w38 102 [(0, .ref (gz (xG x) + 114)), (1, .int a1), (2, .int u22), (3, .int u23), (4, .int u24)] []
        obtain ⟨h40, o41⟩ := y37
        have h42 := Ch.tr h28 h40 (by decide) (by decide)
        refine r_iload_n 3 C dX11_wax_102 rfl ?_
        exact hret _ _ _ _ dX11_wax_103 rfl ⟨h42, o41⟩
      · have c35' := i_nle c35
        refine r_iload_n 3 C dX11_wax_41 rfl ?_
        refine r_aload_n 0 C dX11_wax_42 rfl ?_
        refine gfX11_13 116 C (kS sM h28 kc_114) (xS sM h28 xc_114_4) dX11_wax_43 ?_
        refine r_iload 4 C dX11_wax_46 rfl ?_
        refine r_iald C (kS sM h28 kc_116) (vin (by omega) (by omega)) dX11_wax_48 ?_
        generalize (wI w27 116 (u24).toNatClampNeg) = v43
        refine r_iload_n 1 C dX11_wax_49 rfl ?_
        refine r_icmp_ne 89 C dX11_wax_50 (by decide) (fun c44 => ?_) (fun c44 => ?_)
        · have c44' := i_ne c44
          refine r_iconst (v := 0) C dX11_wax_89 (by decide) ?_
          refine r_ior C dX11_wax_90 (fun v45 e46 => ?_)
          refine r_istore_n [(3, .int v45), (0, .ref (gz (xG x) + 114)), (1, .int a1), (2, .int u22), (4, .int u24)] C dX11_wax_91 (by decide) rfl ?_
          obtain ⟨i47, e48⟩ : ∃ z : Int32, u24 + Int32.ofInt 1 = z := ⟨_, rfl⟩
          have i47' := iinc_ok e48 (by decide) (by omega) (by omega)
          refine r_iinc [(4, .int i47), (3, .int v45), (0, .ref (gz (xG x) + 114)), (1, .int a1), (2, .int u22)] 4 C dX11_wax_92 rfl e48 (by decide) rfl ?_
          refine r_goto 32 C dX11_wax_95 (by decide) ?_
          refine r_lv [2, 3, 4, 1, 0] rfl ?_
          exact ih33 u22 v45 i47 w27 h28 o29 (by omega) (by omega) (by omega)
        · have c44' := i_eq c44
          refine r_aload_n 0 C dX11_wax_53 rfl ?_
          refine r_iload 4 C dX11_wax_54 rfl ?_
          refine callVI C cwX11_286_V (ctX11_followers _ _ w27 (sS sM h28) o29 u24 (by omega)) (by decide) (kS sM h28 kc_114) rfl rfl rfl (Nat.le_of_ble_eq_true rfl) (by decide) dX11_wax_56 (fun r51 w50 y49 => ?_)
          show V x 0 0 w50 59 [(0, .ref (gz (xG x) + 114)), (1, .int a1), (2, .int u22), (3, .int u23), (4, .int u24)] [.int r51, .int u23]
          obtain ⟨h52, o53⟩ := y49
          have h54 := Ch.tr h28 h52 (by decide) (by decide)
          refine r_if_le 89 C dX11_wax_59 (by decide) (fun c55 => ?_) (fun c55 => ?_)
          · have c55' := i_le c55
            refine r_iconst (v := 0) C dX11_wax_89 (by decide) ?_
            refine r_ior C dX11_wax_90 (fun v56 e57 => ?_)
            refine r_istore_n [(3, .int v56), (0, .ref (gz (xG x) + 114)), (1, .int a1), (2, .int u22), (4, .int u24)] C dX11_wax_91 (by decide) rfl ?_
            obtain ⟨i58, e59⟩ : ∃ z : Int32, u24 + Int32.ofInt 1 = z := ⟨_, rfl⟩
            have i58' := iinc_ok e59 (by decide) (by omega) (by omega)
            refine r_iinc [(4, .int i58), (3, .int v56), (0, .ref (gz (xG x) + 114)), (1, .int a1), (2, .int u22)] 4 C dX11_wax_92 rfl e59 (by decide) rfl ?_
            refine r_goto 32 C dX11_wax_95 (by decide) ?_
            refine r_lv [2, 3, 4, 1, 0] rfl ?_
            exact ih33 u22 v56 i58 w50 h54 o53 (by omega) (by omega) (by omega)
          · have c55' := i_nle c55
            refine r_aload_n 0 C dX11_wax_62 rfl ?_
            refine gfX11_44 124 C (kS sM h54 kc_114) (xS sM h54 xc_114_16) dX11_wax_63 ?_
            refine r_iload 4 C dX11_wax_66 rfl ?_
            refine r_iald C (kS sM h54 kc_124) (vin (by omega) (by omega)) dX11_wax_68 ?_
            generalize (wI w50 124 (u24).toNatClampNeg) = v60
            refine r_if_le 89 C dX11_wax_69 (by decide) (fun c61 => ?_) (fun c61 => ?_)
            · have c61' := i_le c61
              refine r_iconst (v := 0) C dX11_wax_89 (by decide) ?_
              refine r_ior C dX11_wax_90 (fun v62 e63 => ?_)
              refine r_istore_n [(3, .int v62), (0, .ref (gz (xG x) + 114)), (1, .int a1), (2, .int u22), (4, .int u24)] C dX11_wax_91 (by decide) rfl ?_
              obtain ⟨i64, e65⟩ : ∃ z : Int32, u24 + Int32.ofInt 1 = z := ⟨_, rfl⟩
              have i64' := iinc_ok e65 (by decide) (by omega) (by omega)
              refine r_iinc [(4, .int i64), (3, .int v62), (0, .ref (gz (xG x) + 114)), (1, .int a1), (2, .int u22)] 4 C dX11_wax_92 rfl e65 (by decide) rfl ?_
              refine r_goto 32 C dX11_wax_95 (by decide) ?_
              refine r_lv [2, 3, 4, 1, 0] rfl ?_
              exact ih33 u22 v62 i64 w50 h54 o53 (by omega) (by omega) (by omega)
            · have c61' := i_nle c61
              refine r_aload_n 0 C dX11_wax_72 rfl ?_
              refine gfX11_86 137 C (kS sM h54 kc_114) (xS sM h54 xc_114_48) dX11_wax_73 ?_
              refine r_iload 4 C dX11_wax_76 rfl ?_
              refine r_iald C (kS sM h54 kc_137) (vin (by omega) (by omega)) dX11_wax_78 ?_
              generalize (wI w50 137 (u24).toNatClampNeg) = v66
              refine r_if_ne 89 C dX11_wax_79 (by decide) (fun c67 => ?_) (fun c67 => ?_)
              · have c67' := i_ne c67
                refine r_iconst (v := 0) C dX11_wax_89 (by decide) ?_
                refine r_ior C dX11_wax_90 (fun v68 e69 => ?_)
                refine r_istore_n [(3, .int v68), (0, .ref (gz (xG x) + 114)), (1, .int a1), (2, .int u22), (4, .int u24)] C dX11_wax_91 (by decide) rfl ?_
                obtain ⟨i70, e71⟩ : ∃ z : Int32, u24 + Int32.ofInt 1 = z := ⟨_, rfl⟩
                have i70' := iinc_ok e71 (by decide) (by omega) (by omega)
                refine r_iinc [(4, .int i70), (3, .int v68), (0, .ref (gz (xG x) + 114)), (1, .int a1), (2, .int u22)] 4 C dX11_wax_92 rfl e71 (by decide) rfl ?_
                refine r_goto 32 C dX11_wax_95 (by decide) ?_
                refine r_lv [2, 3, 4, 1, 0] rfl ?_
                exact ih33 u22 v68 i70 w50 h54 o53 (by omega) (by omega) (by omega)
              · have c67' := i_eq c67
                refine r_iconst (v := 1) C dX11_wax_82 (by decide) ?_
                refine r_iload 4 C dX11_wax_83 rfl ?_
                refine r_ishl C dX11_wax_85 (fun v72 e73 => ?_)
                refine r_goto 90 C dX11_wax_86 (by decide) ?_
                refine r_ior C dX11_wax_90 (fun v74 e75 => ?_)
                refine r_istore_n [(3, .int v74), (0, .ref (gz (xG x) + 114)), (1, .int a1), (2, .int u22), (4, .int u24)] C dX11_wax_91 (by decide) rfl ?_
                obtain ⟨i76, e77⟩ : ∃ z : Int32, u24 + Int32.ofInt 1 = z := ⟨_, rfl⟩
                have i76' := iinc_ok e77 (by decide) (by omega) (by omega)
                refine r_iinc [(4, .int i76), (3, .int v74), (0, .ref (gz (xG x) + 114)), (1, .int a1), (2, .int u22)] 4 C dX11_wax_92 rfl e77 (by decide) rfl ?_
                refine r_goto 32 C dX11_wax_95 (by decide) ?_
                refine r_lv [2, 3, 4, 1, 0] rfl ?_
                exact ih33 u22 v74 i76 w50 h54 o53 (by omega) (by omega) (by omega)
  refine r_iload_n 1 C dX11_wax_0 rfl ?_
  refine r_i2l C dX11_wax_1 (fun v1 e2 => ?_)
  have v1' := i2l_ok e2
  refine r_lconst (v := 0) C dX11_wax_2 (by decide) ?_
  refine r_ldc2 C mw7_1 dX11_wax_3 ?_
  refine callSI C cwX11_114_S (ctX11_in _ _ w v1 0 2 ) (by decide) rfl rfl (Nat.le_of_ble_eq_true rfl) (by decide) dX11_wax_6 (fun r5 w4 y3 => ?_)
  obtain ⟨y3, g6⟩ := y3
  obtain rfl := y3.symm
  show V x 0 0 w 9 [(0, .ref (gz (xG x) + 114)), (1, .int a1)] [.int r5]
  refine r_if_ne 16 C dX11_wax_9 (by decide) (fun c7 => ?_) (fun c7 => ?_)
  · have c7' := i_ne c7
    refine r_aload_n 0 C dX11_wax_16 rfl ?_
    refine callVV C cwX11_355_V (ctX11_save _ _ w (sS sM h0) o0  ) (by decide) (kS sM h0 kc_114) rfl rfl rfl (Nat.le_of_ble_eq_true rfl) (by decide) dX11_wax_17 (fun w9 y8 => ?_)
    show V x 0 0 w9 20 [(0, .ref (gz (xG x) + 114)), (1, .int a1)] []
    obtain ⟨h11, o12⟩ := y8
    have h13 := Ch.tr h0 h11 (by decide) (by decide)
    refine r_aload_n 0 C dX11_wax_20 rfl ?_
    refine r_bipush (v := 30) C dX11_wax_21 (by decide) ?_
    have b14 := Inv.get o0.1 rt_114_0 (j := 0) (by decide) (by decide)
    have b15 := Inv.get o0.1 rt_114_1 (j := 1) (by decide) (by decide)
    refine callVI C cwX11_358_V (ctX11_follow _ _ w9 (sS sM h13) o12 (wI w 114 0) (h11.I (by decide) (by decide) rfl) (by omega) (wI w 114 1) (h11.I (by decide) (by decide) rfl) (by omega) 30 ) (by decide) (kS sM h13 kc_114) rfl rfl rfl (Nat.le_of_ble_eq_true rfl) (by decide) dX11_wax_23 (fun r18 w17 y16 => ?_)
    show V x 0 0 w17 26 [(0, .ref (gz (xG x) + 114)), (1, .int a1)] [.int r18]
    obtain ⟨h19, o20⟩ := y16
    have h21 := Ch.tr h13 h19 (by decide) (by decide)
    refine r_istore_n [(2, .int r18), (0, .ref (gz (xG x) + 114)), (1, .int a1)] C dX11_wax_26 (by decide) rfl ?_
    refine r_iconst (v := 0) C dX11_wax_27 (by decide) ?_
    refine r_istore_n [(3, .int 0), (2, .int r18), (0, .ref (gz (xG x) + 114)), (1, .int a1)] C dX11_wax_28 (by decide) rfl ?_
    refine r_iconst (v := 0) C dX11_wax_29 (by decide) ?_
    refine r_istore [(4, .int 0), (3, .int 0), (2, .int r18), (0, .ref (gz (xG x) + 114)), (1, .int a1)] C dX11_wax_30 (by decide) rfl ?_
    refine r_lv [3, 4, 2, 1, 0] rfl ?_
    exact LP25 4294967296 r18 0 0 w17 h21 o20 (by omega) (by omega) (by omega)
  · have c7' := i_eq c7
    refine r_ldcw C mw6_112 dX11_wax_12 ?_
    exact hret _ _ _ _ dX11_wax_15 rfl ⟨h0, o0⟩
set_option maxHeartbeats 4000000 in
set_option maxRecDepth 100000 in
theorem ctX11_see (l : Launch) (G : Gt) (w : Wv) (sM : Str KM XM w) (o0 : OkM w) (W : Int32) (pW : wI w 114 0 = W) (bW : 0 ≤ W.toInt ∧ W.toInt ≤ 9) (D : Int32) (pD : wI w 114 1 = D) (bD : 0 ≤ D.toInt ∧ D.toInt ≤ 9) (a1 : Int32) (a2 : Int32) (a3 : Int32) (a4 : Int32) : CtI l G yX11_see cX11_see 5 .int ({ frames := 2, cells := 0, slots := 0, locals := 47 } : Room) [.ref (gz G + 114), .int a1, .int a2, .int a3, .int a4] w (fun r w' => Ch [140, 141, 142] [(114, 52)] w w' ∧ OkM w') := by
  refine enterI (by decide) (Nat.le_of_ble_eq_true rfl) ?_
  intro x el eG C hret
  subst el; subst eG
  show V x 0 0 w 0 [(0, .ref (gz (xG x) + 114)), (1, .int a1), (2, .int a2), (3, .int a3), (4, .int a4)] []
  have h0 : Ch [140, 141, 142] [(114, 52)] w w := Ch.rf
  have qm1000000004 : ((-1000000004) : Int32).toInt = (-1000000004) := by decide
  have qm1000000002 : ((-1000000002) : Int32).toInt = (-1000000002) := by decide
  have qm1000000001 : ((-1000000001) : Int32).toInt = (-1000000001) := by decide
  have q0 : (0 : Int32).toInt = 0 := by decide
  have q1 : (1 : Int32).toInt = 1 := by decide
  have q10 : (10 : Int32).toInt = 10 := by decide
  have ql1 : (1 : Int64).toInt = 1 := by decide
  have ql5 : (5 : Int64).toInt = 5 := by decide
  obtain ⟨rA, rB, rC, rD⟩ := (o0.2 : Rel w)
  (try simp only [pW] at rA); (try simp only [pW] at rB); (try simp only [pW] at rC); (try simp only [pW] at rD)
  (try simp only [pD] at rA); (try simp only [pD] at rB); (try simp only [pD] at rC); (try simp only [pD] at rD)
  refine r_aload_n 0 C dX11_see_0 rfl ?_
  refine r_iload_n 1 C dX11_see_1 rfl ?_
  have b1 := Inv.get o0.1 rt_114_3 (j := 3) (by decide) (by decide)
  refine callVI C cwX11_301_V (ctX11_isCrowd _ _ w (sS sM h0) o0 (wI w 114 3) rfl (by omega) a1 ) (by decide) (kS sM h0 kc_114) rfl rfl rfl (Nat.le_of_ble_eq_true rfl) (by decide) dX11_see_2 (fun r4 w3 y2 => ?_)
  show V x 0 0 w3 5 [(0, .ref (gz (xG x) + 114)), (1, .int a1), (2, .int a2), (3, .int a3), (4, .int a4)] [.int r4]
  obtain ⟨h5, o6, g7⟩ := y2
  have h8 := Ch.tr h0 h5 (by decide) (by decide)
  refine r_if_eq 18 C dX11_see_5 (by decide) (fun c9 => ?_) (fun c9 => ?_)
  · have c9' := i_eq c9
    refine r_ldcw C mw6_112 dX11_see_18 ?_
    exact hret _ _ _ _ dX11_see_21 rfl ⟨h8, o6⟩
  · have c9' := i_ne c9
    refine r_aload_n 0 C dX11_see_8 rfl ?_
    refine r_iload_n 3 C dX11_see_9 rfl ?_
    refine r_iload 4 C dX11_see_10 rfl ?_
    refine callVI C cwX11_274_V (ctX11_isCell _ _ w3 (sS sM h8) o6 W (h5.I (by decide) (by decide) pW) (by omega) D (h5.I (by decide) (by decide) pD) (by omega) a3 a4 ) (by decide) (kS sM h8 kc_114) rfl rfl rfl (Nat.le_of_ble_eq_true rfl) (by decide) dX11_see_12 (fun r12 w11 y10 => ?_)
    show V x 0 0 w11 15 [(0, .ref (gz (xG x) + 114)), (1, .int a1), (2, .int a2), (3, .int a3), (4, .int a4)] [.int r12]
    obtain ⟨h13, o14, g15⟩ := y10
    have h16 := Ch.tr h8 h13 (by decide) (by decide)
    refine r_if_ne 22 C dX11_see_15 (by decide) (fun c17 => ?_) (fun c17 => ?_)
    · have c17' := i_ne c17
      refine r_iload_n 2 C dX11_see_22 rfl ?_
      refine r_i2l C dX11_see_23 (fun v18 e19 => ?_)
      have v18' := i2l_ok e19
      refine r_lconst (v := 1) C dX11_see_24 (by decide) ?_
      refine r_ldc2 C mw7_37 dX11_see_25 ?_
      refine callSI C cwX11_114_S (ctX11_in _ _ w11 v18 1 5 ) (by decide) rfl rfl (Nat.le_of_ble_eq_true rfl) (by decide) dX11_see_28 (fun r22 w21 y20 => ?_)
      obtain ⟨y20, g23⟩ := y20
      obtain rfl := y20.symm
      show V x 0 0 w11 31 [(0, .ref (gz (xG x) + 114)), (1, .int a1), (2, .int a2), (3, .int a3), (4, .int a4)] [.int r22]
      refine r_if_ne 37 C dX11_see_31 (by decide) (fun c24 => ?_) (fun c24 => ?_)
      · have c24' := i_ne c24
        refine r_aload_n 0 C dX11_see_37 rfl ?_
        refine gfX11_268 (v := (wI w 114 52)) C (kS sM h16 kc_114) (h13.I (by decide) (by decide) (h5.I (by decide) (by decide) rfl)) dX11_see_38 ?_
        have b25 := Inv.get o0.1 rt_114_52 (j := 52) (by decide) (by decide)
        refine r_bipush (v := 10) C dX11_see_41 (by decide) ?_
        refine r_icmp_ne 49 C dX11_see_43 (by decide) (fun c26 => ?_) (fun c26 => ?_)
        · have c26' := i_ne c26
          refine r_aload_n 0 C dX11_see_49 rfl ?_
          refine gfX11_95 140 C (kS sM h16 kc_114) (xS sM h16 xc_114_53) dX11_see_50 ?_
          refine r_aload_n 0 C dX11_see_53 rfl ?_
          refine gfX11_268 (v := (wI w 114 52)) C (kS sM h16 kc_114) (h13.I (by decide) (by decide) (h5.I (by decide) (by decide) rfl)) dX11_see_54 ?_
          refine r_iload_n 1 C dX11_see_57 rfl ?_
          refine r_iast C (kS sM h16 kc_140) (vin (by omega) (by omega)) dX11_see_58 (fun w27 e28 => ?_)
          have h29 := Ch.putS h16 e28 (by decide)
          have o30 : OkM w27 := ⟨Inv.putR o14.1 e28 0 9 (by omega) (by omega) 0 5 (by omega) (by decide), Rel.putS o14.2 e28 (by decide)⟩
          refine r_aload_n 0 C dX11_see_59 rfl ?_
          refine gfX11_98 141 C (kS sM h29 kc_114) (xS sM h29 xc_114_54) dX11_see_60 ?_
          refine r_aload_n 0 C dX11_see_63 rfl ?_
          refine gfX11_268 (v := (wI w 114 52)) C (kS sM h29 kc_114) (g_nn e28 (by decide) (h13.I (by decide) (by decide) (h5.I (by decide) (by decide) rfl))) dX11_see_64 ?_
          refine r_iload_n 2 C dX11_see_67 rfl ?_
          refine r_iast C (kS sM h29 kc_141) (vin (by omega) (by omega)) dX11_see_68 (fun w31 e32 => ?_)
          have h33 := Ch.putS h29 e32 (by decide)
          have o34 : OkM w31 := ⟨Inv.put0 o30.1 e32 (by decide), Rel.putS o30.2 e32 (by decide)⟩
          refine r_aload_n 0 C dX11_see_69 rfl ?_
          refine gfX11_101 142 C (kS sM h33 kc_114) (xS sM h33 xc_114_55) dX11_see_70 ?_
          refine r_aload_n 0 C dX11_see_73 rfl ?_
          refine gfX11_268 (v := (wI w 114 52)) C (kS sM h33 kc_114) (g_nn e32 (by decide) (g_nn e28 (by decide) (h13.I (by decide) (by decide) (h5.I (by decide) (by decide) rfl)))) dX11_see_74 ?_
          refine r_aload_n 0 C dX11_see_77 rfl ?_
          refine gfX11_111 (v := W) C (kS sM h33 kc_114) (g_nn e32 (by decide) (g_nn e28 (by decide) (h13.I (by decide) (by decide) (h5.I (by decide) (by decide) pW)))) dX11_see_78 ?_
          refine r_iload 4 C dX11_see_81 rfl ?_
          refine r_imul C dX11_see_83 (fun v35 e36 => ?_)
          have v35' := imul_rng e36 (A := 9) (B := 8) (by omega) (by omega) (by decide)
          refine r_iload_n 3 C dX11_see_84 rfl ?_
          refine r_iadd C dX11_see_85 (fun v37 e38 => ?_)
          have v37' := iadd_ok e38 (by omega) (by omega)
          refine r_iast C (kS sM h33 kc_142) (vin (by omega) (by omega)) dX11_see_86 (fun w39 e40 => ?_)
          have h41 := Ch.putS h33 e40 (by decide)
          have o42 : OkM w39 := ⟨Inv.put0 o34.1 e40 (by decide), Rel.putS o34.2 e40 (by decide)⟩
          refine r_aload_n 0 C dX11_see_87 rfl ?_
          refine r_dup C dX11_see_88 rfl ?_
          refine gfX11_268 (v := (wI w 114 52)) C (kS sM h41 kc_114) (g_nn e40 (by decide) (g_nn e32 (by decide) (g_nn e28 (by decide) (h13.I (by decide) (by decide) (h5.I (by decide) (by decide) rfl))))) dX11_see_89 ?_
          refine r_iconst (v := 1) C dX11_see_92 (by decide) ?_
          refine r_iadd C dX11_see_93 (fun v43 e44 => ?_)
          have v43' := iadd_ok e44 (by omega) (by omega)
          refine pfX11_268 C (kS sM h41 kc_114) dX11_see_94 (fun w45 e46 => ?_)
          have h47 := Ch.putF h41 e46 (by decide)
          have o48 : OkM w45 := ⟨Inv.put o42.1 e46 0 10 (by omega) (by decide), Rel.putF o42.2 e46 (by decide)⟩
          refine r_aload_n 0 C dX11_see_97 rfl ?_
          refine gfX11_268 (v := v43) C (kS sM h47 kc_114) (g_eq e46) dX11_see_98 ?_
          exact hret _ _ _ _ dX11_see_101 rfl ⟨h47, o48⟩
        · have c26' := i_eq c26
          refine r_ldc C mw6_0 dX11_see_46 ?_
          exact hret _ _ _ _ dX11_see_48 rfl ⟨h16, o14⟩
      · have c24' := i_eq c24
        refine r_ldc C mw5_239 dX11_see_34 ?_
        exact hret _ _ _ _ dX11_see_36 rfl ⟨h16, o14⟩
    · have c17' := i_eq c17
      refine r_ldcw C mw6_112 dX11_see_18 ?_
      exact hret _ _ _ _ dX11_see_21 rfl ⟨h16, o14⟩
set_option maxHeartbeats 4000000 in
set_option maxRecDepth 100000 in
theorem ctX11_isAsSeen (l : Launch) (G : Gt) (w : Wv) (sM : Str KM XM w) (o0 : OkM w) (a1 : Int32) : CtI l G yX11_isAsSeen cX11_isAsSeen 4 .boolean ({ frames := 0, cells := 0, slots := 0, locals := 0 } : Room) [.ref (gz G + 114), .int a1] w (fun r w' => Ch [] [] w w' ∧ OkM w' ∧ ((0 ≤ r.toInt ∧ r.toInt ≤ 1))) := by
  refine enterI (by decide) (Nat.le_of_ble_eq_true rfl) ?_
  intro x el eG C hret
  subst el; subst eG
  show V x 0 0 w 0 [(0, .ref (gz (xG x) + 114)), (1, .int a1)] []
  have h0 : Ch [] [] w w := Ch.rf
  have q0 : (0 : Int32).toInt = 0 := by decide
  have q1 : (1 : Int32).toInt = 1 := by decide
  obtain ⟨rA, rB, rC, rD⟩ := (o0.2 : Rel w)
  have LP3 : ∀ (f4 : Nat) (u1 : Int32) (u2 : Int32) (w5 : Wv), Ch [] [] w w5 → OkM w5 → (0 ≤ u1.toInt ∧ u1.toInt ≤ 1) → (0 ≤ u2.toInt ∧ u2.toInt ≤ 2147483647) → 2147483647 - u2.toInt < f4 → V x 0 0 w5 4 [(0, .ref (gz (xG x) + 114)), (1, .int a1), (2, .int u1), (3, .int u2)] [] := by
    intro f4
    induction f4 with
    | zero => intro u1 u2 w5 h6 o7 z8 z9 z10; exfalso; omega
    | succ f4 ih11 =>
      intro u1 u2 w5 h6 o7 z8 z9 z10
      refine r_iload_n 3 C dX11_isAsSeen_4 rfl ?_
      refine r_aload_n 0 C dX11_isAsSeen_5 rfl ?_
      refine gfX11_268 (v := (wI w 114 52)) C (kS sM h6 kc_114) (h6.I (by decide) (by decide) rfl) dX11_isAsSeen_6 ?_
      have b12 := Inv.get o0.1 rt_114_52 (j := 52) (by decide) (by decide)
      have k14 := i_rng u2
      refine r_icmp_ge 58 C dX11_isAsSeen_9 (by decide) (fun c13 => ?_) (fun c13 => ?_)
      · have c13' := i_le c13
        refine r_iload_n 2 C dX11_isAsSeen_58 rfl ?_
        exact hret _ _ _ _ dX11_isAsSeen_59 (nar_z (z_of (by omega))) ⟨h6, o7, by omega⟩
      · have c13' := i_nle c13
        refine r_iload_n 2 C dX11_isAsSeen_12 rfl ?_
        refine r_if_eq 50 C dX11_isAsSeen_13 (by decide) (fun c15 => ?_) (fun c15 => ?_)
        · have c15' := i_eq c15
          refine r_iconst (v := 0) C dX11_isAsSeen_50 (by decide) ?_
          refine r_istore_n [(2, .int 0), (0, .ref (gz (xG x) + 114)), (1, .int a1), (3, .int u2)] C dX11_isAsSeen_51 (by decide) rfl ?_
          obtain ⟨i16, e17⟩ : ∃ z : Int32, u2 + Int32.ofInt 1 = z := ⟨_, rfl⟩
          have i16' := iinc_ok e17 (by decide) (by omega) (by omega)
          refine r_iinc [(3, .int i16), (2, .int 0), (0, .ref (gz (xG x) + 114)), (1, .int a1)] 3 C dX11_isAsSeen_52 rfl e17 (by decide) rfl ?_
          refine r_goto 4 C dX11_isAsSeen_55 (by decide) ?_
          refine r_lv [2, 3, 1, 0] rfl ?_
          exact ih11 0 i16 w5 h6 o7 (by omega) (by omega) (by omega)
        · have c15' := i_ne c15
          refine r_aload_n 0 C dX11_isAsSeen_16 rfl ?_
          refine gfX11_98 141 C (kS sM h6 kc_114) (xS sM h6 xc_114_54) dX11_isAsSeen_17 ?_
          refine r_iload_n 3 C dX11_isAsSeen_20 rfl ?_
          refine r_iald C (kS sM h6 kc_141) (vin (by omega) (by omega)) dX11_isAsSeen_21 ?_
          generalize (wI w5 141 (u2).toNatClampNeg) = v18
          refine r_iload_n 1 C dX11_isAsSeen_22 rfl ?_
          refine r_icmp_ne 46 C dX11_isAsSeen_23 (by decide) (fun c19 => ?_) (fun c19 => ?_)
          · have c19' := i_ne c19
            refine r_iconst (v := 1) C dX11_isAsSeen_46 (by decide) ?_
            refine r_goto 51 C dX11_isAsSeen_47 (by decide) ?_
            refine r_istore_n [(2, .int 1), (0, .ref (gz (xG x) + 114)), (1, .int a1), (3, .int u2)] C dX11_isAsSeen_51 (by decide) rfl ?_
            obtain ⟨i20, e21⟩ : ∃ z : Int32, u2 + Int32.ofInt 1 = z := ⟨_, rfl⟩
            have i20' := iinc_ok e21 (by decide) (by omega) (by omega)
            refine r_iinc [(3, .int i20), (2, .int 1), (0, .ref (gz (xG x) + 114)), (1, .int a1)] 3 C dX11_isAsSeen_52 rfl e21 (by decide) rfl ?_
            refine r_goto 4 C dX11_isAsSeen_55 (by decide) ?_
            refine r_lv [2, 3, 1, 0] rfl ?_
            exact ih11 1 i20 w5 h6 o7 (by omega) (by omega) (by omega)
          · have c19' := i_eq c19
            refine r_aload_n 0 C dX11_isAsSeen_26 rfl ?_
            refine gfX11_38 122 C (kS sM h6 kc_114) (xS sM h6 xc_114_14) dX11_isAsSeen_27 ?_
            refine r_aload_n 0 C dX11_isAsSeen_30 rfl ?_
            refine gfX11_95 140 C (kS sM h6 kc_114) (xS sM h6 xc_114_53) dX11_isAsSeen_31 ?_
            refine r_iload_n 3 C dX11_isAsSeen_34 rfl ?_
            refine r_iald C (kS sM h6 kc_140) (vin (by omega) (by omega)) dX11_isAsSeen_35 ?_
            have b23 := Inv.geta o7.1 rt_140_0 (i := u2) (by omega) (by omega) (by omega)
            generalize (wI w5 140 (u2).toNatClampNeg) = v22 at b23 ⊢
            refine r_iald C (kS sM h6 kc_122) (vin (by omega) (by omega)) dX11_isAsSeen_36 ?_
            have b25 := Inv.geta o7.1 rt_122_0 (i := v22) (by omega) (by omega) (by omega)
            generalize (wI w5 122 (v22).toNatClampNeg) = v24 at b25 ⊢
            refine r_aload_n 0 C dX11_isAsSeen_37 rfl ?_
            refine gfX11_101 142 C (kS sM h6 kc_114) (xS sM h6 xc_114_55) dX11_isAsSeen_38 ?_
            refine r_iload_n 3 C dX11_isAsSeen_41 rfl ?_
            refine r_iald C (kS sM h6 kc_142) (vin (by omega) (by omega)) dX11_isAsSeen_42 ?_
            generalize (wI w5 142 (u2).toNatClampNeg) = v26
            refine r_icmp_ne 50 C dX11_isAsSeen_43 (by decide) (fun c27 => ?_) (fun c27 => ?_)
            · have c27' := i_ne c27
              refine r_iconst (v := 0) C dX11_isAsSeen_50 (by decide) ?_
              refine r_istore_n [(2, .int 0), (0, .ref (gz (xG x) + 114)), (1, .int a1), (3, .int u2)] C dX11_isAsSeen_51 (by decide) rfl ?_
              obtain ⟨i28, e29⟩ : ∃ z : Int32, u2 + Int32.ofInt 1 = z := ⟨_, rfl⟩
              have i28' := iinc_ok e29 (by decide) (by omega) (by omega)
              refine r_iinc [(3, .int i28), (2, .int 0), (0, .ref (gz (xG x) + 114)), (1, .int a1)] 3 C dX11_isAsSeen_52 rfl e29 (by decide) rfl ?_
              refine r_goto 4 C dX11_isAsSeen_55 (by decide) ?_
              refine r_lv [2, 3, 1, 0] rfl ?_
              exact ih11 0 i28 w5 h6 o7 (by omega) (by omega) (by omega)
            · have c27' := i_eq c27
              refine r_iconst (v := 1) C dX11_isAsSeen_46 (by decide) ?_
              refine r_goto 51 C dX11_isAsSeen_47 (by decide) ?_
              refine r_istore_n [(2, .int 1), (0, .ref (gz (xG x) + 114)), (1, .int a1), (3, .int u2)] C dX11_isAsSeen_51 (by decide) rfl ?_
              obtain ⟨i30, e31⟩ : ∃ z : Int32, u2 + Int32.ofInt 1 = z := ⟨_, rfl⟩
              have i30' := iinc_ok e31 (by decide) (by omega) (by omega)
              refine r_iinc [(3, .int i30), (2, .int 1), (0, .ref (gz (xG x) + 114)), (1, .int a1)] 3 C dX11_isAsSeen_52 rfl e31 (by decide) rfl ?_
              refine r_goto 4 C dX11_isAsSeen_55 (by decide) ?_
              refine r_lv [2, 3, 1, 0] rfl ?_
              exact ih11 1 i30 w5 h6 o7 (by omega) (by omega) (by omega)
  refine r_iconst (v := 1) C dX11_isAsSeen_0 (by decide) ?_
  refine r_istore_n [(2, .int 1), (0, .ref (gz (xG x) + 114)), (1, .int a1)] C dX11_isAsSeen_1 (by decide) rfl ?_
  refine r_iconst (v := 0) C dX11_isAsSeen_2 (by decide) ?_
  refine r_istore_n [(3, .int 0), (2, .int 1), (0, .ref (gz (xG x) + 114)), (1, .int a1)] C dX11_isAsSeen_3 (by decide) rfl ?_
  refine r_lv [2, 3, 1, 0] rfl ?_
  exact LP3 4294967296 1 0 w h0 o0 (by omega) (by omega) (by omega)
set_option maxHeartbeats 4000000 in
set_option maxRecDepth 100000 in
theorem ctX11_isWalk (l : Launch) (G : Gt) (w : Wv) (sM : Str KM XM w) (o0 : OkM w) (a1 : Int32) (a2 : Int32) (a3 : Int32) (b1 : 1 ≤ a1.toInt ∧ a1.toInt ≤ 5) (b2 : 0 ≤ a2.toInt ∧ a2.toInt ≤ 2) : CtI l G yX11_isWalk cX11_isWalk 6 .boolean ({ frames := 6, cells := 0, slots := 0, locals := 140 } : Room) [.ref (gz G + 114), .int a1, .int a2, .int a3] w (fun r w' => Ch [122, 123, 124] [(114, 13)] w w' ∧ OkM w' ∧ ((0 ≤ r.toInt ∧ r.toInt ≤ 1))) := by
  refine enterI (by decide) (Nat.le_of_ble_eq_true rfl) ?_
  intro x el eG C hret
  subst el; subst eG
  show V x 0 0 w 0 [(0, .ref (gz (xG x) + 114)), (1, .int a1), (2, .int a2), (3, .int a3)] []
  have h0 : Ch [122, 123, 124] [(114, 13)] w w := Ch.rf
  have q0 : (0 : Int32).toInt = 0 := by decide
  have q1 : (1 : Int32).toInt = 1 := by decide
  obtain ⟨rA, rB, rC, rD⟩ := (o0.2 : Rel w)
  have LP3 : ∀ (f4 : Nat) (u1 : Int32) (u2 : Int32) (w5 : Wv), Ch [122, 123, 124] [(114, 13)] w w5 → OkM w5 → (0 ≤ u1.toInt ∧ u1.toInt ≤ 1) → (0 ≤ u2.toInt ∧ u2.toInt ≤ 2147483647) → 2147483647 - u2.toInt < f4 → V x 0 0 w5 6 [(0, .ref (gz (xG x) + 114)), (1, .int a1), (2, .int a2), (3, .int a3), (4, .int u1), (5, .int u2)] [] := by
    intro f4
    induction f4 with
    | zero => intro u1 u2 w5 h6 o7 z8 z9 z10; exfalso; omega
    | succ f4 ih11 =>
      intro u1 u2 w5 h6 o7 z8 z9 z10
      refine r_iload 5 C dX11_isWalk_6 rfl ?_
      refine r_iload_n 1 C dX11_isWalk_8 rfl ?_
      have k13 := i_rng u2
      refine r_icmp_ge 56 C dX11_isWalk_9 (by decide) (fun c12 => ?_) (fun c12 => ?_)
      · have c12' := i_le c12
        refine r_iload 4 C dX11_isWalk_56 rfl ?_
        exact hret _ _ _ _ dX11_isWalk_58 (nar_z (z_of (by omega))) ⟨h6, o7, by omega⟩
      · have c12' := i_nle c12
        refine r_iload 4 C dX11_isWalk_12 rfl ?_
        refine r_if_eq 56 C dX11_isWalk_14 (by decide) (fun c14 => ?_) (fun c14 => ?_)
        · have c14' := i_eq c14
          refine r_iload 4 C dX11_isWalk_56 rfl ?_
          exact hret _ _ _ _ dX11_isWalk_58 (nar_z (z_of (by omega))) ⟨h6, o7, by omega⟩
        · have c14' := i_ne c14
          refine r_aload_n 0 C dX11_isWalk_17 rfl ?_
          refine r_iload_n 3 C dX11_isWalk_18 rfl ?_
          refine r_iload_n 1 C dX11_isWalk_19 rfl ?_
          refine r_iload 5 C dX11_isWalk_20 rfl ?_
          refine callSI C cwX11_373_S (ctX11_stepIn _ _ w5 (sS sM h6) o7 a3 a1 u2 (by omega) (by omega)) (by decide) rfl rfl (Nat.le_of_ble_eq_true rfl) (by decide) dX11_isWalk_22 (fun r17 w16 y15 => ?_)
          show V x 0 0 w16 25 [(0, .ref (gz (xG x) + 114)), (1, .int a1), (2, .int a2), (3, .int a3), (4, .int u1), (5, .int u2)] [.int r17, .ref (gz (xG x) + 114)]
          obtain ⟨h18, o19⟩ := y15
          have h20 := Ch.tr h6 h18 (by decide) (by decide)
          refine r_iload_n 2 C dX11_isWalk_25 rfl ?_
          have b21 := Inv.get o0.1 rt_114_0 (j := 0) (by decide) (by decide)
          have b22 := Inv.get o0.1 rt_114_1 (j := 1) (by decide) (by decide)
          refine callVI C cwX11_327_V (ctX11_minuteBy _ _ w16 (sS sM h20) o19 (wI w 114 0) (h18.I (by decide) (by decide) (h6.I (by decide) (by decide) rfl)) (by omega) (wI w 114 1) (h18.I (by decide) (by decide) (h6.I (by decide) (by decide) rfl)) (by omega) r17 a2 (by omega)) (by decide) (kS sM h20 kc_114) rfl rfl rfl (Nat.le_of_ble_eq_true rfl) (by decide) dX11_isWalk_26 (fun r25 w24 y23 => ?_)
          show V x 0 0 w24 29 [(0, .ref (gz (xG x) + 114)), (1, .int a1), (2, .int a2), (3, .int a3), (4, .int u1), (5, .int u2)] [.int r25]
          obtain ⟨h26, o27, g28⟩ := y23
          have h29 := Ch.tr h20 h26 (by decide) (by decide)
          refine r_if_eq 47 C dX11_isWalk_29 (by decide) (fun c30 => ?_) (fun c30 => ?_)
          · have c30' := i_eq c30
            refine r_iconst (v := 0) C dX11_isWalk_47 (by decide) ?_
            refine r_istore [(4, .int 0), (0, .ref (gz (xG x) + 114)), (1, .int a1), (2, .int a2), (3, .int a3), (5, .int u2)] C dX11_isWalk_48 (by decide) rfl ?_
            obtain ⟨i31, e32⟩ : ∃ z : Int32, u2 + Int32.ofInt 1 = z := ⟨_, rfl⟩
            have i31' := iinc_ok e32 (by decide) (by omega) (by omega)
            refine r_iinc [(5, .int i31), (4, .int 0), (0, .ref (gz (xG x) + 114)), (1, .int a1), (2, .int a2), (3, .int a3)] 5 C dX11_isWalk_50 rfl e32 (by decide) rfl ?_
            refine r_goto 6 C dX11_isWalk_53 (by decide) ?_
            refine r_lv [2, 3, 4, 5, 1, 0] rfl ?_
            exact ih11 0 i31 w24 h29 o27 (by omega) (by omega) (by omega)
          · have c30' := i_ne c30
            refine r_aload_n 0 C dX11_isWalk_32 rfl ?_
            refine r_iload 5 C dX11_isWalk_33 rfl ?_
            refine r_iconst (v := 1) C dX11_isWalk_35 (by decide) ?_
            refine r_iadd C dX11_isWalk_36 (fun v33 e34 => ?_)
            have v33' := iadd_ok e34 (by omega) (by omega)
            refine callVI C cwX11_386_V (ctX11_isAsSeen _ _ w24 (sS sM h29) o27 v33 ) (by decide) (kS sM h29 kc_114) rfl rfl rfl (Nat.le_of_ble_eq_true rfl) (by decide) dX11_isWalk_37 (fun r37 w36 y35 => ?_)
            show V x 0 0 w36 40 [(0, .ref (gz (xG x) + 114)), (1, .int a1), (2, .int a2), (3, .int a3), (4, .int u1), (5, .int u2)] [.int r37]
            obtain ⟨h38, o39, g40⟩ := y35
            have h41 := Ch.tr h29 h38 (by decide) (by decide)
            refine r_if_eq 47 C dX11_isWalk_40 (by decide) (fun c42 => ?_) (fun c42 => ?_)
            · have c42' := i_eq c42
              refine r_iconst (v := 0) C dX11_isWalk_47 (by decide) ?_
              refine r_istore [(4, .int 0), (0, .ref (gz (xG x) + 114)), (1, .int a1), (2, .int a2), (3, .int a3), (5, .int u2)] C dX11_isWalk_48 (by decide) rfl ?_
              obtain ⟨i43, e44⟩ : ∃ z : Int32, u2 + Int32.ofInt 1 = z := ⟨_, rfl⟩
              have i43' := iinc_ok e44 (by decide) (by omega) (by omega)
              refine r_iinc [(5, .int i43), (4, .int 0), (0, .ref (gz (xG x) + 114)), (1, .int a1), (2, .int a2), (3, .int a3)] 5 C dX11_isWalk_50 rfl e44 (by decide) rfl ?_
              refine r_goto 6 C dX11_isWalk_53 (by decide) ?_
              refine r_lv [2, 3, 4, 5, 1, 0] rfl ?_
              exact ih11 0 i43 w36 h41 o39 (by omega) (by omega) (by omega)
            · have c42' := i_ne c42
              refine r_iconst (v := 1) C dX11_isWalk_43 (by decide) ?_
              refine r_goto 48 C dX11_isWalk_44 (by decide) ?_
              refine r_istore [(4, .int 1), (0, .ref (gz (xG x) + 114)), (1, .int a1), (2, .int a2), (3, .int a3), (5, .int u2)] C dX11_isWalk_48 (by decide) rfl ?_
              obtain ⟨i45, e46⟩ : ∃ z : Int32, u2 + Int32.ofInt 1 = z := ⟨_, rfl⟩
              have i45' := iinc_ok e46 (by decide) (by omega) (by omega)
              refine r_iinc [(5, .int i45), (4, .int 1), (0, .ref (gz (xG x) + 114)), (1, .int a1), (2, .int a2), (3, .int a3)] 5 C dX11_isWalk_50 rfl e46 (by decide) rfl ?_
              refine r_goto 6 C dX11_isWalk_53 (by decide) ?_
              refine r_lv [2, 3, 4, 5, 1, 0] rfl ?_
              exact ih11 1 i45 w36 h41 o39 (by omega) (by omega) (by omega)
  refine r_iconst (v := 1) C dX11_isWalk_0 (by decide) ?_
  refine r_istore [(4, .int 1), (0, .ref (gz (xG x) + 114)), (1, .int a1), (2, .int a2), (3, .int a3)] C dX11_isWalk_1 (by decide) rfl ?_
  refine r_iconst (v := 0) C dX11_isWalk_3 (by decide) ?_
  refine r_istore [(5, .int 0), (4, .int 1), (0, .ref (gz (xG x) + 114)), (1, .int a1), (2, .int a2), (3, .int a3)] C dX11_isWalk_4 (by decide) rfl ?_
  refine r_lv [2, 3, 4, 5, 1, 0] rfl ?_
  exact LP3 4294967296 1 0 w h0 o0 (by omega) (by omega) (by omega)
set_option maxHeartbeats 4000000 in
set_option maxRecDepth 100000 in
theorem ctX11_walks (l : Launch) (G : Gt) (w : Wv) (sM : Str KM XM w) (o0 : OkM w) (a1 : Int32) (a2 : Int32) (a3 : Int32) : CtI l G yX11_walks cX11_walks 8 .int ({ frames := 7, cells := 0, slots := 0, locals := 165 } : Room) [.ref (gz G + 114), .int a1, .int a2, .int a3] w (fun r w' => Ch [122, 123, 124, 135, 136, 137] [(114, 13), (114, 45)] w w' ∧ OkM w') := by
  refine enterI (by decide) (Nat.le_of_ble_eq_true rfl) ?_
  intro x el eG C hret
  subst el; subst eG
  show V x 0 0 w 0 [(0, .ref (gz (xG x) + 114)), (1, .int a1), (2, .int a2), (3, .int a3)] []
  have h0 : Ch [122, 123, 124, 135, 136, 137] [(114, 13), (114, 45)] w w := Ch.rf
  have qm1000000002 : ((-1000000002) : Int32).toInt = (-1000000002) := by decide
  have qm1000000001 : ((-1000000001) : Int32).toInt = (-1000000001) := by decide
  have qm1 : ((-1) : Int32).toInt = (-1) := by decide
  have q0 : (0 : Int32).toInt = 0 := by decide
  have q1 : (1 : Int32).toInt = 1 := by decide
  have ql0 : (0 : Int64).toInt = 0 := by decide
  have ql1 : (1 : Int64).toInt = 1 := by decide
  have ql5 : (5 : Int64).toInt = 5 := by decide
  obtain ⟨rA, rB, rC, rD⟩ := (o0.2 : Rel w)
  have LP26 : ∀ (f27 : Nat) (u23 : Int32) (u24 : Int32) (u25 : Int32) (w28 : Wv), Ch [122, 123, 124, 135, 136, 137] [(114, 13), (114, 45)] w w28 → OkM w28 → (0 ≤ u25.toInt ∧ u25.toInt ≤ 2147483647) → (1 ≤ a1.toInt ∧ a1.toInt ≤ 5) → (0 ≤ a2.toInt ∧ a2.toInt ≤ 2) → 2147483647 - u25.toInt < f27 → V x 0 0 w28 40 [(0, .ref (gz (xG x) + 114)), (1, .int a1), (2, .int a2), (3, .int a3), (4, .int u23), (5, .int u24), (6, .int u25)] [] := by
    intro f27
    induction f27 with
    | zero => intro u23 u24 u25 w28 h29 o30 z31 z32 z33 z34; exfalso; omega
    | succ f27 ih35 =>
      intro u23 u24 u25 w28 h29 o30 z31 z32 z33 z34
      refine r_iload 6 C dX11_walks_40 rfl ?_
      refine r_iload_n 1 C dX11_walks_42 rfl ?_
      refine callSI C cwX11_370_S (ctX11_power _ _ w28 (sS sM h29) o30 a1 (by omega)) (by decide) rfl rfl (Nat.le_of_ble_eq_true rfl) (by decide) dX11_walks_43 (fun r38 w37 y36 => ?_)
      show V x 0 0 w37 46 [(0, .ref (gz (xG x) + 114)), (1, .int a1), (2, .int a2), (3, .int a3), (4, .int u23), (5, .int u24), (6, .int u25)] [.int r38, .int u25]
      obtain ⟨h39, o40, g41⟩ := y36
      have h42 := Ch.tr h29 h39 (by decide) (by decide)
      have k44 := i_rng u25
      refine r_icmp_ge 103 C dX11_walks_46 (by decide) (fun c43 => ?_) (fun c43 => ?_)
      · have c43' := i_le c43
        refine r_iload_n 3 C dX11_walks_103 rfl ?_
        refine r_iconst (v := (-1)) C dX11_walks_104 (by decide) ?_
        refine r_icmp_ne 113 C dX11_walks_105 (by decide) (fun c45 => ?_) (fun c45 => ?_)
        · have c45' := i_ne c45
          refine r_iload 4 C dX11_walks_113 rfl ?_
          refine r_if_eq 131 C dX11_walks_115 (by decide) (fun c46 => ?_) (fun c46 => ?_)
          · have c46' := i_eq c46
            refine r_iconst (v := (-1)) C dX11_walks_131 (by decide) ?_
            refine r_goto 142 C dX11_walks_132 (by decide) ?_
            exact hret _ _ _ _ dX11_walks_142 rfl ⟨h42, o40⟩
          · have c46' := i_ne c46
            refine r_iload_n 3 C dX11_walks_118 rfl ?_
            refine r_i2l C dX11_walks_119 (fun v47 e48 => ?_)
            have v47' := i2l_ok e48
            refine r_lconst (v := 0) C dX11_walks_120 (by decide) ?_
            refine r_iload_n 1 C dX11_walks_121 rfl ?_
            refine r_iconst (v := 1) C dX11_walks_122 (by decide) ?_
            refine r_isub C dX11_walks_123 (fun v49 e50 => ?_)
            have v49' := isub_ok e50 (by omega) (by omega)
            refine r_i2l C dX11_walks_124 (fun v51 e52 => ?_)
            have v51' := i2l_ok e52
            refine callSI C cwX11_114_S (ctX11_in _ _ w37 v47 0 v51 ) (by decide) rfl rfl (Nat.le_of_ble_eq_true rfl) (by decide) dX11_walks_125 (fun r55 w54 y53 => ?_)
            obtain ⟨y53, g56⟩ := y53
            obtain rfl := y53.symm
            show V x 0 0 w37 128 [(0, .ref (gz (xG x) + 114)), (1, .int a1), (2, .int a2), (3, .int a3), (4, .int u23), (5, .int u24), (6, .int u25)] [.int r55]
            refine r_if_ne 135 C dX11_walks_128 (by decide) (fun c57 => ?_) (fun c57 => ?_)
            · have c57' := i_ne c57
              refine r_iload 5 C dX11_walks_135 rfl ?_
              refine r_iload_n 1 C dX11_walks_137 rfl ?_
              refine r_iload_n 3 C dX11_walks_138 rfl ?_
              refine callSI C cwX11_373_S (ctX11_stepIn _ _ w37 (sS sM h42) o40 u24 a1 a3 (by omega) (by omega)) (by decide) rfl rfl (Nat.le_of_ble_eq_true rfl) (by decide) dX11_walks_139 (fun r60 w59 y58 => ?_)
              show V x 0 0 w59 142 [(0, .ref (gz (xG x) + 114)), (1, .int a1), (2, .int a2), (3, .int a3), (4, .int u23), (5, .int u24), (6, .int u25)] [.int r60]
              obtain ⟨h61, o62⟩ := y58
              have h63 := Ch.tr h42 h61 (by decide) (by decide)
              exact hret _ _ _ _ dX11_walks_142 rfl ⟨h63, o62⟩
            · have c57' := i_eq c57
              refine r_iconst (v := (-1)) C dX11_walks_131 (by decide) ?_
              refine r_goto 142 C dX11_walks_132 (by decide) ?_
              exact hret _ _ _ _ dX11_walks_142 rfl ⟨h42, o40⟩
        · have c45' := i_eq c45
          refine r_iload 4 C dX11_walks_108 rfl ?_
          refine r_goto 142 C dX11_walks_110 (by decide) ?_
          exact hret _ _ _ _ dX11_walks_142 rfl ⟨h42, o40⟩
      · have c43' := i_nle c43
        refine r_aload_n 0 C dX11_walks_49 rfl ?_
        refine r_iload_n 1 C dX11_walks_50 rfl ?_
        refine r_iload_n 2 C dX11_walks_51 rfl ?_
        refine r_iload 6 C dX11_walks_52 rfl ?_
        refine callVI C cwX11_389_V (ctX11_isWalk _ _ w37 (sS sM h42) o40 a1 a2 u25 (by omega) (by omega)) (by decide) (kS sM h42 kc_114) rfl rfl rfl (Nat.le_of_ble_eq_true rfl) (by decide) dX11_walks_54 (fun r66 w65 y64 => ?_)
        show V x 0 0 w65 57 [(0, .ref (gz (xG x) + 114)), (1, .int a1), (2, .int a2), (3, .int a3), (4, .int u23), (5, .int u24), (6, .int u25)] [.int r66]
        obtain ⟨h67, o68, g69⟩ := y64
        have h70 := Ch.tr h42 h67 (by decide) (by decide)
        refine r_istore [(7, .int r66), (0, .ref (gz (xG x) + 114)), (1, .int a1), (2, .int a2), (3, .int a3), (4, .int u23), (5, .int u24), (6, .int u25)] C dX11_walks_57 (by decide) rfl ?_
        refine r_aload_n 1 C dX11_walks_59 rfl ?_
        refine callVV C cwX11_361_V (ctX11_putBack _ _ w65 (sS sM h70) o68  ) (by decide) (kS sM h70 kc_114) rfl rfl rfl (Nat.le_of_ble_eq_true rfl) (by decide) dX11_walks_60 (fun w72 y71 => ?_)
        show V x 0 0 w72 63 [(7, .int r66), (0, .ref (gz (xG x) + 114)), (1, .int a1), (2, .int a2), (3, .int a3), (4, .int u23), (5, .int u24), (6, .int u25)] []
        obtain ⟨h74, o75⟩ := y71
        have h76 := Ch.tr h70 h74 (by decide) (by decide)
        refine r_iload 0 C dX11_walks_63 rfl ?_
        refine r_if_eq 78 C dX11_walks_65 (by decide) (fun c77 => ?_) (fun c77 => ?_)
        · have c77' := i_eq c77
          refine r_iload 6 C dX11_walks_78 rfl ?_
          refine r_istore [(5, .int u24), (7, .int r66), (0, .ref (gz (xG x) + 114)), (1, .int a1), (2, .int a2), (3, .int a3), (4, .int u23), (6, .int u25)] C dX11_walks_80 (by decide) rfl ?_
          refine r_iload 6 C dX11_walks_82 rfl ?_
          refine r_iload 1 C dX11_walks_84 rfl ?_
          refine r_if_eq 93 C dX11_walks_86 (by decide) (fun c78 => ?_) (fun c78 => ?_)
          · have c78' := i_eq c78
            refine r_iconst (v := 0) C dX11_walks_93 (by decide) ?_
            refine r_iadd C dX11_walks_94 (fun v79 e80 => ?_)
            have k81 := i_rng u23
            have v79' := iadd_ok e80 (by omega) (by omega)
            refine r_istore [(4, .int v79), (5, .int u24), (7, .int r66), (0, .ref (gz (xG x) + 114)), (1, .int a1), (2, .int a2), (3, .int a3), (6, .int u25)] C dX11_walks_95 (by decide) rfl ?_
            obtain ⟨i82, e83⟩ : ∃ z : Int32, u25 + Int32.ofInt 1 = z := ⟨_, rfl⟩
            have i82' := iinc_ok e83 (by decide) (by omega) (by omega)
            refine r_iinc [(6, .int i82), (4, .int v79), (5, .int u24), (7, .int r66), (0, .ref (gz (xG x) + 114)), (1, .int a1), (2, .int a2), (3, .int a3)] 7 C dX11_walks_97 rfl e83 (by decide) rfl ?_
            refine r_goto 40 C dX11_walks_100 (by decide) ?_
            refine r_lv [4, 5, 6, 7, 1, 2, 0] rfl ?_
            exact ih35 v79 u24 i82 w72 h76 o75 (by omega) (by omega) (by omega) (by omega)
          · have c78' := i_ne c78
            exfalso; omega
        · have c77' := i_ne c77
          refine r_iload 5 C dX11_walks_68 rfl ?_
          refine r_if_ne 78 C dX11_walks_70 (by decide) (fun c84 => ?_) (fun c84 => ?_)
          · have c84' := i_ne c84
            refine r_iload 6 C dX11_walks_78 rfl ?_
            refine r_istore [(5, .int u24), (7, .int r66), (0, .ref (gz (xG x) + 114)), (1, .int a1), (2, .int a2), (3, .int a3), (4, .int u23), (6, .int u25)] C dX11_walks_80 (by decide) rfl ?_
            refine r_iload 6 C dX11_walks_82 rfl ?_
            refine r_iload 1 C dX11_walks_84 rfl ?_
            refine r_if_eq 93 C dX11_walks_86 (by decide) (fun c85 => ?_) (fun c85 => ?_)
            · have c85' := i_eq c85
              exfalso; omega
            · have c85' := i_ne c85
              refine r_iconst (v := 1) C dX11_walks_89 (by decide) ?_
              refine r_goto 94 C dX11_walks_90 (by decide) ?_
              refine r_iadd C dX11_walks_94 (fun v86 e87 => ?_)
              refine r_istore [(4, .int v86), (5, .int u24), (7, .int r66), (0, .ref (gz (xG x) + 114)), (1, .int a1), (2, .int a2), (3, .int a3), (6, .int u25)] C dX11_walks_95 (by decide) rfl ?_
              obtain ⟨i88, e89⟩ : ∃ z : Int32, u25 + Int32.ofInt 1 = z := ⟨_, rfl⟩
              have i88' := iinc_ok e89 (by decide) (by omega) (by omega)
              refine r_iinc [(6, .int i88), (4, .int v86), (5, .int u24), (7, .int r66), (0, .ref (gz (xG x) + 114)), (1, .int a1), (2, .int a2), (3, .int a3)] 7 C dX11_walks_97 rfl e89 (by decide) rfl ?_
              refine r_goto 40 C dX11_walks_100 (by decide) ?_
              refine r_lv [4, 5, 6, 7, 1, 2, 0] rfl ?_
              exact ih35 v86 u24 i88 w72 h76 o75 (by omega) (by omega) (by omega) (by omega)
          · have c84' := i_eq c84
            refine r_iload 7 C dX11_walks_73 rfl ?_
            refine r_goto 80 C dX11_walks_75 (by decide) ?_
            refine r_istore [(5, .int u25), (7, .int r66), (0, .ref (gz (xG x) + 114)), (1, .int a1), (2, .int a2), (3, .int a3), (4, .int u23), (6, .int u25)] C dX11_walks_80 (by decide) rfl ?_
            refine r_iload 6 C dX11_walks_82 rfl ?_
            refine r_iload 1 C dX11_walks_84 rfl ?_
            refine r_if_eq 93 C dX11_walks_86 (by decide) (fun c90 => ?_) (fun c90 => ?_)
            · have c90' := i_eq c90
              exfalso; omega
            · have c90' := i_ne c90
              refine r_iconst (v := 1) C dX11_walks_89 (by decide) ?_
              refine r_goto 94 C dX11_walks_90 (by decide) ?_
              refine r_iadd C dX11_walks_94 (fun v91 e92 => ?_)
              have v91' := iadd_ok e92 (by omega) (by omega)
              refine r_istore [(4, .int v91), (5, .int u25), (7, .int r66), (0, .ref (gz (xG x) + 114)), (1, .int a1), (2, .int a2), (3, .int a3), (6, .int u25)] C dX11_walks_95 (by decide) rfl ?_
              obtain ⟨i93, e94⟩ : ∃ z : Int32, u25 + Int32.ofInt 1 = z := ⟨_, rfl⟩
              have i93' := iinc_ok e94 (by decide) (by omega) (by omega)
              refine r_iinc [(6, .int i93), (4, .int v91), (5, .int u25), (7, .int r66), (0, .ref (gz (xG x) + 114)), (1, .int a1), (2, .int a2), (3, .int a3)] 7 C dX11_walks_97 rfl e94 (by decide) rfl ?_
              refine r_goto 40 C dX11_walks_100 (by decide) ?_
              refine r_lv [4, 5, 6, 7, 1, 2, 0] rfl ?_
              exact ih35 v91 u25 i93 w72 h76 o75 (by omega) (by omega) (by omega) (by omega)
  refine r_aload_n 0 C dX11_walks_0 rfl ?_
  refine r_iload_n 2 C dX11_walks_1 rfl ?_
  have b1 := Inv.get o0.1 rt_114_8 (j := 8) (by decide) (by decide)
  refine callVI C cwX11_310_V (ctX11_isTune _ _ w (sS sM h0) o0 (wI w 114 8) rfl (by omega) a2 ) (by decide) (kS sM h0 kc_114) rfl rfl rfl (Nat.le_of_ble_eq_true rfl) (by decide) dX11_walks_2 (fun r4 w3 y2 => ?_)
  show V x 0 0 w3 5 [(0, .ref (gz (xG x) + 114)), (1, .int a1), (2, .int a2), (3, .int a3)] [.int r4]
  obtain ⟨h5, o6, g7⟩ := y2
  have h8 := Ch.tr h0 h5 (by decide) (by decide)
  refine r_if_ne 12 C dX11_walks_5 (by decide) (fun c9 => ?_) (fun c9 => ?_)
  · have c9' := i_ne c9
    refine r_iload_n 1 C dX11_walks_12 rfl ?_
    refine r_i2l C dX11_walks_13 (fun v10 e11 => ?_)
    have v10' := i2l_ok e11
    refine r_lconst (v := 1) C dX11_walks_14 (by decide) ?_
    refine r_ldc2 C mw7_37 dX11_walks_15 ?_
    refine callSI C cwX11_114_S (ctX11_in _ _ w3 v10 1 5 ) (by decide) rfl rfl (Nat.le_of_ble_eq_true rfl) (by decide) dX11_walks_18 (fun r14 w13 y12 => ?_)
    obtain ⟨y12, g15⟩ := y12
    obtain rfl := y12.symm
    show V x 0 0 w3 21 [(0, .ref (gz (xG x) + 114)), (1, .int a1), (2, .int a2), (3, .int a3)] [.int r14]
    refine r_if_ne 27 C dX11_walks_21 (by decide) (fun c16 => ?_) (fun c16 => ?_)
    · have c16' := i_ne c16
      refine r_aload_n 0 C dX11_walks_27 rfl ?_
      refine callVV C cwX11_355_V (ctX11_save _ _ w3 (sS sM h8) o6  ) (by decide) (kS sM h8 kc_114) rfl rfl rfl (Nat.le_of_ble_eq_true rfl) (by decide) dX11_walks_28 (fun w18 y17 => ?_)
      show V x 0 0 w18 31 [(0, .ref (gz (xG x) + 114)), (1, .int a1), (2, .int a2), (3, .int a3)] []
      obtain ⟨h20, o21⟩ := y17
      have h22 := Ch.tr h8 h20 (by decide) (by decide)
      refine r_iconst (v := 0) C dX11_walks_31 (by decide) ?_
      refine r_istore [(4, .int 0), (0, .ref (gz (xG x) + 114)), (1, .int a1), (2, .int a2), (3, .int a3)] C dX11_walks_32 (by decide) rfl ?_
      refine r_iconst (v := (-1)) C dX11_walks_34 (by decide) ?_
      refine r_istore [(5, .int (-1)), (4, .int 0), (0, .ref (gz (xG x) + 114)), (1, .int a1), (2, .int a2), (3, .int a3)] C dX11_walks_35 (by decide) rfl ?_
      refine r_iconst (v := 0) C dX11_walks_37 (by decide) ?_
      refine r_istore [(6, .int 0), (5, .int (-1)), (4, .int 0), (0, .ref (gz (xG x) + 114)), (1, .int a1), (2, .int a2), (3, .int a3)] C dX11_walks_38 (by decide) rfl ?_
      refine r_lv [3, 4, 5, 6, 2, 1, 0] rfl ?_
      exact LP26 4294967296 0 (-1) 0 w18 h22 o21 (by omega) (by omega) (by omega) (by omega)
    · have c16' := i_eq c16
      refine r_ldc C mw5_239 dX11_walks_24 ?_
      exact hret _ _ _ _ dX11_walks_26 rfl ⟨h8, o6⟩
  · have c9' := i_eq c9
    refine r_ldcw C mw6_112 dX11_walks_8 ?_
    exact hret _ _ _ _ dX11_walks_11 rfl ⟨h8, o6⟩
set_option maxHeartbeats 4000000 in
set_option maxRecDepth 100000 in
theorem ctX11_tear (l : Launch) (G : Gt) (w : Wv) (sM : Str KM XM w) (o0 : OkM w)  : CtI l G yX11_tear cX11_tear 2 .int ({ frames := 0, cells := 0, slots := 0, locals := 0 } : Room) [.ref (gz G + 114)] w (fun r w' => Ch [] [(114, 52)] w w' ∧ OkM w') := by
  refine enterI (by decide) (Nat.le_of_ble_eq_true rfl) ?_
  intro x el eG C hret
  subst el; subst eG
  show V x 0 0 w 0 [(0, .ref (gz (xG x) + 114))] []
  have h0 : Ch [] [(114, 52)] w w := Ch.rf
  have q0 : (0 : Int32).toInt = 0 := by decide
  obtain ⟨rA, rB, rC, rD⟩ := (o0.2 : Rel w)
  refine r_aload_n 0 C dX11_tear_0 rfl ?_
  refine gfX11_268 (v := (wI w 114 52)) C (kS sM h0 kc_114) rfl dX11_tear_1 ?_
  have b1 := Inv.get o0.1 rt_114_52 (j := 52) (by decide) (by decide)
  refine r_istore_n [(1, .int (wI w 114 52)), (0, .ref (gz (xG x) + 114))] C dX11_tear_4 (by decide) rfl ?_
  refine r_aload_n 1 C dX11_tear_5 rfl ?_
  refine r_iconst (v := 0) C dX11_tear_6 (by decide) ?_
  refine pfX11_268 C (kS sM h0 kc_114) dX11_tear_7 (fun w2 e3 => ?_)
  have h4 := Ch.putF h0 e3 (by decide)
  have o5 : OkM w2 := ⟨Inv.put o0.1 e3 0 10 (by omega) (by decide), Rel.putF o0.2 e3 (by decide)⟩
  refine r_iload_n 0 C dX11_tear_10 rfl ?_
  exact hret _ _ _ _ dX11_tear_11 rfl ⟨h4, o5⟩
set_option maxHeartbeats 4000000 in
set_option maxRecDepth 100000 in
theorem ctX11_seed (l : Launch) (G : Gt) (w : Wv) (sM : Str KM XM w) (o0 : OkM w) (a1 : Int32) : CtI l G yX11_seed cX11_seed 3 .int ({ frames := 0, cells := 0, slots := 0, locals := 0 } : Room) [.ref (gz G + 114), .int a1] w (fun r w' => Ch [] [(114, 18)] w w' ∧ OkM w') := by
  refine enterI (by decide) (Nat.le_of_ble_eq_true rfl) ?_
  intro x el eG C hret
  subst el; subst eG
  show V x 0 0 w 0 [(0, .ref (gz (xG x) + 114)), (1, .int a1)] []
  have h0 : Ch [] [(114, 18)] w w := Ch.rf
  have qm1000000002 : ((-1000000002) : Int32).toInt = (-1000000002) := by decide
  have q0 : (0 : Int32).toInt = 0 := by decide
  obtain ⟨rA, rB, rC, rD⟩ := (o0.2 : Rel w)
  refine r_iload_n 1 C dX11_seed_0 rfl ?_
  refine r_if_ge 7 C dX11_seed_1 (by decide) (fun c1 => ?_) (fun c1 => ?_)
  · have c1' := i_le c1
    refine r_aload_n 0 C dX11_seed_7 rfl ?_
    refine gfX11_334 (v := (wI w 114 18)) C (kS sM h0 kc_114) rfl dX11_seed_8 ?_
    have b2 := Inv.get o0.1 rt_114_18 (j := 18) (by decide) (by decide)
    refine r_istore_n [(2, .int (wI w 114 18)), (0, .ref (gz (xG x) + 114)), (1, .int a1)] C dX11_seed_11 (by decide) rfl ?_
    refine r_aload_n 1 C dX11_seed_12 rfl ?_
    refine r_iload_n 2 C dX11_seed_13 rfl ?_
    refine pfX11_334 C (kS sM h0 kc_114) dX11_seed_14 (fun w3 e4 => ?_)
    have h5 := Ch.putF h0 e4 (by decide)
    have k7 := i_rng a1
    have o6 : OkM w3 := ⟨Inv.put o0.1 e4 0 2147483647 (by omega) (by decide), Rel.putF o0.2 e4 (by decide)⟩
    refine r_iload_n 0 C dX11_seed_17 rfl ?_
    exact hret _ _ _ _ dX11_seed_18 rfl ⟨h5, o6⟩
  · have c1' := i_nle c1
    refine r_ldc C mw5_239 dX11_seed_4 ?_
    exact hret _ _ _ _ dX11_seed_6 rfl ⟨h0, o0⟩
set_option maxHeartbeats 4000000 in
set_option maxRecDepth 100000 in
theorem ctX11_keep (l : Launch) (G : Gt) (w : Wv) (sM : Str KM XM w) (o0 : OkM w) (a1 : Int32) : CtI l G yX11_keep cX11_keep 4 .int ({ frames := 1, cells := 0, slots := 0, locals := 25 } : Room) [.ref (gz G + 114), .int a1] w (fun r w' => Ch [143, 144] [] w w' ∧ OkM w' ∧ (((a1.toInt < 0 ∨ 1 < a1.toInt) → r.toInt = -1000000001) ∧ ((0 ≤ a1.toInt ∧ a1.toInt ≤ 1) → r.toInt = 1))) := by
  refine enterI (by decide) (Nat.le_of_ble_eq_true rfl) ?_
  intro x el eG C hret
  subst el; subst eG
  show V x 0 0 w 0 [(0, .ref (gz (xG x) + 114)), (1, .int a1)] []
  have h0 : Ch [143, 144] [] w w := Ch.rf
  have qm1000000001 : ((-1000000001) : Int32).toInt = (-1000000001) := by decide
  have q0 : (0 : Int32).toInt = 0 := by decide
  have q1 : (1 : Int32).toInt = 1 := by decide
  have q6 : (6 : Int32).toInt = 6 := by decide
  have q42 : (42 : Int32).toInt = 42 := by decide
  have q48 : (48 : Int32).toInt = 48 := by decide
  have q54 : (54 : Int32).toInt = 54 := by decide
  have q60 : (60 : Int32).toInt = 60 := by decide
  have q61 : (61 : Int32).toInt = 61 := by decide
  have q62 : (62 : Int32).toInt = 62 := by decide
  have q70 : (70 : Int32).toInt = 70 := by decide
  have ql0 : (0 : Int64).toInt = 0 := by decide
  have ql1 : (1 : Int64).toInt = 1 := by decide
  obtain ⟨rA, rB, rC, rD⟩ := (o0.2 : Rel w)
  refine r_iload_n 1 C dX11_keep_0 rfl ?_
  refine r_i2l C dX11_keep_1 (fun v1 e2 => ?_)
  have v1' := i2l_ok e2
  refine r_lconst (v := 0) C dX11_keep_2 (by decide) ?_
  refine r_lconst (v := 1) C dX11_keep_3 (by decide) ?_
  refine callSI C cwX11_114_S (ctX11_in _ _ w v1 0 1 ) (by decide) rfl rfl (Nat.le_of_ble_eq_true rfl) (by decide) dX11_keep_4 (fun r5 w4 y3 => ?_)
  obtain ⟨y3, g6⟩ := y3
  obtain rfl := y3.symm
  show V x 0 0 w 7 [(0, .ref (gz (xG x) + 114)), (1, .int a1)] [.int r5]
  refine r_if_ne 14 C dX11_keep_7 (by decide) (fun c7 => ?_) (fun c7 => ?_)
  · have c7' := i_ne c7
    rcases (show a1.toInt = 0 ∨ a1.toInt = 1 by omega) with c8 | c8
    · obtain rfl : a1 = 0 := i_of (by omega)
      have LP14 : ∀ (f15 : Nat) (u12 : Int32) (u13 : Int32) (w16 : Wv), Ch [143, 144] [] w w16 → OkM w16 → (0 ≤ u12.toInt ∧ u12.toInt ≤ 0) → (0 ≤ u13.toInt ∧ u13.toInt ≤ 2147483647) → 2147483647 - u13.toInt < f15 → V x 0 0 w16 21 [(0, .ref (gz (xG x) + 114)), (1, .int 0), (2, .int u12), (3, .int u13)] [] := by
        intro f15
        induction f15 with
        | zero => intro u12 u13 w16 h17 o18 z19 z20 z21; exfalso; omega
        | succ f15 ih22 =>
          intro u12 u13 w16 h17 o18 z19 z20 z21
          have LP26 : ∀ (f27 : Nat) (u25 : Int32) (w28 : Wv), Ch [143, 144] [] w w28 → OkM w28 → (0 ≤ u25.toInt ∧ u25.toInt ≤ 2147483647) → 2147483647 - u25.toInt < f27 → V x 0 0 w28 49 [(0, .ref (gz (xG x) + 114)), (1, .int 0), (2, .int u12), (3, .int u25)] [] := by
            intro f27
            induction f27 with
            | zero => intro u25 w28 h29 o30 z31 z32; exfalso; omega
            | succ f27 ih33 =>
              intro u25 w28 h29 o30 z31 z32
              refine r_iload_n 3 C dX11_keep_49 rfl ?_
              refine r_bipush (v := 6) C dX11_keep_50 (by decide) ?_
              have k35 := i_rng u25
              refine r_icmp_ge 112 C dX11_keep_52 (by decide) (fun c34 => ?_) (fun c34 => ?_)
              · have c34' := i_le c34
                refine r_aload_n 0 C dX11_keep_112 rfl ?_
                refine gfX11_104 143 C (kS sM h29 kc_114) (xS sM h29 xc_114_56) dX11_keep_113 ?_
                refine r_iload_n 2 C dX11_keep_116 rfl ?_
                refine r_bipush (v := 60) C dX11_keep_117 (by decide) ?_
                refine r_iadd C dX11_keep_119 (fun v36 e37 => ?_)
                have v36' := iadd_ok e37 (by omega) (by omega)
                refine r_aload_n 0 C dX11_keep_120 rfl ?_
                refine gfX11_259 (v := (wI w 114 13)) C (kS sM h29 kc_114) (h29.I (by decide) (by decide) rfl) dX11_keep_121 ?_
                have b38 := Inv.get o0.1 rt_114_13 (j := 13) (by decide) (by decide)
                refine r_iast C (kS sM h29 kc_143) (vin (by omega) (by omega)) dX11_keep_124 (fun w39 e40 => ?_)
                have h41 := Ch.putS h29 e40 (by decide)
                have o42 : OkM w39 := ⟨Inv.putR o30.1 e40 60 60 (by omega) (by omega) 0 41 (by omega) (by decide), Rel.putS o30.2 e40 (by decide)⟩
                refine r_aload_n 0 C dX11_keep_125 rfl ?_
                refine gfX11_104 143 C (kS sM h41 kc_114) (xS sM h41 xc_114_56) dX11_keep_126 ?_
                refine r_iload_n 2 C dX11_keep_129 rfl ?_
                refine r_bipush (v := 61) C dX11_keep_130 (by decide) ?_
                refine r_iadd C dX11_keep_132 (fun v43 e44 => ?_)
                have v43' := iadd_ok e44 (by omega) (by omega)
                refine r_aload_n 0 C dX11_keep_133 rfl ?_
                refine gfX11_262 (v := (wI w 114 17)) C (kS sM h41 kc_114) (g_nn e40 (by decide) (h29.I (by decide) (by decide) rfl)) dX11_keep_134 ?_
                refine r_iast C (kS sM h41 kc_143) (vin (by omega) (by omega)) dX11_keep_137 (fun w45 e46 => ?_)
                have h47 := Ch.putS h41 e46 (by decide)
                have k49 := i_rng (wI w 114 17)
                have k50 := i_rng (wI w 114 17)
                have o48 : OkM w45 := ⟨Inv.putR o42.1 e46 61 61 (by omega) (by omega) (-2147483648) 2147483647 (by omega) (by decide), Rel.putS o42.2 e46 (by decide)⟩
                refine r_aload_n 0 C dX11_keep_138 rfl ?_
                refine gfX11_104 143 C (kS sM h47 kc_114) (xS sM h47 xc_114_56) dX11_keep_139 ?_
                refine r_iload_n 2 C dX11_keep_142 rfl ?_
                refine r_bipush (v := 62) C dX11_keep_143 (by decide) ?_
                refine r_iadd C dX11_keep_145 (fun v51 e52 => ?_)
                have v51' := iadd_ok e52 (by omega) (by omega)
                refine r_aload_n 0 C dX11_keep_146 rfl ?_
                refine gfX11_334 (v := (wI w 114 18)) C (kS sM h47 kc_114) (g_nn e46 (by decide) (g_nn e40 (by decide) (h29.I (by decide) (by decide) rfl))) dX11_keep_147 ?_
                have b53 := Inv.get o0.1 rt_114_18 (j := 18) (by decide) (by decide)
                refine r_iast C (kS sM h47 kc_143) (vin (by omega) (by omega)) dX11_keep_150 (fun w54 e55 => ?_)
                have h56 := Ch.putS h47 e55 (by decide)
                have k58 := i_rng (wI w 114 18)
                have o57 : OkM w54 := ⟨Inv.putR o48.1 e55 62 62 (by omega) (by omega) 0 2147483647 (by omega) (by decide), Rel.putS o48.2 e55 (by decide)⟩
                refine r_aload_n 0 C dX11_keep_151 rfl ?_
                refine gfX11_107 144 C (kS sM h56 kc_114) (xS sM h56 xc_114_57) dX11_keep_152 ?_
                refine r_iload_n 1 C dX11_keep_155 rfl ?_
                refine r_iconst (v := 1) C dX11_keep_156 (by decide) ?_
                refine r_zast C (kS sM h56 kc_144) (vin (by omega) (by omega)) (nar_z (z_of (by omega))) dX11_keep_157 (fun w59 e60 => ?_)
                have h61 := Ch.putS h56 e60 (by decide)
                have o62 : OkM w59 := ⟨Inv.put0 o57.1 e60 (by decide), Rel.putS o57.2 e60 (by decide)⟩
                refine r_iconst (v := 1) C dX11_keep_158 (by decide) ?_
                exact hret _ _ _ _ dX11_keep_159 rfl ⟨h61, o62, by omega⟩
              · have c34' := i_nle c34
                refine r_aload_n 0 C dX11_keep_55 rfl ?_
                refine gfX11_104 143 C (kS sM h29 kc_114) (xS sM h29 xc_114_56) dX11_keep_56 ?_
                refine r_iload_n 2 C dX11_keep_59 rfl ?_
                refine r_bipush (v := 42) C dX11_keep_60 (by decide) ?_
                refine r_iadd C dX11_keep_62 (fun v63 e64 => ?_)
                have v63' := iadd_ok e64 (by omega) (by omega)
                refine r_iload_n 3 C dX11_keep_63 rfl ?_
                refine r_iadd C dX11_keep_64 (fun v65 e66 => ?_)
                have v65' := iadd_ok e66 (by omega) (by omega)
                refine r_aload_n 0 C dX11_keep_65 rfl ?_
                refine gfX11_38 122 C (kS sM h29 kc_114) (xS sM h29 xc_114_14) dX11_keep_66 ?_
                refine r_iload_n 3 C dX11_keep_69 rfl ?_
                refine r_iald C (kS sM h29 kc_122) (vin (by omega) (by omega)) dX11_keep_70 ?_
                have b68 := Inv.geta o30.1 rt_122_0 (i := u25) (by omega) (by omega) (by omega)
                generalize (wI w28 122 (u25).toNatClampNeg) = v67 at b68 ⊢
                refine r_iast C (kS sM h29 kc_143) (vin (by omega) (by omega)) dX11_keep_71 (fun w69 e70 => ?_)
                have h71 := Ch.putS h29 e70 (by decide)
                have o72 : OkM w69 := ⟨Inv.putR o30.1 e70 42 47 (by omega) (by omega) 0 41 (by omega) (by decide), Rel.putS o30.2 e70 (by decide)⟩
                refine r_aload_n 0 C dX11_keep_72 rfl ?_
                refine gfX11_104 143 C (kS sM h71 kc_114) (xS sM h71 xc_114_56) dX11_keep_73 ?_
                refine r_iload_n 2 C dX11_keep_76 rfl ?_
                refine r_bipush (v := 48) C dX11_keep_77 (by decide) ?_
                refine r_iadd C dX11_keep_79 (fun v73 e74 => ?_)
                have v73' := iadd_ok e74 (by omega) (by omega)
                refine r_iload_n 3 C dX11_keep_80 rfl ?_
                refine r_iadd C dX11_keep_81 (fun v75 e76 => ?_)
                have v75' := iadd_ok e76 (by omega) (by omega)
                refine r_aload_n 0 C dX11_keep_82 rfl ?_
                refine gfX11_41 123 C (kS sM h71 kc_114) (xS sM h71 xc_114_15) dX11_keep_83 ?_
                refine r_iload_n 3 C dX11_keep_86 rfl ?_
                refine r_iald C (kS sM h71 kc_123) (vin (by omega) (by omega)) dX11_keep_87 ?_
                have b78 := Inv.geta o72.1 rt_123_0 (i := u25) (by omega) (by omega) (by omega)
                generalize (wI w69 123 (u25).toNatClampNeg) = v77 at b78 ⊢
                refine r_iast C (kS sM h71 kc_143) (vin (by omega) (by omega)) dX11_keep_88 (fun w79 e80 => ?_)
                have h81 := Ch.putS h71 e80 (by decide)
                have o82 : OkM w79 := ⟨Inv.putR o72.1 e80 48 53 (by omega) (by omega) (-1) 41 (by omega) (by decide), Rel.putS o72.2 e80 (by decide)⟩
                refine r_aload_n 0 C dX11_keep_89 rfl ?_
                refine gfX11_104 143 C (kS sM h81 kc_114) (xS sM h81 xc_114_56) dX11_keep_90 ?_
                refine r_iload_n 2 C dX11_keep_93 rfl ?_
                refine r_bipush (v := 54) C dX11_keep_94 (by decide) ?_
                refine r_iadd C dX11_keep_96 (fun v83 e84 => ?_)
                have v83' := iadd_ok e84 (by omega) (by omega)
                refine r_iload_n 3 C dX11_keep_97 rfl ?_
                refine r_iadd C dX11_keep_98 (fun v85 e86 => ?_)
                have v85' := iadd_ok e86 (by omega) (by omega)
                refine r_aload_n 0 C dX11_keep_99 rfl ?_
                refine gfX11_44 124 C (kS sM h81 kc_114) (xS sM h81 xc_114_16) dX11_keep_100 ?_
                refine r_iload_n 3 C dX11_keep_103 rfl ?_
                refine r_iald C (kS sM h81 kc_124) (vin (by omega) (by omega)) dX11_keep_104 ?_
                generalize (wI w79 124 (u25).toNatClampNeg) = v87
                refine r_iast C (kS sM h81 kc_143) (vin (by omega) (by omega)) dX11_keep_105 (fun w88 e89 => ?_)
                have h90 := Ch.putS h81 e89 (by decide)
                have k92 := i_rng v87
                have k93 := i_rng v87
                have o91 : OkM w88 := ⟨Inv.putR o82.1 e89 54 59 (by omega) (by omega) (-2147483648) 2147483647 (by omega) (by decide), Rel.putS o82.2 e89 (by decide)⟩
                obtain ⟨i94, e95⟩ : ∃ z : Int32, u25 + Int32.ofInt 1 = z := ⟨_, rfl⟩
                have i94' := iinc_ok e95 (by decide) (by omega) (by omega)
                refine r_iinc [(3, .int i94), (0, .ref (gz (xG x) + 114)), (1, .int 0), (2, .int u12)] 3 C dX11_keep_106 rfl e95 (by decide) rfl ?_
                refine r_goto 49 C dX11_keep_109 (by decide) ?_
                refine r_lv [1, 2, 3, 0] rfl ?_
                exact ih33 i94 w88 h90 o91 (by omega) (by omega)
          refine r_iload_n 3 C dX11_keep_21 rfl ?_
          refine r_bipush (v := 42) C dX11_keep_22 (by decide) ?_
          have k24 := i_rng u13
          refine r_icmp_ge 47 C dX11_keep_24 (by decide) (fun c23 => ?_) (fun c23 => ?_)
          · have c23' := i_le c23
            refine r_iconst (v := 0) C dX11_keep_47 (by decide) ?_
            refine r_istore_n [(3, .int 0), (0, .ref (gz (xG x) + 114)), (1, .int 0), (2, .int u12)] C dX11_keep_48 (by decide) rfl ?_
            refine r_lv [1, 2, 3, 0] rfl ?_
            exact LP26 4294967296 0 w16 h17 o18 (by omega) (by omega)
          · have c23' := i_nle c23
            refine r_aload_n 0 C dX11_keep_27 rfl ?_
            refine gfX11_104 143 C (kS sM h17 kc_114) (xS sM h17 xc_114_56) dX11_keep_28 ?_
            refine r_iload_n 2 C dX11_keep_31 rfl ?_
            refine r_iload_n 3 C dX11_keep_32 rfl ?_
            refine r_iadd C dX11_keep_33 (fun v96 e97 => ?_)
            have v96' := iadd_ok e97 (by omega) (by omega)
            refine r_aload_n 0 C dX11_keep_34 rfl ?_
            refine gfX11_7 115 C (kS sM h17 kc_114) (xS sM h17 xc_114_2) dX11_keep_35 ?_
            refine r_iload_n 3 C dX11_keep_38 rfl ?_
            refine r_iald C (kS sM h17 kc_115) (vin (by omega) (by omega)) dX11_keep_39 ?_
            generalize (wI w16 115 (u13).toNatClampNeg) = v98
            refine r_iast C (kS sM h17 kc_143) (vin (by omega) (by omega)) dX11_keep_40 (fun w99 e100 => ?_)
            have h101 := Ch.putS h17 e100 (by decide)
            have k103 := i_rng v98
            have k104 := i_rng v98
            have o102 : OkM w99 := ⟨Inv.putR o18.1 e100 0 41 (by omega) (by omega) (-2147483648) 2147483647 (by omega) (by decide), Rel.putS o18.2 e100 (by decide)⟩
            obtain ⟨i105, e106⟩ : ∃ z : Int32, u13 + Int32.ofInt 1 = z := ⟨_, rfl⟩
            have i105' := iinc_ok e106 (by decide) (by omega) (by omega)
            refine r_iinc [(3, .int i105), (0, .ref (gz (xG x) + 114)), (1, .int 0), (2, .int u12)] 3 C dX11_keep_41 rfl e106 (by decide) rfl ?_
            refine r_goto 21 C dX11_keep_44 (by decide) ?_
            refine r_lv [1, 2, 3, 0] rfl ?_
            exact ih22 u12 i105 w99 h101 o102 (by omega) (by omega) (by omega)
      refine r_bipush (v := 70) C dX11_keep_14 (by decide) ?_
      refine r_iload_n 1 C dX11_keep_16 rfl ?_
      refine r_imul C dX11_keep_17 (fun v9 e10 => ?_)
      have k11 : (70 : Int32).toInt = 70 := by omega
      have v9' := imul_ok e10 (by rw [k11]; omega) (by rw [k11]; omega)
      rw [k11] at v9'
      refine r_istore_n [(2, .int v9), (0, .ref (gz (xG x) + 114)), (1, .int 0)] C dX11_keep_18 (by decide) rfl ?_
      refine r_iconst (v := 0) C dX11_keep_19 (by decide) ?_
      refine r_istore_n [(3, .int 0), (2, .int v9), (0, .ref (gz (xG x) + 114)), (1, .int 0)] C dX11_keep_20 (by decide) rfl ?_
      refine r_lv [2, 3, 1, 0] rfl ?_
      exact LP14 4294967296 v9 0 w h0 o0 (by omega) (by omega) (by omega)
    · obtain rfl : a1 = 1 := i_of (by omega)
      have LP112 : ∀ (f113 : Nat) (u110 : Int32) (u111 : Int32) (w114 : Wv), Ch [143, 144] [] w w114 → OkM w114 → (70 ≤ u110.toInt ∧ u110.toInt ≤ 70) → (0 ≤ u111.toInt ∧ u111.toInt ≤ 2147483647) → 2147483647 - u111.toInt < f113 → V x 0 0 w114 21 [(0, .ref (gz (xG x) + 114)), (1, .int 1), (2, .int u110), (3, .int u111)] [] := by
        intro f113
        induction f113 with
        | zero => intro u110 u111 w114 h115 o116 z117 z118 z119; exfalso; omega
        | succ f113 ih120 =>
          intro u110 u111 w114 h115 o116 z117 z118 z119
          have LP124 : ∀ (f125 : Nat) (u123 : Int32) (w126 : Wv), Ch [143, 144] [] w w126 → OkM w126 → (0 ≤ u123.toInt ∧ u123.toInt ≤ 2147483647) → 2147483647 - u123.toInt < f125 → V x 0 0 w126 49 [(0, .ref (gz (xG x) + 114)), (1, .int 1), (2, .int u110), (3, .int u123)] [] := by
            intro f125
            induction f125 with
            | zero => intro u123 w126 h127 o128 z129 z130; exfalso; omega
            | succ f125 ih131 =>
              intro u123 w126 h127 o128 z129 z130
              refine r_iload_n 3 C dX11_keep_49 rfl ?_
              refine r_bipush (v := 6) C dX11_keep_50 (by decide) ?_
              have k133 := i_rng u123
              refine r_icmp_ge 112 C dX11_keep_52 (by decide) (fun c132 => ?_) (fun c132 => ?_)
              · have c132' := i_le c132
                refine r_aload_n 0 C dX11_keep_112 rfl ?_
                refine gfX11_104 143 C (kS sM h127 kc_114) (xS sM h127 xc_114_56) dX11_keep_113 ?_
                refine r_iload_n 2 C dX11_keep_116 rfl ?_
                refine r_bipush (v := 60) C dX11_keep_117 (by decide) ?_
                refine r_iadd C dX11_keep_119 (fun v134 e135 => ?_)
                have v134' := iadd_ok e135 (by omega) (by omega)
                refine r_aload_n 0 C dX11_keep_120 rfl ?_
                refine gfX11_259 (v := (wI w 114 13)) C (kS sM h127 kc_114) (h127.I (by decide) (by decide) rfl) dX11_keep_121 ?_
                have b136 := Inv.get o0.1 rt_114_13 (j := 13) (by decide) (by decide)
                refine r_iast C (kS sM h127 kc_143) (vin (by omega) (by omega)) dX11_keep_124 (fun w137 e138 => ?_)
                have h139 := Ch.putS h127 e138 (by decide)
                have o140 : OkM w137 := ⟨Inv.putR o128.1 e138 130 130 (by omega) (by omega) 0 41 (by omega) (by decide), Rel.putS o128.2 e138 (by decide)⟩
                refine r_aload_n 0 C dX11_keep_125 rfl ?_
                refine gfX11_104 143 C (kS sM h139 kc_114) (xS sM h139 xc_114_56) dX11_keep_126 ?_
                refine r_iload_n 2 C dX11_keep_129 rfl ?_
                refine r_bipush (v := 61) C dX11_keep_130 (by decide) ?_
                refine r_iadd C dX11_keep_132 (fun v141 e142 => ?_)
                have v141' := iadd_ok e142 (by omega) (by omega)
                refine r_aload_n 0 C dX11_keep_133 rfl ?_
                refine gfX11_262 (v := (wI w 114 17)) C (kS sM h139 kc_114) (g_nn e138 (by decide) (h127.I (by decide) (by decide) rfl)) dX11_keep_134 ?_
                refine r_iast C (kS sM h139 kc_143) (vin (by omega) (by omega)) dX11_keep_137 (fun w143 e144 => ?_)
                have h145 := Ch.putS h139 e144 (by decide)
                have k147 := i_rng (wI w 114 17)
                have k148 := i_rng (wI w 114 17)
                have o146 : OkM w143 := ⟨Inv.putR o140.1 e144 131 131 (by omega) (by omega) (-2147483648) 2147483647 (by omega) (by decide), Rel.putS o140.2 e144 (by decide)⟩
                refine r_aload_n 0 C dX11_keep_138 rfl ?_
                refine gfX11_104 143 C (kS sM h145 kc_114) (xS sM h145 xc_114_56) dX11_keep_139 ?_
                refine r_iload_n 2 C dX11_keep_142 rfl ?_
                refine r_bipush (v := 62) C dX11_keep_143 (by decide) ?_
                refine r_iadd C dX11_keep_145 (fun v149 e150 => ?_)
                have v149' := iadd_ok e150 (by omega) (by omega)
                refine r_aload_n 0 C dX11_keep_146 rfl ?_
                refine gfX11_334 (v := (wI w 114 18)) C (kS sM h145 kc_114) (g_nn e144 (by decide) (g_nn e138 (by decide) (h127.I (by decide) (by decide) rfl))) dX11_keep_147 ?_
                have b151 := Inv.get o0.1 rt_114_18 (j := 18) (by decide) (by decide)
                refine r_iast C (kS sM h145 kc_143) (vin (by omega) (by omega)) dX11_keep_150 (fun w152 e153 => ?_)
                have h154 := Ch.putS h145 e153 (by decide)
                have k156 := i_rng (wI w 114 18)
                have o155 : OkM w152 := ⟨Inv.putR o146.1 e153 132 132 (by omega) (by omega) 0 2147483647 (by omega) (by decide), Rel.putS o146.2 e153 (by decide)⟩
                refine r_aload_n 0 C dX11_keep_151 rfl ?_
                refine gfX11_107 144 C (kS sM h154 kc_114) (xS sM h154 xc_114_57) dX11_keep_152 ?_
                refine r_iload_n 1 C dX11_keep_155 rfl ?_
                refine r_iconst (v := 1) C dX11_keep_156 (by decide) ?_
                refine r_zast C (kS sM h154 kc_144) (vin (by omega) (by omega)) (nar_z (z_of (by omega))) dX11_keep_157 (fun w157 e158 => ?_)
                have h159 := Ch.putS h154 e158 (by decide)
                have o160 : OkM w157 := ⟨Inv.put0 o155.1 e158 (by decide), Rel.putS o155.2 e158 (by decide)⟩
                refine r_iconst (v := 1) C dX11_keep_158 (by decide) ?_
                exact hret _ _ _ _ dX11_keep_159 rfl ⟨h159, o160, by omega⟩
              · have c132' := i_nle c132
                refine r_aload_n 0 C dX11_keep_55 rfl ?_
                refine gfX11_104 143 C (kS sM h127 kc_114) (xS sM h127 xc_114_56) dX11_keep_56 ?_
                refine r_iload_n 2 C dX11_keep_59 rfl ?_
                refine r_bipush (v := 42) C dX11_keep_60 (by decide) ?_
                refine r_iadd C dX11_keep_62 (fun v161 e162 => ?_)
                have v161' := iadd_ok e162 (by omega) (by omega)
                refine r_iload_n 3 C dX11_keep_63 rfl ?_
                refine r_iadd C dX11_keep_64 (fun v163 e164 => ?_)
                have v163' := iadd_ok e164 (by omega) (by omega)
                refine r_aload_n 0 C dX11_keep_65 rfl ?_
                refine gfX11_38 122 C (kS sM h127 kc_114) (xS sM h127 xc_114_14) dX11_keep_66 ?_
                refine r_iload_n 3 C dX11_keep_69 rfl ?_
                refine r_iald C (kS sM h127 kc_122) (vin (by omega) (by omega)) dX11_keep_70 ?_
                have b166 := Inv.geta o128.1 rt_122_0 (i := u123) (by omega) (by omega) (by omega)
                generalize (wI w126 122 (u123).toNatClampNeg) = v165 at b166 ⊢
                refine r_iast C (kS sM h127 kc_143) (vin (by omega) (by omega)) dX11_keep_71 (fun w167 e168 => ?_)
                have h169 := Ch.putS h127 e168 (by decide)
                have o170 : OkM w167 := ⟨Inv.putR o128.1 e168 112 117 (by omega) (by omega) 0 41 (by omega) (by decide), Rel.putS o128.2 e168 (by decide)⟩
                refine r_aload_n 0 C dX11_keep_72 rfl ?_
                refine gfX11_104 143 C (kS sM h169 kc_114) (xS sM h169 xc_114_56) dX11_keep_73 ?_
                refine r_iload_n 2 C dX11_keep_76 rfl ?_
                refine r_bipush (v := 48) C dX11_keep_77 (by decide) ?_
                refine r_iadd C dX11_keep_79 (fun v171 e172 => ?_)
                have v171' := iadd_ok e172 (by omega) (by omega)
                refine r_iload_n 3 C dX11_keep_80 rfl ?_
                refine r_iadd C dX11_keep_81 (fun v173 e174 => ?_)
                have v173' := iadd_ok e174 (by omega) (by omega)
                refine r_aload_n 0 C dX11_keep_82 rfl ?_
                refine gfX11_41 123 C (kS sM h169 kc_114) (xS sM h169 xc_114_15) dX11_keep_83 ?_
                refine r_iload_n 3 C dX11_keep_86 rfl ?_
                refine r_iald C (kS sM h169 kc_123) (vin (by omega) (by omega)) dX11_keep_87 ?_
                have b176 := Inv.geta o170.1 rt_123_0 (i := u123) (by omega) (by omega) (by omega)
                generalize (wI w167 123 (u123).toNatClampNeg) = v175 at b176 ⊢
                refine r_iast C (kS sM h169 kc_143) (vin (by omega) (by omega)) dX11_keep_88 (fun w177 e178 => ?_)
                have h179 := Ch.putS h169 e178 (by decide)
                have o180 : OkM w177 := ⟨Inv.putR o170.1 e178 118 123 (by omega) (by omega) (-1) 41 (by omega) (by decide), Rel.putS o170.2 e178 (by decide)⟩
                refine r_aload_n 0 C dX11_keep_89 rfl ?_
                refine gfX11_104 143 C (kS sM h179 kc_114) (xS sM h179 xc_114_56) dX11_keep_90 ?_
                refine r_iload_n 2 C dX11_keep_93 rfl ?_
                refine r_bipush (v := 54) C dX11_keep_94 (by decide) ?_
                refine r_iadd C dX11_keep_96 (fun v181 e182 => ?_)
                have v181' := iadd_ok e182 (by omega) (by omega)
                refine r_iload_n 3 C dX11_keep_97 rfl ?_
                refine r_iadd C dX11_keep_98 (fun v183 e184 => ?_)
                have v183' := iadd_ok e184 (by omega) (by omega)
                refine r_aload_n 0 C dX11_keep_99 rfl ?_
                refine gfX11_44 124 C (kS sM h179 kc_114) (xS sM h179 xc_114_16) dX11_keep_100 ?_
                refine r_iload_n 3 C dX11_keep_103 rfl ?_
                refine r_iald C (kS sM h179 kc_124) (vin (by omega) (by omega)) dX11_keep_104 ?_
                generalize (wI w177 124 (u123).toNatClampNeg) = v185
                refine r_iast C (kS sM h179 kc_143) (vin (by omega) (by omega)) dX11_keep_105 (fun w186 e187 => ?_)
                have h188 := Ch.putS h179 e187 (by decide)
                have k190 := i_rng v185
                have k191 := i_rng v185
                have o189 : OkM w186 := ⟨Inv.putR o180.1 e187 124 129 (by omega) (by omega) (-2147483648) 2147483647 (by omega) (by decide), Rel.putS o180.2 e187 (by decide)⟩
                obtain ⟨i192, e193⟩ : ∃ z : Int32, u123 + Int32.ofInt 1 = z := ⟨_, rfl⟩
                have i192' := iinc_ok e193 (by decide) (by omega) (by omega)
                refine r_iinc [(3, .int i192), (0, .ref (gz (xG x) + 114)), (1, .int 1), (2, .int u110)] 3 C dX11_keep_106 rfl e193 (by decide) rfl ?_
                refine r_goto 49 C dX11_keep_109 (by decide) ?_
                refine r_lv [1, 2, 3, 0] rfl ?_
                exact ih131 i192 w186 h188 o189 (by omega) (by omega)
          refine r_iload_n 3 C dX11_keep_21 rfl ?_
          refine r_bipush (v := 42) C dX11_keep_22 (by decide) ?_
          have k122 := i_rng u111
          refine r_icmp_ge 47 C dX11_keep_24 (by decide) (fun c121 => ?_) (fun c121 => ?_)
          · have c121' := i_le c121
            refine r_iconst (v := 0) C dX11_keep_47 (by decide) ?_
            refine r_istore_n [(3, .int 0), (0, .ref (gz (xG x) + 114)), (1, .int 1), (2, .int u110)] C dX11_keep_48 (by decide) rfl ?_
            refine r_lv [1, 2, 3, 0] rfl ?_
            exact LP124 4294967296 0 w114 h115 o116 (by omega) (by omega)
          · have c121' := i_nle c121
            refine r_aload_n 0 C dX11_keep_27 rfl ?_
            refine gfX11_104 143 C (kS sM h115 kc_114) (xS sM h115 xc_114_56) dX11_keep_28 ?_
            refine r_iload_n 2 C dX11_keep_31 rfl ?_
            refine r_iload_n 3 C dX11_keep_32 rfl ?_
            refine r_iadd C dX11_keep_33 (fun v194 e195 => ?_)
            have v194' := iadd_ok e195 (by omega) (by omega)
            refine r_aload_n 0 C dX11_keep_34 rfl ?_
            refine gfX11_7 115 C (kS sM h115 kc_114) (xS sM h115 xc_114_2) dX11_keep_35 ?_
            refine r_iload_n 3 C dX11_keep_38 rfl ?_
            refine r_iald C (kS sM h115 kc_115) (vin (by omega) (by omega)) dX11_keep_39 ?_
            generalize (wI w114 115 (u111).toNatClampNeg) = v196
            refine r_iast C (kS sM h115 kc_143) (vin (by omega) (by omega)) dX11_keep_40 (fun w197 e198 => ?_)
            have h199 := Ch.putS h115 e198 (by decide)
            have k201 := i_rng v196
            have k202 := i_rng v196
            have o200 : OkM w197 := ⟨Inv.putR o116.1 e198 70 111 (by omega) (by omega) (-2147483648) 2147483647 (by omega) (by decide), Rel.putS o116.2 e198 (by decide)⟩
            obtain ⟨i203, e204⟩ : ∃ z : Int32, u111 + Int32.ofInt 1 = z := ⟨_, rfl⟩
            have i203' := iinc_ok e204 (by decide) (by omega) (by omega)
            refine r_iinc [(3, .int i203), (0, .ref (gz (xG x) + 114)), (1, .int 1), (2, .int u110)] 3 C dX11_keep_41 rfl e204 (by decide) rfl ?_
            refine r_goto 21 C dX11_keep_44 (by decide) ?_
            refine r_lv [1, 2, 3, 0] rfl ?_
            exact ih120 u110 i203 w197 h199 o200 (by omega) (by omega) (by omega)
      refine r_bipush (v := 70) C dX11_keep_14 (by decide) ?_
      refine r_iload_n 1 C dX11_keep_16 rfl ?_
      refine r_imul C dX11_keep_17 (fun v107 e108 => ?_)
      have k109 : (70 : Int32).toInt = 70 := by omega
      have v107' := imul_ok e108 (by rw [k109]; omega) (by rw [k109]; omega)
      rw [k109] at v107'
      refine r_istore_n [(2, .int v107), (0, .ref (gz (xG x) + 114)), (1, .int 1)] C dX11_keep_18 (by decide) rfl ?_
      refine r_iconst (v := 0) C dX11_keep_19 (by decide) ?_
      refine r_istore_n [(3, .int 0), (2, .int v107), (0, .ref (gz (xG x) + 114)), (1, .int 1)] C dX11_keep_20 (by decide) rfl ?_
      refine r_lv [2, 3, 1, 0] rfl ?_
      exact LP112 4294967296 v107 0 w h0 o0 (by omega) (by omega) (by omega)
  · have c7' := i_eq c7
    refine r_ldcw C mw6_112 dX11_keep_10 ?_
    exact hret _ _ _ _ dX11_keep_13 rfl ⟨h0, o0, by omega⟩
set_option maxHeartbeats 4000000 in
set_option maxRecDepth 100000 in
theorem ctX11_goBack (l : Launch) (G : Gt) (w : Wv) (sM : Str KM XM w) (o0 : OkM w) (a1 : Int32) : CtI l G yX11_goBack cX11_goBack 4 .int ({ frames := 5, cells := 0, slots := 0, locals := 117 } : Room) [.ref (gz G + 114), .int a1] w (fun r w' => Ch [115, 122, 123, 124, 134] [(114, 13), (114, 17), (114, 18)] w w' ∧ OkM w') := by
  refine enterI (by decide) (Nat.le_of_ble_eq_true rfl) ?_
  intro x el eG C hret
  subst el; subst eG
  show V x 0 0 w 0 [(0, .ref (gz (xG x) + 114)), (1, .int a1)] []
  have h0 : Ch [115, 122, 123, 124, 134] [(114, 13), (114, 17), (114, 18)] w w := Ch.rf
  have qm1000000003 : ((-1000000003) : Int32).toInt = (-1000000003) := by decide
  have qm1000000001 : ((-1000000001) : Int32).toInt = (-1000000001) := by decide
  have q0 : (0 : Int32).toInt = 0 := by decide
  have q1 : (1 : Int32).toInt = 1 := by decide
  have q6 : (6 : Int32).toInt = 6 := by decide
  have q42 : (42 : Int32).toInt = 42 := by decide
  have q48 : (48 : Int32).toInt = 48 := by decide
  have q54 : (54 : Int32).toInt = 54 := by decide
  have q60 : (60 : Int32).toInt = 60 := by decide
  have q61 : (61 : Int32).toInt = 61 := by decide
  have q62 : (62 : Int32).toInt = 62 := by decide
  have q70 : (70 : Int32).toInt = 70 := by decide
  have ql0 : (0 : Int64).toInt = 0 := by decide
  have ql1 : (1 : Int64).toInt = 1 := by decide
  obtain ⟨rA, rB, rC, rD⟩ := (o0.2 : Rel w)
  refine r_iload_n 1 C dX11_goBack_0 rfl ?_
  refine r_i2l C dX11_goBack_1 (fun v1 e2 => ?_)
  have v1' := i2l_ok e2
  refine r_lconst (v := 0) C dX11_goBack_2 (by decide) ?_
  refine r_lconst (v := 1) C dX11_goBack_3 (by decide) ?_
  refine callSI C cwX11_114_S (ctX11_in _ _ w v1 0 1 ) (by decide) rfl rfl (Nat.le_of_ble_eq_true rfl) (by decide) dX11_goBack_4 (fun r5 w4 y3 => ?_)
  obtain ⟨y3, g6⟩ := y3
  obtain rfl := y3.symm
  show V x 0 0 w 7 [(0, .ref (gz (xG x) + 114)), (1, .int a1)] [.int r5]
  refine r_if_ne 14 C dX11_goBack_7 (by decide) (fun c7 => ?_) (fun c7 => ?_)
  · have c7' := i_ne c7
    rcases (show a1.toInt = 0 ∨ a1.toInt = 1 by omega) with c8 | c8
    · obtain rfl : a1 = 0 := i_of (by omega)
      have LP16 : ∀ (f17 : Nat) (u14 : Int32) (u15 : Int32) (w18 : Wv), Ch [115, 122, 123, 124, 134] [(114, 13), (114, 17), (114, 18)] w w18 → OkM w18 → (0 ≤ u14.toInt ∧ u14.toInt ≤ 0) → (0 ≤ u15.toInt ∧ u15.toInt ≤ 2147483647) → 2147483647 - u15.toInt < f17 → V x 0 0 w18 34 [(0, .ref (gz (xG x) + 114)), (1, .int 0), (2, .int u14), (3, .int u15)] [] := by
        intro f17
        induction f17 with
        | zero => intro u14 u15 w18 h19 o20 z21 z22 z23; exfalso; omega
        | succ f17 ih24 =>
          intro u14 u15 w18 h19 o20 z21 z22 z23
          have LP28 : ∀ (f29 : Nat) (u27 : Int32) (w30 : Wv), Ch [115, 122, 123, 124, 134] [(114, 13), (114, 17), (114, 18)] w w30 → OkM w30 → (0 ≤ u27.toInt ∧ u27.toInt ≤ 2147483647) → 2147483647 - u27.toInt < f29 → V x 0 0 w30 62 [(0, .ref (gz (xG x) + 114)), (1, .int 0), (2, .int u14), (3, .int u27)] [] := by
            intro f29
            induction f29 with
            | zero => intro u27 w30 h31 o32 z33 z34; exfalso; omega
            | succ f29 ih35 =>
              intro u27 w30 h31 o32 z33 z34
              refine r_iload_n 3 C dX11_goBack_62 rfl ?_
              refine r_bipush (v := 6) C dX11_goBack_63 (by decide) ?_
              have k37 := i_rng u27
              refine r_icmp_ge 125 C dX11_goBack_65 (by decide) (fun c36 => ?_) (fun c36 => ?_)
              · have c36' := i_le c36
                refine r_aload_n 0 C dX11_goBack_125 rfl ?_
                refine r_aload_n 0 C dX11_goBack_126 rfl ?_
                refine gfX11_104 143 C (kS sM h31 kc_114) (xS sM h31 xc_114_56) dX11_goBack_127 ?_
                refine r_iload_n 2 C dX11_goBack_130 rfl ?_
                refine r_bipush (v := 60) C dX11_goBack_131 (by decide) ?_
                refine r_iadd C dX11_goBack_133 (fun v38 e39 => ?_)
                have v38' := iadd_ok e39 (by omega) (by omega)
                refine r_iald C (kS sM h31 kc_143) (vin (by omega) (by omega)) dX11_goBack_134 ?_
                have b41 := Inv.geta o32.1 rt_143_60 (i := v38) (by omega) (by omega) (by omega)
                generalize (wI w30 143 (v38).toNatClampNeg) = v40 at b41 ⊢
                refine pfX11_259 C (kS sM h31 kc_114) dX11_goBack_135 (fun w42 e43 => ?_)
                have h44 := Ch.putF h31 e43 (by decide)
                have o45 : OkM w42 := ⟨Inv.put o32.1 e43 0 41 (by omega) (by decide), Rel.putF o32.2 e43 (by decide)⟩
                refine r_aload_n 0 C dX11_goBack_138 rfl ?_
                refine r_aload_n 0 C dX11_goBack_139 rfl ?_
                refine gfX11_104 143 C (kS sM h44 kc_114) (xS sM h44 xc_114_56) dX11_goBack_140 ?_
                refine r_iload_n 2 C dX11_goBack_143 rfl ?_
                refine r_bipush (v := 61) C dX11_goBack_144 (by decide) ?_
                refine r_iadd C dX11_goBack_146 (fun v46 e47 => ?_)
                have v46' := iadd_ok e47 (by omega) (by omega)
                refine r_iald C (kS sM h44 kc_143) (vin (by omega) (by omega)) dX11_goBack_147 ?_
                generalize (wI w42 143 (v46).toNatClampNeg) = v48
                refine pfX11_262 C (kS sM h44 kc_114) dX11_goBack_148 (fun w49 e50 => ?_)
                have h51 := Ch.putF h44 e50 (by decide)
                have k53 := i_rng v48
                have o52 : OkM w49 := ⟨Inv.putk o45.1 e50 (by decide), Rel.putF o45.2 e50 (by decide)⟩
                refine r_aload_n 0 C dX11_goBack_151 rfl ?_
                refine r_aload_n 0 C dX11_goBack_152 rfl ?_
                refine gfX11_104 143 C (kS sM h51 kc_114) (xS sM h51 xc_114_56) dX11_goBack_153 ?_
                refine r_iload_n 2 C dX11_goBack_156 rfl ?_
                refine r_bipush (v := 62) C dX11_goBack_157 (by decide) ?_
                refine r_iadd C dX11_goBack_159 (fun v54 e55 => ?_)
                have v54' := iadd_ok e55 (by omega) (by omega)
                refine r_iald C (kS sM h51 kc_143) (vin (by omega) (by omega)) dX11_goBack_160 ?_
                have b57 := Inv.geta o52.1 rt_143_62 (i := v54) (by omega) (by omega) (by omega)
                generalize (wI w49 143 (v54).toNatClampNeg) = v56 at b57 ⊢
                refine pfX11_334 C (kS sM h51 kc_114) dX11_goBack_161 (fun w58 e59 => ?_)
                have h60 := Ch.putF h51 e59 (by decide)
                have k62 := i_rng v56
                have o61 : OkM w58 := ⟨Inv.put o52.1 e59 0 2147483647 (by omega) (by decide), Rel.putF o52.2 e59 (by decide)⟩
                refine r_aload_n 0 C dX11_goBack_164 rfl ?_
                have b63 := Inv.get o0.1 rt_114_0 (j := 0) (by decide) (by decide)
                have b64 := Inv.get o0.1 rt_114_1 (j := 1) (by decide) (by decide)
                refine callVV C cwX11_271_V (ctX11_findFar _ _ w58 (sS sM h60) o61 (wI w 114 0) (g_nk e59 (by decide) (g_nk e50 (by decide) (g_nk e43 (by decide) (h31.I (by decide) (by decide) rfl)))) (by omega) (wI w 114 1) (g_nk e59 (by decide) (g_nk e50 (by decide) (g_nk e43 (by decide) (h31.I (by decide) (by decide) rfl)))) (by omega)  ) (by decide) (kS sM h60 kc_114) rfl rfl rfl (Nat.le_of_ble_eq_true rfl) (by decide) dX11_goBack_165 (fun w66 y65 => ?_)
                show V x 0 0 w66 168 [(0, .ref (gz (xG x) + 114)), (1, .int 0), (2, .int u14), (3, .int u27)] []
                obtain ⟨h68, o69⟩ := y65
                have h70 := Ch.tr h60 h68 (by decide) (by decide)
                refine r_iconst (v := 1) C dX11_goBack_168 (by decide) ?_
                exact hret _ _ _ _ dX11_goBack_169 rfl ⟨h70, o69⟩
              · have c36' := i_nle c36
                refine r_aload_n 0 C dX11_goBack_68 rfl ?_
                refine gfX11_38 122 C (kS sM h31 kc_114) (xS sM h31 xc_114_14) dX11_goBack_69 ?_
                refine r_iload_n 3 C dX11_goBack_72 rfl ?_
                refine r_aload_n 0 C dX11_goBack_73 rfl ?_
                refine gfX11_104 143 C (kS sM h31 kc_114) (xS sM h31 xc_114_56) dX11_goBack_74 ?_
                refine r_iload_n 2 C dX11_goBack_77 rfl ?_
                refine r_bipush (v := 42) C dX11_goBack_78 (by decide) ?_
                refine r_iadd C dX11_goBack_80 (fun v71 e72 => ?_)
                have v71' := iadd_ok e72 (by omega) (by omega)
                refine r_iload_n 3 C dX11_goBack_81 rfl ?_
                refine r_iadd C dX11_goBack_82 (fun v73 e74 => ?_)
                have v73' := iadd_ok e74 (by omega) (by omega)
                refine r_iald C (kS sM h31 kc_143) (vin (by omega) (by omega)) dX11_goBack_83 ?_
                have b76 := Inv.geta o32.1 rt_143_42 (i := v73) (by omega) (by omega) (by omega)
                generalize (wI w30 143 (v73).toNatClampNeg) = v75 at b76 ⊢
                refine r_iast C (kS sM h31 kc_122) (vin (by omega) (by omega)) dX11_goBack_84 (fun w77 e78 => ?_)
                have h79 := Ch.putS h31 e78 (by decide)
                have o80 : OkM w77 := ⟨Inv.putR o32.1 e78 0 5 (by omega) (by omega) 0 41 (by omega) (by decide), Rel.putS o32.2 e78 (by decide)⟩
                refine r_aload_n 0 C dX11_goBack_85 rfl ?_
                refine gfX11_41 123 C (kS sM h79 kc_114) (xS sM h79 xc_114_15) dX11_goBack_86 ?_
                refine r_iload_n 3 C dX11_goBack_89 rfl ?_
                refine r_aload_n 0 C dX11_goBack_90 rfl ?_
                refine gfX11_104 143 C (kS sM h79 kc_114) (xS sM h79 xc_114_56) dX11_goBack_91 ?_
                refine r_iload_n 2 C dX11_goBack_94 rfl ?_
                refine r_bipush (v := 48) C dX11_goBack_95 (by decide) ?_
                refine r_iadd C dX11_goBack_97 (fun v81 e82 => ?_)
                have v81' := iadd_ok e82 (by omega) (by omega)
                refine r_iload_n 3 C dX11_goBack_98 rfl ?_
                refine r_iadd C dX11_goBack_99 (fun v83 e84 => ?_)
                have v83' := iadd_ok e84 (by omega) (by omega)
                refine r_iald C (kS sM h79 kc_143) (vin (by omega) (by omega)) dX11_goBack_100 ?_
                have b86 := Inv.geta o80.1 rt_143_48 (i := v83) (by omega) (by omega) (by omega)
                generalize (wI w77 143 (v83).toNatClampNeg) = v85 at b86 ⊢
                refine r_iast C (kS sM h79 kc_123) (vin (by omega) (by omega)) dX11_goBack_101 (fun w87 e88 => ?_)
                have h89 := Ch.putS h79 e88 (by decide)
                have o90 : OkM w87 := ⟨Inv.putR o80.1 e88 0 5 (by omega) (by omega) (-1) 41 (by omega) (by decide), Rel.putS o80.2 e88 (by decide)⟩
                refine r_aload_n 0 C dX11_goBack_102 rfl ?_
                refine gfX11_44 124 C (kS sM h89 kc_114) (xS sM h89 xc_114_16) dX11_goBack_103 ?_
                refine r_iload_n 3 C dX11_goBack_106 rfl ?_
                refine r_aload_n 0 C dX11_goBack_107 rfl ?_
                refine gfX11_104 143 C (kS sM h89 kc_114) (xS sM h89 xc_114_56) dX11_goBack_108 ?_
                refine r_iload_n 2 C dX11_goBack_111 rfl ?_
                refine r_bipush (v := 54) C dX11_goBack_112 (by decide) ?_
                refine r_iadd C dX11_goBack_114 (fun v91 e92 => ?_)
                have v91' := iadd_ok e92 (by omega) (by omega)
                refine r_iload_n 3 C dX11_goBack_115 rfl ?_
                refine r_iadd C dX11_goBack_116 (fun v93 e94 => ?_)
                have v93' := iadd_ok e94 (by omega) (by omega)
                refine r_iald C (kS sM h89 kc_143) (vin (by omega) (by omega)) dX11_goBack_117 ?_
                generalize (wI w87 143 (v93).toNatClampNeg) = v95
                refine r_iast C (kS sM h89 kc_124) (vin (by omega) (by omega)) dX11_goBack_118 (fun w96 e97 => ?_)
                have h98 := Ch.putS h89 e97 (by decide)
                have o99 : OkM w96 := ⟨Inv.put0 o90.1 e97 (by decide), Rel.putS o90.2 e97 (by decide)⟩
                obtain ⟨i100, e101⟩ : ∃ z : Int32, u27 + Int32.ofInt 1 = z := ⟨_, rfl⟩
                have i100' := iinc_ok e101 (by decide) (by omega) (by omega)
                refine r_iinc [(3, .int i100), (0, .ref (gz (xG x) + 114)), (1, .int 0), (2, .int u14)] 3 C dX11_goBack_119 rfl e101 (by decide) rfl ?_
                refine r_goto 62 C dX11_goBack_122 (by decide) ?_
                refine r_lv [1, 2, 3, 0] rfl ?_
                exact ih35 i100 w96 h98 o99 (by omega) (by omega)
          refine r_iload_n 3 C dX11_goBack_34 rfl ?_
          refine r_bipush (v := 42) C dX11_goBack_35 (by decide) ?_
          have k26 := i_rng u15
          refine r_icmp_ge 60 C dX11_goBack_37 (by decide) (fun c25 => ?_) (fun c25 => ?_)
          · have c25' := i_le c25
            refine r_iconst (v := 0) C dX11_goBack_60 (by decide) ?_
            refine r_istore_n [(3, .int 0), (0, .ref (gz (xG x) + 114)), (1, .int 0), (2, .int u14)] C dX11_goBack_61 (by decide) rfl ?_
            refine r_lv [1, 2, 3, 0] rfl ?_
            exact LP28 4294967296 0 w18 h19 o20 (by omega) (by omega)
          · have c25' := i_nle c25
            refine r_aload_n 0 C dX11_goBack_40 rfl ?_
            refine gfX11_7 115 C (kS sM h19 kc_114) (xS sM h19 xc_114_2) dX11_goBack_41 ?_
            refine r_iload_n 3 C dX11_goBack_44 rfl ?_
            refine r_aload_n 0 C dX11_goBack_45 rfl ?_
            refine gfX11_104 143 C (kS sM h19 kc_114) (xS sM h19 xc_114_56) dX11_goBack_46 ?_
            refine r_iload_n 2 C dX11_goBack_49 rfl ?_
            refine r_iload_n 3 C dX11_goBack_50 rfl ?_
            refine r_iadd C dX11_goBack_51 (fun v102 e103 => ?_)
            have v102' := iadd_ok e103 (by omega) (by omega)
            refine r_iald C (kS sM h19 kc_143) (vin (by omega) (by omega)) dX11_goBack_52 ?_
            generalize (wI w18 143 (v102).toNatClampNeg) = v104
            refine r_iast C (kS sM h19 kc_115) (vin (by omega) (by omega)) dX11_goBack_53 (fun w105 e106 => ?_)
            have h107 := Ch.putS h19 e106 (by decide)
            have o108 : OkM w105 := ⟨Inv.put0 o20.1 e106 (by decide), Rel.putS o20.2 e106 (by decide)⟩
            obtain ⟨i109, e110⟩ : ∃ z : Int32, u15 + Int32.ofInt 1 = z := ⟨_, rfl⟩
            have i109' := iinc_ok e110 (by decide) (by omega) (by omega)
            refine r_iinc [(3, .int i109), (0, .ref (gz (xG x) + 114)), (1, .int 0), (2, .int u14)] 3 C dX11_goBack_54 rfl e110 (by decide) rfl ?_
            refine r_goto 34 C dX11_goBack_57 (by decide) ?_
            refine r_lv [1, 2, 3, 0] rfl ?_
            exact ih24 u14 i109 w105 h107 o108 (by omega) (by omega) (by omega)
      refine r_aload_n 0 C dX11_goBack_14 rfl ?_
      refine gfX11_107 144 C (kS sM h0 kc_114) (xS sM h0 xc_114_57) dX11_goBack_15 ?_
      refine r_iload_n 1 C dX11_goBack_18 rfl ?_
      refine r_zald C (kS sM h0 kc_144) (vin (by omega) (by omega)) dX11_goBack_19 ?_
      generalize (wI w 144 (0 : Int32).toNatClampNeg) = v9
      refine r_if_ne 27 C dX11_goBack_20 (by decide) (fun c10 => ?_) (fun c10 => ?_)
      · have c10' := i_ne c10
        refine r_bipush (v := 70) C dX11_goBack_27 (by decide) ?_
        refine r_iload_n 1 C dX11_goBack_29 rfl ?_
        refine r_imul C dX11_goBack_30 (fun v11 e12 => ?_)
        have k13 : (70 : Int32).toInt = 70 := by omega
        have v11' := imul_ok e12 (by rw [k13]; omega) (by rw [k13]; omega)
        rw [k13] at v11'
        refine r_istore_n [(2, .int v11), (0, .ref (gz (xG x) + 114)), (1, .int 0)] C dX11_goBack_31 (by decide) rfl ?_
        refine r_iconst (v := 0) C dX11_goBack_32 (by decide) ?_
        refine r_istore_n [(3, .int 0), (2, .int v11), (0, .ref (gz (xG x) + 114)), (1, .int 0)] C dX11_goBack_33 (by decide) rfl ?_
        refine r_lv [2, 3, 1, 0] rfl ?_
        exact LP16 4294967296 v11 0 w h0 o0 (by omega) (by omega) (by omega)
      · have c10' := i_eq c10
        refine r_ldcw C mw6_189 dX11_goBack_23 ?_
        exact hret _ _ _ _ dX11_goBack_26 rfl ⟨h0, o0⟩
    · obtain rfl : a1 = 1 := i_of (by omega)
      have LP118 : ∀ (f119 : Nat) (u116 : Int32) (u117 : Int32) (w120 : Wv), Ch [115, 122, 123, 124, 134] [(114, 13), (114, 17), (114, 18)] w w120 → OkM w120 → (70 ≤ u116.toInt ∧ u116.toInt ≤ 70) → (0 ≤ u117.toInt ∧ u117.toInt ≤ 2147483647) → 2147483647 - u117.toInt < f119 → V x 0 0 w120 34 [(0, .ref (gz (xG x) + 114)), (1, .int 1), (2, .int u116), (3, .int u117)] [] := by
        intro f119
        induction f119 with
        | zero => intro u116 u117 w120 h121 o122 z123 z124 z125; exfalso; omega
        | succ f119 ih126 =>
          intro u116 u117 w120 h121 o122 z123 z124 z125
          have LP130 : ∀ (f131 : Nat) (u129 : Int32) (w132 : Wv), Ch [115, 122, 123, 124, 134] [(114, 13), (114, 17), (114, 18)] w w132 → OkM w132 → (0 ≤ u129.toInt ∧ u129.toInt ≤ 2147483647) → 2147483647 - u129.toInt < f131 → V x 0 0 w132 62 [(0, .ref (gz (xG x) + 114)), (1, .int 1), (2, .int u116), (3, .int u129)] [] := by
            intro f131
            induction f131 with
            | zero => intro u129 w132 h133 o134 z135 z136; exfalso; omega
            | succ f131 ih137 =>
              intro u129 w132 h133 o134 z135 z136
              refine r_iload_n 3 C dX11_goBack_62 rfl ?_
              refine r_bipush (v := 6) C dX11_goBack_63 (by decide) ?_
              have k139 := i_rng u129
              refine r_icmp_ge 125 C dX11_goBack_65 (by decide) (fun c138 => ?_) (fun c138 => ?_)
              · have c138' := i_le c138
                refine r_aload_n 0 C dX11_goBack_125 rfl ?_
                refine r_aload_n 0 C dX11_goBack_126 rfl ?_
                refine gfX11_104 143 C (kS sM h133 kc_114) (xS sM h133 xc_114_56) dX11_goBack_127 ?_
                refine r_iload_n 2 C dX11_goBack_130 rfl ?_
                refine r_bipush (v := 60) C dX11_goBack_131 (by decide) ?_
                refine r_iadd C dX11_goBack_133 (fun v140 e141 => ?_)
                have v140' := iadd_ok e141 (by omega) (by omega)
                refine r_iald C (kS sM h133 kc_143) (vin (by omega) (by omega)) dX11_goBack_134 ?_
                have b143 := Inv.geta o134.1 rt_143_130 (i := v140) (by omega) (by omega) (by omega)
                generalize (wI w132 143 (v140).toNatClampNeg) = v142 at b143 ⊢
                refine pfX11_259 C (kS sM h133 kc_114) dX11_goBack_135 (fun w144 e145 => ?_)
                have h146 := Ch.putF h133 e145 (by decide)
                have o147 : OkM w144 := ⟨Inv.put o134.1 e145 0 41 (by omega) (by decide), Rel.putF o134.2 e145 (by decide)⟩
                refine r_aload_n 0 C dX11_goBack_138 rfl ?_
                refine r_aload_n 0 C dX11_goBack_139 rfl ?_
                refine gfX11_104 143 C (kS sM h146 kc_114) (xS sM h146 xc_114_56) dX11_goBack_140 ?_
                refine r_iload_n 2 C dX11_goBack_143 rfl ?_
                refine r_bipush (v := 61) C dX11_goBack_144 (by decide) ?_
                refine r_iadd C dX11_goBack_146 (fun v148 e149 => ?_)
                have v148' := iadd_ok e149 (by omega) (by omega)
                refine r_iald C (kS sM h146 kc_143) (vin (by omega) (by omega)) dX11_goBack_147 ?_
                generalize (wI w144 143 (v148).toNatClampNeg) = v150
                refine pfX11_262 C (kS sM h146 kc_114) dX11_goBack_148 (fun w151 e152 => ?_)
                have h153 := Ch.putF h146 e152 (by decide)
                have k155 := i_rng v150
                have o154 : OkM w151 := ⟨Inv.putk o147.1 e152 (by decide), Rel.putF o147.2 e152 (by decide)⟩
                refine r_aload_n 0 C dX11_goBack_151 rfl ?_
                refine r_aload_n 0 C dX11_goBack_152 rfl ?_
                refine gfX11_104 143 C (kS sM h153 kc_114) (xS sM h153 xc_114_56) dX11_goBack_153 ?_
                refine r_iload_n 2 C dX11_goBack_156 rfl ?_
                refine r_bipush (v := 62) C dX11_goBack_157 (by decide) ?_
                refine r_iadd C dX11_goBack_159 (fun v156 e157 => ?_)
                have v156' := iadd_ok e157 (by omega) (by omega)
                refine r_iald C (kS sM h153 kc_143) (vin (by omega) (by omega)) dX11_goBack_160 ?_
                have b159 := Inv.geta o154.1 rt_143_132 (i := v156) (by omega) (by omega) (by omega)
                generalize (wI w151 143 (v156).toNatClampNeg) = v158 at b159 ⊢
                refine pfX11_334 C (kS sM h153 kc_114) dX11_goBack_161 (fun w160 e161 => ?_)
                have h162 := Ch.putF h153 e161 (by decide)
                have k164 := i_rng v158
                have o163 : OkM w160 := ⟨Inv.put o154.1 e161 0 2147483647 (by omega) (by decide), Rel.putF o154.2 e161 (by decide)⟩
                refine r_aload_n 0 C dX11_goBack_164 rfl ?_
                have b165 := Inv.get o0.1 rt_114_0 (j := 0) (by decide) (by decide)
                have b166 := Inv.get o0.1 rt_114_1 (j := 1) (by decide) (by decide)
                refine callVV C cwX11_271_V (ctX11_findFar _ _ w160 (sS sM h162) o163 (wI w 114 0) (g_nk e161 (by decide) (g_nk e152 (by decide) (g_nk e145 (by decide) (h133.I (by decide) (by decide) rfl)))) (by omega) (wI w 114 1) (g_nk e161 (by decide) (g_nk e152 (by decide) (g_nk e145 (by decide) (h133.I (by decide) (by decide) rfl)))) (by omega)  ) (by decide) (kS sM h162 kc_114) rfl rfl rfl (Nat.le_of_ble_eq_true rfl) (by decide) dX11_goBack_165 (fun w168 y167 => ?_)
                show V x 0 0 w168 168 [(0, .ref (gz (xG x) + 114)), (1, .int 1), (2, .int u116), (3, .int u129)] []
                obtain ⟨h170, o171⟩ := y167
                have h172 := Ch.tr h162 h170 (by decide) (by decide)
                refine r_iconst (v := 1) C dX11_goBack_168 (by decide) ?_
                exact hret _ _ _ _ dX11_goBack_169 rfl ⟨h172, o171⟩
              · have c138' := i_nle c138
                refine r_aload_n 0 C dX11_goBack_68 rfl ?_
                refine gfX11_38 122 C (kS sM h133 kc_114) (xS sM h133 xc_114_14) dX11_goBack_69 ?_
                refine r_iload_n 3 C dX11_goBack_72 rfl ?_
                refine r_aload_n 0 C dX11_goBack_73 rfl ?_
                refine gfX11_104 143 C (kS sM h133 kc_114) (xS sM h133 xc_114_56) dX11_goBack_74 ?_
                refine r_iload_n 2 C dX11_goBack_77 rfl ?_
                refine r_bipush (v := 42) C dX11_goBack_78 (by decide) ?_
                refine r_iadd C dX11_goBack_80 (fun v173 e174 => ?_)
                have v173' := iadd_ok e174 (by omega) (by omega)
                refine r_iload_n 3 C dX11_goBack_81 rfl ?_
                refine r_iadd C dX11_goBack_82 (fun v175 e176 => ?_)
                have v175' := iadd_ok e176 (by omega) (by omega)
                refine r_iald C (kS sM h133 kc_143) (vin (by omega) (by omega)) dX11_goBack_83 ?_
                have b178 := Inv.geta o134.1 rt_143_112 (i := v175) (by omega) (by omega) (by omega)
                generalize (wI w132 143 (v175).toNatClampNeg) = v177 at b178 ⊢
                refine r_iast C (kS sM h133 kc_122) (vin (by omega) (by omega)) dX11_goBack_84 (fun w179 e180 => ?_)
                have h181 := Ch.putS h133 e180 (by decide)
                have o182 : OkM w179 := ⟨Inv.putR o134.1 e180 0 5 (by omega) (by omega) 0 41 (by omega) (by decide), Rel.putS o134.2 e180 (by decide)⟩
                refine r_aload_n 0 C dX11_goBack_85 rfl ?_
                refine gfX11_41 123 C (kS sM h181 kc_114) (xS sM h181 xc_114_15) dX11_goBack_86 ?_
                refine r_iload_n 3 C dX11_goBack_89 rfl ?_
                refine r_aload_n 0 C dX11_goBack_90 rfl ?_
                refine gfX11_104 143 C (kS sM h181 kc_114) (xS sM h181 xc_114_56) dX11_goBack_91 ?_
                refine r_iload_n 2 C dX11_goBack_94 rfl ?_
                refine r_bipush (v := 48) C dX11_goBack_95 (by decide) ?_
                refine r_iadd C dX11_goBack_97 (fun v183 e184 => ?_)
                have v183' := iadd_ok e184 (by omega) (by omega)
                refine r_iload_n 3 C dX11_goBack_98 rfl ?_
                refine r_iadd C dX11_goBack_99 (fun v185 e186 => ?_)
                have v185' := iadd_ok e186 (by omega) (by omega)
                refine r_iald C (kS sM h181 kc_143) (vin (by omega) (by omega)) dX11_goBack_100 ?_
                have b188 := Inv.geta o182.1 rt_143_118 (i := v185) (by omega) (by omega) (by omega)
                generalize (wI w179 143 (v185).toNatClampNeg) = v187 at b188 ⊢
                refine r_iast C (kS sM h181 kc_123) (vin (by omega) (by omega)) dX11_goBack_101 (fun w189 e190 => ?_)
                have h191 := Ch.putS h181 e190 (by decide)
                have o192 : OkM w189 := ⟨Inv.putR o182.1 e190 0 5 (by omega) (by omega) (-1) 41 (by omega) (by decide), Rel.putS o182.2 e190 (by decide)⟩
                refine r_aload_n 0 C dX11_goBack_102 rfl ?_
                refine gfX11_44 124 C (kS sM h191 kc_114) (xS sM h191 xc_114_16) dX11_goBack_103 ?_
                refine r_iload_n 3 C dX11_goBack_106 rfl ?_
                refine r_aload_n 0 C dX11_goBack_107 rfl ?_
                refine gfX11_104 143 C (kS sM h191 kc_114) (xS sM h191 xc_114_56) dX11_goBack_108 ?_
                refine r_iload_n 2 C dX11_goBack_111 rfl ?_
                refine r_bipush (v := 54) C dX11_goBack_112 (by decide) ?_
                refine r_iadd C dX11_goBack_114 (fun v193 e194 => ?_)
                have v193' := iadd_ok e194 (by omega) (by omega)
                refine r_iload_n 3 C dX11_goBack_115 rfl ?_
                refine r_iadd C dX11_goBack_116 (fun v195 e196 => ?_)
                have v195' := iadd_ok e196 (by omega) (by omega)
                refine r_iald C (kS sM h191 kc_143) (vin (by omega) (by omega)) dX11_goBack_117 ?_
                generalize (wI w189 143 (v195).toNatClampNeg) = v197
                refine r_iast C (kS sM h191 kc_124) (vin (by omega) (by omega)) dX11_goBack_118 (fun w198 e199 => ?_)
                have h200 := Ch.putS h191 e199 (by decide)
                have o201 : OkM w198 := ⟨Inv.put0 o192.1 e199 (by decide), Rel.putS o192.2 e199 (by decide)⟩
                obtain ⟨i202, e203⟩ : ∃ z : Int32, u129 + Int32.ofInt 1 = z := ⟨_, rfl⟩
                have i202' := iinc_ok e203 (by decide) (by omega) (by omega)
                refine r_iinc [(3, .int i202), (0, .ref (gz (xG x) + 114)), (1, .int 1), (2, .int u116)] 3 C dX11_goBack_119 rfl e203 (by decide) rfl ?_
                refine r_goto 62 C dX11_goBack_122 (by decide) ?_
                refine r_lv [1, 2, 3, 0] rfl ?_
                exact ih137 i202 w198 h200 o201 (by omega) (by omega)
          refine r_iload_n 3 C dX11_goBack_34 rfl ?_
          refine r_bipush (v := 42) C dX11_goBack_35 (by decide) ?_
          have k128 := i_rng u117
          refine r_icmp_ge 60 C dX11_goBack_37 (by decide) (fun c127 => ?_) (fun c127 => ?_)
          · have c127' := i_le c127
            refine r_iconst (v := 0) C dX11_goBack_60 (by decide) ?_
            refine r_istore_n [(3, .int 0), (0, .ref (gz (xG x) + 114)), (1, .int 1), (2, .int u116)] C dX11_goBack_61 (by decide) rfl ?_
            refine r_lv [1, 2, 3, 0] rfl ?_
            exact LP130 4294967296 0 w120 h121 o122 (by omega) (by omega)
          · have c127' := i_nle c127
            refine r_aload_n 0 C dX11_goBack_40 rfl ?_
            refine gfX11_7 115 C (kS sM h121 kc_114) (xS sM h121 xc_114_2) dX11_goBack_41 ?_
            refine r_iload_n 3 C dX11_goBack_44 rfl ?_
            refine r_aload_n 0 C dX11_goBack_45 rfl ?_
            refine gfX11_104 143 C (kS sM h121 kc_114) (xS sM h121 xc_114_56) dX11_goBack_46 ?_
            refine r_iload_n 2 C dX11_goBack_49 rfl ?_
            refine r_iload_n 3 C dX11_goBack_50 rfl ?_
            refine r_iadd C dX11_goBack_51 (fun v204 e205 => ?_)
            have v204' := iadd_ok e205 (by omega) (by omega)
            refine r_iald C (kS sM h121 kc_143) (vin (by omega) (by omega)) dX11_goBack_52 ?_
            generalize (wI w120 143 (v204).toNatClampNeg) = v206
            refine r_iast C (kS sM h121 kc_115) (vin (by omega) (by omega)) dX11_goBack_53 (fun w207 e208 => ?_)
            have h209 := Ch.putS h121 e208 (by decide)
            have o210 : OkM w207 := ⟨Inv.put0 o122.1 e208 (by decide), Rel.putS o122.2 e208 (by decide)⟩
            obtain ⟨i211, e212⟩ : ∃ z : Int32, u117 + Int32.ofInt 1 = z := ⟨_, rfl⟩
            have i211' := iinc_ok e212 (by decide) (by omega) (by omega)
            refine r_iinc [(3, .int i211), (0, .ref (gz (xG x) + 114)), (1, .int 1), (2, .int u116)] 3 C dX11_goBack_54 rfl e212 (by decide) rfl ?_
            refine r_goto 34 C dX11_goBack_57 (by decide) ?_
            refine r_lv [1, 2, 3, 0] rfl ?_
            exact ih126 u116 i211 w207 h209 o210 (by omega) (by omega) (by omega)
      refine r_aload_n 0 C dX11_goBack_14 rfl ?_
      refine gfX11_107 144 C (kS sM h0 kc_114) (xS sM h0 xc_114_57) dX11_goBack_15 ?_
      refine r_iload_n 1 C dX11_goBack_18 rfl ?_
      refine r_zald C (kS sM h0 kc_144) (vin (by omega) (by omega)) dX11_goBack_19 ?_
      generalize (wI w 144 (1 : Int32).toNatClampNeg) = v111
      refine r_if_ne 27 C dX11_goBack_20 (by decide) (fun c112 => ?_) (fun c112 => ?_)
      · have c112' := i_ne c112
        refine r_bipush (v := 70) C dX11_goBack_27 (by decide) ?_
        refine r_iload_n 1 C dX11_goBack_29 rfl ?_
        refine r_imul C dX11_goBack_30 (fun v113 e114 => ?_)
        have k115 : (70 : Int32).toInt = 70 := by omega
        have v113' := imul_ok e114 (by rw [k115]; omega) (by rw [k115]; omega)
        rw [k115] at v113'
        refine r_istore_n [(2, .int v113), (0, .ref (gz (xG x) + 114)), (1, .int 1)] C dX11_goBack_31 (by decide) rfl ?_
        refine r_iconst (v := 0) C dX11_goBack_32 (by decide) ?_
        refine r_istore_n [(3, .int 0), (2, .int v113), (0, .ref (gz (xG x) + 114)), (1, .int 1)] C dX11_goBack_33 (by decide) rfl ?_
        refine r_lv [2, 3, 1, 0] rfl ?_
        exact LP118 4294967296 v113 0 w h0 o0 (by omega) (by omega) (by omega)
      · have c112' := i_eq c112
        refine r_ldcw C mw6_189 dX11_goBack_23 ?_
        exact hret _ _ _ _ dX11_goBack_26 rfl ⟨h0, o0⟩
  · have c7' := i_eq c7
    refine r_ldcw C mw6_112 dX11_goBack_10 ?_
    exact hret _ _ _ _ dX11_goBack_13 rfl ⟨h0, o0⟩
set_option maxHeartbeats 4000000 in
set_option maxRecDepth 100000 in
theorem ctX11_feed (l : Launch) (G : Gt) (w : Wv) (sM : Str KM XM w) (o0 : OkM w) (u : Int32) (pu : wI w 114 20 = u) (bu : 0 ≤ u.toInt ∧ u.toInt ≤ 500) (a1 : Int32) (a2 : Int64) : CtI l G yX11_feed cX11_feed 5 .int ({ frames := 1, cells := 0, slots := 0, locals := 25 } : Room) [.ref (gz G + 114), .int a1, .long a2] w (fun r w' => Ch [125] [(114, 20)] w w' ∧ OkM w' ∧ (((a1.toInt < 1 ∨ 8 < a1.toInt ∨ 500 < u.toInt + a1.toInt) → (wI w' 114 20).toInt = u.toInt) ∧ ((1 ≤ a1.toInt ∧ a1.toInt ≤ 8 ∧ u.toInt + a1.toInt ≤ 500) → (wI w' 114 20).toInt = u.toInt + a1.toInt)) ∧ (((a1.toInt < 1 ∨ 8 < a1.toInt) → r.toInt = -1000000002) ∧ ((1 ≤ a1.toInt ∧ a1.toInt ≤ 8 ∧ 500 < u.toInt + a1.toInt) → r.toInt = -1000000004) ∧ ((1 ≤ a1.toInt ∧ a1.toInt ≤ 8 ∧ u.toInt + a1.toInt ≤ 500) → r.toInt = u.toInt + a1.toInt))) := by
  refine enterI (by decide) (Nat.le_of_ble_eq_true rfl) ?_
  intro x el eG C hret
  subst el; subst eG
  show V x 0 0 w 0 [(0, .ref (gz (xG x) + 114)), (1, .int a1), (2, .long a2)] []
  have h0 : Ch [125] [(114, 20)] w w := Ch.rf
  have qm1000000004 : ((-1000000004) : Int32).toInt = (-1000000004) := by decide
  have qm1000000002 : ((-1000000002) : Int32).toInt = (-1000000002) := by decide
  have q0 : (0 : Int32).toInt = 0 := by decide
  have q1 : (1 : Int32).toInt = 1 := by decide
  have q8 : (8 : Int32).toInt = 8 := by decide
  have q500 : (500 : Int32).toInt = 500 := by decide
  have ql1 : (1 : Int64).toInt = 1 := by decide
  have ql8 : (8 : Int64).toInt = 8 := by decide
  have ql255 : (255 : Int64).toInt = 255 := by decide
  obtain ⟨rA, rB, rC, rD⟩ := (o0.2 : Rel w)
  have LP14 : ∀ (f15 : Nat) (u13 : Int32) (w16 : Wv), Ch [125] [(114, 20)] w w16 → OkM w16 → ((-1) ≤ u13.toInt ∧ u13.toInt ≤ 7) → (1 ≤ a1.toInt ∧ a1.toInt ≤ 8) → (u.toInt + a1.toInt ≤ 500 ∧ (wI w16 114 20).toInt = u.toInt + a1.toInt - 1 - u13.toInt ∧ u13.toInt ≤ a1.toInt - 1) → u13.toInt - (-1) < f15 → V x 0 0 w16 35 [(0, .ref (gz (xG x) + 114)), (1, .int a1), (2, .long a2), (4, .int u13)] [] := by
    intro f15
    induction f15 with
    | zero => intro u13 w16 h17 o18 z19 z20 z21 z22; exfalso; omega
    | succ f15 ih23 =>
      intro u13 w16 h17 o18 z19 z20 z21 z22
      refine r_iload 3 C dX11_feed_35 rfl ?_
      refine r_if_lt 77 C dX11_feed_37 (by decide) (fun c24 => ?_) (fun c24 => ?_)
      · have c24' := i_lt c24
        refine r_aload_n 0 C dX11_feed_77 rfl ?_
        refine gfX11_130 (v := (wI w16 114 20)) C (kS sM h17 kc_114) rfl dX11_feed_78 ?_
        have b25 := Inv.get o18.1 rt_114_20 (j := 20) (by decide) (by decide)
        exact hret _ _ _ _ dX11_feed_81 rfl ⟨h17, o18, (by omega), by omega⟩
      · have c24' := i_nlt c24
        refine r_aload_n 0 C dX11_feed_40 rfl ?_
        refine gfX11_47 125 C (kS sM h17 kc_114) (xS sM h17 xc_114_19) dX11_feed_41 ?_
        refine r_aload_n 0 C dX11_feed_44 rfl ?_
        refine gfX11_130 (v := (wI w16 114 20)) C (kS sM h17 kc_114) rfl dX11_feed_45 ?_
        have b26 := Inv.get o18.1 rt_114_20 (j := 20) (by decide) (by decide)
        refine r_lload_n 2 C dX11_feed_48 rfl ?_
        refine r_bipush (v := 8) C dX11_feed_49 (by decide) ?_
        refine r_iload 3 C dX11_feed_51 rfl ?_
        refine r_imul C dX11_feed_53 (fun v27 e28 => ?_)
        have k29 : (8 : Int32).toInt = 8 := by omega
        have v27' := imul_ok e28 (by rw [k29]; omega) (by rw [k29]; omega)
        rw [k29] at v27'
        refine r_lshr C dX11_feed_54 (fun v30 e31 => ?_)
        refine r_ldc2 C mw6_1 dX11_feed_55 ?_
        refine r_land C dX11_feed_58 (fun v32 e33 => ?_)
        refine r_l2i C dX11_feed_59 (fun v34 e35 => ?_)
        refine r_iast C (kS sM h17 kc_125) (vin (by omega) (by omega)) dX11_feed_60 (fun w36 e37 => ?_)
        have h38 := Ch.putS h17 e37 (by decide)
        have o39 : OkM w36 := ⟨Inv.put0 o18.1 e37 (by decide), Rel.putS o18.2 e37 (by decide)⟩
        refine r_aload_n 0 C dX11_feed_61 rfl ?_
        refine r_dup C dX11_feed_62 rfl ?_
        refine gfX11_130 (v := (wI w16 114 20)) C (kS sM h38 kc_114) (g_nn e37 (by decide) rfl) dX11_feed_63 ?_
        refine r_iconst (v := 1) C dX11_feed_66 (by decide) ?_
        refine r_iadd C dX11_feed_67 (fun v40 e41 => ?_)
        have v40' := iadd_ok e41 (by omega) (by omega)
        refine pfX11_130 C (kS sM h38 kc_114) dX11_feed_68 (fun w42 e43 => ?_)
        have h44 := Ch.putF h38 e43 (by decide)
        have o45 : OkM w42 := ⟨Inv.put o39.1 e43 0 500 (by omega) (by decide), Rel.putF o39.2 e43 (by decide)⟩
        obtain ⟨i46, e47⟩ : ∃ z : Int32, u13 + Int32.ofInt (-1) = z := ⟨_, rfl⟩
        have i46' := iinc_ok e47 (by decide) (by omega) (by omega)
        refine r_iinc [(4, .int i46), (0, .ref (gz (xG x) + 114)), (1, .int a1), (2, .long a2)] 3 C dX11_feed_71 rfl e47 (by decide) rfl ?_
        refine r_goto 35 C dX11_feed_74 (by decide) ?_
        refine r_lv [1, 2, 3, 0] rfl ?_
        exact ih23 i46 w42 h44 o45 (by omega) (by omega) (by rw [(g_eq e43)]; omega) (by omega)
  refine r_iload_n 1 C dX11_feed_0 rfl ?_
  refine r_i2l C dX11_feed_1 (fun v1 e2 => ?_)
  have v1' := i2l_ok e2
  refine r_lconst (v := 1) C dX11_feed_2 (by decide) ?_
  refine r_ldc2 C mw5_235 dX11_feed_3 ?_
  refine callSI C cwX11_114_S (ctX11_in _ _ w v1 1 8 ) (by decide) rfl rfl (Nat.le_of_ble_eq_true rfl) (by decide) dX11_feed_6 (fun r5 w4 y3 => ?_)
  obtain ⟨y3, g6⟩ := y3
  obtain rfl := y3.symm
  show V x 0 0 w 9 [(0, .ref (gz (xG x) + 114)), (1, .int a1), (2, .long a2)] [.int r5]
  refine r_if_ne 15 C dX11_feed_9 (by decide) (fun c7 => ?_) (fun c7 => ?_)
  · have c7' := i_ne c7
    refine r_aload_n 0 C dX11_feed_15 rfl ?_
    refine gfX11_130 (v := u) C (kS sM h0 kc_114) pu dX11_feed_16 ?_
    refine r_iload_n 1 C dX11_feed_19 rfl ?_
    refine r_iadd C dX11_feed_20 (fun v8 e9 => ?_)
    have v8' := iadd_ok e9 (by omega) (by omega)
    refine r_sipush (v := 500) C dX11_feed_21 (by decide) ?_
    refine r_icmp_le 30 C dX11_feed_24 (by decide) (fun c10 => ?_) (fun c10 => ?_)
    · have c10' := i_le c10
      refine r_iload_n 1 C dX11_feed_30 rfl ?_
      refine r_iconst (v := 1) C dX11_feed_31 (by decide) ?_
      refine r_isub C dX11_feed_32 (fun v11 e12 => ?_)
      have v11' := isub_ok e12 (by omega) (by omega)
      refine r_istore [(4, .int v11), (0, .ref (gz (xG x) + 114)), (1, .int a1), (2, .long a2)] C dX11_feed_33 (by decide) rfl ?_
      refine r_lv [1, 2, 3, 0] rfl ?_
      exact LP14 4294967296 v11 w h0 o0 (by omega) (by omega) (by rw [pu]; omega) (by omega)
    · have c10' := i_nle c10
      refine r_ldc C mw6_0 dX11_feed_27 ?_
      exact hret _ _ _ _ dX11_feed_29 rfl ⟨h0, o0, (by rw [pu]; omega), by omega⟩
  · have c7' := i_eq c7
    refine r_ldc C mw5_239 dX11_feed_12 ?_
    exact hret _ _ _ _ dX11_feed_14 rfl ⟨h0, o0, (by rw [pu]; omega), by omega⟩
