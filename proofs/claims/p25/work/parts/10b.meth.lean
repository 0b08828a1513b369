set_option maxHeartbeats 4000000 in
set_option maxRecDepth 100000 in
theorem ctX1_giveWhats_21_105 (l : Launch) (G : Gt) (w : Wv) (sC : Str KC XC w) (o0 : Inv RC w)  : CtV l G yX1_giveWhats cX1_giveWhats 3 ({ frames := 0, cells := 0, slots := 0, locals := 0 } : Room) [.ref (gz G + 21), .ref (gz G + 105)] w (fun w' => Ch [105] [] w w' ∧ Inv RC w') := by
  refine enterV (by decide) (Nat.le_of_ble_eq_true rfl) ?_
  intro x el eG C hnm hret
  subst el; subst eG
  show V x 0 0 w 0 [(0, .ref (gz (xG x) + 21)), (1, .ref (gz (xG x) + 105))] []
  have h0 : Ch [105] [] w w := Ch.rf
  have q0 : (0 : Int32).toInt = 0 := by decide
  have q42 : (42 : Int32).toInt = 42 := by decide
  have LP2 : ∀ (f3 : Nat) (u1 : Int32) (w4 : Wv), Ch [105] [] w w4 → Inv RC w4 → (0 ≤ u1.toInt ∧ u1.toInt ≤ 2147483647) → 2147483647 - u1.toInt < f3 → V x 0 0 w4 2 [(0, .ref (gz (xG x) + 21)), (1, .ref (gz (xG x) + 105)), (2, .int u1)] [] := by
    intro f3
    induction f3 with
    | zero => intro u1 w4 h5 o6 z7 z8; exfalso; omega
    | succ f3 ih9 =>
      intro u1 w4 h5 o6 z7 z8
      refine r_iload_n 2 C dX1_giveWhats_2 rfl ?_
      refine r_bipush (v := 42) C dX1_giveWhats_3 (by decide) ?_
      have k11 := i_rng u1
      refine r_icmp_ge 29 C dX1_giveWhats_5 (by decide) (fun c10 => ?_) (fun c10 => ?_)
      · have c10' := i_le c10
        exact hret _ _ _ dX1_giveWhats_29 ⟨h5, o6⟩
      · have c10' := i_nle c10
        refine r_iload_n 2 C dX1_giveWhats_8 rfl ?_
        refine r_aload_n 1 C dX1_giveWhats_9 rfl ?_
        refine r_alen 0 0 rfl C (kS sC h5 kc_105) (v := 42) (by decide) dX1_giveWhats_10 ?_
        refine r_icmp_ge 29 C dX1_giveWhats_11 (by decide) (fun c12 => ?_) (fun c12 => ?_)
        · have c12' := i_le c12
          exfalso; omega
        · have c12' := i_nle c12
          refine r_aload_n 1 C dX1_giveWhats_14 rfl ?_
          refine r_iload_n 2 C dX1_giveWhats_15 rfl ?_
          refine r_aload_n 0 C dX1_giveWhats_16 rfl ?_
          refine gfX1_9 22 C (kS sC h5 kc_21) (xS sC h5 xc_21_1) dX1_giveWhats_17 ?_
          refine r_iload_n 2 C dX1_giveWhats_20 rfl ?_
          refine r_iald C (kS sC h5 kc_22) (vin (by omega) (by omega)) dX1_giveWhats_21 ?_
          generalize (wI w4 22 (u1).toNatClampNeg) = v13
          refine r_iast C (kS sC h5 kc_105) (vin (by omega) (by omega)) dX1_giveWhats_22 (fun w14 e15 => ?_)
          have h16 := Ch.putS h5 e15 (by decide)
          have o17 := Inv.put0 o6 e15 (by decide)
          obtain ⟨i18, e19⟩ : ∃ z : Int32, u1 + Int32.ofInt 1 = z := ⟨_, rfl⟩
          have i18' := iinc_ok e19 (by decide) (by omega) (by omega)
          refine r_iinc [(2, .int i18), (0, .ref (gz (xG x) + 21)), (1, .ref (gz (xG x) + 105))] 2 C dX1_giveWhats_23 rfl e19 (by decide) rfl ?_
          refine r_goto 2 C dX1_giveWhats_26 (by decide) ?_
          refine r_lv [1, 2, 0] rfl ?_
          exact ih9 i18 w14 h16 o17 (by omega) (by omega)
  refine r_iconst (v := 0) C dX1_giveWhats_0 (by decide) ?_
  refine r_istore_n [(2, .int 0), (0, .ref (gz (xG x) + 21)), (1, .ref (gz (xG x) + 105))] C dX1_giveWhats_1 (by decide) rfl ?_
  refine r_lv [1, 2, 0] rfl ?_
  exact LP2 4294967296 0 w h0 o0 (by omega) (by omega)
set_option maxHeartbeats 4000000 in
set_option maxRecDepth 100000 in
theorem ctX1_giveWhats_21_110 (l : Launch) (G : Gt) (w : Wv) (sC : Str KC XC w) (o0 : Inv RC w)  : CtV l G yX1_giveWhats cX1_giveWhats 3 ({ frames := 0, cells := 0, slots := 0, locals := 0 } : Room) [.ref (gz G + 21), .ref (gz G + 110)] w (fun w' => Ch [110] [] w w' ∧ Inv RC w') := by
  refine enterV (by decide) (Nat.le_of_ble_eq_true rfl) ?_
  intro x el eG C hnm hret
  subst el; subst eG
  show V x 0 0 w 0 [(0, .ref (gz (xG x) + 21)), (1, .ref (gz (xG x) + 110))] []
  have h0 : Ch [110] [] w w := Ch.rf
  have q0 : (0 : Int32).toInt = 0 := by decide
  have q42 : (42 : Int32).toInt = 42 := by decide
  have LP2 : ∀ (f3 : Nat) (u1 : Int32) (w4 : Wv), Ch [110] [] w w4 → Inv RC w4 → (0 ≤ u1.toInt ∧ u1.toInt ≤ 2147483647) → 2147483647 - u1.toInt < f3 → V x 0 0 w4 2 [(0, .ref (gz (xG x) + 21)), (1, .ref (gz (xG x) + 110)), (2, .int u1)] [] := by
    intro f3
    induction f3 with
    | zero => intro u1 w4 h5 o6 z7 z8; exfalso; omega
    | succ f3 ih9 =>
      intro u1 w4 h5 o6 z7 z8
      refine r_iload_n 2 C dX1_giveWhats_2 rfl ?_
      refine r_bipush (v := 42) C dX1_giveWhats_3 (by decide) ?_
      have k11 := i_rng u1
      refine r_icmp_ge 29 C dX1_giveWhats_5 (by decide) (fun c10 => ?_) (fun c10 => ?_)
      · have c10' := i_le c10
        exact hret _ _ _ dX1_giveWhats_29 ⟨h5, o6⟩
      · have c10' := i_nle c10
        refine r_iload_n 2 C dX1_giveWhats_8 rfl ?_
        refine r_aload_n 1 C dX1_giveWhats_9 rfl ?_
        refine r_alen 0 0 rfl C (kS sC h5 kc_110) (v := 42) (by decide) dX1_giveWhats_10 ?_
        refine r_icmp_ge 29 C dX1_giveWhats_11 (by decide) (fun c12 => ?_) (fun c12 => ?_)
        · have c12' := i_le c12
          exfalso; omega
        · have c12' := i_nle c12
          refine r_aload_n 1 C dX1_giveWhats_14 rfl ?_
          refine r_iload_n 2 C dX1_giveWhats_15 rfl ?_
          refine r_aload_n 0 C dX1_giveWhats_16 rfl ?_
          refine gfX1_9 22 C (kS sC h5 kc_21) (xS sC h5 xc_21_1) dX1_giveWhats_17 ?_
          refine r_iload_n 2 C dX1_giveWhats_20 rfl ?_
          refine r_iald C (kS sC h5 kc_22) (vin (by omega) (by omega)) dX1_giveWhats_21 ?_
          generalize (wI w4 22 (u1).toNatClampNeg) = v13
          refine r_iast C (kS sC h5 kc_110) (vin (by omega) (by omega)) dX1_giveWhats_22 (fun w14 e15 => ?_)
          have h16 := Ch.putS h5 e15 (by decide)
          have o17 := Inv.put0 o6 e15 (by decide)
          obtain ⟨i18, e19⟩ : ∃ z : Int32, u1 + Int32.ofInt 1 = z := ⟨_, rfl⟩
          have i18' := iinc_ok e19 (by decide) (by omega) (by omega)
          refine r_iinc [(2, .int i18), (0, .ref (gz (xG x) + 21)), (1, .ref (gz (xG x) + 110))] 2 C dX1_giveWhats_23 rfl e19 (by decide) rfl ?_
          refine r_goto 2 C dX1_giveWhats_26 (by decide) ?_
          refine r_lv [1, 2, 0] rfl ?_
          exact ih9 i18 w14 h16 o17 (by omega) (by omega)
  refine r_iconst (v := 0) C dX1_giveWhats_0 (by decide) ?_
  refine r_istore_n [(2, .int 0), (0, .ref (gz (xG x) + 21)), (1, .ref (gz (xG x) + 110))] C dX1_giveWhats_1 (by decide) rfl ?_
  refine r_lv [1, 2, 0] rfl ?_
  exact LP2 4294967296 0 w h0 o0 (by omega) (by omega)
set_option maxHeartbeats 4000000 in
set_option maxRecDepth 100000 in
theorem ctX1_copy_28_21 (l : Launch) (G : Gt) (w : Wv) (sC : Str KC XC w) (o0 : Inv RC w)  : CtV l G yX1_copy cX1_copy 2 ({ frames := 2, cells := 0, slots := 0, locals := 43 } : Room) [.ref (gz G + 28), .ref (gz G + 21)] w (fun w' => Ch [29, 33] [] w w' ∧ Inv RC w') := by
  refine enterV (by decide) (Nat.le_of_ble_eq_true rfl) ?_
  intro x el eG C hnm hret
  subst el; subst eG
  show V x 0 0 w 0 [(0, .ref (gz (xG x) + 28)), (1, .ref (gz (xG x) + 21))] []
  have h0 : Ch [29, 33] [] w w := Ch.rf
  refine r_aload_n 0 C dX1_copy_0 rfl ?_
  refine r_aload_n 1 C dX1_copy_1 rfl ?_
  refine gfX1_9 22 C (kS sC h0 kc_21) (xS sC h0 xc_21_1) dX1_copy_2 ?_
  refine callVV C cwX1_58_V (ctX1_takeWhats_28_22 _ _ w (sS sC h0) o0  ) (by decide) (kS sC h0 kc_28) rfl rfl rfl (Nat.le_of_ble_eq_true rfl) (by decide) dX1_copy_5 (fun w2 y1 => ?_)
  show V x 0 0 w2 8 [(0, .ref (gz (xG x) + 28)), (1, .ref (gz (xG x) + 21))] []
  obtain ⟨h4, o5⟩ := y1
  have h6 := Ch.tr h0 h4 (by decide) (by decide)
  exact hret _ _ _ dX1_copy_8 ⟨h6, o5⟩
set_option maxHeartbeats 4000000 in
set_option maxRecDepth 100000 in
theorem ctX1_cellAt_21 (l : Launch) (G : Gt) (w : Wv) (sC : Str KC XC w) (o0 : Inv RC w) (a1 : Int32) (a2 : Int32) : CtI l G yX1_cellAt cX1_cellAt 3 .int ({ frames := 0, cells := 0, slots := 0, locals := 0 } : Room) [.ref (gz G + 21), .int a1, .int a2] w (fun r w' => Ch [] [] w w' ∧ Inv RC w') := by
  refine enterI (by decide) (Nat.le_of_ble_eq_true rfl) ?_
  intro x el eG C hret
  subst el; subst eG
  show V x 0 0 w 0 [(0, .ref (gz (xG x) + 21)), (1, .int a1), (2, .int a2)] []
  have h0 : Ch [] [] w w := Ch.rf
  have qm1 : ((-1) : Int32).toInt = (-1) := by decide
  have q0 : (0 : Int32).toInt = 0 := by decide
  refine r_iload_n 1 C dX1_cellAt_0 rfl ?_
  refine r_if_lt 35 C dX1_cellAt_1 (by decide) (fun c1 => ?_) (fun c1 => ?_)
  · have c1' := i_lt c1
    refine r_iconst (v := (-1)) C dX1_cellAt_35 (by decide) ?_
    exact hret _ _ _ _ dX1_cellAt_36 rfl ⟨h0, o0⟩
  · have c1' := i_nlt c1
    refine r_iload_n 1 C dX1_cellAt_4 rfl ?_
    refine r_aload_n 0 C dX1_cellAt_5 rfl ?_
    refine gfX1_37 (v := (wI w 21 2)) C (kS sC h0 kc_21) rfl dX1_cellAt_6 ?_
    have b2 := Inv.get o0 rt_21_2 (j := 2) (by decide) (by decide)
    have k4 := i_rng a1
    refine r_icmp_ge 35 C dX1_cellAt_9 (by decide) (fun c3 => ?_) (fun c3 => ?_)
    · have c3' := i_le c3
      refine r_iconst (v := (-1)) C dX1_cellAt_35 (by decide) ?_
      exact hret _ _ _ _ dX1_cellAt_36 rfl ⟨h0, o0⟩
    · have c3' := i_nle c3
      refine r_iload_n 2 C dX1_cellAt_12 rfl ?_
      refine r_if_lt 35 C dX1_cellAt_13 (by decide) (fun c5 => ?_) (fun c5 => ?_)
      · have c5' := i_lt c5
        refine r_iconst (v := (-1)) C dX1_cellAt_35 (by decide) ?_
        exact hret _ _ _ _ dX1_cellAt_36 rfl ⟨h0, o0⟩
      · have c5' := i_nlt c5
        refine r_iload_n 2 C dX1_cellAt_16 rfl ?_
        refine r_aload_n 0 C dX1_cellAt_17 rfl ?_
        refine gfX1_41 (v := (wI w 21 3)) C (kS sC h0 kc_21) rfl dX1_cellAt_18 ?_
        have b6 := Inv.get o0 rt_21_3 (j := 3) (by decide) (by decide)
        have k8 := i_rng a2
        refine r_icmp_ge 35 C dX1_cellAt_21 (by decide) (fun c7 => ?_) (fun c7 => ?_)
        · have c7' := i_le c7
          refine r_iconst (v := (-1)) C dX1_cellAt_35 (by decide) ?_
          exact hret _ _ _ _ dX1_cellAt_36 rfl ⟨h0, o0⟩
        · have c7' := i_nle c7
          refine r_iload_n 2 C dX1_cellAt_24 rfl ?_
          refine r_aload_n 0 C dX1_cellAt_25 rfl ?_
          refine gfX1_37 (v := (wI w 21 2)) C (kS sC h0 kc_21) rfl dX1_cellAt_26 ?_
          refine r_imul C dX1_cellAt_29 (fun v9 e10 => ?_)
          have v9' := imul_rng e10 (A := 8) (B := 9) (by omega) (by omega) (by decide)
          refine r_iload_n 1 C dX1_cellAt_30 rfl ?_
          refine r_iadd C dX1_cellAt_31 (fun v11 e12 => ?_)
          have v11' := iadd_ok e12 (by omega) (by omega)
          refine r_goto 36 C dX1_cellAt_32 (by decide) ?_
          exact hret _ _ _ _ dX1_cellAt_36 rfl ⟨h0, o0⟩
set_option maxHeartbeats 4000000 in
set_option maxRecDepth 100000 in
theorem ctX1_code_21 (l : Launch) (G : Gt) (w : Wv) (sC : Str KC XC w) (o0 : Inv RC w) (a1 : Int32) : CtI l G yX1_code cX1_code 2 .int ({ frames := 1, cells := 0, slots := 0, locals := 20 } : Room) [.ref (gz G + 21), .int a1] w (fun r w' => Ch [] [] w w' ∧ Inv RC w') := by
  refine enterI (by decide) (Nat.le_of_ble_eq_true rfl) ?_
  intro x el eG C hret
  subst el; subst eG
  show V x 0 0 w 0 [(0, .ref (gz (xG x) + 21)), (1, .int a1)] []
  have h0 : Ch [] [] w w := Ch.rf
  have qm1 : ((-1) : Int32).toInt = (-1) := by decide
  have q0 : (0 : Int32).toInt = 0 := by decide
  refine r_iload_n 1 C dX1_code_0 rfl ?_
  refine callSI C cwX1_65_S (ctX1_isCell _ _ w a1 ) (by decide) rfl rfl (Nat.le_of_ble_eq_true rfl) (by decide) dX1_code_1 (fun r3 w2 y1 => ?_)
  obtain ⟨y1, g4⟩ := y1
  obtain rfl := y1.symm
  show V x 0 0 w 4 [(0, .ref (gz (xG x) + 21)), (1, .int a1)] [.int r3]
  refine r_if_eq 16 C dX1_code_4 (by decide) (fun c5 => ?_) (fun c5 => ?_)
  · have c5' := i_eq c5
    refine r_iconst (v := (-1)) C dX1_code_16 (by decide) ?_
    exact hret _ _ _ _ dX1_code_17 rfl ⟨h0, o0⟩
  · have c5' := i_ne c5
    refine r_aload_n 0 C dX1_code_7 rfl ?_
    refine gfX1_15 23 C (kS sC h0 kc_21) (xS sC h0 xc_21_4) dX1_code_8 ?_
    refine r_iload_n 1 C dX1_code_11 rfl ?_
    refine r_iald C (kS sC h0 kc_23) (vin (by omega) (by omega)) dX1_code_12 ?_
    generalize (wI w 23 (a1).toNatClampNeg) = v6
    refine r_goto 17 C dX1_code_13 (by decide) ?_
    exact hret _ _ _ _ dX1_code_17 rfl ⟨h0, o0⟩
set_option maxHeartbeats 4000000 in
set_option maxRecDepth 100000 in
theorem ctX9_clear_3 (l : Launch) (G : Gt) (w : Wv) (sC : Str KC XC w) (o0 : Inv RC w)  : CtV l G yX9_clear cX9_clear 2 ({ frames := 0, cells := 0, slots := 0, locals := 0 } : Room) [.ref (gz G + 3)] w (fun w' => Ch [4] [(3, 0), (3, 1), (3, 2), (3, 3), (3, 4), (3, 5), (3, 6), (3, 7), (3, 8)] w w' ∧ Inv RC w') := by
  refine enterV (by decide) (Nat.le_of_ble_eq_true rfl) ?_
  intro x el eG C hnm hret
  subst el; subst eG
  show V x 0 0 w 0 [(0, .ref (gz (xG x) + 3))] []
  have h0 : Ch [4] [(3, 0), (3, 1), (3, 2), (3, 3), (3, 4), (3, 5), (3, 6), (3, 7), (3, 8)] w w := Ch.rf
  have qm1 : ((-1) : Int32).toInt = (-1) := by decide
  have q0 : (0 : Int32).toInt = 0 := by decide
  have q1 : (1 : Int32).toInt = 1 := by decide
  have q42 : (42 : Int32).toInt = 42 := by decide
  have LP38 : ∀ (f39 : Nat) (u37 : Int32) (w40 : Wv), Ch [4] [(3, 0), (3, 1), (3, 2), (3, 3), (3, 4), (3, 5), (3, 6), (3, 7), (3, 8)] w w40 → Inv RC w40 → (0 ≤ u37.toInt ∧ u37.toInt ≤ 2147483647) → 2147483647 - u37.toInt < f39 → V x 0 0 w40 47 [(0, .ref (gz (xG x) + 3)), (1, .int u37)] [] := by
    intro f39
    induction f39 with
    | zero => intro u37 w40 h41 o42 z43 z44; exfalso; omega
    | succ f39 ih45 =>
      intro u37 w40 h41 o42 z43 z44
      refine r_iload_n 1 C dX9_clear_47 rfl ?_
      refine r_bipush (v := 42) C dX9_clear_48 (by decide) ?_
      have k47 := i_rng u37
      refine r_icmp_ge 66 C dX9_clear_50 (by decide) (fun c46 => ?_) (fun c46 => ?_)
      · have c46' := i_le c46
        exact hret _ _ _ dX9_clear_66 ⟨h41, o42⟩
      · have c46' := i_nle c46
        refine r_aload_n 0 C dX9_clear_53 rfl ?_
        refine gfX9_9 4 C (kS sC h41 kc_3) (xS sC h41 xc_3_9) dX9_clear_54 ?_
        refine r_iload_n 1 C dX9_clear_57 rfl ?_
        refine r_iconst (v := 0) C dX9_clear_58 (by decide) ?_
        refine r_iast C (kS sC h41 kc_4) (vin (by omega) (by omega)) dX9_clear_59 (fun w48 e49 => ?_)
        have h50 := Ch.putS h41 e49 (by decide)
        have o51 := Inv.put0 o42 e49 (by decide)
        obtain ⟨i52, e53⟩ : ∃ z : Int32, u37 + Int32.ofInt 1 = z := ⟨_, rfl⟩
        have i52' := iinc_ok e53 (by decide) (by omega) (by omega)
        refine r_iinc [(1, .int i52), (0, .ref (gz (xG x) + 3))] 1 C dX9_clear_60 rfl e53 (by decide) rfl ?_
        refine r_goto 47 C dX9_clear_63 (by decide) ?_
        refine r_lv [1, 0] rfl ?_
        exact ih45 i52 w48 h50 o51 (by omega) (by omega)
  refine r_aload_n 0 C dX9_clear_0 rfl ?_
  refine r_iconst (v := 0) C dX9_clear_1 (by decide) ?_
  refine pfX9_36 C (kS sC h0 kc_3) dX9_clear_2 (fun w1 e2 => ?_)
  have h3 := Ch.putF h0 e2 (by decide)
  have o4 := Inv.put o0 e2 0 9 (by omega) (by decide)
  refine r_aload_n 0 C dX9_clear_5 rfl ?_
  refine r_iconst (v := 0) C dX9_clear_6 (by decide) ?_
  refine pfX9_40 C (kS sC h3 kc_3) dX9_clear_7 (fun w5 e6 => ?_)
  have h7 := Ch.putF h3 e6 (by decide)
  have o8 := Inv.put o4 e6 0 9 (by omega) (by decide)
  refine r_aload_n 0 C dX9_clear_10 rfl ?_
  refine r_iconst (v := 0) C dX9_clear_11 (by decide) ?_
  refine pfX9_43 C (kS sC h7 kc_3) dX9_clear_12 (fun w9 e10 => ?_)
  have h11 := Ch.putF h7 e10 (by decide)
  have o12 := Inv.putk o8 e10 (by decide)
  refine r_aload_n 0 C dX9_clear_15 rfl ?_
  refine r_iconst (v := 0) C dX9_clear_16 (by decide) ?_
  refine pfX9_46 C (kS sC h11 kc_3) dX9_clear_17 (fun w13 e14 => ?_)
  have h15 := Ch.putF h11 e14 (by decide)
  have o16 := Inv.put o12 e14 0 6 (by omega) (by decide)
  refine r_aload_n 0 C dX9_clear_20 rfl ?_
  refine r_iconst (v := 0) C dX9_clear_21 (by decide) ?_
  refine pfX9_49 C (kS sC h15 kc_3) dX9_clear_22 (fun w17 e18 => ?_)
  have h19 := Ch.putF h15 e18 (by decide)
  have o20 := Inv.put o16 e18 0 3 (by omega) (by decide)
  refine r_aload_n 0 C dX9_clear_25 rfl ?_
  refine r_iconst (v := (-1)) C dX9_clear_26 (by decide) ?_
  refine pfX9_52 C (kS sC h19 kc_3) dX9_clear_27 (fun w21 e22 => ?_)
  have h23 := Ch.putF h19 e22 (by decide)
  have o24 := Inv.putk o20 e22 (by decide)
  refine r_aload_n 0 C dX9_clear_30 rfl ?_
  refine r_iconst (v := 0) C dX9_clear_31 (by decide) ?_
  refine pfX9_55 C (kS sC h23 kc_3) (z_of (by omega)) dX9_clear_32 (fun w25 e26 => ?_)
  have h27 := Ch.putF h23 e26 (by decide)
  have o28 := Inv.put o24 e26 0 1 (by omega) (by decide)
  refine r_aload_n 0 C dX9_clear_35 rfl ?_
  refine r_iconst (v := 1) C dX9_clear_36 (by decide) ?_
  refine pfX9_59 C (kS sC h27 kc_3) dX9_clear_37 (fun w29 e30 => ?_)
  have h31 := Ch.putF h27 e30 (by decide)
  have o32 := Inv.putk o28 e30 (by decide)
  refine r_aload_n 0 C dX9_clear_40 rfl ?_
  refine r_iconst (v := 1) C dX9_clear_41 (by decide) ?_
  refine pfX9_62 C (kS sC h31 kc_3) dX9_clear_42 (fun w33 e34 => ?_)
  have h35 := Ch.putF h31 e34 (by decide)
  have o36 := Inv.putk o32 e34 (by decide)
  refine r_iconst (v := 0) C dX9_clear_45 (by decide) ?_
  refine r_istore_n [(1, .int 0), (0, .ref (gz (xG x) + 3))] C dX9_clear_46 (by decide) rfl ?_
  refine r_lv [1, 0] rfl ?_
  exact LP38 4294967296 0 w33 h35 o36 (by omega) (by omega)
set_option maxHeartbeats 4000000 in
set_option maxRecDepth 100000 in
theorem ctX9_isSpot_3 (l : Launch) (G : Gt) (w : Wv) (sC : Str KC XC w) (o0 : Inv RC w) (a1 : Int32) : CtI l G yX9_isSpot cX9_isSpot 2 .boolean ({ frames := 1, cells := 0, slots := 0, locals := 20 } : Room) [.ref (gz G + 3), .int a1] w (fun r w' => Ch [] [] w w' ∧ Inv RC w' ∧ ((0 ≤ r.toInt ∧ r.toInt ≤ 1))) := by
  refine enterI (by decide) (Nat.le_of_ble_eq_true rfl) ?_
  intro x el eG C hret
  subst el; subst eG
  show V x 0 0 w 0 [(0, .ref (gz (xG x) + 3)), (1, .int a1)] []
  have h0 : Ch [] [] w w := Ch.rf
  have q0 : (0 : Int32).toInt = 0 := by decide
  have q1 : (1 : Int32).toInt = 1 := by decide
  refine r_iload_n 1 C dX9_isSpot_0 rfl ?_
  refine callSI C cwX9_65_S (ctX1_isCell _ _ w a1 ) (by decide) rfl rfl (Nat.le_of_ble_eq_true rfl) (by decide) dX9_isSpot_1 (fun r3 w2 y1 => ?_)
  obtain ⟨y1, g4⟩ := y1
  obtain rfl := y1.symm
  show V x 0 0 w 4 [(0, .ref (gz (xG x) + 3)), (1, .int a1)] [.int r3]
  refine r_if_eq 20 C dX9_isSpot_4 (by decide) (fun c5 => ?_) (fun c5 => ?_)
  · have c5' := i_eq c5
    refine r_iconst (v := 0) C dX9_isSpot_20 (by decide) ?_
    exact hret _ _ _ _ dX9_isSpot_21 (nar_z (z_of (by omega))) ⟨h0, o0, by omega⟩
  · have c5' := i_ne c5
    refine r_aload_n 0 C dX9_isSpot_7 rfl ?_
    refine gfX9_9 4 C (kS sC h0 kc_3) (xS sC h0 xc_3_9) dX9_isSpot_8 ?_
    refine r_iload_n 1 C dX9_isSpot_11 rfl ?_
    refine r_iald C (kS sC h0 kc_4) (vin (by omega) (by omega)) dX9_isSpot_12 ?_
    generalize (wI w 4 (a1).toNatClampNeg) = v6
    refine r_if_eq 20 C dX9_isSpot_13 (by decide) (fun c7 => ?_) (fun c7 => ?_)
    · have c7' := i_eq c7
      refine r_iconst (v := 0) C dX9_isSpot_20 (by decide) ?_
      exact hret _ _ _ _ dX9_isSpot_21 (nar_z (z_of (by omega))) ⟨h0, o0, by omega⟩
    · have c7' := i_ne c7
      refine r_iconst (v := 1) C dX9_isSpot_16 (by decide) ?_
      refine r_goto 21 C dX9_isSpot_17 (by decide) ?_
      exact hret _ _ _ _ dX9_isSpot_21 (nar_z (z_of (by omega))) ⟨h0, o0, by omega⟩
set_option maxHeartbeats 4000000 in
set_option maxRecDepth 100000 in
theorem ctX9_isTaken_3 (l : Launch) (G : Gt) (w : Wv) (sC : Str KC XC w) (o0 : Inv RC w) (a1 : Int32) : CtI l G yX9_isTaken cX9_isTaken 4 .boolean ({ frames := 2, cells := 0, slots := 0, locals := 41 } : Room) [.ref (gz G + 3), .int a1] w (fun r w' => Ch [] [] w w' ∧ Inv RC w' ∧ ((0 ≤ r.toInt ∧ r.toInt ≤ 1))) := by
  refine enterI (by decide) (Nat.le_of_ble_eq_true rfl) ?_
  intro x el eG C hret
  subst el; subst eG
  show V x 0 0 w 0 [(0, .ref (gz (xG x) + 3)), (1, .int a1)] []
  have h0 : Ch [] [] w w := Ch.rf
  have q0 : (0 : Int32).toInt = 0 := by decide
  have q1 : (1 : Int32).toInt = 1 := by decide
  have LP11 : ∀ (f12 : Nat) (u9 : Int32) (u10 : Int32) (w13 : Wv), Ch [] [] w w13 → Inv RC w13 → (0 ≤ u9.toInt ∧ u9.toInt ≤ 1) → (0 ≤ u10.toInt ∧ u10.toInt ≤ 2147483647) → 2147483647 - u10.toInt < f12 → V x 0 0 w13 24 [(0, .ref (gz (xG x) + 3)), (1, .int a1), (2, .int u9), (3, .int u10)] [] := by
    intro f12
    induction f12 with
    | zero => intro u9 u10 w13 h14 o15 z16 z17 z18; exfalso; omega
    | succ f12 ih19 =>
      intro u9 u10 w13 h14 o15 z16 z17 z18
      refine r_iload_n 3 C dX9_isTaken_24 rfl ?_
      refine r_aload_n 0 C dX9_isTaken_25 rfl ?_
      refine gfX9_46 (v := (wI w 3 3)) C (kS sC h14 kc_3) (h14.I (by decide) (by decide) rfl) dX9_isTaken_26 ?_
      have b20 := Inv.get o0 rt_3_3 (j := 3) (by decide) (by decide)
      have k22 := i_rng u10
      refine r_icmp_ge 58 C dX9_isTaken_29 (by decide) (fun c21 => ?_) (fun c21 => ?_)
      · have c21' := i_le c21
        refine r_iload_n 2 C dX9_isTaken_58 rfl ?_
        exact hret _ _ _ _ dX9_isTaken_59 (nar_z (z_of (by omega))) ⟨h14, o15, by omega⟩
      · have c21' := i_nle c21
        refine r_iload_n 2 C dX9_isTaken_32 rfl ?_
        refine r_if_ne 46 C dX9_isTaken_33 (by decide) (fun c23 => ?_) (fun c23 => ?_)
        · have c23' := i_ne c23
          refine r_iconst (v := 1) C dX9_isTaken_46 (by decide) ?_
          refine r_goto 51 C dX9_isTaken_47 (by decide) ?_
          refine r_istore_n [(2, .int 1), (0, .ref (gz (xG x) + 3)), (1, .int a1), (3, .int u10)] C dX9_isTaken_51 (by decide) rfl ?_
          obtain ⟨i24, e25⟩ : ∃ z : Int32, u10 + Int32.ofInt 1 = z := ⟨_, rfl⟩
          have i24' := iinc_ok e25 (by decide) (by omega) (by omega)
          refine r_iinc [(3, .int i24), (2, .int 1), (0, .ref (gz (xG x) + 3)), (1, .int a1)] 3 C dX9_isTaken_52 rfl e25 (by decide) rfl ?_
          refine r_goto 24 C dX9_isTaken_55 (by decide) ?_
          refine r_lv [2, 3, 1, 0] rfl ?_
          exact ih19 1 i24 w13 h14 o15 (by omega) (by omega) (by omega)
        · have c23' := i_eq c23
          refine r_aload_n 0 C dX9_isTaken_36 rfl ?_
          refine gfX9_18 6 C (kS sC h14 kc_3) (xS sC h14 xc_3_11) dX9_isTaken_37 ?_
          refine r_iload_n 3 C dX9_isTaken_40 rfl ?_
          refine r_iald C (kS sC h14 kc_6) (vin (by omega) (by omega)) dX9_isTaken_41 ?_
          generalize (wI w13 6 (u10).toNatClampNeg) = v26
          refine r_iload_n 1 C dX9_isTaken_42 rfl ?_
          refine r_icmp_ne 50 C dX9_isTaken_43 (by decide) (fun c27 => ?_) (fun c27 => ?_)
          · have c27' := i_ne c27
            refine r_iconst (v := 0) C dX9_isTaken_50 (by decide) ?_
            refine r_istore_n [(2, .int 0), (0, .ref (gz (xG x) + 3)), (1, .int a1), (3, .int u10)] C dX9_isTaken_51 (by decide) rfl ?_
            obtain ⟨i28, e29⟩ : ∃ z : Int32, u10 + Int32.ofInt 1 = z := ⟨_, rfl⟩
            have i28' := iinc_ok e29 (by decide) (by omega) (by omega)
            refine r_iinc [(3, .int i28), (2, .int 0), (0, .ref (gz (xG x) + 3)), (1, .int a1)] 3 C dX9_isTaken_52 rfl e29 (by decide) rfl ?_
            refine r_goto 24 C dX9_isTaken_55 (by decide) ?_
            refine r_lv [2, 3, 1, 0] rfl ?_
            exact ih19 0 i28 w13 h14 o15 (by omega) (by omega) (by omega)
          · have c27' := i_eq c27
            refine r_iconst (v := 1) C dX9_isTaken_46 (by decide) ?_
            refine r_goto 51 C dX9_isTaken_47 (by decide) ?_
            refine r_istore_n [(2, .int 1), (0, .ref (gz (xG x) + 3)), (1, .int a1), (3, .int u10)] C dX9_isTaken_51 (by decide) rfl ?_
            obtain ⟨i30, e31⟩ : ∃ z : Int32, u10 + Int32.ofInt 1 = z := ⟨_, rfl⟩
            have i30' := iinc_ok e31 (by decide) (by omega) (by omega)
            refine r_iinc [(3, .int i30), (2, .int 1), (0, .ref (gz (xG x) + 3)), (1, .int a1)] 3 C dX9_isTaken_52 rfl e31 (by decide) rfl ?_
            refine r_goto 24 C dX9_isTaken_55 (by decide) ?_
            refine r_lv [2, 3, 1, 0] rfl ?_
            exact ih19 1 i30 w13 h14 o15 (by omega) (by omega) (by omega)
  refine r_aload_n 0 C dX9_isTaken_0 rfl ?_
  refine r_iload_n 1 C dX9_isTaken_1 rfl ?_
  refine callVI C cwX9_71_V (ctX9_isSpot_3 _ _ w (sS sC h0) o0 a1 ) (by decide) (kS sC h0 kc_3) rfl rfl rfl (Nat.le_of_ble_eq_true rfl) (by decide) dX9_isTaken_2 (fun r3 w2 y1 => ?_)
  show V x 0 0 w2 5 [(0, .ref (gz (xG x) + 3)), (1, .int a1)] [.int r3]
  obtain ⟨h4, o5, g6⟩ := y1
  have h7 := Ch.tr h0 h4 (by decide) (by decide)
  refine r_if_ne 16 C dX9_isTaken_5 (by decide) (fun c8 => ?_) (fun c8 => ?_)
  · have c8' := i_ne c8
    refine r_iconst (v := 1) C dX9_isTaken_16 (by decide) ?_
    refine r_goto 21 C dX9_isTaken_17 (by decide) ?_
    refine r_istore_n [(2, .int 1), (0, .ref (gz (xG x) + 3)), (1, .int a1)] C dX9_isTaken_21 (by decide) rfl ?_
    refine r_iconst (v := 0) C dX9_isTaken_22 (by decide) ?_
    refine r_istore_n [(3, .int 0), (2, .int 1), (0, .ref (gz (xG x) + 3)), (1, .int a1)] C dX9_isTaken_23 (by decide) rfl ?_
    refine r_lv [2, 3, 1, 0] rfl ?_
    exact LP11 4294967296 1 0 w2 h7 o5 (by omega) (by omega) (by omega)
  · have c8' := i_eq c8
    refine r_aload_n 0 C dX9_isTaken_8 rfl ?_
    refine gfX9_52 (v := (wI w 3 5)) C (kS sC h7 kc_3) (h4.I (by decide) (by decide) rfl) dX9_isTaken_9 ?_
    refine r_iload_n 1 C dX9_isTaken_12 rfl ?_
    refine r_icmp_ne 20 C dX9_isTaken_13 (by decide) (fun c32 => ?_) (fun c32 => ?_)
    · have c32' := i_ne c32
      refine r_iconst (v := 0) C dX9_isTaken_20 (by decide) ?_
      refine r_istore_n [(2, .int 0), (0, .ref (gz (xG x) + 3)), (1, .int a1)] C dX9_isTaken_21 (by decide) rfl ?_
      refine r_iconst (v := 0) C dX9_isTaken_22 (by decide) ?_
      refine r_istore_n [(3, .int 0), (2, .int 0), (0, .ref (gz (xG x) + 3)), (1, .int a1)] C dX9_isTaken_23 (by decide) rfl ?_
      refine r_lv [2, 3, 1, 0] rfl ?_
      exact LP11 4294967296 0 0 w2 h7 o5 (by omega) (by omega) (by omega)
    · have c32' := i_eq c32
      refine r_iconst (v := 1) C dX9_isTaken_16 (by decide) ?_
      refine r_goto 21 C dX9_isTaken_17 (by decide) ?_
      refine r_istore_n [(2, .int 1), (0, .ref (gz (xG x) + 3)), (1, .int a1)] C dX9_isTaken_21 (by decide) rfl ?_
      refine r_iconst (v := 0) C dX9_isTaken_22 (by decide) ?_
      refine r_istore_n [(3, .int 0), (2, .int 1), (0, .ref (gz (xG x) + 3)), (1, .int a1)] C dX9_isTaken_23 (by decide) rfl ?_
      refine r_lv [2, 3, 1, 0] rfl ?_
      exact LP11 4294967296 1 0 w2 h7 o5 (by omega) (by omega) (by omega)
set_option maxHeartbeats 4000000 in
set_option maxRecDepth 100000 in
theorem ctX9_addSpot_3 (l : Launch) (G : Gt) (w : Wv) (sC : Str KC XC w) (o0 : Inv RC w) (a1 : Int32) (a2 : Int32) : CtV l G yX9_addSpot cX9_addSpot 3 ({ frames := 1, cells := 0, slots := 0, locals := 20 } : Room) [.ref (gz G + 3), .int a1, .int a2] w (fun w' => Ch [4] [(3, 2)] w w' ∧ Inv RC w') := by
  refine enterV (by decide) (Nat.le_of_ble_eq_true rfl) ?_
  intro x el eG C hnm hret
  subst el; subst eG
  show V x 0 0 w 0 [(0, .ref (gz (xG x) + 3)), (1, .int a1), (2, .int a2)] []
  have h0 : Ch [4] [(3, 2)] w w := Ch.rf
  have q0 : (0 : Int32).toInt = 0 := by decide
  have q1 : (1 : Int32).toInt = 1 := by decide
  refine r_iload_n 1 C dX9_addSpot_0 rfl ?_
  refine callSI C cwX9_65_S (ctX1_isCell _ _ w a1 ) (by decide) rfl rfl (Nat.le_of_ble_eq_true rfl) (by decide) dX9_addSpot_1 (fun r3 w2 y1 => ?_)
  obtain ⟨y1, g4⟩ := y1
  obtain rfl := y1.symm
  show V x 0 0 w 4 [(0, .ref (gz (xG x) + 3)), (1, .int a1), (2, .int a2)] [.int r3]
  refine r_if_eq 24 C dX9_addSpot_4 (by decide) (fun c5 => ?_) (fun c5 => ?_)
  · have c5' := i_eq c5
    exact hret _ _ _ dX9_addSpot_24 ⟨h0, o0⟩
  · have c5' := i_ne c5
    refine r_aload_n 0 C dX9_addSpot_7 rfl ?_
    refine gfX9_9 4 C (kS sC h0 kc_3) (xS sC h0 xc_3_9) dX9_addSpot_8 ?_
    refine r_iload_n 1 C dX9_addSpot_11 rfl ?_
    refine r_iload_n 2 C dX9_addSpot_12 rfl ?_
    refine r_iast C (kS sC h0 kc_4) (vin (by omega) (by omega)) dX9_addSpot_13 (fun w6 e7 => ?_)
    have h8 := Ch.putS h0 e7 (by decide)
    have o9 := Inv.put0 o0 e7 (by decide)
    refine r_aload_n 0 C dX9_addSpot_14 rfl ?_
    refine r_dup C dX9_addSpot_15 rfl ?_
    refine gfX9_43 (v := (wI w 3 2)) C (kS sC h8 kc_3) (g_nn e7 (by decide) rfl) dX9_addSpot_16 ?_
    refine r_iconst (v := 1) C dX9_addSpot_19 (by decide) ?_
    refine r_iadd C dX9_addSpot_20 (fun v10 e11 => ?_)
    refine pfX9_43 C (kS sC h8 kc_3) dX9_addSpot_21 (fun w12 e13 => ?_)
    have h14 := Ch.putF h8 e13 (by decide)
    have k16 := i_rng v10
    have o15 := Inv.putk o9 e13 (by decide)
    exact hret _ _ _ dX9_addSpot_24 ⟨h14, o15⟩
set_option maxHeartbeats 4000000 in
set_option maxRecDepth 100000 in
theorem ctX9_addCrowd_3 (l : Launch) (G : Gt) (w : Wv) (sC : Str KC XC w) (o0 : Inv RC w) (a1 : Int32) (a2 : Int32) (a3 : Int32) (a4 : Int32) (a5 : Int32) : CtV l G yX9_addCrowd cX9_addCrowd 6 ({ frames := 0, cells := 0, slots := 0, locals := 0 } : Room) [.ref (gz G + 3), .int a1, .int a2, .int a3, .int a4, .int a5] w (fun w' => Ch [5, 6, 7, 8, 9] [(3, 3)] w w' ∧ Inv RC w') := by
  refine enterV (by decide) (Nat.le_of_ble_eq_true rfl) ?_
  intro x el eG C hnm hret
  subst el; subst eG
  show V x 0 0 w 0 [(0, .ref (gz (xG x) + 3)), (1, .int a1), (2, .int a2), (3, .int a3), (4, .int a4), (5, .int a5)] []
  have h0 : Ch [5, 6, 7, 8, 9] [(3, 3)] w w := Ch.rf
  have q1 : (1 : Int32).toInt = 1 := by decide
  have q6 : (6 : Int32).toInt = 6 := by decide
  refine r_aload_n 0 C dX9_addCrowd_0 rfl ?_
  refine gfX9_46 (v := (wI w 3 3)) C (kS sC h0 kc_3) rfl dX9_addCrowd_1 ?_
  have b1 := Inv.get o0 rt_3_3 (j := 3) (by decide) (by decide)
  refine r_bipush (v := 6) C dX9_addCrowd_4 (by decide) ?_
  refine r_icmp_ge 71 C dX9_addCrowd_6 (by decide) (fun c2 => ?_) (fun c2 => ?_)
  · have c2' := i_le c2
    exact hret _ _ _ dX9_addCrowd_71 ⟨h0, o0⟩
  · have c2' := i_nle c2
    refine r_aload_n 0 C dX9_addCrowd_9 rfl ?_
    refine gfX9_15 5 C (kS sC h0 kc_3) (xS sC h0 xc_3_10) dX9_addCrowd_10 ?_
    refine r_aload_n 0 C dX9_addCrowd_13 rfl ?_
    refine gfX9_46 (v := (wI w 3 3)) C (kS sC h0 kc_3) rfl dX9_addCrowd_14 ?_
    refine r_iload_n 1 C dX9_addCrowd_17 rfl ?_
    refine r_iast C (kS sC h0 kc_5) (vin (by omega) (by omega)) dX9_addCrowd_18 (fun w3 e4 => ?_)
    have h5 := Ch.putS h0 e4 (by decide)
    have o6 := Inv.put0 o0 e4 (by decide)
    refine r_aload_n 0 C dX9_addCrowd_19 rfl ?_
    refine gfX9_18 6 C (kS sC h5 kc_3) (xS sC h5 xc_3_11) dX9_addCrowd_20 ?_
    refine r_aload_n 0 C dX9_addCrowd_23 rfl ?_
    refine gfX9_46 (v := (wI w 3 3)) C (kS sC h5 kc_3) (g_nn e4 (by decide) rfl) dX9_addCrowd_24 ?_
    refine r_iload_n 2 C dX9_addCrowd_27 rfl ?_
    refine r_iast C (kS sC h5 kc_6) (vin (by omega) (by omega)) dX9_addCrowd_28 (fun w7 e8 => ?_)
    have h9 := Ch.putS h5 e8 (by decide)
    have o10 := Inv.put0 o6 e8 (by decide)
    refine r_aload_n 0 C dX9_addCrowd_29 rfl ?_
    refine gfX9_21 7 C (kS sC h9 kc_3) (xS sC h9 xc_3_12) dX9_addCrowd_30 ?_
    refine r_aload_n 0 C dX9_addCrowd_33 rfl ?_
    refine gfX9_46 (v := (wI w 3 3)) C (kS sC h9 kc_3) (g_nn e8 (by decide) (g_nn e4 (by decide) rfl)) dX9_addCrowd_34 ?_
    refine r_iload_n 3 C dX9_addCrowd_37 rfl ?_
    refine r_iast C (kS sC h9 kc_7) (vin (by omega) (by omega)) dX9_addCrowd_38 (fun w11 e12 => ?_)
    have h13 := Ch.putS h9 e12 (by decide)
    have o14 := Inv.put0 o10 e12 (by decide)
    refine r_aload_n 0 C dX9_addCrowd_39 rfl ?_
    refine gfX9_24 8 C (kS sC h13 kc_3) (xS sC h13 xc_3_13) dX9_addCrowd_40 ?_
    refine r_aload_n 0 C dX9_addCrowd_43 rfl ?_
    refine gfX9_46 (v := (wI w 3 3)) C (kS sC h13 kc_3) (g_nn e12 (by decide) (g_nn e8 (by decide) (g_nn e4 (by decide) rfl))) dX9_addCrowd_44 ?_
    refine r_iload 4 C dX9_addCrowd_47 rfl ?_
    refine r_iast C (kS sC h13 kc_8) (vin (by omega) (by omega)) dX9_addCrowd_49 (fun w15 e16 => ?_)
    have h17 := Ch.putS h13 e16 (by decide)
    have o18 := Inv.put0 o14 e16 (by decide)
    refine r_aload_n 0 C dX9_addCrowd_50 rfl ?_
    refine gfX9_27 9 C (kS sC h17 kc_3) (xS sC h17 xc_3_14) dX9_addCrowd_51 ?_
    refine r_aload_n 0 C dX9_addCrowd_54 rfl ?_
    refine gfX9_46 (v := (wI w 3 3)) C (kS sC h17 kc_3) (g_nn e16 (by decide) (g_nn e12 (by decide) (g_nn e8 (by decide) (g_nn e4 (by decide) rfl)))) dX9_addCrowd_55 ?_
    refine r_iload 5 C dX9_addCrowd_58 rfl ?_
    refine r_iast C (kS sC h17 kc_9) (vin (by omega) (by omega)) dX9_addCrowd_60 (fun w19 e20 => ?_)
    have h21 := Ch.putS h17 e20 (by decide)
    have o22 := Inv.put0 o18 e20 (by decide)
    refine r_aload_n 0 C dX9_addCrowd_61 rfl ?_
    refine r_dup C dX9_addCrowd_62 rfl ?_
    refine gfX9_46 (v := (wI w 3 3)) C (kS sC h21 kc_3) (g_nn e20 (by decide) (g_nn e16 (by decide) (g_nn e12 (by decide) (g_nn e8 (by decide) (g_nn e4 (by decide) rfl))))) dX9_addCrowd_63 ?_
    refine r_iconst (v := 1) C dX9_addCrowd_66 (by decide) ?_
    refine r_iadd C dX9_addCrowd_67 (fun v23 e24 => ?_)
    have v23' := iadd_ok e24 (by omega) (by omega)
    refine pfX9_46 C (kS sC h21 kc_3) dX9_addCrowd_68 (fun w25 e26 => ?_)
    have h27 := Ch.putF h21 e26 (by decide)
    have o28 := Inv.put o22 e26 0 6 (by omega) (by decide)
    exact hret _ _ _ dX9_addCrowd_71 ⟨h27, o28⟩
set_option maxHeartbeats 4000000 in
set_option maxRecDepth 100000 in
theorem ctX9_addTune_3 (l : Launch) (G : Gt) (w : Wv) (sC : Str KC XC w) (o0 : Inv RC w) (a1 : Int32) (a2 : Int32) : CtV l G yX9_addTune cX9_addTune 3 ({ frames := 0, cells := 0, slots := 0, locals := 0 } : Room) [.ref (gz G + 3), .int a1, .int a2] w (fun w' => Ch [10, 11] [(3, 4)] w w' ∧ Inv RC w') := by
  refine enterV (by decide) (Nat.le_of_ble_eq_true rfl) ?_
  intro x el eG C hnm hret
  subst el; subst eG
  show V x 0 0 w 0 [(0, .ref (gz (xG x) + 3)), (1, .int a1), (2, .int a2)] []
  have h0 : Ch [10, 11] [(3, 4)] w w := Ch.rf
  have q1 : (1 : Int32).toInt = 1 := by decide
  have q3 : (3 : Int32).toInt = 3 := by decide
  refine r_aload_n 0 C dX9_addTune_0 rfl ?_
  refine gfX9_49 (v := (wI w 3 4)) C (kS sC h0 kc_3) rfl dX9_addTune_1 ?_
  have b1 := Inv.get o0 rt_3_4 (j := 4) (by decide) (by decide)
  refine r_iconst (v := 3) C dX9_addTune_4 (by decide) ?_
  refine r_icmp_ge 38 C dX9_addTune_5 (by decide) (fun c2 => ?_) (fun c2 => ?_)
  · have c2' := i_le c2
    exact hret _ _ _ dX9_addTune_38 ⟨h0, o0⟩
  · have c2' := i_nle c2
    refine r_aload_n 0 C dX9_addTune_8 rfl ?_
    refine gfX9_30 10 C (kS sC h0 kc_3) (xS sC h0 xc_3_15) dX9_addTune_9 ?_
    refine r_aload_n 0 C dX9_addTune_12 rfl ?_
    refine gfX9_49 (v := (wI w 3 4)) C (kS sC h0 kc_3) rfl dX9_addTune_13 ?_
    refine r_iload_n 1 C dX9_addTune_16 rfl ?_
    refine r_iast C (kS sC h0 kc_10) (vin (by omega) (by omega)) dX9_addTune_17 (fun w3 e4 => ?_)
    have h5 := Ch.putS h0 e4 (by decide)
    have o6 := Inv.put0 o0 e4 (by decide)
    refine r_aload_n 0 C dX9_addTune_18 rfl ?_
    refine gfX9_33 11 C (kS sC h5 kc_3) (xS sC h5 xc_3_16) dX9_addTune_19 ?_
    refine r_aload_n 0 C dX9_addTune_22 rfl ?_
    refine gfX9_49 (v := (wI w 3 4)) C (kS sC h5 kc_3) (g_nn e4 (by decide) rfl) dX9_addTune_23 ?_
    refine r_iload_n 2 C dX9_addTune_26 rfl ?_
    refine r_iast C (kS sC h5 kc_11) (vin (by omega) (by omega)) dX9_addTune_27 (fun w7 e8 => ?_)
    have h9 := Ch.putS h5 e8 (by decide)
    have o10 := Inv.put0 o6 e8 (by decide)
    refine r_aload_n 0 C dX9_addTune_28 rfl ?_
    refine r_dup C dX9_addTune_29 rfl ?_
    refine gfX9_49 (v := (wI w 3 4)) C (kS sC h9 kc_3) (g_nn e8 (by decide) (g_nn e4 (by decide) rfl)) dX9_addTune_30 ?_
    refine r_iconst (v := 1) C dX9_addTune_33 (by decide) ?_
    refine r_iadd C dX9_addTune_34 (fun v11 e12 => ?_)
    have v11' := iadd_ok e12 (by omega) (by omega)
    refine pfX9_49 C (kS sC h9 kc_3) dX9_addTune_35 (fun w13 e14 => ?_)
    have h15 := Ch.putF h9 e14 (by decide)
    have o16 := Inv.put o10 e14 0 3 (by omega) (by decide)
    exact hret _ _ _ dX9_addTune_38 ⟨h15, o16⟩
set_option maxHeartbeats 4000000 in
set_option maxRecDepth 100000 in
theorem ctX9_placePiperIfUntold_3 (l : Launch) (G : Gt) (w : Wv) (sC : Str KC XC w) (o0 : Inv RC w)  : CtV l G yX9_placePiperIfUntold cX9_placePiperIfUntold 2 ({ frames := 2, cells := 0, slots := 0, locals := 41 } : Room) [.ref (gz G + 3)] w (fun w' => Ch [] [(3, 5)] w w' ∧ Inv RC w') := by
  refine enterV (by decide) (Nat.le_of_ble_eq_true rfl) ?_
  intro x el eG C hnm hret
  subst el; subst eG
  show V x 0 0 w 0 [(0, .ref (gz (xG x) + 3))] []
  have h0 : Ch [] [(3, 5)] w w := Ch.rf
  have qm1 : ((-1) : Int32).toInt = (-1) := by decide
  have q0 : (0 : Int32).toInt = 0 := by decide
  have LP2 : ∀ (f3 : Nat) (u1 : Int32) (w4 : Wv), Ch [] [(3, 5)] w w4 → Inv RC w4 → (0 ≤ u1.toInt ∧ u1.toInt ≤ 2147483647) → 2147483647 - u1.toInt < f3 → V x 0 0 w4 2 [(0, .ref (gz (xG x) + 3)), (1, .int u1)] [] := by
    intro f3
    induction f3 with
    | zero => intro u1 w4 h5 o6 z7 z8; exfalso; omega
    | succ f3 ih9 =>
      intro u1 w4 h5 o6 z7 z8
      refine r_iload_n 1 C dX9_placePiperIfUntold_2 rfl ?_
      refine r_aload_n 0 C dX9_placePiperIfUntold_3 rfl ?_
      refine gfX9_36 (v := (wI w 3 0)) C (kS sC h5 kc_3) (h5.I (by decide) (by decide) rfl) dX9_placePiperIfUntold_4 ?_
      have b10 := Inv.get o0 rt_3_0 (j := 0) (by decide) (by decide)
      refine r_aload_n 0 C dX9_placePiperIfUntold_7 rfl ?_
      refine gfX9_40 (v := (wI w 3 1)) C (kS sC h5 kc_3) (h5.I (by decide) (by decide) rfl) dX9_placePiperIfUntold_8 ?_
      have b11 := Inv.get o0 rt_3_1 (j := 1) (by decide) (by decide)
      refine r_imul C dX9_placePiperIfUntold_11 (fun v12 e13 => ?_)
      have v12' := imul_rng e13 (A := 9) (B := 9) (by omega) (by omega) (by decide)
      have k15 := i_rng u1
      refine r_icmp_ge 42 C dX9_placePiperIfUntold_12 (by decide) (fun c14 => ?_) (fun c14 => ?_)
      · have c14' := i_le c14
        refine r_aload_n 0 C dX9_placePiperIfUntold_42 rfl ?_
        refine r_aload_n 0 C dX9_placePiperIfUntold_43 rfl ?_
        refine gfX9_52 (v := (wI w4 3 5)) C (kS sC h5 kc_3) rfl dX9_placePiperIfUntold_44 ?_
        refine r_iconst (v := 0) C dX9_placePiperIfUntold_47 (by decide) ?_
        refine r_mmax C mw3_152 mw3_153 mw1_12 mw3_154 (by decide) (Nat.le_of_ble_eq_true rfl) (by decide) (by decide) dX9_placePiperIfUntold_48 (fun v16 e17 => ?_)
        have v16' := imax_ok e17
        refine pfX9_52 C (kS sC h5 kc_3) dX9_placePiperIfUntold_51 (fun w18 e19 => ?_)
        have h20 := Ch.putF h5 e19 (by decide)
        have k22 := i_rng v16
        have o21 := Inv.putk o6 e19 (by decide)
        exact hret _ _ _ dX9_placePiperIfUntold_54 ⟨h20, o21⟩
      · have c14' := i_nle c14
        refine r_aload_n 0 C dX9_placePiperIfUntold_15 rfl ?_
        refine gfX9_52 (v := (wI w4 3 5)) C (kS sC h5 kc_3) rfl dX9_placePiperIfUntold_16 ?_
        refine r_iconst (v := (-1)) C dX9_placePiperIfUntold_19 (by decide) ?_
        refine r_icmp_ne 42 C dX9_placePiperIfUntold_20 (by decide) (fun c23 => ?_) (fun c23 => ?_)
        · have c23' := i_ne c23
          refine r_aload_n 0 C dX9_placePiperIfUntold_42 rfl ?_
          refine r_aload_n 0 C dX9_placePiperIfUntold_43 rfl ?_
          refine gfX9_52 (v := (wI w4 3 5)) C (kS sC h5 kc_3) rfl dX9_placePiperIfUntold_44 ?_
          refine r_iconst (v := 0) C dX9_placePiperIfUntold_47 (by decide) ?_
          refine r_mmax C mw3_152 mw3_153 mw1_12 mw3_154 (by decide) (Nat.le_of_ble_eq_true rfl) (by decide) (by decide) dX9_placePiperIfUntold_48 (fun v24 e25 => ?_)
          have v24' := imax_ok e25
          refine pfX9_52 C (kS sC h5 kc_3) dX9_placePiperIfUntold_51 (fun w26 e27 => ?_)
          have h28 := Ch.putF h5 e27 (by decide)
          have k30 := i_rng v24
          have o29 := Inv.putk o6 e27 (by decide)
          exact hret _ _ _ dX9_placePiperIfUntold_54 ⟨h28, o29⟩
        · have c23' := i_eq c23
          refine r_aload_n 0 C dX9_placePiperIfUntold_23 rfl ?_
          refine r_iload_n 1 C dX9_placePiperIfUntold_24 rfl ?_
          refine callVI C cwX9_71_V (ctX9_isSpot_3 _ _ w4 (sS sC h5) o6 u1 ) (by decide) (kS sC h5 kc_3) rfl rfl rfl (Nat.le_of_ble_eq_true rfl) (by decide) dX9_placePiperIfUntold_25 (fun r33 w32 y31 => ?_)
          show V x 0 0 w32 28 [(0, .ref (gz (xG x) + 3)), (1, .int u1)] [.int r33]
          obtain ⟨h34, o35, g36⟩ := y31
          have h37 := Ch.tr h5 h34 (by decide) (by decide)
          refine r_if_ne 36 C dX9_placePiperIfUntold_28 (by decide) (fun c38 => ?_) (fun c38 => ?_)
          · have c38' := i_ne c38
            obtain ⟨i39, e40⟩ : ∃ z : Int32, u1 + Int32.ofInt 1 = z := ⟨_, rfl⟩
            have i39' := iinc_ok e40 (by decide) (by omega) (by omega)
            refine r_iinc [(1, .int i39), (0, .ref (gz (xG x) + 3))] 1 C dX9_placePiperIfUntold_36 rfl e40 (by decide) rfl ?_
            refine r_goto 2 C dX9_placePiperIfUntold_39 (by decide) ?_
            refine r_lv [1, 0] rfl ?_
            exact ih9 i39 w32 h37 o35 (by omega) (by omega)
          · have c38' := i_eq c38
            refine r_aload_n 0 C dX9_placePiperIfUntold_31 rfl ?_
            refine r_iload_n 1 C dX9_placePiperIfUntold_32 rfl ?_
            refine pfX9_52 C (kS sC h37 kc_3) dX9_placePiperIfUntold_33 (fun w41 e42 => ?_)
            have h43 := Ch.putF h37 e42 (by decide)
            have o44 := Inv.putk o35 e42 (by decide)
            obtain ⟨i45, e46⟩ : ∃ z : Int32, u1 + Int32.ofInt 1 = z := ⟨_, rfl⟩
            have i45' := iinc_ok e46 (by decide) (by omega) (by omega)
            refine r_iinc [(1, .int i45), (0, .ref (gz (xG x) + 3))] 1 C dX9_placePiperIfUntold_36 rfl e46 (by decide) rfl ?_
            refine r_goto 2 C dX9_placePiperIfUntold_39 (by decide) ?_
            refine r_lv [1, 0] rfl ?_
            exact ih9 i45 w41 h43 o44 (by omega) (by omega)
  refine r_iconst (v := 0) C dX9_placePiperIfUntold_0 (by decide) ?_
  refine r_istore_n [(1, .int 0), (0, .ref (gz (xG x) + 3))] C dX9_placePiperIfUntold_1 (by decide) rfl ?_
  refine r_lv [1, 0] rfl ?_
  exact LP2 4294967296 0 w h0 o0 (by omega) (by omega)
set_option maxHeartbeats 4000000 in
set_option maxRecDepth 100000 in
theorem ctX9_clear_12 (l : Launch) (G : Gt) (w : Wv) (sC : Str KC XC w) (o0 : Inv RC w)  : CtV l G yX9_clear cX9_clear 2 ({ frames := 0, cells := 0, slots := 0, locals := 0 } : Room) [.ref (gz G + 12)] w (fun w' => Ch [13] [(12, 0), (12, 1), (12, 2), (12, 3), (12, 4), (12, 5), (12, 6), (12, 7), (12, 8)] w w' ∧ Inv RC w') := by
  refine enterV (by decide) (Nat.le_of_ble_eq_true rfl) ?_
  intro x el eG C hnm hret
  subst el; subst eG
  show V x 0 0 w 0 [(0, .ref (gz (xG x) + 12))] []
  have h0 : Ch [13] [(12, 0), (12, 1), (12, 2), (12, 3), (12, 4), (12, 5), (12, 6), (12, 7), (12, 8)] w w := Ch.rf
  have qm1 : ((-1) : Int32).toInt = (-1) := by decide
  have q0 : (0 : Int32).toInt = 0 := by decide
  have q1 : (1 : Int32).toInt = 1 := by decide
  have q42 : (42 : Int32).toInt = 42 := by decide
  have LP38 : ∀ (f39 : Nat) (u37 : Int32) (w40 : Wv), Ch [13] [(12, 0), (12, 1), (12, 2), (12, 3), (12, 4), (12, 5), (12, 6), (12, 7), (12, 8)] w w40 → Inv RC w40 → (0 ≤ u37.toInt ∧ u37.toInt ≤ 2147483647) → 2147483647 - u37.toInt < f39 → V x 0 0 w40 47 [(0, .ref (gz (xG x) + 12)), (1, .int u37)] [] := by
    intro f39
    induction f39 with
    | zero => intro u37 w40 h41 o42 z43 z44; exfalso; omega
    | succ f39 ih45 =>
      intro u37 w40 h41 o42 z43 z44
      refine r_iload_n 1 C dX9_clear_47 rfl ?_
      refine r_bipush (v := 42) C dX9_clear_48 (by decide) ?_
      have k47 := i_rng u37
      refine r_icmp_ge 66 C dX9_clear_50 (by decide) (fun c46 => ?_) (fun c46 => ?_)
      · have c46' := i_le c46
        exact hret _ _ _ dX9_clear_66 ⟨h41, o42⟩
      · have c46' := i_nle c46
        refine r_aload_n 0 C dX9_clear_53 rfl ?_
        refine gfX9_9 13 C (kS sC h41 kc_12) (xS sC h41 xc_12_9) dX9_clear_54 ?_
        refine r_iload_n 1 C dX9_clear_57 rfl ?_
        refine r_iconst (v := 0) C dX9_clear_58 (by decide) ?_
        refine r_iast C (kS sC h41 kc_13) (vin (by omega) (by omega)) dX9_clear_59 (fun w48 e49 => ?_)
        have h50 := Ch.putS h41 e49 (by decide)
        have o51 := Inv.put0 o42 e49 (by decide)
        obtain ⟨i52, e53⟩ : ∃ z : Int32, u37 + Int32.ofInt 1 = z := ⟨_, rfl⟩
        have i52' := iinc_ok e53 (by decide) (by omega) (by omega)
        refine r_iinc [(1, .int i52), (0, .ref (gz (xG x) + 12))] 1 C dX9_clear_60 rfl e53 (by decide) rfl ?_
        refine r_goto 47 C dX9_clear_63 (by decide) ?_
        refine r_lv [1, 0] rfl ?_
        exact ih45 i52 w48 h50 o51 (by omega) (by omega)
  refine r_aload_n 0 C dX9_clear_0 rfl ?_
  refine r_iconst (v := 0) C dX9_clear_1 (by decide) ?_
  refine pfX9_36 C (kS sC h0 kc_12) dX9_clear_2 (fun w1 e2 => ?_)
  have h3 := Ch.putF h0 e2 (by decide)
  have o4 := Inv.put o0 e2 0 9 (by omega) (by decide)
  refine r_aload_n 0 C dX9_clear_5 rfl ?_
  refine r_iconst (v := 0) C dX9_clear_6 (by decide) ?_
  refine pfX9_40 C (kS sC h3 kc_12) dX9_clear_7 (fun w5 e6 => ?_)
  have h7 := Ch.putF h3 e6 (by decide)
  have o8 := Inv.put o4 e6 0 9 (by omega) (by decide)
  refine r_aload_n 0 C dX9_clear_10 rfl ?_
  refine r_iconst (v := 0) C dX9_clear_11 (by decide) ?_
  refine pfX9_43 C (kS sC h7 kc_12) dX9_clear_12 (fun w9 e10 => ?_)
  have h11 := Ch.putF h7 e10 (by decide)
  have o12 := Inv.putk o8 e10 (by decide)
  refine r_aload_n 0 C dX9_clear_15 rfl ?_
  refine r_iconst (v := 0) C dX9_clear_16 (by decide) ?_
  refine pfX9_46 C (kS sC h11 kc_12) dX9_clear_17 (fun w13 e14 => ?_)
  have h15 := Ch.putF h11 e14 (by decide)
  have o16 := Inv.put o12 e14 0 6 (by omega) (by decide)
  refine r_aload_n 0 C dX9_clear_20 rfl ?_
  refine r_iconst (v := 0) C dX9_clear_21 (by decide) ?_
  refine pfX9_49 C (kS sC h15 kc_12) dX9_clear_22 (fun w17 e18 => ?_)
  have h19 := Ch.putF h15 e18 (by decide)
  have o20 := Inv.put o16 e18 0 3 (by omega) (by decide)
  refine r_aload_n 0 C dX9_clear_25 rfl ?_
  refine r_iconst (v := (-1)) C dX9_clear_26 (by decide) ?_
  refine pfX9_52 C (kS sC h19 kc_12) dX9_clear_27 (fun w21 e22 => ?_)
  have h23 := Ch.putF h19 e22 (by decide)
  have o24 := Inv.putk o20 e22 (by decide)
  refine r_aload_n 0 C dX9_clear_30 rfl ?_
  refine r_iconst (v := 0) C dX9_clear_31 (by decide) ?_
  refine pfX9_55 C (kS sC h23 kc_12) (z_of (by omega)) dX9_clear_32 (fun w25 e26 => ?_)
  have h27 := Ch.putF h23 e26 (by decide)
  have o28 := Inv.put o24 e26 0 1 (by omega) (by decide)
  refine r_aload_n 0 C dX9_clear_35 rfl ?_
  refine r_iconst (v := 1) C dX9_clear_36 (by decide) ?_
  refine pfX9_59 C (kS sC h27 kc_12) dX9_clear_37 (fun w29 e30 => ?_)
  have h31 := Ch.putF h27 e30 (by decide)
  have o32 := Inv.putk o28 e30 (by decide)
  refine r_aload_n 0 C dX9_clear_40 rfl ?_
  refine r_iconst (v := 1) C dX9_clear_41 (by decide) ?_
  refine pfX9_62 C (kS sC h31 kc_12) dX9_clear_42 (fun w33 e34 => ?_)
  have h35 := Ch.putF h31 e34 (by decide)
  have o36 := Inv.putk o32 e34 (by decide)
  refine r_iconst (v := 0) C dX9_clear_45 (by decide) ?_
  refine r_istore_n [(1, .int 0), (0, .ref (gz (xG x) + 12))] C dX9_clear_46 (by decide) rfl ?_
  refine r_lv [1, 0] rfl ?_
  exact LP38 4294967296 0 w33 h35 o36 (by omega) (by omega)
set_option maxHeartbeats 4000000 in
set_option maxRecDepth 100000 in
theorem ctX9_isSpot_12 (l : Launch) (G : Gt) (w : Wv) (sC : Str KC XC w) (o0 : Inv RC w) (a1 : Int32) : CtI l G yX9_isSpot cX9_isSpot 2 .boolean ({ frames := 1, cells := 0, slots := 0, locals := 20 } : Room) [.ref (gz G + 12), .int a1] w (fun r w' => Ch [] [] w w' ∧ Inv RC w' ∧ ((0 ≤ r.toInt ∧ r.toInt ≤ 1))) := by
  refine enterI (by decide) (Nat.le_of_ble_eq_true rfl) ?_
  intro x el eG C hret
  subst el; subst eG
  show V x 0 0 w 0 [(0, .ref (gz (xG x) + 12)), (1, .int a1)] []
  have h0 : Ch [] [] w w := Ch.rf
  have q0 : (0 : Int32).toInt = 0 := by decide
  have q1 : (1 : Int32).toInt = 1 := by decide
  refine r_iload_n 1 C dX9_isSpot_0 rfl ?_
  refine callSI C cwX9_65_S (ctX1_isCell _ _ w a1 ) (by decide) rfl rfl (Nat.le_of_ble_eq_true rfl) (by decide) dX9_isSpot_1 (fun r3 w2 y1 => ?_)
  obtain ⟨y1, g4⟩ := y1
  obtain rfl := y1.symm
  show V x 0 0 w 4 [(0, .ref (gz (xG x) + 12)), (1, .int a1)] [.int r3]
  refine r_if_eq 20 C dX9_isSpot_4 (by decide) (fun c5 => ?_) (fun c5 => ?_)
  · have c5' := i_eq c5
    refine r_iconst (v := 0) C dX9_isSpot_20 (by decide) ?_
    exact hret _ _ _ _ dX9_isSpot_21 (nar_z (z_of (by omega))) ⟨h0, o0, by omega⟩
  · have c5' := i_ne c5
    refine r_aload_n 0 C dX9_isSpot_7 rfl ?_
    refine gfX9_9 13 C (kS sC h0 kc_12) (xS sC h0 xc_12_9) dX9_isSpot_8 ?_
    refine r_iload_n 1 C dX9_isSpot_11 rfl ?_
    refine r_iald C (kS sC h0 kc_13) (vin (by omega) (by omega)) dX9_isSpot_12 ?_
    generalize (wI w 13 (a1).toNatClampNeg) = v6
    refine r_if_eq 20 C dX9_isSpot_13 (by decide) (fun c7 => ?_) (fun c7 => ?_)
    · have c7' := i_eq c7
      refine r_iconst (v := 0) C dX9_isSpot_20 (by decide) ?_
      exact hret _ _ _ _ dX9_isSpot_21 (nar_z (z_of (by omega))) ⟨h0, o0, by omega⟩
    · have c7' := i_ne c7
      refine r_iconst (v := 1) C dX9_isSpot_16 (by decide) ?_
      refine r_goto 21 C dX9_isSpot_17 (by decide) ?_
      exact hret _ _ _ _ dX9_isSpot_21 (nar_z (z_of (by omega))) ⟨h0, o0, by omega⟩
set_option maxHeartbeats 4000000 in
set_option maxRecDepth 100000 in
theorem ctX9_isTaken_12 (l : Launch) (G : Gt) (w : Wv) (sC : Str KC XC w) (o0 : Inv RC w) (a1 : Int32) : CtI l G yX9_isTaken cX9_isTaken 4 .boolean ({ frames := 2, cells := 0, slots := 0, locals := 41 } : Room) [.ref (gz G + 12), .int a1] w (fun r w' => Ch [] [] w w' ∧ Inv RC w' ∧ ((0 ≤ r.toInt ∧ r.toInt ≤ 1))) := by
  refine enterI (by decide) (Nat.le_of_ble_eq_true rfl) ?_
  intro x el eG C hret
  subst el; subst eG
  show V x 0 0 w 0 [(0, .ref (gz (xG x) + 12)), (1, .int a1)] []
  have h0 : Ch [] [] w w := Ch.rf
  have q0 : (0 : Int32).toInt = 0 := by decide
  have q1 : (1 : Int32).toInt = 1 := by decide
  have LP11 : ∀ (f12 : Nat) (u9 : Int32) (u10 : Int32) (w13 : Wv), Ch [] [] w w13 → Inv RC w13 → (0 ≤ u9.toInt ∧ u9.toInt ≤ 1) → (0 ≤ u10.toInt ∧ u10.toInt ≤ 2147483647) → 2147483647 - u10.toInt < f12 → V x 0 0 w13 24 [(0, .ref (gz (xG x) + 12)), (1, .int a1), (2, .int u9), (3, .int u10)] [] := by
    intro f12
    induction f12 with
    | zero => intro u9 u10 w13 h14 o15 z16 z17 z18; exfalso; omega
    | succ f12 ih19 =>
      intro u9 u10 w13 h14 o15 z16 z17 z18
      refine r_iload_n 3 C dX9_isTaken_24 rfl ?_
      refine r_aload_n 0 C dX9_isTaken_25 rfl ?_
      refine gfX9_46 (v := (wI w 12 3)) C (kS sC h14 kc_12) (h14.I (by decide) (by decide) rfl) dX9_isTaken_26 ?_
      have b20 := Inv.get o0 rt_12_3 (j := 3) (by decide) (by decide)
      have k22 := i_rng u10
      refine r_icmp_ge 58 C dX9_isTaken_29 (by decide) (fun c21 => ?_) (fun c21 => ?_)
      · have c21' := i_le c21
        refine r_iload_n 2 C dX9_isTaken_58 rfl ?_
        exact hret _ _ _ _ dX9_isTaken_59 (nar_z (z_of (by omega))) ⟨h14, o15, by omega⟩
      · have c21' := i_nle c21
        refine r_iload_n 2 C dX9_isTaken_32 rfl ?_
        refine r_if_ne 46 C dX9_isTaken_33 (by decide) (fun c23 => ?_) (fun c23 => ?_)
        · have c23' := i_ne c23
          refine r_iconst (v := 1) C dX9_isTaken_46 (by decide) ?_
          refine r_goto 51 C dX9_isTaken_47 (by decide) ?_
          refine r_istore_n [(2, .int 1), (0, .ref (gz (xG x) + 12)), (1, .int a1), (3, .int u10)] C dX9_isTaken_51 (by decide) rfl ?_
          obtain ⟨i24, e25⟩ : ∃ z : Int32, u10 + Int32.ofInt 1 = z := ⟨_, rfl⟩
          have i24' := iinc_ok e25 (by decide) (by omega) (by omega)
          refine r_iinc [(3, .int i24), (2, .int 1), (0, .ref (gz (xG x) + 12)), (1, .int a1)] 3 C dX9_isTaken_52 rfl e25 (by decide) rfl ?_
          refine r_goto 24 C dX9_isTaken_55 (by decide) ?_
          refine r_lv [2, 3, 1, 0] rfl ?_
          exact ih19 1 i24 w13 h14 o15 (by omega) (by omega) (by omega)
        · have c23' := i_eq c23
          refine r_aload_n 0 C dX9_isTaken_36 rfl ?_
          refine gfX9_18 15 C (kS sC h14 kc_12) (xS sC h14 xc_12_11) dX9_isTaken_37 ?_
          refine r_iload_n 3 C dX9_isTaken_40 rfl ?_
          refine r_iald C (kS sC h14 kc_15) (vin (by omega) (by omega)) dX9_isTaken_41 ?_
          generalize (wI w13 15 (u10).toNatClampNeg) = v26
          refine r_iload_n 1 C dX9_isTaken_42 rfl ?_
          refine r_icmp_ne 50 C dX9_isTaken_43 (by decide) (fun c27 => ?_) (fun c27 => ?_)
          · have c27' := i_ne c27
            refine r_iconst (v := 0) C dX9_isTaken_50 (by decide) ?_
            refine r_istore_n [(2, .int 0), (0, .ref (gz (xG x) + 12)), (1, .int a1), (3, .int u10)] C dX9_isTaken_51 (by decide) rfl ?_
            obtain ⟨i28, e29⟩ : ∃ z : Int32, u10 + Int32.ofInt 1 = z := ⟨_, rfl⟩
            have i28' := iinc_ok e29 (by decide) (by omega) (by omega)
            refine r_iinc [(3, .int i28), (2, .int 0), (0, .ref (gz (xG x) + 12)), (1, .int a1)] 3 C dX9_isTaken_52 rfl e29 (by decide) rfl ?_
            refine r_goto 24 C dX9_isTaken_55 (by decide) ?_
            refine r_lv [2, 3, 1, 0] rfl ?_
            exact ih19 0 i28 w13 h14 o15 (by omega) (by omega) (by omega)
          · have c27' := i_eq c27
            refine r_iconst (v := 1) C dX9_isTaken_46 (by decide) ?_
            refine r_goto 51 C dX9_isTaken_47 (by decide) ?_
            refine r_istore_n [(2, .int 1), (0, .ref (gz (xG x) + 12)), (1, .int a1), (3, .int u10)] C dX9_isTaken_51 (by decide) rfl ?_
            obtain ⟨i30, e31⟩ : ∃ z : Int32, u10 + Int32.ofInt 1 = z := ⟨_, rfl⟩
            have i30' := iinc_ok e31 (by decide) (by omega) (by omega)
            refine r_iinc [(3, .int i30), (2, .int 1), (0, .ref (gz (xG x) + 12)), (1, .int a1)] 3 C dX9_isTaken_52 rfl e31 (by decide) rfl ?_
            refine r_goto 24 C dX9_isTaken_55 (by decide) ?_
            refine r_lv [2, 3, 1, 0] rfl ?_
            exact ih19 1 i30 w13 h14 o15 (by omega) (by omega) (by omega)
  refine r_aload_n 0 C dX9_isTaken_0 rfl ?_
  refine r_iload_n 1 C dX9_isTaken_1 rfl ?_
  refine callVI C cwX9_71_V (ctX9_isSpot_12 _ _ w (sS sC h0) o0 a1 ) (by decide) (kS sC h0 kc_12) rfl rfl rfl (Nat.le_of_ble_eq_true rfl) (by decide) dX9_isTaken_2 (fun r3 w2 y1 => ?_)
  show V x 0 0 w2 5 [(0, .ref (gz (xG x) + 12)), (1, .int a1)] [.int r3]
  obtain ⟨h4, o5, g6⟩ := y1
  have h7 := Ch.tr h0 h4 (by decide) (by decide)
  refine r_if_ne 16 C dX9_isTaken_5 (by decide) (fun c8 => ?_) (fun c8 => ?_)
  · have c8' := i_ne c8
    refine r_iconst (v := 1) C dX9_isTaken_16 (by decide) ?_
    refine r_goto 21 C dX9_isTaken_17 (by decide) ?_
    refine r_istore_n [(2, .int 1), (0, .ref (gz (xG x) + 12)), (1, .int a1)] C dX9_isTaken_21 (by decide) rfl ?_
    refine r_iconst (v := 0) C dX9_isTaken_22 (by decide) ?_
    refine r_istore_n [(3, .int 0), (2, .int 1), (0, .ref (gz (xG x) + 12)), (1, .int a1)] C dX9_isTaken_23 (by decide) rfl ?_
    refine r_lv [2, 3, 1, 0] rfl ?_
    exact LP11 4294967296 1 0 w2 h7 o5 (by omega) (by omega) (by omega)
  · have c8' := i_eq c8
    refine r_aload_n 0 C dX9_isTaken_8 rfl ?_
    refine gfX9_52 (v := (wI w 12 5)) C (kS sC h7 kc_12) (h4.I (by decide) (by decide) rfl) dX9_isTaken_9 ?_
    refine r_iload_n 1 C dX9_isTaken_12 rfl ?_
    refine r_icmp_ne 20 C dX9_isTaken_13 (by decide) (fun c32 => ?_) (fun c32 => ?_)
    · have c32' := i_ne c32
      refine r_iconst (v := 0) C dX9_isTaken_20 (by decide) ?_
      refine r_istore_n [(2, .int 0), (0, .ref (gz (xG x) + 12)), (1, .int a1)] C dX9_isTaken_21 (by decide) rfl ?_
      refine r_iconst (v := 0) C dX9_isTaken_22 (by decide) ?_
      refine r_istore_n [(3, .int 0), (2, .int 0), (0, .ref (gz (xG x) + 12)), (1, .int a1)] C dX9_isTaken_23 (by decide) rfl ?_
      refine r_lv [2, 3, 1, 0] rfl ?_
      exact LP11 4294967296 0 0 w2 h7 o5 (by omega) (by omega) (by omega)
    · have c32' := i_eq c32
      refine r_iconst (v := 1) C dX9_isTaken_16 (by decide) ?_
      refine r_goto 21 C dX9_isTaken_17 (by decide) ?_
      refine r_istore_n [(2, .int 1), (0, .ref (gz (xG x) + 12)), (1, .int a1)] C dX9_isTaken_21 (by decide) rfl ?_
      refine r_iconst (v := 0) C dX9_isTaken_22 (by decide) ?_
      refine r_istore_n [(3, .int 0), (2, .int 1), (0, .ref (gz (xG x) + 12)), (1, .int a1)] C dX9_isTaken_23 (by decide) rfl ?_
      refine r_lv [2, 3, 1, 0] rfl ?_
      exact LP11 4294967296 1 0 w2 h7 o5 (by omega) (by omega) (by omega)
set_option maxHeartbeats 4000000 in
set_option maxRecDepth 100000 in
theorem ctX9_addSpot_12 (l : Launch) (G : Gt) (w : Wv) (sC : Str KC XC w) (o0 : Inv RC w) (a1 : Int32) (a2 : Int32) : CtV l G yX9_addSpot cX9_addSpot 3 ({ frames := 1, cells := 0, slots := 0, locals := 20 } : Room) [.ref (gz G + 12), .int a1, .int a2] w (fun w' => Ch [13] [(12, 2)] w w' ∧ Inv RC w') := by
  refine enterV (by decide) (Nat.le_of_ble_eq_true rfl) ?_
  intro x el eG C hnm hret
  subst el; subst eG
  show V x 0 0 w 0 [(0, .ref (gz (xG x) + 12)), (1, .int a1), (2, .int a2)] []
  have h0 : Ch [13] [(12, 2)] w w := Ch.rf
  have q0 : (0 : Int32).toInt = 0 := by decide
  have q1 : (1 : Int32).toInt = 1 := by decide
  refine r_iload_n 1 C dX9_addSpot_0 rfl ?_
  refine callSI C cwX9_65_S (ctX1_isCell _ _ w a1 ) (by decide) rfl rfl (Nat.le_of_ble_eq_true rfl) (by decide) dX9_addSpot_1 (fun r3 w2 y1 => ?_)
  obtain ⟨y1, g4⟩ := y1
  obtain rfl := y1.symm
  show V x 0 0 w 4 [(0, .ref (gz (xG x) + 12)), (1, .int a1), (2, .int a2)] [.int r3]
  refine r_if_eq 24 C dX9_addSpot_4 (by decide) (fun c5 => ?_) (fun c5 => ?_)
  · have c5' := i_eq c5
    exact hret _ _ _ dX9_addSpot_24 ⟨h0, o0⟩
  · have c5' := i_ne c5
    refine r_aload_n 0 C dX9_addSpot_7 rfl ?_
    refine gfX9_9 13 C (kS sC h0 kc_12) (xS sC h0 xc_12_9) dX9_addSpot_8 ?_
    refine r_iload_n 1 C dX9_addSpot_11 rfl ?_
    refine r_iload_n 2 C dX9_addSpot_12 rfl ?_
    refine r_iast C (kS sC h0 kc_13) (vin (by omega) (by omega)) dX9_addSpot_13 (fun w6 e7 => ?_)
    have h8 := Ch.putS h0 e7 (by decide)
    have o9 := Inv.put0 o0 e7 (by decide)
    refine r_aload_n 0 C dX9_addSpot_14 rfl ?_
    refine r_dup C dX9_addSpot_15 rfl ?_
    refine gfX9_43 (v := (wI w 12 2)) C (kS sC h8 kc_12) (g_nn e7 (by decide) rfl) dX9_addSpot_16 ?_
    refine r_iconst (v := 1) C dX9_addSpot_19 (by decide) ?_
    refine r_iadd C dX9_addSpot_20 (fun v10 e11 => ?_)
    refine pfX9_43 C (kS sC h8 kc_12) dX9_addSpot_21 (fun w12 e13 => ?_)
    have h14 := Ch.putF h8 e13 (by decide)
    have k16 := i_rng v10
    have o15 := Inv.putk o9 e13 (by decide)
    exact hret _ _ _ dX9_addSpot_24 ⟨h14, o15⟩
set_option maxHeartbeats 4000000 in
set_option maxRecDepth 100000 in
theorem ctX9_addCrowd_12 (l : Launch) (G : Gt) (w : Wv) (sC : Str KC XC w) (o0 : Inv RC w) (a1 : Int32) (a2 : Int32) (a3 : Int32) (a4 : Int32) (a5 : Int32) : CtV l G yX9_addCrowd cX9_addCrowd 6 ({ frames := 0, cells := 0, slots := 0, locals := 0 } : Room) [.ref (gz G + 12), .int a1, .int a2, .int a3, .int a4, .int a5] w (fun w' => Ch [14, 15, 16, 17, 18] [(12, 3)] w w' ∧ Inv RC w') := by
  refine enterV (by decide) (Nat.le_of_ble_eq_true rfl) ?_
  intro x el eG C hnm hret
  subst el; subst eG
  show V x 0 0 w 0 [(0, .ref (gz (xG x) + 12)), (1, .int a1), (2, .int a2), (3, .int a3), (4, .int a4), (5, .int a5)] []
  have h0 : Ch [14, 15, 16, 17, 18] [(12, 3)] w w := Ch.rf
  have q1 : (1 : Int32).toInt = 1 := by decide
  have q6 : (6 : Int32).toInt = 6 := by decide
  refine r_aload_n 0 C dX9_addCrowd_0 rfl ?_
  refine gfX9_46 (v := (wI w 12 3)) C (kS sC h0 kc_12) rfl dX9_addCrowd_1 ?_
  have b1 := Inv.get o0 rt_12_3 (j := 3) (by decide) (by decide)
  refine r_bipush (v := 6) C dX9_addCrowd_4 (by decide) ?_
  refine r_icmp_ge 71 C dX9_addCrowd_6 (by decide) (fun c2 => ?_) (fun c2 => ?_)
  · have c2' := i_le c2
    exact hret _ _ _ dX9_addCrowd_71 ⟨h0, o0⟩
  · have c2' := i_nle c2
    refine r_aload_n 0 C dX9_addCrowd_9 rfl ?_
    refine gfX9_15 14 C (kS sC h0 kc_12) (xS sC h0 xc_12_10) dX9_addCrowd_10 ?_
    refine r_aload_n 0 C dX9_addCrowd_13 rfl ?_
    refine gfX9_46 (v := (wI w 12 3)) C (kS sC h0 kc_12) rfl dX9_addCrowd_14 ?_
    refine r_iload_n 1 C dX9_addCrowd_17 rfl ?_
    refine r_iast C (kS sC h0 kc_14) (vin (by omega) (by omega)) dX9_addCrowd_18 (fun w3 e4 => ?_)
    have h5 := Ch.putS h0 e4 (by decide)
    have o6 := Inv.put0 o0 e4 (by decide)
    refine r_aload_n 0 C dX9_addCrowd_19 rfl ?_
    refine gfX9_18 15 C (kS sC h5 kc_12) (xS sC h5 xc_12_11) dX9_addCrowd_20 ?_
    refine r_aload_n 0 C dX9_addCrowd_23 rfl ?_
    refine gfX9_46 (v := (wI w 12 3)) C (kS sC h5 kc_12) (g_nn e4 (by decide) rfl) dX9_addCrowd_24 ?_
    refine r_iload_n 2 C dX9_addCrowd_27 rfl ?_
    refine r_iast C (kS sC h5 kc_15) (vin (by omega) (by omega)) dX9_addCrowd_28 (fun w7 e8 => ?_)
    have h9 := Ch.putS h5 e8 (by decide)
    have o10 := Inv.put0 o6 e8 (by decide)
    refine r_aload_n 0 C dX9_addCrowd_29 rfl ?_
    refine gfX9_21 16 C (kS sC h9 kc_12) (xS sC h9 xc_12_12) dX9_addCrowd_30 ?_
    refine r_aload_n 0 C dX9_addCrowd_33 rfl ?_
    refine gfX9_46 (v := (wI w 12 3)) C (kS sC h9 kc_12) (g_nn e8 (by decide) (g_nn e4 (by decide) rfl)) dX9_addCrowd_34 ?_
    refine r_iload_n 3 C dX9_addCrowd_37 rfl ?_
    refine r_iast C (kS sC h9 kc_16) (vin (by omega) (by omega)) dX9_addCrowd_38 (fun w11 e12 => ?_)
    have h13 := Ch.putS h9 e12 (by decide)
    have o14 := Inv.put0 o10 e12 (by decide)
    refine r_aload_n 0 C dX9_addCrowd_39 rfl ?_
    refine gfX9_24 17 C (kS sC h13 kc_12) (xS sC h13 xc_12_13) dX9_addCrowd_40 ?_
    refine r_aload_n 0 C dX9_addCrowd_43 rfl ?_
    refine gfX9_46 (v := (wI w 12 3)) C (kS sC h13 kc_12) (g_nn e12 (by decide) (g_nn e8 (by decide) (g_nn e4 (by decide) rfl))) dX9_addCrowd_44 ?_
    refine r_iload 4 C dX9_addCrowd_47 rfl ?_
    refine r_iast C (kS sC h13 kc_17) (vin (by omega) (by omega)) dX9_addCrowd_49 (fun w15 e16 => ?_)
    have h17 := Ch.putS h13 e16 (by decide)
    have o18 := Inv.put0 o14 e16 (by decide)
    refine r_aload_n 0 C dX9_addCrowd_50 rfl ?_
    refine gfX9_27 18 C (kS sC h17 kc_12) (xS sC h17 xc_12_14) dX9_addCrowd_51 ?_
    refine r_aload_n 0 C dX9_addCrowd_54 rfl ?_
    refine gfX9_46 (v := (wI w 12 3)) C (kS sC h17 kc_12) (g_nn e16 (by decide) (g_nn e12 (by decide) (g_nn e8 (by decide) (g_nn e4 (by decide) rfl)))) dX9_addCrowd_55 ?_
    refine r_iload 5 C dX9_addCrowd_58 rfl ?_
    refine r_iast C (kS sC h17 kc_18) (vin (by omega) (by omega)) dX9_addCrowd_60 (fun w19 e20 => ?_)
    have h21 := Ch.putS h17 e20 (by decide)
    have o22 := Inv.put0 o18 e20 (by decide)
    refine r_aload_n 0 C dX9_addCrowd_61 rfl ?_
    refine r_dup C dX9_addCrowd_62 rfl ?_
    refine gfX9_46 (v := (wI w 12 3)) C (kS sC h21 kc_12) (g_nn e20 (by decide) (g_nn e16 (by decide) (g_nn e12 (by decide) (g_nn e8 (by decide) (g_nn e4 (by decide) rfl))))) dX9_addCrowd_63 ?_
    refine r_iconst (v := 1) C dX9_addCrowd_66 (by decide) ?_
    refine r_iadd C dX9_addCrowd_67 (fun v23 e24 => ?_)
    have v23' := iadd_ok e24 (by omega) (by omega)
    refine pfX9_46 C (kS sC h21 kc_12) dX9_addCrowd_68 (fun w25 e26 => ?_)
    have h27 := Ch.putF h21 e26 (by decide)
    have o28 := Inv.put o22 e26 0 6 (by omega) (by decide)
    exact hret _ _ _ dX9_addCrowd_71 ⟨h27, o28⟩
set_option maxHeartbeats 4000000 in
set_option maxRecDepth 100000 in
theorem ctX9_addTune_12 (l : Launch) (G : Gt) (w : Wv) (sC : Str KC XC w) (o0 : Inv RC w) (a1 : Int32) (a2 : Int32) : CtV l G yX9_addTune cX9_addTune 3 ({ frames := 0, cells := 0, slots := 0, locals := 0 } : Room) [.ref (gz G + 12), .int a1, .int a2] w (fun w' => Ch [19, 20] [(12, 4)] w w' ∧ Inv RC w') := by
  refine enterV (by decide) (Nat.le_of_ble_eq_true rfl) ?_
  intro x el eG C hnm hret
  subst el; subst eG
  show V x 0 0 w 0 [(0, .ref (gz (xG x) + 12)), (1, .int a1), (2, .int a2)] []
  have h0 : Ch [19, 20] [(12, 4)] w w := Ch.rf
  have q1 : (1 : Int32).toInt = 1 := by decide
  have q3 : (3 : Int32).toInt = 3 := by decide
  refine r_aload_n 0 C dX9_addTune_0 rfl ?_
  refine gfX9_49 (v := (wI w 12 4)) C (kS sC h0 kc_12) rfl dX9_addTune_1 ?_
  have b1 := Inv.get o0 rt_12_4 (j := 4) (by decide) (by decide)
  refine r_iconst (v := 3) C dX9_addTune_4 (by decide) ?_
  refine r_icmp_ge 38 C dX9_addTune_5 (by decide) (fun c2 => ?_) (fun c2 => ?_)
  · have c2' := i_le c2
    exact hret _ _ _ dX9_addTune_38 ⟨h0, o0⟩
  · have c2' := i_nle c2
    refine r_aload_n 0 C dX9_addTune_8 rfl ?_
    refine gfX9_30 19 C (kS sC h0 kc_12) (xS sC h0 xc_12_15) dX9_addTune_9 ?_
    refine r_aload_n 0 C dX9_addTune_12 rfl ?_
    refine gfX9_49 (v := (wI w 12 4)) C (kS sC h0 kc_12) rfl dX9_addTune_13 ?_
    refine r_iload_n 1 C dX9_addTune_16 rfl ?_
    refine r_iast C (kS sC h0 kc_19) (vin (by omega) (by omega)) dX9_addTune_17 (fun w3 e4 => ?_)
    have h5 := Ch.putS h0 e4 (by decide)
    have o6 := Inv.put0 o0 e4 (by decide)
    refine r_aload_n 0 C dX9_addTune_18 rfl ?_
    refine gfX9_33 20 C (kS sC h5 kc_12) (xS sC h5 xc_12_16) dX9_addTune_19 ?_
    refine r_aload_n 0 C dX9_addTune_22 rfl ?_
    refine gfX9_49 (v := (wI w 12 4)) C (kS sC h5 kc_12) (g_nn e4 (by decide) rfl) dX9_addTune_23 ?_
    refine r_iload_n 2 C dX9_addTune_26 rfl ?_
    refine r_iast C (kS sC h5 kc_20) (vin (by omega) (by omega)) dX9_addTune_27 (fun w7 e8 => ?_)
    have h9 := Ch.putS h5 e8 (by decide)
    have o10 := Inv.put0 o6 e8 (by decide)
    refine r_aload_n 0 C dX9_addTune_28 rfl ?_
    refine r_dup C dX9_addTune_29 rfl ?_
    refine gfX9_49 (v := (wI w 12 4)) C (kS sC h9 kc_12) (g_nn e8 (by decide) (g_nn e4 (by decide) rfl)) dX9_addTune_30 ?_
    refine r_iconst (v := 1) C dX9_addTune_33 (by decide) ?_
    refine r_iadd C dX9_addTune_34 (fun v11 e12 => ?_)
    have v11' := iadd_ok e12 (by omega) (by omega)
    refine pfX9_49 C (kS sC h9 kc_12) dX9_addTune_35 (fun w13 e14 => ?_)
    have h15 := Ch.putF h9 e14 (by decide)
    have o16 := Inv.put o10 e14 0 3 (by omega) (by decide)
    exact hret _ _ _ dX9_addTune_38 ⟨h15, o16⟩
set_option maxHeartbeats 4000000 in
set_option maxRecDepth 100000 in
theorem ctX9_placePiperIfUntold_12 (l : Launch) (G : Gt) (w : Wv) (sC : Str KC XC w) (o0 : Inv RC w)  : CtV l G yX9_placePiperIfUntold cX9_placePiperIfUntold 2 ({ frames := 2, cells := 0, slots := 0, locals := 41 } : Room) [.ref (gz G + 12)] w (fun w' => Ch [] [(12, 5)] w w' ∧ Inv RC w') := by
  refine enterV (by decide) (Nat.le_of_ble_eq_true rfl) ?_
  intro x el eG C hnm hret
  subst el; subst eG
  show V x 0 0 w 0 [(0, .ref (gz (xG x) + 12))] []
  have h0 : Ch [] [(12, 5)] w w := Ch.rf
  have qm1 : ((-1) : Int32).toInt = (-1) := by decide
  have q0 : (0 : Int32).toInt = 0 := by decide
  have LP2 : ∀ (f3 : Nat) (u1 : Int32) (w4 : Wv), Ch [] [(12, 5)] w w4 → Inv RC w4 → (0 ≤ u1.toInt ∧ u1.toInt ≤ 2147483647) → 2147483647 - u1.toInt < f3 → V x 0 0 w4 2 [(0, .ref (gz (xG x) + 12)), (1, .int u1)] [] := by
    intro f3
    induction f3 with
    | zero => intro u1 w4 h5 o6 z7 z8; exfalso; omega
    | succ f3 ih9 =>
      intro u1 w4 h5 o6 z7 z8
      refine r_iload_n 1 C dX9_placePiperIfUntold_2 rfl ?_
      refine r_aload_n 0 C dX9_placePiperIfUntold_3 rfl ?_
      refine gfX9_36 (v := (wI w 12 0)) C (kS sC h5 kc_12) (h5.I (by decide) (by decide) rfl) dX9_placePiperIfUntold_4 ?_
      have b10 := Inv.get o0 rt_12_0 (j := 0) (by decide) (by decide)
      refine r_aload_n 0 C dX9_placePiperIfUntold_7 rfl ?_
      refine gfX9_40 (v := (wI w 12 1)) C (kS sC h5 kc_12) (h5.I (by decide) (by decide) rfl) dX9_placePiperIfUntold_8 ?_
      have b11 := Inv.get o0 rt_12_1 (j := 1) (by decide) (by decide)
      refine r_imul C dX9_placePiperIfUntold_11 (fun v12 e13 => ?_)
      have v12' := imul_rng e13 (A := 9) (B := 9) (by omega) (by omega) (by decide)
      have k15 := i_rng u1
      refine r_icmp_ge 42 C dX9_placePiperIfUntold_12 (by decide) (fun c14 => ?_) (fun c14 => ?_)
      · have c14' := i_le c14
        refine r_aload_n 0 C dX9_placePiperIfUntold_42 rfl ?_
        refine r_aload_n 0 C dX9_placePiperIfUntold_43 rfl ?_
        refine gfX9_52 (v := (wI w4 12 5)) C (kS sC h5 kc_12) rfl dX9_placePiperIfUntold_44 ?_
        refine r_iconst (v := 0) C dX9_placePiperIfUntold_47 (by decide) ?_
        refine r_mmax C mw3_152 mw3_153 mw1_12 mw3_154 (by decide) (Nat.le_of_ble_eq_true rfl) (by decide) (by decide) dX9_placePiperIfUntold_48 (fun v16 e17 => ?_)
        have v16' := imax_ok e17
        refine pfX9_52 C (kS sC h5 kc_12) dX9_placePiperIfUntold_51 (fun w18 e19 => ?_)
        have h20 := Ch.putF h5 e19 (by decide)
        have k22 := i_rng v16
        have o21 := Inv.putk o6 e19 (by decide)
        exact hret _ _ _ dX9_placePiperIfUntold_54 ⟨h20, o21⟩
      · have c14' := i_nle c14
        refine r_aload_n 0 C dX9_placePiperIfUntold_15 rfl ?_
        refine gfX9_52 (v := (wI w4 12 5)) C (kS sC h5 kc_12) rfl dX9_placePiperIfUntold_16 ?_
        refine r_iconst (v := (-1)) C dX9_placePiperIfUntold_19 (by decide) ?_
        refine r_icmp_ne 42 C dX9_placePiperIfUntold_20 (by decide) (fun c23 => ?_) (fun c23 => ?_)
        · have c23' := i_ne c23
          refine r_aload_n 0 C dX9_placePiperIfUntold_42 rfl ?_
          refine r_aload_n 0 C dX9_placePiperIfUntold_43 rfl ?_
          refine gfX9_52 (v := (wI w4 12 5)) C (kS sC h5 kc_12) rfl dX9_placePiperIfUntold_44 ?_
          refine r_iconst (v := 0) C dX9_placePiperIfUntold_47 (by decide) ?_
          refine r_mmax C mw3_152 mw3_153 mw1_12 mw3_154 (by decide) (Nat.le_of_ble_eq_true rfl) (by decide) (by decide) dX9_placePiperIfUntold_48 (fun v24 e25 => ?_)
          have v24' := imax_ok e25
          refine pfX9_52 C (kS sC h5 kc_12) dX9_placePiperIfUntold_51 (fun w26 e27 => ?_)
          have h28 := Ch.putF h5 e27 (by decide)
          have k30 := i_rng v24
          have o29 := Inv.putk o6 e27 (by decide)
          exact hret _ _ _ dX9_placePiperIfUntold_54 ⟨h28, o29⟩
        · have c23' := i_eq c23
          refine r_aload_n 0 C dX9_placePiperIfUntold_23 rfl ?_
          refine r_iload_n 1 C dX9_placePiperIfUntold_24 rfl ?_
          refine callVI C cwX9_71_V (ctX9_isSpot_12 _ _ w4 (sS sC h5) o6 u1 ) (by decide) (kS sC h5 kc_12) rfl rfl rfl (Nat.le_of_ble_eq_true rfl) (by decide) dX9_placePiperIfUntold_25 (fun r33 w32 y31 => ?_)
          show V x 0 0 w32 28 [(0, .ref (gz (xG x) + 12)), (1, .int u1)] [.int r33]
          obtain ⟨h34, o35, g36⟩ := y31
          have h37 := Ch.tr h5 h34 (by decide) (by decide)
          refine r_if_ne 36 C dX9_placePiperIfUntold_28 (by decide) (fun c38 => ?_) (fun c38 => ?_)
          · have c38' := i_ne c38
            obtain ⟨i39, e40⟩ : ∃ z : Int32, u1 + Int32.ofInt 1 = z := ⟨_, rfl⟩
            have i39' := iinc_ok e40 (by decide) (by omega) (by omega)
            refine r_iinc [(1, .int i39), (0, .ref (gz (xG x) + 12))] 1 C dX9_placePiperIfUntold_36 rfl e40 (by decide) rfl ?_
            refine r_goto 2 C dX9_placePiperIfUntold_39 (by decide) ?_
            refine r_lv [1, 0] rfl ?_
            exact ih9 i39 w32 h37 o35 (by omega) (by omega)
          · have c38' := i_eq c38
            refine r_aload_n 0 C dX9_placePiperIfUntold_31 rfl ?_
            refine r_iload_n 1 C dX9_placePiperIfUntold_32 rfl ?_
            refine pfX9_52 C (kS sC h37 kc_12) dX9_placePiperIfUntold_33 (fun w41 e42 => ?_)
            have h43 := Ch.putF h37 e42 (by decide)
            have o44 := Inv.putk o35 e42 (by decide)
            obtain ⟨i45, e46⟩ : ∃ z : Int32, u1 + Int32.ofInt 1 = z := ⟨_, rfl⟩
            have i45' := iinc_ok e46 (by decide) (by omega) (by omega)
            refine r_iinc [(1, .int i45), (0, .ref (gz (xG x) + 12))] 1 C dX9_placePiperIfUntold_36 rfl e46 (by decide) rfl ?_
            refine r_goto 2 C dX9_placePiperIfUntold_39 (by decide) ?_
            refine r_lv [1, 0] rfl ?_
            exact ih9 i45 w41 h43 o44 (by omega) (by omega)
  refine r_iconst (v := 0) C dX9_placePiperIfUntold_0 (by decide) ?_
  refine r_istore_n [(1, .int 0), (0, .ref (gz (xG x) + 12))] C dX9_placePiperIfUntold_1 (by decide) rfl ?_
  refine r_lv [1, 0] rfl ?_
  exact LP2 4294967296 0 w h0 o0 (by omega) (by omega)
set_option maxHeartbeats 4000000 in
set_option maxRecDepth 100000 in
theorem ctX9_followers_3 (l : Launch) (G : Gt) (w : Wv) (sC : Str KC XC w) (o0 : Inv RC w) (a1 : Int32) : CtI l G yX9_followers cX9_followers 2 .int ({ frames := 0, cells := 0, slots := 0, locals := 0 } : Room) [.ref (gz G + 3), .int a1] w (fun r w' => Ch [] [] w w' ∧ Inv RC w') := by
  refine enterI (by decide) (Nat.le_of_ble_eq_true rfl) ?_
  intro x el eG C hret
  subst el; subst eG
  show V x 0 0 w 0 [(0, .ref (gz (xG x) + 3)), (1, .int a1)] []
  have h0 : Ch [] [] w w := Ch.rf
  have q0 : (0 : Int32).toInt = 0 := by decide
  have q6 : (6 : Int32).toInt = 6 := by decide
  refine r_iload_n 1 C dX9_followers_0 rfl ?_
  refine r_if_lt 26 C dX9_followers_1 (by decide) (fun c1 => ?_) (fun c1 => ?_)
  · have c1' := i_lt c1
    refine r_iconst (v := 0) C dX9_followers_26 (by decide) ?_
    exact hret _ _ _ _ dX9_followers_27 rfl ⟨h0, o0⟩
  · have c1' := i_nlt c1
    refine r_iload_n 1 C dX9_followers_4 rfl ?_
    refine r_bipush (v := 6) C dX9_followers_5 (by decide) ?_
    have k3 := i_rng a1
    refine r_icmp_ge 26 C dX9_followers_7 (by decide) (fun c2 => ?_) (fun c2 => ?_)
    · have c2' := i_le c2
      refine r_iconst (v := 0) C dX9_followers_26 (by decide) ?_
      exact hret _ _ _ _ dX9_followers_27 rfl ⟨h0, o0⟩
    · have c2' := i_nle c2
      refine r_aload_n 0 C dX9_followers_10 rfl ?_
      refine gfX9_21 7 C (kS sC h0 kc_3) (xS sC h0 xc_3_12) dX9_followers_11 ?_
      refine r_iload_n 1 C dX9_followers_14 rfl ?_
      refine r_iald C (kS sC h0 kc_7) (vin (by omega) (by omega)) dX9_followers_15 ?_
      generalize (wI w 7 (a1).toNatClampNeg) = v4
      refine r_aload_n 0 C dX9_followers_16 rfl ?_
      refine gfX9_27 9 C (kS sC h0 kc_3) (xS sC h0 xc_3_14) dX9_followers_17 ?_
      refine r_iload_n 1 C dX9_followers_20 rfl ?_
      refine r_iald C (kS sC h0 kc_9) (vin (by omega) (by omega)) dX9_followers_21 ?_
      generalize (wI w 9 (a1).toNatClampNeg) = v5
      refine r_isub C dX9_followers_22 (fun v6 e7 => ?_)
      refine r_goto 27 C dX9_followers_23 (by decide) ?_
      exact hret _ _ _ _ dX9_followers_27 rfl ⟨h0, o0⟩
set_option maxHeartbeats 4000000 in
set_option maxRecDepth 100000 in
theorem ctX9_isFollower_3 (l : Launch) (G : Gt) (w : Wv) (sC : Str KC XC w) (o0 : Inv RC w) (a1 : Int32) (a2 : Int32) : CtI l G yX9_isFollower cX9_isFollower 4 .boolean ({ frames := 0, cells := 0, slots := 0, locals := 0 } : Room) [.ref (gz G + 3), .int a1, .int a2] w (fun r w' => Ch [] [] w w' ∧ Inv RC w' ∧ ((0 ≤ r.toInt ∧ r.toInt ≤ 1) ∧ (r.toInt = 1 → (0 ≤ a1.toInt ∧ a1.toInt ≤ 5 ∧ 0 ≤ a2.toInt ∧ a2.toInt ≤ 2)))) := by
  refine enterI (by decide) (Nat.le_of_ble_eq_true rfl) ?_
  intro x el eG C hret
  subst el; subst eG
  show V x 0 0 w 0 [(0, .ref (gz (xG x) + 3)), (1, .int a1), (2, .int a2)] []
  have h0 : Ch [] [] w w := Ch.rf
  have q0 : (0 : Int32).toInt = 0 := by decide
  have q1 : (1 : Int32).toInt = 1 := by decide
  have q3 : (3 : Int32).toInt = 3 := by decide
  have q6 : (6 : Int32).toInt = 6 := by decide
  refine r_iload_n 1 C dX9_isFollower_0 rfl ?_
  refine r_if_lt 23 C dX9_isFollower_1 (by decide) (fun c1 => ?_) (fun c1 => ?_)
  · have c1' := i_lt c1
    refine r_iconst (v := 0) C dX9_isFollower_23 (by decide) ?_
    refine r_istore_n [(3, .int 0), (0, .ref (gz (xG x) + 3)), (1, .int a1), (2, .int a2)] C dX9_isFollower_24 (by decide) rfl ?_
    refine r_iload_n 0 C dX9_isFollower_25 rfl ?_
    refine r_if_eq 52 C dX9_isFollower_26 (by decide) (fun c2 => ?_) (fun c2 => ?_)
    · have c2' := i_eq c2
      refine r_iconst (v := 0) C dX9_isFollower_52 (by decide) ?_
      exact hret _ _ _ _ dX9_isFollower_53 (nar_z (z_of (by omega))) ⟨h0, o0, by omega⟩
    · have c2' := i_ne c2
      exfalso; omega
  · have c1' := i_nlt c1
    refine r_iload_n 1 C dX9_isFollower_4 rfl ?_
    refine r_bipush (v := 6) C dX9_isFollower_5 (by decide) ?_
    have k4 := i_rng a1
    refine r_icmp_ge 23 C dX9_isFollower_7 (by decide) (fun c3 => ?_) (fun c3 => ?_)
    · have c3' := i_le c3
      refine r_iconst (v := 0) C dX9_isFollower_23 (by decide) ?_
      refine r_istore_n [(3, .int 0), (0, .ref (gz (xG x) + 3)), (1, .int a1), (2, .int a2)] C dX9_isFollower_24 (by decide) rfl ?_
      refine r_iload_n 0 C dX9_isFollower_25 rfl ?_
      refine r_if_eq 52 C dX9_isFollower_26 (by decide) (fun c5 => ?_) (fun c5 => ?_)
      · have c5' := i_eq c5
        refine r_iconst (v := 0) C dX9_isFollower_52 (by decide) ?_
        exact hret _ _ _ _ dX9_isFollower_53 (nar_z (z_of (by omega))) ⟨h0, o0, by omega⟩
      · have c5' := i_ne c5
        exfalso; omega
    · have c3' := i_nle c3
      refine r_iload_n 2 C dX9_isFollower_10 rfl ?_
      refine r_if_lt 23 C dX9_isFollower_11 (by decide) (fun c6 => ?_) (fun c6 => ?_)
      · have c6' := i_lt c6
        refine r_iconst (v := 0) C dX9_isFollower_23 (by decide) ?_
        refine r_istore_n [(3, .int 0), (0, .ref (gz (xG x) + 3)), (1, .int a1), (2, .int a2)] C dX9_isFollower_24 (by decide) rfl ?_
        refine r_iload_n 0 C dX9_isFollower_25 rfl ?_
        refine r_if_eq 52 C dX9_isFollower_26 (by decide) (fun c7 => ?_) (fun c7 => ?_)
        · have c7' := i_eq c7
          refine r_iconst (v := 0) C dX9_isFollower_52 (by decide) ?_
          exact hret _ _ _ _ dX9_isFollower_53 (nar_z (z_of (by omega))) ⟨h0, o0, by omega⟩
        · have c7' := i_ne c7
          exfalso; omega
      · have c6' := i_nlt c6
        refine r_iload_n 2 C dX9_isFollower_14 rfl ?_
        refine r_iconst (v := 3) C dX9_isFollower_15 (by decide) ?_
        have k9 := i_rng a2
        refine r_icmp_ge 23 C dX9_isFollower_16 (by decide) (fun c8 => ?_) (fun c8 => ?_)
        · have c8' := i_le c8
          refine r_iconst (v := 0) C dX9_isFollower_23 (by decide) ?_
          refine r_istore_n [(3, .int 0), (0, .ref (gz (xG x) + 3)), (1, .int a1), (2, .int a2)] C dX9_isFollower_24 (by decide) rfl ?_
          refine r_iload_n 0 C dX9_isFollower_25 rfl ?_
          refine r_if_eq 52 C dX9_isFollower_26 (by decide) (fun c10 => ?_) (fun c10 => ?_)
          · have c10' := i_eq c10
            refine r_iconst (v := 0) C dX9_isFollower_52 (by decide) ?_
            exact hret _ _ _ _ dX9_isFollower_53 (nar_z (z_of (by omega))) ⟨h0, o0, by omega⟩
          · have c10' := i_ne c10
            exfalso; omega
        · have c8' := i_nle c8
          refine r_iconst (v := 1) C dX9_isFollower_19 (by decide) ?_
          refine r_goto 24 C dX9_isFollower_20 (by decide) ?_
          refine r_istore_n [(3, .int 1), (0, .ref (gz (xG x) + 3)), (1, .int a1), (2, .int a2)] C dX9_isFollower_24 (by decide) rfl ?_
          refine r_iload_n 0 C dX9_isFollower_25 rfl ?_
          refine r_if_eq 52 C dX9_isFollower_26 (by decide) (fun c11 => ?_) (fun c11 => ?_)
          · have c11' := i_eq c11
            exfalso; omega
          · have c11' := i_ne c11
            refine r_aload_n 1 C dX9_isFollower_29 rfl ?_
            refine gfX9_30 10 C (kS sC h0 kc_3) (xS sC h0 xc_3_15) dX9_isFollower_30 ?_
            refine r_iload_n 3 C dX9_isFollower_33 rfl ?_
            refine r_iald C (kS sC h0 kc_10) (vin (by omega) (by omega)) dX9_isFollower_34 ?_
            generalize (wI w 10 (a2).toNatClampNeg) = v12
            refine r_aload_n 1 C dX9_isFollower_35 rfl ?_
            refine gfX9_15 5 C (kS sC h0 kc_3) (xS sC h0 xc_3_10) dX9_isFollower_36 ?_
            refine r_iload_n 2 C dX9_isFollower_39 rfl ?_
            refine r_iald C (kS sC h0 kc_5) (vin (by omega) (by omega)) dX9_isFollower_40 ?_
            generalize (wI w 5 (a1).toNatClampNeg) = v13
            refine r_ishr C dX9_isFollower_41 (fun v14 e15 => ?_)
            refine r_iconst (v := 1) C dX9_isFollower_42 (by decide) ?_
            refine r_iand C dX9_isFollower_43 (fun v16 e17 => ?_)
            have v16' := iand_ok e17 1 (by decide) (by decide)
            refine r_iconst (v := 1) C dX9_isFollower_44 (by decide) ?_
            refine r_icmp_ne 52 C dX9_isFollower_45 (by decide) (fun c18 => ?_) (fun c18 => ?_)
            · have c18' := i_ne c18
              refine r_iconst (v := 0) C dX9_isFollower_52 (by decide) ?_
              exact hret _ _ _ _ dX9_isFollower_53 (nar_z (z_of (by omega))) ⟨h0, o0, by omega⟩
            · have c18' := i_eq c18
              refine r_iconst (v := 1) C dX9_isFollower_48 (by decide) ?_
              refine r_goto 53 C dX9_isFollower_49 (by decide) ?_
              exact hret _ _ _ _ dX9_isFollower_53 (nar_z (z_of (by omega))) ⟨h0, o0, by omega⟩
set_option maxHeartbeats 4000000 in
set_option maxRecDepth 100000 in
theorem ctX6_begin_35 (l : Launch) (G : Gt) (w : Wv) (sC : Str KC XC w) (o0 : Inv RC w)  : CtV l G yX6_begin cX6_begin 2 ({ frames := 0, cells := 0, slots := 0, locals := 0 } : Room) [.ref (gz G + 35)] w (fun w' => Ch [36, 37] [(35, 0), (35, 1)] w w' ∧ Inv RC w') := by
  refine enterV (by decide) (Nat.le_of_ble_eq_true rfl) ?_
  intro x el eG C hnm hret
  subst el; subst eG
  show V x 0 0 w 0 [(0, .ref (gz (xG x) + 35))] []
  have h0 : Ch [36, 37] [(35, 0), (35, 1)] w w := Ch.rf
  have qm1 : ((-1) : Int32).toInt = (-1) := by decide
  have q0 : (0 : Int32).toInt = 0 := by decide
  have q6 : (6 : Int32).toInt = 6 := by decide
  have LP10 : ∀ (f11 : Nat) (u9 : Int32) (w12 : Wv), Ch [36, 37] [(35, 0), (35, 1)] w w12 → Inv RC w12 → (0 ≤ u9.toInt ∧ u9.toInt ≤ 2147483647) → 2147483647 - u9.toInt < f11 → V x 0 0 w12 18 [(0, .ref (gz (xG x) + 35)), (1, .int u9)] [] := by
    intro f11
    induction f11 with
    | zero => intro u9 w12 h13 o14 z15 z16; exfalso; omega
    | succ f11 ih17 =>
      intro u9 w12 h13 o14 z15 z16
      refine r_iload_n 1 C dX6_begin_18 rfl ?_
      refine r_bipush (v := 6) C dX6_begin_19 (by decide) ?_
      have k19 := i_rng u9
      refine r_icmp_ge 52 C dX6_begin_21 (by decide) (fun c18 => ?_) (fun c18 => ?_)
      · have c18' := i_le c18
        exact hret _ _ _ dX6_begin_52 ⟨h13, o14⟩
      · have c18' := i_nle c18
        refine r_aload_n 0 C dX6_begin_24 rfl ?_
        refine gfX6_9 36 C (kS sC h13 kc_35) (xS sC h13 xc_35_2) dX6_begin_25 ?_
        refine r_iload_n 1 C dX6_begin_28 rfl ?_
        refine r_aload_n 0 C dX6_begin_29 rfl ?_
        refine gfX6_18 3 C (kS sC h13 kc_35) (xS sC h13 xc_35_4) dX6_begin_30 ?_
        refine gfX6_36 6 C (kS sC h13 kc_3) (xS sC h13 xc_3_11) dX6_begin_33 ?_
        refine r_iload_n 1 C dX6_begin_36 rfl ?_
        refine r_iald C (kS sC h13 kc_6) (vin (by omega) (by omega)) dX6_begin_37 ?_
        generalize (wI w12 6 (u9).toNatClampNeg) = v20
        refine r_iast C (kS sC h13 kc_36) (vin (by omega) (by omega)) dX6_begin_38 (fun w21 e22 => ?_)
        have h23 := Ch.putS h13 e22 (by decide)
        have o24 := Inv.put0 o14 e22 (by decide)
        refine r_aload_n 0 C dX6_begin_39 rfl ?_
        refine gfX6_15 37 C (kS sC h23 kc_35) (xS sC h23 xc_35_3) dX6_begin_40 ?_
        refine r_iload_n 1 C dX6_begin_43 rfl ?_
        refine r_iconst (v := (-1)) C dX6_begin_44 (by decide) ?_
        refine r_iast C (kS sC h23 kc_37) (vin (by omega) (by omega)) dX6_begin_45 (fun w25 e26 => ?_)
        have h27 := Ch.putS h23 e26 (by decide)
        have o28 := Inv.put0 o24 e26 (by decide)
        obtain ⟨i29, e30⟩ : ∃ z : Int32, u9 + Int32.ofInt 1 = z := ⟨_, rfl⟩
        have i29' := iinc_ok e30 (by decide) (by omega) (by omega)
        refine r_iinc [(1, .int i29), (0, .ref (gz (xG x) + 35))] 1 C dX6_begin_46 rfl e30 (by decide) rfl ?_
        refine r_goto 18 C dX6_begin_49 (by decide) ?_
        refine r_lv [1, 0] rfl ?_
        exact ih17 i29 w25 h27 o28 (by omega) (by omega)
  refine r_aload_n 0 C dX6_begin_0 rfl ?_
  refine r_aload_n 0 C dX6_begin_1 rfl ?_
  refine gfX6_18 3 C (kS sC h0 kc_35) (xS sC h0 xc_35_4) dX6_begin_2 ?_
  refine gfX6_26 (v := (wI w 3 5)) C (kS sC h0 kc_3) rfl dX6_begin_5 ?_
  refine pfX6_32 C (kS sC h0 kc_35) dX6_begin_8 (fun w1 e2 => ?_)
  have h3 := Ch.putF h0 e2 (by decide)
  have o4 := Inv.putk o0 e2 (by decide)
  refine r_aload_n 0 C dX6_begin_11 rfl ?_
  refine r_iconst (v := 0) C dX6_begin_12 (by decide) ?_
  refine pfX6_33 C (kS sC h3 kc_35) dX6_begin_13 (fun w5 e6 => ?_)
  have h7 := Ch.putF h3 e6 (by decide)
  have o8 := Inv.putk o4 e6 (by decide)
  refine r_iconst (v := 0) C dX6_begin_16 (by decide) ?_
  refine r_istore_n [(1, .int 0), (0, .ref (gz (xG x) + 35))] C dX6_begin_17 (by decide) rfl ?_
  refine r_lv [1, 0] rfl ?_
  exact LP10 4294967296 0 w5 h7 o8 (by omega) (by omega)
set_option maxHeartbeats 4000000 in
set_option maxRecDepth 100000 in
theorem ctX6_may_35 (l : Launch) (G : Gt) (w : Wv) (sC : Str KC XC w) (o0 : Inv RC w) (a1 : Int32) : CtI l G yX6_may cX6_may 3 .boolean ({ frames := 1, cells := 0, slots := 0, locals := 23 } : Room) [.ref (gz G + 35), .int a1] w (fun r w' => Ch [] [] w w' ∧ Inv RC w' ∧ ((0 ≤ r.toInt ∧ r.toInt ≤ 1))) := by
  refine enterI (by decide) (Nat.le_of_ble_eq_true rfl) ?_
  intro x el eG C hret
  subst el; subst eG
  show V x 0 0 w 0 [(0, .ref (gz (xG x) + 35)), (1, .int a1)] []
  have h0 : Ch [] [] w w := Ch.rf
  have q0 : (0 : Int32).toInt = 0 := by decide
  have q1 : (1 : Int32).toInt = 1 := by decide
  have q2 : (2 : Int32).toInt = 2 := by decide
  refine r_aload_n 0 C dX6_may_0 rfl ?_
  refine gfX6_22 21 C (kS sC h0 kc_35) (xS sC h0 xc_35_5) dX6_may_1 ?_
  refine gfX6_42 (v := (wI w 21 0)) C (kS sC h0 kc_21) rfl dX6_may_4 ?_
  have b1 := Inv.get o0 rt_21_0 (j := 0) (by decide) (by decide)
  refine r_if_eq 14 C dX6_may_7 (by decide) (fun c2 => ?_) (fun c2 => ?_)
  · have c2' := i_eq c2
    refine r_aload_n 0 C dX6_may_14 rfl ?_
    refine gfX6_22 21 C (kS sC h0 kc_35) (xS sC h0 xc_35_5) dX6_may_15 ?_
    refine gfX6_42 (v := (wI w 21 0)) C (kS sC h0 kc_21) rfl dX6_may_18 ?_
    refine r_if_le 28 C dX6_may_21 (by decide) (fun c3 => ?_) (fun c3 => ?_)
    · have c3' := i_le c3
      refine r_iconst (v := 0) C dX6_may_28 (by decide) ?_
      exact hret _ _ _ _ dX6_may_29 (nar_z (z_of (by omega))) ⟨h0, o0, by omega⟩
    · have c3' := i_nle c3
      refine r_iconst (v := 1) C dX6_may_24 (by decide) ?_
      refine r_goto 29 C dX6_may_25 (by decide) ?_
      exact hret _ _ _ _ dX6_may_29 (nar_z (z_of (by omega))) ⟨h0, o0, by omega⟩
  · have c2' := i_ne c2
    refine r_iload_n 1 C dX6_may_10 rfl ?_
    refine r_if_ne 30 C dX6_may_11 (by decide) (fun c4 => ?_) (fun c4 => ?_)
    · have c4' := i_ne c4
      refine r_aload_n 0 C dX6_may_30 rfl ?_
      refine gfX6_22 21 C (kS sC h0 kc_35) (xS sC h0 xc_35_5) dX6_may_31 ?_
      refine r_aload_n 0 C dX6_may_34 rfl ?_
      refine gfX6_22 21 C (kS sC h0 kc_35) (xS sC h0 xc_35_5) dX6_may_35 ?_
      refine r_aload_n 0 C dX6_may_38 rfl ?_
      refine gfX6_32 (v := (wI w 35 0)) C (kS sC h0 kc_35) rfl dX6_may_39 ?_
      refine r_iload_n 1 C dX6_may_42 rfl ?_
      refine callVI C cwX6_47_V (ctX1_beside_21 _ _ w (sS sC h0) o0 (wI w 35 0) a1 ) (by decide) (kS sC h0 kc_21) rfl rfl rfl (Nat.le_of_ble_eq_true rfl) (by decide) dX6_may_43 (fun r7 w6 y5 => ?_)
      show V x 0 0 w6 46 [(0, .ref (gz (xG x) + 35)), (1, .int a1)] [.int r7, .ref (gz (xG x) + 21)]
      obtain ⟨h8, o9⟩ := y5
      have h10 := Ch.tr h0 h8 (by decide) (by decide)
      refine callVI C cwX6_51_V (ctX1_what_21 _ _ w6 (sS sC h10) o9 r7 ) (by decide) (kS sC h10 kc_21) rfl rfl rfl (Nat.le_of_ble_eq_true rfl) (by decide) dX6_may_46 (fun r13 w12 y11 => ?_)
      show V x 0 0 w12 49 [(0, .ref (gz (xG x) + 35)), (1, .int a1)] [.int r13]
      obtain ⟨h14, o15⟩ := y11
      have h16 := Ch.tr h10 h14 (by decide) (by decide)
      refine r_istore_n [(2, .int r13), (0, .ref (gz (xG x) + 35)), (1, .int a1)] C dX6_may_49 (by decide) rfl ?_
      refine r_iload_n 0 C dX6_may_50 rfl ?_
      refine r_iconst (v := 1) C dX6_may_51 (by decide) ?_
      refine r_icmp_eq 64 C dX6_may_52 (by decide) (fun c17 => ?_) (fun c17 => ?_)
      · have c17' := i_eq c17
        refine r_iconst (v := 0) C dX6_may_64 (by decide) ?_
        exact hret _ _ _ _ dX6_may_65 (nar_z (z_of (by omega))) ⟨h16, o15, by omega⟩
      · have c17' := i_ne c17
        refine r_iload_n 0 C dX6_may_55 rfl ?_
        refine r_iconst (v := 2) C dX6_may_56 (by decide) ?_
        refine r_icmp_eq 64 C dX6_may_57 (by decide) (fun c18 => ?_) (fun c18 => ?_)
        · have c18' := i_eq c18
          refine r_iconst (v := 0) C dX6_may_64 (by decide) ?_
          exact hret _ _ _ _ dX6_may_65 (nar_z (z_of (by omega))) ⟨h16, o15, by omega⟩
        · have c18' := i_ne c18
          refine r_iconst (v := 1) C dX6_may_60 (by decide) ?_
          refine r_goto 65 C dX6_may_61 (by decide) ?_
          exact hret _ _ _ _ dX6_may_65 (nar_z (z_of (by omega))) ⟨h16, o15, by omega⟩
    · have c4' := i_eq c4
      refine r_aload_n 0 C dX6_may_14 rfl ?_
      refine gfX6_22 21 C (kS sC h0 kc_35) (xS sC h0 xc_35_5) dX6_may_15 ?_
      refine gfX6_42 (v := (wI w 21 0)) C (kS sC h0 kc_21) rfl dX6_may_18 ?_
      refine r_if_le 28 C dX6_may_21 (by decide) (fun c19 => ?_) (fun c19 => ?_)
      · have c19' := i_le c19
        refine r_iconst (v := 0) C dX6_may_28 (by decide) ?_
        exact hret _ _ _ _ dX6_may_29 (nar_z (z_of (by omega))) ⟨h0, o0, by omega⟩
      · have c19' := i_nle c19
        refine r_iconst (v := 1) C dX6_may_24 (by decide) ?_
        refine r_goto 29 C dX6_may_25 (by decide) ?_
        exact hret _ _ _ _ dX6_may_29 (nar_z (z_of (by omega))) ⟨h0, o0, by omega⟩
set_option maxHeartbeats 4000000 in
set_option maxRecDepth 100000 in
theorem ctX6_may_38 (l : Launch) (G : Gt) (w : Wv) (sC : Str KC XC w) (o0 : Inv RC w) (a1 : Int32) : CtI l G yX6_may cX6_may 3 .boolean ({ frames := 1, cells := 0, slots := 0, locals := 23 } : Room) [.ref (gz G + 38), .int a1] w (fun r w' => Ch [] [] w w' ∧ Inv RC w' ∧ ((0 ≤ r.toInt ∧ r.toInt ≤ 1))) := by
  refine enterI (by decide) (Nat.le_of_ble_eq_true rfl) ?_
  intro x el eG C hret
  subst el; subst eG
  show V x 0 0 w 0 [(0, .ref (gz (xG x) + 38)), (1, .int a1)] []
  have h0 : Ch [] [] w w := Ch.rf
  have q0 : (0 : Int32).toInt = 0 := by decide
  have q1 : (1 : Int32).toInt = 1 := by decide
  have q2 : (2 : Int32).toInt = 2 := by decide
  refine r_aload_n 0 C dX6_may_0 rfl ?_
  refine gfX6_22 21 C (kS sC h0 kc_38) (xS sC h0 xc_38_5) dX6_may_1 ?_
  refine gfX6_42 (v := (wI w 21 0)) C (kS sC h0 kc_21) rfl dX6_may_4 ?_
  have b1 := Inv.get o0 rt_21_0 (j := 0) (by decide) (by decide)
  refine r_if_eq 14 C dX6_may_7 (by decide) (fun c2 => ?_) (fun c2 => ?_)
  · have c2' := i_eq c2
    refine r_aload_n 0 C dX6_may_14 rfl ?_
    refine gfX6_22 21 C (kS sC h0 kc_38) (xS sC h0 xc_38_5) dX6_may_15 ?_
    refine gfX6_42 (v := (wI w 21 0)) C (kS sC h0 kc_21) rfl dX6_may_18 ?_
    refine r_if_le 28 C dX6_may_21 (by decide) (fun c3 => ?_) (fun c3 => ?_)
    · have c3' := i_le c3
      refine r_iconst (v := 0) C dX6_may_28 (by decide) ?_
      exact hret _ _ _ _ dX6_may_29 (nar_z (z_of (by omega))) ⟨h0, o0, by omega⟩
    · have c3' := i_nle c3
      refine r_iconst (v := 1) C dX6_may_24 (by decide) ?_
      refine r_goto 29 C dX6_may_25 (by decide) ?_
      exact hret _ _ _ _ dX6_may_29 (nar_z (z_of (by omega))) ⟨h0, o0, by omega⟩
  · have c2' := i_ne c2
    refine r_iload_n 1 C dX6_may_10 rfl ?_
    refine r_if_ne 30 C dX6_may_11 (by decide) (fun c4 => ?_) (fun c4 => ?_)
    · have c4' := i_ne c4
      refine r_aload_n 0 C dX6_may_30 rfl ?_
      refine gfX6_22 21 C (kS sC h0 kc_38) (xS sC h0 xc_38_5) dX6_may_31 ?_
      refine r_aload_n 0 C dX6_may_34 rfl ?_
      refine gfX6_22 21 C (kS sC h0 kc_38) (xS sC h0 xc_38_5) dX6_may_35 ?_
      refine r_aload_n 0 C dX6_may_38 rfl ?_
      refine gfX6_32 (v := (wI w 38 0)) C (kS sC h0 kc_38) rfl dX6_may_39 ?_
      refine r_iload_n 1 C dX6_may_42 rfl ?_
      refine callVI C cwX6_47_V (ctX1_beside_21 _ _ w (sS sC h0) o0 (wI w 38 0) a1 ) (by decide) (kS sC h0 kc_21) rfl rfl rfl (Nat.le_of_ble_eq_true rfl) (by decide) dX6_may_43 (fun r7 w6 y5 => ?_)
      show V x 0 0 w6 46 [(0, .ref (gz (xG x) + 38)), (1, .int a1)] [.int r7, .ref (gz (xG x) + 21)]
      obtain ⟨h8, o9⟩ := y5
      have h10 := Ch.tr h0 h8 (by decide) (by decide)
      refine callVI C cwX6_51_V (ctX1_what_21 _ _ w6 (sS sC h10) o9 r7 ) (by decide) (kS sC h10 kc_21) rfl rfl rfl (Nat.le_of_ble_eq_true rfl) (by decide) dX6_may_46 (fun r13 w12 y11 => ?_)
      show V x 0 0 w12 49 [(0, .ref (gz (xG x) + 38)), (1, .int a1)] [.int r13]
      obtain ⟨h14, o15⟩ := y11
      have h16 := Ch.tr h10 h14 (by decide) (by decide)
      refine r_istore_n [(2, .int r13), (0, .ref (gz (xG x) + 38)), (1, .int a1)] C dX6_may_49 (by decide) rfl ?_
      refine r_iload_n 0 C dX6_may_50 rfl ?_
      refine r_iconst (v := 1) C dX6_may_51 (by decide) ?_
      refine r_icmp_eq 64 C dX6_may_52 (by decide) (fun c17 => ?_) (fun c17 => ?_)
      · have c17' := i_eq c17
        refine r_iconst (v := 0) C dX6_may_64 (by decide) ?_
        exact hret _ _ _ _ dX6_may_65 (nar_z (z_of (by omega))) ⟨h16, o15, by omega⟩
      · have c17' := i_ne c17
        refine r_iload_n 0 C dX6_may_55 rfl ?_
        refine r_iconst (v := 2) C dX6_may_56 (by decide) ?_
        refine r_icmp_eq 64 C dX6_may_57 (by decide) (fun c18 => ?_) (fun c18 => ?_)
        · have c18' := i_eq c18
          refine r_iconst (v := 0) C dX6_may_64 (by decide) ?_
          exact hret _ _ _ _ dX6_may_65 (nar_z (z_of (by omega))) ⟨h16, o15, by omega⟩
        · have c18' := i_ne c18
          refine r_iconst (v := 1) C dX6_may_60 (by decide) ?_
          refine r_goto 65 C dX6_may_61 (by decide) ?_
          exact hret _ _ _ _ dX6_may_65 (nar_z (z_of (by omega))) ⟨h16, o15, by omega⟩
    · have c4' := i_eq c4
      refine r_aload_n 0 C dX6_may_14 rfl ?_
      refine gfX6_22 21 C (kS sC h0 kc_38) (xS sC h0 xc_38_5) dX6_may_15 ?_
      refine gfX6_42 (v := (wI w 21 0)) C (kS sC h0 kc_21) rfl dX6_may_18 ?_
      refine r_if_le 28 C dX6_may_21 (by decide) (fun c19 => ?_) (fun c19 => ?_)
      · have c19' := i_le c19
        refine r_iconst (v := 0) C dX6_may_28 (by decide) ?_
        exact hret _ _ _ _ dX6_may_29 (nar_z (z_of (by omega))) ⟨h0, o0, by omega⟩
      · have c19' := i_nle c19
        refine r_iconst (v := 1) C dX6_may_24 (by decide) ?_
        refine r_goto 29 C dX6_may_25 (by decide) ?_
        exact hret _ _ _ _ dX6_may_29 (nar_z (z_of (by omega))) ⟨h0, o0, by omega⟩
set_option maxHeartbeats 4000000 in
set_option maxRecDepth 100000 in
theorem ctX6_may_41 (l : Launch) (G : Gt) (w : Wv) (sC : Str KC XC w) (o0 : Inv RC w) (a1 : Int32) : CtI l G yX6_may cX6_may 3 .boolean ({ frames := 1, cells := 0, slots := 0, locals := 23 } : Room) [.ref (gz G + 41), .int a1] w (fun r w' => Ch [] [] w w' ∧ Inv RC w' ∧ ((0 ≤ r.toInt ∧ r.toInt ≤ 1))) := by
  refine enterI (by decide) (Nat.le_of_ble_eq_true rfl) ?_
  intro x el eG C hret
  subst el; subst eG
  show V x 0 0 w 0 [(0, .ref (gz (xG x) + 41)), (1, .int a1)] []
  have h0 : Ch [] [] w w := Ch.rf
  have q0 : (0 : Int32).toInt = 0 := by decide
  have q1 : (1 : Int32).toInt = 1 := by decide
  have q2 : (2 : Int32).toInt = 2 := by decide
  refine r_aload_n 0 C dX6_may_0 rfl ?_
  refine gfX6_22 28 C (kS sC h0 kc_41) (xS sC h0 xc_41_5) dX6_may_1 ?_
  refine gfX6_42 (v := (wI w 28 0)) C (kS sC h0 kc_28) rfl dX6_may_4 ?_
  have b1 := Inv.get o0 rt_28_0 (j := 0) (by decide) (by decide)
  refine r_if_eq 14 C dX6_may_7 (by decide) (fun c2 => ?_) (fun c2 => ?_)
  · have c2' := i_eq c2
    refine r_aload_n 0 C dX6_may_14 rfl ?_
    refine gfX6_22 28 C (kS sC h0 kc_41) (xS sC h0 xc_41_5) dX6_may_15 ?_
    refine gfX6_42 (v := (wI w 28 0)) C (kS sC h0 kc_28) rfl dX6_may_18 ?_
    refine r_if_le 28 C dX6_may_21 (by decide) (fun c3 => ?_) (fun c3 => ?_)
    · have c3' := i_le c3
      refine r_iconst (v := 0) C dX6_may_28 (by decide) ?_
      exact hret _ _ _ _ dX6_may_29 (nar_z (z_of (by omega))) ⟨h0, o0, by omega⟩
    · have c3' := i_nle c3
      refine r_iconst (v := 1) C dX6_may_24 (by decide) ?_
      refine r_goto 29 C dX6_may_25 (by decide) ?_
      exact hret _ _ _ _ dX6_may_29 (nar_z (z_of (by omega))) ⟨h0, o0, by omega⟩
  · have c2' := i_ne c2
    refine r_iload_n 1 C dX6_may_10 rfl ?_
    refine r_if_ne 30 C dX6_may_11 (by decide) (fun c4 => ?_) (fun c4 => ?_)
    · have c4' := i_ne c4
      refine r_aload_n 0 C dX6_may_30 rfl ?_
      refine gfX6_22 28 C (kS sC h0 kc_41) (xS sC h0 xc_41_5) dX6_may_31 ?_
      refine r_aload_n 0 C dX6_may_34 rfl ?_
      refine gfX6_22 28 C (kS sC h0 kc_41) (xS sC h0 xc_41_5) dX6_may_35 ?_
      refine r_aload_n 0 C dX6_may_38 rfl ?_
      refine gfX6_32 (v := (wI w 41 0)) C (kS sC h0 kc_41) rfl dX6_may_39 ?_
      refine r_iload_n 1 C dX6_may_42 rfl ?_
      refine callVI C cwX6_47_V (ctX1_beside_28 _ _ w (sS sC h0) o0 (wI w 41 0) a1 ) (by decide) (kS sC h0 kc_28) rfl rfl rfl (Nat.le_of_ble_eq_true rfl) (by decide) dX6_may_43 (fun r7 w6 y5 => ?_)
      show V x 0 0 w6 46 [(0, .ref (gz (xG x) + 41)), (1, .int a1)] [.int r7, .ref (gz (xG x) + 28)]
      obtain ⟨h8, o9⟩ := y5
      have h10 := Ch.tr h0 h8 (by decide) (by decide)
      refine callVI C cwX6_51_V (ctX1_what_28 _ _ w6 (sS sC h10) o9 r7 ) (by decide) (kS sC h10 kc_28) rfl rfl rfl (Nat.le_of_ble_eq_true rfl) (by decide) dX6_may_46 (fun r13 w12 y11 => ?_)
      show V x 0 0 w12 49 [(0, .ref (gz (xG x) + 41)), (1, .int a1)] [.int r13]
      obtain ⟨h14, o15⟩ := y11
      have h16 := Ch.tr h10 h14 (by decide) (by decide)
      refine r_istore_n [(2, .int r13), (0, .ref (gz (xG x) + 41)), (1, .int a1)] C dX6_may_49 (by decide) rfl ?_
      refine r_iload_n 0 C dX6_may_50 rfl ?_
      refine r_iconst (v := 1) C dX6_may_51 (by decide) ?_
      refine r_icmp_eq 64 C dX6_may_52 (by decide) (fun c17 => ?_) (fun c17 => ?_)
      · have c17' := i_eq c17
        refine r_iconst (v := 0) C dX6_may_64 (by decide) ?_
        exact hret _ _ _ _ dX6_may_65 (nar_z (z_of (by omega))) ⟨h16, o15, by omega⟩
      · have c17' := i_ne c17
        refine r_iload_n 0 C dX6_may_55 rfl ?_
        refine r_iconst (v := 2) C dX6_may_56 (by decide) ?_
        refine r_icmp_eq 64 C dX6_may_57 (by decide) (fun c18 => ?_) (fun c18 => ?_)
        · have c18' := i_eq c18
          refine r_iconst (v := 0) C dX6_may_64 (by decide) ?_
          exact hret _ _ _ _ dX6_may_65 (nar_z (z_of (by omega))) ⟨h16, o15, by omega⟩
        · have c18' := i_ne c18
          refine r_iconst (v := 1) C dX6_may_60 (by decide) ?_
          refine r_goto 65 C dX6_may_61 (by decide) ?_
          exact hret _ _ _ _ dX6_may_65 (nar_z (z_of (by omega))) ⟨h16, o15, by omega⟩
    · have c4' := i_eq c4
      refine r_aload_n 0 C dX6_may_14 rfl ?_
      refine gfX6_22 28 C (kS sC h0 kc_41) (xS sC h0 xc_41_5) dX6_may_15 ?_
      refine gfX6_42 (v := (wI w 28 0)) C (kS sC h0 kc_28) rfl dX6_may_18 ?_
      refine r_if_le 28 C dX6_may_21 (by decide) (fun c19 => ?_) (fun c19 => ?_)
      · have c19' := i_le c19
        refine r_iconst (v := 0) C dX6_may_28 (by decide) ?_
        exact hret _ _ _ _ dX6_may_29 (nar_z (z_of (by omega))) ⟨h0, o0, by omega⟩
      · have c19' := i_nle c19
        refine r_iconst (v := 1) C dX6_may_24 (by decide) ?_
        refine r_goto 29 C dX6_may_25 (by decide) ?_
        exact hret _ _ _ _ dX6_may_29 (nar_z (z_of (by omega))) ⟨h0, o0, by omega⟩
set_option maxHeartbeats 4000000 in
set_option maxRecDepth 100000 in
theorem ctX6_may_59 (l : Launch) (G : Gt) (w : Wv) (sC : Str KC XC w) (o0 : Inv RC w) (a1 : Int32) : CtI l G yX6_may cX6_may 3 .boolean ({ frames := 1, cells := 0, slots := 0, locals := 23 } : Room) [.ref (gz G + 59), .int a1] w (fun r w' => Ch [] [] w w' ∧ Inv RC w' ∧ ((0 ≤ r.toInt ∧ r.toInt ≤ 1))) := by
  refine enterI (by decide) (Nat.le_of_ble_eq_true rfl) ?_
  intro x el eG C hret
  subst el; subst eG
  show V x 0 0 w 0 [(0, .ref (gz (xG x) + 59)), (1, .int a1)] []
  have h0 : Ch [] [] w w := Ch.rf
  have q0 : (0 : Int32).toInt = 0 := by decide
  have q1 : (1 : Int32).toInt = 1 := by decide
  have q2 : (2 : Int32).toInt = 2 := by decide
  refine r_aload_n 0 C dX6_may_0 rfl ?_
  refine gfX6_22 21 C (kS sC h0 kc_59) (xS sC h0 xc_59_5) dX6_may_1 ?_
  refine gfX6_42 (v := (wI w 21 0)) C (kS sC h0 kc_21) rfl dX6_may_4 ?_
  have b1 := Inv.get o0 rt_21_0 (j := 0) (by decide) (by decide)
  refine r_if_eq 14 C dX6_may_7 (by decide) (fun c2 => ?_) (fun c2 => ?_)
  · have c2' := i_eq c2
    refine r_aload_n 0 C dX6_may_14 rfl ?_
    refine gfX6_22 21 C (kS sC h0 kc_59) (xS sC h0 xc_59_5) dX6_may_15 ?_
    refine gfX6_42 (v := (wI w 21 0)) C (kS sC h0 kc_21) rfl dX6_may_18 ?_
    refine r_if_le 28 C dX6_may_21 (by decide) (fun c3 => ?_) (fun c3 => ?_)
    · have c3' := i_le c3
      refine r_iconst (v := 0) C dX6_may_28 (by decide) ?_
      exact hret _ _ _ _ dX6_may_29 (nar_z (z_of (by omega))) ⟨h0, o0, by omega⟩
    · have c3' := i_nle c3
      refine r_iconst (v := 1) C dX6_may_24 (by decide) ?_
      refine r_goto 29 C dX6_may_25 (by decide) ?_
      exact hret _ _ _ _ dX6_may_29 (nar_z (z_of (by omega))) ⟨h0, o0, by omega⟩
  · have c2' := i_ne c2
    refine r_iload_n 1 C dX6_may_10 rfl ?_
    refine r_if_ne 30 C dX6_may_11 (by decide) (fun c4 => ?_) (fun c4 => ?_)
    · have c4' := i_ne c4
      refine r_aload_n 0 C dX6_may_30 rfl ?_
      refine gfX6_22 21 C (kS sC h0 kc_59) (xS sC h0 xc_59_5) dX6_may_31 ?_
      refine r_aload_n 0 C dX6_may_34 rfl ?_
      refine gfX6_22 21 C (kS sC h0 kc_59) (xS sC h0 xc_59_5) dX6_may_35 ?_
      refine r_aload_n 0 C dX6_may_38 rfl ?_
      refine gfX6_32 (v := (wI w 59 0)) C (kS sC h0 kc_59) rfl dX6_may_39 ?_
      refine r_iload_n 1 C dX6_may_42 rfl ?_
      refine callVI C cwX6_47_V (ctX1_beside_21 _ _ w (sS sC h0) o0 (wI w 59 0) a1 ) (by decide) (kS sC h0 kc_21) rfl rfl rfl (Nat.le_of_ble_eq_true rfl) (by decide) dX6_may_43 (fun r7 w6 y5 => ?_)
      show V x 0 0 w6 46 [(0, .ref (gz (xG x) + 59)), (1, .int a1)] [.int r7, .ref (gz (xG x) + 21)]
      obtain ⟨h8, o9⟩ := y5
      have h10 := Ch.tr h0 h8 (by decide) (by decide)
      refine callVI C cwX6_51_V (ctX1_what_21 _ _ w6 (sS sC h10) o9 r7 ) (by decide) (kS sC h10 kc_21) rfl rfl rfl (Nat.le_of_ble_eq_true rfl) (by decide) dX6_may_46 (fun r13 w12 y11 => ?_)
      show V x 0 0 w12 49 [(0, .ref (gz (xG x) + 59)), (1, .int a1)] [.int r13]
      obtain ⟨h14, o15⟩ := y11
      have h16 := Ch.tr h10 h14 (by decide) (by decide)
      refine r_istore_n [(2, .int r13), (0, .ref (gz (xG x) + 59)), (1, .int a1)] C dX6_may_49 (by decide) rfl ?_
      refine r_iload_n 0 C dX6_may_50 rfl ?_
      refine r_iconst (v := 1) C dX6_may_51 (by decide) ?_
      refine r_icmp_eq 64 C dX6_may_52 (by decide) (fun c17 => ?_) (fun c17 => ?_)
      · have c17' := i_eq c17
        refine r_iconst (v := 0) C dX6_may_64 (by decide) ?_
        exact hret _ _ _ _ dX6_may_65 (nar_z (z_of (by omega))) ⟨h16, o15, by omega⟩
      · have c17' := i_ne c17
        refine r_iload_n 0 C dX6_may_55 rfl ?_
        refine r_iconst (v := 2) C dX6_may_56 (by decide) ?_
        refine r_icmp_eq 64 C dX6_may_57 (by decide) (fun c18 => ?_) (fun c18 => ?_)
        · have c18' := i_eq c18
          refine r_iconst (v := 0) C dX6_may_64 (by decide) ?_
          exact hret _ _ _ _ dX6_may_65 (nar_z (z_of (by omega))) ⟨h16, o15, by omega⟩
        · have c18' := i_ne c18
          refine r_iconst (v := 1) C dX6_may_60 (by decide) ?_
          refine r_goto 65 C dX6_may_61 (by decide) ?_
          exact hret _ _ _ _ dX6_may_65 (nar_z (z_of (by omega))) ⟨h16, o15, by omega⟩
    · have c4' := i_eq c4
      refine r_aload_n 0 C dX6_may_14 rfl ?_
      refine gfX6_22 21 C (kS sC h0 kc_59) (xS sC h0 xc_59_5) dX6_may_15 ?_
      refine gfX6_42 (v := (wI w 21 0)) C (kS sC h0 kc_21) rfl dX6_may_18 ?_
      refine r_if_le 28 C dX6_may_21 (by decide) (fun c19 => ?_) (fun c19 => ?_)
      · have c19' := i_le c19
        refine r_iconst (v := 0) C dX6_may_28 (by decide) ?_
        exact hret _ _ _ _ dX6_may_29 (nar_z (z_of (by omega))) ⟨h0, o0, by omega⟩
      · have c19' := i_nle c19
        refine r_iconst (v := 1) C dX6_may_24 (by decide) ?_
        refine r_goto 29 C dX6_may_25 (by decide) ?_
        exact hret _ _ _ _ dX6_may_29 (nar_z (z_of (by omega))) ⟨h0, o0, by omega⟩
set_option maxHeartbeats 4000000 in
set_option maxRecDepth 100000 in
theorem ctX6_may_62 (l : Launch) (G : Gt) (w : Wv) (sC : Str KC XC w) (o0 : Inv RC w) (a1 : Int32) : CtI l G yX6_may cX6_may 3 .boolean ({ frames := 1, cells := 0, slots := 0, locals := 23 } : Room) [.ref (gz G + 62), .int a1] w (fun r w' => Ch [] [] w w' ∧ Inv RC w' ∧ ((0 ≤ r.toInt ∧ r.toInt ≤ 1))) := by
  refine enterI (by decide) (Nat.le_of_ble_eq_true rfl) ?_
  intro x el eG C hret
  subst el; subst eG
  show V x 0 0 w 0 [(0, .ref (gz (xG x) + 62)), (1, .int a1)] []
  have h0 : Ch [] [] w w := Ch.rf
  have q0 : (0 : Int32).toInt = 0 := by decide
  have q1 : (1 : Int32).toInt = 1 := by decide
  have q2 : (2 : Int32).toInt = 2 := by decide
  refine r_aload_n 0 C dX6_may_0 rfl ?_
  refine gfX6_22 21 C (kS sC h0 kc_62) (xS sC h0 xc_62_5) dX6_may_1 ?_
  refine gfX6_42 (v := (wI w 21 0)) C (kS sC h0 kc_21) rfl dX6_may_4 ?_
  have b1 := Inv.get o0 rt_21_0 (j := 0) (by decide) (by decide)
  refine r_if_eq 14 C dX6_may_7 (by decide) (fun c2 => ?_) (fun c2 => ?_)
  · have c2' := i_eq c2
    refine r_aload_n 0 C dX6_may_14 rfl ?_
    refine gfX6_22 21 C (kS sC h0 kc_62) (xS sC h0 xc_62_5) dX6_may_15 ?_
    refine gfX6_42 (v := (wI w 21 0)) C (kS sC h0 kc_21) rfl dX6_may_18 ?_
    refine r_if_le 28 C dX6_may_21 (by decide) (fun c3 => ?_) (fun c3 => ?_)
    · have c3' := i_le c3
      refine r_iconst (v := 0) C dX6_may_28 (by decide) ?_
      exact hret _ _ _ _ dX6_may_29 (nar_z (z_of (by omega))) ⟨h0, o0, by omega⟩
    · have c3' := i_nle c3
      refine r_iconst (v := 1) C dX6_may_24 (by decide) ?_
      refine r_goto 29 C dX6_may_25 (by decide) ?_
      exact hret _ _ _ _ dX6_may_29 (nar_z (z_of (by omega))) ⟨h0, o0, by omega⟩
  · have c2' := i_ne c2
    refine r_iload_n 1 C dX6_may_10 rfl ?_
    refine r_if_ne 30 C dX6_may_11 (by decide) (fun c4 => ?_) (fun c4 => ?_)
    · have c4' := i_ne c4
      refine r_aload_n 0 C dX6_may_30 rfl ?_
      refine gfX6_22 21 C (kS sC h0 kc_62) (xS sC h0 xc_62_5) dX6_may_31 ?_
      refine r_aload_n 0 C dX6_may_34 rfl ?_
      refine gfX6_22 21 C (kS sC h0 kc_62) (xS sC h0 xc_62_5) dX6_may_35 ?_
      refine r_aload_n 0 C dX6_may_38 rfl ?_
      refine gfX6_32 (v := (wI w 62 0)) C (kS sC h0 kc_62) rfl dX6_may_39 ?_
      refine r_iload_n 1 C dX6_may_42 rfl ?_
      refine callVI C cwX6_47_V (ctX1_beside_21 _ _ w (sS sC h0) o0 (wI w 62 0) a1 ) (by decide) (kS sC h0 kc_21) rfl rfl rfl (Nat.le_of_ble_eq_true rfl) (by decide) dX6_may_43 (fun r7 w6 y5 => ?_)
      show V x 0 0 w6 46 [(0, .ref (gz (xG x) + 62)), (1, .int a1)] [.int r7, .ref (gz (xG x) + 21)]
      obtain ⟨h8, o9⟩ := y5
      have h10 := Ch.tr h0 h8 (by decide) (by decide)
      refine callVI C cwX6_51_V (ctX1_what_21 _ _ w6 (sS sC h10) o9 r7 ) (by decide) (kS sC h10 kc_21) rfl rfl rfl (Nat.le_of_ble_eq_true rfl) (by decide) dX6_may_46 (fun r13 w12 y11 => ?_)
      show V x 0 0 w12 49 [(0, .ref (gz (xG x) + 62)), (1, .int a1)] [.int r13]
      obtain ⟨h14, o15⟩ := y11
      have h16 := Ch.tr h10 h14 (by decide) (by decide)
      refine r_istore_n [(2, .int r13), (0, .ref (gz (xG x) + 62)), (1, .int a1)] C dX6_may_49 (by decide) rfl ?_
      refine r_iload_n 0 C dX6_may_50 rfl ?_
      refine r_iconst (v := 1) C dX6_may_51 (by decide) ?_
      refine r_icmp_eq 64 C dX6_may_52 (by decide) (fun c17 => ?_) (fun c17 => ?_)
      · have c17' := i_eq c17
        refine r_iconst (v := 0) C dX6_may_64 (by decide) ?_
        exact hret _ _ _ _ dX6_may_65 (nar_z (z_of (by omega))) ⟨h16, o15, by omega⟩
      · have c17' := i_ne c17
        refine r_iload_n 0 C dX6_may_55 rfl ?_
        refine r_iconst (v := 2) C dX6_may_56 (by decide) ?_
        refine r_icmp_eq 64 C dX6_may_57 (by decide) (fun c18 => ?_) (fun c18 => ?_)
        · have c18' := i_eq c18
          refine r_iconst (v := 0) C dX6_may_64 (by decide) ?_
          exact hret _ _ _ _ dX6_may_65 (nar_z (z_of (by omega))) ⟨h16, o15, by omega⟩
        · have c18' := i_ne c18
          refine r_iconst (v := 1) C dX6_may_60 (by decide) ?_
          refine r_goto 65 C dX6_may_61 (by decide) ?_
          exact hret _ _ _ _ dX6_may_65 (nar_z (z_of (by omega))) ⟨h16, o15, by omega⟩
    · have c4' := i_eq c4
      refine r_aload_n 0 C dX6_may_14 rfl ?_
      refine gfX6_22 21 C (kS sC h0 kc_62) (xS sC h0 xc_62_5) dX6_may_15 ?_
      refine gfX6_42 (v := (wI w 21 0)) C (kS sC h0 kc_21) rfl dX6_may_18 ?_
      refine r_if_le 28 C dX6_may_21 (by decide) (fun c19 => ?_) (fun c19 => ?_)
      · have c19' := i_le c19
        refine r_iconst (v := 0) C dX6_may_28 (by decide) ?_
        exact hret _ _ _ _ dX6_may_29 (nar_z (z_of (by omega))) ⟨h0, o0, by omega⟩
      · have c19' := i_nle c19
        refine r_iconst (v := 1) C dX6_may_24 (by decide) ?_
        refine r_goto 29 C dX6_may_25 (by decide) ?_
        exact hret _ _ _ _ dX6_may_29 (nar_z (z_of (by omega))) ⟨h0, o0, by omega⟩
set_option maxHeartbeats 4000000 in
set_option maxRecDepth 100000 in
theorem ctX6_may_65 (l : Launch) (G : Gt) (w : Wv) (sC : Str KC XC w) (o0 : Inv RC w) (a1 : Int32) : CtI l G yX6_may cX6_may 3 .boolean ({ frames := 1, cells := 0, slots := 0, locals := 23 } : Room) [.ref (gz G + 65), .int a1] w (fun r w' => Ch [] [] w w' ∧ Inv RC w' ∧ ((0 ≤ r.toInt ∧ r.toInt ≤ 1))) := by
  refine enterI (by decide) (Nat.le_of_ble_eq_true rfl) ?_
  intro x el eG C hret
  subst el; subst eG
  show V x 0 0 w 0 [(0, .ref (gz (xG x) + 65)), (1, .int a1)] []
  have h0 : Ch [] [] w w := Ch.rf
  have q0 : (0 : Int32).toInt = 0 := by decide
  have q1 : (1 : Int32).toInt = 1 := by decide
  have q2 : (2 : Int32).toInt = 2 := by decide
  refine r_aload_n 0 C dX6_may_0 rfl ?_
  refine gfX6_22 21 C (kS sC h0 kc_65) (xS sC h0 xc_65_5) dX6_may_1 ?_
  refine gfX6_42 (v := (wI w 21 0)) C (kS sC h0 kc_21) rfl dX6_may_4 ?_
  have b1 := Inv.get o0 rt_21_0 (j := 0) (by decide) (by decide)
  refine r_if_eq 14 C dX6_may_7 (by decide) (fun c2 => ?_) (fun c2 => ?_)
  · have c2' := i_eq c2
    refine r_aload_n 0 C dX6_may_14 rfl ?_
    refine gfX6_22 21 C (kS sC h0 kc_65) (xS sC h0 xc_65_5) dX6_may_15 ?_
    refine gfX6_42 (v := (wI w 21 0)) C (kS sC h0 kc_21) rfl dX6_may_18 ?_
    refine r_if_le 28 C dX6_may_21 (by decide) (fun c3 => ?_) (fun c3 => ?_)
    · have c3' := i_le c3
      refine r_iconst (v := 0) C dX6_may_28 (by decide) ?_
      exact hret _ _ _ _ dX6_may_29 (nar_z (z_of (by omega))) ⟨h0, o0, by omega⟩
    · have c3' := i_nle c3
      refine r_iconst (v := 1) C dX6_may_24 (by decide) ?_
      refine r_goto 29 C dX6_may_25 (by decide) ?_
      exact hret _ _ _ _ dX6_may_29 (nar_z (z_of (by omega))) ⟨h0, o0, by omega⟩
  · have c2' := i_ne c2
    refine r_iload_n 1 C dX6_may_10 rfl ?_
    refine r_if_ne 30 C dX6_may_11 (by decide) (fun c4 => ?_) (fun c4 => ?_)
    · have c4' := i_ne c4
      refine r_aload_n 0 C dX6_may_30 rfl ?_
      refine gfX6_22 21 C (kS sC h0 kc_65) (xS sC h0 xc_65_5) dX6_may_31 ?_
      refine r_aload_n 0 C dX6_may_34 rfl ?_
      refine gfX6_22 21 C (kS sC h0 kc_65) (xS sC h0 xc_65_5) dX6_may_35 ?_
      refine r_aload_n 0 C dX6_may_38 rfl ?_
      refine gfX6_32 (v := (wI w 65 0)) C (kS sC h0 kc_65) rfl dX6_may_39 ?_
      refine r_iload_n 1 C dX6_may_42 rfl ?_
      refine callVI C cwX6_47_V (ctX1_beside_21 _ _ w (sS sC h0) o0 (wI w 65 0) a1 ) (by decide) (kS sC h0 kc_21) rfl rfl rfl (Nat.le_of_ble_eq_true rfl) (by decide) dX6_may_43 (fun r7 w6 y5 => ?_)
      show V x 0 0 w6 46 [(0, .ref (gz (xG x) + 65)), (1, .int a1)] [.int r7, .ref (gz (xG x) + 21)]
      obtain ⟨h8, o9⟩ := y5
      have h10 := Ch.tr h0 h8 (by decide) (by decide)
      refine callVI C cwX6_51_V (ctX1_what_21 _ _ w6 (sS sC h10) o9 r7 ) (by decide) (kS sC h10 kc_21) rfl rfl rfl (Nat.le_of_ble_eq_true rfl) (by decide) dX6_may_46 (fun r13 w12 y11 => ?_)
      show V x 0 0 w12 49 [(0, .ref (gz (xG x) + 65)), (1, .int a1)] [.int r13]
      obtain ⟨h14, o15⟩ := y11
      have h16 := Ch.tr h10 h14 (by decide) (by decide)
      refine r_istore_n [(2, .int r13), (0, .ref (gz (xG x) + 65)), (1, .int a1)] C dX6_may_49 (by decide) rfl ?_
      refine r_iload_n 0 C dX6_may_50 rfl ?_
      refine r_iconst (v := 1) C dX6_may_51 (by decide) ?_
      refine r_icmp_eq 64 C dX6_may_52 (by decide) (fun c17 => ?_) (fun c17 => ?_)
      · have c17' := i_eq c17
        refine r_iconst (v := 0) C dX6_may_64 (by decide) ?_
        exact hret _ _ _ _ dX6_may_65 (nar_z (z_of (by omega))) ⟨h16, o15, by omega⟩
      · have c17' := i_ne c17
        refine r_iload_n 0 C dX6_may_55 rfl ?_
        refine r_iconst (v := 2) C dX6_may_56 (by decide) ?_
        refine r_icmp_eq 64 C dX6_may_57 (by decide) (fun c18 => ?_) (fun c18 => ?_)
        · have c18' := i_eq c18
          refine r_iconst (v := 0) C dX6_may_64 (by decide) ?_
          exact hret _ _ _ _ dX6_may_65 (nar_z (z_of (by omega))) ⟨h16, o15, by omega⟩
        · have c18' := i_ne c18
          refine r_iconst (v := 1) C dX6_may_60 (by decide) ?_
          refine r_goto 65 C dX6_may_61 (by decide) ?_
          exact hret _ _ _ _ dX6_may_65 (nar_z (z_of (by omega))) ⟨h16, o15, by omega⟩
    · have c4' := i_eq c4
      refine r_aload_n 0 C dX6_may_14 rfl ?_
      refine gfX6_22 21 C (kS sC h0 kc_65) (xS sC h0 xc_65_5) dX6_may_15 ?_
      refine gfX6_42 (v := (wI w 21 0)) C (kS sC h0 kc_21) rfl dX6_may_18 ?_
      refine r_if_le 28 C dX6_may_21 (by decide) (fun c19 => ?_) (fun c19 => ?_)
      · have c19' := i_le c19
        refine r_iconst (v := 0) C dX6_may_28 (by decide) ?_
        exact hret _ _ _ _ dX6_may_29 (nar_z (z_of (by omega))) ⟨h0, o0, by omega⟩
      · have c19' := i_nle c19
        refine r_iconst (v := 1) C dX6_may_24 (by decide) ?_
        refine r_goto 29 C dX6_may_25 (by decide) ?_
        exact hret _ _ _ _ dX6_may_29 (nar_z (z_of (by omega))) ⟨h0, o0, by omega⟩
set_option maxHeartbeats 4000000 in
set_option maxRecDepth 100000 in
theorem ctX6_may_68 (l : Launch) (G : Gt) (w : Wv) (sC : Str KC XC w) (o0 : Inv RC w) (a1 : Int32) : CtI l G yX6_may cX6_may 3 .boolean ({ frames := 1, cells := 0, slots := 0, locals := 23 } : Room) [.ref (gz G + 68), .int a1] w (fun r w' => Ch [] [] w w' ∧ Inv RC w' ∧ ((0 ≤ r.toInt ∧ r.toInt ≤ 1))) := by
  refine enterI (by decide) (Nat.le_of_ble_eq_true rfl) ?_
  intro x el eG C hret
  subst el; subst eG
  show V x 0 0 w 0 [(0, .ref (gz (xG x) + 68)), (1, .int a1)] []
  have h0 : Ch [] [] w w := Ch.rf
  have q0 : (0 : Int32).toInt = 0 := by decide
  have q1 : (1 : Int32).toInt = 1 := by decide
  have q2 : (2 : Int32).toInt = 2 := by decide
  refine r_aload_n 0 C dX6_may_0 rfl ?_
  refine gfX6_22 21 C (kS sC h0 kc_68) (xS sC h0 xc_68_5) dX6_may_1 ?_
  refine gfX6_42 (v := (wI w 21 0)) C (kS sC h0 kc_21) rfl dX6_may_4 ?_
  have b1 := Inv.get o0 rt_21_0 (j := 0) (by decide) (by decide)
  refine r_if_eq 14 C dX6_may_7 (by decide) (fun c2 => ?_) (fun c2 => ?_)
  · have c2' := i_eq c2
    refine r_aload_n 0 C dX6_may_14 rfl ?_
    refine gfX6_22 21 C (kS sC h0 kc_68) (xS sC h0 xc_68_5) dX6_may_15 ?_
    refine gfX6_42 (v := (wI w 21 0)) C (kS sC h0 kc_21) rfl dX6_may_18 ?_
    refine r_if_le 28 C dX6_may_21 (by decide) (fun c3 => ?_) (fun c3 => ?_)
    · have c3' := i_le c3
      refine r_iconst (v := 0) C dX6_may_28 (by decide) ?_
      exact hret _ _ _ _ dX6_may_29 (nar_z (z_of (by omega))) ⟨h0, o0, by omega⟩
    · have c3' := i_nle c3
      refine r_iconst (v := 1) C dX6_may_24 (by decide) ?_
      refine r_goto 29 C dX6_may_25 (by decide) ?_
      exact hret _ _ _ _ dX6_may_29 (nar_z (z_of (by omega))) ⟨h0, o0, by omega⟩
  · have c2' := i_ne c2
    refine r_iload_n 1 C dX6_may_10 rfl ?_
    refine r_if_ne 30 C dX6_may_11 (by decide) (fun c4 => ?_) (fun c4 => ?_)
    · have c4' := i_ne c4
      refine r_aload_n 0 C dX6_may_30 rfl ?_
      refine gfX6_22 21 C (kS sC h0 kc_68) (xS sC h0 xc_68_5) dX6_may_31 ?_
      refine r_aload_n 0 C dX6_may_34 rfl ?_
      refine gfX6_22 21 C (kS sC h0 kc_68) (xS sC h0 xc_68_5) dX6_may_35 ?_
      refine r_aload_n 0 C dX6_may_38 rfl ?_
      refine gfX6_32 (v := (wI w 68 0)) C (kS sC h0 kc_68) rfl dX6_may_39 ?_
      refine r_iload_n 1 C dX6_may_42 rfl ?_
      refine callVI C cwX6_47_V (ctX1_beside_21 _ _ w (sS sC h0) o0 (wI w 68 0) a1 ) (by decide) (kS sC h0 kc_21) rfl rfl rfl (Nat.le_of_ble_eq_true rfl) (by decide) dX6_may_43 (fun r7 w6 y5 => ?_)
      show V x 0 0 w6 46 [(0, .ref (gz (xG x) + 68)), (1, .int a1)] [.int r7, .ref (gz (xG x) + 21)]
      obtain ⟨h8, o9⟩ := y5
      have h10 := Ch.tr h0 h8 (by decide) (by decide)
      refine callVI C cwX6_51_V (ctX1_what_21 _ _ w6 (sS sC h10) o9 r7 ) (by decide) (kS sC h10 kc_21) rfl rfl rfl (Nat.le_of_ble_eq_true rfl) (by decide) dX6_may_46 (fun r13 w12 y11 => ?_)
      show V x 0 0 w12 49 [(0, .ref (gz (xG x) + 68)), (1, .int a1)] [.int r13]
      obtain ⟨h14, o15⟩ := y11
      have h16 := Ch.tr h10 h14 (by decide) (by decide)
      refine r_istore_n [(2, .int r13), (0, .ref (gz (xG x) + 68)), (1, .int a1)] C dX6_may_49 (by decide) rfl ?_
      refine r_iload_n 0 C dX6_may_50 rfl ?_
      refine r_iconst (v := 1) C dX6_may_51 (by decide) ?_
      refine r_icmp_eq 64 C dX6_may_52 (by decide) (fun c17 => ?_) (fun c17 => ?_)
      · have c17' := i_eq c17
        refine r_iconst (v := 0) C dX6_may_64 (by decide) ?_
        exact hret _ _ _ _ dX6_may_65 (nar_z (z_of (by omega))) ⟨h16, o15, by omega⟩
      · have c17' := i_ne c17
        refine r_iload_n 0 C dX6_may_55 rfl ?_
        refine r_iconst (v := 2) C dX6_may_56 (by decide) ?_
        refine r_icmp_eq 64 C dX6_may_57 (by decide) (fun c18 => ?_) (fun c18 => ?_)
        · have c18' := i_eq c18
          refine r_iconst (v := 0) C dX6_may_64 (by decide) ?_
          exact hret _ _ _ _ dX6_may_65 (nar_z (z_of (by omega))) ⟨h16, o15, by omega⟩
        · have c18' := i_ne c18
          refine r_iconst (v := 1) C dX6_may_60 (by decide) ?_
          refine r_goto 65 C dX6_may_61 (by decide) ?_
          exact hret _ _ _ _ dX6_may_65 (nar_z (z_of (by omega))) ⟨h16, o15, by omega⟩
    · have c4' := i_eq c4
      refine r_aload_n 0 C dX6_may_14 rfl ?_
      refine gfX6_22 21 C (kS sC h0 kc_68) (xS sC h0 xc_68_5) dX6_may_15 ?_
      refine gfX6_42 (v := (wI w 21 0)) C (kS sC h0 kc_21) rfl dX6_may_18 ?_
      refine r_if_le 28 C dX6_may_21 (by decide) (fun c19 => ?_) (fun c19 => ?_)
      · have c19' := i_le c19
        refine r_iconst (v := 0) C dX6_may_28 (by decide) ?_
        exact hret _ _ _ _ dX6_may_29 (nar_z (z_of (by omega))) ⟨h0, o0, by omega⟩
      · have c19' := i_nle c19
        refine r_iconst (v := 1) C dX6_may_24 (by decide) ?_
        refine r_goto 29 C dX6_may_25 (by decide) ?_
        exact hret _ _ _ _ dX6_may_29 (nar_z (z_of (by omega))) ⟨h0, o0, by omega⟩
set_option maxHeartbeats 4000000 in
set_option maxRecDepth 100000 in
theorem ctX6_may_71 (l : Launch) (G : Gt) (w : Wv) (sC : Str KC XC w) (o0 : Inv RC w) (a1 : Int32) : CtI l G yX6_may cX6_may 3 .boolean ({ frames := 1, cells := 0, slots := 0, locals := 23 } : Room) [.ref (gz G + 71), .int a1] w (fun r w' => Ch [] [] w w' ∧ Inv RC w' ∧ ((0 ≤ r.toInt ∧ r.toInt ≤ 1))) := by
  refine enterI (by decide) (Nat.le_of_ble_eq_true rfl) ?_
  intro x el eG C hret
  subst el; subst eG
  show V x 0 0 w 0 [(0, .ref (gz (xG x) + 71)), (1, .int a1)] []
  have h0 : Ch [] [] w w := Ch.rf
  have q0 : (0 : Int32).toInt = 0 := by decide
  have q1 : (1 : Int32).toInt = 1 := by decide
  have q2 : (2 : Int32).toInt = 2 := by decide
  refine r_aload_n 0 C dX6_may_0 rfl ?_
  refine gfX6_22 21 C (kS sC h0 kc_71) (xS sC h0 xc_71_5) dX6_may_1 ?_
  refine gfX6_42 (v := (wI w 21 0)) C (kS sC h0 kc_21) rfl dX6_may_4 ?_
  have b1 := Inv.get o0 rt_21_0 (j := 0) (by decide) (by decide)
  refine r_if_eq 14 C dX6_may_7 (by decide) (fun c2 => ?_) (fun c2 => ?_)
  · have c2' := i_eq c2
    refine r_aload_n 0 C dX6_may_14 rfl ?_
    refine gfX6_22 21 C (kS sC h0 kc_71) (xS sC h0 xc_71_5) dX6_may_15 ?_
    refine gfX6_42 (v := (wI w 21 0)) C (kS sC h0 kc_21) rfl dX6_may_18 ?_
    refine r_if_le 28 C dX6_may_21 (by decide) (fun c3 => ?_) (fun c3 => ?_)
    · have c3' := i_le c3
      refine r_iconst (v := 0) C dX6_may_28 (by decide) ?_
      exact hret _ _ _ _ dX6_may_29 (nar_z (z_of (by omega))) ⟨h0, o0, by omega⟩
    · have c3' := i_nle c3
      refine r_iconst (v := 1) C dX6_may_24 (by decide) ?_
      refine r_goto 29 C dX6_may_25 (by decide) ?_
      exact hret _ _ _ _ dX6_may_29 (nar_z (z_of (by omega))) ⟨h0, o0, by omega⟩
  · have c2' := i_ne c2
    refine r_iload_n 1 C dX6_may_10 rfl ?_
    refine r_if_ne 30 C dX6_may_11 (by decide) (fun c4 => ?_) (fun c4 => ?_)
    · have c4' := i_ne c4
      refine r_aload_n 0 C dX6_may_30 rfl ?_
      refine gfX6_22 21 C (kS sC h0 kc_71) (xS sC h0 xc_71_5) dX6_may_31 ?_
      refine r_aload_n 0 C dX6_may_34 rfl ?_
      refine gfX6_22 21 C (kS sC h0 kc_71) (xS sC h0 xc_71_5) dX6_may_35 ?_
      refine r_aload_n 0 C dX6_may_38 rfl ?_
      refine gfX6_32 (v := (wI w 71 0)) C (kS sC h0 kc_71) rfl dX6_may_39 ?_
      refine r_iload_n 1 C dX6_may_42 rfl ?_
      refine callVI C cwX6_47_V (ctX1_beside_21 _ _ w (sS sC h0) o0 (wI w 71 0) a1 ) (by decide) (kS sC h0 kc_21) rfl rfl rfl (Nat.le_of_ble_eq_true rfl) (by decide) dX6_may_43 (fun r7 w6 y5 => ?_)
      show V x 0 0 w6 46 [(0, .ref (gz (xG x) + 71)), (1, .int a1)] [.int r7, .ref (gz (xG x) + 21)]
      obtain ⟨h8, o9⟩ := y5
      have h10 := Ch.tr h0 h8 (by decide) (by decide)
      refine callVI C cwX6_51_V (ctX1_what_21 _ _ w6 (sS sC h10) o9 r7 ) (by decide) (kS sC h10 kc_21) rfl rfl rfl (Nat.le_of_ble_eq_true rfl) (by decide) dX6_may_46 (fun r13 w12 y11 => ?_)
      show V x 0 0 w12 49 [(0, .ref (gz (xG x) + 71)), (1, .int a1)] [.int r13]
      obtain ⟨h14, o15⟩ := y11
      have h16 := Ch.tr h10 h14 (by decide) (by decide)
      refine r_istore_n [(2, .int r13), (0, .ref (gz (xG x) + 71)), (1, .int a1)] C dX6_may_49 (by decide) rfl ?_
      refine r_iload_n 0 C dX6_may_50 rfl ?_
      refine r_iconst (v := 1) C dX6_may_51 (by decide) ?_
      refine r_icmp_eq 64 C dX6_may_52 (by decide) (fun c17 => ?_) (fun c17 => ?_)
      · have c17' := i_eq c17
        refine r_iconst (v := 0) C dX6_may_64 (by decide) ?_
        exact hret _ _ _ _ dX6_may_65 (nar_z (z_of (by omega))) ⟨h16, o15, by omega⟩
      · have c17' := i_ne c17
        refine r_iload_n 0 C dX6_may_55 rfl ?_
        refine r_iconst (v := 2) C dX6_may_56 (by decide) ?_
        refine r_icmp_eq 64 C dX6_may_57 (by decide) (fun c18 => ?_) (fun c18 => ?_)
        · have c18' := i_eq c18
          refine r_iconst (v := 0) C dX6_may_64 (by decide) ?_
          exact hret _ _ _ _ dX6_may_65 (nar_z (z_of (by omega))) ⟨h16, o15, by omega⟩
        · have c18' := i_ne c18
          refine r_iconst (v := 1) C dX6_may_60 (by decide) ?_
          refine r_goto 65 C dX6_may_61 (by decide) ?_
          exact hret _ _ _ _ dX6_may_65 (nar_z (z_of (by omega))) ⟨h16, o15, by omega⟩
    · have c4' := i_eq c4
      refine r_aload_n 0 C dX6_may_14 rfl ?_
      refine gfX6_22 21 C (kS sC h0 kc_71) (xS sC h0 xc_71_5) dX6_may_15 ?_
      refine gfX6_42 (v := (wI w 21 0)) C (kS sC h0 kc_21) rfl dX6_may_18 ?_
      refine r_if_le 28 C dX6_may_21 (by decide) (fun c19 => ?_) (fun c19 => ?_)
      · have c19' := i_le c19
        refine r_iconst (v := 0) C dX6_may_28 (by decide) ?_
        exact hret _ _ _ _ dX6_may_29 (nar_z (z_of (by omega))) ⟨h0, o0, by omega⟩
      · have c19' := i_nle c19
        refine r_iconst (v := 1) C dX6_may_24 (by decide) ?_
        refine r_goto 29 C dX6_may_25 (by decide) ?_
        exact hret _ _ _ _ dX6_may_29 (nar_z (z_of (by omega))) ⟨h0, o0, by omega⟩
set_option maxHeartbeats 4000000 in
set_option maxRecDepth 100000 in
theorem ctX6_may_74 (l : Launch) (G : Gt) (w : Wv) (sC : Str KC XC w) (o0 : Inv RC w) (a1 : Int32) : CtI l G yX6_may cX6_may 3 .boolean ({ frames := 1, cells := 0, slots := 0, locals := 23 } : Room) [.ref (gz G + 74), .int a1] w (fun r w' => Ch [] [] w w' ∧ Inv RC w' ∧ ((0 ≤ r.toInt ∧ r.toInt ≤ 1))) := by
  refine enterI (by decide) (Nat.le_of_ble_eq_true rfl) ?_
  intro x el eG C hret
  subst el; subst eG
  show V x 0 0 w 0 [(0, .ref (gz (xG x) + 74)), (1, .int a1)] []
  have h0 : Ch [] [] w w := Ch.rf
  have q0 : (0 : Int32).toInt = 0 := by decide
  have q1 : (1 : Int32).toInt = 1 := by decide
  have q2 : (2 : Int32).toInt = 2 := by decide
  refine r_aload_n 0 C dX6_may_0 rfl ?_
  refine gfX6_22 21 C (kS sC h0 kc_74) (xS sC h0 xc_74_5) dX6_may_1 ?_
  refine gfX6_42 (v := (wI w 21 0)) C (kS sC h0 kc_21) rfl dX6_may_4 ?_
  have b1 := Inv.get o0 rt_21_0 (j := 0) (by decide) (by decide)
  refine r_if_eq 14 C dX6_may_7 (by decide) (fun c2 => ?_) (fun c2 => ?_)
  · have c2' := i_eq c2
    refine r_aload_n 0 C dX6_may_14 rfl ?_
    refine gfX6_22 21 C (kS sC h0 kc_74) (xS sC h0 xc_74_5) dX6_may_15 ?_
    refine gfX6_42 (v := (wI w 21 0)) C (kS sC h0 kc_21) rfl dX6_may_18 ?_
    refine r_if_le 28 C dX6_may_21 (by decide) (fun c3 => ?_) (fun c3 => ?_)
    · have c3' := i_le c3
      refine r_iconst (v := 0) C dX6_may_28 (by decide) ?_
      exact hret _ _ _ _ dX6_may_29 (nar_z (z_of (by omega))) ⟨h0, o0, by omega⟩
    · have c3' := i_nle c3
      refine r_iconst (v := 1) C dX6_may_24 (by decide) ?_
      refine r_goto 29 C dX6_may_25 (by decide) ?_
      exact hret _ _ _ _ dX6_may_29 (nar_z (z_of (by omega))) ⟨h0, o0, by omega⟩
  · have c2' := i_ne c2
    refine r_iload_n 1 C dX6_may_10 rfl ?_
    refine r_if_ne 30 C dX6_may_11 (by decide) (fun c4 => ?_) (fun c4 => ?_)
    · have c4' := i_ne c4
      refine r_aload_n 0 C dX6_may_30 rfl ?_
      refine gfX6_22 21 C (kS sC h0 kc_74) (xS sC h0 xc_74_5) dX6_may_31 ?_
      refine r_aload_n 0 C dX6_may_34 rfl ?_
      refine gfX6_22 21 C (kS sC h0 kc_74) (xS sC h0 xc_74_5) dX6_may_35 ?_
      refine r_aload_n 0 C dX6_may_38 rfl ?_
      refine gfX6_32 (v := (wI w 74 0)) C (kS sC h0 kc_74) rfl dX6_may_39 ?_
      refine r_iload_n 1 C dX6_may_42 rfl ?_
      refine callVI C cwX6_47_V (ctX1_beside_21 _ _ w (sS sC h0) o0 (wI w 74 0) a1 ) (by decide) (kS sC h0 kc_21) rfl rfl rfl (Nat.le_of_ble_eq_true rfl) (by decide) dX6_may_43 (fun r7 w6 y5 => ?_)
      show V x 0 0 w6 46 [(0, .ref (gz (xG x) + 74)), (1, .int a1)] [.int r7, .ref (gz (xG x) + 21)]
      obtain ⟨h8, o9⟩ := y5
      have h10 := Ch.tr h0 h8 (by decide) (by decide)
      refine callVI C cwX6_51_V (ctX1_what_21 _ _ w6 (sS sC h10) o9 r7 ) (by decide) (kS sC h10 kc_21) rfl rfl rfl (Nat.le_of_ble_eq_true rfl) (by decide) dX6_may_46 (fun r13 w12 y11 => ?_)
      show V x 0 0 w12 49 [(0, .ref (gz (xG x) + 74)), (1, .int a1)] [.int r13]
      obtain ⟨h14, o15⟩ := y11
      have h16 := Ch.tr h10 h14 (by decide) (by decide)
      refine r_istore_n [(2, .int r13), (0, .ref (gz (xG x) + 74)), (1, .int a1)] C dX6_may_49 (by decide) rfl ?_
      refine r_iload_n 0 C dX6_may_50 rfl ?_
      refine r_iconst (v := 1) C dX6_may_51 (by decide) ?_
      refine r_icmp_eq 64 C dX6_may_52 (by decide) (fun c17 => ?_) (fun c17 => ?_)
      · have c17' := i_eq c17
        refine r_iconst (v := 0) C dX6_may_64 (by decide) ?_
        exact hret _ _ _ _ dX6_may_65 (nar_z (z_of (by omega))) ⟨h16, o15, by omega⟩
      · have c17' := i_ne c17
        refine r_iload_n 0 C dX6_may_55 rfl ?_
        refine r_iconst (v := 2) C dX6_may_56 (by decide) ?_
        refine r_icmp_eq 64 C dX6_may_57 (by decide) (fun c18 => ?_) (fun c18 => ?_)
        · have c18' := i_eq c18
          refine r_iconst (v := 0) C dX6_may_64 (by decide) ?_
          exact hret _ _ _ _ dX6_may_65 (nar_z (z_of (by omega))) ⟨h16, o15, by omega⟩
        · have c18' := i_ne c18
          refine r_iconst (v := 1) C dX6_may_60 (by decide) ?_
          refine r_goto 65 C dX6_may_61 (by decide) ?_
          exact hret _ _ _ _ dX6_may_65 (nar_z (z_of (by omega))) ⟨h16, o15, by omega⟩
    · have c4' := i_eq c4
      refine r_aload_n 0 C dX6_may_14 rfl ?_
      refine gfX6_22 21 C (kS sC h0 kc_74) (xS sC h0 xc_74_5) dX6_may_15 ?_
      refine gfX6_42 (v := (wI w 21 0)) C (kS sC h0 kc_21) rfl dX6_may_18 ?_
      refine r_if_le 28 C dX6_may_21 (by decide) (fun c19 => ?_) (fun c19 => ?_)
      · have c19' := i_le c19
        refine r_iconst (v := 0) C dX6_may_28 (by decide) ?_
        exact hret _ _ _ _ dX6_may_29 (nar_z (z_of (by omega))) ⟨h0, o0, by omega⟩
      · have c19' := i_nle c19
        refine r_iconst (v := 1) C dX6_may_24 (by decide) ?_
        refine r_goto 29 C dX6_may_25 (by decide) ?_
        exact hret _ _ _ _ dX6_may_29 (nar_z (z_of (by omega))) ⟨h0, o0, by omega⟩
set_option maxHeartbeats 4000000 in
set_option maxRecDepth 100000 in
theorem ctX6_may_85 (l : Launch) (G : Gt) (w : Wv) (sC : Str KC XC w) (o0 : Inv RC w) (a1 : Int32) : CtI l G yX6_may cX6_may 3 .boolean ({ frames := 1, cells := 0, slots := 0, locals := 23 } : Room) [.ref (gz G + 85), .int a1] w (fun r w' => Ch [] [] w w' ∧ Inv RC w' ∧ ((0 ≤ r.toInt ∧ r.toInt ≤ 1))) := by
  refine enterI (by decide) (Nat.le_of_ble_eq_true rfl) ?_
  intro x el eG C hret
  subst el; subst eG
  show V x 0 0 w 0 [(0, .ref (gz (xG x) + 85)), (1, .int a1)] []
  have h0 : Ch [] [] w w := Ch.rf
  have q0 : (0 : Int32).toInt = 0 := by decide
  have q1 : (1 : Int32).toInt = 1 := by decide
  have q2 : (2 : Int32).toInt = 2 := by decide
  refine r_aload_n 0 C dX6_may_0 rfl ?_
  refine gfX6_22 21 C (kS sC h0 kc_85) (xS sC h0 xc_85_5) dX6_may_1 ?_
  refine gfX6_42 (v := (wI w 21 0)) C (kS sC h0 kc_21) rfl dX6_may_4 ?_
  have b1 := Inv.get o0 rt_21_0 (j := 0) (by decide) (by decide)
  refine r_if_eq 14 C dX6_may_7 (by decide) (fun c2 => ?_) (fun c2 => ?_)
  · have c2' := i_eq c2
    refine r_aload_n 0 C dX6_may_14 rfl ?_
    refine gfX6_22 21 C (kS sC h0 kc_85) (xS sC h0 xc_85_5) dX6_may_15 ?_
    refine gfX6_42 (v := (wI w 21 0)) C (kS sC h0 kc_21) rfl dX6_may_18 ?_
    refine r_if_le 28 C dX6_may_21 (by decide) (fun c3 => ?_) (fun c3 => ?_)
    · have c3' := i_le c3
      refine r_iconst (v := 0) C dX6_may_28 (by decide) ?_
      exact hret _ _ _ _ dX6_may_29 (nar_z (z_of (by omega))) ⟨h0, o0, by omega⟩
    · have c3' := i_nle c3
      refine r_iconst (v := 1) C dX6_may_24 (by decide) ?_
      refine r_goto 29 C dX6_may_25 (by decide) ?_
      exact hret _ _ _ _ dX6_may_29 (nar_z (z_of (by omega))) ⟨h0, o0, by omega⟩
  · have c2' := i_ne c2
    refine r_iload_n 1 C dX6_may_10 rfl ?_
    refine r_if_ne 30 C dX6_may_11 (by decide) (fun c4 => ?_) (fun c4 => ?_)
    · have c4' := i_ne c4
      refine r_aload_n 0 C dX6_may_30 rfl ?_
      refine gfX6_22 21 C (kS sC h0 kc_85) (xS sC h0 xc_85_5) dX6_may_31 ?_
      refine r_aload_n 0 C dX6_may_34 rfl ?_
      refine gfX6_22 21 C (kS sC h0 kc_85) (xS sC h0 xc_85_5) dX6_may_35 ?_
      refine r_aload_n 0 C dX6_may_38 rfl ?_
      refine gfX6_32 (v := (wI w 85 0)) C (kS sC h0 kc_85) rfl dX6_may_39 ?_
      refine r_iload_n 1 C dX6_may_42 rfl ?_
      refine callVI C cwX6_47_V (ctX1_beside_21 _ _ w (sS sC h0) o0 (wI w 85 0) a1 ) (by decide) (kS sC h0 kc_21) rfl rfl rfl (Nat.le_of_ble_eq_true rfl) (by decide) dX6_may_43 (fun r7 w6 y5 => ?_)
      show V x 0 0 w6 46 [(0, .ref (gz (xG x) + 85)), (1, .int a1)] [.int r7, .ref (gz (xG x) + 21)]
      obtain ⟨h8, o9⟩ := y5
      have h10 := Ch.tr h0 h8 (by decide) (by decide)
      refine callVI C cwX6_51_V (ctX1_what_21 _ _ w6 (sS sC h10) o9 r7 ) (by decide) (kS sC h10 kc_21) rfl rfl rfl (Nat.le_of_ble_eq_true rfl) (by decide) dX6_may_46 (fun r13 w12 y11 => ?_)
      show V x 0 0 w12 49 [(0, .ref (gz (xG x) + 85)), (1, .int a1)] [.int r13]
      obtain ⟨h14, o15⟩ := y11
      have h16 := Ch.tr h10 h14 (by decide) (by decide)
      refine r_istore_n [(2, .int r13), (0, .ref (gz (xG x) + 85)), (1, .int a1)] C dX6_may_49 (by decide) rfl ?_
      refine r_iload_n 0 C dX6_may_50 rfl ?_
      refine r_iconst (v := 1) C dX6_may_51 (by decide) ?_
      refine r_icmp_eq 64 C dX6_may_52 (by decide) (fun c17 => ?_) (fun c17 => ?_)
      · have c17' := i_eq c17
        refine r_iconst (v := 0) C dX6_may_64 (by decide) ?_
        exact hret _ _ _ _ dX6_may_65 (nar_z (z_of (by omega))) ⟨h16, o15, by omega⟩
      · have c17' := i_ne c17
        refine r_iload_n 0 C dX6_may_55 rfl ?_
        refine r_iconst (v := 2) C dX6_may_56 (by decide) ?_
        refine r_icmp_eq 64 C dX6_may_57 (by decide) (fun c18 => ?_) (fun c18 => ?_)
        · have c18' := i_eq c18
          refine r_iconst (v := 0) C dX6_may_64 (by decide) ?_
          exact hret _ _ _ _ dX6_may_65 (nar_z (z_of (by omega))) ⟨h16, o15, by omega⟩
        · have c18' := i_ne c18
          refine r_iconst (v := 1) C dX6_may_60 (by decide) ?_
          refine r_goto 65 C dX6_may_61 (by decide) ?_
          exact hret _ _ _ _ dX6_may_65 (nar_z (z_of (by omega))) ⟨h16, o15, by omega⟩
    · have c4' := i_eq c4
      refine r_aload_n 0 C dX6_may_14 rfl ?_
      refine gfX6_22 21 C (kS sC h0 kc_85) (xS sC h0 xc_85_5) dX6_may_15 ?_
      refine gfX6_42 (v := (wI w 21 0)) C (kS sC h0 kc_21) rfl dX6_may_18 ?_
      refine r_if_le 28 C dX6_may_21 (by decide) (fun c19 => ?_) (fun c19 => ?_)
      · have c19' := i_le c19
        refine r_iconst (v := 0) C dX6_may_28 (by decide) ?_
        exact hret _ _ _ _ dX6_may_29 (nar_z (z_of (by omega))) ⟨h0, o0, by omega⟩
      · have c19' := i_nle c19
        refine r_iconst (v := 1) C dX6_may_24 (by decide) ?_
        refine r_goto 29 C dX6_may_25 (by decide) ?_
        exact hret _ _ _ _ dX6_may_29 (nar_z (z_of (by omega))) ⟨h0, o0, by omega⟩
set_option maxHeartbeats 4000000 in
set_option maxRecDepth 100000 in
theorem ctX6_may_88 (l : Launch) (G : Gt) (w : Wv) (sC : Str KC XC w) (o0 : Inv RC w) (a1 : Int32) : CtI l G yX6_may cX6_may 3 .boolean ({ frames := 1, cells := 0, slots := 0, locals := 23 } : Room) [.ref (gz G + 88), .int a1] w (fun r w' => Ch [] [] w w' ∧ Inv RC w' ∧ ((0 ≤ r.toInt ∧ r.toInt ≤ 1))) := by
  refine enterI (by decide) (Nat.le_of_ble_eq_true rfl) ?_
  intro x el eG C hret
  subst el; subst eG
  show V x 0 0 w 0 [(0, .ref (gz (xG x) + 88)), (1, .int a1)] []
  have h0 : Ch [] [] w w := Ch.rf
  have q0 : (0 : Int32).toInt = 0 := by decide
  have q1 : (1 : Int32).toInt = 1 := by decide
  have q2 : (2 : Int32).toInt = 2 := by decide
  refine r_aload_n 0 C dX6_may_0 rfl ?_
  refine gfX6_22 21 C (kS sC h0 kc_88) (xS sC h0 xc_88_5) dX6_may_1 ?_
  refine gfX6_42 (v := (wI w 21 0)) C (kS sC h0 kc_21) rfl dX6_may_4 ?_
  have b1 := Inv.get o0 rt_21_0 (j := 0) (by decide) (by decide)
  refine r_if_eq 14 C dX6_may_7 (by decide) (fun c2 => ?_) (fun c2 => ?_)
  · have c2' := i_eq c2
    refine r_aload_n 0 C dX6_may_14 rfl ?_
    refine gfX6_22 21 C (kS sC h0 kc_88) (xS sC h0 xc_88_5) dX6_may_15 ?_
    refine gfX6_42 (v := (wI w 21 0)) C (kS sC h0 kc_21) rfl dX6_may_18 ?_
    refine r_if_le 28 C dX6_may_21 (by decide) (fun c3 => ?_) (fun c3 => ?_)
    · have c3' := i_le c3
      refine r_iconst (v := 0) C dX6_may_28 (by decide) ?_
      exact hret _ _ _ _ dX6_may_29 (nar_z (z_of (by omega))) ⟨h0, o0, by omega⟩
    · have c3' := i_nle c3
      refine r_iconst (v := 1) C dX6_may_24 (by decide) ?_
      refine r_goto 29 C dX6_may_25 (by decide) ?_
      exact hret _ _ _ _ dX6_may_29 (nar_z (z_of (by omega))) ⟨h0, o0, by omega⟩
  · have c2' := i_ne c2
    refine r_iload_n 1 C dX6_may_10 rfl ?_
    refine r_if_ne 30 C dX6_may_11 (by decide) (fun c4 => ?_) (fun c4 => ?_)
    · have c4' := i_ne c4
      refine r_aload_n 0 C dX6_may_30 rfl ?_
      refine gfX6_22 21 C (kS sC h0 kc_88) (xS sC h0 xc_88_5) dX6_may_31 ?_
      refine r_aload_n 0 C dX6_may_34 rfl ?_
      refine gfX6_22 21 C (kS sC h0 kc_88) (xS sC h0 xc_88_5) dX6_may_35 ?_
      refine r_aload_n 0 C dX6_may_38 rfl ?_
      refine gfX6_32 (v := (wI w 88 0)) C (kS sC h0 kc_88) rfl dX6_may_39 ?_
      refine r_iload_n 1 C dX6_may_42 rfl ?_
      refine callVI C cwX6_47_V (ctX1_beside_21 _ _ w (sS sC h0) o0 (wI w 88 0) a1 ) (by decide) (kS sC h0 kc_21) rfl rfl rfl (Nat.le_of_ble_eq_true rfl) (by decide) dX6_may_43 (fun r7 w6 y5 => ?_)
      show V x 0 0 w6 46 [(0, .ref (gz (xG x) + 88)), (1, .int a1)] [.int r7, .ref (gz (xG x) + 21)]
      obtain ⟨h8, o9⟩ := y5
      have h10 := Ch.tr h0 h8 (by decide) (by decide)
      refine callVI C cwX6_51_V (ctX1_what_21 _ _ w6 (sS sC h10) o9 r7 ) (by decide) (kS sC h10 kc_21) rfl rfl rfl (Nat.le_of_ble_eq_true rfl) (by decide) dX6_may_46 (fun r13 w12 y11 => ?_)
      show V x 0 0 w12 49 [(0, .ref (gz (xG x) + 88)), (1, .int a1)] [.int r13]
      obtain ⟨h14, o15⟩ := y11
      have h16 := Ch.tr h10 h14 (by decide) (by decide)
      refine r_istore_n [(2, .int r13), (0, .ref (gz (xG x) + 88)), (1, .int a1)] C dX6_may_49 (by decide) rfl ?_
      refine r_iload_n 0 C dX6_may_50 rfl ?_
      refine r_iconst (v := 1) C dX6_may_51 (by decide) ?_
      refine r_icmp_eq 64 C dX6_may_52 (by decide) (fun c17 => ?_) (fun c17 => ?_)
      · have c17' := i_eq c17
        refine r_iconst (v := 0) C dX6_may_64 (by decide) ?_
        exact hret _ _ _ _ dX6_may_65 (nar_z (z_of (by omega))) ⟨h16, o15, by omega⟩
      · have c17' := i_ne c17
        refine r_iload_n 0 C dX6_may_55 rfl ?_
        refine r_iconst (v := 2) C dX6_may_56 (by decide) ?_
        refine r_icmp_eq 64 C dX6_may_57 (by decide) (fun c18 => ?_) (fun c18 => ?_)
        · have c18' := i_eq c18
          refine r_iconst (v := 0) C dX6_may_64 (by decide) ?_
          exact hret _ _ _ _ dX6_may_65 (nar_z (z_of (by omega))) ⟨h16, o15, by omega⟩
        · have c18' := i_ne c18
          refine r_iconst (v := 1) C dX6_may_60 (by decide) ?_
          refine r_goto 65 C dX6_may_61 (by decide) ?_
          exact hret _ _ _ _ dX6_may_65 (nar_z (z_of (by omega))) ⟨h16, o15, by omega⟩
    · have c4' := i_eq c4
      refine r_aload_n 0 C dX6_may_14 rfl ?_
      refine gfX6_22 21 C (kS sC h0 kc_88) (xS sC h0 xc_88_5) dX6_may_15 ?_
      refine gfX6_42 (v := (wI w 21 0)) C (kS sC h0 kc_21) rfl dX6_may_18 ?_
      refine r_if_le 28 C dX6_may_21 (by decide) (fun c19 => ?_) (fun c19 => ?_)
      · have c19' := i_le c19
        refine r_iconst (v := 0) C dX6_may_28 (by decide) ?_
        exact hret _ _ _ _ dX6_may_29 (nar_z (z_of (by omega))) ⟨h0, o0, by omega⟩
      · have c19' := i_nle c19
        refine r_iconst (v := 1) C dX6_may_24 (by decide) ?_
        refine r_goto 29 C dX6_may_25 (by decide) ?_
        exact hret _ _ _ _ dX6_may_29 (nar_z (z_of (by omega))) ⟨h0, o0, by omega⟩
set_option maxHeartbeats 4000000 in
set_option maxRecDepth 100000 in
theorem ctX6_may_91 (l : Launch) (G : Gt) (w : Wv) (sC : Str KC XC w) (o0 : Inv RC w) (a1 : Int32) : CtI l G yX6_may cX6_may 3 .boolean ({ frames := 1, cells := 0, slots := 0, locals := 23 } : Room) [.ref (gz G + 91), .int a1] w (fun r w' => Ch [] [] w w' ∧ Inv RC w' ∧ ((0 ≤ r.toInt ∧ r.toInt ≤ 1))) := by
  refine enterI (by decide) (Nat.le_of_ble_eq_true rfl) ?_
  intro x el eG C hret
  subst el; subst eG
  show V x 0 0 w 0 [(0, .ref (gz (xG x) + 91)), (1, .int a1)] []
  have h0 : Ch [] [] w w := Ch.rf
  have q0 : (0 : Int32).toInt = 0 := by decide
  have q1 : (1 : Int32).toInt = 1 := by decide
  have q2 : (2 : Int32).toInt = 2 := by decide
  refine r_aload_n 0 C dX6_may_0 rfl ?_
  refine gfX6_22 21 C (kS sC h0 kc_91) (xS sC h0 xc_91_5) dX6_may_1 ?_
  refine gfX6_42 (v := (wI w 21 0)) C (kS sC h0 kc_21) rfl dX6_may_4 ?_
  have b1 := Inv.get o0 rt_21_0 (j := 0) (by decide) (by decide)
  refine r_if_eq 14 C dX6_may_7 (by decide) (fun c2 => ?_) (fun c2 => ?_)
  · have c2' := i_eq c2
    refine r_aload_n 0 C dX6_may_14 rfl ?_
    refine gfX6_22 21 C (kS sC h0 kc_91) (xS sC h0 xc_91_5) dX6_may_15 ?_
    refine gfX6_42 (v := (wI w 21 0)) C (kS sC h0 kc_21) rfl dX6_may_18 ?_
    refine r_if_le 28 C dX6_may_21 (by decide) (fun c3 => ?_) (fun c3 => ?_)
    · have c3' := i_le c3
      refine r_iconst (v := 0) C dX6_may_28 (by decide) ?_
      exact hret _ _ _ _ dX6_may_29 (nar_z (z_of (by omega))) ⟨h0, o0, by omega⟩
    · have c3' := i_nle c3
      refine r_iconst (v := 1) C dX6_may_24 (by decide) ?_
      refine r_goto 29 C dX6_may_25 (by decide) ?_
      exact hret _ _ _ _ dX6_may_29 (nar_z (z_of (by omega))) ⟨h0, o0, by omega⟩
  · have c2' := i_ne c2
    refine r_iload_n 1 C dX6_may_10 rfl ?_
    refine r_if_ne 30 C dX6_may_11 (by decide) (fun c4 => ?_) (fun c4 => ?_)
    · have c4' := i_ne c4
      refine r_aload_n 0 C dX6_may_30 rfl ?_
      refine gfX6_22 21 C (kS sC h0 kc_91) (xS sC h0 xc_91_5) dX6_may_31 ?_
      refine r_aload_n 0 C dX6_may_34 rfl ?_
      refine gfX6_22 21 C (kS sC h0 kc_91) (xS sC h0 xc_91_5) dX6_may_35 ?_
      refine r_aload_n 0 C dX6_may_38 rfl ?_
      refine gfX6_32 (v := (wI w 91 0)) C (kS sC h0 kc_91) rfl dX6_may_39 ?_
      refine r_iload_n 1 C dX6_may_42 rfl ?_
      refine callVI C cwX6_47_V (ctX1_beside_21 _ _ w (sS sC h0) o0 (wI w 91 0) a1 ) (by decide) (kS sC h0 kc_21) rfl rfl rfl (Nat.le_of_ble_eq_true rfl) (by decide) dX6_may_43 (fun r7 w6 y5 => ?_)
      show V x 0 0 w6 46 [(0, .ref (gz (xG x) + 91)), (1, .int a1)] [.int r7, .ref (gz (xG x) + 21)]
      obtain ⟨h8, o9⟩ := y5
      have h10 := Ch.tr h0 h8 (by decide) (by decide)
      refine callVI C cwX6_51_V (ctX1_what_21 _ _ w6 (sS sC h10) o9 r7 ) (by decide) (kS sC h10 kc_21) rfl rfl rfl (Nat.le_of_ble_eq_true rfl) (by decide) dX6_may_46 (fun r13 w12 y11 => ?_)
      show V x 0 0 w12 49 [(0, .ref (gz (xG x) + 91)), (1, .int a1)] [.int r13]
      obtain ⟨h14, o15⟩ := y11
      have h16 := Ch.tr h10 h14 (by decide) (by decide)
      refine r_istore_n [(2, .int r13), (0, .ref (gz (xG x) + 91)), (1, .int a1)] C dX6_may_49 (by decide) rfl ?_
      refine r_iload_n 0 C dX6_may_50 rfl ?_
      refine r_iconst (v := 1) C dX6_may_51 (by decide) ?_
      refine r_icmp_eq 64 C dX6_may_52 (by decide) (fun c17 => ?_) (fun c17 => ?_)
      · have c17' := i_eq c17
        refine r_iconst (v := 0) C dX6_may_64 (by decide) ?_
        exact hret _ _ _ _ dX6_may_65 (nar_z (z_of (by omega))) ⟨h16, o15, by omega⟩
      · have c17' := i_ne c17
        refine r_iload_n 0 C dX6_may_55 rfl ?_
        refine r_iconst (v := 2) C dX6_may_56 (by decide) ?_
        refine r_icmp_eq 64 C dX6_may_57 (by decide) (fun c18 => ?_) (fun c18 => ?_)
        · have c18' := i_eq c18
          refine r_iconst (v := 0) C dX6_may_64 (by decide) ?_
          exact hret _ _ _ _ dX6_may_65 (nar_z (z_of (by omega))) ⟨h16, o15, by omega⟩
        · have c18' := i_ne c18
          refine r_iconst (v := 1) C dX6_may_60 (by decide) ?_
          refine r_goto 65 C dX6_may_61 (by decide) ?_
          exact hret _ _ _ _ dX6_may_65 (nar_z (z_of (by omega))) ⟨h16, o15, by omega⟩
    · have c4' := i_eq c4
      refine r_aload_n 0 C dX6_may_14 rfl ?_
      refine gfX6_22 21 C (kS sC h0 kc_91) (xS sC h0 xc_91_5) dX6_may_15 ?_
      refine gfX6_42 (v := (wI w 21 0)) C (kS sC h0 kc_21) rfl dX6_may_18 ?_
      refine r_if_le 28 C dX6_may_21 (by decide) (fun c19 => ?_) (fun c19 => ?_)
      · have c19' := i_le c19
        refine r_iconst (v := 0) C dX6_may_28 (by decide) ?_
        exact hret _ _ _ _ dX6_may_29 (nar_z (z_of (by omega))) ⟨h0, o0, by omega⟩
      · have c19' := i_nle c19
        refine r_iconst (v := 1) C dX6_may_24 (by decide) ?_
        refine r_goto 29 C dX6_may_25 (by decide) ?_
        exact hret _ _ _ _ dX6_may_29 (nar_z (z_of (by omega))) ⟨h0, o0, by omega⟩
set_option maxHeartbeats 4000000 in
set_option maxRecDepth 100000 in
theorem ctX6_may_94 (l : Launch) (G : Gt) (w : Wv) (sC : Str KC XC w) (o0 : Inv RC w) (a1 : Int32) : CtI l G yX6_may cX6_may 3 .boolean ({ frames := 1, cells := 0, slots := 0, locals := 23 } : Room) [.ref (gz G + 94), .int a1] w (fun r w' => Ch [] [] w w' ∧ Inv RC w' ∧ ((0 ≤ r.toInt ∧ r.toInt ≤ 1))) := by
  refine enterI (by decide) (Nat.le_of_ble_eq_true rfl) ?_
  intro x el eG C hret
  subst el; subst eG
  show V x 0 0 w 0 [(0, .ref (gz (xG x) + 94)), (1, .int a1)] []
  have h0 : Ch [] [] w w := Ch.rf
  have q0 : (0 : Int32).toInt = 0 := by decide
  have q1 : (1 : Int32).toInt = 1 := by decide
  have q2 : (2 : Int32).toInt = 2 := by decide
  refine r_aload_n 0 C dX6_may_0 rfl ?_
  refine gfX6_22 21 C (kS sC h0 kc_94) (xS sC h0 xc_94_5) dX6_may_1 ?_
  refine gfX6_42 (v := (wI w 21 0)) C (kS sC h0 kc_21) rfl dX6_may_4 ?_
  have b1 := Inv.get o0 rt_21_0 (j := 0) (by decide) (by decide)
  refine r_if_eq 14 C dX6_may_7 (by decide) (fun c2 => ?_) (fun c2 => ?_)
  · have c2' := i_eq c2
    refine r_aload_n 0 C dX6_may_14 rfl ?_
    refine gfX6_22 21 C (kS sC h0 kc_94) (xS sC h0 xc_94_5) dX6_may_15 ?_
    refine gfX6_42 (v := (wI w 21 0)) C (kS sC h0 kc_21) rfl dX6_may_18 ?_
    refine r_if_le 28 C dX6_may_21 (by decide) (fun c3 => ?_) (fun c3 => ?_)
    · have c3' := i_le c3
      refine r_iconst (v := 0) C dX6_may_28 (by decide) ?_
      exact hret _ _ _ _ dX6_may_29 (nar_z (z_of (by omega))) ⟨h0, o0, by omega⟩
    · have c3' := i_nle c3
      refine r_iconst (v := 1) C dX6_may_24 (by decide) ?_
      refine r_goto 29 C dX6_may_25 (by decide) ?_
      exact hret _ _ _ _ dX6_may_29 (nar_z (z_of (by omega))) ⟨h0, o0, by omega⟩
  · have c2' := i_ne c2
    refine r_iload_n 1 C dX6_may_10 rfl ?_
    refine r_if_ne 30 C dX6_may_11 (by decide) (fun c4 => ?_) (fun c4 => ?_)
    · have c4' := i_ne c4
      refine r_aload_n 0 C dX6_may_30 rfl ?_
      refine gfX6_22 21 C (kS sC h0 kc_94) (xS sC h0 xc_94_5) dX6_may_31 ?_
      refine r_aload_n 0 C dX6_may_34 rfl ?_
      refine gfX6_22 21 C (kS sC h0 kc_94) (xS sC h0 xc_94_5) dX6_may_35 ?_
      refine r_aload_n 0 C dX6_may_38 rfl ?_
      refine gfX6_32 (v := (wI w 94 0)) C (kS sC h0 kc_94) rfl dX6_may_39 ?_
      refine r_iload_n 1 C dX6_may_42 rfl ?_
      refine callVI C cwX6_47_V (ctX1_beside_21 _ _ w (sS sC h0) o0 (wI w 94 0) a1 ) (by decide) (kS sC h0 kc_21) rfl rfl rfl (Nat.le_of_ble_eq_true rfl) (by decide) dX6_may_43 (fun r7 w6 y5 => ?_)
      show V x 0 0 w6 46 [(0, .ref (gz (xG x) + 94)), (1, .int a1)] [.int r7, .ref (gz (xG x) + 21)]
      obtain ⟨h8, o9⟩ := y5
      have h10 := Ch.tr h0 h8 (by decide) (by decide)
      refine callVI C cwX6_51_V (ctX1_what_21 _ _ w6 (sS sC h10) o9 r7 ) (by decide) (kS sC h10 kc_21) rfl rfl rfl (Nat.le_of_ble_eq_true rfl) (by decide) dX6_may_46 (fun r13 w12 y11 => ?_)
      show V x 0 0 w12 49 [(0, .ref (gz (xG x) + 94)), (1, .int a1)] [.int r13]
      obtain ⟨h14, o15⟩ := y11
      have h16 := Ch.tr h10 h14 (by decide) (by decide)
      refine r_istore_n [(2, .int r13), (0, .ref (gz (xG x) + 94)), (1, .int a1)] C dX6_may_49 (by decide) rfl ?_
      refine r_iload_n 0 C dX6_may_50 rfl ?_
      refine r_iconst (v := 1) C dX6_may_51 (by decide) ?_
      refine r_icmp_eq 64 C dX6_may_52 (by decide) (fun c17 => ?_) (fun c17 => ?_)
      · have c17' := i_eq c17
        refine r_iconst (v := 0) C dX6_may_64 (by decide) ?_
        exact hret _ _ _ _ dX6_may_65 (nar_z (z_of (by omega))) ⟨h16, o15, by omega⟩
      · have c17' := i_ne c17
        refine r_iload_n 0 C dX6_may_55 rfl ?_
        refine r_iconst (v := 2) C dX6_may_56 (by decide) ?_
        refine r_icmp_eq 64 C dX6_may_57 (by decide) (fun c18 => ?_) (fun c18 => ?_)
        · have c18' := i_eq c18
          refine r_iconst (v := 0) C dX6_may_64 (by decide) ?_
          exact hret _ _ _ _ dX6_may_65 (nar_z (z_of (by omega))) ⟨h16, o15, by omega⟩
        · have c18' := i_ne c18
          refine r_iconst (v := 1) C dX6_may_60 (by decide) ?_
          refine r_goto 65 C dX6_may_61 (by decide) ?_
          exact hret _ _ _ _ dX6_may_65 (nar_z (z_of (by omega))) ⟨h16, o15, by omega⟩
    · have c4' := i_eq c4
      refine r_aload_n 0 C dX6_may_14 rfl ?_
      refine gfX6_22 21 C (kS sC h0 kc_94) (xS sC h0 xc_94_5) dX6_may_15 ?_
      refine gfX6_42 (v := (wI w 21 0)) C (kS sC h0 kc_21) rfl dX6_may_18 ?_
      refine r_if_le 28 C dX6_may_21 (by decide) (fun c19 => ?_) (fun c19 => ?_)
      · have c19' := i_le c19
        refine r_iconst (v := 0) C dX6_may_28 (by decide) ?_
        exact hret _ _ _ _ dX6_may_29 (nar_z (z_of (by omega))) ⟨h0, o0, by omega⟩
      · have c19' := i_nle c19
        refine r_iconst (v := 1) C dX6_may_24 (by decide) ?_
        refine r_goto 29 C dX6_may_25 (by decide) ?_
        exact hret _ _ _ _ dX6_may_29 (nar_z (z_of (by omega))) ⟨h0, o0, by omega⟩
set_option maxHeartbeats 4000000 in
set_option maxRecDepth 100000 in
theorem ctX6_may_97 (l : Launch) (G : Gt) (w : Wv) (sC : Str KC XC w) (o0 : Inv RC w) (a1 : Int32) : CtI l G yX6_may cX6_may 3 .boolean ({ frames := 1, cells := 0, slots := 0, locals := 23 } : Room) [.ref (gz G + 97), .int a1] w (fun r w' => Ch [] [] w w' ∧ Inv RC w' ∧ ((0 ≤ r.toInt ∧ r.toInt ≤ 1))) := by
  refine enterI (by decide) (Nat.le_of_ble_eq_true rfl) ?_
  intro x el eG C hret
  subst el; subst eG
  show V x 0 0 w 0 [(0, .ref (gz (xG x) + 97)), (1, .int a1)] []
  have h0 : Ch [] [] w w := Ch.rf
  have q0 : (0 : Int32).toInt = 0 := by decide
  have q1 : (1 : Int32).toInt = 1 := by decide
  have q2 : (2 : Int32).toInt = 2 := by decide
  refine r_aload_n 0 C dX6_may_0 rfl ?_
  refine gfX6_22 21 C (kS sC h0 kc_97) (xS sC h0 xc_97_5) dX6_may_1 ?_
  refine gfX6_42 (v := (wI w 21 0)) C (kS sC h0 kc_21) rfl dX6_may_4 ?_
  have b1 := Inv.get o0 rt_21_0 (j := 0) (by decide) (by decide)
  refine r_if_eq 14 C dX6_may_7 (by decide) (fun c2 => ?_) (fun c2 => ?_)
  · have c2' := i_eq c2
    refine r_aload_n 0 C dX6_may_14 rfl ?_
    refine gfX6_22 21 C (kS sC h0 kc_97) (xS sC h0 xc_97_5) dX6_may_15 ?_
    refine gfX6_42 (v := (wI w 21 0)) C (kS sC h0 kc_21) rfl dX6_may_18 ?_
    refine r_if_le 28 C dX6_may_21 (by decide) (fun c3 => ?_) (fun c3 => ?_)
    · have c3' := i_le c3
      refine r_iconst (v := 0) C dX6_may_28 (by decide) ?_
      exact hret _ _ _ _ dX6_may_29 (nar_z (z_of (by omega))) ⟨h0, o0, by omega⟩
    · have c3' := i_nle c3
      refine r_iconst (v := 1) C dX6_may_24 (by decide) ?_
      refine r_goto 29 C dX6_may_25 (by decide) ?_
      exact hret _ _ _ _ dX6_may_29 (nar_z (z_of (by omega))) ⟨h0, o0, by omega⟩
  · have c2' := i_ne c2
    refine r_iload_n 1 C dX6_may_10 rfl ?_
    refine r_if_ne 30 C dX6_may_11 (by decide) (fun c4 => ?_) (fun c4 => ?_)
    · have c4' := i_ne c4
      refine r_aload_n 0 C dX6_may_30 rfl ?_
      refine gfX6_22 21 C (kS sC h0 kc_97) (xS sC h0 xc_97_5) dX6_may_31 ?_
      refine r_aload_n 0 C dX6_may_34 rfl ?_
      refine gfX6_22 21 C (kS sC h0 kc_97) (xS sC h0 xc_97_5) dX6_may_35 ?_
      refine r_aload_n 0 C dX6_may_38 rfl ?_
      refine gfX6_32 (v := (wI w 97 0)) C (kS sC h0 kc_97) rfl dX6_may_39 ?_
      refine r_iload_n 1 C dX6_may_42 rfl ?_
      refine callVI C cwX6_47_V (ctX1_beside_21 _ _ w (sS sC h0) o0 (wI w 97 0) a1 ) (by decide) (kS sC h0 kc_21) rfl rfl rfl (Nat.le_of_ble_eq_true rfl) (by decide) dX6_may_43 (fun r7 w6 y5 => ?_)
      show V x 0 0 w6 46 [(0, .ref (gz (xG x) + 97)), (1, .int a1)] [.int r7, .ref (gz (xG x) + 21)]
      obtain ⟨h8, o9⟩ := y5
      have h10 := Ch.tr h0 h8 (by decide) (by decide)
      refine callVI C cwX6_51_V (ctX1_what_21 _ _ w6 (sS sC h10) o9 r7 ) (by decide) (kS sC h10 kc_21) rfl rfl rfl (Nat.le_of_ble_eq_true rfl) (by decide) dX6_may_46 (fun r13 w12 y11 => ?_)
      show V x 0 0 w12 49 [(0, .ref (gz (xG x) + 97)), (1, .int a1)] [.int r13]
      obtain ⟨h14, o15⟩ := y11
      have h16 := Ch.tr h10 h14 (by decide) (by decide)
      refine r_istore_n [(2, .int r13), (0, .ref (gz (xG x) + 97)), (1, .int a1)] C dX6_may_49 (by decide) rfl ?_
      refine r_iload_n 0 C dX6_may_50 rfl ?_
      refine r_iconst (v := 1) C dX6_may_51 (by decide) ?_
      refine r_icmp_eq 64 C dX6_may_52 (by decide) (fun c17 => ?_) (fun c17 => ?_)
      · have c17' := i_eq c17
        refine r_iconst (v := 0) C dX6_may_64 (by decide) ?_
        exact hret _ _ _ _ dX6_may_65 (nar_z (z_of (by omega))) ⟨h16, o15, by omega⟩
      · have c17' := i_ne c17
        refine r_iload_n 0 C dX6_may_55 rfl ?_
        refine r_iconst (v := 2) C dX6_may_56 (by decide) ?_
        refine r_icmp_eq 64 C dX6_may_57 (by decide) (fun c18 => ?_) (fun c18 => ?_)
        · have c18' := i_eq c18
          refine r_iconst (v := 0) C dX6_may_64 (by decide) ?_
          exact hret _ _ _ _ dX6_may_65 (nar_z (z_of (by omega))) ⟨h16, o15, by omega⟩
        · have c18' := i_ne c18
          refine r_iconst (v := 1) C dX6_may_60 (by decide) ?_
          refine r_goto 65 C dX6_may_61 (by decide) ?_
          exact hret _ _ _ _ dX6_may_65 (nar_z (z_of (by omega))) ⟨h16, o15, by omega⟩
    · have c4' := i_eq c4
      refine r_aload_n 0 C dX6_may_14 rfl ?_
      refine gfX6_22 21 C (kS sC h0 kc_97) (xS sC h0 xc_97_5) dX6_may_15 ?_
      refine gfX6_42 (v := (wI w 21 0)) C (kS sC h0 kc_21) rfl dX6_may_18 ?_
      refine r_if_le 28 C dX6_may_21 (by decide) (fun c19 => ?_) (fun c19 => ?_)
      · have c19' := i_le c19
        refine r_iconst (v := 0) C dX6_may_28 (by decide) ?_
        exact hret _ _ _ _ dX6_may_29 (nar_z (z_of (by omega))) ⟨h0, o0, by omega⟩
      · have c19' := i_nle c19
        refine r_iconst (v := 1) C dX6_may_24 (by decide) ?_
        refine r_goto 29 C dX6_may_25 (by decide) ?_
        exact hret _ _ _ _ dX6_may_29 (nar_z (z_of (by omega))) ⟨h0, o0, by omega⟩
set_option maxHeartbeats 4000000 in
set_option maxRecDepth 100000 in
theorem ctX6_fate_35 (l : Launch) (G : Gt) (w : Wv) (sC : Str KC XC w) (o0 : Inv RC w) (a1 : Int32) : CtI l G yX6_fate cX6_fate 4 .int ({ frames := 0, cells := 0, slots := 0, locals := 0 } : Room) [.ref (gz G + 35), .int a1] w (fun r w' => Ch [] [] w w' ∧ Inv RC w') := by
  refine enterI (by decide) (Nat.le_of_ble_eq_true rfl) ?_
  intro x el eG C hret
  subst el; subst eG
  show V x 0 0 w 0 [(0, .ref (gz (xG x) + 35)), (1, .int a1)] []
  have h0 : Ch [] [] w w := Ch.rf
  have qm1 : ((-1) : Int32).toInt = (-1) := by decide
  have q0 : (0 : Int32).toInt = 0 := by decide
  have q1 : (1 : Int32).toInt = 1 := by decide
  have q2 : (2 : Int32).toInt = 2 := by decide
  have q3 : (3 : Int32).toInt = 3 := by decide
  have q6 : (6 : Int32).toInt = 6 := by decide
  have q42 : (42 : Int32).toInt = 42 := by decide
  refine r_iload_n 1 C dX6_fate_0 rfl ?_
  refine r_if_lt 19 C dX6_fate_1 (by decide) (fun c1 => ?_) (fun c1 => ?_)
  · have c1' := i_lt c1
    refine r_iconst (v := (-1)) C dX6_fate_19 (by decide) ?_
    refine r_istore_n [(2, .int (-1)), (0, .ref (gz (xG x) + 35)), (1, .int a1)] C dX6_fate_20 (by decide) rfl ?_
    refine r_iload_n 0 C dX6_fate_21 rfl ?_
    refine r_if_lt 43 C dX6_fate_22 (by decide) (fun c2 => ?_) (fun c2 => ?_)
    · have c2' := i_lt c2
      refine r_iconst (v := 0) C dX6_fate_43 (by decide) ?_
      refine r_istore_n [(3, .int 0), (2, .int (-1)), (0, .ref (gz (xG x) + 35)), (1, .int a1)] C dX6_fate_44 (by decide) rfl ?_
      refine r_iload_n 0 C dX6_fate_45 rfl ?_
      refine r_iconst (v := 3) C dX6_fate_46 (by decide) ?_
      refine r_icmp_ne 54 C dX6_fate_47 (by decide) (fun c3 => ?_) (fun c3 => ?_)
      · have c3' := i_ne c3
        refine r_iload_n 0 C dX6_fate_54 rfl ?_
        refine r_iconst (v := 2) C dX6_fate_55 (by decide) ?_
        refine r_icmp_ne 63 C dX6_fate_56 (by decide) (fun c4 => ?_) (fun c4 => ?_)
        · have c4' := i_ne c4
          refine r_iconst (v := 0) C dX6_fate_63 (by decide) ?_
          exact hret _ _ _ _ dX6_fate_64 rfl ⟨h0, o0⟩
        · have c4' := i_eq c4
          exfalso; omega
      · have c3' := i_eq c3
        exfalso; omega
    · have c2' := i_nlt c2
      exfalso; omega
  · have c1' := i_nlt c1
    refine r_iload_n 1 C dX6_fate_4 rfl ?_
    refine r_bipush (v := 6) C dX6_fate_5 (by decide) ?_
    have k6 := i_rng a1
    refine r_icmp_ge 19 C dX6_fate_7 (by decide) (fun c5 => ?_) (fun c5 => ?_)
    · have c5' := i_le c5
      refine r_iconst (v := (-1)) C dX6_fate_19 (by decide) ?_
      refine r_istore_n [(2, .int (-1)), (0, .ref (gz (xG x) + 35)), (1, .int a1)] C dX6_fate_20 (by decide) rfl ?_
      refine r_iload_n 0 C dX6_fate_21 rfl ?_
      refine r_if_lt 43 C dX6_fate_22 (by decide) (fun c7 => ?_) (fun c7 => ?_)
      · have c7' := i_lt c7
        refine r_iconst (v := 0) C dX6_fate_43 (by decide) ?_
        refine r_istore_n [(3, .int 0), (2, .int (-1)), (0, .ref (gz (xG x) + 35)), (1, .int a1)] C dX6_fate_44 (by decide) rfl ?_
        refine r_iload_n 0 C dX6_fate_45 rfl ?_
        refine r_iconst (v := 3) C dX6_fate_46 (by decide) ?_
        refine r_icmp_ne 54 C dX6_fate_47 (by decide) (fun c8 => ?_) (fun c8 => ?_)
        · have c8' := i_ne c8
          refine r_iload_n 0 C dX6_fate_54 rfl ?_
          refine r_iconst (v := 2) C dX6_fate_55 (by decide) ?_
          refine r_icmp_ne 63 C dX6_fate_56 (by decide) (fun c9 => ?_) (fun c9 => ?_)
          · have c9' := i_ne c9
            refine r_iconst (v := 0) C dX6_fate_63 (by decide) ?_
            exact hret _ _ _ _ dX6_fate_64 rfl ⟨h0, o0⟩
          · have c9' := i_eq c9
            exfalso; omega
        · have c8' := i_eq c8
          exfalso; omega
      · have c7' := i_nlt c7
        exfalso; omega
    · have c5' := i_nle c5
      refine r_aload_n 0 C dX6_fate_10 rfl ?_
      refine gfX6_9 36 C (kS sC h0 kc_35) (xS sC h0 xc_35_2) dX6_fate_11 ?_
      refine r_iload_n 1 C dX6_fate_14 rfl ?_
      refine r_iald C (kS sC h0 kc_36) (vin (by omega) (by omega)) dX6_fate_15 ?_
      generalize (wI w 36 (a1).toNatClampNeg) = v10
      refine r_goto 20 C dX6_fate_16 (by decide) ?_
      refine r_istore_n [(2, .int v10), (0, .ref (gz (xG x) + 35)), (1, .int a1)] C dX6_fate_20 (by decide) rfl ?_
      refine r_iload_n 0 C dX6_fate_21 rfl ?_
      refine r_if_lt 43 C dX6_fate_22 (by decide) (fun c11 => ?_) (fun c11 => ?_)
      · have c11' := i_lt c11
        refine r_iconst (v := 0) C dX6_fate_43 (by decide) ?_
        refine r_istore_n [(3, .int 0), (2, .int v10), (0, .ref (gz (xG x) + 35)), (1, .int a1)] C dX6_fate_44 (by decide) rfl ?_
        refine r_iload_n 0 C dX6_fate_45 rfl ?_
        refine r_iconst (v := 3) C dX6_fate_46 (by decide) ?_
        refine r_icmp_ne 54 C dX6_fate_47 (by decide) (fun c12 => ?_) (fun c12 => ?_)
        · have c12' := i_ne c12
          refine r_iload_n 0 C dX6_fate_54 rfl ?_
          refine r_iconst (v := 2) C dX6_fate_55 (by decide) ?_
          refine r_icmp_ne 63 C dX6_fate_56 (by decide) (fun c13 => ?_) (fun c13 => ?_)
          · have c13' := i_ne c13
            refine r_iconst (v := 0) C dX6_fate_63 (by decide) ?_
            exact hret _ _ _ _ dX6_fate_64 rfl ⟨h0, o0⟩
          · have c13' := i_eq c13
            exfalso; omega
        · have c12' := i_eq c12
          exfalso; omega
      · have c11' := i_nlt c11
        refine r_iload_n 0 C dX6_fate_25 rfl ?_
        refine r_bipush (v := 42) C dX6_fate_26 (by decide) ?_
        have k15 := i_rng v10
        refine r_icmp_ge 43 C dX6_fate_28 (by decide) (fun c14 => ?_) (fun c14 => ?_)
        · have c14' := i_le c14
          refine r_iconst (v := 0) C dX6_fate_43 (by decide) ?_
          refine r_istore_n [(3, .int 0), (2, .int v10), (0, .ref (gz (xG x) + 35)), (1, .int a1)] C dX6_fate_44 (by decide) rfl ?_
          refine r_iload_n 0 C dX6_fate_45 rfl ?_
          refine r_iconst (v := 3) C dX6_fate_46 (by decide) ?_
          refine r_icmp_ne 54 C dX6_fate_47 (by decide) (fun c16 => ?_) (fun c16 => ?_)
          · have c16' := i_ne c16
            refine r_iload_n 0 C dX6_fate_54 rfl ?_
            refine r_iconst (v := 2) C dX6_fate_55 (by decide) ?_
            refine r_icmp_ne 63 C dX6_fate_56 (by decide) (fun c17 => ?_) (fun c17 => ?_)
            · have c17' := i_ne c17
              refine r_iconst (v := 0) C dX6_fate_63 (by decide) ?_
              exact hret _ _ _ _ dX6_fate_64 rfl ⟨h0, o0⟩
            · have c17' := i_eq c17
              exfalso; omega
          · have c16' := i_eq c16
            exfalso; omega
        · have c14' := i_nle c14
          refine r_aload_n 1 C dX6_fate_31 rfl ?_
          refine gfX6_22 21 C (kS sC h0 kc_35) (xS sC h0 xc_35_5) dX6_fate_32 ?_
          refine gfX6_85 22 C (kS sC h0 kc_21) (xS sC h0 xc_21_1) dX6_fate_35 ?_
          refine r_iload_n 0 C dX6_fate_38 rfl ?_
          refine r_iald C (kS sC h0 kc_22) (vin (by omega) (by omega)) dX6_fate_39 ?_
          generalize (wI w 22 (v10).toNatClampNeg) = v18
          refine r_goto 44 C dX6_fate_40 (by decide) ?_
          refine r_istore_n [(3, .int v18), (2, .int v10), (0, .ref (gz (xG x) + 35)), (1, .int a1)] C dX6_fate_44 (by decide) rfl ?_
          refine r_iload_n 0 C dX6_fate_45 rfl ?_
          refine r_iconst (v := 3) C dX6_fate_46 (by decide) ?_
          refine r_icmp_ne 54 C dX6_fate_47 (by decide) (fun c19 => ?_) (fun c19 => ?_)
          · have c19' := i_ne c19
            refine r_iload_n 0 C dX6_fate_54 rfl ?_
            refine r_iconst (v := 2) C dX6_fate_55 (by decide) ?_
            refine r_icmp_ne 63 C dX6_fate_56 (by decide) (fun c20 => ?_) (fun c20 => ?_)
            · have c20' := i_ne c20
              refine r_iconst (v := 0) C dX6_fate_63 (by decide) ?_
              exact hret _ _ _ _ dX6_fate_64 rfl ⟨h0, o0⟩
            · have c20' := i_eq c20
              refine r_iconst (v := 2) C dX6_fate_59 (by decide) ?_
              refine r_goto 64 C dX6_fate_60 (by decide) ?_
              exact hret _ _ _ _ dX6_fate_64 rfl ⟨h0, o0⟩
          · have c19' := i_eq c19
            refine r_iconst (v := 1) C dX6_fate_50 (by decide) ?_
            refine r_goto 64 C dX6_fate_51 (by decide) ?_
            exact hret _ _ _ _ dX6_fate_64 rfl ⟨h0, o0⟩
set_option maxHeartbeats 4000000 in
set_option maxRecDepth 100000 in
theorem ctX6_isHere_35 (l : Launch) (G : Gt) (w : Wv) (sC : Str KC XC w) (o0 : Inv RC w) (a1 : Int32) : CtI l G yX6_isHere cX6_isHere 2 .boolean ({ frames := 1, cells := 0, slots := 0, locals := 23 } : Room) [.ref (gz G + 35), .int a1] w (fun r w' => Ch [] [] w w' ∧ Inv RC w' ∧ ((0 ≤ r.toInt ∧ r.toInt ≤ 1))) := by
  refine enterI (by decide) (Nat.le_of_ble_eq_true rfl) ?_
  intro x el eG C hret
  subst el; subst eG
  show V x 0 0 w 0 [(0, .ref (gz (xG x) + 35)), (1, .int a1)] []
  have h0 : Ch [] [] w w := Ch.rf
  have q0 : (0 : Int32).toInt = 0 := by decide
  have q1 : (1 : Int32).toInt = 1 := by decide
  refine r_aload_n 0 C dX6_isHere_0 rfl ?_
  refine gfX6_18 3 C (kS sC h0 kc_35) (xS sC h0 xc_35_4) dX6_isHere_1 ?_
  refine r_iload_n 1 C dX6_isHere_4 rfl ?_
  refine callVI C cwX6_88_V (ctX9_followers_3 _ _ w (sS sC h0) o0 a1 ) (by decide) (kS sC h0 kc_3) rfl rfl rfl (Nat.le_of_ble_eq_true rfl) (by decide) dX6_isHere_5 (fun r3 w2 y1 => ?_)
  show V x 0 0 w2 8 [(0, .ref (gz (xG x) + 35)), (1, .int a1)] [.int r3]
  obtain ⟨h4, o5⟩ := y1
  have h6 := Ch.tr h0 h4 (by decide) (by decide)
  refine r_if_le 23 C dX6_isHere_8 (by decide) (fun c7 => ?_) (fun c7 => ?_)
  · have c7' := i_le c7
    refine r_iconst (v := 0) C dX6_isHere_23 (by decide) ?_
    exact hret _ _ _ _ dX6_isHere_24 (nar_z (z_of (by omega))) ⟨h6, o5, by omega⟩
  · have c7' := i_nle c7
    refine r_aload_n 0 C dX6_isHere_11 rfl ?_
    refine r_iload_n 1 C dX6_isHere_12 rfl ?_
    refine callVI C cwX6_82_V (ctX6_fate_35 _ _ w2 (sS sC h6) o5 a1 ) (by decide) (kS sC h6 kc_35) rfl rfl rfl (Nat.le_of_ble_eq_true rfl) (by decide) dX6_isHere_13 (fun r10 w9 y8 => ?_)
    show V x 0 0 w9 16 [(0, .ref (gz (xG x) + 35)), (1, .int a1)] [.int r10]
    obtain ⟨h11, o12⟩ := y8
    have h13 := Ch.tr h6 h11 (by decide) (by decide)
    refine r_if_ne 23 C dX6_isHere_16 (by decide) (fun c14 => ?_) (fun c14 => ?_)
    · have c14' := i_ne c14
      refine r_iconst (v := 0) C dX6_isHere_23 (by decide) ?_
      exact hret _ _ _ _ dX6_isHere_24 (nar_z (z_of (by omega))) ⟨h13, o12, by omega⟩
    · have c14' := i_eq c14
      refine r_iconst (v := 1) C dX6_isHere_19 (by decide) ?_
      refine r_goto 24 C dX6_isHere_20 (by decide) ?_
      exact hret _ _ _ _ dX6_isHere_24 (nar_z (z_of (by omega))) ⟨h13, o12, by omega⟩
set_option maxHeartbeats 4000000 in
set_option maxRecDepth 100000 in
theorem ctX6_fate_38 (l : Launch) (G : Gt) (w : Wv) (sC : Str KC XC w) (o0 : Inv RC w) (a1 : Int32) : CtI l G yX6_fate cX6_fate 4 .int ({ frames := 0, cells := 0, slots := 0, locals := 0 } : Room) [.ref (gz G + 38), .int a1] w (fun r w' => Ch [] [] w w' ∧ Inv RC w') := by
  refine enterI (by decide) (Nat.le_of_ble_eq_true rfl) ?_
  intro x el eG C hret
  subst el; subst eG
  show V x 0 0 w 0 [(0, .ref (gz (xG x) + 38)), (1, .int a1)] []
  have h0 : Ch [] [] w w := Ch.rf
  have qm1 : ((-1) : Int32).toInt = (-1) := by decide
  have q0 : (0 : Int32).toInt = 0 := by decide
  have q1 : (1 : Int32).toInt = 1 := by decide
  have q2 : (2 : Int32).toInt = 2 := by decide
  have q3 : (3 : Int32).toInt = 3 := by decide
  have q6 : (6 : Int32).toInt = 6 := by decide
  have q42 : (42 : Int32).toInt = 42 := by decide
  refine r_iload_n 1 C dX6_fate_0 rfl ?_
  refine r_if_lt 19 C dX6_fate_1 (by decide) (fun c1 => ?_) (fun c1 => ?_)
  · have c1' := i_lt c1
    refine r_iconst (v := (-1)) C dX6_fate_19 (by decide) ?_
    refine r_istore_n [(2, .int (-1)), (0, .ref (gz (xG x) + 38)), (1, .int a1)] C dX6_fate_20 (by decide) rfl ?_
    refine r_iload_n 0 C dX6_fate_21 rfl ?_
    refine r_if_lt 43 C dX6_fate_22 (by decide) (fun c2 => ?_) (fun c2 => ?_)
    · have c2' := i_lt c2
      refine r_iconst (v := 0) C dX6_fate_43 (by decide) ?_
      refine r_istore_n [(3, .int 0), (2, .int (-1)), (0, .ref (gz (xG x) + 38)), (1, .int a1)] C dX6_fate_44 (by decide) rfl ?_
      refine r_iload_n 0 C dX6_fate_45 rfl ?_
      refine r_iconst (v := 3) C dX6_fate_46 (by decide) ?_
      refine r_icmp_ne 54 C dX6_fate_47 (by decide) (fun c3 => ?_) (fun c3 => ?_)
      · have c3' := i_ne c3
        refine r_iload_n 0 C dX6_fate_54 rfl ?_
        refine r_iconst (v := 2) C dX6_fate_55 (by decide) ?_
        refine r_icmp_ne 63 C dX6_fate_56 (by decide) (fun c4 => ?_) (fun c4 => ?_)
        · have c4' := i_ne c4
          refine r_iconst (v := 0) C dX6_fate_63 (by decide) ?_
          exact hret _ _ _ _ dX6_fate_64 rfl ⟨h0, o0⟩
        · have c4' := i_eq c4
          exfalso; omega
      · have c3' := i_eq c3
        exfalso; omega
    · have c2' := i_nlt c2
      exfalso; omega
  · have c1' := i_nlt c1
    refine r_iload_n 1 C dX6_fate_4 rfl ?_
    refine r_bipush (v := 6) C dX6_fate_5 (by decide) ?_
    have k6 := i_rng a1
    refine r_icmp_ge 19 C dX6_fate_7 (by decide) (fun c5 => ?_) (fun c5 => ?_)
    · have c5' := i_le c5
      refine r_iconst (v := (-1)) C dX6_fate_19 (by decide) ?_
      refine r_istore_n [(2, .int (-1)), (0, .ref (gz (xG x) + 38)), (1, .int a1)] C dX6_fate_20 (by decide) rfl ?_
      refine r_iload_n 0 C dX6_fate_21 rfl ?_
      refine r_if_lt 43 C dX6_fate_22 (by decide) (fun c7 => ?_) (fun c7 => ?_)
      · have c7' := i_lt c7
        refine r_iconst (v := 0) C dX6_fate_43 (by decide) ?_
        refine r_istore_n [(3, .int 0), (2, .int (-1)), (0, .ref (gz (xG x) + 38)), (1, .int a1)] C dX6_fate_44 (by decide) rfl ?_
        refine r_iload_n 0 C dX6_fate_45 rfl ?_
        refine r_iconst (v := 3) C dX6_fate_46 (by decide) ?_
        refine r_icmp_ne 54 C dX6_fate_47 (by decide) (fun c8 => ?_) (fun c8 => ?_)
        · have c8' := i_ne c8
          refine r_iload_n 0 C dX6_fate_54 rfl ?_
          refine r_iconst (v := 2) C dX6_fate_55 (by decide) ?_
          refine r_icmp_ne 63 C dX6_fate_56 (by decide) (fun c9 => ?_) (fun c9 => ?_)
          · have c9' := i_ne c9
            refine r_iconst (v := 0) C dX6_fate_63 (by decide) ?_
            exact hret _ _ _ _ dX6_fate_64 rfl ⟨h0, o0⟩
          · have c9' := i_eq c9
            exfalso; omega
        · have c8' := i_eq c8
          exfalso; omega
      · have c7' := i_nlt c7
        exfalso; omega
    · have c5' := i_nle c5
      refine r_aload_n 0 C dX6_fate_10 rfl ?_
      refine gfX6_9 39 C (kS sC h0 kc_38) (xS sC h0 xc_38_2) dX6_fate_11 ?_
      refine r_iload_n 1 C dX6_fate_14 rfl ?_
      refine r_iald C (kS sC h0 kc_39) (vin (by omega) (by omega)) dX6_fate_15 ?_
      generalize (wI w 39 (a1).toNatClampNeg) = v10
      refine r_goto 20 C dX6_fate_16 (by decide) ?_
      refine r_istore_n [(2, .int v10), (0, .ref (gz (xG x) + 38)), (1, .int a1)] C dX6_fate_20 (by decide) rfl ?_
      refine r_iload_n 0 C dX6_fate_21 rfl ?_
      refine r_if_lt 43 C dX6_fate_22 (by decide) (fun c11 => ?_) (fun c11 => ?_)
      · have c11' := i_lt c11
        refine r_iconst (v := 0) C dX6_fate_43 (by decide) ?_
        refine r_istore_n [(3, .int 0), (2, .int v10), (0, .ref (gz (xG x) + 38)), (1, .int a1)] C dX6_fate_44 (by decide) rfl ?_
        refine r_iload_n 0 C dX6_fate_45 rfl ?_
        refine r_iconst (v := 3) C dX6_fate_46 (by decide) ?_
        refine r_icmp_ne 54 C dX6_fate_47 (by decide) (fun c12 => ?_) (fun c12 => ?_)
        · have c12' := i_ne c12
          refine r_iload_n 0 C dX6_fate_54 rfl ?_
          refine r_iconst (v := 2) C dX6_fate_55 (by decide) ?_
          refine r_icmp_ne 63 C dX6_fate_56 (by decide) (fun c13 => ?_) (fun c13 => ?_)
          · have c13' := i_ne c13
            refine r_iconst (v := 0) C dX6_fate_63 (by decide) ?_
            exact hret _ _ _ _ dX6_fate_64 rfl ⟨h0, o0⟩
          · have c13' := i_eq c13
            exfalso; omega
        · have c12' := i_eq c12
          exfalso; omega
      · have c11' := i_nlt c11
        refine r_iload_n 0 C dX6_fate_25 rfl ?_
        refine r_bipush (v := 42) C dX6_fate_26 (by decide) ?_
        have k15 := i_rng v10
        refine r_icmp_ge 43 C dX6_fate_28 (by decide) (fun c14 => ?_) (fun c14 => ?_)
        · have c14' := i_le c14
          refine r_iconst (v := 0) C dX6_fate_43 (by decide) ?_
          refine r_istore_n [(3, .int 0), (2, .int v10), (0, .ref (gz (xG x) + 38)), (1, .int a1)] C dX6_fate_44 (by decide) rfl ?_
          refine r_iload_n 0 C dX6_fate_45 rfl ?_
          refine r_iconst (v := 3) C dX6_fate_46 (by decide) ?_
          refine r_icmp_ne 54 C dX6_fate_47 (by decide) (fun c16 => ?_) (fun c16 => ?_)
          · have c16' := i_ne c16
            refine r_iload_n 0 C dX6_fate_54 rfl ?_
            refine r_iconst (v := 2) C dX6_fate_55 (by decide) ?_
            refine r_icmp_ne 63 C dX6_fate_56 (by decide) (fun c17 => ?_) (fun c17 => ?_)
            · have c17' := i_ne c17
              refine r_iconst (v := 0) C dX6_fate_63 (by decide) ?_
              exact hret _ _ _ _ dX6_fate_64 rfl ⟨h0, o0⟩
            · have c17' := i_eq c17
              exfalso; omega
          · have c16' := i_eq c16
            exfalso; omega
        · have c14' := i_nle c14
          refine r_aload_n 1 C dX6_fate_31 rfl ?_
          refine gfX6_22 21 C (kS sC h0 kc_38) (xS sC h0 xc_38_5) dX6_fate_32 ?_
          refine gfX6_85 22 C (kS sC h0 kc_21) (xS sC h0 xc_21_1) dX6_fate_35 ?_
          refine r_iload_n 0 C dX6_fate_38 rfl ?_
          refine r_iald C (kS sC h0 kc_22) (vin (by omega) (by omega)) dX6_fate_39 ?_
          generalize (wI w 22 (v10).toNatClampNeg) = v18
          refine r_goto 44 C dX6_fate_40 (by decide) ?_
          refine r_istore_n [(3, .int v18), (2, .int v10), (0, .ref (gz (xG x) + 38)), (1, .int a1)] C dX6_fate_44 (by decide) rfl ?_
          refine r_iload_n 0 C dX6_fate_45 rfl ?_
          refine r_iconst (v := 3) C dX6_fate_46 (by decide) ?_
          refine r_icmp_ne 54 C dX6_fate_47 (by decide) (fun c19 => ?_) (fun c19 => ?_)
          · have c19' := i_ne c19
            refine r_iload_n 0 C dX6_fate_54 rfl ?_
            refine r_iconst (v := 2) C dX6_fate_55 (by decide) ?_
            refine r_icmp_ne 63 C dX6_fate_56 (by decide) (fun c20 => ?_) (fun c20 => ?_)
            · have c20' := i_ne c20
              refine r_iconst (v := 0) C dX6_fate_63 (by decide) ?_
              exact hret _ _ _ _ dX6_fate_64 rfl ⟨h0, o0⟩
            · have c20' := i_eq c20
              refine r_iconst (v := 2) C dX6_fate_59 (by decide) ?_
              refine r_goto 64 C dX6_fate_60 (by decide) ?_
              exact hret _ _ _ _ dX6_fate_64 rfl ⟨h0, o0⟩
          · have c19' := i_eq c19
            refine r_iconst (v := 1) C dX6_fate_50 (by decide) ?_
            refine r_goto 64 C dX6_fate_51 (by decide) ?_
            exact hret _ _ _ _ dX6_fate_64 rfl ⟨h0, o0⟩
set_option maxHeartbeats 4000000 in
set_option maxRecDepth 100000 in
theorem ctX6_isHere_38 (l : Launch) (G : Gt) (w : Wv) (sC : Str KC XC w) (o0 : Inv RC w) (a1 : Int32) : CtI l G yX6_isHere cX6_isHere 2 .boolean ({ frames := 1, cells := 0, slots := 0, locals := 23 } : Room) [.ref (gz G + 38), .int a1] w (fun r w' => Ch [] [] w w' ∧ Inv RC w' ∧ ((0 ≤ r.toInt ∧ r.toInt ≤ 1))) := by
  refine enterI (by decide) (Nat.le_of_ble_eq_true rfl) ?_
  intro x el eG C hret
  subst el; subst eG
  show V x 0 0 w 0 [(0, .ref (gz (xG x) + 38)), (1, .int a1)] []
  have h0 : Ch [] [] w w := Ch.rf
  have q0 : (0 : Int32).toInt = 0 := by decide
  have q1 : (1 : Int32).toInt = 1 := by decide
  refine r_aload_n 0 C dX6_isHere_0 rfl ?_
  refine gfX6_18 3 C (kS sC h0 kc_38) (xS sC h0 xc_38_4) dX6_isHere_1 ?_
  refine r_iload_n 1 C dX6_isHere_4 rfl ?_
  refine callVI C cwX6_88_V (ctX9_followers_3 _ _ w (sS sC h0) o0 a1 ) (by decide) (kS sC h0 kc_3) rfl rfl rfl (Nat.le_of_ble_eq_true rfl) (by decide) dX6_isHere_5 (fun r3 w2 y1 => ?_)
  show V x 0 0 w2 8 [(0, .ref (gz (xG x) + 38)), (1, .int a1)] [.int r3]
  obtain ⟨h4, o5⟩ := y1
  have h6 := Ch.tr h0 h4 (by decide) (by decide)
  refine r_if_le 23 C dX6_isHere_8 (by decide) (fun c7 => ?_) (fun c7 => ?_)
  · have c7' := i_le c7
    refine r_iconst (v := 0) C dX6_isHere_23 (by decide) ?_
    exact hret _ _ _ _ dX6_isHere_24 (nar_z (z_of (by omega))) ⟨h6, o5, by omega⟩
  · have c7' := i_nle c7
    refine r_aload_n 0 C dX6_isHere_11 rfl ?_
    refine r_iload_n 1 C dX6_isHere_12 rfl ?_
    refine callVI C cwX6_82_V (ctX6_fate_38 _ _ w2 (sS sC h6) o5 a1 ) (by decide) (kS sC h6 kc_38) rfl rfl rfl (Nat.le_of_ble_eq_true rfl) (by decide) dX6_isHere_13 (fun r10 w9 y8 => ?_)
    show V x 0 0 w9 16 [(0, .ref (gz (xG x) + 38)), (1, .int a1)] [.int r10]
    obtain ⟨h11, o12⟩ := y8
    have h13 := Ch.tr h6 h11 (by decide) (by decide)
    refine r_if_ne 23 C dX6_isHere_16 (by decide) (fun c14 => ?_) (fun c14 => ?_)
    · have c14' := i_ne c14
      refine r_iconst (v := 0) C dX6_isHere_23 (by decide) ?_
      exact hret _ _ _ _ dX6_isHere_24 (nar_z (z_of (by omega))) ⟨h13, o12, by omega⟩
    · have c14' := i_eq c14
      refine r_iconst (v := 1) C dX6_isHere_19 (by decide) ?_
      refine r_goto 24 C dX6_isHere_20 (by decide) ?_
      exact hret _ _ _ _ dX6_isHere_24 (nar_z (z_of (by omega))) ⟨h13, o12, by omega⟩
set_option maxHeartbeats 4000000 in
set_option maxRecDepth 100000 in
theorem ctX6_fate_41 (l : Launch) (G : Gt) (w : Wv) (sC : Str KC XC w) (o0 : Inv RC w) (a1 : Int32) : CtI l G yX6_fate cX6_fate 4 .int ({ frames := 0, cells := 0, slots := 0, locals := 0 } : Room) [.ref (gz G + 41), .int a1] w (fun r w' => Ch [] [] w w' ∧ Inv RC w') := by
  refine enterI (by decide) (Nat.le_of_ble_eq_true rfl) ?_
  intro x el eG C hret
  subst el; subst eG
  show V x 0 0 w 0 [(0, .ref (gz (xG x) + 41)), (1, .int a1)] []
  have h0 : Ch [] [] w w := Ch.rf
  have qm1 : ((-1) : Int32).toInt = (-1) := by decide
  have q0 : (0 : Int32).toInt = 0 := by decide
  have q1 : (1 : Int32).toInt = 1 := by decide
  have q2 : (2 : Int32).toInt = 2 := by decide
  have q3 : (3 : Int32).toInt = 3 := by decide
  have q6 : (6 : Int32).toInt = 6 := by decide
  have q42 : (42 : Int32).toInt = 42 := by decide
  refine r_iload_n 1 C dX6_fate_0 rfl ?_
  refine r_if_lt 19 C dX6_fate_1 (by decide) (fun c1 => ?_) (fun c1 => ?_)
  · have c1' := i_lt c1
    refine r_iconst (v := (-1)) C dX6_fate_19 (by decide) ?_
    refine r_istore_n [(2, .int (-1)), (0, .ref (gz (xG x) + 41)), (1, .int a1)] C dX6_fate_20 (by decide) rfl ?_
    refine r_iload_n 0 C dX6_fate_21 rfl ?_
    refine r_if_lt 43 C dX6_fate_22 (by decide) (fun c2 => ?_) (fun c2 => ?_)
    · have c2' := i_lt c2
      refine r_iconst (v := 0) C dX6_fate_43 (by decide) ?_
      refine r_istore_n [(3, .int 0), (2, .int (-1)), (0, .ref (gz (xG x) + 41)), (1, .int a1)] C dX6_fate_44 (by decide) rfl ?_
      refine r_iload_n 0 C dX6_fate_45 rfl ?_
      refine r_iconst (v := 3) C dX6_fate_46 (by decide) ?_
      refine r_icmp_ne 54 C dX6_fate_47 (by decide) (fun c3 => ?_) (fun c3 => ?_)
      · have c3' := i_ne c3
        refine r_iload_n 0 C dX6_fate_54 rfl ?_
        refine r_iconst (v := 2) C dX6_fate_55 (by decide) ?_
        refine r_icmp_ne 63 C dX6_fate_56 (by decide) (fun c4 => ?_) (fun c4 => ?_)
        · have c4' := i_ne c4
          refine r_iconst (v := 0) C dX6_fate_63 (by decide) ?_
          exact hret _ _ _ _ dX6_fate_64 rfl ⟨h0, o0⟩
        · have c4' := i_eq c4
          exfalso; omega
      · have c3' := i_eq c3
        exfalso; omega
    · have c2' := i_nlt c2
      exfalso; omega
  · have c1' := i_nlt c1
    refine r_iload_n 1 C dX6_fate_4 rfl ?_
    refine r_bipush (v := 6) C dX6_fate_5 (by decide) ?_
    have k6 := i_rng a1
    refine r_icmp_ge 19 C dX6_fate_7 (by decide) (fun c5 => ?_) (fun c5 => ?_)
    · have c5' := i_le c5
      refine r_iconst (v := (-1)) C dX6_fate_19 (by decide) ?_
      refine r_istore_n [(2, .int (-1)), (0, .ref (gz (xG x) + 41)), (1, .int a1)] C dX6_fate_20 (by decide) rfl ?_
      refine r_iload_n 0 C dX6_fate_21 rfl ?_
      refine r_if_lt 43 C dX6_fate_22 (by decide) (fun c7 => ?_) (fun c7 => ?_)
      · have c7' := i_lt c7
        refine r_iconst (v := 0) C dX6_fate_43 (by decide) ?_
        refine r_istore_n [(3, .int 0), (2, .int (-1)), (0, .ref (gz (xG x) + 41)), (1, .int a1)] C dX6_fate_44 (by decide) rfl ?_
        refine r_iload_n 0 C dX6_fate_45 rfl ?_
        refine r_iconst (v := 3) C dX6_fate_46 (by decide) ?_
        refine r_icmp_ne 54 C dX6_fate_47 (by decide) (fun c8 => ?_) (fun c8 => ?_)
        · have c8' := i_ne c8
          refine r_iload_n 0 C dX6_fate_54 rfl ?_
          refine r_iconst (v := 2) C dX6_fate_55 (by decide) ?_
          refine r_icmp_ne 63 C dX6_fate_56 (by decide) (fun c9 => ?_) (fun c9 => ?_)
          · have c9' := i_ne c9
            refine r_iconst (v := 0) C dX6_fate_63 (by decide) ?_
            exact hret _ _ _ _ dX6_fate_64 rfl ⟨h0, o0⟩
          · have c9' := i_eq c9
            exfalso; omega
        · have c8' := i_eq c8
          exfalso; omega
      · have c7' := i_nlt c7
        exfalso; omega
    · have c5' := i_nle c5
      refine r_aload_n 0 C dX6_fate_10 rfl ?_
      refine gfX6_9 42 C (kS sC h0 kc_41) (xS sC h0 xc_41_2) dX6_fate_11 ?_
      refine r_iload_n 1 C dX6_fate_14 rfl ?_
      refine r_iald C (kS sC h0 kc_42) (vin (by omega) (by omega)) dX6_fate_15 ?_
      generalize (wI w 42 (a1).toNatClampNeg) = v10
      refine r_goto 20 C dX6_fate_16 (by decide) ?_
      refine r_istore_n [(2, .int v10), (0, .ref (gz (xG x) + 41)), (1, .int a1)] C dX6_fate_20 (by decide) rfl ?_
      refine r_iload_n 0 C dX6_fate_21 rfl ?_
      refine r_if_lt 43 C dX6_fate_22 (by decide) (fun c11 => ?_) (fun c11 => ?_)
      · have c11' := i_lt c11
        refine r_iconst (v := 0) C dX6_fate_43 (by decide) ?_
        refine r_istore_n [(3, .int 0), (2, .int v10), (0, .ref (gz (xG x) + 41)), (1, .int a1)] C dX6_fate_44 (by decide) rfl ?_
        refine r_iload_n 0 C dX6_fate_45 rfl ?_
        refine r_iconst (v := 3) C dX6_fate_46 (by decide) ?_
        refine r_icmp_ne 54 C dX6_fate_47 (by decide) (fun c12 => ?_) (fun c12 => ?_)
        · have c12' := i_ne c12
          refine r_iload_n 0 C dX6_fate_54 rfl ?_
          refine r_iconst (v := 2) C dX6_fate_55 (by decide) ?_
          refine r_icmp_ne 63 C dX6_fate_56 (by decide) (fun c13 => ?_) (fun c13 => ?_)
          · have c13' := i_ne c13
            refine r_iconst (v := 0) C dX6_fate_63 (by decide) ?_
            exact hret _ _ _ _ dX6_fate_64 rfl ⟨h0, o0⟩
          · have c13' := i_eq c13
            exfalso; omega
        · have c12' := i_eq c12
          exfalso; omega
      · have c11' := i_nlt c11
        refine r_iload_n 0 C dX6_fate_25 rfl ?_
        refine r_bipush (v := 42) C dX6_fate_26 (by decide) ?_
        have k15 := i_rng v10
        refine r_icmp_ge 43 C dX6_fate_28 (by decide) (fun c14 => ?_) (fun c14 => ?_)
        · have c14' := i_le c14
          refine r_iconst (v := 0) C dX6_fate_43 (by decide) ?_
          refine r_istore_n [(3, .int 0), (2, .int v10), (0, .ref (gz (xG x) + 41)), (1, .int a1)] C dX6_fate_44 (by decide) rfl ?_
          refine r_iload_n 0 C dX6_fate_45 rfl ?_
          refine r_iconst (v := 3) C dX6_fate_46 (by decide) ?_
          refine r_icmp_ne 54 C dX6_fate_47 (by decide) (fun c16 => ?_) (fun c16 => ?_)
          · have c16' := i_ne c16
            refine r_iload_n 0 C dX6_fate_54 rfl ?_
            refine r_iconst (v := 2) C dX6_fate_55 (by decide) ?_
            refine r_icmp_ne 63 C dX6_fate_56 (by decide) (fun c17 => ?_) (fun c17 => ?_)
            · have c17' := i_ne c17
              refine r_iconst (v := 0) C dX6_fate_63 (by decide) ?_
              exact hret _ _ _ _ dX6_fate_64 rfl ⟨h0, o0⟩
            · have c17' := i_eq c17
              exfalso; omega
          · have c16' := i_eq c16
            exfalso; omega
        · have c14' := i_nle c14
          refine r_aload_n 1 C dX6_fate_31 rfl ?_
          refine gfX6_22 28 C (kS sC h0 kc_41) (xS sC h0 xc_41_5) dX6_fate_32 ?_
          refine gfX6_85 29 C (kS sC h0 kc_28) (xS sC h0 xc_28_1) dX6_fate_35 ?_
          refine r_iload_n 0 C dX6_fate_38 rfl ?_
          refine r_iald C (kS sC h0 kc_29) (vin (by omega) (by omega)) dX6_fate_39 ?_
          generalize (wI w 29 (v10).toNatClampNeg) = v18
          refine r_goto 44 C dX6_fate_40 (by decide) ?_
          refine r_istore_n [(3, .int v18), (2, .int v10), (0, .ref (gz (xG x) + 41)), (1, .int a1)] C dX6_fate_44 (by decide) rfl ?_
          refine r_iload_n 0 C dX6_fate_45 rfl ?_
          refine r_iconst (v := 3) C dX6_fate_46 (by decide) ?_
          refine r_icmp_ne 54 C dX6_fate_47 (by decide) (fun c19 => ?_) (fun c19 => ?_)
          · have c19' := i_ne c19
            refine r_iload_n 0 C dX6_fate_54 rfl ?_
            refine r_iconst (v := 2) C dX6_fate_55 (by decide) ?_
            refine r_icmp_ne 63 C dX6_fate_56 (by decide) (fun c20 => ?_) (fun c20 => ?_)
            · have c20' := i_ne c20
              refine r_iconst (v := 0) C dX6_fate_63 (by decide) ?_
              exact hret _ _ _ _ dX6_fate_64 rfl ⟨h0, o0⟩
            · have c20' := i_eq c20
              refine r_iconst (v := 2) C dX6_fate_59 (by decide) ?_
              refine r_goto 64 C dX6_fate_60 (by decide) ?_
              exact hret _ _ _ _ dX6_fate_64 rfl ⟨h0, o0⟩
          · have c19' := i_eq c19
            refine r_iconst (v := 1) C dX6_fate_50 (by decide) ?_
            refine r_goto 64 C dX6_fate_51 (by decide) ?_
            exact hret _ _ _ _ dX6_fate_64 rfl ⟨h0, o0⟩
set_option maxHeartbeats 4000000 in
set_option maxRecDepth 100000 in
theorem ctX6_isHere_41 (l : Launch) (G : Gt) (w : Wv) (sC : Str KC XC w) (o0 : Inv RC w) (a1 : Int32) : CtI l G yX6_isHere cX6_isHere 2 .boolean ({ frames := 1, cells := 0, slots := 0, locals := 23 } : Room) [.ref (gz G + 41), .int a1] w (fun r w' => Ch [] [] w w' ∧ Inv RC w' ∧ ((0 ≤ r.toInt ∧ r.toInt ≤ 1))) := by
  refine enterI (by decide) (Nat.le_of_ble_eq_true rfl) ?_
  intro x el eG C hret
  subst el; subst eG
  show V x 0 0 w 0 [(0, .ref (gz (xG x) + 41)), (1, .int a1)] []
  have h0 : Ch [] [] w w := Ch.rf
  have q0 : (0 : Int32).toInt = 0 := by decide
  have q1 : (1 : Int32).toInt = 1 := by decide
  refine r_aload_n 0 C dX6_isHere_0 rfl ?_
  refine gfX6_18 3 C (kS sC h0 kc_41) (xS sC h0 xc_41_4) dX6_isHere_1 ?_
  refine r_iload_n 1 C dX6_isHere_4 rfl ?_
  refine callVI C cwX6_88_V (ctX9_followers_3 _ _ w (sS sC h0) o0 a1 ) (by decide) (kS sC h0 kc_3) rfl rfl rfl (Nat.le_of_ble_eq_true rfl) (by decide) dX6_isHere_5 (fun r3 w2 y1 => ?_)
  show V x 0 0 w2 8 [(0, .ref (gz (xG x) + 41)), (1, .int a1)] [.int r3]
  obtain ⟨h4, o5⟩ := y1
  have h6 := Ch.tr h0 h4 (by decide) (by decide)
  refine r_if_le 23 C dX6_isHere_8 (by decide) (fun c7 => ?_) (fun c7 => ?_)
  · have c7' := i_le c7
    refine r_iconst (v := 0) C dX6_isHere_23 (by decide) ?_
    exact hret _ _ _ _ dX6_isHere_24 (nar_z (z_of (by omega))) ⟨h6, o5, by omega⟩
  · have c7' := i_nle c7
    refine r_aload_n 0 C dX6_isHere_11 rfl ?_
    refine r_iload_n 1 C dX6_isHere_12 rfl ?_
    refine callVI C cwX6_82_V (ctX6_fate_41 _ _ w2 (sS sC h6) o5 a1 ) (by decide) (kS sC h6 kc_41) rfl rfl rfl (Nat.le_of_ble_eq_true rfl) (by decide) dX6_isHere_13 (fun r10 w9 y8 => ?_)
    show V x 0 0 w9 16 [(0, .ref (gz (xG x) + 41)), (1, .int a1)] [.int r10]
    obtain ⟨h11, o12⟩ := y8
    have h13 := Ch.tr h6 h11 (by decide) (by decide)
    refine r_if_ne 23 C dX6_isHere_16 (by decide) (fun c14 => ?_) (fun c14 => ?_)
    · have c14' := i_ne c14
      refine r_iconst (v := 0) C dX6_isHere_23 (by decide) ?_
      exact hret _ _ _ _ dX6_isHere_24 (nar_z (z_of (by omega))) ⟨h13, o12, by omega⟩
    · have c14' := i_eq c14
      refine r_iconst (v := 1) C dX6_isHere_19 (by decide) ?_
      refine r_goto 24 C dX6_isHere_20 (by decide) ?_
      exact hret _ _ _ _ dX6_isHere_24 (nar_z (z_of (by omega))) ⟨h13, o12, by omega⟩
set_option maxHeartbeats 4000000 in
set_option maxRecDepth 100000 in
theorem ctX6_fate_59 (l : Launch) (G : Gt) (w : Wv) (sC : Str KC XC w) (o0 : Inv RC w) (a1 : Int32) : CtI l G yX6_fate cX6_fate 4 .int ({ frames := 0, cells := 0, slots := 0, locals := 0 } : Room) [.ref (gz G + 59), .int a1] w (fun r w' => Ch [] [] w w' ∧ Inv RC w') := by
  refine enterI (by decide) (Nat.le_of_ble_eq_true rfl) ?_
  intro x el eG C hret
  subst el; subst eG
  show V x 0 0 w 0 [(0, .ref (gz (xG x) + 59)), (1, .int a1)] []
  have h0 : Ch [] [] w w := Ch.rf
  have qm1 : ((-1) : Int32).toInt = (-1) := by decide
  have q0 : (0 : Int32).toInt = 0 := by decide
  have q1 : (1 : Int32).toInt = 1 := by decide
  have q2 : (2 : Int32).toInt = 2 := by decide
  have q3 : (3 : Int32).toInt = 3 := by decide
  have q6 : (6 : Int32).toInt = 6 := by decide
  have q42 : (42 : Int32).toInt = 42 := by decide
  refine r_iload_n 1 C dX6_fate_0 rfl ?_
  refine r_if_lt 19 C dX6_fate_1 (by decide) (fun c1 => ?_) (fun c1 => ?_)
  · have c1' := i_lt c1
    refine r_iconst (v := (-1)) C dX6_fate_19 (by decide) ?_
    refine r_istore_n [(2, .int (-1)), (0, .ref (gz (xG x) + 59)), (1, .int a1)] C dX6_fate_20 (by decide) rfl ?_
    refine r_iload_n 0 C dX6_fate_21 rfl ?_
    refine r_if_lt 43 C dX6_fate_22 (by decide) (fun c2 => ?_) (fun c2 => ?_)
    · have c2' := i_lt c2
      refine r_iconst (v := 0) C dX6_fate_43 (by decide) ?_
      refine r_istore_n [(3, .int 0), (2, .int (-1)), (0, .ref (gz (xG x) + 59)), (1, .int a1)] C dX6_fate_44 (by decide) rfl ?_
      refine r_iload_n 0 C dX6_fate_45 rfl ?_
      refine r_iconst (v := 3) C dX6_fate_46 (by decide) ?_
      refine r_icmp_ne 54 C dX6_fate_47 (by decide) (fun c3 => ?_) (fun c3 => ?_)
      · have c3' := i_ne c3
        refine r_iload_n 0 C dX6_fate_54 rfl ?_
        refine r_iconst (v := 2) C dX6_fate_55 (by decide) ?_
        refine r_icmp_ne 63 C dX6_fate_56 (by decide) (fun c4 => ?_) (fun c4 => ?_)
        · have c4' := i_ne c4
          refine r_iconst (v := 0) C dX6_fate_63 (by decide) ?_
          exact hret _ _ _ _ dX6_fate_64 rfl ⟨h0, o0⟩
        · have c4' := i_eq c4
          exfalso; omega
      · have c3' := i_eq c3
        exfalso; omega
    · have c2' := i_nlt c2
      exfalso; omega
  · have c1' := i_nlt c1
    refine r_iload_n 1 C dX6_fate_4 rfl ?_
    refine r_bipush (v := 6) C dX6_fate_5 (by decide) ?_
    have k6 := i_rng a1
    refine r_icmp_ge 19 C dX6_fate_7 (by decide) (fun c5 => ?_) (fun c5 => ?_)
    · have c5' := i_le c5
      refine r_iconst (v := (-1)) C dX6_fate_19 (by decide) ?_
      refine r_istore_n [(2, .int (-1)), (0, .ref (gz (xG x) + 59)), (1, .int a1)] C dX6_fate_20 (by decide) rfl ?_
      refine r_iload_n 0 C dX6_fate_21 rfl ?_
      refine r_if_lt 43 C dX6_fate_22 (by decide) (fun c7 => ?_) (fun c7 => ?_)
      · have c7' := i_lt c7
        refine r_iconst (v := 0) C dX6_fate_43 (by decide) ?_
        refine r_istore_n [(3, .int 0), (2, .int (-1)), (0, .ref (gz (xG x) + 59)), (1, .int a1)] C dX6_fate_44 (by decide) rfl ?_
        refine r_iload_n 0 C dX6_fate_45 rfl ?_
        refine r_iconst (v := 3) C dX6_fate_46 (by decide) ?_
        refine r_icmp_ne 54 C dX6_fate_47 (by decide) (fun c8 => ?_) (fun c8 => ?_)
        · have c8' := i_ne c8
          refine r_iload_n 0 C dX6_fate_54 rfl ?_
          refine r_iconst (v := 2) C dX6_fate_55 (by decide) ?_
          refine r_icmp_ne 63 C dX6_fate_56 (by decide) (fun c9 => ?_) (fun c9 => ?_)
          · have c9' := i_ne c9
            refine r_iconst (v := 0) C dX6_fate_63 (by decide) ?_
            exact hret _ _ _ _ dX6_fate_64 rfl ⟨h0, o0⟩
          · have c9' := i_eq c9
            exfalso; omega
        · have c8' := i_eq c8
          exfalso; omega
      · have c7' := i_nlt c7
        exfalso; omega
    · have c5' := i_nle c5
      refine r_aload_n 0 C dX6_fate_10 rfl ?_
      refine gfX6_9 60 C (kS sC h0 kc_59) (xS sC h0 xc_59_2) dX6_fate_11 ?_
      refine r_iload_n 1 C dX6_fate_14 rfl ?_
      refine r_iald C (kS sC h0 kc_60) (vin (by omega) (by omega)) dX6_fate_15 ?_
      generalize (wI w 60 (a1).toNatClampNeg) = v10
      refine r_goto 20 C dX6_fate_16 (by decide) ?_
      refine r_istore_n [(2, .int v10), (0, .ref (gz (xG x) + 59)), (1, .int a1)] C dX6_fate_20 (by decide) rfl ?_
      refine r_iload_n 0 C dX6_fate_21 rfl ?_
      refine r_if_lt 43 C dX6_fate_22 (by decide) (fun c11 => ?_) (fun c11 => ?_)
      · have c11' := i_lt c11
        refine r_iconst (v := 0) C dX6_fate_43 (by decide) ?_
        refine r_istore_n [(3, .int 0), (2, .int v10), (0, .ref (gz (xG x) + 59)), (1, .int a1)] C dX6_fate_44 (by decide) rfl ?_
        refine r_iload_n 0 C dX6_fate_45 rfl ?_
        refine r_iconst (v := 3) C dX6_fate_46 (by decide) ?_
        refine r_icmp_ne 54 C dX6_fate_47 (by decide) (fun c12 => ?_) (fun c12 => ?_)
        · have c12' := i_ne c12
          refine r_iload_n 0 C dX6_fate_54 rfl ?_
          refine r_iconst (v := 2) C dX6_fate_55 (by decide) ?_
          refine r_icmp_ne 63 C dX6_fate_56 (by decide) (fun c13 => ?_) (fun c13 => ?_)
          · have c13' := i_ne c13
            refine r_iconst (v := 0) C dX6_fate_63 (by decide) ?_
            exact hret _ _ _ _ dX6_fate_64 rfl ⟨h0, o0⟩
          · have c13' := i_eq c13
            exfalso; omega
        · have c12' := i_eq c12
          exfalso; omega
      · have c11' := i_nlt c11
        refine r_iload_n 0 C dX6_fate_25 rfl ?_
        refine r_bipush (v := 42) C dX6_fate_26 (by decide) ?_
        have k15 := i_rng v10
        refine r_icmp_ge 43 C dX6_fate_28 (by decide) (fun c14 => ?_) (fun c14 => ?_)
        · have c14' := i_le c14
          refine r_iconst (v := 0) C dX6_fate_43 (by decide) ?_
          refine r_istore_n [(3, .int 0), (2, .int v10), (0, .ref (gz (xG x) + 59)), (1, .int a1)] C dX6_fate_44 (by decide) rfl ?_
          refine r_iload_n 0 C dX6_fate_45 rfl ?_
          refine r_iconst (v := 3) C dX6_fate_46 (by decide) ?_
          refine r_icmp_ne 54 C dX6_fate_47 (by decide) (fun c16 => ?_) (fun c16 => ?_)
          · have c16' := i_ne c16
            refine r_iload_n 0 C dX6_fate_54 rfl ?_
            refine r_iconst (v := 2) C dX6_fate_55 (by decide) ?_
            refine r_icmp_ne 63 C dX6_fate_56 (by decide) (fun c17 => ?_) (fun c17 => ?_)
            · have c17' := i_ne c17
              refine r_iconst (v := 0) C dX6_fate_63 (by decide) ?_
              exact hret _ _ _ _ dX6_fate_64 rfl ⟨h0, o0⟩
            · have c17' := i_eq c17
              exfalso; omega
          · have c16' := i_eq c16
            exfalso; omega
        · have c14' := i_nle c14
          refine r_aload_n 1 C dX6_fate_31 rfl ?_
          refine gfX6_22 21 C (kS sC h0 kc_59) (xS sC h0 xc_59_5) dX6_fate_32 ?_
          refine gfX6_85 22 C (kS sC h0 kc_21) (xS sC h0 xc_21_1) dX6_fate_35 ?_
          refine r_iload_n 0 C dX6_fate_38 rfl ?_
          refine r_iald C (kS sC h0 kc_22) (vin (by omega) (by omega)) dX6_fate_39 ?_
          generalize (wI w 22 (v10).toNatClampNeg) = v18
          refine r_goto 44 C dX6_fate_40 (by decide) ?_
          refine r_istore_n [(3, .int v18), (2, .int v10), (0, .ref (gz (xG x) + 59)), (1, .int a1)] C dX6_fate_44 (by decide) rfl ?_
          refine r_iload_n 0 C dX6_fate_45 rfl ?_
          refine r_iconst (v := 3) C dX6_fate_46 (by decide) ?_
          refine r_icmp_ne 54 C dX6_fate_47 (by decide) (fun c19 => ?_) (fun c19 => ?_)
          · have c19' := i_ne c19
            refine r_iload_n 0 C dX6_fate_54 rfl ?_
            refine r_iconst (v := 2) C dX6_fate_55 (by decide) ?_
            refine r_icmp_ne 63 C dX6_fate_56 (by decide) (fun c20 => ?_) (fun c20 => ?_)
            · have c20' := i_ne c20
              refine r_iconst (v := 0) C dX6_fate_63 (by decide) ?_
              exact hret _ _ _ _ dX6_fate_64 rfl ⟨h0, o0⟩
            · have c20' := i_eq c20
              refine r_iconst (v := 2) C dX6_fate_59 (by decide) ?_
              refine r_goto 64 C dX6_fate_60 (by decide) ?_
              exact hret _ _ _ _ dX6_fate_64 rfl ⟨h0, o0⟩
          · have c19' := i_eq c19
            refine r_iconst (v := 1) C dX6_fate_50 (by decide) ?_
            refine r_goto 64 C dX6_fate_51 (by decide) ?_
            exact hret _ _ _ _ dX6_fate_64 rfl ⟨h0, o0⟩
