set_option maxHeartbeats 4000000 in
set_option maxRecDepth 100000 in
theorem ctX1_isCell (l : Launch) (G : Gt) (w : Wv) (a1 : Int32) : CtI l G yX1_isCell cX1_isCell 1 .boolean ({ frames := 0, cells := 0, slots := 0, locals := 0 } : Room) [.int a1] w (fun r w' => w' = w ∧ ((0 ≤ r.toInt ∧ r.toInt ≤ 1) ∧ ((0 ≤ a1.toInt ∧ a1.toInt < 42 → r.toInt = 1) ∧ (a1.toInt < 0 ∨ 42 ≤ a1.toInt → r.toInt = 0)))) := by
  refine enterI (by decide) (Nat.le_of_ble_eq_true rfl) ?_
  intro x el eG C hret
  subst el; subst eG
  show V x 0 0 w 0 [(0, .int a1)] []
  have q0 : (0 : Int32).toInt = 0 := by decide
  have q1 : (1 : Int32).toInt = 1 := by decide
  have q42 : (42 : Int32).toInt = 42 := by decide
  refine r_iload_n 0 C dX1_isCell_0 rfl ?_
  refine r_if_lt 14 C dX1_isCell_1 (by decide) (fun c1 => ?_) (fun c1 => ?_)
  · have c1' := i_lt c1
    refine r_iconst (v := 0) C dX1_isCell_14 (by decide) ?_
    exact hret _ _ _ _ dX1_isCell_15 (nar_z (z_of (by omega))) ⟨rfl, by omega⟩
  · have c1' := i_nlt c1
    refine r_iload_n 0 C dX1_isCell_4 rfl ?_
    refine r_bipush (v := 42) C dX1_isCell_5 (by decide) ?_
    have k3 := i_rng a1
    refine r_icmp_ge 14 C dX1_isCell_7 (by decide) (fun c2 => ?_) (fun c2 => ?_)
    · have c2' := i_le c2
      refine r_iconst (v := 0) C dX1_isCell_14 (by decide) ?_
      exact hret _ _ _ _ dX1_isCell_15 (nar_z (z_of (by omega))) ⟨rfl, by omega⟩
    · have c2' := i_nle c2
      refine r_iconst (v := 1) C dX1_isCell_10 (by decide) ?_
      refine r_goto 15 C dX1_isCell_11 (by decide) ?_
      exact hret _ _ _ _ dX1_isCell_15 (nar_z (z_of (by omega))) ⟨rfl, by omega⟩
set_option maxHeartbeats 4000000 in
set_option maxRecDepth 100000 in
theorem ctX10_isKind (l : Launch) (G : Gt) (w : Wv) (a1 : Int32) : CtI l G yX10_isKind cX10_isKind 1 .boolean ({ frames := 0, cells := 0, slots := 0, locals := 0 } : Room) [.int a1] w (fun r w' => w' = w ∧ ((0 ≤ r.toInt ∧ r.toInt ≤ 1) ∧ ((0 ≤ a1.toInt ∧ a1.toInt < 3 → r.toInt = 1) ∧ (a1.toInt < 0 ∨ 3 ≤ a1.toInt → r.toInt = 0)))) := by
  refine enterI (by decide) (Nat.le_of_ble_eq_true rfl) ?_
  intro x el eG C hret
  subst el; subst eG
  show V x 0 0 w 0 [(0, .int a1)] []
  have q0 : (0 : Int32).toInt = 0 := by decide
  have q1 : (1 : Int32).toInt = 1 := by decide
  have q3 : (3 : Int32).toInt = 3 := by decide
  refine r_iload_n 0 C dX10_isKind_0 rfl ?_
  refine r_if_lt 13 C dX10_isKind_1 (by decide) (fun c1 => ?_) (fun c1 => ?_)
  · have c1' := i_lt c1
    refine r_iconst (v := 0) C dX10_isKind_13 (by decide) ?_
    exact hret _ _ _ _ dX10_isKind_14 (nar_z (z_of (by omega))) ⟨rfl, by omega⟩
  · have c1' := i_nlt c1
    refine r_iload_n 0 C dX10_isKind_4 rfl ?_
    refine r_iconst (v := 3) C dX10_isKind_5 (by decide) ?_
    have k3 := i_rng a1
    refine r_icmp_ge 13 C dX10_isKind_6 (by decide) (fun c2 => ?_) (fun c2 => ?_)
    · have c2' := i_le c2
      refine r_iconst (v := 0) C dX10_isKind_13 (by decide) ?_
      exact hret _ _ _ _ dX10_isKind_14 (nar_z (z_of (by omega))) ⟨rfl, by omega⟩
    · have c2' := i_nle c2
      refine r_iconst (v := 1) C dX10_isKind_9 (by decide) ?_
      refine r_goto 14 C dX10_isKind_10 (by decide) ?_
      exact hret _ _ _ _ dX10_isKind_14 (nar_z (z_of (by omega))) ⟨rfl, by omega⟩
set_option maxHeartbeats 4000000 in
set_option maxRecDepth 100000 in
theorem ctX10_isStep (l : Launch) (G : Gt) (w : Wv) (a1 : Int32) : CtI l G yX10_isStep cX10_isStep 1 .boolean ({ frames := 0, cells := 0, slots := 0, locals := 0 } : Room) [.int a1] w (fun r w' => w' = w ∧ ((0 ≤ r.toInt ∧ r.toInt ≤ 1) ∧ ((0 ≤ a1.toInt ∧ a1.toInt ≤ 4 → r.toInt = 1) ∧ (a1.toInt < 0 ∨ 4 < a1.toInt → r.toInt = 0)))) := by
  refine enterI (by decide) (Nat.le_of_ble_eq_true rfl) ?_
  intro x el eG C hret
  subst el; subst eG
  show V x 0 0 w 0 [(0, .int a1)] []
  have q0 : (0 : Int32).toInt = 0 := by decide
  have q1 : (1 : Int32).toInt = 1 := by decide
  have q4 : (4 : Int32).toInt = 4 := by decide
  refine r_iload_n 0 C dX10_isStep_0 rfl ?_
  refine r_if_lt 13 C dX10_isStep_1 (by decide) (fun c1 => ?_) (fun c1 => ?_)
  · have c1' := i_lt c1
    refine r_iconst (v := 0) C dX10_isStep_13 (by decide) ?_
    exact hret _ _ _ _ dX10_isStep_14 (nar_z (z_of (by omega))) ⟨rfl, by omega⟩
  · have c1' := i_nlt c1
    refine r_iload_n 0 C dX10_isStep_4 rfl ?_
    refine r_iconst (v := 4) C dX10_isStep_5 (by decide) ?_
    have k3 := i_rng a1
    refine r_icmp_gt 13 C dX10_isStep_6 (by decide) (fun c2 => ?_) (fun c2 => ?_)
    · have c2' := i_lt c2
      refine r_iconst (v := 0) C dX10_isStep_13 (by decide) ?_
      exact hret _ _ _ _ dX10_isStep_14 (nar_z (z_of (by omega))) ⟨rfl, by omega⟩
    · have c2' := i_nlt c2
      refine r_iconst (v := 1) C dX10_isStep_9 (by decide) ?_
      refine r_goto 14 C dX10_isStep_10 (by decide) ?_
      exact hret _ _ _ _ dX10_isStep_14 (nar_z (z_of (by omega))) ⟨rfl, by omega⟩
set_option maxHeartbeats 4000000 in
set_option maxRecDepth 100000 in
theorem ctX10_isImage (l : Launch) (G : Gt) (w : Wv) (a1 : Int32) : CtI l G yX10_isImage cX10_isImage 1 .boolean ({ frames := 0, cells := 0, slots := 0, locals := 0 } : Room) [.int a1] w (fun r w' => w' = w ∧ ((0 ≤ r.toInt ∧ r.toInt ≤ 1) ∧ ((0 ≤ a1.toInt ∧ a1.toInt < 2 → r.toInt = 1) ∧ (a1.toInt < 0 ∨ 2 ≤ a1.toInt → r.toInt = 0)))) := by
  refine enterI (by decide) (Nat.le_of_ble_eq_true rfl) ?_
  intro x el eG C hret
  subst el; subst eG
  show V x 0 0 w 0 [(0, .int a1)] []
  have q0 : (0 : Int32).toInt = 0 := by decide
  have q1 : (1 : Int32).toInt = 1 := by decide
  have q2 : (2 : Int32).toInt = 2 := by decide
  refine r_iload_n 0 C dX10_isImage_0 rfl ?_
  refine r_if_lt 13 C dX10_isImage_1 (by decide) (fun c1 => ?_) (fun c1 => ?_)
  · have c1' := i_lt c1
    refine r_iconst (v := 0) C dX10_isImage_13 (by decide) ?_
    exact hret _ _ _ _ dX10_isImage_14 (nar_z (z_of (by omega))) ⟨rfl, by omega⟩
  · have c1' := i_nlt c1
    refine r_iload_n 0 C dX10_isImage_4 rfl ?_
    refine r_iconst (v := 2) C dX10_isImage_5 (by decide) ?_
    have k3 := i_rng a1
    refine r_icmp_ge 13 C dX10_isImage_6 (by decide) (fun c2 => ?_) (fun c2 => ?_)
    · have c2' := i_le c2
      refine r_iconst (v := 0) C dX10_isImage_13 (by decide) ?_
      exact hret _ _ _ _ dX10_isImage_14 (nar_z (z_of (by omega))) ⟨rfl, by omega⟩
    · have c2' := i_nle c2
      refine r_iconst (v := 1) C dX10_isImage_9 (by decide) ?_
      refine r_goto 14 C dX10_isImage_10 (by decide) ?_
      exact hret _ _ _ _ dX10_isImage_14 (nar_z (z_of (by omega))) ⟨rfl, by omega⟩
set_option maxHeartbeats 4000000 in
set_option maxRecDepth 100000 in
theorem ctX3_slot (l : Launch) (G : Gt) (w : Wv) (a1 : Int64) (a2 : Int64) : CtI l G yX3_slot cX3_slot 6 .int ({ frames := 0, cells := 0, slots := 0, locals := 0 } : Room) [.long a1, .long a2] w (fun r w' => w' = w ∧ (0 ≤ r.toInt ∧ r.toInt ≤ 1023)) := by
  refine enterI (by decide) (Nat.le_of_ble_eq_true rfl) ?_
  intro x el eG C hret
  subst el; subst eG
  show V x 0 0 w 0 [(0, .long a1), (2, .long a2)] []
  have q54 : (54 : Int32).toInt = 54 := by decide
  have q1023 : (1023 : Int32).toInt = 1023 := by decide
  have qlm7046029254386353131 : ((-7046029254386353131) : Int64).toInt = (-7046029254386353131) := by decide
  have ql31 : (31 : Int64).toInt = 31 := by decide
  refine r_lload_n 0 C dX3_slot_0 rfl ?_
  refine r_ldc2 C mw4_161 dX3_slot_1 ?_
  refine r_lmul C dX3_slot_4 (fun v1 e2 => ?_)
  refine r_lload_n 1 C dX3_slot_5 rfl ?_
  refine r_ladd C dX3_slot_6 (fun v3 e4 => ?_)
  refine r_ldc2 C mw4_162 dX3_slot_7 ?_
  refine r_lmul C dX3_slot_10 (fun v5 e6 => ?_)
  refine r_lstore [(4, .long v5), (0, .long a1), (2, .long a2)] C dX3_slot_11 (by decide) rfl ?_
  refine r_lload 0 C dX3_slot_13 rfl ?_
  refine r_bipush (v := 54) C dX3_slot_15 (by decide) ?_
  refine r_lushr C dX3_slot_17 (fun v7 e8 => ?_)
  refine r_l2i C dX3_slot_18 (fun v9 e10 => ?_)
  refine r_sipush (v := 1023) C dX3_slot_19 (by decide) ?_
  refine r_iand C dX3_slot_22 (fun v11 e12 => ?_)
  have v11' := iand_ok e12 10 (by decide) (by decide)
  exact hret _ _ _ _ dX3_slot_23 rfl ⟨rfl, by omega⟩
set_option maxHeartbeats 4000000 in
set_option maxRecDepth 100000 in
theorem ctX1_forgetWays_21 (l : Launch) (G : Gt) (w : Wv) (sC : Str KC XC w) (o0 : Inv RC w)  : CtV l G yX1_forgetWays cX1_forgetWays 2 ({ frames := 0, cells := 0, slots := 0, locals := 0 } : Room) [.ref (gz G + 21)] w (fun w' => Ch [26] [] w w' ∧ Inv RC w') := by
  refine enterV (by decide) (Nat.le_of_ble_eq_true rfl) ?_
  intro x el eG C hnm hret
  subst el; subst eG
  show V x 0 0 w 0 [(0, .ref (gz (xG x) + 21))] []
  have h0 : Ch [26] [] w w := Ch.rf
  have q0 : (0 : Int32).toInt = 0 := by decide
  have q42 : (42 : Int32).toInt = 42 := by decide
  have LP2 : ∀ (f3 : Nat) (u1 : Int32) (w4 : Wv), Ch [26] [] w w4 → Inv RC w4 → (0 ≤ u1.toInt ∧ u1.toInt ≤ 2147483647) → 2147483647 - u1.toInt < f3 → V x 0 0 w4 2 [(0, .ref (gz (xG x) + 21)), (1, .int u1)] [] := by
    intro f3
    induction f3 with
    | zero => intro u1 w4 h5 o6 z7 z8; exfalso; omega
    | succ f3 ih9 =>
      intro u1 w4 h5 o6 z7 z8
      refine r_iload_n 1 C dX1_forgetWays_2 rfl ?_
      refine r_bipush (v := 42) C dX1_forgetWays_3 (by decide) ?_
      have k11 := i_rng u1
      refine r_icmp_ge 21 C dX1_forgetWays_5 (by decide) (fun c10 => ?_) (fun c10 => ?_)
      · have c10' := i_le c10
        exact hret _ _ _ dX1_forgetWays_21 ⟨h5, o6⟩
      · have c10' := i_nle c10
        refine r_aload_n 0 C dX1_forgetWays_8 rfl ?_
        refine gfX1_24 26 C (kS sC h5 kc_21) (xS sC h5 xc_21_7) dX1_forgetWays_9 ?_
        refine r_iload_n 1 C dX1_forgetWays_12 rfl ?_
        refine r_iconst (v := 0) C dX1_forgetWays_13 (by decide) ?_
        refine r_zast C (kS sC h5 kc_26) (vin (by omega) (by omega)) (nar_z (z_of (by omega))) dX1_forgetWays_14 (fun w12 e13 => ?_)
        have h14 := Ch.putS h5 e13 (by decide)
        have o15 := Inv.put0 o6 e13 (by decide)
        obtain ⟨i16, e17⟩ : ∃ z : Int32, u1 + Int32.ofInt 1 = z := ⟨_, rfl⟩
        have i16' := iinc_ok e17 (by decide) (by omega) (by omega)
        refine r_iinc [(1, .int i16), (0, .ref (gz (xG x) + 21))] 1 C dX1_forgetWays_15 rfl e17 (by decide) rfl ?_
        refine r_goto 2 C dX1_forgetWays_18 (by decide) ?_
        refine r_lv [1, 0] rfl ?_
        exact ih9 i16 w12 h14 o15 (by omega) (by omega)
  refine r_iconst (v := 0) C dX1_forgetWays_0 (by decide) ?_
  refine r_istore_n [(1, .int 0), (0, .ref (gz (xG x) + 21))] C dX1_forgetWays_1 (by decide) rfl ?_
  refine r_lv [1, 0] rfl ?_
  exact LP2 4294967296 0 w h0 o0 (by omega) (by omega)
set_option maxHeartbeats 4000000 in
set_option maxRecDepth 100000 in
theorem ctX1_takeWhats_21_4 (l : Launch) (G : Gt) (w : Wv) (sC : Str KC XC w) (o0 : Inv RC w)  : CtV l G yX1_takeWhats cX1_takeWhats 3 ({ frames := 1, cells := 0, slots := 0, locals := 21 } : Room) [.ref (gz G + 21), .ref (gz G + 4)] w (fun w' => Ch [22, 26] [] w w' ∧ Inv RC w') := by
  refine enterV (by decide) (Nat.le_of_ble_eq_true rfl) ?_
  intro x el eG C hnm hret
  subst el; subst eG
  show V x 0 0 w 0 [(0, .ref (gz (xG x) + 21)), (1, .ref (gz (xG x) + 4))] []
  have h0 : Ch [22, 26] [] w w := Ch.rf
  have q0 : (0 : Int32).toInt = 0 := by decide
  have q42 : (42 : Int32).toInt = 42 := by decide
  have LP2 : ∀ (f3 : Nat) (u1 : Int32) (w4 : Wv), Ch [22, 26] [] w w4 → Inv RC w4 → (0 ≤ u1.toInt ∧ u1.toInt ≤ 2147483647) → 2147483647 - u1.toInt < f3 → V x 0 0 w4 2 [(0, .ref (gz (xG x) + 21)), (1, .ref (gz (xG x) + 4)), (2, .int u1)] [] := by
    intro f3
    induction f3 with
    | zero => intro u1 w4 h5 o6 z7 z8; exfalso; omega
    | succ f3 ih9 =>
      intro u1 w4 h5 o6 z7 z8
      refine r_iload_n 2 C dX1_takeWhats_2 rfl ?_
      refine r_bipush (v := 42) C dX1_takeWhats_3 (by decide) ?_
      have k11 := i_rng u1
      refine r_icmp_ge 29 C dX1_takeWhats_5 (by decide) (fun c10 => ?_) (fun c10 => ?_)
      · have c10' := i_le c10
        refine r_aload_n 0 C dX1_takeWhats_29 rfl ?_
        refine callVV C cwX1_62_V (ctX1_forgetWays_21 _ _ w4 (sS sC h5) o6  ) (by decide) (kS sC h5 kc_21) rfl rfl rfl (Nat.le_of_ble_eq_true rfl) (by decide) dX1_takeWhats_30 (fun w13 y12 => ?_)
        show V x 0 0 w13 33 [(0, .ref (gz (xG x) + 21)), (1, .ref (gz (xG x) + 4)), (2, .int u1)] []
        obtain ⟨h15, o16⟩ := y12
        have h17 := Ch.tr h5 h15 (by decide) (by decide)
        exact hret _ _ _ dX1_takeWhats_33 ⟨h17, o16⟩
      · have c10' := i_nle c10
        refine r_iload_n 2 C dX1_takeWhats_8 rfl ?_
        refine r_aload_n 1 C dX1_takeWhats_9 rfl ?_
        refine r_alen 0 0 rfl C (kS sC h5 kc_4) (v := 42) (by decide) dX1_takeWhats_10 ?_
        refine r_icmp_ge 29 C dX1_takeWhats_11 (by decide) (fun c18 => ?_) (fun c18 => ?_)
        · have c18' := i_le c18
          exfalso; omega
        · have c18' := i_nle c18
          refine r_aload_n 0 C dX1_takeWhats_14 rfl ?_
          refine gfX1_9 22 C (kS sC h5 kc_21) (xS sC h5 xc_21_1) dX1_takeWhats_15 ?_
          refine r_iload_n 2 C dX1_takeWhats_18 rfl ?_
          refine r_aload_n 1 C dX1_takeWhats_19 rfl ?_
          refine r_iload_n 2 C dX1_takeWhats_20 rfl ?_
          refine r_iald C (kS sC h5 kc_4) (vin (by omega) (by omega)) dX1_takeWhats_21 ?_
          generalize (wI w4 4 (u1).toNatClampNeg) = v19
          refine r_iast C (kS sC h5 kc_22) (vin (by omega) (by omega)) dX1_takeWhats_22 (fun w20 e21 => ?_)
          have h22 := Ch.putS h5 e21 (by decide)
          have o23 := Inv.put0 o6 e21 (by decide)
          obtain ⟨i24, e25⟩ : ∃ z : Int32, u1 + Int32.ofInt 1 = z := ⟨_, rfl⟩
          have i24' := iinc_ok e25 (by decide) (by omega) (by omega)
          refine r_iinc [(2, .int i24), (0, .ref (gz (xG x) + 21)), (1, .ref (gz (xG x) + 4))] 2 C dX1_takeWhats_23 rfl e25 (by decide) rfl ?_
          refine r_goto 2 C dX1_takeWhats_26 (by decide) ?_
          refine r_lv [1, 2, 0] rfl ?_
          exact ih9 i24 w20 h22 o23 (by omega) (by omega)
  refine r_iconst (v := 0) C dX1_takeWhats_0 (by decide) ?_
  refine r_istore_n [(2, .int 0), (0, .ref (gz (xG x) + 21)), (1, .ref (gz (xG x) + 4))] C dX1_takeWhats_1 (by decide) rfl ?_
  refine r_lv [1, 2, 0] rfl ?_
  exact LP2 4294967296 0 w h0 o0 (by omega) (by omega)
set_option maxHeartbeats 4000000 in
set_option maxRecDepth 100000 in
theorem ctX1_takeWhats_21_105 (l : Launch) (G : Gt) (w : Wv) (sC : Str KC XC w) (o0 : Inv RC w)  : CtV l G yX1_takeWhats cX1_takeWhats 3 ({ frames := 1, cells := 0, slots := 0, locals := 21 } : Room) [.ref (gz G + 21), .ref (gz G + 105)] w (fun w' => Ch [22, 26] [] w w' ∧ Inv RC w') := by
  refine enterV (by decide) (Nat.le_of_ble_eq_true rfl) ?_
  intro x el eG C hnm hret
  subst el; subst eG
  show V x 0 0 w 0 [(0, .ref (gz (xG x) + 21)), (1, .ref (gz (xG x) + 105))] []
  have h0 : Ch [22, 26] [] w w := Ch.rf
  have q0 : (0 : Int32).toInt = 0 := by decide
  have q42 : (42 : Int32).toInt = 42 := by decide
  have LP2 : ∀ (f3 : Nat) (u1 : Int32) (w4 : Wv), Ch [22, 26] [] w w4 → Inv RC w4 → (0 ≤ u1.toInt ∧ u1.toInt ≤ 2147483647) → 2147483647 - u1.toInt < f3 → V x 0 0 w4 2 [(0, .ref (gz (xG x) + 21)), (1, .ref (gz (xG x) + 105)), (2, .int u1)] [] := by
    intro f3
    induction f3 with
    | zero => intro u1 w4 h5 o6 z7 z8; exfalso; omega
    | succ f3 ih9 =>
      intro u1 w4 h5 o6 z7 z8
      refine r_iload_n 2 C dX1_takeWhats_2 rfl ?_
      refine r_bipush (v := 42) C dX1_takeWhats_3 (by decide) ?_
      have k11 := i_rng u1
      refine r_icmp_ge 29 C dX1_takeWhats_5 (by decide) (fun c10 => ?_) (fun c10 => ?_)
      · have c10' := i_le c10
        refine r_aload_n 0 C dX1_takeWhats_29 rfl ?_
        refine callVV C cwX1_62_V (ctX1_forgetWays_21 _ _ w4 (sS sC h5) o6  ) (by decide) (kS sC h5 kc_21) rfl rfl rfl (Nat.le_of_ble_eq_true rfl) (by decide) dX1_takeWhats_30 (fun w13 y12 => ?_)
        show V x 0 0 w13 33 [(0, .ref (gz (xG x) + 21)), (1, .ref (gz (xG x) + 105)), (2, .int u1)] []
        obtain ⟨h15, o16⟩ := y12
        have h17 := Ch.tr h5 h15 (by decide) (by decide)
        exact hret _ _ _ dX1_takeWhats_33 ⟨h17, o16⟩
      · have c10' := i_nle c10
        refine r_iload_n 2 C dX1_takeWhats_8 rfl ?_
        refine r_aload_n 1 C dX1_takeWhats_9 rfl ?_
        refine r_alen 0 0 rfl C (kS sC h5 kc_105) (v := 42) (by decide) dX1_takeWhats_10 ?_
        refine r_icmp_ge 29 C dX1_takeWhats_11 (by decide) (fun c18 => ?_) (fun c18 => ?_)
        · have c18' := i_le c18
          exfalso; omega
        · have c18' := i_nle c18
          refine r_aload_n 0 C dX1_takeWhats_14 rfl ?_
          refine gfX1_9 22 C (kS sC h5 kc_21) (xS sC h5 xc_21_1) dX1_takeWhats_15 ?_
          refine r_iload_n 2 C dX1_takeWhats_18 rfl ?_
          refine r_aload_n 1 C dX1_takeWhats_19 rfl ?_
          refine r_iload_n 2 C dX1_takeWhats_20 rfl ?_
          refine r_iald C (kS sC h5 kc_105) (vin (by omega) (by omega)) dX1_takeWhats_21 ?_
          generalize (wI w4 105 (u1).toNatClampNeg) = v19
          refine r_iast C (kS sC h5 kc_22) (vin (by omega) (by omega)) dX1_takeWhats_22 (fun w20 e21 => ?_)
          have h22 := Ch.putS h5 e21 (by decide)
          have o23 := Inv.put0 o6 e21 (by decide)
          obtain ⟨i24, e25⟩ : ∃ z : Int32, u1 + Int32.ofInt 1 = z := ⟨_, rfl⟩
          have i24' := iinc_ok e25 (by decide) (by omega) (by omega)
          refine r_iinc [(2, .int i24), (0, .ref (gz (xG x) + 21)), (1, .ref (gz (xG x) + 105))] 2 C dX1_takeWhats_23 rfl e25 (by decide) rfl ?_
          refine r_goto 2 C dX1_takeWhats_26 (by decide) ?_
          refine r_lv [1, 2, 0] rfl ?_
          exact ih9 i24 w20 h22 o23 (by omega) (by omega)
  refine r_iconst (v := 0) C dX1_takeWhats_0 (by decide) ?_
  refine r_istore_n [(2, .int 0), (0, .ref (gz (xG x) + 21)), (1, .ref (gz (xG x) + 105))] C dX1_takeWhats_1 (by decide) rfl ?_
  refine r_lv [1, 2, 0] rfl ?_
  exact LP2 4294967296 0 w h0 o0 (by omega) (by omega)
set_option maxHeartbeats 4000000 in
set_option maxRecDepth 100000 in
theorem ctX1_takeWhats_21_110 (l : Launch) (G : Gt) (w : Wv) (sC : Str KC XC w) (o0 : Inv RC w)  : CtV l G yX1_takeWhats cX1_takeWhats 3 ({ frames := 1, cells := 0, slots := 0, locals := 21 } : Room) [.ref (gz G + 21), .ref (gz G + 110)] w (fun w' => Ch [22, 26] [] w w' ∧ Inv RC w') := by
  refine enterV (by decide) (Nat.le_of_ble_eq_true rfl) ?_
  intro x el eG C hnm hret
  subst el; subst eG
  show V x 0 0 w 0 [(0, .ref (gz (xG x) + 21)), (1, .ref (gz (xG x) + 110))] []
  have h0 : Ch [22, 26] [] w w := Ch.rf
  have q0 : (0 : Int32).toInt = 0 := by decide
  have q42 : (42 : Int32).toInt = 42 := by decide
  have LP2 : ∀ (f3 : Nat) (u1 : Int32) (w4 : Wv), Ch [22, 26] [] w w4 → Inv RC w4 → (0 ≤ u1.toInt ∧ u1.toInt ≤ 2147483647) → 2147483647 - u1.toInt < f3 → V x 0 0 w4 2 [(0, .ref (gz (xG x) + 21)), (1, .ref (gz (xG x) + 110)), (2, .int u1)] [] := by
    intro f3
    induction f3 with
    | zero => intro u1 w4 h5 o6 z7 z8; exfalso; omega
    | succ f3 ih9 =>
      intro u1 w4 h5 o6 z7 z8
      refine r_iload_n 2 C dX1_takeWhats_2 rfl ?_
      refine r_bipush (v := 42) C dX1_takeWhats_3 (by decide) ?_
      have k11 := i_rng u1
      refine r_icmp_ge 29 C dX1_takeWhats_5 (by decide) (fun c10 => ?_) (fun c10 => ?_)
      · have c10' := i_le c10
        refine r_aload_n 0 C dX1_takeWhats_29 rfl ?_
        refine callVV C cwX1_62_V (ctX1_forgetWays_21 _ _ w4 (sS sC h5) o6  ) (by decide) (kS sC h5 kc_21) rfl rfl rfl (Nat.le_of_ble_eq_true rfl) (by decide) dX1_takeWhats_30 (fun w13 y12 => ?_)
        show V x 0 0 w13 33 [(0, .ref (gz (xG x) + 21)), (1, .ref (gz (xG x) + 110)), (2, .int u1)] []
        obtain ⟨h15, o16⟩ := y12
        have h17 := Ch.tr h5 h15 (by decide) (by decide)
        exact hret _ _ _ dX1_takeWhats_33 ⟨h17, o16⟩
      · have c10' := i_nle c10
        refine r_iload_n 2 C dX1_takeWhats_8 rfl ?_
        refine r_aload_n 1 C dX1_takeWhats_9 rfl ?_
        refine r_alen 0 0 rfl C (kS sC h5 kc_110) (v := 42) (by decide) dX1_takeWhats_10 ?_
        refine r_icmp_ge 29 C dX1_takeWhats_11 (by decide) (fun c18 => ?_) (fun c18 => ?_)
        · have c18' := i_le c18
          exfalso; omega
        · have c18' := i_nle c18
          refine r_aload_n 0 C dX1_takeWhats_14 rfl ?_
          refine gfX1_9 22 C (kS sC h5 kc_21) (xS sC h5 xc_21_1) dX1_takeWhats_15 ?_
          refine r_iload_n 2 C dX1_takeWhats_18 rfl ?_
          refine r_aload_n 1 C dX1_takeWhats_19 rfl ?_
          refine r_iload_n 2 C dX1_takeWhats_20 rfl ?_
          refine r_iald C (kS sC h5 kc_110) (vin (by omega) (by omega)) dX1_takeWhats_21 ?_
          generalize (wI w4 110 (u1).toNatClampNeg) = v19
          refine r_iast C (kS sC h5 kc_22) (vin (by omega) (by omega)) dX1_takeWhats_22 (fun w20 e21 => ?_)
          have h22 := Ch.putS h5 e21 (by decide)
          have o23 := Inv.put0 o6 e21 (by decide)
          obtain ⟨i24, e25⟩ : ∃ z : Int32, u1 + Int32.ofInt 1 = z := ⟨_, rfl⟩
          have i24' := iinc_ok e25 (by decide) (by omega) (by omega)
          refine r_iinc [(2, .int i24), (0, .ref (gz (xG x) + 21)), (1, .ref (gz (xG x) + 110))] 2 C dX1_takeWhats_23 rfl e25 (by decide) rfl ?_
          refine r_goto 2 C dX1_takeWhats_26 (by decide) ?_
          refine r_lv [1, 2, 0] rfl ?_
          exact ih9 i24 w20 h22 o23 (by omega) (by omega)
  refine r_iconst (v := 0) C dX1_takeWhats_0 (by decide) ?_
  refine r_istore_n [(2, .int 0), (0, .ref (gz (xG x) + 21)), (1, .ref (gz (xG x) + 110))] C dX1_takeWhats_1 (by decide) rfl ?_
  refine r_lv [1, 2, 0] rfl ?_
  exact LP2 4294967296 0 w h0 o0 (by omega) (by omega)
set_option maxHeartbeats 4000000 in
set_option maxRecDepth 100000 in
theorem ctX1_layCell_21 (l : Launch) (G : Gt) (w : Wv) (sC : Str KC XC w) (o0 : Inv RC w) (a1 : Int32) (a2 : Int32) (b1 : 0 ≤ a1.toInt ∧ a1.toInt ≤ 8) (b2 : 0 ≤ a2.toInt ∧ a2.toInt ≤ 8) : CtV l G yX1_layCell cX1_layCell 4 ({ frames := 0, cells := 0, slots := 0, locals := 0 } : Room) [.ref (gz G + 21), .int a1, .int a2] w (fun w' => Ch [23, 24] [] w w' ∧ Inv RC w') := by
  refine enterV (by decide) (Nat.le_of_ble_eq_true rfl) ?_
  intro x el eG C hnm hret
  subst el; subst eG
  show V x 0 0 w 0 [(0, .ref (gz (xG x) + 21)), (1, .int a1), (2, .int a2)] []
  have h0 : Ch [23, 24] [] w w := Ch.rf
  have qm1 : ((-1) : Int32).toInt = (-1) := by decide
  have q0 : (0 : Int32).toInt = 0 := by decide
  have q1 : (1 : Int32).toInt = 1 := by decide
  have q2 : (2 : Int32).toInt = 2 := by decide
  have q3 : (3 : Int32).toInt = 3 := by decide
  have q4 : (4 : Int32).toInt = 4 := by decide
  have q10 : (10 : Int32).toInt = 10 := by decide
  have q42 : (42 : Int32).toInt = 42 := by decide
  refine r_iload_n 2 C dX1_layCell_0 rfl ?_
  refine r_aload_n 0 C dX1_layCell_1 rfl ?_
  refine gfX1_37 (v := (wI w 21 2)) C (kS sC h0 kc_21) rfl dX1_layCell_2 ?_
  have b1 := Inv.get o0 rt_21_2 (j := 2) (by decide) (by decide)
  refine r_imul C dX1_layCell_5 (fun v2 e3 => ?_)
  have v2' := imul_rng e3 (A := 8) (B := 9) (by omega) (by omega) (by decide)
  refine r_iload_n 1 C dX1_layCell_6 rfl ?_
  refine r_iadd C dX1_layCell_7 (fun v4 e5 => ?_)
  have v4' := iadd_ok e5 (by omega) (by omega)
  refine r_istore_n [(3, .int v4), (0, .ref (gz (xG x) + 21)), (1, .int a1), (2, .int a2)] C dX1_layCell_8 (by decide) rfl ?_
  refine r_iload_n 0 C dX1_layCell_9 rfl ?_
  refine r_bipush (v := 42) C dX1_layCell_10 (by decide) ?_
  refine r_icmp_lt 16 C dX1_layCell_12 (by decide) (fun c6 => ?_) (fun c6 => ?_)
  · have c6' := i_lt c6
    refine r_aload_n 1 C dX1_layCell_16 rfl ?_
    refine gfX1_15 23 C (kS sC h0 kc_21) (xS sC h0 xc_21_4) dX1_layCell_17 ?_
    refine r_iload_n 0 C dX1_layCell_20 rfl ?_
    refine r_bipush (v := 10) C dX1_layCell_21 (by decide) ?_
    refine r_iload_n 2 C dX1_layCell_23 rfl ?_
    refine r_imul C dX1_layCell_24 (fun v7 e8 => ?_)
    have k9 : (10 : Int32).toInt = 10 := by omega
    have v7' := imul_ok e8 (by rw [k9]; omega) (by rw [k9]; omega)
    rw [k9] at v7'
    refine r_iload_n 3 C dX1_layCell_25 rfl ?_
    refine r_iadd C dX1_layCell_26 (fun v10 e11 => ?_)
    have v10' := iadd_ok e11 (by omega) (by omega)
    refine r_iast C (kS sC h0 kc_23) (vin (by omega) (by omega)) dX1_layCell_27 (fun w12 e13 => ?_)
    have h14 := Ch.putS h0 e13 (by decide)
    have o15 := Inv.put0 o0 e13 (by decide)
    refine r_aload_n 1 C dX1_layCell_28 rfl ?_
    refine gfX1_18 24 C (kS sC h14 kc_21) (xS sC h14 xc_21_5) dX1_layCell_29 ?_
    refine r_iload_n 0 C dX1_layCell_32 rfl ?_
    refine r_iconst (v := 4) C dX1_layCell_33 (by decide) ?_
    refine r_imul C dX1_layCell_34 (fun v16 e17 => ?_)
    have k18 : (4 : Int32).toInt = 4 := by omega
    have v16' := imul_ok e17 (by rw [k18]; omega) (by rw [k18]; omega)
    rw [k18] at v16'
    refine r_iload_n 3 C dX1_layCell_35 rfl ?_
    refine r_if_le 48 C dX1_layCell_36 (by decide) (fun c19 => ?_) (fun c19 => ?_)
    · have c19' := i_le c19
      refine r_iconst (v := (-1)) C dX1_layCell_48 (by decide) ?_
      refine r_iast C (kS sC h14 kc_24) (vin (by omega) (by omega)) dX1_layCell_49 (fun w20 e21 => ?_)
      have h22 := Ch.putS h14 e21 (by decide)
      have o23 := Inv.put0 o15 e21 (by decide)
      refine r_aload_n 1 C dX1_layCell_50 rfl ?_
      refine gfX1_18 24 C (kS sC h22 kc_21) (xS sC h22 xc_21_5) dX1_layCell_51 ?_
      refine r_iload_n 0 C dX1_layCell_54 rfl ?_
      refine r_iconst (v := 4) C dX1_layCell_55 (by decide) ?_
      refine r_imul C dX1_layCell_56 (fun v24 e25 => ?_)
      have k26 : (4 : Int32).toInt = 4 := by omega
      have v24' := imul_ok e25 (by rw [k26]; omega) (by rw [k26]; omega)
      rw [k26] at v24'
      refine r_iconst (v := 1) C dX1_layCell_57 (by decide) ?_
      refine r_iadd C dX1_layCell_58 (fun v27 e28 => ?_)
      have v27' := iadd_ok e28 (by omega) (by omega)
      refine r_iload_n 2 C dX1_layCell_59 rfl ?_
      refine r_aload_n 1 C dX1_layCell_60 rfl ?_
      refine gfX1_37 (v := (wI w 21 2)) C (kS sC h22 kc_21) (g_nn e21 (by decide) (g_nn e13 (by decide) rfl)) dX1_layCell_61 ?_
      refine r_iconst (v := 1) C dX1_layCell_64 (by decide) ?_
      refine r_isub C dX1_layCell_65 (fun v29 e30 => ?_)
      have v29' := isub_ok e30 (by omega) (by omega)
      refine r_icmp_ge 75 C dX1_layCell_66 (by decide) (fun c31 => ?_) (fun c31 => ?_)
      · have c31' := i_le c31
        refine r_iconst (v := (-1)) C dX1_layCell_75 (by decide) ?_
        refine r_iast C (kS sC h22 kc_24) (vin (by omega) (by omega)) dX1_layCell_76 (fun w32 e33 => ?_)
        have h34 := Ch.putS h22 e33 (by decide)
        have o35 := Inv.put0 o23 e33 (by decide)
        refine r_aload_n 1 C dX1_layCell_77 rfl ?_
        refine gfX1_18 24 C (kS sC h34 kc_21) (xS sC h34 xc_21_5) dX1_layCell_78 ?_
        refine r_iload_n 0 C dX1_layCell_81 rfl ?_
        refine r_iconst (v := 4) C dX1_layCell_82 (by decide) ?_
        refine r_imul C dX1_layCell_83 (fun v36 e37 => ?_)
        have k38 : (4 : Int32).toInt = 4 := by omega
        have v36' := imul_ok e37 (by rw [k38]; omega) (by rw [k38]; omega)
        rw [k38] at v36'
        refine r_iconst (v := 2) C dX1_layCell_84 (by decide) ?_
        refine r_iadd C dX1_layCell_85 (fun v39 e40 => ?_)
        have v39' := iadd_ok e40 (by omega) (by omega)
        refine r_iload_n 3 C dX1_layCell_86 rfl ?_
        refine r_aload_n 1 C dX1_layCell_87 rfl ?_
        refine gfX1_41 (v := (wI w 21 3)) C (kS sC h34 kc_21) (g_nn e33 (by decide) (g_nn e21 (by decide) (g_nn e13 (by decide) rfl))) dX1_layCell_88 ?_
        have b41 := Inv.get o0 rt_21_3 (j := 3) (by decide) (by decide)
        refine r_iconst (v := 1) C dX1_layCell_91 (by decide) ?_
        refine r_isub C dX1_layCell_92 (fun v42 e43 => ?_)
        have v42' := isub_ok e43 (by omega) (by omega)
        refine r_icmp_ge 105 C dX1_layCell_93 (by decide) (fun c44 => ?_) (fun c44 => ?_)
        · have c44' := i_le c44
          refine r_iconst (v := (-1)) C dX1_layCell_105 (by decide) ?_
          refine r_iast C (kS sC h34 kc_24) (vin (by omega) (by omega)) dX1_layCell_106 (fun w45 e46 => ?_)
          have h47 := Ch.putS h34 e46 (by decide)
          have o48 := Inv.put0 o35 e46 (by decide)
          refine r_aload_n 1 C dX1_layCell_107 rfl ?_
          refine gfX1_18 24 C (kS sC h47 kc_21) (xS sC h47 xc_21_5) dX1_layCell_108 ?_
          refine r_iload_n 0 C dX1_layCell_111 rfl ?_
          refine r_iconst (v := 4) C dX1_layCell_112 (by decide) ?_
          refine r_imul C dX1_layCell_113 (fun v49 e50 => ?_)
          have k51 : (4 : Int32).toInt = 4 := by omega
          have v49' := imul_ok e50 (by rw [k51]; omega) (by rw [k51]; omega)
          rw [k51] at v49'
          refine r_iconst (v := 3) C dX1_layCell_114 (by decide) ?_
          refine r_iadd C dX1_layCell_115 (fun v52 e53 => ?_)
          have v52' := iadd_ok e53 (by omega) (by omega)
          refine r_iload_n 2 C dX1_layCell_116 rfl ?_
          refine r_if_le 126 C dX1_layCell_117 (by decide) (fun c54 => ?_) (fun c54 => ?_)
          · have c54' := i_le c54
            refine r_iconst (v := (-1)) C dX1_layCell_126 (by decide) ?_
            refine r_iast C (kS sC h47 kc_24) (vin (by omega) (by omega)) dX1_layCell_127 (fun w55 e56 => ?_)
            have h57 := Ch.putS h47 e56 (by decide)
            have o58 := Inv.put0 o48 e56 (by decide)
            exact hret _ _ _ dX1_layCell_128 ⟨h57, o58⟩
          · have c54' := i_nle c54
            refine r_iload_n 0 C dX1_layCell_120 rfl ?_
            refine r_iconst (v := 1) C dX1_layCell_121 (by decide) ?_
            refine r_isub C dX1_layCell_122 (fun v59 e60 => ?_)
            have v59' := isub_ok e60 (by omega) (by omega)
            refine r_goto 127 C dX1_layCell_123 (by decide) ?_
            refine r_iast C (kS sC h47 kc_24) (vin (by omega) (by omega)) dX1_layCell_127 (fun w61 e62 => ?_)
            have h63 := Ch.putS h47 e62 (by decide)
            have o64 := Inv.put0 o48 e62 (by decide)
            exact hret _ _ _ dX1_layCell_128 ⟨h63, o64⟩
        · have c44' := i_nle c44
          refine r_iload_n 0 C dX1_layCell_96 rfl ?_
          refine r_aload_n 1 C dX1_layCell_97 rfl ?_
          refine gfX1_37 (v := (wI w 21 2)) C (kS sC h34 kc_21) (g_nn e33 (by decide) (g_nn e21 (by decide) (g_nn e13 (by decide) rfl))) dX1_layCell_98 ?_
          refine r_iadd C dX1_layCell_101 (fun v65 e66 => ?_)
          have v65' := iadd_ok e66 (by omega) (by omega)
          refine r_goto 106 C dX1_layCell_102 (by decide) ?_
          refine r_iast C (kS sC h34 kc_24) (vin (by omega) (by omega)) dX1_layCell_106 (fun w67 e68 => ?_)
          have h69 := Ch.putS h34 e68 (by decide)
          have o70 := Inv.put0 o35 e68 (by decide)
          refine r_aload_n 1 C dX1_layCell_107 rfl ?_
          refine gfX1_18 24 C (kS sC h69 kc_21) (xS sC h69 xc_21_5) dX1_layCell_108 ?_
          refine r_iload_n 0 C dX1_layCell_111 rfl ?_
          refine r_iconst (v := 4) C dX1_layCell_112 (by decide) ?_
          refine r_imul C dX1_layCell_113 (fun v71 e72 => ?_)
          have k73 : (4 : Int32).toInt = 4 := by omega
          have v71' := imul_ok e72 (by rw [k73]; omega) (by rw [k73]; omega)
          rw [k73] at v71'
          refine r_iconst (v := 3) C dX1_layCell_114 (by decide) ?_
          refine r_iadd C dX1_layCell_115 (fun v74 e75 => ?_)
          have v74' := iadd_ok e75 (by omega) (by omega)
          refine r_iload_n 2 C dX1_layCell_116 rfl ?_
          refine r_if_le 126 C dX1_layCell_117 (by decide) (fun c76 => ?_) (fun c76 => ?_)
          · have c76' := i_le c76
            refine r_iconst (v := (-1)) C dX1_layCell_126 (by decide) ?_
            refine r_iast C (kS sC h69 kc_24) (vin (by omega) (by omega)) dX1_layCell_127 (fun w77 e78 => ?_)
            have h79 := Ch.putS h69 e78 (by decide)
            have o80 := Inv.put0 o70 e78 (by decide)
            exact hret _ _ _ dX1_layCell_128 ⟨h79, o80⟩
          · have c76' := i_nle c76
            refine r_iload_n 0 C dX1_layCell_120 rfl ?_
            refine r_iconst (v := 1) C dX1_layCell_121 (by decide) ?_
            refine r_isub C dX1_layCell_122 (fun v81 e82 => ?_)
            have v81' := isub_ok e82 (by omega) (by omega)
            refine r_goto 127 C dX1_layCell_123 (by decide) ?_
            refine r_iast C (kS sC h69 kc_24) (vin (by omega) (by omega)) dX1_layCell_127 (fun w83 e84 => ?_)
            have h85 := Ch.putS h69 e84 (by decide)
            have o86 := Inv.put0 o70 e84 (by decide)
            exact hret _ _ _ dX1_layCell_128 ⟨h85, o86⟩
      · have c31' := i_nle c31
        refine r_iload_n 0 C dX1_layCell_69 rfl ?_
        refine r_iconst (v := 1) C dX1_layCell_70 (by decide) ?_
        refine r_iadd C dX1_layCell_71 (fun v87 e88 => ?_)
        have v87' := iadd_ok e88 (by omega) (by omega)
        refine r_goto 76 C dX1_layCell_72 (by decide) ?_
        refine r_iast C (kS sC h22 kc_24) (vin (by omega) (by omega)) dX1_layCell_76 (fun w89 e90 => ?_)
        have h91 := Ch.putS h22 e90 (by decide)
        have o92 := Inv.put0 o23 e90 (by decide)
        refine r_aload_n 1 C dX1_layCell_77 rfl ?_
        refine gfX1_18 24 C (kS sC h91 kc_21) (xS sC h91 xc_21_5) dX1_layCell_78 ?_
        refine r_iload_n 0 C dX1_layCell_81 rfl ?_
        refine r_iconst (v := 4) C dX1_layCell_82 (by decide) ?_
        refine r_imul C dX1_layCell_83 (fun v93 e94 => ?_)
        have k95 : (4 : Int32).toInt = 4 := by omega
        have v93' := imul_ok e94 (by rw [k95]; omega) (by rw [k95]; omega)
        rw [k95] at v93'
        refine r_iconst (v := 2) C dX1_layCell_84 (by decide) ?_
        refine r_iadd C dX1_layCell_85 (fun v96 e97 => ?_)
        have v96' := iadd_ok e97 (by omega) (by omega)
        refine r_iload_n 3 C dX1_layCell_86 rfl ?_
        refine r_aload_n 1 C dX1_layCell_87 rfl ?_
        refine gfX1_41 (v := (wI w 21 3)) C (kS sC h91 kc_21) (g_nn e90 (by decide) (g_nn e21 (by decide) (g_nn e13 (by decide) rfl))) dX1_layCell_88 ?_
        have b98 := Inv.get o0 rt_21_3 (j := 3) (by decide) (by decide)
        refine r_iconst (v := 1) C dX1_layCell_91 (by decide) ?_
        refine r_isub C dX1_layCell_92 (fun v99 e100 => ?_)
        have v99' := isub_ok e100 (by omega) (by omega)
        refine r_icmp_ge 105 C dX1_layCell_93 (by decide) (fun c101 => ?_) (fun c101 => ?_)
        · have c101' := i_le c101
          refine r_iconst (v := (-1)) C dX1_layCell_105 (by decide) ?_
          refine r_iast C (kS sC h91 kc_24) (vin (by omega) (by omega)) dX1_layCell_106 (fun w102 e103 => ?_)
          have h104 := Ch.putS h91 e103 (by decide)
          have o105 := Inv.put0 o92 e103 (by decide)
          refine r_aload_n 1 C dX1_layCell_107 rfl ?_
          refine gfX1_18 24 C (kS sC h104 kc_21) (xS sC h104 xc_21_5) dX1_layCell_108 ?_
          refine r_iload_n 0 C dX1_layCell_111 rfl ?_
          refine r_iconst (v := 4) C dX1_layCell_112 (by decide) ?_
          refine r_imul C dX1_layCell_113 (fun v106 e107 => ?_)
          have k108 : (4 : Int32).toInt = 4 := by omega
          have v106' := imul_ok e107 (by rw [k108]; omega) (by rw [k108]; omega)
          rw [k108] at v106'
          refine r_iconst (v := 3) C dX1_layCell_114 (by decide) ?_
          refine r_iadd C dX1_layCell_115 (fun v109 e110 => ?_)
          have v109' := iadd_ok e110 (by omega) (by omega)
          refine r_iload_n 2 C dX1_layCell_116 rfl ?_
          refine r_if_le 126 C dX1_layCell_117 (by decide) (fun c111 => ?_) (fun c111 => ?_)
          · have c111' := i_le c111
            refine r_iconst (v := (-1)) C dX1_layCell_126 (by decide) ?_
            refine r_iast C (kS sC h104 kc_24) (vin (by omega) (by omega)) dX1_layCell_127 (fun w112 e113 => ?_)
            have h114 := Ch.putS h104 e113 (by decide)
            have o115 := Inv.put0 o105 e113 (by decide)
            exact hret _ _ _ dX1_layCell_128 ⟨h114, o115⟩
          · have c111' := i_nle c111
            refine r_iload_n 0 C dX1_layCell_120 rfl ?_
            refine r_iconst (v := 1) C dX1_layCell_121 (by decide) ?_
            refine r_isub C dX1_layCell_122 (fun v116 e117 => ?_)
            have v116' := isub_ok e117 (by omega) (by omega)
            refine r_goto 127 C dX1_layCell_123 (by decide) ?_
            refine r_iast C (kS sC h104 kc_24) (vin (by omega) (by omega)) dX1_layCell_127 (fun w118 e119 => ?_)
            have h120 := Ch.putS h104 e119 (by decide)
            have o121 := Inv.put0 o105 e119 (by decide)
            exact hret _ _ _ dX1_layCell_128 ⟨h120, o121⟩
        · have c101' := i_nle c101
          refine r_iload_n 0 C dX1_layCell_96 rfl ?_
          refine r_aload_n 1 C dX1_layCell_97 rfl ?_
          refine gfX1_37 (v := (wI w 21 2)) C (kS sC h91 kc_21) (g_nn e90 (by decide) (g_nn e21 (by decide) (g_nn e13 (by decide) rfl))) dX1_layCell_98 ?_
          refine r_iadd C dX1_layCell_101 (fun v122 e123 => ?_)
          have v122' := iadd_ok e123 (by omega) (by omega)
          refine r_goto 106 C dX1_layCell_102 (by decide) ?_
          refine r_iast C (kS sC h91 kc_24) (vin (by omega) (by omega)) dX1_layCell_106 (fun w124 e125 => ?_)
          have h126 := Ch.putS h91 e125 (by decide)
          have o127 := Inv.put0 o92 e125 (by decide)
          refine r_aload_n 1 C dX1_layCell_107 rfl ?_
          refine gfX1_18 24 C (kS sC h126 kc_21) (xS sC h126 xc_21_5) dX1_layCell_108 ?_
          refine r_iload_n 0 C dX1_layCell_111 rfl ?_
          refine r_iconst (v := 4) C dX1_layCell_112 (by decide) ?_
          refine r_imul C dX1_layCell_113 (fun v128 e129 => ?_)
          have k130 : (4 : Int32).toInt = 4 := by omega
          have v128' := imul_ok e129 (by rw [k130]; omega) (by rw [k130]; omega)
          rw [k130] at v128'
          refine r_iconst (v := 3) C dX1_layCell_114 (by decide) ?_
          refine r_iadd C dX1_layCell_115 (fun v131 e132 => ?_)
          have v131' := iadd_ok e132 (by omega) (by omega)
          refine r_iload_n 2 C dX1_layCell_116 rfl ?_
          refine r_if_le 126 C dX1_layCell_117 (by decide) (fun c133 => ?_) (fun c133 => ?_)
          · have c133' := i_le c133
            refine r_iconst (v := (-1)) C dX1_layCell_126 (by decide) ?_
            refine r_iast C (kS sC h126 kc_24) (vin (by omega) (by omega)) dX1_layCell_127 (fun w134 e135 => ?_)
            have h136 := Ch.putS h126 e135 (by decide)
            have o137 := Inv.put0 o127 e135 (by decide)
            exact hret _ _ _ dX1_layCell_128 ⟨h136, o137⟩
          · have c133' := i_nle c133
            refine r_iload_n 0 C dX1_layCell_120 rfl ?_
            refine r_iconst (v := 1) C dX1_layCell_121 (by decide) ?_
            refine r_isub C dX1_layCell_122 (fun v138 e139 => ?_)
            have v138' := isub_ok e139 (by omega) (by omega)
            refine r_goto 127 C dX1_layCell_123 (by decide) ?_
            refine r_iast C (kS sC h126 kc_24) (vin (by omega) (by omega)) dX1_layCell_127 (fun w140 e141 => ?_)
            have h142 := Ch.putS h126 e141 (by decide)
            have o143 := Inv.put0 o127 e141 (by decide)
            exact hret _ _ _ dX1_layCell_128 ⟨h142, o143⟩
    · have c19' := i_nle c19
      refine r_iload_n 0 C dX1_layCell_39 rfl ?_
      refine r_aload_n 1 C dX1_layCell_40 rfl ?_
      refine gfX1_37 (v := (wI w 21 2)) C (kS sC h14 kc_21) (g_nn e13 (by decide) rfl) dX1_layCell_41 ?_
      refine r_isub C dX1_layCell_44 (fun v144 e145 => ?_)
      have v144' := isub_ok e145 (by omega) (by omega)
      refine r_goto 49 C dX1_layCell_45 (by decide) ?_
      refine r_iast C (kS sC h14 kc_24) (vin (by omega) (by omega)) dX1_layCell_49 (fun w146 e147 => ?_)
      have h148 := Ch.putS h14 e147 (by decide)
      have o149 := Inv.put0 o15 e147 (by decide)
      refine r_aload_n 1 C dX1_layCell_50 rfl ?_
      refine gfX1_18 24 C (kS sC h148 kc_21) (xS sC h148 xc_21_5) dX1_layCell_51 ?_
      refine r_iload_n 0 C dX1_layCell_54 rfl ?_
      refine r_iconst (v := 4) C dX1_layCell_55 (by decide) ?_
      refine r_imul C dX1_layCell_56 (fun v150 e151 => ?_)
      have k152 : (4 : Int32).toInt = 4 := by omega
      have v150' := imul_ok e151 (by rw [k152]; omega) (by rw [k152]; omega)
      rw [k152] at v150'
      refine r_iconst (v := 1) C dX1_layCell_57 (by decide) ?_
      refine r_iadd C dX1_layCell_58 (fun v153 e154 => ?_)
      have v153' := iadd_ok e154 (by omega) (by omega)
      refine r_iload_n 2 C dX1_layCell_59 rfl ?_
      refine r_aload_n 1 C dX1_layCell_60 rfl ?_
      refine gfX1_37 (v := (wI w 21 2)) C (kS sC h148 kc_21) (g_nn e147 (by decide) (g_nn e13 (by decide) rfl)) dX1_layCell_61 ?_
      refine r_iconst (v := 1) C dX1_layCell_64 (by decide) ?_
      refine r_isub C dX1_layCell_65 (fun v155 e156 => ?_)
      have v155' := isub_ok e156 (by omega) (by omega)
      refine r_icmp_ge 75 C dX1_layCell_66 (by decide) (fun c157 => ?_) (fun c157 => ?_)
      · have c157' := i_le c157
        refine r_iconst (v := (-1)) C dX1_layCell_75 (by decide) ?_
        refine r_iast C (kS sC h148 kc_24) (vin (by omega) (by omega)) dX1_layCell_76 (fun w158 e159 => ?_)
        have h160 := Ch.putS h148 e159 (by decide)
        have o161 := Inv.put0 o149 e159 (by decide)
        refine r_aload_n 1 C dX1_layCell_77 rfl ?_
        refine gfX1_18 24 C (kS sC h160 kc_21) (xS sC h160 xc_21_5) dX1_layCell_78 ?_
        refine r_iload_n 0 C dX1_layCell_81 rfl ?_
        refine r_iconst (v := 4) C dX1_layCell_82 (by decide) ?_
        refine r_imul C dX1_layCell_83 (fun v162 e163 => ?_)
        have k164 : (4 : Int32).toInt = 4 := by omega
        have v162' := imul_ok e163 (by rw [k164]; omega) (by rw [k164]; omega)
        rw [k164] at v162'
        refine r_iconst (v := 2) C dX1_layCell_84 (by decide) ?_
        refine r_iadd C dX1_layCell_85 (fun v165 e166 => ?_)
        have v165' := iadd_ok e166 (by omega) (by omega)
        refine r_iload_n 3 C dX1_layCell_86 rfl ?_
        refine r_aload_n 1 C dX1_layCell_87 rfl ?_
        refine gfX1_41 (v := (wI w 21 3)) C (kS sC h160 kc_21) (g_nn e159 (by decide) (g_nn e147 (by decide) (g_nn e13 (by decide) rfl))) dX1_layCell_88 ?_
        have b167 := Inv.get o0 rt_21_3 (j := 3) (by decide) (by decide)
        refine r_iconst (v := 1) C dX1_layCell_91 (by decide) ?_
        refine r_isub C dX1_layCell_92 (fun v168 e169 => ?_)
        have v168' := isub_ok e169 (by omega) (by omega)
        refine r_icmp_ge 105 C dX1_layCell_93 (by decide) (fun c170 => ?_) (fun c170 => ?_)
        · have c170' := i_le c170
          refine r_iconst (v := (-1)) C dX1_layCell_105 (by decide) ?_
          refine r_iast C (kS sC h160 kc_24) (vin (by omega) (by omega)) dX1_layCell_106 (fun w171 e172 => ?_)
          have h173 := Ch.putS h160 e172 (by decide)
          have o174 := Inv.put0 o161 e172 (by decide)
          refine r_aload_n 1 C dX1_layCell_107 rfl ?_
          refine gfX1_18 24 C (kS sC h173 kc_21) (xS sC h173 xc_21_5) dX1_layCell_108 ?_
          refine r_iload_n 0 C dX1_layCell_111 rfl ?_
          refine r_iconst (v := 4) C dX1_layCell_112 (by decide) ?_
          refine r_imul C dX1_layCell_113 (fun v175 e176 => ?_)
          have k177 : (4 : Int32).toInt = 4 := by omega
          have v175' := imul_ok e176 (by rw [k177]; omega) (by rw [k177]; omega)
          rw [k177] at v175'
          refine r_iconst (v := 3) C dX1_layCell_114 (by decide) ?_
          refine r_iadd C dX1_layCell_115 (fun v178 e179 => ?_)
          have v178' := iadd_ok e179 (by omega) (by omega)
          refine r_iload_n 2 C dX1_layCell_116 rfl ?_
          refine r_if_le 126 C dX1_layCell_117 (by decide) (fun c180 => ?_) (fun c180 => ?_)
          · have c180' := i_le c180
            refine r_iconst (v := (-1)) C dX1_layCell_126 (by decide) ?_
            refine r_iast C (kS sC h173 kc_24) (vin (by omega) (by omega)) dX1_layCell_127 (fun w181 e182 => ?_)
            have h183 := Ch.putS h173 e182 (by decide)
            have o184 := Inv.put0 o174 e182 (by decide)
            exact hret _ _ _ dX1_layCell_128 ⟨h183, o184⟩
          · have c180' := i_nle c180
            refine r_iload_n 0 C dX1_layCell_120 rfl ?_
            refine r_iconst (v := 1) C dX1_layCell_121 (by decide) ?_
            refine r_isub C dX1_layCell_122 (fun v185 e186 => ?_)
            have v185' := isub_ok e186 (by omega) (by omega)
            refine r_goto 127 C dX1_layCell_123 (by decide) ?_
            refine r_iast C (kS sC h173 kc_24) (vin (by omega) (by omega)) dX1_layCell_127 (fun w187 e188 => ?_)
            have h189 := Ch.putS h173 e188 (by decide)
            have o190 := Inv.put0 o174 e188 (by decide)
            exact hret _ _ _ dX1_layCell_128 ⟨h189, o190⟩
        · have c170' := i_nle c170
          refine r_iload_n 0 C dX1_layCell_96 rfl ?_
          refine r_aload_n 1 C dX1_layCell_97 rfl ?_
          refine gfX1_37 (v := (wI w 21 2)) C (kS sC h160 kc_21) (g_nn e159 (by decide) (g_nn e147 (by decide) (g_nn e13 (by decide) rfl))) dX1_layCell_98 ?_
          refine r_iadd C dX1_layCell_101 (fun v191 e192 => ?_)
          have v191' := iadd_ok e192 (by omega) (by omega)
          refine r_goto 106 C dX1_layCell_102 (by decide) ?_
          refine r_iast C (kS sC h160 kc_24) (vin (by omega) (by omega)) dX1_layCell_106 (fun w193 e194 => ?_)
          have h195 := Ch.putS h160 e194 (by decide)
          have o196 := Inv.put0 o161 e194 (by decide)
          refine r_aload_n 1 C dX1_layCell_107 rfl ?_
          refine gfX1_18 24 C (kS sC h195 kc_21) (xS sC h195 xc_21_5) dX1_layCell_108 ?_
          refine r_iload_n 0 C dX1_layCell_111 rfl ?_
          refine r_iconst (v := 4) C dX1_layCell_112 (by decide) ?_
          refine r_imul C dX1_layCell_113 (fun v197 e198 => ?_)
          have k199 : (4 : Int32).toInt = 4 := by omega
          have v197' := imul_ok e198 (by rw [k199]; omega) (by rw [k199]; omega)
          rw [k199] at v197'
          refine r_iconst (v := 3) C dX1_layCell_114 (by decide) ?_
          refine r_iadd C dX1_layCell_115 (fun v200 e201 => ?_)
          have v200' := iadd_ok e201 (by omega) (by omega)
          refine r_iload_n 2 C dX1_layCell_116 rfl ?_
          refine r_if_le 126 C dX1_layCell_117 (by decide) (fun c202 => ?_) (fun c202 => ?_)
          · have c202' := i_le c202
            refine r_iconst (v := (-1)) C dX1_layCell_126 (by decide) ?_
            refine r_iast C (kS sC h195 kc_24) (vin (by omega) (by omega)) dX1_layCell_127 (fun w203 e204 => ?_)
            have h205 := Ch.putS h195 e204 (by decide)
            have o206 := Inv.put0 o196 e204 (by decide)
            exact hret _ _ _ dX1_layCell_128 ⟨h205, o206⟩
          · have c202' := i_nle c202
            refine r_iload_n 0 C dX1_layCell_120 rfl ?_
            refine r_iconst (v := 1) C dX1_layCell_121 (by decide) ?_
            refine r_isub C dX1_layCell_122 (fun v207 e208 => ?_)
            have v207' := isub_ok e208 (by omega) (by omega)
            refine r_goto 127 C dX1_layCell_123 (by decide) ?_
            refine r_iast C (kS sC h195 kc_24) (vin (by omega) (by omega)) dX1_layCell_127 (fun w209 e210 => ?_)
            have h211 := Ch.putS h195 e210 (by decide)
            have o212 := Inv.put0 o196 e210 (by decide)
            exact hret _ _ _ dX1_layCell_128 ⟨h211, o212⟩
      · have c157' := i_nle c157
        refine r_iload_n 0 C dX1_layCell_69 rfl ?_
        refine r_iconst (v := 1) C dX1_layCell_70 (by decide) ?_
        refine r_iadd C dX1_layCell_71 (fun v213 e214 => ?_)
        have v213' := iadd_ok e214 (by omega) (by omega)
        refine r_goto 76 C dX1_layCell_72 (by decide) ?_
        refine r_iast C (kS sC h148 kc_24) (vin (by omega) (by omega)) dX1_layCell_76 (fun w215 e216 => ?_)
        have h217 := Ch.putS h148 e216 (by decide)
        have o218 := Inv.put0 o149 e216 (by decide)
        refine r_aload_n 1 C dX1_layCell_77 rfl ?_
        refine gfX1_18 24 C (kS sC h217 kc_21) (xS sC h217 xc_21_5) dX1_layCell_78 ?_
        refine r_iload_n 0 C dX1_layCell_81 rfl ?_
        refine r_iconst (v := 4) C dX1_layCell_82 (by decide) ?_
        refine r_imul C dX1_layCell_83 (fun v219 e220 => ?_)
        have k221 : (4 : Int32).toInt = 4 := by omega
        have v219' := imul_ok e220 (by rw [k221]; omega) (by rw [k221]; omega)
        rw [k221] at v219'
        refine r_iconst (v := 2) C dX1_layCell_84 (by decide) ?_
        refine r_iadd C dX1_layCell_85 (fun v222 e223 => ?_)
        have v222' := iadd_ok e223 (by omega) (by omega)
        refine r_iload_n 3 C dX1_layCell_86 rfl ?_
        refine r_aload_n 1 C dX1_layCell_87 rfl ?_
        refine gfX1_41 (v := (wI w 21 3)) C (kS sC h217 kc_21) (g_nn e216 (by decide) (g_nn e147 (by decide) (g_nn e13 (by decide) rfl))) dX1_layCell_88 ?_
        have b224 := Inv.get o0 rt_21_3 (j := 3) (by decide) (by decide)
        refine r_iconst (v := 1) C dX1_layCell_91 (by decide) ?_
        refine r_isub C dX1_layCell_92 (fun v225 e226 => ?_)
        have v225' := isub_ok e226 (by omega) (by omega)
        refine r_icmp_ge 105 C dX1_layCell_93 (by decide) (fun c227 => ?_) (fun c227 => ?_)
        · have c227' := i_le c227
          refine r_iconst (v := (-1)) C dX1_layCell_105 (by decide) ?_
          refine r_iast C (kS sC h217 kc_24) (vin (by omega) (by omega)) dX1_layCell_106 (fun w228 e229 => ?_)
          have h230 := Ch.putS h217 e229 (by decide)
          have o231 := Inv.put0 o218 e229 (by decide)
          refine r_aload_n 1 C dX1_layCell_107 rfl ?_
          refine gfX1_18 24 C (kS sC h230 kc_21) (xS sC h230 xc_21_5) dX1_layCell_108 ?_
          refine r_iload_n 0 C dX1_layCell_111 rfl ?_
          refine r_iconst (v := 4) C dX1_layCell_112 (by decide) ?_
          refine r_imul C dX1_layCell_113 (fun v232 e233 => ?_)
          have k234 : (4 : Int32).toInt = 4 := by omega
          have v232' := imul_ok e233 (by rw [k234]; omega) (by rw [k234]; omega)
          rw [k234] at v232'
          refine r_iconst (v := 3) C dX1_layCell_114 (by decide) ?_
          refine r_iadd C dX1_layCell_115 (fun v235 e236 => ?_)
          have v235' := iadd_ok e236 (by omega) (by omega)
          refine r_iload_n 2 C dX1_layCell_116 rfl ?_
          refine r_if_le 126 C dX1_layCell_117 (by decide) (fun c237 => ?_) (fun c237 => ?_)
          · have c237' := i_le c237
            refine r_iconst (v := (-1)) C dX1_layCell_126 (by decide) ?_
            refine r_iast C (kS sC h230 kc_24) (vin (by omega) (by omega)) dX1_layCell_127 (fun w238 e239 => ?_)
            have h240 := Ch.putS h230 e239 (by decide)
            have o241 := Inv.put0 o231 e239 (by decide)
            exact hret _ _ _ dX1_layCell_128 ⟨h240, o241⟩
          · have c237' := i_nle c237
            refine r_iload_n 0 C dX1_layCell_120 rfl ?_
            refine r_iconst (v := 1) C dX1_layCell_121 (by decide) ?_
            refine r_isub C dX1_layCell_122 (fun v242 e243 => ?_)
            have v242' := isub_ok e243 (by omega) (by omega)
            refine r_goto 127 C dX1_layCell_123 (by decide) ?_
            refine r_iast C (kS sC h230 kc_24) (vin (by omega) (by omega)) dX1_layCell_127 (fun w244 e245 => ?_)
            have h246 := Ch.putS h230 e245 (by decide)
            have o247 := Inv.put0 o231 e245 (by decide)
            exact hret _ _ _ dX1_layCell_128 ⟨h246, o247⟩
        · have c227' := i_nle c227
          refine r_iload_n 0 C dX1_layCell_96 rfl ?_
          refine r_aload_n 1 C dX1_layCell_97 rfl ?_
          refine gfX1_37 (v := (wI w 21 2)) C (kS sC h217 kc_21) (g_nn e216 (by decide) (g_nn e147 (by decide) (g_nn e13 (by decide) rfl))) dX1_layCell_98 ?_
          refine r_iadd C dX1_layCell_101 (fun v248 e249 => ?_)
          have v248' := iadd_ok e249 (by omega) (by omega)
          refine r_goto 106 C dX1_layCell_102 (by decide) ?_
          refine r_iast C (kS sC h217 kc_24) (vin (by omega) (by omega)) dX1_layCell_106 (fun w250 e251 => ?_)
          have h252 := Ch.putS h217 e251 (by decide)
          have o253 := Inv.put0 o218 e251 (by decide)
          refine r_aload_n 1 C dX1_layCell_107 rfl ?_
          refine gfX1_18 24 C (kS sC h252 kc_21) (xS sC h252 xc_21_5) dX1_layCell_108 ?_
          refine r_iload_n 0 C dX1_layCell_111 rfl ?_
          refine r_iconst (v := 4) C dX1_layCell_112 (by decide) ?_
          refine r_imul C dX1_layCell_113 (fun v254 e255 => ?_)
          have k256 : (4 : Int32).toInt = 4 := by omega
          have v254' := imul_ok e255 (by rw [k256]; omega) (by rw [k256]; omega)
          rw [k256] at v254'
          refine r_iconst (v := 3) C dX1_layCell_114 (by decide) ?_
          refine r_iadd C dX1_layCell_115 (fun v257 e258 => ?_)
          have v257' := iadd_ok e258 (by omega) (by omega)
          refine r_iload_n 2 C dX1_layCell_116 rfl ?_
          refine r_if_le 126 C dX1_layCell_117 (by decide) (fun c259 => ?_) (fun c259 => ?_)
          · have c259' := i_le c259
            refine r_iconst (v := (-1)) C dX1_layCell_126 (by decide) ?_
            refine r_iast C (kS sC h252 kc_24) (vin (by omega) (by omega)) dX1_layCell_127 (fun w260 e261 => ?_)
            have h262 := Ch.putS h252 e261 (by decide)
            have o263 := Inv.put0 o253 e261 (by decide)
            exact hret _ _ _ dX1_layCell_128 ⟨h262, o263⟩
          · have c259' := i_nle c259
            refine r_iload_n 0 C dX1_layCell_120 rfl ?_
            refine r_iconst (v := 1) C dX1_layCell_121 (by decide) ?_
            refine r_isub C dX1_layCell_122 (fun v264 e265 => ?_)
            have v264' := isub_ok e265 (by omega) (by omega)
            refine r_goto 127 C dX1_layCell_123 (by decide) ?_
            refine r_iast C (kS sC h252 kc_24) (vin (by omega) (by omega)) dX1_layCell_127 (fun w266 e267 => ?_)
            have h268 := Ch.putS h252 e267 (by decide)
            have o269 := Inv.put0 o253 e267 (by decide)
            exact hret _ _ _ dX1_layCell_128 ⟨h268, o269⟩
  · have c6' := i_nlt c6
    exact hret _ _ _ dX1_layCell_15 ⟨h0, o0⟩
set_option maxHeartbeats 4000000 in
set_option maxRecDepth 100000 in
theorem ctX1_lay_21_3 (l : Launch) (G : Gt) (w : Wv) (sC : Str KC XC w) (o0 : Inv RC w)  : CtV l G yX1_lay cX1_lay 4 ({ frames := 2, cells := 0, slots := 0, locals := 43 } : Room) [.ref (gz G + 21), .ref (gz G + 3)] w (fun w' => Ch [22, 23, 24, 26] [(21, 0), (21, 2), (21, 3)] w w' ∧ Inv RC w') := by
  refine enterV (by decide) (Nat.le_of_ble_eq_true rfl) ?_
  intro x el eG C hnm hret
  subst el; subst eG
  show V x 0 0 w 0 [(0, .ref (gz (xG x) + 21)), (1, .ref (gz (xG x) + 3))] []
  have h0 : Ch [22, 23, 24, 26] [(21, 0), (21, 2), (21, 3)] w w := Ch.rf
  have q0 : (0 : Int32).toInt = 0 := by decide
  have q42 : (42 : Int32).toInt = 42 := by decide
  have LP20 : ∀ (f21 : Nat) (u19 : Int32) (w22 : Wv), Ch [22, 23, 24, 26] [(21, 0), (21, 2), (21, 3)] w w22 → Inv RC w22 → (0 ≤ u19.toInt ∧ u19.toInt ≤ 2147483647) → 2147483647 - u19.toInt < f21 → V x 0 0 w22 36 [(0, .ref (gz (xG x) + 21)), (1, .ref (gz (xG x) + 3)), (2, .int u19)] [] := by
    intro f21
    induction f21 with
    | zero => intro u19 w22 h23 o24 z25 z26; exfalso; omega
    | succ f21 ih27 =>
      intro u19 w22 h23 o24 z25 z26
      have LP38 : ∀ (f39 : Nat) (u37 : Int32) (w40 : Wv), Ch [22, 23, 24, 26] [(21, 0), (21, 2), (21, 3)] w w40 → Inv RC w40 → (0 ≤ u37.toInt ∧ u37.toInt ≤ 2147483647) → (0 ≤ u19.toInt ∧ u19.toInt ≤ 8) → 2147483647 - u37.toInt < f39 → V x 0 0 w40 46 [(0, .ref (gz (xG x) + 21)), (1, .ref (gz (xG x) + 3)), (2, .int u19), (3, .int u37)] [] := by
        intro f39
        induction f39 with
        | zero => intro u37 w40 h41 o42 z43 z44 z45; exfalso; omega
        | succ f39 ih46 =>
          intro u37 w40 h41 o42 z43 z44 z45
          refine r_iload_n 3 C dX1_lay_46 rfl ?_
          refine r_aload_n 0 C dX1_lay_47 rfl ?_
          refine gfX1_37 (v := (wI w40 21 2)) C (kS sC h41 kc_21) rfl dX1_lay_48 ?_
          have b47 := Inv.get o42 rt_21_2 (j := 2) (by decide) (by decide)
          have k49 := i_rng u37
          refine r_icmp_ge 66 C dX1_lay_51 (by decide) (fun c48 => ?_) (fun c48 => ?_)
          · have c48' := i_le c48
            obtain ⟨i50, e51⟩ : ∃ z : Int32, u19 + Int32.ofInt 1 = z := ⟨_, rfl⟩
            have i50' := iinc_ok e51 (by decide) (by omega) (by omega)
            refine r_iinc [(2, .int i50), (0, .ref (gz (xG x) + 21)), (1, .ref (gz (xG x) + 3)), (3, .int u37)] 2 C dX1_lay_66 rfl e51 (by decide) rfl ?_
            refine r_goto 36 C dX1_lay_69 (by decide) ?_
            refine r_lv [1, 2, 0] rfl ?_
            exact ih27 i50 w40 h41 o42 (by omega) (by omega)
          · have c48' := i_nle c48
            refine r_aload_n 0 C dX1_lay_54 rfl ?_
            refine r_iload_n 3 C dX1_lay_55 rfl ?_
            refine r_iload_n 2 C dX1_lay_56 rfl ?_
            refine callVV C cwX1_51_V (ctX1_layCell_21 _ _ w40 (sS sC h41) o42 u37 u19 (by omega) (by omega)) (by decide) (kS sC h41 kc_21) rfl rfl rfl (Nat.le_of_ble_eq_true rfl) (by decide) dX1_lay_57 (fun w53 y52 => ?_)
            show V x 0 0 w53 60 [(0, .ref (gz (xG x) + 21)), (1, .ref (gz (xG x) + 3)), (2, .int u19), (3, .int u37)] []
            obtain ⟨h55, o56⟩ := y52
            have h57 := Ch.tr h41 h55 (by decide) (by decide)
            obtain ⟨i58, e59⟩ : ∃ z : Int32, u37 + Int32.ofInt 1 = z := ⟨_, rfl⟩
            have i58' := iinc_ok e59 (by decide) (by omega) (by omega)
            refine r_iinc [(3, .int i58), (0, .ref (gz (xG x) + 21)), (1, .ref (gz (xG x) + 3)), (2, .int u19)] 3 C dX1_lay_60 rfl e59 (by decide) rfl ?_
            refine r_goto 46 C dX1_lay_63 (by decide) ?_
            refine r_lv [1, 2, 3, 0] rfl ?_
            exact ih46 i58 w53 h57 o56 (by omega) (by omega) (by omega)
      refine r_iload_n 2 C dX1_lay_36 rfl ?_
      refine r_aload_n 0 C dX1_lay_37 rfl ?_
      refine gfX1_41 (v := (wI w22 21 3)) C (kS sC h23 kc_21) rfl dX1_lay_38 ?_
      have b28 := Inv.get o24 rt_21_3 (j := 3) (by decide) (by decide)
      have k30 := i_rng u19
      refine r_icmp_ge 72 C dX1_lay_41 (by decide) (fun c29 => ?_) (fun c29 => ?_)
      · have c29' := i_le c29
        refine r_aload_n 0 C dX1_lay_72 rfl ?_
        refine r_aload_n 1 C dX1_lay_73 rfl ?_
        refine gfX1_55 4 C (kS sC h23 kc_3) (xS sC h23 xc_3_9) dX1_lay_74 ?_
        refine callVV C cwX1_58_V (ctX1_takeWhats_21_4 _ _ w22 (sS sC h23) o24  ) (by decide) (kS sC h23 kc_21) rfl rfl rfl (Nat.le_of_ble_eq_true rfl) (by decide) dX1_lay_77 (fun w32 y31 => ?_)
        show V x 0 0 w32 80 [(0, .ref (gz (xG x) + 21)), (1, .ref (gz (xG x) + 3)), (2, .int u19)] []
        obtain ⟨h34, o35⟩ := y31
        have h36 := Ch.tr h23 h34 (by decide) (by decide)
        exact hret _ _ _ dX1_lay_80 ⟨h36, o35⟩
      · have c29' := i_nle c29
        refine r_iconst (v := 0) C dX1_lay_44 (by decide) ?_
        refine r_istore_n [(3, .int 0), (0, .ref (gz (xG x) + 21)), (1, .ref (gz (xG x) + 3)), (2, .int u19)] C dX1_lay_45 (by decide) rfl ?_
        refine r_lv [1, 2, 3, 0] rfl ?_
        exact LP38 4294967296 0 w22 h23 o24 (by omega) (by omega) (by omega)
  refine r_aload_n 0 C dX1_lay_0 rfl ?_
  refine r_aload_n 1 C dX1_lay_1 rfl ?_
  refine gfX1_31 (v := (wI w 3 0)) C (kS sC h0 kc_3) rfl dX1_lay_2 ?_
  have b1 := Inv.get o0 rt_3_0 (j := 0) (by decide) (by decide)
  refine pfX1_37 C (kS sC h0 kc_21) dX1_lay_5 (fun w2 e3 => ?_)
  have h4 := Ch.putF h0 e3 (by decide)
  have o5 := Inv.put o0 e3 0 9 (by omega) (by decide)
  refine r_aload_n 0 C dX1_lay_8 rfl ?_
  refine r_aload_n 1 C dX1_lay_9 rfl ?_
  refine gfX1_38 (v := (wI w 3 1)) C (kS sC h4 kc_3) (g_nn e3 (by decide) rfl) dX1_lay_10 ?_
  have b6 := Inv.get o0 rt_3_1 (j := 1) (by decide) (by decide)
  refine pfX1_41 C (kS sC h4 kc_21) dX1_lay_13 (fun w7 e8 => ?_)
  have h9 := Ch.putF h4 e8 (by decide)
  have o10 := Inv.put o5 e8 0 9 (by omega) (by decide)
  refine r_aload_n 0 C dX1_lay_16 rfl ?_
  refine r_aload_n 0 C dX1_lay_17 rfl ?_
  refine gfX1_37 (v := (wI w 3 0)) C (kS sC h9 kc_21) (g_nk e8 (by decide) (g_eq e3)) dX1_lay_18 ?_
  refine r_aload_n 0 C dX1_lay_21 rfl ?_
  refine gfX1_41 (v := (wI w 3 1)) C (kS sC h9 kc_21) (g_eq e8) dX1_lay_22 ?_
  refine r_imul C dX1_lay_25 (fun v11 e12 => ?_)
  have v11' := imul_rng e12 (A := 9) (B := 9) (by omega) (by omega) (by decide)
  refine r_bipush (v := 42) C dX1_lay_26 (by decide) ?_
  refine r_mmin C mw2_153 mw2_154 mw1_12 mw2_155 (by decide) (Nat.le_of_ble_eq_true rfl) (by decide) (by decide) dX1_lay_28 (fun v13 e14 => ?_)
  have v13' := imin_ok e14
  refine pfX1_48 C (kS sC h9 kc_21) dX1_lay_31 (fun w15 e16 => ?_)
  have h17 := Ch.putF h9 e16 (by decide)
  have o18 := Inv.put o10 e16 0 42 (by omega) (by decide)
  refine r_iconst (v := 0) C dX1_lay_34 (by decide) ?_
  refine r_istore_n [(2, .int 0), (0, .ref (gz (xG x) + 21)), (1, .ref (gz (xG x) + 3))] C dX1_lay_35 (by decide) rfl ?_
  refine r_lv [1, 2, 0] rfl ?_
  exact LP20 4294967296 0 w15 h17 o18 (by omega) (by omega)
set_option maxHeartbeats 4000000 in
set_option maxRecDepth 100000 in
theorem ctX1_put_21 (l : Launch) (G : Gt) (w : Wv) (sC : Str KC XC w) (o0 : Inv RC w) (a1 : Int32) (a2 : Int32) : CtV l G yX1_put cX1_put 3 ({ frames := 1, cells := 0, slots := 0, locals := 21 } : Room) [.ref (gz G + 21), .int a1, .int a2] w (fun w' => Ch [22, 26] [] w w' ∧ Inv RC w') := by
  refine enterV (by decide) (Nat.le_of_ble_eq_true rfl) ?_
  intro x el eG C hnm hret
  subst el; subst eG
  show V x 0 0 w 0 [(0, .ref (gz (xG x) + 21)), (1, .int a1), (2, .int a2)] []
  have h0 : Ch [22, 26] [] w w := Ch.rf
  have q0 : (0 : Int32).toInt = 0 := by decide
  refine r_iload_n 1 C dX1_put_0 rfl ?_
  refine callSI C cwX1_65_S (ctX1_isCell _ _ w a1 ) (by decide) rfl rfl (Nat.le_of_ble_eq_true rfl) (by decide) dX1_put_1 (fun r3 w2 y1 => ?_)
  obtain ⟨y1, g4⟩ := y1
  obtain rfl := y1.symm
  show V x 0 0 w 4 [(0, .ref (gz (xG x) + 21)), (1, .int a1), (2, .int a2)] [.int r3]
  refine r_if_eq 18 C dX1_put_4 (by decide) (fun c5 => ?_) (fun c5 => ?_)
  · have c5' := i_eq c5
    exact hret _ _ _ dX1_put_18 ⟨h0, o0⟩
  · have c5' := i_ne c5
    refine r_aload_n 0 C dX1_put_7 rfl ?_
    refine gfX1_9 22 C (kS sC h0 kc_21) (xS sC h0 xc_21_1) dX1_put_8 ?_
    refine r_iload_n 1 C dX1_put_11 rfl ?_
    refine r_iload_n 2 C dX1_put_12 rfl ?_
    refine r_iast C (kS sC h0 kc_22) (vin (by omega) (by omega)) dX1_put_13 (fun w6 e7 => ?_)
    have h8 := Ch.putS h0 e7 (by decide)
    have o9 := Inv.put0 o0 e7 (by decide)
    refine r_aload_n 0 C dX1_put_14 rfl ?_
    refine callVV C cwX1_62_V (ctX1_forgetWays_21 _ _ w6 (sS sC h8) o9  ) (by decide) (kS sC h8 kc_21) rfl rfl rfl (Nat.le_of_ble_eq_true rfl) (by decide) dX1_put_15 (fun w11 y10 => ?_)
    show V x 0 0 w11 18 [(0, .ref (gz (xG x) + 21)), (1, .int a1), (2, .int a2)] []
    obtain ⟨h13, o14⟩ := y10
    have h15 := Ch.tr h8 h13 (by decide) (by decide)
    exact hret _ _ _ dX1_put_18 ⟨h15, o14⟩
set_option maxHeartbeats 4000000 in
set_option maxRecDepth 100000 in
theorem ctX1_findWays_21 (l : Launch) (G : Gt) (w : Wv) (sC : Str KC XC w) (o0 : Inv RC w) (a1 : Int32) (b1 : 0 ≤ a1.toInt ∧ a1.toInt ≤ 41) : CtV l G yX1_findWays cX1_findWays 9 ({ frames := 0, cells := 0, slots := 0, locals := 0 } : Room) [.ref (gz G + 21), .int a1] w (fun w' => Ch [25, 26, 27] [] w w' ∧ Inv RC w') := by
  refine enterV (by decide) (Nat.le_of_ble_eq_true rfl) ?_
  intro x el eG C hnm hret
  subst el; subst eG
  show V x 0 0 w 0 [(0, .ref (gz (xG x) + 21)), (1, .int a1)] []
  have h0 : Ch [25, 26, 27] [] w w := Ch.rf
  have qm1 : ((-1) : Int32).toInt = (-1) := by decide
  have q0 : (0 : Int32).toInt = 0 := by decide
  have q1 : (1 : Int32).toInt = 1 := by decide
  have q4 : (4 : Int32).toInt = 4 := by decide
  have q42 : (42 : Int32).toInt = 42 := by decide
  have LP6 : ∀ (f7 : Nat) (u4 : Int32) (u5 : Int32) (w8 : Wv), Ch [25, 26, 27] [] w w8 → Inv RC w8 → (0 ≤ u4.toInt ∧ u4.toInt ≤ 1722) → (0 ≤ u5.toInt ∧ u5.toInt ≤ 2147483647) → 2147483647 - u5.toInt < f7 → V x 0 0 w8 7 [(0, .ref (gz (xG x) + 21)), (1, .int a1), (2, .int u4), (3, .int u5)] [] := by
    intro f7
    induction f7 with
    | zero => intro u4 u5 w8 h9 o10 z11 z12 z13; exfalso; omega
    | succ f7 ih14 =>
      intro u4 u5 w8 h9 o10 z11 z12 z13
      have LP36 : ∀ (f37 : Nat) (u34 : Int32) (u35 : Int32) (w38 : Wv), Ch [25, 26, 27] [] w w38 → Inv RC w38 → (0 ≤ u34.toInt ∧ u34.toInt ≤ 42) → (0 ≤ u35.toInt ∧ u35.toInt ≤ 2147483647) → 2147483647 - u35.toInt < f37 → V x 0 0 w38 72 [(0, .ref (gz (xG x) + 21)), (1, .int a1), (2, .int u4), (3, .int u34), (4, .int u35)] [] := by
        intro f37
        induction f37 with
        | zero => intro u34 u35 w38 h39 o40 z41 z42 z43; exfalso; omega
        | succ f37 ih44 =>
          intro u34 u35 w38 h39 o40 z41 z42 z43
          have LP53 : ∀ (f54 : Nat) (u50 : Int32) (u51 : Int32) (u52 : Int32) (w55 : Wv), Ch [25, 26, 27] [] w w55 → Inv RC w55 → (0 ≤ u50.toInt ∧ u50.toInt ≤ 42) → (0 ≤ u51.toInt ∧ u51.toInt ≤ 41) → (0 ≤ u52.toInt ∧ u52.toInt ≤ 2147483647) → (0 ≤ u35.toInt ∧ u35.toInt ≤ 41) → 2147483647 - u52.toInt < f54 → V x 0 0 w55 97 [(0, .ref (gz (xG x) + 21)), (1, .int a1), (2, .int u4), (3, .int u50), (4, .int u35), (5, .int u51), (6, .int u52)] [] := by
            intro f54
            induction f54 with
            | zero => intro u50 u51 u52 w55 h56 o57 z58 z59 z60 z61 z62; exfalso; omega
            | succ f54 ih63 =>
              intro u50 u51 u52 w55 h56 o57 z58 z59 z60 z61 z62
              refine r_iload 6 C dX1_findWays_97 rfl ?_
              refine r_iconst (v := 4) C dX1_findWays_99 (by decide) ?_
              have k65 := i_rng u52
              refine r_icmp_ge 208 C dX1_findWays_100 (by decide) (fun c64 => ?_) (fun c64 => ?_)
              · have c64' := i_le c64
                obtain ⟨i66, e67⟩ : ∃ z : Int32, u35 + Int32.ofInt 1 = z := ⟨_, rfl⟩
                have i66' := iinc_ok e67 (by decide) (by omega) (by omega)
                refine r_iinc [(4, .int i66), (0, .ref (gz (xG x) + 21)), (1, .int a1), (2, .int u4), (3, .int u50), (5, .int u51), (6, .int u52)] 4 C dX1_findWays_208 rfl e67 (by decide) rfl ?_
                refine r_goto 72 C dX1_findWays_211 (by decide) ?_
                refine r_lv [1, 2, 3, 4, 0] rfl ?_
                exact ih44 u50 i66 w55 h56 o57 (by omega) (by omega) (by omega)
              · have c64' := i_nle c64
                refine r_aload_n 0 C dX1_findWays_103 rfl ?_
                refine gfX1_18 24 C (kS sC h56 kc_21) (xS sC h56 xc_21_5) dX1_findWays_104 ?_
                refine r_iload 5 C dX1_findWays_107 rfl ?_
                refine r_iconst (v := 4) C dX1_findWays_109 (by decide) ?_
                refine r_imul C dX1_findWays_110 (fun v68 e69 => ?_)
                have k70 : (4 : Int32).toInt = 4 := by omega
                have v68' := imul_ok e69 (by rw [k70]; omega) (by rw [k70]; omega)
                rw [k70] at v68'
                refine r_iload 6 C dX1_findWays_111 rfl ?_
                refine r_iadd C dX1_findWays_113 (fun v71 e72 => ?_)
                have v71' := iadd_ok e72 (by omega) (by omega)
                refine r_iald C (kS sC h56 kc_24) (vin (by omega) (by omega)) dX1_findWays_114 ?_
                generalize (wI w55 24 (v71).toNatClampNeg) = v73
                refine r_istore [(7, .int v73), (0, .ref (gz (xG x) + 21)), (1, .int a1), (2, .int u4), (3, .int u50), (4, .int u35), (5, .int u51), (6, .int u52)] C dX1_findWays_115 (by decide) rfl ?_
                refine r_iload 0 C dX1_findWays_117 rfl ?_
                refine r_if_lt 144 C dX1_findWays_119 (by decide) (fun c74 => ?_) (fun c74 => ?_)
                · have c74' := i_lt c74
                  refine r_iconst (v := 0) C dX1_findWays_144 (by decide) ?_
                  refine r_istore [(8, .int 0), (7, .int v73), (0, .ref (gz (xG x) + 21)), (1, .int a1), (2, .int u4), (3, .int u50), (4, .int u35), (5, .int u51), (6, .int u52)] C dX1_findWays_145 (by decide) rfl ?_
                  refine r_iload 0 C dX1_findWays_147 rfl ?_
                  refine r_if_eq 202 C dX1_findWays_149 (by decide) (fun c75 => ?_) (fun c75 => ?_)
                  · have c75' := i_eq c75
                    obtain ⟨i76, e77⟩ : ∃ z : Int32, u52 + Int32.ofInt 1 = z := ⟨_, rfl⟩
                    have i76' := iinc_ok e77 (by decide) (by omega) (by omega)
                    refine r_iinc [(6, .int i76), (8, .int 0), (7, .int v73), (0, .ref (gz (xG x) + 21)), (1, .int a1), (2, .int u4), (3, .int u50), (4, .int u35), (5, .int u51)] 8 C dX1_findWays_202 rfl e77 (by decide) rfl ?_
                    refine r_goto 97 C dX1_findWays_205 (by decide) ?_
                    refine r_lv [3, 4, 5, 6, 7, 8, 0] rfl ?_
                    exact ih63 u50 u51 i76 w55 h56 o57 (by omega) (by omega) (by omega) (by omega) (by omega)
                  · have c75' := i_ne c75
                    exfalso; omega
                · have c74' := i_nlt c74
                  refine r_iload 0 C dX1_findWays_122 rfl ?_
                  refine r_bipush (v := 42) C dX1_findWays_124 (by decide) ?_
                  have k79 := i_rng v73
                  refine r_icmp_ge 144 C dX1_findWays_126 (by decide) (fun c78 => ?_) (fun c78 => ?_)
                  · have c78' := i_le c78
                    refine r_iconst (v := 0) C dX1_findWays_144 (by decide) ?_
                    refine r_istore [(8, .int 0), (7, .int v73), (0, .ref (gz (xG x) + 21)), (1, .int a1), (2, .int u4), (3, .int u50), (4, .int u35), (5, .int u51), (6, .int u52)] C dX1_findWays_145 (by decide) rfl ?_
                    refine r_iload 0 C dX1_findWays_147 rfl ?_
                    refine r_if_eq 202 C dX1_findWays_149 (by decide) (fun c80 => ?_) (fun c80 => ?_)
                    · have c80' := i_eq c80
                      obtain ⟨i81, e82⟩ : ∃ z : Int32, u52 + Int32.ofInt 1 = z := ⟨_, rfl⟩
                      have i81' := iinc_ok e82 (by decide) (by omega) (by omega)
                      refine r_iinc [(6, .int i81), (8, .int 0), (7, .int v73), (0, .ref (gz (xG x) + 21)), (1, .int a1), (2, .int u4), (3, .int u50), (4, .int u35), (5, .int u51)] 8 C dX1_findWays_202 rfl e82 (by decide) rfl ?_
                      refine r_goto 97 C dX1_findWays_205 (by decide) ?_
                      refine r_lv [3, 4, 5, 6, 7, 8, 0] rfl ?_
                      exact ih63 u50 u51 i81 w55 h56 o57 (by omega) (by omega) (by omega) (by omega) (by omega)
                    · have c80' := i_ne c80
                      exfalso; omega
                  · have c78' := i_nle c78
                    refine r_aload_n 1 C dX1_findWays_129 rfl ?_
                    refine gfX1_9 22 C (kS sC h56 kc_21) (xS sC h56 xc_21_1) dX1_findWays_130 ?_
                    refine r_iload 0 C dX1_findWays_133 rfl ?_
                    refine r_iald C (kS sC h56 kc_22) (vin (by omega) (by omega)) dX1_findWays_135 ?_
                    generalize (wI w55 22 (v73).toNatClampNeg) = v83
                    refine r_iconst (v := 1) C dX1_findWays_136 (by decide) ?_
                    refine r_icmp_eq 144 C dX1_findWays_137 (by decide) (fun c84 => ?_) (fun c84 => ?_)
                    · have c84' := i_eq c84
                      refine r_iconst (v := 0) C dX1_findWays_144 (by decide) ?_
                      refine r_istore [(8, .int 0), (7, .int v73), (0, .ref (gz (xG x) + 21)), (1, .int a1), (2, .int u4), (3, .int u50), (4, .int u35), (5, .int u51), (6, .int u52)] C dX1_findWays_145 (by decide) rfl ?_
                      refine r_iload 0 C dX1_findWays_147 rfl ?_
                      refine r_if_eq 202 C dX1_findWays_149 (by decide) (fun c85 => ?_) (fun c85 => ?_)
                      · have c85' := i_eq c85
                        obtain ⟨i86, e87⟩ : ∃ z : Int32, u52 + Int32.ofInt 1 = z := ⟨_, rfl⟩
                        have i86' := iinc_ok e87 (by decide) (by omega) (by omega)
                        refine r_iinc [(6, .int i86), (8, .int 0), (7, .int v73), (0, .ref (gz (xG x) + 21)), (1, .int a1), (2, .int u4), (3, .int u50), (4, .int u35), (5, .int u51)] 8 C dX1_findWays_202 rfl e87 (by decide) rfl ?_
                        refine r_goto 97 C dX1_findWays_205 (by decide) ?_
                        refine r_lv [3, 4, 5, 6, 7, 8, 0] rfl ?_
                        exact ih63 u50 u51 i86 w55 h56 o57 (by omega) (by omega) (by omega) (by omega) (by omega)
                      · have c85' := i_ne c85
                        exfalso; omega
                    · have c84' := i_ne c84
                      refine r_iconst (v := 1) C dX1_findWays_140 (by decide) ?_
                      refine r_goto 145 C dX1_findWays_141 (by decide) ?_
                      refine r_istore [(8, .int 1), (7, .int v73), (0, .ref (gz (xG x) + 21)), (1, .int a1), (2, .int u4), (3, .int u50), (4, .int u35), (5, .int u51), (6, .int u52)] C dX1_findWays_145 (by decide) rfl ?_
                      refine r_iload 0 C dX1_findWays_147 rfl ?_
                      refine r_if_eq 202 C dX1_findWays_149 (by decide) (fun c88 => ?_) (fun c88 => ?_)
                      · have c88' := i_eq c88
                        exfalso; omega
                      · have c88' := i_ne c88
                        refine r_aload_n 2 C dX1_findWays_152 rfl ?_
                        refine gfX1_21 25 C (kS sC h56 kc_21) (xS sC h56 xc_21_6) dX1_findWays_153 ?_
                        refine r_iload_n 4 C dX1_findWays_156 rfl ?_
                        refine r_iload 1 C dX1_findWays_157 rfl ?_
                        refine r_iadd C dX1_findWays_159 (fun v89 e90 => ?_)
                        have v89' := iadd_ok e90 (by omega) (by omega)
                        refine r_iald C (kS sC h56 kc_25) (vin (by omega) (by omega)) dX1_findWays_160 ?_
                        generalize (wI w55 25 (v89).toNatClampNeg) = v91
                        refine r_iconst (v := (-1)) C dX1_findWays_161 (by decide) ?_
                        refine r_icmp_ne 202 C dX1_findWays_162 (by decide) (fun c92 => ?_) (fun c92 => ?_)
                        · have c92' := i_ne c92
                          obtain ⟨i93, e94⟩ : ∃ z : Int32, u52 + Int32.ofInt 1 = z := ⟨_, rfl⟩
                          have i93' := iinc_ok e94 (by decide) (by omega) (by omega)
                          refine r_iinc [(6, .int i93), (8, .int 1), (7, .int v73), (0, .ref (gz (xG x) + 21)), (1, .int a1), (2, .int u4), (3, .int u50), (4, .int u35), (5, .int u51)] 8 C dX1_findWays_202 rfl e94 (by decide) rfl ?_
                          refine r_goto 97 C dX1_findWays_205 (by decide) ?_
                          refine r_lv [3, 4, 5, 6, 7, 8, 0] rfl ?_
                          exact ih63 u50 u51 i93 w55 h56 o57 (by omega) (by omega) (by omega) (by omega) (by omega)
                        · have c92' := i_eq c92
                          refine r_iload_n 5 C dX1_findWays_165 rfl ?_
                          refine r_bipush (v := 42) C dX1_findWays_166 (by decide) ?_
                          refine r_icmp_ge 202 C dX1_findWays_168 (by decide) (fun c95 => ?_) (fun c95 => ?_)
                          · have c95' := i_le c95
                            obtain ⟨i96, e97⟩ : ∃ z : Int32, u52 + Int32.ofInt 1 = z := ⟨_, rfl⟩
                            have i96' := iinc_ok e97 (by decide) (by omega) (by omega)
                            refine r_iinc [(6, .int i96), (8, .int 1), (7, .int v73), (0, .ref (gz (xG x) + 21)), (1, .int a1), (2, .int u4), (3, .int u50), (4, .int u35), (5, .int u51)] 8 C dX1_findWays_202 rfl e97 (by decide) rfl ?_
                            refine r_goto 97 C dX1_findWays_205 (by decide) ?_
                            refine r_lv [3, 4, 5, 6, 7, 8, 0] rfl ?_
                            exact ih63 u50 u51 i96 w55 h56 o57 (by omega) (by omega) (by omega) (by omega) (by omega)
                          · have c95' := i_nle c95
                            refine r_aload_n 2 C dX1_findWays_171 rfl ?_
                            refine gfX1_21 25 C (kS sC h56 kc_21) (xS sC h56 xc_21_6) dX1_findWays_172 ?_
                            refine r_iload_n 4 C dX1_findWays_175 rfl ?_
                            refine r_iload 1 C dX1_findWays_176 rfl ?_
                            refine r_iadd C dX1_findWays_178 (fun v98 e99 => ?_)
                            have v98' := iadd_ok e99 (by omega) (by omega)
                            refine r_aload_n 2 C dX1_findWays_179 rfl ?_
                            refine gfX1_21 25 C (kS sC h56 kc_21) (xS sC h56 xc_21_6) dX1_findWays_180 ?_
                            refine r_iload_n 4 C dX1_findWays_183 rfl ?_
                            refine r_iload 7 C dX1_findWays_184 rfl ?_
                            refine r_iadd C dX1_findWays_186 (fun v100 e101 => ?_)
                            have v100' := iadd_ok e101 (by omega) (by omega)
                            refine r_iald C (kS sC h56 kc_25) (vin (by omega) (by omega)) dX1_findWays_187 ?_
                            generalize (wI w55 25 (v100).toNatClampNeg) = v102
                            refine r_iconst (v := 1) C dX1_findWays_188 (by decide) ?_
                            refine r_iadd C dX1_findWays_189 (fun v103 e104 => ?_)
                            refine r_iast C (kS sC h56 kc_25) (vin (by omega) (by omega)) dX1_findWays_190 (fun w105 e106 => ?_)
                            have h107 := Ch.putS h56 e106 (by decide)
                            have o108 := Inv.put0 o57 e106 (by decide)
                            refine r_aload_n 2 C dX1_findWays_191 rfl ?_
                            refine gfX1_28 27 C (kS sC h107 kc_21) (xS sC h107 xc_21_8) dX1_findWays_192 ?_
                            refine r_iload_n 5 C dX1_findWays_195 rfl ?_
                            refine r_iload 1 C dX1_findWays_196 rfl ?_
                            refine r_iast C (kS sC h107 kc_27) (vin (by omega) (by omega)) dX1_findWays_198 (fun w109 e110 => ?_)
                            have h111 := Ch.putS h107 e110 (by decide)
                            have o112 := Inv.putR o108 e110 0 41 (by omega) (by omega) 0 41 (by omega) (by decide)
                            obtain ⟨i113, e114⟩ : ∃ z : Int32, u50 + Int32.ofInt 1 = z := ⟨_, rfl⟩
                            have i113' := iinc_ok e114 (by decide) (by omega) (by omega)
                            refine r_iinc [(3, .int i113), (8, .int 1), (7, .int v73), (0, .ref (gz (xG x) + 21)), (1, .int a1), (2, .int u4), (4, .int u35), (5, .int u51), (6, .int u52)] 5 C dX1_findWays_199 rfl e114 (by decide) rfl ?_
                            obtain ⟨i115, e116⟩ : ∃ z : Int32, u52 + Int32.ofInt 1 = z := ⟨_, rfl⟩
                            have i115' := iinc_ok e116 (by decide) (by omega) (by omega)
                            refine r_iinc [(6, .int i115), (3, .int i113), (8, .int 1), (7, .int v73), (0, .ref (gz (xG x) + 21)), (1, .int a1), (2, .int u4), (4, .int u35), (5, .int u51)] 8 C dX1_findWays_202 rfl e116 (by decide) rfl ?_
                            refine r_goto 97 C dX1_findWays_205 (by decide) ?_
                            refine r_lv [4, 5, 6, 1, 7, 8, 0] rfl ?_
                            exact ih63 i113 u51 i115 w109 h111 o112 (by omega) (by omega) (by omega) (by omega) (by omega)
          refine r_iload 4 C dX1_findWays_72 rfl ?_
          refine r_iload_n 3 C dX1_findWays_74 rfl ?_
          have k46 := i_rng u35
          refine r_icmp_ge 214 C dX1_findWays_75 (by decide) (fun c45 => ?_) (fun c45 => ?_)
          · have c45' := i_le c45
            exact hret _ _ _ dX1_findWays_214 ⟨h39, o40⟩
          · have c45' := i_nle c45
            refine r_iload 4 C dX1_findWays_78 rfl ?_
            refine r_bipush (v := 42) C dX1_findWays_80 (by decide) ?_
            refine r_icmp_ge 214 C dX1_findWays_82 (by decide) (fun c47 => ?_) (fun c47 => ?_)
            · have c47' := i_le c47
              exfalso; omega
            · have c47' := i_nle c47
              refine r_aload_n 0 C dX1_findWays_85 rfl ?_
              refine gfX1_28 27 C (kS sC h39 kc_21) (xS sC h39 xc_21_8) dX1_findWays_86 ?_
              refine r_iload 4 C dX1_findWays_89 rfl ?_
              refine r_iald C (kS sC h39 kc_27) (vin (by omega) (by omega)) dX1_findWays_91 ?_
              have b49 := Inv.geta o40 rt_27_0 (i := u35) (by omega) (by omega) (by omega)
              generalize (wI w38 27 (u35).toNatClampNeg) = v48 at b49 ⊢
              refine r_istore [(5, .int v48), (0, .ref (gz (xG x) + 21)), (1, .int a1), (2, .int u4), (3, .int u34), (4, .int u35)] C dX1_findWays_92 (by decide) rfl ?_
              refine r_iconst (v := 0) C dX1_findWays_94 (by decide) ?_
              refine r_istore [(6, .int 0), (5, .int v48), (0, .ref (gz (xG x) + 21)), (1, .int a1), (2, .int u4), (3, .int u34), (4, .int u35)] C dX1_findWays_95 (by decide) rfl ?_
              refine r_lv [2, 3, 4, 5, 6, 1, 0] rfl ?_
              exact LP53 4294967296 u34 v48 0 w38 h39 o40 (by omega) (by omega) (by omega) (by omega) (by omega)
      refine r_iload_n 3 C dX1_findWays_7 rfl ?_
      refine r_aload_n 0 C dX1_findWays_8 rfl ?_
      refine gfX1_48 (v := (wI w 21 0)) C (kS sC h9 kc_21) (h9.I (by decide) (by decide) rfl) dX1_findWays_9 ?_
      have b15 := Inv.get o0 rt_21_0 (j := 0) (by decide) (by decide)
      have k17 := i_rng u5
      refine r_icmp_ge 30 C dX1_findWays_12 (by decide) (fun c16 => ?_) (fun c16 => ?_)
      · have c16' := i_le c16
        refine r_aload_n 0 C dX1_findWays_30 rfl ?_
        refine gfX1_21 25 C (kS sC h9 kc_21) (xS sC h9 xc_21_6) dX1_findWays_31 ?_
        refine r_iload_n 2 C dX1_findWays_34 rfl ?_
        refine r_iload_n 1 C dX1_findWays_35 rfl ?_
        refine r_iadd C dX1_findWays_36 (fun v18 e19 => ?_)
        have v18' := iadd_ok e19 (by omega) (by omega)
        refine r_iconst (v := 0) C dX1_findWays_37 (by decide) ?_
        refine r_iast C (kS sC h9 kc_25) (vin (by omega) (by omega)) dX1_findWays_38 (fun w20 e21 => ?_)
        have h22 := Ch.putS h9 e21 (by decide)
        have o23 := Inv.put0 o10 e21 (by decide)
        refine r_aload_n 0 C dX1_findWays_39 rfl ?_
        refine gfX1_24 26 C (kS sC h22 kc_21) (xS sC h22 xc_21_7) dX1_findWays_40 ?_
        refine r_iload_n 1 C dX1_findWays_43 rfl ?_
        refine r_iconst (v := 1) C dX1_findWays_44 (by decide) ?_
        refine r_zast C (kS sC h22 kc_26) (vin (by omega) (by omega)) (nar_z (z_of (by omega))) dX1_findWays_45 (fun w24 e25 => ?_)
        have h26 := Ch.putS h22 e25 (by decide)
        have o27 := Inv.put0 o23 e25 (by decide)
        refine r_aload_n 0 C dX1_findWays_46 rfl ?_
        refine gfX1_28 27 C (kS sC h26 kc_21) (xS sC h26 xc_21_8) dX1_findWays_47 ?_
        refine r_iconst (v := 0) C dX1_findWays_50 (by decide) ?_
        refine r_iload_n 1 C dX1_findWays_51 rfl ?_
        refine r_iast C (kS sC h26 kc_27) (vin (by omega) (by omega)) dX1_findWays_52 (fun w28 e29 => ?_)
        have h30 := Ch.putS h26 e29 (by decide)
        have o31 := Inv.putR o27 e29 0 0 (by omega) (by omega) 0 41 (by omega) (by decide)
        refine r_aload_n 0 C dX1_findWays_53 rfl ?_
        refine gfX1_9 22 C (kS sC h30 kc_21) (xS sC h30 xc_21_1) dX1_findWays_54 ?_
        refine r_iload_n 1 C dX1_findWays_57 rfl ?_
        refine r_iald C (kS sC h30 kc_22) (vin (by omega) (by omega)) dX1_findWays_58 ?_
        generalize (wI w28 22 (a1).toNatClampNeg) = v32
        refine r_iconst (v := 1) C dX1_findWays_59 (by decide) ?_
        refine r_icmp_ne 67 C dX1_findWays_60 (by decide) (fun c33 => ?_) (fun c33 => ?_)
        · have c33' := i_ne c33
          refine r_iconst (v := 1) C dX1_findWays_67 (by decide) ?_
          refine r_istore_n [(3, .int 1), (0, .ref (gz (xG x) + 21)), (1, .int a1), (2, .int u4)] C dX1_findWays_68 (by decide) rfl ?_
          refine r_iconst (v := 0) C dX1_findWays_69 (by decide) ?_
          refine r_istore [(4, .int 0), (3, .int 1), (0, .ref (gz (xG x) + 21)), (1, .int a1), (2, .int u4)] C dX1_findWays_70 (by decide) rfl ?_
          refine r_lv [2, 3, 4, 1, 0] rfl ?_
          exact LP36 4294967296 1 0 w28 h30 o31 (by omega) (by omega) (by omega)
        · have c33' := i_eq c33
          refine r_iconst (v := 0) C dX1_findWays_63 (by decide) ?_
          refine r_goto 68 C dX1_findWays_64 (by decide) ?_
          refine r_istore_n [(3, .int 0), (0, .ref (gz (xG x) + 21)), (1, .int a1), (2, .int u4)] C dX1_findWays_68 (by decide) rfl ?_
          refine r_iconst (v := 0) C dX1_findWays_69 (by decide) ?_
          refine r_istore [(4, .int 0), (3, .int 0), (0, .ref (gz (xG x) + 21)), (1, .int a1), (2, .int u4)] C dX1_findWays_70 (by decide) rfl ?_
          refine r_lv [2, 3, 4, 1, 0] rfl ?_
          exact LP36 4294967296 0 0 w28 h30 o31 (by omega) (by omega) (by omega)
      · have c16' := i_nle c16
        refine r_aload_n 0 C dX1_findWays_15 rfl ?_
        refine gfX1_21 25 C (kS sC h9 kc_21) (xS sC h9 xc_21_6) dX1_findWays_16 ?_
        refine r_iload_n 2 C dX1_findWays_19 rfl ?_
        refine r_iload_n 3 C dX1_findWays_20 rfl ?_
        refine r_iadd C dX1_findWays_21 (fun v117 e118 => ?_)
        have v117' := iadd_ok e118 (by omega) (by omega)
        refine r_iconst (v := (-1)) C dX1_findWays_22 (by decide) ?_
        refine r_iast C (kS sC h9 kc_25) (vin (by omega) (by omega)) dX1_findWays_23 (fun w119 e120 => ?_)
        have h121 := Ch.putS h9 e120 (by decide)
        have o122 := Inv.put0 o10 e120 (by decide)
        obtain ⟨i123, e124⟩ : ∃ z : Int32, u5 + Int32.ofInt 1 = z := ⟨_, rfl⟩
        have i123' := iinc_ok e124 (by decide) (by omega) (by omega)
        refine r_iinc [(3, .int i123), (0, .ref (gz (xG x) + 21)), (1, .int a1), (2, .int u4)] 3 C dX1_findWays_24 rfl e124 (by decide) rfl ?_
        refine r_goto 7 C dX1_findWays_27 (by decide) ?_
        refine r_lv [1, 2, 3, 0] rfl ?_
        exact ih14 u4 i123 w119 h121 o122 (by omega) (by omega) (by omega)
  refine r_iload_n 1 C dX1_findWays_0 rfl ?_
  refine r_bipush (v := 42) C dX1_findWays_1 (by decide) ?_
  refine r_imul C dX1_findWays_3 (fun v1 e2 => ?_)
  have k3 : (42 : Int32).toInt = 42 := by omega
  have v1' := imul_ok e2 (by rw [k3]; omega) (by rw [k3]; omega)
  rw [k3] at v1'
  refine r_istore_n [(2, .int v1), (0, .ref (gz (xG x) + 21)), (1, .int a1)] C dX1_findWays_4 (by decide) rfl ?_
  refine r_iconst (v := 0) C dX1_findWays_5 (by decide) ?_
  refine r_istore_n [(3, .int 0), (2, .int v1), (0, .ref (gz (xG x) + 21)), (1, .int a1)] C dX1_findWays_6 (by decide) rfl ?_
  refine r_lv [2, 3, 1, 0] rfl ?_
  exact LP6 4294967296 v1 0 w h0 o0 (by omega) (by omega) (by omega)
set_option maxHeartbeats 4000000 in
set_option maxRecDepth 100000 in
theorem ctX1_what_21 (l : Launch) (G : Gt) (w : Wv) (sC : Str KC XC w) (o0 : Inv RC w) (a1 : Int32) : CtI l G yX1_what cX1_what 2 .int ({ frames := 0, cells := 0, slots := 0, locals := 0 } : Room) [.ref (gz G + 21), .int a1] w (fun r w' => Ch [] [] w w' ∧ Inv RC w') := by
  refine enterI (by decide) (Nat.le_of_ble_eq_true rfl) ?_
  intro x el eG C hret
  subst el; subst eG
  show V x 0 0 w 0 [(0, .ref (gz (xG x) + 21)), (1, .int a1)] []
  have h0 : Ch [] [] w w := Ch.rf
  have q0 : (0 : Int32).toInt = 0 := by decide
  have q1 : (1 : Int32).toInt = 1 := by decide
  have q42 : (42 : Int32).toInt = 42 := by decide
  refine r_iload_n 1 C dX1_what_0 rfl ?_
  refine r_if_lt 19 C dX1_what_1 (by decide) (fun c1 => ?_) (fun c1 => ?_)
  · have c1' := i_lt c1
    refine r_iconst (v := 1) C dX1_what_19 (by decide) ?_
    exact hret _ _ _ _ dX1_what_20 rfl ⟨h0, o0⟩
  · have c1' := i_nlt c1
    refine r_iload_n 1 C dX1_what_4 rfl ?_
    refine r_bipush (v := 42) C dX1_what_5 (by decide) ?_
    have k3 := i_rng a1
    refine r_icmp_ge 19 C dX1_what_7 (by decide) (fun c2 => ?_) (fun c2 => ?_)
    · have c2' := i_le c2
      refine r_iconst (v := 1) C dX1_what_19 (by decide) ?_
      exact hret _ _ _ _ dX1_what_20 rfl ⟨h0, o0⟩
    · have c2' := i_nle c2
      refine r_aload_n 0 C dX1_what_10 rfl ?_
      refine gfX1_9 22 C (kS sC h0 kc_21) (xS sC h0 xc_21_1) dX1_what_11 ?_
      refine r_iload_n 1 C dX1_what_14 rfl ?_
      refine r_iald C (kS sC h0 kc_22) (vin (by omega) (by omega)) dX1_what_15 ?_
      generalize (wI w 22 (a1).toNatClampNeg) = v4
      refine r_goto 20 C dX1_what_16 (by decide) ?_
      exact hret _ _ _ _ dX1_what_20 rfl ⟨h0, o0⟩
set_option maxHeartbeats 4000000 in
set_option maxRecDepth 100000 in
theorem ctX1_beside_21 (l : Launch) (G : Gt) (w : Wv) (sC : Str KC XC w) (o0 : Inv RC w) (a1 : Int32) (a2 : Int32) : CtI l G yX1_beside cX1_beside 4 .int ({ frames := 0, cells := 0, slots := 0, locals := 0 } : Room) [.ref (gz G + 21), .int a1, .int a2] w (fun r w' => Ch [] [] w w' ∧ Inv RC w') := by
  refine enterI (by decide) (Nat.le_of_ble_eq_true rfl) ?_
  intro x el eG C hret
  subst el; subst eG
  show V x 0 0 w 0 [(0, .ref (gz (xG x) + 21)), (1, .int a1), (2, .int a2)] []
  have h0 : Ch [] [] w w := Ch.rf
  have qm1 : ((-1) : Int32).toInt = (-1) := by decide
  have q0 : (0 : Int32).toInt = 0 := by decide
  have q1 : (1 : Int32).toInt = 1 := by decide
  have q4 : (4 : Int32).toInt = 4 := by decide
  have q42 : (42 : Int32).toInt = 42 := by decide
  refine r_iload_n 1 C dX1_beside_0 rfl ?_
  refine r_if_lt 24 C dX1_beside_1 (by decide) (fun c1 => ?_) (fun c1 => ?_)
  · have c1' := i_lt c1
    refine r_iconst (v := 0) C dX1_beside_24 (by decide) ?_
    refine r_istore_n [(3, .int 0), (0, .ref (gz (xG x) + 21)), (1, .int a1), (2, .int a2)] C dX1_beside_25 (by decide) rfl ?_
    refine r_iload_n 0 C dX1_beside_26 rfl ?_
    refine r_if_eq 45 C dX1_beside_27 (by decide) (fun c2 => ?_) (fun c2 => ?_)
    · have c2' := i_eq c2
      refine r_iconst (v := (-1)) C dX1_beside_45 (by decide) ?_
      exact hret _ _ _ _ dX1_beside_46 rfl ⟨h0, o0⟩
    · have c2' := i_ne c2
      exfalso; omega
  · have c1' := i_nlt c1
    refine r_iload_n 1 C dX1_beside_4 rfl ?_
    refine r_bipush (v := 42) C dX1_beside_5 (by decide) ?_
    have k4 := i_rng a1
    refine r_icmp_ge 24 C dX1_beside_7 (by decide) (fun c3 => ?_) (fun c3 => ?_)
    · have c3' := i_le c3
      refine r_iconst (v := 0) C dX1_beside_24 (by decide) ?_
      refine r_istore_n [(3, .int 0), (0, .ref (gz (xG x) + 21)), (1, .int a1), (2, .int a2)] C dX1_beside_25 (by decide) rfl ?_
      refine r_iload_n 0 C dX1_beside_26 rfl ?_
      refine r_if_eq 45 C dX1_beside_27 (by decide) (fun c5 => ?_) (fun c5 => ?_)
      · have c5' := i_eq c5
        refine r_iconst (v := (-1)) C dX1_beside_45 (by decide) ?_
        exact hret _ _ _ _ dX1_beside_46 rfl ⟨h0, o0⟩
      · have c5' := i_ne c5
        exfalso; omega
    · have c3' := i_nle c3
      refine r_iload_n 2 C dX1_beside_10 rfl ?_
      refine r_iconst (v := 1) C dX1_beside_11 (by decide) ?_
      have k7 := i_rng a2
      refine r_icmp_lt 24 C dX1_beside_12 (by decide) (fun c6 => ?_) (fun c6 => ?_)
      · have c6' := i_lt c6
        refine r_iconst (v := 0) C dX1_beside_24 (by decide) ?_
        refine r_istore_n [(3, .int 0), (0, .ref (gz (xG x) + 21)), (1, .int a1), (2, .int a2)] C dX1_beside_25 (by decide) rfl ?_
        refine r_iload_n 0 C dX1_beside_26 rfl ?_
        refine r_if_eq 45 C dX1_beside_27 (by decide) (fun c8 => ?_) (fun c8 => ?_)
        · have c8' := i_eq c8
          refine r_iconst (v := (-1)) C dX1_beside_45 (by decide) ?_
          exact hret _ _ _ _ dX1_beside_46 rfl ⟨h0, o0⟩
        · have c8' := i_ne c8
          exfalso; omega
      · have c6' := i_nlt c6
        refine r_iload_n 2 C dX1_beside_15 rfl ?_
        refine r_iconst (v := 4) C dX1_beside_16 (by decide) ?_
        have k10 := i_rng a2
        refine r_icmp_gt 24 C dX1_beside_17 (by decide) (fun c9 => ?_) (fun c9 => ?_)
        · have c9' := i_lt c9
          refine r_iconst (v := 0) C dX1_beside_24 (by decide) ?_
          refine r_istore_n [(3, .int 0), (0, .ref (gz (xG x) + 21)), (1, .int a1), (2, .int a2)] C dX1_beside_25 (by decide) rfl ?_
          refine r_iload_n 0 C dX1_beside_26 rfl ?_
          refine r_if_eq 45 C dX1_beside_27 (by decide) (fun c11 => ?_) (fun c11 => ?_)
          · have c11' := i_eq c11
            refine r_iconst (v := (-1)) C dX1_beside_45 (by decide) ?_
            exact hret _ _ _ _ dX1_beside_46 rfl ⟨h0, o0⟩
          · have c11' := i_ne c11
            exfalso; omega
        · have c9' := i_nlt c9
          refine r_iconst (v := 1) C dX1_beside_20 (by decide) ?_
          refine r_goto 25 C dX1_beside_21 (by decide) ?_
          refine r_istore_n [(3, .int 1), (0, .ref (gz (xG x) + 21)), (1, .int a1), (2, .int a2)] C dX1_beside_25 (by decide) rfl ?_
          refine r_iload_n 0 C dX1_beside_26 rfl ?_
          refine r_if_eq 45 C dX1_beside_27 (by decide) (fun c12 => ?_) (fun c12 => ?_)
          · have c12' := i_eq c12
            exfalso; omega
          · have c12' := i_ne c12
            refine r_aload_n 1 C dX1_beside_30 rfl ?_
            refine gfX1_18 24 C (kS sC h0 kc_21) (xS sC h0 xc_21_5) dX1_beside_31 ?_
            refine r_iload_n 2 C dX1_beside_34 rfl ?_
            refine r_iconst (v := 4) C dX1_beside_35 (by decide) ?_
            refine r_imul C dX1_beside_36 (fun v13 e14 => ?_)
            have k15 : (4 : Int32).toInt = 4 := by omega
            have v13' := imul_ok e14 (by rw [k15]; omega) (by rw [k15]; omega)
            rw [k15] at v13'
            refine r_iload_n 3 C dX1_beside_37 rfl ?_
            refine r_iadd C dX1_beside_38 (fun v16 e17 => ?_)
            have v16' := iadd_ok e17 (by omega) (by omega)
            refine r_iconst (v := 1) C dX1_beside_39 (by decide) ?_
            refine r_isub C dX1_beside_40 (fun v18 e19 => ?_)
            have v18' := isub_ok e19 (by omega) (by omega)
            refine r_iald C (kS sC h0 kc_24) (vin (by omega) (by omega)) dX1_beside_41 ?_
            generalize (wI w 24 (v18).toNatClampNeg) = v20
            refine r_goto 46 C dX1_beside_42 (by decide) ?_
            exact hret _ _ _ _ dX1_beside_46 rfl ⟨h0, o0⟩
set_option maxHeartbeats 4000000 in
set_option maxRecDepth 100000 in
theorem ctX1_steps_21 (l : Launch) (G : Gt) (w : Wv) (sC : Str KC XC w) (o0 : Inv RC w) (a1 : Int32) (a2 : Int32) : CtI l G yX1_steps cX1_steps 3 .int ({ frames := 1, cells := 0, slots := 0, locals := 28 } : Room) [.ref (gz G + 21), .int a1, .int a2] w (fun r w' => Ch [25, 26, 27] [] w w' ∧ Inv RC w') := by
  refine enterI (by decide) (Nat.le_of_ble_eq_true rfl) ?_
  intro x el eG C hret
  subst el; subst eG
  show V x 0 0 w 0 [(0, .ref (gz (xG x) + 21)), (1, .int a1), (2, .int a2)] []
  have h0 : Ch [25, 26, 27] [] w w := Ch.rf
  have qm1 : ((-1) : Int32).toInt = (-1) := by decide
  have q0 : (0 : Int32).toInt = 0 := by decide
  have q42 : (42 : Int32).toInt = 42 := by decide
  refine r_iload_n 1 C dX1_steps_0 rfl ?_
  refine r_if_lt 20 C dX1_steps_1 (by decide) (fun c1 => ?_) (fun c1 => ?_)
  · have c1' := i_lt c1
    refine r_iconst (v := (-1)) C dX1_steps_20 (by decide) ?_
    exact hret _ _ _ _ dX1_steps_21 rfl ⟨h0, o0⟩
  · have c1' := i_nlt c1
    refine r_iload_n 1 C dX1_steps_4 rfl ?_
    refine r_bipush (v := 42) C dX1_steps_5 (by decide) ?_
    have k3 := i_rng a1
    refine r_icmp_ge 20 C dX1_steps_7 (by decide) (fun c2 => ?_) (fun c2 => ?_)
    · have c2' := i_le c2
      refine r_iconst (v := (-1)) C dX1_steps_20 (by decide) ?_
      exact hret _ _ _ _ dX1_steps_21 rfl ⟨h0, o0⟩
    · have c2' := i_nle c2
      refine r_iload_n 2 C dX1_steps_10 rfl ?_
      refine r_if_lt 20 C dX1_steps_11 (by decide) (fun c4 => ?_) (fun c4 => ?_)
      · have c4' := i_lt c4
        refine r_iconst (v := (-1)) C dX1_steps_20 (by decide) ?_
        exact hret _ _ _ _ dX1_steps_21 rfl ⟨h0, o0⟩
      · have c4' := i_nlt c4
        refine r_iload_n 2 C dX1_steps_14 rfl ?_
        refine r_bipush (v := 42) C dX1_steps_15 (by decide) ?_
        have k6 := i_rng a2
        refine r_icmp_lt 22 C dX1_steps_17 (by decide) (fun c5 => ?_) (fun c5 => ?_)
        · have c5' := i_lt c5
          refine r_aload_n 0 C dX1_steps_22 rfl ?_
          refine gfX1_24 26 C (kS sC h0 kc_21) (xS sC h0 xc_21_7) dX1_steps_23 ?_
          refine r_iload_n 2 C dX1_steps_26 rfl ?_
          refine r_zald C (kS sC h0 kc_26) (vin (by omega) (by omega)) dX1_steps_27 ?_
          generalize (wI w 26 (a2).toNatClampNeg) = v7
          refine r_if_ne 36 C dX1_steps_28 (by decide) (fun c8 => ?_) (fun c8 => ?_)
          · have c8' := i_ne c8
            refine r_aload_n 0 C dX1_steps_36 rfl ?_
            refine gfX1_21 25 C (kS sC h0 kc_21) (xS sC h0 xc_21_6) dX1_steps_37 ?_
            refine r_iload_n 2 C dX1_steps_40 rfl ?_
            refine r_bipush (v := 42) C dX1_steps_41 (by decide) ?_
            refine r_imul C dX1_steps_43 (fun v9 e10 => ?_)
            have k11 : (42 : Int32).toInt = 42 := by omega
            have v9' := imul_ok e10 (by rw [k11]; omega) (by rw [k11]; omega)
            rw [k11] at v9'
            refine r_iload_n 1 C dX1_steps_44 rfl ?_
            refine r_iadd C dX1_steps_45 (fun v12 e13 => ?_)
            have v12' := iadd_ok e13 (by omega) (by omega)
            refine r_iald C (kS sC h0 kc_25) (vin (by omega) (by omega)) dX1_steps_46 ?_
            generalize (wI w 25 (v12).toNatClampNeg) = v14
            exact hret _ _ _ _ dX1_steps_47 rfl ⟨h0, o0⟩
          · have c8' := i_eq c8
            refine r_aload_n 0 C dX1_steps_31 rfl ?_
            refine r_iload_n 2 C dX1_steps_32 rfl ?_
            refine callVV C cwX1_69_V (ctX1_findWays_21 _ _ w (sS sC h0) o0 a2 (by omega)) (by decide) (kS sC h0 kc_21) rfl rfl rfl (Nat.le_of_ble_eq_true rfl) (by decide) dX1_steps_33 (fun w16 y15 => ?_)
            show V x 0 0 w16 36 [(0, .ref (gz (xG x) + 21)), (1, .int a1), (2, .int a2)] []
            obtain ⟨h18, o19⟩ := y15
            have h20 := Ch.tr h0 h18 (by decide) (by decide)
            refine r_aload_n 0 C dX1_steps_36 rfl ?_
            refine gfX1_21 25 C (kS sC h20 kc_21) (xS sC h20 xc_21_6) dX1_steps_37 ?_
            refine r_iload_n 2 C dX1_steps_40 rfl ?_
            refine r_bipush (v := 42) C dX1_steps_41 (by decide) ?_
            refine r_imul C dX1_steps_43 (fun v21 e22 => ?_)
            have k23 : (42 : Int32).toInt = 42 := by omega
            have v21' := imul_ok e22 (by rw [k23]; omega) (by rw [k23]; omega)
            rw [k23] at v21'
            refine r_iload_n 1 C dX1_steps_44 rfl ?_
            refine r_iadd C dX1_steps_45 (fun v24 e25 => ?_)
            have v24' := iadd_ok e25 (by omega) (by omega)
            refine r_iald C (kS sC h20 kc_25) (vin (by omega) (by omega)) dX1_steps_46 ?_
            generalize (wI w16 25 (v24).toNatClampNeg) = v26
            exact hret _ _ _ _ dX1_steps_47 rfl ⟨h20, o19⟩
        · have c5' := i_nlt c5
          refine r_iconst (v := (-1)) C dX1_steps_20 (by decide) ?_
          exact hret _ _ _ _ dX1_steps_21 rfl ⟨h0, o0⟩
set_option maxHeartbeats 4000000 in
set_option maxRecDepth 100000 in
theorem ctX1_onward_21 (l : Launch) (G : Gt) (w : Wv) (sC : Str KC XC w) (o0 : Inv RC w) (a1 : Int32) (a2 : Int32) : CtI l G yX1_onward cX1_onward 7 .int ({ frames := 1, cells := 0, slots := 0, locals := 28 } : Room) [.ref (gz G + 21), .int a1, .int a2] w (fun r w' => Ch [25, 26, 27] [] w w' ∧ Inv RC w') := by
  refine enterI (by decide) (Nat.le_of_ble_eq_true rfl) ?_
  intro x el eG C hret
  subst el; subst eG
  show V x 0 0 w 0 [(0, .ref (gz (xG x) + 21)), (1, .int a1), (2, .int a2)] []
  have h0 : Ch [25, 26, 27] [] w w := Ch.rf
  have qm1 : ((-1) : Int32).toInt = (-1) := by decide
  have q0 : (0 : Int32).toInt = 0 := by decide
  have q1 : (1 : Int32).toInt = 1 := by decide
  have q4 : (4 : Int32).toInt = 4 := by decide
  have q42 : (42 : Int32).toInt = 42 := by decide
  have LP18 : ∀ (f19 : Nat) (u15 : Int32) (u16 : Int32) (u17 : Int32) (w20 : Wv), Ch [25, 26, 27] [] w w20 → Inv RC w20 → (0 ≤ u15.toInt ∧ u15.toInt ≤ 1722) → (0 ≤ u17.toInt ∧ u17.toInt ≤ 2147483647) → (0 ≤ a1.toInt ∧ a1.toInt ≤ 41) → (0 ≤ a2.toInt ∧ a2.toInt ≤ 41) → 2147483647 - u17.toInt < f19 → V x 0 0 w20 54 [(0, .ref (gz (xG x) + 21)), (1, .int a1), (2, .int a2), (3, .int u15), (4, .int u16), (5, .int u17)] [] := by
    intro f19
    induction f19 with
    | zero => intro u15 u16 u17 w20 h21 o22 z23 z24 z25 z26 z27; exfalso; omega
    | succ f19 ih28 =>
      intro u15 u16 u17 w20 h21 o22 z23 z24 z25 z26 z27
      refine r_iload 5 C dX1_onward_54 rfl ?_
      refine r_iconst (v := 4) C dX1_onward_56 (by decide) ?_
      have k30 := i_rng u17
      refine r_icmp_ge 115 C dX1_onward_57 (by decide) (fun c29 => ?_) (fun c29 => ?_)
      · have c29' := i_le c29
        refine r_iconst (v := (-1)) C dX1_onward_115 (by decide) ?_
        exact hret _ _ _ _ dX1_onward_116 rfl ⟨h21, o22⟩
      · have c29' := i_nle c29
        refine r_iload 4 C dX1_onward_60 rfl ?_
        refine r_if_le 115 C dX1_onward_62 (by decide) (fun c31 => ?_) (fun c31 => ?_)
        · have c31' := i_le c31
          refine r_iconst (v := (-1)) C dX1_onward_115 (by decide) ?_
          exact hret _ _ _ _ dX1_onward_116 rfl ⟨h21, o22⟩
        · have c31' := i_nle c31
          refine r_aload_n 0 C dX1_onward_65 rfl ?_
          refine gfX1_18 24 C (kS sC h21 kc_21) (xS sC h21 xc_21_5) dX1_onward_66 ?_
          refine r_iload_n 1 C dX1_onward_69 rfl ?_
          refine r_iconst (v := 4) C dX1_onward_70 (by decide) ?_
          refine r_imul C dX1_onward_71 (fun v32 e33 => ?_)
          have k34 : (4 : Int32).toInt = 4 := by omega
          have v32' := imul_ok e33 (by rw [k34]; omega) (by rw [k34]; omega)
          rw [k34] at v32'
          refine r_iload 5 C dX1_onward_72 rfl ?_
          refine r_iadd C dX1_onward_74 (fun v35 e36 => ?_)
          have v35' := iadd_ok e36 (by omega) (by omega)
          refine r_iald C (kS sC h21 kc_24) (vin (by omega) (by omega)) dX1_onward_75 ?_
          generalize (wI w20 24 (v35).toNatClampNeg) = v37
          refine r_istore [(6, .int v37), (0, .ref (gz (xG x) + 21)), (1, .int a1), (2, .int a2), (3, .int u15), (4, .int u16), (5, .int u17)] C dX1_onward_76 (by decide) rfl ?_
          refine r_iload 0 C dX1_onward_78 rfl ?_
          refine r_if_lt 109 C dX1_onward_80 (by decide) (fun c38 => ?_) (fun c38 => ?_)
          · have c38' := i_lt c38
            obtain ⟨i39, e40⟩ : ∃ z : Int32, u17 + Int32.ofInt 1 = z := ⟨_, rfl⟩
            have i39' := iinc_ok e40 (by decide) (by omega) (by omega)
            refine r_iinc [(5, .int i39), (6, .int v37), (0, .ref (gz (xG x) + 21)), (1, .int a1), (2, .int a2), (3, .int u15), (4, .int u16)] 6 C dX1_onward_109 rfl e40 (by decide) rfl ?_
            refine r_goto 54 C dX1_onward_112 (by decide) ?_
            refine r_lv [2, 3, 4, 5, 6, 0] rfl ?_
            exact ih28 u15 u16 i39 w20 h21 o22 (by omega) (by omega) (by omega) (by omega) (by omega)
          · have c38' := i_nlt c38
            refine r_iload 0 C dX1_onward_83 rfl ?_
            refine r_bipush (v := 42) C dX1_onward_85 (by decide) ?_
            have k42 := i_rng v37
            refine r_icmp_ge 109 C dX1_onward_87 (by decide) (fun c41 => ?_) (fun c41 => ?_)
            · have c41' := i_le c41
              obtain ⟨i43, e44⟩ : ∃ z : Int32, u17 + Int32.ofInt 1 = z := ⟨_, rfl⟩
              have i43' := iinc_ok e44 (by decide) (by omega) (by omega)
              refine r_iinc [(5, .int i43), (6, .int v37), (0, .ref (gz (xG x) + 21)), (1, .int a1), (2, .int a2), (3, .int u15), (4, .int u16)] 6 C dX1_onward_109 rfl e44 (by decide) rfl ?_
              refine r_goto 54 C dX1_onward_112 (by decide) ?_
              refine r_lv [2, 3, 4, 5, 6, 0] rfl ?_
              exact ih28 u15 u16 i43 w20 h21 o22 (by omega) (by omega) (by omega) (by omega) (by omega)
            · have c41' := i_nle c41
              refine r_aload_n 1 C dX1_onward_90 rfl ?_
              refine gfX1_21 25 C (kS sC h21 kc_21) (xS sC h21 xc_21_6) dX1_onward_91 ?_
              refine r_iload_n 4 C dX1_onward_94 rfl ?_
              refine r_iload 0 C dX1_onward_95 rfl ?_
              refine r_iadd C dX1_onward_97 (fun v45 e46 => ?_)
              have v45' := iadd_ok e46 (by omega) (by omega)
              refine r_iald C (kS sC h21 kc_25) (vin (by omega) (by omega)) dX1_onward_98 ?_
              generalize (wI w20 25 (v45).toNatClampNeg) = v47
              refine r_iload 5 C dX1_onward_99 rfl ?_
              refine r_iconst (v := 1) C dX1_onward_101 (by decide) ?_
              refine r_isub C dX1_onward_102 (fun v48 e49 => ?_)
              have k50 := i_rng u16
              have v48' := isub_ok e49 (by omega) (by omega)
              refine r_icmp_ne 109 C dX1_onward_103 (by decide) (fun c51 => ?_) (fun c51 => ?_)
              · have c51' := i_ne c51
                obtain ⟨i52, e53⟩ : ∃ z : Int32, u17 + Int32.ofInt 1 = z := ⟨_, rfl⟩
                have i52' := iinc_ok e53 (by decide) (by omega) (by omega)
                refine r_iinc [(5, .int i52), (6, .int v37), (0, .ref (gz (xG x) + 21)), (1, .int a1), (2, .int a2), (3, .int u15), (4, .int u16)] 6 C dX1_onward_109 rfl e53 (by decide) rfl ?_
                refine r_goto 54 C dX1_onward_112 (by decide) ?_
                refine r_lv [2, 3, 4, 5, 6, 0] rfl ?_
                exact ih28 u15 u16 i52 w20 h21 o22 (by omega) (by omega) (by omega) (by omega) (by omega)
              · have c51' := i_eq c51
                refine r_iload 0 C dX1_onward_106 rfl ?_
                exact hret _ _ _ _ dX1_onward_108 rfl ⟨h21, o22⟩
  refine r_iload_n 1 C dX1_onward_0 rfl ?_
  refine r_if_lt 20 C dX1_onward_1 (by decide) (fun c1 => ?_) (fun c1 => ?_)
  · have c1' := i_lt c1
    refine r_iconst (v := (-1)) C dX1_onward_20 (by decide) ?_
    exact hret _ _ _ _ dX1_onward_21 rfl ⟨h0, o0⟩
  · have c1' := i_nlt c1
    refine r_iload_n 1 C dX1_onward_4 rfl ?_
    refine r_bipush (v := 42) C dX1_onward_5 (by decide) ?_
    have k3 := i_rng a1
    refine r_icmp_ge 20 C dX1_onward_7 (by decide) (fun c2 => ?_) (fun c2 => ?_)
    · have c2' := i_le c2
      refine r_iconst (v := (-1)) C dX1_onward_20 (by decide) ?_
      exact hret _ _ _ _ dX1_onward_21 rfl ⟨h0, o0⟩
    · have c2' := i_nle c2
      refine r_iload_n 2 C dX1_onward_10 rfl ?_
      refine r_if_lt 20 C dX1_onward_11 (by decide) (fun c4 => ?_) (fun c4 => ?_)
      · have c4' := i_lt c4
        refine r_iconst (v := (-1)) C dX1_onward_20 (by decide) ?_
        exact hret _ _ _ _ dX1_onward_21 rfl ⟨h0, o0⟩
      · have c4' := i_nlt c4
        refine r_iload_n 2 C dX1_onward_14 rfl ?_
        refine r_bipush (v := 42) C dX1_onward_15 (by decide) ?_
        have k6 := i_rng a2
        refine r_icmp_lt 22 C dX1_onward_17 (by decide) (fun c5 => ?_) (fun c5 => ?_)
        · have c5' := i_lt c5
          refine r_aload_n 0 C dX1_onward_22 rfl ?_
          refine gfX1_24 26 C (kS sC h0 kc_21) (xS sC h0 xc_21_7) dX1_onward_23 ?_
          refine r_iload_n 2 C dX1_onward_26 rfl ?_
          refine r_zald C (kS sC h0 kc_26) (vin (by omega) (by omega)) dX1_onward_27 ?_
          generalize (wI w 26 (a2).toNatClampNeg) = v7
          refine r_if_ne 36 C dX1_onward_28 (by decide) (fun c8 => ?_) (fun c8 => ?_)
          · have c8' := i_ne c8
            refine r_iload_n 2 C dX1_onward_36 rfl ?_
            refine r_bipush (v := 42) C dX1_onward_37 (by decide) ?_
            refine r_imul C dX1_onward_39 (fun v9 e10 => ?_)
            have k11 : (42 : Int32).toInt = 42 := by omega
            have v9' := imul_ok e10 (by rw [k11]; omega) (by rw [k11]; omega)
            rw [k11] at v9'
            refine r_istore_n [(3, .int v9), (0, .ref (gz (xG x) + 21)), (1, .int a1), (2, .int a2)] C dX1_onward_40 (by decide) rfl ?_
            refine r_aload_n 1 C dX1_onward_41 rfl ?_
            refine gfX1_21 25 C (kS sC h0 kc_21) (xS sC h0 xc_21_6) dX1_onward_42 ?_
            refine r_iload_n 0 C dX1_onward_45 rfl ?_
            refine r_iload_n 2 C dX1_onward_46 rfl ?_
            refine r_iadd C dX1_onward_47 (fun v12 e13 => ?_)
            have v12' := iadd_ok e13 (by omega) (by omega)
            refine r_iald C (kS sC h0 kc_25) (vin (by omega) (by omega)) dX1_onward_48 ?_
            generalize (wI w 25 (v12).toNatClampNeg) = v14
            refine r_istore [(4, .int v14), (3, .int v9), (0, .ref (gz (xG x) + 21)), (1, .int a1), (2, .int a2)] C dX1_onward_49 (by decide) rfl ?_
            refine r_iconst (v := 0) C dX1_onward_51 (by decide) ?_
            refine r_istore [(5, .int 0), (4, .int v14), (3, .int v9), (0, .ref (gz (xG x) + 21)), (1, .int a1), (2, .int a2)] C dX1_onward_52 (by decide) rfl ?_
            refine r_lv [3, 4, 5, 2, 1, 0] rfl ?_
            exact LP18 4294967296 v9 v14 0 w h0 o0 (by omega) (by omega) (by omega) (by omega) (by omega)
          · have c8' := i_eq c8
            refine r_aload_n 0 C dX1_onward_31 rfl ?_
            refine r_iload_n 2 C dX1_onward_32 rfl ?_
            refine callVV C cwX1_69_V (ctX1_findWays_21 _ _ w (sS sC h0) o0 a2 (by omega)) (by decide) (kS sC h0 kc_21) rfl rfl rfl (Nat.le_of_ble_eq_true rfl) (by decide) dX1_onward_33 (fun w55 y54 => ?_)
            show V x 0 0 w55 36 [(0, .ref (gz (xG x) + 21)), (1, .int a1), (2, .int a2)] []
            obtain ⟨h57, o58⟩ := y54
            have h59 := Ch.tr h0 h57 (by decide) (by decide)
            refine r_iload_n 2 C dX1_onward_36 rfl ?_
            refine r_bipush (v := 42) C dX1_onward_37 (by decide) ?_
            refine r_imul C dX1_onward_39 (fun v60 e61 => ?_)
            have k62 : (42 : Int32).toInt = 42 := by omega
            have v60' := imul_ok e61 (by rw [k62]; omega) (by rw [k62]; omega)
            rw [k62] at v60'
            refine r_istore_n [(3, .int v60), (0, .ref (gz (xG x) + 21)), (1, .int a1), (2, .int a2)] C dX1_onward_40 (by decide) rfl ?_
            refine r_aload_n 1 C dX1_onward_41 rfl ?_
            refine gfX1_21 25 C (kS sC h59 kc_21) (xS sC h59 xc_21_6) dX1_onward_42 ?_
            refine r_iload_n 0 C dX1_onward_45 rfl ?_
            refine r_iload_n 2 C dX1_onward_46 rfl ?_
            refine r_iadd C dX1_onward_47 (fun v63 e64 => ?_)
            have v63' := iadd_ok e64 (by omega) (by omega)
            refine r_iald C (kS sC h59 kc_25) (vin (by omega) (by omega)) dX1_onward_48 ?_
            generalize (wI w55 25 (v63).toNatClampNeg) = v65
            refine r_istore [(4, .int v65), (3, .int v60), (0, .ref (gz (xG x) + 21)), (1, .int a1), (2, .int a2)] C dX1_onward_49 (by decide) rfl ?_
            refine r_iconst (v := 0) C dX1_onward_51 (by decide) ?_
            refine r_istore [(5, .int 0), (4, .int v65), (3, .int v60), (0, .ref (gz (xG x) + 21)), (1, .int a1), (2, .int a2)] C dX1_onward_52 (by decide) rfl ?_
            refine r_lv [3, 4, 5, 2, 1, 0] rfl ?_
            exact LP18 4294967296 v60 v65 0 w55 h59 o58 (by omega) (by omega) (by omega) (by omega) (by omega)
        · have c5' := i_nlt c5
          refine r_iconst (v := (-1)) C dX1_onward_20 (by decide) ?_
          exact hret _ _ _ _ dX1_onward_21 rfl ⟨h0, o0⟩
set_option maxHeartbeats 4000000 in
set_option maxRecDepth 100000 in
theorem ctX1_forgetWays_28 (l : Launch) (G : Gt) (w : Wv) (sC : Str KC XC w) (o0 : Inv RC w)  : CtV l G yX1_forgetWays cX1_forgetWays 2 ({ frames := 0, cells := 0, slots := 0, locals := 0 } : Room) [.ref (gz G + 28)] w (fun w' => Ch [33] [] w w' ∧ Inv RC w') := by
  refine enterV (by decide) (Nat.le_of_ble_eq_true rfl) ?_
  intro x el eG C hnm hret
  subst el; subst eG
  show V x 0 0 w 0 [(0, .ref (gz (xG x) + 28))] []
  have h0 : Ch [33] [] w w := Ch.rf
  have q0 : (0 : Int32).toInt = 0 := by decide
  have q42 : (42 : Int32).toInt = 42 := by decide
  have LP2 : ∀ (f3 : Nat) (u1 : Int32) (w4 : Wv), Ch [33] [] w w4 → Inv RC w4 → (0 ≤ u1.toInt ∧ u1.toInt ≤ 2147483647) → 2147483647 - u1.toInt < f3 → V x 0 0 w4 2 [(0, .ref (gz (xG x) + 28)), (1, .int u1)] [] := by
    intro f3
    induction f3 with
    | zero => intro u1 w4 h5 o6 z7 z8; exfalso; omega
    | succ f3 ih9 =>
      intro u1 w4 h5 o6 z7 z8
      refine r_iload_n 1 C dX1_forgetWays_2 rfl ?_
      refine r_bipush (v := 42) C dX1_forgetWays_3 (by decide) ?_
      have k11 := i_rng u1
      refine r_icmp_ge 21 C dX1_forgetWays_5 (by decide) (fun c10 => ?_) (fun c10 => ?_)
      · have c10' := i_le c10
        exact hret _ _ _ dX1_forgetWays_21 ⟨h5, o6⟩
      · have c10' := i_nle c10
        refine r_aload_n 0 C dX1_forgetWays_8 rfl ?_
        refine gfX1_24 33 C (kS sC h5 kc_28) (xS sC h5 xc_28_7) dX1_forgetWays_9 ?_
        refine r_iload_n 1 C dX1_forgetWays_12 rfl ?_
        refine r_iconst (v := 0) C dX1_forgetWays_13 (by decide) ?_
        refine r_zast C (kS sC h5 kc_33) (vin (by omega) (by omega)) (nar_z (z_of (by omega))) dX1_forgetWays_14 (fun w12 e13 => ?_)
        have h14 := Ch.putS h5 e13 (by decide)
        have o15 := Inv.put0 o6 e13 (by decide)
        obtain ⟨i16, e17⟩ : ∃ z : Int32, u1 + Int32.ofInt 1 = z := ⟨_, rfl⟩
        have i16' := iinc_ok e17 (by decide) (by omega) (by omega)
        refine r_iinc [(1, .int i16), (0, .ref (gz (xG x) + 28))] 1 C dX1_forgetWays_15 rfl e17 (by decide) rfl ?_
        refine r_goto 2 C dX1_forgetWays_18 (by decide) ?_
        refine r_lv [1, 0] rfl ?_
        exact ih9 i16 w12 h14 o15 (by omega) (by omega)
  refine r_iconst (v := 0) C dX1_forgetWays_0 (by decide) ?_
  refine r_istore_n [(1, .int 0), (0, .ref (gz (xG x) + 28))] C dX1_forgetWays_1 (by decide) rfl ?_
  refine r_lv [1, 0] rfl ?_
  exact LP2 4294967296 0 w h0 o0 (by omega) (by omega)
set_option maxHeartbeats 4000000 in
set_option maxRecDepth 100000 in
theorem ctX1_takeWhats_28_4 (l : Launch) (G : Gt) (w : Wv) (sC : Str KC XC w) (o0 : Inv RC w)  : CtV l G yX1_takeWhats cX1_takeWhats 3 ({ frames := 1, cells := 0, slots := 0, locals := 21 } : Room) [.ref (gz G + 28), .ref (gz G + 4)] w (fun w' => Ch [29, 33] [] w w' ∧ Inv RC w') := by
  refine enterV (by decide) (Nat.le_of_ble_eq_true rfl) ?_
  intro x el eG C hnm hret
  subst el; subst eG
  show V x 0 0 w 0 [(0, .ref (gz (xG x) + 28)), (1, .ref (gz (xG x) + 4))] []
  have h0 : Ch [29, 33] [] w w := Ch.rf
  have q0 : (0 : Int32).toInt = 0 := by decide
  have q42 : (42 : Int32).toInt = 42 := by decide
  have LP2 : ∀ (f3 : Nat) (u1 : Int32) (w4 : Wv), Ch [29, 33] [] w w4 → Inv RC w4 → (0 ≤ u1.toInt ∧ u1.toInt ≤ 2147483647) → 2147483647 - u1.toInt < f3 → V x 0 0 w4 2 [(0, .ref (gz (xG x) + 28)), (1, .ref (gz (xG x) + 4)), (2, .int u1)] [] := by
    intro f3
    induction f3 with
    | zero => intro u1 w4 h5 o6 z7 z8; exfalso; omega
    | succ f3 ih9 =>
      intro u1 w4 h5 o6 z7 z8
      refine r_iload_n 2 C dX1_takeWhats_2 rfl ?_
      refine r_bipush (v := 42) C dX1_takeWhats_3 (by decide) ?_
      have k11 := i_rng u1
      refine r_icmp_ge 29 C dX1_takeWhats_5 (by decide) (fun c10 => ?_) (fun c10 => ?_)
      · have c10' := i_le c10
        refine r_aload_n 0 C dX1_takeWhats_29 rfl ?_
        refine callVV C cwX1_62_V (ctX1_forgetWays_28 _ _ w4 (sS sC h5) o6  ) (by decide) (kS sC h5 kc_28) rfl rfl rfl (Nat.le_of_ble_eq_true rfl) (by decide) dX1_takeWhats_30 (fun w13 y12 => ?_)
        show V x 0 0 w13 33 [(0, .ref (gz (xG x) + 28)), (1, .ref (gz (xG x) + 4)), (2, .int u1)] []
        obtain ⟨h15, o16⟩ := y12
        have h17 := Ch.tr h5 h15 (by decide) (by decide)
        exact hret _ _ _ dX1_takeWhats_33 ⟨h17, o16⟩
      · have c10' := i_nle c10
        refine r_iload_n 2 C dX1_takeWhats_8 rfl ?_
        refine r_aload_n 1 C dX1_takeWhats_9 rfl ?_
        refine r_alen 0 0 rfl C (kS sC h5 kc_4) (v := 42) (by decide) dX1_takeWhats_10 ?_
        refine r_icmp_ge 29 C dX1_takeWhats_11 (by decide) (fun c18 => ?_) (fun c18 => ?_)
        · have c18' := i_le c18
          exfalso; omega
        · have c18' := i_nle c18
          refine r_aload_n 0 C dX1_takeWhats_14 rfl ?_
          refine gfX1_9 29 C (kS sC h5 kc_28) (xS sC h5 xc_28_1) dX1_takeWhats_15 ?_
          refine r_iload_n 2 C dX1_takeWhats_18 rfl ?_
          refine r_aload_n 1 C dX1_takeWhats_19 rfl ?_
          refine r_iload_n 2 C dX1_takeWhats_20 rfl ?_
          refine r_iald C (kS sC h5 kc_4) (vin (by omega) (by omega)) dX1_takeWhats_21 ?_
          generalize (wI w4 4 (u1).toNatClampNeg) = v19
          refine r_iast C (kS sC h5 kc_29) (vin (by omega) (by omega)) dX1_takeWhats_22 (fun w20 e21 => ?_)
          have h22 := Ch.putS h5 e21 (by decide)
          have o23 := Inv.put0 o6 e21 (by decide)
          obtain ⟨i24, e25⟩ : ∃ z : Int32, u1 + Int32.ofInt 1 = z := ⟨_, rfl⟩
          have i24' := iinc_ok e25 (by decide) (by omega) (by omega)
          refine r_iinc [(2, .int i24), (0, .ref (gz (xG x) + 28)), (1, .ref (gz (xG x) + 4))] 2 C dX1_takeWhats_23 rfl e25 (by decide) rfl ?_
          refine r_goto 2 C dX1_takeWhats_26 (by decide) ?_
          refine r_lv [1, 2, 0] rfl ?_
          exact ih9 i24 w20 h22 o23 (by omega) (by omega)
  refine r_iconst (v := 0) C dX1_takeWhats_0 (by decide) ?_
  refine r_istore_n [(2, .int 0), (0, .ref (gz (xG x) + 28)), (1, .ref (gz (xG x) + 4))] C dX1_takeWhats_1 (by decide) rfl ?_
  refine r_lv [1, 2, 0] rfl ?_
  exact LP2 4294967296 0 w h0 o0 (by omega) (by omega)
set_option maxHeartbeats 4000000 in
set_option maxRecDepth 100000 in
theorem ctX1_takeWhats_28_22 (l : Launch) (G : Gt) (w : Wv) (sC : Str KC XC w) (o0 : Inv RC w)  : CtV l G yX1_takeWhats cX1_takeWhats 3 ({ frames := 1, cells := 0, slots := 0, locals := 21 } : Room) [.ref (gz G + 28), .ref (gz G + 22)] w (fun w' => Ch [29, 33] [] w w' ∧ Inv RC w') := by
  refine enterV (by decide) (Nat.le_of_ble_eq_true rfl) ?_
  intro x el eG C hnm hret
  subst el; subst eG
  show V x 0 0 w 0 [(0, .ref (gz (xG x) + 28)), (1, .ref (gz (xG x) + 22))] []
  have h0 : Ch [29, 33] [] w w := Ch.rf
  have q0 : (0 : Int32).toInt = 0 := by decide
  have q42 : (42 : Int32).toInt = 42 := by decide
  have LP2 : ∀ (f3 : Nat) (u1 : Int32) (w4 : Wv), Ch [29, 33] [] w w4 → Inv RC w4 → (0 ≤ u1.toInt ∧ u1.toInt ≤ 2147483647) → 2147483647 - u1.toInt < f3 → V x 0 0 w4 2 [(0, .ref (gz (xG x) + 28)), (1, .ref (gz (xG x) + 22)), (2, .int u1)] [] := by
    intro f3
    induction f3 with
    | zero => intro u1 w4 h5 o6 z7 z8; exfalso; omega
    | succ f3 ih9 =>
      intro u1 w4 h5 o6 z7 z8
      refine r_iload_n 2 C dX1_takeWhats_2 rfl ?_
      refine r_bipush (v := 42) C dX1_takeWhats_3 (by decide) ?_
      have k11 := i_rng u1
      refine r_icmp_ge 29 C dX1_takeWhats_5 (by decide) (fun c10 => ?_) (fun c10 => ?_)
      · have c10' := i_le c10
        refine r_aload_n 0 C dX1_takeWhats_29 rfl ?_
        refine callVV C cwX1_62_V (ctX1_forgetWays_28 _ _ w4 (sS sC h5) o6  ) (by decide) (kS sC h5 kc_28) rfl rfl rfl (Nat.le_of_ble_eq_true rfl) (by decide) dX1_takeWhats_30 (fun w13 y12 => ?_)
        show V x 0 0 w13 33 [(0, .ref (gz (xG x) + 28)), (1, .ref (gz (xG x) + 22)), (2, .int u1)] []
        obtain ⟨h15, o16⟩ := y12
        have h17 := Ch.tr h5 h15 (by decide) (by decide)
        exact hret _ _ _ dX1_takeWhats_33 ⟨h17, o16⟩
      · have c10' := i_nle c10
        refine r_iload_n 2 C dX1_takeWhats_8 rfl ?_
        refine r_aload_n 1 C dX1_takeWhats_9 rfl ?_
        refine r_alen 0 0 rfl C (kS sC h5 kc_22) (v := 42) (by decide) dX1_takeWhats_10 ?_
        refine r_icmp_ge 29 C dX1_takeWhats_11 (by decide) (fun c18 => ?_) (fun c18 => ?_)
        · have c18' := i_le c18
          exfalso; omega
        · have c18' := i_nle c18
          refine r_aload_n 0 C dX1_takeWhats_14 rfl ?_
          refine gfX1_9 29 C (kS sC h5 kc_28) (xS sC h5 xc_28_1) dX1_takeWhats_15 ?_
          refine r_iload_n 2 C dX1_takeWhats_18 rfl ?_
          refine r_aload_n 1 C dX1_takeWhats_19 rfl ?_
          refine r_iload_n 2 C dX1_takeWhats_20 rfl ?_
          refine r_iald C (kS sC h5 kc_22) (vin (by omega) (by omega)) dX1_takeWhats_21 ?_
          generalize (wI w4 22 (u1).toNatClampNeg) = v19
          refine r_iast C (kS sC h5 kc_29) (vin (by omega) (by omega)) dX1_takeWhats_22 (fun w20 e21 => ?_)
          have h22 := Ch.putS h5 e21 (by decide)
          have o23 := Inv.put0 o6 e21 (by decide)
          obtain ⟨i24, e25⟩ : ∃ z : Int32, u1 + Int32.ofInt 1 = z := ⟨_, rfl⟩
          have i24' := iinc_ok e25 (by decide) (by omega) (by omega)
          refine r_iinc [(2, .int i24), (0, .ref (gz (xG x) + 28)), (1, .ref (gz (xG x) + 22))] 2 C dX1_takeWhats_23 rfl e25 (by decide) rfl ?_
          refine r_goto 2 C dX1_takeWhats_26 (by decide) ?_
          refine r_lv [1, 2, 0] rfl ?_
          exact ih9 i24 w20 h22 o23 (by omega) (by omega)
  refine r_iconst (v := 0) C dX1_takeWhats_0 (by decide) ?_
  refine r_istore_n [(2, .int 0), (0, .ref (gz (xG x) + 28)), (1, .ref (gz (xG x) + 22))] C dX1_takeWhats_1 (by decide) rfl ?_
  refine r_lv [1, 2, 0] rfl ?_
  exact LP2 4294967296 0 w h0 o0 (by omega) (by omega)
set_option maxHeartbeats 4000000 in
set_option maxRecDepth 100000 in
theorem ctX1_layCell_28 (l : Launch) (G : Gt) (w : Wv) (sC : Str KC XC w) (o0 : Inv RC w) (a1 : Int32) (a2 : Int32) (b1 : 0 ≤ a1.toInt ∧ a1.toInt ≤ 8) (b2 : 0 ≤ a2.toInt ∧ a2.toInt ≤ 8) : CtV l G yX1_layCell cX1_layCell 4 ({ frames := 0, cells := 0, slots := 0, locals := 0 } : Room) [.ref (gz G + 28), .int a1, .int a2] w (fun w' => Ch [30, 31] [] w w' ∧ Inv RC w') := by
  refine enterV (by decide) (Nat.le_of_ble_eq_true rfl) ?_
  intro x el eG C hnm hret
  subst el; subst eG
  show V x 0 0 w 0 [(0, .ref (gz (xG x) + 28)), (1, .int a1), (2, .int a2)] []
  have h0 : Ch [30, 31] [] w w := Ch.rf
  have qm1 : ((-1) : Int32).toInt = (-1) := by decide
  have q0 : (0 : Int32).toInt = 0 := by decide
  have q1 : (1 : Int32).toInt = 1 := by decide
  have q2 : (2 : Int32).toInt = 2 := by decide
  have q3 : (3 : Int32).toInt = 3 := by decide
  have q4 : (4 : Int32).toInt = 4 := by decide
  have q10 : (10 : Int32).toInt = 10 := by decide
  have q42 : (42 : Int32).toInt = 42 := by decide
  refine r_iload_n 2 C dX1_layCell_0 rfl ?_
  refine r_aload_n 0 C dX1_layCell_1 rfl ?_
  refine gfX1_37 (v := (wI w 28 2)) C (kS sC h0 kc_28) rfl dX1_layCell_2 ?_
  have b1 := Inv.get o0 rt_28_2 (j := 2) (by decide) (by decide)
  refine r_imul C dX1_layCell_5 (fun v2 e3 => ?_)
  have v2' := imul_rng e3 (A := 8) (B := 9) (by omega) (by omega) (by decide)
  refine r_iload_n 1 C dX1_layCell_6 rfl ?_
  refine r_iadd C dX1_layCell_7 (fun v4 e5 => ?_)
  have v4' := iadd_ok e5 (by omega) (by omega)
  refine r_istore_n [(3, .int v4), (0, .ref (gz (xG x) + 28)), (1, .int a1), (2, .int a2)] C dX1_layCell_8 (by decide) rfl ?_
  refine r_iload_n 0 C dX1_layCell_9 rfl ?_
  refine r_bipush (v := 42) C dX1_layCell_10 (by decide) ?_
  refine r_icmp_lt 16 C dX1_layCell_12 (by decide) (fun c6 => ?_) (fun c6 => ?_)
  · have c6' := i_lt c6
    refine r_aload_n 1 C dX1_layCell_16 rfl ?_
    refine gfX1_15 30 C (kS sC h0 kc_28) (xS sC h0 xc_28_4) dX1_layCell_17 ?_
    refine r_iload_n 0 C dX1_layCell_20 rfl ?_
    refine r_bipush (v := 10) C dX1_layCell_21 (by decide) ?_
    refine r_iload_n 2 C dX1_layCell_23 rfl ?_
    refine r_imul C dX1_layCell_24 (fun v7 e8 => ?_)
    have k9 : (10 : Int32).toInt = 10 := by omega
    have v7' := imul_ok e8 (by rw [k9]; omega) (by rw [k9]; omega)
    rw [k9] at v7'
    refine r_iload_n 3 C dX1_layCell_25 rfl ?_
    refine r_iadd C dX1_layCell_26 (fun v10 e11 => ?_)
    have v10' := iadd_ok e11 (by omega) (by omega)
    refine r_iast C (kS sC h0 kc_30) (vin (by omega) (by omega)) dX1_layCell_27 (fun w12 e13 => ?_)
    have h14 := Ch.putS h0 e13 (by decide)
    have o15 := Inv.put0 o0 e13 (by decide)
    refine r_aload_n 1 C dX1_layCell_28 rfl ?_
    refine gfX1_18 31 C (kS sC h14 kc_28) (xS sC h14 xc_28_5) dX1_layCell_29 ?_
    refine r_iload_n 0 C dX1_layCell_32 rfl ?_
    refine r_iconst (v := 4) C dX1_layCell_33 (by decide) ?_
    refine r_imul C dX1_layCell_34 (fun v16 e17 => ?_)
    have k18 : (4 : Int32).toInt = 4 := by omega
    have v16' := imul_ok e17 (by rw [k18]; omega) (by rw [k18]; omega)
    rw [k18] at v16'
    refine r_iload_n 3 C dX1_layCell_35 rfl ?_
    refine r_if_le 48 C dX1_layCell_36 (by decide) (fun c19 => ?_) (fun c19 => ?_)
    · have c19' := i_le c19
      refine r_iconst (v := (-1)) C dX1_layCell_48 (by decide) ?_
      refine r_iast C (kS sC h14 kc_31) (vin (by omega) (by omega)) dX1_layCell_49 (fun w20 e21 => ?_)
      have h22 := Ch.putS h14 e21 (by decide)
      have o23 := Inv.put0 o15 e21 (by decide)
      refine r_aload_n 1 C dX1_layCell_50 rfl ?_
      refine gfX1_18 31 C (kS sC h22 kc_28) (xS sC h22 xc_28_5) dX1_layCell_51 ?_
      refine r_iload_n 0 C dX1_layCell_54 rfl ?_
      refine r_iconst (v := 4) C dX1_layCell_55 (by decide) ?_
      refine r_imul C dX1_layCell_56 (fun v24 e25 => ?_)
      have k26 : (4 : Int32).toInt = 4 := by omega
      have v24' := imul_ok e25 (by rw [k26]; omega) (by rw [k26]; omega)
      rw [k26] at v24'
      refine r_iconst (v := 1) C dX1_layCell_57 (by decide) ?_
      refine r_iadd C dX1_layCell_58 (fun v27 e28 => ?_)
      have v27' := iadd_ok e28 (by omega) (by omega)
      refine r_iload_n 2 C dX1_layCell_59 rfl ?_
      refine r_aload_n 1 C dX1_layCell_60 rfl ?_
      refine gfX1_37 (v := (wI w 28 2)) C (kS sC h22 kc_28) (g_nn e21 (by decide) (g_nn e13 (by decide) rfl)) dX1_layCell_61 ?_
      refine r_iconst (v := 1) C dX1_layCell_64 (by decide) ?_
      refine r_isub C dX1_layCell_65 (fun v29 e30 => ?_)
      have v29' := isub_ok e30 (by omega) (by omega)
      refine r_icmp_ge 75 C dX1_layCell_66 (by decide) (fun c31 => ?_) (fun c31 => ?_)
      · have c31' := i_le c31
        refine r_iconst (v := (-1)) C dX1_layCell_75 (by decide) ?_
        refine r_iast C (kS sC h22 kc_31) (vin (by omega) (by omega)) dX1_layCell_76 (fun w32 e33 => ?_)
        have h34 := Ch.putS h22 e33 (by decide)
        have o35 := Inv.put0 o23 e33 (by decide)
        refine r_aload_n 1 C dX1_layCell_77 rfl ?_
        refine gfX1_18 31 C (kS sC h34 kc_28) (xS sC h34 xc_28_5) dX1_layCell_78 ?_
        refine r_iload_n 0 C dX1_layCell_81 rfl ?_
        refine r_iconst (v := 4) C dX1_layCell_82 (by decide) ?_
        refine r_imul C dX1_layCell_83 (fun v36 e37 => ?_)
        have k38 : (4 : Int32).toInt = 4 := by omega
        have v36' := imul_ok e37 (by rw [k38]; omega) (by rw [k38]; omega)
        rw [k38] at v36'
        refine r_iconst (v := 2) C dX1_layCell_84 (by decide) ?_
        refine r_iadd C dX1_layCell_85 (fun v39 e40 => ?_)
        have v39' := iadd_ok e40 (by omega) (by omega)
        refine r_iload_n 3 C dX1_layCell_86 rfl ?_
        refine r_aload_n 1 C dX1_layCell_87 rfl ?_
        refine gfX1_41 (v := (wI w 28 3)) C (kS sC h34 kc_28) (g_nn e33 (by decide) (g_nn e21 (by decide) (g_nn e13 (by decide) rfl))) dX1_layCell_88 ?_
        have b41 := Inv.get o0 rt_28_3 (j := 3) (by decide) (by decide)
        refine r_iconst (v := 1) C dX1_layCell_91 (by decide) ?_
        refine r_isub C dX1_layCell_92 (fun v42 e43 => ?_)
        have v42' := isub_ok e43 (by omega) (by omega)
        refine r_icmp_ge 105 C dX1_layCell_93 (by decide) (fun c44 => ?_) (fun c44 => ?_)
        · have c44' := i_le c44
          refine r_iconst (v := (-1)) C dX1_layCell_105 (by decide) ?_
          refine r_iast C (kS sC h34 kc_31) (vin (by omega) (by omega)) dX1_layCell_106 (fun w45 e46 => ?_)
          have h47 := Ch.putS h34 e46 (by decide)
          have o48 := Inv.put0 o35 e46 (by decide)
          refine r_aload_n 1 C dX1_layCell_107 rfl ?_
          refine gfX1_18 31 C (kS sC h47 kc_28) (xS sC h47 xc_28_5) dX1_layCell_108 ?_
          refine r_iload_n 0 C dX1_layCell_111 rfl ?_
          refine r_iconst (v := 4) C dX1_layCell_112 (by decide) ?_
          refine r_imul C dX1_layCell_113 (fun v49 e50 => ?_)
          have k51 : (4 : Int32).toInt = 4 := by omega
          have v49' := imul_ok e50 (by rw [k51]; omega) (by rw [k51]; omega)
          rw [k51] at v49'
          refine r_iconst (v := 3) C dX1_layCell_114 (by decide) ?_
          refine r_iadd C dX1_layCell_115 (fun v52 e53 => ?_)
          have v52' := iadd_ok e53 (by omega) (by omega)
          refine r_iload_n 2 C dX1_layCell_116 rfl ?_
          refine r_if_le 126 C dX1_layCell_117 (by decide) (fun c54 => ?_) (fun c54 => ?_)
          · have c54' := i_le c54
            refine r_iconst (v := (-1)) C dX1_layCell_126 (by decide) ?_
            refine r_iast C (kS sC h47 kc_31) (vin (by omega) (by omega)) dX1_layCell_127 (fun w55 e56 => ?_)
            have h57 := Ch.putS h47 e56 (by decide)
            have o58 := Inv.put0 o48 e56 (by decide)
            exact hret _ _ _ dX1_layCell_128 ⟨h57, o58⟩
          · have c54' := i_nle c54
            refine r_iload_n 0 C dX1_layCell_120 rfl ?_
            refine r_iconst (v := 1) C dX1_layCell_121 (by decide) ?_
            refine r_isub C dX1_layCell_122 (fun v59 e60 => ?_)
            have v59' := isub_ok e60 (by omega) (by omega)
            refine r_goto 127 C dX1_layCell_123 (by decide) ?_
            refine r_iast C (kS sC h47 kc_31) (vin (by omega) (by omega)) dX1_layCell_127 (fun w61 e62 => ?_)
            have h63 := Ch.putS h47 e62 (by decide)
            have o64 := Inv.put0 o48 e62 (by decide)
            exact hret _ _ _ dX1_layCell_128 ⟨h63, o64⟩
        · have c44' := i_nle c44
          refine r_iload_n 0 C dX1_layCell_96 rfl ?_
          refine r_aload_n 1 C dX1_layCell_97 rfl ?_
          refine gfX1_37 (v := (wI w 28 2)) C (kS sC h34 kc_28) (g_nn e33 (by decide) (g_nn e21 (by decide) (g_nn e13 (by decide) rfl))) dX1_layCell_98 ?_
          refine r_iadd C dX1_layCell_101 (fun v65 e66 => ?_)
          have v65' := iadd_ok e66 (by omega) (by omega)
          refine r_goto 106 C dX1_layCell_102 (by decide) ?_
          refine r_iast C (kS sC h34 kc_31) (vin (by omega) (by omega)) dX1_layCell_106 (fun w67 e68 => ?_)
          have h69 := Ch.putS h34 e68 (by decide)
          have o70 := Inv.put0 o35 e68 (by decide)
          refine r_aload_n 1 C dX1_layCell_107 rfl ?_
          refine gfX1_18 31 C (kS sC h69 kc_28) (xS sC h69 xc_28_5) dX1_layCell_108 ?_
          refine r_iload_n 0 C dX1_layCell_111 rfl ?_
          refine r_iconst (v := 4) C dX1_layCell_112 (by decide) ?_
          refine r_imul C dX1_layCell_113 (fun v71 e72 => ?_)
          have k73 : (4 : Int32).toInt = 4 := by omega
          have v71' := imul_ok e72 (by rw [k73]; omega) (by rw [k73]; omega)
          rw [k73] at v71'
          refine r_iconst (v := 3) C dX1_layCell_114 (by decide) ?_
          refine r_iadd C dX1_layCell_115 (fun v74 e75 => ?_)
          have v74' := iadd_ok e75 (by omega) (by omega)
          refine r_iload_n 2 C dX1_layCell_116 rfl ?_
          refine r_if_le 126 C dX1_layCell_117 (by decide) (fun c76 => ?_) (fun c76 => ?_)
          · have c76' := i_le c76
            refine r_iconst (v := (-1)) C dX1_layCell_126 (by decide) ?_
            refine r_iast C (kS sC h69 kc_31) (vin (by omega) (by omega)) dX1_layCell_127 (fun w77 e78 => ?_)
            have h79 := Ch.putS h69 e78 (by decide)
            have o80 := Inv.put0 o70 e78 (by decide)
            exact hret _ _ _ dX1_layCell_128 ⟨h79, o80⟩
          · have c76' := i_nle c76
            refine r_iload_n 0 C dX1_layCell_120 rfl ?_
            refine r_iconst (v := 1) C dX1_layCell_121 (by decide) ?_
            refine r_isub C dX1_layCell_122 (fun v81 e82 => ?_)
            have v81' := isub_ok e82 (by omega) (by omega)
            refine r_goto 127 C dX1_layCell_123 (by decide) ?_
            refine r_iast C (kS sC h69 kc_31) (vin (by omega) (by omega)) dX1_layCell_127 (fun w83 e84 => ?_)
            have h85 := Ch.putS h69 e84 (by decide)
            have o86 := Inv.put0 o70 e84 (by decide)
            exact hret _ _ _ dX1_layCell_128 ⟨h85, o86⟩
      · have c31' := i_nle c31
        refine r_iload_n 0 C dX1_layCell_69 rfl ?_
        refine r_iconst (v := 1) C dX1_layCell_70 (by decide) ?_
        refine r_iadd C dX1_layCell_71 (fun v87 e88 => ?_)
        have v87' := iadd_ok e88 (by omega) (by omega)
        refine r_goto 76 C dX1_layCell_72 (by decide) ?_
        refine r_iast C (kS sC h22 kc_31) (vin (by omega) (by omega)) dX1_layCell_76 (fun w89 e90 => ?_)
        have h91 := Ch.putS h22 e90 (by decide)
        have o92 := Inv.put0 o23 e90 (by decide)
        refine r_aload_n 1 C dX1_layCell_77 rfl ?_
        refine gfX1_18 31 C (kS sC h91 kc_28) (xS sC h91 xc_28_5) dX1_layCell_78 ?_
        refine r_iload_n 0 C dX1_layCell_81 rfl ?_
        refine r_iconst (v := 4) C dX1_layCell_82 (by decide) ?_
        refine r_imul C dX1_layCell_83 (fun v93 e94 => ?_)
        have k95 : (4 : Int32).toInt = 4 := by omega
        have v93' := imul_ok e94 (by rw [k95]; omega) (by rw [k95]; omega)
        rw [k95] at v93'
        refine r_iconst (v := 2) C dX1_layCell_84 (by decide) ?_
        refine r_iadd C dX1_layCell_85 (fun v96 e97 => ?_)
        have v96' := iadd_ok e97 (by omega) (by omega)
        refine r_iload_n 3 C dX1_layCell_86 rfl ?_
        refine r_aload_n 1 C dX1_layCell_87 rfl ?_
        refine gfX1_41 (v := (wI w 28 3)) C (kS sC h91 kc_28) (g_nn e90 (by decide) (g_nn e21 (by decide) (g_nn e13 (by decide) rfl))) dX1_layCell_88 ?_
        have b98 := Inv.get o0 rt_28_3 (j := 3) (by decide) (by decide)
        refine r_iconst (v := 1) C dX1_layCell_91 (by decide) ?_
        refine r_isub C dX1_layCell_92 (fun v99 e100 => ?_)
        have v99' := isub_ok e100 (by omega) (by omega)
        refine r_icmp_ge 105 C dX1_layCell_93 (by decide) (fun c101 => ?_) (fun c101 => ?_)
        · have c101' := i_le c101
          refine r_iconst (v := (-1)) C dX1_layCell_105 (by decide) ?_
          refine r_iast C (kS sC h91 kc_31) (vin (by omega) (by omega)) dX1_layCell_106 (fun w102 e103 => ?_)
          have h104 := Ch.putS h91 e103 (by decide)
          have o105 := Inv.put0 o92 e103 (by decide)
          refine r_aload_n 1 C dX1_layCell_107 rfl ?_
          refine gfX1_18 31 C (kS sC h104 kc_28) (xS sC h104 xc_28_5) dX1_layCell_108 ?_
          refine r_iload_n 0 C dX1_layCell_111 rfl ?_
          refine r_iconst (v := 4) C dX1_layCell_112 (by decide) ?_
          refine r_imul C dX1_layCell_113 (fun v106 e107 => ?_)
          have k108 : (4 : Int32).toInt = 4 := by omega
          have v106' := imul_ok e107 (by rw [k108]; omega) (by rw [k108]; omega)
          rw [k108] at v106'
          refine r_iconst (v := 3) C dX1_layCell_114 (by decide) ?_
          refine r_iadd C dX1_layCell_115 (fun v109 e110 => ?_)
          have v109' := iadd_ok e110 (by omega) (by omega)
          refine r_iload_n 2 C dX1_layCell_116 rfl ?_
          refine r_if_le 126 C dX1_layCell_117 (by decide) (fun c111 => ?_) (fun c111 => ?_)
          · have c111' := i_le c111
            refine r_iconst (v := (-1)) C dX1_layCell_126 (by decide) ?_
            refine r_iast C (kS sC h104 kc_31) (vin (by omega) (by omega)) dX1_layCell_127 (fun w112 e113 => ?_)
            have h114 := Ch.putS h104 e113 (by decide)
            have o115 := Inv.put0 o105 e113 (by decide)
            exact hret _ _ _ dX1_layCell_128 ⟨h114, o115⟩
          · have c111' := i_nle c111
            refine r_iload_n 0 C dX1_layCell_120 rfl ?_
            refine r_iconst (v := 1) C dX1_layCell_121 (by decide) ?_
            refine r_isub C dX1_layCell_122 (fun v116 e117 => ?_)
            have v116' := isub_ok e117 (by omega) (by omega)
            refine r_goto 127 C dX1_layCell_123 (by decide) ?_
            refine r_iast C (kS sC h104 kc_31) (vin (by omega) (by omega)) dX1_layCell_127 (fun w118 e119 => ?_)
            have h120 := Ch.putS h104 e119 (by decide)
            have o121 := Inv.put0 o105 e119 (by decide)
            exact hret _ _ _ dX1_layCell_128 ⟨h120, o121⟩
        · have c101' := i_nle c101
          refine r_iload_n 0 C dX1_layCell_96 rfl ?_
          refine r_aload_n 1 C dX1_layCell_97 rfl ?_
          refine gfX1_37 (v := (wI w 28 2)) C (kS sC h91 kc_28) (g_nn e90 (by decide) (g_nn e21 (by decide) (g_nn e13 (by decide) rfl))) dX1_layCell_98 ?_
          refine r_iadd C dX1_layCell_101 (fun v122 e123 => ?_)
          have v122' := iadd_ok e123 (by omega) (by omega)
          refine r_goto 106 C dX1_layCell_102 (by decide) ?_
          refine r_iast C (kS sC h91 kc_31) (vin (by omega) (by omega)) dX1_layCell_106 (fun w124 e125 => ?_)
          have h126 := Ch.putS h91 e125 (by decide)
          have o127 := Inv.put0 o92 e125 (by decide)
          refine r_aload_n 1 C dX1_layCell_107 rfl ?_
          refine gfX1_18 31 C (kS sC h126 kc_28) (xS sC h126 xc_28_5) dX1_layCell_108 ?_
          refine r_iload_n 0 C dX1_layCell_111 rfl ?_
          refine r_iconst (v := 4) C dX1_layCell_112 (by decide) ?_
          refine r_imul C dX1_layCell_113 (fun v128 e129 => ?_)
          have k130 : (4 : Int32).toInt = 4 := by omega
          have v128' := imul_ok e129 (by rw [k130]; omega) (by rw [k130]; omega)
          rw [k130] at v128'
          refine r_iconst (v := 3) C dX1_layCell_114 (by decide) ?_
          refine r_iadd C dX1_layCell_115 (fun v131 e132 => ?_)
          have v131' := iadd_ok e132 (by omega) (by omega)
          refine r_iload_n 2 C dX1_layCell_116 rfl ?_
          refine r_if_le 126 C dX1_layCell_117 (by decide) (fun c133 => ?_) (fun c133 => ?_)
          · have c133' := i_le c133
            refine r_iconst (v := (-1)) C dX1_layCell_126 (by decide) ?_
            refine r_iast C (kS sC h126 kc_31) (vin (by omega) (by omega)) dX1_layCell_127 (fun w134 e135 => ?_)
            have h136 := Ch.putS h126 e135 (by decide)
            have o137 := Inv.put0 o127 e135 (by decide)
            exact hret _ _ _ dX1_layCell_128 ⟨h136, o137⟩
          · have c133' := i_nle c133
            refine r_iload_n 0 C dX1_layCell_120 rfl ?_
            refine r_iconst (v := 1) C dX1_layCell_121 (by decide) ?_
            refine r_isub C dX1_layCell_122 (fun v138 e139 => ?_)
            have v138' := isub_ok e139 (by omega) (by omega)
            refine r_goto 127 C dX1_layCell_123 (by decide) ?_
            refine r_iast C (kS sC h126 kc_31) (vin (by omega) (by omega)) dX1_layCell_127 (fun w140 e141 => ?_)
            have h142 := Ch.putS h126 e141 (by decide)
            have o143 := Inv.put0 o127 e141 (by decide)
            exact hret _ _ _ dX1_layCell_128 ⟨h142, o143⟩
    · have c19' := i_nle c19
      refine r_iload_n 0 C dX1_layCell_39 rfl ?_
      refine r_aload_n 1 C dX1_layCell_40 rfl ?_
      refine gfX1_37 (v := (wI w 28 2)) C (kS sC h14 kc_28) (g_nn e13 (by decide) rfl) dX1_layCell_41 ?_
      refine r_isub C dX1_layCell_44 (fun v144 e145 => ?_)
      have v144' := isub_ok e145 (by omega) (by omega)
      refine r_goto 49 C dX1_layCell_45 (by decide) ?_
      refine r_iast C (kS sC h14 kc_31) (vin (by omega) (by omega)) dX1_layCell_49 (fun w146 e147 => ?_)
      have h148 := Ch.putS h14 e147 (by decide)
      have o149 := Inv.put0 o15 e147 (by decide)
      refine r_aload_n 1 C dX1_layCell_50 rfl ?_
      refine gfX1_18 31 C (kS sC h148 kc_28) (xS sC h148 xc_28_5) dX1_layCell_51 ?_
      refine r_iload_n 0 C dX1_layCell_54 rfl ?_
      refine r_iconst (v := 4) C dX1_layCell_55 (by decide) ?_
      refine r_imul C dX1_layCell_56 (fun v150 e151 => ?_)
      have k152 : (4 : Int32).toInt = 4 := by omega
      have v150' := imul_ok e151 (by rw [k152]; omega) (by rw [k152]; omega)
      rw [k152] at v150'
      refine r_iconst (v := 1) C dX1_layCell_57 (by decide) ?_
      refine r_iadd C dX1_layCell_58 (fun v153 e154 => ?_)
      have v153' := iadd_ok e154 (by omega) (by omega)
      refine r_iload_n 2 C dX1_layCell_59 rfl ?_
      refine r_aload_n 1 C dX1_layCell_60 rfl ?_
      refine gfX1_37 (v := (wI w 28 2)) C (kS sC h148 kc_28) (g_nn e147 (by decide) (g_nn e13 (by decide) rfl)) dX1_layCell_61 ?_
      refine r_iconst (v := 1) C dX1_layCell_64 (by decide) ?_
      refine r_isub C dX1_layCell_65 (fun v155 e156 => ?_)
      have v155' := isub_ok e156 (by omega) (by omega)
      refine r_icmp_ge 75 C dX1_layCell_66 (by decide) (fun c157 => ?_) (fun c157 => ?_)
      · have c157' := i_le c157
        refine r_iconst (v := (-1)) C dX1_layCell_75 (by decide) ?_
        refine r_iast C (kS sC h148 kc_31) (vin (by omega) (by omega)) dX1_layCell_76 (fun w158 e159 => ?_)
        have h160 := Ch.putS h148 e159 (by decide)
        have o161 := Inv.put0 o149 e159 (by decide)
        refine r_aload_n 1 C dX1_layCell_77 rfl ?_
        refine gfX1_18 31 C (kS sC h160 kc_28) (xS sC h160 xc_28_5) dX1_layCell_78 ?_
        refine r_iload_n 0 C dX1_layCell_81 rfl ?_
        refine r_iconst (v := 4) C dX1_layCell_82 (by decide) ?_
        refine r_imul C dX1_layCell_83 (fun v162 e163 => ?_)
        have k164 : (4 : Int32).toInt = 4 := by omega
        have v162' := imul_ok e163 (by rw [k164]; omega) (by rw [k164]; omega)
        rw [k164] at v162'
        refine r_iconst (v := 2) C dX1_layCell_84 (by decide) ?_
        refine r_iadd C dX1_layCell_85 (fun v165 e166 => ?_)
        have v165' := iadd_ok e166 (by omega) (by omega)
        refine r_iload_n 3 C dX1_layCell_86 rfl ?_
        refine r_aload_n 1 C dX1_layCell_87 rfl ?_
        refine gfX1_41 (v := (wI w 28 3)) C (kS sC h160 kc_28) (g_nn e159 (by decide) (g_nn e147 (by decide) (g_nn e13 (by decide) rfl))) dX1_layCell_88 ?_
        have b167 := Inv.get o0 rt_28_3 (j := 3) (by decide) (by decide)
        refine r_iconst (v := 1) C dX1_layCell_91 (by decide) ?_
        refine r_isub C dX1_layCell_92 (fun v168 e169 => ?_)
        have v168' := isub_ok e169 (by omega) (by omega)
        refine r_icmp_ge 105 C dX1_layCell_93 (by decide) (fun c170 => ?_) (fun c170 => ?_)
        · have c170' := i_le c170
          refine r_iconst (v := (-1)) C dX1_layCell_105 (by decide) ?_
          refine r_iast C (kS sC h160 kc_31) (vin (by omega) (by omega)) dX1_layCell_106 (fun w171 e172 => ?_)
          have h173 := Ch.putS h160 e172 (by decide)
          have o174 := Inv.put0 o161 e172 (by decide)
          refine r_aload_n 1 C dX1_layCell_107 rfl ?_
          refine gfX1_18 31 C (kS sC h173 kc_28) (xS sC h173 xc_28_5) dX1_layCell_108 ?_
          refine r_iload_n 0 C dX1_layCell_111 rfl ?_
          refine r_iconst (v := 4) C dX1_layCell_112 (by decide) ?_
          refine r_imul C dX1_layCell_113 (fun v175 e176 => ?_)
          have k177 : (4 : Int32).toInt = 4 := by omega
          have v175' := imul_ok e176 (by rw [k177]; omega) (by rw [k177]; omega)
          rw [k177] at v175'
          refine r_iconst (v := 3) C dX1_layCell_114 (by decide) ?_
          refine r_iadd C dX1_layCell_115 (fun v178 e179 => ?_)
          have v178' := iadd_ok e179 (by omega) (by omega)
          refine r_iload_n 2 C dX1_layCell_116 rfl ?_
          refine r_if_le 126 C dX1_layCell_117 (by decide) (fun c180 => ?_) (fun c180 => ?_)
          · have c180' := i_le c180
            refine r_iconst (v := (-1)) C dX1_layCell_126 (by decide) ?_
            refine r_iast C (kS sC h173 kc_31) (vin (by omega) (by omega)) dX1_layCell_127 (fun w181 e182 => ?_)
            have h183 := Ch.putS h173 e182 (by decide)
            have o184 := Inv.put0 o174 e182 (by decide)
            exact hret _ _ _ dX1_layCell_128 ⟨h183, o184⟩
          · have c180' := i_nle c180
            refine r_iload_n 0 C dX1_layCell_120 rfl ?_
            refine r_iconst (v := 1) C dX1_layCell_121 (by decide) ?_
            refine r_isub C dX1_layCell_122 (fun v185 e186 => ?_)
            have v185' := isub_ok e186 (by omega) (by omega)
            refine r_goto 127 C dX1_layCell_123 (by decide) ?_
            refine r_iast C (kS sC h173 kc_31) (vin (by omega) (by omega)) dX1_layCell_127 (fun w187 e188 => ?_)
            have h189 := Ch.putS h173 e188 (by decide)
            have o190 := Inv.put0 o174 e188 (by decide)
            exact hret _ _ _ dX1_layCell_128 ⟨h189, o190⟩
        · have c170' := i_nle c170
          refine r_iload_n 0 C dX1_layCell_96 rfl ?_
          refine r_aload_n 1 C dX1_layCell_97 rfl ?_
          refine gfX1_37 (v := (wI w 28 2)) C (kS sC h160 kc_28) (g_nn e159 (by decide) (g_nn e147 (by decide) (g_nn e13 (by decide) rfl))) dX1_layCell_98 ?_
          refine r_iadd C dX1_layCell_101 (fun v191 e192 => ?_)
          have v191' := iadd_ok e192 (by omega) (by omega)
          refine r_goto 106 C dX1_layCell_102 (by decide) ?_
          refine r_iast C (kS sC h160 kc_31) (vin (by omega) (by omega)) dX1_layCell_106 (fun w193 e194 => ?_)
          have h195 := Ch.putS h160 e194 (by decide)
          have o196 := Inv.put0 o161 e194 (by decide)
          refine r_aload_n 1 C dX1_layCell_107 rfl ?_
          refine gfX1_18 31 C (kS sC h195 kc_28) (xS sC h195 xc_28_5) dX1_layCell_108 ?_
          refine r_iload_n 0 C dX1_layCell_111 rfl ?_
          refine r_iconst (v := 4) C dX1_layCell_112 (by decide) ?_
          refine r_imul C dX1_layCell_113 (fun v197 e198 => ?_)
          have k199 : (4 : Int32).toInt = 4 := by omega
          have v197' := imul_ok e198 (by rw [k199]; omega) (by rw [k199]; omega)
          rw [k199] at v197'
          refine r_iconst (v := 3) C dX1_layCell_114 (by decide) ?_
          refine r_iadd C dX1_layCell_115 (fun v200 e201 => ?_)
          have v200' := iadd_ok e201 (by omega) (by omega)
          refine r_iload_n 2 C dX1_layCell_116 rfl ?_
          refine r_if_le 126 C dX1_layCell_117 (by decide) (fun c202 => ?_) (fun c202 => ?_)
          · have c202' := i_le c202
            refine r_iconst (v := (-1)) C dX1_layCell_126 (by decide) ?_
            refine r_iast C (kS sC h195 kc_31) (vin (by omega) (by omega)) dX1_layCell_127 (fun w203 e204 => ?_)
            have h205 := Ch.putS h195 e204 (by decide)
            have o206 := Inv.put0 o196 e204 (by decide)
            exact hret _ _ _ dX1_layCell_128 ⟨h205, o206⟩
          · have c202' := i_nle c202
            refine r_iload_n 0 C dX1_layCell_120 rfl ?_
            refine r_iconst (v := 1) C dX1_layCell_121 (by decide) ?_
            refine r_isub C dX1_layCell_122 (fun v207 e208 => ?_)
            have v207' := isub_ok e208 (by omega) (by omega)
            refine r_goto 127 C dX1_layCell_123 (by decide) ?_
            refine r_iast C (kS sC h195 kc_31) (vin (by omega) (by omega)) dX1_layCell_127 (fun w209 e210 => ?_)
            have h211 := Ch.putS h195 e210 (by decide)
            have o212 := Inv.put0 o196 e210 (by decide)
            exact hret _ _ _ dX1_layCell_128 ⟨h211, o212⟩
      · have c157' := i_nle c157
        refine r_iload_n 0 C dX1_layCell_69 rfl ?_
        refine r_iconst (v := 1) C dX1_layCell_70 (by decide) ?_
        refine r_iadd C dX1_layCell_71 (fun v213 e214 => ?_)
        have v213' := iadd_ok e214 (by omega) (by omega)
        refine r_goto 76 C dX1_layCell_72 (by decide) ?_
        refine r_iast C (kS sC h148 kc_31) (vin (by omega) (by omega)) dX1_layCell_76 (fun w215 e216 => ?_)
        have h217 := Ch.putS h148 e216 (by decide)
        have o218 := Inv.put0 o149 e216 (by decide)
        refine r_aload_n 1 C dX1_layCell_77 rfl ?_
        refine gfX1_18 31 C (kS sC h217 kc_28) (xS sC h217 xc_28_5) dX1_layCell_78 ?_
        refine r_iload_n 0 C dX1_layCell_81 rfl ?_
        refine r_iconst (v := 4) C dX1_layCell_82 (by decide) ?_
        refine r_imul C dX1_layCell_83 (fun v219 e220 => ?_)
        have k221 : (4 : Int32).toInt = 4 := by omega
        have v219' := imul_ok e220 (by rw [k221]; omega) (by rw [k221]; omega)
        rw [k221] at v219'
        refine r_iconst (v := 2) C dX1_layCell_84 (by decide) ?_
        refine r_iadd C dX1_layCell_85 (fun v222 e223 => ?_)
        have v222' := iadd_ok e223 (by omega) (by omega)
        refine r_iload_n 3 C dX1_layCell_86 rfl ?_
        refine r_aload_n 1 C dX1_layCell_87 rfl ?_
        refine gfX1_41 (v := (wI w 28 3)) C (kS sC h217 kc_28) (g_nn e216 (by decide) (g_nn e147 (by decide) (g_nn e13 (by decide) rfl))) dX1_layCell_88 ?_
        have b224 := Inv.get o0 rt_28_3 (j := 3) (by decide) (by decide)
        refine r_iconst (v := 1) C dX1_layCell_91 (by decide) ?_
        refine r_isub C dX1_layCell_92 (fun v225 e226 => ?_)
        have v225' := isub_ok e226 (by omega) (by omega)
        refine r_icmp_ge 105 C dX1_layCell_93 (by decide) (fun c227 => ?_) (fun c227 => ?_)
        · have c227' := i_le c227
          refine r_iconst (v := (-1)) C dX1_layCell_105 (by decide) ?_
          refine r_iast C (kS sC h217 kc_31) (vin (by omega) (by omega)) dX1_layCell_106 (fun w228 e229 => ?_)
          have h230 := Ch.putS h217 e229 (by decide)
          have o231 := Inv.put0 o218 e229 (by decide)
          refine r_aload_n 1 C dX1_layCell_107 rfl ?_
          refine gfX1_18 31 C (kS sC h230 kc_28) (xS sC h230 xc_28_5) dX1_layCell_108 ?_
          refine r_iload_n 0 C dX1_layCell_111 rfl ?_
          refine r_iconst (v := 4) C dX1_layCell_112 (by decide) ?_
          refine r_imul C dX1_layCell_113 (fun v232 e233 => ?_)
          have k234 : (4 : Int32).toInt = 4 := by omega
          have v232' := imul_ok e233 (by rw [k234]; omega) (by rw [k234]; omega)
          rw [k234] at v232'
          refine r_iconst (v := 3) C dX1_layCell_114 (by decide) ?_
          refine r_iadd C dX1_layCell_115 (fun v235 e236 => ?_)
          have v235' := iadd_ok e236 (by omega) (by omega)
          refine r_iload_n 2 C dX1_layCell_116 rfl ?_
          refine r_if_le 126 C dX1_layCell_117 (by decide) (fun c237 => ?_) (fun c237 => ?_)
          · have c237' := i_le c237
            refine r_iconst (v := (-1)) C dX1_layCell_126 (by decide) ?_
            refine r_iast C (kS sC h230 kc_31) (vin (by omega) (by omega)) dX1_layCell_127 (fun w238 e239 => ?_)
            have h240 := Ch.putS h230 e239 (by decide)
            have o241 := Inv.put0 o231 e239 (by decide)
            exact hret _ _ _ dX1_layCell_128 ⟨h240, o241⟩
          · have c237' := i_nle c237
            refine r_iload_n 0 C dX1_layCell_120 rfl ?_
            refine r_iconst (v := 1) C dX1_layCell_121 (by decide) ?_
            refine r_isub C dX1_layCell_122 (fun v242 e243 => ?_)
            have v242' := isub_ok e243 (by omega) (by omega)
            refine r_goto 127 C dX1_layCell_123 (by decide) ?_
            refine r_iast C (kS sC h230 kc_31) (vin (by omega) (by omega)) dX1_layCell_127 (fun w244 e245 => ?_)
            have h246 := Ch.putS h230 e245 (by decide)
            have o247 := Inv.put0 o231 e245 (by decide)
            exact hret _ _ _ dX1_layCell_128 ⟨h246, o247⟩
        · have c227' := i_nle c227
          refine r_iload_n 0 C dX1_layCell_96 rfl ?_
          refine r_aload_n 1 C dX1_layCell_97 rfl ?_
          refine gfX1_37 (v := (wI w 28 2)) C (kS sC h217 kc_28) (g_nn e216 (by decide) (g_nn e147 (by decide) (g_nn e13 (by decide) rfl))) dX1_layCell_98 ?_
          refine r_iadd C dX1_layCell_101 (fun v248 e249 => ?_)
          have v248' := iadd_ok e249 (by omega) (by omega)
          refine r_goto 106 C dX1_layCell_102 (by decide) ?_
          refine r_iast C (kS sC h217 kc_31) (vin (by omega) (by omega)) dX1_layCell_106 (fun w250 e251 => ?_)
          have h252 := Ch.putS h217 e251 (by decide)
          have o253 := Inv.put0 o218 e251 (by decide)
          refine r_aload_n 1 C dX1_layCell_107 rfl ?_
          refine gfX1_18 31 C (kS sC h252 kc_28) (xS sC h252 xc_28_5) dX1_layCell_108 ?_
          refine r_iload_n 0 C dX1_layCell_111 rfl ?_
          refine r_iconst (v := 4) C dX1_layCell_112 (by decide) ?_
          refine r_imul C dX1_layCell_113 (fun v254 e255 => ?_)
          have k256 : (4 : Int32).toInt = 4 := by omega
          have v254' := imul_ok e255 (by rw [k256]; omega) (by rw [k256]; omega)
          rw [k256] at v254'
          refine r_iconst (v := 3) C dX1_layCell_114 (by decide) ?_
          refine r_iadd C dX1_layCell_115 (fun v257 e258 => ?_)
          have v257' := iadd_ok e258 (by omega) (by omega)
          refine r_iload_n 2 C dX1_layCell_116 rfl ?_
          refine r_if_le 126 C dX1_layCell_117 (by decide) (fun c259 => ?_) (fun c259 => ?_)
          · have c259' := i_le c259
            refine r_iconst (v := (-1)) C dX1_layCell_126 (by decide) ?_
            refine r_iast C (kS sC h252 kc_31) (vin (by omega) (by omega)) dX1_layCell_127 (fun w260 e261 => ?_)
            have h262 := Ch.putS h252 e261 (by decide)
            have o263 := Inv.put0 o253 e261 (by decide)
            exact hret _ _ _ dX1_layCell_128 ⟨h262, o263⟩
          · have c259' := i_nle c259
            refine r_iload_n 0 C dX1_layCell_120 rfl ?_
            refine r_iconst (v := 1) C dX1_layCell_121 (by decide) ?_
            refine r_isub C dX1_layCell_122 (fun v264 e265 => ?_)
            have v264' := isub_ok e265 (by omega) (by omega)
            refine r_goto 127 C dX1_layCell_123 (by decide) ?_
            refine r_iast C (kS sC h252 kc_31) (vin (by omega) (by omega)) dX1_layCell_127 (fun w266 e267 => ?_)
            have h268 := Ch.putS h252 e267 (by decide)
            have o269 := Inv.put0 o253 e267 (by decide)
            exact hret _ _ _ dX1_layCell_128 ⟨h268, o269⟩
  · have c6' := i_nlt c6
    exact hret _ _ _ dX1_layCell_15 ⟨h0, o0⟩
set_option maxHeartbeats 4000000 in
set_option maxRecDepth 100000 in
theorem ctX1_lay_28_3 (l : Launch) (G : Gt) (w : Wv) (sC : Str KC XC w) (o0 : Inv RC w)  : CtV l G yX1_lay cX1_lay 4 ({ frames := 2, cells := 0, slots := 0, locals := 43 } : Room) [.ref (gz G + 28), .ref (gz G + 3)] w (fun w' => Ch [29, 30, 31, 33] [(28, 0), (28, 2), (28, 3)] w w' ∧ Inv RC w') := by
  refine enterV (by decide) (Nat.le_of_ble_eq_true rfl) ?_
  intro x el eG C hnm hret
  subst el; subst eG
  show V x 0 0 w 0 [(0, .ref (gz (xG x) + 28)), (1, .ref (gz (xG x) + 3))] []
  have h0 : Ch [29, 30, 31, 33] [(28, 0), (28, 2), (28, 3)] w w := Ch.rf
  have q0 : (0 : Int32).toInt = 0 := by decide
  have q42 : (42 : Int32).toInt = 42 := by decide
  have LP20 : ∀ (f21 : Nat) (u19 : Int32) (w22 : Wv), Ch [29, 30, 31, 33] [(28, 0), (28, 2), (28, 3)] w w22 → Inv RC w22 → (0 ≤ u19.toInt ∧ u19.toInt ≤ 2147483647) → 2147483647 - u19.toInt < f21 → V x 0 0 w22 36 [(0, .ref (gz (xG x) + 28)), (1, .ref (gz (xG x) + 3)), (2, .int u19)] [] := by
    intro f21
    induction f21 with
    | zero => intro u19 w22 h23 o24 z25 z26; exfalso; omega
    | succ f21 ih27 =>
      intro u19 w22 h23 o24 z25 z26
      have LP38 : ∀ (f39 : Nat) (u37 : Int32) (w40 : Wv), Ch [29, 30, 31, 33] [(28, 0), (28, 2), (28, 3)] w w40 → Inv RC w40 → (0 ≤ u37.toInt ∧ u37.toInt ≤ 2147483647) → (0 ≤ u19.toInt ∧ u19.toInt ≤ 8) → 2147483647 - u37.toInt < f39 → V x 0 0 w40 46 [(0, .ref (gz (xG x) + 28)), (1, .ref (gz (xG x) + 3)), (2, .int u19), (3, .int u37)] [] := by
        intro f39
        induction f39 with
        | zero => intro u37 w40 h41 o42 z43 z44 z45; exfalso; omega
        | succ f39 ih46 =>
          intro u37 w40 h41 o42 z43 z44 z45
          refine r_iload_n 3 C dX1_lay_46 rfl ?_
          refine r_aload_n 0 C dX1_lay_47 rfl ?_
          refine gfX1_37 (v := (wI w40 28 2)) C (kS sC h41 kc_28) rfl dX1_lay_48 ?_
          have b47 := Inv.get o42 rt_28_2 (j := 2) (by decide) (by decide)
          have k49 := i_rng u37
          refine r_icmp_ge 66 C dX1_lay_51 (by decide) (fun c48 => ?_) (fun c48 => ?_)
          · have c48' := i_le c48
            obtain ⟨i50, e51⟩ : ∃ z : Int32, u19 + Int32.ofInt 1 = z := ⟨_, rfl⟩
            have i50' := iinc_ok e51 (by decide) (by omega) (by omega)
            refine r_iinc [(2, .int i50), (0, .ref (gz (xG x) + 28)), (1, .ref (gz (xG x) + 3)), (3, .int u37)] 2 C dX1_lay_66 rfl e51 (by decide) rfl ?_
            refine r_goto 36 C dX1_lay_69 (by decide) ?_
            refine r_lv [1, 2, 0] rfl ?_
            exact ih27 i50 w40 h41 o42 (by omega) (by omega)
          · have c48' := i_nle c48
            refine r_aload_n 0 C dX1_lay_54 rfl ?_
            refine r_iload_n 3 C dX1_lay_55 rfl ?_
            refine r_iload_n 2 C dX1_lay_56 rfl ?_
            refine callVV C cwX1_51_V (ctX1_layCell_28 _ _ w40 (sS sC h41) o42 u37 u19 (by omega) (by omega)) (by decide) (kS sC h41 kc_28) rfl rfl rfl (Nat.le_of_ble_eq_true rfl) (by decide) dX1_lay_57 (fun w53 y52 => ?_)
            show V x 0 0 w53 60 [(0, .ref (gz (xG x) + 28)), (1, .ref (gz (xG x) + 3)), (2, .int u19), (3, .int u37)] []
            obtain ⟨h55, o56⟩ := y52
            have h57 := Ch.tr h41 h55 (by decide) (by decide)
            obtain ⟨i58, e59⟩ : ∃ z : Int32, u37 + Int32.ofInt 1 = z := ⟨_, rfl⟩
            have i58' := iinc_ok e59 (by decide) (by omega) (by omega)
            refine r_iinc [(3, .int i58), (0, .ref (gz (xG x) + 28)), (1, .ref (gz (xG x) + 3)), (2, .int u19)] 3 C dX1_lay_60 rfl e59 (by decide) rfl ?_
            refine r_goto 46 C dX1_lay_63 (by decide) ?_
            refine r_lv [1, 2, 3, 0] rfl ?_
            exact ih46 i58 w53 h57 o56 (by omega) (by omega) (by omega)
      refine r_iload_n 2 C dX1_lay_36 rfl ?_
      refine r_aload_n 0 C dX1_lay_37 rfl ?_
      refine gfX1_41 (v := (wI w22 28 3)) C (kS sC h23 kc_28) rfl dX1_lay_38 ?_
      have b28 := Inv.get o24 rt_28_3 (j := 3) (by decide) (by decide)
      have k30 := i_rng u19
      refine r_icmp_ge 72 C dX1_lay_41 (by decide) (fun c29 => ?_) (fun c29 => ?_)
      · have c29' := i_le c29
        refine r_aload_n 0 C dX1_lay_72 rfl ?_
        refine r_aload_n 1 C dX1_lay_73 rfl ?_
        refine gfX1_55 4 C (kS sC h23 kc_3) (xS sC h23 xc_3_9) dX1_lay_74 ?_
        refine callVV C cwX1_58_V (ctX1_takeWhats_28_4 _ _ w22 (sS sC h23) o24  ) (by decide) (kS sC h23 kc_28) rfl rfl rfl (Nat.le_of_ble_eq_true rfl) (by decide) dX1_lay_77 (fun w32 y31 => ?_)
        show V x 0 0 w32 80 [(0, .ref (gz (xG x) + 28)), (1, .ref (gz (xG x) + 3)), (2, .int u19)] []
        obtain ⟨h34, o35⟩ := y31
        have h36 := Ch.tr h23 h34 (by decide) (by decide)
        exact hret _ _ _ dX1_lay_80 ⟨h36, o35⟩
      · have c29' := i_nle c29
        refine r_iconst (v := 0) C dX1_lay_44 (by decide) ?_
        refine r_istore_n [(3, .int 0), (0, .ref (gz (xG x) + 28)), (1, .ref (gz (xG x) + 3)), (2, .int u19)] C dX1_lay_45 (by decide) rfl ?_
        refine r_lv [1, 2, 3, 0] rfl ?_
        exact LP38 4294967296 0 w22 h23 o24 (by omega) (by omega) (by omega)
  refine r_aload_n 0 C dX1_lay_0 rfl ?_
  refine r_aload_n 1 C dX1_lay_1 rfl ?_
  refine gfX1_31 (v := (wI w 3 0)) C (kS sC h0 kc_3) rfl dX1_lay_2 ?_
  have b1 := Inv.get o0 rt_3_0 (j := 0) (by decide) (by decide)
  refine pfX1_37 C (kS sC h0 kc_28) dX1_lay_5 (fun w2 e3 => ?_)
  have h4 := Ch.putF h0 e3 (by decide)
  have o5 := Inv.put o0 e3 0 9 (by omega) (by decide)
  refine r_aload_n 0 C dX1_lay_8 rfl ?_
  refine r_aload_n 1 C dX1_lay_9 rfl ?_
  refine gfX1_38 (v := (wI w 3 1)) C (kS sC h4 kc_3) (g_nn e3 (by decide) rfl) dX1_lay_10 ?_
  have b6 := Inv.get o0 rt_3_1 (j := 1) (by decide) (by decide)
  refine pfX1_41 C (kS sC h4 kc_28) dX1_lay_13 (fun w7 e8 => ?_)
  have h9 := Ch.putF h4 e8 (by decide)
  have o10 := Inv.put o5 e8 0 9 (by omega) (by decide)
  refine r_aload_n 0 C dX1_lay_16 rfl ?_
  refine r_aload_n 0 C dX1_lay_17 rfl ?_
  refine gfX1_37 (v := (wI w 3 0)) C (kS sC h9 kc_28) (g_nk e8 (by decide) (g_eq e3)) dX1_lay_18 ?_
  refine r_aload_n 0 C dX1_lay_21 rfl ?_
  refine gfX1_41 (v := (wI w 3 1)) C (kS sC h9 kc_28) (g_eq e8) dX1_lay_22 ?_
  refine r_imul C dX1_lay_25 (fun v11 e12 => ?_)
  have v11' := imul_rng e12 (A := 9) (B := 9) (by omega) (by omega) (by decide)
  refine r_bipush (v := 42) C dX1_lay_26 (by decide) ?_
  refine r_mmin C mw2_153 mw2_154 mw1_12 mw2_155 (by decide) (Nat.le_of_ble_eq_true rfl) (by decide) (by decide) dX1_lay_28 (fun v13 e14 => ?_)
  have v13' := imin_ok e14
  refine pfX1_48 C (kS sC h9 kc_28) dX1_lay_31 (fun w15 e16 => ?_)
  have h17 := Ch.putF h9 e16 (by decide)
  have o18 := Inv.put o10 e16 0 42 (by omega) (by decide)
  refine r_iconst (v := 0) C dX1_lay_34 (by decide) ?_
  refine r_istore_n [(2, .int 0), (0, .ref (gz (xG x) + 28)), (1, .ref (gz (xG x) + 3))] C dX1_lay_35 (by decide) rfl ?_
  refine r_lv [1, 2, 0] rfl ?_
  exact LP20 4294967296 0 w15 h17 o18 (by omega) (by omega)
set_option maxHeartbeats 4000000 in
set_option maxRecDepth 100000 in
theorem ctX1_put_28 (l : Launch) (G : Gt) (w : Wv) (sC : Str KC XC w) (o0 : Inv RC w) (a1 : Int32) (a2 : Int32) : CtV l G yX1_put cX1_put 3 ({ frames := 1, cells := 0, slots := 0, locals := 21 } : Room) [.ref (gz G + 28), .int a1, .int a2] w (fun w' => Ch [29, 33] [] w w' ∧ Inv RC w') := by
  refine enterV (by decide) (Nat.le_of_ble_eq_true rfl) ?_
  intro x el eG C hnm hret
  subst el; subst eG
  show V x 0 0 w 0 [(0, .ref (gz (xG x) + 28)), (1, .int a1), (2, .int a2)] []
  have h0 : Ch [29, 33] [] w w := Ch.rf
  have q0 : (0 : Int32).toInt = 0 := by decide
  refine r_iload_n 1 C dX1_put_0 rfl ?_
  refine callSI C cwX1_65_S (ctX1_isCell _ _ w a1 ) (by decide) rfl rfl (Nat.le_of_ble_eq_true rfl) (by decide) dX1_put_1 (fun r3 w2 y1 => ?_)
  obtain ⟨y1, g4⟩ := y1
  obtain rfl := y1.symm
  show V x 0 0 w 4 [(0, .ref (gz (xG x) + 28)), (1, .int a1), (2, .int a2)] [.int r3]
  refine r_if_eq 18 C dX1_put_4 (by decide) (fun c5 => ?_) (fun c5 => ?_)
  · have c5' := i_eq c5
    exact hret _ _ _ dX1_put_18 ⟨h0, o0⟩
  · have c5' := i_ne c5
    refine r_aload_n 0 C dX1_put_7 rfl ?_
    refine gfX1_9 29 C (kS sC h0 kc_28) (xS sC h0 xc_28_1) dX1_put_8 ?_
    refine r_iload_n 1 C dX1_put_11 rfl ?_
    refine r_iload_n 2 C dX1_put_12 rfl ?_
    refine r_iast C (kS sC h0 kc_29) (vin (by omega) (by omega)) dX1_put_13 (fun w6 e7 => ?_)
    have h8 := Ch.putS h0 e7 (by decide)
    have o9 := Inv.put0 o0 e7 (by decide)
    refine r_aload_n 0 C dX1_put_14 rfl ?_
    refine callVV C cwX1_62_V (ctX1_forgetWays_28 _ _ w6 (sS sC h8) o9  ) (by decide) (kS sC h8 kc_28) rfl rfl rfl (Nat.le_of_ble_eq_true rfl) (by decide) dX1_put_15 (fun w11 y10 => ?_)
    show V x 0 0 w11 18 [(0, .ref (gz (xG x) + 28)), (1, .int a1), (2, .int a2)] []
    obtain ⟨h13, o14⟩ := y10
    have h15 := Ch.tr h8 h13 (by decide) (by decide)
    exact hret _ _ _ dX1_put_18 ⟨h15, o14⟩
set_option maxHeartbeats 4000000 in
set_option maxRecDepth 100000 in
theorem ctX1_findWays_28 (l : Launch) (G : Gt) (w : Wv) (sC : Str KC XC w) (o0 : Inv RC w) (a1 : Int32) (b1 : 0 ≤ a1.toInt ∧ a1.toInt ≤ 41) : CtV l G yX1_findWays cX1_findWays 9 ({ frames := 0, cells := 0, slots := 0, locals := 0 } : Room) [.ref (gz G + 28), .int a1] w (fun w' => Ch [32, 33, 34] [] w w' ∧ Inv RC w') := by
  refine enterV (by decide) (Nat.le_of_ble_eq_true rfl) ?_
  intro x el eG C hnm hret
  subst el; subst eG
  show V x 0 0 w 0 [(0, .ref (gz (xG x) + 28)), (1, .int a1)] []
  have h0 : Ch [32, 33, 34] [] w w := Ch.rf
  have qm1 : ((-1) : Int32).toInt = (-1) := by decide
  have q0 : (0 : Int32).toInt = 0 := by decide
  have q1 : (1 : Int32).toInt = 1 := by decide
  have q4 : (4 : Int32).toInt = 4 := by decide
  have q42 : (42 : Int32).toInt = 42 := by decide
  have LP6 : ∀ (f7 : Nat) (u4 : Int32) (u5 : Int32) (w8 : Wv), Ch [32, 33, 34] [] w w8 → Inv RC w8 → (0 ≤ u4.toInt ∧ u4.toInt ≤ 1722) → (0 ≤ u5.toInt ∧ u5.toInt ≤ 2147483647) → 2147483647 - u5.toInt < f7 → V x 0 0 w8 7 [(0, .ref (gz (xG x) + 28)), (1, .int a1), (2, .int u4), (3, .int u5)] [] := by
    intro f7
    induction f7 with
    | zero => intro u4 u5 w8 h9 o10 z11 z12 z13; exfalso; omega
    | succ f7 ih14 =>
      intro u4 u5 w8 h9 o10 z11 z12 z13
      have LP36 : ∀ (f37 : Nat) (u34 : Int32) (u35 : Int32) (w38 : Wv), Ch [32, 33, 34] [] w w38 → Inv RC w38 → (0 ≤ u34.toInt ∧ u34.toInt ≤ 42) → (0 ≤ u35.toInt ∧ u35.toInt ≤ 2147483647) → 2147483647 - u35.toInt < f37 → V x 0 0 w38 72 [(0, .ref (gz (xG x) + 28)), (1, .int a1), (2, .int u4), (3, .int u34), (4, .int u35)] [] := by
        intro f37
        induction f37 with
        | zero => intro u34 u35 w38 h39 o40 z41 z42 z43; exfalso; omega
        | succ f37 ih44 =>
          intro u34 u35 w38 h39 o40 z41 z42 z43
          have LP53 : ∀ (f54 : Nat) (u50 : Int32) (u51 : Int32) (u52 : Int32) (w55 : Wv), Ch [32, 33, 34] [] w w55 → Inv RC w55 → (0 ≤ u50.toInt ∧ u50.toInt ≤ 42) → (0 ≤ u51.toInt ∧ u51.toInt ≤ 41) → (0 ≤ u52.toInt ∧ u52.toInt ≤ 2147483647) → (0 ≤ u35.toInt ∧ u35.toInt ≤ 41) → 2147483647 - u52.toInt < f54 → V x 0 0 w55 97 [(0, .ref (gz (xG x) + 28)), (1, .int a1), (2, .int u4), (3, .int u50), (4, .int u35), (5, .int u51), (6, .int u52)] [] := by
            intro f54
            induction f54 with
            | zero => intro u50 u51 u52 w55 h56 o57 z58 z59 z60 z61 z62; exfalso; omega
            | succ f54 ih63 =>
              intro u50 u51 u52 w55 h56 o57 z58 z59 z60 z61 z62
              refine r_iload 6 C dX1_findWays_97 rfl ?_
              refine r_iconst (v := 4) C dX1_findWays_99 (by decide) ?_
              have k65 := i_rng u52
              refine r_icmp_ge 208 C dX1_findWays_100 (by decide) (fun c64 => ?_) (fun c64 => ?_)
              · have c64' := i_le c64
                obtain ⟨i66, e67⟩ : ∃ z : Int32, u35 + Int32.ofInt 1 = z := ⟨_, rfl⟩
                have i66' := iinc_ok e67 (by decide) (by omega) (by omega)
                refine r_iinc [(4, .int i66), (0, .ref (gz (xG x) + 28)), (1, .int a1), (2, .int u4), (3, .int u50), (5, .int u51), (6, .int u52)] 4 C dX1_findWays_208 rfl e67 (by decide) rfl ?_
                refine r_goto 72 C dX1_findWays_211 (by decide) ?_
                refine r_lv [1, 2, 3, 4, 0] rfl ?_
                exact ih44 u50 i66 w55 h56 o57 (by omega) (by omega) (by omega)
              · have c64' := i_nle c64
                refine r_aload_n 0 C dX1_findWays_103 rfl ?_
                refine gfX1_18 31 C (kS sC h56 kc_28) (xS sC h56 xc_28_5) dX1_findWays_104 ?_
                refine r_iload 5 C dX1_findWays_107 rfl ?_
                refine r_iconst (v := 4) C dX1_findWays_109 (by decide) ?_
                refine r_imul C dX1_findWays_110 (fun v68 e69 => ?_)
                have k70 : (4 : Int32).toInt = 4 := by omega
                have v68' := imul_ok e69 (by rw [k70]; omega) (by rw [k70]; omega)
                rw [k70] at v68'
                refine r_iload 6 C dX1_findWays_111 rfl ?_
                refine r_iadd C dX1_findWays_113 (fun v71 e72 => ?_)
                have v71' := iadd_ok e72 (by omega) (by omega)
                refine r_iald C (kS sC h56 kc_31) (vin (by omega) (by omega)) dX1_findWays_114 ?_
                generalize (wI w55 31 (v71).toNatClampNeg) = v73
                refine r_istore [(7, .int v73), (0, .ref (gz (xG x) + 28)), (1, .int a1), (2, .int u4), (3, .int u50), (4, .int u35), (5, .int u51), (6, .int u52)] C dX1_findWays_115 (by decide) rfl ?_
                refine r_iload 0 C dX1_findWays_117 rfl ?_
                refine r_if_lt 144 C dX1_findWays_119 (by decide) (fun c74 => ?_) (fun c74 => ?_)
                · have c74' := i_lt c74
                  refine r_iconst (v := 0) C dX1_findWays_144 (by decide) ?_
                  refine r_istore [(8, .int 0), (7, .int v73), (0, .ref (gz (xG x) + 28)), (1, .int a1), (2, .int u4), (3, .int u50), (4, .int u35), (5, .int u51), (6, .int u52)] C dX1_findWays_145 (by decide) rfl ?_
                  refine r_iload 0 C dX1_findWays_147 rfl ?_
                  refine r_if_eq 202 C dX1_findWays_149 (by decide) (fun c75 => ?_) (fun c75 => ?_)
                  · have c75' := i_eq c75
                    obtain ⟨i76, e77⟩ : ∃ z : Int32, u52 + Int32.ofInt 1 = z := ⟨_, rfl⟩
                    have i76' := iinc_ok e77 (by decide) (by omega) (by omega)
                    refine r_iinc [(6, .int i76), (8, .int 0), (7, .int v73), (0, .ref (gz (xG x) + 28)), (1, .int a1), (2, .int u4), (3, .int u50), (4, .int u35), (5, .int u51)] 8 C dX1_findWays_202 rfl e77 (by decide) rfl ?_
                    refine r_goto 97 C dX1_findWays_205 (by decide) ?_
                    refine r_lv [3, 4, 5, 6, 7, 8, 0] rfl ?_
                    exact ih63 u50 u51 i76 w55 h56 o57 (by omega) (by omega) (by omega) (by omega) (by omega)
                  · have c75' := i_ne c75
                    exfalso; omega
                · have c74' := i_nlt c74
                  refine r_iload 0 C dX1_findWays_122 rfl ?_
                  refine r_bipush (v := 42) C dX1_findWays_124 (by decide) ?_
                  have k79 := i_rng v73
                  refine r_icmp_ge 144 C dX1_findWays_126 (by decide) (fun c78 => ?_) (fun c78 => ?_)
                  · have c78' := i_le c78
                    refine r_iconst (v := 0) C dX1_findWays_144 (by decide) ?_
                    refine r_istore [(8, .int 0), (7, .int v73), (0, .ref (gz (xG x) + 28)), (1, .int a1), (2, .int u4), (3, .int u50), (4, .int u35), (5, .int u51), (6, .int u52)] C dX1_findWays_145 (by decide) rfl ?_
                    refine r_iload 0 C dX1_findWays_147 rfl ?_
                    refine r_if_eq 202 C dX1_findWays_149 (by decide) (fun c80 => ?_) (fun c80 => ?_)
                    · have c80' := i_eq c80
                      obtain ⟨i81, e82⟩ : ∃ z : Int32, u52 + Int32.ofInt 1 = z := ⟨_, rfl⟩
                      have i81' := iinc_ok e82 (by decide) (by omega) (by omega)
                      refine r_iinc [(6, .int i81), (8, .int 0), (7, .int v73), (0, .ref (gz (xG x) + 28)), (1, .int a1), (2, .int u4), (3, .int u50), (4, .int u35), (5, .int u51)] 8 C dX1_findWays_202 rfl e82 (by decide) rfl ?_
                      refine r_goto 97 C dX1_findWays_205 (by decide) ?_
                      refine r_lv [3, 4, 5, 6, 7, 8, 0] rfl ?_
                      exact ih63 u50 u51 i81 w55 h56 o57 (by omega) (by omega) (by omega) (by omega) (by omega)
                    · have c80' := i_ne c80
                      exfalso; omega
                  · have c78' := i_nle c78
                    refine r_aload_n 1 C dX1_findWays_129 rfl ?_
                    refine gfX1_9 29 C (kS sC h56 kc_28) (xS sC h56 xc_28_1) dX1_findWays_130 ?_
                    refine r_iload 0 C dX1_findWays_133 rfl ?_
                    refine r_iald C (kS sC h56 kc_29) (vin (by omega) (by omega)) dX1_findWays_135 ?_
                    generalize (wI w55 29 (v73).toNatClampNeg) = v83
                    refine r_iconst (v := 1) C dX1_findWays_136 (by decide) ?_
                    refine r_icmp_eq 144 C dX1_findWays_137 (by decide) (fun c84 => ?_) (fun c84 => ?_)
                    · have c84' := i_eq c84
                      refine r_iconst (v := 0) C dX1_findWays_144 (by decide) ?_
                      refine r_istore [(8, .int 0), (7, .int v73), (0, .ref (gz (xG x) + 28)), (1, .int a1), (2, .int u4), (3, .int u50), (4, .int u35), (5, .int u51), (6, .int u52)] C dX1_findWays_145 (by decide) rfl ?_
                      refine r_iload 0 C dX1_findWays_147 rfl ?_
                      refine r_if_eq 202 C dX1_findWays_149 (by decide) (fun c85 => ?_) (fun c85 => ?_)
                      · have c85' := i_eq c85
                        obtain ⟨i86, e87⟩ : ∃ z : Int32, u52 + Int32.ofInt 1 = z := ⟨_, rfl⟩
                        have i86' := iinc_ok e87 (by decide) (by omega) (by omega)
                        refine r_iinc [(6, .int i86), (8, .int 0), (7, .int v73), (0, .ref (gz (xG x) + 28)), (1, .int a1), (2, .int u4), (3, .int u50), (4, .int u35), (5, .int u51)] 8 C dX1_findWays_202 rfl e87 (by decide) rfl ?_
                        refine r_goto 97 C dX1_findWays_205 (by decide) ?_
                        refine r_lv [3, 4, 5, 6, 7, 8, 0] rfl ?_
                        exact ih63 u50 u51 i86 w55 h56 o57 (by omega) (by omega) (by omega) (by omega) (by omega)
                      · have c85' := i_ne c85
                        exfalso; omega
                    · have c84' := i_ne c84
                      refine r_iconst (v := 1) C dX1_findWays_140 (by decide) ?_
                      refine r_goto 145 C dX1_findWays_141 (by decide) ?_
                      refine r_istore [(8, .int 1), (7, .int v73), (0, .ref (gz (xG x) + 28)), (1, .int a1), (2, .int u4), (3, .int u50), (4, .int u35), (5, .int u51), (6, .int u52)] C dX1_findWays_145 (by decide) rfl ?_
                      refine r_iload 0 C dX1_findWays_147 rfl ?_
                      refine r_if_eq 202 C dX1_findWays_149 (by decide) (fun c88 => ?_) (fun c88 => ?_)
                      · have c88' := i_eq c88
                        exfalso; omega
                      · have c88' := i_ne c88
                        refine r_aload_n 2 C dX1_findWays_152 rfl ?_
                        refine gfX1_21 32 C (kS sC h56 kc_28) (xS sC h56 xc_28_6) dX1_findWays_153 ?_
                        refine r_iload_n 4 C dX1_findWays_156 rfl ?_
                        refine r_iload 1 C dX1_findWays_157 rfl ?_
                        refine r_iadd C dX1_findWays_159 (fun v89 e90 => ?_)
                        have v89' := iadd_ok e90 (by omega) (by omega)
                        refine r_iald C (kS sC h56 kc_32) (vin (by omega) (by omega)) dX1_findWays_160 ?_
                        generalize (wI w55 32 (v89).toNatClampNeg) = v91
                        refine r_iconst (v := (-1)) C dX1_findWays_161 (by decide) ?_
                        refine r_icmp_ne 202 C dX1_findWays_162 (by decide) (fun c92 => ?_) (fun c92 => ?_)
                        · have c92' := i_ne c92
                          obtain ⟨i93, e94⟩ : ∃ z : Int32, u52 + Int32.ofInt 1 = z := ⟨_, rfl⟩
                          have i93' := iinc_ok e94 (by decide) (by omega) (by omega)
                          refine r_iinc [(6, .int i93), (8, .int 1), (7, .int v73), (0, .ref (gz (xG x) + 28)), (1, .int a1), (2, .int u4), (3, .int u50), (4, .int u35), (5, .int u51)] 8 C dX1_findWays_202 rfl e94 (by decide) rfl ?_
                          refine r_goto 97 C dX1_findWays_205 (by decide) ?_
                          refine r_lv [3, 4, 5, 6, 7, 8, 0] rfl ?_
                          exact ih63 u50 u51 i93 w55 h56 o57 (by omega) (by omega) (by omega) (by omega) (by omega)
                        · have c92' := i_eq c92
                          refine r_iload_n 5 C dX1_findWays_165 rfl ?_
                          refine r_bipush (v := 42) C dX1_findWays_166 (by decide) ?_
                          refine r_icmp_ge 202 C dX1_findWays_168 (by decide) (fun c95 => ?_) (fun c95 => ?_)
                          · have c95' := i_le c95
                            obtain ⟨i96, e97⟩ : ∃ z : Int32, u52 + Int32.ofInt 1 = z := ⟨_, rfl⟩
                            have i96' := iinc_ok e97 (by decide) (by omega) (by omega)
                            refine r_iinc [(6, .int i96), (8, .int 1), (7, .int v73), (0, .ref (gz (xG x) + 28)), (1, .int a1), (2, .int u4), (3, .int u50), (4, .int u35), (5, .int u51)] 8 C dX1_findWays_202 rfl e97 (by decide) rfl ?_
                            refine r_goto 97 C dX1_findWays_205 (by decide) ?_
                            refine r_lv [3, 4, 5, 6, 7, 8, 0] rfl ?_
                            exact ih63 u50 u51 i96 w55 h56 o57 (by omega) (by omega) (by omega) (by omega) (by omega)
                          · have c95' := i_nle c95
                            refine r_aload_n 2 C dX1_findWays_171 rfl ?_
                            refine gfX1_21 32 C (kS sC h56 kc_28) (xS sC h56 xc_28_6) dX1_findWays_172 ?_
                            refine r_iload_n 4 C dX1_findWays_175 rfl ?_
                            refine r_iload 1 C dX1_findWays_176 rfl ?_
                            refine r_iadd C dX1_findWays_178 (fun v98 e99 => ?_)
                            have v98' := iadd_ok e99 (by omega) (by omega)
                            refine r_aload_n 2 C dX1_findWays_179 rfl ?_
                            refine gfX1_21 32 C (kS sC h56 kc_28) (xS sC h56 xc_28_6) dX1_findWays_180 ?_
                            refine r_iload_n 4 C dX1_findWays_183 rfl ?_
                            refine r_iload 7 C dX1_findWays_184 rfl ?_
                            refine r_iadd C dX1_findWays_186 (fun v100 e101 => ?_)
                            have v100' := iadd_ok e101 (by omega) (by omega)
                            refine r_iald C (kS sC h56 kc_32) (vin (by omega) (by omega)) dX1_findWays_187 ?_
                            generalize (wI w55 32 (v100).toNatClampNeg) = v102
                            refine r_iconst (v := 1) C dX1_findWays_188 (by decide) ?_
                            refine r_iadd C dX1_findWays_189 (fun v103 e104 => ?_)
                            refine r_iast C (kS sC h56 kc_32) (vin (by omega) (by omega)) dX1_findWays_190 (fun w105 e106 => ?_)
                            have h107 := Ch.putS h56 e106 (by decide)
                            have o108 := Inv.put0 o57 e106 (by decide)
                            refine r_aload_n 2 C dX1_findWays_191 rfl ?_
                            refine gfX1_28 34 C (kS sC h107 kc_28) (xS sC h107 xc_28_8) dX1_findWays_192 ?_
                            refine r_iload_n 5 C dX1_findWays_195 rfl ?_
                            refine r_iload 1 C dX1_findWays_196 rfl ?_
                            refine r_iast C (kS sC h107 kc_34) (vin (by omega) (by omega)) dX1_findWays_198 (fun w109 e110 => ?_)
                            have h111 := Ch.putS h107 e110 (by decide)
                            have o112 := Inv.putR o108 e110 0 41 (by omega) (by omega) 0 41 (by omega) (by decide)
                            obtain ⟨i113, e114⟩ : ∃ z : Int32, u50 + Int32.ofInt 1 = z := ⟨_, rfl⟩
                            have i113' := iinc_ok e114 (by decide) (by omega) (by omega)
                            refine r_iinc [(3, .int i113), (8, .int 1), (7, .int v73), (0, .ref (gz (xG x) + 28)), (1, .int a1), (2, .int u4), (4, .int u35), (5, .int u51), (6, .int u52)] 5 C dX1_findWays_199 rfl e114 (by decide) rfl ?_
                            obtain ⟨i115, e116⟩ : ∃ z : Int32, u52 + Int32.ofInt 1 = z := ⟨_, rfl⟩
                            have i115' := iinc_ok e116 (by decide) (by omega) (by omega)
                            refine r_iinc [(6, .int i115), (3, .int i113), (8, .int 1), (7, .int v73), (0, .ref (gz (xG x) + 28)), (1, .int a1), (2, .int u4), (4, .int u35), (5, .int u51)] 8 C dX1_findWays_202 rfl e116 (by decide) rfl ?_
                            refine r_goto 97 C dX1_findWays_205 (by decide) ?_
                            refine r_lv [4, 5, 6, 1, 7, 8, 0] rfl ?_
                            exact ih63 i113 u51 i115 w109 h111 o112 (by omega) (by omega) (by omega) (by omega) (by omega)
          refine r_iload 4 C dX1_findWays_72 rfl ?_
          refine r_iload_n 3 C dX1_findWays_74 rfl ?_
          have k46 := i_rng u35
          refine r_icmp_ge 214 C dX1_findWays_75 (by decide) (fun c45 => ?_) (fun c45 => ?_)
          · have c45' := i_le c45
            exact hret _ _ _ dX1_findWays_214 ⟨h39, o40⟩
          · have c45' := i_nle c45
            refine r_iload 4 C dX1_findWays_78 rfl ?_
            refine r_bipush (v := 42) C dX1_findWays_80 (by decide) ?_
            refine r_icmp_ge 214 C dX1_findWays_82 (by decide) (fun c47 => ?_) (fun c47 => ?_)
            · have c47' := i_le c47
              exfalso; omega
            · have c47' := i_nle c47
              refine r_aload_n 0 C dX1_findWays_85 rfl ?_
              refine gfX1_28 34 C (kS sC h39 kc_28) (xS sC h39 xc_28_8) dX1_findWays_86 ?_
              refine r_iload 4 C dX1_findWays_89 rfl ?_
              refine r_iald C (kS sC h39 kc_34) (vin (by omega) (by omega)) dX1_findWays_91 ?_
              have b49 := Inv.geta o40 rt_34_0 (i := u35) (by omega) (by omega) (by omega)
              generalize (wI w38 34 (u35).toNatClampNeg) = v48 at b49 ⊢
              refine r_istore [(5, .int v48), (0, .ref (gz (xG x) + 28)), (1, .int a1), (2, .int u4), (3, .int u34), (4, .int u35)] C dX1_findWays_92 (by decide) rfl ?_
              refine r_iconst (v := 0) C dX1_findWays_94 (by decide) ?_
              refine r_istore [(6, .int 0), (5, .int v48), (0, .ref (gz (xG x) + 28)), (1, .int a1), (2, .int u4), (3, .int u34), (4, .int u35)] C dX1_findWays_95 (by decide) rfl ?_
              refine r_lv [2, 3, 4, 5, 6, 1, 0] rfl ?_
              exact LP53 4294967296 u34 v48 0 w38 h39 o40 (by omega) (by omega) (by omega) (by omega) (by omega)
      refine r_iload_n 3 C dX1_findWays_7 rfl ?_
      refine r_aload_n 0 C dX1_findWays_8 rfl ?_
      refine gfX1_48 (v := (wI w 28 0)) C (kS sC h9 kc_28) (h9.I (by decide) (by decide) rfl) dX1_findWays_9 ?_
      have b15 := Inv.get o0 rt_28_0 (j := 0) (by decide) (by decide)
      have k17 := i_rng u5
      refine r_icmp_ge 30 C dX1_findWays_12 (by decide) (fun c16 => ?_) (fun c16 => ?_)
      · have c16' := i_le c16
        refine r_aload_n 0 C dX1_findWays_30 rfl ?_
        refine gfX1_21 32 C (kS sC h9 kc_28) (xS sC h9 xc_28_6) dX1_findWays_31 ?_
        refine r_iload_n 2 C dX1_findWays_34 rfl ?_
        refine r_iload_n 1 C dX1_findWays_35 rfl ?_
        refine r_iadd C dX1_findWays_36 (fun v18 e19 => ?_)
        have v18' := iadd_ok e19 (by omega) (by omega)
        refine r_iconst (v := 0) C dX1_findWays_37 (by decide) ?_
        refine r_iast C (kS sC h9 kc_32) (vin (by omega) (by omega)) dX1_findWays_38 (fun w20 e21 => ?_)
        have h22 := Ch.putS h9 e21 (by decide)
        have o23 := Inv.put0 o10 e21 (by decide)
        refine r_aload_n 0 C dX1_findWays_39 rfl ?_
        refine gfX1_24 33 C (kS sC h22 kc_28) (xS sC h22 xc_28_7) dX1_findWays_40 ?_
        refine r_iload_n 1 C dX1_findWays_43 rfl ?_
        refine r_iconst (v := 1) C dX1_findWays_44 (by decide) ?_
        refine r_zast C (kS sC h22 kc_33) (vin (by omega) (by omega)) (nar_z (z_of (by omega))) dX1_findWays_45 (fun w24 e25 => ?_)
        have h26 := Ch.putS h22 e25 (by decide)
        have o27 := Inv.put0 o23 e25 (by decide)
        refine r_aload_n 0 C dX1_findWays_46 rfl ?_
        refine gfX1_28 34 C (kS sC h26 kc_28) (xS sC h26 xc_28_8) dX1_findWays_47 ?_
        refine r_iconst (v := 0) C dX1_findWays_50 (by decide) ?_
        refine r_iload_n 1 C dX1_findWays_51 rfl ?_
        refine r_iast C (kS sC h26 kc_34) (vin (by omega) (by omega)) dX1_findWays_52 (fun w28 e29 => ?_)
        have h30 := Ch.putS h26 e29 (by decide)
        have o31 := Inv.putR o27 e29 0 0 (by omega) (by omega) 0 41 (by omega) (by decide)
        refine r_aload_n 0 C dX1_findWays_53 rfl ?_
        refine gfX1_9 29 C (kS sC h30 kc_28) (xS sC h30 xc_28_1) dX1_findWays_54 ?_
        refine r_iload_n 1 C dX1_findWays_57 rfl ?_
        refine r_iald C (kS sC h30 kc_29) (vin (by omega) (by omega)) dX1_findWays_58 ?_
        generalize (wI w28 29 (a1).toNatClampNeg) = v32
        refine r_iconst (v := 1) C dX1_findWays_59 (by decide) ?_
        refine r_icmp_ne 67 C dX1_findWays_60 (by decide) (fun c33 => ?_) (fun c33 => ?_)
        · have c33' := i_ne c33
          refine r_iconst (v := 1) C dX1_findWays_67 (by decide) ?_
          refine r_istore_n [(3, .int 1), (0, .ref (gz (xG x) + 28)), (1, .int a1), (2, .int u4)] C dX1_findWays_68 (by decide) rfl ?_
          refine r_iconst (v := 0) C dX1_findWays_69 (by decide) ?_
          refine r_istore [(4, .int 0), (3, .int 1), (0, .ref (gz (xG x) + 28)), (1, .int a1), (2, .int u4)] C dX1_findWays_70 (by decide) rfl ?_
          refine r_lv [2, 3, 4, 1, 0] rfl ?_
          exact LP36 4294967296 1 0 w28 h30 o31 (by omega) (by omega) (by omega)
        · have c33' := i_eq c33
          refine r_iconst (v := 0) C dX1_findWays_63 (by decide) ?_
          refine r_goto 68 C dX1_findWays_64 (by decide) ?_
          refine r_istore_n [(3, .int 0), (0, .ref (gz (xG x) + 28)), (1, .int a1), (2, .int u4)] C dX1_findWays_68 (by decide) rfl ?_
          refine r_iconst (v := 0) C dX1_findWays_69 (by decide) ?_
          refine r_istore [(4, .int 0), (3, .int 0), (0, .ref (gz (xG x) + 28)), (1, .int a1), (2, .int u4)] C dX1_findWays_70 (by decide) rfl ?_
          refine r_lv [2, 3, 4, 1, 0] rfl ?_
          exact LP36 4294967296 0 0 w28 h30 o31 (by omega) (by omega) (by omega)
      · have c16' := i_nle c16
        refine r_aload_n 0 C dX1_findWays_15 rfl ?_
        refine gfX1_21 32 C (kS sC h9 kc_28) (xS sC h9 xc_28_6) dX1_findWays_16 ?_
        refine r_iload_n 2 C dX1_findWays_19 rfl ?_
        refine r_iload_n 3 C dX1_findWays_20 rfl ?_
        refine r_iadd C dX1_findWays_21 (fun v117 e118 => ?_)
        have v117' := iadd_ok e118 (by omega) (by omega)
        refine r_iconst (v := (-1)) C dX1_findWays_22 (by decide) ?_
        refine r_iast C (kS sC h9 kc_32) (vin (by omega) (by omega)) dX1_findWays_23 (fun w119 e120 => ?_)
        have h121 := Ch.putS h9 e120 (by decide)
        have o122 := Inv.put0 o10 e120 (by decide)
        obtain ⟨i123, e124⟩ : ∃ z : Int32, u5 + Int32.ofInt 1 = z := ⟨_, rfl⟩
        have i123' := iinc_ok e124 (by decide) (by omega) (by omega)
        refine r_iinc [(3, .int i123), (0, .ref (gz (xG x) + 28)), (1, .int a1), (2, .int u4)] 3 C dX1_findWays_24 rfl e124 (by decide) rfl ?_
        refine r_goto 7 C dX1_findWays_27 (by decide) ?_
        refine r_lv [1, 2, 3, 0] rfl ?_
        exact ih14 u4 i123 w119 h121 o122 (by omega) (by omega) (by omega)
  refine r_iload_n 1 C dX1_findWays_0 rfl ?_
  refine r_bipush (v := 42) C dX1_findWays_1 (by decide) ?_
  refine r_imul C dX1_findWays_3 (fun v1 e2 => ?_)
  have k3 : (42 : Int32).toInt = 42 := by omega
  have v1' := imul_ok e2 (by rw [k3]; omega) (by rw [k3]; omega)
  rw [k3] at v1'
  refine r_istore_n [(2, .int v1), (0, .ref (gz (xG x) + 28)), (1, .int a1)] C dX1_findWays_4 (by decide) rfl ?_
  refine r_iconst (v := 0) C dX1_findWays_5 (by decide) ?_
  refine r_istore_n [(3, .int 0), (2, .int v1), (0, .ref (gz (xG x) + 28)), (1, .int a1)] C dX1_findWays_6 (by decide) rfl ?_
  refine r_lv [2, 3, 1, 0] rfl ?_
  exact LP6 4294967296 v1 0 w h0 o0 (by omega) (by omega) (by omega)
set_option maxHeartbeats 4000000 in
set_option maxRecDepth 100000 in
theorem ctX1_what_28 (l : Launch) (G : Gt) (w : Wv) (sC : Str KC XC w) (o0 : Inv RC w) (a1 : Int32) : CtI l G yX1_what cX1_what 2 .int ({ frames := 0, cells := 0, slots := 0, locals := 0 } : Room) [.ref (gz G + 28), .int a1] w (fun r w' => Ch [] [] w w' ∧ Inv RC w') := by
  refine enterI (by decide) (Nat.le_of_ble_eq_true rfl) ?_
  intro x el eG C hret
  subst el; subst eG
  show V x 0 0 w 0 [(0, .ref (gz (xG x) + 28)), (1, .int a1)] []
  have h0 : Ch [] [] w w := Ch.rf
  have q0 : (0 : Int32).toInt = 0 := by decide
  have q1 : (1 : Int32).toInt = 1 := by decide
  have q42 : (42 : Int32).toInt = 42 := by decide
  refine r_iload_n 1 C dX1_what_0 rfl ?_
  refine r_if_lt 19 C dX1_what_1 (by decide) (fun c1 => ?_) (fun c1 => ?_)
  · have c1' := i_lt c1
    refine r_iconst (v := 1) C dX1_what_19 (by decide) ?_
    exact hret _ _ _ _ dX1_what_20 rfl ⟨h0, o0⟩
  · have c1' := i_nlt c1
    refine r_iload_n 1 C dX1_what_4 rfl ?_
    refine r_bipush (v := 42) C dX1_what_5 (by decide) ?_
    have k3 := i_rng a1
    refine r_icmp_ge 19 C dX1_what_7 (by decide) (fun c2 => ?_) (fun c2 => ?_)
    · have c2' := i_le c2
      refine r_iconst (v := 1) C dX1_what_19 (by decide) ?_
      exact hret _ _ _ _ dX1_what_20 rfl ⟨h0, o0⟩
    · have c2' := i_nle c2
      refine r_aload_n 0 C dX1_what_10 rfl ?_
      refine gfX1_9 29 C (kS sC h0 kc_28) (xS sC h0 xc_28_1) dX1_what_11 ?_
      refine r_iload_n 1 C dX1_what_14 rfl ?_
      refine r_iald C (kS sC h0 kc_29) (vin (by omega) (by omega)) dX1_what_15 ?_
      generalize (wI w 29 (a1).toNatClampNeg) = v4
      refine r_goto 20 C dX1_what_16 (by decide) ?_
      exact hret _ _ _ _ dX1_what_20 rfl ⟨h0, o0⟩
set_option maxHeartbeats 4000000 in
set_option maxRecDepth 100000 in
theorem ctX1_beside_28 (l : Launch) (G : Gt) (w : Wv) (sC : Str KC XC w) (o0 : Inv RC w) (a1 : Int32) (a2 : Int32) : CtI l G yX1_beside cX1_beside 4 .int ({ frames := 0, cells := 0, slots := 0, locals := 0 } : Room) [.ref (gz G + 28), .int a1, .int a2] w (fun r w' => Ch [] [] w w' ∧ Inv RC w') := by
  refine enterI (by decide) (Nat.le_of_ble_eq_true rfl) ?_
  intro x el eG C hret
  subst el; subst eG
  show V x 0 0 w 0 [(0, .ref (gz (xG x) + 28)), (1, .int a1), (2, .int a2)] []
  have h0 : Ch [] [] w w := Ch.rf
  have qm1 : ((-1) : Int32).toInt = (-1) := by decide
  have q0 : (0 : Int32).toInt = 0 := by decide
  have q1 : (1 : Int32).toInt = 1 := by decide
  have q4 : (4 : Int32).toInt = 4 := by decide
  have q42 : (42 : Int32).toInt = 42 := by decide
  refine r_iload_n 1 C dX1_beside_0 rfl ?_
  refine r_if_lt 24 C dX1_beside_1 (by decide) (fun c1 => ?_) (fun c1 => ?_)
  · have c1' := i_lt c1
    refine r_iconst (v := 0) C dX1_beside_24 (by decide) ?_
    refine r_istore_n [(3, .int 0), (0, .ref (gz (xG x) + 28)), (1, .int a1), (2, .int a2)] C dX1_beside_25 (by decide) rfl ?_
    refine r_iload_n 0 C dX1_beside_26 rfl ?_
    refine r_if_eq 45 C dX1_beside_27 (by decide) (fun c2 => ?_) (fun c2 => ?_)
    · have c2' := i_eq c2
      refine r_iconst (v := (-1)) C dX1_beside_45 (by decide) ?_
      exact hret _ _ _ _ dX1_beside_46 rfl ⟨h0, o0⟩
    · have c2' := i_ne c2
      exfalso; omega
  · have c1' := i_nlt c1
    refine r_iload_n 1 C dX1_beside_4 rfl ?_
    refine r_bipush (v := 42) C dX1_beside_5 (by decide) ?_
    have k4 := i_rng a1
    refine r_icmp_ge 24 C dX1_beside_7 (by decide) (fun c3 => ?_) (fun c3 => ?_)
    · have c3' := i_le c3
      refine r_iconst (v := 0) C dX1_beside_24 (by decide) ?_
      refine r_istore_n [(3, .int 0), (0, .ref (gz (xG x) + 28)), (1, .int a1), (2, .int a2)] C dX1_beside_25 (by decide) rfl ?_
      refine r_iload_n 0 C dX1_beside_26 rfl ?_
      refine r_if_eq 45 C dX1_beside_27 (by decide) (fun c5 => ?_) (fun c5 => ?_)
      · have c5' := i_eq c5
        refine r_iconst (v := (-1)) C dX1_beside_45 (by decide) ?_
        exact hret _ _ _ _ dX1_beside_46 rfl ⟨h0, o0⟩
      · have c5' := i_ne c5
        exfalso; omega
    · have c3' := i_nle c3
      refine r_iload_n 2 C dX1_beside_10 rfl ?_
      refine r_iconst (v := 1) C dX1_beside_11 (by decide) ?_
      have k7 := i_rng a2
      refine r_icmp_lt 24 C dX1_beside_12 (by decide) (fun c6 => ?_) (fun c6 => ?_)
      · have c6' := i_lt c6
        refine r_iconst (v := 0) C dX1_beside_24 (by decide) ?_
        refine r_istore_n [(3, .int 0), (0, .ref (gz (xG x) + 28)), (1, .int a1), (2, .int a2)] C dX1_beside_25 (by decide) rfl ?_
        refine r_iload_n 0 C dX1_beside_26 rfl ?_
        refine r_if_eq 45 C dX1_beside_27 (by decide) (fun c8 => ?_) (fun c8 => ?_)
        · have c8' := i_eq c8
          refine r_iconst (v := (-1)) C dX1_beside_45 (by decide) ?_
          exact hret _ _ _ _ dX1_beside_46 rfl ⟨h0, o0⟩
        · have c8' := i_ne c8
          exfalso; omega
      · have c6' := i_nlt c6
        refine r_iload_n 2 C dX1_beside_15 rfl ?_
        refine r_iconst (v := 4) C dX1_beside_16 (by decide) ?_
        have k10 := i_rng a2
        refine r_icmp_gt 24 C dX1_beside_17 (by decide) (fun c9 => ?_) (fun c9 => ?_)
        · have c9' := i_lt c9
          refine r_iconst (v := 0) C dX1_beside_24 (by decide) ?_
          refine r_istore_n [(3, .int 0), (0, .ref (gz (xG x) + 28)), (1, .int a1), (2, .int a2)] C dX1_beside_25 (by decide) rfl ?_
          refine r_iload_n 0 C dX1_beside_26 rfl ?_
          refine r_if_eq 45 C dX1_beside_27 (by decide) (fun c11 => ?_) (fun c11 => ?_)
          · have c11' := i_eq c11
            refine r_iconst (v := (-1)) C dX1_beside_45 (by decide) ?_
            exact hret _ _ _ _ dX1_beside_46 rfl ⟨h0, o0⟩
          · have c11' := i_ne c11
            exfalso; omega
        · have c9' := i_nlt c9
          refine r_iconst (v := 1) C dX1_beside_20 (by decide) ?_
          refine r_goto 25 C dX1_beside_21 (by decide) ?_
          refine r_istore_n [(3, .int 1), (0, .ref (gz (xG x) + 28)), (1, .int a1), (2, .int a2)] C dX1_beside_25 (by decide) rfl ?_
          refine r_iload_n 0 C dX1_beside_26 rfl ?_
          refine r_if_eq 45 C dX1_beside_27 (by decide) (fun c12 => ?_) (fun c12 => ?_)
          · have c12' := i_eq c12
            exfalso; omega
          · have c12' := i_ne c12
            refine r_aload_n 1 C dX1_beside_30 rfl ?_
            refine gfX1_18 31 C (kS sC h0 kc_28) (xS sC h0 xc_28_5) dX1_beside_31 ?_
            refine r_iload_n 2 C dX1_beside_34 rfl ?_
            refine r_iconst (v := 4) C dX1_beside_35 (by decide) ?_
            refine r_imul C dX1_beside_36 (fun v13 e14 => ?_)
            have k15 : (4 : Int32).toInt = 4 := by omega
            have v13' := imul_ok e14 (by rw [k15]; omega) (by rw [k15]; omega)
            rw [k15] at v13'
            refine r_iload_n 3 C dX1_beside_37 rfl ?_
            refine r_iadd C dX1_beside_38 (fun v16 e17 => ?_)
            have v16' := iadd_ok e17 (by omega) (by omega)
            refine r_iconst (v := 1) C dX1_beside_39 (by decide) ?_
            refine r_isub C dX1_beside_40 (fun v18 e19 => ?_)
            have v18' := isub_ok e19 (by omega) (by omega)
            refine r_iald C (kS sC h0 kc_31) (vin (by omega) (by omega)) dX1_beside_41 ?_
            generalize (wI w 31 (v18).toNatClampNeg) = v20
            refine r_goto 46 C dX1_beside_42 (by decide) ?_
            exact hret _ _ _ _ dX1_beside_46 rfl ⟨h0, o0⟩
set_option maxHeartbeats 4000000 in
set_option maxRecDepth 100000 in
theorem ctX1_steps_28 (l : Launch) (G : Gt) (w : Wv) (sC : Str KC XC w) (o0 : Inv RC w) (a1 : Int32) (a2 : Int32) : CtI l G yX1_steps cX1_steps 3 .int ({ frames := 1, cells := 0, slots := 0, locals := 28 } : Room) [.ref (gz G + 28), .int a1, .int a2] w (fun r w' => Ch [32, 33, 34] [] w w' ∧ Inv RC w') := by
  refine enterI (by decide) (Nat.le_of_ble_eq_true rfl) ?_
  intro x el eG C hret
  subst el; subst eG
  show V x 0 0 w 0 [(0, .ref (gz (xG x) + 28)), (1, .int a1), (2, .int a2)] []
  have h0 : Ch [32, 33, 34] [] w w := Ch.rf
  have qm1 : ((-1) : Int32).toInt = (-1) := by decide
  have q0 : (0 : Int32).toInt = 0 := by decide
  have q42 : (42 : Int32).toInt = 42 := by decide
  refine r_iload_n 1 C dX1_steps_0 rfl ?_
  refine r_if_lt 20 C dX1_steps_1 (by decide) (fun c1 => ?_) (fun c1 => ?_)
  · have c1' := i_lt c1
    refine r_iconst (v := (-1)) C dX1_steps_20 (by decide) ?_
    exact hret _ _ _ _ dX1_steps_21 rfl ⟨h0, o0⟩
  · have c1' := i_nlt c1
    refine r_iload_n 1 C dX1_steps_4 rfl ?_
    refine r_bipush (v := 42) C dX1_steps_5 (by decide) ?_
    have k3 := i_rng a1
    refine r_icmp_ge 20 C dX1_steps_7 (by decide) (fun c2 => ?_) (fun c2 => ?_)
    · have c2' := i_le c2
      refine r_iconst (v := (-1)) C dX1_steps_20 (by decide) ?_
      exact hret _ _ _ _ dX1_steps_21 rfl ⟨h0, o0⟩
    · have c2' := i_nle c2
      refine r_iload_n 2 C dX1_steps_10 rfl ?_
      refine r_if_lt 20 C dX1_steps_11 (by decide) (fun c4 => ?_) (fun c4 => ?_)
      · have c4' := i_lt c4
        refine r_iconst (v := (-1)) C dX1_steps_20 (by decide) ?_
        exact hret _ _ _ _ dX1_steps_21 rfl ⟨h0, o0⟩
      · have c4' := i_nlt c4
        refine r_iload_n 2 C dX1_steps_14 rfl ?_
        refine r_bipush (v := 42) C dX1_steps_15 (by decide) ?_
        have k6 := i_rng a2
        refine r_icmp_lt 22 C dX1_steps_17 (by decide) (fun c5 => ?_) (fun c5 => ?_)
        · have c5' := i_lt c5
          refine r_aload_n 0 C dX1_steps_22 rfl ?_
          refine gfX1_24 33 C (kS sC h0 kc_28) (xS sC h0 xc_28_7) dX1_steps_23 ?_
          refine r_iload_n 2 C dX1_steps_26 rfl ?_
          refine r_zald C (kS sC h0 kc_33) (vin (by omega) (by omega)) dX1_steps_27 ?_
          generalize (wI w 33 (a2).toNatClampNeg) = v7
          refine r_if_ne 36 C dX1_steps_28 (by decide) (fun c8 => ?_) (fun c8 => ?_)
          · have c8' := i_ne c8
            refine r_aload_n 0 C dX1_steps_36 rfl ?_
            refine gfX1_21 32 C (kS sC h0 kc_28) (xS sC h0 xc_28_6) dX1_steps_37 ?_
            refine r_iload_n 2 C dX1_steps_40 rfl ?_
            refine r_bipush (v := 42) C dX1_steps_41 (by decide) ?_
            refine r_imul C dX1_steps_43 (fun v9 e10 => ?_)
            have k11 : (42 : Int32).toInt = 42 := by omega
            have v9' := imul_ok e10 (by rw [k11]; omega) (by rw [k11]; omega)
            rw [k11] at v9'
            refine r_iload_n 1 C dX1_steps_44 rfl ?_
            refine r_iadd C dX1_steps_45 (fun v12 e13 => ?_)
            have v12' := iadd_ok e13 (by omega) (by omega)
            refine r_iald C (kS sC h0 kc_32) (vin (by omega) (by omega)) dX1_steps_46 ?_
            generalize (wI w 32 (v12).toNatClampNeg) = v14
            exact hret _ _ _ _ dX1_steps_47 rfl ⟨h0, o0⟩
          · have c8' := i_eq c8
            refine r_aload_n 0 C dX1_steps_31 rfl ?_
            refine r_iload_n 2 C dX1_steps_32 rfl ?_
            refine callVV C cwX1_69_V (ctX1_findWays_28 _ _ w (sS sC h0) o0 a2 (by omega)) (by decide) (kS sC h0 kc_28) rfl rfl rfl (Nat.le_of_ble_eq_true rfl) (by decide) dX1_steps_33 (fun w16 y15 => ?_)
            show V x 0 0 w16 36 [(0, .ref (gz (xG x) + 28)), (1, .int a1), (2, .int a2)] []
            obtain ⟨h18, o19⟩ := y15
            have h20 := Ch.tr h0 h18 (by decide) (by decide)
            refine r_aload_n 0 C dX1_steps_36 rfl ?_
            refine gfX1_21 32 C (kS sC h20 kc_28) (xS sC h20 xc_28_6) dX1_steps_37 ?_
            refine r_iload_n 2 C dX1_steps_40 rfl ?_
            refine r_bipush (v := 42) C dX1_steps_41 (by decide) ?_
            refine r_imul C dX1_steps_43 (fun v21 e22 => ?_)
            have k23 : (42 : Int32).toInt = 42 := by omega
            have v21' := imul_ok e22 (by rw [k23]; omega) (by rw [k23]; omega)
            rw [k23] at v21'
            refine r_iload_n 1 C dX1_steps_44 rfl ?_
            refine r_iadd C dX1_steps_45 (fun v24 e25 => ?_)
            have v24' := iadd_ok e25 (by omega) (by omega)
            refine r_iald C (kS sC h20 kc_32) (vin (by omega) (by omega)) dX1_steps_46 ?_
            generalize (wI w16 32 (v24).toNatClampNeg) = v26
            exact hret _ _ _ _ dX1_steps_47 rfl ⟨h20, o19⟩
        · have c5' := i_nlt c5
          refine r_iconst (v := (-1)) C dX1_steps_20 (by decide) ?_
          exact hret _ _ _ _ dX1_steps_21 rfl ⟨h0, o0⟩
set_option maxHeartbeats 4000000 in
set_option maxRecDepth 100000 in
theorem ctX1_onward_28 (l : Launch) (G : Gt) (w : Wv) (sC : Str KC XC w) (o0 : Inv RC w) (a1 : Int32) (a2 : Int32) : CtI l G yX1_onward cX1_onward 7 .int ({ frames := 1, cells := 0, slots := 0, locals := 28 } : Room) [.ref (gz G + 28), .int a1, .int a2] w (fun r w' => Ch [32, 33, 34] [] w w' ∧ Inv RC w') := by
  refine enterI (by decide) (Nat.le_of_ble_eq_true rfl) ?_
  intro x el eG C hret
  subst el; subst eG
  show V x 0 0 w 0 [(0, .ref (gz (xG x) + 28)), (1, .int a1), (2, .int a2)] []
  have h0 : Ch [32, 33, 34] [] w w := Ch.rf
  have qm1 : ((-1) : Int32).toInt = (-1) := by decide
  have q0 : (0 : Int32).toInt = 0 := by decide
  have q1 : (1 : Int32).toInt = 1 := by decide
  have q4 : (4 : Int32).toInt = 4 := by decide
  have q42 : (42 : Int32).toInt = 42 := by decide
  have LP18 : ∀ (f19 : Nat) (u15 : Int32) (u16 : Int32) (u17 : Int32) (w20 : Wv), Ch [32, 33, 34] [] w w20 → Inv RC w20 → (0 ≤ u15.toInt ∧ u15.toInt ≤ 1722) → (0 ≤ u17.toInt ∧ u17.toInt ≤ 2147483647) → (0 ≤ a1.toInt ∧ a1.toInt ≤ 41) → (0 ≤ a2.toInt ∧ a2.toInt ≤ 41) → 2147483647 - u17.toInt < f19 → V x 0 0 w20 54 [(0, .ref (gz (xG x) + 28)), (1, .int a1), (2, .int a2), (3, .int u15), (4, .int u16), (5, .int u17)] [] := by
    intro f19
    induction f19 with
    | zero => intro u15 u16 u17 w20 h21 o22 z23 z24 z25 z26 z27; exfalso; omega
    | succ f19 ih28 =>
      intro u15 u16 u17 w20 h21 o22 z23 z24 z25 z26 z27
      refine r_iload 5 C dX1_onward_54 rfl ?_
      refine r_iconst (v := 4) C dX1_onward_56 (by decide) ?_
      have k30 := i_rng u17
      refine r_icmp_ge 115 C dX1_onward_57 (by decide) (fun c29 => ?_) (fun c29 => ?_)
      · have c29' := i_le c29
        refine r_iconst (v := (-1)) C dX1_onward_115 (by decide) ?_
        exact hret _ _ _ _ dX1_onward_116 rfl ⟨h21, o22⟩
      · have c29' := i_nle c29
        refine r_iload 4 C dX1_onward_60 rfl ?_
        refine r_if_le 115 C dX1_onward_62 (by decide) (fun c31 => ?_) (fun c31 => ?_)
        · have c31' := i_le c31
          refine r_iconst (v := (-1)) C dX1_onward_115 (by decide) ?_
          exact hret _ _ _ _ dX1_onward_116 rfl ⟨h21, o22⟩
        · have c31' := i_nle c31
          refine r_aload_n 0 C dX1_onward_65 rfl ?_
          refine gfX1_18 31 C (kS sC h21 kc_28) (xS sC h21 xc_28_5) dX1_onward_66 ?_
          refine r_iload_n 1 C dX1_onward_69 rfl ?_
          refine r_iconst (v := 4) C dX1_onward_70 (by decide) ?_
          refine r_imul C dX1_onward_71 (fun v32 e33 => ?_)
          have k34 : (4 : Int32).toInt = 4 := by omega
          have v32' := imul_ok e33 (by rw [k34]; omega) (by rw [k34]; omega)
          rw [k34] at v32'
          refine r_iload 5 C dX1_onward_72 rfl ?_
          refine r_iadd C dX1_onward_74 (fun v35 e36 => ?_)
          have v35' := iadd_ok e36 (by omega) (by omega)
          refine r_iald C (kS sC h21 kc_31) (vin (by omega) (by omega)) dX1_onward_75 ?_
          generalize (wI w20 31 (v35).toNatClampNeg) = v37
          refine r_istore [(6, .int v37), (0, .ref (gz (xG x) + 28)), (1, .int a1), (2, .int a2), (3, .int u15), (4, .int u16), (5, .int u17)] C dX1_onward_76 (by decide) rfl ?_
          refine r_iload 0 C dX1_onward_78 rfl ?_
          refine r_if_lt 109 C dX1_onward_80 (by decide) (fun c38 => ?_) (fun c38 => ?_)
          · have c38' := i_lt c38
            obtain ⟨i39, e40⟩ : ∃ z : Int32, u17 + Int32.ofInt 1 = z := ⟨_, rfl⟩
            have i39' := iinc_ok e40 (by decide) (by omega) (by omega)
            refine r_iinc [(5, .int i39), (6, .int v37), (0, .ref (gz (xG x) + 28)), (1, .int a1), (2, .int a2), (3, .int u15), (4, .int u16)] 6 C dX1_onward_109 rfl e40 (by decide) rfl ?_
            refine r_goto 54 C dX1_onward_112 (by decide) ?_
            refine r_lv [2, 3, 4, 5, 6, 0] rfl ?_
            exact ih28 u15 u16 i39 w20 h21 o22 (by omega) (by omega) (by omega) (by omega) (by omega)
          · have c38' := i_nlt c38
            refine r_iload 0 C dX1_onward_83 rfl ?_
            refine r_bipush (v := 42) C dX1_onward_85 (by decide) ?_
            have k42 := i_rng v37
            refine r_icmp_ge 109 C dX1_onward_87 (by decide) (fun c41 => ?_) (fun c41 => ?_)
            · have c41' := i_le c41
              obtain ⟨i43, e44⟩ : ∃ z : Int32, u17 + Int32.ofInt 1 = z := ⟨_, rfl⟩
              have i43' := iinc_ok e44 (by decide) (by omega) (by omega)
              refine r_iinc [(5, .int i43), (6, .int v37), (0, .ref (gz (xG x) + 28)), (1, .int a1), (2, .int a2), (3, .int u15), (4, .int u16)] 6 C dX1_onward_109 rfl e44 (by decide) rfl ?_
              refine r_goto 54 C dX1_onward_112 (by decide) ?_
              refine r_lv [2, 3, 4, 5, 6, 0] rfl ?_
              exact ih28 u15 u16 i43 w20 h21 o22 (by omega) (by omega) (by omega) (by omega) (by omega)
            · have c41' := i_nle c41
              refine r_aload_n 1 C dX1_onward_90 rfl ?_
              refine gfX1_21 32 C (kS sC h21 kc_28) (xS sC h21 xc_28_6) dX1_onward_91 ?_
              refine r_iload_n 4 C dX1_onward_94 rfl ?_
              refine r_iload 0 C dX1_onward_95 rfl ?_
              refine r_iadd C dX1_onward_97 (fun v45 e46 => ?_)
              have v45' := iadd_ok e46 (by omega) (by omega)
              refine r_iald C (kS sC h21 kc_32) (vin (by omega) (by omega)) dX1_onward_98 ?_
              generalize (wI w20 32 (v45).toNatClampNeg) = v47
              refine r_iload 5 C dX1_onward_99 rfl ?_
              refine r_iconst (v := 1) C dX1_onward_101 (by decide) ?_
              refine r_isub C dX1_onward_102 (fun v48 e49 => ?_)
              have k50 := i_rng u16
              have v48' := isub_ok e49 (by omega) (by omega)
              refine r_icmp_ne 109 C dX1_onward_103 (by decide) (fun c51 => ?_) (fun c51 => ?_)
              · have c51' := i_ne c51
                obtain ⟨i52, e53⟩ : ∃ z : Int32, u17 + Int32.ofInt 1 = z := ⟨_, rfl⟩
                have i52' := iinc_ok e53 (by decide) (by omega) (by omega)
                refine r_iinc [(5, .int i52), (6, .int v37), (0, .ref (gz (xG x) + 28)), (1, .int a1), (2, .int a2), (3, .int u15), (4, .int u16)] 6 C dX1_onward_109 rfl e53 (by decide) rfl ?_
                refine r_goto 54 C dX1_onward_112 (by decide) ?_
                refine r_lv [2, 3, 4, 5, 6, 0] rfl ?_
                exact ih28 u15 u16 i52 w20 h21 o22 (by omega) (by omega) (by omega) (by omega) (by omega)
              · have c51' := i_eq c51
                refine r_iload 0 C dX1_onward_106 rfl ?_
                exact hret _ _ _ _ dX1_onward_108 rfl ⟨h21, o22⟩
  refine r_iload_n 1 C dX1_onward_0 rfl ?_
  refine r_if_lt 20 C dX1_onward_1 (by decide) (fun c1 => ?_) (fun c1 => ?_)
  · have c1' := i_lt c1
    refine r_iconst (v := (-1)) C dX1_onward_20 (by decide) ?_
    exact hret _ _ _ _ dX1_onward_21 rfl ⟨h0, o0⟩
  · have c1' := i_nlt c1
    refine r_iload_n 1 C dX1_onward_4 rfl ?_
    refine r_bipush (v := 42) C dX1_onward_5 (by decide) ?_
    have k3 := i_rng a1
    refine r_icmp_ge 20 C dX1_onward_7 (by decide) (fun c2 => ?_) (fun c2 => ?_)
    · have c2' := i_le c2
      refine r_iconst (v := (-1)) C dX1_onward_20 (by decide) ?_
      exact hret _ _ _ _ dX1_onward_21 rfl ⟨h0, o0⟩
    · have c2' := i_nle c2
      refine r_iload_n 2 C dX1_onward_10 rfl ?_
      refine r_if_lt 20 C dX1_onward_11 (by decide) (fun c4 => ?_) (fun c4 => ?_)
      · have c4' := i_lt c4
        refine r_iconst (v := (-1)) C dX1_onward_20 (by decide) ?_
        exact hret _ _ _ _ dX1_onward_21 rfl ⟨h0, o0⟩
      · have c4' := i_nlt c4
        refine r_iload_n 2 C dX1_onward_14 rfl ?_
        refine r_bipush (v := 42) C dX1_onward_15 (by decide) ?_
        have k6 := i_rng a2
        refine r_icmp_lt 22 C dX1_onward_17 (by decide) (fun c5 => ?_) (fun c5 => ?_)
        · have c5' := i_lt c5
          refine r_aload_n 0 C dX1_onward_22 rfl ?_
          refine gfX1_24 33 C (kS sC h0 kc_28) (xS sC h0 xc_28_7) dX1_onward_23 ?_
          refine r_iload_n 2 C dX1_onward_26 rfl ?_
          refine r_zald C (kS sC h0 kc_33) (vin (by omega) (by omega)) dX1_onward_27 ?_
          generalize (wI w 33 (a2).toNatClampNeg) = v7
          refine r_if_ne 36 C dX1_onward_28 (by decide) (fun c8 => ?_) (fun c8 => ?_)
          · have c8' := i_ne c8
            refine r_iload_n 2 C dX1_onward_36 rfl ?_
            refine r_bipush (v := 42) C dX1_onward_37 (by decide) ?_
            refine r_imul C dX1_onward_39 (fun v9 e10 => ?_)
            have k11 : (42 : Int32).toInt = 42 := by omega
            have v9' := imul_ok e10 (by rw [k11]; omega) (by rw [k11]; omega)
            rw [k11] at v9'
            refine r_istore_n [(3, .int v9), (0, .ref (gz (xG x) + 28)), (1, .int a1), (2, .int a2)] C dX1_onward_40 (by decide) rfl ?_
            refine r_aload_n 1 C dX1_onward_41 rfl ?_
            refine gfX1_21 32 C (kS sC h0 kc_28) (xS sC h0 xc_28_6) dX1_onward_42 ?_
            refine r_iload_n 0 C dX1_onward_45 rfl ?_
            refine r_iload_n 2 C dX1_onward_46 rfl ?_
            refine r_iadd C dX1_onward_47 (fun v12 e13 => ?_)
            have v12' := iadd_ok e13 (by omega) (by omega)
            refine r_iald C (kS sC h0 kc_32) (vin (by omega) (by omega)) dX1_onward_48 ?_
            generalize (wI w 32 (v12).toNatClampNeg) = v14
            refine r_istore [(4, .int v14), (3, .int v9), (0, .ref (gz (xG x) + 28)), (1, .int a1), (2, .int a2)] C dX1_onward_49 (by decide) rfl ?_
            refine r_iconst (v := 0) C dX1_onward_51 (by decide) ?_
            refine r_istore [(5, .int 0), (4, .int v14), (3, .int v9), (0, .ref (gz (xG x) + 28)), (1, .int a1), (2, .int a2)] C dX1_onward_52 (by decide) rfl ?_
            refine r_lv [3, 4, 5, 2, 1, 0] rfl ?_
            exact LP18 4294967296 v9 v14 0 w h0 o0 (by omega) (by omega) (by omega) (by omega) (by omega)
          · have c8' := i_eq c8
            refine r_aload_n 0 C dX1_onward_31 rfl ?_
            refine r_iload_n 2 C dX1_onward_32 rfl ?_
            refine callVV C cwX1_69_V (ctX1_findWays_28 _ _ w (sS sC h0) o0 a2 (by omega)) (by decide) (kS sC h0 kc_28) rfl rfl rfl (Nat.le_of_ble_eq_true rfl) (by decide) dX1_onward_33 (fun w55 y54 => ?_)
            show V x 0 0 w55 36 [(0, .ref (gz (xG x) + 28)), (1, .int a1), (2, .int a2)] []
            obtain ⟨h57, o58⟩ := y54
            have h59 := Ch.tr h0 h57 (by decide) (by decide)
            refine r_iload_n 2 C dX1_onward_36 rfl ?_
            refine r_bipush (v := 42) C dX1_onward_37 (by decide) ?_
            refine r_imul C dX1_onward_39 (fun v60 e61 => ?_)
            have k62 : (42 : Int32).toInt = 42 := by omega
            have v60' := imul_ok e61 (by rw [k62]; omega) (by rw [k62]; omega)
            rw [k62] at v60'
            refine r_istore_n [(3, .int v60), (0, .ref (gz (xG x) + 28)), (1, .int a1), (2, .int a2)] C dX1_onward_40 (by decide) rfl ?_
            refine r_aload_n 1 C dX1_onward_41 rfl ?_
            refine gfX1_21 32 C (kS sC h59 kc_28) (xS sC h59 xc_28_6) dX1_onward_42 ?_
            refine r_iload_n 0 C dX1_onward_45 rfl ?_
            refine r_iload_n 2 C dX1_onward_46 rfl ?_
            refine r_iadd C dX1_onward_47 (fun v63 e64 => ?_)
            have v63' := iadd_ok e64 (by omega) (by omega)
            refine r_iald C (kS sC h59 kc_32) (vin (by omega) (by omega)) dX1_onward_48 ?_
            generalize (wI w55 32 (v63).toNatClampNeg) = v65
            refine r_istore [(4, .int v65), (3, .int v60), (0, .ref (gz (xG x) + 28)), (1, .int a1), (2, .int a2)] C dX1_onward_49 (by decide) rfl ?_
            refine r_iconst (v := 0) C dX1_onward_51 (by decide) ?_
            refine r_istore [(5, .int 0), (4, .int v65), (3, .int v60), (0, .ref (gz (xG x) + 28)), (1, .int a1), (2, .int a2)] C dX1_onward_52 (by decide) rfl ?_
            refine r_lv [3, 4, 5, 2, 1, 0] rfl ?_
            exact LP18 4294967296 v60 v65 0 w55 h59 o58 (by omega) (by omega) (by omega) (by omega) (by omega)
        · have c5' := i_nlt c5
          refine r_iconst (v := (-1)) C dX1_onward_20 (by decide) ?_
          exact hret _ _ _ _ dX1_onward_21 rfl ⟨h0, o0⟩
