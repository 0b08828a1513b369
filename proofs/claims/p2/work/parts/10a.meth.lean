set_option maxHeartbeats 4000000 in
set_option maxRecDepth 100000 in
theorem ctX1_isCell (l : Launch) (G : Gt) (w : Wv) (a1 : Int32) : CtI l G yX1_isCell cX1_isCell 1 .boolean ({ frames := 0, cells := 0, slots := 0, locals := 0 } : Room) [.int a1] w (fun r w' => w' = w ∧ ((0 ≤ a1.toInt ∧ a1.toInt < 42 → r.toInt = 1) ∧ (a1.toInt < 0 ∨ 42 ≤ a1.toInt → r.toInt = 0))) := by
  refine enterI (by decide) (Nat.le_of_ble_eq_true rfl) ?_
  intro x el eG C hret
  subst el; subst eG
  show V x 0 0 w 0 [(0, .int a1)] []
  have q0 : (0 : Int32).toInt = 0 := by decide
  have q1 : (1 : Int32).toInt = 1 := by decide
  have q42 : (42 : Int32).toInt = 42 := by decide
  refine r_iload_n 0 C dX1_isCell_0 rfl ?_
  refine r_if_lt 14 C dX1_isCell_1 (by decide) (fun c1 => ?_) (fun c1 => ?_)
  · have c1' := i_lt c1
    refine r_iconst (v := 0) C dX1_isCell_14 (by decide) ?_
    exact hret _ _ _ _ dX1_isCell_15 (nar_z (z_of (by omega))) ⟨rfl, by omega⟩
  · have c1' := i_nlt c1
    refine r_iload_n 0 C dX1_isCell_4 rfl ?_
    refine r_bipush (v := 42) C dX1_isCell_5 (by decide) ?_
    refine r_icmp_ge 14 C dX1_isCell_7 (by decide) (fun c2 => ?_) (fun c2 => ?_)
    · have c2' := i_le c2
      refine r_iconst (v := 0) C dX1_isCell_14 (by decide) ?_
      exact hret _ _ _ _ dX1_isCell_15 (nar_z (z_of (by omega))) ⟨rfl, by omega⟩
    · have c2' := i_nle c2
      refine r_iconst (v := 1) C dX1_isCell_10 (by decide) ?_
      refine r_goto 15 C dX1_isCell_11 (by decide) ?_
      exact hret _ _ _ _ dX1_isCell_15 (nar_z (z_of (by omega))) ⟨rfl, by omega⟩
set_option maxHeartbeats 4000000 in
set_option maxRecDepth 100000 in
theorem ctX10_isKind (l : Launch) (G : Gt) (w : Wv) (a1 : Int32) : CtI l G yX10_isKind cX10_isKind 1 .boolean ({ frames := 0, cells := 0, slots := 0, locals := 0 } : Room) [.int a1] w (fun r w' => w' = w ∧ ((0 ≤ a1.toInt ∧ a1.toInt < 3 → r.toInt = 1) ∧ (a1.toInt < 0 ∨ 3 ≤ a1.toInt → r.toInt = 0))) := by
  refine enterI (by decide) (Nat.le_of_ble_eq_true rfl) ?_
  intro x el eG C hret
  subst el; subst eG
  show V x 0 0 w 0 [(0, .int a1)] []
  have q0 : (0 : Int32).toInt = 0 := by decide
  have q1 : (1 : Int32).toInt = 1 := by decide
  have q3 : (3 : Int32).toInt = 3 := by decide
  refine r_iload_n 0 C dX10_isKind_0 rfl ?_
  refine r_if_lt 13 C dX10_isKind_1 (by decide) (fun c1 => ?_) (fun c1 => ?_)
  · have c1' := i_lt c1
    refine r_iconst (v := 0) C dX10_isKind_13 (by decide) ?_
    exact hret _ _ _ _ dX10_isKind_14 (nar_z (z_of (by omega))) ⟨rfl, by omega⟩
  · have c1' := i_nlt c1
    refine r_iload_n 0 C dX10_isKind_4 rfl ?_
    refine r_iconst (v := 3) C dX10_isKind_5 (by decide) ?_
    refine r_icmp_ge 13 C dX10_isKind_6 (by decide) (fun c2 => ?_) (fun c2 => ?_)
    · have c2' := i_le c2
      refine r_iconst (v := 0) C dX10_isKind_13 (by decide) ?_
      exact hret _ _ _ _ dX10_isKind_14 (nar_z (z_of (by omega))) ⟨rfl, by omega⟩
    · have c2' := i_nle c2
      refine r_iconst (v := 1) C dX10_isKind_9 (by decide) ?_
      refine r_goto 14 C dX10_isKind_10 (by decide) ?_
      exact hret _ _ _ _ dX10_isKind_14 (nar_z (z_of (by omega))) ⟨rfl, by omega⟩
set_option maxHeartbeats 4000000 in
set_option maxRecDepth 100000 in
theorem ctX10_isStep (l : Launch) (G : Gt) (w : Wv) (a1 : Int32) : CtI l G yX10_isStep cX10_isStep 1 .boolean ({ frames := 0, cells := 0, slots := 0, locals := 0 } : Room) [.int a1] w (fun r w' => w' = w ∧ ((0 ≤ a1.toInt ∧ a1.toInt ≤ 4 → r.toInt = 1) ∧ (a1.toInt < 0 ∨ 4 < a1.toInt → r.toInt = 0))) := by
  refine enterI (by decide) (Nat.le_of_ble_eq_true rfl) ?_
  intro x el eG C hret
  subst el; subst eG
  show V x 0 0 w 0 [(0, .int a1)] []
  have q0 : (0 : Int32).toInt = 0 := by decide
  have q1 : (1 : Int32).toInt = 1 := by decide
  have q4 : (4 : Int32).toInt = 4 := by decide
  refine r_iload_n 0 C dX10_isStep_0 rfl ?_
  refine r_if_lt 13 C dX10_isStep_1 (by decide) (fun c1 => ?_) (fun c1 => ?_)
  · have c1' := i_lt c1
    refine r_iconst (v := 0) C dX10_isStep_13 (by decide) ?_
    exact hret _ _ _ _ dX10_isStep_14 (nar_z (z_of (by omega))) ⟨rfl, by omega⟩
  · have c1' := i_nlt c1
    refine r_iload_n 0 C dX10_isStep_4 rfl ?_
    refine r_iconst (v := 4) C dX10_isStep_5 (by decide) ?_
    refine r_icmp_gt 13 C dX10_isStep_6 (by decide) (fun c2 => ?_) (fun c2 => ?_)
    · have c2' := i_lt c2
      refine r_iconst (v := 0) C dX10_isStep_13 (by decide) ?_
      exact hret _ _ _ _ dX10_isStep_14 (nar_z (z_of (by omega))) ⟨rfl, by omega⟩
    · have c2' := i_nlt c2
      refine r_iconst (v := 1) C dX10_isStep_9 (by decide) ?_
      refine r_goto 14 C dX10_isStep_10 (by decide) ?_
      exact hret _ _ _ _ dX10_isStep_14 (nar_z (z_of (by omega))) ⟨rfl, by omega⟩
set_option maxHeartbeats 4000000 in
set_option maxRecDepth 100000 in
theorem ctX10_isImage (l : Launch) (G : Gt) (w : Wv) (a1 : Int32) : CtI l G yX10_isImage cX10_isImage 1 .boolean ({ frames := 0, cells := 0, slots := 0, locals := 0 } : Room) [.int a1] w (fun r w' => w' = w ∧ ((0 ≤ a1.toInt ∧ a1.toInt < 2 → r.toInt = 1) ∧ (a1.toInt < 0 ∨ 2 ≤ a1.toInt → r.toInt = 0))) := by
  refine enterI (by decide) (Nat.le_of_ble_eq_true rfl) ?_
  intro x el eG C hret
  subst el; subst eG
  show V x 0 0 w 0 [(0, .int a1)] []
  have q0 : (0 : Int32).toInt = 0 := by decide
  have q1 : (1 : Int32).toInt = 1 := by decide
  have q2 : (2 : Int32).toInt = 2 := by decide
  refine r_iload_n 0 C dX10_isImage_0 rfl ?_
  refine r_if_lt 13 C dX10_isImage_1 (by decide) (fun c1 => ?_) (fun c1 => ?_)
  · have c1' := i_lt c1
    refine r_iconst (v := 0) C dX10_isImage_13 (by decide) ?_
    exact hret _ _ _ _ dX10_isImage_14 (nar_z (z_of (by omega))) ⟨rfl, by omega⟩
  · have c1' := i_nlt c1
    refine r_iload_n 0 C dX10_isImage_4 rfl ?_
    refine r_iconst (v := 2) C dX10_isImage_5 (by decide) ?_
    refine r_icmp_ge 13 C dX10_isImage_6 (by decide) (fun c2 => ?_) (fun c2 => ?_)
    · have c2' := i_le c2
      refine r_iconst (v := 0) C dX10_isImage_13 (by decide) ?_
      exact hret _ _ _ _ dX10_isImage_14 (nar_z (z_of (by omega))) ⟨rfl, by omega⟩
    · have c2' := i_nle c2
      refine r_iconst (v := 1) C dX10_isImage_9 (by decide) ?_
      refine r_goto 14 C dX10_isImage_10 (by decide) ?_
      exact hret _ _ _ _ dX10_isImage_14 (nar_z (z_of (by omega))) ⟨rfl, by omega⟩
set_option maxHeartbeats 4000000 in
set_option maxRecDepth 100000 in
theorem ctX3_slot (l : Launch) (G : Gt) (w : Wv) (a1 : Int64) (a2 : Int64) : CtI l G yX3_slot cX3_slot 6 .int ({ frames := 0, cells := 0, slots := 0, locals := 0 } : Room) [.long a1, .long a2] w (fun r w' => w' = w ∧ (0 ≤ r.toInt ∧ r.toInt ≤ 1023)) := by
  refine enterI (by decide) (Nat.le_of_ble_eq_true rfl) ?_
  intro x el eG C hret
  subst el; subst eG
  show V x 0 0 w 0 [(0, .long a1), (2, .long a2)] []
  have q54 : (54 : Int32).toInt = 54 := by decide
  have q1023 : (1023 : Int32).toInt = 1023 := by decide
  have qlm7046029254386353131 : ((-7046029254386353131) : Int64).toInt = (-7046029254386353131) := by decide
  have ql31 : (31 : Int64).toInt = 31 := by decide
  refine r_lload_n 0 C dX3_slot_0 rfl ?_
  refine r_ldc2 C mw4_161 dX3_slot_1 ?_
  refine r_lmul C dX3_slot_4 (fun v1 e2 => ?_)
  refine r_lload_n 1 C dX3_slot_5 rfl ?_
  refine r_ladd C dX3_slot_6 (fun v3 e4 => ?_)
  refine r_ldc2 C mw4_162 dX3_slot_7 ?_
  refine r_lmul C dX3_slot_10 (fun v5 e6 => ?_)
  refine r_lstore [(4, .long v5), (0, .long a1), (2, .long a2)] C dX3_slot_11 (by decide) rfl ?_
  refine r_lload 0 C dX3_slot_13 rfl ?_
  refine r_bipush (v := 54) C dX3_slot_15 (by decide) ?_
  refine r_lushr C dX3_slot_17 (fun v7 e8 => ?_)
  refine r_l2i C dX3_slot_18 (fun v9 e10 => ?_)
  refine r_sipush (v := 1023) C dX3_slot_19 (by decide) ?_
  refine r_iand C dX3_slot_22 (fun v11 e12 => ?_)
  have v11' := iand_ok e12 10 (by decide) (by decide)
  exact hret _ _ _ _ dX3_slot_23 rfl ⟨rfl, by omega⟩
set_option maxHeartbeats 4000000 in
set_option maxRecDepth 100000 in
theorem ctX1_forgetWays_21 (l : Launch) (G : Gt) (w : Wv) (sC : Str KC XC w) (o0 : Inv RC w)  : CtV l G yX1_forgetWays cX1_forgetWays 2 ({ frames := 0, cells := 0, slots := 0, locals := 0 } : Room) [.ref (gz G + 21)] w (fun w' => Ch [26] [] w w' ∧ Inv RC w') := by
  refine enterV (by decide) (Nat.le_of_ble_eq_true rfl) ?_
  intro x el eG C hnm hret
  subst el; subst eG
  show V x 0 0 w 0 [(0, .ref (gz (xG x) + 21))] []
  have h0 : Ch [26] [] w w := Ch.rf
  have q0 : (0 : Int32).toInt = 0 := by decide
  have q42 : (42 : Int32).toInt = 42 := by decide
  have LP2 : ∀ (f3 : Nat) (u1 : Int32) (w4 : Wv), Ch [26] [] w w4 → Inv RC w4 → (0 ≤ u1.toInt ∧ u1.toInt ≤ 2147483647) → 2147483647 - u1.toInt < f3 → V x 0 0 w4 2 [(0, .ref (gz (xG x) + 21)), (1, .int u1)] [] := by
    intro f3
    induction f3 with
    | zero => intro u1 w4 h5 o6 z7 z8; exfalso; omega
    | succ f3 ih9 =>
      intro u1 w4 h5 o6 z7 z8
      refine r_iload_n 1 C dX1_forgetWays_2 rfl ?_
      refine r_bipush (v := 42) C dX1_forgetWays_3 (by decide) ?_
      refine r_icmp_ge 21 C dX1_forgetWays_5 (by decide) (fun c10 => ?_) (fun c10 => ?_)
      · have c10' := i_le c10
        exact hret _ _ _ dX1_forgetWays_21 ⟨h5, o6⟩
      · have c10' := i_nle c10
        refine r_aload_n 0 C dX1_forgetWays_8 rfl ?_
        refine gfX1_24 26 C (kS sC h5 kc_21) (xS sC h5 xc_21_7) dX1_forgetWays_9 ?_
        refine r_iload_n 1 C dX1_forgetWays_12 rfl ?_
        refine r_iconst (v := 0) C dX1_forgetWays_13 (by decide) ?_
        refine r_zast C (kS sC h5 kc_26) (vin (by omega) (by omega)) (nar_z (z_of (by omega))) dX1_forgetWays_14 (fun w11 e12 => ?_)
        have h13 := Ch.putS h5 e12 (by decide)
        have o14 := Inv.put0 o6 e12 (by decide)
        obtain ⟨i15, e16⟩ : ∃ z : Int32, u1 + Int32.ofInt 1 = z := ⟨_, rfl⟩
        have i15' := iinc_ok e16 (by decide) (by omega) (by omega)
        refine r_iinc [(1, .int i15), (0, .ref (gz (xG x) + 21))] 1 C dX1_forgetWays_15 rfl e16 (by decide) rfl ?_
        refine r_goto 2 C dX1_forgetWays_18 (by decide) ?_
        refine r_lv [1, 0] rfl ?_
        exact ih9 i15 w11 h13 o14 (by omega) (by omega)
  refine r_iconst (v := 0) C dX1_forgetWays_0 (by decide) ?_
  refine r_istore_n [(1, .int 0), (0, .ref (gz (xG x) + 21))] C dX1_forgetWays_1 (by decide) rfl ?_
  refine r_lv [1, 0] rfl ?_
  exact LP2 4294967296 0 w h0 o0 (by omega) (by omega)
set_option maxHeartbeats 4000000 in
set_option maxRecDepth 100000 in
theorem ctX1_takeWhats_21_4 (l : Launch) (G : Gt) (w : Wv) (sC : Str KC XC w) (o0 : Inv RC w)  : CtV l G yX1_takeWhats cX1_takeWhats 3 ({ frames := 1, cells := 0, slots := 0, locals := 21 } : Room) [.ref (gz G + 21), .ref (gz G + 4)] w (fun w' => Ch [22, 26] [] w w' ∧ Inv RC w') := by
  refine enterV (by decide) (Nat.le_of_ble_eq_true rfl) ?_
  intro x el eG C hnm hret
  subst el; subst eG
  show V x 0 0 w 0 [(0, .ref (gz (xG x) + 21)), (1, .ref (gz (xG x) + 4))] []
  have h0 : Ch [22, 26] [] w w := Ch.rf
  have q0 : (0 : Int32).toInt = 0 := by decide
  have q42 : (42 : Int32).toInt = 42 := by decide
  have LP2 : ∀ (f3 : Nat) (u1 : Int32) (w4 : Wv), Ch [22, 26] [] w w4 → Inv RC w4 → (0 ≤ u1.toInt ∧ u1.toInt ≤ 2147483647) → 2147483647 - u1.toInt < f3 → V x 0 0 w4 2 [(0, .ref (gz (xG x) + 21)), (1, .ref (gz (xG x) + 4)), (2, .int u1)] [] := by
    intro f3
    induction f3 with
    | zero => intro u1 w4 h5 o6 z7 z8; exfalso; omega
    | succ f3 ih9 =>
      intro u1 w4 h5 o6 z7 z8
      refine r_iload_n 2 C dX1_takeWhats_2 rfl ?_
      refine r_bipush (v := 42) C dX1_takeWhats_3 (by decide) ?_
      refine r_icmp_ge 29 C dX1_takeWhats_5 (by decide) (fun c10 => ?_) (fun c10 => ?_)
      · have c10' := i_le c10
        refine r_aload_n 0 C dX1_takeWhats_29 rfl ?_
        refine callVV C cwX1_62_V (ctX1_forgetWays_21 _ _ w4 (sS sC h5) o6  ) (by decide) (kS sC h5 kc_21) rfl rfl rfl (Nat.le_of_ble_eq_true rfl) (by decide) dX1_takeWhats_30 (fun w12 y11 => ?_)
        show V x 0 0 w12 33 [(0, .ref (gz (xG x) + 21)), (1, .ref (gz (xG x) + 4)), (2, .int u1)] []
        obtain ⟨h14, o15⟩ := y11
        have h16 := Ch.tr h5 h14 (by decide) (by decide)
        exact hret _ _ _ dX1_takeWhats_33 ⟨h16, o15⟩
      · have c10' := i_nle c10
        refine r_iload_n 2 C dX1_takeWhats_8 rfl ?_
        refine r_aload_n 1 C dX1_takeWhats_9 rfl ?_
        refine r_alen 0 0 rfl C (kS sC h5 kc_4) (v := 42) (by decide) dX1_takeWhats_10 ?_
        refine r_icmp_ge 29 C dX1_takeWhats_11 (by decide) (fun c17 => ?_) (fun c17 => ?_)
        · have c17' := i_le c17
          exfalso; omega
        · have c17' := i_nle c17
          refine r_aload_n 0 C dX1_takeWhats_14 rfl ?_
          refine gfX1_9 22 C (kS sC h5 kc_21) (xS sC h5 xc_21_1) dX1_takeWhats_15 ?_
          refine r_iload_n 2 C dX1_takeWhats_18 rfl ?_
          refine r_aload_n 1 C dX1_takeWhats_19 rfl ?_
          refine r_iload_n 2 C dX1_takeWhats_20 rfl ?_
          refine r_iald C (kS sC h5 kc_4) (vin (by omega) (by omega)) dX1_takeWhats_21 ?_
          generalize (wI w4 4 (u1).toNatClampNeg) = v18
          refine r_iast C (kS sC h5 kc_22) (vin (by omega) (by omega)) dX1_takeWhats_22 (fun w19 e20 => ?_)
          have h21 := Ch.putS h5 e20 (by decide)
          have o22 := Inv.put0 o6 e20 (by decide)
          obtain ⟨i23, e24⟩ : ∃ z : Int32, u1 + Int32.ofInt 1 = z := ⟨_, rfl⟩
          have i23' := iinc_ok e24 (by decide) (by omega) (by omega)
          refine r_iinc [(2, .int i23), (0, .ref (gz (xG x) + 21)), (1, .ref (gz (xG x) + 4))] 2 C dX1_takeWhats_23 rfl e24 (by decide) rfl ?_
          refine r_goto 2 C dX1_takeWhats_26 (by decide) ?_
          refine r_lv [1, 2, 0] rfl ?_
          exact ih9 i23 w19 h21 o22 (by omega) (by omega)
  refine r_iconst (v := 0) C dX1_takeWhats_0 (by decide) ?_
  refine r_istore_n [(2, .int 0), (0, .ref (gz (xG x) + 21)), (1, .ref (gz (xG x) + 4))] C dX1_takeWhats_1 (by decide) rfl ?_
  refine r_lv [1, 2, 0] rfl ?_
  exact LP2 4294967296 0 w h0 o0 (by omega) (by omega)
set_option maxHeartbeats 4000000 in
set_option maxRecDepth 100000 in
theorem ctX1_takeWhats_21_105 (l : Launch) (G : Gt) (w : Wv) (sC : Str KC XC w) (o0 : Inv RC w)  : CtV l G yX1_takeWhats cX1_takeWhats 3 ({ frames := 1, cells := 0, slots := 0, locals := 21 } : Room) [.ref (gz G + 21), .ref (gz G + 105)] w (fun w' => Ch [22, 26] [] w w' ∧ Inv RC w') := by
  refine enterV (by decide) (Nat.le_of_ble_eq_true rfl) ?_
  intro x el eG C hnm hret
  subst el; subst eG
  show V x 0 0 w 0 [(0, .ref (gz (xG x) + 21)), (1, .ref (gz (xG x) + 105))] []
  have h0 : Ch [22, 26] [] w w := Ch.rf
  have q0 : (0 : Int32).toInt = 0 := by decide
  have q42 : (42 : Int32).toInt = 42 := by decide
  have LP2 : ∀ (f3 : Nat) (u1 : Int32) (w4 : Wv), Ch [22, 26] [] w w4 → Inv RC w4 → (0 ≤ u1.toInt ∧ u1.toInt ≤ 2147483647) → 2147483647 - u1.toInt < f3 → V x 0 0 w4 2 [(0, .ref (gz (xG x) + 21)), (1, .ref (gz (xG x) + 105)), (2, .int u1)] [] := by
    intro f3
    induction f3 with
    | zero => intro u1 w4 h5 o6 z7 z8; exfalso; omega
    | succ f3 ih9 =>
      intro u1 w4 h5 o6 z7 z8
      refine r_iload_n 2 C dX1_takeWhats_2 rfl ?_
      refine r_bipush (v := 42) C dX1_takeWhats_3 (by decide) ?_
      refine r_icmp_ge 29 C dX1_takeWhats_5 (by decide) (fun c10 => ?_) (fun c10 => ?_)
      · have c10' := i_le c10
        refine r_aload_n 0 C dX1_takeWhats_29 rfl ?_
        refine callVV C cwX1_62_V (ctX1_forgetWays_21 _ _ w4 (sS sC h5) o6  ) (by decide) (kS sC h5 kc_21) rfl rfl rfl (Nat.le_of_ble_eq_true rfl) (by decide) dX1_takeWhats_30 (fun w12 y11 => ?_)
        show V x 0 0 w12 33 [(0, .ref (gz (xG x) + 21)), (1, .ref (gz (xG x) + 105)), (2, .int u1)] []
        obtain ⟨h14, o15⟩ := y11
        have h16 := Ch.tr h5 h14 (by decide) (by decide)
        exact hret _ _ _ dX1_takeWhats_33 ⟨h16, o15⟩
      · have c10' := i_nle c10
        refine r_iload_n 2 C dX1_takeWhats_8 rfl ?_
        refine r_aload_n 1 C dX1_takeWhats_9 rfl ?_
        refine r_alen 0 0 rfl C (kS sC h5 kc_105) (v := 42) (by decide) dX1_takeWhats_10 ?_
        refine r_icmp_ge 29 C dX1_takeWhats_11 (by decide) (fun c17 => ?_) (fun c17 => ?_)
        · have c17' := i_le c17
          exfalso; omega
        · have c17' := i_nle c17
          refine r_aload_n 0 C dX1_takeWhats_14 rfl ?_
          refine gfX1_9 22 C (kS sC h5 kc_21) (xS sC h5 xc_21_1) dX1_takeWhats_15 ?_
          refine r_iload_n 2 C dX1_takeWhats_18 rfl ?_
          refine r_aload_n 1 C dX1_takeWhats_19 rfl ?_
          refine r_iload_n 2 C dX1_takeWhats_20 rfl ?_
          refine r_iald C (kS sC h5 kc_105) (vin (by omega) (by omega)) dX1_takeWhats_21 ?_
          generalize (wI w4 105 (u1).toNatClampNeg) = v18
          refine r_iast C (kS sC h5 kc_22) (vin (by omega) (by omega)) dX1_takeWhats_22 (fun w19 e20 => ?_)
          have h21 := Ch.putS h5 e20 (by decide)
          have o22 := Inv.put0 o6 e20 (by decide)
          obtain ⟨i23, e24⟩ : ∃ z : Int32, u1 + Int32.ofInt 1 = z := ⟨_, rfl⟩
          have i23' := iinc_ok e24 (by decide) (by omega) (by omega)
          refine r_iinc [(2, .int i23), (0, .ref (gz (xG x) + 21)), (1, .ref (gz (xG x) + 105))] 2 C dX1_takeWhats_23 rfl e24 (by decide) rfl ?_
          refine r_goto 2 C dX1_takeWhats_26 (by decide) ?_
          refine r_lv [1, 2, 0] rfl ?_
          exact ih9 i23 w19 h21 o22 (by omega) (by omega)
  refine r_iconst (v := 0) C dX1_takeWhats_0 (by decide) ?_
  refine r_istore_n [(2, .int 0), (0, .ref (gz (xG x) + 21)), (1, .ref (gz (xG x) + 105))] C dX1_takeWhats_1 (by decide) rfl ?_
  refine r_lv [1, 2, 0] rfl ?_
  exact LP2 4294967296 0 w h0 o0 (by omega) (by omega)
set_option maxHeartbeats 4000000 in
set_option maxRecDepth 100000 in
theorem ctX1_takeWhats_21_110 (l : Launch) (G : Gt) (w : Wv) (sC : Str KC XC w) (o0 : Inv RC w)  : CtV l G yX1_takeWhats cX1_takeWhats 3 ({ frames := 1, cells := 0, slots := 0, locals := 21 } : Room) [.ref (gz G + 21), .ref (gz G + 110)] w (fun w' => Ch [22, 26] [] w w' ∧ Inv RC w') := by
  refine enterV (by decide) (Nat.le_of_ble_eq_true rfl) ?_
  intro x el eG C hnm hret
  subst el; subst eG
  show V x 0 0 w 0 [(0, .ref (gz (xG x) + 21)), (1, .ref (gz (xG x) + 110))] []
  have h0 : Ch [22, 26] [] w w := Ch.rf
  have q0 : (0 : Int32).toInt = 0 := by decide
  have q42 : (42 : Int32).toInt = 42 := by decide
  have LP2 : ∀ (f3 : Nat) (u1 : Int32) (w4 : Wv), Ch [22, 26] [] w w4 → Inv RC w4 → (0 ≤ u1.toInt ∧ u1.toInt ≤ 2147483647) → 2147483647 - u1.toInt < f3 → V x 0 0 w4 2 [(0, .ref (gz (xG x) + 21)), (1, .ref (gz (xG x) + 110)), (2, .int u1)] [] := by
    intro f3
    induction f3 with
    | zero => intro u1 w4 h5 o6 z7 z8; exfalso; omega
    | succ f3 ih9 =>
      intro u1 w4 h5 o6 z7 z8
      refine r_iload_n 2 C dX1_takeWhats_2 rfl ?_
      refine r_bipush (v := 42) C dX1_takeWhats_3 (by decide) ?_
      refine r_icmp_ge 29 C dX1_takeWhats_5 (by decide) (fun c10 => ?_) (fun c10 => ?_)
      · have c10' := i_le c10
        refine r_aload_n 0 C dX1_takeWhats_29 rfl ?_
        refine callVV C cwX1_62_V (ctX1_forgetWays_21 _ _ w4 (sS sC h5) o6  ) (by decide) (kS sC h5 kc_21) rfl rfl rfl (Nat.le_of_ble_eq_true rfl) (by decide) dX1_takeWhats_30 (fun w12 y11 => ?_)
        show V x 0 0 w12 33 [(0, .ref (gz (xG x) + 21)), (1, .ref (gz (xG x) + 110)), (2, .int u1)] []
        obtain ⟨h14, o15⟩ := y11
        have h16 := Ch.tr h5 h14 (by decide) (by decide)
        exact hret _ _ _ dX1_takeWhats_33 ⟨h16, o15⟩
      · have c10' := i_nle c10
        refine r_iload_n 2 C dX1_takeWhats_8 rfl ?_
        refine r_aload_n 1 C dX1_takeWhats_9 rfl ?_
        refine r_alen 0 0 rfl C (kS sC h5 kc_110) (v := 42) (by decide) dX1_takeWhats_10 ?_
        refine r_icmp_ge 29 C dX1_takeWhats_11 (by decide) (fun c17 => ?_) (fun c17 => ?_)
        · have c17' := i_le c17
          exfalso; omega
        · have c17' := i_nle c17
          refine r_aload_n 0 C dX1_takeWhats_14 rfl ?_
          refine gfX1_9 22 C (kS sC h5 kc_21) (xS sC h5 xc_21_1) dX1_takeWhats_15 ?_
          refine r_iload_n 2 C dX1_takeWhats_18 rfl ?_
          refine r_aload_n 1 C dX1_takeWhats_19 rfl ?_
          refine r_iload_n 2 C dX1_takeWhats_20 rfl ?_
          refine r_iald C (kS sC h5 kc_110) (vin (by omega) (by omega)) dX1_takeWhats_21 ?_
          generalize (wI w4 110 (u1).toNatClampNeg) = v18
          refine r_iast C (kS sC h5 kc_22) (vin (by omega) (by omega)) dX1_takeWhats_22 (fun w19 e20 => ?_)
          have h21 := Ch.putS h5 e20 (by decide)
          have o22 := Inv.put0 o6 e20 (by decide)
          obtain ⟨i23, e24⟩ : ∃ z : Int32, u1 + Int32.ofInt 1 = z := ⟨_, rfl⟩
          have i23' := iinc_ok e24 (by decide) (by omega) (by omega)
          refine r_iinc [(2, .int i23), (0, .ref (gz (xG x) + 21)), (1, .ref (gz (xG x) + 110))] 2 C dX1_takeWhats_23 rfl e24 (by decide) rfl ?_
          refine r_goto 2 C dX1_takeWhats_26 (by decide) ?_
          refine r_lv [1, 2, 0] rfl ?_
          exact ih9 i23 w19 h21 o22 (by omega) (by omega)
  refine r_iconst (v := 0) C dX1_takeWhats_0 (by decide) ?_
  refine r_istore_n [(2, .int 0), (0, .ref (gz (xG x) + 21)), (1, .ref (gz (xG x) + 110))] C dX1_takeWhats_1 (by decide) rfl ?_
  refine r_lv [1, 2, 0] rfl ?_
  exact LP2 4294967296 0 w h0 o0 (by omega) (by omega)
set_option maxHeartbeats 4000000 in
set_option maxRecDepth 100000 in
theorem ctX1_layCell_21 (l : Launch) (G : Gt) (w : Wv) (sC : Str KC XC w) (o0 : Inv RC w) (a1 : Int32) (a2 : Int32) (b1 : 0 ≤ a1.toInt ∧ a1.toInt ≤ 8) (b2 : 0 ≤ a2.toInt ∧ a2.toInt ≤ 8) : CtV l G yX1_layCell cX1_layCell 4 ({ frames := 0, cells := 0, slots := 0, locals := 0 } : Room) [.ref (gz G + 21), .int a1, .int a2] w (fun w' => Ch [23, 24] [] w w' ∧ Inv RC w') := by
  refine enterV (by decide) (Nat.le_of_ble_eq_true rfl) ?_
  intro x el eG C hnm hret
  subst el; subst eG
  show V x 0 0 w 0 [(0, .ref (gz (xG x) + 21)), (1, .int a1), (2, .int a2)] []
  have h0 : Ch [23, 24] [] w w := Ch.rf
  have qm1 : ((-1) : Int32).toInt = (-1) := by decide
  have q0 : (0 : Int32).toInt = 0 := by decide
  have q1 : (1 : Int32).toInt = 1 := by decide
  have q2 : (2 : Int32).toInt = 2 := by decide
  have q3 : (3 : Int32).toInt = 3 := by decide
  have q4 : (4 : Int32).toInt = 4 := by decide
  have q10 : (10 : Int32).toInt = 10 := by decide
  have q42 : (42 : Int32).toInt = 42 := by decide
  refine r_iload_n 2 C dX1_layCell_0 rfl ?_
  refine r_aload_n 0 C dX1_layCell_1 rfl ?_
  refine gfX1_37 (v := (wI w 21 2)) C (kS sC h0 kc_21) rfl dX1_layCell_2 ?_
  have b1 := Inv.get o0 rt_21_2 (j := 2) (by decide) (by decide)
  refine r_imul C dX1_layCell_5 (fun v2 e3 => ?_)
  have v2' := imul_rng e3 (A := 8) (B := 9) (by omega) (by omega) (by decide)
  refine r_iload_n 1 C dX1_layCell_6 rfl ?_
  refine r_iadd C dX1_layCell_7 (fun v4 e5 => ?_)
  have v4' := iadd_ok e5 (by omega) (by omega)
  refine r_istore_n [(3, .int v4), (0, .ref (gz (xG x) + 21)), (1, .int a1), (2, .int a2)] C dX1_layCell_8 (by decide) rfl ?_
  refine r_iload_n 0 C dX1_layCell_9 rfl ?_
  refine r_bipush (v := 42) C dX1_layCell_10 (by decide) ?_
  refine r_icmp_lt 16 C dX1_layCell_12 (by decide) (fun c6 => ?_) (fun c6 => ?_)
  · have c6' := i_lt c6
    refine r_aload_n 1 C dX1_layCell_16 rfl ?_
    refine gfX1_15 23 C (kS sC h0 kc_21) (xS sC h0 xc_21_4) dX1_layCell_17 ?_
    refine r_iload_n 0 C dX1_layCell_20 rfl ?_
    refine r_bipush (v := 10) C dX1_layCell_21 (by decide) ?_
    refine r_iload_n 2 C dX1_layCell_23 rfl ?_
    refine r_imul C dX1_layCell_24 (fun v7 e8 => ?_)
    have k9 : (10 : Int32).toInt = 10 := by omega
    have v7' := imul_ok e8 (by rw [k9]; omega) (by rw [k9]; omega)
    rw [k9] at v7'
    refine r_iload_n 3 C dX1_layCell_25 rfl ?_
    refine r_iadd C dX1_layCell_26 (fun v10 e11 => ?_)
    have v10' := iadd_ok e11 (by omega) (by omega)
    refine r_iast C (kS sC h0 kc_23) (vin (by omega) (by omega)) dX1_layCell_27 (fun w12 e13 => ?_)
    have h14 := Ch.putS h0 e13 (by decide)
    have o15 := Inv.put0 o0 e13 (by decide)
    refine r_aload_n 1 C dX1_layCell_28 rfl ?_
    refine gfX1_18 24 C (kS sC h14 kc_21) (xS sC h14 xc_21_5) dX1_layCell_29 ?_
    refine r_iload_n 0 C dX1_layCell_32 rfl ?_
    refine r_iconst (v := 4) C dX1_layCell_33 (by decide) ?_
    refine r_imul C dX1_layCell_34 (fun v16 e17 => ?_)
    have k18 : (4 : Int32).toInt = 4 := by omega
    have v16' := imul_ok e17 (by rw [k18]; omega) (by rw [k18]; omega)
    rw [k18] at v16'
    refine r_iload_n 3 C dX1_layCell_35 rfl ?_
    refine r_if_le 48 C dX1_layCell_36 (by decide) (fun c19 => ?_) (fun c19 => ?_)
    · have c19' := i_le c19
      refine r_iconst (v := (-1)) C dX1_layCell_48 (by decide) ?_
      refine r_iast C (kS sC h14 kc_24) (vin (by omega) (by omega)) dX1_layCell_49 (fun w20 e21 => ?_)
      have h22 := Ch.putS h14 e21 (by decide)
      have o23 := Inv.put0 o15 e21 (by decide)
      refine r_aload_n 1 C dX1_layCell_50 rfl ?_
      refine gfX1_18 24 C (kS sC h22 kc_21) (xS sC h22 xc_21_5) dX1_layCell_51 ?_
      refine r_iload_n 0 C dX1_layCell_54 rfl ?_
      refine r_iconst (v := 4) C dX1_layCell_55 (by decide) ?_
      refine r_imul C dX1_layCell_56 (fun v24 e25 => ?_)
      have k26 : (4 : Int32).toInt = 4 := by omega
      have v24' := imul_ok e25 (by rw [k26]; omega) (by rw [k26]; omega)
      rw [k26] at v24'
      refine r_iconst (v := 1) C dX1_layCell_57 (by decide) ?_
      refine r_iadd C dX1_layCell_58 (fun v27 e28 => ?_)
      have v27' := iadd_ok e28 (by omega) (by omega)
      refine r_iload_n 2 C dX1_layCell_59 rfl ?_
      refine r_aload_n 1 C dX1_layCell_60 rfl ?_
      refine gfX1_37 (v := (wI w 21 2)) C (kS sC h22 kc_21) (g_nn e21 (by decide) (g_nn e13 (by decide) rfl)) dX1_layCell_61 ?_
      refine r_iconst (v := 1) C dX1_layCell_64 (by decide) ?_
      refine r_isub C dX1_layCell_65 (fun v29 e30 => ?_)
      have v29' := isub_ok e30 (by omega) (by omega)
      refine r_icmp_ge 75 C dX1_layCell_66 (by decide) (fun c31 => ?_) (fun c31 => ?_)
      · have c31' := i_le c31
        refine r_iconst (v := (-1)) C dX1_layCell_75 (by decide) ?_
        refine r_iast C (kS sC h22 kc_24) (vin (by omega) (by omega)) dX1_layCell_76 (fun w32 e33 => ?_)
        have h34 := Ch.putS h22 e33 (by decide)
        have o35 := Inv.put0 o23 e33 (by decide)
        refine r_aload_n 1 C dX1_layCell_77 rfl ?_
        refine gfX1_18 24 C (kS sC h34 kc_21) (xS sC h34 xc_21_5) dX1_layCell_78 ?_
        refine r_iload_n 0 C dX1_layCell_81 rfl ?_
        refine r_iconst (v := 4) C dX1_layCell_82 (by decide) ?_
        refine r_imul C dX1_layCell_83 (fun v36 e37 => ?_)
        have k38 : (4 : Int32).toInt = 4 := by omega
        have v36' := imul_ok e37 (by rw [k38]; omega) (by rw [k38]; omega)
        rw [k38] at v36'
        refine r_iconst (v := 2) C dX1_layCell_84 (by decide) ?_
        refine r_iadd C dX1_layCell_85 (fun v39 e40 => ?_)
        have v39' := iadd_ok e40 (by omega) (by omega)
        refine r_iload_n 3 C dX1_layCell_86 rfl ?_
        refine r_aload_n 1 C dX1_layCell_87 rfl ?_
        refine gfX1_41 (v := (wI w 21 3)) C (kS sC h34 kc_21) (g_nn e33 (by decide) (g_nn e21 (by decide) (g_nn e13 (by decide) rfl))) dX1_layCell_88 ?_
        have b41 := Inv.get o0 rt_21_3 (j := 3) (by decide) (by decide)
        refine r_iconst (v := 1) C dX1_layCell_91 (by decide) ?_
        refine r_isub C dX1_layCell_92 (fun v42 e43 => ?_)
        have v42' := isub_ok e43 (by omega) (by omega)
        refine r_icmp_ge 105 C dX1_layCell_93 (by decide) (fun c44 => ?_) (fun c44 => ?_)
        · have c44' := i_le c44
          refine r_iconst (v := (-1)) C dX1_layCell_105 (by decide) ?_
          refine r_iast C (kS sC h34 kc_24) (vin (by omega) (by omega)) dX1_layCell_106 (fun w45 e46 => ?_)
          have h47 := Ch.putS h34 e46 (by decide)
          have o48 := Inv.put0 o35 e46 (by decide)
          refine r_aload_n 1 C dX1_layCell_107 rfl ?_
          refine gfX1_18 24 C (kS sC h47 kc_21) (xS sC h47 xc_21_5) dX1_layCell_108 ?_
          refine r_iload_n 0 C dX1_layCell_111 rfl ?_
          refine r_iconst (v := 4) C dX1_layCell_112 (by decide) ?_
          refine r_imul C dX1_layCell_113 (fun v49 e50 => ?_)
          have k51 : (4 : Int32).toInt = 4 := by omega
          have v49' := imul_ok e50 (by rw [k51]; omega) (by rw [k51]; omega)
          rw [k51] at v49'
          refine r_iconst (v := 3) C dX1_layCell_114 (by decide) ?_
          refine r_iadd C dX1_layCell_115 (fun v52 e53 => ?_)
          have v52' := iadd_ok e53 (by omega) (by omega)
          refine r_iload_n 2 C dX1_layCell_116 rfl ?_
          refine r_if_le 126 C dX1_layCell_117 (by decide) (fun c54 => ?_) (fun c54 => ?_)
          · have c54' := i_le c54
            refine r_iconst (v := (-1)) C dX1_layCell_126 (by decide) ?_
            refine r_iast C (kS sC h47 kc_24) (vin (by omega) (by omega)) dX1_layCell_127 (fun w55 e56 => ?_)
            have h57 := Ch.putS h47 e56 (by decide)
            have o58 := Inv.put0 o48 e56 (by decide)
            exact hret _ _ _ dX1_layCell_128 ⟨h57, o58⟩
          · have c54' := i_nle c54
            refine r_iload_n 0 C dX1_layCell_120 rfl ?_
            refine r_iconst (v := 1) C dX1_layCell_121 (by decide) ?_
            refine r_isub C dX1_layCell_122 (fun v59 e60 => ?_)
            have v59' := isub_ok e60 (by omega) (by omega)
            refine r_goto 127 C dX1_layCell_123 (by decide) ?_
            refine r_iast C (kS sC h47 kc_24) (vin (by omega) (by omega)) dX1_layCell_127 (fun w61 e62 => ?_)
            have h63 := Ch.putS h47 e62 (by decide)
            have o64 := Inv.put0 o48 e62 (by decide)
            exact hret _ _ _ dX1_layCell_128 ⟨h63, o64⟩
        · have c44' := i_nle c44
          refine r_iload_n 0 C dX1_layCell_96 rfl ?_
          refine r_aload_n 1 C dX1_layCell_97 rfl ?_
          refine gfX1_37 (v := (wI w 21 2)) C (kS sC h34 kc_21) (g_nn e33 (by decide) (g_nn e21 (by decide) (g_nn e13 (by decide) rfl))) dX1_layCell_98 ?_
          refine r_iadd C dX1_layCell_101 (fun v65 e66 => ?_)
          have v65' := iadd_ok e66 (by omega) (by omega)
          refine r_goto 106 C dX1_layCell_102 (by decide) ?_
          refine r_iast C (kS sC h34 kc_24) (vin (by omega) (by omega)) dX1_layCell_106 (fun w67 e68 => ?_)
          have h69 := Ch.putS h34 e68 (by decide)
          have o70 := Inv.put0 o35 e68 (by decide)
          refine r_aload_n 1 C dX1_layCell_107 rfl ?_
          refine gfX1_18 24 C (kS sC h69 kc_21) (xS sC h69 xc_21_5) dX1_layCell_108 ?_
          refine r_iload_n 0 C dX1_layCell_111 rfl ?_
          refine r_iconst (v := 4) C dX1_layCell_112 (by decide) ?_
          refine r_imul C dX1_layCell_113 (fun v71 e72 => ?_)
          have k73 : (4 : Int32).toInt = 4 := by omega
          have v71' := imul_ok e72 (by rw [k73]; omega) (by rw [k73]; omega)
          rw [k73] at v71'
          refine r_iconst (v := 3) C dX1_layCell_114 (by decide) ?_
          refine r_iadd C dX1_layCell_115 (fun v74 e75 => ?_)
          have v74' := iadd_ok e75 (by omega) (by omega)
          refine r_iload_n 2 C dX1_layCell_116 rfl ?_
          refine r_if_le 126 C dX1_layCell_117 (by decide) (fun c76 => ?_) (fun c76 => ?_)
          · have c76' := i_le c76
            refine r_iconst (v := (-1)) C dX1_layCell_126 (by decide) ?_
            refine r_iast C (kS sC h69 kc_24) (vin (by omega) (by omega)) dX1_layCell_127 (fun w77 e78 => ?_)
            have h79 := Ch.putS h69 e78 (by decide)
            have o80 := Inv.put0 o70 e78 (by decide)
            exact hret _ _ _ dX1_layCell_128 ⟨h79, o80⟩
          · have c76' := i_nle c76
            refine r_iload_n 0 C dX1_layCell_120 rfl ?_
            refine r_iconst (v := 1) C dX1_layCell_121 (by decide) ?_
            refine r_isub C dX1_layCell_122 (fun v81 e82 => ?_)
            have v81' := isub_ok e82 (by omega) (by omega)
            refine r_goto 127 C dX1_layCell_123 (by decide) ?_
            refine r_iast C (kS sC h69 kc_24) (vin (by omega) (by omega)) dX1_layCell_127 (fun w83 e84 => ?_)
            have h85 := Ch.putS h69 e84 (by decide)
            have o86 := Inv.put0 o70 e84 (by decide)
            exact hret _ _ _ dX1_layCell_128 ⟨h85, o86⟩
      · have c31' := i_nle c31
        refine r_iload_n 0 C dX1_layCell_69 rfl ?_
        refine r_iconst (v := 1) C dX1_layCell_70 (by decide) ?_
        refine r_iadd C dX1_layCell_71 (fun v87 e88 => ?_)
        have v87' := iadd_ok e88 (by omega) (by omega)
        refine r_goto 76 C dX1_layCell_72 (by decide) ?_
        refine r_iast C (kS sC h22 kc_24) (vin (by omega) (by omega)) dX1_layCell_76 (fun w89 e90 => ?_)
        have h91 := Ch.putS h22 e90 (by decide)
        have o92 := Inv.put0 o23 e90 (by decide)
        refine r_aload_n 1 C dX1_layCell_77 rfl ?_
        refine gfX1_18 24 C (kS sC h91 kc_21) (xS sC h91 xc_21_5) dX1_layCell_78 ?_
        refine r_iload_n 0 C dX1_layCell_81 rfl ?_
        refine r_iconst (v := 4) C dX1_layCell_82 (by decide) ?_
        refine r_imul C dX1_layCell_83 (fun v93 e94 => ?_)
        have k95 : (4 : Int32).toInt = 4 := by omega
        have v93' := imul_ok e94 (by rw [k95]; omega) (by rw [k95]; omega)
        rw [k95] at v93'
        refine r_iconst (v := 2) C dX1_layCell_84 (by decide) ?_
        refine r_iadd C dX1_layCell_85 (fun v96 e97 => ?_)
        have v96' := iadd_ok e97 (by omega) (by omega)
        refine r_iload_n 3 C dX1_layCell_86 rfl ?_
        refine r_aload_n 1 C dX1_layCell_87 rfl ?_
        refine gfX1_41 (v := (wI w 21 3)) C (kS sC h91 kc_21) (g_nn e90 (by decide) (g_nn e21 (by decide) (g_nn e13 (by decide) rfl))) dX1_layCell_88 ?_
        have b98 := Inv.get o0 rt_21_3 (j := 3) (by decide) (by decide)
        refine r_iconst (v := 1) C dX1_layCell_91 (by decide) ?_
        refine r_isub C dX1_layCell_92 (fun v99 e100 => ?_)
        have v99' := isub_ok e100 (by omega) (by omega)
        refine r_icmp_ge 105 C dX1_layCell_93 (by decide) (fun c101 => ?_) (fun c101 => ?_)
        · have c101' := i_le c101
          refine r_iconst (v := (-1)) C dX1_layCell_105 (by decide) ?_
          refine r_iast C (kS sC h91 kc_24) (vin (by omega) (by omega)) dX1_layCell_106 (fun w102 e103 => ?_)
          have h104 := Ch.putS h91 e103 (by decide)
          have o105 := Inv.put0 o92 e103 (by decide)
          refine r_aload_n 1 C dX1_layCell_107 rfl ?_
          refine gfX1_18 24 C (kS sC h104 kc_21) (xS sC h104 xc_21_5) dX1_layCell_108 ?_
          refine r_iload_n 0 C dX1_layCell_111 rfl ?_
          refine r_iconst (v := 4) C dX1_layCell_112 (by decide) ?_
          refine r_imul C dX1_layCell_113 (fun v106 e107 => ?_)
          have k108 : (4 : Int32).toInt = 4 := by omega
          have v106' := imul_ok e107 (by rw [k108]; omega) (by rw [k108]; omega)
          rw [k108] at v106'
          refine r_iconst (v := 3) C dX1_layCell_114 (by decide) ?_
          refine r_iadd C dX1_layCell_115 (fun v109 e110 => ?_)
          have v109' := iadd_ok e110 (by omega) (by omega)
          refine r_iload_n 2 C dX1_layCell_116 rfl ?_
          refine r_if_le 126 C dX1_layCell_117 (by decide) (fun c111 => ?_) (fun c111 => ?_)
          · have c111' := i_le c111
            refine r_iconst (v := (-1)) C dX1_layCell_126 (by decide) ?_
            refine r_iast C (kS sC h104 kc_24) (vin (by omega) (by omega)) dX1_layCell_127 (fun w112 e113 => ?_)
            have h114 := Ch.putS h104 e113 (by decide)
            have o115 := Inv.put0 o105 e113 (by decide)
            exact hret _ _ _ dX1_layCell_128 ⟨h114, o115⟩
          · have c111' := i_nle c111
            refine r_iload_n 0 C dX1_layCell_120 rfl ?_
            refine r_iconst (v := 1) C dX1_layCell_121 (by decide) ?_
            refine r_isub C dX1_layCell_122 (fun v116 e117 => ?_)
            have v116' := isub_ok e117 (by omega) (by omega)
            refine r_goto 127 C dX1_layCell_123 (by decide) ?_
            refine r_iast C (kS sC h104 kc_24) (vin (by omega) (by omega)) dX1_layCell_127 (fun w118 e119 => ?_)
            have h120 := Ch.putS h104 e119 (by decide)
            have o121 := Inv.put0 o105 e119 (by decide)
            exact hret _ _ _ dX1_layCell_128 ⟨h120, o121⟩
        · have c101' := i_nle c101
          refine r_iload_n 0 C dX1_layCell_96 rfl ?_
          refine r_aload_n 1 C dX1_layCell_97 rfl ?_
          refine gfX1_37 (v := (wI w 21 2)) C (kS sC h91 kc_21) (g_nn e90 (by decide) (g_nn e21 (by decide) (g_nn e13 (by decide) rfl))) dX1_layCell_98 ?_
          refine r_iadd C dX1_layCell_101 (fun v122 e123 => ?_)
          have v122' := iadd_ok e123 (by omega) (by omega)
          refine r_goto 106 C dX1_layCell_102 (by decide) ?_
          refine r_iast C (kS sC h91 kc_24) (vin (by omega) (by omega)) dX1_layCell_106 (fun w124 e125 => ?_)
          have h126 := Ch.putS h91 e125 (by decide)
          have o127 := Inv.put0 o92 e125 (by decide)
          refine r_aload_n 1 C dX1_layCell_107 rfl ?_
          refine gfX1_18 24 C (kS sC h126 kc_21) (xS sC h126 xc_21_5) dX1_layCell_108 ?_
          refine r_iload_n 0 C dX1_layCell_111 rfl ?_
          refine r_iconst (v := 4) C dX1_layCell_112 (by decide) ?_
          refine r_imul C dX1_layCell_113 (fun v128 e129 => ?_)
          have k130 : (4 : Int32).toInt = 4 := by omega
          have v128' := imul_ok e129 (by rw [k130]; omega) (by rw [k130]; omega)
          rw [k130] at v128'
          refine r_iconst (v := 3) C dX1_layCell_114 (by decide) ?_
          refine r_iadd C dX1_layCell_115 (fun v131 e132 => ?_)
          have v131' := iadd_ok e132 (by omega) (by omega)
          refine r_iload_n 2 C dX1_layCell_116 rfl ?_
          refine r_if_le 126 C dX1_layCell_117 (by decide) (fun c133 => ?_) (fun c133 => ?_)
          · have c133' := i_le c133
            refine r_iconst (v := (-1)) C dX1_layCell_126 (by decide) ?_
            refine r_iast C (kS sC h126 kc_24) (vin (by omega) (by omega)) dX1_layCell_127 (fun w134 e135 => ?_)
            have h136 := Ch.putS h126 e135 (by decide)
            have o137 := Inv.put0 o127 e135 (by decide)
            exact hret _ _ _ dX1_layCell_128 ⟨h136, o137⟩
          · have c133' := i_nle c133
            refine r_iload_n 0 C dX1_layCell_120 rfl ?_
            refine r_iconst (v := 1) C dX1_layCell_121 (by decide) ?_
            refine r_isub C dX1_layCell_122 (fun v138 e139 => ?_)
            have v138' := isub_ok e139 (by omega) (by omega)
            refine r_goto 127 C dX1_layCell_123 (by decide) ?_
            refine r_iast C (kS sC h126 kc_24) (vin (by omega) (by omega)) dX1_layCell_127 (fun w140 e141 => ?_)
            have h142 := Ch.putS h126 e141 (by decide)
            have o143 := Inv.put0 o127 e141 (by decide)
            exact hret _ _ _ dX1_layCell_128 ⟨h142, o143⟩
    · have c19' := i_nle c19
      refine r_iload_n 0 C dX1_layCell_39 rfl ?_
      refine r_aload_n 1 C dX1_layCell_40 rfl ?_
      refine gfX1_37 (v := (wI w 21 2)) C (kS sC h14 kc_21) (g_nn e13 (by decide) rfl) dX1_layCell_41 ?_
      refine r_isub C dX1_layCell_44 (fun v144 e145 => ?_)
      have v144' := isub_ok e145 (by omega) (by omega)
      refine r_goto 49 C dX1_layCell_45 (by decide) ?_
      refine r_iast C (kS sC h14 kc_24) (vin (by omega) (by omega)) dX1_layCell_49 (fun w146 e147 => ?_)
      have h148 := Ch.putS h14 e147 (by decide)
      have o149 := Inv.put0 o15 e147 (by decide)
      refine r_aload_n 1 C dX1_layCell_50 rfl ?_
      refine gfX1_18 24 C (kS sC h148 kc_21) (xS sC h148 xc_21_5) dX1_layCell_51 ?_
      refine r_iload_n 0 C dX1_layCell_54 rfl ?_
      refine r_iconst (v := 4) C dX1_layCell_55 (by decide) ?_
      refine r_imul C dX1_layCell_56 (fun v150 e151 => ?_)
      have k152 : (4 : Int32).toInt = 4 := by omega
      have v150' := imul_ok e151 (by rw [k152]; omega) (by rw [k152]; omega)
      rw [k152] at v150'
      refine r_iconst (v := 1) C dX1_layCell_57 (by decide) ?_
      refine r_iadd C dX1_layCell_58 (fun v153 e154 => ?_)
      have v153' := iadd_ok e154 (by omega) (by omega)
      refine r_iload_n 2 C dX1_layCell_59 rfl ?_
      refine r_aload_n 1 C dX1_layCell_60 rfl ?_
      refine gfX1_37 (v := (wI w 21 2)) C (kS sC h148 kc_21) (g_nn e147 (by decide) (g_nn e13 (by decide) rfl)) dX1_layCell_61 ?_
      refine r_iconst (v := 1) C dX1_layCell_64 (by decide) ?_
      refine r_isub C dX1_layCell_65 (fun v155 e156 => ?_)
      have v155' := isub_ok e156 (by omega) (by omega)
      refine r_icmp_ge 75 C dX1_layCell_66 (by decide) (fun c157 => ?_) (fun c157 => ?_)
      · have c157' := i_le c157
        refine r_iconst (v := (-1)) C dX1_layCell_75 (by decide) ?_
        refine r_iast C (kS sC h148 kc_24) (vin (by omega) (by omega)) dX1_layCell_76 (fun w158 e159 => ?_)
        have h160 := Ch.putS h148 e159 (by decide)
        have o161 := Inv.put0 o149 e159 (by decide)
        refine r_aload_n 1 C dX1_layCell_77 rfl ?_
        refine gfX1_18 24 C (kS sC h160 kc_21) (xS sC h160 xc_21_5) dX1_layCell_78 ?_
        refine r_iload_n 0 C dX1_layCell_81 rfl ?_
        refine r_iconst (v := 4) C dX1_layCell_82 (by decide) ?_
        refine r_imul C dX1_layCell_83 (fun v162 e163 => ?_)
        have k164 : (4 : Int32).toInt = 4 := by omega
        have v162' := imul_ok e163 (by rw [k164]; omega) (by rw [k164]; omega)
        rw [k164] at v162'
        refine r_iconst (v := 2) C dX1_layCell_84 (by decide) ?_
        refine r_iadd C dX1_layCell_85 (fun v165 e166 => ?_)
        have v165' := iadd_ok e166 (by omega) (by omega)
        refine r_iload_n 3 C dX1_layCell_86 rfl ?_
        refine r_aload_n 1 C dX1_layCell_87 rfl ?_
        refine gfX1_41 (v := (wI w 21 3)) C (kS sC h160 kc_21) (g_nn e159 (by decide) (g_nn e147 (by decide) (g_nn e13 (by decide) rfl))) dX1_layCell_88 ?_
        have b167 := Inv.get o0 rt_21_3 (j := 3) (by decide) (by decide)
        refine r_iconst (v := 1) C dX1_layCell_91 (by decide) ?_
        refine r_isub C dX1_layCell_92 (fun v168 e169 => ?_)
        have v168' := isub_ok e169 (by omega) (by omega)
        refine r_icmp_ge 105 C dX1_layCell_93 (by decide) (fun c170 => ?_) (fun c170 => ?_)
        · have c170' := i_le c170
          refine r_iconst (v := (-1)) C dX1_layCell_105 (by decide) ?_
          refine r_iast C (kS sC h160 kc_24) (vin (by omega) (by omega)) dX1_layCell_106 (fun w171 e172 => ?_)
          have h173 := Ch.putS h160 e172 (by decide)
          have o174 := Inv.put0 o161 e172 (by decide)
          refine r_aload_n 1 C dX1_layCell_107 rfl ?_
          refine gfX1_18 24 C (kS sC h173 kc_21) (xS sC h173 xc_21_5) dX1_layCell_108 ?_
          refine r_iload_n 0 C dX1_layCell_111 rfl ?_
          refine r_iconst (v := 4) C dX1_layCell_112 (by decide) ?_
          refine r_imul C dX1_layCell_113 (fun v175 e176 => ?_)
          have k177 : (4 : Int32).toInt = 4 := by omega
          have v175' := imul_ok e176 (by rw [k177]; omega) (by rw [k177]; omega)
          rw [k177] at v175'
          refine r_iconst (v := 3) C dX1_layCell_114 (by decide) ?_
          refine r_iadd C dX1_layCell_115 (fun v178 e179 => ?_)
          have v178' := iadd_ok e179 (by omega) (by omega)
          refine r_iload_n 2 C dX1_layCell_116 rfl ?_
          refine r_if_le 126 C dX1_layCell_117 (by decide) (fun c180 => ?_) (fun c180 => ?_)
          · have c180' := i_le c180
            refine r_iconst (v := (-1)) C dX1_layCell_126 (by decide) ?_
            refine r_iast C (kS sC h173 kc_24) (vin (by omega) (by omega)) dX1_layCell_127 (fun w181 e182 => ?_)
            have h183 := Ch.putS h173 e182 (by decide)
            have o184 := Inv.put0 o174 e182 (by decide)
            exact hret _ _ _ dX1_layCell_128 ⟨h183, o184⟩
          · have c180' := i_nle c180
            refine r_iload_n 0 C dX1_layCell_120 rfl ?_
            refine r_iconst (v := 1) C dX1_layCell_121 (by decide) ?_
            refine r_isub C dX1_layCell_122 (fun v185 e186 => ?_)
            have v185' := isub_ok e186 (by omega) (by omega)
            refine r_goto 127 C dX1_layCell_123 (by decide) ?_
            refine r_iast C (kS sC h173 kc_24) (vin (by omega) (by omega)) dX1_layCell_127 (fun w187 e188 => ?_)
            have h189 := Ch.putS h173 e188 (by decide)
            have o190 := Inv.put0 o174 e188 (by decide)
            exact hret _ _ _ dX1_layCell_128 ⟨h189, o190⟩
        · have c170' := i_nle c170
          refine r_iload_n 0 C dX1_layCell_96 rfl ?_
          refine r_aload_n 1 C dX1_layCell_97 rfl ?_
          refine gfX1_37 (v := (wI w 21 2)) C (kS sC h160 kc_21) (g_nn e159 (by decide) (g_nn e147 (by decide) (g_nn e13 (by decide) rfl))) dX1_layCell_98 ?_
          refine r_iadd C dX1_layCell_101 (fun v191 e192 => ?_)
          have v191' := iadd_ok e192 (by omega) (by omega)
          refine r_goto 106 C dX1_layCell_102 (by decide) ?_
          refine r_iast C (kS sC h160 kc_24) (vin (by omega) (by omega)) dX1_layCell_106 (fun w193 e194 => ?_)
          have h195 := Ch.putS h160 e194 (by decide)
          have o196 := Inv.put0 o161 e194 (by decide)
          refine r_aload_n 1 C dX1_layCell_107 rfl ?_
          refine gfX1_18 24 C (kS sC h195 kc_21) (xS sC h195 xc_21_5) dX1_layCell_108 ?_
          refine r_iload_n 0 C dX1_layCell_111 rfl ?_
          refine r_iconst (v := 4) C dX1_layCell_112 (by decide) ?_
          refine r_imul C dX1_layCell_113 (fun v197 e198 => ?_)
          have k199 : (4 : Int32).toInt = 4 := by omega
          have v197' := imul_ok e198 (by rw [k199]; omega) (by rw [k199]; omega)
          rw [k199] at v197'
          refine r_iconst (v := 3) C dX1_layCell_114 (by decide) ?_
          refine r_iadd C dX1_layCell_115 (fun v200 e201 => ?_)
          have v200' := iadd_ok e201 (by omega) (by omega)
          refine r_iload_n 2 C dX1_layCell_116 rfl ?_
          refine r_if_le 126 C dX1_layCell_117 (by decide) (fun c202 => ?_) (fun c202 => ?_)
          · have c202' := i_le c202
            refine r_iconst (v := (-1)) C dX1_layCell_126 (by decide) ?_
            refine r_iast C (kS sC h195 kc_24) (vin (by omega) (by omega)) dX1_layCell_127 (fun w203 e204 => ?_)
            have h205 := Ch.putS h195 e204 (by decide)
            have o206 := Inv.put0 o196 e204 (by decide)
            exact hret _ _ _ dX1_layCell_128 ⟨h205, o206⟩
          · have c202' := i_nle c202
            refine r_iload_n 0 C dX1_layCell_120 rfl ?_
            refine r_iconst (v := 1) C dX1_layCell_121 (by decide) ?_
            refine r_isub C dX1_layCell_122 (fun v207 e208 => ?_)
            have v207' := isub_ok e208 (by omega) (by omega)
            refine r_goto 127 C dX1_layCell_123 (by decide) ?_
            refine r_iast C (kS sC h195 kc_24) (vin (by omega) (by omega)) dX1_layCell_127 (fun w209 e210 => ?_)
            have h211 := Ch.putS h195 e210 (by decide)
            have o212 := Inv.put0 o196 e210 (by decide)
            exact hret _ _ _ dX1_layCell_128 ⟨h211, o212⟩
      · have c157' := i_nle c157
        refine r_iload_n 0 C dX1_layCell_69 rfl ?_
        refine r_iconst (v := 1) C dX1_layCell_70 (by decide) ?_
        refine r_iadd C dX1_layCell_71 (fun v213 e214 => ?_)
        have v213' := iadd_ok e214 (by omega) (by omega)
        refine r_goto 76 C dX1_layCell_72 (by decide) ?_
        refine r_iast C (kS sC h148 kc_24) (vin (by omega) (by omega)) dX1_layCell_76 (fun w215 e216 => ?_)
        have h217 := Ch.putS h148 e216 (by decide)
        have o218 := Inv.put0 o149 e216 (by decide)
        refine r_aload_n 1 C dX1_layCell_77 rfl ?_
        refine gfX1_18 24 C (kS sC h217 kc_21) (xS sC h217 xc_21_5) dX1_layCell_78 ?_
        refine r_iload_n 0 C dX1_layCell_81 rfl ?_
        refine r_iconst (v := 4) C dX1_layCell_82 (by decide) ?_
        refine r_imul C dX1_layCell_83 (fun v219 e220 => ?_)
        have k221 : (4 : Int32).toInt = 4 := by omega
        have v219' := imul_ok e220 (by rw [k221]; omega) (by rw [k221]; omega)
        rw [k221] at v219'
        refine r_iconst (v := 2) C dX1_layCell_84 (by decide) ?_
        refine r_iadd C dX1_layCell_85 (fun v222 e223 => ?_)
        have v222' := iadd_ok e223 (by omega) (by omega)
        refine r_iload_n 3 C dX1_layCell_86 rfl ?_
        refine r_aload_n 1 C dX1_layCell_87 rfl ?_
        refine gfX1_41 (v := (wI w 21 3)) C (kS sC h217 kc_21) (g_nn e216 (by decide) (g_nn e147 (by decide) (g_nn e13 (by decide) rfl))) dX1_layCell_88 ?_
        have b224 := Inv.get o0 rt_21_3 (j := 3) (by decide) (by decide)
        refine r_iconst (v := 1) C dX1_layCell_91 (by decide) ?_
        refine r_isub C dX1_layCell_92 (fun v225 e226 => ?_)
        have v225' := isub_ok e226 (by omega) (by omega)
        refine r_icmp_ge 105 C dX1_layCell_93 (by decide) (fun c227 => ?_) (fun c227 => ?_)
        · have c227' := i_le c227
          refine r_iconst (v := (-1)) C dX1_layCell_105 (by decide) ?_
          refine r_iast C (kS sC h217 kc_24) (vin (by omega) (by omega)) dX1_layCell_106 (fun w228 e229 => ?_)
          have h230 := Ch.putS h217 e229 (by decide)
          have o231 := Inv.put0 o218 e229 (by decide)
          refine r_aload_n 1 C dX1_layCell_107 rfl ?_
          refine gfX1_18 24 C (kS sC h230 kc_21) (xS sC h230 xc_21_5) dX1_layCell_108 ?_
          refine r_iload_n 0 C dX1_layCell_111 rfl ?_
          refine r_iconst (v := 4) C dX1_layCell_112 (by decide) ?_
          refine r_imul C dX1_layCell_113 (fun v232 e233 => ?_)
          have k234 : (4 : Int32).toInt = 4 := by omega
          have v232' := imul_ok e233 (by rw [k234]; omega) (by rw [k234]; omega)
          rw [k234] at v232'
          refine r_iconst (v := 3) C dX1_layCell_114 (by decide) ?_
          refine r_iadd C dX1_layCell_115 (fun v235 e236 => ?_)
          have v235' := iadd_ok e236 (by omega) (by omega)
          refine r_iload_n 2 C dX1_layCell_116 rfl ?_
          refine r_if_le 126 C dX1_layCell_117 (by decide) (fun c237 => ?_) (fun c237 => ?_)
          · have c237' := i_le c237
            refine r_iconst (v := (-1)) C dX1_layCell_126 (by decide) ?_
            refine r_iast C (kS sC h230 kc_24) (vin (by omega) (by omega)) dX1_layCell_127 (fun w238 e239 => ?_)
            have h240 := Ch.putS h230 e239 (by decide)
            have o241 := Inv.put0 o231 e239 (by decide)
            exact hret _ _ _ dX1_layCell_128 ⟨h240, o241⟩
          · have c237' := i_nle c237
            refine r_iload_n 0 C dX1_layCell_120 rfl ?_
            refine r_iconst (v := 1) C dX1_layCell_121 (by decide) ?_
            refine r_isub C dX1_layCell_122 (fun v242 e243 => ?_)
            have v242' := isub_ok e243 (by omega) (by omega)
            refine r_goto 127 C dX1_layCell_123 (by decide) ?_
            refine r_iast C (kS sC h230 kc_24) (vin (by omega) (by omega)) dX1_layCell_127 (fun w244 e245 => ?_)
            have h246 := Ch.putS h230 e245 (by decide)
            have o247 := Inv.put0 o231 e245 (by decide)
            exact hret _ _ _ dX1_layCell_128 ⟨h246, o247⟩
        · have c227' := i_nle c227
          refine r_iload_n 0 C dX1_layCell_96 rfl ?_
          refine r_aload_n 1 C dX1_layCell_97 rfl ?_
          refine gfX1_37 (v := (wI w 21 2)) C (kS sC h217 kc_21) (g_nn e216 (by decide) (g_nn e147 (by decide) (g_nn e13 (by decide) rfl))) dX1_layCell_98 ?_
          refine r_iadd C dX1_layCell_101 (fun v248 e249 => ?_)
          have v248' := iadd_ok e249 (by omega) (by omega)
          refine r_goto 106 C dX1_layCell_102 (by decide) ?_
          refine r_iast C (kS sC h217 kc_24) (vin (by omega) (by omega)) dX1_layCell_106 (fun w250 e251 => ?_)
          have h252 := Ch.putS h217 e251 (by decide)
          have o253 := Inv.put0 o218 e251 (by decide)
          refine r_aload_n 1 C dX1_layCell_107 rfl ?_
          refine gfX1_18 24 C (kS sC h252 kc_21) (xS sC h252 xc_21_5) dX1_layCell_108 ?_
          refine r_iload_n 0 C dX1_layCell_111 rfl ?_
          refine r_iconst (v := 4) C dX1_layCell_112 (by decide) ?_
          refine r_imul C dX1_layCell_113 (fun v254 e255 => ?_)
          have k256 : (4 : Int32).toInt = 4 := by omega
          have v254' := imul_ok e255 (by rw [k256]; omega) (by rw [k256]; omega)
          rw [k256] at v254'
          refine r_iconst (v := 3) C dX1_layCell_114 (by decide) ?_
          refine r_iadd C dX1_layCell_115 (fun v257 e258 => ?_)
          have v257' := iadd_ok e258 (by omega) (by omega)
          refine r_iload_n 2 C dX1_layCell_116 rfl ?_
          refine r_if_le 126 C dX1_layCell_117 (by decide) (fun c259 => ?_) (fun c259 => ?_)
          · have c259' := i_le c259
            refine r_iconst (v := (-1)) C dX1_layCell_126 (by decide) ?_
            refine r_iast C (kS sC h252 kc_24) (vin (by omega) (by omega)) dX1_layCell_127 (fun w260 e261 => ?_)
            have h262 := Ch.putS h252 e261 (by decide)
            have o263 := Inv.put0 o253 e261 (by decide)
            exact hret _ _ _ dX1_layCell_128 ⟨h262, o263⟩
          · have c259' := i_nle c259
            refine r_iload_n 0 C dX1_layCell_120 rfl ?_
            refine r_iconst (v := 1) C dX1_layCell_121 (by decide) ?_
            refine r_isub C dX1_layCell_122 (fun v264 e265 => ?_)
            have v264' := isub_ok e265 (by omega) (by omega)
            refine r_goto 127 C dX1_layCell_123 (by decide) ?_
            refine r_iast C (kS sC h252 kc_24) (vin (by omega) (by omega)) dX1_layCell_127 (fun w266 e267 => ?_)
            have h268 := Ch.putS h252 e267 (by decide)
            have o269 := Inv.put0 o253 e267 (by decide)
            exact hret _ _ _ dX1_layCell_128 ⟨h268, o269⟩
  · have c6' := i_nlt c6
    exact hret _ _ _ dX1_layCell_15 ⟨h0, o0⟩
set_option maxHeartbeats 4000000 in
set_option maxRecDepth 100000 in
theorem ctX1_lay_21_3 (l : Launch) (G : Gt) (w : Wv) (sC : Str KC XC w) (o0 : Inv RC w)  : CtV l G yX1_lay cX1_lay 4 ({ frames := 2, cells := 0, slots := 0, locals := 43 } : Room) [.ref (gz G + 21), .ref (gz G + 3)] w (fun w' => Ch [22, 23, 24, 26] [(21, 0), (21, 2), (21, 3)] w w' ∧ Inv RC w') := by
  refine enterV (by decide) (Nat.le_of_ble_eq_true rfl) ?_
  intro x el eG C hnm hret
  subst el; subst eG
  show V x 0 0 w 0 [(0, .ref (gz (xG x) + 21)), (1, .ref (gz (xG x) + 3))] []
  have h0 : Ch [22, 23, 24, 26] [(21, 0), (21, 2), (21, 3)] w w := Ch.rf
  have q0 : (0 : Int32).toInt = 0 := by decide
  have q42 : (42 : Int32).toInt = 42 := by decide
  have LP20 : ∀ (f21 : Nat) (u19 : Int32) (w22 : Wv), Ch [22, 23, 24, 26] [(21, 0), (21, 2), (21, 3)] w w22 → Inv RC w22 → (0 ≤ u19.toInt ∧ u19.toInt ≤ 2147483647) → 2147483647 - u19.toInt < f21 → V x 0 0 w22 36 [(0, .ref (gz (xG x) + 21)), (1, .ref (gz (xG x) + 3)), (2, .int u19)] [] := by
    intro f21
    induction f21 with
    | zero => intro u19 w22 h23 o24 z25 z26; exfalso; omega
    | succ f21 ih27 =>
      intro u19 w22 h23 o24 z25 z26
      have LP38 : ∀ (f39 : Nat) (u36 : Int32) (u37 : Int32) (w40 : Wv), Ch [22, 23, 24, 26] [(21, 0), (21, 2), (21, 3)] w w40 → Inv RC w40 → (0 ≤ u36.toInt ∧ u36.toInt ≤ 8) → (0 ≤ u37.toInt ∧ u37.toInt ≤ 2147483647) → 2147483647 - u37.toInt < f39 → V x 0 0 w40 46 [(0, .ref (gz (xG x) + 21)), (1, .ref (gz (xG x) + 3)), (2, .int u36), (3, .int u37)] [] := by
        intro f39
        induction f39 with
        | zero => intro u36 u37 w40 h41 o42 z43 z44 z45; exfalso; omega
        | succ f39 ih46 =>
          intro u36 u37 w40 h41 o42 z43 z44 z45
          refine r_iload_n 3 C dX1_lay_46 rfl ?_
          refine r_aload_n 0 C dX1_lay_47 rfl ?_
          refine gfX1_37 (v := (wI w40 21 2)) C (kS sC h41 kc_21) rfl dX1_lay_48 ?_
          have b47 := Inv.get o42 rt_21_2 (j := 2) (by decide) (by decide)
          refine r_icmp_ge 66 C dX1_lay_51 (by decide) (fun c48 => ?_) (fun c48 => ?_)
          · have c48' := i_le c48
            obtain ⟨i49, e50⟩ : ∃ z : Int32, u36 + Int32.ofInt 1 = z := ⟨_, rfl⟩
            have i49' := iinc_ok e50 (by decide) (by omega) (by omega)
            refine r_iinc [(2, .int i49), (0, .ref (gz (xG x) + 21)), (1, .ref (gz (xG x) + 3)), (3, .int u37)] 2 C dX1_lay_66 rfl e50 (by decide) rfl ?_
            refine r_goto 36 C dX1_lay_69 (by decide) ?_
            refine r_lv [1, 2, 0] rfl ?_
            exact ih27 i49 w40 h41 o42 (by omega) (by omega)
          · have c48' := i_nle c48
            refine r_aload_n 0 C dX1_lay_54 rfl ?_
            refine r_iload_n 3 C dX1_lay_55 rfl ?_
            refine r_iload_n 2 C dX1_lay_56 rfl ?_
            refine callVV C cwX1_51_V (ctX1_layCell_21 _ _ w40 (sS sC h41) o42 u37 u36 (by omega) (by omega)) (by decide) (kS sC h41 kc_21) rfl rfl rfl (Nat.le_of_ble_eq_true rfl) (by decide) dX1_lay_57 (fun w52 y51 => ?_)
            show V x 0 0 w52 60 [(0, .ref (gz (xG x) + 21)), (1, .ref (gz (xG x) + 3)), (2, .int u36), (3, .int u37)] []
            obtain ⟨h54, o55⟩ := y51
            have h56 := Ch.tr h41 h54 (by decide) (by decide)
            obtain ⟨i57, e58⟩ : ∃ z : Int32, u37 + Int32.ofInt 1 = z := ⟨_, rfl⟩
            have i57' := iinc_ok e58 (by decide) (by omega) (by omega)
            refine r_iinc [(3, .int i57), (0, .ref (gz (xG x) + 21)), (1, .ref (gz (xG x) + 3)), (2, .int u36)] 3 C dX1_lay_60 rfl e58 (by decide) rfl ?_
            refine r_goto 46 C dX1_lay_63 (by decide) ?_
            refine r_lv [1, 2, 3, 0] rfl ?_
            exact ih46 u36 i57 w52 h56 o55 (by omega) (by omega) (by omega)
      refine r_iload_n 2 C dX1_lay_36 rfl ?_
      refine r_aload_n 0 C dX1_lay_37 rfl ?_
      refine gfX1_41 (v := (wI w22 21 3)) C (kS sC h23 kc_21) rfl dX1_lay_38 ?_
      have b28 := Inv.get o24 rt_21_3 (j := 3) (by decide) (by decide)
      refine r_icmp_ge 72 C dX1_lay_41 (by decide) (fun c29 => ?_) (fun c29 => ?_)
      · have c29' := i_le c29
        refine r_aload_n 0 C dX1_lay_72 rfl ?_
        refine r_aload_n 1 C dX1_lay_73 rfl ?_
        refine gfX1_55 4 C (kS sC h23 kc_3) (xS sC h23 xc_3_9) dX1_lay_74 ?_
        refine callVV C cwX1_58_V (ctX1_takeWhats_21_4 _ _ w22 (sS sC h23) o24  ) (by decide) (kS sC h23 kc_21) rfl rfl rfl (Nat.le_of_ble_eq_true rfl) (by decide) dX1_lay_77 (fun w31 y30 => ?_)
        show V x 0 0 w31 80 [(0, .ref (gz (xG x) + 21)), (1, .ref (gz (xG x) + 3)), (2, .int u19)] []
        obtain ⟨h33, o34⟩ := y30
        have h35 := Ch.tr h23 h33 (by decide) (by decide)
        exact hret _ _ _ dX1_lay_80 ⟨h35, o34⟩
      · have c29' := i_nle c29
        refine r_iconst (v := 0) C dX1_lay_44 (by decide) ?_
        refine r_istore_n [(3, .int 0), (0, .ref (gz (xG x) + 21)), (1, .ref (gz (xG x) + 3)), (2, .int u19)] C dX1_lay_45 (by decide) rfl ?_
        refine r_lv [1, 2, 3, 0] rfl ?_
        exact LP38 4294967296 u19 0 w22 h23 o24 (by omega) (by omega) (by omega)
  refine r_aload_n 0 C dX1_lay_0 rfl ?_
  refine r_aload_n 1 C dX1_lay_1 rfl ?_
  refine gfX1_31 (v := (wI w 3 0)) C (kS sC h0 kc_3) rfl dX1_lay_2 ?_
  have b1 := Inv.get o0 rt_3_0 (j := 0) (by decide) (by decide)
  refine pfX1_37 C (kS sC h0 kc_21) dX1_lay_5 (fun w2 e3 => ?_)
  have h4 := Ch.putF h0 e3 (by decide)
  have o5 := Inv.put o0 e3 0 9 (by omega) (by decide)
  refine r_aload_n 0 C dX1_lay_8 rfl ?_
  refine r_aload_n 1 C dX1_lay_9 rfl ?_
  refine gfX1_38 (v := (wI w 3 1)) C (kS sC h4 kc_3) (g_nn e3 (by decide) rfl) dX1_lay_10 ?_
  have b6 := Inv.get o0 rt_3_1 (j := 1) (by decide) (by decide)
  refine pfX1_41 C (kS sC h4 kc_21) dX1_lay_13 (fun w7 e8 => ?_)
  have h9 := Ch.putF h4 e8 (by decide)
  have o10 := Inv.put o5 e8 0 9 (by omega) (by decide)
  refine r_aload_n 0 C dX1_lay_16 rfl ?_
  refine r_aload_n 0 C dX1_lay_17 rfl ?_
  refine gfX1_37 (v := (wI w 3 0)) C (kS sC h9 kc_21) (g_nk e8 (by decide) (g_eq e3)) dX1_lay_18 ?_
  refine r_aload_n 0 C dX1_lay_21 rfl ?_
  refine gfX1_41 (v := (wI w 3 1)) C (kS sC h9 kc_21) (g_eq e8) dX1_lay_22 ?_
  refine r_imul C dX1_lay_25 (fun v11 e12 => ?_)
  have v11' := imul_rng e12 (A := 9) (B := 9) (by omega) (by omega) (by decide)
  refine r_bipush (v := 42) C dX1_lay_26 (by decide) ?_
  refine r_mmin C mw2_153 mw2_154 mw1_12 mw2_155 (by decide) (Nat.le_of_ble_eq_true rfl) (by decide) (by decide) dX1_lay_28 (fun v13 e14 => ?_)
  have v13' := imin_ok e14
  refine pfX1_48 C (kS sC h9 kc_21) dX1_lay_31 (fun w15 e16 => ?_)
  have h17 := Ch.putF h9 e16 (by decide)
  have o18 := Inv.put o10 e16 0 42 (by omega) (by decide)
  refine r_iconst (v := 0) C dX1_lay_34 (by decide) ?_
  refine r_istore_n [(2, .int 0), (0, .ref (gz (xG x) + 21)), (1, .ref (gz (xG x) + 3))] C dX1_lay_35 (by decide) rfl ?_
  refine r_lv [1, 2, 0] rfl ?_
  exact LP20 4294967296 0 w15 h17 o18 (by omega) (by omega)
set_option maxHeartbeats 4000000 in
set_option maxRecDepth 100000 in
theorem ctX1_put_21 (l : Launch) (G : Gt) (w : Wv) (sC : Str KC XC w) (o0 : Inv RC w) (a1 : Int32) (a2 : Int32) : CtV l G yX1_put cX1_put 3 ({ frames := 1, cells := 0, slots := 0, locals := 21 } : Room) [.ref (gz G + 21), .int a1, .int a2] w (fun w' => Ch [22, 26] [] w w' ∧ Inv RC w') := by
  refine enterV (by decide) (Nat.le_of_ble_eq_true rfl) ?_
  intro x el eG C hnm hret
  subst el; subst eG
  show V x 0 0 w 0 [(0, .ref (gz (xG x) + 21)), (1, .int a1), (2, .int a2)] []
  have h0 : Ch [22, 26] [] w w := Ch.rf
  have q0 : (0 : Int32).toInt = 0 := by decide
  refine r_iload_n 1 C dX1_put_0 rfl ?_
  refine callSI C cwX1_65_S (ctX1_isCell _ _ w a1 ) (by decide) rfl rfl (Nat.le_of_ble_eq_true rfl) (by decide) dX1_put_1 (fun r3 w2 y1 => ?_)
  obtain ⟨rfl, g4⟩ := y1
  show V x 0 0 w 4 [(0, .ref (gz (xG x) + 21)), (1, .int a1), (2, .int a2)] [.int r3]
  refine r_if_eq 18 C dX1_put_4 (by decide) (fun c5 => ?_) (fun c5 => ?_)
  · have c5' := i_eq c5
    exact hret _ _ _ dX1_put_18 ⟨h0, o0⟩
  · have c5' := i_ne c5
    refine r_aload_n 0 C dX1_put_7 rfl ?_
    refine gfX1_9 22 C (kS sC h0 kc_21) (xS sC h0 xc_21_1) dX1_put_8 ?_
    refine r_iload_n 1 C dX1_put_11 rfl ?_
    refine r_iload_n 2 C dX1_put_12 rfl ?_
    refine r_iast C (kS sC h0 kc_22) (vin (by omega) (by omega)) dX1_put_13 (fun w6 e7 => ?_)
    have h8 := Ch.putS h0 e7 (by decide)
    have o9 := Inv.put0 o0 e7 (by decide)
    refine r_aload_n 0 C dX1_put_14 rfl ?_
    refine callVV C cwX1_62_V (ctX1_forgetWays_21 _ _ w6 (sS sC h8) o9  ) (by decide) (kS sC h8 kc_21) rfl rfl rfl (Nat.le_of_ble_eq_true rfl) (by decide) dX1_put_15 (fun w11 y10 => ?_)
    show V x 0 0 w11 18 [(0, .ref (gz (xG x) + 21)), (1, .int a1), (2, .int a2)] []
    obtain ⟨h13, o14⟩ := y10
    have h15 := Ch.tr h8 h13 (by decide) (by decide)
    exact hret _ _ _ dX1_put_18 ⟨h15, o14⟩
set_option maxHeartbeats 4000000 in
set_option maxRecDepth 100000 in
theorem ctX1_findWays_21 (l : Launch) (G : Gt) (w : Wv) (sC : Str KC XC w) (o0 : Inv RC w) (a1 : Int32) (b1 : 0 ≤ a1.toInt ∧ a1.toInt ≤ 41) : CtV l G yX1_findWays cX1_findWays 9 ({ frames := 0, cells := 0, slots := 0, locals := 0 } : Room) [.ref (gz G + 21), .int a1] w (fun w' => Ch [25, 26, 27] [] w w' ∧ Inv RC w') := by
  refine enterV (by decide) (Nat.le_of_ble_eq_true rfl) ?_
  intro x el eG C hnm hret
  subst el; subst eG
  show V x 0 0 w 0 [(0, .ref (gz (xG x) + 21)), (1, .int a1)] []
  have h0 : Ch [25, 26, 27] [] w w := Ch.rf
  have qm1 : ((-1) : Int32).toInt = (-1) := by decide
  have q0 : (0 : Int32).toInt = 0 := by decide
  have q1 : (1 : Int32).toInt = 1 := by decide
  have q4 : (4 : Int32).toInt = 4 := by decide
  have q42 : (42 : Int32).toInt = 42 := by decide
  have LP6 : ∀ (f7 : Nat) (u4 : Int32) (u5 : Int32) (w8 : Wv), Ch [25, 26, 27] [] w w8 → Inv RC w8 → (0 ≤ u4.toInt ∧ u4.toInt ≤ 1722) → (0 ≤ u5.toInt ∧ u5.toInt ≤ 2147483647) → 2147483647 - u5.toInt < f7 → V x 0 0 w8 7 [(0, .ref (gz (xG x) + 21)), (1, .int a1), (2, .int u4), (3, .int u5)] [] := by
    intro f7
    induction f7 with
    | zero => intro u4 u5 w8 h9 o10 z11 z12 z13; exfalso; omega
    | succ f7 ih14 =>
      intro u4 u5 w8 h9 o10 z11 z12 z13
      have LP36 : ∀ (f37 : Nat) (u33 : Int32) (u34 : Int32) (u35 : Int32) (w38 : Wv), Ch [25, 26, 27] [] w w38 → Inv RC w38 → (0 ≤ u33.toInt ∧ u33.toInt ≤ 1722) → (0 ≤ u34.toInt ∧ u34.toInt ≤ 42) → (0 ≤ u35.toInt ∧ u35.toInt ≤ 2147483647) → 2147483647 - u35.toInt < f37 → V x 0 0 w38 72 [(0, .ref (gz (xG x) + 21)), (1, .int a1), (2, .int u33), (3, .int u34), (4, .int u35)] [] := by
        intro f37
        induction f37 with
        | zero => intro u33 u34 u35 w38 h39 o40 z41 z42 z43 z44; exfalso; omega
        | succ f37 ih45 =>
          intro u33 u34 u35 w38 h39 o40 z41 z42 z43 z44
          have LP55 : ∀ (f56 : Nat) (u50 : Int32) (u51 : Int32) (u52 : Int32) (u53 : Int32) (u54 : Int32) (w57 : Wv), Ch [25, 26, 27] [] w w57 → Inv RC w57 → (0 ≤ u50.toInt ∧ u50.toInt ≤ 1722) → (0 ≤ u51.toInt ∧ u51.toInt ≤ 42) → (0 ≤ u52.toInt ∧ u52.toInt ≤ 41) → (0 ≤ u53.toInt ∧ u53.toInt ≤ 41) → (0 ≤ u54.toInt ∧ u54.toInt ≤ 2147483647) → 2147483647 - u54.toInt < f56 → V x 0 0 w57 97 [(0, .ref (gz (xG x) + 21)), (1, .int a1), (2, .int u50), (3, .int u51), (4, .int u52), (5, .int u53), (6, .int u54)] [] := by
            intro f56
            induction f56 with
            | zero => intro u50 u51 u52 u53 u54 w57 h58 o59 z60 z61 z62 z63 z64 z65; exfalso; omega
            | succ f56 ih66 =>
              intro u50 u51 u52 u53 u54 w57 h58 o59 z60 z61 z62 z63 z64 z65
              refine r_iload 6 C dX1_findWays_97 rfl ?_
              refine r_iconst (v := 4) C dX1_findWays_99 (by decide) ?_
              refine r_icmp_ge 208 C dX1_findWays_100 (by decide) (fun c67 => ?_) (fun c67 => ?_)
              · have c67' := i_le c67
                obtain ⟨i68, e69⟩ : ∃ z : Int32, u52 + Int32.ofInt 1 = z := ⟨_, rfl⟩
                have i68' := iinc_ok e69 (by decide) (by omega) (by omega)
                refine r_iinc [(4, .int i68), (0, .ref (gz (xG x) + 21)), (1, .int a1), (2, .int u50), (3, .int u51), (5, .int u53), (6, .int u54)] 4 C dX1_findWays_208 rfl e69 (by decide) rfl ?_
                refine r_goto 72 C dX1_findWays_211 (by decide) ?_
                refine r_lv [1, 2, 3, 4, 0] rfl ?_
                exact ih45 u50 u51 i68 w57 h58 o59 (by omega) (by omega) (by omega) (by omega)
              · have c67' := i_nle c67
                refine r_aload_n 0 C dX1_findWays_103 rfl ?_
                refine gfX1_18 24 C (kS sC h58 kc_21) (xS sC h58 xc_21_5) dX1_findWays_104 ?_
                refine r_iload 5 C dX1_findWays_107 rfl ?_
                refine r_iconst (v := 4) C dX1_findWays_109 (by decide) ?_
                refine r_imul C dX1_findWays_110 (fun v70 e71 => ?_)
                have k72 : (4 : Int32).toInt = 4 := by omega
                have v70' := imul_ok e71 (by rw [k72]; omega) (by rw [k72]; omega)
                rw [k72] at v70'
                refine r_iload 6 C dX1_findWays_111 rfl ?_
                refine r_iadd C dX1_findWays_113 (fun v73 e74 => ?_)
                have v73' := iadd_ok e74 (by omega) (by omega)
                refine r_iald C (kS sC h58 kc_24) (vin (by omega) (by omega)) dX1_findWays_114 ?_
                generalize (wI w57 24 (v73).toNatClampNeg) = v75
                refine r_istore [(7, .int v75), (0, .ref (gz (xG x) + 21)), (1, .int a1), (2, .int u50), (3, .int u51), (4, .int u52), (5, .int u53), (6, .int u54)] C dX1_findWays_115 (by decide) rfl ?_
                refine r_iload 0 C dX1_findWays_117 rfl ?_
                refine r_if_lt 144 C dX1_findWays_119 (by decide) (fun c76 => ?_) (fun c76 => ?_)
                · have c76' := i_lt c76
                  refine r_iconst (v := 0) C dX1_findWays_144 (by decide) ?_
                  refine r_istore [(8, .int 0), (7, .int v75), (0, .ref (gz (xG x) + 21)), (1, .int a1), (2, .int u50), (3, .int u51), (4, .int u52), (5, .int u53), (6, .int u54)] C dX1_findWays_145 (by decide) rfl ?_
                  refine r_iload 0 C dX1_findWays_147 rfl ?_
                  refine r_if_eq 202 C dX1_findWays_149 (by decide) (fun c77 => ?_) (fun c77 => ?_)
                  · have c77' := i_eq c77
                    obtain ⟨i78, e79⟩ : ∃ z : Int32, u54 + Int32.ofInt 1 = z := ⟨_, rfl⟩
                    have i78' := iinc_ok e79 (by decide) (by omega) (by omega)
                    refine r_iinc [(6, .int i78), (8, .int 0), (7, .int v75), (0, .ref (gz (xG x) + 21)), (1, .int a1), (2, .int u50), (3, .int u51), (4, .int u52), (5, .int u53)] 8 C dX1_findWays_202 rfl e79 (by decide) rfl ?_
                    refine r_goto 97 C dX1_findWays_205 (by decide) ?_
                    refine r_lv [3, 4, 5, 6, 7, 8, 0] rfl ?_
                    exact ih66 u50 u51 u52 u53 i78 w57 h58 o59 (by omega) (by omega) (by omega) (by omega) (by omega) (by omega)
                  · have c77' := i_ne c77
                    exfalso; omega
                · have c76' := i_nlt c76
                  refine r_iload 0 C dX1_findWays_122 rfl ?_
                  refine r_bipush (v := 42) C dX1_findWays_124 (by decide) ?_
                  refine r_icmp_ge 144 C dX1_findWays_126 (by decide) (fun c80 => ?_) (fun c80 => ?_)
                  · have c80' := i_le c80
                    refine r_iconst (v := 0) C dX1_findWays_144 (by decide) ?_
                    refine r_istore [(8, .int 0), (7, .int v75), (0, .ref (gz (xG x) + 21)), (1, .int a1), (2, .int u50), (3, .int u51), (4, .int u52), (5, .int u53), (6, .int u54)] C dX1_findWays_145 (by decide) rfl ?_
                    refine r_iload 0 C dX1_findWays_147 rfl ?_
                    refine r_if_eq 202 C dX1_findWays_149 (by decide) (fun c81 => ?_) (fun c81 => ?_)
                    · have c81' := i_eq c81
                      obtain ⟨i82, e83⟩ : ∃ z : Int32, u54 + Int32.ofInt 1 = z := ⟨_, rfl⟩
                      have i82' := iinc_ok e83 (by decide) (by omega) (by omega)
                      refine r_iinc [(6, .int i82), (8, .int 0), (7, .int v75), (0, .ref (gz (xG x) + 21)), (1, .int a1), (2, .int u50), (3, .int u51), (4, .int u52), (5, .int u53)] 8 C dX1_findWays_202 rfl e83 (by decide) rfl ?_
                      refine r_goto 97 C dX1_findWays_205 (by decide) ?_
                      refine r_lv [3, 4, 5, 6, 7, 8, 0] rfl ?_
                      exact ih66 u50 u51 u52 u53 i82 w57 h58 o59 (by omega) (by omega) (by omega) (by omega) (by omega) (by omega)
                    · have c81' := i_ne c81
                      exfalso; omega
                  · have c80' := i_nle c80
                    refine r_aload_n 1 C dX1_findWays_129 rfl ?_
                    refine gfX1_9 22 C (kS sC h58 kc_21) (xS sC h58 xc_21_1) dX1_findWays_130 ?_
                    refine r_iload 0 C dX1_findWays_133 rfl ?_
                    refine r_iald C (kS sC h58 kc_22) (vin (by omega) (by omega)) dX1_findWays_135 ?_
                    generalize (wI w57 22 (v75).toNatClampNeg) = v84
                    refine r_iconst (v := 1) C dX1_findWays_136 (by decide) ?_
                    refine r_icmp_eq 144 C dX1_findWays_137 (by decide) (fun c85 => ?_) (fun c85 => ?_)
                    · have c85' := i_eq c85
                      refine r_iconst (v := 0) C dX1_findWays_144 (by decide) ?_
                      refine r_istore [(8, .int 0), (7, .int v75), (0, .ref (gz (xG x) + 21)), (1, .int a1), (2, .int u50), (3, .int u51), (4, .int u52), (5, .int u53), (6, .int u54)] C dX1_findWays_145 (by decide) rfl ?_
                      refine r_iload 0 C dX1_findWays_147 rfl ?_
                      refine r_if_eq 202 C dX1_findWays_149 (by decide) (fun c86 => ?_) (fun c86 => ?_)
                      · have c86' := i_eq c86
                        obtain ⟨i87, e88⟩ : ∃ z : Int32, u54 + Int32.ofInt 1 = z := ⟨_, rfl⟩
                        have i87' := iinc_ok e88 (by decide) (by omega) (by omega)
                        refine r_iinc [(6, .int i87), (8, .int 0), (7, .int v75), (0, .ref (gz (xG x) + 21)), (1, .int a1), (2, .int u50), (3, .int u51), (4, .int u52), (5, .int u53)] 8 C dX1_findWays_202 rfl e88 (by decide) rfl ?_
                        refine r_goto 97 C dX1_findWays_205 (by decide) ?_
                        refine r_lv [3, 4, 5, 6, 7, 8, 0] rfl ?_
                        exact ih66 u50 u51 u52 u53 i87 w57 h58 o59 (by omega) (by omega) (by omega) (by omega) (by omega) (by omega)
                      · have c86' := i_ne c86
                        exfalso; omega
                    · have c85' := i_ne c85
                      refine r_iconst (v := 1) C dX1_findWays_140 (by decide) ?_
                      refine r_goto 145 C dX1_findWays_141 (by decide) ?_
                      refine r_istore [(8, .int 1), (7, .int v75), (0, .ref (gz (xG x) + 21)), (1, .int a1), (2, .int u50), (3, .int u51), (4, .int u52), (5, .int u53), (6, .int u54)] C dX1_findWays_145 (by decide) rfl ?_
                      refine r_iload 0 C dX1_findWays_147 rfl ?_
                      refine r_if_eq 202 C dX1_findWays_149 (by decide) (fun c89 => ?_) (fun c89 => ?_)
                      · have c89' := i_eq c89
                        exfalso; omega
                      · have c89' := i_ne c89
                        refine r_aload_n 2 C dX1_findWays_152 rfl ?_
                        refine gfX1_21 25 C (kS sC h58 kc_21) (xS sC h58 xc_21_6) dX1_findWays_153 ?_
                        refine r_iload_n 4 C dX1_findWays_156 rfl ?_
                        refine r_iload 1 C dX1_findWays_157 rfl ?_
                        refine r_iadd C dX1_findWays_159 (fun v90 e91 => ?_)
                        have v90' := iadd_ok e91 (by omega) (by omega)
                        refine r_iald C (kS sC h58 kc_25) (vin (by omega) (by omega)) dX1_findWays_160 ?_
                        generalize (wI w57 25 (v90).toNatClampNeg) = v92
                        refine r_iconst (v := (-1)) C dX1_findWays_161 (by decide) ?_
                        refine r_icmp_ne 202 C dX1_findWays_162 (by decide) (fun c93 => ?_) (fun c93 => ?_)
                        · have c93' := i_ne c93
                          obtain ⟨i94, e95⟩ : ∃ z : Int32, u54 + Int32.ofInt 1 = z := ⟨_, rfl⟩
                          have i94' := iinc_ok e95 (by decide) (by omega) (by omega)
                          refine r_iinc [(6, .int i94), (8, .int 1), (7, .int v75), (0, .ref (gz (xG x) + 21)), (1, .int a1), (2, .int u50), (3, .int u51), (4, .int u52), (5, .int u53)] 8 C dX1_findWays_202 rfl e95 (by decide) rfl ?_
                          refine r_goto 97 C dX1_findWays_205 (by decide) ?_
                          refine r_lv [3, 4, 5, 6, 7, 8, 0] rfl ?_
                          exact ih66 u50 u51 u52 u53 i94 w57 h58 o59 (by omega) (by omega) (by omega) (by omega) (by omega) (by omega)
                        · have c93' := i_eq c93
                          refine r_iload_n 5 C dX1_findWays_165 rfl ?_
                          refine r_bipush (v := 42) C dX1_findWays_166 (by decide) ?_
                          refine r_icmp_ge 202 C dX1_findWays_168 (by decide) (fun c96 => ?_) (fun c96 => ?_)
                          · have c96' := i_le c96
                            obtain ⟨i97, e98⟩ : ∃ z : Int32, u54 + Int32.ofInt 1 = z := ⟨_, rfl⟩
                            have i97' := iinc_ok e98 (by decide) (by omega) (by omega)
                            refine r_iinc [(6, .int i97), (8, .int 1), (7, .int v75), (0, .ref (gz (xG x) + 21)), (1, .int a1), (2, .int u50), (3, .int u51), (4, .int u52), (5, .int u53)] 8 C dX1_findWays_202 rfl e98 (by decide) rfl ?_
                            refine r_goto 97 C dX1_findWays_205 (by decide) ?_
                            refine r_lv [3, 4, 5, 6, 7, 8, 0] rfl ?_
                            exact ih66 u50 u51 u52 u53 i97 w57 h58 o59 (by omega) (by omega) (by omega) (by omega) (by omega) (by omega)
                          · have c96' := i_nle c96
                            refine r_aload_n 2 C dX1_findWays_171 rfl ?_
                            refine gfX1_21 25 C (kS sC h58 kc_21) (xS sC h58 xc_21_6) dX1_findWays_172 ?_
                            refine r_iload_n 4 C dX1_findWays_175 rfl ?_
                            refine r_iload 1 C dX1_findWays_176 rfl ?_
                            refine r_iadd C dX1_findWays_178 (fun v99 e100 => ?_)
                            have v99' := iadd_ok e100 (by omega) (by omega)
                            refine r_aload_n 2 C dX1_findWays_179 rfl ?_
                            refine gfX1_21 25 C (kS sC h58 kc_21) (xS sC h58 xc_21_6) dX1_findWays_180 ?_
                            refine r_iload_n 4 C dX1_findWays_183 rfl ?_
                            refine r_iload 7 C dX1_findWays_184 rfl ?_
                            refine r_iadd C dX1_findWays_186 (fun v101 e102 => ?_)
                            have v101' := iadd_ok e102 (by omega) (by omega)
                            refine r_iald C (kS sC h58 kc_25) (vin (by omega) (by omega)) dX1_findWays_187 ?_
                            generalize (wI w57 25 (v101).toNatClampNeg) = v103
                            refine r_iconst (v := 1) C dX1_findWays_188 (by decide) ?_
                            refine r_iadd C dX1_findWays_189 (fun v104 e105 => ?_)
                            refine r_iast C (kS sC h58 kc_25) (vin (by omega) (by omega)) dX1_findWays_190 (fun w106 e107 => ?_)
                            have h108 := Ch.putS h58 e107 (by decide)
                            have o109 := Inv.put0 o59 e107 (by decide)
                            refine r_aload_n 2 C dX1_findWays_191 rfl ?_
                            refine gfX1_28 27 C (kS sC h108 kc_21) (xS sC h108 xc_21_8) dX1_findWays_192 ?_
                            refine r_iload_n 5 C dX1_findWays_195 rfl ?_
                            refine r_iload 1 C dX1_findWays_196 rfl ?_
                            refine r_iast C (kS sC h108 kc_27) (vin (by omega) (by omega)) dX1_findWays_198 (fun w110 e111 => ?_)
                            have h112 := Ch.putS h108 e111 (by decide)
                            have o113 := Inv.putR o109 e111 0 41 (by omega) (by omega) 0 41 (by omega) (by decide)
                            obtain ⟨i114, e115⟩ : ∃ z : Int32, u51 + Int32.ofInt 1 = z := ⟨_, rfl⟩
                            have i114' := iinc_ok e115 (by decide) (by omega) (by omega)
                            refine r_iinc [(3, .int i114), (8, .int 1), (7, .int v75), (0, .ref (gz (xG x) + 21)), (1, .int a1), (2, .int u50), (4, .int u52), (5, .int u53), (6, .int u54)] 5 C dX1_findWays_199 rfl e115 (by decide) rfl ?_
                            obtain ⟨i116, e117⟩ : ∃ z : Int32, u54 + Int32.ofInt 1 = z := ⟨_, rfl⟩
                            have i116' := iinc_ok e117 (by decide) (by omega) (by omega)
                            refine r_iinc [(6, .int i116), (3, .int i114), (8, .int 1), (7, .int v75), (0, .ref (gz (xG x) + 21)), (1, .int a1), (2, .int u50), (4, .int u52), (5, .int u53)] 8 C dX1_findWays_202 rfl e117 (by decide) rfl ?_
                            refine r_goto 97 C dX1_findWays_205 (by decide) ?_
                            refine r_lv [4, 5, 6, 1, 7, 8, 0] rfl ?_
                            exact ih66 u50 i114 u52 u53 i116 w110 h112 o113 (by omega) (by omega) (by omega) (by omega) (by omega) (by omega)
          refine r_iload 4 C dX1_findWays_72 rfl ?_
          refine r_iload_n 3 C dX1_findWays_74 rfl ?_
          refine r_icmp_ge 214 C dX1_findWays_75 (by decide) (fun c46 => ?_) (fun c46 => ?_)
          · have c46' := i_le c46
            exact hret _ _ _ dX1_findWays_214 ⟨h39, o40⟩
          · have c46' := i_nle c46
            refine r_iload 4 C dX1_findWays_78 rfl ?_
            refine r_bipush (v := 42) C dX1_findWays_80 (by decide) ?_
            refine r_icmp_ge 214 C dX1_findWays_82 (by decide) (fun c47 => ?_) (fun c47 => ?_)
            · have c47' := i_le c47
              exfalso; omega
            · have c47' := i_nle c47
              refine r_aload_n 0 C dX1_findWays_85 rfl ?_
              refine gfX1_28 27 C (kS sC h39 kc_21) (xS sC h39 xc_21_8) dX1_findWays_86 ?_
              refine r_iload 4 C dX1_findWays_89 rfl ?_
              refine r_iald C (kS sC h39 kc_27) (vin (by omega) (by omega)) dX1_findWays_91 ?_
              have b49 := Inv.geta o40 rt_27_0 (i := u35) (by omega) (by omega) (by omega)
              generalize (wI w38 27 (u35).toNatClampNeg) = v48 at b49 ⊢
              refine r_istore [(5, .int v48), (0, .ref (gz (xG x) + 21)), (1, .int a1), (2, .int u33), (3, .int u34), (4, .int u35)] C dX1_findWays_92 (by decide) rfl ?_
              refine r_iconst (v := 0) C dX1_findWays_94 (by decide) ?_
              refine r_istore [(6, .int 0), (5, .int v48), (0, .ref (gz (xG x) + 21)), (1, .int a1), (2, .int u33), (3, .int u34), (4, .int u35)] C dX1_findWays_95 (by decide) rfl ?_
              refine r_lv [2, 3, 4, 5, 6, 1, 0] rfl ?_
              exact LP55 4294967296 u33 u34 u35 v48 0 w38 h39 o40 (by omega) (by omega) (by omega) (by omega) (by omega) (by omega)
      refine r_iload_n 3 C dX1_findWays_7 rfl ?_
      refine r_aload_n 0 C dX1_findWays_8 rfl ?_
      refine gfX1_48 (v := (wI w 21 0)) C (kS sC h9 kc_21) (h9.I (by decide) (by decide) rfl) dX1_findWays_9 ?_
      have b15 := Inv.get o0 rt_21_0 (j := 0) (by decide) (by decide)
      refine r_icmp_ge 30 C dX1_findWays_12 (by decide) (fun c16 => ?_) (fun c16 => ?_)
      · have c16' := i_le c16
        refine r_aload_n 0 C dX1_findWays_30 rfl ?_
        refine gfX1_21 25 C (kS sC h9 kc_21) (xS sC h9 xc_21_6) dX1_findWays_31 ?_
        refine r_iload_n 2 C dX1_findWays_34 rfl ?_
        refine r_iload_n 1 C dX1_findWays_35 rfl ?_
        refine r_iadd C dX1_findWays_36 (fun v17 e18 => ?_)
        have v17' := iadd_ok e18 (by omega) (by omega)
        refine r_iconst (v := 0) C dX1_findWays_37 (by decide) ?_
        refine r_iast C (kS sC h9 kc_25) (vin (by omega) (by omega)) dX1_findWays_38 (fun w19 e20 => ?_)
        have h21 := Ch.putS h9 e20 (by decide)
        have o22 := Inv.put0 o10 e20 (by decide)
        refine r_aload_n 0 C dX1_findWays_39 rfl ?_
        refine gfX1_24 26 C (kS sC h21 kc_21) (xS sC h21 xc_21_7) dX1_findWays_40 ?_
        refine r_iload_n 1 C dX1_findWays_43 rfl ?_
        refine r_iconst (v := 1) C dX1_findWays_44 (by decide) ?_
        refine r_zast C (kS sC h21 kc_26) (vin (by omega) (by omega)) (nar_z (z_of (by omega))) dX1_findWays_45 (fun w23 e24 => ?_)
        have h25 := Ch.putS h21 e24 (by decide)
        have o26 := Inv.put0 o22 e24 (by decide)
        refine r_aload_n 0 C dX1_findWays_46 rfl ?_
        refine gfX1_28 27 C (kS sC h25 kc_21) (xS sC h25 xc_21_8) dX1_findWays_47 ?_
        refine r_iconst (v := 0) C dX1_findWays_50 (by decide) ?_
        refine r_iload_n 1 C dX1_findWays_51 rfl ?_
        refine r_iast C (kS sC h25 kc_27) (vin (by omega) (by omega)) dX1_findWays_52 (fun w27 e28 => ?_)
        have h29 := Ch.putS h25 e28 (by decide)
        have o30 := Inv.putR o26 e28 0 0 (by omega) (by omega) 0 41 (by omega) (by decide)
        refine r_aload_n 0 C dX1_findWays_53 rfl ?_
        refine gfX1_9 22 C (kS sC h29 kc_21) (xS sC h29 xc_21_1) dX1_findWays_54 ?_
        refine r_iload_n 1 C dX1_findWays_57 rfl ?_
        refine r_iald C (kS sC h29 kc_22) (vin (by omega) (by omega)) dX1_findWays_58 ?_
        generalize (wI w27 22 (a1).toNatClampNeg) = v31
        refine r_iconst (v := 1) C dX1_findWays_59 (by decide) ?_
        refine r_icmp_ne 67 C dX1_findWays_60 (by decide) (fun c32 => ?_) (fun c32 => ?_)
        · have c32' := i_ne c32
          refine r_iconst (v := 1) C dX1_findWays_67 (by decide) ?_
          refine r_istore_n [(3, .int 1), (0, .ref (gz (xG x) + 21)), (1, .int a1), (2, .int u4)] C dX1_findWays_68 (by decide) rfl ?_
          refine r_iconst (v := 0) C dX1_findWays_69 (by decide) ?_
          refine r_istore [(4, .int 0), (3, .int 1), (0, .ref (gz (xG x) + 21)), (1, .int a1), (2, .int u4)] C dX1_findWays_70 (by decide) rfl ?_
          refine r_lv [2, 3, 4, 1, 0] rfl ?_
          exact LP36 4294967296 u4 1 0 w27 h29 o30 (by omega) (by omega) (by omega) (by omega)
        · have c32' := i_eq c32
          refine r_iconst (v := 0) C dX1_findWays_63 (by decide) ?_
          refine r_goto 68 C dX1_findWays_64 (by decide) ?_
          refine r_istore_n [(3, .int 0), (0, .ref (gz (xG x) + 21)), (1, .int a1), (2, .int u4)] C dX1_findWays_68 (by decide) rfl ?_
          refine r_iconst (v := 0) C dX1_findWays_69 (by decide) ?_
          refine r_istore [(4, .int 0), (3, .int 0), (0, .ref (gz (xG x) + 21)), (1, .int a1), (2, .int u4)] C dX1_findWays_70 (by decide) rfl ?_
          refine r_lv [2, 3, 4, 1, 0] rfl ?_
          exact LP36 4294967296 u4 0 0 w27 h29 o30 (by omega) (by omega) (by omega) (by omega)
      · have c16' := i_nle c16
        refine r_aload_n 0 C dX1_findWays_15 rfl ?_
        refine gfX1_21 25 C (kS sC h9 kc_21) (xS sC h9 xc_21_6) dX1_findWays_16 ?_
        refine r_iload_n 2 C dX1_findWays_19 rfl ?_
        refine r_iload_n 3 C dX1_findWays_20 rfl ?_
        refine r_iadd C dX1_findWays_21 (fun v118 e119 => ?_)
        have v118' := iadd_ok e119 (by omega) (by omega)
        refine r_iconst (v := (-1)) C dX1_findWays_22 (by decide) ?_
        refine r_iast C (kS sC h9 kc_25) (vin (by omega) (by omega)) dX1_findWays_23 (fun w120 e121 => ?_)
        have h122 := Ch.putS h9 e121 (by decide)
        have o123 := Inv.put0 o10 e121 (by decide)
        obtain ⟨i124, e125⟩ : ∃ z : Int32, u5 + Int32.ofInt 1 = z := ⟨_, rfl⟩
        have i124' := iinc_ok e125 (by decide) (by omega) (by omega)
        refine r_iinc [(3, .int i124), (0, .ref (gz (xG x) + 21)), (1, .int a1), (2, .int u4)] 3 C dX1_findWays_24 rfl e125 (by decide) rfl ?_
        refine r_goto 7 C dX1_findWays_27 (by decide) ?_
        refine r_lv [1, 2, 3, 0] rfl ?_
        exact ih14 u4 i124 w120 h122 o123 (by omega) (by omega) (by omega)
  refine r_iload_n 1 C dX1_findWays_0 rfl ?_
  refine r_bipush (v := 42) C dX1_findWays_1 (by decide) ?_
  refine r_imul C dX1_findWays_3 (fun v1 e2 => ?_)
  have k3 : (42 : Int32).toInt = 42 := by omega
  have v1' := imul_ok e2 (by rw [k3]; omega) (by rw [k3]; omega)
  rw [k3] at v1'
  refine r_istore_n [(2, .int v1), (0, .ref (gz (xG x) + 21)), (1, .int a1)] C dX1_findWays_4 (by decide) rfl ?_
  refine r_iconst (v := 0) C dX1_findWays_5 (by decide) ?_
  refine r_istore_n [(3, .int 0), (2, .int v1), (0, .ref (gz (xG x) + 21)), (1, .int a1)] C dX1_findWays_6 (by decide) rfl ?_
  refine r_lv [2, 3, 1, 0] rfl ?_
  exact LP6 4294967296 v1 0 w h0 o0 (by omega) (by omega) (by omega)
set_option maxHeartbeats 4000000 in
set_option maxRecDepth 100000 in
theorem ctX1_what_21 (l : Launch) (G : Gt) (w : Wv) (sC : Str KC XC w) (o0 : Inv RC w) (a1 : Int32) : CtI l G yX1_what cX1_what 2 .int ({ frames := 0, cells := 0, slots := 0, locals := 0 } : Room) [.ref (gz G + 21), .int a1] w (fun r w' => Ch [] [] w w' ∧ Inv RC w') := by
  refine enterI (by decide) (Nat.le_of_ble_eq_true rfl) ?_
  intro x el eG C hret
  subst el; subst eG
  show V x 0 0 w 0 [(0, .ref (gz (xG x) + 21)), (1, .int a1)] []
  have h0 : Ch [] [] w w := Ch.rf
  have q0 : (0 : Int32).toInt = 0 := by decide
  have q1 : (1 : Int32).toInt = 1 := by decide
  have q42 : (42 : Int32).toInt = 42 := by decide
  refine r_iload_n 1 C dX1_what_0 rfl ?_
  refine r_if_lt 19 C dX1_what_1 (by decide) (fun c1 => ?_) (fun c1 => ?_)
  · have c1' := i_lt c1
    refine r_iconst (v := 1) C dX1_what_19 (by decide) ?_
    exact hret _ _ _ _ dX1_what_20 rfl ⟨h0, o0⟩
  · have c1' := i_nlt c1
    refine r_iload_n 1 C dX1_what_4 rfl ?_
    refine r_bipush (v := 42) C dX1_what_5 (by decide) ?_
    refine r_icmp_ge 19 C dX1_what_7 (by decide) (fun c2 => ?_) (fun c2 => ?_)
    · have c2' := i_le c2
      refine r_iconst (v := 1) C dX1_what_19 (by decide) ?_
      exact hret _ _ _ _ dX1_what_20 rfl ⟨h0, o0⟩
    · have c2' := i_nle c2
      refine r_aload_n 0 C dX1_what_10 rfl ?_
      refine gfX1_9 22 C (kS sC h0 kc_21) (xS sC h0 xc_21_1) dX1_what_11 ?_
      refine r_iload_n 1 C dX1_what_14 rfl ?_
      refine r_iald C (kS sC h0 kc_22) (vin (by omega) (by omega)) dX1_what_15 ?_
      generalize (wI w 22 (a1).toNatClampNeg) = v3
      refine r_goto 20 C dX1_what_16 (by decide) ?_
      exact hret _ _ _ _ dX1_what_20 rfl ⟨h0, o0⟩
set_option maxHeartbeats 4000000 in
set_option maxRecDepth 100000 in
theorem ctX1_beside_21 (l : Launch) (G : Gt) (w : Wv) (sC : Str KC XC w) (o0 : Inv RC w) (a1 : Int32) (a2 : Int32) : CtI l G yX1_beside cX1_beside 4 .int ({ frames := 0, cells := 0, slots := 0, locals := 0 } : Room) [.ref (gz G + 21), .int a1, .int a2] w (fun r w' => Ch [] [] w w' ∧ Inv RC w') := by
  refine enterI (by decide) (Nat.le_of_ble_eq_true rfl) ?_
  intro x el eG C hret
  subst el; subst eG
  show V x 0 0 w 0 [(0, .ref (gz (xG x) + 21)), (1, .int a1), (2, .int a2)] []
  have h0 : Ch [] [] w w := Ch.rf
  have qm1 : ((-1) : Int32).toInt = (-1) := by decide
  have q0 : (0 : Int32).toInt = 0 := by decide
  have q1 : (1 : Int32).toInt = 1 := by decide
  have q4 : (4 : Int32).toInt = 4 := by decide
  have q42 : (42 : Int32).toInt = 42 := by decide
  refine r_iload_n 1 C dX1_beside_0 rfl ?_
  refine r_if_lt 24 C dX1_beside_1 (by decide) (fun c1 => ?_) (fun c1 => ?_)
  · have c1' := i_lt c1
    refine r_iconst (v := 0) C dX1_beside_24 (by decide) ?_
    refine r_istore_n [(3, .int 0), (0, .ref (gz (xG x) + 21)), (1, .int a1), (2, .int a2)] C dX1_beside_25 (by decide) rfl ?_
    refine r_iload_n 0 C dX1_beside_26 rfl ?_
    refine r_if_eq 45 C dX1_beside_27 (by decide) (fun c2 => ?_) (fun c2 => ?_)
    · have c2' := i_eq c2
      refine r_iconst (v := (-1)) C dX1_beside_45 (by decide) ?_
      exact hret _ _ _ _ dX1_beside_46 rfl ⟨h0, o0⟩
    · have c2' := i_ne c2
      exfalso; omega
  · have c1' := i_nlt c1
    refine r_iload_n 1 C dX1_beside_4 rfl ?_
    refine r_bipush (v := 42) C dX1_beside_5 (by decide) ?_
    refine r_icmp_ge 24 C dX1_beside_7 (by decide) (fun c3 => ?_) (fun c3 => ?_)
    · have c3' := i_le c3
      refine r_iconst (v := 0) C dX1_beside_24 (by decide) ?_
      refine r_istore_n [(3, .int 0), (0, .ref (gz (xG x) + 21)), (1, .int a1), (2, .int a2)] C dX1_beside_25 (by decide) rfl ?_
      refine r_iload_n 0 C dX1_beside_26 rfl ?_
      refine r_if_eq 45 C dX1_beside_27 (by decide) (fun c4 => ?_) (fun c4 => ?_)
      · have c4' := i_eq c4
        refine r_iconst (v := (-1)) C dX1_beside_45 (by decide) ?_
        exact hret _ _ _ _ dX1_beside_46 rfl ⟨h0, o0⟩
      · have c4' := i_ne c4
        exfalso; omega
    · have c3' := i_nle c3
      refine r_iload_n 2 C dX1_beside_10 rfl ?_
      refine r_iconst (v := 1) C dX1_beside_11 (by decide) ?_
      refine r_icmp_lt 24 C dX1_beside_12 (by decide) (fun c5 => ?_) (fun c5 => ?_)
      · have c5' := i_lt c5
        refine r_iconst (v := 0) C dX1_beside_24 (by decide) ?_
        refine r_istore_n [(3, .int 0), (0, .ref (gz (xG x) + 21)), (1, .int a1), (2, .int a2)] C dX1_beside_25 (by decide) rfl ?_
        refine r_iload_n 0 C dX1_beside_26 rfl ?_
        refine r_if_eq 45 C dX1_beside_27 (by decide) (fun c6 => ?_) (fun c6 => ?_)
        · have c6' := i_eq c6
          refine r_iconst (v := (-1)) C dX1_beside_45 (by decide) ?_
          exact hret _ _ _ _ dX1_beside_46 rfl ⟨h0, o0⟩
        · have c6' := i_ne c6
          exfalso; omega
      · have c5' := i_nlt c5
        refine r_iload_n 2 C dX1_beside_15 rfl ?_
        refine r_iconst (v := 4) C dX1_beside_16 (by decide) ?_
        refine r_icmp_gt 24 C dX1_beside_17 (by decide) (fun c7 => ?_) (fun c7 => ?_)
        · have c7' := i_lt c7
          refine r_iconst (v := 0) C dX1_beside_24 (by decide) ?_
          refine r_istore_n [(3, .int 0), (0, .ref (gz (xG x) + 21)), (1, .int a1), (2, .int a2)] C dX1_beside_25 (by decide) rfl ?_
          refine r_iload_n 0 C dX1_beside_26 rfl ?_
          refine r_if_eq 45 C dX1_beside_27 (by decide) (fun c8 => ?_) (fun c8 => ?_)
          · have c8' := i_eq c8
            refine r_iconst (v := (-1)) C dX1_beside_45 (by decide) ?_
            exact hret _ _ _ _ dX1_beside_46 rfl ⟨h0, o0⟩
          · have c8' := i_ne c8
            exfalso; omega
        · have c7' := i_nlt c7
          refine r_iconst (v := 1) C dX1_beside_20 (by decide) ?_
          refine r_goto 25 C dX1_beside_21 (by decide) ?_
          refine r_istore_n [(3, .int 1), (0, .ref (gz (xG x) + 21)), (1, .int a1), (2, .int a2)] C dX1_beside_25 (by decide) rfl ?_
          refine r_iload_n 0 C dX1_beside_26 rfl ?_
          refine r_if_eq 45 C dX1_beside_27 (by decide) (fun c9 => ?_) (fun c9 => ?_)
          · have c9' := i_eq c9
            exfalso; omega
          · have c9' := i_ne c9
            refine r_aload_n 1 C dX1_beside_30 rfl ?_
            refine gfX1_18 24 C (kS sC h0 kc_21) (xS sC h0 xc_21_5) dX1_beside_31 ?_
            refine r_iload_n 2 C dX1_beside_34 rfl ?_
            refine r_iconst (v := 4) C dX1_beside_35 (by decide) ?_
            refine r_imul C dX1_beside_36 (fun v10 e11 => ?_)
            have k12 : (4 : Int32).toInt = 4 := by omega
            have v10' := imul_ok e11 (by rw [k12]; omega) (by rw [k12]; omega)
            rw [k12] at v10'
            refine r_iload_n 3 C dX1_beside_37 rfl ?_
            refine r_iadd C dX1_beside_38 (fun v13 e14 => ?_)
            have v13' := iadd_ok e14 (by omega) (by omega)
            refine r_iconst (v := 1) C dX1_beside_39 (by decide) ?_
            refine r_isub C dX1_beside_40 (fun v15 e16 => ?_)
            have v15' := isub_ok e16 (by omega) (by omega)
            refine r_iald C (kS sC h0 kc_24) (vin (by omega) (by omega)) dX1_beside_41 ?_
            generalize (wI w 24 (v15).toNatClampNeg) = v17
            refine r_goto 46 C dX1_beside_42 (by decide) ?_
            exact hret _ _ _ _ dX1_beside_46 rfl ⟨h0, o0⟩
set_option maxHeartbeats 4000000 in
set_option maxRecDepth 100000 in
theorem ctX1_steps_21 (l : Launch) (G : Gt) (w : Wv) (sC : Str KC XC w) (o0 : Inv RC w) (a1 : Int32) (a2 : Int32) : CtI l G yX1_steps cX1_steps 3 .int ({ frames := 1, cells := 0, slots := 0, locals := 28 } : Room) [.ref (gz G + 21), .int a1, .int a2] w (fun r w' => Ch [25, 26, 27] [] w w' ∧ Inv RC w') := by
  refine enterI (by decide) (Nat.le_of_ble_eq_true rfl) ?_
  intro x el eG C hret
  subst el; subst eG
  show V x 0 0 w 0 [(0, .ref (gz (xG x) + 21)), (1, .int a1), (2, .int a2)] []
  have h0 : Ch [25, 26, 27] [] w w := Ch.rf
  have qm1 : ((-1) : Int32).toInt = (-1) := by decide
  have q0 : (0 : Int32).toInt = 0 := by decide
  have q42 : (42 : Int32).toInt = 42 := by decide
  refine r_iload_n 1 C dX1_steps_0 rfl ?_
  refine r_if_lt 20 C dX1_steps_1 (by decide) (fun c1 => ?_) (fun c1 => ?_)
  · have c1' := i_lt c1
    refine r_iconst (v := (-1)) C dX1_steps_20 (by decide) ?_
    exact hret _ _ _ _ dX1_steps_21 rfl ⟨h0, o0⟩
  · have c1' := i_nlt c1
    refine r_iload_n 1 C dX1_steps_4 rfl ?_
    refine r_bipush (v := 42) C dX1_steps_5 (by decide) ?_
    refine r_icmp_ge 20 C dX1_steps_7 (by decide) (fun c2 => ?_) (fun c2 => ?_)
    · have c2' := i_le c2
      refine r_iconst (v := (-1)) C dX1_steps_20 (by decide) ?_
      exact hret _ _ _ _ dX1_steps_21 rfl ⟨h0, o0⟩
    · have c2' := i_nle c2
      refine r_iload_n 2 C dX1_steps_10 rfl ?_
      refine r_if_lt 20 C dX1_steps_11 (by decide) (fun c3 => ?_) (fun c3 => ?_)
      · have c3' := i_lt c3
        refine r_iconst (v := (-1)) C dX1_steps_20 (by decide) ?_
        exact hret _ _ _ _ dX1_steps_21 rfl ⟨h0, o0⟩
      · have c3' := i_nlt c3
        refine r_iload_n 2 C dX1_steps_14 rfl ?_
        refine r_bipush (v := 42) C dX1_steps_15 (by decide) ?_
        refine r_icmp_lt 22 C dX1_steps_17 (by decide) (fun c4 => ?_) (fun c4 => ?_)
        · have c4' := i_lt c4
          refine r_aload_n 0 C dX1_steps_22 rfl ?_
          refine gfX1_24 26 C (kS sC h0 kc_21) (xS sC h0 xc_21_7) dX1_steps_23 ?_
          refine r_iload_n 2 C dX1_steps_26 rfl ?_
          refine r_zald C (kS sC h0 kc_26) (vin (by omega) (by omega)) dX1_steps_27 ?_
          generalize (wI w 26 (a2).toNatClampNeg) = v5
          refine r_if_ne 36 C dX1_steps_28 (by decide) (fun c6 => ?_) (fun c6 => ?_)
          · have c6' := i_ne c6
            refine r_aload_n 0 C dX1_steps_36 rfl ?_
            refine gfX1_21 25 C (kS sC h0 kc_21) (xS sC h0 xc_21_6) dX1_steps_37 ?_
            refine r_iload_n 2 C dX1_steps_40 rfl ?_
            refine r_bipush (v := 42) C dX1_steps_41 (by decide) ?_
            refine r_imul C dX1_steps_43 (fun v7 e8 => ?_)
            have k9 : (42 : Int32).toInt = 42 := by omega
            have v7' := imul_ok e8 (by rw [k9]; omega) (by rw [k9]; omega)
            rw [k9] at v7'
            refine r_iload_n 1 C dX1_steps_44 rfl ?_
            refine r_iadd C dX1_steps_45 (fun v10 e11 => ?_)
            have v10' := iadd_ok e11 (by omega) (by omega)
            refine r_iald C (kS sC h0 kc_25) (vin (by omega) (by omega)) dX1_steps_46 ?_
            generalize (wI w 25 (v10).toNatClampNeg) = v12
            exact hret _ _ _ _ dX1_steps_47 rfl ⟨h0, o0⟩
          · have c6' := i_eq c6
            refine r_aload_n 0 C dX1_steps_31 rfl ?_
            refine r_iload_n 2 C dX1_steps_32 rfl ?_
            refine callVV C cwX1_69_V (ctX1_findWays_21 _ _ w (sS sC h0) o0 a2 (by omega)) (by decide) (kS sC h0 kc_21) rfl rfl rfl (Nat.le_of_ble_eq_true rfl) (by decide) dX1_steps_33 (fun w14 y13 => ?_)
            show V x 0 0 w14 36 [(0, .ref (gz (xG x) + 21)), (1, .int a1), (2, .int a2)] []
            obtain ⟨h16, o17⟩ := y13
            have h18 := Ch.tr h0 h16 (by decide) (by decide)
            refine r_aload_n 0 C dX1_steps_36 rfl ?_
            refine gfX1_21 25 C (kS sC h18 kc_21) (xS sC h18 xc_21_6) dX1_steps_37 ?_
            refine r_iload_n 2 C dX1_steps_40 rfl ?_
            refine r_bipush (v := 42) C dX1_steps_41 (by decide) ?_
            refine r_imul C dX1_steps_43 (fun v19 e20 => ?_)
            have k21 : (42 : Int32).toInt = 42 := by omega
            have v19' := imul_ok e20 (by rw [k21]; omega) (by rw [k21]; omega)
            rw [k21] at v19'
            refine r_iload_n 1 C dX1_steps_44 rfl ?_
            refine r_iadd C dX1_steps_45 (fun v22 e23 => ?_)
            have v22' := iadd_ok e23 (by omega) (by omega)
            refine r_iald C (kS sC h18 kc_25) (vin (by omega) (by omega)) dX1_steps_46 ?_
            generalize (wI w14 25 (v22).toNatClampNeg) = v24
            exact hret _ _ _ _ dX1_steps_47 rfl ⟨h18, o17⟩
        · have c4' := i_nlt c4
          refine r_iconst (v := (-1)) C dX1_steps_20 (by decide) ?_
          exact hret _ _ _ _ dX1_steps_21 rfl ⟨h0, o0⟩
set_option maxHeartbeats 4000000 in
set_option maxRecDepth 100000 in
theorem ctX1_onward_21 (l : Launch) (G : Gt) (w : Wv) (sC : Str KC XC w) (o0 : Inv RC w) (a1 : Int32) (a2 : Int32) : CtI l G yX1_onward cX1_onward 7 .int ({ frames := 1, cells := 0, slots := 0, locals := 28 } : Room) [.ref (gz G + 21), .int a1, .int a2] w (fun r w' => Ch [25, 26, 27] [] w w' ∧ Inv RC w') := by
  refine enterI (by decide) (Nat.le_of_ble_eq_true rfl) ?_
  intro x el eG C hret
  subst el; subst eG
  show V x 0 0 w 0 [(0, .ref (gz (xG x) + 21)), (1, .int a1), (2, .int a2)] []
  have h0 : Ch [25, 26, 27] [] w w := Ch.rf
  have qm1 : ((-1) : Int32).toInt = (-1) := by decide
  have q0 : (0 : Int32).toInt = 0 := by decide
  have q1 : (1 : Int32).toInt = 1 := by decide
  have q4 : (4 : Int32).toInt = 4 := by decide
  have q42 : (42 : Int32).toInt = 42 := by decide
  have LP16 : ∀ (f17 : Nat) (u13 : Int32) (u14 : Int32) (u15 : Int32) (w18 : Wv), Ch [25, 26, 27] [] w w18 → Inv RC w18 → (0 ≤ u13.toInt ∧ u13.toInt ≤ 1722) → (0 ≤ u15.toInt ∧ u15.toInt ≤ 2147483647) → (0 ≤ a1.toInt ∧ a1.toInt ≤ 41) → (0 ≤ a2.toInt ∧ a2.toInt ≤ 41) → 2147483647 - u15.toInt < f17 → V x 0 0 w18 54 [(0, .ref (gz (xG x) + 21)), (1, .int a1), (2, .int a2), (3, .int u13), (4, .int u14), (5, .int u15)] [] := by
    intro f17
    induction f17 with
    | zero => intro u13 u14 u15 w18 h19 o20 z21 z22 z23 z24 z25; exfalso; omega
    | succ f17 ih26 =>
      intro u13 u14 u15 w18 h19 o20 z21 z22 z23 z24 z25
      refine r_iload 5 C dX1_onward_54 rfl ?_
      refine r_iconst (v := 4) C dX1_onward_56 (by decide) ?_
      refine r_icmp_ge 115 C dX1_onward_57 (by decide) (fun c27 => ?_) (fun c27 => ?_)
      · have c27' := i_le c27
        refine r_iconst (v := (-1)) C dX1_onward_115 (by decide) ?_
        exact hret _ _ _ _ dX1_onward_116 rfl ⟨h19, o20⟩
      · have c27' := i_nle c27
        refine r_iload 4 C dX1_onward_60 rfl ?_
        refine r_if_le 115 C dX1_onward_62 (by decide) (fun c28 => ?_) (fun c28 => ?_)
        · have c28' := i_le c28
          refine r_iconst (v := (-1)) C dX1_onward_115 (by decide) ?_
          exact hret _ _ _ _ dX1_onward_116 rfl ⟨h19, o20⟩
        · have c28' := i_nle c28
          refine r_aload_n 0 C dX1_onward_65 rfl ?_
          refine gfX1_18 24 C (kS sC h19 kc_21) (xS sC h19 xc_21_5) dX1_onward_66 ?_
          refine r_iload_n 1 C dX1_onward_69 rfl ?_
          refine r_iconst (v := 4) C dX1_onward_70 (by decide) ?_
          refine r_imul C dX1_onward_71 (fun v29 e30 => ?_)
          have k31 : (4 : Int32).toInt = 4 := by omega
          have v29' := imul_ok e30 (by rw [k31]; omega) (by rw [k31]; omega)
          rw [k31] at v29'
          refine r_iload 5 C dX1_onward_72 rfl ?_
          refine r_iadd C dX1_onward_74 (fun v32 e33 => ?_)
          have v32' := iadd_ok e33 (by omega) (by omega)
          refine r_iald C (kS sC h19 kc_24) (vin (by omega) (by omega)) dX1_onward_75 ?_
          generalize (wI w18 24 (v32).toNatClampNeg) = v34
          refine r_istore [(6, .int v34), (0, .ref (gz (xG x) + 21)), (1, .int a1), (2, .int a2), (3, .int u13), (4, .int u14), (5, .int u15)] C dX1_onward_76 (by decide) rfl ?_
          refine r_iload 0 C dX1_onward_78 rfl ?_
          refine r_if_lt 109 C dX1_onward_80 (by decide) (fun c35 => ?_) (fun c35 => ?_)
          · have c35' := i_lt c35
            obtain ⟨i36, e37⟩ : ∃ z : Int32, u15 + Int32.ofInt 1 = z := ⟨_, rfl⟩
            have i36' := iinc_ok e37 (by decide) (by omega) (by omega)
            refine r_iinc [(5, .int i36), (6, .int v34), (0, .ref (gz (xG x) + 21)), (1, .int a1), (2, .int a2), (3, .int u13), (4, .int u14)] 6 C dX1_onward_109 rfl e37 (by decide) rfl ?_
            refine r_goto 54 C dX1_onward_112 (by decide) ?_
            refine r_lv [2, 3, 4, 5, 6, 0] rfl ?_
            exact ih26 u13 u14 i36 w18 h19 o20 (by omega) (by omega) (by omega) (by omega) (by omega)
          · have c35' := i_nlt c35
            refine r_iload 0 C dX1_onward_83 rfl ?_
            refine r_bipush (v := 42) C dX1_onward_85 (by decide) ?_
            refine r_icmp_ge 109 C dX1_onward_87 (by decide) (fun c38 => ?_) (fun c38 => ?_)
            · have c38' := i_le c38
              obtain ⟨i39, e40⟩ : ∃ z : Int32, u15 + Int32.ofInt 1 = z := ⟨_, rfl⟩
              have i39' := iinc_ok e40 (by decide) (by omega) (by omega)
              refine r_iinc [(5, .int i39), (6, .int v34), (0, .ref (gz (xG x) + 21)), (1, .int a1), (2, .int a2), (3, .int u13), (4, .int u14)] 6 C dX1_onward_109 rfl e40 (by decide) rfl ?_
              refine r_goto 54 C dX1_onward_112 (by decide) ?_
              refine r_lv [2, 3, 4, 5, 6, 0] rfl ?_
              exact ih26 u13 u14 i39 w18 h19 o20 (by omega) (by omega) (by omega) (by omega) (by omega)
            · have c38' := i_nle c38
              refine r_aload_n 1 C dX1_onward_90 rfl ?_
              refine gfX1_21 25 C (kS sC h19 kc_21) (xS sC h19 xc_21_6) dX1_onward_91 ?_
              refine r_iload_n 4 C dX1_onward_94 rfl ?_
              refine r_iload 0 C dX1_onward_95 rfl ?_
              refine r_iadd C dX1_onward_97 (fun v41 e42 => ?_)
              have v41' := iadd_ok e42 (by omega) (by omega)
              refine r_iald C (kS sC h19 kc_25) (vin (by omega) (by omega)) dX1_onward_98 ?_
              generalize (wI w18 25 (v41).toNatClampNeg) = v43
              refine r_iload 5 C dX1_onward_99 rfl ?_
              refine r_iconst (v := 1) C dX1_onward_101 (by decide) ?_
              refine r_isub C dX1_onward_102 (fun v44 e45 => ?_)
              have v44' := isub_ok e45 (by omega) (by omega)
              refine r_icmp_ne 109 C dX1_onward_103 (by decide) (fun c46 => ?_) (fun c46 => ?_)
              · have c46' := i_ne c46
                obtain ⟨i47, e48⟩ : ∃ z : Int32, u15 + Int32.ofInt 1 = z := ⟨_, rfl⟩
                have i47' := iinc_ok e48 (by decide) (by omega) (by omega)
                refine r_iinc [(5, .int i47), (6, .int v34), (0, .ref (gz (xG x) + 21)), (1, .int a1), (2, .int a2), (3, .int u13), (4, .int u14)] 6 C dX1_onward_109 rfl e48 (by decide) rfl ?_
                refine r_goto 54 C dX1_onward_112 (by decide) ?_
                refine r_lv [2, 3, 4, 5, 6, 0] rfl ?_
                exact ih26 u13 u14 i47 w18 h19 o20 (by omega) (by omega) (by omega) (by omega) (by omega)
              · have c46' := i_eq c46
                refine r_iload 0 C dX1_onward_106 rfl ?_
                exact hret _ _ _ _ dX1_onward_108 rfl ⟨h19, o20⟩
  refine r_iload_n 1 C dX1_onward_0 rfl ?_
  refine r_if_lt 20 C dX1_onward_1 (by decide) (fun c1 => ?_) (fun c1 => ?_)
  · have c1' := i_lt c1
    refine r_iconst (v := (-1)) C dX1_onward_20 (by decide) ?_
    exact hret _ _ _ _ dX1_onward_21 rfl ⟨h0, o0⟩
  · have c1' := i_nlt c1
    refine r_iload_n 1 C dX1_onward_4 rfl ?_
    refine r_bipush (v := 42) C dX1_onward_5 (by decide) ?_
    refine r_icmp_ge 20 C dX1_onward_7 (by decide) (fun c2 => ?_) (fun c2 => ?_)
    · have c2' := i_le c2
      refine r_iconst (v := (-1)) C dX1_onward_20 (by decide) ?_
      exact hret _ _ _ _ dX1_onward_21 rfl ⟨h0, o0⟩
    · have c2' := i_nle c2
      refine r_iload_n 2 C dX1_onward_10 rfl ?_
      refine r_if_lt 20 C dX1_onward_11 (by decide) (fun c3 => ?_) (fun c3 => ?_)
      · have c3' := i_lt c3
        refine r_iconst (v := (-1)) C dX1_onward_20 (by decide) ?_
        exact hret _ _ _ _ dX1_onward_21 rfl ⟨h0, o0⟩
      · have c3' := i_nlt c3
        refine r_iload_n 2 C dX1_onward_14 rfl ?_
        refine r_bipush (v := 42) C dX1_onward_15 (by decide) ?_
        refine r_icmp_lt 22 C dX1_onward_17 (by decide) (fun c4 => ?_) (fun c4 => ?_)
        · have c4' := i_lt c4
          refine r_aload_n 0 C dX1_onward_22 rfl ?_
          refine gfX1_24 26 C (kS sC h0 kc_21) (xS sC h0 xc_21_7) dX1_onward_23 ?_
          refine r_iload_n 2 C dX1_onward_26 rfl ?_
          refine r_zald C (kS sC h0 kc_26) (vin (by omega) (by omega)) dX1_onward_27 ?_
          generalize (wI w 26 (a2).toNatClampNeg) = v5
          refine r_if_ne 36 C dX1_onward_28 (by decide) (fun c6 => ?_) (fun c6 => ?_)
          · have c6' := i_ne c6
            refine r_iload_n 2 C dX1_onward_36 rfl ?_
            refine r_bipush (v := 42) C dX1_onward_37 (by decide) ?_
            refine r_imul C dX1_onward_39 (fun v7 e8 => ?_)
            have k9 : (42 : Int32).toInt = 42 := by omega
            have v7' := imul_ok e8 (by rw [k9]; omega) (by rw [k9]; omega)
            rw [k9] at v7'
            refine r_istore_n [(3, .int v7), (0, .ref (gz (xG x) + 21)), (1, .int a1), (2, .int a2)] C dX1_onward_40 (by decide) rfl ?_
            refine r_aload_n 1 C dX1_onward_41 rfl ?_
            refine gfX1_21 25 C (kS sC h0 kc_21) (xS sC h0 xc_21_6) dX1_onward_42 ?_
            refine r_iload_n 0 C dX1_onward_45 rfl ?_
            refine r_iload_n 2 C dX1_onward_46 rfl ?_
            refine r_iadd C dX1_onward_47 (fun v10 e11 => ?_)
            have v10' := iadd_ok e11 (by omega) (by omega)
            refine r_iald C (kS sC h0 kc_25) (vin (by omega) (by omega)) dX1_onward_48 ?_
            generalize (wI w 25 (v10).toNatClampNeg) = v12
            refine r_istore [(4, .int v12), (3, .int v7), (0, .ref (gz (xG x) + 21)), (1, .int a1), (2, .int a2)] C dX1_onward_49 (by decide) rfl ?_
            refine r_iconst (v := 0) C dX1_onward_51 (by decide) ?_
            refine r_istore [(5, .int 0), (4, .int v12), (3, .int v7), (0, .ref (gz (xG x) + 21)), (1, .int a1), (2, .int a2)] C dX1_onward_52 (by decide) rfl ?_
            refine r_lv [3, 4, 5, 2, 1, 0] rfl ?_
            exact LP16 4294967296 v7 v12 0 w h0 o0 (by omega) (by omega) (by omega) (by omega) (by omega)
          · have c6' := i_eq c6
            refine r_aload_n 0 C dX1_onward_31 rfl ?_
            refine r_iload_n 2 C dX1_onward_32 rfl ?_
            refine callVV C cwX1_69_V (ctX1_findWays_21 _ _ w (sS sC h0) o0 a2 (by omega)) (by decide) (kS sC h0 kc_21) rfl rfl rfl (Nat.le_of_ble_eq_true rfl) (by decide) dX1_onward_33 (fun w50 y49 => ?_)
            show V x 0 0 w50 36 [(0, .ref (gz (xG x) + 21)), (1, .int a1), (2, .int a2)] []
            obtain ⟨h52, o53⟩ := y49
            have h54 := Ch.tr h0 h52 (by decide) (by decide)
            refine r_iload_n 2 C dX1_onward_36 rfl ?_
            refine r_bipush (v := 42) C dX1_onward_37 (by decide) ?_
            refine r_imul C dX1_onward_39 (fun v55 e56 => ?_)
            have k57 : (42 : Int32).toInt = 42 := by omega
            have v55' := imul_ok e56 (by rw [k57]; omega) (by rw [k57]; omega)
            rw [k57] at v55'
            refine r_istore_n [(3, .int v55), (0, .ref (gz (xG x) + 21)), (1, .int a1), (2, .int a2)] C dX1_onward_40 (by decide) rfl ?_
            refine r_aload_n 1 C dX1_onward_41 rfl ?_
            refine gfX1_21 25 C (kS sC h54 kc_21) (xS sC h54 xc_21_6) dX1_onward_42 ?_
            refine r_iload_n 0 C dX1_onward_45 rfl ?_
            refine r_iload_n 2 C dX1_onward_46 rfl ?_
            refine r_iadd C dX1_onward_47 (fun v58 e59 => ?_)
            have v58' := iadd_ok e59 (by omega) (by omega)
            refine r_iald C (kS sC h54 kc_25) (vin (by omega) (by omega)) dX1_onward_48 ?_
            generalize (wI w50 25 (v58).toNatClampNeg) = v60
            refine r_istore [(4, .int v60), (3, .int v55), (0, .ref (gz (xG x) + 21)), (1, .int a1), (2, .int a2)] C dX1_onward_49 (by decide) rfl ?_
            refine r_iconst (v := 0) C dX1_onward_51 (by decide) ?_
            refine r_istore [(5, .int 0), (4, .int v60), (3, .int v55), (0, .ref (gz (xG x) + 21)), (1, .int a1), (2, .int a2)] C dX1_onward_52 (by decide) rfl ?_
            refine r_lv [3, 4, 5, 2, 1, 0] rfl ?_
            exact LP16 4294967296 v55 v60 0 w50 h54 o53 (by omega) (by omega) (by omega) (by omega) (by omega)
        · have c4' := i_nlt c4
          refine r_iconst (v := (-1)) C dX1_onward_20 (by decide) ?_
          exact hret _ _ _ _ dX1_onward_21 rfl ⟨h0, o0⟩
set_option maxHeartbeats 4000000 in
set_option maxRecDepth 100000 in
theorem ctX1_forgetWays_28 (l : Launch) (G : Gt) (w : Wv) (sC : Str KC XC w) (o0 : Inv RC w)  : CtV l G yX1_forgetWays cX1_forgetWays 2 ({ frames := 0, cells := 0, slots := 0, locals := 0 } : Room) [.ref (gz G + 28)] w (fun w' => Ch [33] [] w w' ∧ Inv RC w') := by
  refine enterV (by decide) (Nat.le_of_ble_eq_true rfl) ?_
  intro x el eG C hnm hret
  subst el; subst eG
  show V x 0 0 w 0 [(0, .ref (gz (xG x) + 28))] []
  have h0 : Ch [33] [] w w := Ch.rf
  have q0 : (0 : Int32).toInt = 0 := by decide
  have q42 : (42 : Int32).toInt = 42 := by decide
  have LP2 : ∀ (f3 : Nat) (u1 : Int32) (w4 : Wv), Ch [33] [] w w4 → Inv RC w4 → (0 ≤ u1.toInt ∧ u1.toInt ≤ 2147483647) → 2147483647 - u1.toInt < f3 → V x 0 0 w4 2 [(0, .ref (gz (xG x) + 28)), (1, .int u1)] [] := by
    intro f3
    induction f3 with
    | zero => intro u1 w4 h5 o6 z7 z8; exfalso; omega
    | succ f3 ih9 =>
      intro u1 w4 h5 o6 z7 z8
      refine r_iload_n 1 C dX1_forgetWays_2 rfl ?_
      refine r_bipush (v := 42) C dX1_forgetWays_3 (by decide) ?_
      refine r_icmp_ge 21 C dX1_forgetWays_5 (by decide) (fun c10 => ?_) (fun c10 => ?_)
      · have c10' := i_le c10
        exact hret _ _ _ dX1_forgetWays_21 ⟨h5, o6⟩
      · have c10' := i_nle c10
        refine r_aload_n 0 C dX1_forgetWays_8 rfl ?_
        refine gfX1_24 33 C (kS sC h5 kc_28) (xS sC h5 xc_28_7) dX1_forgetWays_9 ?_
        refine r_iload_n 1 C dX1_forgetWays_12 rfl ?_
        refine r_iconst (v := 0) C dX1_forgetWays_13 (by decide) ?_
        refine r_zast C (kS sC h5 kc_33) (vin (by omega) (by omega)) (nar_z (z_of (by omega))) dX1_forgetWays_14 (fun w11 e12 => ?_)
        have h13 := Ch.putS h5 e12 (by decide)
        have o14 := Inv.put0 o6 e12 (by decide)
        obtain ⟨i15, e16⟩ : ∃ z : Int32, u1 + Int32.ofInt 1 = z := ⟨_, rfl⟩
        have i15' := iinc_ok e16 (by decide) (by omega) (by omega)
        refine r_iinc [(1, .int i15), (0, .ref (gz (xG x) + 28))] 1 C dX1_forgetWays_15 rfl e16 (by decide) rfl ?_
        refine r_goto 2 C dX1_forgetWays_18 (by decide) ?_
        refine r_lv [1, 0] rfl ?_
        exact ih9 i15 w11 h13 o14 (by omega) (by omega)
  refine r_iconst (v := 0) C dX1_forgetWays_0 (by decide) ?_
  refine r_istore_n [(1, .int 0), (0, .ref (gz (xG x) + 28))] C dX1_forgetWays_1 (by decide) rfl ?_
  refine r_lv [1, 0] rfl ?_
  exact LP2 4294967296 0 w h0 o0 (by omega) (by omega)
set_option maxHeartbeats 4000000 in
set_option maxRecDepth 100000 in
theorem ctX1_takeWhats_28_4 (l : Launch) (G : Gt) (w : Wv) (sC : Str KC XC w) (o0 : Inv RC w)  : CtV l G yX1_takeWhats cX1_takeWhats 3 ({ frames := 1, cells := 0, slots := 0, locals := 21 } : Room) [.ref (gz G + 28), .ref (gz G + 4)] w (fun w' => Ch [29, 33] [] w w' ∧ Inv RC w') := by
  refine enterV (by decide) (Nat.le_of_ble_eq_true rfl) ?_
  intro x el eG C hnm hret
  subst el; subst eG
  show V x 0 0 w 0 [(0, .ref (gz (xG x) + 28)), (1, .ref (gz (xG x) + 4))] []
  have h0 : Ch [29, 33] [] w w := Ch.rf
  have q0 : (0 : Int32).toInt = 0 := by decide
  have q42 : (42 : Int32).toInt = 42 := by decide
  have LP2 : ∀ (f3 : Nat) (u1 : Int32) (w4 : Wv), Ch [29, 33] [] w w4 → Inv RC w4 → (0 ≤ u1.toInt ∧ u1.toInt ≤ 2147483647) → 2147483647 - u1.toInt < f3 → V x 0 0 w4 2 [(0, .ref (gz (xG x) + 28)), (1, .ref (gz (xG x) + 4)), (2, .int u1)] [] := by
    intro f3
    induction f3 with
    | zero => intro u1 w4 h5 o6 z7 z8; exfalso; omega
    | succ f3 ih9 =>
      intro u1 w4 h5 o6 z7 z8
      refine r_iload_n 2 C dX1_takeWhats_2 rfl ?_
      refine r_bipush (v := 42) C dX1_takeWhats_3 (by decide) ?_
      refine r_icmp_ge 29 C dX1_takeWhats_5 (by decide) (fun c10 => ?_) (fun c10 => ?_)
      · have c10' := i_le c10
        refine r_aload_n 0 C dX1_takeWhats_29 rfl ?_
        refine callVV C cwX1_62_V (ctX1_forgetWays_28 _ _ w4 (sS sC h5) o6  ) (by decide) (kS sC h5 kc_28) rfl rfl rfl (Nat.le_of_ble_eq_true rfl) (by decide) dX1_takeWhats_30 (fun w12 y11 => ?_)
        show V x 0 0 w12 33 [(0, .ref (gz (xG x) + 28)), (1, .ref (gz (xG x) + 4)), (2, .int u1)] []
        obtain ⟨h14, o15⟩ := y11
        have h16 := Ch.tr h5 h14 (by decide) (by decide)
        exact hret _ _ _ dX1_takeWhats_33 ⟨h16, o15⟩
      · have c10' := i_nle c10
        refine r_iload_n 2 C dX1_takeWhats_8 rfl ?_
        refine r_aload_n 1 C dX1_takeWhats_9 rfl ?_
        refine r_alen 0 0 rfl C (kS sC h5 kc_4) (v := 42) (by decide) dX1_takeWhats_10 ?_
        refine r_icmp_ge 29 C dX1_takeWhats_11 (by decide) (fun c17 => ?_) (fun c17 => ?_)
        · have c17' := i_le c17
          exfalso; omega
        · have c17' := i_nle c17
          refine r_aload_n 0 C dX1_takeWhats_14 rfl ?_
          refine gfX1_9 29 C (kS sC h5 kc_28) (xS sC h5 xc_28_1) dX1_takeWhats_15 ?_
          refine r_iload_n 2 C dX1_takeWhats_18 rfl ?_
          refine r_aload_n 1 C dX1_takeWhats_19 rfl ?_
          refine r_iload_n 2 C dX1_takeWhats_20 rfl ?_
          refine r_iald C (kS sC h5 kc_4) (vin (by omega) (by omega)) dX1_takeWhats_21 ?_
          generalize (wI w4 4 (u1).toNatClampNeg) = v18
          refine r_iast C (kS sC h5 kc_29) (vin (by omega) (by omega)) dX1_takeWhats_22 (fun w19 e20 => ?_)
          have h21 := Ch.putS h5 e20 (by decide)
          have o22 := Inv.put0 o6 e20 (by decide)
          obtain ⟨i23, e24⟩ : ∃ z : Int32, u1 + Int32.ofInt 1 = z := ⟨_, rfl⟩
          have i23' := iinc_ok e24 (by decide) (by omega) (by omega)
          refine r_iinc [(2, .int i23), (0, .ref (gz (xG x) + 28)), (1, .ref (gz (xG x) + 4))] 2 C dX1_takeWhats_23 rfl e24 (by decide) rfl ?_
          refine r_goto 2 C dX1_takeWhats_26 (by decide) ?_
          refine r_lv [1, 2, 0] rfl ?_
          exact ih9 i23 w19 h21 o22 (by omega) (by omega)
  refine r_iconst (v := 0) C dX1_takeWhats_0 (by decide) ?_
  refine r_istore_n [(2, .int 0), (0, .ref (gz (xG x) + 28)), (1, .ref (gz (xG x) + 4))] C dX1_takeWhats_1 (by decide) rfl ?_
  refine r_lv [1, 2, 0] rfl ?_
  exact LP2 4294967296 0 w h0 o0 (by omega) (by omega)
set_option maxHeartbeats 4000000 in
set_option maxRecDepth 100000 in
theorem ctX1_takeWhats_28_22 (l : Launch) (G : Gt) (w : Wv) (sC : Str KC XC w) (o0 : Inv RC w)  : CtV l G yX1_takeWhats cX1_takeWhats 3 ({ frames := 1, cells := 0, slots := 0, locals := 21 } : Room) [.ref (gz G + 28), .ref (gz G + 22)] w (fun w' => Ch [29, 33] [] w w' ∧ Inv RC w') := by
  refine enterV (by decide) (Nat.le_of_ble_eq_true rfl) ?_
  intro x el eG C hnm hret
  subst el; subst eG
  show V x 0 0 w 0 [(0, .ref (gz (xG x) + 28)), (1, .ref (gz (xG x) + 22))] []
  have h0 : Ch [29, 33] [] w w := Ch.rf
  have q0 : (0 : Int32).toInt = 0 := by decide
  have q42 : (42 : Int32).toInt = 42 := by decide
  have LP2 : ∀ (f3 : Nat) (u1 : Int32) (w4 : Wv), Ch [29, 33] [] w w4 → Inv RC w4 → (0 ≤ u1.toInt ∧ u1.toInt ≤ 2147483647) → 2147483647 - u1.toInt < f3 → V x 0 0 w4 2 [(0, .ref (gz (xG x) + 28)), (1, .ref (gz (xG x) + 22)), (2, .int u1)] [] := by
    intro f3
    induction f3 with
    | zero => intro u1 w4 h5 o6 z7 z8; exfalso; omega
    | succ f3 ih9 =>
      intro u1 w4 h5 o6 z7 z8
      refine r_iload_n 2 C dX1_takeWhats_2 rfl ?_
      refine r_bipush (v := 42) C dX1_takeWhats_3 (by decide) ?_
      refine r_icmp_ge 29 C dX1_takeWhats_5 (by decide) (fun c10 => ?_) (fun c10 => ?_)
      · have c10' := i_le c10
        refine r_aload_n 0 C dX1_takeWhats_29 rfl ?_
        refine callVV C cwX1_62_V (ctX1_forgetWays_28 _ _ w4 (sS sC h5) o6  ) (by decide) (kS sC h5 kc_28) rfl rfl rfl (Nat.le_of_ble_eq_true rfl) (by decide) dX1_takeWhats_30 (fun w12 y11 => ?_)
        show V x 0 0 w12 33 [(0, .ref (gz (xG x) + 28)), (1, .ref (gz (xG x) + 22)), (2, .int u1)] []
        obtain ⟨h14, o15⟩ := y11
        have h16 := Ch.tr h5 h14 (by decide) (by decide)
        exact hret _ _ _ dX1_takeWhats_33 ⟨h16, o15⟩
      · have c10' := i_nle c10
        refine r_iload_n 2 C dX1_takeWhats_8 rfl ?_
        refine r_aload_n 1 C dX1_takeWhats_9 rfl ?_
        refine r_alen 0 0 rfl C (kS sC h5 kc_22) (v := 42) (by decide) dX1_takeWhats_10 ?_
        refine r_icmp_ge 29 C dX1_takeWhats_11 (by decide) (fun c17 => ?_) (fun c17 => ?_)
        · have c17' := i_le c17
          exfalso; omega
        · have c17' := i_nle c17
          refine r_aload_n 0 C dX1_takeWhats_14 rfl ?_
          refine gfX1_9 29 C (kS sC h5 kc_28) (xS sC h5 xc_28_1) dX1_takeWhats_15 ?_
          refine r_iload_n 2 C dX1_takeWhats_18 rfl ?_
          refine r_aload_n 1 C dX1_takeWhats_19 rfl ?_
          refine r_iload_n 2 C dX1_takeWhats_20 rfl ?_
          refine r_iald C (kS sC h5 kc_22) (vin (by omega) (by omega)) dX1_takeWhats_21 ?_
          generalize (wI w4 22 (u1).toNatClampNeg) = v18
          refine r_iast C (kS sC h5 kc_29) (vin (by omega) (by omega)) dX1_takeWhats_22 (fun w19 e20 => ?_)
          have h21 := Ch.putS h5 e20 (by decide)
          have o22 := Inv.put0 o6 e20 (by decide)
          obtain ⟨i23, e24⟩ : ∃ z : Int32, u1 + Int32.ofInt 1 = z := ⟨_, rfl⟩
          have i23' := iinc_ok e24 (by decide) (by omega) (by omega)
          refine r_iinc [(2, .int i23), (0, .ref (gz (xG x) + 28)), (1, .ref (gz (xG x) + 22))] 2 C dX1_takeWhats_23 rfl e24 (by decide) rfl ?_
          refine r_goto 2 C dX1_takeWhats_26 (by decide) ?_
          refine r_lv [1, 2, 0] rfl ?_
          exact ih9 i23 w19 h21 o22 (by omega) (by omega)
  refine r_iconst (v := 0) C dX1_takeWhats_0 (by decide) ?_
  refine r_istore_n [(2, .int 0), (0, .ref (gz (xG x) + 28)), (1, .ref (gz (xG x) + 22))] C dX1_takeWhats_1 (by decide) rfl ?_
  refine r_lv [1, 2, 0] rfl ?_
  exact LP2 4294967296 0 w h0 o0 (by omega) (by omega)
set_option maxHeartbeats 4000000 in
set_option maxRecDepth 100000 in
theorem ctX1_layCell_28 (l : Launch) (G : Gt) (w : Wv) (sC : Str KC XC w) (o0 : Inv RC w) (a1 : Int32) (a2 : Int32) (b1 : 0 ≤ a1.toInt ∧ a1.toInt ≤ 8) (b2 : 0 ≤ a2.toInt ∧ a2.toInt ≤ 8) : CtV l G yX1_layCell cX1_layCell 4 ({ frames := 0, cells := 0, slots := 0, locals := 0 } : Room) [.ref (gz G + 28), .int a1, .int a2] w (fun w' => Ch [30, 31] [] w w' ∧ Inv RC w') := by
  refine enterV (by decide) (Nat.le_of_ble_eq_true rfl) ?_
  intro x el eG C hnm hret
  subst el; subst eG
  show V x 0 0 w 0 [(0, .ref (gz (xG x) + 28)), (1, .int a1), (2, .int a2)] []
  have h0 : Ch [30, 31] [] w w := Ch.rf
  have qm1 : ((-1) : Int32).toInt = (-1) := by decide
  have q0 : (0 : Int32).toInt = 0 := by decide
  have q1 : (1 : Int32).toInt = 1 := by decide
  have q2 : (2 : Int32).toInt = 2 := by decide
  have q3 : (3 : Int32).toInt = 3 := by decide
  have q4 : (4 : Int32).toInt = 4 := by decide
  have q10 : (10 : Int32).toInt = 10 := by decide
  have q42 : (42 : Int32).toInt = 42 := by decide
  refine r_iload_n 2 C dX1_layCell_0 rfl ?_
  refine r_aload_n 0 C dX1_layCell_1 rfl ?_
  refine gfX1_37 (v := (wI w 28 2)) C (kS sC h0 kc_28) rfl dX1_layCell_2 ?_
  have b1 := Inv.get o0 rt_28_2 (j := 2) (by decide) (by decide)
  refine r_imul C dX1_layCell_5 (fun v2 e3 => ?_)
  have v2' := imul_rng e3 (A := 8) (B := 9) (by omega) (by omega) (by decide)
  refine r_iload_n 1 C dX1_layCell_6 rfl ?_
  refine r_iadd C dX1_layCell_7 (fun v4 e5 => ?_)
  have v4' := iadd_ok e5 (by omega) (by omega)
  refine r_istore_n [(3, .int v4), (0, .ref (gz (xG x) + 28)), (1, .int a1), (2, .int a2)] C dX1_layCell_8 (by decide) rfl ?_
  refine r_iload_n 0 C dX1_layCell_9 rfl ?_
  refine r_bipush (v := 42) C dX1_layCell_10 (by decide) ?_
  refine r_icmp_lt 16 C dX1_layCell_12 (by decide) (fun c6 => ?_) (fun c6 => ?_)
  · have c6' := i_lt c6
    refine r_aload_n 1 C dX1_layCell_16 rfl ?_
    refine gfX1_15 30 C (kS sC h0 kc_28) (xS sC h0 xc_28_4) dX1_layCell_17 ?_
    refine r_iload_n 0 C dX1_layCell_20 rfl ?_
    refine r_bipush (v := 10) C dX1_layCell_21 (by decide) ?_
    refine r_iload_n 2 C dX1_layCell_23 rfl ?_
    refine r_imul C dX1_layCell_24 (fun v7 e8 => ?_)
    have k9 : (10 : Int32).toInt = 10 := by omega
    have v7' := imul_ok e8 (by rw [k9]; omega) (by rw [k9]; omega)
    rw [k9] at v7'
    refine r_iload_n 3 C dX1_layCell_25 rfl ?_
    refine r_iadd C dX1_layCell_26 (fun v10 e11 => ?_)
    have v10' := iadd_ok e11 (by omega) (by omega)
    refine r_iast C (kS sC h0 kc_30) (vin (by omega) (by omega)) dX1_layCell_27 (fun w12 e13 => ?_)
    have h14 := Ch.putS h0 e13 (by decide)
    have o15 := Inv.put0 o0 e13 (by decide)
    refine r_aload_n 1 C dX1_layCell_28 rfl ?_
    refine gfX1_18 31 C (kS sC h14 kc_28) (xS sC h14 xc_28_5) dX1_layCell_29 ?_
    refine r_iload_n 0 C dX1_layCell_32 rfl ?_
    refine r_iconst (v := 4) C dX1_layCell_33 (by decide) ?_
    refine r_imul C dX1_layCell_34 (fun v16 e17 => ?_)
    have k18 : (4 : Int32).toInt = 4 := by omega
    have v16' := imul_ok e17 (by rw [k18]; omega) (by rw [k18]; omega)
    rw [k18] at v16'
    refine r_iload_n 3 C dX1_layCell_35 rfl ?_
    refine r_if_le 48 C dX1_layCell_36 (by decide) (fun c19 => ?_) (fun c19 => ?_)
    · have c19' := i_le c19
      refine r_iconst (v := (-1)) C dX1_layCell_48 (by decide) ?_
      refine r_iast C (kS sC h14 kc_31) (vin (by omega) (by omega)) dX1_layCell_49 (fun w20 e21 => ?_)
      have h22 := Ch.putS h14 e21 (by decide)
      have o23 := Inv.put0 o15 e21 (by decide)
      refine r_aload_n 1 C dX1_layCell_50 rfl ?_
      refine gfX1_18 31 C (kS sC h22 kc_28) (xS sC h22 xc_28_5) dX1_layCell_51 ?_
      refine r_iload_n 0 C dX1_layCell_54 rfl ?_
      refine r_iconst (v := 4) C dX1_layCell_55 (by decide) ?_
      refine r_imul C dX1_layCell_56 (fun v24 e25 => ?_)
      have k26 : (4 : Int32).toInt = 4 := by omega
      have v24' := imul_ok e25 (by rw [k26]; omega) (by rw [k26]; omega)
      rw [k26] at v24'
      refine r_iconst (v := 1) C dX1_layCell_57 (by decide) ?_
      refine r_iadd C dX1_layCell_58 (fun v27 e28 => ?_)
      have v27' := iadd_ok e28 (by omega) (by omega)
      refine r_iload_n 2 C dX1_layCell_59 rfl ?_
      refine r_aload_n 1 C dX1_layCell_60 rfl ?_
      refine gfX1_37 (v := (wI w 28 2)) C (kS sC h22 kc_28) (g_nn e21 (by decide) (g_nn e13 (by decide) rfl)) dX1_layCell_61 ?_
      refine r_iconst (v := 1) C dX1_layCell_64 (by decide) ?_
      refine r_isub C dX1_layCell_65 (fun v29 e30 => ?_)
      have v29' := isub_ok e30 (by omega) (by omega)
      refine r_icmp_ge 75 C dX1_layCell_66 (by decide) (fun c31 => ?_) (fun c31 => ?_)
      · have c31' := i_le c31
        refine r_iconst (v := (-1)) C dX1_layCell_75 (by decide) ?_
        refine r_iast C (kS sC h22 kc_31) (vin (by omega) (by omega)) dX1_layCell_76 (fun w32 e33 => ?_)
        have h34 := Ch.putS h22 e33 (by decide)
        have o35 := Inv.put0 o23 e33 (by decide)
        refine r_aload_n 1 C dX1_layCell_77 rfl ?_
        refine gfX1_18 31 C (kS sC h34 kc_28) (xS sC h34 xc_28_5) dX1_layCell_78 ?_
        refine r_iload_n 0 C dX1_layCell_81 rfl ?_
        refine r_iconst (v := 4) C dX1_layCell_82 (by decide) ?_
        refine r_imul C dX1_layCell_83 (fun v36 e37 => ?_)
        have k38 : (4 : Int32).toInt = 4 := by omega
        have v36' := imul_ok e37 (by rw [k38]; omega) (by rw [k38]; omega)
        rw [k38] at v36'
        refine r_iconst (v := 2) C dX1_layCell_84 (by decide) ?_
        refine r_iadd C dX1_layCell_85 (fun v39 e40 => ?_)
        have v39' := iadd_ok e40 (by omega) (by omega)
        refine r_iload_n 3 C dX1_layCell_86 rfl ?_
        refine r_aload_n 1 C dX1_layCell_87 rfl ?_
        refine gfX1_41 (v := (wI w 28 3)) C (kS sC h34 kc_28) (g_nn e33 (by decide) (g_nn e21 (by decide) (g_nn e13 (by decide) rfl))) dX1_layCell_88 ?_
        have b41 := Inv.get o0 rt_28_3 (j := 3) (by decide) (by decide)
        refine r_iconst (v := 1) C dX1_layCell_91 (by decide) ?_
        refine r_isub C dX1_layCell_92 (fun v42 e43 => ?_)
        have v42' := isub_ok e43 (by omega) (by omega)
        refine r_icmp_ge 105 C dX1_layCell_93 (by decide) (fun c44 => ?_) (fun c44 => ?_)
        · have c44' := i_le c44
          refine r_iconst (v := (-1)) C dX1_layCell_105 (by decide) ?_
          refine r_iast C (kS sC h34 kc_31) (vin (by omega) (by omega)) dX1_layCell_106 (fun w45 e46 => ?_)
          have h47 := Ch.putS h34 e46 (by decide)
          have o48 := Inv.put0 o35 e46 (by decide)
          refine r_aload_n 1 C dX1_layCell_107 rfl ?_
          refine gfX1_18 31 C (kS sC h47 kc_28) (xS sC h47 xc_28_5) dX1_layCell_108 ?_
          refine r_iload_n 0 C dX1_layCell_111 rfl ?_
          refine r_iconst (v := 4) C dX1_layCell_112 (by decide) ?_
          refine r_imul C dX1_layCell_113 (fun v49 e50 => ?_)
          have k51 : (4 : Int32).toInt = 4 := by omega
          have v49' := imul_ok e50 (by rw [k51]; omega) (by rw [k51]; omega)
          rw [k51] at v49'
          refine r_iconst (v := 3) C dX1_layCell_114 (by decide) ?_
          refine r_iadd C dX1_layCell_115 (fun v52 e53 => ?_)
          have v52' := iadd_ok e53 (by omega) (by omega)
          refine r_iload_n 2 C dX1_layCell_116 rfl ?_
          refine r_if_le 126 C dX1_layCell_117 (by decide) (fun c54 => ?_) (fun c54 => ?_)
          · have c54' := i_le c54
            refine r_iconst (v := (-1)) C dX1_layCell_126 (by decide) ?_
            refine r_iast C (kS sC h47 kc_31) (vin (by omega) (by omega)) dX1_layCell_127 (fun w55 e56 => ?_)
            have h57 := Ch.putS h47 e56 (by decide)
            have o58 := Inv.put0 o48 e56 (by decide)
            exact hret _ _ _ dX1_layCell_128 ⟨h57, o58⟩
          · have c54' := i_nle c54
            refine r_iload_n 0 C dX1_layCell_120 rfl ?_
            refine r_iconst (v := 1) C dX1_layCell_121 (by decide) ?_
            refine r_isub C dX1_layCell_122 (fun v59 e60 => ?_)
            have v59' := isub_ok e60 (by omega) (by omega)
            refine r_goto 127 C dX1_layCell_123 (by decide) ?_
            refine r_iast C (kS sC h47 kc_31) (vin (by omega) (by omega)) dX1_layCell_127 (fun w61 e62 => ?_)
            have h63 := Ch.putS h47 e62 (by decide)
            have o64 := Inv.put0 o48 e62 (by decide)
            exact hret _ _ _ dX1_layCell_128 ⟨h63, o64⟩
        · have c44' := i_nle c44
          refine r_iload_n 0 C dX1_layCell_96 rfl ?_
          refine r_aload_n 1 C dX1_layCell_97 rfl ?_
          refine gfX1_37 (v := (wI w 28 2)) C (kS sC h34 kc_28) (g_nn e33 (by decide) (g_nn e21 (by decide) (g_nn e13 (by decide) rfl))) dX1_layCell_98 ?_
          refine r_iadd C dX1_layCell_101 (fun v65 e66 => ?_)
          have v65' := iadd_ok e66 (by omega) (by omega)
          refine r_goto 106 C dX1_layCell_102 (by decide) ?_
          refine r_iast C (kS sC h34 kc_31) (vin (by omega) (by omega)) dX1_layCell_106 (fun w67 e68 => ?_)
          have h69 := Ch.putS h34 e68 (by decide)
          have o70 := Inv.put0 o35 e68 (by decide)
          refine r_aload_n 1 C dX1_layCell_107 rfl ?_
          refine gfX1_18 31 C (kS sC h69 kc_28) (xS sC h69 xc_28_5) dX1_layCell_108 ?_
          refine r_iload_n 0 C dX1_layCell_111 rfl ?_
          refine r_iconst (v := 4) C dX1_layCell_112 (by decide) ?_
          refine r_imul C dX1_layCell_113 (fun v71 e72 => ?_)
          have k73 : (4 : Int32).toInt = 4 := by omega
          have v71' := imul_ok e72 (by rw [k73]; omega) (by rw [k73]; omega)
          rw [k73] at v71'
          refine r_iconst (v := 3) C dX1_layCell_114 (by decide) ?_
          refine r_iadd C dX1_layCell_115 (fun v74 e75 => ?_)
          have v74' := iadd_ok e75 (by omega) (by omega)
          refine r_iload_n 2 C dX1_layCell_116 rfl ?_
          refine r_if_le 126 C dX1_layCell_117 (by decide) (fun c76 => ?_) (fun c76 => ?_)
          · have c76' := i_le c76
            refine r_iconst (v := (-1)) C dX1_layCell_126 (by decide) ?_
            refine r_iast C (kS sC h69 kc_31) (vin (by omega) (by omega)) dX1_layCell_127 (fun w77 e78 => ?_)
            have h79 := Ch.putS h69 e78 (by decide)
            have o80 := Inv.put0 o70 e78 (by decide)
            exact hret _ _ _ dX1_layCell_128 ⟨h79, o80⟩
          · have c76' := i_nle c76
            refine r_iload_n 0 C dX1_layCell_120 rfl ?_
            refine r_iconst (v := 1) C dX1_layCell_121 (by decide) ?_
            refine r_isub C dX1_layCell_122 (fun v81 e82 => ?_)
            have v81' := isub_ok e82 (by omega) (by omega)
            refine r_goto 127 C dX1_layCell_123 (by decide) ?_
            refine r_iast C (kS sC h69 kc_31) (vin (by omega) (by omega)) dX1_layCell_127 (fun w83 e84 => ?_)
            have h85 := Ch.putS h69 e84 (by decide)
            have o86 := Inv.put0 o70 e84 (by decide)
            exact hret _ _ _ dX1_layCell_128 ⟨h85, o86⟩
      · have c31' := i_nle c31
        refine r_iload_n 0 C dX1_layCell_69 rfl ?_
        refine r_iconst (v := 1) C dX1_layCell_70 (by decide) ?_
        refine r_iadd C dX1_layCell_71 (fun v87 e88 => ?_)
        have v87' := iadd_ok e88 (by omega) (by omega)
        refine r_goto 76 C dX1_layCell_72 (by decide) ?_
        refine r_iast C (kS sC h22 kc_31) (vin (by omega) (by omega)) dX1_layCell_76 (fun w89 e90 => ?_)
        have h91 := Ch.putS h22 e90 (by decide)
        have o92 := Inv.put0 o23 e90 (by decide)
        refine r_aload_n 1 C dX1_layCell_77 rfl ?_
        refine gfX1_18 31 C (kS sC h91 kc_28) (xS sC h91 xc_28_5) dX1_layCell_78 ?_
        refine r_iload_n 0 C dX1_layCell_81 rfl ?_
        refine r_iconst (v := 4) C dX1_layCell_82 (by decide) ?_
        refine r_imul C dX1_layCell_83 (fun v93 e94 => ?_)
        have k95 : (4 : Int32).toInt = 4 := by omega
        have v93' := imul_ok e94 (by rw [k95]; omega) (by rw [k95]; omega)
        rw [k95] at v93'
        refine r_iconst (v := 2) C dX1_layCell_84 (by decide) ?_
        refine r_iadd C dX1_layCell_85 (fun v96 e97 => ?_)
        have v96' := iadd_ok e97 (by omega) (by omega)
        refine r_iload_n 3 C dX1_layCell_86 rfl ?_
        refine r_aload_n 1 C dX1_layCell_87 rfl ?_
        refine gfX1_41 (v := (wI w 28 3)) C (kS sC h91 kc_28) (g_nn e90 (by decide) (g_nn e21 (by decide) (g_nn e13 (by decide) rfl))) dX1_layCell_88 ?_
        have b98 := Inv.get o0 rt_28_3 (j := 3) (by decide) (by decide)
        refine r_iconst (v := 1) C dX1_layCell_91 (by decide) ?_
        refine r_isub C dX1_layCell_92 (fun v99 e100 => ?_)
        have v99' := isub_ok e100 (by omega) (by omega)
        refine r_icmp_ge 105 C dX1_layCell_93 (by decide) (fun c101 => ?_) (fun c101 => ?_)
        · have c101' := i_le c101
          refine r_iconst (v := (-1)) C dX1_layCell_105 (by decide) ?_
          refine r_iast C (kS sC h91 kc_31) (vin (by omega) (by omega)) dX1_layCell_106 (fun w102 e103 => ?_)
          have h104 := Ch.putS h91 e103 (by decide)
          have o105 := Inv.put0 o92 e103 (by decide)
          refine r_aload_n 1 C dX1_layCell_107 rfl ?_
          refine gfX1_18 31 C (kS sC h104 kc_28) (xS sC h104 xc_28_5) dX1_layCell_108 ?_
          refine r_iload_n 0 C dX1_layCell_111 rfl ?_
          refine r_iconst (v := 4) C dX1_layCell_112 (by decide) ?_
          refine r_imul C dX1_layCell_113 (fun v106 e107 => ?_)
          have k108 : (4 : Int32).toInt = 4 := by omega
          have v106' := imul_ok e107 (by rw [k108]; omega) (by rw [k108]; omega)
          rw [k108] at v106'
          refine r_iconst (v := 3) C dX1_layCell_114 (by decide) ?_
          refine r_iadd C dX1_layCell_115 (fun v109 e110 => ?_)
          have v109' := iadd_ok e110 (by omega) (by omega)
          refine r_iload_n 2 C dX1_layCell_116 rfl ?_
          refine r_if_le 126 C dX1_layCell_117 (by decide) (fun c111 => ?_) (fun c111 => ?_)
          · have c111' := i_le c111
            refine r_iconst (v := (-1)) C dX1_layCell_126 (by decide) ?_
            refine r_iast C (kS sC h104 kc_31) (vin (by omega) (by omega)) dX1_layCell_127 (fun w112 e113 => ?_)
            have h114 := Ch.putS h104 e113 (by decide)
            have o115 := Inv.put0 o105 e113 (by decide)
            exact hret _ _ _ dX1_layCell_128 ⟨h114, o115⟩
          · have c111' := i_nle c111
            refine r_iload_n 0 C dX1_layCell_120 rfl ?_
            refine r_iconst (v := 1) C dX1_layCell_121 (by decide) ?_
            refine r_isub C dX1_layCell_122 (fun v116 e117 => ?_)
            have v116' := isub_ok e117 (by omega) (by omega)
            refine r_goto 127 C dX1_layCell_123 (by decide) ?_
            refine r_iast C (kS sC h104 kc_31) (vin (by omega) (by omega)) dX1_layCell_127 (fun w118 e119 => ?_)
            have h120 := Ch.putS h104 e119 (by decide)
            have o121 := Inv.put0 o105 e119 (by decide)
            exact hret _ _ _ dX1_layCell_128 ⟨h120, o121⟩
        · have c101' := i_nle c101
          refine r_iload_n 0 C dX1_layCell_96 rfl ?_
          refine r_aload_n 1 C dX1_layCell_97 rfl ?_
          refine gfX1_37 (v := (wI w 28 2)) C (kS sC h91 kc_28) (g_nn e90 (by decide) (g_nn e21 (by decide) (g_nn e13 (by decide) rfl))) dX1_layCell_98 ?_
          refine r_iadd C dX1_layCell_101 (fun v122 e123 => ?_)
          have v122' := iadd_ok e123 (by omega) (by omega)
          refine r_goto 106 C dX1_layCell_102 (by decide) ?_
          refine r_iast C (kS sC h91 kc_31) (vin (by omega) (by omega)) dX1_layCell_106 (fun w124 e125 => ?_)
          have h126 := Ch.putS h91 e125 (by decide)
          have o127 := Inv.put0 o92 e125 (by decide)
          refine r_aload_n 1 C dX1_layCell_107 rfl ?_
          refine gfX1_18 31 C (kS sC h126 kc_28) (xS sC h126 xc_28_5) dX1_layCell_108 ?_
          refine r_iload_n 0 C dX1_layCell_111 rfl ?_
          refine r_iconst (v := 4) C dX1_layCell_112 (by decide) ?_
          refine r_imul C dX1_layCell_113 (fun v128 e129 => ?_)
          have k130 : (4 : Int32).toInt = 4 := by omega
          have v128' := imul_ok e129 (by rw [k130]; omega) (by rw [k130]; omega)
          rw [k130] at v128'
          refine r_iconst (v := 3) C dX1_layCell_114 (by decide) ?_
          refine r_iadd C dX1_layCell_115 (fun v131 e132 => ?_)
          have v131' := iadd_ok e132 (by omega) (by omega)
          refine r_iload_n 2 C dX1_layCell_116 rfl ?_
          refine r_if_le 126 C dX1_layCell_117 (by decide) (fun c133 => ?_) (fun c133 => ?_)
          · have c133' := i_le c133
            refine r_iconst (v := (-1)) C dX1_layCell_126 (by decide) ?_
            refine r_iast C (kS sC h126 kc_31) (vin (by omega) (by omega)) dX1_layCell_127 (fun w134 e135 => ?_)
            have h136 := Ch.putS h126 e135 (by decide)
            have o137 := Inv.put0 o127 e135 (by decide)
            exact hret _ _ _ dX1_layCell_128 ⟨h136, o137⟩
          · have c133' := i_nle c133
            refine r_iload_n 0 C dX1_layCell_120 rfl ?_
            refine r_iconst (v := 1) C dX1_layCell_121 (by decide) ?_
            refine r_isub C dX1_layCell_122 (fun v138 e139 => ?_)
            have v138' := isub_ok e139 (by omega) (by omega)
            refine r_goto 127 C dX1_layCell_123 (by decide) ?_
            refine r_iast C (kS sC h126 kc_31) (vin (by omega) (by omega)) dX1_layCell_127 (fun w140 e141 => ?_)
            have h142 := Ch.putS h126 e141 (by decide)
            have o143 := Inv.put0 o127 e141 (by decide)
            exact hret _ _ _ dX1_layCell_128 ⟨h142, o143⟩
    · have c19' := i_nle c19
      refine r_iload_n 0 C dX1_layCell_39 rfl ?_
      refine r_aload_n 1 C dX1_layCell_40 rfl ?_
      refine gfX1_37 (v := (wI w 28 2)) C (kS sC h14 kc_28) (g_nn e13 (by decide) rfl) dX1_layCell_41 ?_
      refine r_isub C dX1_layCell_44 (fun v144 e145 => ?_)
      have v144' := isub_ok e145 (by omega) (by omega)
      refine r_goto 49 C dX1_layCell_45 (by decide) ?_
      refine r_iast C (kS sC h14 kc_31) (vin (by omega) (by omega)) dX1_layCell_49 (fun w146 e147 => ?_)
      have h148 := Ch.putS h14 e147 (by decide)
      have o149 := Inv.put0 o15 e147 (by decide)
      refine r_aload_n 1 C dX1_layCell_50 rfl ?_
      refine gfX1_18 31 C (kS sC h148 kc_28) (xS sC h148 xc_28_5) dX1_layCell_51 ?_
      refine r_iload_n 0 C dX1_layCell_54 rfl ?_
      refine r_iconst (v := 4) C dX1_layCell_55 (by decide) ?_
      refine r_imul C dX1_layCell_56 (fun v150 e151 => ?_)
      have k152 : (4 : Int32).toInt = 4 := by omega
      have v150' := imul_ok e151 (by rw [k152]; omega) (by rw [k152]; omega)
      rw [k152] at v150'
      refine r_iconst (v := 1) C dX1_layCell_57 (by decide) ?_
      refine r_iadd C dX1_layCell_58 (fun v153 e154 => ?_)
      have v153' := iadd_ok e154 (by omega) (by omega)
      refine r_iload_n 2 C dX1_layCell_59 rfl ?_
      refine r_aload_n 1 C dX1_layCell_60 rfl ?_
      refine gfX1_37 (v := (wI w 28 2)) C (kS sC h148 kc_28) (g_nn e147 (by decide) (g_nn e13 (by decide) rfl)) dX1_layCell_61 ?_
      refine r_iconst (v := 1) C dX1_layCell_64 (by decide) ?_
      refine r_isub C dX1_layCell_65 (fun v155 e156 => ?_)
      have v155' := isub_ok e156 (by omega) (by omega)
      refine r_icmp_ge 75 C dX1_layCell_66 (by decide) (fun c157 => ?_) (fun c157 => ?_)
      · have c157' := i_le c157
        refine r_iconst (v := (-1)) C dX1_layCell_75 (by decide) ?_
        refine r_iast C (kS sC h148 kc_31) (vin (by omega) (by omega)) dX1_layCell_76 (fun w158 e159 => ?_)
        have h160 := Ch.putS h148 e159 (by decide)
        have o161 := Inv.put0 o149 e159 (by decide)
        refine r_aload_n 1 C dX1_layCell_77 rfl ?_
        refine gfX1_18 31 C (kS sC h160 kc_28) (xS sC h160 xc_28_5) dX1_layCell_78 ?_
        refine r_iload_n 0 C dX1_layCell_81 rfl ?_
        refine r_iconst (v := 4) C dX1_layCell_82 (by decide) ?_
        refine r_imul C dX1_layCell_83 (fun v162 e163 => ?_)
        have k164 : (4 : Int32).toInt = 4 := by omega
        have v162' := imul_ok e163 (by rw [k164]; omega) (by rw [k164]; omega)
        rw [k164] at v162'
        refine r_iconst (v := 2) C dX1_layCell_84 (by decide) ?_
        refine r_iadd C dX1_layCell_85 (fun v165 e166 => ?_)
        have v165' := iadd_ok e166 (by omega) (by omega)
        refine r_iload_n 3 C dX1_layCell_86 rfl ?_
        refine r_aload_n 1 C dX1_layCell_87 rfl ?_
        refine gfX1_41 (v := (wI w 28 3)) C (kS sC h160 kc_28) (g_nn e159 (by decide) (g_nn e147 (by decide) (g_nn e13 (by decide) rfl))) dX1_layCell_88 ?_
        have b167 := Inv.get o0 rt_28_3 (j := 3) (by decide) (by decide)
        refine r_iconst (v := 1) C dX1_layCell_91 (by decide) ?_
        refine r_isub C dX1_layCell_92 (fun v168 e169 => ?_)
        have v168' := isub_ok e169 (by omega) (by omega)
        refine r_icmp_ge 105 C dX1_layCell_93 (by decide) (fun c170 => ?_) (fun c170 => ?_)
        · have c170' := i_le c170
          refine r_iconst (v := (-1)) C dX1_layCell_105 (by decide) ?_
          refine r_iast C (kS sC h160 kc_31) (vin (by omega) (by omega)) dX1_layCell_106 (fun w171 e172 => ?_)
          have h173 := Ch.putS h160 e172 (by decide)
          have o174 := Inv.put0 o161 e172 (by decide)
          refine r_aload_n 1 C dX1_layCell_107 rfl ?_
          refine gfX1_18 31 C (kS sC h173 kc_28) (xS sC h173 xc_28_5) dX1_layCell_108 ?_
          refine r_iload_n 0 C dX1_layCell_111 rfl ?_
          refine r_iconst (v := 4) C dX1_layCell_112 (by decide) ?_
          refine r_imul C dX1_layCell_113 (fun v175 e176 => ?_)
          have k177 : (4 : Int32).toInt = 4 := by omega
          have v175' := imul_ok e176 (by rw [k177]; omega) (by rw [k177]; omega)
          rw [k177] at v175'
          refine r_iconst (v := 3) C dX1_layCell_114 (by decide) ?_
          refine r_iadd C dX1_layCell_115 (fun v178 e179 => ?_)
          have v178' := iadd_ok e179 (by omega) (by omega)
          refine r_iload_n 2 C dX1_layCell_116 rfl ?_
          refine r_if_le 126 C dX1_layCell_117 (by decide) (fun c180 => ?_) (fun c180 => ?_)
          · have c180' := i_le c180
            refine r_iconst (v := (-1)) C dX1_layCell_126 (by decide) ?_
            refine r_iast C (kS sC h173 kc_31) (vin (by omega) (by omega)) dX1_layCell_127 (fun w181 e182 => ?_)
            have h183 := Ch.putS h173 e182 (by decide)
            have o184 := Inv.put0 o174 e182 (by decide)
            exact hret _ _ _ dX1_layCell_128 ⟨h183, o184⟩
          · have c180' := i_nle c180
            refine r_iload_n 0 C dX1_layCell_120 rfl ?_
            refine r_iconst (v := 1) C dX1_layCell_121 (by decide) ?_
            refine r_isub C dX1_layCell_122 (fun v185 e186 => ?_)
            have v185' := isub_ok e186 (by omega) (by omega)
            refine r_goto 127 C dX1_layCell_123 (by decide) ?_
            refine r_iast C (kS sC h173 kc_31) (vin (by omega) (by omega)) dX1_layCell_127 (fun w187 e188 => ?_)
            have h189 := Ch.putS h173 e188 (by decide)
            have o190 := Inv.put0 o174 e188 (by decide)
            exact hret _ _ _ dX1_layCell_128 ⟨h189, o190⟩
        · have c170' := i_nle c170
          refine r_iload_n 0 C dX1_layCell_96 rfl ?_
          refine r_aload_n 1 C dX1_layCell_97 rfl ?_
          refine gfX1_37 (v := (wI w 28 2)) C (kS sC h160 kc_28) (g_nn e159 (by decide) (g_nn e147 (by decide) (g_nn e13 (by decide) rfl))) dX1_layCell_98 ?_
          refine r_iadd C dX1_layCell_101 (fun v191 e192 => ?_)
          have v191' := iadd_ok e192 (by omega) (by omega)
          refine r_goto 106 C dX1_layCell_102 (by decide) ?_
          refine r_iast C (kS sC h160 kc_31) (vin (by omega) (by omega)) dX1_layCell_106 (fun w193 e194 => ?_)
          have h195 := Ch.putS h160 e194 (by decide)
          have o196 := Inv.put0 o161 e194 (by decide)
          refine r_aload_n 1 C dX1_layCell_107 rfl ?_
          refine gfX1_18 31 C (kS sC h195 kc_28) (xS sC h195 xc_28_5) dX1_layCell_108 ?_
          refine r_iload_n 0 C dX1_layCell_111 rfl ?_
          refine r_iconst (v := 4) C dX1_layCell_112 (by decide) ?_
          refine r_imul C dX1_layCell_113 (fun v197 e198 => ?_)
          have k199 : (4 : Int32).toInt = 4 := by omega
          have v197' := imul_ok e198 (by rw [k199]; omega) (by rw [k199]; omega)
          rw [k199] at v197'
          refine r_iconst (v := 3) C dX1_layCell_114 (by decide) ?_
          refine r_iadd C dX1_layCell_115 (fun v200 e201 => ?_)
          have v200' := iadd_ok e201 (by omega) (by omega)
          refine r_iload_n 2 C dX1_layCell_116 rfl ?_
          refine r_if_le 126 C dX1_layCell_117 (by decide) (fun c202 => ?_) (fun c202 => ?_)
          · have c202' := i_le c202
            refine r_iconst (v := (-1)) C dX1_layCell_126 (by decide) ?_
            refine r_iast C (kS sC h195 kc_31) (vin (by omega) (by omega)) dX1_layCell_127 (fun w203 e204 => ?_)
            have h205 := Ch.putS h195 e204 (by decide)
            have o206 := Inv.put0 o196 e204 (by decide)
            exact hret _ _ _ dX1_layCell_128 ⟨h205, o206⟩
          · have c202' := i_nle c202
            refine r_iload_n 0 C dX1_layCell_120 rfl ?_
            refine r_iconst (v := 1) C dX1_layCell_121 (by decide) ?_
            refine r_isub C dX1_layCell_122 (fun v207 e208 => ?_)
            have v207' := isub_ok e208 (by omega) (by omega)
            refine r_goto 127 C dX1_layCell_123 (by decide) ?_
            refine r_iast C (kS sC h195 kc_31) (vin (by omega) (by omega)) dX1_layCell_127 (fun w209 e210 => ?_)
            have h211 := Ch.putS h195 e210 (by decide)
            have o212 := Inv.put0 o196 e210 (by decide)
            exact hret _ _ _ dX1_layCell_128 ⟨h211, o212⟩
      · have c157' := i_nle c157
        refine r_iload_n 0 C dX1_layCell_69 rfl ?_
        refine r_iconst (v := 1) C dX1_layCell_70 (by decide) ?_
        refine r_iadd C dX1_layCell_71 (fun v213 e214 => ?_)
        have v213' := iadd_ok e214 (by omega) (by omega)
        refine r_goto 76 C dX1_layCell_72 (by decide) ?_
        refine r_iast C (kS sC h148 kc_31) (vin (by omega) (by omega)) dX1_layCell_76 (fun w215 e216 => ?_)
        have h217 := Ch.putS h148 e216 (by decide)
        have o218 := Inv.put0 o149 e216 (by decide)
        refine r_aload_n 1 C dX1_layCell_77 rfl ?_
        refine gfX1_18 31 C (kS sC h217 kc_28) (xS sC h217 xc_28_5) dX1_layCell_78 ?_
        refine r_iload_n 0 C dX1_layCell_81 rfl ?_
        refine r_iconst (v := 4) C dX1_layCell_82 (by decide) ?_
        refine r_imul C dX1_layCell_83 (fun v219 e220 => ?_)
        have k221 : (4 : Int32).toInt = 4 := by omega
        have v219' := imul_ok e220 (by rw [k221]; omega) (by rw [k221]; omega)
        rw [k221] at v219'
        refine r_iconst (v := 2) C dX1_layCell_84 (by decide) ?_
        refine r_iadd C dX1_layCell_85 (fun v222 e223 => ?_)
        have v222' := iadd_ok e223 (by omega) (by omega)
        refine r_iload_n 3 C dX1_layCell_86 rfl ?_
        refine r_aload_n 1 C dX1_layCell_87 rfl ?_
        refine gfX1_41 (v := (wI w 28 3)) C (kS sC h217 kc_28) (g_nn e216 (by decide) (g_nn e147 (by decide) (g_nn e13 (by decide) rfl))) dX1_layCell_88 ?_
        have b224 := Inv.get o0 rt_28_3 (j := 3) (by decide) (by decide)
        refine r_iconst (v := 1) C dX1_layCell_91 (by decide) ?_
        refine r_isub C dX1_layCell_92 (fun v225 e226 => ?_)
        have v225' := isub_ok e226 (by omega) (by omega)
        refine r_icmp_ge 105 C dX1_layCell_93 (by decide) (fun c227 => ?_) (fun c227 => ?_)
        · have c227' := i_le c227
          refine r_iconst (v := (-1)) C dX1_layCell_105 (by decide) ?_
          refine r_iast C (kS sC h217 kc_31) (vin (by omega) (by omega)) dX1_layCell_106 (fun w228 e229 => ?_)
          have h230 := Ch.putS h217 e229 (by decide)
          have o231 := Inv.put0 o218 e229 (by decide)
          refine r_aload_n 1 C dX1_layCell_107 rfl ?_
          refine gfX1_18 31 C (kS sC h230 kc_28) (xS sC h230 xc_28_5) dX1_layCell_108 ?_
          refine r_iload_n 0 C dX1_layCell_111 rfl ?_
          refine r_iconst (v := 4) C dX1_layCell_112 (by decide) ?_
          refine r_imul C dX1_layCell_113 (fun v232 e233 => ?_)
          have k234 : (4 : Int32).toInt = 4 := by omega
          have v232' := imul_ok e233 (by rw [k234]; omega) (by rw [k234]; omega)
          rw [k234] at v232'
          refine r_iconst (v := 3) C dX1_layCell_114 (by decide) ?_
          refine r_iadd C dX1_layCell_115 (fun v235 e236 => ?_)
          have v235' := iadd_ok e236 (by omega) (by omega)
          refine r_iload_n 2 C dX1_layCell_116 rfl ?_
          refine r_if_le 126 C dX1_layCell_117 (by decide) (fun c237 => ?_) (fun c237 => ?_)
          · have c237' := i_le c237
            refine r_iconst (v := (-1)) C dX1_layCell_126 (by decide) ?_
            refine r_iast C (kS sC h230 kc_31) (vin (by omega) (by omega)) dX1_layCell_127 (fun w238 e239 => ?_)
            have h240 := Ch.putS h230 e239 (by decide)
            have o241 := Inv.put0 o231 e239 (by decide)
            exact hret _ _ _ dX1_layCell_128 ⟨h240, o241⟩
          · have c237' := i_nle c237
            refine r_iload_n 0 C dX1_layCell_120 rfl ?_
            refine r_iconst (v := 1) C dX1_layCell_121 (by decide) ?_
            refine r_isub C dX1_layCell_122 (fun v242 e243 => ?_)
            have v242' := isub_ok e243 (by omega) (by omega)
            refine r_goto 127 C dX1_layCell_123 (by decide) ?_
            refine r_iast C (kS sC h230 kc_31) (vin (by omega) (by omega)) dX1_layCell_127 (fun w244 e245 => ?_)
            have h246 := Ch.putS h230 e245 (by decide)
            have o247 := Inv.put0 o231 e245 (by decide)
            exact hret _ _ _ dX1_layCell_128 ⟨h246, o247⟩
        · have c227' := i_nle c227
          refine r_iload_n 0 C dX1_layCell_96 rfl ?_
          refine r_aload_n 1 C dX1_layCell_97 rfl ?_
          refine gfX1_37 (v := (wI w 28 2)) C (kS sC h217 kc_28) (g_nn e216 (by decide) (g_nn e147 (by decide) (g_nn e13 (by decide) rfl))) dX1_layCell_98 ?_
          refine r_iadd C dX1_layCell_101 (fun v248 e249 => ?_)
          have v248' := iadd_ok e249 (by omega) (by omega)
          refine r_goto 106 C dX1_layCell_102 (by decide) ?_
          refine r_iast C (kS sC h217 kc_31) (vin (by omega) (by omega)) dX1_layCell_106 (fun w250 e251 => ?_)
          have h252 := Ch.putS h217 e251 (by decide)
          have o253 := Inv.put0 o218 e251 (by decide)
          refine r_aload_n 1 C dX1_layCell_107 rfl ?_
          refine gfX1_18 31 C (kS sC h252 kc_28) (xS sC h252 xc_28_5) dX1_layCell_108 ?_
          refine r_iload_n 0 C dX1_layCell_111 rfl ?_
          refine r_iconst (v := 4) C dX1_layCell_112 (by decide) ?_
          refine r_imul C dX1_layCell_113 (fun v254 e255 => ?_)
          have k256 : (4 : Int32).toInt = 4 := by omega
          have v254' := imul_ok e255 (by rw [k256]; omega) (by rw [k256]; omega)
          rw [k256] at v254'
          refine r_iconst (v := 3) C dX1_layCell_114 (by decide) ?_
          refine r_iadd C dX1_layCell_115 (fun v257 e258 => ?_)
          have v257' := iadd_ok e258 (by omega) (by omega)
          refine r_iload_n 2 C dX1_layCell_116 rfl ?_
          refine r_if_le 126 C dX1_layCell_117 (by decide) (fun c259 => ?_) (fun c259 => ?_)
          · have c259' := i_le c259
            refine r_iconst (v := (-1)) C dX1_layCell_126 (by decide) ?_
            refine r_iast C (kS sC h252 kc_31) (vin (by omega) (by omega)) dX1_layCell_127 (fun w260 e261 => ?_)
            have h262 := Ch.putS h252 e261 (by decide)
            have o263 := Inv.put0 o253 e261 (by decide)
            exact hret _ _ _ dX1_layCell_128 ⟨h262, o263⟩
          · have c259' := i_nle c259
            refine r_iload_n 0 C dX1_layCell_120 rfl ?_
            refine r_iconst (v := 1) C dX1_layCell_121 (by decide) ?_
            refine r_isub C dX1_layCell_122 (fun v264 e265 => ?_)
            have v264' := isub_ok e265 (by omega) (by omega)
            refine r_goto 127 C dX1_layCell_123 (by decide) ?_
            refine r_iast C (kS sC h252 kc_31) (vin (by omega) (by omega)) dX1_layCell_127 (fun w266 e267 => ?_)
            have h268 := Ch.putS h252 e267 (by decide)
            have o269 := Inv.put0 o253 e267 (by decide)
            exact hret _ _ _ dX1_layCell_128 ⟨h268, o269⟩
  · have c6' := i_nlt c6
    exact hret _ _ _ dX1_layCell_15 ⟨h0, o0⟩
set_option maxHeartbeats 4000000 in
set_option maxRecDepth 100000 in
theorem ctX1_lay_28_3 (l : Launch) (G : Gt) (w : Wv) (sC : Str KC XC w) (o0 : Inv RC w)  : CtV l G yX1_lay cX1_lay 4 ({ frames := 2, cells := 0, slots := 0, locals := 43 } : Room) [.ref (gz G + 28), .ref (gz G + 3)] w (fun w' => Ch [29, 30, 31, 33] [(28, 0), (28, 2), (28, 3)] w w' ∧ Inv RC w') := by
  refine enterV (by decide) (Nat.le_of_ble_eq_true rfl) ?_
  intro x el eG C hnm hret
  subst el; subst eG
  show V x 0 0 w 0 [(0, .ref (gz (xG x) + 28)), (1, .ref (gz (xG x) + 3))] []
  have h0 : Ch [29, 30, 31, 33] [(28, 0), (28, 2), (28, 3)] w w := Ch.rf
  have q0 : (0 : Int32).toInt = 0 := by decide
  have q42 : (42 : Int32).toInt = 42 := by decide
  have LP20 : ∀ (f21 : Nat) (u19 : Int32) (w22 : Wv), Ch [29, 30, 31, 33] [(28, 0), (28, 2), (28, 3)] w w22 → Inv RC w22 → (0 ≤ u19.toInt ∧ u19.toInt ≤ 2147483647) → 2147483647 - u19.toInt < f21 → V x 0 0 w22 36 [(0, .ref (gz (xG x) + 28)), (1, .ref (gz (xG x) + 3)), (2, .int u19)] [] := by
    intro f21
    induction f21 with
    | zero => intro u19 w22 h23 o24 z25 z26; exfalso; omega
    | succ f21 ih27 =>
      intro u19 w22 h23 o24 z25 z26
      have LP38 : ∀ (f39 : Nat) (u36 : Int32) (u37 : Int32) (w40 : Wv), Ch [29, 30, 31, 33] [(28, 0), (28, 2), (28, 3)] w w40 → Inv RC w40 → (0 ≤ u36.toInt ∧ u36.toInt ≤ 8) → (0 ≤ u37.toInt ∧ u37.toInt ≤ 2147483647) → 2147483647 - u37.toInt < f39 → V x 0 0 w40 46 [(0, .ref (gz (xG x) + 28)), (1, .ref (gz (xG x) + 3)), (2, .int u36), (3, .int u37)] [] := by
        intro f39
        induction f39 with
        | zero => intro u36 u37 w40 h41 o42 z43 z44 z45; exfalso; omega
        | succ f39 ih46 =>
          intro u36 u37 w40 h41 o42 z43 z44 z45
          refine r_iload_n 3 C dX1_lay_46 rfl ?_
          refine r_aload_n 0 C dX1_lay_47 rfl ?_
          refine gfX1_37 (v := (wI w40 28 2)) C (kS sC h41 kc_28) rfl dX1_lay_48 ?_
          have b47 := Inv.get o42 rt_28_2 (j := 2) (by decide) (by decide)
          refine r_icmp_ge 66 C dX1_lay_51 (by decide) (fun c48 => ?_) (fun c48 => ?_)
          · have c48' := i_le c48
            obtain ⟨i49, e50⟩ : ∃ z : Int32, u36 + Int32.ofInt 1 = z := ⟨_, rfl⟩
            have i49' := iinc_ok e50 (by decide) (by omega) (by omega)
            refine r_iinc [(2, .int i49), (0, .ref (gz (xG x) + 28)), (1, .ref (gz (xG x) + 3)), (3, .int u37)] 2 C dX1_lay_66 rfl e50 (by decide) rfl ?_
            refine r_goto 36 C dX1_lay_69 (by decide) ?_
            refine r_lv [1, 2, 0] rfl ?_
            exact ih27 i49 w40 h41 o42 (by omega) (by omega)
          · have c48' := i_nle c48
            refine r_aload_n 0 C dX1_lay_54 rfl ?_
            refine r_iload_n 3 C dX1_lay_55 rfl ?_
            refine r_iload_n 2 C dX1_lay_56 rfl ?_
            refine callVV C cwX1_51_V (ctX1_layCell_28 _ _ w40 (sS sC h41) o42 u37 u36 (by omega) (by omega)) (by decide) (kS sC h41 kc_28) rfl rfl rfl (Nat.le_of_ble_eq_true rfl) (by decide) dX1_lay_57 (fun w52 y51 => ?_)
            show V x 0 0 w52 60 [(0, .ref (gz (xG x) + 28)), (1, .ref (gz (xG x) + 3)), (2, .int u36), (3, .int u37)] []
            obtain ⟨h54, o55⟩ := y51
            have h56 := Ch.tr h41 h54 (by decide) (by decide)
            obtain ⟨i57, e58⟩ : ∃ z : Int32, u37 + Int32.ofInt 1 = z := ⟨_, rfl⟩
            have i57' := iinc_ok e58 (by decide) (by omega) (by omega)
            refine r_iinc [(3, .int i57), (0, .ref (gz (xG x) + 28)), (1, .ref (gz (xG x) + 3)), (2, .int u36)] 3 C dX1_lay_60 rfl e58 (by decide) rfl ?_
            refine r_goto 46 C dX1_lay_63 (by decide) ?_
            refine r_lv [1, 2, 3, 0] rfl ?_
            exact ih46 u36 i57 w52 h56 o55 (by omega) (by omega) (by omega)
      refine r_iload_n 2 C dX1_lay_36 rfl ?_
      refine r_aload_n 0 C dX1_lay_37 rfl ?_
      refine gfX1_41 (v := (wI w22 28 3)) C (kS sC h23 kc_28) rfl dX1_lay_38 ?_
      have b28 := Inv.get o24 rt_28_3 (j := 3) (by decide) (by decide)
      refine r_icmp_ge 72 C dX1_lay_41 (by decide) (fun c29 => ?_) (fun c29 => ?_)
      · have c29' := i_le c29
        refine r_aload_n 0 C dX1_lay_72 rfl ?_
        refine r_aload_n 1 C dX1_lay_73 rfl ?_
        refine gfX1_55 4 C (kS sC h23 kc_3) (xS sC h23 xc_3_9) dX1_lay_74 ?_
        refine callVV C cwX1_58_V (ctX1_takeWhats_28_4 _ _ w22 (sS sC h23) o24  ) (by decide) (kS sC h23 kc_28) rfl rfl rfl (Nat.le_of_ble_eq_true rfl) (by decide) dX1_lay_77 (fun w31 y30 => ?_)
        show V x 0 0 w31 80 [(0, .ref (gz (xG x) + 28)), (1, .ref (gz (xG x) + 3)), (2, .int u19)] []
        obtain ⟨h33, o34⟩ := y30
        have h35 := Ch.tr h23 h33 (by decide) (by decide)
        exact hret _ _ _ dX1_lay_80 ⟨h35, o34⟩
      · have c29' := i_nle c29
        refine r_iconst (v := 0) C dX1_lay_44 (by decide) ?_
        refine r_istore_n [(3, .int 0), (0, .ref (gz (xG x) + 28)), (1, .ref (gz (xG x) + 3)), (2, .int u19)] C dX1_lay_45 (by decide) rfl ?_
        refine r_lv [1, 2, 3, 0] rfl ?_
        exact LP38 4294967296 u19 0 w22 h23 o24 (by omega) (by omega) (by omega)
  refine r_aload_n 0 C dX1_lay_0 rfl ?_
  refine r_aload_n 1 C dX1_lay_1 rfl ?_
  refine gfX1_31 (v := (wI w 3 0)) C (kS sC h0 kc_3) rfl dX1_lay_2 ?_
  have b1 := Inv.get o0 rt_3_0 (j := 0) (by decide) (by decide)
  refine pfX1_37 C (kS sC h0 kc_28) dX1_lay_5 (fun w2 e3 => ?_)
  have h4 := Ch.putF h0 e3 (by decide)
  have o5 := Inv.put o0 e3 0 9 (by omega) (by decide)
  refine r_aload_n 0 C dX1_lay_8 rfl ?_
  refine r_aload_n 1 C dX1_lay_9 rfl ?_
  refine gfX1_38 (v := (wI w 3 1)) C (kS sC h4 kc_3) (g_nn e3 (by decide) rfl) dX1_lay_10 ?_
  have b6 := Inv.get o0 rt_3_1 (j := 1) (by decide) (by decide)
  refine pfX1_41 C (kS sC h4 kc_28) dX1_lay_13 (fun w7 e8 => ?_)
  have h9 := Ch.putF h4 e8 (by decide)
  have o10 := Inv.put o5 e8 0 9 (by omega) (by decide)
  refine r_aload_n 0 C dX1_lay_16 rfl ?_
  refine r_aload_n 0 C dX1_lay_17 rfl ?_
  refine gfX1_37 (v := (wI w 3 0)) C (kS sC h9 kc_28) (g_nk e8 (by decide) (g_eq e3)) dX1_lay_18 ?_
  refine r_aload_n 0 C dX1_lay_21 rfl ?_
  refine gfX1_41 (v := (wI w 3 1)) C (kS sC h9 kc_28) (g_eq e8) dX1_lay_22 ?_
  refine r_imul C dX1_lay_25 (fun v11 e12 => ?_)
  have v11' := imul_rng e12 (A := 9) (B := 9) (by omega) (by omega) (by decide)
  refine r_bipush (v := 42) C dX1_lay_26 (by decide) ?_
  refine r_mmin C mw2_153 mw2_154 mw1_12 mw2_155 (by decide) (Nat.le_of_ble_eq_true rfl) (by decide) (by decide) dX1_lay_28 (fun v13 e14 => ?_)
  have v13' := imin_ok e14
  refine pfX1_48 C (kS sC h9 kc_28) dX1_lay_31 (fun w15 e16 => ?_)
  have h17 := Ch.putF h9 e16 (by decide)
  have o18 := Inv.put o10 e16 0 42 (by omega) (by decide)
  refine r_iconst (v := 0) C dX1_lay_34 (by decide) ?_
  refine r_istore_n [(2, .int 0), (0, .ref (gz (xG x) + 28)), (1, .ref (gz (xG x) + 3))] C dX1_lay_35 (by decide) rfl ?_
  refine r_lv [1, 2, 0] rfl ?_
  exact LP20 4294967296 0 w15 h17 o18 (by omega) (by omega)
set_option maxHeartbeats 4000000 in
set_option maxRecDepth 100000 in
theorem ctX1_put_28 (l : Launch) (G : Gt) (w : Wv) (sC : Str KC XC w) (o0 : Inv RC w) (a1 : Int32) (a2 : Int32) : CtV l G yX1_put cX1_put 3 ({ frames := 1, cells := 0, slots := 0, locals := 21 } : Room) [.ref (gz G + 28), .int a1, .int a2] w (fun w' => Ch [29, 33] [] w w' ∧ Inv RC w') := by
  refine enterV (by decide) (Nat.le_of_ble_eq_true rfl) ?_
  intro x el eG C hnm hret
  subst el; subst eG
  show V x 0 0 w 0 [(0, .ref (gz (xG x) + 28)), (1, .int a1), (2, .int a2)] []
  have h0 : Ch [29, 33] [] w w := Ch.rf
  have q0 : (0 : Int32).toInt = 0 := by decide
  refine r_iload_n 1 C dX1_put_0 rfl ?_
  refine callSI C cwX1_65_S (ctX1_isCell _ _ w a1 ) (by decide) rfl rfl (Nat.le_of_ble_eq_true rfl) (by decide) dX1_put_1 (fun r3 w2 y1 => ?_)
  obtain ⟨rfl, g4⟩ := y1
  show V x 0 0 w 4 [(0, .ref (gz (xG x) + 28)), (1, .int a1), (2, .int a2)] [.int r3]
  refine r_if_eq 18 C dX1_put_4 (by decide) (fun c5 => ?_) (fun c5 => ?_)
  · have c5' := i_eq c5
    exact hret _ _ _ dX1_put_18 ⟨h0, o0⟩
  · have c5' := i_ne c5
    refine r_aload_n 0 C dX1_put_7 rfl ?_
    refine gfX1_9 29 C (kS sC h0 kc_28) (xS sC h0 xc_28_1) dX1_put_8 ?_
    refine r_iload_n 1 C dX1_put_11 rfl ?_
    refine r_iload_n 2 C dX1_put_12 rfl ?_
    refine r_iast C (kS sC h0 kc_29) (vin (by omega) (by omega)) dX1_put_13 (fun w6 e7 => ?_)
    have h8 := Ch.putS h0 e7 (by decide)
    have o9 := Inv.put0 o0 e7 (by decide)
    refine r_aload_n 0 C dX1_put_14 rfl ?_
    refine callVV C cwX1_62_V (ctX1_forgetWays_28 _ _ w6 (sS sC h8) o9  ) (by decide) (kS sC h8 kc_28) rfl rfl rfl (Nat.le_of_ble_eq_true rfl) (by decide) dX1_put_15 (fun w11 y10 => ?_)
    show V x 0 0 w11 18 [(0, .ref (gz (xG x) + 28)), (1, .int a1), (2, .int a2)] []
    obtain ⟨h13, o14⟩ := y10
    have h15 := Ch.tr h8 h13 (by decide) (by decide)
    exact hret _ _ _ dX1_put_18 ⟨h15, o14⟩
set_option maxHeartbeats 4000000 in
set_option maxRecDepth 100000 in
theorem ctX1_findWays_28 (l : Launch) (G : Gt) (w : Wv) (sC : Str KC XC w) (o0 : Inv RC w) (a1 : Int32) (b1 : 0 ≤ a1.toInt ∧ a1.toInt ≤ 41) : CtV l G yX1_findWays cX1_findWays 9 ({ frames := 0, cells := 0, slots := 0, locals := 0 } : Room) [.ref (gz G + 28), .int a1] w (fun w' => Ch [32, 33, 34] [] w w' ∧ Inv RC w') := by
  refine enterV (by decide) (Nat.le_of_ble_eq_true rfl) ?_
  intro x el eG C hnm hret
  subst el; subst eG
  show V x 0 0 w 0 [(0, .ref (gz (xG x) + 28)), (1, .int a1)] []
  have h0 : Ch [32, 33, 34] [] w w := Ch.rf
  have qm1 : ((-1) : Int32).toInt = (-1) := by decide
  have q0 : (0 : Int32).toInt = 0 := by decide
  have q1 : (1 : Int32).toInt = 1 := by decide
  have q4 : (4 : Int32).toInt = 4 := by decide
  have q42 : (42 : Int32).toInt = 42 := by decide
  have LP6 : ∀ (f7 : Nat) (u4 : Int32) (u5 : Int32) (w8 : Wv), Ch [32, 33, 34] [] w w8 → Inv RC w8 → (0 ≤ u4.toInt ∧ u4.toInt ≤ 1722) → (0 ≤ u5.toInt ∧ u5.toInt ≤ 2147483647) → 2147483647 - u5.toInt < f7 → V x 0 0 w8 7 [(0, .ref (gz (xG x) + 28)), (1, .int a1), (2, .int u4), (3, .int u5)] [] := by
    intro f7
    induction f7 with
    | zero => intro u4 u5 w8 h9 o10 z11 z12 z13; exfalso; omega
    | succ f7 ih14 =>
      intro u4 u5 w8 h9 o10 z11 z12 z13
      have LP36 : ∀ (f37 : Nat) (u33 : Int32) (u34 : Int32) (u35 : Int32) (w38 : Wv), Ch [32, 33, 34] [] w w38 → Inv RC w38 → (0 ≤ u33.toInt ∧ u33.toInt ≤ 1722) → (0 ≤ u34.toInt ∧ u34.toInt ≤ 42) → (0 ≤ u35.toInt ∧ u35.toInt ≤ 2147483647) → 2147483647 - u35.toInt < f37 → V x 0 0 w38 72 [(0, .ref (gz (xG x) + 28)), (1, .int a1), (2, .int u33), (3, .int u34), (4, .int u35)] [] := by
        intro f37
        induction f37 with
        | zero => intro u33 u34 u35 w38 h39 o40 z41 z42 z43 z44; exfalso; omega
        | succ f37 ih45 =>
          intro u33 u34 u35 w38 h39 o40 z41 z42 z43 z44
          have LP55 : ∀ (f56 : Nat) (u50 : Int32) (u51 : Int32) (u52 : Int32) (u53 : Int32) (u54 : Int32) (w57 : Wv), Ch [32, 33, 34] [] w w57 → Inv RC w57 → (0 ≤ u50.toInt ∧ u50.toInt ≤ 1722) → (0 ≤ u51.toInt ∧ u51.toInt ≤ 42) → (0 ≤ u52.toInt ∧ u52.toInt ≤ 41) → (0 ≤ u53.toInt ∧ u53.toInt ≤ 41) → (0 ≤ u54.toInt ∧ u54.toInt ≤ 2147483647) → 2147483647 - u54.toInt < f56 → V x 0 0 w57 97 [(0, .ref (gz (xG x) + 28)), (1, .int a1), (2, .int u50), (3, .int u51), (4, .int u52), (5, .int u53), (6, .int u54)] [] := by
            intro f56
            induction f56 with
            | zero => intro u50 u51 u52 u53 u54 w57 h58 o59 z60 z61 z62 z63 z64 z65; exfalso; omega
            | succ f56 ih66 =>
              intro u50 u51 u52 u53 u54 w57 h58 o59 z60 z61 z62 z63 z64 z65
              refine r_iload 6 C dX1_findWays_97 rfl ?_
              refine r_iconst (v := 4) C dX1_findWays_99 (by decide) ?_
              refine r_icmp_ge 208 C dX1_findWays_100 (by decide) (fun c67 => ?_) (fun c67 => ?_)
              · have c67' := i_le c67
                obtain ⟨i68, e69⟩ : ∃ z : Int32, u52 + Int32.ofInt 1 = z := ⟨_, rfl⟩
                have i68' := iinc_ok e69 (by decide) (by omega) (by omega)
                refine r_iinc [(4, .int i68), (0, .ref (gz (xG x) + 28)), (1, .int a1), (2, .int u50), (3, .int u51), (5, .int u53), (6, .int u54)] 4 C dX1_findWays_208 rfl e69 (by decide) rfl ?_
                refine r_goto 72 C dX1_findWays_211 (by decide) ?_
                refine r_lv [1, 2, 3, 4, 0] rfl ?_
                exact ih45 u50 u51 i68 w57 h58 o59 (by omega) (by omega) (by omega) (by omega)
              · have c67' := i_nle c67
                refine r_aload_n 0 C dX1_findWays_103 rfl ?_
                refine gfX1_18 31 C (kS sC h58 kc_28) (xS sC h58 xc_28_5) dX1_findWays_104 ?_
                refine r_iload 5 C dX1_findWays_107 rfl ?_
                refine r_iconst (v := 4) C dX1_findWays_109 (by decide) ?_
                refine r_imul C dX1_findWays_110 (fun v70 e71 => ?_)
                have k72 : (4 : Int32).toInt = 4 := by omega
                have v70' := imul_ok e71 (by rw [k72]; omega) (by rw [k72]; omega)
                rw [k72] at v70'
                refine r_iload 6 C dX1_findWays_111 rfl ?_
                refine r_iadd C dX1_findWays_113 (fun v73 e74 => ?_)
                have v73' := iadd_ok e74 (by omega) (by omega)
                refine r_iald C (kS sC h58 kc_31) (vin (by omega) (by omega)) dX1_findWays_114 ?_
                generalize (wI w57 31 (v73).toNatClampNeg) = v75
                refine r_istore [(7, .int v75), (0, .ref (gz (xG x) + 28)), (1, .int a1), (2, .int u50), (3, .int u51), (4, .int u52), (5, .int u53), (6, .int u54)] C dX1_findWays_115 (by decide) rfl ?_
                refine r_iload 0 C dX1_findWays_117 rfl ?_
                refine r_if_lt 144 C dX1_findWays_119 (by decide) (fun c76 => ?_) (fun c76 => ?_)
                · have c76' := i_lt c76
                  refine r_iconst (v := 0) C dX1_findWays_144 (by decide) ?_
                  refine r_istore [(8, .int 0), (7, .int v75), (0, .ref (gz (xG x) + 28)), (1, .int a1), (2, .int u50), (3, .int u51), (4, .int u52), (5, .int u53), (6, .int u54)] C dX1_findWays_145 (by decide) rfl ?_
                  refine r_iload 0 C dX1_findWays_147 rfl ?_
                  refine r_if_eq 202 C dX1_findWays_149 (by decide) (fun c77 => ?_) (fun c77 => ?_)
                  · have c77' := i_eq c77
                    obtain ⟨i78, e79⟩ : ∃ z : Int32, u54 + Int32.ofInt 1 = z := ⟨_, rfl⟩
                    have i78' := iinc_ok e79 (by decide) (by omega) (by omega)
                    refine r_iinc [(6, .int i78), (8, .int 0), (7, .int v75), (0, .ref (gz (xG x) + 28)), (1, .int a1), (2, .int u50), (3, .int u51), (4, .int u52), (5, .int u53)] 8 C dX1_findWays_202 rfl e79 (by decide) rfl ?_
                    refine r_goto 97 C dX1_findWays_205 (by decide) ?_
                    refine r_lv [3, 4, 5, 6, 7, 8, 0] rfl ?_
                    exact ih66 u50 u51 u52 u53 i78 w57 h58 o59 (by omega) (by omega) (by omega) (by omega) (by omega) (by omega)
                  · have c77' := i_ne c77
                    exfalso; omega
                · have c76' := i_nlt c76
                  refine r_iload 0 C dX1_findWays_122 rfl ?_
                  refine r_bipush (v := 42) C dX1_findWays_124 (by decide) ?_
                  refine r_icmp_ge 144 C dX1_findWays_126 (by decide) (fun c80 => ?_) (fun c80 => ?_)
                  · have c80' := i_le c80
                    refine r_iconst (v := 0) C dX1_findWays_144 (by decide) ?_
                    refine r_istore [(8, .int 0), (7, .int v75), (0, .ref (gz (xG x) + 28)), (1, .int a1), (2, .int u50), (3, .int u51), (4, .int u52), (5, .int u53), (6, .int u54)] C dX1_findWays_145 (by decide) rfl ?_
                    refine r_iload 0 C dX1_findWays_147 rfl ?_
                    refine r_if_eq 202 C dX1_findWays_149 (by decide) (fun c81 => ?_) (fun c81 => ?_)
                    · have c81' := i_eq c81
                      obtain ⟨i82, e83⟩ : ∃ z : Int32, u54 + Int32.ofInt 1 = z := ⟨_, rfl⟩
                      have i82' := iinc_ok e83 (by decide) (by omega) (by omega)
                      refine r_iinc [(6, .int i82), (8, .int 0), (7, .int v75), (0, .ref (gz (xG x) + 28)), (1, .int a1), (2, .int u50), (3, .int u51), (4, .int u52), (5, .int u53)] 8 C dX1_findWays_202 rfl e83 (by decide) rfl ?_
                      refine r_goto 97 C dX1_findWays_205 (by decide) ?_
                      refine r_lv [3, 4, 5, 6, 7, 8, 0] rfl ?_
                      exact ih66 u50 u51 u52 u53 i82 w57 h58 o59 (by omega) (by omega) (by omega) (by omega) (by omega) (by omega)
                    · have c81' := i_ne c81
                      exfalso; omega
                  · have c80' := i_nle c80
                    refine r_aload_n 1 C dX1_findWays_129 rfl ?_
                    refine gfX1_9 29 C (kS sC h58 kc_28) (xS sC h58 xc_28_1) dX1_findWays_130 ?_
                    refine r_iload 0 C dX1_findWays_133 rfl ?_
                    refine r_iald C (kS sC h58 kc_29) (vin (by omega) (by omega)) dX1_findWays_135 ?_
                    generalize (wI w57 29 (v75).toNatClampNeg) = v84
                    refine r_iconst (v := 1) C dX1_findWays_136 (by decide) ?_
                    refine r_icmp_eq 144 C dX1_findWays_137 (by decide) (fun c85 => ?_) (fun c85 => ?_)
                    · have c85' := i_eq c85
                      refine r_iconst (v := 0) C dX1_findWays_144 (by decide) ?_
                      refine r_istore [(8, .int 0), (7, .int v75), (0, .ref (gz (xG x) + 28)), (1, .int a1), (2, .int u50), (3, .int u51), (4, .int u52), (5, .int u53), (6, .int u54)] C dX1_findWays_145 (by decide) rfl ?_
                      refine r_iload 0 C dX1_findWays_147 rfl ?_
                      refine r_if_eq 202 C dX1_findWays_149 (by decide) (fun c86 => ?_) (fun c86 => ?_)
                      · have c86' := i_eq c86
                        obtain ⟨i87, e88⟩ : ∃ z : Int32, u54 + Int32.ofInt 1 = z := ⟨_, rfl⟩
                        have i87' := iinc_ok e88 (by decide) (by omega) (by omega)
                        refine r_iinc [(6, .int i87), (8, .int 0), (7, .int v75), (0, .ref (gz (xG x) + 28)), (1, .int a1), (2, .int u50), (3, .int u51), (4, .int u52), (5, .int u53)] 8 C dX1_findWays_202 rfl e88 (by decide) rfl ?_
                        refine r_goto 97 C dX1_findWays_205 (by decide) ?_
                        refine r_lv [3, 4, 5, 6, 7, 8, 0] rfl ?_
                        exact ih66 u50 u51 u52 u53 i87 w57 h58 o59 (by omega) (by omega) (by omega) (by omega) (by omega) (by omega)
                      · have c86' := i_ne c86
                        exfalso; omega
                    · have c85' := i_ne c85
                      refine r_iconst (v := 1) C dX1_findWays_140 (by decide) ?_
                      refine r_goto 145 C dX1_findWays_141 (by decide) ?_
                      refine r_istore [(8, .int 1), (7, .int v75), (0, .ref (gz (xG x) + 28)), (1, .int a1), (2, .int u50), (3, .int u51), (4, .int u52), (5, .int u53), (6, .int u54)] C dX1_findWays_145 (by decide) rfl ?_
                      refine r_iload 0 C dX1_findWays_147 rfl ?_
                      refine r_if_eq 202 C dX1_findWays_149 (by decide) (fun c89 => ?_) (fun c89 => ?_)
                      · have c89' := i_eq c89
                        exfalso; omega
                      · have c89' := i_ne c89
                        refine r_aload_n 2 C dX1_findWays_152 rfl ?_
                        refine gfX1_21 32 C (kS sC h58 kc_28) (xS sC h58 xc_28_6) dX1_findWays_153 ?_
                        refine r_iload_n 4 C dX1_findWays_156 rfl ?_
                        refine r_iload 1 C dX1_findWays_157 rfl ?_
                        refine r_iadd C dX1_findWays_159 (fun v90 e91 => ?_)
                        have v90' := iadd_ok e91 (by omega) (by omega)
                        refine r_iald C (kS sC h58 kc_32) (vin (by omega) (by omega)) dX1_findWays_160 ?_
                        generalize (wI w57 32 (v90).toNatClampNeg) = v92
                        refine r_iconst (v := (-1)) C dX1_findWays_161 (by decide) ?_
                        refine r_icmp_ne 202 C dX1_findWays_162 (by decide) (fun c93 => ?_) (fun c93 => ?_)
                        · have c93' := i_ne c93
                          obtain ⟨i94, e95⟩ : ∃ z : Int32, u54 + Int32.ofInt 1 = z := ⟨_, rfl⟩
                          have i94' := iinc_ok e95 (by decide) (by omega) (by omega)
                          refine r_iinc [(6, .int i94), (8, .int 1), (7, .int v75), (0, .ref (gz (xG x) + 28)), (1, .int a1), (2, .int u50), (3, .int u51), (4, .int u52), (5, .int u53)] 8 C dX1_findWays_202 rfl e95 (by decide) rfl ?_
                          refine r_goto 97 C dX1_findWays_205 (by decide) ?_
                          refine r_lv [3, 4, 5, 6, 7, 8, 0] rfl ?_
                          exact ih66 u50 u51 u52 u53 i94 w57 h58 o59 (by omega) (by omega) (by omega) (by omega) (by omega) (by omega)
                        · have c93' := i_eq c93
                          refine r_iload_n 5 C dX1_findWays_165 rfl ?_
                          refine r_bipush (v := 42) C dX1_findWays_166 (by decide) ?_
                          refine r_icmp_ge 202 C dX1_findWays_168 (by decide) (fun c96 => ?_) (fun c96 => ?_)
                          · have c96' := i_le c96
                            obtain ⟨i97, e98⟩ : ∃ z : Int32, u54 + Int32.ofInt 1 = z := ⟨_, rfl⟩
                            have i97' := iinc_ok e98 (by decide) (by omega) (by omega)
                            refine r_iinc [(6, .int i97), (8, .int 1), (7, .int v75), (0, .ref (gz (xG x) + 28)), (1, .int a1), (2, .int u50), (3, .int u51), (4, .int u52), (5, .int u53)] 8 C dX1_findWays_202 rfl e98 (by decide) rfl ?_
                            refine r_goto 97 C dX1_findWays_205 (by decide) ?_
                            refine r_lv [3, 4, 5, 6, 7, 8, 0] rfl ?_
                            exact ih66 u50 u51 u52 u53 i97 w57 h58 o59 (by omega) (by omega) (by omega) (by omega) (by omega) (by omega)
                          · have c96' := i_nle c96
                            refine r_aload_n 2 C dX1_findWays_171 rfl ?_
                            refine gfX1_21 32 C (kS sC h58 kc_28) (xS sC h58 xc_28_6) dX1_findWays_172 ?_
                            refine r_iload_n 4 C dX1_findWays_175 rfl ?_
                            refine r_iload 1 C dX1_findWays_176 rfl ?_
                            refine r_iadd C dX1_findWays_178 (fun v99 e100 => ?_)
                            have v99' := iadd_ok e100 (by omega) (by omega)
                            refine r_aload_n 2 C dX1_findWays_179 rfl ?_
                            refine gfX1_21 32 C (kS sC h58 kc_28) (xS sC h58 xc_28_6) dX1_findWays_180 ?_
                            refine r_iload_n 4 C dX1_findWays_183 rfl ?_
                            refine r_iload 7 C dX1_findWays_184 rfl ?_
                            refine r_iadd C dX1_findWays_186 (fun v101 e102 => ?_)
                            have v101' := iadd_ok e102 (by omega) (by omega)
                            refine r_iald C (kS sC h58 kc_32) (vin (by omega) (by omega)) dX1_findWays_187 ?_
                            generalize (wI w57 32 (v101).toNatClampNeg) = v103
                            refine r_iconst (v := 1) C dX1_findWays_188 (by decide) ?_
                            refine r_iadd C dX1_findWays_189 (fun v104 e105 => ?_)
                            refine r_iast C (kS sC h58 kc_32) (vin (by omega) (by omega)) dX1_findWays_190 (fun w106 e107 => ?_)
                            have h108 := Ch.putS h58 e107 (by decide)
                            have o109 := Inv.put0 o59 e107 (by decide)
                            refine r_aload_n 2 C dX1_findWays_191 rfl ?_
                            refine gfX1_28 34 C (kS sC h108 kc_28) (xS sC h108 xc_28_8) dX1_findWays_192 ?_
                            refine r_iload_n 5 C dX1_findWays_195 rfl ?_
                            refine r_iload 1 C dX1_findWays_196 rfl ?_
                            refine r_iast C (kS sC h108 kc_34) (vin (by omega) (by omega)) dX1_findWays_198 (fun w110 e111 => ?_)
                            have h112 := Ch.putS h108 e111 (by decide)
                            have o113 := Inv.putR o109 e111 0 41 (by omega) (by omega) 0 41 (by omega) (by decide)
                            obtain ⟨i114, e115⟩ : ∃ z : Int32, u51 + Int32.ofInt 1 = z := ⟨_, rfl⟩
                            have i114' := iinc_ok e115 (by decide) (by omega) (by omega)
                            refine r_iinc [(3, .int i114), (8, .int 1), (7, .int v75), (0, .ref (gz (xG x) + 28)), (1, .int a1), (2, .int u50), (4, .int u52), (5, .int u53), (6, .int u54)] 5 C dX1_findWays_199 rfl e115 (by decide) rfl ?_
                            obtain ⟨i116, e117⟩ : ∃ z : Int32, u54 + Int32.ofInt 1 = z := ⟨_, rfl⟩
                            have i116' := iinc_ok e117 (by decide) (by omega) (by omega)
                            refine r_iinc [(6, .int i116), (3, .int i114), (8, .int 1), (7, .int v75), (0, .ref (gz (xG x) + 28)), (1, .int a1), (2, .int u50), (4, .int u52), (5, .int u53)] 8 C dX1_findWays_202 rfl e117 (by decide) rfl ?_
                            refine r_goto 97 C dX1_findWays_205 (by decide) ?_
                            refine r_lv [4, 5, 6, 1, 7, 8, 0] rfl ?_
                            exact ih66 u50 i114 u52 u53 i116 w110 h112 o113 (by omega) (by omega) (by omega) (by omega) (by omega) (by omega)
          refine r_iload 4 C dX1_findWays_72 rfl ?_
          refine r_iload_n 3 C dX1_findWays_74 rfl ?_
          refine r_icmp_ge 214 C dX1_findWays_75 (by decide) (fun c46 => ?_) (fun c46 => ?_)
          · have c46' := i_le c46
            exact hret _ _ _ dX1_findWays_214 ⟨h39, o40⟩
          · have c46' := i_nle c46
            refine r_iload 4 C dX1_findWays_78 rfl ?_
            refine r_bipush (v := 42) C dX1_findWays_80 (by decide) ?_
            refine r_icmp_ge 214 C dX1_findWays_82 (by decide) (fun c47 => ?_) (fun c47 => ?_)
            · have c47' := i_le c47
              exfalso; omega
            · have c47' := i_nle c47
              refine r_aload_n 0 C dX1_findWays_85 rfl ?_
              refine gfX1_28 34 C (kS sC h39 kc_28) (xS sC h39 xc_28_8) dX1_findWays_86 ?_
              refine r_iload 4 C dX1_findWays_89 rfl ?_
              refine r_iald C (kS sC h39 kc_34) (vin (by omega) (by omega)) dX1_findWays_91 ?_
              have b49 := Inv.geta o40 rt_34_0 (i := u35) (by omega) (by omega) (by omega)
              generalize (wI w38 34 (u35).toNatClampNeg) = v48 at b49 ⊢
              refine r_istore [(5, .int v48), (0, .ref (gz (xG x) + 28)), (1, .int a1), (2, .int u33), (3, .int u34), (4, .int u35)] C dX1_findWays_92 (by decide) rfl ?_
              refine r_iconst (v := 0) C dX1_findWays_94 (by decide) ?_
              refine r_istore [(6, .int 0), (5, .int v48), (0, .ref (gz (xG x) + 28)), (1, .int a1), (2, .int u33), (3, .int u34), (4, .int u35)] C dX1_findWays_95 (by decide) rfl ?_
              refine r_lv [2, 3, 4, 5, 6, 1, 0] rfl ?_
              exact LP55 4294967296 u33 u34 u35 v48 0 w38 h39 o40 (by omega) (by omega) (by omega) (by omega) (by omega) (by omega)
      refine r_iload_n 3 C dX1_findWays_7 rfl ?_
      refine r_aload_n 0 C dX1_findWays_8 rfl ?_
      refine gfX1_48 (v := (wI w 28 0)) C (kS sC h9 kc_28) (h9.I (by decide) (by decide) rfl) dX1_findWays_9 ?_
      have b15 := Inv.get o0 rt_28_0 (j := 0) (by decide) (by decide)
      refine r_icmp_ge 30 C dX1_findWays_12 (by decide) (fun c16 => ?_) (fun c16 => ?_)
      · have c16' := i_le c16
        refine r_aload_n 0 C dX1_findWays_30 rfl ?_
        refine gfX1_21 32 C (kS sC h9 kc_28) (xS sC h9 xc_28_6) dX1_findWays_31 ?_
        refine r_iload_n 2 C dX1_findWays_34 rfl ?_
        refine r_iload_n 1 C dX1_findWays_35 rfl ?_
        refine r_iadd C dX1_findWays_36 (fun v17 e18 => ?_)
        have v17' := iadd_ok e18 (by omega) (by omega)
        refine r_iconst (v := 0) C dX1_findWays_37 (by decide) ?_
        refine r_iast C (kS sC h9 kc_32) (vin (by omega) (by omega)) dX1_findWays_38 (fun w19 e20 => ?_)
        have h21 := Ch.putS h9 e20 (by decide)
        have o22 := Inv.put0 o10 e20 (by decide)
        refine r_aload_n 0 C dX1_findWays_39 rfl ?_
        refine gfX1_24 33 C (kS sC h21 kc_28) (xS sC h21 xc_28_7) dX1_findWays_40 ?_
        refine r_iload_n 1 C dX1_findWays_43 rfl ?_
        refine r_iconst (v := 1) C dX1_findWays_44 (by decide) ?_
        refine r_zast C (kS sC h21 kc_33) (vin (by omega) (by omega)) (nar_z (z_of (by omega))) dX1_findWays_45 (fun w23 e24 => ?_)
        have h25 := Ch.putS h21 e24 (by decide)
        have o26 := Inv.put0 o22 e24 (by decide)
        refine r_aload_n 0 C dX1_findWays_46 rfl ?_
        refine gfX1_28 34 C (kS sC h25 kc_28) (xS sC h25 xc_28_8) dX1_findWays_47 ?_
        refine r_iconst (v := 0) C dX1_findWays_50 (by decide) ?_
        refine r_iload_n 1 C dX1_findWays_51 rfl ?_
        refine r_iast C (kS sC h25 kc_34) (vin (by omega) (by omega)) dX1_findWays_52 (fun w27 e28 => ?_)
        have h29 := Ch.putS h25 e28 (by decide)
        have o30 := Inv.putR o26 e28 0 0 (by omega) (by omega) 0 41 (by omega) (by decide)
        refine r_aload_n 0 C dX1_findWays_53 rfl ?_
        refine gfX1_9 29 C (kS sC h29 kc_28) (xS sC h29 xc_28_1) dX1_findWays_54 ?_
        refine r_iload_n 1 C dX1_findWays_57 rfl ?_
        refine r_iald C (kS sC h29 kc_29) (vin (by omega) (by omega)) dX1_findWays_58 ?_
        generalize (wI w27 29 (a1).toNatClampNeg) = v31
        refine r_iconst (v := 1) C dX1_findWays_59 (by decide) ?_
        refine r_icmp_ne 67 C dX1_findWays_60 (by decide) (fun c32 => ?_) (fun c32 => ?_)
        · have c32' := i_ne c32
          refine r_iconst (v := 1) C dX1_findWays_67 (by decide) ?_
          refine r_istore_n [(3, .int 1), (0, .ref (gz (xG x) + 28)), (1, .int a1), (2, .int u4)] C dX1_findWays_68 (by decide) rfl ?_
          refine r_iconst (v := 0) C dX1_findWays_69 (by decide) ?_
          refine r_istore [(4, .int 0), (3, .int 1), (0, .ref (gz (xG x) + 28)), (1, .int a1), (2, .int u4)] C dX1_findWays_70 (by decide) rfl ?_
          refine r_lv [2, 3, 4, 1, 0] rfl ?_
          exact LP36 4294967296 u4 1 0 w27 h29 o30 (by omega) (by omega) (by omega) (by omega)
        · have c32' := i_eq c32
          refine r_iconst (v := 0) C dX1_findWays_63 (by decide) ?_
          refine r_goto 68 C dX1_findWays_64 (by decide) ?_
          refine r_istore_n [(3, .int 0), (0, .ref (gz (xG x) + 28)), (1, .int a1), (2, .int u4)] C dX1_findWays_68 (by decide) rfl ?_
          refine r_iconst (v := 0) C dX1_findWays_69 (by decide) ?_
          refine r_istore [(4, .int 0), (3, .int 0), (0, .ref (gz (xG x) + 28)), (1, .int a1), (2, .int u4)] C dX1_findWays_70 (by decide) rfl ?_
          refine r_lv [2, 3, 4, 1, 0] rfl ?_
          exact LP36 4294967296 u4 0 0 w27 h29 o30 (by omega) (by omega) (by omega) (by omega)
      · have c16' := i_nle c16
        refine r_aload_n 0 C dX1_findWays_15 rfl ?_
        refine gfX1_21 32 C (kS sC h9 kc_28) (xS sC h9 xc_28_6) dX1_findWays_16 ?_
        refine r_iload_n 2 C dX1_findWays_19 rfl ?_
        refine r_iload_n 3 C dX1_findWays_20 rfl ?_
        refine r_iadd C dX1_findWays_21 (fun v118 e119 => ?_)
        have v118' := iadd_ok e119 (by omega) (by omega)
        refine r_iconst (v := (-1)) C dX1_findWays_22 (by decide) ?_
        refine r_iast C (kS sC h9 kc_32) (vin (by omega) (by omega)) dX1_findWays_23 (fun w120 e121 => ?_)
        have h122 := Ch.putS h9 e121 (by decide)
        have o123 := Inv.put0 o10 e121 (by decide)
        obtain ⟨i124, e125⟩ : ∃ z : Int32, u5 + Int32.ofInt 1 = z := ⟨_, rfl⟩
        have i124' := iinc_ok e125 (by decide) (by omega) (by omega)
        refine r_iinc [(3, .int i124), (0, .ref (gz (xG x) + 28)), (1, .int a1), (2, .int u4)] 3 C dX1_findWays_24 rfl e125 (by decide) rfl ?_
        refine r_goto 7 C dX1_findWays_27 (by decide) ?_
        refine r_lv [1, 2, 3, 0] rfl ?_
        exact ih14 u4 i124 w120 h122 o123 (by omega) (by omega) (by omega)
  refine r_iload_n 1 C dX1_findWays_0 rfl ?_
  refine r_bipush (v := 42) C dX1_findWays_1 (by decide) ?_
  refine r_imul C dX1_findWays_3 (fun v1 e2 => ?_)
  have k3 : (42 : Int32).toInt = 42 := by omega
  have v1' := imul_ok e2 (by rw [k3]; omega) (by rw [k3]; omega)
  rw [k3] at v1'
  refine r_istore_n [(2, .int v1), (0, .ref (gz (xG x) + 28)), (1, .int a1)] C dX1_findWays_4 (by decide) rfl ?_
  refine r_iconst (v := 0) C dX1_findWays_5 (by decide) ?_
  refine r_istore_n [(3, .int 0), (2, .int v1), (0, .ref (gz (xG x) + 28)), (1, .int a1)] C dX1_findWays_6 (by decide) rfl ?_
  refine r_lv [2, 3, 1, 0] rfl ?_
  exact LP6 4294967296 v1 0 w h0 o0 (by omega) (by omega) (by omega)
set_option maxHeartbeats 4000000 in
set_option maxRecDepth 100000 in
theorem ctX1_what_28 (l : Launch) (G : Gt) (w : Wv) (sC : Str KC XC w) (o0 : Inv RC w) (a1 : Int32) : CtI l G yX1_what cX1_what 2 .int ({ frames := 0, cells := 0, slots := 0, locals := 0 } : Room) [.ref (gz G + 28), .int a1] w (fun r w' => Ch [] [] w w' ∧ Inv RC w') := by
  refine enterI (by decide) (Nat.le_of_ble_eq_true rfl) ?_
  intro x el eG C hret
  subst el; subst eG
  show V x 0 0 w 0 [(0, .ref (gz (xG x) + 28)), (1, .int a1)] []
  have h0 : Ch [] [] w w := Ch.rf
  have q0 : (0 : Int32).toInt = 0 := by decide
  have q1 : (1 : Int32).toInt = 1 := by decide
  have q42 : (42 : Int32).toInt = 42 := by decide
  refine r_iload_n 1 C dX1_what_0 rfl ?_
  refine r_if_lt 19 C dX1_what_1 (by decide) (fun c1 => ?_) (fun c1 => ?_)
  · have c1' := i_lt c1
    refine r_iconst (v := 1) C dX1_what_19 (by decide) ?_
    exact hret _ _ _ _ dX1_what_20 rfl ⟨h0, o0⟩
  · have c1' := i_nlt c1
    refine r_iload_n 1 C dX1_what_4 rfl ?_
    refine r_bipush (v := 42) C dX1_what_5 (by decide) ?_
    refine r_icmp_ge 19 C dX1_what_7 (by decide) (fun c2 => ?_) (fun c2 => ?_)
    · have c2' := i_le c2
      refine r_iconst (v := 1) C dX1_what_19 (by decide) ?_
      exact hret _ _ _ _ dX1_what_20 rfl ⟨h0, o0⟩
    · have c2' := i_nle c2
      refine r_aload_n 0 C dX1_what_10 rfl ?_
      refine gfX1_9 29 C (kS sC h0 kc_28) (xS sC h0 xc_28_1) dX1_what_11 ?_
      refine r_iload_n 1 C dX1_what_14 rfl ?_
      refine r_iald C (kS sC h0 kc_29) (vin (by omega) (by omega)) dX1_what_15 ?_
      generalize (wI w 29 (a1).toNatClampNeg) = v3
      refine r_goto 20 C dX1_what_16 (by decide) ?_
      exact hret _ _ _ _ dX1_what_20 rfl ⟨h0, o0⟩
set_option maxHeartbeats 4000000 in
set_option maxRecDepth 100000 in
theorem ctX1_beside_28 (l : Launch) (G : Gt) (w : Wv) (sC : Str KC XC w) (o0 : Inv RC w) (a1 : Int32) (a2 : Int32) : CtI l G yX1_beside cX1_beside 4 .int ({ frames := 0, cells := 0, slots := 0, locals := 0 } : Room) [.ref (gz G + 28), .int a1, .int a2] w (fun r w' => Ch [] [] w w' ∧ Inv RC w') := by
  refine enterI (by decide) (Nat.le_of_ble_eq_true rfl) ?_
  intro x el eG C hret
  subst el; subst eG
  show V x 0 0 w 0 [(0, .ref (gz (xG x) + 28)), (1, .int a1), (2, .int a2)] []
  have h0 : Ch [] [] w w := Ch.rf
  have qm1 : ((-1) : Int32).toInt = (-1) := by decide
  have q0 : (0 : Int32).toInt = 0 := by decide
  have q1 : (1 : Int32).toInt = 1 := by decide
  have q4 : (4 : Int32).toInt = 4 := by decide
  have q42 : (42 : Int32).toInt = 42 := by decide
  refine r_iload_n 1 C dX1_beside_0 rfl ?_
  refine r_if_lt 24 C dX1_beside_1 (by decide) (fun c1 => ?_) (fun c1 => ?_)
  · have c1' := i_lt c1
    refine r_iconst (v := 0) C dX1_beside_24 (by decide) ?_
    refine r_istore_n [(3, .int 0), (0, .ref (gz (xG x) + 28)), (1, .int a1), (2, .int a2)] C dX1_beside_25 (by decide) rfl ?_
    refine r_iload_n 0 C dX1_beside_26 rfl ?_
    refine r_if_eq 45 C dX1_beside_27 (by decide) (fun c2 => ?_) (fun c2 => ?_)
    · have c2' := i_eq c2
      refine r_iconst (v := (-1)) C dX1_beside_45 (by decide) ?_
      exact hret _ _ _ _ dX1_beside_46 rfl ⟨h0, o0⟩
    · have c2' := i_ne c2
      exfalso; omega
  · have c1' := i_nlt c1
    refine r_iload_n 1 C dX1_beside_4 rfl ?_
    refine r_bipush (v := 42) C dX1_beside_5 (by decide) ?_
    refine r_icmp_ge 24 C dX1_beside_7 (by decide) (fun c3 => ?_) (fun c3 => ?_)
    · have c3' := i_le c3
      refine r_iconst (v := 0) C dX1_beside_24 (by decide) ?_
      refine r_istore_n [(3, .int 0), (0, .ref (gz (xG x) + 28)), (1, .int a1), (2, .int a2)] C dX1_beside_25 (by decide) rfl ?_
      refine r_iload_n 0 C dX1_beside_26 rfl ?_
      refine r_if_eq 45 C dX1_beside_27 (by decide) (fun c4 => ?_) (fun c4 => ?_)
      · have c4' := i_eq c4
        refine r_iconst (v := (-1)) C dX1_beside_45 (by decide) ?_
        exact hret _ _ _ _ dX1_beside_46 rfl ⟨h0, o0⟩
      · have c4' := i_ne c4
        exfalso; omega
    · have c3' := i_nle c3
      refine r_iload_n 2 C dX1_beside_10 rfl ?_
      refine r_iconst (v := 1) C dX1_beside_11 (by decide) ?_
      refine r_icmp_lt 24 C dX1_beside_12 (by decide) (fun c5 => ?_) (fun c5 => ?_)
      · have c5' := i_lt c5
        refine r_iconst (v := 0) C dX1_beside_24 (by decide) ?_
        refine r_istore_n [(3, .int 0), (0, .ref (gz (xG x) + 28)), (1, .int a1), (2, .int a2)] C dX1_beside_25 (by decide) rfl ?_
        refine r_iload_n 0 C dX1_beside_26 rfl ?_
        refine r_if_eq 45 C dX1_beside_27 (by decide) (fun c6 => ?_) (fun c6 => ?_)
        · have c6' := i_eq c6
          refine r_iconst (v := (-1)) C dX1_beside_45 (by decide) ?_
          exact hret _ _ _ _ dX1_beside_46 rfl ⟨h0, o0⟩
        · have c6' := i_ne c6
          exfalso; omega
      · have c5' := i_nlt c5
        refine r_iload_n 2 C dX1_beside_15 rfl ?_
        refine r_iconst (v := 4) C dX1_beside_16 (by decide) ?_
        refine r_icmp_gt 24 C dX1_beside_17 (by decide) (fun c7 => ?_) (fun c7 => ?_)
        · have c7' := i_lt c7
          refine r_iconst (v := 0) C dX1_beside_24 (by decide) ?_
          refine r_istore_n [(3, .int 0), (0, .ref (gz (xG x) + 28)), (1, .int a1), (2, .int a2)] C dX1_beside_25 (by decide) rfl ?_
          refine r_iload_n 0 C dX1_beside_26 rfl ?_
          refine r_if_eq 45 C dX1_beside_27 (by decide) (fun c8 => ?_) (fun c8 => ?_)
          · have c8' := i_eq c8
            refine r_iconst (v := (-1)) C dX1_beside_45 (by decide) ?_
            exact hret _ _ _ _ dX1_beside_46 rfl ⟨h0, o0⟩
          · have c8' := i_ne c8
            exfalso; omega
        · have c7' := i_nlt c7
          refine r_iconst (v := 1) C dX1_beside_20 (by decide) ?_
          refine r_goto 25 C dX1_beside_21 (by decide) ?_
          refine r_istore_n [(3, .int 1), (0, .ref (gz (xG x) + 28)), (1, .int a1), (2, .int a2)] C dX1_beside_25 (by decide) rfl ?_
          refine r_iload_n 0 C dX1_beside_26 rfl ?_
          refine r_if_eq 45 C dX1_beside_27 (by decide) (fun c9 => ?_) (fun c9 => ?_)
          · have c9' := i_eq c9
            exfalso; omega
          · have c9' := i_ne c9
            refine r_aload_n 1 C dX1_beside_30 rfl ?_
            refine gfX1_18 31 C (kS sC h0 kc_28) (xS sC h0 xc_28_5) dX1_beside_31 ?_
            refine r_iload_n 2 C dX1_beside_34 rfl ?_
            refine r_iconst (v := 4) C dX1_beside_35 (by decide) ?_
            refine r_imul C dX1_beside_36 (fun v10 e11 => ?_)
            have k12 : (4 : Int32).toInt = 4 := by omega
            have v10' := imul_ok e11 (by rw [k12]; omega) (by rw [k12]; omega)
            rw [k12] at v10'
            refine r_iload_n 3 C dX1_beside_37 rfl ?_
            refine r_iadd C dX1_beside_38 (fun v13 e14 => ?_)
            have v13' := iadd_ok e14 (by omega) (by omega)
            refine r_iconst (v := 1) C dX1_beside_39 (by decide) ?_
            refine r_isub C dX1_beside_40 (fun v15 e16 => ?_)
            have v15' := isub_ok e16 (by omega) (by omega)
            refine r_iald C (kS sC h0 kc_31) (vin (by omega) (by omega)) dX1_beside_41 ?_
            generalize (wI w 31 (v15).toNatClampNeg) = v17
            refine r_goto 46 C dX1_beside_42 (by decide) ?_
            exact hret _ _ _ _ dX1_beside_46 rfl ⟨h0, o0⟩
set_option maxHeartbeats 4000000 in
set_option maxRecDepth 100000 in
theorem ctX1_steps_28 (l : Launch) (G : Gt) (w : Wv) (sC : Str KC XC w) (o0 : Inv RC w) (a1 : Int32) (a2 : Int32) : CtI l G yX1_steps cX1_steps 3 .int ({ frames := 1, cells := 0, slots := 0, locals := 28 } : Room) [.ref (gz G + 28), .int a1, .int a2] w (fun r w' => Ch [32, 33, 34] [] w w' ∧ Inv RC w') := by
  refine enterI (by decide) (Nat.le_of_ble_eq_true rfl) ?_
  intro x el eG C hret
  subst el; subst eG
  show V x 0 0 w 0 [(0, .ref (gz (xG x) + 28)), (1, .int a1), (2, .int a2)] []
  have h0 : Ch [32, 33, 34] [] w w := Ch.rf
  have qm1 : ((-1) : Int32).toInt = (-1) := by decide
  have q0 : (0 : Int32).toInt = 0 := by decide
  have q42 : (42 : Int32).toInt = 42 := by decide
  refine r_iload_n 1 C dX1_steps_0 rfl ?_
  refine r_if_lt 20 C dX1_steps_1 (by decide) (fun c1 => ?_) (fun c1 => ?_)
  · have c1' := i_lt c1
    refine r_iconst (v := (-1)) C dX1_steps_20 (by decide) ?_
    exact hret _ _ _ _ dX1_steps_21 rfl ⟨h0, o0⟩
  · have c1' := i_nlt c1
    refine r_iload_n 1 C dX1_steps_4 rfl ?_
    refine r_bipush (v := 42) C dX1_steps_5 (by decide) ?_
    refine r_icmp_ge 20 C dX1_steps_7 (by decide) (fun c2 => ?_) (fun c2 => ?_)
    · have c2' := i_le c2
      refine r_iconst (v := (-1)) C dX1_steps_20 (by decide) ?_
      exact hret _ _ _ _ dX1_steps_21 rfl ⟨h0, o0⟩
    · have c2' := i_nle c2
      refine r_iload_n 2 C dX1_steps_10 rfl ?_
      refine r_if_lt 20 C dX1_steps_11 (by decide) (fun c3 => ?_) (fun c3 => ?_)
      · have c3' := i_lt c3
        refine r_iconst (v := (-1)) C dX1_steps_20 (by decide) ?_
        exact hret _ _ _ _ dX1_steps_21 rfl ⟨h0, o0⟩
      · have c3' := i_nlt c3
        refine r_iload_n 2 C dX1_steps_14 rfl ?_
        refine r_bipush (v := 42) C dX1_steps_15 (by decide) ?_
        refine r_icmp_lt 22 C dX1_steps_17 (by decide) (fun c4 => ?_) (fun c4 => ?_)
        · have c4' := i_lt c4
          refine r_aload_n 0 C dX1_steps_22 rfl ?_
          refine gfX1_24 33 C (kS sC h0 kc_28) (xS sC h0 xc_28_7) dX1_steps_23 ?_
          refine r_iload_n 2 C dX1_steps_26 rfl ?_
          refine r_zald C (kS sC h0 kc_33) (vin (by omega) (by omega)) dX1_steps_27 ?_
          generalize (wI w 33 (a2).toNatClampNeg) = v5
          refine r_if_ne 36 C dX1_steps_28 (by decide) (fun c6 => ?_) (fun c6 => ?_)
          · have c6' := i_ne c6
            refine r_aload_n 0 C dX1_steps_36 rfl ?_
            refine gfX1_21 32 C (kS sC h0 kc_28) (xS sC h0 xc_28_6) dX1_steps_37 ?_
            refine r_iload_n 2 C dX1_steps_40 rfl ?_
            refine r_bipush (v := 42) C dX1_steps_41 (by decide) ?_
            refine r_imul C dX1_steps_43 (fun v7 e8 => ?_)
            have k9 : (42 : Int32).toInt = 42 := by omega
            have v7' := imul_ok e8 (by rw [k9]; omega) (by rw [k9]; omega)
            rw [k9] at v7'
            refine r_iload_n 1 C dX1_steps_44 rfl ?_
            refine r_iadd C dX1_steps_45 (fun v10 e11 => ?_)
            have v10' := iadd_ok e11 (by omega) (by omega)
            refine r_iald C (kS sC h0 kc_32) (vin (by omega) (by omega)) dX1_steps_46 ?_
            generalize (wI w 32 (v10).toNatClampNeg) = v12
            exact hret _ _ _ _ dX1_steps_47 rfl ⟨h0, o0⟩
          · have c6' := i_eq c6
            refine r_aload_n 0 C dX1_steps_31 rfl ?_
            refine r_iload_n 2 C dX1_steps_32 rfl ?_
            refine callVV C cwX1_69_V (ctX1_findWays_28 _ _ w (sS sC h0) o0 a2 (by omega)) (by decide) (kS sC h0 kc_28) rfl rfl rfl (Nat.le_of_ble_eq_true rfl) (by decide) dX1_steps_33 (fun w14 y13 => ?_)
            show V x 0 0 w14 36 [(0, .ref (gz (xG x) + 28)), (1, .int a1), (2, .int a2)] []
            obtain ⟨h16, o17⟩ := y13
            have h18 := Ch.tr h0 h16 (by decide) (by decide)
            refine r_aload_n 0 C dX1_steps_36 rfl ?_
            refine gfX1_21 32 C (kS sC h18 kc_28) (xS sC h18 xc_28_6) dX1_steps_37 ?_
            refine r_iload_n 2 C dX1_steps_40 rfl ?_
            refine r_bipush (v := 42) C dX1_steps_41 (by decide) ?_
            refine r_imul C dX1_steps_43 (fun v19 e20 => ?_)
            have k21 : (42 : Int32).toInt = 42 := by omega
            have v19' := imul_ok e20 (by rw [k21]; omega) (by rw [k21]; omega)
            rw [k21] at v19'
            refine r_iload_n 1 C dX1_steps_44 rfl ?_
            refine r_iadd C dX1_steps_45 (fun v22 e23 => ?_)
            have v22' := iadd_ok e23 (by omega) (by omega)
            refine r_iald C (kS sC h18 kc_32) (vin (by omega) (by omega)) dX1_steps_46 ?_
            generalize (wI w14 32 (v22).toNatClampNeg) = v24
            exact hret _ _ _ _ dX1_steps_47 rfl ⟨h18, o17⟩
        · have c4' := i_nlt c4
          refine r_iconst (v := (-1)) C dX1_steps_20 (by decide) ?_
          exact hret _ _ _ _ dX1_steps_21 rfl ⟨h0, o0⟩
set_option maxHeartbeats 4000000 in
set_option maxRecDepth 100000 in
theorem ctX1_onward_28 (l : Launch) (G : Gt) (w : Wv) (sC : Str KC XC w) (o0 : Inv RC w) (a1 : Int32) (a2 : Int32) : CtI l G yX1_onward cX1_onward 7 .int ({ frames := 1, cells := 0, slots := 0, locals := 28 } : Room) [.ref (gz G + 28), .int a1, .int a2] w (fun r w' => Ch [32, 33, 34] [] w w' ∧ Inv RC w') := by
  refine enterI (by decide) (Nat.le_of_ble_eq_true rfl) ?_
  intro x el eG C hret
  subst el; subst eG
  show V x 0 0 w 0 [(0, .ref (gz (xG x) + 28)), (1, .int a1), (2, .int a2)] []
  have h0 : Ch [32, 33, 34] [] w w := Ch.rf
  have qm1 : ((-1) : Int32).toInt = (-1) := by decide
  have q0 : (0 : Int32).toInt = 0 := by decide
  have q1 : (1 : Int32).toInt = 1 := by decide
  have q4 : (4 : Int32).toInt = 4 := by decide
  have q42 : (42 : Int32).toInt = 42 := by decide
  have LP16 : ∀ (f17 : Nat) (u13 : Int32) (u14 : Int32) (u15 : Int32) (w18 : Wv), Ch [32, 33, 34] [] w w18 → Inv RC w18 → (0 ≤ u13.toInt ∧ u13.toInt ≤ 1722) → (0 ≤ u15.toInt ∧ u15.toInt ≤ 2147483647) → (0 ≤ a1.toInt ∧ a1.toInt ≤ 41) → (0 ≤ a2.toInt ∧ a2.toInt ≤ 41) → 2147483647 - u15.toInt < f17 → V x 0 0 w18 54 [(0, .ref (gz (xG x) + 28)), (1, .int a1), (2, .int a2), (3, .int u13), (4, .int u14), (5, .int u15)] [] := by
    intro f17
    induction f17 with
    | zero => intro u13 u14 u15 w18 h19 o20 z21 z22 z23 z24 z25; exfalso; omega
    | succ f17 ih26 =>
      intro u13 u14 u15 w18 h19 o20 z21 z22 z23 z24 z25
      refine r_iload 5 C dX1_onward_54 rfl ?_
      refine r_iconst (v := 4) C dX1_onward_56 (by decide) ?_
      refine r_icmp_ge 115 C dX1_onward_57 (by decide) (fun c27 => ?_) (fun c27 => ?_)
      · have c27' := i_le c27
        refine r_iconst (v := (-1)) C dX1_onward_115 (by decide) ?_
        exact hret _ _ _ _ dX1_onward_116 rfl ⟨h19, o20⟩
      · have c27' := i_nle c27
        refine r_iload 4 C dX1_onward_60 rfl ?_
        refine r_if_le 115 C dX1_onward_62 (by decide) (fun c28 => ?_) (fun c28 => ?_)
        · have c28' := i_le c28
          refine r_iconst (v := (-1)) C dX1_onward_115 (by decide) ?_
          exact hret _ _ _ _ dX1_onward_116 rfl ⟨h19, o20⟩
        · have c28' := i_nle c28
          refine r_aload_n 0 C dX1_onward_65 rfl ?_
          refine gfX1_18 31 C (kS sC h19 kc_28) (xS sC h19 xc_28_5) dX1_onward_66 ?_
          refine r_iload_n 1 C dX1_onward_69 rfl ?_
          refine r_iconst (v := 4) C dX1_onward_70 (by decide) ?_
          refine r_imul C dX1_onward_71 (fun v29 e30 => ?_)
          have k31 : (4 : Int32).toInt = 4 := by omega
          have v29' := imul_ok e30 (by rw [k31]; omega) (by rw [k31]; omega)
          rw [k31] at v29'
          refine r_iload 5 C dX1_onward_72 rfl ?_
          refine r_iadd C dX1_onward_74 (fun v32 e33 => ?_)
          have v32' := iadd_ok e33 (by omega) (by omega)
          refine r_iald C (kS sC h19 kc_31) (vin (by omega) (by omega)) dX1_onward_75 ?_
          generalize (wI w18 31 (v32).toNatClampNeg) = v34
          refine r_istore [(6, .int v34), (0, .ref (gz (xG x) + 28)), (1, .int a1), (2, .int a2), (3, .int u13), (4, .int u14), (5, .int u15)] C dX1_onward_76 (by decide) rfl ?_
          refine r_iload 0 C dX1_onward_78 rfl ?_
          refine r_if_lt 109 C dX1_onward_80 (by decide) (fun c35 => ?_) (fun c35 => ?_)
          · have c35' := i_lt c35
            obtain ⟨i36, e37⟩ : ∃ z : Int32, u15 + Int32.ofInt 1 = z := ⟨_, rfl⟩
            have i36' := iinc_ok e37 (by decide) (by omega) (by omega)
            refine r_iinc [(5, .int i36), (6, .int v34), (0, .ref (gz (xG x) + 28)), (1, .int a1), (2, .int a2), (3, .int u13), (4, .int u14)] 6 C dX1_onward_109 rfl e37 (by decide) rfl ?_
            refine r_goto 54 C dX1_onward_112 (by decide) ?_
            refine r_lv [2, 3, 4, 5, 6, 0] rfl ?_
            exact ih26 u13 u14 i36 w18 h19 o20 (by omega) (by omega) (by omega) (by omega) (by omega)
          · have c35' := i_nlt c35
            refine r_iload 0 C dX1_onward_83 rfl ?_
            refine r_bipush (v := 42) C dX1_onward_85 (by decide) ?_
            refine r_icmp_ge 109 C dX1_onward_87 (by decide) (fun c38 => ?_) (fun c38 => ?_)
            · have c38' := i_le c38
              obtain ⟨i39, e40⟩ : ∃ z : Int32, u15 + Int32.ofInt 1 = z := ⟨_, rfl⟩
              have i39' := iinc_ok e40 (by decide) (by omega) (by omega)
              refine r_iinc [(5, .int i39), (6, .int v34), (0, .ref (gz (xG x) + 28)), (1, .int a1), (2, .int a2), (3, .int u13), (4, .int u14)] 6 C dX1_onward_109 rfl e40 (by decide) rfl ?_
              refine r_goto 54 C dX1_onward_112 (by decide) ?_
              refine r_lv [2, 3, 4, 5, 6, 0] rfl ?_
              exact ih26 u13 u14 i39 w18 h19 o20 (by omega) (by omega) (by omega) (by omega) (by omega)
            · have c38' := i_nle c38
              refine r_aload_n 1 C dX1_onward_90 rfl ?_
              refine gfX1_21 32 C (kS sC h19 kc_28) (xS sC h19 xc_28_6) dX1_onward_91 ?_
              refine r_iload_n 4 C dX1_onward_94 rfl ?_
              refine r_iload 0 C dX1_onward_95 rfl ?_
              refine r_iadd C dX1_onward_97 (fun v41 e42 => ?_)
              have v41' := iadd_ok e42 (by omega) (by omega)
              refine r_iald C (kS sC h19 kc_32) (vin (by omega) (by omega)) dX1_onward_98 ?_
              generalize (wI w18 32 (v41).toNatClampNeg) = v43
              refine r_iload 5 C dX1_onward_99 rfl ?_
              refine r_iconst (v := 1) C dX1_onward_101 (by decide) ?_
              refine r_isub C dX1_onward_102 (fun v44 e45 => ?_)
              have v44' := isub_ok e45 (by omega) (by omega)
              refine r_icmp_ne 109 C dX1_onward_103 (by decide) (fun c46 => ?_) (fun c46 => ?_)
              · have c46' := i_ne c46
                obtain ⟨i47, e48⟩ : ∃ z : Int32, u15 + Int32.ofInt 1 = z := ⟨_, rfl⟩
                have i47' := iinc_ok e48 (by decide) (by omega) (by omega)
                refine r_iinc [(5, .int i47), (6, .int v34), (0, .ref (gz (xG x) + 28)), (1, .int a1), (2, .int a2), (3, .int u13), (4, .int u14)] 6 C dX1_onward_109 rfl e48 (by decide) rfl ?_
                refine r_goto 54 C dX1_onward_112 (by decide) ?_
                refine r_lv [2, 3, 4, 5, 6, 0] rfl ?_
                exact ih26 u13 u14 i47 w18 h19 o20 (by omega) (by omega) (by omega) (by omega) (by omega)
              · have c46' := i_eq c46
                refine r_iload 0 C dX1_onward_106 rfl ?_
                exact hret _ _ _ _ dX1_onward_108 rfl ⟨h19, o20⟩
  refine r_iload_n 1 C dX1_onward_0 rfl ?_
  refine r_if_lt 20 C dX1_onward_1 (by decide) (fun c1 => ?_) (fun c1 => ?_)
  · have c1' := i_lt c1
    refine r_iconst (v := (-1)) C dX1_onward_20 (by decide) ?_
    exact hret _ _ _ _ dX1_onward_21 rfl ⟨h0, o0⟩
  · have c1' := i_nlt c1
    refine r_iload_n 1 C dX1_onward_4 rfl ?_
    refine r_bipush (v := 42) C dX1_onward_5 (by decide) ?_
    refine r_icmp_ge 20 C dX1_onward_7 (by decide) (fun c2 => ?_) (fun c2 => ?_)
    · have c2' := i_le c2
      refine r_iconst (v := (-1)) C dX1_onward_20 (by decide) ?_
      exact hret _ _ _ _ dX1_onward_21 rfl ⟨h0, o0⟩
    · have c2' := i_nle c2
      refine r_iload_n 2 C dX1_onward_10 rfl ?_
      refine r_if_lt 20 C dX1_onward_11 (by decide) (fun c3 => ?_) (fun c3 => ?_)
      · have c3' := i_lt c3
        refine r_iconst (v := (-1)) C dX1_onward_20 (by decide) ?_
        exact hret _ _ _ _ dX1_onward_21 rfl ⟨h0, o0⟩
      · have c3' := i_nlt c3
        refine r_iload_n 2 C dX1_onward_14 rfl ?_
        refine r_bipush (v := 42) C dX1_onward_15 (by decide) ?_
        refine r_icmp_lt 22 C dX1_onward_17 (by decide) (fun c4 => ?_) (fun c4 => ?_)
        · have c4' := i_lt c4
          refine r_aload_n 0 C dX1_onward_22 rfl ?_
          refine gfX1_24 33 C (kS sC h0 kc_28) (xS sC h0 xc_28_7) dX1_onward_23 ?_
          refine r_iload_n 2 C dX1_onward_26 rfl ?_
          refine r_zald C (kS sC h0 kc_33) (vin (by omega) (by omega)) dX1_onward_27 ?_
          generalize (wI w 33 (a2).toNatClampNeg) = v5
          refine r_if_ne 36 C dX1_onward_28 (by decide) (fun c6 => ?_) (fun c6 => ?_)
          · have c6' := i_ne c6
            refine r_iload_n 2 C dX1_onward_36 rfl ?_
            refine r_bipush (v := 42) C dX1_onward_37 (by decide) ?_
            refine r_imul C dX1_onward_39 (fun v7 e8 => ?_)
            have k9 : (42 : Int32).toInt = 42 := by omega
            have v7' := imul_ok e8 (by rw [k9]; omega) (by rw [k9]; omega)
            rw [k9] at v7'
            refine r_istore_n [(3, .int v7), (0, .ref (gz (xG x) + 28)), (1, .int a1), (2, .int a2)] C dX1_onward_40 (by decide) rfl ?_
            refine r_aload_n 1 C dX1_onward_41 rfl ?_
            refine gfX1_21 32 C (kS sC h0 kc_28) (xS sC h0 xc_28_6) dX1_onward_42 ?_
            refine r_iload_n 0 C dX1_onward_45 rfl ?_
            refine r_iload_n 2 C dX1_onward_46 rfl ?_
            refine r_iadd C dX1_onward_47 (fun v10 e11 => ?_)
            have v10' := iadd_ok e11 (by omega) (by omega)
            refine r_iald C (kS sC h0 kc_32) (vin (by omega) (by omega)) dX1_onward_48 ?_
            generalize (wI w 32 (v10).toNatClampNeg) = v12
            refine r_istore [(4, .int v12), (3, .int v7), (0, .ref (gz (xG x) + 28)), (1, .int a1), (2, .int a2)] C dX1_onward_49 (by decide) rfl ?_
            refine r_iconst (v := 0) C dX1_onward_51 (by decide) ?_
            refine r_istore [(5, .int 0), (4, .int v12), (3, .int v7), (0, .ref (gz (xG x) + 28)), (1, .int a1), (2, .int a2)] C dX1_onward_52 (by decide) rfl ?_
            refine r_lv [3, 4, 5, 2, 1, 0] rfl ?_
            exact LP16 4294967296 v7 v12 0 w h0 o0 (by omega) (by omega) (by omega) (by omega) (by omega)
          · have c6' := i_eq c6
            refine r_aload_n 0 C dX1_onward_31 rfl ?_
            refine r_iload_n 2 C dX1_onward_32 rfl ?_
            refine callVV C cwX1_69_V (ctX1_findWays_28 _ _ w (sS sC h0) o0 a2 (by omega)) (by decide) (kS sC h0 kc_28) rfl rfl rfl (Nat.le_of_ble_eq_true rfl) (by decide) dX1_onward_33 (fun w50 y49 => ?_)
            show V x 0 0 w50 36 [(0, .ref (gz (xG x) + 28)), (1, .int a1), (2, .int a2)] []
            obtain ⟨h52, o53⟩ := y49
            have h54 := Ch.tr h0 h52 (by decide) (by decide)
            refine r_iload_n 2 C dX1_onward_36 rfl ?_
            refine r_bipush (v := 42) C dX1_onward_37 (by decide) ?_
            refine r_imul C dX1_onward_39 (fun v55 e56 => ?_)
            have k57 : (42 : Int32).toInt = 42 := by omega
            have v55' := imul_ok e56 (by rw [k57]; omega) (by rw [k57]; omega)
            rw [k57] at v55'
            refine r_istore_n [(3, .int v55), (0, .ref (gz (xG x) + 28)), (1, .int a1), (2, .int a2)] C dX1_onward_40 (by decide) rfl ?_
            refine r_aload_n 1 C dX1_onward_41 rfl ?_
            refine gfX1_21 32 C (kS sC h54 kc_28) (xS sC h54 xc_28_6) dX1_onward_42 ?_
            refine r_iload_n 0 C dX1_onward_45 rfl ?_
            refine r_iload_n 2 C dX1_onward_46 rfl ?_
            refine r_iadd C dX1_onward_47 (fun v58 e59 => ?_)
            have v58' := iadd_ok e59 (by omega) (by omega)
            refine r_iald C (kS sC h54 kc_32) (vin (by omega) (by omega)) dX1_onward_48 ?_
            generalize (wI w50 32 (v58).toNatClampNeg) = v60
            refine r_istore [(4, .int v60), (3, .int v55), (0, .ref (gz (xG x) + 28)), (1, .int a1), (2, .int a2)] C dX1_onward_49 (by decide) rfl ?_
            refine r_iconst (v := 0) C dX1_onward_51 (by decide) ?_
            refine r_istore [(5, .int 0), (4, .int v60), (3, .int v55), (0, .ref (gz (xG x) + 28)), (1, .int a1), (2, .int a2)] C dX1_onward_52 (by decide) rfl ?_
            refine r_lv [3, 4, 5, 2, 1, 0] rfl ?_
            exact LP16 4294967296 v55 v60 0 w50 h54 o53 (by omega) (by omega) (by omega) (by omega) (by omega)
        · have c4' := i_nlt c4
          refine r_iconst (v := (-1)) C dX1_onward_20 (by decide) ?_
          exact hret _ _ _ _ dX1_onward_21 rfl ⟨h0, o0⟩
