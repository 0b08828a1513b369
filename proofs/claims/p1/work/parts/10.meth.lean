set_option maxHeartbeats 4000000 in
set_option maxRecDepth 100000 in
theorem ctX1_isCell (l : Launch) (G : Gt) (w : Wv) (a1 : Int32) : CtI l G yX1_isCell cX1_isCell 1 .boolean ({ frames := 0, cells := 0, slots := 0, locals := 0 } : Room) [.int a1] w (fun r w' => Ch [] w w' ∧ ((0 ≤ a1.toInt ∧ a1.toInt < 42 → r.toInt = 1) ∧ (a1.toInt < 0 ∨ 42 ≤ a1.toInt → r.toInt = 0))) := by
  refine enterI (by decide) (Nat.le_of_ble_eq_true rfl) ?_
  intro x el eG C hret
  subst el; subst eG
  show V x 0 0 w 0 [(0, .int a1)] []
  have h0 : Ch [] w w := Ch.rf
  have q0 : (0 : Int32).toInt = 0 := by decide
  have q1 : (1 : Int32).toInt = 1 := by decide
  have q42 : (42 : Int32).toInt = 42 := by decide
  refine r_iload_n 0 C dX1_isCell_0 rfl ?_
  refine r_if_lt 14 C dX1_isCell_1 (by decide) (fun c1 => ?_) (fun c1 => ?_)
  · have c1' := i_lt c1
    refine r_iconst (v := 0) C dX1_isCell_14 (by decide) ?_
    exact hret _ _ _ _ dX1_isCell_15 (nar_z (z_of (by omega))) ⟨h0, by omega⟩
  · have c1' := i_nlt c1
    refine r_iload_n 0 C dX1_isCell_4 rfl ?_
    refine r_bipush (v := 42) C dX1_isCell_5 (by decide) ?_
    refine r_icmp_ge 14 C dX1_isCell_7 (by decide) (fun c2 => ?_) (fun c2 => ?_)
    · have c2' := i_le c2
      refine r_iconst (v := 0) C dX1_isCell_14 (by decide) ?_
      exact hret _ _ _ _ dX1_isCell_15 (nar_z (z_of (by omega))) ⟨h0, by omega⟩
    · have c2' := i_nle c2
      refine r_iconst (v := 1) C dX1_isCell_10 (by decide) ?_
      refine r_goto 15 C dX1_isCell_11 (by decide) ?_
      exact hret _ _ _ _ dX1_isCell_15 (nar_z (z_of (by omega))) ⟨h0, by omega⟩
set_option maxHeartbeats 4000000 in
set_option maxRecDepth 100000 in
theorem ctX10_isKind (l : Launch) (G : Gt) (w : Wv) (a1 : Int32) : CtI l G yX10_isKind cX10_isKind 1 .boolean ({ frames := 0, cells := 0, slots := 0, locals := 0 } : Room) [.int a1] w (fun r w' => Ch [] w w' ∧ ((0 ≤ a1.toInt ∧ a1.toInt < 3 → r.toInt = 1) ∧ (a1.toInt < 0 ∨ 3 ≤ a1.toInt → r.toInt = 0))) := by
  refine enterI (by decide) (Nat.le_of_ble_eq_true rfl) ?_
  intro x el eG C hret
  subst el; subst eG
  show V x 0 0 w 0 [(0, .int a1)] []
  have h0 : Ch [] w w := Ch.rf
  have q0 : (0 : Int32).toInt = 0 := by decide
  have q1 : (1 : Int32).toInt = 1 := by decide
  have q3 : (3 : Int32).toInt = 3 := by decide
  refine r_iload_n 0 C dX10_isKind_0 rfl ?_
  refine r_if_lt 13 C dX10_isKind_1 (by decide) (fun c1 => ?_) (fun c1 => ?_)
  · have c1' := i_lt c1
    refine r_iconst (v := 0) C dX10_isKind_13 (by decide) ?_
    exact hret _ _ _ _ dX10_isKind_14 (nar_z (z_of (by omega))) ⟨h0, by omega⟩
  · have c1' := i_nlt c1
    refine r_iload_n 0 C dX10_isKind_4 rfl ?_
    refine r_iconst (v := 3) C dX10_isKind_5 (by decide) ?_
    refine r_icmp_ge 13 C dX10_isKind_6 (by decide) (fun c2 => ?_) (fun c2 => ?_)
    · have c2' := i_le c2
      refine r_iconst (v := 0) C dX10_isKind_13 (by decide) ?_
      exact hret _ _ _ _ dX10_isKind_14 (nar_z (z_of (by omega))) ⟨h0, by omega⟩
    · have c2' := i_nle c2
      refine r_iconst (v := 1) C dX10_isKind_9 (by decide) ?_
      refine r_goto 14 C dX10_isKind_10 (by decide) ?_
      exact hret _ _ _ _ dX10_isKind_14 (nar_z (z_of (by omega))) ⟨h0, by omega⟩
set_option maxHeartbeats 4000000 in
set_option maxRecDepth 100000 in
theorem ctX10_isStep (l : Launch) (G : Gt) (w : Wv) (a1 : Int32) : CtI l G yX10_isStep cX10_isStep 1 .boolean ({ frames := 0, cells := 0, slots := 0, locals := 0 } : Room) [.int a1] w (fun r w' => Ch [] w w' ∧ ((0 ≤ a1.toInt ∧ a1.toInt ≤ 4 → r.toInt = 1) ∧ (a1.toInt < 0 ∨ 4 < a1.toInt → r.toInt = 0))) := by
  refine enterI (by decide) (Nat.le_of_ble_eq_true rfl) ?_
  intro x el eG C hret
  subst el; subst eG
  show V x 0 0 w 0 [(0, .int a1)] []
  have h0 : Ch [] w w := Ch.rf
  have q0 : (0 : Int32).toInt = 0 := by decide
  have q1 : (1 : Int32).toInt = 1 := by decide
  have q4 : (4 : Int32).toInt = 4 := by decide
  refine r_iload_n 0 C dX10_isStep_0 rfl ?_
  refine r_if_lt 13 C dX10_isStep_1 (by decide) (fun c1 => ?_) (fun c1 => ?_)
  · have c1' := i_lt c1
    refine r_iconst (v := 0) C dX10_isStep_13 (by decide) ?_
    exact hret _ _ _ _ dX10_isStep_14 (nar_z (z_of (by omega))) ⟨h0, by omega⟩
  · have c1' := i_nlt c1
    refine r_iload_n 0 C dX10_isStep_4 rfl ?_
    refine r_iconst (v := 4) C dX10_isStep_5 (by decide) ?_
    refine r_icmp_gt 13 C dX10_isStep_6 (by decide) (fun c2 => ?_) (fun c2 => ?_)
    · have c2' := i_lt c2
      refine r_iconst (v := 0) C dX10_isStep_13 (by decide) ?_
      exact hret _ _ _ _ dX10_isStep_14 (nar_z (z_of (by omega))) ⟨h0, by omega⟩
    · have c2' := i_nlt c2
      refine r_iconst (v := 1) C dX10_isStep_9 (by decide) ?_
      refine r_goto 14 C dX10_isStep_10 (by decide) ?_
      exact hret _ _ _ _ dX10_isStep_14 (nar_z (z_of (by omega))) ⟨h0, by omega⟩
set_option maxHeartbeats 4000000 in
set_option maxRecDepth 100000 in
theorem ctX10_isImage (l : Launch) (G : Gt) (w : Wv) (a1 : Int32) : CtI l G yX10_isImage cX10_isImage 1 .boolean ({ frames := 0, cells := 0, slots := 0, locals := 0 } : Room) [.int a1] w (fun r w' => Ch [] w w' ∧ ((0 ≤ a1.toInt ∧ a1.toInt < 2 → r.toInt = 1) ∧ (a1.toInt < 0 ∨ 2 ≤ a1.toInt → r.toInt = 0))) := by
  refine enterI (by decide) (Nat.le_of_ble_eq_true rfl) ?_
  intro x el eG C hret
  subst el; subst eG
  show V x 0 0 w 0 [(0, .int a1)] []
  have h0 : Ch [] w w := Ch.rf
  have q0 : (0 : Int32).toInt = 0 := by decide
  have q1 : (1 : Int32).toInt = 1 := by decide
  have q2 : (2 : Int32).toInt = 2 := by decide
  refine r_iload_n 0 C dX10_isImage_0 rfl ?_
  refine r_if_lt 13 C dX10_isImage_1 (by decide) (fun c1 => ?_) (fun c1 => ?_)
  · have c1' := i_lt c1
    refine r_iconst (v := 0) C dX10_isImage_13 (by decide) ?_
    exact hret _ _ _ _ dX10_isImage_14 (nar_z (z_of (by omega))) ⟨h0, by omega⟩
  · have c1' := i_nlt c1
    refine r_iload_n 0 C dX10_isImage_4 rfl ?_
    refine r_iconst (v := 2) C dX10_isImage_5 (by decide) ?_
    refine r_icmp_ge 13 C dX10_isImage_6 (by decide) (fun c2 => ?_) (fun c2 => ?_)
    · have c2' := i_le c2
      refine r_iconst (v := 0) C dX10_isImage_13 (by decide) ?_
      exact hret _ _ _ _ dX10_isImage_14 (nar_z (z_of (by omega))) ⟨h0, by omega⟩
    · have c2' := i_nle c2
      refine r_iconst (v := 1) C dX10_isImage_9 (by decide) ?_
      refine r_goto 14 C dX10_isImage_10 (by decide) ?_
      exact hret _ _ _ _ dX10_isImage_14 (nar_z (z_of (by omega))) ⟨h0, by omega⟩
set_option maxHeartbeats 4000000 in
set_option maxRecDepth 100000 in
theorem ctX10_isCrowd_0 (l : Launch) (G : Gt) (w : Wv) (sC : Str KC XC w) (p0 : wI w 3 3 = 0) (a1 : Int32) : CtI l G yX10_isCrowd cX10_isCrowd 2 .boolean ({ frames := 0, cells := 0, slots := 0, locals := 0 } : Room) [.ref (gz G + 0), .int a1] w (fun r w' => Ch [] w w' ∧ (r.toInt = 0)) := by
  refine enterI (by decide) (Nat.le_of_ble_eq_true rfl) ?_
  intro x el eG C hret
  subst el; subst eG
  show V x 0 0 w 0 [(0, .ref (gz (xG x) + 0)), (1, .int a1)] []
  have h0 : Ch [] w w := Ch.rf
  have q0 : (0 : Int32).toInt = 0 := by decide
  refine r_iload_n 1 C dX10_isCrowd_0 rfl ?_
  refine r_if_lt 19 C dX10_isCrowd_1 (by decide) (fun c1 => ?_) (fun c1 => ?_)
  · have c1' := i_lt c1
    refine r_iconst (v := 0) C dX10_isCrowd_19 (by decide) ?_
    exact hret _ _ _ _ dX10_isCrowd_20 (nar_z (z_of (by omega))) ⟨h0, by omega⟩
  · have c1' := i_nlt c1
    refine r_iload_n 1 C dX10_isCrowd_4 rfl ?_
    refine r_aload_n 0 C dX10_isCrowd_5 rfl ?_
    refine gfX10_19 3 C (kS sC h0 kc_0) (xS sC h0 xc_0_1) dX10_isCrowd_6 ?_
    refine gfX10_129 (v := 0) C (kS sC h0 kc_3) p0 dX10_isCrowd_9 ?_
    refine r_icmp_ge 19 C dX10_isCrowd_12 (by decide) (fun c2 => ?_) (fun c2 => ?_)
    · have c2' := i_le c2
      refine r_iconst (v := 0) C dX10_isCrowd_19 (by decide) ?_
      exact hret _ _ _ _ dX10_isCrowd_20 (nar_z (z_of (by omega))) ⟨h0, by omega⟩
    · have c2' := i_nle c2
      exfalso; omega
set_option maxHeartbeats 4000000 in
set_option maxRecDepth 100000 in
theorem ctX10_isTune_0 (l : Launch) (G : Gt) (w : Wv) (sC : Str KC XC w) (p0 : wI w 3 4 = 0) (a1 : Int32) : CtI l G yX10_isTune cX10_isTune 2 .boolean ({ frames := 0, cells := 0, slots := 0, locals := 0 } : Room) [.ref (gz G + 0), .int a1] w (fun r w' => Ch [] w w' ∧ (r.toInt = 0)) := by
  refine enterI (by decide) (Nat.le_of_ble_eq_true rfl) ?_
  intro x el eG C hret
  subst el; subst eG
  show V x 0 0 w 0 [(0, .ref (gz (xG x) + 0)), (1, .int a1)] []
  have h0 : Ch [] w w := Ch.rf
  have q0 : (0 : Int32).toInt = 0 := by decide
  refine r_iload_n 1 C dX10_isTune_0 rfl ?_
  refine r_if_lt 19 C dX10_isTune_1 (by decide) (fun c1 => ?_) (fun c1 => ?_)
  · have c1' := i_lt c1
    refine r_iconst (v := 0) C dX10_isTune_19 (by decide) ?_
    exact hret _ _ _ _ dX10_isTune_20 (nar_z (z_of (by omega))) ⟨h0, by omega⟩
  · have c1' := i_nlt c1
    refine r_iload_n 1 C dX10_isTune_4 rfl ?_
    refine r_aload_n 0 C dX10_isTune_5 rfl ?_
    refine gfX10_19 3 C (kS sC h0 kc_0) (xS sC h0 xc_0_1) dX10_isTune_6 ?_
    refine gfX10_132 (v := 0) C (kS sC h0 kc_3) p0 dX10_isTune_9 ?_
    refine r_icmp_ge 19 C dX10_isTune_12 (by decide) (fun c2 => ?_) (fun c2 => ?_)
    · have c2' := i_le c2
      refine r_iconst (v := 0) C dX10_isTune_19 (by decide) ?_
      exact hret _ _ _ _ dX10_isTune_20 (nar_z (z_of (by omega))) ⟨h0, by omega⟩
    · have c2' := i_nle c2
      exfalso; omega
set_option maxHeartbeats 4000000 in
set_option maxRecDepth 100000 in
theorem ctX10_isTuneOrNone_0 (l : Launch) (G : Gt) (w : Wv) (sC : Str KC XC w) (p0 : wI w 3 4 = 0) (a1 : Int32) : CtI l G yX10_isTuneOrNone cX10_isTuneOrNone 2 .boolean ({ frames := 1, cells := 0, slots := 0, locals := 21 } : Room) [.ref (gz G + 0), .int a1] w (fun r w' => Ch [] w w' ∧ ((a1.toInt = -1 → r.toInt = 1) ∧ (¬ a1.toInt = -1 → r.toInt = 0))) := by
  refine enterI (by decide) (Nat.le_of_ble_eq_true rfl) ?_
  intro x el eG C hret
  subst el; subst eG
  show V x 0 0 w 0 [(0, .ref (gz (xG x) + 0)), (1, .int a1)] []
  have h0 : Ch [] w w := Ch.rf
  have qm1 : ((-1) : Int32).toInt = (-1) := by decide
  have q0 : (0 : Int32).toInt = 0 := by decide
  have q1 : (1 : Int32).toInt = 1 := by decide
  refine r_iload_n 1 C dX10_isTuneOrNone_0 rfl ?_
  refine r_iconst (v := (-1)) C dX10_isTuneOrNone_1 (by decide) ?_
  refine r_icmp_eq 13 C dX10_isTuneOrNone_2 (by decide) (fun c1 => ?_) (fun c1 => ?_)
  · have c1' := i_eq c1
    refine r_iconst (v := 1) C dX10_isTuneOrNone_13 (by decide) ?_
    refine r_goto 18 C dX10_isTuneOrNone_14 (by decide) ?_
    exact hret _ _ _ _ dX10_isTuneOrNone_18 (nar_z (z_of (by omega))) ⟨h0, by omega⟩
  · have c1' := i_ne c1
    refine r_aload_n 0 C dX10_isTuneOrNone_5 rfl ?_
    refine r_iload_n 1 C dX10_isTuneOrNone_6 rfl ?_
    refine callVI C cwX10_190_V (ctX10_isTune_0 _ _ w (sS sC h0) p0 a1 ) (by decide) (kS sC h0 kc_0) rfl rfl rfl (Nat.le_of_ble_eq_true rfl) (by decide) dX10_isTuneOrNone_7 (fun r4 w3 y2 => ?_)
    show V x 0 0 w3 10 [(0, .ref (gz (xG x) + 0)), (1, .int a1)] [.int r4]
    obtain ⟨h5, g6⟩ := y2
    have h7 := Ch.tr h0 h5 (by decide)
    refine r_if_eq 17 C dX10_isTuneOrNone_10 (by decide) (fun c8 => ?_) (fun c8 => ?_)
    · have c8' := i_eq c8
      refine r_iconst (v := 0) C dX10_isTuneOrNone_17 (by decide) ?_
      exact hret _ _ _ _ dX10_isTuneOrNone_18 (nar_z (z_of (by omega))) ⟨h7, by omega⟩
    · have c8' := i_ne c8
      exfalso; omega
set_option maxHeartbeats 4000000 in
set_option maxRecDepth 100000 in
theorem ctX1_cellAt_21 (l : Launch) (G : Gt) (w : Wv) (sC : Str KC XC w) (p0 : wI w 21 2 = 0) (p1 : wI w 21 3 = 0) (a1 : Int32) (a2 : Int32) : CtI l G yX1_cellAt cX1_cellAt 3 .int ({ frames := 0, cells := 0, slots := 0, locals := 0 } : Room) [.ref (gz G + 21), .int a1, .int a2] w (fun r w' => Ch [] w w' ∧ (r.toInt = -1)) := by
  refine enterI (by decide) (Nat.le_of_ble_eq_true rfl) ?_
  intro x el eG C hret
  subst el; subst eG
  show V x 0 0 w 0 [(0, .ref (gz (xG x) + 21)), (1, .int a1), (2, .int a2)] []
  have h0 : Ch [] w w := Ch.rf
  have qm1 : ((-1) : Int32).toInt = (-1) := by decide
  have q0 : (0 : Int32).toInt = 0 := by decide
  refine r_iload_n 1 C dX1_cellAt_0 rfl ?_
  refine r_if_lt 35 C dX1_cellAt_1 (by decide) (fun c1 => ?_) (fun c1 => ?_)
  · have c1' := i_lt c1
    refine r_iconst (v := (-1)) C dX1_cellAt_35 (by decide) ?_
    exact hret _ _ _ _ dX1_cellAt_36 rfl ⟨h0, by omega⟩
  · have c1' := i_nlt c1
    refine r_iload_n 1 C dX1_cellAt_4 rfl ?_
    refine r_aload_n 0 C dX1_cellAt_5 rfl ?_
    refine gfX1_37 (v := 0) C (kS sC h0 kc_21) p0 dX1_cellAt_6 ?_
    refine r_icmp_ge 35 C dX1_cellAt_9 (by decide) (fun c2 => ?_) (fun c2 => ?_)
    · have c2' := i_le c2
      refine r_iconst (v := (-1)) C dX1_cellAt_35 (by decide) ?_
      exact hret _ _ _ _ dX1_cellAt_36 rfl ⟨h0, by omega⟩
    · have c2' := i_nle c2
      exfalso; omega
set_option maxHeartbeats 4000000 in
set_option maxRecDepth 100000 in
theorem ctX1_code_21 (l : Launch) (G : Gt) (w : Wv) (sC : Str KC XC w) (a1 : Int32) (b1 : (-1) ≤ a1.toInt ∧ a1.toInt ≤ (-1)) : CtI l G yX1_code cX1_code 2 .int ({ frames := 1, cells := 0, slots := 0, locals := 20 } : Room) [.ref (gz G + 21), .int a1] w (fun r w' => Ch [] w w' ∧ (r.toInt = -1)) := by
  refine enterI (by decide) (Nat.le_of_ble_eq_true rfl) ?_
  intro x el eG C hret
  subst el; subst eG
  show V x 0 0 w 0 [(0, .ref (gz (xG x) + 21)), (1, .int a1)] []
  have h0 : Ch [] w w := Ch.rf
  have qm1 : ((-1) : Int32).toInt = (-1) := by decide
  have q0 : (0 : Int32).toInt = 0 := by decide
  refine r_iload_n 1 C dX1_code_0 rfl ?_
  refine callSI C cwX1_65_S (ctX1_isCell _ _ w   a1 ) (by decide) rfl rfl (Nat.le_of_ble_eq_true rfl) (by decide) dX1_code_1 (fun r3 w2 y1 => ?_)
  show V x 0 0 w2 4 [(0, .ref (gz (xG x) + 21)), (1, .int a1)] [.int r3]
  obtain ⟨h4, g5⟩ := y1
  have h6 := Ch.tr h0 h4 (by decide)
  refine r_if_eq 16 C dX1_code_4 (by decide) (fun c7 => ?_) (fun c7 => ?_)
  · have c7' := i_eq c7
    refine r_iconst (v := (-1)) C dX1_code_16 (by decide) ?_
    exact hret _ _ _ _ dX1_code_17 rfl ⟨h6, by omega⟩
  · have c7' := i_ne c7
    refine r_aload_n 0 C dX1_code_7 rfl ?_
    refine gfX1_15 23 C (kS sC h6 kc_21) (xS sC h6 xc_21_4) dX1_code_8 ?_
    refine r_iload_n 1 C dX1_code_11 rfl ?_
    refine r_iald C (kS sC h6 kc_23) (vin (by omega) (by omega)) dX1_code_12 ?_
    generalize (wI w2 23 (a1).toNatClampNeg) = v8
    refine r_goto 17 C dX1_code_13 (by decide) ?_
    exact hret _ _ _ _ dX1_code_17 rfl ⟨h6, by omega⟩
set_option maxHeartbeats 4000000 in
set_option maxRecDepth 100000 in
theorem ctX1_forgetWays_21 (l : Launch) (G : Gt) (w : Wv) (sC : Str KC XC w)  : CtV l G yX1_forgetWays cX1_forgetWays 2 ({ frames := 0, cells := 0, slots := 0, locals := 0 } : Room) [.ref (gz G + 21)] w (fun w' => Ch [26] w w') := by
  refine enterV (by decide) (Nat.le_of_ble_eq_true rfl) ?_
  intro x el eG C hnm hret
  subst el; subst eG
  show V x 0 0 w 0 [(0, .ref (gz (xG x) + 21))] []
  have h0 : Ch [26] w w := Ch.rf
  have q0 : (0 : Int32).toInt = 0 := by decide
  have q42 : (42 : Int32).toInt = 42 := by decide
  refine r_iconst (v := 0) C dX1_forgetWays_0 (by decide) ?_
  refine r_istore_n [(1, .int 0), (0, .ref (gz (xG x) + 21))] C dX1_forgetWays_1 (by decide) rfl ?_
  have LP1 : ∀ (f2 : Nat) (i3 : Int32) (w4 : Wv), Ch [26] w w4 → 0 ≤ i3.toInt → i3.toInt ≤ 42 → 42 - i3.toInt < f2 → V x 0 0 w4 2 [(0, .ref (gz (xG x) + 21)), (1, .int i3)] [] := by
    intro f2
    induction f2 with
    | zero => intro i3 w4 h5 a6 a7  a8; exfalso; omega
    | succ f2 ih9 =>
      intro i3 w4 h5 a6 a7  a8
      have h10 := Ch.tr h0 h5 (by decide)
      refine r_iload_n 1 C dX1_forgetWays_2 rfl ?_
      refine r_bipush (v := 42) C dX1_forgetWays_3 (by decide) ?_
      refine r_icmp_ge 21 C dX1_forgetWays_5 (by decide) (fun c11 => ?_) (fun c11 => ?_)
      · have c11' := i_le c11
        exact hret _ _ _ dX1_forgetWays_21 h10
      · have c11' := i_nle c11
        refine r_aload_n 0 C dX1_forgetWays_8 rfl ?_
        refine gfX1_24 26 C (kS sC h10 kc_21) (xS sC h10 xc_21_7) dX1_forgetWays_9 ?_
        refine r_iload_n 1 C dX1_forgetWays_12 rfl ?_
        refine r_iconst (v := 0) C dX1_forgetWays_13 (by decide) ?_
        refine r_zast C (kS sC h10 kc_26) (vin (by omega) (by omega)) (nar_z (z_of (by omega))) dX1_forgetWays_14 (fun w12 e13 => ?_)
        have h14 := Ch.put h10 e13 (by decide)
        obtain ⟨i15, e16⟩ : ∃ z : Int32, i3 + Int32.ofInt 1 = z := ⟨_, rfl⟩
        have i15' := iinc_ok e16 (by decide) (by omega) (by omega)
        refine r_iinc [(1, .int i15), (0, .ref (gz (xG x) + 21))] 1 C dX1_forgetWays_15 rfl e16 (by decide) rfl ?_
        refine r_goto 2 C dX1_forgetWays_18 (by decide) ?_
        refine r_lv [1, 0] rfl ?_
        exact ih9 _ _ (Ch.put h5 e13 (by decide)) (by omega) (by omega) (by omega)
  refine r_lv [1, 0] rfl ?_
  exact LP1 43 _ _ Ch.rf (by omega) (by omega) (by omega)
set_option maxHeartbeats 4000000 in
set_option maxRecDepth 100000 in
theorem ctX1_takeWhats_21_4 (l : Launch) (G : Gt) (w : Wv) (sC : Str KC XC w)  : CtV l G yX1_takeWhats cX1_takeWhats 3 ({ frames := 1, cells := 0, slots := 0, locals := 21 } : Room) [.ref (gz G + 21), .ref (gz G + 4)] w (fun w' => Ch [22, 26] w w') := by
  refine enterV (by decide) (Nat.le_of_ble_eq_true rfl) ?_
  intro x el eG C hnm hret
  subst el; subst eG
  show V x 0 0 w 0 [(0, .ref (gz (xG x) + 21)), (1, .ref (gz (xG x) + 4))] []
  have h0 : Ch [22, 26] w w := Ch.rf
  have q0 : (0 : Int32).toInt = 0 := by decide
  have q42 : (42 : Int32).toInt = 42 := by decide
  refine r_iconst (v := 0) C dX1_takeWhats_0 (by decide) ?_
  refine r_istore_n [(2, .int 0), (0, .ref (gz (xG x) + 21)), (1, .ref (gz (xG x) + 4))] C dX1_takeWhats_1 (by decide) rfl ?_
  have LP1 : ∀ (f2 : Nat) (i3 : Int32) (w4 : Wv), Ch [22] w w4 → 0 ≤ i3.toInt → i3.toInt ≤ 42 → 42 - i3.toInt < f2 → V x 0 0 w4 2 [(0, .ref (gz (xG x) + 21)), (1, .ref (gz (xG x) + 4)), (2, .int i3)] [] := by
    intro f2
    induction f2 with
    | zero => intro i3 w4 h5 a6 a7  a8; exfalso; omega
    | succ f2 ih9 =>
      intro i3 w4 h5 a6 a7  a8
      have h10 := Ch.tr h0 h5 (by decide)
      refine r_iload_n 2 C dX1_takeWhats_2 rfl ?_
      refine r_bipush (v := 42) C dX1_takeWhats_3 (by decide) ?_
      refine r_icmp_ge 29 C dX1_takeWhats_5 (by decide) (fun c11 => ?_) (fun c11 => ?_)
      · have c11' := i_le c11
        refine r_aload_n 0 C dX1_takeWhats_29 rfl ?_
        refine callVV C cwX1_62_V (ctX1_forgetWays_21 _ _ w4 (sS sC h10)   ) (by decide) (kS sC h10 kc_21) rfl rfl rfl (Nat.le_of_ble_eq_true rfl) (by decide) dX1_takeWhats_30 (fun w13 y12 => ?_)
        show V x 0 0 w13 33 [(0, .ref (gz (xG x) + 21)), (1, .ref (gz (xG x) + 4)), (2, .int i3)] []
        have h15 := y12
        have h16 := Ch.tr h10 h15 (by decide)
        exact hret _ _ _ dX1_takeWhats_33 h16
      · have c11' := i_nle c11
        refine r_iload_n 2 C dX1_takeWhats_8 rfl ?_
        refine r_aload_n 1 C dX1_takeWhats_9 rfl ?_
        refine r_alen 0 0 rfl C (kS sC h10 kc_4) (v := 42) (by decide) dX1_takeWhats_10 ?_
        refine r_icmp_ge 29 C dX1_takeWhats_11 (by decide) (fun c17 => ?_) (fun c17 => ?_)
        · have c17' := i_le c17
          exfalso; omega
        · have c17' := i_nle c17
          refine r_aload_n 0 C dX1_takeWhats_14 rfl ?_
          refine gfX1_9 22 C (kS sC h10 kc_21) (xS sC h10 xc_21_1) dX1_takeWhats_15 ?_
          refine r_iload_n 2 C dX1_takeWhats_18 rfl ?_
          refine r_aload_n 1 C dX1_takeWhats_19 rfl ?_
          refine r_iload_n 2 C dX1_takeWhats_20 rfl ?_
          refine r_iald C (kS sC h10 kc_4) (vin (by omega) (by omega)) dX1_takeWhats_21 ?_
          generalize (wI w4 4 (i3).toNatClampNeg) = v18
          refine r_iast C (kS sC h10 kc_22) (vin (by omega) (by omega)) dX1_takeWhats_22 (fun w19 e20 => ?_)
          have h21 := Ch.put h10 e20 (by decide)
          obtain ⟨i22, e23⟩ : ∃ z : Int32, i3 + Int32.ofInt 1 = z := ⟨_, rfl⟩
          have i22' := iinc_ok e23 (by decide) (by omega) (by omega)
          refine r_iinc [(2, .int i22), (0, .ref (gz (xG x) + 21)), (1, .ref (gz (xG x) + 4))] 2 C dX1_takeWhats_23 rfl e23 (by decide) rfl ?_
          refine r_goto 2 C dX1_takeWhats_26 (by decide) ?_
          refine r_lv [1, 2, 0] rfl ?_
          exact ih9 _ _ (Ch.put h5 e20 (by decide)) (by omega) (by omega) (by omega)
  refine r_lv [1, 2, 0] rfl ?_
  exact LP1 43 _ _ Ch.rf (by omega) (by omega) (by omega)
set_option maxHeartbeats 4000000 in
set_option maxRecDepth 100000 in
theorem ctX1_lay_21_3 (l : Launch) (G : Gt) (w : Wv) (sC : Str KC XC w) (p0 : wI w 3 0 = 0) (p1 : wI w 3 1 = 0) : CtV l G yX1_lay cX1_lay 4 ({ frames := 2, cells := 0, slots := 0, locals := 43 } : Room) [.ref (gz G + 21), .ref (gz G + 3)] w (fun w' => Ch [21, 22, 26] w w' ∧ wI w' 21 0 = 0 ∧ wI w' 21 2 = 0 ∧ wI w' 21 3 = 0) := by
  refine enterV (by decide) (Nat.le_of_ble_eq_true rfl) ?_
  intro x el eG C hnm hret
  subst el; subst eG
  show V x 0 0 w 0 [(0, .ref (gz (xG x) + 21)), (1, .ref (gz (xG x) + 3))] []
  have h0 : Ch [21, 22, 26] w w := Ch.rf
  have q0 : (0 : Int32).toInt = 0 := by decide
  have q42 : (42 : Int32).toInt = 42 := by decide
  refine r_aload_n 0 C dX1_lay_0 rfl ?_
  refine r_aload_n 1 C dX1_lay_1 rfl ?_
  refine gfX1_31 (v := 0) C (kS sC h0 kc_3) p0 dX1_lay_2 ?_
  refine pfX1_37 C (kS sC h0 kc_21) dX1_lay_5 (fun w1 e2 => ?_)
  have h3 := Ch.put h0 e2 (by decide)
  refine r_aload_n 0 C dX1_lay_8 rfl ?_
  refine r_aload_n 1 C dX1_lay_9 rfl ?_
  refine gfX1_38 (v := 0) C (kS sC h3 kc_3) (g_nn e2 (by decide) p1) dX1_lay_10 ?_
  refine pfX1_41 C (kS sC h3 kc_21) dX1_lay_13 (fun w4 e5 => ?_)
  have h6 := Ch.put h3 e5 (by decide)
  refine r_aload_n 0 C dX1_lay_16 rfl ?_
  refine r_aload_n 0 C dX1_lay_17 rfl ?_
  refine gfX1_37 (v := 0) C (kS sC h6 kc_21) (g_nk e5 (by decide) (g_eq e2)) dX1_lay_18 ?_
  refine r_aload_n 0 C dX1_lay_21 rfl ?_
  refine gfX1_41 (v := 0) C (kS sC h6 kc_21) (g_eq e5) dX1_lay_22 ?_
  refine r_imul C dX1_lay_25 (fun v7 e8 => ?_)
  have k9 : (0 : Int32).toInt = 0 := by omega
  have v7' := imul_ok e8 (by rw [k9]; omega) (by rw [k9]; omega)
  rw [k9] at v7'
  refine r_bipush (v := 42) C dX1_lay_26 (by decide) ?_
  refine r_mmin C mw2_153 mw2_154 mw1_12 mw2_155 (by decide) (Nat.le_of_ble_eq_true rfl) (by decide) (by decide) dX1_lay_28 (fun v10 e11 => ?_)
  have v10' := imin_ok e11
  refine pfX1_48 C (kS sC h6 kc_21) dX1_lay_31 (fun w12 e13 => ?_)
  have h14 := Ch.put h6 e13 (by decide)
  refine r_iconst (v := 0) C dX1_lay_34 (by decide) ?_
  refine r_istore_n [(2, .int 0), (0, .ref (gz (xG x) + 21)), (1, .ref (gz (xG x) + 3))] C dX1_lay_35 (by decide) rfl ?_
  refine r_iload_n 0 C dX1_lay_36 rfl ?_
  refine r_aload_n 1 C dX1_lay_37 rfl ?_
  refine gfX1_41 (v := 0) C (kS sC h14 kc_21) (g_nk e13 (by decide) (g_eq e5)) dX1_lay_38 ?_
  refine r_icmp_ge 72 C dX1_lay_41 (by decide) (fun c15 => ?_) (fun c15 => ?_)
  · have c15' := i_le c15
    refine r_aload_n 1 C dX1_lay_72 rfl ?_
    refine r_aload_n 2 C dX1_lay_73 rfl ?_
    refine gfX1_55 4 C (kS sC h14 kc_3) (xS sC h14 xc_3_9) dX1_lay_74 ?_
    refine callVV C cwX1_58_V (ctX1_takeWhats_21_4 _ _ w12 (sS sC h14)   ) (by decide) (kS sC h14 kc_21) rfl rfl rfl (Nat.le_of_ble_eq_true rfl) (by decide) dX1_lay_77 (fun w17 y16 => ?_)
    show V x 0 0 w17 80 [(2, .int 0), (0, .ref (gz (xG x) + 21)), (1, .ref (gz (xG x) + 3))] []
    have h19 := y16
    have h20 := Ch.tr h14 h19 (by decide)
    exact hret _ _ _ dX1_lay_80 ⟨h20, (by rw [(h19.I (by decide) (g_eq e13))]; exact i_of (by omega)), (h19.I (by decide) (g_nk e13 (by decide) (g_nk e5 (by decide) (g_eq e2)))), (h19.I (by decide) (g_nk e13 (by decide) (g_eq e5)))⟩
  · have c15' := i_nle c15
    exfalso; omega
set_option maxHeartbeats 4000000 in
set_option maxRecDepth 100000 in
theorem ctX1_forgetWays_28 (l : Launch) (G : Gt) (w : Wv) (sC : Str KC XC w)  : CtV l G yX1_forgetWays cX1_forgetWays 2 ({ frames := 0, cells := 0, slots := 0, locals := 0 } : Room) [.ref (gz G + 28)] w (fun w' => Ch [33] w w') := by
  refine enterV (by decide) (Nat.le_of_ble_eq_true rfl) ?_
  intro x el eG C hnm hret
  subst el; subst eG
  show V x 0 0 w 0 [(0, .ref (gz (xG x) + 28))] []
  have h0 : Ch [33] w w := Ch.rf
  have q0 : (0 : Int32).toInt = 0 := by decide
  have q42 : (42 : Int32).toInt = 42 := by decide
  refine r_iconst (v := 0) C dX1_forgetWays_0 (by decide) ?_
  refine r_istore_n [(1, .int 0), (0, .ref (gz (xG x) + 28))] C dX1_forgetWays_1 (by decide) rfl ?_
  have LP1 : ∀ (f2 : Nat) (i3 : Int32) (w4 : Wv), Ch [33] w w4 → 0 ≤ i3.toInt → i3.toInt ≤ 42 → 42 - i3.toInt < f2 → V x 0 0 w4 2 [(0, .ref (gz (xG x) + 28)), (1, .int i3)] [] := by
    intro f2
    induction f2 with
    | zero => intro i3 w4 h5 a6 a7  a8; exfalso; omega
    | succ f2 ih9 =>
      intro i3 w4 h5 a6 a7  a8
      have h10 := Ch.tr h0 h5 (by decide)
      refine r_iload_n 1 C dX1_forgetWays_2 rfl ?_
      refine r_bipush (v := 42) C dX1_forgetWays_3 (by decide) ?_
      refine r_icmp_ge 21 C dX1_forgetWays_5 (by decide) (fun c11 => ?_) (fun c11 => ?_)
      · have c11' := i_le c11
        exact hret _ _ _ dX1_forgetWays_21 h10
      · have c11' := i_nle c11
        refine r_aload_n 0 C dX1_forgetWays_8 rfl ?_
        refine gfX1_24 33 C (kS sC h10 kc_28) (xS sC h10 xc_28_7) dX1_forgetWays_9 ?_
        refine r_iload_n 1 C dX1_forgetWays_12 rfl ?_
        refine r_iconst (v := 0) C dX1_forgetWays_13 (by decide) ?_
        refine r_zast C (kS sC h10 kc_33) (vin (by omega) (by omega)) (nar_z (z_of (by omega))) dX1_forgetWays_14 (fun w12 e13 => ?_)
        have h14 := Ch.put h10 e13 (by decide)
        obtain ⟨i15, e16⟩ : ∃ z : Int32, i3 + Int32.ofInt 1 = z := ⟨_, rfl⟩
        have i15' := iinc_ok e16 (by decide) (by omega) (by omega)
        refine r_iinc [(1, .int i15), (0, .ref (gz (xG x) + 28))] 1 C dX1_forgetWays_15 rfl e16 (by decide) rfl ?_
        refine r_goto 2 C dX1_forgetWays_18 (by decide) ?_
        refine r_lv [1, 0] rfl ?_
        exact ih9 _ _ (Ch.put h5 e13 (by decide)) (by omega) (by omega) (by omega)
  refine r_lv [1, 0] rfl ?_
  exact LP1 43 _ _ Ch.rf (by omega) (by omega) (by omega)
set_option maxHeartbeats 4000000 in
set_option maxRecDepth 100000 in
theorem ctX1_takeWhats_28_4 (l : Launch) (G : Gt) (w : Wv) (sC : Str KC XC w)  : CtV l G yX1_takeWhats cX1_takeWhats 3 ({ frames := 1, cells := 0, slots := 0, locals := 21 } : Room) [.ref (gz G + 28), .ref (gz G + 4)] w (fun w' => Ch [29, 33] w w') := by
  refine enterV (by decide) (Nat.le_of_ble_eq_true rfl) ?_
  intro x el eG C hnm hret
  subst el; subst eG
  show V x 0 0 w 0 [(0, .ref (gz (xG x) + 28)), (1, .ref (gz (xG x) + 4))] []
  have h0 : Ch [29, 33] w w := Ch.rf
  have q0 : (0 : Int32).toInt = 0 := by decide
  have q42 : (42 : Int32).toInt = 42 := by decide
  refine r_iconst (v := 0) C dX1_takeWhats_0 (by decide) ?_
  refine r_istore_n [(2, .int 0), (0, .ref (gz (xG x) + 28)), (1, .ref (gz (xG x) + 4))] C dX1_takeWhats_1 (by decide) rfl ?_
  have LP1 : ∀ (f2 : Nat) (i3 : Int32) (w4 : Wv), Ch [29] w w4 → 0 ≤ i3.toInt → i3.toInt ≤ 42 → 42 - i3.toInt < f2 → V x 0 0 w4 2 [(0, .ref (gz (xG x) + 28)), (1, .ref (gz (xG x) + 4)), (2, .int i3)] [] := by
    intro f2
    induction f2 with
    | zero => intro i3 w4 h5 a6 a7  a8; exfalso; omega
    | succ f2 ih9 =>
      intro i3 w4 h5 a6 a7  a8
      have h10 := Ch.tr h0 h5 (by decide)
      refine r_iload_n 2 C dX1_takeWhats_2 rfl ?_
      refine r_bipush (v := 42) C dX1_takeWhats_3 (by decide) ?_
      refine r_icmp_ge 29 C dX1_takeWhats_5 (by decide) (fun c11 => ?_) (fun c11 => ?_)
      · have c11' := i_le c11
        refine r_aload_n 0 C dX1_takeWhats_29 rfl ?_
        refine callVV C cwX1_62_V (ctX1_forgetWays_28 _ _ w4 (sS sC h10)   ) (by decide) (kS sC h10 kc_28) rfl rfl rfl (Nat.le_of_ble_eq_true rfl) (by decide) dX1_takeWhats_30 (fun w13 y12 => ?_)
        show V x 0 0 w13 33 [(0, .ref (gz (xG x) + 28)), (1, .ref (gz (xG x) + 4)), (2, .int i3)] []
        have h15 := y12
        have h16 := Ch.tr h10 h15 (by decide)
        exact hret _ _ _ dX1_takeWhats_33 h16
      · have c11' := i_nle c11
        refine r_iload_n 2 C dX1_takeWhats_8 rfl ?_
        refine r_aload_n 1 C dX1_takeWhats_9 rfl ?_
        refine r_alen 0 0 rfl C (kS sC h10 kc_4) (v := 42) (by decide) dX1_takeWhats_10 ?_
        refine r_icmp_ge 29 C dX1_takeWhats_11 (by decide) (fun c17 => ?_) (fun c17 => ?_)
        · have c17' := i_le c17
          exfalso; omega
        · have c17' := i_nle c17
          refine r_aload_n 0 C dX1_takeWhats_14 rfl ?_
          refine gfX1_9 29 C (kS sC h10 kc_28) (xS sC h10 xc_28_1) dX1_takeWhats_15 ?_
          refine r_iload_n 2 C dX1_takeWhats_18 rfl ?_
          refine r_aload_n 1 C dX1_takeWhats_19 rfl ?_
          refine r_iload_n 2 C dX1_takeWhats_20 rfl ?_
          refine r_iald C (kS sC h10 kc_4) (vin (by omega) (by omega)) dX1_takeWhats_21 ?_
          generalize (wI w4 4 (i3).toNatClampNeg) = v18
          refine r_iast C (kS sC h10 kc_29) (vin (by omega) (by omega)) dX1_takeWhats_22 (fun w19 e20 => ?_)
          have h21 := Ch.put h10 e20 (by decide)
          obtain ⟨i22, e23⟩ : ∃ z : Int32, i3 + Int32.ofInt 1 = z := ⟨_, rfl⟩
          have i22' := iinc_ok e23 (by decide) (by omega) (by omega)
          refine r_iinc [(2, .int i22), (0, .ref (gz (xG x) + 28)), (1, .ref (gz (xG x) + 4))] 2 C dX1_takeWhats_23 rfl e23 (by decide) rfl ?_
          refine r_goto 2 C dX1_takeWhats_26 (by decide) ?_
          refine r_lv [1, 2, 0] rfl ?_
          exact ih9 _ _ (Ch.put h5 e20 (by decide)) (by omega) (by omega) (by omega)
  refine r_lv [1, 2, 0] rfl ?_
  exact LP1 43 _ _ Ch.rf (by omega) (by omega) (by omega)
set_option maxHeartbeats 4000000 in
set_option maxRecDepth 100000 in
theorem ctX1_takeWhats_28_22 (l : Launch) (G : Gt) (w : Wv) (sC : Str KC XC w)  : CtV l G yX1_takeWhats cX1_takeWhats 3 ({ frames := 1, cells := 0, slots := 0, locals := 21 } : Room) [.ref (gz G + 28), .ref (gz G + 22)] w (fun w' => Ch [29, 33] w w') := by
  refine enterV (by decide) (Nat.le_of_ble_eq_true rfl) ?_
  intro x el eG C hnm hret
  subst el; subst eG
  show V x 0 0 w 0 [(0, .ref (gz (xG x) + 28)), (1, .ref (gz (xG x) + 22))] []
  have h0 : Ch [29, 33] w w := Ch.rf
  have q0 : (0 : Int32).toInt = 0 := by decide
  have q42 : (42 : Int32).toInt = 42 := by decide
  refine r_iconst (v := 0) C dX1_takeWhats_0 (by decide) ?_
  refine r_istore_n [(2, .int 0), (0, .ref (gz (xG x) + 28)), (1, .ref (gz (xG x) + 22))] C dX1_takeWhats_1 (by decide) rfl ?_
  have LP1 : ∀ (f2 : Nat) (i3 : Int32) (w4 : Wv), Ch [29] w w4 → 0 ≤ i3.toInt → i3.toInt ≤ 42 → 42 - i3.toInt < f2 → V x 0 0 w4 2 [(0, .ref (gz (xG x) + 28)), (1, .ref (gz (xG x) + 22)), (2, .int i3)] [] := by
    intro f2
    induction f2 with
    | zero => intro i3 w4 h5 a6 a7  a8; exfalso; omega
    | succ f2 ih9 =>
      intro i3 w4 h5 a6 a7  a8
      have h10 := Ch.tr h0 h5 (by decide)
      refine r_iload_n 2 C dX1_takeWhats_2 rfl ?_
      refine r_bipush (v := 42) C dX1_takeWhats_3 (by decide) ?_
      refine r_icmp_ge 29 C dX1_takeWhats_5 (by decide) (fun c11 => ?_) (fun c11 => ?_)
      · have c11' := i_le c11
        refine r_aload_n 0 C dX1_takeWhats_29 rfl ?_
        refine callVV C cwX1_62_V (ctX1_forgetWays_28 _ _ w4 (sS sC h10)   ) (by decide) (kS sC h10 kc_28) rfl rfl rfl (Nat.le_of_ble_eq_true rfl) (by decide) dX1_takeWhats_30 (fun w13 y12 => ?_)
        show V x 0 0 w13 33 [(0, .ref (gz (xG x) + 28)), (1, .ref (gz (xG x) + 22)), (2, .int i3)] []
        have h15 := y12
        have h16 := Ch.tr h10 h15 (by decide)
        exact hret _ _ _ dX1_takeWhats_33 h16
      · have c11' := i_nle c11
        refine r_iload_n 2 C dX1_takeWhats_8 rfl ?_
        refine r_aload_n 1 C dX1_takeWhats_9 rfl ?_
        refine r_alen 0 0 rfl C (kS sC h10 kc_22) (v := 42) (by decide) dX1_takeWhats_10 ?_
        refine r_icmp_ge 29 C dX1_takeWhats_11 (by decide) (fun c17 => ?_) (fun c17 => ?_)
        · have c17' := i_le c17
          exfalso; omega
        · have c17' := i_nle c17
          refine r_aload_n 0 C dX1_takeWhats_14 rfl ?_
          refine gfX1_9 29 C (kS sC h10 kc_28) (xS sC h10 xc_28_1) dX1_takeWhats_15 ?_
          refine r_iload_n 2 C dX1_takeWhats_18 rfl ?_
          refine r_aload_n 1 C dX1_takeWhats_19 rfl ?_
          refine r_iload_n 2 C dX1_takeWhats_20 rfl ?_
          refine r_iald C (kS sC h10 kc_22) (vin (by omega) (by omega)) dX1_takeWhats_21 ?_
          generalize (wI w4 22 (i3).toNatClampNeg) = v18
          refine r_iast C (kS sC h10 kc_29) (vin (by omega) (by omega)) dX1_takeWhats_22 (fun w19 e20 => ?_)
          have h21 := Ch.put h10 e20 (by decide)
          obtain ⟨i22, e23⟩ : ∃ z : Int32, i3 + Int32.ofInt 1 = z := ⟨_, rfl⟩
          have i22' := iinc_ok e23 (by decide) (by omega) (by omega)
          refine r_iinc [(2, .int i22), (0, .ref (gz (xG x) + 28)), (1, .ref (gz (xG x) + 22))] 2 C dX1_takeWhats_23 rfl e23 (by decide) rfl ?_
          refine r_goto 2 C dX1_takeWhats_26 (by decide) ?_
          refine r_lv [1, 2, 0] rfl ?_
          exact ih9 _ _ (Ch.put h5 e20 (by decide)) (by omega) (by omega) (by omega)
  refine r_lv [1, 2, 0] rfl ?_
  exact LP1 43 _ _ Ch.rf (by omega) (by omega) (by omega)
set_option maxHeartbeats 4000000 in
set_option maxRecDepth 100000 in
theorem ctX1_lay_28_3 (l : Launch) (G : Gt) (w : Wv) (sC : Str KC XC w) (p0 : wI w 3 0 = 0) (p1 : wI w 3 1 = 0) : CtV l G yX1_lay cX1_lay 4 ({ frames := 2, cells := 0, slots := 0, locals := 43 } : Room) [.ref (gz G + 28), .ref (gz G + 3)] w (fun w' => Ch [28, 29, 33] w w' ∧ wI w' 28 0 = 0 ∧ wI w' 28 2 = 0 ∧ wI w' 28 3 = 0) := by
  refine enterV (by decide) (Nat.le_of_ble_eq_true rfl) ?_
  intro x el eG C hnm hret
  subst el; subst eG
  show V x 0 0 w 0 [(0, .ref (gz (xG x) + 28)), (1, .ref (gz (xG x) + 3))] []
  have h0 : Ch [28, 29, 33] w w := Ch.rf
  have q0 : (0 : Int32).toInt = 0 := by decide
  have q42 : (42 : Int32).toInt = 42 := by decide
  refine r_aload_n 0 C dX1_lay_0 rfl ?_
  refine r_aload_n 1 C dX1_lay_1 rfl ?_
  refine gfX1_31 (v := 0) C (kS sC h0 kc_3) p0 dX1_lay_2 ?_
  refine pfX1_37 C (kS sC h0 kc_28) dX1_lay_5 (fun w1 e2 => ?_)
  have h3 := Ch.put h0 e2 (by decide)
  refine r_aload_n 0 C dX1_lay_8 rfl ?_
  refine r_aload_n 1 C dX1_lay_9 rfl ?_
  refine gfX1_38 (v := 0) C (kS sC h3 kc_3) (g_nn e2 (by decide) p1) dX1_lay_10 ?_
  refine pfX1_41 C (kS sC h3 kc_28) dX1_lay_13 (fun w4 e5 => ?_)
  have h6 := Ch.put h3 e5 (by decide)
  refine r_aload_n 0 C dX1_lay_16 rfl ?_
  refine r_aload_n 0 C dX1_lay_17 rfl ?_
  refine gfX1_37 (v := 0) C (kS sC h6 kc_28) (g_nk e5 (by decide) (g_eq e2)) dX1_lay_18 ?_
  refine r_aload_n 0 C dX1_lay_21 rfl ?_
  refine gfX1_41 (v := 0) C (kS sC h6 kc_28) (g_eq e5) dX1_lay_22 ?_
  refine r_imul C dX1_lay_25 (fun v7 e8 => ?_)
  have k9 : (0 : Int32).toInt = 0 := by omega
  have v7' := imul_ok e8 (by rw [k9]; omega) (by rw [k9]; omega)
  rw [k9] at v7'
  refine r_bipush (v := 42) C dX1_lay_26 (by decide) ?_
  refine r_mmin C mw2_153 mw2_154 mw1_12 mw2_155 (by decide) (Nat.le_of_ble_eq_true rfl) (by decide) (by decide) dX1_lay_28 (fun v10 e11 => ?_)
  have v10' := imin_ok e11
  refine pfX1_48 C (kS sC h6 kc_28) dX1_lay_31 (fun w12 e13 => ?_)
  have h14 := Ch.put h6 e13 (by decide)
  refine r_iconst (v := 0) C dX1_lay_34 (by decide) ?_
  refine r_istore_n [(2, .int 0), (0, .ref (gz (xG x) + 28)), (1, .ref (gz (xG x) + 3))] C dX1_lay_35 (by decide) rfl ?_
  refine r_iload_n 0 C dX1_lay_36 rfl ?_
  refine r_aload_n 1 C dX1_lay_37 rfl ?_
  refine gfX1_41 (v := 0) C (kS sC h14 kc_28) (g_nk e13 (by decide) (g_eq e5)) dX1_lay_38 ?_
  refine r_icmp_ge 72 C dX1_lay_41 (by decide) (fun c15 => ?_) (fun c15 => ?_)
  · have c15' := i_le c15
    refine r_aload_n 1 C dX1_lay_72 rfl ?_
    refine r_aload_n 2 C dX1_lay_73 rfl ?_
    refine gfX1_55 4 C (kS sC h14 kc_3) (xS sC h14 xc_3_9) dX1_lay_74 ?_
    refine callVV C cwX1_58_V (ctX1_takeWhats_28_4 _ _ w12 (sS sC h14)   ) (by decide) (kS sC h14 kc_28) rfl rfl rfl (Nat.le_of_ble_eq_true rfl) (by decide) dX1_lay_77 (fun w17 y16 => ?_)
    show V x 0 0 w17 80 [(2, .int 0), (0, .ref (gz (xG x) + 28)), (1, .ref (gz (xG x) + 3))] []
    have h19 := y16
    have h20 := Ch.tr h14 h19 (by decide)
    exact hret _ _ _ dX1_lay_80 ⟨h20, (by rw [(h19.I (by decide) (g_eq e13))]; exact i_of (by omega)), (h19.I (by decide) (g_nk e13 (by decide) (g_nk e5 (by decide) (g_eq e2)))), (h19.I (by decide) (g_nk e13 (by decide) (g_eq e5)))⟩
  · have c15' := i_nle c15
    exfalso; omega
set_option maxHeartbeats 4000000 in
set_option maxRecDepth 100000 in
theorem ctX1_copy_28_21 (l : Launch) (G : Gt) (w : Wv) (sC : Str KC XC w)  : CtV l G yX1_copy cX1_copy 2 ({ frames := 2, cells := 0, slots := 0, locals := 43 } : Room) [.ref (gz G + 28), .ref (gz G + 21)] w (fun w' => Ch [29, 33] w w') := by
  refine enterV (by decide) (Nat.le_of_ble_eq_true rfl) ?_
  intro x el eG C hnm hret
  subst el; subst eG
  show V x 0 0 w 0 [(0, .ref (gz (xG x) + 28)), (1, .ref (gz (xG x) + 21))] []
  have h0 : Ch [29, 33] w w := Ch.rf
  refine r_aload_n 0 C dX1_copy_0 rfl ?_
  refine r_aload_n 1 C dX1_copy_1 rfl ?_
  refine gfX1_9 22 C (kS sC h0 kc_21) (xS sC h0 xc_21_1) dX1_copy_2 ?_
  refine callVV C cwX1_58_V (ctX1_takeWhats_28_22 _ _ w (sS sC h0)   ) (by decide) (kS sC h0 kc_28) rfl rfl rfl (Nat.le_of_ble_eq_true rfl) (by decide) dX1_copy_5 (fun w2 y1 => ?_)
  show V x 0 0 w2 8 [(0, .ref (gz (xG x) + 28)), (1, .ref (gz (xG x) + 21))] []
  have h4 := y1
  have h5 := Ch.tr h0 h4 (by decide)
  exact hret _ _ _ dX1_copy_8 h5
set_option maxHeartbeats 4000000 in
set_option maxRecDepth 100000 in
theorem ctX1_giveWhats_21_105 (l : Launch) (G : Gt) (w : Wv) (sC : Str KC XC w)  : CtV l G yX1_giveWhats cX1_giveWhats 3 ({ frames := 0, cells := 0, slots := 0, locals := 0 } : Room) [.ref (gz G + 21), .ref (gz G + 105)] w (fun w' => Ch [105] w w') := by
  refine enterV (by decide) (Nat.le_of_ble_eq_true rfl) ?_
  intro x el eG C hnm hret
  subst el; subst eG
  show V x 0 0 w 0 [(0, .ref (gz (xG x) + 21)), (1, .ref (gz (xG x) + 105))] []
  have h0 : Ch [105] w w := Ch.rf
  have q0 : (0 : Int32).toInt = 0 := by decide
  have q42 : (42 : Int32).toInt = 42 := by decide
  refine r_iconst (v := 0) C dX1_giveWhats_0 (by decide) ?_
  refine r_istore_n [(2, .int 0), (0, .ref (gz (xG x) + 21)), (1, .ref (gz (xG x) + 105))] C dX1_giveWhats_1 (by decide) rfl ?_
  have LP1 : ∀ (f2 : Nat) (i3 : Int32) (w4 : Wv), Ch [105] w w4 → 0 ≤ i3.toInt → i3.toInt ≤ 42 → 42 - i3.toInt < f2 → V x 0 0 w4 2 [(0, .ref (gz (xG x) + 21)), (1, .ref (gz (xG x) + 105)), (2, .int i3)] [] := by
    intro f2
    induction f2 with
    | zero => intro i3 w4 h5 a6 a7  a8; exfalso; omega
    | succ f2 ih9 =>
      intro i3 w4 h5 a6 a7  a8
      have h10 := Ch.tr h0 h5 (by decide)
      refine r_iload_n 2 C dX1_giveWhats_2 rfl ?_
      refine r_bipush (v := 42) C dX1_giveWhats_3 (by decide) ?_
      refine r_icmp_ge 29 C dX1_giveWhats_5 (by decide) (fun c11 => ?_) (fun c11 => ?_)
      · have c11' := i_le c11
        exact hret _ _ _ dX1_giveWhats_29 h10
      · have c11' := i_nle c11
        refine r_iload_n 2 C dX1_giveWhats_8 rfl ?_
        refine r_aload_n 1 C dX1_giveWhats_9 rfl ?_
        refine r_alen 0 0 rfl C (kS sC h10 kc_105) (v := 42) (by decide) dX1_giveWhats_10 ?_
        refine r_icmp_ge 29 C dX1_giveWhats_11 (by decide) (fun c12 => ?_) (fun c12 => ?_)
        · have c12' := i_le c12
          exfalso; omega
        · have c12' := i_nle c12
          refine r_aload_n 1 C dX1_giveWhats_14 rfl ?_
          refine r_iload_n 2 C dX1_giveWhats_15 rfl ?_
          refine r_aload_n 0 C dX1_giveWhats_16 rfl ?_
          refine gfX1_9 22 C (kS sC h10 kc_21) (xS sC h10 xc_21_1) dX1_giveWhats_17 ?_
          refine r_iload_n 2 C dX1_giveWhats_20 rfl ?_
          refine r_iald C (kS sC h10 kc_22) (vin (by omega) (by omega)) dX1_giveWhats_21 ?_
          generalize (wI w4 22 (i3).toNatClampNeg) = v13
          refine r_iast C (kS sC h10 kc_105) (vin (by omega) (by omega)) dX1_giveWhats_22 (fun w14 e15 => ?_)
          have h16 := Ch.put h10 e15 (by decide)
          obtain ⟨i17, e18⟩ : ∃ z : Int32, i3 + Int32.ofInt 1 = z := ⟨_, rfl⟩
          have i17' := iinc_ok e18 (by decide) (by omega) (by omega)
          refine r_iinc [(2, .int i17), (0, .ref (gz (xG x) + 21)), (1, .ref (gz (xG x) + 105))] 2 C dX1_giveWhats_23 rfl e18 (by decide) rfl ?_
          refine r_goto 2 C dX1_giveWhats_26 (by decide) ?_
          refine r_lv [1, 2, 0] rfl ?_
          exact ih9 _ _ (Ch.put h5 e15 (by decide)) (by omega) (by omega) (by omega)
  refine r_lv [1, 2, 0] rfl ?_
  exact LP1 43 _ _ Ch.rf (by omega) (by omega) (by omega)
set_option maxHeartbeats 4000000 in
set_option maxRecDepth 100000 in
theorem ctX1_giveWhats_21_110 (l : Launch) (G : Gt) (w : Wv) (sC : Str KC XC w)  : CtV l G yX1_giveWhats cX1_giveWhats 3 ({ frames := 0, cells := 0, slots := 0, locals := 0 } : Room) [.ref (gz G + 21), .ref (gz G + 110)] w (fun w' => Ch [110] w w') := by
  refine enterV (by decide) (Nat.le_of_ble_eq_true rfl) ?_
  intro x el eG C hnm hret
  subst el; subst eG
  show V x 0 0 w 0 [(0, .ref (gz (xG x) + 21)), (1, .ref (gz (xG x) + 110))] []
  have h0 : Ch [110] w w := Ch.rf
  have q0 : (0 : Int32).toInt = 0 := by decide
  have q42 : (42 : Int32).toInt = 42 := by decide
  refine r_iconst (v := 0) C dX1_giveWhats_0 (by decide) ?_
  refine r_istore_n [(2, .int 0), (0, .ref (gz (xG x) + 21)), (1, .ref (gz (xG x) + 110))] C dX1_giveWhats_1 (by decide) rfl ?_
  have LP1 : ∀ (f2 : Nat) (i3 : Int32) (w4 : Wv), Ch [110] w w4 → 0 ≤ i3.toInt → i3.toInt ≤ 42 → 42 - i3.toInt < f2 → V x 0 0 w4 2 [(0, .ref (gz (xG x) + 21)), (1, .ref (gz (xG x) + 110)), (2, .int i3)] [] := by
    intro f2
    induction f2 with
    | zero => intro i3 w4 h5 a6 a7  a8; exfalso; omega
    | succ f2 ih9 =>
      intro i3 w4 h5 a6 a7  a8
      have h10 := Ch.tr h0 h5 (by decide)
      refine r_iload_n 2 C dX1_giveWhats_2 rfl ?_
      refine r_bipush (v := 42) C dX1_giveWhats_3 (by decide) ?_
      refine r_icmp_ge 29 C dX1_giveWhats_5 (by decide) (fun c11 => ?_) (fun c11 => ?_)
      · have c11' := i_le c11
        exact hret _ _ _ dX1_giveWhats_29 h10
      · have c11' := i_nle c11
        refine r_iload_n 2 C dX1_giveWhats_8 rfl ?_
        refine r_aload_n 1 C dX1_giveWhats_9 rfl ?_
        refine r_alen 0 0 rfl C (kS sC h10 kc_110) (v := 42) (by decide) dX1_giveWhats_10 ?_
        refine r_icmp_ge 29 C dX1_giveWhats_11 (by decide) (fun c12 => ?_) (fun c12 => ?_)
        · have c12' := i_le c12
          exfalso; omega
        · have c12' := i_nle c12
          refine r_aload_n 1 C dX1_giveWhats_14 rfl ?_
          refine r_iload_n 2 C dX1_giveWhats_15 rfl ?_
          refine r_aload_n 0 C dX1_giveWhats_16 rfl ?_
          refine gfX1_9 22 C (kS sC h10 kc_21) (xS sC h10 xc_21_1) dX1_giveWhats_17 ?_
          refine r_iload_n 2 C dX1_giveWhats_20 rfl ?_
          refine r_iald C (kS sC h10 kc_22) (vin (by omega) (by omega)) dX1_giveWhats_21 ?_
          generalize (wI w4 22 (i3).toNatClampNeg) = v13
          refine r_iast C (kS sC h10 kc_110) (vin (by omega) (by omega)) dX1_giveWhats_22 (fun w14 e15 => ?_)
          have h16 := Ch.put h10 e15 (by decide)
          obtain ⟨i17, e18⟩ : ∃ z : Int32, i3 + Int32.ofInt 1 = z := ⟨_, rfl⟩
          have i17' := iinc_ok e18 (by decide) (by omega) (by omega)
          refine r_iinc [(2, .int i17), (0, .ref (gz (xG x) + 21)), (1, .ref (gz (xG x) + 110))] 2 C dX1_giveWhats_23 rfl e18 (by decide) rfl ?_
          refine r_goto 2 C dX1_giveWhats_26 (by decide) ?_
          refine r_lv [1, 2, 0] rfl ?_
          exact ih9 _ _ (Ch.put h5 e15 (by decide)) (by omega) (by omega) (by omega)
  refine r_lv [1, 2, 0] rfl ?_
  exact LP1 43 _ _ Ch.rf (by omega) (by omega) (by omega)
set_option maxHeartbeats 4000000 in
set_option maxRecDepth 100000 in
theorem ctX6_begin_35 (l : Launch) (G : Gt) (w : Wv) (sC : Str KC XC w)  : CtV l G yX6_begin cX6_begin 2 ({ frames := 0, cells := 0, slots := 0, locals := 0 } : Room) [.ref (gz G + 35)] w (fun w' => Ch [35, 36, 37] w w' ∧ wI w' 35 1 = 0) := by
  refine enterV (by decide) (Nat.le_of_ble_eq_true rfl) ?_
  intro x el eG C hnm hret
  subst el; subst eG
  show V x 0 0 w 0 [(0, .ref (gz (xG x) + 35))] []
  have h0 : Ch [35, 36, 37] w w := Ch.rf
  have qm1 : ((-1) : Int32).toInt = (-1) := by decide
  have q0 : (0 : Int32).toInt = 0 := by decide
  have q6 : (6 : Int32).toInt = 6 := by decide
  refine r_aload_n 0 C dX6_begin_0 rfl ?_
  refine r_aload_n 0 C dX6_begin_1 rfl ?_
  refine gfX6_18 3 C (kS sC h0 kc_35) (xS sC h0 xc_35_4) dX6_begin_2 ?_
  refine gfX6_26 (v := (wI w 3 5)) C (kS sC h0 kc_3) rfl dX6_begin_5 ?_
  refine pfX6_32 C (kS sC h0 kc_35) dX6_begin_8 (fun w1 e2 => ?_)
  have h3 := Ch.put h0 e2 (by decide)
  refine r_aload_n 0 C dX6_begin_11 rfl ?_
  refine r_iconst (v := 0) C dX6_begin_12 (by decide) ?_
  refine pfX6_33 C (kS sC h3 kc_35) dX6_begin_13 (fun w4 e5 => ?_)
  have h6 := Ch.put h3 e5 (by decide)
  refine r_iconst (v := 0) C dX6_begin_16 (by decide) ?_
  refine r_istore_n [(1, .int 0), (0, .ref (gz (xG x) + 35))] C dX6_begin_17 (by decide) rfl ?_
  have LP7 : ∀ (f8 : Nat) (i9 : Int32) (w10 : Wv), Ch [36, 37] w4 w10 → 0 ≤ i9.toInt → i9.toInt ≤ 6 → 6 - i9.toInt < f8 → V x 0 0 w10 18 [(0, .ref (gz (xG x) + 35)), (1, .int i9)] [] := by
    intro f8
    induction f8 with
    | zero => intro i9 w10 h11 a12 a13  a14; exfalso; omega
    | succ f8 ih15 =>
      intro i9 w10 h11 a12 a13  a14
      have h16 := Ch.tr h6 h11 (by decide)
      refine r_iload_n 1 C dX6_begin_18 rfl ?_
      refine r_bipush (v := 6) C dX6_begin_19 (by decide) ?_
      refine r_icmp_ge 52 C dX6_begin_21 (by decide) (fun c17 => ?_) (fun c17 => ?_)
      · have c17' := i_le c17
        exact hret _ _ _ dX6_begin_52 ⟨h16, (h11.I (by decide) (g_eq e5))⟩
      · have c17' := i_nle c17
        refine r_aload_n 0 C dX6_begin_24 rfl ?_
        refine gfX6_9 36 C (kS sC h16 kc_35) (xS sC h16 xc_35_2) dX6_begin_25 ?_
        refine r_iload_n 1 C dX6_begin_28 rfl ?_
        refine r_aload_n 0 C dX6_begin_29 rfl ?_
        refine gfX6_18 3 C (kS sC h16 kc_35) (xS sC h16 xc_35_4) dX6_begin_30 ?_
        refine gfX6_36 6 C (kS sC h16 kc_3) (xS sC h16 xc_3_11) dX6_begin_33 ?_
        refine r_iload_n 1 C dX6_begin_36 rfl ?_
        refine r_iald C (kS sC h16 kc_6) (vin (by omega) (by omega)) dX6_begin_37 ?_
        generalize (wI w10 6 (i9).toNatClampNeg) = v18
        refine r_iast C (kS sC h16 kc_36) (vin (by omega) (by omega)) dX6_begin_38 (fun w19 e20 => ?_)
        have h21 := Ch.put h16 e20 (by decide)
        refine r_aload_n 0 C dX6_begin_39 rfl ?_
        refine gfX6_15 37 C (kS sC h21 kc_35) (xS sC h21 xc_35_3) dX6_begin_40 ?_
        refine r_iload_n 1 C dX6_begin_43 rfl ?_
        refine r_iconst (v := (-1)) C dX6_begin_44 (by decide) ?_
        refine r_iast C (kS sC h21 kc_37) (vin (by omega) (by omega)) dX6_begin_45 (fun w22 e23 => ?_)
        have h24 := Ch.put h21 e23 (by decide)
        obtain ⟨i25, e26⟩ : ∃ z : Int32, i9 + Int32.ofInt 1 = z := ⟨_, rfl⟩
        have i25' := iinc_ok e26 (by decide) (by omega) (by omega)
        refine r_iinc [(1, .int i25), (0, .ref (gz (xG x) + 35))] 1 C dX6_begin_46 rfl e26 (by decide) rfl ?_
        refine r_goto 18 C dX6_begin_49 (by decide) ?_
        refine r_lv [1, 0] rfl ?_
        exact ih15 _ _ (Ch.put (Ch.put h11 e20 (by decide)) e23 (by decide)) (by omega) (by omega) (by omega)
  refine r_lv [1, 0] rfl ?_
  exact LP7 7 _ _ Ch.rf (by omega) (by omega) (by omega)
set_option maxHeartbeats 4000000 in
set_option maxRecDepth 100000 in
theorem ctX8_forget_55 (l : Launch) (G : Gt) (w : Wv) (sC : Str KC XC w)  : CtV l G yX8_forget cX8_forget 1 ({ frames := 0, cells := 0, slots := 0, locals := 0 } : Room) [.ref (gz G + 55)] w (fun w' => Ch [55] w w') := by
  refine enterV (by decide) (Nat.le_of_ble_eq_true rfl) ?_
  intro x el eG C hnm hret
  subst el; subst eG
  show V x 0 0 w 0 [(0, .ref (gz (xG x) + 55))] []
  have h0 : Ch [55] w w := Ch.rf
  have q0 : (0 : Int32).toInt = 0 := by decide
  refine r_aload_n 0 C dX8_forget_0 rfl ?_
  refine r_iconst (v := 0) C dX8_forget_1 (by decide) ?_
  refine pfX8_39 C (kS sC h0 kc_55) (z_of (by omega)) dX8_forget_2 (fun w1 e2 => ?_)
  have h3 := Ch.put h0 e2 (by decide)
  exact hret _ _ _ dX8_forget_5 h3
set_option maxHeartbeats 4000000 in
set_option maxRecDepth 100000 in
theorem ctX10_begin_0 (l : Launch) (G : Gt) (w : Wv) (sC : Str KC XC w) (p0 : wI w 3 0 = 0) (p1 : wI w 3 1 = 0) : CtV l G yX10_begin cX10_begin 2 ({ frames := 3, cells := 0, slots := 0, locals := 66 } : Room) [.ref (gz G + 0)] w (fun w' => Ch [21, 22, 26, 28, 29, 33, 35, 36, 37, 44, 47, 55, 104, 109] w w' ∧ wI w' 21 0 = 0 ∧ wI w' 21 2 = 0 ∧ wI w' 21 3 = 0 ∧ wI w' 35 1 = 0 ∧ wI w' 44 0 = 0 ∧ wI w' 47 0 = 0 ∧ wI w' 104 0 = 0 ∧ wI w' 109 0 = 0) := by
  refine enterV (by decide) (Nat.le_of_ble_eq_true rfl) ?_
  intro x el eG C hnm hret
  subst el; subst eG
  show V x 0 0 w 0 [(0, .ref (gz (xG x) + 0))] []
  have h0 : Ch [21, 22, 26, 28, 29, 33, 35, 36, 37, 44, 47, 55, 104, 109] w w := Ch.rf
  have q0 : (0 : Int32).toInt = 0 := by decide
  have q1 : (1 : Int32).toInt = 1 := by decide
  have q2 : (2 : Int32).toInt = 2 := by decide
  refine r_aload_n 0 C dX10_begin_0 rfl ?_
  refine gfX10_29 21 C (kS sC h0 kc_0) (xS sC h0 xc_0_3) dX10_begin_1 ?_
  refine r_aload_n 0 C dX10_begin_4 rfl ?_
  refine gfX10_19 3 C (kS sC h0 kc_0) (xS sC h0 xc_0_1) dX10_begin_5 ?_
  refine callVV C cwX10_279_V (ctX1_lay_21_3 _ _ w (sS sC h0) p0 p1  ) (by decide) (kS sC h0 kc_21) rfl rfl rfl (Nat.le_of_ble_eq_true rfl) (by decide) dX10_begin_8 (fun w2 y1 => ?_)
  show V x 0 0 w2 11 [(0, .ref (gz (xG x) + 0))] []
  obtain ⟨h4, f5, f6, f7⟩ := y1
  have h8 := Ch.tr h0 h4 (by decide)
  refine r_aload_n 0 C dX10_begin_11 rfl ?_
  refine gfX10_33 28 C (kS sC h8 kc_0) (xS sC h8 xc_0_4) dX10_begin_12 ?_
  refine r_aload_n 0 C dX10_begin_15 rfl ?_
  refine gfX10_19 3 C (kS sC h8 kc_0) (xS sC h8 xc_0_1) dX10_begin_16 ?_
  refine callVV C cwX10_279_V (ctX1_lay_28_3 _ _ w2 (sS sC h8) (h4.I (by decide) p0) (h4.I (by decide) p1)  ) (by decide) (kS sC h8 kc_28) rfl rfl rfl (Nat.le_of_ble_eq_true rfl) (by decide) dX10_begin_19 (fun w10 y9 => ?_)
  show V x 0 0 w10 22 [(0, .ref (gz (xG x) + 0))] []
  obtain ⟨h12, f13, f14, f15⟩ := y9
  have h16 := Ch.tr h8 h12 (by decide)
  refine r_aload_n 0 C dX10_begin_22 rfl ?_
  refine gfX10_41 35 C (kS sC h16 kc_0) (xS sC h16 xc_0_5) dX10_begin_23 ?_
  refine callVV C cwX10_283_V (ctX6_begin_35 _ _ w10 (sS sC h16)   ) (by decide) (kS sC h16 kc_35) rfl rfl rfl (Nat.le_of_ble_eq_true rfl) (by decide) dX10_begin_26 (fun w18 y17 => ?_)
  show V x 0 0 w18 29 [(0, .ref (gz (xG x) + 0))] []
  obtain ⟨h20, f21⟩ := y17
  have h22 := Ch.tr h16 h20 (by decide)
  refine r_aload_n 0 C dX10_begin_29 rfl ?_
  refine gfX10_54 44 C (kS sC h22 kc_0) (xS sC h22 xc_0_8) dX10_begin_30 ?_
  refine r_iconst (v := 0) C dX10_begin_33 (by decide) ?_
  refine pfX10_156 C (kS sC h22 kc_44) dX10_begin_34 (fun w23 e24 => ?_)
  have h25 := Ch.put h22 e24 (by decide)
  refine r_aload_n 0 C dX10_begin_37 rfl ?_
  refine gfX10_61 47 C (kS sC h25 kc_0) (xS sC h25 xc_0_9) dX10_begin_38 ?_
  refine r_iconst (v := 0) C dX10_begin_41 (by decide) ?_
  refine pfX10_157 C (kS sC h25 kc_47) dX10_begin_42 (fun w26 e27 => ?_)
  have h28 := Ch.put h25 e27 (by decide)
  refine r_aload_n 0 C dX10_begin_45 rfl ?_
  refine gfX10_77 55 C (kS sC h28 kc_0) (xS sC h28 xc_0_11) dX10_begin_46 ?_
  refine callVV C cwX10_219_V (ctX8_forget_55 _ _ w26 (sS sC h28)   ) (by decide) (kS sC h28 kc_55) rfl rfl rfl (Nat.le_of_ble_eq_true rfl) (by decide) dX10_begin_49 (fun w30 y29 => ?_)
  show V x 0 0 w30 52 [(0, .ref (gz (xG x) + 0))] []
  have h32 := y29
  have h33 := Ch.tr h28 h32 (by decide)
  refine r_iconst (v := 0) C dX10_begin_52 (by decide) ?_
  refine r_istore_n [(1, .int 0), (0, .ref (gz (xG x) + 0))] C dX10_begin_53 (by decide) rfl ?_
  refine r_iload_n 0 C dX10_begin_54 rfl ?_
  refine r_iconst (v := 2) C dX10_begin_55 (by decide) ?_
  refine r_icmp_ge 75 C dX10_begin_56 (by decide) (fun c34 => ?_) (fun c34 => ?_)
  · have c34' := i_le c34
    exfalso; omega
  · have c34' := i_nle c34
    refine r_aload_n 1 C dX10_begin_59 rfl ?_
    refine gfX10_92 103 C (kS sC h33 kc_0) (xS sC h33 xc_0_13) dX10_begin_60 ?_
    refine r_iload_n 0 C dX10_begin_63 rfl ?_
    refine r_aald 4 rfl C (kS sC h33 kc_103) (vin (by omega) (by omega)) (xS sC h33 xc_103_0) dX10_begin_64 ?_
    refine r_iconst (v := 0) C dX10_begin_65 (by decide) ?_
    refine pfX10_270 C (kS sC h33 kc_104) (z_of (by omega)) dX10_begin_66 (fun w35 e36 => ?_)
    have h37 := Ch.put h33 e36 (by decide)
    obtain ⟨i38, e39⟩ : ∃ z : Int32, 0 + Int32.ofInt 1 = z := ⟨_, rfl⟩
    have i38' := iinc_ok e39 (by decide) (by omega) (by omega)
    obtain rfl : i38 = 1 := i_of (by omega)
    refine r_iinc [(1, .int 1), (0, .ref (gz (xG x) + 0))] 0 C dX10_begin_69 rfl e39 (by decide) rfl ?_
    refine r_goto 54 C dX10_begin_72 (by decide) ?_
    refine r_iload_n 0 C dX10_begin_54 rfl ?_
    refine r_iconst (v := 2) C dX10_begin_55 (by decide) ?_
    refine r_icmp_ge 75 C dX10_begin_56 (by decide) (fun c40 => ?_) (fun c40 => ?_)
    · have c40' := i_le c40
      exfalso; omega
    · have c40' := i_nle c40
      refine r_aload_n 1 C dX10_begin_59 rfl ?_
      refine gfX10_92 103 C (kS sC h37 kc_0) (xS sC h37 xc_0_13) dX10_begin_60 ?_
      refine r_iload_n 0 C dX10_begin_63 rfl ?_
      refine r_aald 4 rfl C (kS sC h37 kc_103) (vin (by omega) (by omega)) (xS sC h37 xc_103_1) dX10_begin_64 ?_
      refine r_iconst (v := 0) C dX10_begin_65 (by decide) ?_
      refine pfX10_270 C (kS sC h37 kc_109) (z_of (by omega)) dX10_begin_66 (fun w41 e42 => ?_)
      have h43 := Ch.put h37 e42 (by decide)
      obtain ⟨i44, e45⟩ : ∃ z : Int32, 1 + Int32.ofInt 1 = z := ⟨_, rfl⟩
      have i44' := iinc_ok e45 (by decide) (by omega) (by omega)
      obtain rfl : i44 = 2 := i_of (by omega)
      refine r_iinc [(1, .int 2), (0, .ref (gz (xG x) + 0))] 0 C dX10_begin_69 rfl e45 (by decide) rfl ?_
      refine r_goto 54 C dX10_begin_72 (by decide) ?_
      refine r_iload_n 0 C dX10_begin_54 rfl ?_
      refine r_iconst (v := 2) C dX10_begin_55 (by decide) ?_
      refine r_icmp_ge 75 C dX10_begin_56 (by decide) (fun c46 => ?_) (fun c46 => ?_)
      · have c46' := i_le c46
        exact hret _ _ _ dX10_begin_75 ⟨h43, (g_nn e42 (by decide) (g_nn e36 (by decide) (h32.I (by decide) (g_nn e27 (by decide) (g_nn e24 (by decide) (h20.I (by decide) (h12.I (by decide) f5))))))), (g_nn e42 (by decide) (g_nn e36 (by decide) (h32.I (by decide) (g_nn e27 (by decide) (g_nn e24 (by decide) (h20.I (by decide) (h12.I (by decide) f6))))))), (g_nn e42 (by decide) (g_nn e36 (by decide) (h32.I (by decide) (g_nn e27 (by decide) (g_nn e24 (by decide) (h20.I (by decide) (h12.I (by decide) f7))))))), (g_nn e42 (by decide) (g_nn e36 (by decide) (h32.I (by decide) (g_nn e27 (by decide) (g_nn e24 (by decide) f21))))), (g_nn e42 (by decide) (g_nn e36 (by decide) (h32.I (by decide) (g_nn e27 (by decide) (g_eq e24))))), (g_nn e42 (by decide) (g_nn e36 (by decide) (h32.I (by decide) (g_eq e27)))), (g_nn e42 (by decide) (g_eq e36)), (g_eq e42)⟩
      · have c46' := i_nle c46
        exfalso; omega
set_option maxHeartbeats 4000000 in
set_option maxRecDepth 100000 in
theorem ctX5_add_1 (l : Launch) (G : Gt) (w : Wv) (sC : Str KC XC w) (u : Int32) (pu : wI w 1 0 = u) (bu : 0 ≤ u.toInt ∧ u.toInt ≤ 499) (a1 : Int32) : CtV l G yX5_add cX5_add 2 ({ frames := 0, cells := 0, slots := 0, locals := 0 } : Room) [.ref (gz G + 1), .int a1] w (fun w' => Ch [1, 2] w w' ∧ (wI w' 1 0).toInt = u.toInt + 1) := by
  refine enterV (by decide) (Nat.le_of_ble_eq_true rfl) ?_
  intro x el eG C hnm hret
  subst el; subst eG
  show V x 0 0 w 0 [(0, .ref (gz (xG x) + 1)), (1, .int a1)] []
  have h0 : Ch [1, 2] w w := Ch.rf
  have q1 : (1 : Int32).toInt = 1 := by decide
  have q500 : (500 : Int32).toInt = 500 := by decide
  refine r_aload_n 0 C dX5_add_0 rfl ?_
  refine gfX5_19 (v := u) C (kS sC h0 kc_1) pu dX5_add_1 ?_
  refine r_sipush (v := 500) C dX5_add_4 (by decide) ?_
  refine r_icmp_ge 30 C dX5_add_7 (by decide) (fun c1 => ?_) (fun c1 => ?_)
  · have c1' := i_le c1
    exfalso; omega
  · have c1' := i_nle c1
    refine r_aload_n 0 C dX5_add_10 rfl ?_
    refine gfX5_15 2 C (kS sC h0 kc_1) (xS sC h0 xc_1_3) dX5_add_11 ?_
    refine r_aload_n 0 C dX5_add_14 rfl ?_
    refine gfX5_19 (v := u) C (kS sC h0 kc_1) pu dX5_add_15 ?_
    refine r_iload_n 1 C dX5_add_18 rfl ?_
    refine r_iast C (kS sC h0 kc_2) (vin (by omega) (by omega)) dX5_add_19 (fun w2 e3 => ?_)
    have h4 := Ch.put h0 e3 (by decide)
    refine r_aload_n 0 C dX5_add_20 rfl ?_
    refine r_dup C dX5_add_21 rfl ?_
    refine gfX5_19 (v := u) C (kS sC h4 kc_1) (g_nn e3 (by decide) pu) dX5_add_22 ?_
    refine r_iconst (v := 1) C dX5_add_25 (by decide) ?_
    refine r_iadd C dX5_add_26 (fun v5 e6 => ?_)
    have v5' := iadd_ok e6 (by omega) (by omega)
    refine pfX5_19 C (kS sC h4 kc_1) dX5_add_27 (fun w7 e8 => ?_)
    have h9 := Ch.put h4 e8 (by decide)
    exact hret _ _ _ dX5_add_30 ⟨h9, (by rw [(g_eq e8)]; omega)⟩
set_option maxHeartbeats 4000000 in
set_option maxRecDepth 100000 in
theorem ctX10_feed_0 (l : Launch) (G : Gt) (w : Wv) (sC : Str KC XC w) (p0 : wI w 1 0 = 0) (a1 : Int32) (a2 : Int64) : CtI l G yX10_feed cX10_feed 5 .int ({ frames := 1, cells := 0, slots := 0, locals := 21 } : Room) [.ref (gz G + 0), .int a1, .long a2] w (fun r w' => Ch [1, 2] w w' ∧ (((a1.toInt < 1 ∨ 8 < a1.toInt) → r.toInt = -1000000002) ∧ ((1 ≤ a1.toInt ∧ a1.toInt ≤ 8) → r.toInt = a1.toInt))) := by
  refine enterI (by decide) (Nat.le_of_ble_eq_true rfl) ?_
  intro x el eG C hret
  subst el; subst eG
  show V x 0 0 w 0 [(0, .ref (gz (xG x) + 0)), (1, .int a1), (2, .long a2)] []
  have h0 : Ch [1, 2] w w := Ch.rf
  have qm1000000002 : ((-1000000002) : Int32).toInt = (-1000000002) := by decide
  have q0 : (0 : Int32).toInt = 0 := by decide
  have q1 : (1 : Int32).toInt = 1 := by decide
  have q8 : (8 : Int32).toInt = 8 := by decide
  have q255 : (255 : Int32).toInt = 255 := by decide
  have q500 : (500 : Int32).toInt = 500 := by decide
  refine r_iload_n 1 C dX10_feed_0 rfl ?_
  refine r_iconst (v := 1) C dX10_feed_1 (by decide) ?_
  refine r_icmp_lt 11 C dX10_feed_2 (by decide) (fun c1 => ?_) (fun c1 => ?_)
  · have c1' := i_lt c1
    refine r_ldc C mw2_226 dX10_feed_11 ?_
    exact hret _ _ _ _ dX10_feed_13 rfl ⟨h0, by omega⟩
  · have c1' := i_nlt c1
    refine r_iload_n 1 C dX10_feed_5 rfl ?_
    refine r_bipush (v := 8) C dX10_feed_6 (by decide) ?_
    refine r_icmp_le 14 C dX10_feed_8 (by decide) (fun c2 => ?_) (fun c2 => ?_)
    · have c2' := i_le c2
      refine r_aload_n 0 C dX10_feed_14 rfl ?_
      refine gfX10_10 1 C (kS sC h0 kc_0) (xS sC h0 xc_0_0) dX10_feed_15 ?_
      refine gfX10_101 (v := 0) C (kS sC h0 kc_1) p0 dX10_feed_18 ?_
      refine r_iload_n 1 C dX10_feed_21 rfl ?_
      refine r_iadd C dX10_feed_22 (fun v3 e4 => ?_)
      have v3' := iadd_ok e4 (by omega) (by omega)
      refine r_sipush (v := 500) C dX10_feed_23 (by decide) ?_
      refine r_icmp_le 32 C dX10_feed_26 (by decide) (fun c5 => ?_) (fun c5 => ?_)
      · have c5' := i_le c5
        refine r_iload_n 1 C dX10_feed_32 rfl ?_
        refine r_iconst (v := 1) C dX10_feed_33 (by decide) ?_
        refine r_isub C dX10_feed_34 (fun v6 e7 => ?_)
        have v6' := isub_ok e7 (by omega) (by omega)
        refine r_istore [(4, .int v6), (0, .ref (gz (xG x) + 0)), (1, .int a1), (2, .long a2)] C dX10_feed_35 (by decide) rfl ?_
        have LP8 : ∀ (f9 : Nat) (i10 : Int32) (w11 : Wv), Ch [1, 2] w w11 → (-1) ≤ i10.toInt → i10.toInt ≤ 7 → (wI w11 1 0).toInt = a1.toInt - 1 - i10.toInt ∧ i10.toInt ≤ a1.toInt - 1 → i10.toInt - (-1) < f9 → V x 0 0 w11 37 [(0, .ref (gz (xG x) + 0)), (1, .int a1), (2, .long a2), (4, .int i10)] [] := by
          intro f9
          induction f9 with
          | zero => intro i10 w11 h12 a13 a14 v16 a15; exfalso; omega
          | succ f9 ih17 =>
            intro i10 w11 h12 a13 a14 v16 a15
            have h18 := Ch.tr h0 h12 (by decide)
            refine r_iload 3 C dX10_feed_37 rfl ?_
            refine r_if_lt 67 C dX10_feed_39 (by decide) (fun c19 => ?_) (fun c19 => ?_)
            · have c19' := i_lt c19
              refine r_aload_n 0 C dX10_feed_67 rfl ?_
              refine gfX10_10 1 C (kS sC h18 kc_0) (xS sC h18 xc_0_0) dX10_feed_68 ?_
              refine gfX10_101 (v := (wI w11 1 0)) C (kS sC h18 kc_1) rfl dX10_feed_71 ?_
              exact hret _ _ _ _ dX10_feed_74 rfl ⟨h18, by omega⟩
            · have c19' := i_nlt c19
              refine r_aload_n 0 C dX10_feed_42 rfl ?_
              refine gfX10_10 1 C (kS sC h18 kc_0) (xS sC h18 xc_0_0) dX10_feed_43 ?_
              refine r_lload_n 2 C dX10_feed_46 rfl ?_
              refine r_bipush (v := 8) C dX10_feed_47 (by decide) ?_
              refine r_iload 3 C dX10_feed_49 rfl ?_
              refine r_imul C dX10_feed_51 (fun v20 e21 => ?_)
              have k22 : (8 : Int32).toInt = 8 := by omega
              have v20' := imul_ok e21 (by rw [k22]; omega) (by rw [k22]; omega)
              rw [k22] at v20'
              refine r_lushr C dX10_feed_52 (fun v23 e24 => ?_)
              refine r_l2i C dX10_feed_53 (fun v25 e26 => ?_)
              refine r_sipush (v := 255) C dX10_feed_54 (by decide) ?_
              refine r_iand C dX10_feed_57 (fun v27 e28 => ?_)
              refine callVV C cwX10_106_V (ctX5_add_1 _ _ w11 (sS sC h18) (wI w11 1 0) rfl (by omega)  v27 ) (by decide) (kS sC h18 kc_1) rfl rfl rfl (Nat.le_of_ble_eq_true rfl) (by decide) dX10_feed_58 (fun w30 y29 => ?_)
              show V x 0 0 w30 61 [(0, .ref (gz (xG x) + 0)), (1, .int a1), (2, .long a2), (4, .int i10)] []
              obtain ⟨h32, f33⟩ := y29
              have h34 := Ch.tr h18 h32 (by decide)
              obtain ⟨i35, e36⟩ : ∃ z : Int32, i10 + Int32.ofInt (-1) = z := ⟨_, rfl⟩
              have i35' := iinc_ok e36 (by decide) (by omega) (by omega)
              refine r_iinc [(4, .int i35), (0, .ref (gz (xG x) + 0)), (1, .int a1), (2, .long a2)] 3 C dX10_feed_61 rfl e36 (by decide) rfl ?_
              refine r_goto 37 C dX10_feed_64 (by decide) ?_
              refine r_lv [1, 2, 3, 0] rfl ?_
              exact ih17 _ _ (Ch.tr h12 h32 (by decide)) (by omega) (by omega) (by omega) (by omega)
        refine r_lv [1, 2, 3, 0] rfl ?_
        exact LP8 9 _ _ Ch.rf (by omega) (by omega) (by rw [p0]; omega) (by omega)
      · have c5' := i_nle c5
        exfalso; omega
    · have c2' := i_nle c2
      refine r_ldc C mw2_226 dX10_feed_11 ?_
      exact hret _ _ _ _ dX10_feed_13 rfl ⟨h0, by omega⟩
set_option maxHeartbeats 4000000 in
set_option maxRecDepth 100000 in
theorem ctX9_clear_12 (l : Launch) (G : Gt) (w : Wv) (sC : Str KC XC w)  : CtV l G yX9_clear cX9_clear 2 ({ frames := 0, cells := 0, slots := 0, locals := 0 } : Room) [.ref (gz G + 12)] w (fun w' => Ch [12, 13] w w' ∧ wI w' 12 0 = 0 ∧ wI w' 12 1 = 0 ∧ wI w' 12 3 = 0 ∧ wI w' 12 4 = 0 ∧ wI w' 12 5 = (-1)) := by
  refine enterV (by decide) (Nat.le_of_ble_eq_true rfl) ?_
  intro x el eG C hnm hret
  subst el; subst eG
  show V x 0 0 w 0 [(0, .ref (gz (xG x) + 12))] []
  have h0 : Ch [12, 13] w w := Ch.rf
  have qm1 : ((-1) : Int32).toInt = (-1) := by decide
  have q0 : (0 : Int32).toInt = 0 := by decide
  have q1 : (1 : Int32).toInt = 1 := by decide
  have q42 : (42 : Int32).toInt = 42 := by decide
  refine r_aload_n 0 C dX9_clear_0 rfl ?_
  refine r_iconst (v := 0) C dX9_clear_1 (by decide) ?_
  refine pfX9_36 C (kS sC h0 kc_12) dX9_clear_2 (fun w1 e2 => ?_)
  have h3 := Ch.put h0 e2 (by decide)
  refine r_aload_n 0 C dX9_clear_5 rfl ?_
  refine r_iconst (v := 0) C dX9_clear_6 (by decide) ?_
  refine pfX9_40 C (kS sC h3 kc_12) dX9_clear_7 (fun w4 e5 => ?_)
  have h6 := Ch.put h3 e5 (by decide)
  refine r_aload_n 0 C dX9_clear_10 rfl ?_
  refine r_iconst (v := 0) C dX9_clear_11 (by decide) ?_
  refine pfX9_43 C (kS sC h6 kc_12) dX9_clear_12 (fun w7 e8 => ?_)
  have h9 := Ch.put h6 e8 (by decide)
  refine r_aload_n 0 C dX9_clear_15 rfl ?_
  refine r_iconst (v := 0) C dX9_clear_16 (by decide) ?_
  refine pfX9_46 C (kS sC h9 kc_12) dX9_clear_17 (fun w10 e11 => ?_)
  have h12 := Ch.put h9 e11 (by decide)
  refine r_aload_n 0 C dX9_clear_20 rfl ?_
  refine r_iconst (v := 0) C dX9_clear_21 (by decide) ?_
  refine pfX9_49 C (kS sC h12 kc_12) dX9_clear_22 (fun w13 e14 => ?_)
  have h15 := Ch.put h12 e14 (by decide)
  refine r_aload_n 0 C dX9_clear_25 rfl ?_
  refine r_iconst (v := (-1)) C dX9_clear_26 (by decide) ?_
  refine pfX9_52 C (kS sC h15 kc_12) dX9_clear_27 (fun w16 e17 => ?_)
  have h18 := Ch.put h15 e17 (by decide)
  refine r_aload_n 0 C dX9_clear_30 rfl ?_
  refine r_iconst (v := 0) C dX9_clear_31 (by decide) ?_
  refine pfX9_55 C (kS sC h18 kc_12) (z_of (by omega)) dX9_clear_32 (fun w19 e20 => ?_)
  have h21 := Ch.put h18 e20 (by decide)
  refine r_aload_n 0 C dX9_clear_35 rfl ?_
  refine r_iconst (v := 1) C dX9_clear_36 (by decide) ?_
  refine pfX9_59 C (kS sC h21 kc_12) dX9_clear_37 (fun w22 e23 => ?_)
  have h24 := Ch.put h21 e23 (by decide)
  refine r_aload_n 0 C dX9_clear_40 rfl ?_
  refine r_iconst (v := 1) C dX9_clear_41 (by decide) ?_
  refine pfX9_62 C (kS sC h24 kc_12) dX9_clear_42 (fun w25 e26 => ?_)
  have h27 := Ch.put h24 e26 (by decide)
  refine r_iconst (v := 0) C dX9_clear_45 (by decide) ?_
  refine r_istore_n [(1, .int 0), (0, .ref (gz (xG x) + 12))] C dX9_clear_46 (by decide) rfl ?_
  have LP28 : ∀ (f29 : Nat) (i30 : Int32) (w31 : Wv), Ch [13] w25 w31 → 0 ≤ i30.toInt → i30.toInt ≤ 42 → 42 - i30.toInt < f29 → V x 0 0 w31 47 [(0, .ref (gz (xG x) + 12)), (1, .int i30)] [] := by
    intro f29
    induction f29 with
    | zero => intro i30 w31 h32 a33 a34  a35; exfalso; omega
    | succ f29 ih36 =>
      intro i30 w31 h32 a33 a34  a35
      have h37 := Ch.tr h27 h32 (by decide)
      refine r_iload_n 1 C dX9_clear_47 rfl ?_
      refine r_bipush (v := 42) C dX9_clear_48 (by decide) ?_
      refine r_icmp_ge 66 C dX9_clear_50 (by decide) (fun c38 => ?_) (fun c38 => ?_)
      · have c38' := i_le c38
        exact hret _ _ _ dX9_clear_66 ⟨h37, (h32.I (by decide) (g_nk e26 (by decide) (g_nk e23 (by decide) (g_nk e20 (by decide) (g_nk e17 (by decide) (g_nk e14 (by decide) (g_nk e11 (by decide) (g_nk e8 (by decide) (g_nk e5 (by decide) (g_eq e2)))))))))), (h32.I (by decide) (g_nk e26 (by decide) (g_nk e23 (by decide) (g_nk e20 (by decide) (g_nk e17 (by decide) (g_nk e14 (by decide) (g_nk e11 (by decide) (g_nk e8 (by decide) (g_eq e5))))))))), (h32.I (by decide) (g_nk e26 (by decide) (g_nk e23 (by decide) (g_nk e20 (by decide) (g_nk e17 (by decide) (g_nk e14 (by decide) (g_eq e11))))))), (h32.I (by decide) (g_nk e26 (by decide) (g_nk e23 (by decide) (g_nk e20 (by decide) (g_nk e17 (by decide) (g_eq e14)))))), (h32.I (by decide) (g_nk e26 (by decide) (g_nk e23 (by decide) (g_nk e20 (by decide) (g_eq e17)))))⟩
      · have c38' := i_nle c38
        refine r_aload_n 0 C dX9_clear_53 rfl ?_
        refine gfX9_9 13 C (kS sC h37 kc_12) (xS sC h37 xc_12_9) dX9_clear_54 ?_
        refine r_iload_n 1 C dX9_clear_57 rfl ?_
        refine r_iconst (v := 0) C dX9_clear_58 (by decide) ?_
        refine r_iast C (kS sC h37 kc_13) (vin (by omega) (by omega)) dX9_clear_59 (fun w39 e40 => ?_)
        have h41 := Ch.put h37 e40 (by decide)
        obtain ⟨i42, e43⟩ : ∃ z : Int32, i30 + Int32.ofInt 1 = z := ⟨_, rfl⟩
        have i42' := iinc_ok e43 (by decide) (by omega) (by omega)
        refine r_iinc [(1, .int i42), (0, .ref (gz (xG x) + 12))] 1 C dX9_clear_60 rfl e43 (by decide) rfl ?_
        refine r_goto 47 C dX9_clear_63 (by decide) ?_
        refine r_lv [1, 0] rfl ?_
        exact ih36 _ _ (Ch.put h32 e40 (by decide)) (by omega) (by omega) (by omega)
  refine r_lv [1, 0] rfl ?_
  exact LP28 43 _ _ Ch.rf (by omega) (by omega) (by omega)
set_option maxHeartbeats 4000000 in
set_option maxRecDepth 100000 in
theorem ctX9_placePiperIfUntold_12 (l : Launch) (G : Gt) (w : Wv) (sC : Str KC XC w) (p0 : wI w 12 0 = 0) (p1 : wI w 12 1 = 0) (p2 : wI w 12 5 = (-1)) : CtV l G yX9_placePiperIfUntold cX9_placePiperIfUntold 2 ({ frames := 1, cells := 0, slots := 0, locals := 21 } : Room) [.ref (gz G + 12)] w (fun w' => Ch [12] w w' ∧ wI w' 12 0 = 0 ∧ wI w' 12 1 = 0) := by
  refine enterV (by decide) (Nat.le_of_ble_eq_true rfl) ?_
  intro x el eG C hnm hret
  subst el; subst eG
  show V x 0 0 w 0 [(0, .ref (gz (xG x) + 12))] []
  have h0 : Ch [12] w w := Ch.rf
  have qm1 : ((-1) : Int32).toInt = (-1) := by decide
  have q0 : (0 : Int32).toInt = 0 := by decide
  refine r_iconst (v := 0) C dX9_placePiperIfUntold_0 (by decide) ?_
  refine r_istore_n [(1, .int 0), (0, .ref (gz (xG x) + 12))] C dX9_placePiperIfUntold_1 (by decide) rfl ?_
  refine r_iload_n 0 C dX9_placePiperIfUntold_2 rfl ?_
  refine r_aload_n 1 C dX9_placePiperIfUntold_3 rfl ?_
  refine gfX9_36 (v := 0) C (kS sC h0 kc_12) p0 dX9_placePiperIfUntold_4 ?_
  refine r_aload_n 1 C dX9_placePiperIfUntold_7 rfl ?_
  refine gfX9_40 (v := 0) C (kS sC h0 kc_12) p1 dX9_placePiperIfUntold_8 ?_
  refine r_imul C dX9_placePiperIfUntold_11 (fun v1 e2 => ?_)
  have k3 : (0 : Int32).toInt = 0 := by omega
  have v1' := imul_ok e2 (by rw [k3]; omega) (by rw [k3]; omega)
  rw [k3] at v1'
  refine r_icmp_ge 42 C dX9_placePiperIfUntold_12 (by decide) (fun c4 => ?_) (fun c4 => ?_)
  · have c4' := i_le c4
    refine r_aload_n 1 C dX9_placePiperIfUntold_42 rfl ?_
    refine r_aload_n 1 C dX9_placePiperIfUntold_43 rfl ?_
    refine gfX9_52 (v := (-1)) C (kS sC h0 kc_12) p2 dX9_placePiperIfUntold_44 ?_
    refine r_iconst (v := 0) C dX9_placePiperIfUntold_47 (by decide) ?_
    refine r_mmax C mw3_152 mw3_153 mw1_12 mw3_154 (by decide) (Nat.le_of_ble_eq_true rfl) (by decide) (by decide) dX9_placePiperIfUntold_48 (fun v5 e6 => ?_)
    have v5' := imax_ok e6
    refine pfX9_52 C (kS sC h0 kc_12) dX9_placePiperIfUntold_51 (fun w7 e8 => ?_)
    have h9 := Ch.put h0 e8 (by decide)
    exact hret _ _ _ dX9_placePiperIfUntold_54 ⟨h9, (g_nk e8 (by decide) p0), (g_nk e8 (by decide) p1)⟩
  · have c4' := i_nle c4
    exfalso; omega
set_option maxHeartbeats 4000000 in
set_option maxRecDepth 100000 in
theorem ctX9_clear_3 (l : Launch) (G : Gt) (w : Wv) (sC : Str KC XC w)  : CtV l G yX9_clear cX9_clear 2 ({ frames := 0, cells := 0, slots := 0, locals := 0 } : Room) [.ref (gz G + 3)] w (fun w' => Ch [3, 4] w w' ∧ wI w' 3 0 = 0 ∧ wI w' 3 1 = 0 ∧ wI w' 3 3 = 0 ∧ wI w' 3 4 = 0 ∧ wI w' 3 5 = (-1)) := by
  refine enterV (by decide) (Nat.le_of_ble_eq_true rfl) ?_
  intro x el eG C hnm hret
  subst el; subst eG
  show V x 0 0 w 0 [(0, .ref (gz (xG x) + 3))] []
  have h0 : Ch [3, 4] w w := Ch.rf
  have qm1 : ((-1) : Int32).toInt = (-1) := by decide
  have q0 : (0 : Int32).toInt = 0 := by decide
  have q1 : (1 : Int32).toInt = 1 := by decide
  have q42 : (42 : Int32).toInt = 42 := by decide
  refine r_aload_n 0 C dX9_clear_0 rfl ?_
  refine r_iconst (v := 0) C dX9_clear_1 (by decide) ?_
  refine pfX9_36 C (kS sC h0 kc_3) dX9_clear_2 (fun w1 e2 => ?_)
  have h3 := Ch.put h0 e2 (by decide)
  refine r_aload_n 0 C dX9_clear_5 rfl ?_
  refine r_iconst (v := 0) C dX9_clear_6 (by decide) ?_
  refine pfX9_40 C (kS sC h3 kc_3) dX9_clear_7 (fun w4 e5 => ?_)
  have h6 := Ch.put h3 e5 (by decide)
  refine r_aload_n 0 C dX9_clear_10 rfl ?_
  refine r_iconst (v := 0) C dX9_clear_11 (by decide) ?_
  refine pfX9_43 C (kS sC h6 kc_3) dX9_clear_12 (fun w7 e8 => ?_)
  have h9 := Ch.put h6 e8 (by decide)
  refine r_aload_n 0 C dX9_clear_15 rfl ?_
  refine r_iconst (v := 0) C dX9_clear_16 (by decide) ?_
  refine pfX9_46 C (kS sC h9 kc_3) dX9_clear_17 (fun w10 e11 => ?_)
  have h12 := Ch.put h9 e11 (by decide)
  refine r_aload_n 0 C dX9_clear_20 rfl ?_
  refine r_iconst (v := 0) C dX9_clear_21 (by decide) ?_
  refine pfX9_49 C (kS sC h12 kc_3) dX9_clear_22 (fun w13 e14 => ?_)
  have h15 := Ch.put h12 e14 (by decide)
  refine r_aload_n 0 C dX9_clear_25 rfl ?_
  refine r_iconst (v := (-1)) C dX9_clear_26 (by decide) ?_
  refine pfX9_52 C (kS sC h15 kc_3) dX9_clear_27 (fun w16 e17 => ?_)
  have h18 := Ch.put h15 e17 (by decide)
  refine r_aload_n 0 C dX9_clear_30 rfl ?_
  refine r_iconst (v := 0) C dX9_clear_31 (by decide) ?_
  refine pfX9_55 C (kS sC h18 kc_3) (z_of (by omega)) dX9_clear_32 (fun w19 e20 => ?_)
  have h21 := Ch.put h18 e20 (by decide)
  refine r_aload_n 0 C dX9_clear_35 rfl ?_
  refine r_iconst (v := 1) C dX9_clear_36 (by decide) ?_
  refine pfX9_59 C (kS sC h21 kc_3) dX9_clear_37 (fun w22 e23 => ?_)
  have h24 := Ch.put h21 e23 (by decide)
  refine r_aload_n 0 C dX9_clear_40 rfl ?_
  refine r_iconst (v := 1) C dX9_clear_41 (by decide) ?_
  refine pfX9_62 C (kS sC h24 kc_3) dX9_clear_42 (fun w25 e26 => ?_)
  have h27 := Ch.put h24 e26 (by decide)
  refine r_iconst (v := 0) C dX9_clear_45 (by decide) ?_
  refine r_istore_n [(1, .int 0), (0, .ref (gz (xG x) + 3))] C dX9_clear_46 (by decide) rfl ?_
  have LP28 : ∀ (f29 : Nat) (i30 : Int32) (w31 : Wv), Ch [4] w25 w31 → 0 ≤ i30.toInt → i30.toInt ≤ 42 → 42 - i30.toInt < f29 → V x 0 0 w31 47 [(0, .ref (gz (xG x) + 3)), (1, .int i30)] [] := by
    intro f29
    induction f29 with
    | zero => intro i30 w31 h32 a33 a34  a35; exfalso; omega
    | succ f29 ih36 =>
      intro i30 w31 h32 a33 a34  a35
      have h37 := Ch.tr h27 h32 (by decide)
      refine r_iload_n 1 C dX9_clear_47 rfl ?_
      refine r_bipush (v := 42) C dX9_clear_48 (by decide) ?_
      refine r_icmp_ge 66 C dX9_clear_50 (by decide) (fun c38 => ?_) (fun c38 => ?_)
      · have c38' := i_le c38
        exact hret _ _ _ dX9_clear_66 ⟨h37, (h32.I (by decide) (g_nk e26 (by decide) (g_nk e23 (by decide) (g_nk e20 (by decide) (g_nk e17 (by decide) (g_nk e14 (by decide) (g_nk e11 (by decide) (g_nk e8 (by decide) (g_nk e5 (by decide) (g_eq e2)))))))))), (h32.I (by decide) (g_nk e26 (by decide) (g_nk e23 (by decide) (g_nk e20 (by decide) (g_nk e17 (by decide) (g_nk e14 (by decide) (g_nk e11 (by decide) (g_nk e8 (by decide) (g_eq e5))))))))), (h32.I (by decide) (g_nk e26 (by decide) (g_nk e23 (by decide) (g_nk e20 (by decide) (g_nk e17 (by decide) (g_nk e14 (by decide) (g_eq e11))))))), (h32.I (by decide) (g_nk e26 (by decide) (g_nk e23 (by decide) (g_nk e20 (by decide) (g_nk e17 (by decide) (g_eq e14)))))), (h32.I (by decide) (g_nk e26 (by decide) (g_nk e23 (by decide) (g_nk e20 (by decide) (g_eq e17)))))⟩
      · have c38' := i_nle c38
        refine r_aload_n 0 C dX9_clear_53 rfl ?_
        refine gfX9_9 4 C (kS sC h37 kc_3) (xS sC h37 xc_3_9) dX9_clear_54 ?_
        refine r_iload_n 1 C dX9_clear_57 rfl ?_
        refine r_iconst (v := 0) C dX9_clear_58 (by decide) ?_
        refine r_iast C (kS sC h37 kc_4) (vin (by omega) (by omega)) dX9_clear_59 (fun w39 e40 => ?_)
        have h41 := Ch.put h37 e40 (by decide)
        obtain ⟨i42, e43⟩ : ∃ z : Int32, i30 + Int32.ofInt 1 = z := ⟨_, rfl⟩
        have i42' := iinc_ok e43 (by decide) (by omega) (by omega)
        refine r_iinc [(1, .int i42), (0, .ref (gz (xG x) + 3))] 1 C dX9_clear_60 rfl e43 (by decide) rfl ?_
        refine r_goto 47 C dX9_clear_63 (by decide) ?_
        refine r_lv [1, 0] rfl ?_
        exact ih36 _ _ (Ch.put h32 e40 (by decide)) (by omega) (by omega) (by omega)
  refine r_lv [1, 0] rfl ?_
  exact LP28 43 _ _ Ch.rf (by omega) (by omega) (by omega)
set_option maxHeartbeats 4000000 in
set_option maxRecDepth 100000 in
theorem ctX9_placePiperIfUntold_3 (l : Launch) (G : Gt) (w : Wv) (sC : Str KC XC w) (p0 : wI w 3 0 = 0) (p1 : wI w 3 1 = 0) (p2 : wI w 3 5 = (-1)) : CtV l G yX9_placePiperIfUntold cX9_placePiperIfUntold 2 ({ frames := 1, cells := 0, slots := 0, locals := 21 } : Room) [.ref (gz G + 3)] w (fun w' => Ch [3] w w' ∧ wI w' 3 0 = 0 ∧ wI w' 3 1 = 0) := by
  refine enterV (by decide) (Nat.le_of_ble_eq_true rfl) ?_
  intro x el eG C hnm hret
  subst el; subst eG
  show V x 0 0 w 0 [(0, .ref (gz (xG x) + 3))] []
  have h0 : Ch [3] w w := Ch.rf
  have qm1 : ((-1) : Int32).toInt = (-1) := by decide
  have q0 : (0 : Int32).toInt = 0 := by decide
  refine r_iconst (v := 0) C dX9_placePiperIfUntold_0 (by decide) ?_
  refine r_istore_n [(1, .int 0), (0, .ref (gz (xG x) + 3))] C dX9_placePiperIfUntold_1 (by decide) rfl ?_
  refine r_iload_n 0 C dX9_placePiperIfUntold_2 rfl ?_
  refine r_aload_n 1 C dX9_placePiperIfUntold_3 rfl ?_
  refine gfX9_36 (v := 0) C (kS sC h0 kc_3) p0 dX9_placePiperIfUntold_4 ?_
  refine r_aload_n 1 C dX9_placePiperIfUntold_7 rfl ?_
  refine gfX9_40 (v := 0) C (kS sC h0 kc_3) p1 dX9_placePiperIfUntold_8 ?_
  refine r_imul C dX9_placePiperIfUntold_11 (fun v1 e2 => ?_)
  have k3 : (0 : Int32).toInt = 0 := by omega
  have v1' := imul_ok e2 (by rw [k3]; omega) (by rw [k3]; omega)
  rw [k3] at v1'
  refine r_icmp_ge 42 C dX9_placePiperIfUntold_12 (by decide) (fun c4 => ?_) (fun c4 => ?_)
  · have c4' := i_le c4
    refine r_aload_n 1 C dX9_placePiperIfUntold_42 rfl ?_
    refine r_aload_n 1 C dX9_placePiperIfUntold_43 rfl ?_
    refine gfX9_52 (v := (-1)) C (kS sC h0 kc_3) p2 dX9_placePiperIfUntold_44 ?_
    refine r_iconst (v := 0) C dX9_placePiperIfUntold_47 (by decide) ?_
    refine r_mmax C mw3_152 mw3_153 mw1_12 mw3_154 (by decide) (Nat.le_of_ble_eq_true rfl) (by decide) (by decide) dX9_placePiperIfUntold_48 (fun v5 e6 => ?_)
    have v5' := imax_ok e6
    refine pfX9_52 C (kS sC h0 kc_3) dX9_placePiperIfUntold_51 (fun w7 e8 => ?_)
    have h9 := Ch.put h0 e8 (by decide)
    exact hret _ _ _ dX9_placePiperIfUntold_54 ⟨h9, (g_nk e8 (by decide) p0), (g_nk e8 (by decide) p1)⟩
  · have c4' := i_nle c4
    exfalso; omega
set_option maxHeartbeats 4000000 in
set_option maxRecDepth 100000 in
theorem ctX5_skipBlanks_1 (l : Launch) (G : Gt) (w : Wv) (sC : Str KC XC w) (p0 : wI w 1 0 = 0) (p1 : wI w 1 4 = 0) : CtV l G yX5_skipBlanks cX5_skipBlanks 1 ({ frames := 0, cells := 0, slots := 0, locals := 0 } : Room) [.ref (gz G + 1)] w (fun w' => Ch [] w w') := by
  refine enterV (by decide) (Nat.le_of_ble_eq_true rfl) ?_
  intro x el eG C hnm hret
  subst el; subst eG
  show V x 0 0 w 0 [(0, .ref (gz (xG x) + 1))] []
  have h0 : Ch [] w w := Ch.rf
  have q0 : (0 : Int32).toInt = 0 := by decide
  refine r_aload_n 0 C dX5_skipBlanks_0 rfl ?_
  refine gfX5_27 (v := 0) C (kS sC h0 kc_1) p1 dX5_skipBlanks_1 ?_
  refine r_aload_n 0 C dX5_skipBlanks_4 rfl ?_
  refine gfX5_19 (v := 0) C (kS sC h0 kc_1) p0 dX5_skipBlanks_5 ?_
  refine r_icmp_ge 38 C dX5_skipBlanks_8 (by decide) (fun c1 => ?_) (fun c1 => ?_)
  · have c1' := i_le c1
    exact hret _ _ _ dX5_skipBlanks_38 h0
  · have c1' := i_nle c1
    exfalso; omega
set_option maxHeartbeats 4000000 in
set_option maxRecDepth 100000 in
theorem ctX5_read_1_12 (l : Launch) (G : Gt) (w : Wv) (sC : Str KC XC w) (p0 : wI w 1 0 = 0) : CtI l G yX5_read cX5_read 3 .boolean ({ frames := 2, cells := 0, slots := 0, locals := 42 } : Room) [.ref (gz G + 1), .ref (gz G + 12)] w (fun r w' => Ch [1, 12, 13] w w' ∧ wI w' 1 0 = 0 ∧ wI w' 1 1 = 0 ∧ wI w' 12 0 = 0 ∧ wI w' 12 1 = 0 ∧ (r.toInt = 1)) := by
  refine enterI (by decide) (Nat.le_of_ble_eq_true rfl) ?_
  intro x el eG C hret
  subst el; subst eG
  show V x 0 0 w 0 [(0, .ref (gz (xG x) + 1)), (1, .ref (gz (xG x) + 12))] []
  have h0 : Ch [1, 12, 13] w w := Ch.rf
  have qm1 : ((-1) : Int32).toInt = (-1) := by decide
  have q0 : (0 : Int32).toInt = 0 := by decide
  have q1 : (1 : Int32).toInt = 1 := by decide
  have q500 : (500 : Int32).toInt = 500 := by decide
  refine r_aload_n 1 C dX5_read_0 rfl ?_
  refine callVV C cwX5_22_V (ctX9_clear_12 _ _ w (sS sC h0)   ) (by decide) (kS sC h0 kc_12) rfl rfl rfl (Nat.le_of_ble_eq_true rfl) (by decide) dX5_read_1 (fun w2 y1 => ?_)
  show V x 0 0 w2 4 [(0, .ref (gz (xG x) + 1)), (1, .ref (gz (xG x) + 12))] []
  obtain ⟨h4, f5, f6, f7, f8, f9⟩ := y1
  have h10 := Ch.tr h0 h4 (by decide)
  refine r_aload_n 0 C dX5_read_4 rfl ?_
  refine r_iconst (v := 0) C dX5_read_5 (by decide) ?_
  refine pfX5_27 C (kS sC h10 kc_1) dX5_read_6 (fun w11 e12 => ?_)
  have h13 := Ch.put h10 e12 (by decide)
  refine r_aload_n 0 C dX5_read_9 rfl ?_
  refine r_iconst (v := 0) C dX5_read_10 (by decide) ?_
  refine pfX5_30 C (kS sC h13 kc_1) dX5_read_11 (fun w14 e15 => ?_)
  have h16 := Ch.put h13 e15 (by decide)
  refine r_aload_n 0 C dX5_read_14 rfl ?_
  refine r_iconst (v := (-1)) C dX5_read_15 (by decide) ?_
  refine pfX5_9 C (kS sC h16 kc_1) dX5_read_16 (fun w17 e18 => ?_)
  have h19 := Ch.put h16 e18 (by decide)
  refine r_aload_n 0 C dX5_read_19 rfl ?_
  refine callVV C cwX5_33_V (ctX5_skipBlanks_1 _ _ w17 (sS sC h19) (g_nk e18 (by decide) (g_nk e15 (by decide) (g_nk e12 (by decide) (h4.I (by decide) p0)))) (g_nk e18 (by decide) (g_nk e15 (by decide) (g_eq e12)))  ) (by decide) (kS sC h19 kc_1) rfl rfl rfl (Nat.le_of_ble_eq_true rfl) (by decide) dX5_read_20 (fun w21 y20 => ?_)
  show V x 0 0 w21 23 [(0, .ref (gz (xG x) + 1)), (1, .ref (gz (xG x) + 12))] []
  have h23 := y20
  have h24 := Ch.tr h19 h23 (by decide)
  refine r_iconst (v := 0) C dX5_read_23 (by decide) ?_
  refine r_istore_n [(2, .int 0), (0, .ref (gz (xG x) + 1)), (1, .ref (gz (xG x) + 12))] C dX5_read_24 (by decide) rfl ?_
  refine r_iload_n 0 C dX5_read_25 rfl ?_
  refine r_sipush (v := 500) C dX5_read_26 (by decide) ?_
  refine r_icmp_ge 65 C dX5_read_29 (by decide) (fun c25 => ?_) (fun c25 => ?_)
  · have c25' := i_le c25
    exfalso; omega
  · have c25' := i_nle c25
    refine r_aload_n 1 C dX5_read_32 rfl ?_
    refine gfX5_27 (v := 0) C (kS sC h24 kc_1) (h23.I (by decide) (g_nk e18 (by decide) (g_nk e15 (by decide) (g_eq e12)))) dX5_read_33 ?_
    refine r_aload_n 1 C dX5_read_36 rfl ?_
    refine gfX5_19 (v := 0) C (kS sC h24 kc_1) (h23.I (by decide) (g_nk e18 (by decide) (g_nk e15 (by decide) (g_nk e12 (by decide) (h4.I (by decide) p0))))) dX5_read_37 ?_
    refine r_icmp_ge 65 C dX5_read_40 (by decide) (fun c26 => ?_) (fun c26 => ?_)
    · have c26' := i_le c26
      refine r_aload_n 2 C dX5_read_65 rfl ?_
      refine gfX5_40 (v := 0) C (kS sC h24 kc_12) (h23.I (by decide) (g_nn e18 (by decide) (g_nn e15 (by decide) (g_nn e12 (by decide) f5)))) dX5_read_66 ?_
      refine r_if_ne 88 C dX5_read_69 (by decide) (fun c27 => ?_) (fun c27 => ?_)
      · have c27' := i_ne c27
        exfalso; omega
      · have c27' := i_eq c27
        refine r_aload_n 1 C dX5_read_72 rfl ?_
        refine gfX5_19 (v := 0) C (kS sC h24 kc_1) (h23.I (by decide) (g_nk e18 (by decide) (g_nk e15 (by decide) (g_nk e12 (by decide) (h4.I (by decide) p0))))) dX5_read_73 ?_
        refine r_if_le 88 C dX5_read_76 (by decide) (fun c28 => ?_) (fun c28 => ?_)
        · have c28' := i_le c28
          refine r_aload_n 2 C dX5_read_88 rfl ?_
          refine callVV C cwX5_47_V (ctX9_placePiperIfUntold_12 _ _ w21 (sS sC h24) (h23.I (by decide) (g_nn e18 (by decide) (g_nn e15 (by decide) (g_nn e12 (by decide) f5)))) (h23.I (by decide) (g_nn e18 (by decide) (g_nn e15 (by decide) (g_nn e12 (by decide) f6)))) (h23.I (by decide) (g_nn e18 (by decide) (g_nn e15 (by decide) (g_nn e12 (by decide) f9))))  ) (by decide) (kS sC h24 kc_12) rfl rfl rfl (Nat.le_of_ble_eq_true rfl) (by decide) dX5_read_89 (fun w30 y29 => ?_)
          show V x 0 0 w30 92 [(2, .int 0), (0, .ref (gz (xG x) + 1)), (1, .ref (gz (xG x) + 12))] []
          obtain ⟨h32, f33, f34⟩ := y29
          have h35 := Ch.tr h24 h32 (by decide)
          refine r_aload_n 1 C dX5_read_92 rfl ?_
          refine gfX5_30 (v := 0) C (kS sC h35 kc_1) (h32.I (by decide) (h23.I (by decide) (g_nk e18 (by decide) (g_eq e15)))) dX5_read_93 ?_
          refine r_if_ne 103 C dX5_read_96 (by decide) (fun c36 => ?_) (fun c36 => ?_)
          · have c36' := i_ne c36
            exfalso; omega
          · have c36' := i_eq c36
            refine r_iconst (v := 1) C dX5_read_99 (by decide) ?_
            refine r_goto 104 C dX5_read_100 (by decide) ?_
            exact hret _ _ _ _ dX5_read_104 (nar_z (z_of (by omega))) ⟨h35, (h32.I (by decide) (h23.I (by decide) (g_nk e18 (by decide) (g_nk e15 (by decide) (g_nk e12 (by decide) (h4.I (by decide) p0)))))), (h32.I (by decide) (h23.I (by decide) (g_nk e18 (by decide) (g_eq e15)))), f33, f34, by omega⟩
        · have c28' := i_nle c28
          exfalso; omega
    · have c26' := i_nle c26
      exfalso; omega
set_option maxHeartbeats 4000000 in
set_option maxRecDepth 100000 in
theorem ctX5_read_1_3 (l : Launch) (G : Gt) (w : Wv) (sC : Str KC XC w) (p0 : wI w 1 0 = 0) : CtI l G yX5_read cX5_read 3 .boolean ({ frames := 2, cells := 0, slots := 0, locals := 42 } : Room) [.ref (gz G + 1), .ref (gz G + 3)] w (fun r w' => Ch [1, 3, 4] w w' ∧ wI w' 1 0 = 0 ∧ wI w' 1 1 = 0 ∧ wI w' 3 0 = 0 ∧ wI w' 3 1 = 0 ∧ (r.toInt = 1)) := by
  refine enterI (by decide) (Nat.le_of_ble_eq_true rfl) ?_
  intro x el eG C hret
  subst el; subst eG
  show V x 0 0 w 0 [(0, .ref (gz (xG x) + 1)), (1, .ref (gz (xG x) + 3))] []
  have h0 : Ch [1, 3, 4] w w := Ch.rf
  have qm1 : ((-1) : Int32).toInt = (-1) := by decide
  have q0 : (0 : Int32).toInt = 0 := by decide
  have q1 : (1 : Int32).toInt = 1 := by decide
  have q500 : (500 : Int32).toInt = 500 := by decide
  refine r_aload_n 1 C dX5_read_0 rfl ?_
  refine callVV C cwX5_22_V (ctX9_clear_3 _ _ w (sS sC h0)   ) (by decide) (kS sC h0 kc_3) rfl rfl rfl (Nat.le_of_ble_eq_true rfl) (by decide) dX5_read_1 (fun w2 y1 => ?_)
  show V x 0 0 w2 4 [(0, .ref (gz (xG x) + 1)), (1, .ref (gz (xG x) + 3))] []
  obtain ⟨h4, f5, f6, f7, f8, f9⟩ := y1
  have h10 := Ch.tr h0 h4 (by decide)
  refine r_aload_n 0 C dX5_read_4 rfl ?_
  refine r_iconst (v := 0) C dX5_read_5 (by decide) ?_
  refine pfX5_27 C (kS sC h10 kc_1) dX5_read_6 (fun w11 e12 => ?_)
  have h13 := Ch.put h10 e12 (by decide)
  refine r_aload_n 0 C dX5_read_9 rfl ?_
  refine r_iconst (v := 0) C dX5_read_10 (by decide) ?_
  refine pfX5_30 C (kS sC h13 kc_1) dX5_read_11 (fun w14 e15 => ?_)
  have h16 := Ch.put h13 e15 (by decide)
  refine r_aload_n 0 C dX5_read_14 rfl ?_
  refine r_iconst (v := (-1)) C dX5_read_15 (by decide) ?_
  refine pfX5_9 C (kS sC h16 kc_1) dX5_read_16 (fun w17 e18 => ?_)
  have h19 := Ch.put h16 e18 (by decide)
  refine r_aload_n 0 C dX5_read_19 rfl ?_
  refine callVV C cwX5_33_V (ctX5_skipBlanks_1 _ _ w17 (sS sC h19) (g_nk e18 (by decide) (g_nk e15 (by decide) (g_nk e12 (by decide) (h4.I (by decide) p0)))) (g_nk e18 (by decide) (g_nk e15 (by decide) (g_eq e12)))  ) (by decide) (kS sC h19 kc_1) rfl rfl rfl (Nat.le_of_ble_eq_true rfl) (by decide) dX5_read_20 (fun w21 y20 => ?_)
  show V x 0 0 w21 23 [(0, .ref (gz (xG x) + 1)), (1, .ref (gz (xG x) + 3))] []
  have h23 := y20
  have h24 := Ch.tr h19 h23 (by decide)
  refine r_iconst (v := 0) C dX5_read_23 (by decide) ?_
  refine r_istore_n [(2, .int 0), (0, .ref (gz (xG x) + 1)), (1, .ref (gz (xG x) + 3))] C dX5_read_24 (by decide) rfl ?_
  refine r_iload_n 0 C dX5_read_25 rfl ?_
  refine r_sipush (v := 500) C dX5_read_26 (by decide) ?_
  refine r_icmp_ge 65 C dX5_read_29 (by decide) (fun c25 => ?_) (fun c25 => ?_)
  · have c25' := i_le c25
    exfalso; omega
  · have c25' := i_nle c25
    refine r_aload_n 1 C dX5_read_32 rfl ?_
    refine gfX5_27 (v := 0) C (kS sC h24 kc_1) (h23.I (by decide) (g_nk e18 (by decide) (g_nk e15 (by decide) (g_eq e12)))) dX5_read_33 ?_
    refine r_aload_n 1 C dX5_read_36 rfl ?_
    refine gfX5_19 (v := 0) C (kS sC h24 kc_1) (h23.I (by decide) (g_nk e18 (by decide) (g_nk e15 (by decide) (g_nk e12 (by decide) (h4.I (by decide) p0))))) dX5_read_37 ?_
    refine r_icmp_ge 65 C dX5_read_40 (by decide) (fun c26 => ?_) (fun c26 => ?_)
    · have c26' := i_le c26
      refine r_aload_n 2 C dX5_read_65 rfl ?_
      refine gfX5_40 (v := 0) C (kS sC h24 kc_3) (h23.I (by decide) (g_nn e18 (by decide) (g_nn e15 (by decide) (g_nn e12 (by decide) f5)))) dX5_read_66 ?_
      refine r_if_ne 88 C dX5_read_69 (by decide) (fun c27 => ?_) (fun c27 => ?_)
      · have c27' := i_ne c27
        exfalso; omega
      · have c27' := i_eq c27
        refine r_aload_n 1 C dX5_read_72 rfl ?_
        refine gfX5_19 (v := 0) C (kS sC h24 kc_1) (h23.I (by decide) (g_nk e18 (by decide) (g_nk e15 (by decide) (g_nk e12 (by decide) (h4.I (by decide) p0))))) dX5_read_73 ?_
        refine r_if_le 88 C dX5_read_76 (by decide) (fun c28 => ?_) (fun c28 => ?_)
        · have c28' := i_le c28
          refine r_aload_n 2 C dX5_read_88 rfl ?_
          refine callVV C cwX5_47_V (ctX9_placePiperIfUntold_3 _ _ w21 (sS sC h24) (h23.I (by decide) (g_nn e18 (by decide) (g_nn e15 (by decide) (g_nn e12 (by decide) f5)))) (h23.I (by decide) (g_nn e18 (by decide) (g_nn e15 (by decide) (g_nn e12 (by decide) f6)))) (h23.I (by decide) (g_nn e18 (by decide) (g_nn e15 (by decide) (g_nn e12 (by decide) f9))))  ) (by decide) (kS sC h24 kc_3) rfl rfl rfl (Nat.le_of_ble_eq_true rfl) (by decide) dX5_read_89 (fun w30 y29 => ?_)
          show V x 0 0 w30 92 [(2, .int 0), (0, .ref (gz (xG x) + 1)), (1, .ref (gz (xG x) + 3))] []
          obtain ⟨h32, f33, f34⟩ := y29
          have h35 := Ch.tr h24 h32 (by decide)
          refine r_aload_n 1 C dX5_read_92 rfl ?_
          refine gfX5_30 (v := 0) C (kS sC h35 kc_1) (h32.I (by decide) (h23.I (by decide) (g_nk e18 (by decide) (g_eq e15)))) dX5_read_93 ?_
          refine r_if_ne 103 C dX5_read_96 (by decide) (fun c36 => ?_) (fun c36 => ?_)
          · have c36' := i_ne c36
            exfalso; omega
          · have c36' := i_eq c36
            refine r_iconst (v := 1) C dX5_read_99 (by decide) ?_
            refine r_goto 104 C dX5_read_100 (by decide) ?_
            exact hret _ _ _ _ dX5_read_104 (nar_z (z_of (by omega))) ⟨h35, (h32.I (by decide) (h23.I (by decide) (g_nk e18 (by decide) (g_nk e15 (by decide) (g_nk e12 (by decide) (h4.I (by decide) p0)))))), (h32.I (by decide) (h23.I (by decide) (g_nk e18 (by decide) (g_eq e15)))), f33, f34, by omega⟩
        · have c28' := i_nle c28
          exfalso; omega
    · have c26' := i_nle c26
      exfalso; omega
set_option maxHeartbeats 4000000 in
set_option maxRecDepth 100000 in
theorem ctX10_town_0 (l : Launch) (G : Gt) (w : Wv) (sC : Str KC XC w) (p0 : wI w 1 0 = 0) : CtI l G yX10_town cX10_town 2 .int ({ frames := 4, cells := 0, slots := 0, locals := 87 } : Room) [.ref (gz G + 0)] w (fun r w' => Ch [1, 12, 13, 3, 4, 21, 22, 26, 28, 29, 33, 35, 36, 37, 44, 47, 55, 104, 109] w w' ∧ (r.toInt = 0)) := by
  refine enterI (by decide) (Nat.le_of_ble_eq_true rfl) ?_
  intro x el eG C hret
  subst el; subst eG
  show V x 0 0 w 0 [(0, .ref (gz (xG x) + 0))] []
  have h0 : Ch [1, 12, 13, 3, 4, 21, 22, 26, 28, 29, 33, 35, 36, 37, 44, 47, 55, 104, 109] w w := Ch.rf
  have q0 : (0 : Int32).toInt = 0 := by decide
  refine r_aload_n 0 C dX10_town_0 rfl ?_
  refine gfX10_10 1 C (kS sC h0 kc_0) (xS sC h0 xc_0_0) dX10_town_1 ?_
  refine r_aload_n 0 C dX10_town_4 rfl ?_
  refine gfX10_23 12 C (kS sC h0 kc_0) (xS sC h0 xc_0_2) dX10_town_5 ?_
  refine callVI C cwX10_110_V (ctX5_read_1_12 _ _ w (sS sC h0) p0  ) (by decide) (kS sC h0 kc_1) rfl rfl rfl (Nat.le_of_ble_eq_true rfl) (by decide) dX10_town_8 (fun r3 w2 y1 => ?_)
  show V x 0 0 w2 11 [(0, .ref (gz (xG x) + 0))] [.int r3]
  obtain ⟨h4, f5, f6, f7, f8, g9⟩ := y1
  have h10 := Ch.tr h0 h4 (by decide)
  refine r_istore_n [(1, .int r3), (0, .ref (gz (xG x) + 0))] C dX10_town_11 (by decide) rfl ?_
  refine r_iload_n 0 C dX10_town_12 rfl ?_
  refine r_if_eq 32 C dX10_town_13 (by decide) (fun c11 => ?_) (fun c11 => ?_)
  · have c11' := i_eq c11
    exfalso; omega
  · have c11' := i_ne c11
    refine r_aload_n 1 C dX10_town_16 rfl ?_
    refine gfX10_10 1 C (kS sC h10 kc_0) (xS sC h10 xc_0_0) dX10_town_17 ?_
    refine r_aload_n 1 C dX10_town_20 rfl ?_
    refine gfX10_19 3 C (kS sC h10 kc_0) (xS sC h10 xc_0_1) dX10_town_21 ?_
    refine callVI C cwX10_110_V (ctX5_read_1_3 _ _ w2 (sS sC h10) f5  ) (by decide) (kS sC h10 kc_1) rfl rfl rfl (Nat.le_of_ble_eq_true rfl) (by decide) dX10_town_24 (fun r14 w13 y12 => ?_)
    show V x 0 0 w13 27 [(1, .int r3), (0, .ref (gz (xG x) + 0))] [.int r14]
    obtain ⟨h15, f16, f17, f18, f19, g20⟩ := y12
    have h21 := Ch.tr h10 h15 (by decide)
    refine r_pop C dX10_town_27 rfl ?_
    refine r_aload_n 1 C dX10_town_28 rfl ?_
    refine callVV C cwX10_97_V (ctX10_begin_0 _ _ w13 (sS sC h21) f18 f19  ) (by decide) (kS sC h21 kc_0) rfl rfl rfl (Nat.le_of_ble_eq_true rfl) (by decide) dX10_town_29 (fun w23 y22 => ?_)
    show V x 0 0 w23 32 [(1, .int r3), (0, .ref (gz (xG x) + 0))] []
    obtain ⟨h25, f26, f27, f28, f29, f30, f31, f32, f33⟩ := y22
    have h34 := Ch.tr h21 h25 (by decide)
    refine r_aload_n 1 C dX10_town_32 rfl ?_
    refine gfX10_10 1 C (kS sC h34 kc_0) (xS sC h34 xc_0_0) dX10_town_33 ?_
    refine r_iconst (v := 0) C dX10_town_36 (by decide) ?_
    refine pfX10_101 C (kS sC h34 kc_1) dX10_town_37 (fun w35 e36 => ?_)
    have h37 := Ch.put h34 e36 (by decide)
    refine r_iload_n 0 C dX10_town_40 rfl ?_
    refine r_if_eq 54 C dX10_town_41 (by decide) (fun c38 => ?_) (fun c38 => ?_)
    · have c38' := i_eq c38
      exfalso; omega
    · have c38' := i_ne c38
      refine r_aload_n 1 C dX10_town_44 rfl ?_
      refine gfX10_29 21 C (kS sC h37 kc_0) (xS sC h37 xc_0_3) dX10_town_45 ?_
      refine gfX10_114 (v := 0) C (kS sC h37 kc_21) (g_nn e36 (by decide) f26) dX10_town_48 ?_
      refine r_goto 64 C dX10_town_51 (by decide) ?_
      exact hret _ _ _ _ dX10_town_64 rfl ⟨h37, by omega⟩
set_option maxHeartbeats 4000000 in
set_option maxRecDepth 100000 in
theorem ctX10_fault_0 (l : Launch) (G : Gt) (w : Wv) (sC : Str KC XC w) (p0 : wI w 1 2 = (-1)) : CtI l G yX10_fault cX10_fault 1 .int ({ frames := 0, cells := 0, slots := 0, locals := 0 } : Room) [.ref (gz G + 0)] w (fun r w' => Ch [] w w' ∧ (r.toInt = -1)) := by
  refine enterI (by decide) (Nat.le_of_ble_eq_true rfl) ?_
  intro x el eG C hret
  subst el; subst eG
  show V x 0 0 w 0 [(0, .ref (gz (xG x) + 0))] []
  have h0 : Ch [] w w := Ch.rf
  have qm1 : ((-1) : Int32).toInt = (-1) := by decide
  refine r_aload_n 0 C dX10_fault_0 rfl ?_
  refine gfX10_10 1 C (kS sC h0 kc_0) (xS sC h0 xc_0_0) dX10_fault_1 ?_
  refine gfX10_120 (v := (-1)) C (kS sC h0 kc_1) p0 dX10_fault_4 ?_
  exact hret _ _ _ _ dX10_fault_7 rfl ⟨h0, by omega⟩
set_option maxHeartbeats 4000000 in
set_option maxRecDepth 100000 in
theorem ctX6_heads_35 (l : Launch) (G : Gt) (w : Wv) (sC : Str KC XC w) (p0 : wI w 3 3 = 0) (a1 : Int32) (a2 : Int32) : CtI l G yX6_heads cX6_heads 5 .int ({ frames := 0, cells := 0, slots := 0, locals := 0 } : Room) [.ref (gz G + 35), .int a1, .int a2] w (fun r w' => Ch [] w w' ∧ (r.toInt = 0)) := by
  refine enterI (by decide) (Nat.le_of_ble_eq_true rfl) ?_
  intro x el eG C hret
  subst el; subst eG
  show V x 0 0 w 0 [(0, .ref (gz (xG x) + 35)), (1, .int a1), (2, .int a2)] []
  have h0 : Ch [] w w := Ch.rf
  have q0 : (0 : Int32).toInt = 0 := by decide
  refine r_iconst (v := 0) C dX6_heads_0 (by decide) ?_
  refine r_istore_n [(3, .int 0), (0, .ref (gz (xG x) + 35)), (1, .int a1), (2, .int a2)] C dX6_heads_1 (by decide) rfl ?_
  refine r_iconst (v := 0) C dX6_heads_2 (by decide) ?_
  refine r_istore [(4, .int 0), (3, .int 0), (0, .ref (gz (xG x) + 35)), (1, .int a1), (2, .int a2)] C dX6_heads_3 (by decide) rfl ?_
  refine r_iload 0 C dX6_heads_5 rfl ?_
  refine r_aload_n 2 C dX6_heads_7 rfl ?_
  refine gfX6_18 3 C (kS sC h0 kc_35) (xS sC h0 xc_35_4) dX6_heads_8 ?_
  refine gfX6_39 (v := 0) C (kS sC h0 kc_3) p0 dX6_heads_11 ?_
  refine r_icmp_ge 64 C dX6_heads_14 (by decide) (fun c1 => ?_) (fun c1 => ?_)
  · have c1' := i_le c1
    refine r_iload_n 1 C dX6_heads_64 rfl ?_
    exact hret _ _ _ _ dX6_heads_65 rfl ⟨h0, by omega⟩
  · have c1' := i_nle c1
    exfalso; omega
set_option maxHeartbeats 4000000 in
set_option maxRecDepth 100000 in
theorem ctX6_heads_38 (l : Launch) (G : Gt) (w : Wv) (sC : Str KC XC w) (p0 : wI w 3 3 = 0) (a1 : Int32) (a2 : Int32) : CtI l G yX6_heads cX6_heads 5 .int ({ frames := 0, cells := 0, slots := 0, locals := 0 } : Room) [.ref (gz G + 38), .int a1, .int a2] w (fun r w' => Ch [] w w' ∧ (r.toInt = 0)) := by
  refine enterI (by decide) (Nat.le_of_ble_eq_true rfl) ?_
  intro x el eG C hret
  subst el; subst eG
  show V x 0 0 w 0 [(0, .ref (gz (xG x) + 38)), (1, .int a1), (2, .int a2)] []
  have h0 : Ch [] w w := Ch.rf
  have q0 : (0 : Int32).toInt = 0 := by decide
  refine r_iconst (v := 0) C dX6_heads_0 (by decide) ?_
  refine r_istore_n [(3, .int 0), (0, .ref (gz (xG x) + 38)), (1, .int a1), (2, .int a2)] C dX6_heads_1 (by decide) rfl ?_
  refine r_iconst (v := 0) C dX6_heads_2 (by decide) ?_
  refine r_istore [(4, .int 0), (3, .int 0), (0, .ref (gz (xG x) + 38)), (1, .int a1), (2, .int a2)] C dX6_heads_3 (by decide) rfl ?_
  refine r_iload 0 C dX6_heads_5 rfl ?_
  refine r_aload_n 2 C dX6_heads_7 rfl ?_
  refine gfX6_18 3 C (kS sC h0 kc_38) (xS sC h0 xc_38_4) dX6_heads_8 ?_
  refine gfX6_39 (v := 0) C (kS sC h0 kc_3) p0 dX6_heads_11 ?_
  refine r_icmp_ge 64 C dX6_heads_14 (by decide) (fun c1 => ?_) (fun c1 => ?_)
  · have c1' := i_le c1
    refine r_iload_n 1 C dX6_heads_64 rfl ?_
    exact hret _ _ _ _ dX6_heads_65 rfl ⟨h0, by omega⟩
  · have c1' := i_nle c1
    exfalso; omega
set_option maxHeartbeats 4000000 in
set_option maxRecDepth 100000 in
theorem ctX6_left_35 (l : Launch) (G : Gt) (w : Wv) (sC : Str KC XC w) (p0 : wI w 3 3 = 0) : CtI l G yX6_left cX6_left 3 .int ({ frames := 0, cells := 0, slots := 0, locals := 0 } : Room) [.ref (gz G + 35)] w (fun r w' => Ch [] w w' ∧ (r.toInt = 0)) := by
  refine enterI (by decide) (Nat.le_of_ble_eq_true rfl) ?_
  intro x el eG C hret
  subst el; subst eG
  show V x 0 0 w 0 [(0, .ref (gz (xG x) + 35))] []
  have h0 : Ch [] w w := Ch.rf
  have q0 : (0 : Int32).toInt = 0 := by decide
  refine r_iconst (v := 0) C dX6_left_0 (by decide) ?_
  refine r_istore_n [(1, .int 0), (0, .ref (gz (xG x) + 35))] C dX6_left_1 (by decide) rfl ?_
  refine r_iconst (v := 0) C dX6_left_2 (by decide) ?_
  refine r_istore_n [(2, .int 0), (1, .int 0), (0, .ref (gz (xG x) + 35))] C dX6_left_3 (by decide) rfl ?_
  refine r_iload_n 0 C dX6_left_4 rfl ?_
  refine r_aload_n 2 C dX6_left_5 rfl ?_
  refine gfX6_18 3 C (kS sC h0 kc_35) (xS sC h0 xc_35_4) dX6_left_6 ?_
  refine gfX6_39 (v := 0) C (kS sC h0 kc_3) p0 dX6_left_9 ?_
  refine r_icmp_ge 53 C dX6_left_12 (by decide) (fun c1 => ?_) (fun c1 => ?_)
  · have c1' := i_le c1
    refine r_iload_n 1 C dX6_left_53 rfl ?_
    exact hret _ _ _ _ dX6_left_54 rfl ⟨h0, by omega⟩
  · have c1' := i_nle c1
    exfalso; omega
set_option maxHeartbeats 4000000 in
set_option maxRecDepth 100000 in
theorem ctX6_worth_35 (l : Launch) (G : Gt) (w : Wv) (sC : Str KC XC w) (p0 : wI w 3 3 = 0) : CtI l G yX6_worth cX6_worth 1 .int ({ frames := 1, cells := 0, slots := 0, locals := 24 } : Room) [.ref (gz G + 35)] w (fun r w' => Ch [] w w' ∧ (r.toInt = 0)) := by
  refine enterI (by decide) (Nat.le_of_ble_eq_true rfl) ?_
  intro x el eG C hret
  subst el; subst eG
  show V x 0 0 w 0 [(0, .ref (gz (xG x) + 35))] []
  have h0 : Ch [] w w := Ch.rf
  have qm1 : ((-1) : Int32).toInt = (-1) := by decide
  have q0 : (0 : Int32).toInt = 0 := by decide
  have q1 : (1 : Int32).toInt = 1 := by decide
  have q2 : (2 : Int32).toInt = 2 := by decide
  refine r_aload_n 0 C dX6_worth_0 rfl ?_
  refine gfX6_18 3 C (kS sC h0 kc_35) (xS sC h0 xc_35_4) dX6_worth_1 ?_
  refine gfX6_103 (v := (wI w 3 7)) C (kS sC h0 kc_3) rfl dX6_worth_4 ?_
  refine r_aload_n 0 C dX6_worth_7 rfl ?_
  refine r_iconst (v := (-1)) C dX6_worth_8 (by decide) ?_
  refine r_iconst (v := 1) C dX6_worth_9 (by decide) ?_
  refine callVI C cwX6_106_V (ctX6_heads_35 _ _ w (sS sC h0) p0 (-1) 1 ) (by decide) (kS sC h0 kc_35) rfl rfl rfl (Nat.le_of_ble_eq_true rfl) (by decide) dX6_worth_10 (fun r3 w2 y1 => ?_)
  show V x 0 0 w2 13 [(0, .ref (gz (xG x) + 35))] [.int r3, .int (wI w 3 7)]
  obtain ⟨h4, g5⟩ := y1
  have h6 := Ch.tr h0 h4 (by decide)
  refine r_imul C dX6_worth_13 (fun v7 e8 => ?_)
  have k9 : (r3 : Int32).toInt = 0 := by omega
  have v7' := imul_ok e8 (by rw [k9]; omega) (by rw [k9]; omega)
  rw [k9] at v7'
  refine r_aload_n 0 C dX6_worth_14 rfl ?_
  refine gfX6_18 3 C (kS sC h6 kc_35) (xS sC h6 xc_35_4) dX6_worth_15 ?_
  refine gfX6_108 (v := (wI w 3 8)) C (kS sC h6 kc_3) (h4.I (by decide) rfl) dX6_worth_18 ?_
  refine r_aload_n 0 C dX6_worth_21 rfl ?_
  refine r_iconst (v := (-1)) C dX6_worth_22 (by decide) ?_
  refine r_iconst (v := 2) C dX6_worth_23 (by decide) ?_
  refine callVI C cwX6_106_V (ctX6_heads_35 _ _ w2 (sS sC h6) (h4.I (by decide) p0) (-1) 2 ) (by decide) (kS sC h6 kc_35) rfl rfl rfl (Nat.le_of_ble_eq_true rfl) (by decide) dX6_worth_24 (fun r12 w11 y10 => ?_)
  show V x 0 0 w11 27 [(0, .ref (gz (xG x) + 35))] [.int r12, .int (wI w 3 8), .int v7]
  obtain ⟨h13, g14⟩ := y10
  have h15 := Ch.tr h6 h13 (by decide)
  refine r_imul C dX6_worth_27 (fun v16 e17 => ?_)
  have k18 : (r12 : Int32).toInt = 0 := by omega
  have v16' := imul_ok e17 (by rw [k18]; omega) (by rw [k18]; omega)
  rw [k18] at v16'
  refine r_isub C dX6_worth_28 (fun v19 e20 => ?_)
  have v19' := isub_ok e20 (by omega) (by omega)
  exact hret _ _ _ _ dX6_worth_29 rfl ⟨h15, by omega⟩
set_option maxHeartbeats 4000000 in
set_option maxRecDepth 100000 in
theorem ctX6_worth_38 (l : Launch) (G : Gt) (w : Wv) (sC : Str KC XC w) (p0 : wI w 3 3 = 0) : CtI l G yX6_worth cX6_worth 1 .int ({ frames := 1, cells := 0, slots := 0, locals := 24 } : Room) [.ref (gz G + 38)] w (fun r w' => Ch [] w w' ∧ (r.toInt = 0)) := by
  refine enterI (by decide) (Nat.le_of_ble_eq_true rfl) ?_
  intro x el eG C hret
  subst el; subst eG
  show V x 0 0 w 0 [(0, .ref (gz (xG x) + 38))] []
  have h0 : Ch [] w w := Ch.rf
  have qm1 : ((-1) : Int32).toInt = (-1) := by decide
  have q0 : (0 : Int32).toInt = 0 := by decide
  have q1 : (1 : Int32).toInt = 1 := by decide
  have q2 : (2 : Int32).toInt = 2 := by decide
  refine r_aload_n 0 C dX6_worth_0 rfl ?_
  refine gfX6_18 3 C (kS sC h0 kc_38) (xS sC h0 xc_38_4) dX6_worth_1 ?_
  refine gfX6_103 (v := (wI w 3 7)) C (kS sC h0 kc_3) rfl dX6_worth_4 ?_
  refine r_aload_n 0 C dX6_worth_7 rfl ?_
  refine r_iconst (v := (-1)) C dX6_worth_8 (by decide) ?_
  refine r_iconst (v := 1) C dX6_worth_9 (by decide) ?_
  refine callVI C cwX6_106_V (ctX6_heads_38 _ _ w (sS sC h0) p0 (-1) 1 ) (by decide) (kS sC h0 kc_38) rfl rfl rfl (Nat.le_of_ble_eq_true rfl) (by decide) dX6_worth_10 (fun r3 w2 y1 => ?_)
  show V x 0 0 w2 13 [(0, .ref (gz (xG x) + 38))] [.int r3, .int (wI w 3 7)]
  obtain ⟨h4, g5⟩ := y1
  have h6 := Ch.tr h0 h4 (by decide)
  refine r_imul C dX6_worth_13 (fun v7 e8 => ?_)
  have k9 : (r3 : Int32).toInt = 0 := by omega
  have v7' := imul_ok e8 (by rw [k9]; omega) (by rw [k9]; omega)
  rw [k9] at v7'
  refine r_aload_n 0 C dX6_worth_14 rfl ?_
  refine gfX6_18 3 C (kS sC h6 kc_38) (xS sC h6 xc_38_4) dX6_worth_15 ?_
  refine gfX6_108 (v := (wI w 3 8)) C (kS sC h6 kc_3) (h4.I (by decide) rfl) dX6_worth_18 ?_
  refine r_aload_n 0 C dX6_worth_21 rfl ?_
  refine r_iconst (v := (-1)) C dX6_worth_22 (by decide) ?_
  refine r_iconst (v := 2) C dX6_worth_23 (by decide) ?_
  refine callVI C cwX6_106_V (ctX6_heads_38 _ _ w2 (sS sC h6) (h4.I (by decide) p0) (-1) 2 ) (by decide) (kS sC h6 kc_38) rfl rfl rfl (Nat.le_of_ble_eq_true rfl) (by decide) dX6_worth_24 (fun r12 w11 y10 => ?_)
  show V x 0 0 w11 27 [(0, .ref (gz (xG x) + 38))] [.int r12, .int (wI w 3 8), .int v7]
  obtain ⟨h13, g14⟩ := y10
  have h15 := Ch.tr h6 h13 (by decide)
  refine r_imul C dX6_worth_27 (fun v16 e17 => ?_)
  have k18 : (r12 : Int32).toInt = 0 := by omega
  have v16' := imul_ok e17 (by rw [k18]; omega) (by rw [k18]; omega)
  rw [k18] at v16'
  refine r_isub C dX6_worth_28 (fun v19 e20 => ?_)
  have v19' := isub_ok e20 (by omega) (by omega)
  exact hret _ _ _ _ dX6_worth_29 rfl ⟨h15, by omega⟩
set_option maxHeartbeats 4000000 in
set_option maxRecDepth 100000 in
theorem ctX10_told_0 (l : Launch) (G : Gt) (w : Wv) (sC : Str KC XC w) (p0 : wI w 3 0 = 0) (p1 : wI w 3 1 = 0) (p2 : wI w 3 3 = 0) (p3 : wI w 3 4 = 0) (p4 : wI w 1 0 = 0) (p5 : wI w 35 1 = 0) (p6 : wI w 21 0 = 0) (p7 : wI w 44 0 = 0) (p8 : wI w 47 0 = 0) (a1 : Int32) : CtI l G yX10_told cX10_told 2 .int ({ frames := 2, cells := 0, slots := 0, locals := 44 } : Room) [.ref (gz G + 0), .int a1] w (fun r w' => Ch [] w w' ∧ (((0 ≤ a1.toInt ∧ a1.toInt ≤ 12) → r.toInt = 0) ∧ ((a1.toInt < 0 ∨ 12 < a1.toInt) → r.toInt = -1000000002))) := by
  refine enterI (by decide) (Nat.le_of_ble_eq_true rfl) ?_
  intro x el eG C hret
  subst el; subst eG
  show V x 0 0 w 0 [(0, .ref (gz (xG x) + 0)), (1, .int a1)] []
  have h0 : Ch [] w w := Ch.rf
  have qm1000000002 : ((-1000000002) : Int32).toInt = (-1000000002) := by decide
  have qm1 : ((-1) : Int32).toInt = (-1) := by decide
  have q0 : (0 : Int32).toInt = 0 := by decide
  have q1 : (1 : Int32).toInt = 1 := by decide
  have q2 : (2 : Int32).toInt = 2 := by decide
  refine r_iload_n 1 C dX10_told_0 rfl ?_
  by_cases c1 : a1.toInt < 0 ∨ 12 < a1.toInt
  · refine r_tabOut 197 C dX10_told_1 c1 (by decide) ?_
    refine r_ldc C mw2_226 dX10_told_197 ?_
    exact hret _ _ _ _ dX10_told_199 rfl ⟨h0, by omega⟩
  · rcases (show a1.toInt = 0 ∨ a1.toInt = 1 ∨ a1.toInt = 2 ∨ a1.toInt = 3 ∨ a1.toInt = 4 ∨ a1.toInt = 5 ∨ a1.toInt = 6 ∨ a1.toInt = 7 ∨ a1.toInt = 8 ∨ a1.toInt = 9 ∨ a1.toInt = 10 ∨ a1.toInt = 11 ∨ a1.toInt = 12 by omega) with c1 | c1 | c1 | c1 | c1 | c1 | c1 | c1 | c1 | c1 | c1 | c1 | c1
    · refine r_tabIn 68 C dX10_told_1 (by omega) (by omega) (by rw [c1]; rfl) (by decide) ?_
      refine r_aload_n 0 C dX10_told_68 rfl ?_
      refine gfX10_19 3 C (kS sC h0 kc_0) (xS sC h0 xc_0_1) dX10_told_69 ?_
      refine gfX10_123 (v := 0) C (kS sC h0 kc_3) p0 dX10_told_72 ?_
      exact hret _ _ _ _ dX10_told_75 rfl ⟨h0, by omega⟩
    · refine r_tabIn 76 C dX10_told_1 (by omega) (by omega) (by rw [c1]; rfl) (by decide) ?_
      refine r_aload_n 0 C dX10_told_76 rfl ?_
      refine gfX10_19 3 C (kS sC h0 kc_0) (xS sC h0 xc_0_1) dX10_told_77 ?_
      refine gfX10_126 (v := 0) C (kS sC h0 kc_3) p1 dX10_told_80 ?_
      exact hret _ _ _ _ dX10_told_83 rfl ⟨h0, by omega⟩
    · refine r_tabIn 84 C dX10_told_1 (by omega) (by omega) (by rw [c1]; rfl) (by decide) ?_
      refine r_aload_n 0 C dX10_told_84 rfl ?_
      refine gfX10_19 3 C (kS sC h0 kc_0) (xS sC h0 xc_0_1) dX10_told_85 ?_
      refine gfX10_129 (v := 0) C (kS sC h0 kc_3) p2 dX10_told_88 ?_
      exact hret _ _ _ _ dX10_told_91 rfl ⟨h0, by omega⟩
    · refine r_tabIn 92 C dX10_told_1 (by omega) (by omega) (by rw [c1]; rfl) (by decide) ?_
      refine r_aload_n 0 C dX10_told_92 rfl ?_
      refine gfX10_19 3 C (kS sC h0 kc_0) (xS sC h0 xc_0_1) dX10_told_93 ?_
      refine gfX10_132 (v := 0) C (kS sC h0 kc_3) p3 dX10_told_96 ?_
      exact hret _ _ _ _ dX10_told_99 rfl ⟨h0, by omega⟩
    · refine r_tabIn 100 C dX10_told_1 (by omega) (by omega) (by rw [c1]; rfl) (by decide) ?_
      refine r_aload_n 0 C dX10_told_100 rfl ?_
      refine gfX10_10 1 C (kS sC h0 kc_0) (xS sC h0 xc_0_0) dX10_told_101 ?_
      refine gfX10_101 (v := 0) C (kS sC h0 kc_1) p4 dX10_told_104 ?_
      exact hret _ _ _ _ dX10_told_107 rfl ⟨h0, by omega⟩
    · refine r_tabIn 108 C dX10_told_1 (by omega) (by omega) (by rw [c1]; rfl) (by decide) ?_
      refine r_aload_n 0 C dX10_told_108 rfl ?_
      refine gfX10_41 35 C (kS sC h0 kc_0) (xS sC h0 xc_0_5) dX10_told_109 ?_
      refine gfX10_135 (v := 0) C (kS sC h0 kc_35) p5 dX10_told_112 ?_
      exact hret _ _ _ _ dX10_told_115 rfl ⟨h0, by omega⟩
    · refine r_tabIn 116 C dX10_told_1 (by omega) (by omega) (by rw [c1]; rfl) (by decide) ?_
      refine r_aload_n 0 C dX10_told_116 rfl ?_
      refine gfX10_29 21 C (kS sC h0 kc_0) (xS sC h0 xc_0_3) dX10_told_117 ?_
      refine gfX10_114 (v := 0) C (kS sC h0 kc_21) p6 dX10_told_120 ?_
      refine r_if_ne 130 C dX10_told_123 (by decide) (fun c2 => ?_) (fun c2 => ?_)
      · have c2' := i_ne c2
        exfalso; omega
      · have c2' := i_eq c2
        refine r_iconst (v := 0) C dX10_told_126 (by decide) ?_
        refine r_goto 144 C dX10_told_127 (by decide) ?_
        exact hret _ _ _ _ dX10_told_144 rfl ⟨h0, by omega⟩
    · refine r_tabIn 145 C dX10_told_1 (by omega) (by omega) (by rw [c1]; rfl) (by decide) ?_
      refine r_aload_n 0 C dX10_told_145 rfl ?_
      refine gfX10_41 35 C (kS sC h0 kc_0) (xS sC h0 xc_0_5) dX10_told_146 ?_
      refine r_iconst (v := (-1)) C dX10_told_149 (by decide) ?_
      refine r_iconst (v := 1) C dX10_told_150 (by decide) ?_
      refine callVI C cwX10_145_V (ctX6_heads_35 _ _ w (sS sC h0) p2 (-1) 1 ) (by decide) (kS sC h0 kc_35) rfl rfl rfl (Nat.le_of_ble_eq_true rfl) (by decide) dX10_told_151 (fun r5 w4 y3 => ?_)
      show V x 0 0 w4 154 [(0, .ref (gz (xG x) + 0)), (1, .int a1)] [.int r5]
      obtain ⟨h6, g7⟩ := y3
      have h8 := Ch.tr h0 h6 (by decide)
      exact hret _ _ _ _ dX10_told_154 rfl ⟨h8, by omega⟩
    · refine r_tabIn 155 C dX10_told_1 (by omega) (by omega) (by rw [c1]; rfl) (by decide) ?_
      refine r_aload_n 0 C dX10_told_155 rfl ?_
      refine gfX10_41 35 C (kS sC h0 kc_0) (xS sC h0 xc_0_5) dX10_told_156 ?_
      refine r_iconst (v := (-1)) C dX10_told_159 (by decide) ?_
      refine r_iconst (v := 2) C dX10_told_160 (by decide) ?_
      refine callVI C cwX10_145_V (ctX6_heads_35 _ _ w (sS sC h0) p2 (-1) 2 ) (by decide) (kS sC h0 kc_35) rfl rfl rfl (Nat.le_of_ble_eq_true rfl) (by decide) dX10_told_161 (fun r11 w10 y9 => ?_)
      show V x 0 0 w10 164 [(0, .ref (gz (xG x) + 0)), (1, .int a1)] [.int r11]
      obtain ⟨h12, g13⟩ := y9
      have h14 := Ch.tr h0 h12 (by decide)
      exact hret _ _ _ _ dX10_told_164 rfl ⟨h14, by omega⟩
    · refine r_tabIn 165 C dX10_told_1 (by omega) (by omega) (by rw [c1]; rfl) (by decide) ?_
      refine r_aload_n 0 C dX10_told_165 rfl ?_
      refine gfX10_41 35 C (kS sC h0 kc_0) (xS sC h0 xc_0_5) dX10_told_166 ?_
      refine callVI C cwX10_149_V (ctX6_left_35 _ _ w (sS sC h0) p2  ) (by decide) (kS sC h0 kc_35) rfl rfl rfl (Nat.le_of_ble_eq_true rfl) (by decide) dX10_told_169 (fun r17 w16 y15 => ?_)
      show V x 0 0 w16 172 [(0, .ref (gz (xG x) + 0)), (1, .int a1)] [.int r17]
      obtain ⟨h18, g19⟩ := y15
      have h20 := Ch.tr h0 h18 (by decide)
      exact hret _ _ _ _ dX10_told_172 rfl ⟨h20, by omega⟩
    · refine r_tabIn 173 C dX10_told_1 (by omega) (by omega) (by rw [c1]; rfl) (by decide) ?_
      refine r_aload_n 0 C dX10_told_173 rfl ?_
      refine gfX10_41 35 C (kS sC h0 kc_0) (xS sC h0 xc_0_5) dX10_told_174 ?_
      refine callVI C cwX10_153_V (ctX6_worth_35 _ _ w (sS sC h0) p2  ) (by decide) (kS sC h0 kc_35) rfl rfl rfl (Nat.le_of_ble_eq_true rfl) (by decide) dX10_told_177 (fun r23 w22 y21 => ?_)
      show V x 0 0 w22 180 [(0, .ref (gz (xG x) + 0)), (1, .int a1)] [.int r23]
      obtain ⟨h24, g25⟩ := y21
      have h26 := Ch.tr h0 h24 (by decide)
      exact hret _ _ _ _ dX10_told_180 rfl ⟨h26, by omega⟩
    · refine r_tabIn 181 C dX10_told_1 (by omega) (by omega) (by rw [c1]; rfl) (by decide) ?_
      refine r_aload_n 0 C dX10_told_181 rfl ?_
      refine gfX10_54 44 C (kS sC h0 kc_0) (xS sC h0 xc_0_8) dX10_told_182 ?_
      refine gfX10_156 (v := 0) C (kS sC h0 kc_44) p7 dX10_told_185 ?_
      exact hret _ _ _ _ dX10_told_188 rfl ⟨h0, by omega⟩
    · refine r_tabIn 189 C dX10_told_1 (by omega) (by omega) (by rw [c1]; rfl) (by decide) ?_
      refine r_aload_n 0 C dX10_told_189 rfl ?_
      refine gfX10_61 47 C (kS sC h0 kc_0) (xS sC h0 xc_0_9) dX10_told_190 ?_
      refine gfX10_157 (v := 0) C (kS sC h0 kc_47) p8 dX10_told_193 ?_
      exact hret _ _ _ _ dX10_told_196 rfl ⟨h0, by omega⟩
set_option maxHeartbeats 4000000 in
set_option maxRecDepth 100000 in
theorem ctX10_cell_0 (l : Launch) (G : Gt) (w : Wv) (sC : Str KC XC w) (p0 : wI w 21 2 = 0) (p1 : wI w 21 3 = 0) (a1 : Int32) (a2 : Int32) : CtI l G yX10_cell cX10_cell 4 .int ({ frames := 1, cells := 0, slots := 0, locals := 22 } : Room) [.ref (gz G + 0), .int a1, .int a2] w (fun r w' => Ch [] w w' ∧ (r.toInt = -1000000001)) := by
  refine enterI (by decide) (Nat.le_of_ble_eq_true rfl) ?_
  intro x el eG C hret
  subst el; subst eG
  show V x 0 0 w 0 [(0, .ref (gz (xG x) + 0)), (1, .int a1), (2, .int a2)] []
  have h0 : Ch [] w w := Ch.rf
  have qm1000000001 : ((-1000000001) : Int32).toInt = (-1000000001) := by decide
  have qm1 : ((-1) : Int32).toInt = (-1) := by decide
  have q0 : (0 : Int32).toInt = 0 := by decide
  refine r_aload_n 0 C dX10_cell_0 rfl ?_
  refine gfX10_29 21 C (kS sC h0 kc_0) (xS sC h0 xc_0_3) dX10_cell_1 ?_
  refine r_iload_n 1 C dX10_cell_4 rfl ?_
  refine r_iload_n 2 C dX10_cell_5 rfl ?_
  refine callVI C cwX10_158_V (ctX1_cellAt_21 _ _ w (sS sC h0) p0 p1 a1 a2 ) (by decide) (kS sC h0 kc_21) rfl rfl rfl (Nat.le_of_ble_eq_true rfl) (by decide) dX10_cell_6 (fun r3 w2 y1 => ?_)
  show V x 0 0 w2 9 [(0, .ref (gz (xG x) + 0)), (1, .int a1), (2, .int a2)] [.int r3]
  obtain ⟨h4, g5⟩ := y1
  have h6 := Ch.tr h0 h4 (by decide)
  refine r_istore_n [(3, .int r3), (0, .ref (gz (xG x) + 0)), (1, .int a1), (2, .int a2)] C dX10_cell_9 (by decide) rfl ?_
  refine r_iload_n 0 C dX10_cell_10 rfl ?_
  refine r_iconst (v := (-1)) C dX10_cell_11 (by decide) ?_
  refine r_icmp_ne 20 C dX10_cell_12 (by decide) (fun c7 => ?_) (fun c7 => ?_)
  · have c7' := i_ne c7
    exfalso; omega
  · have c7' := i_eq c7
    refine r_ldc C mw3_198 dX10_cell_15 ?_
    refine r_goto 28 C dX10_cell_17 (by decide) ?_
    exact hret _ _ _ _ dX10_cell_28 rfl ⟨h6, by omega⟩
set_option maxHeartbeats 4000000 in
set_option maxRecDepth 100000 in
theorem ctX10_crowd_0 (l : Launch) (G : Gt) (w : Wv) (sC : Str KC XC w) (p0 : wI w 3 3 = 0) (a1 : Int32) (a2 : Int32) : CtI l G yX10_crowd cX10_crowd 3 .int ({ frames := 1, cells := 0, slots := 0, locals := 21 } : Room) [.ref (gz G + 0), .int a1, .int a2] w (fun r w' => Ch [] w w' ∧ (r.toInt = -1000000001)) := by
  refine enterI (by decide) (Nat.le_of_ble_eq_true rfl) ?_
  intro x el eG C hret
  subst el; subst eG
  show V x 0 0 w 0 [(0, .ref (gz (xG x) + 0)), (1, .int a1), (2, .int a2)] []
  have h0 : Ch [] w w := Ch.rf
  have qm1000000001 : ((-1000000001) : Int32).toInt = (-1000000001) := by decide
  have q0 : (0 : Int32).toInt = 0 := by decide
  refine r_aload_n 0 C dX10_crowd_0 rfl ?_
  refine r_iload_n 1 C dX10_crowd_1 rfl ?_
  refine callVI C cwX10_165_V (ctX10_isCrowd_0 _ _ w (sS sC h0) p0 a1 ) (by decide) (kS sC h0 kc_0) rfl rfl rfl (Nat.le_of_ble_eq_true rfl) (by decide) dX10_crowd_2 (fun r3 w2 y1 => ?_)
  show V x 0 0 w2 5 [(0, .ref (gz (xG x) + 0)), (1, .int a1), (2, .int a2)] [.int r3]
  obtain ⟨h4, g5⟩ := y1
  have h6 := Ch.tr h0 h4 (by decide)
  refine r_if_ne 11 C dX10_crowd_5 (by decide) (fun c7 => ?_) (fun c7 => ?_)
  · have c7' := i_ne c7
    exfalso; omega
  · have c7' := i_eq c7
    refine r_ldc C mw3_198 dX10_crowd_8 ?_
    exact hret _ _ _ _ dX10_crowd_10 rfl ⟨h6, by omega⟩
set_option maxHeartbeats 4000000 in
set_option maxRecDepth 100000 in
theorem ctX10_tune_0 (l : Launch) (G : Gt) (w : Wv) (sC : Str KC XC w) (p0 : wI w 3 4 = 0) (a1 : Int32) (a2 : Int32) : CtI l G yX10_tune cX10_tune 3 .int ({ frames := 1, cells := 0, slots := 0, locals := 21 } : Room) [.ref (gz G + 0), .int a1, .int a2] w (fun r w' => Ch [] w w' ∧ (r.toInt = -1000000001)) := by
  refine enterI (by decide) (Nat.le_of_ble_eq_true rfl) ?_
  intro x el eG C hret
  subst el; subst eG
  show V x 0 0 w 0 [(0, .ref (gz (xG x) + 0)), (1, .int a1), (2, .int a2)] []
  have h0 : Ch [] w w := Ch.rf
  have qm1000000001 : ((-1000000001) : Int32).toInt = (-1000000001) := by decide
  have q0 : (0 : Int32).toInt = 0 := by decide
  refine r_aload_n 0 C dX10_tune_0 rfl ?_
  refine r_iload_n 1 C dX10_tune_1 rfl ?_
  refine callVI C cwX10_190_V (ctX10_isTune_0 _ _ w (sS sC h0) p0 a1 ) (by decide) (kS sC h0 kc_0) rfl rfl rfl (Nat.le_of_ble_eq_true rfl) (by decide) dX10_tune_2 (fun r3 w2 y1 => ?_)
  show V x 0 0 w2 5 [(0, .ref (gz (xG x) + 0)), (1, .int a1), (2, .int a2)] [.int r3]
  obtain ⟨h4, g5⟩ := y1
  have h6 := Ch.tr h0 h4 (by decide)
  refine r_if_ne 11 C dX10_tune_5 (by decide) (fun c7 => ?_) (fun c7 => ?_)
  · have c7' := i_ne c7
    exfalso; omega
  · have c7' := i_eq c7
    refine r_ldc C mw3_198 dX10_tune_8 ?_
    exact hret _ _ _ _ dX10_tune_10 rfl ⟨h6, by omega⟩
set_option maxHeartbeats 4000000 in
set_option maxRecDepth 100000 in
theorem ctX10_far_0 (l : Launch) (G : Gt) (w : Wv) (sC : Str KC XC w) (p0 : wI w 21 2 = 0) (p1 : wI w 21 3 = 0) (a1 : Int32) (a2 : Int32) (a3 : Int32) (a4 : Int32) : CtI l G yX10_far cX10_far 7 .int ({ frames := 1, cells := 0, slots := 0, locals := 22 } : Room) [.ref (gz G + 0), .int a1, .int a2, .int a3, .int a4] w (fun r w' => Ch [] w w' ∧ (r.toInt = -1000000001)) := by
  refine enterI (by decide) (Nat.le_of_ble_eq_true rfl) ?_
  intro x el eG C hret
  subst el; subst eG
  show V x 0 0 w 0 [(0, .ref (gz (xG x) + 0)), (1, .int a1), (2, .int a2), (3, .int a3), (4, .int a4)] []
  have h0 : Ch [] w w := Ch.rf
  have qm1000000001 : ((-1000000001) : Int32).toInt = (-1000000001) := by decide
  have qm1 : ((-1) : Int32).toInt = (-1) := by decide
  have q0 : (0 : Int32).toInt = 0 := by decide
  refine r_aload_n 0 C dX10_far_0 rfl ?_
  refine gfX10_29 21 C (kS sC h0 kc_0) (xS sC h0 xc_0_3) dX10_far_1 ?_
  refine r_iload_n 1 C dX10_far_4 rfl ?_
  refine r_iload_n 2 C dX10_far_5 rfl ?_
  refine callVI C cwX10_158_V (ctX1_cellAt_21 _ _ w (sS sC h0) p0 p1 a1 a2 ) (by decide) (kS sC h0 kc_21) rfl rfl rfl (Nat.le_of_ble_eq_true rfl) (by decide) dX10_far_6 (fun r3 w2 y1 => ?_)
  show V x 0 0 w2 9 [(0, .ref (gz (xG x) + 0)), (1, .int a1), (2, .int a2), (3, .int a3), (4, .int a4)] [.int r3]
  obtain ⟨h4, g5⟩ := y1
  have h6 := Ch.tr h0 h4 (by decide)
  refine r_istore [(5, .int r3), (0, .ref (gz (xG x) + 0)), (1, .int a1), (2, .int a2), (3, .int a3), (4, .int a4)] C dX10_far_9 (by decide) rfl ?_
  refine r_aload_n 1 C dX10_far_11 rfl ?_
  refine gfX10_29 21 C (kS sC h6 kc_0) (xS sC h6 xc_0_3) dX10_far_12 ?_
  refine r_iload_n 4 C dX10_far_15 rfl ?_
  refine r_iload 5 C dX10_far_16 rfl ?_
  refine callVI C cwX10_158_V (ctX1_cellAt_21 _ _ w2 (sS sC h6) (h4.I (by decide) p0) (h4.I (by decide) p1) a3 a4 ) (by decide) (kS sC h6 kc_21) rfl rfl rfl (Nat.le_of_ble_eq_true rfl) (by decide) dX10_far_18 (fun r9 w8 y7 => ?_)
  show V x 0 0 w8 21 [(5, .int r3), (0, .ref (gz (xG x) + 0)), (1, .int a1), (2, .int a2), (3, .int a3), (4, .int a4)] [.int r9]
  obtain ⟨h10, g11⟩ := y7
  have h12 := Ch.tr h6 h10 (by decide)
  refine r_istore [(6, .int r9), (5, .int r3), (0, .ref (gz (xG x) + 0)), (1, .int a1), (2, .int a2), (3, .int a3), (4, .int a4)] C dX10_far_21 (by decide) rfl ?_
  refine r_iload 1 C dX10_far_23 rfl ?_
  refine r_iconst (v := (-1)) C dX10_far_25 (by decide) ?_
  refine r_icmp_eq 35 C dX10_far_26 (by decide) (fun c13 => ?_) (fun c13 => ?_)
  · have c13' := i_eq c13
    refine r_ldc C mw3_198 dX10_far_35 ?_
    refine r_goto 51 C dX10_far_37 (by decide) ?_
    exact hret _ _ _ _ dX10_far_51 rfl ⟨h12, by omega⟩
  · have c13' := i_ne c13
    exfalso; omega
set_option maxHeartbeats 4000000 in
set_option maxRecDepth 100000 in
theorem ctX6_may_35 (l : Launch) (G : Gt) (w : Wv) (sC : Str KC XC w) (p0 : wI w 21 0 = 0) (a1 : Int32) : CtI l G yX6_may cX6_may 3 .boolean ({ frames := 0, cells := 0, slots := 0, locals := 0 } : Room) [.ref (gz G + 35), .int a1] w (fun r w' => Ch [] w w' ∧ (r.toInt = 0)) := by
  refine enterI (by decide) (Nat.le_of_ble_eq_true rfl) ?_
  intro x el eG C hret
  subst el; subst eG
  show V x 0 0 w 0 [(0, .ref (gz (xG x) + 35)), (1, .int a1)] []
  have h0 : Ch [] w w := Ch.rf
  have q0 : (0 : Int32).toInt = 0 := by decide
  refine r_aload_n 0 C dX6_may_0 rfl ?_
  refine gfX6_22 21 C (kS sC h0 kc_35) (xS sC h0 xc_35_5) dX6_may_1 ?_
  refine gfX6_42 (v := 0) C (kS sC h0 kc_21) p0 dX6_may_4 ?_
  refine r_if_eq 14 C dX6_may_7 (by decide) (fun c1 => ?_) (fun c1 => ?_)
  · have c1' := i_eq c1
    refine r_aload_n 0 C dX6_may_14 rfl ?_
    refine gfX6_22 21 C (kS sC h0 kc_35) (xS sC h0 xc_35_5) dX6_may_15 ?_
    refine gfX6_42 (v := 0) C (kS sC h0 kc_21) p0 dX6_may_18 ?_
    refine r_if_le 28 C dX6_may_21 (by decide) (fun c2 => ?_) (fun c2 => ?_)
    · have c2' := i_le c2
      refine r_iconst (v := 0) C dX6_may_28 (by decide) ?_
      exact hret _ _ _ _ dX6_may_29 (nar_z (z_of (by omega))) ⟨h0, by omega⟩
    · have c2' := i_nle c2
      exfalso; omega
  · have c1' := i_ne c1
    exfalso; omega
set_option maxHeartbeats 4000000 in
set_option maxRecDepth 100000 in
theorem ctX10_minute_0 (l : Launch) (G : Gt) (w : Wv) (sC : Str KC XC w) (p0 : wI w 3 4 = 0) (p1 : wI w 21 0 = 0) (a1 : Int32) (a2 : Int32) : CtI l G yX10_minute cX10_minute 3 .int ({ frames := 2, cells := 0, slots := 0, locals := 42 } : Room) [.ref (gz G + 0), .int a1, .int a2] w (fun r w' => Ch [] w w' ∧ ((¬ a2.toInt = -1 → r.toInt = -1000000001) ∧ ((a2.toInt = -1 ∧ (a1.toInt < 0 ∨ 4 < a1.toInt)) → r.toInt = -1000000002) ∧ ((a2.toInt = -1 ∧ 0 ≤ a1.toInt ∧ a1.toInt ≤ 4) → r.toInt = -1000000003))) := by
  refine enterI (by decide) (Nat.le_of_ble_eq_true rfl) ?_
  intro x el eG C hret
  subst el; subst eG
  show V x 0 0 w 0 [(0, .ref (gz (xG x) + 0)), (1, .int a1), (2, .int a2)] []
  have h0 : Ch [] w w := Ch.rf
  have qm1000000003 : ((-1000000003) : Int32).toInt = (-1000000003) := by decide
  have qm1000000002 : ((-1000000002) : Int32).toInt = (-1000000002) := by decide
  have qm1000000001 : ((-1000000001) : Int32).toInt = (-1000000001) := by decide
  have q0 : (0 : Int32).toInt = 0 := by decide
  refine r_aload_n 0 C dX10_minute_0 rfl ?_
  refine r_iload_n 2 C dX10_minute_1 rfl ?_
  refine callVI C cwX10_205_V (ctX10_isTuneOrNone_0 _ _ w (sS sC h0) p0 a2 ) (by decide) (kS sC h0 kc_0) rfl rfl rfl (Nat.le_of_ble_eq_true rfl) (by decide) dX10_minute_2 (fun r3 w2 y1 => ?_)
  show V x 0 0 w2 5 [(0, .ref (gz (xG x) + 0)), (1, .int a1), (2, .int a2)] [.int r3]
  obtain ⟨h4, g5⟩ := y1
  have h6 := Ch.tr h0 h4 (by decide)
  refine r_if_ne 11 C dX10_minute_5 (by decide) (fun c7 => ?_) (fun c7 => ?_)
  · have c7' := i_ne c7
    refine r_iload_n 1 C dX10_minute_11 rfl ?_
    refine callSI C cwX10_208_S (ctX10_isStep _ _ w2   a1 ) (by decide) rfl rfl (Nat.le_of_ble_eq_true rfl) (by decide) dX10_minute_12 (fun r10 w9 y8 => ?_)
    show V x 0 0 w9 15 [(0, .ref (gz (xG x) + 0)), (1, .int a1), (2, .int a2)] [.int r10]
    obtain ⟨h11, g12⟩ := y8
    have h13 := Ch.tr h6 h11 (by decide)
    refine r_if_ne 21 C dX10_minute_15 (by decide) (fun c14 => ?_) (fun c14 => ?_)
    · have c14' := i_ne c14
      refine r_aload_n 0 C dX10_minute_21 rfl ?_
      refine gfX10_41 35 C (kS sC h13 kc_0) (xS sC h13 xc_0_5) dX10_minute_22 ?_
      refine r_iload_n 1 C dX10_minute_25 rfl ?_
      refine callVI C cwX10_211_V (ctX6_may_35 _ _ w9 (sS sC h13) (h11.I (by decide) (h4.I (by decide) p1)) a1 ) (by decide) (kS sC h13 kc_35) rfl rfl rfl (Nat.le_of_ble_eq_true rfl) (by decide) dX10_minute_26 (fun r17 w16 y15 => ?_)
      show V x 0 0 w16 29 [(0, .ref (gz (xG x) + 0)), (1, .int a1), (2, .int a2)] [.int r17]
      obtain ⟨h18, g19⟩ := y15
      have h20 := Ch.tr h13 h18 (by decide)
      refine r_if_ne 35 C dX10_minute_29 (by decide) (fun c21 => ?_) (fun c21 => ?_)
      · have c21' := i_ne c21
        exfalso; omega
      · have c21' := i_eq c21
        refine r_ldc C mw4_29 dX10_minute_32 ?_
        exact hret _ _ _ _ dX10_minute_34 rfl ⟨h20, by omega⟩
    · have c14' := i_eq c14
      refine r_ldc C mw2_226 dX10_minute_18 ?_
      exact hret _ _ _ _ dX10_minute_20 rfl ⟨h13, by omega⟩
  · have c7' := i_eq c7
    refine r_ldc C mw3_198 dX10_minute_8 ?_
    exact hret _ _ _ _ dX10_minute_10 rfl ⟨h6, by omega⟩
set_option maxHeartbeats 4000000 in
set_option maxRecDepth 100000 in
theorem ctX10_wall_0 (l : Launch) (G : Gt) (w : Wv) (sC : Str KC XC w) (p0 : wI w 21 2 = 0) (p1 : wI w 21 3 = 0) (a1 : Int32) (a2 : Int32) (a3 : Int32) : CtI l G yX10_wall cX10_wall 6 .int ({ frames := 1, cells := 0, slots := 0, locals := 22 } : Room) [.ref (gz G + 0), .int a1, .int a2, .int a3] w (fun r w' => Ch [] w w' ∧ (r.toInt = -1000000001)) := by
  refine enterI (by decide) (Nat.le_of_ble_eq_true rfl) ?_
  intro x el eG C hret
  subst el; subst eG
  show V x 0 0 w 0 [(0, .ref (gz (xG x) + 0)), (1, .int a1), (2, .int a2), (3, .int a3)] []
  have h0 : Ch [] w w := Ch.rf
  have qm1000000001 : ((-1000000001) : Int32).toInt = (-1000000001) := by decide
  have qm1 : ((-1) : Int32).toInt = (-1) := by decide
  have q0 : (0 : Int32).toInt = 0 := by decide
  refine r_aload_n 0 C dX10_wall_0 rfl ?_
  refine gfX10_29 21 C (kS sC h0 kc_0) (xS sC h0 xc_0_3) dX10_wall_1 ?_
  refine r_iload_n 1 C dX10_wall_4 rfl ?_
  refine r_iload_n 2 C dX10_wall_5 rfl ?_
  refine callVI C cwX10_158_V (ctX1_cellAt_21 _ _ w (sS sC h0) p0 p1 a1 a2 ) (by decide) (kS sC h0 kc_21) rfl rfl rfl (Nat.le_of_ble_eq_true rfl) (by decide) dX10_wall_6 (fun r3 w2 y1 => ?_)
  show V x 0 0 w2 9 [(0, .ref (gz (xG x) + 0)), (1, .int a1), (2, .int a2), (3, .int a3)] [.int r3]
  obtain ⟨h4, g5⟩ := y1
  have h6 := Ch.tr h0 h4 (by decide)
  refine r_istore [(4, .int r3), (0, .ref (gz (xG x) + 0)), (1, .int a1), (2, .int a2), (3, .int a3)] C dX10_wall_9 (by decide) rfl ?_
  refine r_iload 0 C dX10_wall_11 rfl ?_
  refine r_iconst (v := (-1)) C dX10_wall_13 (by decide) ?_
  refine r_icmp_ne 20 C dX10_wall_14 (by decide) (fun c7 => ?_) (fun c7 => ?_)
  · have c7' := i_ne c7
    exfalso; omega
  · have c7' := i_eq c7
    refine r_ldc C mw3_198 dX10_wall_17 ?_
    exact hret _ _ _ _ dX10_wall_19 rfl ⟨h6, by omega⟩
set_option maxHeartbeats 4000000 in
set_option maxRecDepth 100000 in
theorem ctX10_drift_0 (l : Launch) (G : Gt) (w : Wv) (sC : Str KC XC w) (p0 : wI w 21 0 = 0) (a1 : Int32) : CtI l G yX10_drift cX10_drift 5 .int ({ frames := 0, cells := 0, slots := 0, locals := 0 } : Room) [.ref (gz G + 0), .int a1] w (fun r w' => Ch [] w w' ∧ (((a1.toInt < 1 ∨ 99 < a1.toInt) → r.toInt = -1000000002) ∧ ((1 ≤ a1.toInt ∧ a1.toInt ≤ 99) → r.toInt = -1000000003))) := by
  refine enterI (by decide) (Nat.le_of_ble_eq_true rfl) ?_
  intro x el eG C hret
  subst el; subst eG
  show V x 0 0 w 0 [(0, .ref (gz (xG x) + 0)), (1, .int a1)] []
  have h0 : Ch [] w w := Ch.rf
  have qm1000000003 : ((-1000000003) : Int32).toInt = (-1000000003) := by decide
  have qm1000000002 : ((-1000000002) : Int32).toInt = (-1000000002) := by decide
  have q0 : (0 : Int32).toInt = 0 := by decide
  have q1 : (1 : Int32).toInt = 1 := by decide
  have q99 : (99 : Int32).toInt = 99 := by decide
  refine r_iload_n 1 C dX10_drift_0 rfl ?_
  refine r_iconst (v := 1) C dX10_drift_1 (by decide) ?_
  refine r_icmp_lt 11 C dX10_drift_2 (by decide) (fun c1 => ?_) (fun c1 => ?_)
  · have c1' := i_lt c1
    refine r_ldc C mw2_226 dX10_drift_11 ?_
    exact hret _ _ _ _ dX10_drift_13 rfl ⟨h0, by omega⟩
  · have c1' := i_nlt c1
    refine r_iload_n 1 C dX10_drift_5 rfl ?_
    refine r_bipush (v := 99) C dX10_drift_6 (by decide) ?_
    refine r_icmp_le 14 C dX10_drift_8 (by decide) (fun c2 => ?_) (fun c2 => ?_)
    · have c2' := i_le c2
      refine r_aload_n 0 C dX10_drift_14 rfl ?_
      refine gfX10_29 21 C (kS sC h0 kc_0) (xS sC h0 xc_0_3) dX10_drift_15 ?_
      refine gfX10_114 (v := 0) C (kS sC h0 kc_21) p0 dX10_drift_18 ?_
      refine r_if_ne 27 C dX10_drift_21 (by decide) (fun c3 => ?_) (fun c3 => ?_)
      · have c3' := i_ne c3
        exfalso; omega
      · have c3' := i_eq c3
        refine r_ldc C mw4_29 dX10_drift_24 ?_
        exact hret _ _ _ _ dX10_drift_26 rfl ⟨h0, by omega⟩
    · have c2' := i_nle c2
      refine r_ldc C mw2_226 dX10_drift_11 ?_
      exact hret _ _ _ _ dX10_drift_13 rfl ⟨h0, by omega⟩
set_option maxHeartbeats 4000000 in
set_option maxRecDepth 100000 in
theorem ctX4_add_44 (l : Launch) (G : Gt) (w : Wv) (sC : Str KC XC w) (p0 : wI w 44 0 = 0) (a1 : Int32) (a2 : Int32) : CtV l G yX4_add cX4_add 3 ({ frames := 0, cells := 0, slots := 0, locals := 0 } : Room) [.ref (gz G + 44), .int a1, .int a2] w (fun w' => Ch [44, 45, 46] w w' ∧ wI w' 44 0 = 1) := by
  refine enterV (by decide) (Nat.le_of_ble_eq_true rfl) ?_
  intro x el eG C hnm hret
  subst el; subst eG
  show V x 0 0 w 0 [(0, .ref (gz (xG x) + 44)), (1, .int a1), (2, .int a2)] []
  have h0 : Ch [44, 45, 46] w w := Ch.rf
  have q0 : (0 : Int32).toInt = 0 := by decide
  have q1 : (1 : Int32).toInt = 1 := by decide
  have q30 : (30 : Int32).toInt = 30 := by decide
  refine r_aload_n 0 C dX4_add_0 rfl ?_
  refine gfX4_18 (v := 0) C (kS sC h0 kc_44) p0 dX4_add_1 ?_
  refine r_bipush (v := 30) C dX4_add_4 (by decide) ?_
  refine r_icmp_ge 39 C dX4_add_6 (by decide) (fun c1 => ?_) (fun c1 => ?_)
  · have c1' := i_le c1
    exfalso; omega
  · have c1' := i_nle c1
    refine r_aload_n 0 C dX4_add_9 rfl ?_
    refine gfX4_9 45 C (kS sC h0 kc_44) (xS sC h0 xc_44_1) dX4_add_10 ?_
    refine r_aload_n 0 C dX4_add_13 rfl ?_
    refine gfX4_18 (v := 0) C (kS sC h0 kc_44) p0 dX4_add_14 ?_
    refine r_iload_n 1 C dX4_add_17 rfl ?_
    refine r_iast C (kS sC h0 kc_45) (vin (by omega) (by omega)) dX4_add_18 (fun w2 e3 => ?_)
    have h4 := Ch.put h0 e3 (by decide)
    refine r_aload_n 0 C dX4_add_19 rfl ?_
    refine gfX4_15 46 C (kS sC h4 kc_44) (xS sC h4 xc_44_2) dX4_add_20 ?_
    refine r_aload_n 0 C dX4_add_23 rfl ?_
    refine gfX4_18 (v := 0) C (kS sC h4 kc_44) (g_nn e3 (by decide) p0) dX4_add_24 ?_
    refine r_iload_n 2 C dX4_add_27 rfl ?_
    refine r_iast C (kS sC h4 kc_46) (vin (by omega) (by omega)) dX4_add_28 (fun w5 e6 => ?_)
    have h7 := Ch.put h4 e6 (by decide)
    refine r_aload_n 0 C dX4_add_29 rfl ?_
    refine r_dup C dX4_add_30 rfl ?_
    refine gfX4_18 (v := 0) C (kS sC h7 kc_44) (g_nn e6 (by decide) (g_nn e3 (by decide) p0)) dX4_add_31 ?_
    refine r_iconst (v := 1) C dX4_add_34 (by decide) ?_
    refine r_iadd C dX4_add_35 (fun v8 e9 => ?_)
    have v8' := iadd_ok e9 (by omega) (by omega)
    refine pfX4_18 C (kS sC h7 kc_44) dX4_add_36 (fun w10 e11 => ?_)
    have h12 := Ch.put h7 e11 (by decide)
    exact hret _ _ _ dX4_add_39 ⟨h12, (by rw [(g_eq e11)]; exact i_of (by omega))⟩
set_option maxHeartbeats 4000000 in
set_option maxRecDepth 100000 in
theorem ctX10_plan_0 (l : Launch) (G : Gt) (w : Wv) (sC : Str KC XC w) (p0 : wI w 3 4 = 0) (p1 : wI w 44 0 = 0) (a1 : Int32) (a2 : Int32) : CtI l G yX10_plan cX10_plan 3 .int ({ frames := 2, cells := 0, slots := 0, locals := 42 } : Room) [.ref (gz G + 0), .int a1, .int a2] w (fun r w' => Ch [44, 45, 46] w w' ∧ ((¬ a2.toInt = -1 → r.toInt = -1000000001) ∧ ((a2.toInt = -1 ∧ (a1.toInt < 0 ∨ 4 < a1.toInt)) → r.toInt = -1000000002) ∧ ((a2.toInt = -1 ∧ 0 ≤ a1.toInt ∧ a1.toInt ≤ 4) → r.toInt = 1))) := by
  refine enterI (by decide) (Nat.le_of_ble_eq_true rfl) ?_
  intro x el eG C hret
  subst el; subst eG
  show V x 0 0 w 0 [(0, .ref (gz (xG x) + 0)), (1, .int a1), (2, .int a2)] []
  have h0 : Ch [44, 45, 46] w w := Ch.rf
  have qm1000000002 : ((-1000000002) : Int32).toInt = (-1000000002) := by decide
  have qm1000000001 : ((-1000000001) : Int32).toInt = (-1000000001) := by decide
  have q0 : (0 : Int32).toInt = 0 := by decide
  have q1 : (1 : Int32).toInt = 1 := by decide
  have q30 : (30 : Int32).toInt = 30 := by decide
  refine r_aload_n 0 C dX10_plan_0 rfl ?_
  refine r_iload_n 2 C dX10_plan_1 rfl ?_
  refine callVI C cwX10_205_V (ctX10_isTuneOrNone_0 _ _ w (sS sC h0) p0 a2 ) (by decide) (kS sC h0 kc_0) rfl rfl rfl (Nat.le_of_ble_eq_true rfl) (by decide) dX10_plan_2 (fun r3 w2 y1 => ?_)
  show V x 0 0 w2 5 [(0, .ref (gz (xG x) + 0)), (1, .int a1), (2, .int a2)] [.int r3]
  obtain ⟨h4, g5⟩ := y1
  have h6 := Ch.tr h0 h4 (by decide)
  refine r_if_ne 11 C dX10_plan_5 (by decide) (fun c7 => ?_) (fun c7 => ?_)
  · have c7' := i_ne c7
    refine r_iload_n 1 C dX10_plan_11 rfl ?_
    refine callSI C cwX10_208_S (ctX10_isStep _ _ w2   a1 ) (by decide) rfl rfl (Nat.le_of_ble_eq_true rfl) (by decide) dX10_plan_12 (fun r10 w9 y8 => ?_)
    show V x 0 0 w9 15 [(0, .ref (gz (xG x) + 0)), (1, .int a1), (2, .int a2)] [.int r10]
    obtain ⟨h11, g12⟩ := y8
    have h13 := Ch.tr h6 h11 (by decide)
    refine r_if_ne 21 C dX10_plan_15 (by decide) (fun c14 => ?_) (fun c14 => ?_)
    · have c14' := i_ne c14
      refine r_aload_n 0 C dX10_plan_21 rfl ?_
      refine gfX10_54 44 C (kS sC h13 kc_0) (xS sC h13 xc_0_8) dX10_plan_22 ?_
      refine gfX10_156 (v := 0) C (kS sC h13 kc_44) (h11.I (by decide) (h4.I (by decide) p1)) dX10_plan_25 ?_
      refine r_bipush (v := 30) C dX10_plan_28 (by decide) ?_
      refine r_icmp_lt 36 C dX10_plan_30 (by decide) (fun c15 => ?_) (fun c15 => ?_)
      · have c15' := i_lt c15
        refine r_aload_n 0 C dX10_plan_36 rfl ?_
        refine gfX10_54 44 C (kS sC h13 kc_0) (xS sC h13 xc_0_8) dX10_plan_37 ?_
        refine r_iload_n 1 C dX10_plan_40 rfl ?_
        refine r_iload_n 2 C dX10_plan_41 rfl ?_
        refine callVV C cwX10_231_V (ctX4_add_44 _ _ w9 (sS sC h13) (h11.I (by decide) (h4.I (by decide) p1)) a1 a2 ) (by decide) (kS sC h13 kc_44) rfl rfl rfl (Nat.le_of_ble_eq_true rfl) (by decide) dX10_plan_42 (fun w17 y16 => ?_)
        show V x 0 0 w17 45 [(0, .ref (gz (xG x) + 0)), (1, .int a1), (2, .int a2)] []
        obtain ⟨h19, f20⟩ := y16
        have h21 := Ch.tr h13 h19 (by decide)
        refine r_aload_n 0 C dX10_plan_45 rfl ?_
        refine gfX10_54 44 C (kS sC h21 kc_0) (xS sC h21 xc_0_8) dX10_plan_46 ?_
        refine gfX10_156 (v := 1) C (kS sC h21 kc_44) f20 dX10_plan_49 ?_
        exact hret _ _ _ _ dX10_plan_52 rfl ⟨h21, by omega⟩
      · have c15' := i_nlt c15
        exfalso; omega
    · have c14' := i_eq c14
      refine r_ldc C mw2_226 dX10_plan_18 ?_
      exact hret _ _ _ _ dX10_plan_20 rfl ⟨h13, by omega⟩
  · have c7' := i_eq c7
    refine r_ldc C mw3_198 dX10_plan_8 ?_
    exact hret _ _ _ _ dX10_plan_10 rfl ⟨h6, by omega⟩
set_option maxHeartbeats 4000000 in
set_option maxRecDepth 100000 in
theorem ctX10_drop_0 (l : Launch) (G : Gt) (w : Wv) (sC : Str KC XC w) (p0 : wI w 44 0 = 0) : CtI l G yX10_drop cX10_drop 2 .int ({ frames := 0, cells := 0, slots := 0, locals := 0 } : Room) [.ref (gz G + 0)] w (fun r w' => Ch [44] w w' ∧ (r.toInt = 0)) := by
  refine enterI (by decide) (Nat.le_of_ble_eq_true rfl) ?_
  intro x el eG C hret
  subst el; subst eG
  show V x 0 0 w 0 [(0, .ref (gz (xG x) + 0))] []
  have h0 : Ch [44] w w := Ch.rf
  have q0 : (0 : Int32).toInt = 0 := by decide
  refine r_aload_n 0 C dX10_drop_0 rfl ?_
  refine gfX10_54 44 C (kS sC h0 kc_0) (xS sC h0 xc_0_8) dX10_drop_1 ?_
  refine gfX10_156 (v := 0) C (kS sC h0 kc_44) p0 dX10_drop_4 ?_
  refine r_istore_n [(1, .int 0), (0, .ref (gz (xG x) + 0))] C dX10_drop_7 (by decide) rfl ?_
  refine r_aload_n 1 C dX10_drop_8 rfl ?_
  refine gfX10_54 44 C (kS sC h0 kc_0) (xS sC h0 xc_0_8) dX10_drop_9 ?_
  refine r_iconst (v := 0) C dX10_drop_12 (by decide) ?_
  refine pfX10_156 C (kS sC h0 kc_44) dX10_drop_13 (fun w1 e2 => ?_)
  have h3 := Ch.put h0 e2 (by decide)
  refine r_iload_n 0 C dX10_drop_16 rfl ?_
  exact hret _ _ _ _ dX10_drop_17 rfl ⟨h3, by omega⟩
set_option maxHeartbeats 4000000 in
set_option maxRecDepth 100000 in
theorem ctX6_copy_38_35 (l : Launch) (G : Gt) (w : Wv) (sC : Str KC XC w) (p0 : wI w 3 3 = 0) : CtV l G yX6_copy cX6_copy 3 ({ frames := 0, cells := 0, slots := 0, locals := 0 } : Room) [.ref (gz G + 38), .ref (gz G + 35)] w (fun w' => Ch [38] w w') := by
  refine enterV (by decide) (Nat.le_of_ble_eq_true rfl) ?_
  intro x el eG C hnm hret
  subst el; subst eG
  show V x 0 0 w 0 [(0, .ref (gz (xG x) + 38)), (1, .ref (gz (xG x) + 35))] []
  have h0 : Ch [38] w w := Ch.rf
  have q0 : (0 : Int32).toInt = 0 := by decide
  refine r_aload_n 0 C dX6_copy_0 rfl ?_
  refine r_aload_n 1 C dX6_copy_1 rfl ?_
  refine gfX6_32 (v := (wI w 35 0)) C (kS sC h0 kc_35) rfl dX6_copy_2 ?_
  refine pfX6_32 C (kS sC h0 kc_38) dX6_copy_5 (fun w1 e2 => ?_)
  have h3 := Ch.put h0 e2 (by decide)
  refine r_aload_n 0 C dX6_copy_8 rfl ?_
  refine r_aload_n 1 C dX6_copy_9 rfl ?_
  refine gfX6_33 (v := (wI w 35 1)) C (kS sC h3 kc_35) (g_nn e2 (by decide) rfl) dX6_copy_10 ?_
  refine pfX6_33 C (kS sC h3 kc_38) dX6_copy_13 (fun w4 e5 => ?_)
  have h6 := Ch.put h3 e5 (by decide)
  refine r_iconst (v := 0) C dX6_copy_16 (by decide) ?_
  refine r_istore_n [(2, .int 0), (0, .ref (gz (xG x) + 38)), (1, .ref (gz (xG x) + 35))] C dX6_copy_17 (by decide) rfl ?_
  refine r_iload_n 0 C dX6_copy_18 rfl ?_
  refine r_aload_n 1 C dX6_copy_19 rfl ?_
  refine gfX6_18 3 C (kS sC h6 kc_38) (xS sC h6 xc_38_4) dX6_copy_20 ?_
  refine gfX6_39 (v := 0) C (kS sC h6 kc_3) (g_nn e5 (by decide) (g_nn e2 (by decide) p0)) dX6_copy_23 ?_
  refine r_icmp_ge 59 C dX6_copy_26 (by decide) (fun c7 => ?_) (fun c7 => ?_)
  · have c7' := i_le c7
    exact hret _ _ _ dX6_copy_59 h6
  · have c7' := i_nle c7
    exfalso; omega
set_option maxHeartbeats 4000000 in
set_option maxRecDepth 100000 in
theorem ctX6_copy_106_35 (l : Launch) (G : Gt) (w : Wv) (sC : Str KC XC w) (p0 : wI w 3 3 = 0) : CtV l G yX6_copy cX6_copy 3 ({ frames := 0, cells := 0, slots := 0, locals := 0 } : Room) [.ref (gz G + 106), .ref (gz G + 35)] w (fun w' => Ch [106] w w') := by
  refine enterV (by decide) (Nat.le_of_ble_eq_true rfl) ?_
  intro x el eG C hnm hret
  subst el; subst eG
  show V x 0 0 w 0 [(0, .ref (gz (xG x) + 106)), (1, .ref (gz (xG x) + 35))] []
  have h0 : Ch [106] w w := Ch.rf
  have q0 : (0 : Int32).toInt = 0 := by decide
  refine r_aload_n 0 C dX6_copy_0 rfl ?_
  refine r_aload_n 1 C dX6_copy_1 rfl ?_
  refine gfX6_32 (v := (wI w 35 0)) C (kS sC h0 kc_35) rfl dX6_copy_2 ?_
  refine pfX6_32 C (kS sC h0 kc_106) dX6_copy_5 (fun w1 e2 => ?_)
  have h3 := Ch.put h0 e2 (by decide)
  refine r_aload_n 0 C dX6_copy_8 rfl ?_
  refine r_aload_n 1 C dX6_copy_9 rfl ?_
  refine gfX6_33 (v := (wI w 35 1)) C (kS sC h3 kc_35) (g_nn e2 (by decide) rfl) dX6_copy_10 ?_
  refine pfX6_33 C (kS sC h3 kc_106) dX6_copy_13 (fun w4 e5 => ?_)
  have h6 := Ch.put h3 e5 (by decide)
  refine r_iconst (v := 0) C dX6_copy_16 (by decide) ?_
  refine r_istore_n [(2, .int 0), (0, .ref (gz (xG x) + 106)), (1, .ref (gz (xG x) + 35))] C dX6_copy_17 (by decide) rfl ?_
  refine r_iload_n 0 C dX6_copy_18 rfl ?_
  refine r_aload_n 1 C dX6_copy_19 rfl ?_
  refine gfX6_18 3 C (kS sC h6 kc_106) (xS sC h6 xc_106_4) dX6_copy_20 ?_
  refine gfX6_39 (v := 0) C (kS sC h6 kc_3) (g_nn e5 (by decide) (g_nn e2 (by decide) p0)) dX6_copy_23 ?_
  refine r_icmp_ge 59 C dX6_copy_26 (by decide) (fun c7 => ?_) (fun c7 => ?_)
  · have c7' := i_le c7
    exact hret _ _ _ dX6_copy_59 h6
  · have c7' := i_nle c7
    exfalso; omega
set_option maxHeartbeats 4000000 in
set_option maxRecDepth 100000 in
theorem ctX6_copy_111_35 (l : Launch) (G : Gt) (w : Wv) (sC : Str KC XC w) (p0 : wI w 3 3 = 0) : CtV l G yX6_copy cX6_copy 3 ({ frames := 0, cells := 0, slots := 0, locals := 0 } : Room) [.ref (gz G + 111), .ref (gz G + 35)] w (fun w' => Ch [111] w w') := by
  refine enterV (by decide) (Nat.le_of_ble_eq_true rfl) ?_
  intro x el eG C hnm hret
  subst el; subst eG
  show V x 0 0 w 0 [(0, .ref (gz (xG x) + 111)), (1, .ref (gz (xG x) + 35))] []
  have h0 : Ch [111] w w := Ch.rf
  have q0 : (0 : Int32).toInt = 0 := by decide
  refine r_aload_n 0 C dX6_copy_0 rfl ?_
  refine r_aload_n 1 C dX6_copy_1 rfl ?_
  refine gfX6_32 (v := (wI w 35 0)) C (kS sC h0 kc_35) rfl dX6_copy_2 ?_
  refine pfX6_32 C (kS sC h0 kc_111) dX6_copy_5 (fun w1 e2 => ?_)
  have h3 := Ch.put h0 e2 (by decide)
  refine r_aload_n 0 C dX6_copy_8 rfl ?_
  refine r_aload_n 1 C dX6_copy_9 rfl ?_
  refine gfX6_33 (v := (wI w 35 1)) C (kS sC h3 kc_35) (g_nn e2 (by decide) rfl) dX6_copy_10 ?_
  refine pfX6_33 C (kS sC h3 kc_111) dX6_copy_13 (fun w4 e5 => ?_)
  have h6 := Ch.put h3 e5 (by decide)
  refine r_iconst (v := 0) C dX6_copy_16 (by decide) ?_
  refine r_istore_n [(2, .int 0), (0, .ref (gz (xG x) + 111)), (1, .ref (gz (xG x) + 35))] C dX6_copy_17 (by decide) rfl ?_
  refine r_iload_n 0 C dX6_copy_18 rfl ?_
  refine r_aload_n 1 C dX6_copy_19 rfl ?_
  refine gfX6_18 3 C (kS sC h6 kc_111) (xS sC h6 xc_111_4) dX6_copy_20 ?_
  refine gfX6_39 (v := 0) C (kS sC h6 kc_3) (g_nn e5 (by decide) (g_nn e2 (by decide) p0)) dX6_copy_23 ?_
  refine r_icmp_ge 59 C dX6_copy_26 (by decide) (fun c7 => ?_) (fun c7 => ?_)
  · have c7' := i_le c7
    exact hret _ _ _ dX6_copy_59 h6
  · have c7' := i_nle c7
    exfalso; omega
set_option maxHeartbeats 4000000 in
set_option maxRecDepth 100000 in
theorem ctX4_run_44_38 (l : Launch) (G : Gt) (w : Wv) (sC : Str KC XC w) (p0 : wI w 44 0 = 0) (a2 : Int32) : CtI l G yX4_run cX4_run 4 .int ({ frames := 0, cells := 0, slots := 0, locals := 0 } : Room) [.ref (gz G + 44), .ref (gz G + 38), .int a2] w (fun r w' => Ch [] w w' ∧ (r.toInt = 0)) := by
  refine enterI (by decide) (Nat.le_of_ble_eq_true rfl) ?_
  intro x el eG C hret
  subst el; subst eG
  show V x 0 0 w 0 [(0, .ref (gz (xG x) + 44)), (1, .ref (gz (xG x) + 38)), (2, .int a2)] []
  have h0 : Ch [] w w := Ch.rf
  have q0 : (0 : Int32).toInt = 0 := by decide
  refine r_iconst (v := 0) C dX4_run_0 (by decide) ?_
  refine r_istore_n [(3, .int 0), (0, .ref (gz (xG x) + 44)), (1, .ref (gz (xG x) + 38)), (2, .int a2)] C dX4_run_1 (by decide) rfl ?_
  refine r_iload_n 0 C dX4_run_2 rfl ?_
  refine r_aload_n 1 C dX4_run_3 rfl ?_
  refine gfX4_18 (v := 0) C (kS sC h0 kc_44) p0 dX4_run_4 ?_
  refine r_icmp_ge 50 C dX4_run_7 (by decide) (fun c1 => ?_) (fun c1 => ?_)
  · have c1' := i_le c1
    refine r_iload_n 0 C dX4_run_50 rfl ?_
    exact hret _ _ _ _ dX4_run_51 rfl ⟨h0, by omega⟩
  · have c1' := i_nle c1
    exfalso; omega
set_option maxHeartbeats 4000000 in
set_option maxRecDepth 100000 in
theorem ctX10_tryPlan_0 (l : Launch) (G : Gt) (w : Wv) (sC : Str KC XC w) (p0 : wI w 3 3 = 0) (p1 : wI w 44 0 = 0) (a1 : Int32) : CtI l G yX10_tryPlan cX10_tryPlan 2 .int ({ frames := 1, cells := 0, slots := 0, locals := 23 } : Room) [.ref (gz G + 0), .int a1] w (fun r w' => Ch [38] w w' ∧ (r.toInt = 0)) := by
  refine enterI (by decide) (Nat.le_of_ble_eq_true rfl) ?_
  intro x el eG C hret
  subst el; subst eG
  show V x 0 0 w 0 [(0, .ref (gz (xG x) + 0)), (1, .int a1)] []
  have h0 : Ch [38] w w := Ch.rf
  have q0 : (0 : Int32).toInt = 0 := by decide
  refine r_aload_n 0 C dX10_tryPlan_0 rfl ?_
  refine gfX10_45 38 C (kS sC h0 kc_0) (xS sC h0 xc_0_6) dX10_tryPlan_1 ?_
  refine r_aload_n 0 C dX10_tryPlan_4 rfl ?_
  refine gfX10_41 35 C (kS sC h0 kc_0) (xS sC h0 xc_0_5) dX10_tryPlan_5 ?_
  refine callVV C cwX10_291_V (ctX6_copy_38_35 _ _ w (sS sC h0) p0  ) (by decide) (kS sC h0 kc_38) rfl rfl rfl (Nat.le_of_ble_eq_true rfl) (by decide) dX10_tryPlan_8 (fun w2 y1 => ?_)
  show V x 0 0 w2 11 [(0, .ref (gz (xG x) + 0)), (1, .int a1)] []
  have h4 := y1
  have h5 := Ch.tr h0 h4 (by decide)
  refine r_aload_n 0 C dX10_tryPlan_11 rfl ?_
  refine gfX10_54 44 C (kS sC h5 kc_0) (xS sC h5 xc_0_8) dX10_tryPlan_12 ?_
  refine r_aload_n 0 C dX10_tryPlan_15 rfl ?_
  refine gfX10_45 38 C (kS sC h5 kc_0) (xS sC h5 xc_0_6) dX10_tryPlan_16 ?_
  refine r_iload_n 1 C dX10_tryPlan_19 rfl ?_
  refine callVI C cwX10_294_V (ctX4_run_44_38 _ _ w2 (sS sC h5) (h4.I (by decide) p1) a1 ) (by decide) (kS sC h5 kc_44) rfl rfl rfl (Nat.le_of_ble_eq_true rfl) (by decide) dX10_tryPlan_20 (fun r8 w7 y6 => ?_)
  show V x 0 0 w7 23 [(0, .ref (gz (xG x) + 0)), (1, .int a1)] [.int r8]
  obtain ⟨h9, g10⟩ := y6
  have h11 := Ch.tr h5 h9 (by decide)
  exact hret _ _ _ _ dX10_tryPlan_23 rfl ⟨h11, by omega⟩
set_option maxHeartbeats 4000000 in
set_option maxRecDepth 100000 in
theorem ctX10_judge_0 (l : Launch) (G : Gt) (w : Wv) (sC : Str KC XC w) (p0 : wI w 3 3 = 0) (p1 : wI w 44 0 = 0) : CtI l G yX10_judge cX10_judge 2 .int ({ frames := 2, cells := 0, slots := 0, locals := 44 } : Room) [.ref (gz G + 0)] w (fun r w' => Ch [38] w w' ∧ (r.toInt = -1)) := by
  refine enterI (by decide) (Nat.le_of_ble_eq_true rfl) ?_
  intro x el eG C hret
  subst el; subst eG
  show V x 0 0 w 0 [(0, .ref (gz (xG x) + 0))] []
  have h0 : Ch [38] w w := Ch.rf
  have qm1 : ((-1) : Int32).toInt = (-1) := by decide
  have q0 : (0 : Int32).toInt = 0 := by decide
  have q30 : (30 : Int32).toInt = 30 := by decide
  refine r_aload_n 0 C dX10_judge_0 rfl ?_
  refine r_bipush (v := 30) C dX10_judge_1 (by decide) ?_
  refine callVI C cwX10_233_V (ctX10_tryPlan_0 _ _ w (sS sC h0) p0 p1 30 ) (by decide) (kS sC h0 kc_0) rfl rfl rfl (Nat.le_of_ble_eq_true rfl) (by decide) dX10_judge_3 (fun r3 w2 y1 => ?_)
  show V x 0 0 w2 6 [(0, .ref (gz (xG x) + 0))] [.int r3]
  obtain ⟨h4, g5⟩ := y1
  have h6 := Ch.tr h0 h4 (by decide)
  refine r_istore_n [(1, .int r3), (0, .ref (gz (xG x) + 0))] C dX10_judge_6 (by decide) rfl ?_
  refine r_iload_n 0 C dX10_judge_7 rfl ?_
  refine r_aload_n 1 C dX10_judge_8 rfl ?_
  refine gfX10_54 44 C (kS sC h6 kc_0) (xS sC h6 xc_0_8) dX10_judge_9 ?_
  refine gfX10_156 (v := 0) C (kS sC h6 kc_44) (h4.I (by decide) p1) dX10_judge_12 ?_
  refine r_icmp_ge 22 C dX10_judge_15 (by decide) (fun c7 => ?_) (fun c7 => ?_)
  · have c7' := i_le c7
    refine r_iconst (v := (-1)) C dX10_judge_22 (by decide) ?_
    exact hret _ _ _ _ dX10_judge_23 rfl ⟨h6, by omega⟩
  · have c7' := i_nle c7
    exfalso; omega
set_option maxHeartbeats 4000000 in
set_option maxRecDepth 100000 in
theorem ctX10_tried_0 (l : Launch) (G : Gt) (w : Wv) (sC : Str KC XC w) (p0 : wI w 3 3 = 0) (p1 : wI w 44 0 = 0) (a1 : Int32) (a2 : Int32) : CtI l G yX10_tried cX10_tried 3 .int ({ frames := 2, cells := 0, slots := 0, locals := 44 } : Room) [.ref (gz G + 0), .int a1, .int a2] w (fun r w' => Ch [38] w w' ∧ (((a1.toInt < -1 ∨ 2 < a1.toInt) → r.toInt = -1000000001) ∧ ((0 ≤ a1.toInt ∧ a1.toInt ≤ 2 ∧ (a2.toInt < 0 ∨ 1 < a2.toInt)) → r.toInt = -1000000002) ∧ ((a1.toInt = -1 ∨ (0 ≤ a1.toInt ∧ a1.toInt ≤ 2 ∧ 0 ≤ a2.toInt ∧ a2.toInt ≤ 1)) → r.toInt = 0))) := by
  refine enterI (by decide) (Nat.le_of_ble_eq_true rfl) ?_
  intro x el eG C hret
  subst el; subst eG
  show V x 0 0 w 0 [(0, .ref (gz (xG x) + 0)), (1, .int a1), (2, .int a2)] []
  have h0 : Ch [38] w w := Ch.rf
  have qm1000000002 : ((-1000000002) : Int32).toInt = (-1000000002) := by decide
  have qm1000000001 : ((-1000000001) : Int32).toInt = (-1000000001) := by decide
  have qm1 : ((-1) : Int32).toInt = (-1) := by decide
  have q0 : (0 : Int32).toInt = 0 := by decide
  have q1 : (1 : Int32).toInt = 1 := by decide
  have q2 : (2 : Int32).toInt = 2 := by decide
  have q30 : (30 : Int32).toInt = 30 := by decide
  refine r_iload_n 1 C dX10_tried_0 rfl ?_
  refine r_iconst (v := (-1)) C dX10_tried_1 (by decide) ?_
  refine r_icmp_eq 15 C dX10_tried_2 (by decide) (fun c1 => ?_) (fun c1 => ?_)
  · have c1' := i_eq c1
    refine r_iload_n 1 C dX10_tried_15 rfl ?_
    refine r_iconst (v := (-1)) C dX10_tried_16 (by decide) ?_
    refine r_icmp_eq 32 C dX10_tried_17 (by decide) (fun c2 => ?_) (fun c2 => ?_)
    · have c2' := i_eq c2
      refine r_aload_n 0 C dX10_tried_32 rfl ?_
      refine r_bipush (v := 30) C dX10_tried_33 (by decide) ?_
      refine callVI C cwX10_233_V (ctX10_tryPlan_0 _ _ w (sS sC h0) p0 p1 30 ) (by decide) (kS sC h0 kc_0) rfl rfl rfl (Nat.le_of_ble_eq_true rfl) (by decide) dX10_tried_35 (fun r5 w4 y3 => ?_)
      show V x 0 0 w4 38 [(0, .ref (gz (xG x) + 0)), (1, .int a1), (2, .int a2)] [.int r5]
      obtain ⟨h6, g7⟩ := y3
      have h8 := Ch.tr h0 h6 (by decide)
      refine r_pop C dX10_tried_38 rfl ?_
      refine r_iload_n 1 C dX10_tried_39 rfl ?_
      refine r_iconst (v := (-1)) C dX10_tried_40 (by decide) ?_
      refine r_icmp_ne 54 C dX10_tried_41 (by decide) (fun c9 => ?_) (fun c9 => ?_)
      · have c9' := i_ne c9
        exfalso; omega
      · have c9' := i_eq c9
        refine r_aload_n 0 C dX10_tried_44 rfl ?_
        refine gfX10_45 38 C (kS sC h8 kc_0) (xS sC h8 xc_0_6) dX10_tried_45 ?_
        refine callVI C cwX10_153_V (ctX6_worth_38 _ _ w4 (sS sC h8) (h6.I (by decide) p0)  ) (by decide) (kS sC h8 kc_38) rfl rfl rfl (Nat.le_of_ble_eq_true rfl) (by decide) dX10_tried_48 (fun r12 w11 y10 => ?_)
        show V x 0 0 w11 51 [(0, .ref (gz (xG x) + 0)), (1, .int a1), (2, .int a2)] [.int r12]
        obtain ⟨h13, g14⟩ := y10
        have h15 := Ch.tr h8 h13 (by decide)
        refine r_goto 71 C dX10_tried_51 (by decide) ?_
        exact hret _ _ _ _ dX10_tried_71 rfl ⟨h15, by omega⟩
    · have c2' := i_ne c2
      exfalso; omega
  · have c1' := i_ne c1
    refine r_iload_n 1 C dX10_tried_5 rfl ?_
    refine callSI C cwX10_236_S (ctX10_isKind _ _ w   a1 ) (by decide) rfl rfl (Nat.le_of_ble_eq_true rfl) (by decide) dX10_tried_6 (fun r18 w17 y16 => ?_)
    show V x 0 0 w17 9 [(0, .ref (gz (xG x) + 0)), (1, .int a1), (2, .int a2)] [.int r18]
    obtain ⟨h19, g20⟩ := y16
    have h21 := Ch.tr h0 h19 (by decide)
    refine r_if_ne 15 C dX10_tried_9 (by decide) (fun c22 => ?_) (fun c22 => ?_)
    · have c22' := i_ne c22
      refine r_iload_n 1 C dX10_tried_15 rfl ?_
      refine r_iconst (v := (-1)) C dX10_tried_16 (by decide) ?_
      refine r_icmp_eq 32 C dX10_tried_17 (by decide) (fun c23 => ?_) (fun c23 => ?_)
      · have c23' := i_eq c23
        refine r_aload_n 0 C dX10_tried_32 rfl ?_
        refine r_bipush (v := 30) C dX10_tried_33 (by decide) ?_
        refine callVI C cwX10_233_V (ctX10_tryPlan_0 _ _ w17 (sS sC h21) (h19.I (by decide) p0) (h19.I (by decide) p1) 30 ) (by decide) (kS sC h21 kc_0) rfl rfl rfl (Nat.le_of_ble_eq_true rfl) (by decide) dX10_tried_35 (fun r26 w25 y24 => ?_)
        show V x 0 0 w25 38 [(0, .ref (gz (xG x) + 0)), (1, .int a1), (2, .int a2)] [.int r26]
        obtain ⟨h27, g28⟩ := y24
        have h29 := Ch.tr h21 h27 (by decide)
        refine r_pop C dX10_tried_38 rfl ?_
        refine r_iload_n 1 C dX10_tried_39 rfl ?_
        refine r_iconst (v := (-1)) C dX10_tried_40 (by decide) ?_
        refine r_icmp_ne 54 C dX10_tried_41 (by decide) (fun c30 => ?_) (fun c30 => ?_)
        · have c30' := i_ne c30
          exfalso; omega
        · have c30' := i_eq c30
          refine r_aload_n 0 C dX10_tried_44 rfl ?_
          refine gfX10_45 38 C (kS sC h29 kc_0) (xS sC h29 xc_0_6) dX10_tried_45 ?_
          refine callVI C cwX10_153_V (ctX6_worth_38 _ _ w25 (sS sC h29) (h27.I (by decide) (h19.I (by decide) p0))  ) (by decide) (kS sC h29 kc_38) rfl rfl rfl (Nat.le_of_ble_eq_true rfl) (by decide) dX10_tried_48 (fun r33 w32 y31 => ?_)
          show V x 0 0 w32 51 [(0, .ref (gz (xG x) + 0)), (1, .int a1), (2, .int a2)] [.int r33]
          obtain ⟨h34, g35⟩ := y31
          have h36 := Ch.tr h29 h34 (by decide)
          refine r_goto 71 C dX10_tried_51 (by decide) ?_
          exact hret _ _ _ _ dX10_tried_71 rfl ⟨h36, by omega⟩
      · have c23' := i_ne c23
        refine r_iload_n 2 C dX10_tried_20 rfl ?_
        refine r_if_lt 29 C dX10_tried_21 (by decide) (fun c37 => ?_) (fun c37 => ?_)
        · have c37' := i_lt c37
          refine r_ldc C mw2_226 dX10_tried_29 ?_
          exact hret _ _ _ _ dX10_tried_31 rfl ⟨h21, by omega⟩
        · have c37' := i_nlt c37
          refine r_iload_n 2 C dX10_tried_24 rfl ?_
          refine r_iconst (v := 1) C dX10_tried_25 (by decide) ?_
          refine r_icmp_le 32 C dX10_tried_26 (by decide) (fun c38 => ?_) (fun c38 => ?_)
          · have c38' := i_le c38
            refine r_aload_n 0 C dX10_tried_32 rfl ?_
            refine r_bipush (v := 30) C dX10_tried_33 (by decide) ?_
            refine callVI C cwX10_233_V (ctX10_tryPlan_0 _ _ w17 (sS sC h21) (h19.I (by decide) p0) (h19.I (by decide) p1) 30 ) (by decide) (kS sC h21 kc_0) rfl rfl rfl (Nat.le_of_ble_eq_true rfl) (by decide) dX10_tried_35 (fun r41 w40 y39 => ?_)
            show V x 0 0 w40 38 [(0, .ref (gz (xG x) + 0)), (1, .int a1), (2, .int a2)] [.int r41]
            obtain ⟨h42, g43⟩ := y39
            have h44 := Ch.tr h21 h42 (by decide)
            refine r_pop C dX10_tried_38 rfl ?_
            refine r_iload_n 1 C dX10_tried_39 rfl ?_
            refine r_iconst (v := (-1)) C dX10_tried_40 (by decide) ?_
            refine r_icmp_ne 54 C dX10_tried_41 (by decide) (fun c45 => ?_) (fun c45 => ?_)
            · have c45' := i_ne c45
              refine r_aload_n 0 C dX10_tried_54 rfl ?_
              refine gfX10_45 38 C (kS sC h44 kc_0) (xS sC h44 xc_0_6) dX10_tried_55 ?_
              refine r_iload_n 1 C dX10_tried_58 rfl ?_
              refine r_iload_n 2 C dX10_tried_59 rfl ?_
              refine r_if_ne 67 C dX10_tried_60 (by decide) (fun c46 => ?_) (fun c46 => ?_)
              · have c46' := i_ne c46
                refine r_iconst (v := 2) C dX10_tried_67 (by decide) ?_
                refine callVI C cwX10_145_V (ctX6_heads_38 _ _ w40 (sS sC h44) (h42.I (by decide) (h19.I (by decide) p0)) a1 2 ) (by decide) (kS sC h44 kc_38) rfl rfl rfl (Nat.le_of_ble_eq_true rfl) (by decide) dX10_tried_68 (fun r49 w48 y47 => ?_)
                show V x 0 0 w48 71 [(0, .ref (gz (xG x) + 0)), (1, .int a1), (2, .int a2)] [.int r49]
                obtain ⟨h50, g51⟩ := y47
                have h52 := Ch.tr h44 h50 (by decide)
                exact hret _ _ _ _ dX10_tried_71 rfl ⟨h52, by omega⟩
              · have c46' := i_eq c46
                refine r_iconst (v := 1) C dX10_tried_63 (by decide) ?_
                refine r_goto 68 C dX10_tried_64 (by decide) ?_
                refine callVI C cwX10_145_V (ctX6_heads_38 _ _ w40 (sS sC h44) (h42.I (by decide) (h19.I (by decide) p0)) a1 1 ) (by decide) (kS sC h44 kc_38) rfl rfl rfl (Nat.le_of_ble_eq_true rfl) (by decide) dX10_tried_68 (fun r55 w54 y53 => ?_)
                show V x 0 0 w54 71 [(0, .ref (gz (xG x) + 0)), (1, .int a1), (2, .int a2)] [.int r55]
                obtain ⟨h56, g57⟩ := y53
                have h58 := Ch.tr h44 h56 (by decide)
                exact hret _ _ _ _ dX10_tried_71 rfl ⟨h58, by omega⟩
            · have c45' := i_eq c45
              refine r_aload_n 0 C dX10_tried_44 rfl ?_
              refine gfX10_45 38 C (kS sC h44 kc_0) (xS sC h44 xc_0_6) dX10_tried_45 ?_
              refine callVI C cwX10_153_V (ctX6_worth_38 _ _ w40 (sS sC h44) (h42.I (by decide) (h19.I (by decide) p0))  ) (by decide) (kS sC h44 kc_38) rfl rfl rfl (Nat.le_of_ble_eq_true rfl) (by decide) dX10_tried_48 (fun r61 w60 y59 => ?_)
              show V x 0 0 w60 51 [(0, .ref (gz (xG x) + 0)), (1, .int a1), (2, .int a2)] [.int r61]
              obtain ⟨h62, g63⟩ := y59
              have h64 := Ch.tr h44 h62 (by decide)
              refine r_goto 71 C dX10_tried_51 (by decide) ?_
              exact hret _ _ _ _ dX10_tried_71 rfl ⟨h64, by omega⟩
          · have c38' := i_nle c38
            refine r_ldc C mw2_226 dX10_tried_29 ?_
            exact hret _ _ _ _ dX10_tried_31 rfl ⟨h21, by omega⟩
    · have c22' := i_eq c22
      refine r_ldc C mw3_198 dX10_tried_12 ?_
      exact hret _ _ _ _ dX10_tried_14 rfl ⟨h21, by omega⟩
set_option maxHeartbeats 4000000 in
set_option maxRecDepth 100000 in
theorem ctX10_where_0 (l : Launch) (G : Gt) (w : Wv) (sC : Str KC XC w) (p0 : wI w 3 3 = 0) (a1 : Int32) (a2 : Int32) : CtI l G yX10_where cX10_where 3 .int ({ frames := 1, cells := 0, slots := 0, locals := 21 } : Room) [.ref (gz G + 0), .int a1, .int a2] w (fun r w' => Ch [] w w' ∧ (r.toInt = -1000000001)) := by
  refine enterI (by decide) (Nat.le_of_ble_eq_true rfl) ?_
  intro x el eG C hret
  subst el; subst eG
  show V x 0 0 w 0 [(0, .ref (gz (xG x) + 0)), (1, .int a1), (2, .int a2)] []
  have h0 : Ch [] w w := Ch.rf
  have qm1000000001 : ((-1000000001) : Int32).toInt = (-1000000001) := by decide
  have q0 : (0 : Int32).toInt = 0 := by decide
  refine r_aload_n 0 C dX10_where_0 rfl ?_
  refine r_iload_n 1 C dX10_where_1 rfl ?_
  refine callVI C cwX10_165_V (ctX10_isCrowd_0 _ _ w (sS sC h0) p0 a1 ) (by decide) (kS sC h0 kc_0) rfl rfl rfl (Nat.le_of_ble_eq_true rfl) (by decide) dX10_where_2 (fun r3 w2 y1 => ?_)
  show V x 0 0 w2 5 [(0, .ref (gz (xG x) + 0)), (1, .int a1), (2, .int a2)] [.int r3]
  obtain ⟨h4, g5⟩ := y1
  have h6 := Ch.tr h0 h4 (by decide)
  refine r_if_ne 11 C dX10_where_5 (by decide) (fun c7 => ?_) (fun c7 => ?_)
  · have c7' := i_ne c7
    exfalso; omega
  · have c7' := i_eq c7
    refine r_ldc C mw3_198 dX10_where_8 ?_
    exact hret _ _ _ _ dX10_where_10 rfl ⟨h6, by omega⟩
set_option maxHeartbeats 4000000 in
set_option maxRecDepth 100000 in
theorem ctX10_soonest_0 (l : Launch) (G : Gt) (w : Wv) (sC : Str KC XC w) (p0 : wI w 3 4 = 0) (a1 : Int32) (a2 : Int32) (a3 : Int32) : CtI l G yX10_soonest cX10_soonest 4 .int ({ frames := 1, cells := 0, slots := 0, locals := 21 } : Room) [.ref (gz G + 0), .int a1, .int a2, .int a3] w (fun r w' => Ch [] w w' ∧ (r.toInt = -1000000001)) := by
  refine enterI (by decide) (Nat.le_of_ble_eq_true rfl) ?_
  intro x el eG C hret
  subst el; subst eG
  show V x 0 0 w 0 [(0, .ref (gz (xG x) + 0)), (1, .int a1), (2, .int a2), (3, .int a3)] []
  have h0 : Ch [] w w := Ch.rf
  have qm1000000001 : ((-1000000001) : Int32).toInt = (-1000000001) := by decide
  have q0 : (0 : Int32).toInt = 0 := by decide
  refine r_iload_n 1 C dX10_soonest_0 rfl ?_
  refine callSI C cwX10_236_S (ctX10_isKind _ _ w   a1 ) (by decide) rfl rfl (Nat.le_of_ble_eq_true rfl) (by decide) dX10_soonest_1 (fun r3 w2 y1 => ?_)
  show V x 0 0 w2 4 [(0, .ref (gz (xG x) + 0)), (1, .int a1), (2, .int a2), (3, .int a3)] [.int r3]
  obtain ⟨h4, g5⟩ := y1
  have h6 := Ch.tr h0 h4 (by decide)
  refine r_if_eq 15 C dX10_soonest_4 (by decide) (fun c7 => ?_) (fun c7 => ?_)
  · have c7' := i_eq c7
    refine r_ldc C mw3_198 dX10_soonest_15 ?_
    exact hret _ _ _ _ dX10_soonest_17 rfl ⟨h6, by omega⟩
  · have c7' := i_ne c7
    refine r_aload_n 0 C dX10_soonest_7 rfl ?_
    refine r_iload_n 2 C dX10_soonest_8 rfl ?_
    refine callVI C cwX10_190_V (ctX10_isTune_0 _ _ w2 (sS sC h6) (h4.I (by decide) p0) a2 ) (by decide) (kS sC h6 kc_0) rfl rfl rfl (Nat.le_of_ble_eq_true rfl) (by decide) dX10_soonest_9 (fun r10 w9 y8 => ?_)
    show V x 0 0 w9 12 [(0, .ref (gz (xG x) + 0)), (1, .int a1), (2, .int a2), (3, .int a3)] [.int r10]
    obtain ⟨h11, g12⟩ := y8
    have h13 := Ch.tr h6 h11 (by decide)
    refine r_if_ne 18 C dX10_soonest_12 (by decide) (fun c14 => ?_) (fun c14 => ?_)
    · have c14' := i_ne c14
      exfalso; omega
    · have c14' := i_eq c14
      refine r_ldc C mw3_198 dX10_soonest_15 ?_
      exact hret _ _ _ _ dX10_soonest_17 rfl ⟨h13, by omega⟩
set_option maxHeartbeats 4000000 in
set_option maxRecDepth 100000 in
theorem ctX10_bestWall_0 (l : Launch) (G : Gt) (w : Wv) (sC : Str KC XC w) (p0 : wI w 3 3 = 0) (p1 : wI w 21 0 = 0) (a1 : Int32) (a2 : Int32) : CtI l G yX10_bestWall cX10_bestWall 8 .int ({ frames := 3, cells := 0, slots := 0, locals := 64 } : Room) [.ref (gz G + 0), .int a1, .int a2] w (fun r w' => Ch [29, 33] w w' ∧ (((a1.toInt < 0 ∨ 2 < a1.toInt) → r.toInt = -1000000001) ∧ ((0 ≤ a1.toInt ∧ a1.toInt ≤ 2 ∧ (a2.toInt < 0 ∨ 1 < a2.toInt)) → r.toInt = -1000000002) ∧ ((0 ≤ a1.toInt ∧ a1.toInt ≤ 2 ∧ 0 ≤ a2.toInt ∧ a2.toInt ≤ 1) → r.toInt = -1))) := by
  refine enterI (by decide) (Nat.le_of_ble_eq_true rfl) ?_
  intro x el eG C hret
  subst el; subst eG
  show V x 0 0 w 0 [(0, .ref (gz (xG x) + 0)), (1, .int a1), (2, .int a2)] []
  have h0 : Ch [29, 33] w w := Ch.rf
  have qm1000000002 : ((-1000000002) : Int32).toInt = (-1000000002) := by decide
  have qm1000000001 : ((-1000000001) : Int32).toInt = (-1000000001) := by decide
  have qm1 : ((-1) : Int32).toInt = (-1) := by decide
  have q0 : (0 : Int32).toInt = 0 := by decide
  have q1 : (1 : Int32).toInt = 1 := by decide
  refine r_iload_n 1 C dX10_bestWall_0 rfl ?_
  refine callSI C cwX10_236_S (ctX10_isKind _ _ w   a1 ) (by decide) rfl rfl (Nat.le_of_ble_eq_true rfl) (by decide) dX10_bestWall_1 (fun r3 w2 y1 => ?_)
  show V x 0 0 w2 4 [(0, .ref (gz (xG x) + 0)), (1, .int a1), (2, .int a2)] [.int r3]
  obtain ⟨h4, g5⟩ := y1
  have h6 := Ch.tr h0 h4 (by decide)
  refine r_if_ne 10 C dX10_bestWall_4 (by decide) (fun c7 => ?_) (fun c7 => ?_)
  · have c7' := i_ne c7
    refine r_iload_n 2 C dX10_bestWall_10 rfl ?_
    refine r_if_lt 19 C dX10_bestWall_11 (by decide) (fun c8 => ?_) (fun c8 => ?_)
    · have c8' := i_lt c8
      refine r_ldc C mw2_226 dX10_bestWall_19 ?_
      exact hret _ _ _ _ dX10_bestWall_21 rfl ⟨h6, by omega⟩
    · have c8' := i_nlt c8
      refine r_iload_n 2 C dX10_bestWall_14 rfl ?_
      refine r_iconst (v := 1) C dX10_bestWall_15 (by decide) ?_
      refine r_icmp_le 22 C dX10_bestWall_16 (by decide) (fun c9 => ?_) (fun c9 => ?_)
      · have c9' := i_le c9
        refine r_iconst (v := (-1)) C dX10_bestWall_22 (by decide) ?_
        refine r_istore_n [(3, .int (-1)), (0, .ref (gz (xG x) + 0)), (1, .int a1), (2, .int a2)] C dX10_bestWall_23 (by decide) rfl ?_
        refine r_iconst (v := 0) C dX10_bestWall_24 (by decide) ?_
        refine r_istore [(4, .int 0), (3, .int (-1)), (0, .ref (gz (xG x) + 0)), (1, .int a1), (2, .int a2)] C dX10_bestWall_25 (by decide) rfl ?_
        refine r_aload_n 2 C dX10_bestWall_27 rfl ?_
        refine gfX10_41 35 C (kS sC h6 kc_0) (xS sC h6 xc_0_5) dX10_bestWall_28 ?_
        refine r_iload_n 3 C dX10_bestWall_31 rfl ?_
        refine r_iconst (v := 1) C dX10_bestWall_32 (by decide) ?_
        refine callVI C cwX10_145_V (ctX6_heads_35 _ _ w2 (sS sC h6) (h4.I (by decide) p0) a1 1 ) (by decide) (kS sC h6 kc_35) rfl rfl rfl (Nat.le_of_ble_eq_true rfl) (by decide) dX10_bestWall_33 (fun r12 w11 y10 => ?_)
        show V x 0 0 w11 36 [(4, .int 0), (3, .int (-1)), (0, .ref (gz (xG x) + 0)), (1, .int a1), (2, .int a2)] [.int r12]
        obtain ⟨h13, g14⟩ := y10
        have h15 := Ch.tr h6 h13 (by decide)
        refine r_istore [(5, .int r12), (4, .int 0), (3, .int (-1)), (0, .ref (gz (xG x) + 0)), (1, .int a1), (2, .int a2)] C dX10_bestWall_36 (by decide) rfl ?_
        refine r_aload_n 3 C dX10_bestWall_38 rfl ?_
        refine gfX10_33 28 C (kS sC h15 kc_0) (xS sC h15 xc_0_4) dX10_bestWall_39 ?_
        refine r_aload_n 3 C dX10_bestWall_42 rfl ?_
        refine gfX10_29 21 C (kS sC h15 kc_0) (xS sC h15 xc_0_3) dX10_bestWall_43 ?_
        refine callVV C cwX10_247_V (ctX1_copy_28_21 _ _ w11 (sS sC h15)   ) (by decide) (kS sC h15 kc_28) rfl rfl rfl (Nat.le_of_ble_eq_true rfl) (by decide) dX10_bestWall_46 (fun w17 y16 => ?_)
        show V x 0 0 w17 49 [(5, .int r12), (4, .int 0), (3, .int (-1)), (0, .ref (gz (xG x) + 0)), (1, .int a1), (2, .int a2)] []
        have h19 := y16
        have h20 := Ch.tr h15 h19 (by decide)
        refine r_iconst (v := 0) C dX10_bestWall_49 (by decide) ?_
        refine r_istore [(6, .int 0), (5, .int r12), (4, .int 0), (3, .int (-1)), (0, .ref (gz (xG x) + 0)), (1, .int a1), (2, .int a2)] C dX10_bestWall_50 (by decide) rfl ?_
        refine r_iload 0 C dX10_bestWall_52 rfl ?_
        refine r_aload_n 4 C dX10_bestWall_54 rfl ?_
        refine gfX10_29 21 C (kS sC h20 kc_0) (xS sC h20 xc_0_3) dX10_bestWall_55 ?_
        refine gfX10_114 (v := 0) C (kS sC h20 kc_21) (h19.I (by decide) (h13.I (by decide) (h4.I (by decide) p1))) dX10_bestWall_58 ?_
        refine r_icmp_ge 134 C dX10_bestWall_61 (by decide) (fun c21 => ?_) (fun c21 => ?_)
        · have c21' := i_le c21
          refine r_iload_n 3 C dX10_bestWall_134 rfl ?_
          refine r_iconst (v := (-1)) C dX10_bestWall_135 (by decide) ?_
          refine r_icmp_eq 143 C dX10_bestWall_136 (by decide) (fun c22 => ?_) (fun c22 => ?_)
          · have c22' := i_eq c22
            refine r_aload_n 4 C dX10_bestWall_143 rfl ?_
            refine gfX10_29 21 C (kS sC h20 kc_0) (xS sC h20 xc_0_3) dX10_bestWall_144 ?_
            refine r_iload_n 3 C dX10_bestWall_147 rfl ?_
            refine callVI C cwX10_141_V (ctX1_code_21 _ _ w17 (sS sC h20)  (-1) (by omega)) (by decide) (kS sC h20 kc_21) rfl rfl rfl (Nat.le_of_ble_eq_true rfl) (by decide) dX10_bestWall_148 (fun r25 w24 y23 => ?_)
            show V x 0 0 w24 151 [(6, .int 0), (5, .int r12), (4, .int 0), (3, .int (-1)), (0, .ref (gz (xG x) + 0)), (1, .int a1), (2, .int a2)] [.int r25]
            obtain ⟨h26, g27⟩ := y23
            have h28 := Ch.tr h20 h26 (by decide)
            refine r_goto 156 C dX10_bestWall_151 (by decide) ?_
            exact hret _ _ _ _ dX10_bestWall_156 rfl ⟨h28, by omega⟩
          · have c22' := i_ne c22
            exfalso; omega
        · have c21' := i_nle c21
          exfalso; omega
      · have c9' := i_nle c9
        refine r_ldc C mw2_226 dX10_bestWall_19 ?_
        exact hret _ _ _ _ dX10_bestWall_21 rfl ⟨h6, by omega⟩
  · have c7' := i_eq c7
    refine r_ldc C mw3_198 dX10_bestWall_7 ?_
    exact hret _ _ _ _ dX10_bestWall_9 rfl ⟨h6, by omega⟩
set_option maxHeartbeats 4000000 in
set_option maxRecDepth 100000 in
theorem ctX10_wax_0 (l : Launch) (G : Gt) (w : Wv) (sC : Str KC XC w) (p0 : wI w 3 3 = 0) (p1 : wI w 44 0 = 0) (a1 : Int32) : CtI l G yX10_wax cX10_wax 4 .int ({ frames := 2, cells := 0, slots := 0, locals := 44 } : Room) [.ref (gz G + 0), .int a1] w (fun r w' => Ch [38] w w' ∧ (((a1.toInt < 0 ∨ 2 < a1.toInt) → r.toInt = -1000000001) ∧ ((0 ≤ a1.toInt ∧ a1.toInt ≤ 2) → r.toInt = 0))) := by
  refine enterI (by decide) (Nat.le_of_ble_eq_true rfl) ?_
  intro x el eG C hret
  subst el; subst eG
  show V x 0 0 w 0 [(0, .ref (gz (xG x) + 0)), (1, .int a1)] []
  have h0 : Ch [38] w w := Ch.rf
  have qm1000000001 : ((-1000000001) : Int32).toInt = (-1000000001) := by decide
  have q0 : (0 : Int32).toInt = 0 := by decide
  have q30 : (30 : Int32).toInt = 30 := by decide
  refine r_iload_n 1 C dX10_wax_0 rfl ?_
  refine callSI C cwX10_236_S (ctX10_isKind _ _ w   a1 ) (by decide) rfl rfl (Nat.le_of_ble_eq_true rfl) (by decide) dX10_wax_1 (fun r3 w2 y1 => ?_)
  show V x 0 0 w2 4 [(0, .ref (gz (xG x) + 0)), (1, .int a1)] [.int r3]
  obtain ⟨h4, g5⟩ := y1
  have h6 := Ch.tr h0 h4 (by decide)
  refine r_if_ne 10 C dX10_wax_4 (by decide) (fun c7 => ?_) (fun c7 => ?_)
  · have c7' := i_ne c7
    refine r_aload_n 0 C dX10_wax_10 rfl ?_
    refine r_bipush (v := 30) C dX10_wax_11 (by decide) ?_
    refine callVI C cwX10_233_V (ctX10_tryPlan_0 _ _ w2 (sS sC h6) (h4.I (by decide) p0) (h4.I (by decide) p1) 30 ) (by decide) (kS sC h6 kc_0) rfl rfl rfl (Nat.le_of_ble_eq_true rfl) (by decide) dX10_wax_13 (fun r10 w9 y8 => ?_)
    show V x 0 0 w9 16 [(0, .ref (gz (xG x) + 0)), (1, .int a1)] [.int r10]
    obtain ⟨h11, g12⟩ := y8
    have h13 := Ch.tr h6 h11 (by decide)
    refine r_pop C dX10_wax_16 rfl ?_
    refine r_iconst (v := 0) C dX10_wax_17 (by decide) ?_
    refine r_istore_n [(2, .int 0), (0, .ref (gz (xG x) + 0)), (1, .int a1)] C dX10_wax_18 (by decide) rfl ?_
    refine r_iconst (v := 0) C dX10_wax_19 (by decide) ?_
    refine r_istore_n [(3, .int 0), (2, .int 0), (0, .ref (gz (xG x) + 0)), (1, .int a1)] C dX10_wax_20 (by decide) rfl ?_
    refine r_iload_n 0 C dX10_wax_21 rfl ?_
    refine r_aload_n 2 C dX10_wax_22 rfl ?_
    refine gfX10_19 3 C (kS sC h13 kc_0) (xS sC h13 xc_0_1) dX10_wax_23 ?_
    refine gfX10_129 (v := 0) C (kS sC h13 kc_3) (h11.I (by decide) (h4.I (by decide) p0)) dX10_wax_26 ?_
    refine r_icmp_ge 76 C dX10_wax_29 (by decide) (fun c14 => ?_) (fun c14 => ?_)
    · have c14' := i_le c14
      refine r_iload_n 1 C dX10_wax_76 rfl ?_
      exact hret _ _ _ _ dX10_wax_77 rfl ⟨h13, by omega⟩
    · have c14' := i_nle c14
      exfalso; omega
  · have c7' := i_eq c7
    refine r_ldc C mw3_198 dX10_wax_7 ?_
    exact hret _ _ _ _ dX10_wax_9 rfl ⟨h6, by omega⟩
set_option maxHeartbeats 4000000 in
set_option maxRecDepth 100000 in
theorem ctX10_see_0 (l : Launch) (G : Gt) (w : Wv) (sC : Str KC XC w) (p0 : wI w 21 2 = 0) (p1 : wI w 21 3 = 0) (p2 : wI w 3 3 = 0) (a1 : Int32) (a2 : Int32) (a3 : Int32) (a4 : Int32) : CtI l G yX10_see cX10_see 6 .int ({ frames := 1, cells := 0, slots := 0, locals := 22 } : Room) [.ref (gz G + 0), .int a1, .int a2, .int a3, .int a4] w (fun r w' => Ch [] w w' ∧ (r.toInt = -1000000001)) := by
  refine enterI (by decide) (Nat.le_of_ble_eq_true rfl) ?_
  intro x el eG C hret
  subst el; subst eG
  show V x 0 0 w 0 [(0, .ref (gz (xG x) + 0)), (1, .int a1), (2, .int a2), (3, .int a3), (4, .int a4)] []
  have h0 : Ch [] w w := Ch.rf
  have qm1000000001 : ((-1000000001) : Int32).toInt = (-1000000001) := by decide
  have q0 : (0 : Int32).toInt = 0 := by decide
  refine r_aload_n 0 C dX10_see_0 rfl ?_
  refine gfX10_29 21 C (kS sC h0 kc_0) (xS sC h0 xc_0_3) dX10_see_1 ?_
  refine r_iload_n 3 C dX10_see_4 rfl ?_
  refine r_iload 4 C dX10_see_5 rfl ?_
  refine callVI C cwX10_158_V (ctX1_cellAt_21 _ _ w (sS sC h0) p0 p1 a3 a4 ) (by decide) (kS sC h0 kc_21) rfl rfl rfl (Nat.le_of_ble_eq_true rfl) (by decide) dX10_see_7 (fun r3 w2 y1 => ?_)
  show V x 0 0 w2 10 [(0, .ref (gz (xG x) + 0)), (1, .int a1), (2, .int a2), (3, .int a3), (4, .int a4)] [.int r3]
  obtain ⟨h4, g5⟩ := y1
  have h6 := Ch.tr h0 h4 (by decide)
  refine r_istore [(5, .int r3), (0, .ref (gz (xG x) + 0)), (1, .int a1), (2, .int a2), (3, .int a3), (4, .int a4)] C dX10_see_10 (by decide) rfl ?_
  refine r_aload_n 1 C dX10_see_12 rfl ?_
  refine r_iload_n 2 C dX10_see_13 rfl ?_
  refine callVI C cwX10_165_V (ctX10_isCrowd_0 _ _ w2 (sS sC h6) (h4.I (by decide) p2) a1 ) (by decide) (kS sC h6 kc_0) rfl rfl rfl (Nat.le_of_ble_eq_true rfl) (by decide) dX10_see_14 (fun r9 w8 y7 => ?_)
  show V x 0 0 w8 17 [(5, .int r3), (0, .ref (gz (xG x) + 0)), (1, .int a1), (2, .int a2), (3, .int a3), (4, .int a4)] [.int r9]
  obtain ⟨h10, g11⟩ := y7
  have h12 := Ch.tr h6 h10 (by decide)
  refine r_if_eq 26 C dX10_see_17 (by decide) (fun c13 => ?_) (fun c13 => ?_)
  · have c13' := i_eq c13
    refine r_ldc C mw3_198 dX10_see_26 ?_
    exact hret _ _ _ _ dX10_see_28 rfl ⟨h12, by omega⟩
  · have c13' := i_ne c13
    exfalso; omega
set_option maxHeartbeats 4000000 in
set_option maxRecDepth 100000 in
theorem ctX10_walks_0 (l : Launch) (G : Gt) (w : Wv) (sC : Str KC XC w) (p0 : wI w 3 4 = 0) (a1 : Int32) (a2 : Int32) (a3 : Int32) : CtI l G yX10_walks cX10_walks 4 .int ({ frames := 1, cells := 0, slots := 0, locals := 21 } : Room) [.ref (gz G + 0), .int a1, .int a2, .int a3] w (fun r w' => Ch [] w w' ∧ (r.toInt = -1000000001)) := by
  refine enterI (by decide) (Nat.le_of_ble_eq_true rfl) ?_
  intro x el eG C hret
  subst el; subst eG
  show V x 0 0 w 0 [(0, .ref (gz (xG x) + 0)), (1, .int a1), (2, .int a2), (3, .int a3)] []
  have h0 : Ch [] w w := Ch.rf
  have qm1000000001 : ((-1000000001) : Int32).toInt = (-1000000001) := by decide
  have q0 : (0 : Int32).toInt = 0 := by decide
  refine r_aload_n 0 C dX10_walks_0 rfl ?_
  refine r_iload_n 2 C dX10_walks_1 rfl ?_
  refine callVI C cwX10_190_V (ctX10_isTune_0 _ _ w (sS sC h0) p0 a2 ) (by decide) (kS sC h0 kc_0) rfl rfl rfl (Nat.le_of_ble_eq_true rfl) (by decide) dX10_walks_2 (fun r3 w2 y1 => ?_)
  show V x 0 0 w2 5 [(0, .ref (gz (xG x) + 0)), (1, .int a1), (2, .int a2), (3, .int a3)] [.int r3]
  obtain ⟨h4, g5⟩ := y1
  have h6 := Ch.tr h0 h4 (by decide)
  refine r_if_ne 11 C dX10_walks_5 (by decide) (fun c7 => ?_) (fun c7 => ?_)
  · have c7' := i_ne c7
    exfalso; omega
  · have c7' := i_eq c7
    refine r_ldc C mw3_198 dX10_walks_8 ?_
    exact hret _ _ _ _ dX10_walks_10 rfl ⟨h6, by omega⟩
set_option maxHeartbeats 4000000 in
set_option maxRecDepth 100000 in
theorem ctX10_tear_0 (l : Launch) (G : Gt) (w : Wv) (sC : Str KC XC w) (p0 : wI w 47 0 = 0) : CtI l G yX10_tear cX10_tear 2 .int ({ frames := 0, cells := 0, slots := 0, locals := 0 } : Room) [.ref (gz G + 0)] w (fun r w' => Ch [47] w w' ∧ (r.toInt = 0)) := by
  refine enterI (by decide) (Nat.le_of_ble_eq_true rfl) ?_
  intro x el eG C hret
  subst el; subst eG
  show V x 0 0 w 0 [(0, .ref (gz (xG x) + 0))] []
  have h0 : Ch [47] w w := Ch.rf
  have q0 : (0 : Int32).toInt = 0 := by decide
  refine r_aload_n 0 C dX10_tear_0 rfl ?_
  refine gfX10_61 47 C (kS sC h0 kc_0) (xS sC h0 xc_0_9) dX10_tear_1 ?_
  refine gfX10_157 (v := 0) C (kS sC h0 kc_47) p0 dX10_tear_4 ?_
  refine r_istore_n [(1, .int 0), (0, .ref (gz (xG x) + 0))] C dX10_tear_7 (by decide) rfl ?_
  refine r_aload_n 1 C dX10_tear_8 rfl ?_
  refine gfX10_61 47 C (kS sC h0 kc_0) (xS sC h0 xc_0_9) dX10_tear_9 ?_
  refine r_iconst (v := 0) C dX10_tear_12 (by decide) ?_
  refine pfX10_157 C (kS sC h0 kc_47) dX10_tear_13 (fun w1 e2 => ?_)
  have h3 := Ch.put h0 e2 (by decide)
  refine r_iload_n 0 C dX10_tear_16 rfl ?_
  exact hret _ _ _ _ dX10_tear_17 rfl ⟨h3, by omega⟩
set_option maxHeartbeats 4000000 in
set_option maxRecDepth 100000 in
theorem ctX10_seed_0 (l : Launch) (G : Gt) (w : Wv) (sC : Str KC XC w) (p0 : wI w 0 14 = 0) (a1 : Int32) : CtI l G yX10_seed cX10_seed 3 .int ({ frames := 0, cells := 0, slots := 0, locals := 0 } : Room) [.ref (gz G + 0), .int a1] w (fun r w' => Ch [0] w w' ∧ ((a1.toInt < 0 → r.toInt = -1000000002) ∧ (0 ≤ a1.toInt → r.toInt = 0))) := by
  refine enterI (by decide) (Nat.le_of_ble_eq_true rfl) ?_
  intro x el eG C hret
  subst el; subst eG
  show V x 0 0 w 0 [(0, .ref (gz (xG x) + 0)), (1, .int a1)] []
  have h0 : Ch [0] w w := Ch.rf
  have qm1000000002 : ((-1000000002) : Int32).toInt = (-1000000002) := by decide
  have q0 : (0 : Int32).toInt = 0 := by decide
  refine r_iload_n 1 C dX10_seed_0 rfl ?_
  refine r_if_ge 7 C dX10_seed_1 (by decide) (fun c1 => ?_) (fun c1 => ?_)
  · have c1' := i_le c1
    refine r_aload_n 0 C dX10_seed_7 rfl ?_
    refine gfX10_260 (v := 0) C (kS sC h0 kc_0) p0 dX10_seed_8 ?_
    refine r_istore_n [(2, .int 0), (0, .ref (gz (xG x) + 0)), (1, .int a1)] C dX10_seed_11 (by decide) rfl ?_
    refine r_aload_n 1 C dX10_seed_12 rfl ?_
    refine r_iload_n 2 C dX10_seed_13 rfl ?_
    refine pfX10_260 C (kS sC h0 kc_0) dX10_seed_14 (fun w2 e3 => ?_)
    have h4 := Ch.put h0 e3 (by decide)
    refine r_iload_n 0 C dX10_seed_17 rfl ?_
    exact hret _ _ _ _ dX10_seed_18 rfl ⟨h4, by omega⟩
  · have c1' := i_nle c1
    refine r_ldc C mw2_226 dX10_seed_4 ?_
    exact hret _ _ _ _ dX10_seed_6 rfl ⟨h0, by omega⟩
set_option maxHeartbeats 4000000 in
set_option maxRecDepth 100000 in
theorem ctX2_take_104_35_21 (l : Launch) (G : Gt) (w : Wv) (sC : Str KC XC w) (p0 : wI w 3 3 = 0) (a3 : Int32) : CtV l G yX2_take cX2_take 4 ({ frames := 1, cells := 0, slots := 0, locals := 22 } : Room) [.ref (gz G + 104), .ref (gz G + 35), .ref (gz G + 21), .int a3] w (fun w' => Ch [104, 105, 106] w w') := by
  refine enterV (by decide) (Nat.le_of_ble_eq_true rfl) ?_
  intro x el eG C hnm hret
  subst el; subst eG
  show V x 0 0 w 0 [(0, .ref (gz (xG x) + 104)), (1, .ref (gz (xG x) + 35)), (2, .ref (gz (xG x) + 21)), (3, .int a3)] []
  have h0 : Ch [104, 105, 106] w w := Ch.rf
  have q0 : (0 : Int32).toInt = 0 := by decide
  have q1 : (1 : Int32).toInt = 1 := by decide
  refine r_aload_n 0 C dX2_take_0 rfl ?_
  refine r_iconst (v := 1) C dX2_take_1 (by decide) ?_
  refine pfX2_24 C (kS sC h0 kc_104) (z_of (by omega)) dX2_take_2 (fun w1 e2 => ?_)
  have h3 := Ch.put h0 e2 (by decide)
  refine r_aload_n 0 C dX2_take_5 rfl ?_
  refine r_iload_n 3 C dX2_take_6 rfl ?_
  refine pfX2_28 C (kS sC h3 kc_104) dX2_take_7 (fun w4 e5 => ?_)
  have h6 := Ch.put h3 e5 (by decide)
  refine r_aload_n 0 C dX2_take_10 rfl ?_
  refine gfX2_20 106 C (kS sC h6 kc_104) (xS sC h6 xc_104_2) dX2_take_11 ?_
  refine r_aload_n 1 C dX2_take_14 rfl ?_
  refine callVV C cwX2_32_V (ctX6_copy_106_35 _ _ w4 (sS sC h6) (g_nn e5 (by decide) (g_nn e2 (by decide) p0))  ) (by decide) (kS sC h6 kc_106) rfl rfl rfl (Nat.le_of_ble_eq_true rfl) (by decide) dX2_take_15 (fun w8 y7 => ?_)
  show V x 0 0 w8 18 [(0, .ref (gz (xG x) + 104)), (1, .ref (gz (xG x) + 35)), (2, .ref (gz (xG x) + 21)), (3, .int a3)] []
  have h10 := y7
  have h11 := Ch.tr h6 h10 (by decide)
  refine r_aload_n 2 C dX2_take_18 rfl ?_
  refine r_aload_n 0 C dX2_take_19 rfl ?_
  refine gfX2_9 105 C (kS sC h11 kc_104) (xS sC h11 xc_104_3) dX2_take_20 ?_
  refine callVV C cwX2_36_V (ctX1_giveWhats_21_105 _ _ w8 (sS sC h11)   ) (by decide) (kS sC h11 kc_21) rfl rfl rfl (Nat.le_of_ble_eq_true rfl) (by decide) dX2_take_23 (fun w13 y12 => ?_)
  show V x 0 0 w13 26 [(0, .ref (gz (xG x) + 104)), (1, .ref (gz (xG x) + 35)), (2, .ref (gz (xG x) + 21)), (3, .int a3)] []
  have h15 := y12
  have h16 := Ch.tr h11 h15 (by decide)
  exact hret _ _ _ dX2_take_26 h16
set_option maxHeartbeats 4000000 in
set_option maxRecDepth 100000 in
theorem ctX2_take_109_35_21 (l : Launch) (G : Gt) (w : Wv) (sC : Str KC XC w) (p0 : wI w 3 3 = 0) (a3 : Int32) : CtV l G yX2_take cX2_take 4 ({ frames := 1, cells := 0, slots := 0, locals := 22 } : Room) [.ref (gz G + 109), .ref (gz G + 35), .ref (gz G + 21), .int a3] w (fun w' => Ch [109, 110, 111] w w') := by
  refine enterV (by decide) (Nat.le_of_ble_eq_true rfl) ?_
  intro x el eG C hnm hret
  subst el; subst eG
  show V x 0 0 w 0 [(0, .ref (gz (xG x) + 109)), (1, .ref (gz (xG x) + 35)), (2, .ref (gz (xG x) + 21)), (3, .int a3)] []
  have h0 : Ch [109, 110, 111] w w := Ch.rf
  have q0 : (0 : Int32).toInt = 0 := by decide
  have q1 : (1 : Int32).toInt = 1 := by decide
  refine r_aload_n 0 C dX2_take_0 rfl ?_
  refine r_iconst (v := 1) C dX2_take_1 (by decide) ?_
  refine pfX2_24 C (kS sC h0 kc_109) (z_of (by omega)) dX2_take_2 (fun w1 e2 => ?_)
  have h3 := Ch.put h0 e2 (by decide)
  refine r_aload_n 0 C dX2_take_5 rfl ?_
  refine r_iload_n 3 C dX2_take_6 rfl ?_
  refine pfX2_28 C (kS sC h3 kc_109) dX2_take_7 (fun w4 e5 => ?_)
  have h6 := Ch.put h3 e5 (by decide)
  refine r_aload_n 0 C dX2_take_10 rfl ?_
  refine gfX2_20 111 C (kS sC h6 kc_109) (xS sC h6 xc_109_2) dX2_take_11 ?_
  refine r_aload_n 1 C dX2_take_14 rfl ?_
  refine callVV C cwX2_32_V (ctX6_copy_111_35 _ _ w4 (sS sC h6) (g_nn e5 (by decide) (g_nn e2 (by decide) p0))  ) (by decide) (kS sC h6 kc_111) rfl rfl rfl (Nat.le_of_ble_eq_true rfl) (by decide) dX2_take_15 (fun w8 y7 => ?_)
  show V x 0 0 w8 18 [(0, .ref (gz (xG x) + 109)), (1, .ref (gz (xG x) + 35)), (2, .ref (gz (xG x) + 21)), (3, .int a3)] []
  have h10 := y7
  have h11 := Ch.tr h6 h10 (by decide)
  refine r_aload_n 2 C dX2_take_18 rfl ?_
  refine r_aload_n 0 C dX2_take_19 rfl ?_
  refine gfX2_9 110 C (kS sC h11 kc_109) (xS sC h11 xc_109_3) dX2_take_20 ?_
  refine callVV C cwX2_36_V (ctX1_giveWhats_21_110 _ _ w8 (sS sC h11)   ) (by decide) (kS sC h11 kc_21) rfl rfl rfl (Nat.le_of_ble_eq_true rfl) (by decide) dX2_take_23 (fun w13 y12 => ?_)
  show V x 0 0 w13 26 [(0, .ref (gz (xG x) + 109)), (1, .ref (gz (xG x) + 35)), (2, .ref (gz (xG x) + 21)), (3, .int a3)] []
  have h15 := y12
  have h16 := Ch.tr h11 h15 (by decide)
  exact hret _ _ _ dX2_take_26 h16
set_option maxHeartbeats 4000000 in
set_option maxRecDepth 100000 in
theorem ctX10_keep_0 (l : Launch) (G : Gt) (w : Wv) (sC : Str KC XC w) (p0 : wI w 3 3 = 0) (a1 : Int32) : CtI l G yX10_keep cX10_keep 2 .int ({ frames := 2, cells := 0, slots := 0, locals := 45 } : Room) [.ref (gz G + 0), .int a1] w (fun r w' => Ch [104, 105, 106, 109, 110, 111] w w' ∧ (((a1.toInt < 0 ∨ 1 < a1.toInt) → r.toInt = -1000000001) ∧ ((0 ≤ a1.toInt ∧ a1.toInt ≤ 1) → r.toInt = 1))) := by
  refine enterI (by decide) (Nat.le_of_ble_eq_true rfl) ?_
  intro x el eG C hret
  subst el; subst eG
  show V x 0 0 w 0 [(0, .ref (gz (xG x) + 0)), (1, .int a1)] []
  have h0 : Ch [104, 105, 106, 109, 110, 111] w w := Ch.rf
  have qm1000000001 : ((-1000000001) : Int32).toInt = (-1000000001) := by decide
  have q0 : (0 : Int32).toInt = 0 := by decide
  have q1 : (1 : Int32).toInt = 1 := by decide
  refine r_iload_n 1 C dX10_keep_0 rfl ?_
  refine callSI C cwX10_263_S (ctX10_isImage _ _ w   a1 ) (by decide) rfl rfl (Nat.le_of_ble_eq_true rfl) (by decide) dX10_keep_1 (fun r3 w2 y1 => ?_)
  show V x 0 0 w2 4 [(0, .ref (gz (xG x) + 0)), (1, .int a1)] [.int r3]
  obtain ⟨h4, g5⟩ := y1
  have h6 := Ch.tr h0 h4 (by decide)
  refine r_if_ne 10 C dX10_keep_4 (by decide) (fun c7 => ?_) (fun c7 => ?_)
  · have c7' := i_ne c7
    refine r_aload_n 0 C dX10_keep_10 rfl ?_
    refine gfX10_92 103 C (kS sC h6 kc_0) (xS sC h6 xc_0_13) dX10_keep_11 ?_
    refine r_iload_n 1 C dX10_keep_14 rfl ?_
    rcases (show a1.toInt = 0 ∨ a1.toInt = 1 by omega) with c8 | c8
    · obtain rfl : a1 = 0 := i_of (by omega)
      refine r_aald 4 rfl C (kS sC h6 kc_103) (vin (by omega) (by omega)) (xS sC h6 xc_103_0) dX10_keep_15 ?_
      refine r_aload_n 0 C dX10_keep_16 rfl ?_
      refine gfX10_41 35 C (kS sC h6 kc_0) (xS sC h6 xc_0_5) dX10_keep_17 ?_
      refine r_aload_n 0 C dX10_keep_20 rfl ?_
      refine gfX10_29 21 C (kS sC h6 kc_0) (xS sC h6 xc_0_3) dX10_keep_21 ?_
      refine r_aload_n 0 C dX10_keep_24 rfl ?_
      refine gfX10_260 (v := (wI w 0 14)) C (kS sC h6 kc_0) (h4.I (by decide) rfl) dX10_keep_25 ?_
      refine callVV C cwX10_266_V (ctX2_take_104_35_21 _ _ w2 (sS sC h6) (h4.I (by decide) p0) (wI w 0 14) ) (by decide) (kS sC h6 kc_104) rfl rfl rfl (Nat.le_of_ble_eq_true rfl) (by decide) dX10_keep_28 (fun w10 y9 => ?_)
      show V x 0 0 w10 31 [(0, .ref (gz (xG x) + 0)), (1, .int 0)] []
      have h12 := y9
      have h13 := Ch.tr h6 h12 (by decide)
      refine r_iconst (v := 1) C dX10_keep_31 (by decide) ?_
      exact hret _ _ _ _ dX10_keep_32 rfl ⟨h13, by omega⟩
    · obtain rfl : a1 = 1 := i_of (by omega)
      refine r_aald 4 rfl C (kS sC h6 kc_103) (vin (by omega) (by omega)) (xS sC h6 xc_103_1) dX10_keep_15 ?_
      refine r_aload_n 0 C dX10_keep_16 rfl ?_
      refine gfX10_41 35 C (kS sC h6 kc_0) (xS sC h6 xc_0_5) dX10_keep_17 ?_
      refine r_aload_n 0 C dX10_keep_20 rfl ?_
      refine gfX10_29 21 C (kS sC h6 kc_0) (xS sC h6 xc_0_3) dX10_keep_21 ?_
      refine r_aload_n 0 C dX10_keep_24 rfl ?_
      refine gfX10_260 (v := (wI w 0 14)) C (kS sC h6 kc_0) (h4.I (by decide) rfl) dX10_keep_25 ?_
      refine callVV C cwX10_266_V (ctX2_take_109_35_21 _ _ w2 (sS sC h6) (h4.I (by decide) p0) (wI w 0 14) ) (by decide) (kS sC h6 kc_109) rfl rfl rfl (Nat.le_of_ble_eq_true rfl) (by decide) dX10_keep_28 (fun w15 y14 => ?_)
      show V x 0 0 w15 31 [(0, .ref (gz (xG x) + 0)), (1, .int 1)] []
      have h17 := y14
      have h18 := Ch.tr h6 h17 (by decide)
      refine r_iconst (v := 1) C dX10_keep_31 (by decide) ?_
      exact hret _ _ _ _ dX10_keep_32 rfl ⟨h18, by omega⟩
  · have c7' := i_eq c7
    refine r_ldc C mw3_198 dX10_keep_7 ?_
    exact hret _ _ _ _ dX10_keep_9 rfl ⟨h6, by omega⟩
set_option maxHeartbeats 4000000 in
set_option maxRecDepth 100000 in
theorem ctX10_goBack_0 (l : Launch) (G : Gt) (w : Wv) (sC : Str KC XC w) (p0 : wI w 104 0 = 0) (p1 : wI w 109 0 = 0) (a1 : Int32) : CtI l G yX10_goBack cX10_goBack 2 .int ({ frames := 1, cells := 0, slots := 0, locals := 20 } : Room) [.ref (gz G + 0), .int a1] w (fun r w' => Ch [] w w' ∧ (((a1.toInt < 0 ∨ 1 < a1.toInt) → r.toInt = -1000000001) ∧ ((0 ≤ a1.toInt ∧ a1.toInt ≤ 1) → r.toInt = -1000000003))) := by
  refine enterI (by decide) (Nat.le_of_ble_eq_true rfl) ?_
  intro x el eG C hret
  subst el; subst eG
  show V x 0 0 w 0 [(0, .ref (gz (xG x) + 0)), (1, .int a1)] []
  have h0 : Ch [] w w := Ch.rf
  have qm1000000003 : ((-1000000003) : Int32).toInt = (-1000000003) := by decide
  have qm1000000001 : ((-1000000001) : Int32).toInt = (-1000000001) := by decide
  have q0 : (0 : Int32).toInt = 0 := by decide
  have q1 : (1 : Int32).toInt = 1 := by decide
  refine r_iload_n 1 C dX10_goBack_0 rfl ?_
  refine callSI C cwX10_263_S (ctX10_isImage _ _ w   a1 ) (by decide) rfl rfl (Nat.le_of_ble_eq_true rfl) (by decide) dX10_goBack_1 (fun r3 w2 y1 => ?_)
  show V x 0 0 w2 4 [(0, .ref (gz (xG x) + 0)), (1, .int a1)] [.int r3]
  obtain ⟨h4, g5⟩ := y1
  have h6 := Ch.tr h0 h4 (by decide)
  refine r_if_ne 10 C dX10_goBack_4 (by decide) (fun c7 => ?_) (fun c7 => ?_)
  · have c7' := i_ne c7
    refine r_aload_n 0 C dX10_goBack_10 rfl ?_
    refine gfX10_92 103 C (kS sC h6 kc_0) (xS sC h6 xc_0_13) dX10_goBack_11 ?_
    refine r_iload_n 1 C dX10_goBack_14 rfl ?_
    rcases (show a1.toInt = 0 ∨ a1.toInt = 1 by omega) with c8 | c8
    · obtain rfl : a1 = 0 := i_of (by omega)
      refine r_aald 4 rfl C (kS sC h6 kc_103) (vin (by omega) (by omega)) (xS sC h6 xc_103_0) dX10_goBack_15 ?_
      refine gfX10_270 (v := 0) C (kS sC h6 kc_104) (h4.I (by decide) p0) dX10_goBack_16 ?_
      refine r_if_ne 25 C dX10_goBack_19 (by decide) (fun c9 => ?_) (fun c9 => ?_)
      · have c9' := i_ne c9
        exfalso; omega
      · have c9' := i_eq c9
        refine r_ldc C mw4_29 dX10_goBack_22 ?_
        exact hret _ _ _ _ dX10_goBack_24 rfl ⟨h6, by omega⟩
    · obtain rfl : a1 = 1 := i_of (by omega)
      refine r_aald 4 rfl C (kS sC h6 kc_103) (vin (by omega) (by omega)) (xS sC h6 xc_103_1) dX10_goBack_15 ?_
      refine gfX10_270 (v := 0) C (kS sC h6 kc_109) (h4.I (by decide) p1) dX10_goBack_16 ?_
      refine r_if_ne 25 C dX10_goBack_19 (by decide) (fun c10 => ?_) (fun c10 => ?_)
      · have c10' := i_ne c10
        exfalso; omega
      · have c10' := i_eq c10
        refine r_ldc C mw4_29 dX10_goBack_22 ?_
        exact hret _ _ _ _ dX10_goBack_24 rfl ⟨h6, by omega⟩
  · have c7' := i_eq c7
    refine r_ldc C mw3_198 dX10_goBack_7 ?_
    exact hret _ _ _ _ dX10_goBack_9 rfl ⟨h6, by omega⟩
set_option maxHeartbeats 4000000 in
set_option maxRecDepth 100000 in
theorem ctX11_in (l : Launch) (G : Gt) (w : Wv) (a1 : Int64) (a2 : Int64) (a3 : Int64) : CtI l G yX11_in cX11_in 6 .boolean ({ frames := 0, cells := 0, slots := 0, locals := 0 } : Room) [.long a1, .long a2, .long a3] w (fun r w' => Ch [] w w' ∧ ((a2.toInt ≤ a1.toInt ∧ a1.toInt ≤ a3.toInt → r.toInt = 1) ∧ (a1.toInt < a2.toInt ∨ a3.toInt < a1.toInt → r.toInt = 0))) := by
  refine enterI (by decide) (Nat.le_of_ble_eq_true rfl) ?_
  intro x el eG C hret
  subst el; subst eG
  show V x 0 0 w 0 [(0, .long a1), (2, .long a2), (4, .long a3)] []
  have h0 : Ch [] w w := Ch.rf
  have q0 : (0 : Int32).toInt = 0 := by decide
  have q1 : (1 : Int32).toInt = 1 := by decide
  refine r_lload_n 0 C dX11_in_0 rfl ?_
  refine r_lload_n 1 C dX11_in_1 rfl ?_
  refine r_lcmp C dX11_in_2 (fun v1 e2 => ?_)
  have v1' := lcmp_ok e2
  refine r_if_lt 17 C dX11_in_3 (by decide) (fun c3 => ?_) (fun c3 => ?_)
  · have c3' := i_lt c3
    refine r_iconst (v := 0) C dX11_in_17 (by decide) ?_
    exact hret _ _ _ _ dX11_in_18 (nar_z (z_of (by omega))) ⟨h0, by omega⟩
  · have c3' := i_nlt c3
    refine r_lload_n 0 C dX11_in_6 rfl ?_
    refine r_lload 2 C dX11_in_7 rfl ?_
    refine r_lcmp C dX11_in_9 (fun v4 e5 => ?_)
    have v4' := lcmp_ok e5
    refine r_if_gt 17 C dX11_in_10 (by decide) (fun c6 => ?_) (fun c6 => ?_)
    · have c6' := i_lt c6
      refine r_iconst (v := 0) C dX11_in_17 (by decide) ?_
      exact hret _ _ _ _ dX11_in_18 (nar_z (z_of (by omega))) ⟨h0, by omega⟩
    · have c6' := i_nlt c6
      refine r_iconst (v := 1) C dX11_in_13 (by decide) ?_
      refine r_goto 18 C dX11_in_14 (by decide) ?_
      exact hret _ _ _ _ dX11_in_18 (nar_z (z_of (by omega))) ⟨h0, by omega⟩
set_option maxHeartbeats 4000000 in
set_option maxRecDepth 100000 in
theorem ctX11_isCell_114 (l : Launch) (G : Gt) (w : Wv) (sM : Str KM XM w) (p0 : wI w 114 0 = 0) (p1 : wI w 114 1 = 0) (a1 : Int32) (a2 : Int32) : CtI l G yX11_isCell cX11_isCell 3 .boolean ({ frames := 1, cells := 0, slots := 0, locals := 25 } : Room) [.ref (gz G + 114), .int a1, .int a2] w (fun r w' => Ch [] w w' ∧ (r.toInt = 0)) := by
  refine enterI (by decide) (Nat.le_of_ble_eq_true rfl) ?_
  intro x el eG C hret
  subst el; subst eG
  show V x 0 0 w 0 [(0, .ref (gz (xG x) + 114)), (1, .int a1), (2, .int a2)] []
  have h0 : Ch [] w w := Ch.rf
  have q0 : (0 : Int32).toInt = 0 := by decide
  have q1 : (1 : Int32).toInt = 1 := by decide
  have ql0 : (0 : Int64).toInt = 0 := by decide
  refine r_iload_n 1 C dX11_isCell_0 rfl ?_
  refine r_i2l C dX11_isCell_1 (fun v1 e2 => ?_)
  have v1' := i2l_ok e2
  refine r_lconst (v := 0) C dX11_isCell_2 (by decide) ?_
  refine r_aload_n 0 C dX11_isCell_3 rfl ?_
  refine gfX11_111 (v := 0) C (kS sM h0 kc_114) p0 dX11_isCell_4 ?_
  refine r_iconst (v := 1) C dX11_isCell_7 (by decide) ?_
  refine r_isub C dX11_isCell_8 (fun v3 e4 => ?_)
  have v3' := isub_ok e4 (by omega) (by omega)
  refine r_i2l C dX11_isCell_9 (fun v5 e6 => ?_)
  have v5' := i2l_ok e6
  refine callSI C cwX11_114_S (ctX11_in _ _ w   v1 0 v5 ) (by decide) rfl rfl (Nat.le_of_ble_eq_true rfl) (by decide) dX11_isCell_10 (fun r9 w8 y7 => ?_)
  show V x 0 0 w8 13 [(0, .ref (gz (xG x) + 114)), (1, .int a1), (2, .int a2)] [.int r9]
  obtain ⟨h10, g11⟩ := y7
  have h12 := Ch.tr h0 h10 (by decide)
  refine r_if_eq 36 C dX11_isCell_13 (by decide) (fun c13 => ?_) (fun c13 => ?_)
  · have c13' := i_eq c13
    refine r_iconst (v := 0) C dX11_isCell_36 (by decide) ?_
    exact hret _ _ _ _ dX11_isCell_37 (nar_z (z_of (by omega))) ⟨h12, by omega⟩
  · have c13' := i_ne c13
    exfalso; omega
set_option maxHeartbeats 4000000 in
set_option maxRecDepth 100000 in
theorem ctX11_isCrowd_114 (l : Launch) (G : Gt) (w : Wv) (sM : Str KM XM w) (p0 : wI w 114 3 = 0) (a1 : Int32) : CtI l G yX11_isCrowd cX11_isCrowd 2 .boolean ({ frames := 1, cells := 0, slots := 0, locals := 25 } : Room) [.ref (gz G + 114), .int a1] w (fun r w' => Ch [] w w' ∧ (r.toInt = 0)) := by
  refine enterI (by decide) (Nat.le_of_ble_eq_true rfl) ?_
  intro x el eG C hret
  subst el; subst eG
  show V x 0 0 w 0 [(0, .ref (gz (xG x) + 114)), (1, .int a1)] []
  have h0 : Ch [] w w := Ch.rf
  have q0 : (0 : Int32).toInt = 0 := by decide
  have q1 : (1 : Int32).toInt = 1 := by decide
  have ql0 : (0 : Int64).toInt = 0 := by decide
  refine r_iload_n 1 C dX11_isCrowd_0 rfl ?_
  refine r_i2l C dX11_isCrowd_1 (fun v1 e2 => ?_)
  have v1' := i2l_ok e2
  refine r_lconst (v := 0) C dX11_isCrowd_2 (by decide) ?_
  refine r_aload_n 0 C dX11_isCrowd_3 rfl ?_
  refine gfX11_121 (v := 0) C (kS sM h0 kc_114) p0 dX11_isCrowd_4 ?_
  refine r_iconst (v := 1) C dX11_isCrowd_7 (by decide) ?_
  refine r_isub C dX11_isCrowd_8 (fun v3 e4 => ?_)
  have v3' := isub_ok e4 (by omega) (by omega)
  refine r_i2l C dX11_isCrowd_9 (fun v5 e6 => ?_)
  have v5' := i2l_ok e6
  refine callSI C cwX11_114_S (ctX11_in _ _ w   v1 0 v5 ) (by decide) rfl rfl (Nat.le_of_ble_eq_true rfl) (by decide) dX11_isCrowd_10 (fun r9 w8 y7 => ?_)
  show V x 0 0 w8 13 [(0, .ref (gz (xG x) + 114)), (1, .int a1)] [.int r9]
  obtain ⟨h10, g11⟩ := y7
  have h12 := Ch.tr h0 h10 (by decide)
  exact hret _ _ _ _ dX11_isCrowd_13 (nar_z (z_of (by omega))) ⟨h12, by omega⟩
set_option maxHeartbeats 4000000 in
set_option maxRecDepth 100000 in
theorem ctX11_isTune_114 (l : Launch) (G : Gt) (w : Wv) (sM : Str KM XM w) (p0 : wI w 114 8 = 0) (a1 : Int32) : CtI l G yX11_isTune cX11_isTune 2 .boolean ({ frames := 1, cells := 0, slots := 0, locals := 25 } : Room) [.ref (gz G + 114), .int a1] w (fun r w' => Ch [] w w' ∧ (r.toInt = 0)) := by
  refine enterI (by decide) (Nat.le_of_ble_eq_true rfl) ?_
  intro x el eG C hret
  subst el; subst eG
  show V x 0 0 w 0 [(0, .ref (gz (xG x) + 114)), (1, .int a1)] []
  have h0 : Ch [] w w := Ch.rf
  have q0 : (0 : Int32).toInt = 0 := by decide
  have q1 : (1 : Int32).toInt = 1 := by decide
  have ql0 : (0 : Int64).toInt = 0 := by decide
  refine r_iload_n 1 C dX11_isTune_0 rfl ?_
  refine r_i2l C dX11_isTune_1 (fun v1 e2 => ?_)
  have v1' := i2l_ok e2
  refine r_lconst (v := 0) C dX11_isTune_2 (by decide) ?_
  refine r_aload_n 0 C dX11_isTune_3 rfl ?_
  refine gfX11_124 (v := 0) C (kS sM h0 kc_114) p0 dX11_isTune_4 ?_
  refine r_iconst (v := 1) C dX11_isTune_7 (by decide) ?_
  refine r_isub C dX11_isTune_8 (fun v3 e4 => ?_)
  have v3' := isub_ok e4 (by omega) (by omega)
  refine r_i2l C dX11_isTune_9 (fun v5 e6 => ?_)
  have v5' := i2l_ok e6
  refine callSI C cwX11_114_S (ctX11_in _ _ w   v1 0 v5 ) (by decide) rfl rfl (Nat.le_of_ble_eq_true rfl) (by decide) dX11_isTune_10 (fun r9 w8 y7 => ?_)
  show V x 0 0 w8 13 [(0, .ref (gz (xG x) + 114)), (1, .int a1)] [.int r9]
  obtain ⟨h10, g11⟩ := y7
  have h12 := Ch.tr h0 h10 (by decide)
  exact hret _ _ _ _ dX11_isTune_13 (nar_z (z_of (by omega))) ⟨h12, by omega⟩
set_option maxHeartbeats 4000000 in
set_option maxRecDepth 100000 in
theorem ctX11_feed_114 (l : Launch) (G : Gt) (w : Wv) (sM : Str KM XM w) (p0 : wI w 114 20 = 0) (a1 : Int32) (a2 : Int64) : CtI l G yX11_feed cX11_feed 5 .int ({ frames := 1, cells := 0, slots := 0, locals := 25 } : Room) [.ref (gz G + 114), .int a1, .long a2] w (fun r w' => Ch [114, 125] w w' ∧ (((a1.toInt < 1 ∨ 8 < a1.toInt) → r.toInt = -1000000002) ∧ ((1 ≤ a1.toInt ∧ a1.toInt ≤ 8) → r.toInt = a1.toInt))) := by
  refine enterI (by decide) (Nat.le_of_ble_eq_true rfl) ?_
  intro x el eG C hret
  subst el; subst eG
  show V x 0 0 w 0 [(0, .ref (gz (xG x) + 114)), (1, .int a1), (2, .long a2)] []
  have h0 : Ch [114, 125] w w := Ch.rf
  have qm1000000002 : ((-1000000002) : Int32).toInt = (-1000000002) := by decide
  have q0 : (0 : Int32).toInt = 0 := by decide
  have q1 : (1 : Int32).toInt = 1 := by decide
  have q8 : (8 : Int32).toInt = 8 := by decide
  have q500 : (500 : Int32).toInt = 500 := by decide
  have ql1 : (1 : Int64).toInt = 1 := by decide
  have ql8 : (8 : Int64).toInt = 8 := by decide
  have ql255 : (255 : Int64).toInt = 255 := by decide
  refine r_iload_n 1 C dX11_feed_0 rfl ?_
  refine r_i2l C dX11_feed_1 (fun v1 e2 => ?_)
  have v1' := i2l_ok e2
  refine r_lconst (v := 1) C dX11_feed_2 (by decide) ?_
  refine r_ldc2 C mw5_235 dX11_feed_3 ?_
  refine callSI C cwX11_114_S (ctX11_in _ _ w   v1 1 8 ) (by decide) rfl rfl (Nat.le_of_ble_eq_true rfl) (by decide) dX11_feed_6 (fun r5 w4 y3 => ?_)
  show V x 0 0 w4 9 [(0, .ref (gz (xG x) + 114)), (1, .int a1), (2, .long a2)] [.int r5]
  obtain ⟨h6, g7⟩ := y3
  have h8 := Ch.tr h0 h6 (by decide)
  refine r_if_ne 15 C dX11_feed_9 (by decide) (fun c9 => ?_) (fun c9 => ?_)
  · have c9' := i_ne c9
    refine r_aload_n 0 C dX11_feed_15 rfl ?_
    refine gfX11_130 (v := 0) C (kS sM h8 kc_114) (h6.I (by decide) p0) dX11_feed_16 ?_
    refine r_iload_n 1 C dX11_feed_19 rfl ?_
    refine r_iadd C dX11_feed_20 (fun v10 e11 => ?_)
    have v10' := iadd_ok e11 (by omega) (by omega)
    refine r_sipush (v := 500) C dX11_feed_21 (by decide) ?_
    refine r_icmp_le 30 C dX11_feed_24 (by decide) (fun c12 => ?_) (fun c12 => ?_)
    · have c12' := i_le c12
      refine r_iload_n 1 C dX11_feed_30 rfl ?_
      refine r_iconst (v := 1) C dX11_feed_31 (by decide) ?_
      refine r_isub C dX11_feed_32 (fun v13 e14 => ?_)
      have v13' := isub_ok e14 (by omega) (by omega)
      refine r_istore [(4, .int v13), (0, .ref (gz (xG x) + 114)), (1, .int a1), (2, .long a2)] C dX11_feed_33 (by decide) rfl ?_
      have LP15 : ∀ (f16 : Nat) (i17 : Int32) (w18 : Wv), Ch [114, 125] w4 w18 → (-1) ≤ i17.toInt → i17.toInt ≤ 7 → (wI w18 114 20).toInt = a1.toInt - 1 - i17.toInt ∧ i17.toInt ≤ a1.toInt - 1 → i17.toInt - (-1) < f16 → V x 0 0 w18 35 [(0, .ref (gz (xG x) + 114)), (1, .int a1), (2, .long a2), (4, .int i17)] [] := by
        intro f16
        induction f16 with
        | zero => intro i17 w18 h19 a20 a21 v23 a22; exfalso; omega
        | succ f16 ih24 =>
          intro i17 w18 h19 a20 a21 v23 a22
          have h25 := Ch.tr h8 h19 (by decide)
          refine r_iload 3 C dX11_feed_35 rfl ?_
          refine r_if_lt 77 C dX11_feed_37 (by decide) (fun c26 => ?_) (fun c26 => ?_)
          · have c26' := i_lt c26
            refine r_aload_n 0 C dX11_feed_77 rfl ?_
            refine gfX11_130 (v := (wI w18 114 20)) C (kS sM h25 kc_114) rfl dX11_feed_78 ?_
            exact hret _ _ _ _ dX11_feed_81 rfl ⟨h25, by omega⟩
          · have c26' := i_nlt c26
            refine r_aload_n 0 C dX11_feed_40 rfl ?_
            refine gfX11_47 125 C (kS sM h25 kc_114) (xS sM h25 xc_114_19) dX11_feed_41 ?_
            refine r_aload_n 0 C dX11_feed_44 rfl ?_
            refine gfX11_130 (v := (wI w18 114 20)) C (kS sM h25 kc_114) rfl dX11_feed_45 ?_
            refine r_lload_n 2 C dX11_feed_48 rfl ?_
            refine r_bipush (v := 8) C dX11_feed_49 (by decide) ?_
            refine r_iload 3 C dX11_feed_51 rfl ?_
            refine r_imul C dX11_feed_53 (fun v27 e28 => ?_)
            have k29 : (8 : Int32).toInt = 8 := by omega
            have v27' := imul_ok e28 (by rw [k29]; omega) (by rw [k29]; omega)
            rw [k29] at v27'
            refine r_lshr C dX11_feed_54 (fun v30 e31 => ?_)
            refine r_ldc2 C mw6_1 dX11_feed_55 ?_
            refine r_land C dX11_feed_58 (fun v32 e33 => ?_)
            refine r_l2i C dX11_feed_59 (fun v34 e35 => ?_)
            refine r_iast C (kS sM h25 kc_125) (vin (by omega) (by omega)) dX11_feed_60 (fun w36 e37 => ?_)
            have h38 := Ch.put h25 e37 (by decide)
            refine r_aload_n 0 C dX11_feed_61 rfl ?_
            refine r_dup C dX11_feed_62 rfl ?_
            refine gfX11_130 (v := (wI w18 114 20)) C (kS sM h38 kc_114) (g_nn e37 (by decide) rfl) dX11_feed_63 ?_
            refine r_iconst (v := 1) C dX11_feed_66 (by decide) ?_
            refine r_iadd C dX11_feed_67 (fun v39 e40 => ?_)
            have v39' := iadd_ok e40 (by omega) (by omega)
            refine pfX11_130 C (kS sM h38 kc_114) dX11_feed_68 (fun w41 e42 => ?_)
            have h43 := Ch.put h38 e42 (by decide)
            obtain ⟨i44, e45⟩ : ∃ z : Int32, i17 + Int32.ofInt (-1) = z := ⟨_, rfl⟩
            have i44' := iinc_ok e45 (by decide) (by omega) (by omega)
            refine r_iinc [(4, .int i44), (0, .ref (gz (xG x) + 114)), (1, .int a1), (2, .long a2)] 3 C dX11_feed_71 rfl e45 (by decide) rfl ?_
            refine r_goto 35 C dX11_feed_74 (by decide) ?_
            refine r_lv [1, 2, 3, 0] rfl ?_
            exact ih24 _ _ (Ch.put (Ch.put h19 e37 (by decide)) e42 (by decide)) (by omega) (by omega) (by rw [(g_eq e42)]; omega) (by omega)
      refine r_lv [1, 2, 3, 0] rfl ?_
      exact LP15 9 _ _ Ch.rf (by omega) (by omega) (by rw [(h6.I (by decide) p0)]; omega) (by omega)
    · have c12' := i_nle c12
      exfalso; omega
  · have c9' := i_eq c9
    refine r_ldc C mw5_239 dX11_feed_12 ?_
    exact hret _ _ _ _ dX11_feed_14 rfl ⟨h8, by omega⟩
set_option maxHeartbeats 4000000 in
set_option maxRecDepth 100000 in
theorem ctX11_here_114 (l : Launch) (G : Gt) (w : Wv) (sM : Str KM XM w) (p0 : wI w 114 20 = 0) (p1 : wI w 114 22 = 0) : CtI l G yX11_here cX11_here 1 .int ({ frames := 0, cells := 0, slots := 0, locals := 0 } : Room) [.ref (gz G + 114)] w (fun r w' => Ch [] w w' ∧ (r.toInt = -1)) := by
  refine enterI (by decide) (Nat.le_of_ble_eq_true rfl) ?_
  intro x el eG C hret
  subst el; subst eG
  show V x 0 0 w 0 [(0, .ref (gz (xG x) + 114))] []
  have h0 : Ch [] w w := Ch.rf
  have qm1 : ((-1) : Int32).toInt = (-1) := by decide
  have q0 : (0 : Int32).toInt = 0 := by decide
  refine r_aload_n 0 C dX11_here_0 rfl ?_
  refine gfX11_136 (v := 0) C (kS sM h0 kc_114) p1 dX11_here_1 ?_
  refine r_aload_n 0 C dX11_here_4 rfl ?_
  refine gfX11_130 (v := 0) C (kS sM h0 kc_114) p0 dX11_here_5 ?_
  refine r_icmp_ge 38 C dX11_here_8 (by decide) (fun c1 => ?_) (fun c1 => ?_)
  · have c1' := i_le c1
    refine r_aload_n 0 C dX11_here_38 rfl ?_
    refine gfX11_136 (v := 0) C (kS sM h0 kc_114) p1 dX11_here_39 ?_
    refine r_aload_n 0 C dX11_here_42 rfl ?_
    refine gfX11_130 (v := 0) C (kS sM h0 kc_114) p0 dX11_here_43 ?_
    refine r_icmp_ge 61 C dX11_here_46 (by decide) (fun c2 => ?_) (fun c2 => ?_)
    · have c2' := i_le c2
      refine r_iconst (v := (-1)) C dX11_here_61 (by decide) ?_
      exact hret _ _ _ _ dX11_here_62 rfl ⟨h0, by omega⟩
    · have c2' := i_nle c2
      exfalso; omega
  · have c1' := i_nle c1
    exfalso; omega
set_option maxHeartbeats 4000000 in
set_option maxRecDepth 100000 in
theorem ctX11_clear_114 (l : Launch) (G : Gt) (w : Wv) (sM : Str KM XM w) (p0 : wI w 114 20 = 0) (p1 : wI w 114 22 = 0) : CtV l G yX11_clear cX11_clear 2 ({ frames := 0, cells := 0, slots := 0, locals := 0 } : Room) [.ref (gz G + 114)] w (fun w' => Ch [114, 126] w w' ∧ wI w' 114 27 = 0 ∧ wI w' 114 28 = 0 ∧ wI w' 114 20 = 0 ∧ wI w' 114 22 = 0) := by
  refine enterV (by decide) (Nat.le_of_ble_eq_true rfl) ?_
  intro x el eG C hnm hret
  subst el; subst eG
  show V x 0 0 w 0 [(0, .ref (gz (xG x) + 114))] []
  have h0 : Ch [114, 126] w w := Ch.rf
  have qm1 : ((-1) : Int32).toInt = (-1) := by decide
  have q0 : (0 : Int32).toInt = 0 := by decide
  have q42 : (42 : Int32).toInt = 42 := by decide
  refine r_aload_n 0 C dX11_clear_0 rfl ?_
  refine r_iconst (v := 0) C dX11_clear_1 (by decide) ?_
  refine pfX11_179 C (kS sM h0 kc_114) dX11_clear_2 (fun w1 e2 => ?_)
  have h3 := Ch.put h0 e2 (by decide)
  refine r_aload_n 0 C dX11_clear_5 rfl ?_
  refine r_iconst (v := 0) C dX11_clear_6 (by decide) ?_
  refine pfX11_182 C (kS sM h3 kc_114) dX11_clear_7 (fun w4 e5 => ?_)
  have h6 := Ch.put h3 e5 (by decide)
  refine r_aload_n 0 C dX11_clear_10 rfl ?_
  refine r_iconst (v := 0) C dX11_clear_11 (by decide) ?_
  refine pfX11_194 C (kS sM h6 kc_114) dX11_clear_12 (fun w7 e8 => ?_)
  have h9 := Ch.put h6 e8 (by decide)
  refine r_aload_n 0 C dX11_clear_15 rfl ?_
  refine r_iconst (v := 0) C dX11_clear_16 (by decide) ?_
  refine pfX11_191 C (kS sM h9 kc_114) dX11_clear_17 (fun w10 e11 => ?_)
  have h12 := Ch.put h9 e11 (by decide)
  refine r_aload_n 0 C dX11_clear_20 rfl ?_
  refine r_iconst (v := 0) C dX11_clear_21 (by decide) ?_
  refine pfX11_208 C (kS sM h12 kc_114) dX11_clear_22 (fun w13 e14 => ?_)
  have h15 := Ch.put h12 e14 (by decide)
  refine r_aload_n 0 C dX11_clear_25 rfl ?_
  refine r_iconst (v := (-1)) C dX11_clear_26 (by decide) ?_
  refine pfX11_188 C (kS sM h15 kc_114) dX11_clear_27 (fun w16 e17 => ?_)
  have h18 := Ch.put h15 e17 (by decide)
  refine r_aload_n 0 C dX11_clear_30 rfl ?_
  refine r_iconst (v := (-1)) C dX11_clear_31 (by decide) ?_
  refine pfX11_211 C (kS sM h18 kc_114) dX11_clear_32 (fun w19 e20 => ?_)
  have h21 := Ch.put h18 e20 (by decide)
  refine r_iconst (v := 0) C dX11_clear_35 (by decide) ?_
  refine r_istore_n [(1, .int 0), (0, .ref (gz (xG x) + 114))] C dX11_clear_36 (by decide) rfl ?_
  have LP22 : ∀ (f23 : Nat) (i24 : Int32) (w25 : Wv), Ch [126] w19 w25 → 0 ≤ i24.toInt → i24.toInt ≤ 42 → 42 - i24.toInt < f23 → V x 0 0 w25 37 [(0, .ref (gz (xG x) + 114)), (1, .int i24)] [] := by
    intro f23
    induction f23 with
    | zero => intro i24 w25 h26 a27 a28  a29; exfalso; omega
    | succ f23 ih30 =>
      intro i24 w25 h26 a27 a28  a29
      have h31 := Ch.tr h21 h26 (by decide)
      refine r_iload_n 1 C dX11_clear_37 rfl ?_
      refine r_bipush (v := 42) C dX11_clear_38 (by decide) ?_
      refine r_icmp_ge 56 C dX11_clear_40 (by decide) (fun c32 => ?_) (fun c32 => ?_)
      · have c32' := i_le c32
        exact hret _ _ _ dX11_clear_56 ⟨h31, (h26.I (by decide) (g_nk e20 (by decide) (g_nk e17 (by decide) (g_nk e14 (by decide) (g_nk e11 (by decide) (g_nk e8 (by decide) (g_nk e5 (by decide) (g_eq e2)))))))), (h26.I (by decide) (g_nk e20 (by decide) (g_nk e17 (by decide) (g_nk e14 (by decide) (g_nk e11 (by decide) (g_nk e8 (by decide) (g_eq e5))))))), (h26.I (by decide) (g_nk e20 (by decide) (g_nk e17 (by decide) (g_nk e14 (by decide) (g_nk e11 (by decide) (g_nk e8 (by decide) (g_nk e5 (by decide) (g_nk e2 (by decide) p0)))))))), (h26.I (by decide) (g_nk e20 (by decide) (g_nk e17 (by decide) (g_nk e14 (by decide) (g_nk e11 (by decide) (g_nk e8 (by decide) (g_nk e5 (by decide) (g_nk e2 (by decide) p1))))))))⟩
      · have c32' := i_nle c32
        refine r_aload_n 0 C dX11_clear_43 rfl ?_
        refine gfX11_53 126 C (kS sM h31 kc_114) (xS sM h31 xc_114_29) dX11_clear_44 ?_
        refine r_iload_n 1 C dX11_clear_47 rfl ?_
        refine r_iconst (v := 0) C dX11_clear_48 (by decide) ?_
        refine r_iast C (kS sM h31 kc_126) (vin (by omega) (by omega)) dX11_clear_49 (fun w33 e34 => ?_)
        have h35 := Ch.put h31 e34 (by decide)
        obtain ⟨i36, e37⟩ : ∃ z : Int32, i24 + Int32.ofInt 1 = z := ⟨_, rfl⟩
        have i36' := iinc_ok e37 (by decide) (by omega) (by omega)
        refine r_iinc [(1, .int i36), (0, .ref (gz (xG x) + 114))] 1 C dX11_clear_50 rfl e37 (by decide) rfl ?_
        refine r_goto 37 C dX11_clear_53 (by decide) ?_
        refine r_lv [1, 0] rfl ?_
        exact ih30 _ _ (Ch.put h26 e34 (by decide)) (by omega) (by omega) (by omega)
  refine r_lv [1, 0] rfl ?_
  exact LP22 43 _ _ Ch.rf (by omega) (by omega) (by omega)
set_option maxHeartbeats 4000000 in
set_option maxRecDepth 100000 in
theorem ctX11_firstFree_114 (l : Launch) (G : Gt) (w : Wv) (sM : Str KM XM w) (p0 : wI w 114 0 = 0) (p1 : wI w 114 1 = 0) : CtI l G yX11_firstFree cX11_firstFree 2 .int ({ frames := 0, cells := 0, slots := 0, locals := 0 } : Room) [.ref (gz G + 114)] w (fun r w' => Ch [] w w' ∧ (r.toInt = 0)) := by
  refine enterI (by decide) (Nat.le_of_ble_eq_true rfl) ?_
  intro x el eG C hret
  subst el; subst eG
  show V x 0 0 w 0 [(0, .ref (gz (xG x) + 114))] []
  have h0 : Ch [] w w := Ch.rf
  have q0 : (0 : Int32).toInt = 0 := by decide
  refine r_iconst (v := 0) C dX11_firstFree_0 (by decide) ?_
  refine r_istore_n [(1, .int 0), (0, .ref (gz (xG x) + 114))] C dX11_firstFree_1 (by decide) rfl ?_
  refine r_iload_n 0 C dX11_firstFree_2 rfl ?_
  refine r_aload_n 1 C dX11_firstFree_3 rfl ?_
  refine gfX11_111 (v := 0) C (kS sM h0 kc_114) p0 dX11_firstFree_4 ?_
  refine r_aload_n 1 C dX11_firstFree_7 rfl ?_
  refine gfX11_118 (v := 0) C (kS sM h0 kc_114) p1 dX11_firstFree_8 ?_
  refine r_imul C dX11_firstFree_11 (fun v1 e2 => ?_)
  have k3 : (0 : Int32).toInt = 0 := by omega
  have v1' := imul_ok e2 (by rw [k3]; omega) (by rw [k3]; omega)
  rw [k3] at v1'
  refine r_icmp_ge 32 C dX11_firstFree_12 (by decide) (fun c4 => ?_) (fun c4 => ?_)
  · have c4' := i_le c4
    refine r_iconst (v := 0) C dX11_firstFree_32 (by decide) ?_
    exact hret _ _ _ _ dX11_firstFree_33 rfl ⟨h0, by omega⟩
  · have c4' := i_nle c4
    exfalso; omega
set_option maxHeartbeats 4000000 in
set_option maxRecDepth 100000 in
theorem ctX11_findFar_114 (l : Launch) (G : Gt) (w : Wv) (sM : Str KM XM w) (p0 : wI w 114 0 = 0) (p1 : wI w 114 1 = 0) : CtV l G yX11_findFar cX11_findFar 2 ({ frames := 0, cells := 0, slots := 0, locals := 0 } : Room) [.ref (gz G + 114)] w (fun w' => Ch [] w w') := by
  refine enterV (by decide) (Nat.le_of_ble_eq_true rfl) ?_
  intro x el eG C hnm hret
  subst el; subst eG
  show V x 0 0 w 0 [(0, .ref (gz (xG x) + 114))] []
  have h0 : Ch [] w w := Ch.rf
  have q0 : (0 : Int32).toInt = 0 := by decide
  refine r_iconst (v := 0) C dX11_findFar_0 (by decide) ?_
  refine r_istore_n [(1, .int 0), (0, .ref (gz (xG x) + 114))] C dX11_findFar_1 (by decide) rfl ?_
  refine r_iload_n 0 C dX11_findFar_2 rfl ?_
  refine r_aload_n 1 C dX11_findFar_3 rfl ?_
  refine gfX11_111 (v := 0) C (kS sM h0 kc_114) p0 dX11_findFar_4 ?_
  refine r_aload_n 1 C dX11_findFar_7 rfl ?_
  refine gfX11_118 (v := 0) C (kS sM h0 kc_114) p1 dX11_findFar_8 ?_
  refine r_imul C dX11_findFar_11 (fun v1 e2 => ?_)
  have k3 : (0 : Int32).toInt = 0 := by omega
  have v1' := imul_ok e2 (by rw [k3]; omega) (by rw [k3]; omega)
  rw [k3] at v1'
  refine r_icmp_ge 26 C dX11_findFar_12 (by decide) (fun c4 => ?_) (fun c4 => ?_)
  · have c4' := i_le c4
    exact hret _ _ _ dX11_findFar_26 h0
  · have c4' := i_nle c4
    exfalso; omega
set_option maxHeartbeats 4000000 in
set_option maxRecDepth 100000 in
theorem ctX11_town_114 (l : Launch) (G : Gt) (w : Wv) (sM : Str KM XM w) (p0 : wI w 114 20 = 0) : CtI l G yX11_town cX11_town 3 .int ({ frames := 1, cells := 0, slots := 0, locals := 21 } : Room) [.ref (gz G + 114)] w (fun r w' => Ch [114, 126, 115, 116, 117, 118, 119, 122, 123, 124, 120, 121, 144] w w' ∧ (r.toInt = 0)) := by
  refine enterI (by decide) (Nat.le_of_ble_eq_true rfl) ?_
  intro x el eG C hret
  subst el; subst eG
  show V x 0 0 w 0 [(0, .ref (gz (xG x) + 114))] []
  have h0 : Ch [114, 126, 115, 116, 117, 118, 119, 122, 123, 124, 120, 121, 144] w w := Ch.rf
  have qm1 : ((-1) : Int32).toInt = (-1) := by decide
  have q0 : (0 : Int32).toInt = 0 := by decide
  have q1 : (1 : Int32).toInt = 1 := by decide
  have q3 : (3 : Int32).toInt = 3 := by decide
  have q6 : (6 : Int32).toInt = 6 := by decide
  have q42 : (42 : Int32).toInt = 42 := by decide
  refine r_aload_n 0 C dX11_town_0 rfl ?_
  refine r_iconst (v := (-1)) C dX11_town_1 (by decide) ?_
  refine pfX11_50 C (kS sM h0 kc_114) dX11_town_2 (fun w1 e2 => ?_)
  have h3 := Ch.put h0 e2 (by decide)
  refine r_aload_n 0 C dX11_town_5 rfl ?_
  refine r_iconst (v := 0) C dX11_town_6 (by decide) ?_
  refine pfX11_136 C (kS sM h3 kc_114) dX11_town_7 (fun w4 e5 => ?_)
  have h6 := Ch.put h3 e5 (by decide)
  refine r_aload_n 0 C dX11_town_10 rfl ?_
  refine callVV C cwX11_250_V (ctX11_clear_114 _ _ w4 (sS sM h6) (g_nk e5 (by decide) (g_nk e2 (by decide) p0)) (g_eq e5)  ) (by decide) (kS sM h6 kc_114) rfl rfl rfl (Nat.le_of_ble_eq_true rfl) (by decide) dX11_town_11 (fun w8 y7 => ?_)
  show V x 0 0 w8 14 [(0, .ref (gz (xG x) + 114))] []
  obtain ⟨h10, f11, f12, f13, f14⟩ := y7
  have h15 := Ch.tr h6 h10 (by decide)
  refine r_iconst (v := 0) C dX11_town_14 (by decide) ?_
  refine r_istore_n [(1, .int 0), (0, .ref (gz (xG x) + 114))] C dX11_town_15 (by decide) rfl ?_
  refine r_iload_n 0 C dX11_town_16 rfl ?_
  refine r_if_ne 35 C dX11_town_17 (by decide) (fun c16 => ?_) (fun c16 => ?_)
  · have c16' := i_ne c16
    exfalso; omega
  · have c16' := i_eq c16
    refine r_aload_n 1 C dX11_town_20 rfl ?_
    refine callVI C cwX11_139_V (ctX11_here_114 _ _ w8 (sS sM h15) f13 f14  ) (by decide) (kS sM h15 kc_114) rfl rfl rfl (Nat.le_of_ble_eq_true rfl) (by decide) dX11_town_21 (fun r19 w18 y17 => ?_)
    show V x 0 0 w18 24 [(1, .int 0), (0, .ref (gz (xG x) + 114))] [.int r19]
    obtain ⟨h20, g21⟩ := y17
    have h22 := Ch.tr h15 h20 (by decide)
    refine r_if_lt 35 C dX11_town_24 (by decide) (fun c23 => ?_) (fun c23 => ?_)
    · have c23' := i_lt c23
      refine r_aload_n 1 C dX11_town_35 rfl ?_
      refine r_iconst (v := 0) C dX11_town_36 (by decide) ?_
      refine pfX11_130 C (kS sM h22 kc_114) dX11_town_37 (fun w24 e25 => ?_)
      have h26 := Ch.put h22 e25 (by decide)
      refine r_iload_n 0 C dX11_town_40 rfl ?_
      refine r_if_le 49 C dX11_town_41 (by decide) (fun c27 => ?_) (fun c27 => ?_)
      · have c27' := i_le c27
        refine r_aload_n 1 C dX11_town_49 rfl ?_
        refine r_aload_n 1 C dX11_town_50 rfl ?_
        refine gfX11_179 (v := 0) C (kS sM h26 kc_114) (g_nk e25 (by decide) (h20.I (by decide) f11)) dX11_town_51 ?_
        refine pfX11_111 C (kS sM h26 kc_114) dX11_town_54 (fun w28 e29 => ?_)
        have h30 := Ch.put h26 e29 (by decide)
        refine r_aload_n 1 C dX11_town_57 rfl ?_
        refine r_aload_n 1 C dX11_town_58 rfl ?_
        refine gfX11_182 (v := 0) C (kS sM h30 kc_114) (g_nk e29 (by decide) (g_nk e25 (by decide) (h20.I (by decide) f12))) dX11_town_59 ?_
        refine pfX11_118 C (kS sM h30 kc_114) dX11_town_62 (fun w31 e32 => ?_)
        have h33 := Ch.put h30 e32 (by decide)
        refine r_aload_n 1 C dX11_town_65 rfl ?_
        refine r_aload_n 1 C dX11_town_66 rfl ?_
        refine gfX11_191 (v := (wI w8 114 31)) C (kS sM h33 kc_114) (g_nk e32 (by decide) (g_nk e29 (by decide) (g_nk e25 (by decide) (h20.I (by decide) rfl)))) dX11_town_67 ?_
        refine pfX11_121 C (kS sM h33 kc_114) dX11_town_70 (fun w34 e35 => ?_)
        have h36 := Ch.put h33 e35 (by decide)
        refine r_aload_n 1 C dX11_town_73 rfl ?_
        refine r_aload_n 1 C dX11_town_74 rfl ?_
        refine gfX11_208 (v := (wI w8 114 37)) C (kS sM h36 kc_114) (g_nk e35 (by decide) (g_nk e32 (by decide) (g_nk e29 (by decide) (g_nk e25 (by decide) (h20.I (by decide) rfl))))) dX11_town_75 ?_
        refine pfX11_124 C (kS sM h36 kc_114) dX11_town_78 (fun w37 e38 => ?_)
        have h39 := Ch.put h36 e38 (by decide)
        refine r_aload_n 1 C dX11_town_81 rfl ?_
        refine r_aload_n 1 C dX11_town_82 rfl ?_
        refine gfX11_211 (v := (wI w8 114 41)) C (kS sM h39 kc_114) (g_nk e38 (by decide) (g_nk e35 (by decide) (g_nk e32 (by decide) (g_nk e29 (by decide) (g_nk e25 (by decide) (h20.I (by decide) rfl)))))) dX11_town_83 ?_
        refine r_if_ge 93 C dX11_town_86 (by decide) (fun c40 => ?_) (fun c40 => ?_)
        · have c40' := i_le c40
          refine r_aload_n 1 C dX11_town_93 rfl ?_
          refine gfX11_211 (v := (wI w8 114 41)) C (kS sM h39 kc_114) (g_nk e38 (by decide) (g_nk e35 (by decide) (g_nk e32 (by decide) (g_nk e29 (by decide) (g_nk e25 (by decide) (h20.I (by decide) rfl)))))) dX11_town_94 ?_
          refine pfX11_31 C (kS sM h39 kc_114) dX11_town_97 (fun w41 e42 => ?_)
          have h43 := Ch.put h39 e42 (by decide)
          refine r_aload_n 1 C dX11_town_100 rfl ?_
          refine r_aload_n 1 C dX11_town_101 rfl ?_
          refine gfX11_211 (v := (wI w8 114 41)) C (kS sM h43 kc_114) (g_nk e42 (by decide) (g_nk e38 (by decide) (g_nk e35 (by decide) (g_nk e32 (by decide) (g_nk e29 (by decide) (g_nk e25 (by decide) (h20.I (by decide) rfl))))))) dX11_town_102 ?_
          refine r_if_ge 112 C dX11_town_105 (by decide) (fun c44 => ?_) (fun c44 => ?_)
          · have c44' := i_le c44
            refine r_aload_n 1 C dX11_town_112 rfl ?_
            refine gfX11_214 (v := (wI w8 114 42)) C (kS sM h43 kc_114) (g_nk e42 (by decide) (g_nk e38 (by decide) (g_nk e35 (by decide) (g_nk e32 (by decide) (g_nk e29 (by decide) (g_nk e25 (by decide) (h20.I (by decide) rfl))))))) dX11_town_113 ?_
            refine pfX11_35 C (kS sM h43 kc_114) dX11_town_116 (fun w45 e46 => ?_)
            have h47 := Ch.put h43 e46 (by decide)
            refine r_iconst (v := 0) C dX11_town_119 (by decide) ?_
            refine r_istore_n [(2, .int 0), (1, .int 0), (0, .ref (gz (xG x) + 114))] C dX11_town_120 (by decide) rfl ?_
            have LP48 : ∀ (f49 : Nat) (i50 : Int32) (w51 : Wv), Ch [115] w45 w51 → 0 ≤ i50.toInt → i50.toInt ≤ 42 → 42 - i50.toInt < f49 → V x 0 0 w51 121 [(0, .ref (gz (xG x) + 114)), (1, .int 0), (2, .int i50)] [] := by
              intro f49
              induction f49 with
              | zero => intro i50 w51 h52 a53 a54  a55; exfalso; omega
              | succ f49 ih56 =>
                intro i50 w51 h52 a53 a54  a55
                have h57 := Ch.tr h47 h52 (by decide)
                refine r_iload_n 2 C dX11_town_121 rfl ?_
                refine r_bipush (v := 42) C dX11_town_122 (by decide) ?_
                refine r_icmp_ge 145 C dX11_town_124 (by decide) (fun c58 => ?_) (fun c58 => ?_)
                · have c58' := i_le c58
                  refine r_iconst (v := 0) C dX11_town_145 (by decide) ?_
                  refine r_istore_n [(2, .int 0), (0, .ref (gz (xG x) + 114)), (1, .int 0)] C dX11_town_146 (by decide) rfl ?_
                  have LP59 : ∀ (f60 : Nat) (i61 : Int32) (w62 : Wv), Ch [116, 117, 118, 119, 122, 123, 124] w51 w62 → 0 ≤ i61.toInt → i61.toInt ≤ 6 → 6 - i61.toInt < f60 → V x 0 0 w62 147 [(0, .ref (gz (xG x) + 114)), (1, .int 0), (2, .int i61)] [] := by
                    intro f60
                    induction f60 with
                    | zero => intro i61 w62 h63 a64 a65  a66; exfalso; omega
                    | succ f60 ih67 =>
                      intro i61 w62 h63 a64 a65  a66
                      have h68 := Ch.tr h57 h63 (by decide)
                      refine r_iload_n 2 C dX11_town_147 rfl ?_
                      refine r_bipush (v := 6) C dX11_town_148 (by decide) ?_
                      refine r_icmp_ge 233 C dX11_town_150 (by decide) (fun c69 => ?_) (fun c69 => ?_)
                      · have c69' := i_le c69
                        refine r_iconst (v := 0) C dX11_town_233 (by decide) ?_
                        refine r_istore_n [(2, .int 0), (0, .ref (gz (xG x) + 114)), (1, .int 0)] C dX11_town_234 (by decide) rfl ?_
                        have LP70 : ∀ (f71 : Nat) (i72 : Int32) (w73 : Wv), Ch [120, 121] w62 w73 → 0 ≤ i72.toInt → i72.toInt ≤ 3 → 3 - i72.toInt < f71 → V x 0 0 w73 235 [(0, .ref (gz (xG x) + 114)), (1, .int 0), (2, .int i72)] [] := by
                          intro f71
                          induction f71 with
                          | zero => intro i72 w73 h74 a75 a76  a77; exfalso; omega
                          | succ f71 ih78 =>
                            intro i72 w73 h74 a75 a76  a77
                            have h79 := Ch.tr h68 h74 (by decide)
                            refine r_iload_n 2 C dX11_town_235 rfl ?_
                            refine r_iconst (v := 3) C dX11_town_236 (by decide) ?_
                            refine r_icmp_ge 270 C dX11_town_237 (by decide) (fun c80 => ?_) (fun c80 => ?_)
                            · have c80' := i_le c80
                              refine r_aload_n 0 C dX11_town_270 rfl ?_
                              refine r_aload_n 0 C dX11_town_271 rfl ?_
                              refine gfX11_188 (v := (wI w8 114 40)) C (kS sM h79 kc_114) (h74.I (by decide) (h63.I (by decide) (h52.I (by decide) (g_nk e46 (by decide) (g_nk e42 (by decide) (g_nk e38 (by decide) (g_nk e35 (by decide) (g_nk e32 (by decide) (g_nk e29 (by decide) (g_nk e25 (by decide) (h20.I (by decide) rfl))))))))))) dX11_town_272 ?_
                              refine r_if_ge 285 C dX11_town_275 (by decide) (fun c81 => ?_) (fun c81 => ?_)
                              · have c81' := i_le c81
                                refine r_aload_n 0 C dX11_town_285 rfl ?_
                                refine gfX11_188 (v := (wI w8 114 40)) C (kS sM h79 kc_114) (h74.I (by decide) (h63.I (by decide) (h52.I (by decide) (g_nk e46 (by decide) (g_nk e42 (by decide) (g_nk e38 (by decide) (g_nk e35 (by decide) (g_nk e32 (by decide) (g_nk e29 (by decide) (g_nk e25 (by decide) (h20.I (by decide) rfl))))))))))) dX11_town_286 ?_
                                refine pfX11_259 C (kS sM h79 kc_114) dX11_town_289 (fun w82 e83 => ?_)
                                have h84 := Ch.put h79 e83 (by decide)
                                refine r_aload_n 0 C dX11_town_292 rfl ?_
                                refine r_iconst (v := 0) C dX11_town_293 (by decide) ?_
                                refine pfX11_262 C (kS sM h84 kc_114) dX11_town_294 (fun w85 e86 => ?_)
                                have h87 := Ch.put h84 e86 (by decide)
                                refine r_aload_n 0 C dX11_town_297 rfl ?_
                                refine r_iconst (v := 0) C dX11_town_298 (by decide) ?_
                                refine pfX11_265 C (kS sM h87 kc_114) dX11_town_299 (fun w88 e89 => ?_)
                                have h90 := Ch.put h87 e89 (by decide)
                                refine r_aload_n 0 C dX11_town_302 rfl ?_
                                refine r_iconst (v := 0) C dX11_town_303 (by decide) ?_
                                refine pfX11_268 C (kS sM h90 kc_114) dX11_town_304 (fun w91 e92 => ?_)
                                have h93 := Ch.put h90 e92 (by decide)
                                refine r_aload_n 0 C dX11_town_307 rfl ?_
                                refine gfX11_107 144 C (kS sM h93 kc_114) (xS sM h93 xc_114_57) dX11_town_308 ?_
                                refine r_iconst (v := 0) C dX11_town_311 (by decide) ?_
                                refine r_iconst (v := 0) C dX11_town_312 (by decide) ?_
                                refine r_zast C (kS sM h93 kc_144) (vin (by omega) (by omega)) (nar_z (z_of (by omega))) dX11_town_313 (fun w94 e95 => ?_)
                                have h96 := Ch.put h93 e95 (by decide)
                                refine r_aload_n 0 C dX11_town_314 rfl ?_
                                refine gfX11_107 144 C (kS sM h96 kc_114) (xS sM h96 xc_114_57) dX11_town_315 ?_
                                refine r_iconst (v := 1) C dX11_town_318 (by decide) ?_
                                refine r_iconst (v := 0) C dX11_town_319 (by decide) ?_
                                refine r_zast C (kS sM h96 kc_144) (vin (by omega) (by omega)) (nar_z (z_of (by omega))) dX11_town_320 (fun w97 e98 => ?_)
                                have h99 := Ch.put h96 e98 (by decide)
                                refine r_aload_n 0 C dX11_town_321 rfl ?_
                                refine callVV C cwX11_271_V (ctX11_findFar_114 _ _ w97 (sS sM h99) (g_nn e98 (by decide) (g_nn e95 (by decide) (g_nk e92 (by decide) (g_nk e89 (by decide) (g_nk e86 (by decide) (g_nk e83 (by decide) (h74.I (by decide) (h63.I (by decide) (h52.I (by decide) (g_nk e46 (by decide) (g_nk e42 (by decide) (g_nk e38 (by decide) (g_nk e35 (by decide) (g_nk e32 (by decide) (g_eq e29))))))))))))))) (g_nn e98 (by decide) (g_nn e95 (by decide) (g_nk e92 (by decide) (g_nk e89 (by decide) (g_nk e86 (by decide) (g_nk e83 (by decide) (h74.I (by decide) (h63.I (by decide) (h52.I (by decide) (g_nk e46 (by decide) (g_nk e42 (by decide) (g_nk e38 (by decide) (g_nk e35 (by decide) (g_eq e32))))))))))))))  ) (by decide) (kS sM h99 kc_114) rfl rfl rfl (Nat.le_of_ble_eq_true rfl) (by decide) dX11_town_322 (fun w101 y100 => ?_)
                                show V x 0 0 w101 325 [(0, .ref (gz (xG x) + 114)), (1, .int 0), (2, .int i72)] []
                                have h103 := y100
                                have h104 := Ch.tr h99 h103 (by decide)
                                refine r_aload_n 0 C dX11_town_325 rfl ?_
                                refine gfX11_111 (v := 0) C (kS sM h104 kc_114) (h103.I (by decide) (g_nn e98 (by decide) (g_nn e95 (by decide) (g_nk e92 (by decide) (g_nk e89 (by decide) (g_nk e86 (by decide) (g_nk e83 (by decide) (h74.I (by decide) (h63.I (by decide) (h52.I (by decide) (g_nk e46 (by decide) (g_nk e42 (by decide) (g_nk e38 (by decide) (g_nk e35 (by decide) (g_nk e32 (by decide) (g_eq e29)))))))))))))))) dX11_town_326 ?_
                                refine r_aload_n 0 C dX11_town_329 rfl ?_
                                refine gfX11_118 (v := 0) C (kS sM h104 kc_114) (h103.I (by decide) (g_nn e98 (by decide) (g_nn e95 (by decide) (g_nk e92 (by decide) (g_nk e89 (by decide) (g_nk e86 (by decide) (g_nk e83 (by decide) (h74.I (by decide) (h63.I (by decide) (h52.I (by decide) (g_nk e46 (by decide) (g_nk e42 (by decide) (g_nk e38 (by decide) (g_nk e35 (by decide) (g_eq e32))))))))))))))) dX11_town_330 ?_
                                refine r_imul C dX11_town_333 (fun v105 e106 => ?_)
                                have k107 : (0 : Int32).toInt = 0 := by omega
                                have v105' := imul_ok e106 (by rw [k107]; omega) (by rw [k107]; omega)
                                rw [k107] at v105'
                                exact hret _ _ _ _ dX11_town_334 rfl ⟨h104, by omega⟩
                              · have c81' := i_nle c81
                                refine r_aload_n 0 C dX11_town_278 rfl ?_
                                refine callVI C cwX11_256_V (ctX11_firstFree_114 _ _ w73 (sS sM h79) (h74.I (by decide) (h63.I (by decide) (h52.I (by decide) (g_nk e46 (by decide) (g_nk e42 (by decide) (g_nk e38 (by decide) (g_nk e35 (by decide) (g_nk e32 (by decide) (g_eq e29))))))))) (h74.I (by decide) (h63.I (by decide) (h52.I (by decide) (g_nk e46 (by decide) (g_nk e42 (by decide) (g_nk e38 (by decide) (g_nk e35 (by decide) (g_eq e32))))))))  ) (by decide) (kS sM h79 kc_114) rfl rfl rfl (Nat.le_of_ble_eq_true rfl) (by decide) dX11_town_279 (fun r110 w109 y108 => ?_)
                                show V x 0 0 w109 282 [(0, .ref (gz (xG x) + 114)), (1, .int 0), (2, .int i72)] [.int r110, .ref (gz (xG x) + 114)]
                                obtain ⟨h111, g112⟩ := y108
                                have h113 := Ch.tr h79 h111 (by decide)
                                refine r_goto 289 C dX11_town_282 (by decide) ?_
                                refine pfX11_259 C (kS sM h113 kc_114) dX11_town_289 (fun w114 e115 => ?_)
                                have h116 := Ch.put h113 e115 (by decide)
                                refine r_aload_n 0 C dX11_town_292 rfl ?_
                                refine r_iconst (v := 0) C dX11_town_293 (by decide) ?_
                                refine pfX11_262 C (kS sM h116 kc_114) dX11_town_294 (fun w117 e118 => ?_)
                                have h119 := Ch.put h116 e118 (by decide)
                                refine r_aload_n 0 C dX11_town_297 rfl ?_
                                refine r_iconst (v := 0) C dX11_town_298 (by decide) ?_
                                refine pfX11_265 C (kS sM h119 kc_114) dX11_town_299 (fun w120 e121 => ?_)
                                have h122 := Ch.put h119 e121 (by decide)
                                refine r_aload_n 0 C dX11_town_302 rfl ?_
                                refine r_iconst (v := 0) C dX11_town_303 (by decide) ?_
                                refine pfX11_268 C (kS sM h122 kc_114) dX11_town_304 (fun w123 e124 => ?_)
                                have h125 := Ch.put h122 e124 (by decide)
                                refine r_aload_n 0 C dX11_town_307 rfl ?_
                                refine gfX11_107 144 C (kS sM h125 kc_114) (xS sM h125 xc_114_57) dX11_town_308 ?_
                                refine r_iconst (v := 0) C dX11_town_311 (by decide) ?_
                                refine r_iconst (v := 0) C dX11_town_312 (by decide) ?_
                                refine r_zast C (kS sM h125 kc_144) (vin (by omega) (by omega)) (nar_z (z_of (by omega))) dX11_town_313 (fun w126 e127 => ?_)
                                have h128 := Ch.put h125 e127 (by decide)
                                refine r_aload_n 0 C dX11_town_314 rfl ?_
                                refine gfX11_107 144 C (kS sM h128 kc_114) (xS sM h128 xc_114_57) dX11_town_315 ?_
                                refine r_iconst (v := 1) C dX11_town_318 (by decide) ?_
                                refine r_iconst (v := 0) C dX11_town_319 (by decide) ?_
                                refine r_zast C (kS sM h128 kc_144) (vin (by omega) (by omega)) (nar_z (z_of (by omega))) dX11_town_320 (fun w129 e130 => ?_)
                                have h131 := Ch.put h128 e130 (by decide)
                                refine r_aload_n 0 C dX11_town_321 rfl ?_
                                refine callVV C cwX11_271_V (ctX11_findFar_114 _ _ w129 (sS sM h131) (g_nn e130 (by decide) (g_nn e127 (by decide) (g_nk e124 (by decide) (g_nk e121 (by decide) (g_nk e118 (by decide) (g_nk e115 (by decide) (h111.I (by decide) (h74.I (by decide) (h63.I (by decide) (h52.I (by decide) (g_nk e46 (by decide) (g_nk e42 (by decide) (g_nk e38 (by decide) (g_nk e35 (by decide) (g_nk e32 (by decide) (g_eq e29)))))))))))))))) (g_nn e130 (by decide) (g_nn e127 (by decide) (g_nk e124 (by decide) (g_nk e121 (by decide) (g_nk e118 (by decide) (g_nk e115 (by decide) (h111.I (by decide) (h74.I (by decide) (h63.I (by decide) (h52.I (by decide) (g_nk e46 (by decide) (g_nk e42 (by decide) (g_nk e38 (by decide) (g_nk e35 (by decide) (g_eq e32)))))))))))))))  ) (by decide) (kS sM h131 kc_114) rfl rfl rfl (Nat.le_of_ble_eq_true rfl) (by decide) dX11_town_322 (fun w133 y132 => ?_)
                                show V x 0 0 w133 325 [(0, .ref (gz (xG x) + 114)), (1, .int 0), (2, .int i72)] []
                                have h135 := y132
                                have h136 := Ch.tr h131 h135 (by decide)
                                refine r_aload_n 0 C dX11_town_325 rfl ?_
                                refine gfX11_111 (v := 0) C (kS sM h136 kc_114) (h135.I (by decide) (g_nn e130 (by decide) (g_nn e127 (by decide) (g_nk e124 (by decide) (g_nk e121 (by decide) (g_nk e118 (by decide) (g_nk e115 (by decide) (h111.I (by decide) (h74.I (by decide) (h63.I (by decide) (h52.I (by decide) (g_nk e46 (by decide) (g_nk e42 (by decide) (g_nk e38 (by decide) (g_nk e35 (by decide) (g_nk e32 (by decide) (g_eq e29))))))))))))))))) dX11_town_326 ?_
                                refine r_aload_n 0 C dX11_town_329 rfl ?_
                                refine gfX11_118 (v := 0) C (kS sM h136 kc_114) (h135.I (by decide) (g_nn e130 (by decide) (g_nn e127 (by decide) (g_nk e124 (by decide) (g_nk e121 (by decide) (g_nk e118 (by decide) (g_nk e115 (by decide) (h111.I (by decide) (h74.I (by decide) (h63.I (by decide) (h52.I (by decide) (g_nk e46 (by decide) (g_nk e42 (by decide) (g_nk e38 (by decide) (g_nk e35 (by decide) (g_eq e32)))))))))))))))) dX11_town_330 ?_
                                refine r_imul C dX11_town_333 (fun v137 e138 => ?_)
                                have k139 : (0 : Int32).toInt = 0 := by omega
                                have v137' := imul_ok e138 (by rw [k139]; omega) (by rw [k139]; omega)
                                rw [k139] at v137'
                                exact hret _ _ _ _ dX11_town_334 rfl ⟨h136, by omega⟩
                            · have c80' := i_nle c80
                              refine r_aload_n 0 C dX11_town_240 rfl ?_
                              refine gfX11_25 120 C (kS sM h79 kc_114) (xS sM h79 xc_114_9) dX11_town_241 ?_
                              refine r_iload_n 2 C dX11_town_244 rfl ?_
                              refine r_aload_n 0 C dX11_town_245 rfl ?_
                              refine gfX11_71 132 C (kS sM h79 kc_114) (xS sM h79 xc_114_38) dX11_town_246 ?_
                              refine r_iload_n 2 C dX11_town_249 rfl ?_
                              refine r_iald C (kS sM h79 kc_132) (vin (by omega) (by omega)) dX11_town_250 ?_
                              generalize (wI w73 132 (i72).toNatClampNeg) = v140
                              refine r_iast C (kS sM h79 kc_120) (vin (by omega) (by omega)) dX11_town_251 (fun w141 e142 => ?_)
                              have h143 := Ch.put h79 e142 (by decide)
                              refine r_aload_n 0 C dX11_town_252 rfl ?_
                              refine gfX11_28 121 C (kS sM h143 kc_114) (xS sM h143 xc_114_10) dX11_town_253 ?_
                              refine r_iload_n 2 C dX11_town_256 rfl ?_
                              refine r_aload_n 0 C dX11_town_257 rfl ?_
                              refine gfX11_74 133 C (kS sM h143 kc_114) (xS sM h143 xc_114_39) dX11_town_258 ?_
                              refine r_iload_n 2 C dX11_town_261 rfl ?_
                              refine r_iald C (kS sM h143 kc_133) (vin (by omega) (by omega)) dX11_town_262 ?_
                              generalize (wI w141 133 (i72).toNatClampNeg) = v144
                              refine r_iast C (kS sM h143 kc_121) (vin (by omega) (by omega)) dX11_town_263 (fun w145 e146 => ?_)
                              have h147 := Ch.put h143 e146 (by decide)
                              obtain ⟨i148, e149⟩ : ∃ z : Int32, i72 + Int32.ofInt 1 = z := ⟨_, rfl⟩
                              have i148' := iinc_ok e149 (by decide) (by omega) (by omega)
                              refine r_iinc [(2, .int i148), (0, .ref (gz (xG x) + 114)), (1, .int 0)] 2 C dX11_town_264 rfl e149 (by decide) rfl ?_
                              refine r_goto 235 C dX11_town_267 (by decide) ?_
                              refine r_lv [1, 2, 0] rfl ?_
                              exact ih78 _ _ (Ch.put (Ch.put h74 e142 (by decide)) e146 (by decide)) (by omega) (by omega) (by omega)
                        refine r_lv [1, 2, 0] rfl ?_
                        exact LP70 4 _ _ Ch.rf (by omega) (by omega) (by omega)
                      · have c69' := i_nle c69
                        refine r_aload_n 0 C dX11_town_153 rfl ?_
                        refine gfX11_13 116 C (kS sM h68 kc_114) (xS sM h68 xc_114_4) dX11_town_154 ?_
                        refine r_iload_n 2 C dX11_town_157 rfl ?_
                        refine r_aload_n 0 C dX11_town_158 rfl ?_
                        refine gfX11_56 127 C (kS sM h68 kc_114) (xS sM h68 xc_114_32) dX11_town_159 ?_
                        refine r_iload_n 2 C dX11_town_162 rfl ?_
                        refine r_iald C (kS sM h68 kc_127) (vin (by omega) (by omega)) dX11_town_163 ?_
                        generalize (wI w62 127 (i61).toNatClampNeg) = v150
                        refine r_iast C (kS sM h68 kc_116) (vin (by omega) (by omega)) dX11_town_164 (fun w151 e152 => ?_)
                        have h153 := Ch.put h68 e152 (by decide)
                        refine r_aload_n 0 C dX11_town_165 rfl ?_
                        refine gfX11_16 117 C (kS sM h153 kc_114) (xS sM h153 xc_114_5) dX11_town_166 ?_
                        refine r_iload_n 2 C dX11_town_169 rfl ?_
                        refine r_aload_n 0 C dX11_town_170 rfl ?_
                        refine gfX11_62 129 C (kS sM h153 kc_114) (xS sM h153 xc_114_34) dX11_town_171 ?_
                        refine r_iload_n 2 C dX11_town_174 rfl ?_
                        refine r_iald C (kS sM h153 kc_129) (vin (by omega) (by omega)) dX11_town_175 ?_
                        generalize (wI w151 129 (i61).toNatClampNeg) = v154
                        refine r_iast C (kS sM h153 kc_117) (vin (by omega) (by omega)) dX11_town_176 (fun w155 e156 => ?_)
                        have h157 := Ch.put h153 e156 (by decide)
                        refine r_aload_n 0 C dX11_town_177 rfl ?_
                        refine gfX11_19 118 C (kS sM h157 kc_114) (xS sM h157 xc_114_6) dX11_town_178 ?_
                        refine r_iload_n 2 C dX11_town_181 rfl ?_
                        refine r_aload_n 0 C dX11_town_182 rfl ?_
                        refine gfX11_65 130 C (kS sM h157 kc_114) (xS sM h157 xc_114_35) dX11_town_183 ?_
                        refine r_iload_n 2 C dX11_town_186 rfl ?_
                        refine r_iald C (kS sM h157 kc_130) (vin (by omega) (by omega)) dX11_town_187 ?_
                        generalize (wI w155 130 (i61).toNatClampNeg) = v158
                        refine r_iast C (kS sM h157 kc_118) (vin (by omega) (by omega)) dX11_town_188 (fun w159 e160 => ?_)
                        have h161 := Ch.put h157 e160 (by decide)
                        refine r_aload_n 0 C dX11_town_189 rfl ?_
                        refine gfX11_22 119 C (kS sM h161 kc_114) (xS sM h161 xc_114_7) dX11_town_190 ?_
                        refine r_iload_n 2 C dX11_town_193 rfl ?_
                        refine r_aload_n 0 C dX11_town_194 rfl ?_
                        refine gfX11_68 131 C (kS sM h161 kc_114) (xS sM h161 xc_114_36) dX11_town_195 ?_
                        refine r_iload_n 2 C dX11_town_198 rfl ?_
                        refine r_iald C (kS sM h161 kc_131) (vin (by omega) (by omega)) dX11_town_199 ?_
                        generalize (wI w159 131 (i61).toNatClampNeg) = v162
                        refine r_iast C (kS sM h161 kc_119) (vin (by omega) (by omega)) dX11_town_200 (fun w163 e164 => ?_)
                        have h165 := Ch.put h161 e164 (by decide)
                        refine r_aload_n 0 C dX11_town_201 rfl ?_
                        refine gfX11_38 122 C (kS sM h165 kc_114) (xS sM h165 xc_114_14) dX11_town_202 ?_
                        refine r_iload_n 2 C dX11_town_205 rfl ?_
                        refine r_aload_n 0 C dX11_town_206 rfl ?_
                        refine gfX11_59 128 C (kS sM h165 kc_114) (xS sM h165 xc_114_33) dX11_town_207 ?_
                        refine r_iload_n 2 C dX11_town_210 rfl ?_
                        refine r_iald C (kS sM h165 kc_128) (vin (by omega) (by omega)) dX11_town_211 ?_
                        generalize (wI w163 128 (i61).toNatClampNeg) = v166
                        refine r_iast C (kS sM h165 kc_122) (vin (by omega) (by omega)) dX11_town_212 (fun w167 e168 => ?_)
                        have h169 := Ch.put h165 e168 (by decide)
                        refine r_aload_n 0 C dX11_town_213 rfl ?_
                        refine gfX11_41 123 C (kS sM h169 kc_114) (xS sM h169 xc_114_15) dX11_town_214 ?_
                        refine r_iload_n 2 C dX11_town_217 rfl ?_
                        refine r_iconst (v := (-1)) C dX11_town_218 (by decide) ?_
                        refine r_iast C (kS sM h169 kc_123) (vin (by omega) (by omega)) dX11_town_219 (fun w170 e171 => ?_)
                        have h172 := Ch.put h169 e171 (by decide)
                        refine r_aload_n 0 C dX11_town_220 rfl ?_
                        refine gfX11_44 124 C (kS sM h172 kc_114) (xS sM h172 xc_114_16) dX11_town_221 ?_
                        refine r_iload_n 2 C dX11_town_224 rfl ?_
                        refine r_iconst (v := 0) C dX11_town_225 (by decide) ?_
                        refine r_iast C (kS sM h172 kc_124) (vin (by omega) (by omega)) dX11_town_226 (fun w173 e174 => ?_)
                        have h175 := Ch.put h172 e174 (by decide)
                        obtain ⟨i176, e177⟩ : ∃ z : Int32, i61 + Int32.ofInt 1 = z := ⟨_, rfl⟩
                        have i176' := iinc_ok e177 (by decide) (by omega) (by omega)
                        refine r_iinc [(2, .int i176), (0, .ref (gz (xG x) + 114)), (1, .int 0)] 2 C dX11_town_227 rfl e177 (by decide) rfl ?_
                        refine r_goto 147 C dX11_town_230 (by decide) ?_
                        refine r_lv [1, 2, 0] rfl ?_
                        exact ih67 _ _ (Ch.put (Ch.put (Ch.put (Ch.put (Ch.put (Ch.put (Ch.put h63 e152 (by decide)) e156 (by decide)) e160 (by decide)) e164 (by decide)) e168 (by decide)) e171 (by decide)) e174 (by decide)) (by omega) (by omega) (by omega)
                  refine r_lv [1, 2, 0] rfl ?_
                  exact LP59 7 _ _ Ch.rf (by omega) (by omega) (by omega)
                · have c58' := i_nle c58
                  refine r_aload_n 0 C dX11_town_127 rfl ?_
                  refine gfX11_7 115 C (kS sM h57 kc_114) (xS sM h57 xc_114_2) dX11_town_128 ?_
                  refine r_iload_n 2 C dX11_town_131 rfl ?_
                  refine r_aload_n 0 C dX11_town_132 rfl ?_
                  refine gfX11_53 126 C (kS sM h57 kc_114) (xS sM h57 xc_114_29) dX11_town_133 ?_
                  refine r_iload_n 2 C dX11_town_136 rfl ?_
                  refine r_iald C (kS sM h57 kc_126) (vin (by omega) (by omega)) dX11_town_137 ?_
                  generalize (wI w51 126 (i50).toNatClampNeg) = v178
                  refine r_iast C (kS sM h57 kc_115) (vin (by omega) (by omega)) dX11_town_138 (fun w179 e180 => ?_)
                  have h181 := Ch.put h57 e180 (by decide)
                  obtain ⟨i182, e183⟩ : ∃ z : Int32, i50 + Int32.ofInt 1 = z := ⟨_, rfl⟩
                  have i182' := iinc_ok e183 (by decide) (by omega) (by omega)
                  refine r_iinc [(2, .int i182), (0, .ref (gz (xG x) + 114)), (1, .int 0)] 2 C dX11_town_139 rfl e183 (by decide) rfl ?_
                  refine r_goto 121 C dX11_town_142 (by decide) ?_
                  refine r_lv [1, 2, 0] rfl ?_
                  exact ih56 _ _ (Ch.put h52 e180 (by decide)) (by omega) (by omega) (by omega)
            refine r_lv [2, 1, 0] rfl ?_
            exact LP48 43 _ _ Ch.rf (by omega) (by omega) (by omega)
          · have c44' := i_nle c44
            refine r_iconst (v := 1) C dX11_town_108 (by decide) ?_
            refine r_goto 116 C dX11_town_109 (by decide) ?_
            refine pfX11_35 C (kS sM h43 kc_114) dX11_town_116 (fun w184 e185 => ?_)
            have h186 := Ch.put h43 e185 (by decide)
            refine r_iconst (v := 0) C dX11_town_119 (by decide) ?_
            refine r_istore_n [(2, .int 0), (1, .int 0), (0, .ref (gz (xG x) + 114))] C dX11_town_120 (by decide) rfl ?_
            have LP187 : ∀ (f188 : Nat) (i189 : Int32) (w190 : Wv), Ch [115] w184 w190 → 0 ≤ i189.toInt → i189.toInt ≤ 42 → 42 - i189.toInt < f188 → V x 0 0 w190 121 [(0, .ref (gz (xG x) + 114)), (1, .int 0), (2, .int i189)] [] := by
              intro f188
              induction f188 with
              | zero => intro i189 w190 h191 a192 a193  a194; exfalso; omega
              | succ f188 ih195 =>
                intro i189 w190 h191 a192 a193  a194
                have h196 := Ch.tr h186 h191 (by decide)
                refine r_iload_n 2 C dX11_town_121 rfl ?_
                refine r_bipush (v := 42) C dX11_town_122 (by decide) ?_
                refine r_icmp_ge 145 C dX11_town_124 (by decide) (fun c197 => ?_) (fun c197 => ?_)
                · have c197' := i_le c197
                  refine r_iconst (v := 0) C dX11_town_145 (by decide) ?_
                  refine r_istore_n [(2, .int 0), (0, .ref (gz (xG x) + 114)), (1, .int 0)] C dX11_town_146 (by decide) rfl ?_
                  have LP198 : ∀ (f199 : Nat) (i200 : Int32) (w201 : Wv), Ch [116, 117, 118, 119, 122, 123, 124] w190 w201 → 0 ≤ i200.toInt → i200.toInt ≤ 6 → 6 - i200.toInt < f199 → V x 0 0 w201 147 [(0, .ref (gz (xG x) + 114)), (1, .int 0), (2, .int i200)] [] := by
                    intro f199
                    induction f199 with
                    | zero => intro i200 w201 h202 a203 a204  a205; exfalso; omega
                    | succ f199 ih206 =>
                      intro i200 w201 h202 a203 a204  a205
                      have h207 := Ch.tr h196 h202 (by decide)
                      refine r_iload_n 2 C dX11_town_147 rfl ?_
                      refine r_bipush (v := 6) C dX11_town_148 (by decide) ?_
                      refine r_icmp_ge 233 C dX11_town_150 (by decide) (fun c208 => ?_) (fun c208 => ?_)
                      · have c208' := i_le c208
                        refine r_iconst (v := 0) C dX11_town_233 (by decide) ?_
                        refine r_istore_n [(2, .int 0), (0, .ref (gz (xG x) + 114)), (1, .int 0)] C dX11_town_234 (by decide) rfl ?_
                        have LP209 : ∀ (f210 : Nat) (i211 : Int32) (w212 : Wv), Ch [120, 121] w201 w212 → 0 ≤ i211.toInt → i211.toInt ≤ 3 → 3 - i211.toInt < f210 → V x 0 0 w212 235 [(0, .ref (gz (xG x) + 114)), (1, .int 0), (2, .int i211)] [] := by
                          intro f210
                          induction f210 with
                          | zero => intro i211 w212 h213 a214 a215  a216; exfalso; omega
                          | succ f210 ih217 =>
                            intro i211 w212 h213 a214 a215  a216
                            have h218 := Ch.tr h207 h213 (by decide)
                            refine r_iload_n 2 C dX11_town_235 rfl ?_
                            refine r_iconst (v := 3) C dX11_town_236 (by decide) ?_
                            refine r_icmp_ge 270 C dX11_town_237 (by decide) (fun c219 => ?_) (fun c219 => ?_)
                            · have c219' := i_le c219
                              refine r_aload_n 0 C dX11_town_270 rfl ?_
                              refine r_aload_n 0 C dX11_town_271 rfl ?_
                              refine gfX11_188 (v := (wI w8 114 40)) C (kS sM h218 kc_114) (h213.I (by decide) (h202.I (by decide) (h191.I (by decide) (g_nk e185 (by decide) (g_nk e42 (by decide) (g_nk e38 (by decide) (g_nk e35 (by decide) (g_nk e32 (by decide) (g_nk e29 (by decide) (g_nk e25 (by decide) (h20.I (by decide) rfl))))))))))) dX11_town_272 ?_
                              refine r_if_ge 285 C dX11_town_275 (by decide) (fun c220 => ?_) (fun c220 => ?_)
                              · have c220' := i_le c220
                                refine r_aload_n 0 C dX11_town_285 rfl ?_
                                refine gfX11_188 (v := (wI w8 114 40)) C (kS sM h218 kc_114) (h213.I (by decide) (h202.I (by decide) (h191.I (by decide) (g_nk e185 (by decide) (g_nk e42 (by decide) (g_nk e38 (by decide) (g_nk e35 (by decide) (g_nk e32 (by decide) (g_nk e29 (by decide) (g_nk e25 (by decide) (h20.I (by decide) rfl))))))))))) dX11_town_286 ?_
                                refine pfX11_259 C (kS sM h218 kc_114) dX11_town_289 (fun w221 e222 => ?_)
                                have h223 := Ch.put h218 e222 (by decide)
                                refine r_aload_n 0 C dX11_town_292 rfl ?_
                                refine r_iconst (v := 0) C dX11_town_293 (by decide) ?_
                                refine pfX11_262 C (kS sM h223 kc_114) dX11_town_294 (fun w224 e225 => ?_)
                                have h226 := Ch.put h223 e225 (by decide)
                                refine r_aload_n 0 C dX11_town_297 rfl ?_
                                refine r_iconst (v := 0) C dX11_town_298 (by decide) ?_
                                refine pfX11_265 C (kS sM h226 kc_114) dX11_town_299 (fun w227 e228 => ?_)
                                have h229 := Ch.put h226 e228 (by decide)
                                refine r_aload_n 0 C dX11_town_302 rfl ?_
                                refine r_iconst (v := 0) C dX11_town_303 (by decide) ?_
                                refine pfX11_268 C (kS sM h229 kc_114) dX11_town_304 (fun w230 e231 => ?_)
                                have h232 := Ch.put h229 e231 (by decide)
                                refine r_aload_n 0 C dX11_town_307 rfl ?_
                                refine gfX11_107 144 C (kS sM h232 kc_114) (xS sM h232 xc_114_57) dX11_town_308 ?_
                                refine r_iconst (v := 0) C dX11_town_311 (by decide) ?_
                                refine r_iconst (v := 0) C dX11_town_312 (by decide) ?_
                                refine r_zast C (kS sM h232 kc_144) (vin (by omega) (by omega)) (nar_z (z_of (by omega))) dX11_town_313 (fun w233 e234 => ?_)
                                have h235 := Ch.put h232 e234 (by decide)
                                refine r_aload_n 0 C dX11_town_314 rfl ?_
                                refine gfX11_107 144 C (kS sM h235 kc_114) (xS sM h235 xc_114_57) dX11_town_315 ?_
                                refine r_iconst (v := 1) C dX11_town_318 (by decide) ?_
                                refine r_iconst (v := 0) C dX11_town_319 (by decide) ?_
                                refine r_zast C (kS sM h235 kc_144) (vin (by omega) (by omega)) (nar_z (z_of (by omega))) dX11_town_320 (fun w236 e237 => ?_)
                                have h238 := Ch.put h235 e237 (by decide)
                                refine r_aload_n 0 C dX11_town_321 rfl ?_
                                refine callVV C cwX11_271_V (ctX11_findFar_114 _ _ w236 (sS sM h238) (g_nn e237 (by decide) (g_nn e234 (by decide) (g_nk e231 (by decide) (g_nk e228 (by decide) (g_nk e225 (by decide) (g_nk e222 (by decide) (h213.I (by decide) (h202.I (by decide) (h191.I (by decide) (g_nk e185 (by decide) (g_nk e42 (by decide) (g_nk e38 (by decide) (g_nk e35 (by decide) (g_nk e32 (by decide) (g_eq e29))))))))))))))) (g_nn e237 (by decide) (g_nn e234 (by decide) (g_nk e231 (by decide) (g_nk e228 (by decide) (g_nk e225 (by decide) (g_nk e222 (by decide) (h213.I (by decide) (h202.I (by decide) (h191.I (by decide) (g_nk e185 (by decide) (g_nk e42 (by decide) (g_nk e38 (by decide) (g_nk e35 (by decide) (g_eq e32))))))))))))))  ) (by decide) (kS sM h238 kc_114) rfl rfl rfl (Nat.le_of_ble_eq_true rfl) (by decide) dX11_town_322 (fun w240 y239 => ?_)
                                show V x 0 0 w240 325 [(0, .ref (gz (xG x) + 114)), (1, .int 0), (2, .int i211)] []
                                have h242 := y239
                                have h243 := Ch.tr h238 h242 (by decide)
                                refine r_aload_n 0 C dX11_town_325 rfl ?_
                                refine gfX11_111 (v := 0) C (kS sM h243 kc_114) (h242.I (by decide) (g_nn e237 (by decide) (g_nn e234 (by decide) (g_nk e231 (by decide) (g_nk e228 (by decide) (g_nk e225 (by decide) (g_nk e222 (by decide) (h213.I (by decide) (h202.I (by decide) (h191.I (by decide) (g_nk e185 (by decide) (g_nk e42 (by decide) (g_nk e38 (by decide) (g_nk e35 (by decide) (g_nk e32 (by decide) (g_eq e29)))))))))))))))) dX11_town_326 ?_
                                refine r_aload_n 0 C dX11_town_329 rfl ?_
                                refine gfX11_118 (v := 0) C (kS sM h243 kc_114) (h242.I (by decide) (g_nn e237 (by decide) (g_nn e234 (by decide) (g_nk e231 (by decide) (g_nk e228 (by decide) (g_nk e225 (by decide) (g_nk e222 (by decide) (h213.I (by decide) (h202.I (by decide) (h191.I (by decide) (g_nk e185 (by decide) (g_nk e42 (by decide) (g_nk e38 (by decide) (g_nk e35 (by decide) (g_eq e32))))))))))))))) dX11_town_330 ?_
                                refine r_imul C dX11_town_333 (fun v244 e245 => ?_)
                                have k246 : (0 : Int32).toInt = 0 := by omega
                                have v244' := imul_ok e245 (by rw [k246]; omega) (by rw [k246]; omega)
                                rw [k246] at v244'
                                exact hret _ _ _ _ dX11_town_334 rfl ⟨h243, by omega⟩
                              · have c220' := i_nle c220
                                refine r_aload_n 0 C dX11_town_278 rfl ?_
                                refine callVI C cwX11_256_V (ctX11_firstFree_114 _ _ w212 (sS sM h218) (h213.I (by decide) (h202.I (by decide) (h191.I (by decide) (g_nk e185 (by decide) (g_nk e42 (by decide) (g_nk e38 (by decide) (g_nk e35 (by decide) (g_nk e32 (by decide) (g_eq e29))))))))) (h213.I (by decide) (h202.I (by decide) (h191.I (by decide) (g_nk e185 (by decide) (g_nk e42 (by decide) (g_nk e38 (by decide) (g_nk e35 (by decide) (g_eq e32))))))))  ) (by decide) (kS sM h218 kc_114) rfl rfl rfl (Nat.le_of_ble_eq_true rfl) (by decide) dX11_town_279 (fun r249 w248 y247 => ?_)
                                show V x 0 0 w248 282 [(0, .ref (gz (xG x) + 114)), (1, .int 0), (2, .int i211)] [.int r249, .ref (gz (xG x) + 114)]
                                obtain ⟨h250, g251⟩ := y247
                                have h252 := Ch.tr h218 h250 (by decide)
                                refine r_goto 289 C dX11_town_282 (by decide) ?_
                                refine pfX11_259 C (kS sM h252 kc_114) dX11_town_289 (fun w253 e254 => ?_)
                                have h255 := Ch.put h252 e254 (by decide)
                                refine r_aload_n 0 C dX11_town_292 rfl ?_
                                refine r_iconst (v := 0) C dX11_town_293 (by decide) ?_
                                refine pfX11_262 C (kS sM h255 kc_114) dX11_town_294 (fun w256 e257 => ?_)
                                have h258 := Ch.put h255 e257 (by decide)
                                refine r_aload_n 0 C dX11_town_297 rfl ?_
                                refine r_iconst (v := 0) C dX11_town_298 (by decide) ?_
                                refine pfX11_265 C (kS sM h258 kc_114) dX11_town_299 (fun w259 e260 => ?_)
                                have h261 := Ch.put h258 e260 (by decide)
                                refine r_aload_n 0 C dX11_town_302 rfl ?_
                                refine r_iconst (v := 0) C dX11_town_303 (by decide) ?_
                                refine pfX11_268 C (kS sM h261 kc_114) dX11_town_304 (fun w262 e263 => ?_)
                                have h264 := Ch.put h261 e263 (by decide)
                                refine r_aload_n 0 C dX11_town_307 rfl ?_
                                refine gfX11_107 144 C (kS sM h264 kc_114) (xS sM h264 xc_114_57) dX11_town_308 ?_
                                refine r_iconst (v := 0) C dX11_town_311 (by decide) ?_
                                refine r_iconst (v := 0) C dX11_town_312 (by decide) ?_
                                refine r_zast C (kS sM h264 kc_144) (vin (by omega) (by omega)) (nar_z (z_of (by omega))) dX11_town_313 (fun w265 e266 => ?_)
                                have h267 := Ch.put h264 e266 (by decide)
                                refine r_aload_n 0 C dX11_town_314 rfl ?_
                                refine gfX11_107 144 C (kS sM h267 kc_114) (xS sM h267 xc_114_57) dX11_town_315 ?_
                                refine r_iconst (v := 1) C dX11_town_318 (by decide) ?_
                                refine r_iconst (v := 0) C dX11_town_319 (by decide) ?_
                                refine r_zast C (kS sM h267 kc_144) (vin (by omega) (by omega)) (nar_z (z_of (by omega))) dX11_town_320 (fun w268 e269 => ?_)
                                have h270 := Ch.put h267 e269 (by decide)
                                refine r_aload_n 0 C dX11_town_321 rfl ?_
                                refine callVV C cwX11_271_V (ctX11_findFar_114 _ _ w268 (sS sM h270) (g_nn e269 (by decide) (g_nn e266 (by decide) (g_nk e263 (by decide) (g_nk e260 (by decide) (g_nk e257 (by decide) (g_nk e254 (by decide) (h250.I (by decide) (h213.I (by decide) (h202.I (by decide) (h191.I (by decide) (g_nk e185 (by decide) (g_nk e42 (by decide) (g_nk e38 (by decide) (g_nk e35 (by decide) (g_nk e32 (by decide) (g_eq e29)))))))))))))))) (g_nn e269 (by decide) (g_nn e266 (by decide) (g_nk e263 (by decide) (g_nk e260 (by decide) (g_nk e257 (by decide) (g_nk e254 (by decide) (h250.I (by decide) (h213.I (by decide) (h202.I (by decide) (h191.I (by decide) (g_nk e185 (by decide) (g_nk e42 (by decide) (g_nk e38 (by decide) (g_nk e35 (by decide) (g_eq e32)))))))))))))))  ) (by decide) (kS sM h270 kc_114) rfl rfl rfl (Nat.le_of_ble_eq_true rfl) (by decide) dX11_town_322 (fun w272 y271 => ?_)
                                show V x 0 0 w272 325 [(0, .ref (gz (xG x) + 114)), (1, .int 0), (2, .int i211)] []
                                have h274 := y271
                                have h275 := Ch.tr h270 h274 (by decide)
                                refine r_aload_n 0 C dX11_town_325 rfl ?_
                                refine gfX11_111 (v := 0) C (kS sM h275 kc_114) (h274.I (by decide) (g_nn e269 (by decide) (g_nn e266 (by decide) (g_nk e263 (by decide) (g_nk e260 (by decide) (g_nk e257 (by decide) (g_nk e254 (by decide) (h250.I (by decide) (h213.I (by decide) (h202.I (by decide) (h191.I (by decide) (g_nk e185 (by decide) (g_nk e42 (by decide) (g_nk e38 (by decide) (g_nk e35 (by decide) (g_nk e32 (by decide) (g_eq e29))))))))))))))))) dX11_town_326 ?_
                                refine r_aload_n 0 C dX11_town_329 rfl ?_
                                refine gfX11_118 (v := 0) C (kS sM h275 kc_114) (h274.I (by decide) (g_nn e269 (by decide) (g_nn e266 (by decide) (g_nk e263 (by decide) (g_nk e260 (by decide) (g_nk e257 (by decide) (g_nk e254 (by decide) (h250.I (by decide) (h213.I (by decide) (h202.I (by decide) (h191.I (by decide) (g_nk e185 (by decide) (g_nk e42 (by decide) (g_nk e38 (by decide) (g_nk e35 (by decide) (g_eq e32)))))))))))))))) dX11_town_330 ?_
                                refine r_imul C dX11_town_333 (fun v276 e277 => ?_)
                                have k278 : (0 : Int32).toInt = 0 := by omega
                                have v276' := imul_ok e277 (by rw [k278]; omega) (by rw [k278]; omega)
                                rw [k278] at v276'
                                exact hret _ _ _ _ dX11_town_334 rfl ⟨h275, by omega⟩
                            · have c219' := i_nle c219
                              refine r_aload_n 0 C dX11_town_240 rfl ?_
                              refine gfX11_25 120 C (kS sM h218 kc_114) (xS sM h218 xc_114_9) dX11_town_241 ?_
                              refine r_iload_n 2 C dX11_town_244 rfl ?_
                              refine r_aload_n 0 C dX11_town_245 rfl ?_
                              refine gfX11_71 132 C (kS sM h218 kc_114) (xS sM h218 xc_114_38) dX11_town_246 ?_
                              refine r_iload_n 2 C dX11_town_249 rfl ?_
                              refine r_iald C (kS sM h218 kc_132) (vin (by omega) (by omega)) dX11_town_250 ?_
                              generalize (wI w212 132 (i211).toNatClampNeg) = v279
                              refine r_iast C (kS sM h218 kc_120) (vin (by omega) (by omega)) dX11_town_251 (fun w280 e281 => ?_)
                              have h282 := Ch.put h218 e281 (by decide)
                              refine r_aload_n 0 C dX11_town_252 rfl ?_
                              refine gfX11_28 121 C (kS sM h282 kc_114) (xS sM h282 xc_114_10) dX11_town_253 ?_
                              refine r_iload_n 2 C dX11_town_256 rfl ?_
                              refine r_aload_n 0 C dX11_town_257 rfl ?_
                              refine gfX11_74 133 C (kS sM h282 kc_114) (xS sM h282 xc_114_39) dX11_town_258 ?_
                              refine r_iload_n 2 C dX11_town_261 rfl ?_
                              refine r_iald C (kS sM h282 kc_133) (vin (by omega) (by omega)) dX11_town_262 ?_
                              generalize (wI w280 133 (i211).toNatClampNeg) = v283
                              refine r_iast C (kS sM h282 kc_121) (vin (by omega) (by omega)) dX11_town_263 (fun w284 e285 => ?_)
                              have h286 := Ch.put h282 e285 (by decide)
                              obtain ⟨i287, e288⟩ : ∃ z : Int32, i211 + Int32.ofInt 1 = z := ⟨_, rfl⟩
                              have i287' := iinc_ok e288 (by decide) (by omega) (by omega)
                              refine r_iinc [(2, .int i287), (0, .ref (gz (xG x) + 114)), (1, .int 0)] 2 C dX11_town_264 rfl e288 (by decide) rfl ?_
                              refine r_goto 235 C dX11_town_267 (by decide) ?_
                              refine r_lv [1, 2, 0] rfl ?_
                              exact ih217 _ _ (Ch.put (Ch.put h213 e281 (by decide)) e285 (by decide)) (by omega) (by omega) (by omega)
                        refine r_lv [1, 2, 0] rfl ?_
                        exact LP209 4 _ _ Ch.rf (by omega) (by omega) (by omega)
                      · have c208' := i_nle c208
                        refine r_aload_n 0 C dX11_town_153 rfl ?_
                        refine gfX11_13 116 C (kS sM h207 kc_114) (xS sM h207 xc_114_4) dX11_town_154 ?_
                        refine r_iload_n 2 C dX11_town_157 rfl ?_
                        refine r_aload_n 0 C dX11_town_158 rfl ?_
                        refine gfX11_56 127 C (kS sM h207 kc_114) (xS sM h207 xc_114_32) dX11_town_159 ?_
                        refine r_iload_n 2 C dX11_town_162 rfl ?_
                        refine r_iald C (kS sM h207 kc_127) (vin (by omega) (by omega)) dX11_town_163 ?_
                        generalize (wI w201 127 (i200).toNatClampNeg) = v289
                        refine r_iast C (kS sM h207 kc_116) (vin (by omega) (by omega)) dX11_town_164 (fun w290 e291 => ?_)
                        have h292 := Ch.put h207 e291 (by decide)
                        refine r_aload_n 0 C dX11_town_165 rfl ?_
                        refine gfX11_16 117 C (kS sM h292 kc_114) (xS sM h292 xc_114_5) dX11_town_166 ?_
                        refine r_iload_n 2 C dX11_town_169 rfl ?_
                        refine r_aload_n 0 C dX11_town_170 rfl ?_
                        refine gfX11_62 129 C (kS sM h292 kc_114) (xS sM h292 xc_114_34) dX11_town_171 ?_
                        refine r_iload_n 2 C dX11_town_174 rfl ?_
                        refine r_iald C (kS sM h292 kc_129) (vin (by omega) (by omega)) dX11_town_175 ?_
                        generalize (wI w290 129 (i200).toNatClampNeg) = v293
                        refine r_iast C (kS sM h292 kc_117) (vin (by omega) (by omega)) dX11_town_176 (fun w294 e295 => ?_)
                        have h296 := Ch.put h292 e295 (by decide)
                        refine r_aload_n 0 C dX11_town_177 rfl ?_
                        refine gfX11_19 118 C (kS sM h296 kc_114) (xS sM h296 xc_114_6) dX11_town_178 ?_
                        refine r_iload_n 2 C dX11_town_181 rfl ?_
                        refine r_aload_n 0 C dX11_town_182 rfl ?_
                        refine gfX11_65 130 C (kS sM h296 kc_114) (xS sM h296 xc_114_35) dX11_town_183 ?_
                        refine r_iload_n 2 C dX11_town_186 rfl ?_
                        refine r_iald C (kS sM h296 kc_130) (vin (by omega) (by omega)) dX11_town_187 ?_
                        generalize (wI w294 130 (i200).toNatClampNeg) = v297
                        refine r_iast C (kS sM h296 kc_118) (vin (by omega) (by omega)) dX11_town_188 (fun w298 e299 => ?_)
                        have h300 := Ch.put h296 e299 (by decide)
                        refine r_aload_n 0 C dX11_town_189 rfl ?_
                        refine gfX11_22 119 C (kS sM h300 kc_114) (xS sM h300 xc_114_7) dX11_town_190 ?_
                        refine r_iload_n 2 C dX11_town_193 rfl ?_
                        refine r_aload_n 0 C dX11_town_194 rfl ?_
                        refine gfX11_68 131 C (kS sM h300 kc_114) (xS sM h300 xc_114_36) dX11_town_195 ?_
                        refine r_iload_n 2 C dX11_town_198 rfl ?_
                        refine r_iald C (kS sM h300 kc_131) (vin (by omega) (by omega)) dX11_town_199 ?_
                        generalize (wI w298 131 (i200).toNatClampNeg) = v301
                        refine r_iast C (kS sM h300 kc_119) (vin (by omega) (by omega)) dX11_town_200 (fun w302 e303 => ?_)
                        have h304 := Ch.put h300 e303 (by decide)
                        refine r_aload_n 0 C dX11_town_201 rfl ?_
                        refine gfX11_38 122 C (kS sM h304 kc_114) (xS sM h304 xc_114_14) dX11_town_202 ?_
                        refine r_iload_n 2 C dX11_town_205 rfl ?_
                        refine r_aload_n 0 C dX11_town_206 rfl ?_
                        refine gfX11_59 128 C (kS sM h304 kc_114) (xS sM h304 xc_114_33) dX11_town_207 ?_
                        refine r_iload_n 2 C dX11_town_210 rfl ?_
                        refine r_iald C (kS sM h304 kc_128) (vin (by omega) (by omega)) dX11_town_211 ?_
                        generalize (wI w302 128 (i200).toNatClampNeg) = v305
                        refine r_iast C (kS sM h304 kc_122) (vin (by omega) (by omega)) dX11_town_212 (fun w306 e307 => ?_)
                        have h308 := Ch.put h304 e307 (by decide)
                        refine r_aload_n 0 C dX11_town_213 rfl ?_
                        refine gfX11_41 123 C (kS sM h308 kc_114) (xS sM h308 xc_114_15) dX11_town_214 ?_
                        refine r_iload_n 2 C dX11_town_217 rfl ?_
                        refine r_iconst (v := (-1)) C dX11_town_218 (by decide) ?_
                        refine r_iast C (kS sM h308 kc_123) (vin (by omega) (by omega)) dX11_town_219 (fun w309 e310 => ?_)
                        have h311 := Ch.put h308 e310 (by decide)
                        refine r_aload_n 0 C dX11_town_220 rfl ?_
                        refine gfX11_44 124 C (kS sM h311 kc_114) (xS sM h311 xc_114_16) dX11_town_221 ?_
                        refine r_iload_n 2 C dX11_town_224 rfl ?_
                        refine r_iconst (v := 0) C dX11_town_225 (by decide) ?_
                        refine r_iast C (kS sM h311 kc_124) (vin (by omega) (by omega)) dX11_town_226 (fun w312 e313 => ?_)
                        have h314 := Ch.put h311 e313 (by decide)
                        obtain ⟨i315, e316⟩ : ∃ z : Int32, i200 + Int32.ofInt 1 = z := ⟨_, rfl⟩
                        have i315' := iinc_ok e316 (by decide) (by omega) (by omega)
                        refine r_iinc [(2, .int i315), (0, .ref (gz (xG x) + 114)), (1, .int 0)] 2 C dX11_town_227 rfl e316 (by decide) rfl ?_
                        refine r_goto 147 C dX11_town_230 (by decide) ?_
                        refine r_lv [1, 2, 0] rfl ?_
                        exact ih206 _ _ (Ch.put (Ch.put (Ch.put (Ch.put (Ch.put (Ch.put (Ch.put h202 e291 (by decide)) e295 (by decide)) e299 (by decide)) e303 (by decide)) e307 (by decide)) e310 (by decide)) e313 (by decide)) (by omega) (by omega) (by omega)
                  refine r_lv [1, 2, 0] rfl ?_
                  exact LP198 7 _ _ Ch.rf (by omega) (by omega) (by omega)
                · have c197' := i_nle c197
                  refine r_aload_n 0 C dX11_town_127 rfl ?_
                  refine gfX11_7 115 C (kS sM h196 kc_114) (xS sM h196 xc_114_2) dX11_town_128 ?_
                  refine r_iload_n 2 C dX11_town_131 rfl ?_
                  refine r_aload_n 0 C dX11_town_132 rfl ?_
                  refine gfX11_53 126 C (kS sM h196 kc_114) (xS sM h196 xc_114_29) dX11_town_133 ?_
                  refine r_iload_n 2 C dX11_town_136 rfl ?_
                  refine r_iald C (kS sM h196 kc_126) (vin (by omega) (by omega)) dX11_town_137 ?_
                  generalize (wI w190 126 (i189).toNatClampNeg) = v317
                  refine r_iast C (kS sM h196 kc_115) (vin (by omega) (by omega)) dX11_town_138 (fun w318 e319 => ?_)
                  have h320 := Ch.put h196 e319 (by decide)
                  obtain ⟨i321, e322⟩ : ∃ z : Int32, i189 + Int32.ofInt 1 = z := ⟨_, rfl⟩
                  have i321' := iinc_ok e322 (by decide) (by omega) (by omega)
                  refine r_iinc [(2, .int i321), (0, .ref (gz (xG x) + 114)), (1, .int 0)] 2 C dX11_town_139 rfl e322 (by decide) rfl ?_
                  refine r_goto 121 C dX11_town_142 (by decide) ?_
                  refine r_lv [1, 2, 0] rfl ?_
                  exact ih195 _ _ (Ch.put h191 e319 (by decide)) (by omega) (by omega) (by omega)
            refine r_lv [2, 1, 0] rfl ?_
            exact LP187 43 _ _ Ch.rf (by omega) (by omega) (by omega)
        · have c40' := i_nle c40
          refine r_iconst (v := 1) C dX11_town_89 (by decide) ?_
          refine r_goto 97 C dX11_town_90 (by decide) ?_
          refine pfX11_31 C (kS sM h39 kc_114) dX11_town_97 (fun w323 e324 => ?_)
          have h325 := Ch.put h39 e324 (by decide)
          refine r_aload_n 1 C dX11_town_100 rfl ?_
          refine r_aload_n 1 C dX11_town_101 rfl ?_
          refine gfX11_211 (v := (wI w8 114 41)) C (kS sM h325 kc_114) (g_nk e324 (by decide) (g_nk e38 (by decide) (g_nk e35 (by decide) (g_nk e32 (by decide) (g_nk e29 (by decide) (g_nk e25 (by decide) (h20.I (by decide) rfl))))))) dX11_town_102 ?_
          refine r_if_ge 112 C dX11_town_105 (by decide) (fun c326 => ?_) (fun c326 => ?_)
          · have c326' := i_le c326
            refine r_aload_n 1 C dX11_town_112 rfl ?_
            refine gfX11_214 (v := (wI w8 114 42)) C (kS sM h325 kc_114) (g_nk e324 (by decide) (g_nk e38 (by decide) (g_nk e35 (by decide) (g_nk e32 (by decide) (g_nk e29 (by decide) (g_nk e25 (by decide) (h20.I (by decide) rfl))))))) dX11_town_113 ?_
            refine pfX11_35 C (kS sM h325 kc_114) dX11_town_116 (fun w327 e328 => ?_)
            have h329 := Ch.put h325 e328 (by decide)
            refine r_iconst (v := 0) C dX11_town_119 (by decide) ?_
            refine r_istore_n [(2, .int 0), (1, .int 0), (0, .ref (gz (xG x) + 114))] C dX11_town_120 (by decide) rfl ?_
            have LP330 : ∀ (f331 : Nat) (i332 : Int32) (w333 : Wv), Ch [115] w327 w333 → 0 ≤ i332.toInt → i332.toInt ≤ 42 → 42 - i332.toInt < f331 → V x 0 0 w333 121 [(0, .ref (gz (xG x) + 114)), (1, .int 0), (2, .int i332)] [] := by
              intro f331
              induction f331 with
              | zero => intro i332 w333 h334 a335 a336  a337; exfalso; omega
              | succ f331 ih338 =>
                intro i332 w333 h334 a335 a336  a337
                have h339 := Ch.tr h329 h334 (by decide)
                refine r_iload_n 2 C dX11_town_121 rfl ?_
                refine r_bipush (v := 42) C dX11_town_122 (by decide) ?_
                refine r_icmp_ge 145 C dX11_town_124 (by decide) (fun c340 => ?_) (fun c340 => ?_)
                · have c340' := i_le c340
                  refine r_iconst (v := 0) C dX11_town_145 (by decide) ?_
                  refine r_istore_n [(2, .int 0), (0, .ref (gz (xG x) + 114)), (1, .int 0)] C dX11_town_146 (by decide) rfl ?_
                  have LP341 : ∀ (f342 : Nat) (i343 : Int32) (w344 : Wv), Ch [116, 117, 118, 119, 122, 123, 124] w333 w344 → 0 ≤ i343.toInt → i343.toInt ≤ 6 → 6 - i343.toInt < f342 → V x 0 0 w344 147 [(0, .ref (gz (xG x) + 114)), (1, .int 0), (2, .int i343)] [] := by
                    intro f342
                    induction f342 with
                    | zero => intro i343 w344 h345 a346 a347  a348; exfalso; omega
                    | succ f342 ih349 =>
                      intro i343 w344 h345 a346 a347  a348
                      have h350 := Ch.tr h339 h345 (by decide)
                      refine r_iload_n 2 C dX11_town_147 rfl ?_
                      refine r_bipush (v := 6) C dX11_town_148 (by decide) ?_
                      refine r_icmp_ge 233 C dX11_town_150 (by decide) (fun c351 => ?_) (fun c351 => ?_)
                      · have c351' := i_le c351
                        refine r_iconst (v := 0) C dX11_town_233 (by decide) ?_
                        refine r_istore_n [(2, .int 0), (0, .ref (gz (xG x) + 114)), (1, .int 0)] C dX11_town_234 (by decide) rfl ?_
                        have LP352 : ∀ (f353 : Nat) (i354 : Int32) (w355 : Wv), Ch [120, 121] w344 w355 → 0 ≤ i354.toInt → i354.toInt ≤ 3 → 3 - i354.toInt < f353 → V x 0 0 w355 235 [(0, .ref (gz (xG x) + 114)), (1, .int 0), (2, .int i354)] [] := by
                          intro f353
                          induction f353 with
                          | zero => intro i354 w355 h356 a357 a358  a359; exfalso; omega
                          | succ f353 ih360 =>
                            intro i354 w355 h356 a357 a358  a359
                            have h361 := Ch.tr h350 h356 (by decide)
                            refine r_iload_n 2 C dX11_town_235 rfl ?_
                            refine r_iconst (v := 3) C dX11_town_236 (by decide) ?_
                            refine r_icmp_ge 270 C dX11_town_237 (by decide) (fun c362 => ?_) (fun c362 => ?_)
                            · have c362' := i_le c362
                              refine r_aload_n 0 C dX11_town_270 rfl ?_
                              refine r_aload_n 0 C dX11_town_271 rfl ?_
                              refine gfX11_188 (v := (wI w8 114 40)) C (kS sM h361 kc_114) (h356.I (by decide) (h345.I (by decide) (h334.I (by decide) (g_nk e328 (by decide) (g_nk e324 (by decide) (g_nk e38 (by decide) (g_nk e35 (by decide) (g_nk e32 (by decide) (g_nk e29 (by decide) (g_nk e25 (by decide) (h20.I (by decide) rfl))))))))))) dX11_town_272 ?_
                              refine r_if_ge 285 C dX11_town_275 (by decide) (fun c363 => ?_) (fun c363 => ?_)
                              · have c363' := i_le c363
                                refine r_aload_n 0 C dX11_town_285 rfl ?_
                                refine gfX11_188 (v := (wI w8 114 40)) C (kS sM h361 kc_114) (h356.I (by decide) (h345.I (by decide) (h334.I (by decide) (g_nk e328 (by decide) (g_nk e324 (by decide) (g_nk e38 (by decide) (g_nk e35 (by decide) (g_nk e32 (by decide) (g_nk e29 (by decide) (g_nk e25 (by decide) (h20.I (by decide) rfl))))))))))) dX11_town_286 ?_
                                refine pfX11_259 C (kS sM h361 kc_114) dX11_town_289 (fun w364 e365 => ?_)
                                have h366 := Ch.put h361 e365 (by decide)
                                refine r_aload_n 0 C dX11_town_292 rfl ?_
                                refine r_iconst (v := 0) C dX11_town_293 (by decide) ?_
                                refine pfX11_262 C (kS sM h366 kc_114) dX11_town_294 (fun w367 e368 => ?_)
                                have h369 := Ch.put h366 e368 (by decide)
                                refine r_aload_n 0 C dX11_town_297 rfl ?_
                                refine r_iconst (v := 0) C dX11_town_298 (by decide) ?_
                                refine pfX11_265 C (kS sM h369 kc_114) dX11_town_299 (fun w370 e371 => ?_)
                                have h372 := Ch.put h369 e371 (by decide)
                                refine r_aload_n 0 C dX11_town_302 rfl ?_
                                refine r_iconst (v := 0) C dX11_town_303 (by decide) ?_
                                refine pfX11_268 C (kS sM h372 kc_114) dX11_town_304 (fun w373 e374 => ?_)
                                have h375 := Ch.put h372 e374 (by decide)
                                refine r_aload_n 0 C dX11_town_307 rfl ?_
                                refine gfX11_107 144 C (kS sM h375 kc_114) (xS sM h375 xc_114_57) dX11_town_308 ?_
                                refine r_iconst (v := 0) C dX11_town_311 (by decide) ?_
                                refine r_iconst (v := 0) C dX11_town_312 (by decide) ?_
                                refine r_zast C (kS sM h375 kc_144) (vin (by omega) (by omega)) (nar_z (z_of (by omega))) dX11_town_313 (fun w376 e377 => ?_)
                                have h378 := Ch.put h375 e377 (by decide)
                                refine r_aload_n 0 C dX11_town_314 rfl ?_
                                refine gfX11_107 144 C (kS sM h378 kc_114) (xS sM h378 xc_114_57) dX11_town_315 ?_
                                refine r_iconst (v := 1) C dX11_town_318 (by decide) ?_
                                refine r_iconst (v := 0) C dX11_town_319 (by decide) ?_
                                refine r_zast C (kS sM h378 kc_144) (vin (by omega) (by omega)) (nar_z (z_of (by omega))) dX11_town_320 (fun w379 e380 => ?_)
                                have h381 := Ch.put h378 e380 (by decide)
                                refine r_aload_n 0 C dX11_town_321 rfl ?_
                                refine callVV C cwX11_271_V (ctX11_findFar_114 _ _ w379 (sS sM h381) (g_nn e380 (by decide) (g_nn e377 (by decide) (g_nk e374 (by decide) (g_nk e371 (by decide) (g_nk e368 (by decide) (g_nk e365 (by decide) (h356.I (by decide) (h345.I (by decide) (h334.I (by decide) (g_nk e328 (by decide) (g_nk e324 (by decide) (g_nk e38 (by decide) (g_nk e35 (by decide) (g_nk e32 (by decide) (g_eq e29))))))))))))))) (g_nn e380 (by decide) (g_nn e377 (by decide) (g_nk e374 (by decide) (g_nk e371 (by decide) (g_nk e368 (by decide) (g_nk e365 (by decide) (h356.I (by decide) (h345.I (by decide) (h334.I (by decide) (g_nk e328 (by decide) (g_nk e324 (by decide) (g_nk e38 (by decide) (g_nk e35 (by decide) (g_eq e32))))))))))))))  ) (by decide) (kS sM h381 kc_114) rfl rfl rfl (Nat.le_of_ble_eq_true rfl) (by decide) dX11_town_322 (fun w383 y382 => ?_)
                                show V x 0 0 w383 325 [(0, .ref (gz (xG x) + 114)), (1, .int 0), (2, .int i354)] []
                                have h385 := y382
                                have h386 := Ch.tr h381 h385 (by decide)
                                refine r_aload_n 0 C dX11_town_325 rfl ?_
                                refine gfX11_111 (v := 0) C (kS sM h386 kc_114) (h385.I (by decide) (g_nn e380 (by decide) (g_nn e377 (by decide) (g_nk e374 (by decide) (g_nk e371 (by decide) (g_nk e368 (by decide) (g_nk e365 (by decide) (h356.I (by decide) (h345.I (by decide) (h334.I (by decide) (g_nk e328 (by decide) (g_nk e324 (by decide) (g_nk e38 (by decide) (g_nk e35 (by decide) (g_nk e32 (by decide) (g_eq e29)))))))))))))))) dX11_town_326 ?_
                                refine r_aload_n 0 C dX11_town_329 rfl ?_
                                refine gfX11_118 (v := 0) C (kS sM h386 kc_114) (h385.I (by decide) (g_nn e380 (by decide) (g_nn e377 (by decide) (g_nk e374 (by decide) (g_nk e371 (by decide) (g_nk e368 (by decide) (g_nk e365 (by decide) (h356.I (by decide) (h345.I (by decide) (h334.I (by decide) (g_nk e328 (by decide) (g_nk e324 (by decide) (g_nk e38 (by decide) (g_nk e35 (by decide) (g_eq e32))))))))))))))) dX11_town_330 ?_
                                refine r_imul C dX11_town_333 (fun v387 e388 => ?_)
                                have k389 : (0 : Int32).toInt = 0 := by omega
                                have v387' := imul_ok e388 (by rw [k389]; omega) (by rw [k389]; omega)
                                rw [k389] at v387'
                                exact hret _ _ _ _ dX11_town_334 rfl ⟨h386, by omega⟩
                              · have c363' := i_nle c363
                                refine r_aload_n 0 C dX11_town_278 rfl ?_
                                refine callVI C cwX11_256_V (ctX11_firstFree_114 _ _ w355 (sS sM h361) (h356.I (by decide) (h345.I (by decide) (h334.I (by decide) (g_nk e328 (by decide) (g_nk e324 (by decide) (g_nk e38 (by decide) (g_nk e35 (by decide) (g_nk e32 (by decide) (g_eq e29))))))))) (h356.I (by decide) (h345.I (by decide) (h334.I (by decide) (g_nk e328 (by decide) (g_nk e324 (by decide) (g_nk e38 (by decide) (g_nk e35 (by decide) (g_eq e32))))))))  ) (by decide) (kS sM h361 kc_114) rfl rfl rfl (Nat.le_of_ble_eq_true rfl) (by decide) dX11_town_279 (fun r392 w391 y390 => ?_)
                                show V x 0 0 w391 282 [(0, .ref (gz (xG x) + 114)), (1, .int 0), (2, .int i354)] [.int r392, .ref (gz (xG x) + 114)]
                                obtain ⟨h393, g394⟩ := y390
                                have h395 := Ch.tr h361 h393 (by decide)
                                refine r_goto 289 C dX11_town_282 (by decide) ?_
                                refine pfX11_259 C (kS sM h395 kc_114) dX11_town_289 (fun w396 e397 => ?_)
                                have h398 := Ch.put h395 e397 (by decide)
                                refine r_aload_n 0 C dX11_town_292 rfl ?_
                                refine r_iconst (v := 0) C dX11_town_293 (by decide) ?_
                                refine pfX11_262 C (kS sM h398 kc_114) dX11_town_294 (fun w399 e400 => ?_)
                                have h401 := Ch.put h398 e400 (by decide)
                                refine r_aload_n 0 C dX11_town_297 rfl ?_
                                refine r_iconst (v := 0) C dX11_town_298 (by decide) ?_
                                refine pfX11_265 C (kS sM h401 kc_114) dX11_town_299 (fun w402 e403 => ?_)
                                have h404 := Ch.put h401 e403 (by decide)
                                refine r_aload_n 0 C dX11_town_302 rfl ?_
                                refine r_iconst (v := 0) C dX11_town_303 (by decide) ?_
                                refine pfX11_268 C (kS sM h404 kc_114) dX11_town_304 (fun w405 e406 => ?_)
                                have h407 := Ch.put h404 e406 (by decide)
                                refine r_aload_n 0 C dX11_town_307 rfl ?_
                                refine gfX11_107 144 C (kS sM h407 kc_114) (xS sM h407 xc_114_57) dX11_town_308 ?_
                                refine r_iconst (v := 0) C dX11_town_311 (by decide) ?_
                                refine r_iconst (v := 0) C dX11_town_312 (by decide) ?_
                                refine r_zast C (kS sM h407 kc_144) (vin (by omega) (by omega)) (nar_z (z_of (by omega))) dX11_town_313 (fun w408 e409 => ?_)
                                have h410 := Ch.put h407 e409 (by decide)
                                refine r_aload_n 0 C dX11_town_314 rfl ?_
                                refine gfX11_107 144 C (kS sM h410 kc_114) (xS sM h410 xc_114_57) dX11_town_315 ?_
                                refine r_iconst (v := 1) C dX11_town_318 (by decide) ?_
                                refine r_iconst (v := 0) C dX11_town_319 (by decide) ?_
                                refine r_zast C (kS sM h410 kc_144) (vin (by omega) (by omega)) (nar_z (z_of (by omega))) dX11_town_320 (fun w411 e412 => ?_)
                                have h413 := Ch.put h410 e412 (by decide)
                                refine r_aload_n 0 C dX11_town_321 rfl ?_
                                refine callVV C cwX11_271_V (ctX11_findFar_114 _ _ w411 (sS sM h413) (g_nn e412 (by decide) (g_nn e409 (by decide) (g_nk e406 (by decide) (g_nk e403 (by decide) (g_nk e400 (by decide) (g_nk e397 (by decide) (h393.I (by decide) (h356.I (by decide) (h345.I (by decide) (h334.I (by decide) (g_nk e328 (by decide) (g_nk e324 (by decide) (g_nk e38 (by decide) (g_nk e35 (by decide) (g_nk e32 (by decide) (g_eq e29)))))))))))))))) (g_nn e412 (by decide) (g_nn e409 (by decide) (g_nk e406 (by decide) (g_nk e403 (by decide) (g_nk e400 (by decide) (g_nk e397 (by decide) (h393.I (by decide) (h356.I (by decide) (h345.I (by decide) (h334.I (by decide) (g_nk e328 (by decide) (g_nk e324 (by decide) (g_nk e38 (by decide) (g_nk e35 (by decide) (g_eq e32)))))))))))))))  ) (by decide) (kS sM h413 kc_114) rfl rfl rfl (Nat.le_of_ble_eq_true rfl) (by decide) dX11_town_322 (fun w415 y414 => ?_)
                                show V x 0 0 w415 325 [(0, .ref (gz (xG x) + 114)), (1, .int 0), (2, .int i354)] []
                                have h417 := y414
                                have h418 := Ch.tr h413 h417 (by decide)
                                refine r_aload_n 0 C dX11_town_325 rfl ?_
                                refine gfX11_111 (v := 0) C (kS sM h418 kc_114) (h417.I (by decide) (g_nn e412 (by decide) (g_nn e409 (by decide) (g_nk e406 (by decide) (g_nk e403 (by decide) (g_nk e400 (by decide) (g_nk e397 (by decide) (h393.I (by decide) (h356.I (by decide) (h345.I (by decide) (h334.I (by decide) (g_nk e328 (by decide) (g_nk e324 (by decide) (g_nk e38 (by decide) (g_nk e35 (by decide) (g_nk e32 (by decide) (g_eq e29))))))))))))))))) dX11_town_326 ?_
                                refine r_aload_n 0 C dX11_town_329 rfl ?_
                                refine gfX11_118 (v := 0) C (kS sM h418 kc_114) (h417.I (by decide) (g_nn e412 (by decide) (g_nn e409 (by decide) (g_nk e406 (by decide) (g_nk e403 (by decide) (g_nk e400 (by decide) (g_nk e397 (by decide) (h393.I (by decide) (h356.I (by decide) (h345.I (by decide) (h334.I (by decide) (g_nk e328 (by decide) (g_nk e324 (by decide) (g_nk e38 (by decide) (g_nk e35 (by decide) (g_eq e32)))))))))))))))) dX11_town_330 ?_
                                refine r_imul C dX11_town_333 (fun v419 e420 => ?_)
                                have k421 : (0 : Int32).toInt = 0 := by omega
                                have v419' := imul_ok e420 (by rw [k421]; omega) (by rw [k421]; omega)
                                rw [k421] at v419'
                                exact hret _ _ _ _ dX11_town_334 rfl ⟨h418, by omega⟩
                            · have c362' := i_nle c362
                              refine r_aload_n 0 C dX11_town_240 rfl ?_
                              refine gfX11_25 120 C (kS sM h361 kc_114) (xS sM h361 xc_114_9) dX11_town_241 ?_
                              refine r_iload_n 2 C dX11_town_244 rfl ?_
                              refine r_aload_n 0 C dX11_town_245 rfl ?_
                              refine gfX11_71 132 C (kS sM h361 kc_114) (xS sM h361 xc_114_38) dX11_town_246 ?_
                              refine r_iload_n 2 C dX11_town_249 rfl ?_
                              refine r_iald C (kS sM h361 kc_132) (vin (by omega) (by omega)) dX11_town_250 ?_
                              generalize (wI w355 132 (i354).toNatClampNeg) = v422
                              refine r_iast C (kS sM h361 kc_120) (vin (by omega) (by omega)) dX11_town_251 (fun w423 e424 => ?_)
                              have h425 := Ch.put h361 e424 (by decide)
                              refine r_aload_n 0 C dX11_town_252 rfl ?_
                              refine gfX11_28 121 C (kS sM h425 kc_114) (xS sM h425 xc_114_10) dX11_town_253 ?_
                              refine r_iload_n 2 C dX11_town_256 rfl ?_
                              refine r_aload_n 0 C dX11_town_257 rfl ?_
                              refine gfX11_74 133 C (kS sM h425 kc_114) (xS sM h425 xc_114_39) dX11_town_258 ?_
                              refine r_iload_n 2 C dX11_town_261 rfl ?_
                              refine r_iald C (kS sM h425 kc_133) (vin (by omega) (by omega)) dX11_town_262 ?_
                              generalize (wI w423 133 (i354).toNatClampNeg) = v426
                              refine r_iast C (kS sM h425 kc_121) (vin (by omega) (by omega)) dX11_town_263 (fun w427 e428 => ?_)
                              have h429 := Ch.put h425 e428 (by decide)
                              obtain ⟨i430, e431⟩ : ∃ z : Int32, i354 + Int32.ofInt 1 = z := ⟨_, rfl⟩
                              have i430' := iinc_ok e431 (by decide) (by omega) (by omega)
                              refine r_iinc [(2, .int i430), (0, .ref (gz (xG x) + 114)), (1, .int 0)] 2 C dX11_town_264 rfl e431 (by decide) rfl ?_
                              refine r_goto 235 C dX11_town_267 (by decide) ?_
                              refine r_lv [1, 2, 0] rfl ?_
                              exact ih360 _ _ (Ch.put (Ch.put h356 e424 (by decide)) e428 (by decide)) (by omega) (by omega) (by omega)
                        refine r_lv [1, 2, 0] rfl ?_
                        exact LP352 4 _ _ Ch.rf (by omega) (by omega) (by omega)
                      · have c351' := i_nle c351
                        refine r_aload_n 0 C dX11_town_153 rfl ?_
                        refine gfX11_13 116 C (kS sM h350 kc_114) (xS sM h350 xc_114_4) dX11_town_154 ?_
                        refine r_iload_n 2 C dX11_town_157 rfl ?_
                        refine r_aload_n 0 C dX11_town_158 rfl ?_
                        refine gfX11_56 127 C (kS sM h350 kc_114) (xS sM h350 xc_114_32) dX11_town_159 ?_
                        refine r_iload_n 2 C dX11_town_162 rfl ?_
                        refine r_iald C (kS sM h350 kc_127) (vin (by omega) (by omega)) dX11_town_163 ?_
                        generalize (wI w344 127 (i343).toNatClampNeg) = v432
                        refine r_iast C (kS sM h350 kc_116) (vin (by omega) (by omega)) dX11_town_164 (fun w433 e434 => ?_)
                        have h435 := Ch.put h350 e434 (by decide)
                        refine r_aload_n 0 C dX11_town_165 rfl ?_
                        refine gfX11_16 117 C (kS sM h435 kc_114) (xS sM h435 xc_114_5) dX11_town_166 ?_
                        refine r_iload_n 2 C dX11_town_169 rfl ?_
                        refine r_aload_n 0 C dX11_town_170 rfl ?_
                        refine gfX11_62 129 C (kS sM h435 kc_114) (xS sM h435 xc_114_34) dX11_town_171 ?_
                        refine r_iload_n 2 C dX11_town_174 rfl ?_
                        refine r_iald C (kS sM h435 kc_129) (vin (by omega) (by omega)) dX11_town_175 ?_
                        generalize (wI w433 129 (i343).toNatClampNeg) = v436
                        refine r_iast C (kS sM h435 kc_117) (vin (by omega) (by omega)) dX11_town_176 (fun w437 e438 => ?_)
                        have h439 := Ch.put h435 e438 (by decide)
                        refine r_aload_n 0 C dX11_town_177 rfl ?_
                        refine gfX11_19 118 C (kS sM h439 kc_114) (xS sM h439 xc_114_6) dX11_town_178 ?_
                        refine r_iload_n 2 C dX11_town_181 rfl ?_
                        refine r_aload_n 0 C dX11_town_182 rfl ?_
                        refine gfX11_65 130 C (kS sM h439 kc_114) (xS sM h439 xc_114_35) dX11_town_183 ?_
                        refine r_iload_n 2 C dX11_town_186 rfl ?_
                        refine r_iald C (kS sM h439 kc_130) (vin (by omega) (by omega)) dX11_town_187 ?_
                        generalize (wI w437 130 (i343).toNatClampNeg) = v440
                        refine r_iast C (kS sM h439 kc_118) (vin (by omega) (by omega)) dX11_town_188 (fun w441 e442 => ?_)
                        have h443 := Ch.put h439 e442 (by decide)
                        refine r_aload_n 0 C dX11_town_189 rfl ?_
                        refine gfX11_22 119 C (kS sM h443 kc_114) (xS sM h443 xc_114_7) dX11_town_190 ?_
                        refine r_iload_n 2 C dX11_town_193 rfl ?_
                        refine r_aload_n 0 C dX11_town_194 rfl ?_
                        refine gfX11_68 131 C (kS sM h443 kc_114) (xS sM h443 xc_114_36) dX11_town_195 ?_
                        refine r_iload_n 2 C dX11_town_198 rfl ?_
                        refine r_iald C (kS sM h443 kc_131) (vin (by omega) (by omega)) dX11_town_199 ?_
                        generalize (wI w441 131 (i343).toNatClampNeg) = v444
                        refine r_iast C (kS sM h443 kc_119) (vin (by omega) (by omega)) dX11_town_200 (fun w445 e446 => ?_)
                        have h447 := Ch.put h443 e446 (by decide)
                        refine r_aload_n 0 C dX11_town_201 rfl ?_
                        refine gfX11_38 122 C (kS sM h447 kc_114) (xS sM h447 xc_114_14) dX11_town_202 ?_
                        refine r_iload_n 2 C dX11_town_205 rfl ?_
                        refine r_aload_n 0 C dX11_town_206 rfl ?_
                        refine gfX11_59 128 C (kS sM h447 kc_114) (xS sM h447 xc_114_33) dX11_town_207 ?_
                        refine r_iload_n 2 C dX11_town_210 rfl ?_
                        refine r_iald C (kS sM h447 kc_128) (vin (by omega) (by omega)) dX11_town_211 ?_
                        generalize (wI w445 128 (i343).toNatClampNeg) = v448
                        refine r_iast C (kS sM h447 kc_122) (vin (by omega) (by omega)) dX11_town_212 (fun w449 e450 => ?_)
                        have h451 := Ch.put h447 e450 (by decide)
                        refine r_aload_n 0 C dX11_town_213 rfl ?_
                        refine gfX11_41 123 C (kS sM h451 kc_114) (xS sM h451 xc_114_15) dX11_town_214 ?_
                        refine r_iload_n 2 C dX11_town_217 rfl ?_
                        refine r_iconst (v := (-1)) C dX11_town_218 (by decide) ?_
                        refine r_iast C (kS sM h451 kc_123) (vin (by omega) (by omega)) dX11_town_219 (fun w452 e453 => ?_)
                        have h454 := Ch.put h451 e453 (by decide)
                        refine r_aload_n 0 C dX11_town_220 rfl ?_
                        refine gfX11_44 124 C (kS sM h454 kc_114) (xS sM h454 xc_114_16) dX11_town_221 ?_
                        refine r_iload_n 2 C dX11_town_224 rfl ?_
                        refine r_iconst (v := 0) C dX11_town_225 (by decide) ?_
                        refine r_iast C (kS sM h454 kc_124) (vin (by omega) (by omega)) dX11_town_226 (fun w455 e456 => ?_)
                        have h457 := Ch.put h454 e456 (by decide)
                        obtain ⟨i458, e459⟩ : ∃ z : Int32, i343 + Int32.ofInt 1 = z := ⟨_, rfl⟩
                        have i458' := iinc_ok e459 (by decide) (by omega) (by omega)
                        refine r_iinc [(2, .int i458), (0, .ref (gz (xG x) + 114)), (1, .int 0)] 2 C dX11_town_227 rfl e459 (by decide) rfl ?_
                        refine r_goto 147 C dX11_town_230 (by decide) ?_
                        refine r_lv [1, 2, 0] rfl ?_
                        exact ih349 _ _ (Ch.put (Ch.put (Ch.put (Ch.put (Ch.put (Ch.put (Ch.put h345 e434 (by decide)) e438 (by decide)) e442 (by decide)) e446 (by decide)) e450 (by decide)) e453 (by decide)) e456 (by decide)) (by omega) (by omega) (by omega)
                  refine r_lv [1, 2, 0] rfl ?_
                  exact LP341 7 _ _ Ch.rf (by omega) (by omega) (by omega)
                · have c340' := i_nle c340
                  refine r_aload_n 0 C dX11_town_127 rfl ?_
                  refine gfX11_7 115 C (kS sM h339 kc_114) (xS sM h339 xc_114_2) dX11_town_128 ?_
                  refine r_iload_n 2 C dX11_town_131 rfl ?_
                  refine r_aload_n 0 C dX11_town_132 rfl ?_
                  refine gfX11_53 126 C (kS sM h339 kc_114) (xS sM h339 xc_114_29) dX11_town_133 ?_
                  refine r_iload_n 2 C dX11_town_136 rfl ?_
                  refine r_iald C (kS sM h339 kc_126) (vin (by omega) (by omega)) dX11_town_137 ?_
                  generalize (wI w333 126 (i332).toNatClampNeg) = v460
                  refine r_iast C (kS sM h339 kc_115) (vin (by omega) (by omega)) dX11_town_138 (fun w461 e462 => ?_)
                  have h463 := Ch.put h339 e462 (by decide)
                  obtain ⟨i464, e465⟩ : ∃ z : Int32, i332 + Int32.ofInt 1 = z := ⟨_, rfl⟩
                  have i464' := iinc_ok e465 (by decide) (by omega) (by omega)
                  refine r_iinc [(2, .int i464), (0, .ref (gz (xG x) + 114)), (1, .int 0)] 2 C dX11_town_139 rfl e465 (by decide) rfl ?_
                  refine r_goto 121 C dX11_town_142 (by decide) ?_
                  refine r_lv [1, 2, 0] rfl ?_
                  exact ih338 _ _ (Ch.put h334 e462 (by decide)) (by omega) (by omega) (by omega)
            refine r_lv [2, 1, 0] rfl ?_
            exact LP330 43 _ _ Ch.rf (by omega) (by omega) (by omega)
          · have c326' := i_nle c326
            refine r_iconst (v := 1) C dX11_town_108 (by decide) ?_
            refine r_goto 116 C dX11_town_109 (by decide) ?_
            refine pfX11_35 C (kS sM h325 kc_114) dX11_town_116 (fun w466 e467 => ?_)
            have h468 := Ch.put h325 e467 (by decide)
            refine r_iconst (v := 0) C dX11_town_119 (by decide) ?_
            refine r_istore_n [(2, .int 0), (1, .int 0), (0, .ref (gz (xG x) + 114))] C dX11_town_120 (by decide) rfl ?_
            have LP469 : ∀ (f470 : Nat) (i471 : Int32) (w472 : Wv), Ch [115] w466 w472 → 0 ≤ i471.toInt → i471.toInt ≤ 42 → 42 - i471.toInt < f470 → V x 0 0 w472 121 [(0, .ref (gz (xG x) + 114)), (1, .int 0), (2, .int i471)] [] := by
              intro f470
              induction f470 with
              | zero => intro i471 w472 h473 a474 a475  a476; exfalso; omega
              | succ f470 ih477 =>
                intro i471 w472 h473 a474 a475  a476
                have h478 := Ch.tr h468 h473 (by decide)
                refine r_iload_n 2 C dX11_town_121 rfl ?_
                refine r_bipush (v := 42) C dX11_town_122 (by decide) ?_
                refine r_icmp_ge 145 C dX11_town_124 (by decide) (fun c479 => ?_) (fun c479 => ?_)
                · have c479' := i_le c479
                  refine r_iconst (v := 0) C dX11_town_145 (by decide) ?_
                  refine r_istore_n [(2, .int 0), (0, .ref (gz (xG x) + 114)), (1, .int 0)] C dX11_town_146 (by decide) rfl ?_
                  have LP480 : ∀ (f481 : Nat) (i482 : Int32) (w483 : Wv), Ch [116, 117, 118, 119, 122, 123, 124] w472 w483 → 0 ≤ i482.toInt → i482.toInt ≤ 6 → 6 - i482.toInt < f481 → V x 0 0 w483 147 [(0, .ref (gz (xG x) + 114)), (1, .int 0), (2, .int i482)] [] := by
                    intro f481
                    induction f481 with
                    | zero => intro i482 w483 h484 a485 a486  a487; exfalso; omega
                    | succ f481 ih488 =>
                      intro i482 w483 h484 a485 a486  a487
                      have h489 := Ch.tr h478 h484 (by decide)
                      refine r_iload_n 2 C dX11_town_147 rfl ?_
                      refine r_bipush (v := 6) C dX11_town_148 (by decide) ?_
                      refine r_icmp_ge 233 C dX11_town_150 (by decide) (fun c490 => ?_) (fun c490 => ?_)
                      · have c490' := i_le c490
                        refine r_iconst (v := 0) C dX11_town_233 (by decide) ?_
                        refine r_istore_n [(2, .int 0), (0, .ref (gz (xG x) + 114)), (1, .int 0)] C dX11_town_234 (by decide) rfl ?_
                        have LP491 : ∀ (f492 : Nat) (i493 : Int32) (w494 : Wv), Ch [120, 121] w483 w494 → 0 ≤ i493.toInt → i493.toInt ≤ 3 → 3 - i493.toInt < f492 → V x 0 0 w494 235 [(0, .ref (gz (xG x) + 114)), (1, .int 0), (2, .int i493)] [] := by
                          intro f492
                          induction f492 with
                          | zero => intro i493 w494 h495 a496 a497  a498; exfalso; omega
                          | succ f492 ih499 =>
                            intro i493 w494 h495 a496 a497  a498
                            have h500 := Ch.tr h489 h495 (by decide)
                            refine r_iload_n 2 C dX11_town_235 rfl ?_
                            refine r_iconst (v := 3) C dX11_town_236 (by decide) ?_
                            refine r_icmp_ge 270 C dX11_town_237 (by decide) (fun c501 => ?_) (fun c501 => ?_)
                            · have c501' := i_le c501
                              refine r_aload_n 0 C dX11_town_270 rfl ?_
                              refine r_aload_n 0 C dX11_town_271 rfl ?_
                              refine gfX11_188 (v := (wI w8 114 40)) C (kS sM h500 kc_114) (h495.I (by decide) (h484.I (by decide) (h473.I (by decide) (g_nk e467 (by decide) (g_nk e324 (by decide) (g_nk e38 (by decide) (g_nk e35 (by decide) (g_nk e32 (by decide) (g_nk e29 (by decide) (g_nk e25 (by decide) (h20.I (by decide) rfl))))))))))) dX11_town_272 ?_
                              refine r_if_ge 285 C dX11_town_275 (by decide) (fun c502 => ?_) (fun c502 => ?_)
                              · have c502' := i_le c502
                                refine r_aload_n 0 C dX11_town_285 rfl ?_
                                refine gfX11_188 (v := (wI w8 114 40)) C (kS sM h500 kc_114) (h495.I (by decide) (h484.I (by decide) (h473.I (by decide) (g_nk e467 (by decide) (g_nk e324 (by decide) (g_nk e38 (by decide) (g_nk e35 (by decide) (g_nk e32 (by decide) (g_nk e29 (by decide) (g_nk e25 (by decide) (h20.I (by decide) rfl))))))))))) dX11_town_286 ?_
                                refine pfX11_259 C (kS sM h500 kc_114) dX11_town_289 (fun w503 e504 => ?_)
                                have h505 := Ch.put h500 e504 (by decide)
                                refine r_aload_n 0 C dX11_town_292 rfl ?_
                                refine r_iconst (v := 0) C dX11_town_293 (by decide) ?_
                                refine pfX11_262 C (kS sM h505 kc_114) dX11_town_294 (fun w506 e507 => ?_)
                                have h508 := Ch.put h505 e507 (by decide)
                                refine r_aload_n 0 C dX11_town_297 rfl ?_
                                refine r_iconst (v := 0) C dX11_town_298 (by decide) ?_
                                refine pfX11_265 C (kS sM h508 kc_114) dX11_town_299 (fun w509 e510 => ?_)
                                have h511 := Ch.put h508 e510 (by decide)
                                refine r_aload_n 0 C dX11_town_302 rfl ?_
                                refine r_iconst (v := 0) C dX11_town_303 (by decide) ?_
                                refine pfX11_268 C (kS sM h511 kc_114) dX11_town_304 (fun w512 e513 => ?_)
                                have h514 := Ch.put h511 e513 (by decide)
                                refine r_aload_n 0 C dX11_town_307 rfl ?_
                                refine gfX11_107 144 C (kS sM h514 kc_114) (xS sM h514 xc_114_57) dX11_town_308 ?_
                                refine r_iconst (v := 0) C dX11_town_311 (by decide) ?_
                                refine r_iconst (v := 0) C dX11_town_312 (by decide) ?_
                                refine r_zast C (kS sM h514 kc_144) (vin (by omega) (by omega)) (nar_z (z_of (by omega))) dX11_town_313 (fun w515 e516 => ?_)
                                have h517 := Ch.put h514 e516 (by decide)
                                refine r_aload_n 0 C dX11_town_314 rfl ?_
                                refine gfX11_107 144 C (kS sM h517 kc_114) (xS sM h517 xc_114_57) dX11_town_315 ?_
                                refine r_iconst (v := 1) C dX11_town_318 (by decide) ?_
                                refine r_iconst (v := 0) C dX11_town_319 (by decide) ?_
                                refine r_zast C (kS sM h517 kc_144) (vin (by omega) (by omega)) (nar_z (z_of (by omega))) dX11_town_320 (fun w518 e519 => ?_)
                                have h520 := Ch.put h517 e519 (by decide)
                                refine r_aload_n 0 C dX11_town_321 rfl ?_
                                refine callVV C cwX11_271_V (ctX11_findFar_114 _ _ w518 (sS sM h520) (g_nn e519 (by decide) (g_nn e516 (by decide) (g_nk e513 (by decide) (g_nk e510 (by decide) (g_nk e507 (by decide) (g_nk e504 (by decide) (h495.I (by decide) (h484.I (by decide) (h473.I (by decide) (g_nk e467 (by decide) (g_nk e324 (by decide) (g_nk e38 (by decide) (g_nk e35 (by decide) (g_nk e32 (by decide) (g_eq e29))))))))))))))) (g_nn e519 (by decide) (g_nn e516 (by decide) (g_nk e513 (by decide) (g_nk e510 (by decide) (g_nk e507 (by decide) (g_nk e504 (by decide) (h495.I (by decide) (h484.I (by decide) (h473.I (by decide) (g_nk e467 (by decide) (g_nk e324 (by decide) (g_nk e38 (by decide) (g_nk e35 (by decide) (g_eq e32))))))))))))))  ) (by decide) (kS sM h520 kc_114) rfl rfl rfl (Nat.le_of_ble_eq_true rfl) (by decide) dX11_town_322 (fun w522 y521 => ?_)
                                show V x 0 0 w522 325 [(0, .ref (gz (xG x) + 114)), (1, .int 0), (2, .int i493)] []
                                have h524 := y521
                                have h525 := Ch.tr h520 h524 (by decide)
                                refine r_aload_n 0 C dX11_town_325 rfl ?_
                                refine gfX11_111 (v := 0) C (kS sM h525 kc_114) (h524.I (by decide) (g_nn e519 (by decide) (g_nn e516 (by decide) (g_nk e513 (by decide) (g_nk e510 (by decide) (g_nk e507 (by decide) (g_nk e504 (by decide) (h495.I (by decide) (h484.I (by decide) (h473.I (by decide) (g_nk e467 (by decide) (g_nk e324 (by decide) (g_nk e38 (by decide) (g_nk e35 (by decide) (g_nk e32 (by decide) (g_eq e29)))))))))))))))) dX11_town_326 ?_
                                refine r_aload_n 0 C dX11_town_329 rfl ?_
                                refine gfX11_118 (v := 0) C (kS sM h525 kc_114) (h524.I (by decide) (g_nn e519 (by decide) (g_nn e516 (by decide) (g_nk e513 (by decide) (g_nk e510 (by decide) (g_nk e507 (by decide) (g_nk e504 (by decide) (h495.I (by decide) (h484.I (by decide) (h473.I (by decide) (g_nk e467 (by decide) (g_nk e324 (by decide) (g_nk e38 (by decide) (g_nk e35 (by decide) (g_eq e32))))))))))))))) dX11_town_330 ?_
                                refine r_imul C dX11_town_333 (fun v526 e527 => ?_)
                                have k528 : (0 : Int32).toInt = 0 := by omega
                                have v526' := imul_ok e527 (by rw [k528]; omega) (by rw [k528]; omega)
                                rw [k528] at v526'
                                exact hret _ _ _ _ dX11_town_334 rfl ⟨h525, by omega⟩
                              · have c502' := i_nle c502
                                refine r_aload_n 0 C dX11_town_278 rfl ?_
                                refine callVI C cwX11_256_V (ctX11_firstFree_114 _ _ w494 (sS sM h500) (h495.I (by decide) (h484.I (by decide) (h473.I (by decide) (g_nk e467 (by decide) (g_nk e324 (by decide) (g_nk e38 (by decide) (g_nk e35 (by decide) (g_nk e32 (by decide) (g_eq e29))))))))) (h495.I (by decide) (h484.I (by decide) (h473.I (by decide) (g_nk e467 (by decide) (g_nk e324 (by decide) (g_nk e38 (by decide) (g_nk e35 (by decide) (g_eq e32))))))))  ) (by decide) (kS sM h500 kc_114) rfl rfl rfl (Nat.le_of_ble_eq_true rfl) (by decide) dX11_town_279 (fun r531 w530 y529 => ?_)
                                show V x 0 0 w530 282 [(0, .ref (gz (xG x) + 114)), (1, .int 0), (2, .int i493)] [.int r531, .ref (gz (xG x) + 114)]
                                obtain ⟨h532, g533⟩ := y529
                                have h534 := Ch.tr h500 h532 (by decide)
                                refine r_goto 289 C dX11_town_282 (by decide) ?_
                                refine pfX11_259 C (kS sM h534 kc_114) dX11_town_289 (fun w535 e536 => ?_)
                                have h537 := Ch.put h534 e536 (by decide)
                                refine r_aload_n 0 C dX11_town_292 rfl ?_
                                refine r_iconst (v := 0) C dX11_town_293 (by decide) ?_
                                refine pfX11_262 C (kS sM h537 kc_114) dX11_town_294 (fun w538 e539 => ?_)
                                have h540 := Ch.put h537 e539 (by decide)
                                refine r_aload_n 0 C dX11_town_297 rfl ?_
                                refine r_iconst (v := 0) C dX11_town_298 (by decide) ?_
                                refine pfX11_265 C (kS sM h540 kc_114) dX11_town_299 (fun w541 e542 => ?_)
                                have h543 := Ch.put h540 e542 (by decide)
                                refine r_aload_n 0 C dX11_town_302 rfl ?_
                                refine r_iconst (v := 0) C dX11_town_303 (by decide) ?_
                                refine pfX11_268 C (kS sM h543 kc_114) dX11_town_304 (fun w544 e545 => ?_)
                                have h546 := Ch.put h543 e545 (by decide)
                                refine r_aload_n 0 C dX11_town_307 rfl ?_
                                refine gfX11_107 144 C (kS sM h546 kc_114) (xS sM h546 xc_114_57) dX11_town_308 ?_
                                refine r_iconst (v := 0) C dX11_town_311 (by decide) ?_
                                refine r_iconst (v := 0) C dX11_town_312 (by decide) ?_
                                refine r_zast C (kS sM h546 kc_144) (vin (by omega) (by omega)) (nar_z (z_of (by omega))) dX11_town_313 (fun w547 e548 => ?_)
                                have h549 := Ch.put h546 e548 (by decide)
                                refine r_aload_n 0 C dX11_town_314 rfl ?_
                                refine gfX11_107 144 C (kS sM h549 kc_114) (xS sM h549 xc_114_57) dX11_town_315 ?_
                                refine r_iconst (v := 1) C dX11_town_318 (by decide) ?_
                                refine r_iconst (v := 0) C dX11_town_319 (by decide) ?_
                                refine r_zast C (kS sM h549 kc_144) (vin (by omega) (by omega)) (nar_z (z_of (by omega))) dX11_town_320 (fun w550 e551 => ?_)
                                have h552 := Ch.put h549 e551 (by decide)
                                refine r_aload_n 0 C dX11_town_321 rfl ?_
                                refine callVV C cwX11_271_V (ctX11_findFar_114 _ _ w550 (sS sM h552) (g_nn e551 (by decide) (g_nn e548 (by decide) (g_nk e545 (by decide) (g_nk e542 (by decide) (g_nk e539 (by decide) (g_nk e536 (by decide) (h532.I (by decide) (h495.I (by decide) (h484.I (by decide) (h473.I (by decide) (g_nk e467 (by decide) (g_nk e324 (by decide) (g_nk e38 (by decide) (g_nk e35 (by decide) (g_nk e32 (by decide) (g_eq e29)))))))))))))))) (g_nn e551 (by decide) (g_nn e548 (by decide) (g_nk e545 (by decide) (g_nk e542 (by decide) (g_nk e539 (by decide) (g_nk e536 (by decide) (h532.I (by decide) (h495.I (by decide) (h484.I (by decide) (h473.I (by decide) (g_nk e467 (by decide) (g_nk e324 (by decide) (g_nk e38 (by decide) (g_nk e35 (by decide) (g_eq e32)))))))))))))))  ) (by decide) (kS sM h552 kc_114) rfl rfl rfl (Nat.le_of_ble_eq_true rfl) (by decide) dX11_town_322 (fun w554 y553 => ?_)
                                show V x 0 0 w554 325 [(0, .ref (gz (xG x) + 114)), (1, .int 0), (2, .int i493)] []
                                have h556 := y553
                                have h557 := Ch.tr h552 h556 (by decide)
                                refine r_aload_n 0 C dX11_town_325 rfl ?_
                                refine gfX11_111 (v := 0) C (kS sM h557 kc_114) (h556.I (by decide) (g_nn e551 (by decide) (g_nn e548 (by decide) (g_nk e545 (by decide) (g_nk e542 (by decide) (g_nk e539 (by decide) (g_nk e536 (by decide) (h532.I (by decide) (h495.I (by decide) (h484.I (by decide) (h473.I (by decide) (g_nk e467 (by decide) (g_nk e324 (by decide) (g_nk e38 (by decide) (g_nk e35 (by decide) (g_nk e32 (by decide) (g_eq e29))))))))))))))))) dX11_town_326 ?_
                                refine r_aload_n 0 C dX11_town_329 rfl ?_
                                refine gfX11_118 (v := 0) C (kS sM h557 kc_114) (h556.I (by decide) (g_nn e551 (by decide) (g_nn e548 (by decide) (g_nk e545 (by decide) (g_nk e542 (by decide) (g_nk e539 (by decide) (g_nk e536 (by decide) (h532.I (by decide) (h495.I (by decide) (h484.I (by decide) (h473.I (by decide) (g_nk e467 (by decide) (g_nk e324 (by decide) (g_nk e38 (by decide) (g_nk e35 (by decide) (g_eq e32)))))))))))))))) dX11_town_330 ?_
                                refine r_imul C dX11_town_333 (fun v558 e559 => ?_)
                                have k560 : (0 : Int32).toInt = 0 := by omega
                                have v558' := imul_ok e559 (by rw [k560]; omega) (by rw [k560]; omega)
                                rw [k560] at v558'
                                exact hret _ _ _ _ dX11_town_334 rfl ⟨h557, by omega⟩
                            · have c501' := i_nle c501
                              refine r_aload_n 0 C dX11_town_240 rfl ?_
                              refine gfX11_25 120 C (kS sM h500 kc_114) (xS sM h500 xc_114_9) dX11_town_241 ?_
                              refine r_iload_n 2 C dX11_town_244 rfl ?_
                              refine r_aload_n 0 C dX11_town_245 rfl ?_
                              refine gfX11_71 132 C (kS sM h500 kc_114) (xS sM h500 xc_114_38) dX11_town_246 ?_
                              refine r_iload_n 2 C dX11_town_249 rfl ?_
                              refine r_iald C (kS sM h500 kc_132) (vin (by omega) (by omega)) dX11_town_250 ?_
                              generalize (wI w494 132 (i493).toNatClampNeg) = v561
                              refine r_iast C (kS sM h500 kc_120) (vin (by omega) (by omega)) dX11_town_251 (fun w562 e563 => ?_)
                              have h564 := Ch.put h500 e563 (by decide)
                              refine r_aload_n 0 C dX11_town_252 rfl ?_
                              refine gfX11_28 121 C (kS sM h564 kc_114) (xS sM h564 xc_114_10) dX11_town_253 ?_
                              refine r_iload_n 2 C dX11_town_256 rfl ?_
                              refine r_aload_n 0 C dX11_town_257 rfl ?_
                              refine gfX11_74 133 C (kS sM h564 kc_114) (xS sM h564 xc_114_39) dX11_town_258 ?_
                              refine r_iload_n 2 C dX11_town_261 rfl ?_
                              refine r_iald C (kS sM h564 kc_133) (vin (by omega) (by omega)) dX11_town_262 ?_
                              generalize (wI w562 133 (i493).toNatClampNeg) = v565
                              refine r_iast C (kS sM h564 kc_121) (vin (by omega) (by omega)) dX11_town_263 (fun w566 e567 => ?_)
                              have h568 := Ch.put h564 e567 (by decide)
                              obtain ⟨i569, e570⟩ : ∃ z : Int32, i493 + Int32.ofInt 1 = z := ⟨_, rfl⟩
                              have i569' := iinc_ok e570 (by decide) (by omega) (by omega)
                              refine r_iinc [(2, .int i569), (0, .ref (gz (xG x) + 114)), (1, .int 0)] 2 C dX11_town_264 rfl e570 (by decide) rfl ?_
                              refine r_goto 235 C dX11_town_267 (by decide) ?_
                              refine r_lv [1, 2, 0] rfl ?_
                              exact ih499 _ _ (Ch.put (Ch.put h495 e563 (by decide)) e567 (by decide)) (by omega) (by omega) (by omega)
                        refine r_lv [1, 2, 0] rfl ?_
                        exact LP491 4 _ _ Ch.rf (by omega) (by omega) (by omega)
                      · have c490' := i_nle c490
                        refine r_aload_n 0 C dX11_town_153 rfl ?_
                        refine gfX11_13 116 C (kS sM h489 kc_114) (xS sM h489 xc_114_4) dX11_town_154 ?_
                        refine r_iload_n 2 C dX11_town_157 rfl ?_
                        refine r_aload_n 0 C dX11_town_158 rfl ?_
                        refine gfX11_56 127 C (kS sM h489 kc_114) (xS sM h489 xc_114_32) dX11_town_159 ?_
                        refine r_iload_n 2 C dX11_town_162 rfl ?_
                        refine r_iald C (kS sM h489 kc_127) (vin (by omega) (by omega)) dX11_town_163 ?_
                        generalize (wI w483 127 (i482).toNatClampNeg) = v571
                        refine r_iast C (kS sM h489 kc_116) (vin (by omega) (by omega)) dX11_town_164 (fun w572 e573 => ?_)
                        have h574 := Ch.put h489 e573 (by decide)
                        refine r_aload_n 0 C dX11_town_165 rfl ?_
                        refine gfX11_16 117 C (kS sM h574 kc_114) (xS sM h574 xc_114_5) dX11_town_166 ?_
                        refine r_iload_n 2 C dX11_town_169 rfl ?_
                        refine r_aload_n 0 C dX11_town_170 rfl ?_
                        refine gfX11_62 129 C (kS sM h574 kc_114) (xS sM h574 xc_114_34) dX11_town_171 ?_
                        refine r_iload_n 2 C dX11_town_174 rfl ?_
                        refine r_iald C (kS sM h574 kc_129) (vin (by omega) (by omega)) dX11_town_175 ?_
                        generalize (wI w572 129 (i482).toNatClampNeg) = v575
                        refine r_iast C (kS sM h574 kc_117) (vin (by omega) (by omega)) dX11_town_176 (fun w576 e577 => ?_)
                        have h578 := Ch.put h574 e577 (by decide)
                        refine r_aload_n 0 C dX11_town_177 rfl ?_
                        refine gfX11_19 118 C (kS sM h578 kc_114) (xS sM h578 xc_114_6) dX11_town_178 ?_
                        refine r_iload_n 2 C dX11_town_181 rfl ?_
                        refine r_aload_n 0 C dX11_town_182 rfl ?_
                        refine gfX11_65 130 C (kS sM h578 kc_114) (xS sM h578 xc_114_35) dX11_town_183 ?_
                        refine r_iload_n 2 C dX11_town_186 rfl ?_
                        refine r_iald C (kS sM h578 kc_130) (vin (by omega) (by omega)) dX11_town_187 ?_
                        generalize (wI w576 130 (i482).toNatClampNeg) = v579
                        refine r_iast C (kS sM h578 kc_118) (vin (by omega) (by omega)) dX11_town_188 (fun w580 e581 => ?_)
                        have h582 := Ch.put h578 e581 (by decide)
                        refine r_aload_n 0 C dX11_town_189 rfl ?_
                        refine gfX11_22 119 C (kS sM h582 kc_114) (xS sM h582 xc_114_7) dX11_town_190 ?_
                        refine r_iload_n 2 C dX11_town_193 rfl ?_
                        refine r_aload_n 0 C dX11_town_194 rfl ?_
                        refine gfX11_68 131 C (kS sM h582 kc_114) (xS sM h582 xc_114_36) dX11_town_195 ?_
                        refine r_iload_n 2 C dX11_town_198 rfl ?_
                        refine r_iald C (kS sM h582 kc_131) (vin (by omega) (by omega)) dX11_town_199 ?_
                        generalize (wI w580 131 (i482).toNatClampNeg) = v583
                        refine r_iast C (kS sM h582 kc_119) (vin (by omega) (by omega)) dX11_town_200 (fun w584 e585 => ?_)
                        have h586 := Ch.put h582 e585 (by decide)
                        refine r_aload_n 0 C dX11_town_201 rfl ?_
                        refine gfX11_38 122 C (kS sM h586 kc_114) (xS sM h586 xc_114_14) dX11_town_202 ?_
                        refine r_iload_n 2 C dX11_town_205 rfl ?_
                        refine r_aload_n 0 C dX11_town_206 rfl ?_
                        refine gfX11_59 128 C (kS sM h586 kc_114) (xS sM h586 xc_114_33) dX11_town_207 ?_
                        refine r_iload_n 2 C dX11_town_210 rfl ?_
                        refine r_iald C (kS sM h586 kc_128) (vin (by omega) (by omega)) dX11_town_211 ?_
                        generalize (wI w584 128 (i482).toNatClampNeg) = v587
                        refine r_iast C (kS sM h586 kc_122) (vin (by omega) (by omega)) dX11_town_212 (fun w588 e589 => ?_)
                        have h590 := Ch.put h586 e589 (by decide)
                        refine r_aload_n 0 C dX11_town_213 rfl ?_
                        refine gfX11_41 123 C (kS sM h590 kc_114) (xS sM h590 xc_114_15) dX11_town_214 ?_
                        refine r_iload_n 2 C dX11_town_217 rfl ?_
                        refine r_iconst (v := (-1)) C dX11_town_218 (by decide) ?_
                        refine r_iast C (kS sM h590 kc_123) (vin (by omega) (by omega)) dX11_town_219 (fun w591 e592 => ?_)
                        have h593 := Ch.put h590 e592 (by decide)
                        refine r_aload_n 0 C dX11_town_220 rfl ?_
                        refine gfX11_44 124 C (kS sM h593 kc_114) (xS sM h593 xc_114_16) dX11_town_221 ?_
                        refine r_iload_n 2 C dX11_town_224 rfl ?_
                        refine r_iconst (v := 0) C dX11_town_225 (by decide) ?_
                        refine r_iast C (kS sM h593 kc_124) (vin (by omega) (by omega)) dX11_town_226 (fun w594 e595 => ?_)
                        have h596 := Ch.put h593 e595 (by decide)
                        obtain ⟨i597, e598⟩ : ∃ z : Int32, i482 + Int32.ofInt 1 = z := ⟨_, rfl⟩
                        have i597' := iinc_ok e598 (by decide) (by omega) (by omega)
                        refine r_iinc [(2, .int i597), (0, .ref (gz (xG x) + 114)), (1, .int 0)] 2 C dX11_town_227 rfl e598 (by decide) rfl ?_
                        refine r_goto 147 C dX11_town_230 (by decide) ?_
                        refine r_lv [1, 2, 0] rfl ?_
                        exact ih488 _ _ (Ch.put (Ch.put (Ch.put (Ch.put (Ch.put (Ch.put (Ch.put h484 e573 (by decide)) e577 (by decide)) e581 (by decide)) e585 (by decide)) e589 (by decide)) e592 (by decide)) e595 (by decide)) (by omega) (by omega) (by omega)
                  refine r_lv [1, 2, 0] rfl ?_
                  exact LP480 7 _ _ Ch.rf (by omega) (by omega) (by omega)
                · have c479' := i_nle c479
                  refine r_aload_n 0 C dX11_town_127 rfl ?_
                  refine gfX11_7 115 C (kS sM h478 kc_114) (xS sM h478 xc_114_2) dX11_town_128 ?_
                  refine r_iload_n 2 C dX11_town_131 rfl ?_
                  refine r_aload_n 0 C dX11_town_132 rfl ?_
                  refine gfX11_53 126 C (kS sM h478 kc_114) (xS sM h478 xc_114_29) dX11_town_133 ?_
                  refine r_iload_n 2 C dX11_town_136 rfl ?_
                  refine r_iald C (kS sM h478 kc_126) (vin (by omega) (by omega)) dX11_town_137 ?_
                  generalize (wI w472 126 (i471).toNatClampNeg) = v599
                  refine r_iast C (kS sM h478 kc_115) (vin (by omega) (by omega)) dX11_town_138 (fun w600 e601 => ?_)
                  have h602 := Ch.put h478 e601 (by decide)
                  obtain ⟨i603, e604⟩ : ∃ z : Int32, i471 + Int32.ofInt 1 = z := ⟨_, rfl⟩
                  have i603' := iinc_ok e604 (by decide) (by omega) (by omega)
                  refine r_iinc [(2, .int i603), (0, .ref (gz (xG x) + 114)), (1, .int 0)] 2 C dX11_town_139 rfl e604 (by decide) rfl ?_
                  refine r_goto 121 C dX11_town_142 (by decide) ?_
                  refine r_lv [1, 2, 0] rfl ?_
                  exact ih477 _ _ (Ch.put h473 e601 (by decide)) (by omega) (by omega) (by omega)
            refine r_lv [2, 1, 0] rfl ?_
            exact LP469 43 _ _ Ch.rf (by omega) (by omega) (by omega)
      · have c27' := i_nle c27
        exfalso; omega
    · have c23' := i_nlt c23
      exfalso; omega
set_option maxHeartbeats 4000000 in
set_option maxRecDepth 100000 in
theorem ctX11_fault_114 (l : Launch) (G : Gt) (w : Wv) (sM : Str KM XM w) (p0 : wI w 114 21 = (-1)) : CtI l G yX11_fault cX11_fault 1 .int ({ frames := 0, cells := 0, slots := 0, locals := 0 } : Room) [.ref (gz G + 114)] w (fun r w' => Ch [] w w' ∧ (r.toInt = -1)) := by
  refine enterI (by decide) (Nat.le_of_ble_eq_true rfl) ?_
  intro x el eG C hret
  subst el; subst eG
  show V x 0 0 w 0 [(0, .ref (gz (xG x) + 114))] []
  have h0 : Ch [] w w := Ch.rf
  have qm1 : ((-1) : Int32).toInt = (-1) := by decide
  refine r_aload_n 0 C dX11_fault_0 rfl ?_
  refine gfX11_50 (v := (-1)) C (kS sM h0 kc_114) p0 dX11_fault_1 ?_
  exact hret _ _ _ _ dX11_fault_4 rfl ⟨h0, by omega⟩
set_option maxHeartbeats 4000000 in
set_option maxRecDepth 100000 in
theorem ctX11_headsBy_114 (l : Launch) (G : Gt) (w : Wv) (sM : Str KM XM w) (p0 : wI w 114 3 = 0) (a1 : Int32) (a2 : Int32) : CtI l G yX11_headsBy cX11_headsBy 5 .int ({ frames := 0, cells := 0, slots := 0, locals := 0 } : Room) [.ref (gz G + 114), .int a1, .int a2] w (fun r w' => Ch [] w w' ∧ (r.toInt = 0)) := by
  refine enterI (by decide) (Nat.le_of_ble_eq_true rfl) ?_
  intro x el eG C hret
  subst el; subst eG
  show V x 0 0 w 0 [(0, .ref (gz (xG x) + 114)), (1, .int a1), (2, .int a2)] []
  have h0 : Ch [] w w := Ch.rf
  have q0 : (0 : Int32).toInt = 0 := by decide
  refine r_iconst (v := 0) C dX11_headsBy_0 (by decide) ?_
  refine r_istore_n [(3, .int 0), (0, .ref (gz (xG x) + 114)), (1, .int a1), (2, .int a2)] C dX11_headsBy_1 (by decide) rfl ?_
  refine r_iconst (v := 0) C dX11_headsBy_2 (by decide) ?_
  refine r_istore [(4, .int 0), (3, .int 0), (0, .ref (gz (xG x) + 114)), (1, .int a1), (2, .int a2)] C dX11_headsBy_3 (by decide) rfl ?_
  refine r_iload 0 C dX11_headsBy_5 rfl ?_
  refine r_aload_n 2 C dX11_headsBy_7 rfl ?_
  refine gfX11_121 (v := 0) C (kS sM h0 kc_114) p0 dX11_headsBy_8 ?_
  refine r_icmp_ge 60 C dX11_headsBy_11 (by decide) (fun c1 => ?_) (fun c1 => ?_)
  · have c1' := i_le c1
    refine r_iload_n 1 C dX11_headsBy_60 rfl ?_
    exact hret _ _ _ _ dX11_headsBy_61 rfl ⟨h0, by omega⟩
  · have c1' := i_nle c1
    exfalso; omega
set_option maxHeartbeats 4000000 in
set_option maxRecDepth 100000 in
theorem ctX11_allHeads_114 (l : Launch) (G : Gt) (w : Wv) (sM : Str KM XM w) (p0 : wI w 114 3 = 0) : CtI l G yX11_allHeads cX11_allHeads 3 .int ({ frames := 0, cells := 0, slots := 0, locals := 0 } : Room) [.ref (gz G + 114)] w (fun r w' => Ch [] w w' ∧ (r.toInt = 0)) := by
  refine enterI (by decide) (Nat.le_of_ble_eq_true rfl) ?_
  intro x el eG C hret
  subst el; subst eG
  show V x 0 0 w 0 [(0, .ref (gz (xG x) + 114))] []
  have h0 : Ch [] w w := Ch.rf
  have q0 : (0 : Int32).toInt = 0 := by decide
  refine r_iconst (v := 0) C dX11_allHeads_0 (by decide) ?_
  refine r_istore_n [(1, .int 0), (0, .ref (gz (xG x) + 114))] C dX11_allHeads_1 (by decide) rfl ?_
  refine r_iconst (v := 0) C dX11_allHeads_2 (by decide) ?_
  refine r_istore_n [(2, .int 0), (1, .int 0), (0, .ref (gz (xG x) + 114))] C dX11_allHeads_3 (by decide) rfl ?_
  refine r_iload_n 0 C dX11_allHeads_4 rfl ?_
  refine r_aload_n 2 C dX11_allHeads_5 rfl ?_
  refine gfX11_121 (v := 0) C (kS sM h0 kc_114) p0 dX11_allHeads_6 ?_
  refine r_icmp_ge 27 C dX11_allHeads_9 (by decide) (fun c1 => ?_) (fun c1 => ?_)
  · have c1' := i_le c1
    refine r_iload_n 1 C dX11_allHeads_27 rfl ?_
    exact hret _ _ _ _ dX11_allHeads_28 rfl ⟨h0, by omega⟩
  · have c1' := i_nle c1
    exfalso; omega
set_option maxHeartbeats 4000000 in
set_option maxRecDepth 100000 in
theorem ctX11_worth_114 (l : Launch) (G : Gt) (w : Wv) (sM : Str KM XM w) (p0 : wI w 114 3 = 0) : CtI l G yX11_worth cX11_worth 1 .int ({ frames := 1, cells := 0, slots := 0, locals := 24 } : Room) [.ref (gz G + 114)] w (fun r w' => Ch [] w w' ∧ (r.toInt = 0)) := by
  refine enterI (by decide) (Nat.le_of_ble_eq_true rfl) ?_
  intro x el eG C hret
  subst el; subst eG
  show V x 0 0 w 0 [(0, .ref (gz (xG x) + 114))] []
  have h0 : Ch [] w w := Ch.rf
  have qm1 : ((-1) : Int32).toInt = (-1) := by decide
  have q0 : (0 : Int32).toInt = 0 := by decide
  have q1 : (1 : Int32).toInt = 1 := by decide
  have q2 : (2 : Int32).toInt = 2 := by decide
  refine r_aload_n 0 C dX11_worth_0 rfl ?_
  refine gfX11_31 (v := (wI w 114 11)) C (kS sM h0 kc_114) rfl dX11_worth_1 ?_
  refine r_aload_n 0 C dX11_worth_4 rfl ?_
  refine r_iconst (v := (-1)) C dX11_worth_5 (by decide) ?_
  refine r_iconst (v := 1) C dX11_worth_6 (by decide) ?_
  refine callVI C cwX11_289_V (ctX11_headsBy_114 _ _ w (sS sM h0) p0 (-1) 1 ) (by decide) (kS sM h0 kc_114) rfl rfl rfl (Nat.le_of_ble_eq_true rfl) (by decide) dX11_worth_7 (fun r3 w2 y1 => ?_)
  show V x 0 0 w2 10 [(0, .ref (gz (xG x) + 114))] [.int r3, .int (wI w 114 11)]
  obtain ⟨h4, g5⟩ := y1
  have h6 := Ch.tr h0 h4 (by decide)
  refine r_imul C dX11_worth_10 (fun v7 e8 => ?_)
  have k9 : (r3 : Int32).toInt = 0 := by omega
  have v7' := imul_ok e8 (by rw [k9]; omega) (by rw [k9]; omega)
  rw [k9] at v7'
  refine r_aload_n 0 C dX11_worth_11 rfl ?_
  refine gfX11_35 (v := (wI w 114 12)) C (kS sM h6 kc_114) (h4.I (by decide) rfl) dX11_worth_12 ?_
  refine r_aload_n 0 C dX11_worth_15 rfl ?_
  refine r_iconst (v := (-1)) C dX11_worth_16 (by decide) ?_
  refine r_iconst (v := 2) C dX11_worth_17 (by decide) ?_
  refine callVI C cwX11_289_V (ctX11_headsBy_114 _ _ w2 (sS sM h6) (h4.I (by decide) p0) (-1) 2 ) (by decide) (kS sM h6 kc_114) rfl rfl rfl (Nat.le_of_ble_eq_true rfl) (by decide) dX11_worth_18 (fun r12 w11 y10 => ?_)
  show V x 0 0 w11 21 [(0, .ref (gz (xG x) + 114))] [.int r12, .int (wI w 114 12), .int v7]
  obtain ⟨h13, g14⟩ := y10
  have h15 := Ch.tr h6 h13 (by decide)
  refine r_imul C dX11_worth_21 (fun v16 e17 => ?_)
  have k18 : (r12 : Int32).toInt = 0 := by omega
  have v16' := imul_ok e17 (by rw [k18]; omega) (by rw [k18]; omega)
  rw [k18] at v16'
  refine r_isub C dX11_worth_22 (fun v19 e20 => ?_)
  have v19' := isub_ok e20 (by omega) (by omega)
  exact hret _ _ _ _ dX11_worth_23 rfl ⟨h15, by omega⟩
set_option maxHeartbeats 4000000 in
set_option maxRecDepth 100000 in
theorem ctX11_told_114 (l : Launch) (G : Gt) (w : Wv) (sM : Str KM XM w) (p0 : wI w 114 0 = 0) (p1 : wI w 114 1 = 0) (p2 : wI w 114 3 = 0) (p3 : wI w 114 8 = 0) (p4 : wI w 114 20 = 0) (p5 : wI w 114 17 = 0) (p6 : wI w 114 49 = 0) (p7 : wI w 114 52 = 0) (a1 : Int32) : CtI l G yX11_told cX11_told 2 .int ({ frames := 2, cells := 0, slots := 0, locals := 44 } : Room) [.ref (gz G + 114), .int a1] w (fun r w' => Ch [] w w' ∧ (((0 ≤ a1.toInt ∧ a1.toInt ≤ 12) → r.toInt = 0) ∧ ((a1.toInt < 0 ∨ 12 < a1.toInt) → r.toInt = -1000000002))) := by
  refine enterI (by decide) (Nat.le_of_ble_eq_true rfl) ?_
  intro x el eG C hret
  subst el; subst eG
  show V x 0 0 w 0 [(0, .ref (gz (xG x) + 114)), (1, .int a1)] []
  have h0 : Ch [] w w := Ch.rf
  have qm1000000002 : ((-1000000002) : Int32).toInt = (-1000000002) := by decide
  have qm1 : ((-1) : Int32).toInt = (-1) := by decide
  have q0 : (0 : Int32).toInt = 0 := by decide
  have q1 : (1 : Int32).toInt = 1 := by decide
  have q2 : (2 : Int32).toInt = 2 := by decide
  refine r_iload_n 1 C dX11_told_0 rfl ?_
  by_cases c1 : a1.toInt < 0 ∨ 12 < a1.toInt
  · refine r_tabOut 166 C dX11_told_1 c1 (by decide) ?_
    refine r_ldc C mw5_239 dX11_told_166 ?_
    exact hret _ _ _ _ dX11_told_168 rfl ⟨h0, by omega⟩
  · rcases (show a1.toInt = 0 ∨ a1.toInt = 1 ∨ a1.toInt = 2 ∨ a1.toInt = 3 ∨ a1.toInt = 4 ∨ a1.toInt = 5 ∨ a1.toInt = 6 ∨ a1.toInt = 7 ∨ a1.toInt = 8 ∨ a1.toInt = 9 ∨ a1.toInt = 10 ∨ a1.toInt = 11 ∨ a1.toInt = 12 by omega) with c1 | c1 | c1 | c1 | c1 | c1 | c1 | c1 | c1 | c1 | c1 | c1 | c1
    · refine r_tabIn 68 C dX11_told_1 (by omega) (by omega) (by rw [c1]; rfl) (by decide) ?_
      refine r_aload_n 0 C dX11_told_68 rfl ?_
      refine gfX11_111 (v := 0) C (kS sM h0 kc_114) p0 dX11_told_69 ?_
      exact hret _ _ _ _ dX11_told_72 rfl ⟨h0, by omega⟩
    · refine r_tabIn 73 C dX11_told_1 (by omega) (by omega) (by rw [c1]; rfl) (by decide) ?_
      refine r_aload_n 0 C dX11_told_73 rfl ?_
      refine gfX11_118 (v := 0) C (kS sM h0 kc_114) p1 dX11_told_74 ?_
      exact hret _ _ _ _ dX11_told_77 rfl ⟨h0, by omega⟩
    · refine r_tabIn 78 C dX11_told_1 (by omega) (by omega) (by rw [c1]; rfl) (by decide) ?_
      refine r_aload_n 0 C dX11_told_78 rfl ?_
      refine gfX11_121 (v := 0) C (kS sM h0 kc_114) p2 dX11_told_79 ?_
      exact hret _ _ _ _ dX11_told_82 rfl ⟨h0, by omega⟩
    · refine r_tabIn 83 C dX11_told_1 (by omega) (by omega) (by rw [c1]; rfl) (by decide) ?_
      refine r_aload_n 0 C dX11_told_83 rfl ?_
      refine gfX11_124 (v := 0) C (kS sM h0 kc_114) p3 dX11_told_84 ?_
      exact hret _ _ _ _ dX11_told_87 rfl ⟨h0, by omega⟩
    · refine r_tabIn 88 C dX11_told_1 (by omega) (by omega) (by rw [c1]; rfl) (by decide) ?_
      refine r_aload_n 0 C dX11_told_88 rfl ?_
      refine gfX11_130 (v := 0) C (kS sM h0 kc_114) p4 dX11_told_89 ?_
      exact hret _ _ _ _ dX11_told_92 rfl ⟨h0, by omega⟩
    · refine r_tabIn 93 C dX11_told_1 (by omega) (by omega) (by rw [c1]; rfl) (by decide) ?_
      refine r_aload_n 0 C dX11_told_93 rfl ?_
      refine gfX11_262 (v := 0) C (kS sM h0 kc_114) p5 dX11_told_94 ?_
      exact hret _ _ _ _ dX11_told_97 rfl ⟨h0, by omega⟩
    · refine r_tabIn 98 C dX11_told_1 (by omega) (by omega) (by rw [c1]; rfl) (by decide) ?_
      refine r_aload_n 0 C dX11_told_98 rfl ?_
      refine gfX11_111 (v := 0) C (kS sM h0 kc_114) p0 dX11_told_99 ?_
      refine r_if_ne 109 C dX11_told_102 (by decide) (fun c2 => ?_) (fun c2 => ?_)
      · have c2' := i_ne c2
        exfalso; omega
      · have c2' := i_eq c2
        refine r_iconst (v := 0) C dX11_told_105 (by decide) ?_
        refine r_goto 117 C dX11_told_106 (by decide) ?_
        exact hret _ _ _ _ dX11_told_117 rfl ⟨h0, by omega⟩
    · refine r_tabIn 118 C dX11_told_1 (by omega) (by omega) (by rw [c1]; rfl) (by decide) ?_
      refine r_aload_n 0 C dX11_told_118 rfl ?_
      refine r_iconst (v := (-1)) C dX11_told_119 (by decide) ?_
      refine r_iconst (v := 1) C dX11_told_120 (by decide) ?_
      refine callVI C cwX11_289_V (ctX11_headsBy_114 _ _ w (sS sM h0) p2 (-1) 1 ) (by decide) (kS sM h0 kc_114) rfl rfl rfl (Nat.le_of_ble_eq_true rfl) (by decide) dX11_told_121 (fun r5 w4 y3 => ?_)
      show V x 0 0 w4 124 [(0, .ref (gz (xG x) + 114)), (1, .int a1)] [.int r5]
      obtain ⟨h6, g7⟩ := y3
      have h8 := Ch.tr h0 h6 (by decide)
      exact hret _ _ _ _ dX11_told_124 rfl ⟨h8, by omega⟩
    · refine r_tabIn 125 C dX11_told_1 (by omega) (by omega) (by rw [c1]; rfl) (by decide) ?_
      refine r_aload_n 0 C dX11_told_125 rfl ?_
      refine r_iconst (v := (-1)) C dX11_told_126 (by decide) ?_
      refine r_iconst (v := 2) C dX11_told_127 (by decide) ?_
      refine callVI C cwX11_289_V (ctX11_headsBy_114 _ _ w (sS sM h0) p2 (-1) 2 ) (by decide) (kS sM h0 kc_114) rfl rfl rfl (Nat.le_of_ble_eq_true rfl) (by decide) dX11_told_128 (fun r11 w10 y9 => ?_)
      show V x 0 0 w10 131 [(0, .ref (gz (xG x) + 114)), (1, .int a1)] [.int r11]
      obtain ⟨h12, g13⟩ := y9
      have h14 := Ch.tr h0 h12 (by decide)
      exact hret _ _ _ _ dX11_told_131 rfl ⟨h14, by omega⟩
    · refine r_tabIn 132 C dX11_told_1 (by omega) (by omega) (by rw [c1]; rfl) (by decide) ?_
      refine r_aload_n 0 C dX11_told_132 rfl ?_
      refine callVI C cwX11_295_V (ctX11_allHeads_114 _ _ w (sS sM h0) p2  ) (by decide) (kS sM h0 kc_114) rfl rfl rfl (Nat.le_of_ble_eq_true rfl) (by decide) dX11_told_133 (fun r17 w16 y15 => ?_)
      show V x 0 0 w16 136 [(0, .ref (gz (xG x) + 114)), (1, .int a1)] [.int r17]
      obtain ⟨h18, g19⟩ := y15
      have h20 := Ch.tr h0 h18 (by decide)
      refine r_aload_n 0 C dX11_told_136 rfl ?_
      refine r_iconst (v := (-1)) C dX11_told_137 (by decide) ?_
      refine r_iconst (v := 1) C dX11_told_138 (by decide) ?_
      refine callVI C cwX11_289_V (ctX11_headsBy_114 _ _ w16 (sS sM h20) (h18.I (by decide) p2) (-1) 1 ) (by decide) (kS sM h20 kc_114) rfl rfl rfl (Nat.le_of_ble_eq_true rfl) (by decide) dX11_told_139 (fun r23 w22 y21 => ?_)
      show V x 0 0 w22 142 [(0, .ref (gz (xG x) + 114)), (1, .int a1)] [.int r23, .int r17]
      obtain ⟨h24, g25⟩ := y21
      have h26 := Ch.tr h20 h24 (by decide)
      refine r_isub C dX11_told_142 (fun v27 e28 => ?_)
      have v27' := isub_ok e28 (by omega) (by omega)
      refine r_aload_n 0 C dX11_told_143 rfl ?_
      refine r_iconst (v := (-1)) C dX11_told_144 (by decide) ?_
      refine r_iconst (v := 2) C dX11_told_145 (by decide) ?_
      refine callVI C cwX11_289_V (ctX11_headsBy_114 _ _ w22 (sS sM h26) (h24.I (by decide) (h18.I (by decide) p2)) (-1) 2 ) (by decide) (kS sM h26 kc_114) rfl rfl rfl (Nat.le_of_ble_eq_true rfl) (by decide) dX11_told_146 (fun r31 w30 y29 => ?_)
      show V x 0 0 w30 149 [(0, .ref (gz (xG x) + 114)), (1, .int a1)] [.int r31, .int v27]
      obtain ⟨h32, g33⟩ := y29
      have h34 := Ch.tr h26 h32 (by decide)
      refine r_isub C dX11_told_149 (fun v35 e36 => ?_)
      have v35' := isub_ok e36 (by omega) (by omega)
      exact hret _ _ _ _ dX11_told_150 rfl ⟨h34, by omega⟩
    · refine r_tabIn 151 C dX11_told_1 (by omega) (by omega) (by rw [c1]; rfl) (by decide) ?_
      refine r_aload_n 0 C dX11_told_151 rfl ?_
      refine callVI C cwX11_298_V (ctX11_worth_114 _ _ w (sS sM h0) p2  ) (by decide) (kS sM h0 kc_114) rfl rfl rfl (Nat.le_of_ble_eq_true rfl) (by decide) dX11_told_152 (fun r39 w38 y37 => ?_)
      show V x 0 0 w38 155 [(0, .ref (gz (xG x) + 114)), (1, .int a1)] [.int r39]
      obtain ⟨h40, g41⟩ := y37
      have h42 := Ch.tr h0 h40 (by decide)
      exact hret _ _ _ _ dX11_told_155 rfl ⟨h42, by omega⟩
    · refine r_tabIn 156 C dX11_told_1 (by omega) (by omega) (by rw [c1]; rfl) (by decide) ?_
      refine r_aload_n 0 C dX11_told_156 rfl ?_
      refine gfX11_265 (v := 0) C (kS sM h0 kc_114) p6 dX11_told_157 ?_
      exact hret _ _ _ _ dX11_told_160 rfl ⟨h0, by omega⟩
    · refine r_tabIn 161 C dX11_told_1 (by omega) (by omega) (by rw [c1]; rfl) (by decide) ?_
      refine r_aload_n 0 C dX11_told_161 rfl ?_
      refine gfX11_268 (v := 0) C (kS sM h0 kc_114) p7 dX11_told_162 ?_
      exact hret _ _ _ _ dX11_told_165 rfl ⟨h0, by omega⟩
set_option maxHeartbeats 4000000 in
set_option maxRecDepth 100000 in
theorem ctX11_cell_114 (l : Launch) (G : Gt) (w : Wv) (sM : Str KM XM w) (p0 : wI w 114 0 = 0) (p1 : wI w 114 1 = 0) (a1 : Int32) (a2 : Int32) : CtI l G yX11_cell cX11_cell 3 .int ({ frames := 2, cells := 0, slots := 0, locals := 47 } : Room) [.ref (gz G + 114), .int a1, .int a2] w (fun r w' => Ch [] w w' ∧ (r.toInt = -1000000001)) := by
  refine enterI (by decide) (Nat.le_of_ble_eq_true rfl) ?_
  intro x el eG C hret
  subst el; subst eG
  show V x 0 0 w 0 [(0, .ref (gz (xG x) + 114)), (1, .int a1), (2, .int a2)] []
  have h0 : Ch [] w w := Ch.rf
  have qm1000000001 : ((-1000000001) : Int32).toInt = (-1000000001) := by decide
  have q0 : (0 : Int32).toInt = 0 := by decide
  refine r_aload_n 0 C dX11_cell_0 rfl ?_
  refine r_iload_n 1 C dX11_cell_1 rfl ?_
  refine r_iload_n 2 C dX11_cell_2 rfl ?_
  refine callVI C cwX11_274_V (ctX11_isCell_114 _ _ w (sS sM h0) p0 p1 a1 a2 ) (by decide) (kS sM h0 kc_114) rfl rfl rfl (Nat.le_of_ble_eq_true rfl) (by decide) dX11_cell_3 (fun r3 w2 y1 => ?_)
  show V x 0 0 w2 6 [(0, .ref (gz (xG x) + 114)), (1, .int a1), (2, .int a2)] [.int r3]
  obtain ⟨h4, g5⟩ := y1
  have h6 := Ch.tr h0 h4 (by decide)
  refine r_if_eq 25 C dX11_cell_6 (by decide) (fun c7 => ?_) (fun c7 => ?_)
  · have c7' := i_eq c7
    refine r_ldcw C mw6_112 dX11_cell_25 ?_
    exact hret _ _ _ _ dX11_cell_28 rfl ⟨h6, by omega⟩
  · have c7' := i_ne c7
    exfalso; omega
set_option maxHeartbeats 4000000 in
set_option maxRecDepth 100000 in
theorem ctX11_crowd_114 (l : Launch) (G : Gt) (w : Wv) (sM : Str KM XM w) (p0 : wI w 114 3 = 0) (a1 : Int32) (a2 : Int32) : CtI l G yX11_crowd cX11_crowd 3 .int ({ frames := 2, cells := 0, slots := 0, locals := 46 } : Room) [.ref (gz G + 114), .int a1, .int a2] w (fun r w' => Ch [] w w' ∧ (r.toInt = -1000000001)) := by
  refine enterI (by decide) (Nat.le_of_ble_eq_true rfl) ?_
  intro x el eG C hret
  subst el; subst eG
  show V x 0 0 w 0 [(0, .ref (gz (xG x) + 114)), (1, .int a1), (2, .int a2)] []
  have h0 : Ch [] w w := Ch.rf
  have qm1000000001 : ((-1000000001) : Int32).toInt = (-1000000001) := by decide
  have q0 : (0 : Int32).toInt = 0 := by decide
  refine r_aload_n 0 C dX11_crowd_0 rfl ?_
  refine r_iload_n 1 C dX11_crowd_1 rfl ?_
  refine callVI C cwX11_301_V (ctX11_isCrowd_114 _ _ w (sS sM h0) p0 a1 ) (by decide) (kS sM h0 kc_114) rfl rfl rfl (Nat.le_of_ble_eq_true rfl) (by decide) dX11_crowd_2 (fun r3 w2 y1 => ?_)
  show V x 0 0 w2 5 [(0, .ref (gz (xG x) + 114)), (1, .int a1), (2, .int a2)] [.int r3]
  obtain ⟨h4, g5⟩ := y1
  have h6 := Ch.tr h0 h4 (by decide)
  refine r_if_ne 12 C dX11_crowd_5 (by decide) (fun c7 => ?_) (fun c7 => ?_)
  · have c7' := i_ne c7
    exfalso; omega
  · have c7' := i_eq c7
    refine r_ldcw C mw6_112 dX11_crowd_8 ?_
    exact hret _ _ _ _ dX11_crowd_11 rfl ⟨h6, by omega⟩
set_option maxHeartbeats 4000000 in
set_option maxRecDepth 100000 in
theorem ctX11_tune_114 (l : Launch) (G : Gt) (w : Wv) (sM : Str KM XM w) (p0 : wI w 114 8 = 0) (a1 : Int32) (a2 : Int32) : CtI l G yX11_tune cX11_tune 5 .int ({ frames := 2, cells := 0, slots := 0, locals := 46 } : Room) [.ref (gz G + 114), .int a1, .int a2] w (fun r w' => Ch [] w w' ∧ (r.toInt = -1000000001)) := by
  refine enterI (by decide) (Nat.le_of_ble_eq_true rfl) ?_
  intro x el eG C hret
  subst el; subst eG
  show V x 0 0 w 0 [(0, .ref (gz (xG x) + 114)), (1, .int a1), (2, .int a2)] []
  have h0 : Ch [] w w := Ch.rf
  have qm1000000001 : ((-1000000001) : Int32).toInt = (-1000000001) := by decide
  have q0 : (0 : Int32).toInt = 0 := by decide
  refine r_aload_n 0 C dX11_tune_0 rfl ?_
  refine r_iload_n 1 C dX11_tune_1 rfl ?_
  refine callVI C cwX11_310_V (ctX11_isTune_114 _ _ w (sS sM h0) p0 a1 ) (by decide) (kS sM h0 kc_114) rfl rfl rfl (Nat.le_of_ble_eq_true rfl) (by decide) dX11_tune_2 (fun r3 w2 y1 => ?_)
  show V x 0 0 w2 5 [(0, .ref (gz (xG x) + 114)), (1, .int a1), (2, .int a2)] [.int r3]
  obtain ⟨h4, g5⟩ := y1
  have h6 := Ch.tr h0 h4 (by decide)
  refine r_if_ne 12 C dX11_tune_5 (by decide) (fun c7 => ?_) (fun c7 => ?_)
  · have c7' := i_ne c7
    exfalso; omega
  · have c7' := i_eq c7
    refine r_ldcw C mw6_112 dX11_tune_8 ?_
    exact hret _ _ _ _ dX11_tune_11 rfl ⟨h6, by omega⟩
set_option maxHeartbeats 4000000 in
set_option maxRecDepth 100000 in
theorem ctX11_far_114 (l : Launch) (G : Gt) (w : Wv) (sM : Str KM XM w) (p0 : wI w 114 0 = 0) (p1 : wI w 114 1 = 0) (a1 : Int32) (a2 : Int32) (a3 : Int32) (a4 : Int32) : CtI l G yX11_far cX11_far 6 .int ({ frames := 2, cells := 0, slots := 0, locals := 47 } : Room) [.ref (gz G + 114), .int a1, .int a2, .int a3, .int a4] w (fun r w' => Ch [] w w' ∧ (r.toInt = -1000000001)) := by
  refine enterI (by decide) (Nat.le_of_ble_eq_true rfl) ?_
  intro x el eG C hret
  subst el; subst eG
  show V x 0 0 w 0 [(0, .ref (gz (xG x) + 114)), (1, .int a1), (2, .int a2), (3, .int a3), (4, .int a4)] []
  have h0 : Ch [] w w := Ch.rf
  have qm1000000001 : ((-1000000001) : Int32).toInt = (-1000000001) := by decide
  have q0 : (0 : Int32).toInt = 0 := by decide
  refine r_aload_n 0 C dX11_far_0 rfl ?_
  refine r_iload_n 1 C dX11_far_1 rfl ?_
  refine r_iload_n 2 C dX11_far_2 rfl ?_
  refine callVI C cwX11_274_V (ctX11_isCell_114 _ _ w (sS sM h0) p0 p1 a1 a2 ) (by decide) (kS sM h0 kc_114) rfl rfl rfl (Nat.le_of_ble_eq_true rfl) (by decide) dX11_far_3 (fun r3 w2 y1 => ?_)
  show V x 0 0 w2 6 [(0, .ref (gz (xG x) + 114)), (1, .int a1), (2, .int a2), (3, .int a3), (4, .int a4)] [.int r3]
  obtain ⟨h4, g5⟩ := y1
  have h6 := Ch.tr h0 h4 (by decide)
  refine r_if_eq 19 C dX11_far_6 (by decide) (fun c7 => ?_) (fun c7 => ?_)
  · have c7' := i_eq c7
    refine r_ldcw C mw6_112 dX11_far_19 ?_
    exact hret _ _ _ _ dX11_far_22 rfl ⟨h6, by omega⟩
  · have c7' := i_ne c7
    exfalso; omega
set_option maxHeartbeats 4000000 in
set_option maxRecDepth 100000 in
theorem ctX11_stepTo_114 (l : Launch) (G : Gt) (w : Wv) (sM : Str KM XM w) (p0 : wI w 114 0 = 0) (a1 : Int32) : CtI l G yX11_stepTo cX11_stepTo 3 .int ({ frames := 0, cells := 0, slots := 0, locals := 0 } : Room) [.ref (gz G + 114), .int a1] w (fun r w' => Ch [] w w' ∧ (r.toInt = -1)) := by
  refine enterI (by decide) (Nat.le_of_ble_eq_true rfl) ?_
  intro x el eG C hret
  subst el; subst eG
  show V x 0 0 w 0 [(0, .ref (gz (xG x) + 114)), (1, .int a1)] []
  have h0 : Ch [] w w := Ch.rf
  have qm1 : ((-1) : Int32).toInt = (-1) := by decide
  have q0 : (0 : Int32).toInt = 0 := by decide
  refine r_aload_n 0 C dX11_stepTo_0 rfl ?_
  refine gfX11_111 (v := 0) C (kS sM h0 kc_114) p0 dX11_stepTo_1 ?_
  refine r_if_ne 11 C dX11_stepTo_4 (by decide) (fun c1 => ?_) (fun c1 => ?_)
  · have c1' := i_ne c1
    exfalso; omega
  · have c1' := i_eq c1
    refine r_iconst (v := (-1)) C dX11_stepTo_7 (by decide) ?_
    refine r_goto 31 C dX11_stepTo_8 (by decide) ?_
    refine r_istore_n [(2, .int (-1)), (0, .ref (gz (xG x) + 114)), (1, .int a1)] C dX11_stepTo_31 (by decide) rfl ?_
    refine r_iload_n 0 C dX11_stepTo_32 rfl ?_
    refine r_if_lt 60 C dX11_stepTo_33 (by decide) (fun c2 => ?_) (fun c2 => ?_)
    · have c2' := i_lt c2
      refine r_iconst (v := (-1)) C dX11_stepTo_60 (by decide) ?_
      refine r_goto 65 C dX11_stepTo_61 (by decide) ?_
      exact hret _ _ _ _ dX11_stepTo_65 rfl ⟨h0, by omega⟩
    · have c2' := i_nlt c2
      exfalso; omega
set_option maxHeartbeats 4000000 in
set_option maxRecDepth 100000 in
theorem ctX11_minuteBy_114 (l : Launch) (G : Gt) (w : Wv) (sM : Str KM XM w) (p0 : wI w 114 0 = 0) (a1 : Int32) (a2 : Int32) : CtI l G yX11_minuteBy cX11_minuteBy 5 .boolean ({ frames := 1, cells := 0, slots := 0, locals := 22 } : Room) [.ref (gz G + 114), .int a1, .int a2] w (fun r w' => Ch [] w w' ∧ (r.toInt = 0)) := by
  refine enterI (by decide) (Nat.le_of_ble_eq_true rfl) ?_
  intro x el eG C hret
  subst el; subst eG
  show V x 0 0 w 0 [(0, .ref (gz (xG x) + 114)), (1, .int a1), (2, .int a2)] []
  have h0 : Ch [] w w := Ch.rf
  have q0 : (0 : Int32).toInt = 0 := by decide
  refine r_aload_n 0 C dX11_minuteBy_0 rfl ?_
  refine r_iload_n 1 C dX11_minuteBy_1 rfl ?_
  refine callVI C cwX11_319_V (ctX11_stepTo_114 _ _ w (sS sM h0) p0 a1 ) (by decide) (kS sM h0 kc_114) rfl rfl rfl (Nat.le_of_ble_eq_true rfl) (by decide) dX11_minuteBy_2 (fun r3 w2 y1 => ?_)
  show V x 0 0 w2 5 [(0, .ref (gz (xG x) + 114)), (1, .int a1), (2, .int a2)] [.int r3]
  obtain ⟨h4, g5⟩ := y1
  have h6 := Ch.tr h0 h4 (by decide)
  refine r_istore_n [(3, .int r3), (0, .ref (gz (xG x) + 114)), (1, .int a1), (2, .int a2)] C dX11_minuteBy_5 (by decide) rfl ?_
  refine r_iload_n 0 C dX11_minuteBy_6 rfl ?_
  refine r_if_ge 12 C dX11_minuteBy_7 (by decide) (fun c7 => ?_) (fun c7 => ?_)
  · have c7' := i_le c7
    exfalso; omega
  · have c7' := i_nle c7
    refine r_iconst (v := 0) C dX11_minuteBy_10 (by decide) ?_
    exact hret _ _ _ _ dX11_minuteBy_11 (nar_z (z_of (by omega))) ⟨h6, by omega⟩
set_option maxHeartbeats 4000000 in
set_option maxRecDepth 100000 in
theorem ctX11_minute_114 (l : Launch) (G : Gt) (w : Wv) (sM : Str KM XM w) (p0 : wI w 114 8 = 0) (p1 : wI w 114 0 = 0) (a1 : Int32) (a2 : Int32) : CtI l G yX11_minute cX11_minute 3 .int ({ frames := 2, cells := 0, slots := 0, locals := 46 } : Room) [.ref (gz G + 114), .int a1, .int a2] w (fun r w' => Ch [] w w' ∧ ((¬ a2.toInt = -1 → r.toInt = -1000000001) ∧ ((a2.toInt = -1 ∧ (a1.toInt < 0 ∨ 4 < a1.toInt)) → r.toInt = -1000000002) ∧ ((a2.toInt = -1 ∧ 0 ≤ a1.toInt ∧ a1.toInt ≤ 4) → r.toInt = -1000000003))) := by
  refine enterI (by decide) (Nat.le_of_ble_eq_true rfl) ?_
  intro x el eG C hret
  subst el; subst eG
  show V x 0 0 w 0 [(0, .ref (gz (xG x) + 114)), (1, .int a1), (2, .int a2)] []
  have h0 : Ch [] w w := Ch.rf
  have qm1000000003 : ((-1000000003) : Int32).toInt = (-1000000003) := by decide
  have qm1000000002 : ((-1000000002) : Int32).toInt = (-1000000002) := by decide
  have qm1000000001 : ((-1000000001) : Int32).toInt = (-1000000001) := by decide
  have qm1 : ((-1) : Int32).toInt = (-1) := by decide
  have q0 : (0 : Int32).toInt = 0 := by decide
  have ql0 : (0 : Int64).toInt = 0 := by decide
  have ql4 : (4 : Int64).toInt = 4 := by decide
  refine r_iload_n 2 C dX11_minute_0 rfl ?_
  refine r_iconst (v := (-1)) C dX11_minute_1 (by decide) ?_
  refine r_icmp_eq 17 C dX11_minute_2 (by decide) (fun c1 => ?_) (fun c1 => ?_)
  · have c1' := i_eq c1
    refine r_iload_n 1 C dX11_minute_17 rfl ?_
    refine r_i2l C dX11_minute_18 (fun v2 e3 => ?_)
    have v2' := i2l_ok e3
    refine r_lconst (v := 0) C dX11_minute_19 (by decide) ?_
    refine r_ldc2 C mw6_172 dX11_minute_20 ?_
    refine callSI C cwX11_114_S (ctX11_in _ _ w   v2 0 4 ) (by decide) rfl rfl (Nat.le_of_ble_eq_true rfl) (by decide) dX11_minute_23 (fun r6 w5 y4 => ?_)
    show V x 0 0 w5 26 [(0, .ref (gz (xG x) + 114)), (1, .int a1), (2, .int a2)] [.int r6]
    obtain ⟨h7, g8⟩ := y4
    have h9 := Ch.tr h0 h7 (by decide)
    refine r_if_ne 32 C dX11_minute_26 (by decide) (fun c10 => ?_) (fun c10 => ?_)
    · have c10' := i_ne c10
      refine r_aload_n 0 C dX11_minute_32 rfl ?_
      refine r_iload_n 1 C dX11_minute_33 rfl ?_
      refine r_iload_n 2 C dX11_minute_34 rfl ?_
      refine callVI C cwX11_327_V (ctX11_minuteBy_114 _ _ w5 (sS sM h9) (h7.I (by decide) p1) a1 a2 ) (by decide) (kS sM h9 kc_114) rfl rfl rfl (Nat.le_of_ble_eq_true rfl) (by decide) dX11_minute_35 (fun r13 w12 y11 => ?_)
      show V x 0 0 w12 38 [(0, .ref (gz (xG x) + 114)), (1, .int a1), (2, .int a2)] [.int r13]
      obtain ⟨h14, g15⟩ := y11
      have h16 := Ch.tr h9 h14 (by decide)
      refine r_if_ne 45 C dX11_minute_38 (by decide) (fun c17 => ?_) (fun c17 => ?_)
      · have c17' := i_ne c17
        exfalso; omega
      · have c17' := i_eq c17
        refine r_ldcw C mw6_189 dX11_minute_41 ?_
        exact hret _ _ _ _ dX11_minute_44 rfl ⟨h16, by omega⟩
    · have c10' := i_eq c10
      refine r_ldc C mw5_239 dX11_minute_29 ?_
      exact hret _ _ _ _ dX11_minute_31 rfl ⟨h9, by omega⟩
  · have c1' := i_ne c1
    refine r_aload_n 0 C dX11_minute_5 rfl ?_
    refine r_iload_n 2 C dX11_minute_6 rfl ?_
    refine callVI C cwX11_310_V (ctX11_isTune_114 _ _ w (sS sM h0) p0 a2 ) (by decide) (kS sM h0 kc_114) rfl rfl rfl (Nat.le_of_ble_eq_true rfl) (by decide) dX11_minute_7 (fun r20 w19 y18 => ?_)
    show V x 0 0 w19 10 [(0, .ref (gz (xG x) + 114)), (1, .int a1), (2, .int a2)] [.int r20]
    obtain ⟨h21, g22⟩ := y18
    have h23 := Ch.tr h0 h21 (by decide)
    refine r_if_ne 17 C dX11_minute_10 (by decide) (fun c24 => ?_) (fun c24 => ?_)
    · have c24' := i_ne c24
      exfalso; omega
    · have c24' := i_eq c24
      refine r_ldcw C mw6_112 dX11_minute_13 ?_
      exact hret _ _ _ _ dX11_minute_16 rfl ⟨h23, by omega⟩
set_option maxHeartbeats 4000000 in
set_option maxRecDepth 100000 in
theorem ctX11_wall_114 (l : Launch) (G : Gt) (w : Wv) (sM : Str KM XM w) (p0 : wI w 114 0 = 0) (p1 : wI w 114 1 = 0) (a1 : Int32) (a2 : Int32) (a3 : Int32) : CtI l G yX11_wall cX11_wall 6 .int ({ frames := 2, cells := 0, slots := 0, locals := 47 } : Room) [.ref (gz G + 114), .int a1, .int a2, .int a3] w (fun r w' => Ch [] w w' ∧ (r.toInt = -1000000001)) := by
  refine enterI (by decide) (Nat.le_of_ble_eq_true rfl) ?_
  intro x el eG C hret
  subst el; subst eG
  show V x 0 0 w 0 [(0, .ref (gz (xG x) + 114)), (1, .int a1), (2, .int a2), (3, .int a3)] []
  have h0 : Ch [] w w := Ch.rf
  have qm1000000001 : ((-1000000001) : Int32).toInt = (-1000000001) := by decide
  have q0 : (0 : Int32).toInt = 0 := by decide
  refine r_aload_n 0 C dX11_wall_0 rfl ?_
  refine r_iload_n 1 C dX11_wall_1 rfl ?_
  refine r_iload_n 2 C dX11_wall_2 rfl ?_
  refine callVI C cwX11_274_V (ctX11_isCell_114 _ _ w (sS sM h0) p0 p1 a1 a2 ) (by decide) (kS sM h0 kc_114) rfl rfl rfl (Nat.le_of_ble_eq_true rfl) (by decide) dX11_wall_3 (fun r3 w2 y1 => ?_)
  show V x 0 0 w2 6 [(0, .ref (gz (xG x) + 114)), (1, .int a1), (2, .int a2), (3, .int a3)] [.int r3]
  obtain ⟨h4, g5⟩ := y1
  have h6 := Ch.tr h0 h4 (by decide)
  refine r_if_ne 13 C dX11_wall_6 (by decide) (fun c7 => ?_) (fun c7 => ?_)
  · have c7' := i_ne c7
    exfalso; omega
  · have c7' := i_eq c7
    refine r_ldcw C mw6_112 dX11_wall_9 ?_
    exact hret _ _ _ _ dX11_wall_12 rfl ⟨h6, by omega⟩
set_option maxHeartbeats 4000000 in
set_option maxRecDepth 100000 in
theorem ctX11_drift_114 (l : Launch) (G : Gt) (w : Wv) (sM : Str KM XM w) (p0 : wI w 114 0 = 0) (a1 : Int32) : CtI l G yX11_drift cX11_drift 6 .int ({ frames := 1, cells := 0, slots := 0, locals := 25 } : Room) [.ref (gz G + 114), .int a1] w (fun r w' => Ch [] w w' ∧ (((a1.toInt < 1 ∨ 99 < a1.toInt) → r.toInt = -1000000002) ∧ ((1 ≤ a1.toInt ∧ a1.toInt ≤ 99) → r.toInt = -1000000003))) := by
  refine enterI (by decide) (Nat.le_of_ble_eq_true rfl) ?_
  intro x el eG C hret
  subst el; subst eG
  show V x 0 0 w 0 [(0, .ref (gz (xG x) + 114)), (1, .int a1)] []
  have h0 : Ch [] w w := Ch.rf
  have qm1000000003 : ((-1000000003) : Int32).toInt = (-1000000003) := by decide
  have qm1000000002 : ((-1000000002) : Int32).toInt = (-1000000002) := by decide
  have q0 : (0 : Int32).toInt = 0 := by decide
  have ql1 : (1 : Int64).toInt = 1 := by decide
  have ql99 : (99 : Int64).toInt = 99 := by decide
  refine r_iload_n 1 C dX11_drift_0 rfl ?_
  refine r_i2l C dX11_drift_1 (fun v1 e2 => ?_)
  have v1' := i2l_ok e2
  refine r_lconst (v := 1) C dX11_drift_2 (by decide) ?_
  refine r_ldc2 C mw6_202 dX11_drift_3 ?_
  refine callSI C cwX11_114_S (ctX11_in _ _ w   v1 1 99 ) (by decide) rfl rfl (Nat.le_of_ble_eq_true rfl) (by decide) dX11_drift_6 (fun r5 w4 y3 => ?_)
  show V x 0 0 w4 9 [(0, .ref (gz (xG x) + 114)), (1, .int a1)] [.int r5]
  obtain ⟨h6, g7⟩ := y3
  have h8 := Ch.tr h0 h6 (by decide)
  refine r_if_ne 15 C dX11_drift_9 (by decide) (fun c9 => ?_) (fun c9 => ?_)
  · have c9' := i_ne c9
    refine r_aload_n 0 C dX11_drift_15 rfl ?_
    refine gfX11_111 (v := 0) C (kS sM h8 kc_114) (h6.I (by decide) p0) dX11_drift_16 ?_
    refine r_if_ne 26 C dX11_drift_19 (by decide) (fun c10 => ?_) (fun c10 => ?_)
    · have c10' := i_ne c10
      exfalso; omega
    · have c10' := i_eq c10
      refine r_ldcw C mw6_189 dX11_drift_22 ?_
      exact hret _ _ _ _ dX11_drift_25 rfl ⟨h8, by omega⟩
  · have c9' := i_eq c9
    refine r_ldc C mw5_239 dX11_drift_12 ?_
    exact hret _ _ _ _ dX11_drift_14 rfl ⟨h8, by omega⟩
set_option maxHeartbeats 4000000 in
set_option maxRecDepth 100000 in
theorem ctX11_plan_114 (l : Launch) (G : Gt) (w : Wv) (sM : Str KM XM w) (p0 : wI w 114 8 = 0) (p1 : wI w 114 49 = 0) (a1 : Int32) (a2 : Int32) : CtI l G yX11_plan cX11_plan 3 .int ({ frames := 2, cells := 0, slots := 0, locals := 46 } : Room) [.ref (gz G + 114), .int a1, .int a2] w (fun r w' => Ch [114, 138, 139] w w' ∧ ((¬ a2.toInt = -1 → r.toInt = -1000000001) ∧ ((a2.toInt = -1 ∧ (a1.toInt < 0 ∨ 4 < a1.toInt)) → r.toInt = -1000000002) ∧ ((a2.toInt = -1 ∧ 0 ≤ a1.toInt ∧ a1.toInt ≤ 4) → r.toInt = 1))) := by
  refine enterI (by decide) (Nat.le_of_ble_eq_true rfl) ?_
  intro x el eG C hret
  subst el; subst eG
  show V x 0 0 w 0 [(0, .ref (gz (xG x) + 114)), (1, .int a1), (2, .int a2)] []
  have h0 : Ch [114, 138, 139] w w := Ch.rf
  have qm1000000002 : ((-1000000002) : Int32).toInt = (-1000000002) := by decide
  have qm1000000001 : ((-1000000001) : Int32).toInt = (-1000000001) := by decide
  have qm1 : ((-1) : Int32).toInt = (-1) := by decide
  have q0 : (0 : Int32).toInt = 0 := by decide
  have q1 : (1 : Int32).toInt = 1 := by decide
  have q30 : (30 : Int32).toInt = 30 := by decide
  have ql0 : (0 : Int64).toInt = 0 := by decide
  have ql4 : (4 : Int64).toInt = 4 := by decide
  refine r_iload_n 2 C dX11_plan_0 rfl ?_
  refine r_iconst (v := (-1)) C dX11_plan_1 (by decide) ?_
  refine r_icmp_eq 17 C dX11_plan_2 (by decide) (fun c1 => ?_) (fun c1 => ?_)
  · have c1' := i_eq c1
    refine r_iload_n 1 C dX11_plan_17 rfl ?_
    refine r_i2l C dX11_plan_18 (fun v2 e3 => ?_)
    have v2' := i2l_ok e3
    refine r_lconst (v := 0) C dX11_plan_19 (by decide) ?_
    refine r_ldc2 C mw6_172 dX11_plan_20 ?_
    refine callSI C cwX11_114_S (ctX11_in _ _ w   v2 0 4 ) (by decide) rfl rfl (Nat.le_of_ble_eq_true rfl) (by decide) dX11_plan_23 (fun r6 w5 y4 => ?_)
    show V x 0 0 w5 26 [(0, .ref (gz (xG x) + 114)), (1, .int a1), (2, .int a2)] [.int r6]
    obtain ⟨h7, g8⟩ := y4
    have h9 := Ch.tr h0 h7 (by decide)
    refine r_if_ne 32 C dX11_plan_26 (by decide) (fun c10 => ?_) (fun c10 => ?_)
    · have c10' := i_ne c10
      refine r_aload_n 0 C dX11_plan_32 rfl ?_
      refine gfX11_265 (v := 0) C (kS sM h9 kc_114) (h7.I (by decide) p1) dX11_plan_33 ?_
      refine r_bipush (v := 30) C dX11_plan_36 (by decide) ?_
      refine r_icmp_ne 44 C dX11_plan_38 (by decide) (fun c11 => ?_) (fun c11 => ?_)
      · have c11' := i_ne c11
        refine r_aload_n 0 C dX11_plan_44 rfl ?_
        refine gfX11_89 138 C (kS sM h9 kc_114) (xS sM h9 xc_114_50) dX11_plan_45 ?_
        refine r_aload_n 0 C dX11_plan_48 rfl ?_
        refine gfX11_265 (v := 0) C (kS sM h9 kc_114) (h7.I (by decide) p1) dX11_plan_49 ?_
        refine r_iload_n 1 C dX11_plan_52 rfl ?_
        refine r_iast C (kS sM h9 kc_138) (vin (by omega) (by omega)) dX11_plan_53 (fun w12 e13 => ?_)
        have h14 := Ch.put h9 e13 (by decide)
        refine r_aload_n 0 C dX11_plan_54 rfl ?_
        refine gfX11_92 139 C (kS sM h14 kc_114) (xS sM h14 xc_114_51) dX11_plan_55 ?_
        refine r_aload_n 0 C dX11_plan_58 rfl ?_
        refine gfX11_265 (v := 0) C (kS sM h14 kc_114) (g_nn e13 (by decide) (h7.I (by decide) p1)) dX11_plan_59 ?_
        refine r_iload_n 2 C dX11_plan_62 rfl ?_
        refine r_iast C (kS sM h14 kc_139) (vin (by omega) (by omega)) dX11_plan_63 (fun w15 e16 => ?_)
        have h17 := Ch.put h14 e16 (by decide)
        refine r_aload_n 0 C dX11_plan_64 rfl ?_
        refine r_dup C dX11_plan_65 rfl ?_
        refine gfX11_265 (v := 0) C (kS sM h17 kc_114) (g_nn e16 (by decide) (g_nn e13 (by decide) (h7.I (by decide) p1))) dX11_plan_66 ?_
        refine r_iconst (v := 1) C dX11_plan_69 (by decide) ?_
        refine r_iadd C dX11_plan_70 (fun v18 e19 => ?_)
        have v18' := iadd_ok e19 (by omega) (by omega)
        refine pfX11_265 C (kS sM h17 kc_114) dX11_plan_71 (fun w20 e21 => ?_)
        have h22 := Ch.put h17 e21 (by decide)
        refine r_aload_n 0 C dX11_plan_74 rfl ?_
        refine gfX11_265 (v := v18) C (kS sM h22 kc_114) (g_eq e21) dX11_plan_75 ?_
        exact hret _ _ _ _ dX11_plan_78 rfl ⟨h22, by omega⟩
      · have c11' := i_eq c11
        exfalso; omega
    · have c10' := i_eq c10
      refine r_ldc C mw5_239 dX11_plan_29 ?_
      exact hret _ _ _ _ dX11_plan_31 rfl ⟨h9, by omega⟩
  · have c1' := i_ne c1
    refine r_aload_n 0 C dX11_plan_5 rfl ?_
    refine r_iload_n 2 C dX11_plan_6 rfl ?_
    refine callVI C cwX11_310_V (ctX11_isTune_114 _ _ w (sS sM h0) p0 a2 ) (by decide) (kS sM h0 kc_114) rfl rfl rfl (Nat.le_of_ble_eq_true rfl) (by decide) dX11_plan_7 (fun r25 w24 y23 => ?_)
    show V x 0 0 w24 10 [(0, .ref (gz (xG x) + 114)), (1, .int a1), (2, .int a2)] [.int r25]
    obtain ⟨h26, g27⟩ := y23
    have h28 := Ch.tr h0 h26 (by decide)
    refine r_if_ne 17 C dX11_plan_10 (by decide) (fun c29 => ?_) (fun c29 => ?_)
    · have c29' := i_ne c29
      exfalso; omega
    · have c29' := i_eq c29
      refine r_ldcw C mw6_112 dX11_plan_13 ?_
      exact hret _ _ _ _ dX11_plan_16 rfl ⟨h28, by omega⟩
set_option maxHeartbeats 4000000 in
set_option maxRecDepth 100000 in
theorem ctX11_drop_114 (l : Launch) (G : Gt) (w : Wv) (sM : Str KM XM w) (p0 : wI w 114 49 = 0) : CtI l G yX11_drop cX11_drop 2 .int ({ frames := 0, cells := 0, slots := 0, locals := 0 } : Room) [.ref (gz G + 114)] w (fun r w' => Ch [114] w w' ∧ (r.toInt = 0)) := by
  refine enterI (by decide) (Nat.le_of_ble_eq_true rfl) ?_
  intro x el eG C hret
  subst el; subst eG
  show V x 0 0 w 0 [(0, .ref (gz (xG x) + 114))] []
  have h0 : Ch [114] w w := Ch.rf
  have q0 : (0 : Int32).toInt = 0 := by decide
  refine r_aload_n 0 C dX11_drop_0 rfl ?_
  refine gfX11_265 (v := 0) C (kS sM h0 kc_114) p0 dX11_drop_1 ?_
  refine r_istore_n [(1, .int 0), (0, .ref (gz (xG x) + 114))] C dX11_drop_4 (by decide) rfl ?_
  refine r_aload_n 1 C dX11_drop_5 rfl ?_
  refine r_iconst (v := 0) C dX11_drop_6 (by decide) ?_
  refine pfX11_265 C (kS sM h0 kc_114) dX11_drop_7 (fun w1 e2 => ?_)
  have h3 := Ch.put h0 e2 (by decide)
  refine r_iload_n 0 C dX11_drop_10 rfl ?_
  exact hret _ _ _ _ dX11_drop_11 rfl ⟨h3, by omega⟩
set_option maxHeartbeats 4000000 in
set_option maxRecDepth 100000 in
theorem ctX11_save_114 (l : Launch) (G : Gt) (w : Wv) (sM : Str KM XM w) (p0 : wI w 114 3 = 0) (p1 : wI w 114 49 = 0) (p2 : wI w 114 0 = 0) (p3 : wI w 114 1 = 0) : CtV l G yX11_save cX11_save 2 ({ frames := 0, cells := 0, slots := 0, locals := 0 } : Room) [.ref (gz G + 114)] w (fun w' => Ch [114] w w' ∧ wI w' 114 3 = 0 ∧ wI w' 114 49 = 0 ∧ wI w' 114 0 = 0 ∧ wI w' 114 1 = 0) := by
  refine enterV (by decide) (Nat.le_of_ble_eq_true rfl) ?_
  intro x el eG C hnm hret
  subst el; subst eG
  show V x 0 0 w 0 [(0, .ref (gz (xG x) + 114))] []
  have h0 : Ch [114] w w := Ch.rf
  have q0 : (0 : Int32).toInt = 0 := by decide
  refine r_aload_n 0 C dX11_save_0 rfl ?_
  refine r_aload_n 0 C dX11_save_1 rfl ?_
  refine gfX11_259 (v := (wI w 114 13)) C (kS sM h0 kc_114) rfl dX11_save_2 ?_
  refine pfX11_352 C (kS sM h0 kc_114) dX11_save_5 (fun w1 e2 => ?_)
  have h3 := Ch.put h0 e2 (by decide)
  refine r_iconst (v := 0) C dX11_save_8 (by decide) ?_
  refine r_istore_n [(1, .int 0), (0, .ref (gz (xG x) + 114))] C dX11_save_9 (by decide) rfl ?_
  refine r_iload_n 0 C dX11_save_10 rfl ?_
  refine r_aload_n 1 C dX11_save_11 rfl ?_
  refine gfX11_121 (v := 0) C (kS sM h3 kc_114) (g_nk e2 (by decide) p0) dX11_save_12 ?_
  refine r_icmp_ge 60 C dX11_save_15 (by decide) (fun c4 => ?_) (fun c4 => ?_)
  · have c4' := i_le c4
    exact hret _ _ _ dX11_save_60 ⟨h3, (g_nk e2 (by decide) p0), (g_nk e2 (by decide) p1), (g_nk e2 (by decide) p2), (g_nk e2 (by decide) p3)⟩
  · have c4' := i_nle c4
    exfalso; omega
set_option maxHeartbeats 4000000 in
set_option maxRecDepth 100000 in
theorem ctX11_putBack_114 (l : Launch) (G : Gt) (w : Wv) (sM : Str KM XM w) (p0 : wI w 114 3 = 0) (p1 : wI w 114 49 = 0) (p2 : wI w 114 0 = 0) (p3 : wI w 114 1 = 0) : CtV l G yX11_putBack cX11_putBack 2 ({ frames := 0, cells := 0, slots := 0, locals := 0 } : Room) [.ref (gz G + 114)] w (fun w' => Ch [114] w w' ∧ wI w' 114 3 = 0 ∧ wI w' 114 49 = 0 ∧ wI w' 114 0 = 0 ∧ wI w' 114 1 = 0) := by
  refine enterV (by decide) (Nat.le_of_ble_eq_true rfl) ?_
  intro x el eG C hnm hret
  subst el; subst eG
  show V x 0 0 w 0 [(0, .ref (gz (xG x) + 114))] []
  have h0 : Ch [114] w w := Ch.rf
  have q0 : (0 : Int32).toInt = 0 := by decide
  refine r_aload_n 0 C dX11_putBack_0 rfl ?_
  refine r_aload_n 0 C dX11_putBack_1 rfl ?_
  refine gfX11_352 (v := (wI w 114 45)) C (kS sM h0 kc_114) rfl dX11_putBack_2 ?_
  refine pfX11_259 C (kS sM h0 kc_114) dX11_putBack_5 (fun w1 e2 => ?_)
  have h3 := Ch.put h0 e2 (by decide)
  refine r_iconst (v := 0) C dX11_putBack_8 (by decide) ?_
  refine r_istore_n [(1, .int 0), (0, .ref (gz (xG x) + 114))] C dX11_putBack_9 (by decide) rfl ?_
  refine r_iload_n 0 C dX11_putBack_10 rfl ?_
  refine r_aload_n 1 C dX11_putBack_11 rfl ?_
  refine gfX11_121 (v := 0) C (kS sM h3 kc_114) (g_nk e2 (by decide) p0) dX11_putBack_12 ?_
  refine r_icmp_ge 60 C dX11_putBack_15 (by decide) (fun c4 => ?_) (fun c4 => ?_)
  · have c4' := i_le c4
    exact hret _ _ _ dX11_putBack_60 ⟨h3, (g_nk e2 (by decide) p0), (g_nk e2 (by decide) p1), (g_nk e2 (by decide) p2), (g_nk e2 (by decide) p3)⟩
  · have c4' := i_nle c4
    exfalso; omega
set_option maxHeartbeats 4000000 in
set_option maxRecDepth 100000 in
theorem ctX11_follow_114 (l : Launch) (G : Gt) (w : Wv) (sM : Str KM XM w) (p0 : wI w 114 49 = 0) (a1 : Int32) : CtI l G yX11_follow cX11_follow 3 .int ({ frames := 0, cells := 0, slots := 0, locals := 0 } : Room) [.ref (gz G + 114), .int a1] w (fun r w' => Ch [] w w' ∧ (r.toInt = 0)) := by
  refine enterI (by decide) (Nat.le_of_ble_eq_true rfl) ?_
  intro x el eG C hret
  subst el; subst eG
  show V x 0 0 w 0 [(0, .ref (gz (xG x) + 114)), (1, .int a1)] []
  have h0 : Ch [] w w := Ch.rf
  have q0 : (0 : Int32).toInt = 0 := by decide
  refine r_iconst (v := 0) C dX11_follow_0 (by decide) ?_
  refine r_istore_n [(2, .int 0), (0, .ref (gz (xG x) + 114)), (1, .int a1)] C dX11_follow_1 (by decide) rfl ?_
  refine r_iload_n 0 C dX11_follow_2 rfl ?_
  refine r_iload_n 2 C dX11_follow_3 rfl ?_
  refine r_icmp_ge 40 C dX11_follow_4 (by decide) (fun c1 => ?_) (fun c1 => ?_)
  · have c1' := i_le c1
    refine r_iload_n 0 C dX11_follow_40 rfl ?_
    exact hret _ _ _ _ dX11_follow_41 rfl ⟨h0, by omega⟩
  · have c1' := i_nle c1
    refine r_iload_n 0 C dX11_follow_7 rfl ?_
    refine r_aload_n 1 C dX11_follow_8 rfl ?_
    refine gfX11_265 (v := 0) C (kS sM h0 kc_114) p0 dX11_follow_9 ?_
    refine r_icmp_ge 40 C dX11_follow_12 (by decide) (fun c2 => ?_) (fun c2 => ?_)
    · have c2' := i_le c2
      refine r_iload_n 0 C dX11_follow_40 rfl ?_
      exact hret _ _ _ _ dX11_follow_41 rfl ⟨h0, by omega⟩
    · have c2' := i_nle c2
      exfalso; omega
set_option maxHeartbeats 4000000 in
set_option maxRecDepth 100000 in
theorem ctX11_judge_114 (l : Launch) (G : Gt) (w : Wv) (sM : Str KM XM w) (p0 : wI w 114 3 = 0) (p1 : wI w 114 49 = 0) (p2 : wI w 114 0 = 0) (p3 : wI w 114 1 = 0) : CtI l G yX11_judge cX11_judge 2 .int ({ frames := 1, cells := 0, slots := 0, locals := 22 } : Room) [.ref (gz G + 114)] w (fun r w' => Ch [114] w w' ∧ (r.toInt = -1)) := by
  refine enterI (by decide) (Nat.le_of_ble_eq_true rfl) ?_
  intro x el eG C hret
  subst el; subst eG
  show V x 0 0 w 0 [(0, .ref (gz (xG x) + 114))] []
  have h0 : Ch [114] w w := Ch.rf
  have qm1 : ((-1) : Int32).toInt = (-1) := by decide
  have q0 : (0 : Int32).toInt = 0 := by decide
  have q30 : (30 : Int32).toInt = 30 := by decide
  refine r_aload_n 0 C dX11_judge_0 rfl ?_
  refine callVV C cwX11_355_V (ctX11_save_114 _ _ w (sS sM h0) p0 p1 p2 p3  ) (by decide) (kS sM h0 kc_114) rfl rfl rfl (Nat.le_of_ble_eq_true rfl) (by decide) dX11_judge_1 (fun w2 y1 => ?_)
  show V x 0 0 w2 4 [(0, .ref (gz (xG x) + 114))] []
  obtain ⟨h4, f5, f6, f7, f8⟩ := y1
  have h9 := Ch.tr h0 h4 (by decide)
  refine r_aload_n 0 C dX11_judge_4 rfl ?_
  refine r_bipush (v := 30) C dX11_judge_5 (by decide) ?_
  refine callVI C cwX11_358_V (ctX11_follow_114 _ _ w2 (sS sM h9) f6 30 ) (by decide) (kS sM h9 kc_114) rfl rfl rfl (Nat.le_of_ble_eq_true rfl) (by decide) dX11_judge_7 (fun r12 w11 y10 => ?_)
  show V x 0 0 w11 10 [(0, .ref (gz (xG x) + 114))] [.int r12]
  obtain ⟨h13, g14⟩ := y10
  have h15 := Ch.tr h9 h13 (by decide)
  refine r_istore_n [(1, .int r12), (0, .ref (gz (xG x) + 114))] C dX11_judge_10 (by decide) rfl ?_
  refine r_aload_n 1 C dX11_judge_11 rfl ?_
  refine callVV C cwX11_361_V (ctX11_putBack_114 _ _ w11 (sS sM h15) (h13.I (by decide) f5) (h13.I (by decide) f6) (h13.I (by decide) f7) (h13.I (by decide) f8)  ) (by decide) (kS sM h15 kc_114) rfl rfl rfl (Nat.le_of_ble_eq_true rfl) (by decide) dX11_judge_12 (fun w17 y16 => ?_)
  show V x 0 0 w17 15 [(1, .int r12), (0, .ref (gz (xG x) + 114))] []
  obtain ⟨h19, f20, f21, f22, f23⟩ := y16
  have h24 := Ch.tr h15 h19 (by decide)
  refine r_iload_n 0 C dX11_judge_15 rfl ?_
  refine r_aload_n 1 C dX11_judge_16 rfl ?_
  refine gfX11_265 (v := 0) C (kS sM h24 kc_114) f21 dX11_judge_17 ?_
  refine r_icmp_ne 27 C dX11_judge_20 (by decide) (fun c25 => ?_) (fun c25 => ?_)
  · have c25' := i_ne c25
    exfalso; omega
  · have c25' := i_eq c25
    refine r_iconst (v := (-1)) C dX11_judge_23 (by decide) ?_
    refine r_goto 28 C dX11_judge_24 (by decide) ?_
    exact hret _ _ _ _ dX11_judge_28 rfl ⟨h24, by omega⟩
set_option maxHeartbeats 4000000 in
set_option maxRecDepth 100000 in
theorem ctX11_tried_114 (l : Launch) (G : Gt) (w : Wv) (sM : Str KM XM w) (p0 : wI w 114 3 = 0) (p1 : wI w 114 49 = 0) (p2 : wI w 114 0 = 0) (p3 : wI w 114 1 = 0) (a1 : Int32) (a2 : Int32) : CtI l G yX11_tried cX11_tried 5 .int ({ frames := 2, cells := 0, slots := 0, locals := 44 } : Room) [.ref (gz G + 114), .int a1, .int a2] w (fun r w' => Ch [114] w w' ∧ (((a1.toInt < -1 ∨ 2 < a1.toInt) → r.toInt = -1000000001) ∧ ((0 ≤ a1.toInt ∧ a1.toInt ≤ 2 ∧ (a2.toInt < 0 ∨ 1 < a2.toInt)) → r.toInt = -1000000002) ∧ ((a1.toInt = -1 ∨ (0 ≤ a1.toInt ∧ a1.toInt ≤ 2 ∧ 0 ≤ a2.toInt ∧ a2.toInt ≤ 1)) → r.toInt = 0))) := by
  refine enterI (by decide) (Nat.le_of_ble_eq_true rfl) ?_
  intro x el eG C hret
  subst el; subst eG
  show V x 0 0 w 0 [(0, .ref (gz (xG x) + 114)), (1, .int a1), (2, .int a2)] []
  have h0 : Ch [114] w w := Ch.rf
  have qm1000000002 : ((-1000000002) : Int32).toInt = (-1000000002) := by decide
  have qm1000000001 : ((-1000000001) : Int32).toInt = (-1000000001) := by decide
  have qm1 : ((-1) : Int32).toInt = (-1) := by decide
  have q0 : (0 : Int32).toInt = 0 := by decide
  have q1 : (1 : Int32).toInt = 1 := by decide
  have q30 : (30 : Int32).toInt = 30 := by decide
  have qlm1 : ((-1) : Int64).toInt = (-1) := by decide
  have ql0 : (0 : Int64).toInt = 0 := by decide
  have ql1 : (1 : Int64).toInt = 1 := by decide
  have ql2 : (2 : Int64).toInt = 2 := by decide
  refine r_iload_n 1 C dX11_tried_0 rfl ?_
  refine r_i2l C dX11_tried_1 (fun v1 e2 => ?_)
  have v1' := i2l_ok e2
  refine r_ldc2 C mw7_0 dX11_tried_2 ?_
  refine r_ldc2 C mw7_1 dX11_tried_5 ?_
  refine callSI C cwX11_114_S (ctX11_in _ _ w   v1 (-1) 2 ) (by decide) rfl rfl (Nat.le_of_ble_eq_true rfl) (by decide) dX11_tried_8 (fun r5 w4 y3 => ?_)
  show V x 0 0 w4 11 [(0, .ref (gz (xG x) + 114)), (1, .int a1), (2, .int a2)] [.int r5]
  obtain ⟨h6, g7⟩ := y3
  have h8 := Ch.tr h0 h6 (by decide)
  refine r_if_ne 18 C dX11_tried_11 (by decide) (fun c9 => ?_) (fun c9 => ?_)
  · have c9' := i_ne c9
    refine r_iload_n 1 C dX11_tried_18 rfl ?_
    refine r_iconst (v := (-1)) C dX11_tried_19 (by decide) ?_
    refine r_icmp_eq 36 C dX11_tried_20 (by decide) (fun c10 => ?_) (fun c10 => ?_)
    · have c10' := i_eq c10
      refine r_aload_n 0 C dX11_tried_36 rfl ?_
      refine callVV C cwX11_355_V (ctX11_save_114 _ _ w4 (sS sM h8) (h6.I (by decide) p0) (h6.I (by decide) p1) (h6.I (by decide) p2) (h6.I (by decide) p3)  ) (by decide) (kS sM h8 kc_114) rfl rfl rfl (Nat.le_of_ble_eq_true rfl) (by decide) dX11_tried_37 (fun w12 y11 => ?_)
      show V x 0 0 w12 40 [(0, .ref (gz (xG x) + 114)), (1, .int a1), (2, .int a2)] []
      obtain ⟨h14, f15, f16, f17, f18⟩ := y11
      have h19 := Ch.tr h8 h14 (by decide)
      refine r_aload_n 0 C dX11_tried_40 rfl ?_
      refine r_bipush (v := 30) C dX11_tried_41 (by decide) ?_
      refine callVI C cwX11_358_V (ctX11_follow_114 _ _ w12 (sS sM h19) f16 30 ) (by decide) (kS sM h19 kc_114) rfl rfl rfl (Nat.le_of_ble_eq_true rfl) (by decide) dX11_tried_43 (fun r22 w21 y20 => ?_)
      show V x 0 0 w21 46 [(0, .ref (gz (xG x) + 114)), (1, .int a1), (2, .int a2)] [.int r22]
      obtain ⟨h23, g24⟩ := y20
      have h25 := Ch.tr h19 h23 (by decide)
      refine r_istore_n [(3, .int r22), (0, .ref (gz (xG x) + 114)), (1, .int a1), (2, .int a2)] C dX11_tried_46 (by decide) rfl ?_
      refine r_iload_n 2 C dX11_tried_47 rfl ?_
      refine r_iconst (v := (-1)) C dX11_tried_48 (by decide) ?_
      refine r_icmp_ne 59 C dX11_tried_49 (by decide) (fun c26 => ?_) (fun c26 => ?_)
      · have c26' := i_ne c26
        exfalso; omega
      · have c26' := i_eq c26
        refine r_aload_n 1 C dX11_tried_52 rfl ?_
        refine callVI C cwX11_298_V (ctX11_worth_114 _ _ w21 (sS sM h25) (h23.I (by decide) f15)  ) (by decide) (kS sM h25 kc_114) rfl rfl rfl (Nat.le_of_ble_eq_true rfl) (by decide) dX11_tried_53 (fun r29 w28 y27 => ?_)
        show V x 0 0 w28 56 [(3, .int r22), (0, .ref (gz (xG x) + 114)), (1, .int a1), (2, .int a2)] [.int r29]
        obtain ⟨h30, g31⟩ := y27
        have h32 := Ch.tr h25 h30 (by decide)
        refine r_goto 67 C dX11_tried_56 (by decide) ?_
        refine r_istore [(4, .int r29), (3, .int r22), (0, .ref (gz (xG x) + 114)), (1, .int a1), (2, .int a2)] C dX11_tried_67 (by decide) rfl ?_
        refine r_aload_n 2 C dX11_tried_69 rfl ?_
        refine callVV C cwX11_361_V (ctX11_putBack_114 _ _ w28 (sS sM h32) (h30.I (by decide) (h23.I (by decide) f15)) (h30.I (by decide) (h23.I (by decide) f16)) (h30.I (by decide) (h23.I (by decide) f17)) (h30.I (by decide) (h23.I (by decide) f18))  ) (by decide) (kS sM h32 kc_114) rfl rfl rfl (Nat.le_of_ble_eq_true rfl) (by decide) dX11_tried_70 (fun w34 y33 => ?_)
        show V x 0 0 w34 73 [(4, .int r29), (3, .int r22), (0, .ref (gz (xG x) + 114)), (1, .int a1), (2, .int a2)] []
        obtain ⟨h36, f37, f38, f39, f40⟩ := y33
        have h41 := Ch.tr h32 h36 (by decide)
        refine r_iload 0 C dX11_tried_73 rfl ?_
        exact hret _ _ _ _ dX11_tried_75 rfl ⟨h41, by omega⟩
    · have c10' := i_ne c10
      refine r_iload_n 2 C dX11_tried_23 rfl ?_
      refine r_i2l C dX11_tried_24 (fun v42 e43 => ?_)
      have v42' := i2l_ok e43
      refine r_lconst (v := 0) C dX11_tried_25 (by decide) ?_
      refine r_lconst (v := 1) C dX11_tried_26 (by decide) ?_
      refine callSI C cwX11_114_S (ctX11_in _ _ w4   v42 0 1 ) (by decide) rfl rfl (Nat.le_of_ble_eq_true rfl) (by decide) dX11_tried_27 (fun r46 w45 y44 => ?_)
      show V x 0 0 w45 30 [(0, .ref (gz (xG x) + 114)), (1, .int a1), (2, .int a2)] [.int r46]
      obtain ⟨h47, g48⟩ := y44
      have h49 := Ch.tr h8 h47 (by decide)
      refine r_if_ne 36 C dX11_tried_30 (by decide) (fun c50 => ?_) (fun c50 => ?_)
      · have c50' := i_ne c50
        refine r_aload_n 0 C dX11_tried_36 rfl ?_
        refine callVV C cwX11_355_V (ctX11_save_114 _ _ w45 (sS sM h49) (h47.I (by decide) (h6.I (by decide) p0)) (h47.I (by decide) (h6.I (by decide) p1)) (h47.I (by decide) (h6.I (by decide) p2)) (h47.I (by decide) (h6.I (by decide) p3))  ) (by decide) (kS sM h49 kc_114) rfl rfl rfl (Nat.le_of_ble_eq_true rfl) (by decide) dX11_tried_37 (fun w52 y51 => ?_)
        show V x 0 0 w52 40 [(0, .ref (gz (xG x) + 114)), (1, .int a1), (2, .int a2)] []
        obtain ⟨h54, f55, f56, f57, f58⟩ := y51
        have h59 := Ch.tr h49 h54 (by decide)
        refine r_aload_n 0 C dX11_tried_40 rfl ?_
        refine r_bipush (v := 30) C dX11_tried_41 (by decide) ?_
        refine callVI C cwX11_358_V (ctX11_follow_114 _ _ w52 (sS sM h59) f56 30 ) (by decide) (kS sM h59 kc_114) rfl rfl rfl (Nat.le_of_ble_eq_true rfl) (by decide) dX11_tried_43 (fun r62 w61 y60 => ?_)
        show V x 0 0 w61 46 [(0, .ref (gz (xG x) + 114)), (1, .int a1), (2, .int a2)] [.int r62]
        obtain ⟨h63, g64⟩ := y60
        have h65 := Ch.tr h59 h63 (by decide)
        refine r_istore_n [(3, .int r62), (0, .ref (gz (xG x) + 114)), (1, .int a1), (2, .int a2)] C dX11_tried_46 (by decide) rfl ?_
        refine r_iload_n 2 C dX11_tried_47 rfl ?_
        refine r_iconst (v := (-1)) C dX11_tried_48 (by decide) ?_
        refine r_icmp_ne 59 C dX11_tried_49 (by decide) (fun c66 => ?_) (fun c66 => ?_)
        · have c66' := i_ne c66
          refine r_aload_n 1 C dX11_tried_59 rfl ?_
          refine r_iload_n 2 C dX11_tried_60 rfl ?_
          refine r_iload_n 3 C dX11_tried_61 rfl ?_
          refine r_iconst (v := 1) C dX11_tried_62 (by decide) ?_
          refine r_iadd C dX11_tried_63 (fun v67 e68 => ?_)
          refine callVI C cwX11_289_V (ctX11_headsBy_114 _ _ w61 (sS sM h65) (h63.I (by decide) f55) a1 v67 ) (by decide) (kS sM h65 kc_114) rfl rfl rfl (Nat.le_of_ble_eq_true rfl) (by decide) dX11_tried_64 (fun r71 w70 y69 => ?_)
          show V x 0 0 w70 67 [(3, .int r62), (0, .ref (gz (xG x) + 114)), (1, .int a1), (2, .int a2)] [.int r71]
          obtain ⟨h72, g73⟩ := y69
          have h74 := Ch.tr h65 h72 (by decide)
          refine r_istore [(4, .int r71), (3, .int r62), (0, .ref (gz (xG x) + 114)), (1, .int a1), (2, .int a2)] C dX11_tried_67 (by decide) rfl ?_
          refine r_aload_n 2 C dX11_tried_69 rfl ?_
          refine callVV C cwX11_361_V (ctX11_putBack_114 _ _ w70 (sS sM h74) (h72.I (by decide) (h63.I (by decide) f55)) (h72.I (by decide) (h63.I (by decide) f56)) (h72.I (by decide) (h63.I (by decide) f57)) (h72.I (by decide) (h63.I (by decide) f58))  ) (by decide) (kS sM h74 kc_114) rfl rfl rfl (Nat.le_of_ble_eq_true rfl) (by decide) dX11_tried_70 (fun w76 y75 => ?_)
          show V x 0 0 w76 73 [(4, .int r71), (3, .int r62), (0, .ref (gz (xG x) + 114)), (1, .int a1), (2, .int a2)] []
          obtain ⟨h78, f79, f80, f81, f82⟩ := y75
          have h83 := Ch.tr h74 h78 (by decide)
          refine r_iload 0 C dX11_tried_73 rfl ?_
          exact hret _ _ _ _ dX11_tried_75 rfl ⟨h83, by omega⟩
        · have c66' := i_eq c66
          refine r_aload_n 1 C dX11_tried_52 rfl ?_
          refine callVI C cwX11_298_V (ctX11_worth_114 _ _ w61 (sS sM h65) (h63.I (by decide) f55)  ) (by decide) (kS sM h65 kc_114) rfl rfl rfl (Nat.le_of_ble_eq_true rfl) (by decide) dX11_tried_53 (fun r86 w85 y84 => ?_)
          show V x 0 0 w85 56 [(3, .int r62), (0, .ref (gz (xG x) + 114)), (1, .int a1), (2, .int a2)] [.int r86]
          obtain ⟨h87, g88⟩ := y84
          have h89 := Ch.tr h65 h87 (by decide)
          refine r_goto 67 C dX11_tried_56 (by decide) ?_
          refine r_istore [(4, .int r86), (3, .int r62), (0, .ref (gz (xG x) + 114)), (1, .int a1), (2, .int a2)] C dX11_tried_67 (by decide) rfl ?_
          refine r_aload_n 2 C dX11_tried_69 rfl ?_
          refine callVV C cwX11_361_V (ctX11_putBack_114 _ _ w85 (sS sM h89) (h87.I (by decide) (h63.I (by decide) f55)) (h87.I (by decide) (h63.I (by decide) f56)) (h87.I (by decide) (h63.I (by decide) f57)) (h87.I (by decide) (h63.I (by decide) f58))  ) (by decide) (kS sM h89 kc_114) rfl rfl rfl (Nat.le_of_ble_eq_true rfl) (by decide) dX11_tried_70 (fun w91 y90 => ?_)
          show V x 0 0 w91 73 [(4, .int r86), (3, .int r62), (0, .ref (gz (xG x) + 114)), (1, .int a1), (2, .int a2)] []
          obtain ⟨h93, f94, f95, f96, f97⟩ := y90
          have h98 := Ch.tr h89 h93 (by decide)
          refine r_iload 0 C dX11_tried_73 rfl ?_
          exact hret _ _ _ _ dX11_tried_75 rfl ⟨h98, by omega⟩
      · have c50' := i_eq c50
        refine r_ldc C mw5_239 dX11_tried_33 ?_
        exact hret _ _ _ _ dX11_tried_35 rfl ⟨h49, by omega⟩
  · have c9' := i_eq c9
    refine r_ldcw C mw6_112 dX11_tried_14 ?_
    exact hret _ _ _ _ dX11_tried_17 rfl ⟨h8, by omega⟩
set_option maxHeartbeats 4000000 in
set_option maxRecDepth 100000 in
theorem ctX11_where_114 (l : Launch) (G : Gt) (w : Wv) (sM : Str KM XM w) (p0 : wI w 114 3 = 0) (a1 : Int32) (a2 : Int32) : CtI l G yX11_where cX11_where 5 .int ({ frames := 2, cells := 0, slots := 0, locals := 46 } : Room) [.ref (gz G + 114), .int a1, .int a2] w (fun r w' => Ch [] w w' ∧ (r.toInt = -1000000001)) := by
  refine enterI (by decide) (Nat.le_of_ble_eq_true rfl) ?_
  intro x el eG C hret
  subst el; subst eG
  show V x 0 0 w 0 [(0, .ref (gz (xG x) + 114)), (1, .int a1), (2, .int a2)] []
  have h0 : Ch [] w w := Ch.rf
  have qm1000000001 : ((-1000000001) : Int32).toInt = (-1000000001) := by decide
  have q0 : (0 : Int32).toInt = 0 := by decide
  refine r_aload_n 0 C dX11_where_0 rfl ?_
  refine r_iload_n 1 C dX11_where_1 rfl ?_
  refine callVI C cwX11_301_V (ctX11_isCrowd_114 _ _ w (sS sM h0) p0 a1 ) (by decide) (kS sM h0 kc_114) rfl rfl rfl (Nat.le_of_ble_eq_true rfl) (by decide) dX11_where_2 (fun r3 w2 y1 => ?_)
  show V x 0 0 w2 5 [(0, .ref (gz (xG x) + 114)), (1, .int a1), (2, .int a2)] [.int r3]
  obtain ⟨h4, g5⟩ := y1
  have h6 := Ch.tr h0 h4 (by decide)
  refine r_if_ne 12 C dX11_where_5 (by decide) (fun c7 => ?_) (fun c7 => ?_)
  · have c7' := i_ne c7
    exfalso; omega
  · have c7' := i_eq c7
    refine r_ldcw C mw6_112 dX11_where_8 ?_
    exact hret _ _ _ _ dX11_where_11 rfl ⟨h6, by omega⟩
set_option maxHeartbeats 4000000 in
set_option maxRecDepth 100000 in
theorem ctX11_soonest_114 (l : Launch) (G : Gt) (w : Wv) (sM : Str KM XM w) (p0 : wI w 114 8 = 0) (a1 : Int32) (a2 : Int32) (a3 : Int32) : CtI l G yX11_soonest cX11_soonest 7 .int ({ frames := 2, cells := 0, slots := 0, locals := 46 } : Room) [.ref (gz G + 114), .int a1, .int a2, .int a3] w (fun r w' => Ch [] w w' ∧ (r.toInt = -1000000001)) := by
  refine enterI (by decide) (Nat.le_of_ble_eq_true rfl) ?_
  intro x el eG C hret
  subst el; subst eG
  show V x 0 0 w 0 [(0, .ref (gz (xG x) + 114)), (1, .int a1), (2, .int a2), (3, .int a3)] []
  have h0 : Ch [] w w := Ch.rf
  have qm1000000001 : ((-1000000001) : Int32).toInt = (-1000000001) := by decide
  have q0 : (0 : Int32).toInt = 0 := by decide
  have ql0 : (0 : Int64).toInt = 0 := by decide
  have ql2 : (2 : Int64).toInt = 2 := by decide
  refine r_iload_n 1 C dX11_soonest_0 rfl ?_
  refine r_i2l C dX11_soonest_1 (fun v1 e2 => ?_)
  have v1' := i2l_ok e2
  refine r_lconst (v := 0) C dX11_soonest_2 (by decide) ?_
  refine r_ldc2 C mw7_1 dX11_soonest_3 ?_
  refine callSI C cwX11_114_S (ctX11_in _ _ w   v1 0 2 ) (by decide) rfl rfl (Nat.le_of_ble_eq_true rfl) (by decide) dX11_soonest_6 (fun r5 w4 y3 => ?_)
  show V x 0 0 w4 9 [(0, .ref (gz (xG x) + 114)), (1, .int a1), (2, .int a2), (3, .int a3)] [.int r5]
  obtain ⟨h6, g7⟩ := y3
  have h8 := Ch.tr h0 h6 (by decide)
  refine r_if_eq 20 C dX11_soonest_9 (by decide) (fun c9 => ?_) (fun c9 => ?_)
  · have c9' := i_eq c9
    refine r_ldcw C mw6_112 dX11_soonest_20 ?_
    exact hret _ _ _ _ dX11_soonest_23 rfl ⟨h8, by omega⟩
  · have c9' := i_ne c9
    refine r_aload_n 0 C dX11_soonest_12 rfl ?_
    refine r_iload_n 2 C dX11_soonest_13 rfl ?_
    refine callVI C cwX11_310_V (ctX11_isTune_114 _ _ w4 (sS sM h8) (h6.I (by decide) p0) a2 ) (by decide) (kS sM h8 kc_114) rfl rfl rfl (Nat.le_of_ble_eq_true rfl) (by decide) dX11_soonest_14 (fun r12 w11 y10 => ?_)
    show V x 0 0 w11 17 [(0, .ref (gz (xG x) + 114)), (1, .int a1), (2, .int a2), (3, .int a3)] [.int r12]
    obtain ⟨h13, g14⟩ := y10
    have h15 := Ch.tr h8 h13 (by decide)
    refine r_if_ne 24 C dX11_soonest_17 (by decide) (fun c16 => ?_) (fun c16 => ?_)
    · have c16' := i_ne c16
      exfalso; omega
    · have c16' := i_eq c16
      refine r_ldcw C mw6_112 dX11_soonest_20 ?_
      exact hret _ _ _ _ dX11_soonest_23 rfl ⟨h15, by omega⟩
set_option maxHeartbeats 4000000 in
set_option maxRecDepth 100000 in
theorem ctX11_bestWall_114 (l : Launch) (G : Gt) (w : Wv) (sM : Str KM XM w) (p0 : wI w 114 3 = 0) (p1 : wI w 114 49 = 0) (p2 : wI w 114 0 = 0) (p3 : wI w 114 1 = 0) (a1 : Int32) (a2 : Int32) : CtI l G yX11_bestWall cX11_bestWall 9 .int ({ frames := 1, cells := 0, slots := 0, locals := 25 } : Room) [.ref (gz G + 114), .int a1, .int a2] w (fun r w' => Ch [114] w w' ∧ (((a1.toInt < 0 ∨ 2 < a1.toInt) → r.toInt = -1000000001) ∧ ((0 ≤ a1.toInt ∧ a1.toInt ≤ 2 ∧ (a2.toInt < 0 ∨ 1 < a2.toInt)) → r.toInt = -1000000002) ∧ ((0 ≤ a1.toInt ∧ a1.toInt ≤ 2 ∧ 0 ≤ a2.toInt ∧ a2.toInt ≤ 1) → r.toInt = -1))) := by
  refine enterI (by decide) (Nat.le_of_ble_eq_true rfl) ?_
  intro x el eG C hret
  subst el; subst eG
  show V x 0 0 w 0 [(0, .ref (gz (xG x) + 114)), (1, .int a1), (2, .int a2)] []
  have h0 : Ch [114] w w := Ch.rf
  have qm1000000002 : ((-1000000002) : Int32).toInt = (-1000000002) := by decide
  have qm1000000001 : ((-1000000001) : Int32).toInt = (-1000000001) := by decide
  have qm1 : ((-1) : Int32).toInt = (-1) := by decide
  have q0 : (0 : Int32).toInt = 0 := by decide
  have ql0 : (0 : Int64).toInt = 0 := by decide
  have ql1 : (1 : Int64).toInt = 1 := by decide
  have ql2 : (2 : Int64).toInt = 2 := by decide
  refine r_iload_n 1 C dX11_bestWall_0 rfl ?_
  refine r_i2l C dX11_bestWall_1 (fun v1 e2 => ?_)
  have v1' := i2l_ok e2
  refine r_lconst (v := 0) C dX11_bestWall_2 (by decide) ?_
  refine r_ldc2 C mw7_1 dX11_bestWall_3 ?_
  refine callSI C cwX11_114_S (ctX11_in _ _ w   v1 0 2 ) (by decide) rfl rfl (Nat.le_of_ble_eq_true rfl) (by decide) dX11_bestWall_6 (fun r5 w4 y3 => ?_)
  show V x 0 0 w4 9 [(0, .ref (gz (xG x) + 114)), (1, .int a1), (2, .int a2)] [.int r5]
  obtain ⟨h6, g7⟩ := y3
  have h8 := Ch.tr h0 h6 (by decide)
  refine r_if_ne 16 C dX11_bestWall_9 (by decide) (fun c9 => ?_) (fun c9 => ?_)
  · have c9' := i_ne c9
    refine r_iload_n 2 C dX11_bestWall_16 rfl ?_
    refine r_i2l C dX11_bestWall_17 (fun v10 e11 => ?_)
    have v10' := i2l_ok e11
    refine r_lconst (v := 0) C dX11_bestWall_18 (by decide) ?_
    refine r_lconst (v := 1) C dX11_bestWall_19 (by decide) ?_
    refine callSI C cwX11_114_S (ctX11_in _ _ w4   v10 0 1 ) (by decide) rfl rfl (Nat.le_of_ble_eq_true rfl) (by decide) dX11_bestWall_20 (fun r14 w13 y12 => ?_)
    show V x 0 0 w13 23 [(0, .ref (gz (xG x) + 114)), (1, .int a1), (2, .int a2)] [.int r14]
    obtain ⟨h15, g16⟩ := y12
    have h17 := Ch.tr h8 h15 (by decide)
    refine r_if_ne 29 C dX11_bestWall_23 (by decide) (fun c18 => ?_) (fun c18 => ?_)
    · have c18' := i_ne c18
      refine r_iconst (v := (-1)) C dX11_bestWall_29 (by decide) ?_
      refine r_istore_n [(3, .int (-1)), (0, .ref (gz (xG x) + 114)), (1, .int a1), (2, .int a2)] C dX11_bestWall_30 (by decide) rfl ?_
      refine r_iconst (v := 0) C dX11_bestWall_31 (by decide) ?_
      refine r_istore [(4, .int 0), (3, .int (-1)), (0, .ref (gz (xG x) + 114)), (1, .int a1), (2, .int a2)] C dX11_bestWall_32 (by decide) rfl ?_
      refine r_aload_n 2 C dX11_bestWall_34 rfl ?_
      refine callVV C cwX11_355_V (ctX11_save_114 _ _ w13 (sS sM h17) (h15.I (by decide) (h6.I (by decide) p0)) (h15.I (by decide) (h6.I (by decide) p1)) (h15.I (by decide) (h6.I (by decide) p2)) (h15.I (by decide) (h6.I (by decide) p3))  ) (by decide) (kS sM h17 kc_114) rfl rfl rfl (Nat.le_of_ble_eq_true rfl) (by decide) dX11_bestWall_35 (fun w20 y19 => ?_)
      show V x 0 0 w20 38 [(4, .int 0), (3, .int (-1)), (0, .ref (gz (xG x) + 114)), (1, .int a1), (2, .int a2)] []
      obtain ⟨h22, f23, f24, f25, f26⟩ := y19
      have h27 := Ch.tr h17 h22 (by decide)
      refine r_iconst (v := 0) C dX11_bestWall_38 (by decide) ?_
      refine r_istore [(5, .int 0), (4, .int 0), (3, .int (-1)), (0, .ref (gz (xG x) + 114)), (1, .int a1), (2, .int a2)] C dX11_bestWall_39 (by decide) rfl ?_
      refine r_iload 0 C dX11_bestWall_41 rfl ?_
      refine r_aload_n 3 C dX11_bestWall_43 rfl ?_
      refine gfX11_111 (v := 0) C (kS sM h27 kc_114) f25 dX11_bestWall_44 ?_
      refine r_aload_n 3 C dX11_bestWall_47 rfl ?_
      refine gfX11_118 (v := 0) C (kS sM h27 kc_114) f26 dX11_bestWall_48 ?_
      refine r_imul C dX11_bestWall_51 (fun v28 e29 => ?_)
      have k30 : (0 : Int32).toInt = 0 := by omega
      have v28' := imul_ok e29 (by rw [k30]; omega) (by rw [k30]; omega)
      rw [k30] at v28'
      refine r_icmp_ge 164 C dX11_bestWall_52 (by decide) (fun c31 => ?_) (fun c31 => ?_)
      · have c31' := i_le c31
        refine r_aload_n 3 C dX11_bestWall_164 rfl ?_
        refine callVV C cwX11_271_V (ctX11_findFar_114 _ _ w20 (sS sM h27) f25 f26  ) (by decide) (kS sM h27 kc_114) rfl rfl rfl (Nat.le_of_ble_eq_true rfl) (by decide) dX11_bestWall_165 (fun w33 y32 => ?_)
        show V x 0 0 w33 168 [(5, .int 0), (4, .int 0), (3, .int (-1)), (0, .ref (gz (xG x) + 114)), (1, .int a1), (2, .int a2)] []
        have h35 := y32
        have h36 := Ch.tr h27 h35 (by decide)
        refine r_iload_n 2 C dX11_bestWall_168 rfl ?_
        refine r_if_ge 176 C dX11_bestWall_169 (by decide) (fun c37 => ?_) (fun c37 => ?_)
        · have c37' := i_le c37
          exfalso; omega
        · have c37' := i_nle c37
          refine r_iconst (v := (-1)) C dX11_bestWall_172 (by decide) ?_
          refine r_goto 190 C dX11_bestWall_173 (by decide) ?_
          exact hret _ _ _ _ dX11_bestWall_190 rfl ⟨h36, by omega⟩
      · have c31' := i_nle c31
        exfalso; omega
    · have c18' := i_eq c18
      refine r_ldc C mw5_239 dX11_bestWall_26 ?_
      exact hret _ _ _ _ dX11_bestWall_28 rfl ⟨h17, by omega⟩
  · have c9' := i_eq c9
    refine r_ldcw C mw6_112 dX11_bestWall_12 ?_
    exact hret _ _ _ _ dX11_bestWall_15 rfl ⟨h8, by omega⟩
set_option maxHeartbeats 4000000 in
set_option maxRecDepth 100000 in
theorem ctX11_wax_114 (l : Launch) (G : Gt) (w : Wv) (sM : Str KM XM w) (p0 : wI w 114 3 = 0) (p1 : wI w 114 49 = 0) (p2 : wI w 114 0 = 0) (p3 : wI w 114 1 = 0) (a1 : Int32) : CtI l G yX11_wax cX11_wax 5 .int ({ frames := 1, cells := 0, slots := 0, locals := 25 } : Room) [.ref (gz G + 114), .int a1] w (fun r w' => Ch [114] w w' ∧ (((a1.toInt < 0 ∨ 2 < a1.toInt) → r.toInt = -1000000001) ∧ ((0 ≤ a1.toInt ∧ a1.toInt ≤ 2) → r.toInt = 0))) := by
  refine enterI (by decide) (Nat.le_of_ble_eq_true rfl) ?_
  intro x el eG C hret
  subst el; subst eG
  show V x 0 0 w 0 [(0, .ref (gz (xG x) + 114)), (1, .int a1)] []
  have h0 : Ch [114] w w := Ch.rf
  have qm1000000001 : ((-1000000001) : Int32).toInt = (-1000000001) := by decide
  have q0 : (0 : Int32).toInt = 0 := by decide
  have q30 : (30 : Int32).toInt = 30 := by decide
  have ql0 : (0 : Int64).toInt = 0 := by decide
  have ql2 : (2 : Int64).toInt = 2 := by decide
  refine r_iload_n 1 C dX11_wax_0 rfl ?_
  refine r_i2l C dX11_wax_1 (fun v1 e2 => ?_)
  have v1' := i2l_ok e2
  refine r_lconst (v := 0) C dX11_wax_2 (by decide) ?_
  refine r_ldc2 C mw7_1 dX11_wax_3 ?_
  refine callSI C cwX11_114_S (ctX11_in _ _ w   v1 0 2 ) (by decide) rfl rfl (Nat.le_of_ble_eq_true rfl) (by decide) dX11_wax_6 (fun r5 w4 y3 => ?_)
  show V x 0 0 w4 9 [(0, .ref (gz (xG x) + 114)), (1, .int a1)] [.int r5]
  obtain ⟨h6, g7⟩ := y3
  have h8 := Ch.tr h0 h6 (by decide)
  refine r_if_ne 16 C dX11_wax_9 (by decide) (fun c9 => ?_) (fun c9 => ?_)
  · have c9' := i_ne c9
    refine r_aload_n 0 C dX11_wax_16 rfl ?_
    refine callVV C cwX11_355_V (ctX11_save_114 _ _ w4 (sS sM h8) (h6.I (by decide) p0) (h6.I (by decide) p1) (h6.I (by decide) p2) (h6.I (by decide) p3)  ) (by decide) (kS sM h8 kc_114) rfl rfl rfl (Nat.le_of_ble_eq_true rfl) (by decide) dX11_wax_17 (fun w11 y10 => ?_)
    show V x 0 0 w11 20 [(0, .ref (gz (xG x) + 114)), (1, .int a1)] []
    obtain ⟨h13, f14, f15, f16, f17⟩ := y10
    have h18 := Ch.tr h8 h13 (by decide)
    refine r_aload_n 0 C dX11_wax_20 rfl ?_
    refine r_bipush (v := 30) C dX11_wax_21 (by decide) ?_
    refine callVI C cwX11_358_V (ctX11_follow_114 _ _ w11 (sS sM h18) f15 30 ) (by decide) (kS sM h18 kc_114) rfl rfl rfl (Nat.le_of_ble_eq_true rfl) (by decide) dX11_wax_23 (fun r21 w20 y19 => ?_)
    show V x 0 0 w20 26 [(0, .ref (gz (xG x) + 114)), (1, .int a1)] [.int r21]
    obtain ⟨h22, g23⟩ := y19
    have h24 := Ch.tr h18 h22 (by decide)
    refine r_istore_n [(2, .int r21), (0, .ref (gz (xG x) + 114)), (1, .int a1)] C dX11_wax_26 (by decide) rfl ?_
    refine r_iconst (v := 0) C dX11_wax_27 (by decide) ?_
    refine r_istore_n [(3, .int 0), (2, .int r21), (0, .ref (gz (xG x) + 114)), (1, .int a1)] C dX11_wax_28 (by decide) rfl ?_
    refine r_iconst (v := 0) C dX11_wax_29 (by decide) ?_
    refine r_istore [(4, .int 0), (3, .int 0), (2, .int r21), (0, .ref (gz (xG x) + 114)), (1, .int a1)] C dX11_wax_30 (by decide) rfl ?_
    refine r_iload 0 C dX11_wax_32 rfl ?_
    refine r_aload_n 3 C dX11_wax_34 rfl ?_
    refine gfX11_121 (v := 0) C (kS sM h24 kc_114) (h22.I (by decide) f14) dX11_wax_35 ?_
    refine r_icmp_ge 98 C dX11_wax_38 (by decide) (fun c25 => ?_) (fun c25 => ?_)
    · have c25' := i_le c25
      refine r_aload_n 3 C dX11_wax_98 rfl ?_
      refine callVV C cwX11_361_V (ctX11_putBack_114 _ _ w20 (sS sM h24) (h22.I (by decide) f14) (h22.I (by decide) f15) (h22.I (by decide) f16) (h22.I (by decide) f17)  ) (by decide) (kS sM h24 kc_114) rfl rfl rfl (Nat.le_of_ble_eq_true rfl) (by decide) dX11_wax_99 (fun w27 y26 => ?_)
      show V x 0 0 w27 102 [(4, .int 0), (3, .int 0), (2, .int r21), (0, .ref (gz (xG x) + 114)), (1, .int a1)] []
      obtain ⟨h29, f30, f31, f32, f33⟩ := y26
      have h34 := Ch.tr h24 h29 (by decide)
      refine r_iload_n 1 C dX11_wax_102 rfl ?_
      exact hret _ _ _ _ dX11_wax_103 rfl ⟨h34, by omega⟩
    · have c25' := i_nle c25
      exfalso; omega
  · have c9' := i_eq c9
    refine r_ldcw C mw6_112 dX11_wax_12 ?_
    exact hret _ _ _ _ dX11_wax_15 rfl ⟨h8, by omega⟩
set_option maxHeartbeats 4000000 in
set_option maxRecDepth 100000 in
theorem ctX11_see_114 (l : Launch) (G : Gt) (w : Wv) (sM : Str KM XM w) (p0 : wI w 114 0 = 0) (p1 : wI w 114 1 = 0) (p2 : wI w 114 3 = 0) (a1 : Int32) (a2 : Int32) (a3 : Int32) (a4 : Int32) : CtI l G yX11_see cX11_see 5 .int ({ frames := 2, cells := 0, slots := 0, locals := 46 } : Room) [.ref (gz G + 114), .int a1, .int a2, .int a3, .int a4] w (fun r w' => Ch [] w w' ∧ (r.toInt = -1000000001)) := by
  refine enterI (by decide) (Nat.le_of_ble_eq_true rfl) ?_
  intro x el eG C hret
  subst el; subst eG
  show V x 0 0 w 0 [(0, .ref (gz (xG x) + 114)), (1, .int a1), (2, .int a2), (3, .int a3), (4, .int a4)] []
  have h0 : Ch [] w w := Ch.rf
  have qm1000000001 : ((-1000000001) : Int32).toInt = (-1000000001) := by decide
  have q0 : (0 : Int32).toInt = 0 := by decide
  refine r_aload_n 0 C dX11_see_0 rfl ?_
  refine r_iload_n 1 C dX11_see_1 rfl ?_
  refine callVI C cwX11_301_V (ctX11_isCrowd_114 _ _ w (sS sM h0) p2 a1 ) (by decide) (kS sM h0 kc_114) rfl rfl rfl (Nat.le_of_ble_eq_true rfl) (by decide) dX11_see_2 (fun r3 w2 y1 => ?_)
  show V x 0 0 w2 5 [(0, .ref (gz (xG x) + 114)), (1, .int a1), (2, .int a2), (3, .int a3), (4, .int a4)] [.int r3]
  obtain ⟨h4, g5⟩ := y1
  have h6 := Ch.tr h0 h4 (by decide)
  refine r_if_eq 18 C dX11_see_5 (by decide) (fun c7 => ?_) (fun c7 => ?_)
  · have c7' := i_eq c7
    refine r_ldcw C mw6_112 dX11_see_18 ?_
    exact hret _ _ _ _ dX11_see_21 rfl ⟨h6, by omega⟩
  · have c7' := i_ne c7
    exfalso; omega
set_option maxHeartbeats 4000000 in
set_option maxRecDepth 100000 in
theorem ctX11_walks_114 (l : Launch) (G : Gt) (w : Wv) (sM : Str KM XM w) (p0 : wI w 114 8 = 0) (a1 : Int32) (a2 : Int32) (a3 : Int32) : CtI l G yX11_walks cX11_walks 8 .int ({ frames := 2, cells := 0, slots := 0, locals := 46 } : Room) [.ref (gz G + 114), .int a1, .int a2, .int a3] w (fun r w' => Ch [] w w' ∧ (r.toInt = -1000000001)) := by
  refine enterI (by decide) (Nat.le_of_ble_eq_true rfl) ?_
  intro x el eG C hret
  subst el; subst eG
  show V x 0 0 w 0 [(0, .ref (gz (xG x) + 114)), (1, .int a1), (2, .int a2), (3, .int a3)] []
  have h0 : Ch [] w w := Ch.rf
  have qm1000000001 : ((-1000000001) : Int32).toInt = (-1000000001) := by decide
  have q0 : (0 : Int32).toInt = 0 := by decide
  refine r_aload_n 0 C dX11_walks_0 rfl ?_
  refine r_iload_n 2 C dX11_walks_1 rfl ?_
  refine callVI C cwX11_310_V (ctX11_isTune_114 _ _ w (sS sM h0) p0 a2 ) (by decide) (kS sM h0 kc_114) rfl rfl rfl (Nat.le_of_ble_eq_true rfl) (by decide) dX11_walks_2 (fun r3 w2 y1 => ?_)
  show V x 0 0 w2 5 [(0, .ref (gz (xG x) + 114)), (1, .int a1), (2, .int a2), (3, .int a3)] [.int r3]
  obtain ⟨h4, g5⟩ := y1
  have h6 := Ch.tr h0 h4 (by decide)
  refine r_if_ne 12 C dX11_walks_5 (by decide) (fun c7 => ?_) (fun c7 => ?_)
  · have c7' := i_ne c7
    exfalso; omega
  · have c7' := i_eq c7
    refine r_ldcw C mw6_112 dX11_walks_8 ?_
    exact hret _ _ _ _ dX11_walks_11 rfl ⟨h6, by omega⟩
set_option maxHeartbeats 4000000 in
set_option maxRecDepth 100000 in
theorem ctX11_tear_114 (l : Launch) (G : Gt) (w : Wv) (sM : Str KM XM w) (p0 : wI w 114 52 = 0) : CtI l G yX11_tear cX11_tear 2 .int ({ frames := 0, cells := 0, slots := 0, locals := 0 } : Room) [.ref (gz G + 114)] w (fun r w' => Ch [114] w w' ∧ (r.toInt = 0)) := by
  refine enterI (by decide) (Nat.le_of_ble_eq_true rfl) ?_
  intro x el eG C hret
  subst el; subst eG
  show V x 0 0 w 0 [(0, .ref (gz (xG x) + 114))] []
  have h0 : Ch [114] w w := Ch.rf
  have q0 : (0 : Int32).toInt = 0 := by decide
  refine r_aload_n 0 C dX11_tear_0 rfl ?_
  refine gfX11_268 (v := 0) C (kS sM h0 kc_114) p0 dX11_tear_1 ?_
  refine r_istore_n [(1, .int 0), (0, .ref (gz (xG x) + 114))] C dX11_tear_4 (by decide) rfl ?_
  refine r_aload_n 1 C dX11_tear_5 rfl ?_
  refine r_iconst (v := 0) C dX11_tear_6 (by decide) ?_
  refine pfX11_268 C (kS sM h0 kc_114) dX11_tear_7 (fun w1 e2 => ?_)
  have h3 := Ch.put h0 e2 (by decide)
  refine r_iload_n 0 C dX11_tear_10 rfl ?_
  exact hret _ _ _ _ dX11_tear_11 rfl ⟨h3, by omega⟩
set_option maxHeartbeats 4000000 in
set_option maxRecDepth 100000 in
theorem ctX11_seed_114 (l : Launch) (G : Gt) (w : Wv) (sM : Str KM XM w) (p0 : wI w 114 18 = 0) (a1 : Int32) : CtI l G yX11_seed cX11_seed 3 .int ({ frames := 0, cells := 0, slots := 0, locals := 0 } : Room) [.ref (gz G + 114), .int a1] w (fun r w' => Ch [114] w w' ∧ ((a1.toInt < 0 → r.toInt = -1000000002) ∧ (0 ≤ a1.toInt → r.toInt = 0))) := by
  refine enterI (by decide) (Nat.le_of_ble_eq_true rfl) ?_
  intro x el eG C hret
  subst el; subst eG
  show V x 0 0 w 0 [(0, .ref (gz (xG x) + 114)), (1, .int a1)] []
  have h0 : Ch [114] w w := Ch.rf
  have qm1000000002 : ((-1000000002) : Int32).toInt = (-1000000002) := by decide
  have q0 : (0 : Int32).toInt = 0 := by decide
  refine r_iload_n 1 C dX11_seed_0 rfl ?_
  refine r_if_ge 7 C dX11_seed_1 (by decide) (fun c1 => ?_) (fun c1 => ?_)
  · have c1' := i_le c1
    refine r_aload_n 0 C dX11_seed_7 rfl ?_
    refine gfX11_334 (v := 0) C (kS sM h0 kc_114) p0 dX11_seed_8 ?_
    refine r_istore_n [(2, .int 0), (0, .ref (gz (xG x) + 114)), (1, .int a1)] C dX11_seed_11 (by decide) rfl ?_
    refine r_aload_n 1 C dX11_seed_12 rfl ?_
    refine r_iload_n 2 C dX11_seed_13 rfl ?_
    refine pfX11_334 C (kS sM h0 kc_114) dX11_seed_14 (fun w2 e3 => ?_)
    have h4 := Ch.put h0 e3 (by decide)
    refine r_iload_n 0 C dX11_seed_17 rfl ?_
    exact hret _ _ _ _ dX11_seed_18 rfl ⟨h4, by omega⟩
  · have c1' := i_nle c1
    refine r_ldc C mw5_239 dX11_seed_4 ?_
    exact hret _ _ _ _ dX11_seed_6 rfl ⟨h0, by omega⟩
set_option maxHeartbeats 4000000 in
set_option maxRecDepth 100000 in
theorem ctX11_keep_114 (l : Launch) (G : Gt) (w : Wv) (sM : Str KM XM w) (a1 : Int32) : CtI l G yX11_keep cX11_keep 4 .int ({ frames := 1, cells := 0, slots := 0, locals := 25 } : Room) [.ref (gz G + 114), .int a1] w (fun r w' => Ch [143, 144] w w' ∧ (((a1.toInt < 0 ∨ 1 < a1.toInt) → r.toInt = -1000000001) ∧ ((0 ≤ a1.toInt ∧ a1.toInt ≤ 1) → r.toInt = 1))) := by
  refine enterI (by decide) (Nat.le_of_ble_eq_true rfl) ?_
  intro x el eG C hret
  subst el; subst eG
  show V x 0 0 w 0 [(0, .ref (gz (xG x) + 114)), (1, .int a1)] []
  have h0 : Ch [143, 144] w w := Ch.rf
  have qm1000000001 : ((-1000000001) : Int32).toInt = (-1000000001) := by decide
  have q0 : (0 : Int32).toInt = 0 := by decide
  have q1 : (1 : Int32).toInt = 1 := by decide
  have q6 : (6 : Int32).toInt = 6 := by decide
  have q42 : (42 : Int32).toInt = 42 := by decide
  have q48 : (48 : Int32).toInt = 48 := by decide
  have q54 : (54 : Int32).toInt = 54 := by decide
  have q60 : (60 : Int32).toInt = 60 := by decide
  have q61 : (61 : Int32).toInt = 61 := by decide
  have q62 : (62 : Int32).toInt = 62 := by decide
  have q70 : (70 : Int32).toInt = 70 := by decide
  have ql0 : (0 : Int64).toInt = 0 := by decide
  have ql1 : (1 : Int64).toInt = 1 := by decide
  refine r_iload_n 1 C dX11_keep_0 rfl ?_
  refine r_i2l C dX11_keep_1 (fun v1 e2 => ?_)
  have v1' := i2l_ok e2
  refine r_lconst (v := 0) C dX11_keep_2 (by decide) ?_
  refine r_lconst (v := 1) C dX11_keep_3 (by decide) ?_
  refine callSI C cwX11_114_S (ctX11_in _ _ w   v1 0 1 ) (by decide) rfl rfl (Nat.le_of_ble_eq_true rfl) (by decide) dX11_keep_4 (fun r5 w4 y3 => ?_)
  show V x 0 0 w4 7 [(0, .ref (gz (xG x) + 114)), (1, .int a1)] [.int r5]
  obtain ⟨h6, g7⟩ := y3
  have h8 := Ch.tr h0 h6 (by decide)
  refine r_if_ne 14 C dX11_keep_7 (by decide) (fun c9 => ?_) (fun c9 => ?_)
  · have c9' := i_ne c9
    refine r_bipush (v := 70) C dX11_keep_14 (by decide) ?_
    refine r_iload_n 1 C dX11_keep_16 rfl ?_
    refine r_imul C dX11_keep_17 (fun v10 e11 => ?_)
    have k12 : (70 : Int32).toInt = 70 := by omega
    have v10' := imul_ok e11 (by rw [k12]; omega) (by rw [k12]; omega)
    rw [k12] at v10'
    refine r_istore_n [(2, .int v10), (0, .ref (gz (xG x) + 114)), (1, .int a1)] C dX11_keep_18 (by decide) rfl ?_
    refine r_iconst (v := 0) C dX11_keep_19 (by decide) ?_
    refine r_istore_n [(3, .int 0), (2, .int v10), (0, .ref (gz (xG x) + 114)), (1, .int a1)] C dX11_keep_20 (by decide) rfl ?_
    have LP13 : ∀ (f14 : Nat) (i15 : Int32) (w16 : Wv), Ch [143] w4 w16 → 0 ≤ i15.toInt → i15.toInt ≤ 42 → 42 - i15.toInt < f14 → V x 0 0 w16 21 [(0, .ref (gz (xG x) + 114)), (1, .int a1), (2, .int v10), (3, .int i15)] [] := by
      intro f14
      induction f14 with
      | zero => intro i15 w16 h17 a18 a19  a20; exfalso; omega
      | succ f14 ih21 =>
        intro i15 w16 h17 a18 a19  a20
        have h22 := Ch.tr h8 h17 (by decide)
        refine r_iload_n 3 C dX11_keep_21 rfl ?_
        refine r_bipush (v := 42) C dX11_keep_22 (by decide) ?_
        refine r_icmp_ge 47 C dX11_keep_24 (by decide) (fun c23 => ?_) (fun c23 => ?_)
        · have c23' := i_le c23
          refine r_iconst (v := 0) C dX11_keep_47 (by decide) ?_
          refine r_istore_n [(3, .int 0), (0, .ref (gz (xG x) + 114)), (1, .int a1), (2, .int v10)] C dX11_keep_48 (by decide) rfl ?_
          have LP24 : ∀ (f25 : Nat) (i26 : Int32) (w27 : Wv), Ch [143] w16 w27 → 0 ≤ i26.toInt → i26.toInt ≤ 6 → 6 - i26.toInt < f25 → V x 0 0 w27 49 [(0, .ref (gz (xG x) + 114)), (1, .int a1), (2, .int v10), (3, .int i26)] [] := by
            intro f25
            induction f25 with
            | zero => intro i26 w27 h28 a29 a30  a31; exfalso; omega
            | succ f25 ih32 =>
              intro i26 w27 h28 a29 a30  a31
              have h33 := Ch.tr h22 h28 (by decide)
              refine r_iload_n 3 C dX11_keep_49 rfl ?_
              refine r_bipush (v := 6) C dX11_keep_50 (by decide) ?_
              refine r_icmp_ge 112 C dX11_keep_52 (by decide) (fun c34 => ?_) (fun c34 => ?_)
              · have c34' := i_le c34
                refine r_aload_n 0 C dX11_keep_112 rfl ?_
                refine gfX11_104 143 C (kS sM h33 kc_114) (xS sM h33 xc_114_56) dX11_keep_113 ?_
                refine r_iload_n 2 C dX11_keep_116 rfl ?_
                refine r_bipush (v := 60) C dX11_keep_117 (by decide) ?_
                refine r_iadd C dX11_keep_119 (fun v35 e36 => ?_)
                have v35' := iadd_ok e36 (by omega) (by omega)
                refine r_aload_n 0 C dX11_keep_120 rfl ?_
                refine gfX11_259 (v := (wI w 114 13)) C (kS sM h33 kc_114) (h28.I (by decide) (h17.I (by decide) (h6.I (by decide) rfl))) dX11_keep_121 ?_
                refine r_iast C (kS sM h33 kc_143) (vin (by omega) (by omega)) dX11_keep_124 (fun w37 e38 => ?_)
                have h39 := Ch.put h33 e38 (by decide)
                refine r_aload_n 0 C dX11_keep_125 rfl ?_
                refine gfX11_104 143 C (kS sM h39 kc_114) (xS sM h39 xc_114_56) dX11_keep_126 ?_
                refine r_iload_n 2 C dX11_keep_129 rfl ?_
                refine r_bipush (v := 61) C dX11_keep_130 (by decide) ?_
                refine r_iadd C dX11_keep_132 (fun v40 e41 => ?_)
                have v40' := iadd_ok e41 (by omega) (by omega)
                refine r_aload_n 0 C dX11_keep_133 rfl ?_
                refine gfX11_262 (v := (wI w 114 17)) C (kS sM h39 kc_114) (g_nn e38 (by decide) (h28.I (by decide) (h17.I (by decide) (h6.I (by decide) rfl)))) dX11_keep_134 ?_
                refine r_iast C (kS sM h39 kc_143) (vin (by omega) (by omega)) dX11_keep_137 (fun w42 e43 => ?_)
                have h44 := Ch.put h39 e43 (by decide)
                refine r_aload_n 0 C dX11_keep_138 rfl ?_
                refine gfX11_104 143 C (kS sM h44 kc_114) (xS sM h44 xc_114_56) dX11_keep_139 ?_
                refine r_iload_n 2 C dX11_keep_142 rfl ?_
                refine r_bipush (v := 62) C dX11_keep_143 (by decide) ?_
                refine r_iadd C dX11_keep_145 (fun v45 e46 => ?_)
                have v45' := iadd_ok e46 (by omega) (by omega)
                refine r_aload_n 0 C dX11_keep_146 rfl ?_
                refine gfX11_334 (v := (wI w 114 18)) C (kS sM h44 kc_114) (g_nn e43 (by decide) (g_nn e38 (by decide) (h28.I (by decide) (h17.I (by decide) (h6.I (by decide) rfl))))) dX11_keep_147 ?_
                refine r_iast C (kS sM h44 kc_143) (vin (by omega) (by omega)) dX11_keep_150 (fun w47 e48 => ?_)
                have h49 := Ch.put h44 e48 (by decide)
                refine r_aload_n 0 C dX11_keep_151 rfl ?_
                refine gfX11_107 144 C (kS sM h49 kc_114) (xS sM h49 xc_114_57) dX11_keep_152 ?_
                refine r_iload_n 1 C dX11_keep_155 rfl ?_
                refine r_iconst (v := 1) C dX11_keep_156 (by decide) ?_
                refine r_zast C (kS sM h49 kc_144) (vin (by omega) (by omega)) (nar_z (z_of (by omega))) dX11_keep_157 (fun w50 e51 => ?_)
                have h52 := Ch.put h49 e51 (by decide)
                refine r_iconst (v := 1) C dX11_keep_158 (by decide) ?_
                exact hret _ _ _ _ dX11_keep_159 rfl ⟨h52, by omega⟩
              · have c34' := i_nle c34
                refine r_aload_n 0 C dX11_keep_55 rfl ?_
                refine gfX11_104 143 C (kS sM h33 kc_114) (xS sM h33 xc_114_56) dX11_keep_56 ?_
                refine r_iload_n 2 C dX11_keep_59 rfl ?_
                refine r_bipush (v := 42) C dX11_keep_60 (by decide) ?_
                refine r_iadd C dX11_keep_62 (fun v53 e54 => ?_)
                have v53' := iadd_ok e54 (by omega) (by omega)
                refine r_iload_n 3 C dX11_keep_63 rfl ?_
                refine r_iadd C dX11_keep_64 (fun v55 e56 => ?_)
                have v55' := iadd_ok e56 (by omega) (by omega)
                refine r_aload_n 0 C dX11_keep_65 rfl ?_
                refine gfX11_38 122 C (kS sM h33 kc_114) (xS sM h33 xc_114_14) dX11_keep_66 ?_
                refine r_iload_n 3 C dX11_keep_69 rfl ?_
                refine r_iald C (kS sM h33 kc_122) (vin (by omega) (by omega)) dX11_keep_70 ?_
                generalize (wI w27 122 (i26).toNatClampNeg) = v57
                refine r_iast C (kS sM h33 kc_143) (vin (by omega) (by omega)) dX11_keep_71 (fun w58 e59 => ?_)
                have h60 := Ch.put h33 e59 (by decide)
                refine r_aload_n 0 C dX11_keep_72 rfl ?_
                refine gfX11_104 143 C (kS sM h60 kc_114) (xS sM h60 xc_114_56) dX11_keep_73 ?_
                refine r_iload_n 2 C dX11_keep_76 rfl ?_
                refine r_bipush (v := 48) C dX11_keep_77 (by decide) ?_
                refine r_iadd C dX11_keep_79 (fun v61 e62 => ?_)
                have v61' := iadd_ok e62 (by omega) (by omega)
                refine r_iload_n 3 C dX11_keep_80 rfl ?_
                refine r_iadd C dX11_keep_81 (fun v63 e64 => ?_)
                have v63' := iadd_ok e64 (by omega) (by omega)
                refine r_aload_n 0 C dX11_keep_82 rfl ?_
                refine gfX11_41 123 C (kS sM h60 kc_114) (xS sM h60 xc_114_15) dX11_keep_83 ?_
                refine r_iload_n 3 C dX11_keep_86 rfl ?_
                refine r_iald C (kS sM h60 kc_123) (vin (by omega) (by omega)) dX11_keep_87 ?_
                generalize (wI w58 123 (i26).toNatClampNeg) = v65
                refine r_iast C (kS sM h60 kc_143) (vin (by omega) (by omega)) dX11_keep_88 (fun w66 e67 => ?_)
                have h68 := Ch.put h60 e67 (by decide)
                refine r_aload_n 0 C dX11_keep_89 rfl ?_
                refine gfX11_104 143 C (kS sM h68 kc_114) (xS sM h68 xc_114_56) dX11_keep_90 ?_
                refine r_iload_n 2 C dX11_keep_93 rfl ?_
                refine r_bipush (v := 54) C dX11_keep_94 (by decide) ?_
                refine r_iadd C dX11_keep_96 (fun v69 e70 => ?_)
                have v69' := iadd_ok e70 (by omega) (by omega)
                refine r_iload_n 3 C dX11_keep_97 rfl ?_
                refine r_iadd C dX11_keep_98 (fun v71 e72 => ?_)
                have v71' := iadd_ok e72 (by omega) (by omega)
                refine r_aload_n 0 C dX11_keep_99 rfl ?_
                refine gfX11_44 124 C (kS sM h68 kc_114) (xS sM h68 xc_114_16) dX11_keep_100 ?_
                refine r_iload_n 3 C dX11_keep_103 rfl ?_
                refine r_iald C (kS sM h68 kc_124) (vin (by omega) (by omega)) dX11_keep_104 ?_
                generalize (wI w66 124 (i26).toNatClampNeg) = v73
                refine r_iast C (kS sM h68 kc_143) (vin (by omega) (by omega)) dX11_keep_105 (fun w74 e75 => ?_)
                have h76 := Ch.put h68 e75 (by decide)
                obtain ⟨i77, e78⟩ : ∃ z : Int32, i26 + Int32.ofInt 1 = z := ⟨_, rfl⟩
                have i77' := iinc_ok e78 (by decide) (by omega) (by omega)
                refine r_iinc [(3, .int i77), (0, .ref (gz (xG x) + 114)), (1, .int a1), (2, .int v10)] 3 C dX11_keep_106 rfl e78 (by decide) rfl ?_
                refine r_goto 49 C dX11_keep_109 (by decide) ?_
                refine r_lv [1, 2, 3, 0] rfl ?_
                exact ih32 _ _ (Ch.put (Ch.put (Ch.put h28 e59 (by decide)) e67 (by decide)) e75 (by decide)) (by omega) (by omega) (by omega)
          refine r_lv [1, 2, 3, 0] rfl ?_
          exact LP24 7 _ _ Ch.rf (by omega) (by omega) (by omega)
        · have c23' := i_nle c23
          refine r_aload_n 0 C dX11_keep_27 rfl ?_
          refine gfX11_104 143 C (kS sM h22 kc_114) (xS sM h22 xc_114_56) dX11_keep_28 ?_
          refine r_iload_n 2 C dX11_keep_31 rfl ?_
          refine r_iload_n 3 C dX11_keep_32 rfl ?_
          refine r_iadd C dX11_keep_33 (fun v79 e80 => ?_)
          have v79' := iadd_ok e80 (by omega) (by omega)
          refine r_aload_n 0 C dX11_keep_34 rfl ?_
          refine gfX11_7 115 C (kS sM h22 kc_114) (xS sM h22 xc_114_2) dX11_keep_35 ?_
          refine r_iload_n 3 C dX11_keep_38 rfl ?_
          refine r_iald C (kS sM h22 kc_115) (vin (by omega) (by omega)) dX11_keep_39 ?_
          generalize (wI w16 115 (i15).toNatClampNeg) = v81
          refine r_iast C (kS sM h22 kc_143) (vin (by omega) (by omega)) dX11_keep_40 (fun w82 e83 => ?_)
          have h84 := Ch.put h22 e83 (by decide)
          obtain ⟨i85, e86⟩ : ∃ z : Int32, i15 + Int32.ofInt 1 = z := ⟨_, rfl⟩
          have i85' := iinc_ok e86 (by decide) (by omega) (by omega)
          refine r_iinc [(3, .int i85), (0, .ref (gz (xG x) + 114)), (1, .int a1), (2, .int v10)] 3 C dX11_keep_41 rfl e86 (by decide) rfl ?_
          refine r_goto 21 C dX11_keep_44 (by decide) ?_
          refine r_lv [1, 2, 3, 0] rfl ?_
          exact ih21 _ _ (Ch.put h17 e83 (by decide)) (by omega) (by omega) (by omega)
    refine r_lv [2, 3, 1, 0] rfl ?_
    exact LP13 43 _ _ Ch.rf (by omega) (by omega) (by omega)
  · have c9' := i_eq c9
    refine r_ldcw C mw6_112 dX11_keep_10 ?_
    exact hret _ _ _ _ dX11_keep_13 rfl ⟨h8, by omega⟩
set_option maxHeartbeats 4000000 in
set_option maxRecDepth 100000 in
theorem ctX11_goBack_114 (l : Launch) (G : Gt) (w : Wv) (sM : Str KM XM w) (p0 : wI w 144 0 = 0) (p1 : wI w 144 1 = 0) (a1 : Int32) : CtI l G yX11_goBack cX11_goBack 4 .int ({ frames := 1, cells := 0, slots := 0, locals := 25 } : Room) [.ref (gz G + 114), .int a1] w (fun r w' => Ch [] w w' ∧ (((a1.toInt < 0 ∨ 1 < a1.toInt) → r.toInt = -1000000001) ∧ ((0 ≤ a1.toInt ∧ a1.toInt ≤ 1) → r.toInt = -1000000003))) := by
  refine enterI (by decide) (Nat.le_of_ble_eq_true rfl) ?_
  intro x el eG C hret
  subst el; subst eG
  show V x 0 0 w 0 [(0, .ref (gz (xG x) + 114)), (1, .int a1)] []
  have h0 : Ch [] w w := Ch.rf
  have qm1000000003 : ((-1000000003) : Int32).toInt = (-1000000003) := by decide
  have qm1000000001 : ((-1000000001) : Int32).toInt = (-1000000001) := by decide
  have q0 : (0 : Int32).toInt = 0 := by decide
  have q1 : (1 : Int32).toInt = 1 := by decide
  have ql0 : (0 : Int64).toInt = 0 := by decide
  have ql1 : (1 : Int64).toInt = 1 := by decide
  refine r_iload_n 1 C dX11_goBack_0 rfl ?_
  refine r_i2l C dX11_goBack_1 (fun v1 e2 => ?_)
  have v1' := i2l_ok e2
  refine r_lconst (v := 0) C dX11_goBack_2 (by decide) ?_
  refine r_lconst (v := 1) C dX11_goBack_3 (by decide) ?_
  refine callSI C cwX11_114_S (ctX11_in _ _ w   v1 0 1 ) (by decide) rfl rfl (Nat.le_of_ble_eq_true rfl) (by decide) dX11_goBack_4 (fun r5 w4 y3 => ?_)
  show V x 0 0 w4 7 [(0, .ref (gz (xG x) + 114)), (1, .int a1)] [.int r5]
  obtain ⟨h6, g7⟩ := y3
  have h8 := Ch.tr h0 h6 (by decide)
  refine r_if_ne 14 C dX11_goBack_7 (by decide) (fun c9 => ?_) (fun c9 => ?_)
  · have c9' := i_ne c9
    refine r_aload_n 0 C dX11_goBack_14 rfl ?_
    refine gfX11_107 144 C (kS sM h8 kc_114) (xS sM h8 xc_114_57) dX11_goBack_15 ?_
    refine r_iload_n 1 C dX11_goBack_18 rfl ?_
    rcases (show a1.toInt = 0 ∨ a1.toInt = 1 by omega) with c10 | c10
    · obtain rfl : a1 = 0 := i_of (by omega)
      refine r_zald C (kS sM h8 kc_144) (vin (by omega) (by omega)) dX11_goBack_19 ?_
      rw [show wI w4 144 (Int32.toNatClampNeg 0) = 0 from (h6.I (by decide) p0)]
      refine r_if_ne 27 C dX11_goBack_20 (by decide) (fun c11 => ?_) (fun c11 => ?_)
      · have c11' := i_ne c11
        exfalso; omega
      · have c11' := i_eq c11
        refine r_ldcw C mw6_189 dX11_goBack_23 ?_
        exact hret _ _ _ _ dX11_goBack_26 rfl ⟨h8, by omega⟩
    · obtain rfl : a1 = 1 := i_of (by omega)
      refine r_zald C (kS sM h8 kc_144) (vin (by omega) (by omega)) dX11_goBack_19 ?_
      rw [show wI w4 144 (Int32.toNatClampNeg 1) = 0 from (h6.I (by decide) p1)]
      refine r_if_ne 27 C dX11_goBack_20 (by decide) (fun c12 => ?_) (fun c12 => ?_)
      · have c12' := i_ne c12
        exfalso; omega
      · have c12' := i_eq c12
        refine r_ldcw C mw6_189 dX11_goBack_23 ?_
        exact hret _ _ _ _ dX11_goBack_26 rfl ⟨h8, by omega⟩
  · have c9' := i_eq c9
    refine r_ldcw C mw6_112 dX11_goBack_10 ?_
    exact hret _ _ _ _ dX11_goBack_13 rfl ⟨h8, by omega⟩
