set_option maxHeartbeats 4000000 in
set_option maxRecDepth 100000 in
theorem ctX1_isCell (l : Launch) (G : Gt) (w : Wv) (a1 : Int32) : CtI l G yX1_isCell cX1_isCell 1 .boolean ({ frames := 0, cells := 0, slots := 0, locals := 0 } : Room) [.int a1] w (fun r w' => Ch [] w w' ∧ ((0 ≤ a1.toInt ∧ a1.toInt < 42 → r.toInt = 1) ∧ (a1.toInt < 0 ∨ 42 ≤ a1.toInt → r.toInt = 0))) := by
  refine enterI (by decide) (Nat.le_of_ble_eq_true rfl) ?_
  intro x el eG C hret
  subst el; subst eG
  show V x 0 0 w 0 [(0, .int a1)] []
  have h0 : Ch [] w w := Ch.rf
  have q0 : (0 : Int32).toInt = 0 := by decide
  have q1 : (1 : Int32).toInt = 1 := by decide
  have q42 : (42 : Int32).toInt = 42 := by decide
  refine r_iload_n 0 C dX1_isCell_0 rfl ?_
  refine r_if_lt 14 C dX1_isCell_1 (by decide) (fun c1 => ?_) (fun c1 => ?_)
  · have c1' := i_lt c1
    refine r_iconst (v := 0) C dX1_isCell_14 (by decide) ?_
    exact hret _ _ _ _ dX1_isCell_15 (nar_z (z_of (by omega))) ⟨h0, by omega⟩
  · have c1' := i_nlt c1
    refine r_iload_n 0 C dX1_isCell_4 rfl ?_
    refine r_bipush (v := 42) C dX1_isCell_5 (by decide) ?_
    refine r_icmp_ge 14 C dX1_isCell_7 (by decide) (fun c2 => ?_) (fun c2 => ?_)
    · have c2' := i_le c2
      refine r_iconst (v := 0) C dX1_isCell_14 (by decide) ?_
      exact hret _ _ _ _ dX1_isCell_15 (nar_z (z_of (by omega))) ⟨h0, by omega⟩
    · have c2' := i_nle c2
      refine r_iconst (v := 1) C dX1_isCell_10 (by decide) ?_
      refine r_goto 15 C dX1_isCell_11 (by decide) ?_
      exact hret _ _ _ _ dX1_isCell_15 (nar_z (z_of (by omega))) ⟨h0, by omega⟩
set_option maxHeartbeats 4000000 in
set_option maxRecDepth 100000 in
theorem ctX10_isKind (l : Launch) (G : Gt) (w : Wv) (a1 : Int32) : CtI l G yX10_isKind cX10_isKind 1 .boolean ({ frames := 0, cells := 0, slots := 0, locals := 0 } : Room) [.int a1] w (fun r w' => Ch [] w w' ∧ ((0 ≤ a1.toInt ∧ a1.toInt < 3 → r.toInt = 1) ∧ (a1.toInt < 0 ∨ 3 ≤ a1.toInt → r.toInt = 0))) := by
  refine enterI (by decide) (Nat.le_of_ble_eq_true rfl) ?_
  intro x el eG C hret
  subst el; subst eG
  show V x 0 0 w 0 [(0, .int a1)] []
  have h0 : Ch [] w w := Ch.rf
  have q0 : (0 : Int32).toInt = 0 := by decide
  have q1 : (1 : Int32).toInt = 1 := by decide
  have q3 : (3 : Int32).toInt = 3 := by decide
  refine r_iload_n 0 C dX10_isKind_0 rfl ?_
  refine r_if_lt 13 C dX10_isKind_1 (by decide) (fun c1 => ?_) (fun c1 => ?_)
  · have c1' := i_lt c1
    refine r_iconst (v := 0) C dX10_isKind_13 (by decide) ?_
    exact hret _ _ _ _ dX10_isKind_14 (nar_z (z_of (by omega))) ⟨h0, by omega⟩
  · have c1' := i_nlt c1
    refine r_iload_n 0 C dX10_isKind_4 rfl ?_
    refine r_iconst (v := 3) C dX10_isKind_5 (by decide) ?_
    refine r_icmp_ge 13 C dX10_isKind_6 (by decide) (fun c2 => ?_) (fun c2 => ?_)
    · have c2' := i_le c2
      refine r_iconst (v := 0) C dX10_isKind_13 (by decide) ?_
      exact hret _ _ _ _ dX10_isKind_14 (nar_z (z_of (by omega))) ⟨h0, by omega⟩
    · have c2' := i_nle c2
      refine r_iconst (v := 1) C dX10_isKind_9 (by decide) ?_
      refine r_goto 14 C dX10_isKind_10 (by decide) ?_
      exact hret _ _ _ _ dX10_isKind_14 (nar_z (z_of (by omega))) ⟨h0, by omega⟩
set_option maxHeartbeats 4000000 in
set_option maxRecDepth 100000 in
theorem ctX10_isStep (l : Launch) (G : Gt) (w : Wv) (a1 : Int32) : CtI l G yX10_isStep cX10_isStep 1 .boolean ({ frames := 0, cells := 0, slots := 0, locals := 0 } : Room) [.int a1] w (fun r w' => Ch [] w w' ∧ ((0 ≤ a1.toInt ∧ a1.toInt ≤ 4 → r.toInt = 1) ∧ (a1.toInt < 0 ∨ 4 < a1.toInt → r.toInt = 0))) := by
  refine enterI (by decide) (Nat.le_of_ble_eq_true rfl) ?_
  intro x el eG C hret
  subst el; subst eG
  show V x 0 0 w 0 [(0, .int a1)] []
  have h0 : Ch [] w w := Ch.rf
  have q0 : (0 : Int32).toInt = 0 := by decide
  have q1 : (1 : Int32).toInt = 1 := by decide
  have q4 : (4 : Int32).toInt = 4 := by decide
  refine r_iload_n 0 C dX10_isStep_0 rfl ?_
  refine r_if_lt 13 C dX10_isStep_1 (by decide) (fun c1 => ?_) (fun c1 => ?_)
  · have c1' := i_lt c1
    refine r_iconst (v := 0) C dX10_isStep_13 (by decide) ?_
    exact hret _ _ _ _ dX10_isStep_14 (nar_z (z_of (by omega))) ⟨h0, by omega⟩
  · have c1' := i_nlt c1
    refine r_iload_n 0 C dX10_isStep_4 rfl ?_
    refine r_iconst (v := 4) C dX10_isStep_5 (by decide) ?_
    refine r_icmp_gt 13 C dX10_isStep_6 (by decide) (fun c2 => ?_) (fun c2 => ?_)
    · have c2' := i_lt c2
      refine r_iconst (v := 0) C dX10_isStep_13 (by decide) ?_
      exact hret _ _ _ _ dX10_isStep_14 (nar_z (z_of (by omega))) ⟨h0, by omega⟩
    · have c2' := i_nlt c2
      refine r_iconst (v := 1) C dX10_isStep_9 (by decide) ?_
      refine r_goto 14 C dX10_isStep_10 (by decide) ?_
      exact hret _ _ _ _ dX10_isStep_14 (nar_z (z_of (by omega))) ⟨h0, by omega⟩
set_option maxHeartbeats 4000000 in
set_option maxRecDepth 100000 in
theorem ctX10_isImage (l : Launch) (G : Gt) (w : Wv) (a1 : Int32) : CtI l G yX10_isImage cX10_isImage 1 .boolean ({ frames := 0, cells := 0, slots := 0, locals := 0 } : Room) [.int a1] w (fun r w' => Ch [] w w' ∧ ((0 ≤ a1.toInt ∧ a1.toInt < 2 → r.toInt = 1) ∧ (a1.toInt < 0 ∨ 2 ≤ a1.toInt → r.toInt = 0))) := by
  refine enterI (by decide) (Nat.le_of_ble_eq_true rfl) ?_
  intro x el eG C hret
  subst el; subst eG
  show V x 0 0 w 0 [(0, .int a1)] []
  have h0 : Ch [] w w := Ch.rf
  have q0 : (0 : Int32).toInt = 0 := by decide
  have q1 : (1 : Int32).toInt = 1 := by decide
  have q2 : (2 : Int32).toInt = 2 := by decide
  refine r_iload_n 0 C dX10_isImage_0 rfl ?_
  refine r_if_lt 13 C dX10_isImage_1 (by decide) (fun c1 => ?_) (fun c1 => ?_)
  · have c1' := i_lt c1
    refine r_iconst (v := 0) C dX10_isImage_13 (by decide) ?_
    exact hret _ _ _ _ dX10_isImage_14 (nar_z (z_of (by omega))) ⟨h0, by omega⟩
  · have c1' := i_nlt c1
    refine r_iload_n 0 C dX10_isImage_4 rfl ?_
    refine r_iconst (v := 2) C dX10_isImage_5 (by decide) ?_
    refine r_icmp_ge 13 C dX10_isImage_6 (by decide) (fun c2 => ?_) (fun c2 => ?_)
    · have c2' := i_le c2
      refine r_iconst (v := 0) C dX10_isImage_13 (by decide) ?_
      exact hret _ _ _ _ dX10_isImage_14 (nar_z (z_of (by omega))) ⟨h0, by omega⟩
    · have c2' := i_nle c2
      refine r_iconst (v := 1) C dX10_isImage_9 (by decide) ?_
      refine r_goto 14 C dX10_isImage_10 (by decide) ?_
      exact hret _ _ _ _ dX10_isImage_14 (nar_z (z_of (by omega))) ⟨h0, by omega⟩
set_option maxHeartbeats 4000000 in
set_option maxRecDepth 100000 in
theorem ctX10_isCrowd_0 (l : Launch) (G : Gt) (w : Wv) (sC : Str KC XC w) (p0 : wI w 3 3 = 0) (a1 : Int32) : CtI l G yX10_isCrowd cX10_isCrowd 2 .boolean ({ frames := 0, cells := 0, slots := 0, locals := 0 } : Room) [.ref (gz G + 0), .int a1] w (fun r w' => Ch [] w w' ∧ (r.toInt = 0)) := by
  refine enterI (by decide) (Nat.le_of_ble_eq_true rfl) ?_
  intro x el eG C hret
  subst el; subst eG
  show V x 0 0 w 0 [(0, .ref (gz (xG x) + 0)), (1, .int a1)] []
  have h0 : Ch [] w w := Ch.rf
  have q0 : (0 : Int32).toInt = 0 := by decide
  refine r_iload_n 1 C dX10_isCrowd_0 rfl ?_
  refine r_if_lt 19 C dX10_isCrowd_1 (by decide) (fun c1 => ?_) (fun c1 => ?_)
  · have c1' := i_lt c1
    refine r_iconst (v := 0) C dX10_isCrowd_19 (by decide) ?_
    exact hret _ _ _ _ dX10_isCrowd_20 (nar_z (z_of (by omega))) ⟨h0, by omega⟩
  · have c1' := i_nlt c1
    refine r_iload_n 1 C dX10_isCrowd_4 rfl ?_
    refine r_aload_n 0 C dX10_isCrowd_5 rfl ?_
    refine gfX10_19 3 C (kS sC h0 kc_0) (xS sC h0 xc_0_1) dX10_isCrowd_6 ?_
    refine gfX10_129 (v := 0) C (kS sC h0 kc_3) p0 dX10_isCrowd_9 ?_
    refine r_icmp_ge 19 C dX10_isCrowd_12 (by decide) (fun c2 => ?_) (fun c2 => ?_)
    · have c2' := i_le c2
      refine r_iconst (v := 0) C dX10_isCrowd_19 (by decide) ?_
      exact hret _ _ _ _ dX10_isCrowd_20 (nar_z (z_of (by omega))) ⟨h0, by omega⟩
    · have c2' := i_nle c2
      exfalso; omega
set_option maxHeartbeats 4000000 in
set_option maxRecDepth 100000 in
theorem ctX10_isTune_0 (l : Launch) (G : Gt) (w : Wv) (sC : Str KC XC w) (p0 : wI w 3 4 = 0) (a1 : Int32) : CtI l G yX10_isTune cX10_isTune 2 .boolean ({ frames := 0, cells := 0, slots := 0, locals := 0 } : Room) [.ref (gz G + 0), .int a1] w (fun r w' => Ch [] w w' ∧ (r.toInt = 0)) := by
  refine enterI (by decide) (Nat.le_of_ble_eq_true rfl) ?_
  intro x el eG C hret
  subst el; subst eG
  show V x 0 0 w 0 [(0, .ref (gz (xG x) + 0)), (1, .int a1)] []
  have h0 : Ch [] w w := Ch.rf
  have q0 : (0 : Int32).toInt = 0 := by decide
  refine r_iload_n 1 C dX10_isTune_0 rfl ?_
  refine r_if_lt 19 C dX10_isTune_1 (by decide) (fun c1 => ?_) (fun c1 => ?_)
  · have c1' := i_lt c1
    refine r_iconst (v := 0) C dX10_isTune_19 (by decide) ?_
    exact hret _ _ _ _ dX10_isTune_20 (nar_z (z_of (by omega))) ⟨h0, by omega⟩
  · have c1' := i_nlt c1
    refine r_iload_n 1 C dX10_isTune_4 rfl ?_
    refine r_aload_n 0 C dX10_isTune_5 rfl ?_
    refine gfX10_19 3 C (kS sC h0 kc_0) (xS sC h0 xc_0_1) dX10_isTune_6 ?_
    refine gfX10_132 (v := 0) C (kS sC h0 kc_3) p0 dX10_isTune_9 ?_
    refine r_icmp_ge 19 C dX10_isTune_12 (by decide) (fun c2 => ?_) (fun c2 => ?_)
    · have c2' := i_le c2
      refine r_iconst (v := 0) C dX10_isTune_19 (by decide) ?_
      exact hret _ _ _ _ dX10_isTune_20 (nar_z (z_of (by omega))) ⟨h0, by omega⟩
    · have c2' := i_nle c2
      exfalso; omega
set_option maxHeartbeats 4000000 in
set_option maxRecDepth 100000 in
theorem ctX10_isTuneOrNone_0 (l : Launch) (G : Gt) (w : Wv) (sC : Str KC XC w) (p0 : wI w 3 4 = 0) (a1 : Int32) : CtI l G yX10_isTuneOrNone cX10_isTuneOrNone 2 .boolean ({ frames := 1, cells := 0, slots := 0, locals := 21 } : Room) [.ref (gz G + 0), .int a1] w (fun r w' => Ch [] w w' ∧ ((a1.toInt = -1 → r.toInt = 1) ∧ (¬ a1.toInt = -1 → r.toInt = 0))) := by
  refine enterI (by decide) (Nat.le_of_ble_eq_true rfl) ?_
  intro x el eG C hret
  subst el; subst eG
  show V x 0 0 w 0 [(0, .ref (gz (xG x) + 0)), (1, .int a1)] []
  have h0 : Ch [] w w := Ch.rf
  have qm1 : ((-1) : Int32).toInt = (-1) := by decide
  have q0 : (0 : Int32).toInt = 0 := by decide
  have q1 : (1 : Int32).toInt = 1 := by decide
  refine r_iload_n 1 C dX10_isTuneOrNone_0 rfl ?_
  refine r_iconst (v := (-1)) C dX10_isTuneOrNone_1 (by decide) ?_
  refine r_icmp_eq 13 C dX10_isTuneOrNone_2 (by decide) (fun c1 => ?_) (fun c1 => ?_)
  · have c1' := i_eq c1
    refine r_iconst (v := 1) C dX10_isTuneOrNone_13 (by decide) ?_
    refine r_goto 18 C dX10_isTuneOrNone_14 (by decide) ?_
    exact hret _ _ _ _ dX10_isTuneOrNone_18 (nar_z (z_of (by omega))) ⟨h0, by omega⟩
  · have c1' := i_ne c1
    refine r_aload_n 0 C dX10_isTuneOrNone_5 rfl ?_
    refine r_iload_n 1 C dX10_isTuneOrNone_6 rfl ?_
    refine callVI C cwX10_190_V (ctX10_isTune_0 _ _ w (sS sC h0) p0 a1 ) (by decide) (kS sC h0 kc_0) rfl rfl rfl (Nat.le_of_ble_eq_true rfl) (by decide) dX10_isTuneOrNone_7 (fun r4 w3 p2 => ?_)
    show V x 0 0 w3 10 [(0, .ref (gz (xG x) + 0)), (1, .int a1)] [.int r4]
    obtain ⟨h5, g6⟩ := p2
    have h7 := Ch.tr h0 h5 (by decide)
    refine r_if_eq 17 C dX10_isTuneOrNone_10 (by decide) (fun c8 => ?_) (fun c8 => ?_)
    · have c8' := i_eq c8
      refine r_iconst (v := 0) C dX10_isTuneOrNone_17 (by decide) ?_
      exact hret _ _ _ _ dX10_isTuneOrNone_18 (nar_z (z_of (by omega))) ⟨h7, by omega⟩
    · have c8' := i_ne c8
      exfalso; omega
set_option maxHeartbeats 4000000 in
set_option maxRecDepth 100000 in
theorem ctX1_cellAt_21 (l : Launch) (G : Gt) (w : Wv) (sC : Str KC XC w) (p0 : wI w 21 2 = 0) (p1 : wI w 21 3 = 0) (a1 : Int32) (a2 : Int32) : CtI l G yX1_cellAt cX1_cellAt 3 .int ({ frames := 0, cells := 0, slots := 0, locals := 0 } : Room) [.ref (gz G + 21), .int a1, .int a2] w (fun r w' => Ch [] w w' ∧ (r.toInt = -1)) := by
  refine enterI (by decide) (Nat.le_of_ble_eq_true rfl) ?_
  intro x el eG C hret
  subst el; subst eG
  show V x 0 0 w 0 [(0, .ref (gz (xG x) + 21)), (1, .int a1), (2, .int a2)] []
  have h0 : Ch [] w w := Ch.rf
  have qm1 : ((-1) : Int32).toInt = (-1) := by decide
  have q0 : (0 : Int32).toInt = 0 := by decide
  refine r_iload_n 1 C dX1_cellAt_0 rfl ?_
  refine r_if_lt 35 C dX1_cellAt_1 (by decide) (fun c1 => ?_) (fun c1 => ?_)
  · have c1' := i_lt c1
    refine r_iconst (v := (-1)) C dX1_cellAt_35 (by decide) ?_
    exact hret _ _ _ _ dX1_cellAt_36 rfl ⟨h0, by omega⟩
  · have c1' := i_nlt c1
    refine r_iload_n 1 C dX1_cellAt_4 rfl ?_
    refine r_aload_n 0 C dX1_cellAt_5 rfl ?_
    refine gfX1_37 (v := 0) C (kS sC h0 kc_21) p0 dX1_cellAt_6 ?_
    refine r_icmp_ge 35 C dX1_cellAt_9 (by decide) (fun c2 => ?_) (fun c2 => ?_)
    · have c2' := i_le c2
      refine r_iconst (v := (-1)) C dX1_cellAt_35 (by decide) ?_
      exact hret _ _ _ _ dX1_cellAt_36 rfl ⟨h0, by omega⟩
    · have c2' := i_nle c2
      exfalso; omega
set_option maxHeartbeats 4000000 in
set_option maxRecDepth 100000 in
theorem ctX1_code_21 (l : Launch) (G : Gt) (w : Wv) (sC : Str KC XC w) (a1 : Int32) (b1 : (-1) ≤ a1.toInt ∧ a1.toInt ≤ (-1)) : CtI l G yX1_code cX1_code 2 .int ({ frames := 1, cells := 0, slots := 0, locals := 20 } : Room) [.ref (gz G + 21), .int a1] w (fun r w' => Ch [] w w' ∧ (r.toInt = -1)) := by
  refine enterI (by decide) (Nat.le_of_ble_eq_true rfl) ?_
  intro x el eG C hret
  subst el; subst eG
  show V x 0 0 w 0 [(0, .ref (gz (xG x) + 21)), (1, .int a1)] []
  have h0 : Ch [] w w := Ch.rf
  have qm1 : ((-1) : Int32).toInt = (-1) := by decide
  have q0 : (0 : Int32).toInt = 0 := by decide
  refine r_iload_n 1 C dX1_code_0 rfl ?_
  refine callSI C cwX1_65_S (ctX1_isCell _ _ w   a1 ) (by decide) rfl rfl (Nat.le_of_ble_eq_true rfl) (by decide) dX1_code_1 (fun r3 w2 p1 => ?_)
  show V x 0 0 w2 4 [(0, .ref (gz (xG x) + 21)), (1, .int a1)] [.int r3]
  obtain ⟨h4, g5⟩ := p1
  have h6 := Ch.tr h0 h4 (by decide)
  refine r_if_eq 16 C dX1_code_4 (by decide) (fun c7 => ?_) (fun c7 => ?_)
  · have c7' := i_eq c7
    refine r_iconst (v := (-1)) C dX1_code_16 (by decide) ?_
    exact hret _ _ _ _ dX1_code_17 rfl ⟨h6, by omega⟩
  · have c7' := i_ne c7
    refine r_aload_n 0 C dX1_code_7 rfl ?_
    refine gfX1_15 23 C (kS sC h6 kc_21) (xS sC h6 xc_21_4) dX1_code_8 ?_
    refine r_iload_n 1 C dX1_code_11 rfl ?_
    refine r_iald C (kS sC h6 kc_23) (vin (by omega) (by omega)) dX1_code_12 ?_
    generalize (wI w2 23 (a1).toNatClampNeg) = v8
    refine r_goto 17 C dX1_code_13 (by decide) ?_
    exact hret _ _ _ _ dX1_code_17 rfl ⟨h6, by omega⟩
set_option maxHeartbeats 4000000 in
set_option maxRecDepth 100000 in
theorem ctX1_forgetWays_21 (l : Launch) (G : Gt) (w : Wv) (sC : Str KC XC w)  : CtV l G yX1_forgetWays cX1_forgetWays 2 ({ frames := 0, cells := 0, slots := 0, locals := 0 } : Room) [.ref (gz G + 21)] w (fun w' => Ch [26] w w') := by
  refine enterV (by decide) (Nat.le_of_ble_eq_true rfl) ?_
  intro x el eG C hnm hret
  subst el; subst eG
  show V x 0 0 w 0 [(0, .ref (gz (xG x) + 21))] []
  have h0 : Ch [26] w w := Ch.rf
  have q0 : (0 : Int32).toInt = 0 := by decide
  have q42 : (42 : Int32).toInt = 42 := by decide
  refine r_iconst (v := 0) C dX1_forgetWays_0 (by decide) ?_
  refine r_istore_n [(1, .int 0), (0, .ref (gz (xG x) + 21))] C dX1_forgetWays_1 (by decide) rfl ?_
  have LP1 : ∀ (f2 : Nat) (i3 : Int32) (w4 : Wv), Ch [26] w w4 → 0 ≤ i3.toInt → i3.toInt ≤ 42 → 42 - i3.toInt < f2 → V x 0 0 w4 2 [(0, .ref (gz (xG x) + 21)), (1, .int i3)] [] := by
    intro f2
    induction f2 with
    | zero => intro i3 w4 h5 a6 a7  a8; exfalso; omega
    | succ f2 ih9 =>
      intro i3 w4 h5 a6 a7  a8
      have h10 := Ch.tr h0 h5 (by decide)
      refine r_iload_n 1 C dX1_forgetWays_2 rfl ?_
      refine r_bipush (v := 42) C dX1_forgetWays_3 (by decide) ?_
      refine r_icmp_ge 21 C dX1_forgetWays_5 (by decide) (fun c11 => ?_) (fun c11 => ?_)
      · have c11' := i_le c11
        exact hret _ _ _ dX1_forgetWays_21 h10
      · have c11' := i_nle c11
        refine r_aload_n 0 C dX1_forgetWays_8 rfl ?_
        refine gfX1_24 26 C (kS sC h10 kc_21) (xS sC h10 xc_21_7) dX1_forgetWays_9 ?_
        refine r_iload_n 1 C dX1_forgetWays_12 rfl ?_
        refine r_iconst (v := 0) C dX1_forgetWays_13 (by decide) ?_
        refine r_zast C (kS sC h10 kc_26) (vin (by omega) (by omega)) (nar_z (z_of (by omega))) dX1_forgetWays_14 (fun w12 e13 => ?_)
        have h14 := Ch.put h10 e13 (by decide)
        obtain ⟨i15, e16⟩ : ∃ z : Int32, i3 + Int32.ofInt 1 = z := ⟨_, rfl⟩
        have i15' := iinc_ok e16 (by decide) (by omega) (by omega)
        refine r_iinc [(1, .int i15), (0, .ref (gz (xG x) + 21))] 1 C dX1_forgetWays_15 rfl e16 (by decide) rfl ?_
        refine r_goto 2 C dX1_forgetWays_18 (by decide) ?_
        refine r_lv [1, 0] rfl ?_
        exact ih9 _ _ (Ch.put h5 e13 (by decide)) (by omega) (by omega) (by omega)
  refine r_lv [1, 0] rfl ?_
  exact LP1 43 _ _ Ch.rf (by omega) (by omega) (by omega)
set_option maxHeartbeats 4000000 in
set_option maxRecDepth 100000 in
theorem ctX1_forgetWays_28 (l : Launch) (G : Gt) (w : Wv) (sC : Str KC XC w)  : CtV l G yX1_forgetWays cX1_forgetWays 2 ({ frames := 0, cells := 0, slots := 0, locals := 0 } : Room) [.ref (gz G + 28)] w (fun w' => Ch [33] w w') := by
  refine enterV (by decide) (Nat.le_of_ble_eq_true rfl) ?_
  intro x el eG C hnm hret
  subst el; subst eG
  show V x 0 0 w 0 [(0, .ref (gz (xG x) + 28))] []
  have h0 : Ch [33] w w := Ch.rf
  have q0 : (0 : Int32).toInt = 0 := by decide
  have q42 : (42 : Int32).toInt = 42 := by decide
  refine r_iconst (v := 0) C dX1_forgetWays_0 (by decide) ?_
  refine r_istore_n [(1, .int 0), (0, .ref (gz (xG x) + 28))] C dX1_forgetWays_1 (by decide) rfl ?_
  have LP1 : ∀ (f2 : Nat) (i3 : Int32) (w4 : Wv), Ch [33] w w4 → 0 ≤ i3.toInt → i3.toInt ≤ 42 → 42 - i3.toInt < f2 → V x 0 0 w4 2 [(0, .ref (gz (xG x) + 28)), (1, .int i3)] [] := by
    intro f2
    induction f2 with
    | zero => intro i3 w4 h5 a6 a7  a8; exfalso; omega
    | succ f2 ih9 =>
      intro i3 w4 h5 a6 a7  a8
      have h10 := Ch.tr h0 h5 (by decide)
      refine r_iload_n 1 C dX1_forgetWays_2 rfl ?_
      refine r_bipush (v := 42) C dX1_forgetWays_3 (by decide) ?_
      refine r_icmp_ge 21 C dX1_forgetWays_5 (by decide) (fun c11 => ?_) (fun c11 => ?_)
      · have c11' := i_le c11
        exact hret _ _ _ dX1_forgetWays_21 h10
      · have c11' := i_nle c11
        refine r_aload_n 0 C dX1_forgetWays_8 rfl ?_
        refine gfX1_24 33 C (kS sC h10 kc_28) (xS sC h10 xc_28_7) dX1_forgetWays_9 ?_
        refine r_iload_n 1 C dX1_forgetWays_12 rfl ?_
        refine r_iconst (v := 0) C dX1_forgetWays_13 (by decide) ?_
        refine r_zast C (kS sC h10 kc_33) (vin (by omega) (by omega)) (nar_z (z_of (by omega))) dX1_forgetWays_14 (fun w12 e13 => ?_)
        have h14 := Ch.put h10 e13 (by decide)
        obtain ⟨i15, e16⟩ : ∃ z : Int32, i3 + Int32.ofInt 1 = z := ⟨_, rfl⟩
        have i15' := iinc_ok e16 (by decide) (by omega) (by omega)
        refine r_iinc [(1, .int i15), (0, .ref (gz (xG x) + 28))] 1 C dX1_forgetWays_15 rfl e16 (by decide) rfl ?_
        refine r_goto 2 C dX1_forgetWays_18 (by decide) ?_
        refine r_lv [1, 0] rfl ?_
        exact ih9 _ _ (Ch.put h5 e13 (by decide)) (by omega) (by omega) (by omega)
  refine r_lv [1, 0] rfl ?_
  exact LP1 43 _ _ Ch.rf (by omega) (by omega) (by omega)
