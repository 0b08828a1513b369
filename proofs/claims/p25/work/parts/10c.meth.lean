set_option maxHeartbeats 4000000 in
set_option maxRecDepth 100000 in
theorem ctX6_isHere_59 (l : Launch) (G : Gt) (w : Wv) (sC : Str KC XC w) (o0 : Inv RC w) (a1 : Int32) : CtI l G yX6_isHere cX6_isHere 2 .boolean ({ frames := 1, cells := 0, slots := 0, locals := 23 } : Room) [.ref (gz G + 59), .int a1] w (fun r w' => Ch [] [] w w' ∧ Inv RC w' ∧ ((0 ≤ r.toInt ∧ r.toInt ≤ 1))) := by
  refine enterI (by decide) (Nat.le_of_ble_eq_true rfl) ?_
  intro x el eG C hret
  subst el; subst eG
  show V x 0 0 w 0 [(0, .ref (gz (xG x) + 59)), (1, .int a1)] []
  have h0 : Ch [] [] w w := Ch.rf
  have q0 : (0 : Int32).toInt = 0 := by decide
  have q1 : (1 : Int32).toInt = 1 := by decide
  refine r_aload_n 0 C dX6_isHere_0 rfl ?_
  refine gfX6_18 3 C (kS sC h0 kc_59) (xS sC h0 xc_59_4) dX6_isHere_1 ?_
  refine r_iload_n 1 C dX6_isHere_4 rfl ?_
  refine callVI C cwX6_88_V (ctX9_followers_3 _ _ w (sS sC h0) o0 a1 ) (by decide) (kS sC h0 kc_3) rfl rfl rfl (Nat.le_of_ble_eq_true rfl) (by decide) dX6_isHere_5 (fun r3 w2 y1 => ?_)
  show V x 0 0 w2 8 [(0, .ref (gz (xG x) + 59)), (1, .int a1)] [.int r3]
  obtain ⟨h4, o5⟩ := y1
  have h6 := Ch.tr h0 h4 (by decide) (by decide)
  refine r_if_le 23 C dX6_isHere_8 (by decide) (fun c7 => ?_) (fun c7 => ?_)
  · have c7' := i_le c7
    refine r_iconst (v := 0) C dX6_isHere_23 (by decide) ?_
    exact hret _ _ _ _ dX6_isHere_24 (nar_z (z_of (by omega))) ⟨h6, o5, by omega⟩
  · have c7' := i_nle c7
    refine r_aload_n 0 C dX6_isHere_11 rfl ?_
    refine r_iload_n 1 C dX6_isHere_12 rfl ?_
    refine callVI C cwX6_82_V (ctX6_fate_59 _ _ w2 (sS sC h6) o5 a1 ) (by decide) (kS sC h6 kc_59) rfl rfl rfl (Nat.le_of_ble_eq_true rfl) (by decide) dX6_isHere_13 (fun r10 w9 y8 => ?_)
    show V x 0 0 w9 16 [(0, .ref (gz (xG x) + 59)), (1, .int a1)] [.int r10]
    obtain ⟨h11, o12⟩ := y8
    have h13 := Ch.tr h6 h11 (by decide) (by decide)
    refine r_if_ne 23 C dX6_isHere_16 (by decide) (fun c14 => ?_) (fun c14 => ?_)
    · have c14' := i_ne c14
      refine r_iconst (v := 0) C dX6_isHere_23 (by decide) ?_
      exact hret _ _ _ _ dX6_isHere_24 (nar_z (z_of (by omega))) ⟨h13, o12, by omega⟩
    · have c14' := i_eq c14
      refine r_iconst (v := 1) C dX6_isHere_19 (by decide) ?_
      refine r_goto 24 C dX6_isHere_20 (by decide) ?_
      exact hret _ _ _ _ dX6_isHere_24 (nar_z (z_of (by omega))) ⟨h13, o12, by omega⟩
set_option maxHeartbeats 4000000 in
set_option maxRecDepth 100000 in
theorem ctX6_fate_62 (l : Launch) (G : Gt) (w : Wv) (sC : Str KC XC w) (o0 : Inv RC w) (a1 : Int32) : CtI l G yX6_fate cX6_fate 4 .int ({ frames := 0, cells := 0, slots := 0, locals := 0 } : Room) [.ref (gz G + 62), .int a1] w (fun r w' => Ch [] [] w w' ∧ Inv RC w') := by
  refine enterI (by decide) (Nat.le_of_ble_eq_true rfl) ?_
  intro x el eG C hret
  subst el; subst eG
  show V x 0 0 w 0 [(0, .ref (gz (xG x) + 62)), (1, .int a1)] []
  have h0 : Ch [] [] w w := Ch.rf
  have qm1 : ((-1) : Int32).toInt = (-1) := by decide
  have q0 : (0 : Int32).toInt = 0 := by decide
  have q1 : (1 : Int32).toInt = 1 := by decide
  have q2 : (2 : Int32).toInt = 2 := by decide
  have q3 : (3 : Int32).toInt = 3 := by decide
  have q6 : (6 : Int32).toInt = 6 := by decide
  have q42 : (42 : Int32).toInt = 42 := by decide
  refine r_iload_n 1 C dX6_fate_0 rfl ?_
  refine r_if_lt 19 C dX6_fate_1 (by decide) (fun c1 => ?_) (fun c1 => ?_)
  · have c1' := i_lt c1
    refine r_iconst (v := (-1)) C dX6_fate_19 (by decide) ?_
    refine r_istore_n [(2, .int (-1)), (0, .ref (gz (xG x) + 62)), (1, .int a1)] C dX6_fate_20 (by decide) rfl ?_
    refine r_iload_n 0 C dX6_fate_21 rfl ?_
    refine r_if_lt 43 C dX6_fate_22 (by decide) (fun c2 => ?_) (fun c2 => ?_)
    · have c2' := i_lt c2
      refine r_iconst (v := 0) C dX6_fate_43 (by decide) ?_
      refine r_istore_n [(3, .int 0), (2, .int (-1)), (0, .ref (gz (xG x) + 62)), (1, .int a1)] C dX6_fate_44 (by decide) rfl ?_
      refine r_iload_n 0 C dX6_fate_45 rfl ?_
      refine r_iconst (v := 3) C dX6_fate_46 (by decide) ?_
      refine r_icmp_ne 54 C dX6_fate_47 (by decide) (fun c3 => ?_) (fun c3 => ?_)
      · have c3' := i_ne c3
        refine r_iload_n 0 C dX6_fate_54 rfl ?_
        refine r_iconst (v := 2) C dX6_fate_55 (by decide) ?_
        refine r_icmp_ne 63 C dX6_fate_56 (by decide) (fun c4 => ?_) (fun c4 => ?_)
        · have c4' := i_ne c4
          refine r_iconst (v := 0) C dX6_fate_63 (by decide) ?_
          exact hret _ _ _ _ dX6_fate_64 rfl ⟨h0, o0⟩
        · have c4' := i_eq c4
          exfalso; omega
      · have c3' := i_eq c3
        exfalso; omega
    · have c2' := i_nlt c2
      exfalso; omega
  · have c1' := i_nlt c1
    refine r_iload_n 1 C dX6_fate_4 rfl ?_
    refine r_bipush (v := 6) C dX6_fate_5 (by decide) ?_
    have k6 := i_rng a1
    refine r_icmp_ge 19 C dX6_fate_7 (by decide) (fun c5 => ?_) (fun c5 => ?_)
    · have c5' := i_le c5
      refine r_iconst (v := (-1)) C dX6_fate_19 (by decide) ?_
      refine r_istore_n [(2, .int (-1)), (0, .ref (gz (xG x) + 62)), (1, .int a1)] C dX6_fate_20 (by decide) rfl ?_
      refine r_iload_n 0 C dX6_fate_21 rfl ?_
      refine r_if_lt 43 C dX6_fate_22 (by decide) (fun c7 => ?_) (fun c7 => ?_)
      · have c7' := i_lt c7
        refine r_iconst (v := 0) C dX6_fate_43 (by decide) ?_
        refine r_istore_n [(3, .int 0), (2, .int (-1)), (0, .ref (gz (xG x) + 62)), (1, .int a1)] C dX6_fate_44 (by decide) rfl ?_
        refine r_iload_n 0 C dX6_fate_45 rfl ?_
        refine r_iconst (v := 3) C dX6_fate_46 (by decide) ?_
        refine r_icmp_ne 54 C dX6_fate_47 (by decide) (fun c8 => ?_) (fun c8 => ?_)
        · have c8' := i_ne c8
          refine r_iload_n 0 C dX6_fate_54 rfl ?_
          refine r_iconst (v := 2) C dX6_fate_55 (by decide) ?_
          refine r_icmp_ne 63 C dX6_fate_56 (by decide) (fun c9 => ?_) (fun c9 => ?_)
          · have c9' := i_ne c9
            refine r_iconst (v := 0) C dX6_fate_63 (by decide) ?_
            exact hret _ _ _ _ dX6_fate_64 rfl ⟨h0, o0⟩
          · have c9' := i_eq c9
            exfalso; omega
        · have c8' := i_eq c8
          exfalso; omega
      · have c7' := i_nlt c7
        exfalso; omega
    · have c5' := i_nle c5
      refine r_aload_n 0 C dX6_fate_10 rfl ?_
      refine gfX6_9 63 C (kS sC h0 kc_62) (xS sC h0 xc_62_2) dX6_fate_11 ?_
      refine r_iload_n 1 C dX6_fate_14 rfl ?_
      refine r_iald C (kS sC h0 kc_63) (vin (by omega) (by omega)) dX6_fate_15 ?_
      generalize (wI w 63 (a1).toNatClampNeg) = v10
      refine r_goto 20 C dX6_fate_16 (by decide) ?_
      refine r_istore_n [(2, .int v10), (0, .ref (gz (xG x) + 62)), (1, .int a1)] C dX6_fate_20 (by decide) rfl ?_
      refine r_iload_n 0 C dX6_fate_21 rfl ?_
      refine r_if_lt 43 C dX6_fate_22 (by decide) (fun c11 => ?_) (fun c11 => ?_)
      · have c11' := i_lt c11
        refine r_iconst (v := 0) C dX6_fate_43 (by decide) ?_
        refine r_istore_n [(3, .int 0), (2, .int v10), (0, .ref (gz (xG x) + 62)), (1, .int a1)] C dX6_fate_44 (by decide) rfl ?_
        refine r_iload_n 0 C dX6_fate_45 rfl ?_
        refine r_iconst (v := 3) C dX6_fate_46 (by decide) ?_
        refine r_icmp_ne 54 C dX6_fate_47 (by decide) (fun c12 => ?_) (fun c12 => ?_)
        · have c12' := i_ne c12
          refine r_iload_n 0 C dX6_fate_54 rfl ?_
          refine r_iconst (v := 2) C dX6_fate_55 (by decide) ?_
          refine r_icmp_ne 63 C dX6_fate_56 (by decide) (fun c13 => ?_) (fun c13 => ?_)
          · have c13' := i_ne c13
            refine r_iconst (v := 0) C dX6_fate_63 (by decide) ?_
            exact hret _ _ _ _ dX6_fate_64 rfl ⟨h0, o0⟩
          · have c13' := i_eq c13
            exfalso; omega
        · have c12' := i_eq c12
          exfalso; omega
      · have c11' := i_nlt c11
        refine r_iload_n 0 C dX6_fate_25 rfl ?_
        refine r_bipush (v := 42) C dX6_fate_26 (by decide) ?_
        have k15 := i_rng v10
        refine r_icmp_ge 43 C dX6_fate_28 (by decide) (fun c14 => ?_) (fun c14 => ?_)
        · have c14' := i_le c14
          refine r_iconst (v := 0) C dX6_fate_43 (by decide) ?_
          refine r_istore_n [(3, .int 0), (2, .int v10), (0, .ref (gz (xG x) + 62)), (1, .int a1)] C dX6_fate_44 (by decide) rfl ?_
          refine r_iload_n 0 C dX6_fate_45 rfl ?_
          refine r_iconst (v := 3) C dX6_fate_46 (by decide) ?_
          refine r_icmp_ne 54 C dX6_fate_47 (by decide) (fun c16 => ?_) (fun c16 => ?_)
          · have c16' := i_ne c16
            refine r_iload_n 0 C dX6_fate_54 rfl ?_
            refine r_iconst (v := 2) C dX6_fate_55 (by decide) ?_
            refine r_icmp_ne 63 C dX6_fate_56 (by decide) (fun c17 => ?_) (fun c17 => ?_)
            · have c17' := i_ne c17
              refine r_iconst (v := 0) C dX6_fate_63 (by decide) ?_
              exact hret _ _ _ _ dX6_fate_64 rfl ⟨h0, o0⟩
            · have c17' := i_eq c17
              exfalso; omega
          · have c16' := i_eq c16
            exfalso; omega
        · have c14' := i_nle c14
          refine r_aload_n 1 C dX6_fate_31 rfl ?_
          refine gfX6_22 21 C (kS sC h0 kc_62) (xS sC h0 xc_62_5) dX6_fate_32 ?_
          refine gfX6_85 22 C (kS sC h0 kc_21) (xS sC h0 xc_21_1) dX6_fate_35 ?_
          refine r_iload_n 0 C dX6_fate_38 rfl ?_
          refine r_iald C (kS sC h0 kc_22) (vin (by omega) (by omega)) dX6_fate_39 ?_
          generalize (wI w 22 (v10).toNatClampNeg) = v18
          refine r_goto 44 C dX6_fate_40 (by decide) ?_
          refine r_istore_n [(3, .int v18), (2, .int v10), (0, .ref (gz (xG x) + 62)), (1, .int a1)] C dX6_fate_44 (by decide) rfl ?_
          refine r_iload_n 0 C dX6_fate_45 rfl ?_
          refine r_iconst (v := 3) C dX6_fate_46 (by decide) ?_
          refine r_icmp_ne 54 C dX6_fate_47 (by decide) (fun c19 => ?_) (fun c19 => ?_)
          · have c19' := i_ne c19
            refine r_iload_n 0 C dX6_fate_54 rfl ?_
            refine r_iconst (v := 2) C dX6_fate_55 (by decide) ?_
            refine r_icmp_ne 63 C dX6_fate_56 (by decide) (fun c20 => ?_) (fun c20 => ?_)
            · have c20' := i_ne c20
              refine r_iconst (v := 0) C dX6_fate_63 (by decide) ?_
              exact hret _ _ _ _ dX6_fate_64 rfl ⟨h0, o0⟩
            · have c20' := i_eq c20
              refine r_iconst (v := 2) C dX6_fate_59 (by decide) ?_
              refine r_goto 64 C dX6_fate_60 (by decide) ?_
              exact hret _ _ _ _ dX6_fate_64 rfl ⟨h0, o0⟩
          · have c19' := i_eq c19
            refine r_iconst (v := 1) C dX6_fate_50 (by decide) ?_
            refine r_goto 64 C dX6_fate_51 (by decide) ?_
            exact hret _ _ _ _ dX6_fate_64 rfl ⟨h0, o0⟩
set_option maxHeartbeats 4000000 in
set_option maxRecDepth 100000 in
theorem ctX6_isHere_62 (l : Launch) (G : Gt) (w : Wv) (sC : Str KC XC w) (o0 : Inv RC w) (a1 : Int32) : CtI l G yX6_isHere cX6_isHere 2 .boolean ({ frames := 1, cells := 0, slots := 0, locals := 23 } : Room) [.ref (gz G + 62), .int a1] w (fun r w' => Ch [] [] w w' ∧ Inv RC w' ∧ ((0 ≤ r.toInt ∧ r.toInt ≤ 1))) := by
  refine enterI (by decide) (Nat.le_of_ble_eq_true rfl) ?_
  intro x el eG C hret
  subst el; subst eG
  show V x 0 0 w 0 [(0, .ref (gz (xG x) + 62)), (1, .int a1)] []
  have h0 : Ch [] [] w w := Ch.rf
  have q0 : (0 : Int32).toInt = 0 := by decide
  have q1 : (1 : Int32).toInt = 1 := by decide
  refine r_aload_n 0 C dX6_isHere_0 rfl ?_
  refine gfX6_18 3 C (kS sC h0 kc_62) (xS sC h0 xc_62_4) dX6_isHere_1 ?_
  refine r_iload_n 1 C dX6_isHere_4 rfl ?_
  refine callVI C cwX6_88_V (ctX9_followers_3 _ _ w (sS sC h0) o0 a1 ) (by decide) (kS sC h0 kc_3) rfl rfl rfl (Nat.le_of_ble_eq_true rfl) (by decide) dX6_isHere_5 (fun r3 w2 y1 => ?_)
  show V x 0 0 w2 8 [(0, .ref (gz (xG x) + 62)), (1, .int a1)] [.int r3]
  obtain ⟨h4, o5⟩ := y1
  have h6 := Ch.tr h0 h4 (by decide) (by decide)
  refine r_if_le 23 C dX6_isHere_8 (by decide) (fun c7 => ?_) (fun c7 => ?_)
  · have c7' := i_le c7
    refine r_iconst (v := 0) C dX6_isHere_23 (by decide) ?_
    exact hret _ _ _ _ dX6_isHere_24 (nar_z (z_of (by omega))) ⟨h6, o5, by omega⟩
  · have c7' := i_nle c7
    refine r_aload_n 0 C dX6_isHere_11 rfl ?_
    refine r_iload_n 1 C dX6_isHere_12 rfl ?_
    refine callVI C cwX6_82_V (ctX6_fate_62 _ _ w2 (sS sC h6) o5 a1 ) (by decide) (kS sC h6 kc_62) rfl rfl rfl (Nat.le_of_ble_eq_true rfl) (by decide) dX6_isHere_13 (fun r10 w9 y8 => ?_)
    show V x 0 0 w9 16 [(0, .ref (gz (xG x) + 62)), (1, .int a1)] [.int r10]
    obtain ⟨h11, o12⟩ := y8
    have h13 := Ch.tr h6 h11 (by decide) (by decide)
    refine r_if_ne 23 C dX6_isHere_16 (by decide) (fun c14 => ?_) (fun c14 => ?_)
    · have c14' := i_ne c14
      refine r_iconst (v := 0) C dX6_isHere_23 (by decide) ?_
      exact hret _ _ _ _ dX6_isHere_24 (nar_z (z_of (by omega))) ⟨h13, o12, by omega⟩
    · have c14' := i_eq c14
      refine r_iconst (v := 1) C dX6_isHere_19 (by decide) ?_
      refine r_goto 24 C dX6_isHere_20 (by decide) ?_
      exact hret _ _ _ _ dX6_isHere_24 (nar_z (z_of (by omega))) ⟨h13, o12, by omega⟩
set_option maxHeartbeats 4000000 in
set_option maxRecDepth 100000 in
theorem ctX6_fate_65 (l : Launch) (G : Gt) (w : Wv) (sC : Str KC XC w) (o0 : Inv RC w) (a1 : Int32) : CtI l G yX6_fate cX6_fate 4 .int ({ frames := 0, cells := 0, slots := 0, locals := 0 } : Room) [.ref (gz G + 65), .int a1] w (fun r w' => Ch [] [] w w' ∧ Inv RC w') := by
  refine enterI (by decide) (Nat.le_of_ble_eq_true rfl) ?_
  intro x el eG C hret
  subst el; subst eG
  show V x 0 0 w 0 [(0, .ref (gz (xG x) + 65)), (1, .int a1)] []
  have h0 : Ch [] [] w w := Ch.rf
  have qm1 : ((-1) : Int32).toInt = (-1) := by decide
  have q0 : (0 : Int32).toInt = 0 := by decide
  have q1 : (1 : Int32).toInt = 1 := by decide
  have q2 : (2 : Int32).toInt = 2 := by decide
  have q3 : (3 : Int32).toInt = 3 := by decide
  have q6 : (6 : Int32).toInt = 6 := by decide
  have q42 : (42 : Int32).toInt = 42 := by decide
  refine r_iload_n 1 C dX6_fate_0 rfl ?_
  refine r_if_lt 19 C dX6_fate_1 (by decide) (fun c1 => ?_) (fun c1 => ?_)
  · have c1' := i_lt c1
    refine r_iconst (v := (-1)) C dX6_fate_19 (by decide) ?_
    refine r_istore_n [(2, .int (-1)), (0, .ref (gz (xG x) + 65)), (1, .int a1)] C dX6_fate_20 (by decide) rfl ?_
    refine r_iload_n 0 C dX6_fate_21 rfl ?_
    refine r_if_lt 43 C dX6_fate_22 (by decide) (fun c2 => ?_) (fun c2 => ?_)
    · have c2' := i_lt c2
      refine r_iconst (v := 0) C dX6_fate_43 (by decide) ?_
      refine r_istore_n [(3, .int 0), (2, .int (-1)), (0, .ref (gz (xG x) + 65)), (1, .int a1)] C dX6_fate_44 (by decide) rfl ?_
      refine r_iload_n 0 C dX6_fate_45 rfl ?_
      refine r_iconst (v := 3) C dX6_fate_46 (by decide) ?_
      refine r_icmp_ne 54 C dX6_fate_47 (by decide) (fun c3 => ?_) (fun c3 => ?_)
      · have c3' := i_ne c3
        refine r_iload_n 0 C dX6_fate_54 rfl ?_
        refine r_iconst (v := 2) C dX6_fate_55 (by decide) ?_
        refine r_icmp_ne 63 C dX6_fate_56 (by decide) (fun c4 => ?_) (fun c4 => ?_)
        · have c4' := i_ne c4
          refine r_iconst (v := 0) C dX6_fate_63 (by decide) ?_
          exact hret _ _ _ _ dX6_fate_64 rfl ⟨h0, o0⟩
        · have c4' := i_eq c4
          exfalso; omega
      · have c3' := i_eq c3
        exfalso; omega
    · have c2' := i_nlt c2
      exfalso; omega
  · have c1' := i_nlt c1
    refine r_iload_n 1 C dX6_fate_4 rfl ?_
    refine r_bipush (v := 6) C dX6_fate_5 (by decide) ?_
    have k6 := i_rng a1
    refine r_icmp_ge 19 C dX6_fate_7 (by decide) (fun c5 => ?_) (fun c5 => ?_)
    · have c5' := i_le c5
      refine r_iconst (v := (-1)) C dX6_fate_19 (by decide) ?_
      refine r_istore_n [(2, .int (-1)), (0, .ref (gz (xG x) + 65)), (1, .int a1)] C dX6_fate_20 (by decide) rfl ?_
      refine r_iload_n 0 C dX6_fate_21 rfl ?_
      refine r_if_lt 43 C dX6_fate_22 (by decide) (fun c7 => ?_) (fun c7 => ?_)
      · have c7' := i_lt c7
        refine r_iconst (v := 0) C dX6_fate_43 (by decide) ?_
        refine r_istore_n [(3, .int 0), (2, .int (-1)), (0, .ref (gz (xG x) + 65)), (1, .int a1)] C dX6_fate_44 (by decide) rfl ?_
        refine r_iload_n 0 C dX6_fate_45 rfl ?_
        refine r_iconst (v := 3) C dX6_fate_46 (by decide) ?_
        refine r_icmp_ne 54 C dX6_fate_47 (by decide) (fun c8 => ?_) (fun c8 => ?_)
        · have c8' := i_ne c8
          refine r_iload_n 0 C dX6_fate_54 rfl ?_
          refine r_iconst (v := 2) C dX6_fate_55 (by decide) ?_
          refine r_icmp_ne 63 C dX6_fate_56 (by decide) (fun c9 => ?_) (fun c9 => ?_)
          · have c9' := i_ne c9
            refine r_iconst (v := 0) C dX6_fate_63 (by decide) ?_
            exact hret _ _ _ _ dX6_fate_64 rfl ⟨h0, o0⟩
          · have c9' := i_eq c9
            exfalso; omega
        · have c8' := i_eq c8
          exfalso; omega
      · have c7' := i_nlt c7
        exfalso; omega
    · have c5' := i_nle c5
      refine r_aload_n 0 C dX6_fate_10 rfl ?_
      refine gfX6_9 66 C (kS sC h0 kc_65) (xS sC h0 xc_65_2) dX6_fate_11 ?_
      refine r_iload_n 1 C dX6_fate_14 rfl ?_
      refine r_iald C (kS sC h0 kc_66) (vin (by omega) (by omega)) dX6_fate_15 ?_
      generalize (wI w 66 (a1).toNatClampNeg) = v10
      refine r_goto 20 C dX6_fate_16 (by decide) ?_
      refine r_istore_n [(2, .int v10), (0, .ref (gz (xG x) + 65)), (1, .int a1)] C dX6_fate_20 (by decide) rfl ?_
      refine r_iload_n 0 C dX6_fate_21 rfl ?_
      refine r_if_lt 43 C dX6_fate_22 (by decide) (fun c11 => ?_) (fun c11 => ?_)
      · have c11' := i_lt c11
        refine r_iconst (v := 0) C dX6_fate_43 (by decide) ?_
        refine r_istore_n [(3, .int 0), (2, .int v10), (0, .ref (gz (xG x) + 65)), (1, .int a1)] C dX6_fate_44 (by decide) rfl ?_
        refine r_iload_n 0 C dX6_fate_45 rfl ?_
        refine r_iconst (v := 3) C dX6_fate_46 (by decide) ?_
        refine r_icmp_ne 54 C dX6_fate_47 (by decide) (fun c12 => ?_) (fun c12 => ?_)
        · have c12' := i_ne c12
          refine r_iload_n 0 C dX6_fate_54 rfl ?_
          refine r_iconst (v := 2) C dX6_fate_55 (by decide) ?_
          refine r_icmp_ne 63 C dX6_fate_56 (by decide) (fun c13 => ?_) (fun c13 => ?_)
          · have c13' := i_ne c13
            refine r_iconst (v := 0) C dX6_fate_63 (by decide) ?_
            exact hret _ _ _ _ dX6_fate_64 rfl ⟨h0, o0⟩
          · have c13' := i_eq c13
            exfalso; omega
        · have c12' := i_eq c12
          exfalso; omega
      · have c11' := i_nlt c11
        refine r_iload_n 0 C dX6_fate_25 rfl ?_
        refine r_bipush (v := 42) C dX6_fate_26 (by decide) ?_
        have k15 := i_rng v10
        refine r_icmp_ge 43 C dX6_fate_28 (by decide) (fun c14 => ?_) (fun c14 => ?_)
        · have c14' := i_le c14
          refine r_iconst (v := 0) C dX6_fate_43 (by decide) ?_
          refine r_istore_n [(3, .int 0), (2, .int v10), (0, .ref (gz (xG x) + 65)), (1, .int a1)] C dX6_fate_44 (by decide) rfl ?_
          refine r_iload_n 0 C dX6_fate_45 rfl ?_
          refine r_iconst (v := 3) C dX6_fate_46 (by decide) ?_
          refine r_icmp_ne 54 C dX6_fate_47 (by decide) (fun c16 => ?_) (fun c16 => ?_)
          · have c16' := i_ne c16
            refine r_iload_n 0 C dX6_fate_54 rfl ?_
            refine r_iconst (v := 2) C dX6_fate_55 (by decide) ?_
            refine r_icmp_ne 63 C dX6_fate_56 (by decide) (fun c17 => ?_) (fun c17 => ?_)
            · have c17' := i_ne c17
              refine r_iconst (v := 0) C dX6_fate_63 (by decide) ?_
              exact hret _ _ _ _ dX6_fate_64 rfl ⟨h0, o0⟩
            · have c17' := i_eq c17
              exfalso; omega
          · have c16' := i_eq c16
            exfalso; omega
        · have c14' := i_nle c14
          refine r_aload_n 1 C dX6_fate_31 rfl ?_
          refine gfX6_22 21 C (kS sC h0 kc_65) (xS sC h0 xc_65_5) dX6_fate_32 ?_
          refine gfX6_85 22 C (kS sC h0 kc_21) (xS sC h0 xc_21_1) dX6_fate_35 ?_
          refine r_iload_n 0 C dX6_fate_38 rfl ?_
          refine r_iald C (kS sC h0 kc_22) (vin (by omega) (by omega)) dX6_fate_39 ?_
          generalize (wI w 22 (v10).toNatClampNeg) = v18
          refine r_goto 44 C dX6_fate_40 (by decide) ?_
          refine r_istore_n [(3, .int v18), (2, .int v10), (0, .ref (gz (xG x) + 65)), (1, .int a1)] C dX6_fate_44 (by decide) rfl ?_
          refine r_iload_n 0 C dX6_fate_45 rfl ?_
          refine r_iconst (v := 3) C dX6_fate_46 (by decide) ?_
          refine r_icmp_ne 54 C dX6_fate_47 (by decide) (fun c19 => ?_) (fun c19 => ?_)
          · have c19' := i_ne c19
            refine r_iload_n 0 C dX6_fate_54 rfl ?_
            refine r_iconst (v := 2) C dX6_fate_55 (by decide) ?_
            refine r_icmp_ne 63 C dX6_fate_56 (by decide) (fun c20 => ?_) (fun c20 => ?_)
            · have c20' := i_ne c20
              refine r_iconst (v := 0) C dX6_fate_63 (by decide) ?_
              exact hret _ _ _ _ dX6_fate_64 rfl ⟨h0, o0⟩
            · have c20' := i_eq c20
              refine r_iconst (v := 2) C dX6_fate_59 (by decide) ?_
              refine r_goto 64 C dX6_fate_60 (by decide) ?_
              exact hret _ _ _ _ dX6_fate_64 rfl ⟨h0, o0⟩
          · have c19' := i_eq c19
            refine r_iconst (v := 1) C dX6_fate_50 (by decide) ?_
            refine r_goto 64 C dX6_fate_51 (by decide) ?_
            exact hret _ _ _ _ dX6_fate_64 rfl ⟨h0, o0⟩
set_option maxHeartbeats 4000000 in
set_option maxRecDepth 100000 in
theorem ctX6_isHere_65 (l : Launch) (G : Gt) (w : Wv) (sC : Str KC XC w) (o0 : Inv RC w) (a1 : Int32) : CtI l G yX6_isHere cX6_isHere 2 .boolean ({ frames := 1, cells := 0, slots := 0, locals := 23 } : Room) [.ref (gz G + 65), .int a1] w (fun r w' => Ch [] [] w w' ∧ Inv RC w' ∧ ((0 ≤ r.toInt ∧ r.toInt ≤ 1))) := by
  refine enterI (by decide) (Nat.le_of_ble_eq_true rfl) ?_
  intro x el eG C hret
  subst el; subst eG
  show V x 0 0 w 0 [(0, .ref (gz (xG x) + 65)), (1, .int a1)] []
  have h0 : Ch [] [] w w := Ch.rf
  have q0 : (0 : Int32).toInt = 0 := by decide
  have q1 : (1 : Int32).toInt = 1 := by decide
  refine r_aload_n 0 C dX6_isHere_0 rfl ?_
  refine gfX6_18 3 C (kS sC h0 kc_65) (xS sC h0 xc_65_4) dX6_isHere_1 ?_
  refine r_iload_n 1 C dX6_isHere_4 rfl ?_
  refine callVI C cwX6_88_V (ctX9_followers_3 _ _ w (sS sC h0) o0 a1 ) (by decide) (kS sC h0 kc_3) rfl rfl rfl (Nat.le_of_ble_eq_true rfl) (by decide) dX6_isHere_5 (fun r3 w2 y1 => ?_)
  show V x 0 0 w2 8 [(0, .ref (gz (xG x) + 65)), (1, .int a1)] [.int r3]
  obtain ⟨h4, o5⟩ := y1
  have h6 := Ch.tr h0 h4 (by decide) (by decide)
  refine r_if_le 23 C dX6_isHere_8 (by decide) (fun c7 => ?_) (fun c7 => ?_)
  · have c7' := i_le c7
    refine r_iconst (v := 0) C dX6_isHere_23 (by decide) ?_
    exact hret _ _ _ _ dX6_isHere_24 (nar_z (z_of (by omega))) ⟨h6, o5, by omega⟩
  · have c7' := i_nle c7
    refine r_aload_n 0 C dX6_isHere_11 rfl ?_
    refine r_iload_n 1 C dX6_isHere_12 rfl ?_
    refine callVI C cwX6_82_V (ctX6_fate_65 _ _ w2 (sS sC h6) o5 a1 ) (by decide) (kS sC h6 kc_65) rfl rfl rfl (Nat.le_of_ble_eq_true rfl) (by decide) dX6_isHere_13 (fun r10 w9 y8 => ?_)
    show V x 0 0 w9 16 [(0, .ref (gz (xG x) + 65)), (1, .int a1)] [.int r10]
    obtain ⟨h11, o12⟩ := y8
    have h13 := Ch.tr h6 h11 (by decide) (by decide)
    refine r_if_ne 23 C dX6_isHere_16 (by decide) (fun c14 => ?_) (fun c14 => ?_)
    · have c14' := i_ne c14
      refine r_iconst (v := 0) C dX6_isHere_23 (by decide) ?_
      exact hret _ _ _ _ dX6_isHere_24 (nar_z (z_of (by omega))) ⟨h13, o12, by omega⟩
    · have c14' := i_eq c14
      refine r_iconst (v := 1) C dX6_isHere_19 (by decide) ?_
      refine r_goto 24 C dX6_isHere_20 (by decide) ?_
      exact hret _ _ _ _ dX6_isHere_24 (nar_z (z_of (by omega))) ⟨h13, o12, by omega⟩
set_option maxHeartbeats 4000000 in
set_option maxRecDepth 100000 in
theorem ctX6_fate_68 (l : Launch) (G : Gt) (w : Wv) (sC : Str KC XC w) (o0 : Inv RC w) (a1 : Int32) : CtI l G yX6_fate cX6_fate 4 .int ({ frames := 0, cells := 0, slots := 0, locals := 0 } : Room) [.ref (gz G + 68), .int a1] w (fun r w' => Ch [] [] w w' ∧ Inv RC w') := by
  refine enterI (by decide) (Nat.le_of_ble_eq_true rfl) ?_
  intro x el eG C hret
  subst el; subst eG
  show V x 0 0 w 0 [(0, .ref (gz (xG x) + 68)), (1, .int a1)] []
  have h0 : Ch [] [] w w := Ch.rf
  have qm1 : ((-1) : Int32).toInt = (-1) := by decide
  have q0 : (0 : Int32).toInt = 0 := by decide
  have q1 : (1 : Int32).toInt = 1 := by decide
  have q2 : (2 : Int32).toInt = 2 := by decide
  have q3 : (3 : Int32).toInt = 3 := by decide
  have q6 : (6 : Int32).toInt = 6 := by decide
  have q42 : (42 : Int32).toInt = 42 := by decide
  refine r_iload_n 1 C dX6_fate_0 rfl ?_
  refine r_if_lt 19 C dX6_fate_1 (by decide) (fun c1 => ?_) (fun c1 => ?_)
  · have c1' := i_lt c1
    refine r_iconst (v := (-1)) C dX6_fate_19 (by decide) ?_
    refine r_istore_n [(2, .int (-1)), (0, .ref (gz (xG x) + 68)), (1, .int a1)] C dX6_fate_20 (by decide) rfl ?_
    refine r_iload_n 0 C dX6_fate_21 rfl ?_
    refine r_if_lt 43 C dX6_fate_22 (by decide) (fun c2 => ?_) (fun c2 => ?_)
    · have c2' := i_lt c2
      refine r_iconst (v := 0) C dX6_fate_43 (by decide) ?_
      refine r_istore_n [(3, .int 0), (2, .int (-1)), (0, .ref (gz (xG x) + 68)), (1, .int a1)] C dX6_fate_44 (by decide) rfl ?_
      refine r_iload_n 0 C dX6_fate_45 rfl ?_
      refine r_iconst (v := 3) C dX6_fate_46 (by decide) ?_
      refine r_icmp_ne 54 C dX6_fate_47 (by decide) (fun c3 => ?_) (fun c3 => ?_)
      · have c3' := i_ne c3
        refine r_iload_n 0 C dX6_fate_54 rfl ?_
        refine r_iconst (v := 2) C dX6_fate_55 (by decide) ?_
        refine r_icmp_ne 63 C dX6_fate_56 (by decide) (fun c4 => ?_) (fun c4 => ?_)
        · have c4' := i_ne c4
          refine r_iconst (v := 0) C dX6_fate_63 (by decide) ?_
          exact hret _ _ _ _ dX6_fate_64 rfl ⟨h0, o0⟩
        · have c4' := i_eq c4
          exfalso; omega
      · have c3' := i_eq c3
        exfalso; omega
    · have c2' := i_nlt c2
      exfalso; omega
  · have c1' := i_nlt c1
    refine r_iload_n 1 C dX6_fate_4 rfl ?_
    refine r_bipush (v := 6) C dX6_fate_5 (by decide) ?_
    have k6 := i_rng a1
    refine r_icmp_ge 19 C dX6_fate_7 (by decide) (fun c5 => ?_) (fun c5 => ?_)
    · have c5' := i_le c5
      refine r_iconst (v := (-1)) C dX6_fate_19 (by decide) ?_
      refine r_istore_n [(2, .int (-1)), (0, .ref (gz (xG x) + 68)), (1, .int a1)] C dX6_fate_20 (by decide) rfl ?_
      refine r_iload_n 0 C dX6_fate_21 rfl ?_
      refine r_if_lt 43 C dX6_fate_22 (by decide) (fun c7 => ?_) (fun c7 => ?_)
      · have c7' := i_lt c7
        refine r_iconst (v := 0) C dX6_fate_43 (by decide) ?_
        refine r_istore_n [(3, .int 0), (2, .int (-1)), (0, .ref (gz (xG x) + 68)), (1, .int a1)] C dX6_fate_44 (by decide) rfl ?_
        refine r_iload_n 0 C dX6_fate_45 rfl ?_
        refine r_iconst (v := 3) C dX6_fate_46 (by decide) ?_
        refine r_icmp_ne 54 C dX6_fate_47 (by decide) (fun c8 => ?_) (fun c8 => ?_)
        · have c8' := i_ne c8
          refine r_iload_n 0 C dX6_fate_54 rfl ?_
          refine r_iconst (v := 2) C dX6_fate_55 (by decide) ?_
          refine r_icmp_ne 63 C dX6_fate_56 (by decide) (fun c9 => ?_) (fun c9 => ?_)
          · have c9' := i_ne c9
            refine r_iconst (v := 0) C dX6_fate_63 (by decide) ?_
            exact hret _ _ _ _ dX6_fate_64 rfl ⟨h0, o0⟩
          · have c9' := i_eq c9
            exfalso; omega
        · have c8' := i_eq c8
          exfalso; omega
      · have c7' := i_nlt c7
        exfalso; omega
    · have c5' := i_nle c5
      refine r_aload_n 0 C dX6_fate_10 rfl ?_
      refine gfX6_9 69 C (kS sC h0 kc_68) (xS sC h0 xc_68_2) dX6_fate_11 ?_
      refine r_iload_n 1 C dX6_fate_14 rfl ?_
      refine r_iald C (kS sC h0 kc_69) (vin (by omega) (by omega)) dX6_fate_15 ?_
      generalize (wI w 69 (a1).toNatClampNeg) = v10
      refine r_goto 20 C dX6_fate_16 (by decide) ?_
      refine r_istore_n [(2, .int v10), (0, .ref (gz (xG x) + 68)), (1, .int a1)] C dX6_fate_20 (by decide) rfl ?_
      refine r_iload_n 0 C dX6_fate_21 rfl ?_
      refine r_if_lt 43 C dX6_fate_22 (by decide) (fun c11 => ?_) (fun c11 => ?_)
      · have c11' := i_lt c11
        refine r_iconst (v := 0) C dX6_fate_43 (by decide) ?_
        refine r_istore_n [(3, .int 0), (2, .int v10), (0, .ref (gz (xG x) + 68)), (1, .int a1)] C dX6_fate_44 (by decide) rfl ?_
        refine r_iload_n 0 C dX6_fate_45 rfl ?_
        refine r_iconst (v := 3) C dX6_fate_46 (by decide) ?_
        refine r_icmp_ne 54 C dX6_fate_47 (by decide) (fun c12 => ?_) (fun c12 => ?_)
        · have c12' := i_ne c12
          refine r_iload_n 0 C dX6_fate_54 rfl ?_
          refine r_iconst (v := 2) C dX6_fate_55 (by decide) ?_
          refine r_icmp_ne 63 C dX6_fate_56 (by decide) (fun c13 => ?_) (fun c13 => ?_)
          · have c13' := i_ne c13
            refine r_iconst (v := 0) C dX6_fate_63 (by decide) ?_
            exact hret _ _ _ _ dX6_fate_64 rfl ⟨h0, o0⟩
          · have c13' := i_eq c13
            exfalso; omega
        · have c12' := i_eq c12
          exfalso; omega
      · have c11' := i_nlt c11
        refine r_iload_n 0 C dX6_fate_25 rfl ?_
        refine r_bipush (v := 42) C dX6_fate_26 (by decide) ?_
        have k15 := i_rng v10
        refine r_icmp_ge 43 C dX6_fate_28 (by decide) (fun c14 => ?_) (fun c14 => ?_)
        · have c14' := i_le c14
          refine r_iconst (v := 0) C dX6_fate_43 (by decide) ?_
          refine r_istore_n [(3, .int 0), (2, .int v10), (0, .ref (gz (xG x) + 68)), (1, .int a1)] C dX6_fate_44 (by decide) rfl ?_
          refine r_iload_n 0 C dX6_fate_45 rfl ?_
          refine r_iconst (v := 3) C dX6_fate_46 (by decide) ?_
          refine r_icmp_ne 54 C dX6_fate_47 (by decide) (fun c16 => ?_) (fun c16 => ?_)
          · have c16' := i_ne c16
            refine r_iload_n 0 C dX6_fate_54 rfl ?_
            refine r_iconst (v := 2) C dX6_fate_55 (by decide) ?_
            refine r_icmp_ne 63 C dX6_fate_56 (by decide) (fun c17 => ?_) (fun c17 => ?_)
            · have c17' := i_ne c17
              refine r_iconst (v := 0) C dX6_fate_63 (by decide) ?_
              exact hret _ _ _ _ dX6_fate_64 rfl ⟨h0, o0⟩
            · have c17' := i_eq c17
              exfalso; omega
          · have c16' := i_eq c16
            exfalso; omega
        · have c14' := i_nle c14
          refine r_aload_n 1 C dX6_fate_31 rfl ?_
          refine gfX6_22 21 C (kS sC h0 kc_68) (xS sC h0 xc_68_5) dX6_fate_32 ?_
          refine gfX6_85 22 C (kS sC h0 kc_21) (xS sC h0 xc_21_1) dX6_fate_35 ?_
          refine r_iload_n 0 C dX6_fate_38 rfl ?_
          refine r_iald C (kS sC h0 kc_22) (vin (by omega) (by omega)) dX6_fate_39 ?_
          generalize (wI w 22 (v10).toNatClampNeg) = v18
          refine r_goto 44 C dX6_fate_40 (by decide) ?_
          refine r_istore_n [(3, .int v18), (2, .int v10), (0, .ref (gz (xG x) + 68)), (1, .int a1)] C dX6_fate_44 (by decide) rfl ?_
          refine r_iload_n 0 C dX6_fate_45 rfl ?_
          refine r_iconst (v := 3) C dX6_fate_46 (by decide) ?_
          refine r_icmp_ne 54 C dX6_fate_47 (by decide) (fun c19 => ?_) (fun c19 => ?_)
          · have c19' := i_ne c19
            refine r_iload_n 0 C dX6_fate_54 rfl ?_
            refine r_iconst (v := 2) C dX6_fate_55 (by decide) ?_
            refine r_icmp_ne 63 C dX6_fate_56 (by decide) (fun c20 => ?_) (fun c20 => ?_)
            · have c20' := i_ne c20
              refine r_iconst (v := 0) C dX6_fate_63 (by decide) ?_
              exact hret _ _ _ _ dX6_fate_64 rfl ⟨h0, o0⟩
            · have c20' := i_eq c20
              refine r_iconst (v := 2) C dX6_fate_59 (by decide) ?_
              refine r_goto 64 C dX6_fate_60 (by decide) ?_
              exact hret _ _ _ _ dX6_fate_64 rfl ⟨h0, o0⟩
          · have c19' := i_eq c19
            refine r_iconst (v := 1) C dX6_fate_50 (by decide) ?_
            refine r_goto 64 C dX6_fate_51 (by decide) ?_
            exact hret _ _ _ _ dX6_fate_64 rfl ⟨h0, o0⟩
set_option maxHeartbeats 4000000 in
set_option maxRecDepth 100000 in
theorem ctX6_isHere_68 (l : Launch) (G : Gt) (w : Wv) (sC : Str KC XC w) (o0 : Inv RC w) (a1 : Int32) : CtI l G yX6_isHere cX6_isHere 2 .boolean ({ frames := 1, cells := 0, slots := 0, locals := 23 } : Room) [.ref (gz G + 68), .int a1] w (fun r w' => Ch [] [] w w' ∧ Inv RC w' ∧ ((0 ≤ r.toInt ∧ r.toInt ≤ 1))) := by
  refine enterI (by decide) (Nat.le_of_ble_eq_true rfl) ?_
  intro x el eG C hret
  subst el; subst eG
  show V x 0 0 w 0 [(0, .ref (gz (xG x) + 68)), (1, .int a1)] []
  have h0 : Ch [] [] w w := Ch.rf
  have q0 : (0 : Int32).toInt = 0 := by decide
  have q1 : (1 : Int32).toInt = 1 := by decide
  refine r_aload_n 0 C dX6_isHere_0 rfl ?_
  refine gfX6_18 3 C (kS sC h0 kc_68) (xS sC h0 xc_68_4) dX6_isHere_1 ?_
  refine r_iload_n 1 C dX6_isHere_4 rfl ?_
  refine callVI C cwX6_88_V (ctX9_followers_3 _ _ w (sS sC h0) o0 a1 ) (by decide) (kS sC h0 kc_3) rfl rfl rfl (Nat.le_of_ble_eq_true rfl) (by decide) dX6_isHere_5 (fun r3 w2 y1 => ?_)
  show V x 0 0 w2 8 [(0, .ref (gz (xG x) + 68)), (1, .int a1)] [.int r3]
  obtain ⟨h4, o5⟩ := y1
  have h6 := Ch.tr h0 h4 (by decide) (by decide)
  refine r_if_le 23 C dX6_isHere_8 (by decide) (fun c7 => ?_) (fun c7 => ?_)
  · have c7' := i_le c7
    refine r_iconst (v := 0) C dX6_isHere_23 (by decide) ?_
    exact hret _ _ _ _ dX6_isHere_24 (nar_z (z_of (by omega))) ⟨h6, o5, by omega⟩
  · have c7' := i_nle c7
    refine r_aload_n 0 C dX6_isHere_11 rfl ?_
    refine r_iload_n 1 C dX6_isHere_12 rfl ?_
    refine callVI C cwX6_82_V (ctX6_fate_68 _ _ w2 (sS sC h6) o5 a1 ) (by decide) (kS sC h6 kc_68) rfl rfl rfl (Nat.le_of_ble_eq_true rfl) (by decide) dX6_isHere_13 (fun r10 w9 y8 => ?_)
    show V x 0 0 w9 16 [(0, .ref (gz (xG x) + 68)), (1, .int a1)] [.int r10]
    obtain ⟨h11, o12⟩ := y8
    have h13 := Ch.tr h6 h11 (by decide) (by decide)
    refine r_if_ne 23 C dX6_isHere_16 (by decide) (fun c14 => ?_) (fun c14 => ?_)
    · have c14' := i_ne c14
      refine r_iconst (v := 0) C dX6_isHere_23 (by decide) ?_
      exact hret _ _ _ _ dX6_isHere_24 (nar_z (z_of (by omega))) ⟨h13, o12, by omega⟩
    · have c14' := i_eq c14
      refine r_iconst (v := 1) C dX6_isHere_19 (by decide) ?_
      refine r_goto 24 C dX6_isHere_20 (by decide) ?_
      exact hret _ _ _ _ dX6_isHere_24 (nar_z (z_of (by omega))) ⟨h13, o12, by omega⟩
set_option maxHeartbeats 4000000 in
set_option maxRecDepth 100000 in
theorem ctX6_fate_71 (l : Launch) (G : Gt) (w : Wv) (sC : Str KC XC w) (o0 : Inv RC w) (a1 : Int32) : CtI l G yX6_fate cX6_fate 4 .int ({ frames := 0, cells := 0, slots := 0, locals := 0 } : Room) [.ref (gz G + 71), .int a1] w (fun r w' => Ch [] [] w w' ∧ Inv RC w') := by
  refine enterI (by decide) (Nat.le_of_ble_eq_true rfl) ?_
  intro x el eG C hret
  subst el; subst eG
  show V x 0 0 w 0 [(0, .ref (gz (xG x) + 71)), (1, .int a1)] []
  have h0 : Ch [] [] w w := Ch.rf
  have qm1 : ((-1) : Int32).toInt = (-1) := by decide
  have q0 : (0 : Int32).toInt = 0 := by decide
  have q1 : (1 : Int32).toInt = 1 := by decide
  have q2 : (2 : Int32).toInt = 2 := by decide
  have q3 : (3 : Int32).toInt = 3 := by decide
  have q6 : (6 : Int32).toInt = 6 := by decide
  have q42 : (42 : Int32).toInt = 42 := by decide
  refine r_iload_n 1 C dX6_fate_0 rfl ?_
  refine r_if_lt 19 C dX6_fate_1 (by decide) (fun c1 => ?_) (fun c1 => ?_)
  · have c1' := i_lt c1
    refine r_iconst (v := (-1)) C dX6_fate_19 (by decide) ?_
    refine r_istore_n [(2, .int (-1)), (0, .ref (gz (xG x) + 71)), (1, .int a1)] C dX6_fate_20 (by decide) rfl ?_
    refine r_iload_n 0 C dX6_fate_21 rfl ?_
    refine r_if_lt 43 C dX6_fate_22 (by decide) (fun c2 => ?_) (fun c2 => ?_)
    · have c2' := i_lt c2
      refine r_iconst (v := 0) C dX6_fate_43 (by decide) ?_
      refine r_istore_n [(3, .int 0), (2, .int (-1)), (0, .ref (gz (xG x) + 71)), (1, .int a1)] C dX6_fate_44 (by decide) rfl ?_
      refine r_iload_n 0 C dX6_fate_45 rfl ?_
      refine r_iconst (v := 3) C dX6_fate_46 (by decide) ?_
      refine r_icmp_ne 54 C dX6_fate_47 (by decide) (fun c3 => ?_) (fun c3 => ?_)
      · have c3' := i_ne c3
        refine r_iload_n 0 C dX6_fate_54 rfl ?_
        refine r_iconst (v := 2) C dX6_fate_55 (by decide) ?_
        refine r_icmp_ne 63 C dX6_fate_56 (by decide) (fun c4 => ?_) (fun c4 => ?_)
        · have c4' := i_ne c4
          refine r_iconst (v := 0) C dX6_fate_63 (by decide) ?_
          exact hret _ _ _ _ dX6_fate_64 rfl ⟨h0, o0⟩
        · have c4' := i_eq c4
          exfalso; omega
      · have c3' := i_eq c3
        exfalso; omega
    · have c2' := i_nlt c2
      exfalso; omega
  · have c1' := i_nlt c1
    refine r_iload_n 1 C dX6_fate_4 rfl ?_
    refine r_bipush (v := 6) C dX6_fate_5 (by decide) ?_
    have k6 := i_rng a1
    refine r_icmp_ge 19 C dX6_fate_7 (by decide) (fun c5 => ?_) (fun c5 => ?_)
    · have c5' := i_le c5
      refine r_iconst (v := (-1)) C dX6_fate_19 (by decide) ?_
      refine r_istore_n [(2, .int (-1)), (0, .ref (gz (xG x) + 71)), (1, .int a1)] C dX6_fate_20 (by decide) rfl ?_
      refine r_iload_n 0 C dX6_fate_21 rfl ?_
      refine r_if_lt 43 C dX6_fate_22 (by decide) (fun c7 => ?_) (fun c7 => ?_)
      · have c7' := i_lt c7
        refine r_iconst (v := 0) C dX6_fate_43 (by decide) ?_
        refine r_istore_n [(3, .int 0), (2, .int (-1)), (0, .ref (gz (xG x) + 71)), (1, .int a1)] C dX6_fate_44 (by decide) rfl ?_
        refine r_iload_n 0 C dX6_fate_45 rfl ?_
        refine r_iconst (v := 3) C dX6_fate_46 (by decide) ?_
        refine r_icmp_ne 54 C dX6_fate_47 (by decide) (fun c8 => ?_) (fun c8 => ?_)
        · have c8' := i_ne c8
          refine r_iload_n 0 C dX6_fate_54 rfl ?_
          refine r_iconst (v := 2) C dX6_fate_55 (by decide) ?_
          refine r_icmp_ne 63 C dX6_fate_56 (by decide) (fun c9 => ?_) (fun c9 => ?_)
          · have c9' := i_ne c9
            refine r_iconst (v := 0) C dX6_fate_63 (by decide) ?_
            exact hret _ _ _ _ dX6_fate_64 rfl ⟨h0, o0⟩
          · have c9' := i_eq c9
            exfalso; omega
        · have c8' := i_eq c8
          exfalso; omega
      · have c7' := i_nlt c7
        exfalso; omega
    · have c5' := i_nle c5
      refine r_aload_n 0 C dX6_fate_10 rfl ?_
      refine gfX6_9 72 C (kS sC h0 kc_71) (xS sC h0 xc_71_2) dX6_fate_11 ?_
      refine r_iload_n 1 C dX6_fate_14 rfl ?_
      refine r_iald C (kS sC h0 kc_72) (vin (by omega) (by omega)) dX6_fate_15 ?_
      generalize (wI w 72 (a1).toNatClampNeg) = v10
      refine r_goto 20 C dX6_fate_16 (by decide) ?_
      refine r_istore_n [(2, .int v10), (0, .ref (gz (xG x) + 71)), (1, .int a1)] C dX6_fate_20 (by decide) rfl ?_
      refine r_iload_n 0 C dX6_fate_21 rfl ?_
      refine r_if_lt 43 C dX6_fate_22 (by decide) (fun c11 => ?_) (fun c11 => ?_)
      · have c11' := i_lt c11
        refine r_iconst (v := 0) C dX6_fate_43 (by decide) ?_
        refine r_istore_n [(3, .int 0), (2, .int v10), (0, .ref (gz (xG x) + 71)), (1, .int a1)] C dX6_fate_44 (by decide) rfl ?_
        refine r_iload_n 0 C dX6_fate_45 rfl ?_
        refine r_iconst (v := 3) C dX6_fate_46 (by decide) ?_
        refine r_icmp_ne 54 C dX6_fate_47 (by decide) (fun c12 => ?_) (fun c12 => ?_)
        · have c12' := i_ne c12
          refine r_iload_n 0 C dX6_fate_54 rfl ?_
          refine r_iconst (v := 2) C dX6_fate_55 (by decide) ?_
          refine r_icmp_ne 63 C dX6_fate_56 (by decide) (fun c13 => ?_) (fun c13 => ?_)
          · have c13' := i_ne c13
            refine r_iconst (v := 0) C dX6_fate_63 (by decide) ?_
            exact hret _ _ _ _ dX6_fate_64 rfl ⟨h0, o0⟩
          · have c13' := i_eq c13
            exfalso; omega
        · have c12' := i_eq c12
          exfalso; omega
      · have c11' := i_nlt c11
        refine r_iload_n 0 C dX6_fate_25 rfl ?_
        refine r_bipush (v := 42) C dX6_fate_26 (by decide) ?_
        have k15 := i_rng v10
        refine r_icmp_ge 43 C dX6_fate_28 (by decide) (fun c14 => ?_) (fun c14 => ?_)
        · have c14' := i_le c14
          refine r_iconst (v := 0) C dX6_fate_43 (by decide) ?_
          refine r_istore_n [(3, .int 0), (2, .int v10), (0, .ref (gz (xG x) + 71)), (1, .int a1)] C dX6_fate_44 (by decide) rfl ?_
          refine r_iload_n 0 C dX6_fate_45 rfl ?_
          refine r_iconst (v := 3) C dX6_fate_46 (by decide) ?_
          refine r_icmp_ne 54 C dX6_fate_47 (by decide) (fun c16 => ?_) (fun c16 => ?_)
          · have c16' := i_ne c16
            refine r_iload_n 0 C dX6_fate_54 rfl ?_
            refine r_iconst (v := 2) C dX6_fate_55 (by decide) ?_
            refine r_icmp_ne 63 C dX6_fate_56 (by decide) (fun c17 => ?_) (fun c17 => ?_)
            · have c17' := i_ne c17
              refine r_iconst (v := 0) C dX6_fate_63 (by decide) ?_
              exact hret _ _ _ _ dX6_fate_64 rfl ⟨h0, o0⟩
            · have c17' := i_eq c17
              exfalso; omega
          · have c16' := i_eq c16
            exfalso; omega
        · have c14' := i_nle c14
          refine r_aload_n 1 C dX6_fate_31 rfl ?_
          refine gfX6_22 21 C (kS sC h0 kc_71) (xS sC h0 xc_71_5) dX6_fate_32 ?_
          refine gfX6_85 22 C (kS sC h0 kc_21) (xS sC h0 xc_21_1) dX6_fate_35 ?_
          refine r_iload_n 0 C dX6_fate_38 rfl ?_
          refine r_iald C (kS sC h0 kc_22) (vin (by omega) (by omega)) dX6_fate_39 ?_
          generalize (wI w 22 (v10).toNatClampNeg) = v18
          refine r_goto 44 C dX6_fate_40 (by decide) ?_
          refine r_istore_n [(3, .int v18), (2, .int v10), (0, .ref (gz (xG x) + 71)), (1, .int a1)] C dX6_fate_44 (by decide) rfl ?_
          refine r_iload_n 0 C dX6_fate_45 rfl ?_
          refine r_iconst (v := 3) C dX6_fate_46 (by decide) ?_
          refine r_icmp_ne 54 C dX6_fate_47 (by decide) (fun c19 => ?_) (fun c19 => ?_)
          · have c19' := i_ne c19
            refine r_iload_n 0 C dX6_fate_54 rfl ?_
            refine r_iconst (v := 2) C dX6_fate_55 (by decide) ?_
            refine r_icmp_ne 63 C dX6_fate_56 (by decide) (fun c20 => ?_) (fun c20 => ?_)
            · have c20' := i_ne c20
              refine r_iconst (v := 0) C dX6_fate_63 (by decide) ?_
              exact hret _ _ _ _ dX6_fate_64 rfl ⟨h0, o0⟩
            · have c20' := i_eq c20
              refine r_iconst (v := 2) C dX6_fate_59 (by decide) ?_
              refine r_goto 64 C dX6_fate_60 (by decide) ?_
              exact hret _ _ _ _ dX6_fate_64 rfl ⟨h0, o0⟩
          · have c19' := i_eq c19
            refine r_iconst (v := 1) C dX6_fate_50 (by decide) ?_
            refine r_goto 64 C dX6_fate_51 (by decide) ?_
            exact hret _ _ _ _ dX6_fate_64 rfl ⟨h0, o0⟩
set_option maxHeartbeats 4000000 in
set_option maxRecDepth 100000 in
theorem ctX6_isHere_71 (l : Launch) (G : Gt) (w : Wv) (sC : Str KC XC w) (o0 : Inv RC w) (a1 : Int32) : CtI l G yX6_isHere cX6_isHere 2 .boolean ({ frames := 1, cells := 0, slots := 0, locals := 23 } : Room) [.ref (gz G + 71), .int a1] w (fun r w' => Ch [] [] w w' ∧ Inv RC w' ∧ ((0 ≤ r.toInt ∧ r.toInt ≤ 1))) := by
  refine enterI (by decide) (Nat.le_of_ble_eq_true rfl) ?_
  intro x el eG C hret
  subst el; subst eG
  show V x 0 0 w 0 [(0, .ref (gz (xG x) + 71)), (1, .int a1)] []
  have h0 : Ch [] [] w w := Ch.rf
  have q0 : (0 : Int32).toInt = 0 := by decide
  have q1 : (1 : Int32).toInt = 1 := by decide
  refine r_aload_n 0 C dX6_isHere_0 rfl ?_
  refine gfX6_18 3 C (kS sC h0 kc_71) (xS sC h0 xc_71_4) dX6_isHere_1 ?_
  refine r_iload_n 1 C dX6_isHere_4 rfl ?_
  refine callVI C cwX6_88_V (ctX9_followers_3 _ _ w (sS sC h0) o0 a1 ) (by decide) (kS sC h0 kc_3) rfl rfl rfl (Nat.le_of_ble_eq_true rfl) (by decide) dX6_isHere_5 (fun r3 w2 y1 => ?_)
  show V x 0 0 w2 8 [(0, .ref (gz (xG x) + 71)), (1, .int a1)] [.int r3]
  obtain ⟨h4, o5⟩ := y1
  have h6 := Ch.tr h0 h4 (by decide) (by decide)
  refine r_if_le 23 C dX6_isHere_8 (by decide) (fun c7 => ?_) (fun c7 => ?_)
  · have c7' := i_le c7
    refine r_iconst (v := 0) C dX6_isHere_23 (by decide) ?_
    exact hret _ _ _ _ dX6_isHere_24 (nar_z (z_of (by omega))) ⟨h6, o5, by omega⟩
  · have c7' := i_nle c7
    refine r_aload_n 0 C dX6_isHere_11 rfl ?_
    refine r_iload_n 1 C dX6_isHere_12 rfl ?_
    refine callVI C cwX6_82_V (ctX6_fate_71 _ _ w2 (sS sC h6) o5 a1 ) (by decide) (kS sC h6 kc_71) rfl rfl rfl (Nat.le_of_ble_eq_true rfl) (by decide) dX6_isHere_13 (fun r10 w9 y8 => ?_)
    show V x 0 0 w9 16 [(0, .ref (gz (xG x) + 71)), (1, .int a1)] [.int r10]
    obtain ⟨h11, o12⟩ := y8
    have h13 := Ch.tr h6 h11 (by decide) (by decide)
    refine r_if_ne 23 C dX6_isHere_16 (by decide) (fun c14 => ?_) (fun c14 => ?_)
    · have c14' := i_ne c14
      refine r_iconst (v := 0) C dX6_isHere_23 (by decide) ?_
      exact hret _ _ _ _ dX6_isHere_24 (nar_z (z_of (by omega))) ⟨h13, o12, by omega⟩
    · have c14' := i_eq c14
      refine r_iconst (v := 1) C dX6_isHere_19 (by decide) ?_
      refine r_goto 24 C dX6_isHere_20 (by decide) ?_
      exact hret _ _ _ _ dX6_isHere_24 (nar_z (z_of (by omega))) ⟨h13, o12, by omega⟩
set_option maxHeartbeats 4000000 in
set_option maxRecDepth 100000 in
theorem ctX6_fate_74 (l : Launch) (G : Gt) (w : Wv) (sC : Str KC XC w) (o0 : Inv RC w) (a1 : Int32) : CtI l G yX6_fate cX6_fate 4 .int ({ frames := 0, cells := 0, slots := 0, locals := 0 } : Room) [.ref (gz G + 74), .int a1] w (fun r w' => Ch [] [] w w' ∧ Inv RC w') := by
  refine enterI (by decide) (Nat.le_of_ble_eq_true rfl) ?_
  intro x el eG C hret
  subst el; subst eG
  show V x 0 0 w 0 [(0, .ref (gz (xG x) + 74)), (1, .int a1)] []
  have h0 : Ch [] [] w w := Ch.rf
  have qm1 : ((-1) : Int32).toInt = (-1) := by decide
  have q0 : (0 : Int32).toInt = 0 := by decide
  have q1 : (1 : Int32).toInt = 1 := by decide
  have q2 : (2 : Int32).toInt = 2 := by decide
  have q3 : (3 : Int32).toInt = 3 := by decide
  have q6 : (6 : Int32).toInt = 6 := by decide
  have q42 : (42 : Int32).toInt = 42 := by decide
  refine r_iload_n 1 C dX6_fate_0 rfl ?_
  refine r_if_lt 19 C dX6_fate_1 (by decide) (fun c1 => ?_) (fun c1 => ?_)
  · have c1' := i_lt c1
    refine r_iconst (v := (-1)) C dX6_fate_19 (by decide) ?_
    refine r_istore_n [(2, .int (-1)), (0, .ref (gz (xG x) + 74)), (1, .int a1)] C dX6_fate_20 (by decide) rfl ?_
    refine r_iload_n 0 C dX6_fate_21 rfl ?_
    refine r_if_lt 43 C dX6_fate_22 (by decide) (fun c2 => ?_) (fun c2 => ?_)
    · have c2' := i_lt c2
      refine r_iconst (v := 0) C dX6_fate_43 (by decide) ?_
      refine r_istore_n [(3, .int 0), (2, .int (-1)), (0, .ref (gz (xG x) + 74)), (1, .int a1)] C dX6_fate_44 (by decide) rfl ?_
      refine r_iload_n 0 C dX6_fate_45 rfl ?_
      refine r_iconst (v := 3) C dX6_fate_46 (by decide) ?_
      refine r_icmp_ne 54 C dX6_fate_47 (by decide) (fun c3 => ?_) (fun c3 => ?_)
      · have c3' := i_ne c3
        refine r_iload_n 0 C dX6_fate_54 rfl ?_
        refine r_iconst (v := 2) C dX6_fate_55 (by decide) ?_
        refine r_icmp_ne 63 C dX6_fate_56 (by decide) (fun c4 => ?_) (fun c4 => ?_)
        · have c4' := i_ne c4
          refine r_iconst (v := 0) C dX6_fate_63 (by decide) ?_
          exact hret _ _ _ _ dX6_fate_64 rfl ⟨h0, o0⟩
        · have c4' := i_eq c4
          exfalso; omega
      · have c3' := i_eq c3
        exfalso; omega
    · have c2' := i_nlt c2
      exfalso; omega
  · have c1' := i_nlt c1
    refine r_iload_n 1 C dX6_fate_4 rfl ?_
    refine r_bipush (v := 6) C dX6_fate_5 (by decide) ?_
    have k6 := i_rng a1
    refine r_icmp_ge 19 C dX6_fate_7 (by decide) (fun c5 => ?_) (fun c5 => ?_)
    · have c5' := i_le c5
      refine r_iconst (v := (-1)) C dX6_fate_19 (by decide) ?_
      refine r_istore_n [(2, .int (-1)), (0, .ref (gz (xG x) + 74)), (1, .int a1)] C dX6_fate_20 (by decide) rfl ?_
      refine r_iload_n 0 C dX6_fate_21 rfl ?_
      refine r_if_lt 43 C dX6_fate_22 (by decide) (fun c7 => ?_) (fun c7 => ?_)
      · have c7' := i_lt c7
        refine r_iconst (v := 0) C dX6_fate_43 (by decide) ?_
        refine r_istore_n [(3, .int 0), (2, .int (-1)), (0, .ref (gz (xG x) + 74)), (1, .int a1)] C dX6_fate_44 (by decide) rfl ?_
        refine r_iload_n 0 C dX6_fate_45 rfl ?_
        refine r_iconst (v := 3) C dX6_fate_46 (by decide) ?_
        refine r_icmp_ne 54 C dX6_fate_47 (by decide) (fun c8 => ?_) (fun c8 => ?_)
        · have c8' := i_ne c8
          refine r_iload_n 0 C dX6_fate_54 rfl ?_
          refine r_iconst (v := 2) C dX6_fate_55 (by decide) ?_
          refine r_icmp_ne 63 C dX6_fate_56 (by decide) (fun c9 => ?_) (fun c9 => ?_)
          · have c9' := i_ne c9
            refine r_iconst (v := 0) C dX6_fate_63 (by decide) ?_
            exact hret _ _ _ _ dX6_fate_64 rfl ⟨h0, o0⟩
          · have c9' := i_eq c9
            exfalso; omega
        · have c8' := i_eq c8
          exfalso; omega
      · have c7' := i_nlt c7
        exfalso; omega
    · have c5' := i_nle c5
      refine r_aload_n 0 C dX6_fate_10 rfl ?_
      refine gfX6_9 75 C (kS sC h0 kc_74) (xS sC h0 xc_74_2) dX6_fate_11 ?_
      refine r_iload_n 1 C dX6_fate_14 rfl ?_
      refine r_iald C (kS sC h0 kc_75) (vin (by omega) (by omega)) dX6_fate_15 ?_
      generalize (wI w 75 (a1).toNatClampNeg) = v10
      refine r_goto 20 C dX6_fate_16 (by decide) ?_
      refine r_istore_n [(2, .int v10), (0, .ref (gz (xG x) + 74)), (1, .int a1)] C dX6_fate_20 (by decide) rfl ?_
      refine r_iload_n 0 C dX6_fate_21 rfl ?_
      refine r_if_lt 43 C dX6_fate_22 (by decide) (fun c11 => ?_) (fun c11 => ?_)
      · have c11' := i_lt c11
        refine r_iconst (v := 0) C dX6_fate_43 (by decide) ?_
        refine r_istore_n [(3, .int 0), (2, .int v10), (0, .ref (gz (xG x) + 74)), (1, .int a1)] C dX6_fate_44 (by decide) rfl ?_
        refine r_iload_n 0 C dX6_fate_45 rfl ?_
        refine r_iconst (v := 3) C dX6_fate_46 (by decide) ?_
        refine r_icmp_ne 54 C dX6_fate_47 (by decide) (fun c12 => ?_) (fun c12 => ?_)
        · have c12' := i_ne c12
          refine r_iload_n 0 C dX6_fate_54 rfl ?_
          refine r_iconst (v := 2) C dX6_fate_55 (by decide) ?_
          refine r_icmp_ne 63 C dX6_fate_56 (by decide) (fun c13 => ?_) (fun c13 => ?_)
          · have c13' := i_ne c13
            refine r_iconst (v := 0) C dX6_fate_63 (by decide) ?_
            exact hret _ _ _ _ dX6_fate_64 rfl ⟨h0, o0⟩
          · have c13' := i_eq c13
            exfalso; omega
        · have c12' := i_eq c12
          exfalso; omega
      · have c11' := i_nlt c11
        refine r_iload_n 0 C dX6_fate_25 rfl ?_
        refine r_bipush (v := 42) C dX6_fate_26 (by decide) ?_
        have k15 := i_rng v10
        refine r_icmp_ge 43 C dX6_fate_28 (by decide) (fun c14 => ?_) (fun c14 => ?_)
        · have c14' := i_le c14
          refine r_iconst (v := 0) C dX6_fate_43 (by decide) ?_
          refine r_istore_n [(3, .int 0), (2, .int v10), (0, .ref (gz (xG x) + 74)), (1, .int a1)] C dX6_fate_44 (by decide) rfl ?_
          refine r_iload_n 0 C dX6_fate_45 rfl ?_
          refine r_iconst (v := 3) C dX6_fate_46 (by decide) ?_
          refine r_icmp_ne 54 C dX6_fate_47 (by decide) (fun c16 => ?_) (fun c16 => ?_)
          · have c16' := i_ne c16
            refine r_iload_n 0 C dX6_fate_54 rfl ?_
            refine r_iconst (v := 2) C dX6_fate_55 (by decide) ?_
            refine r_icmp_ne 63 C dX6_fate_56 (by decide) (fun c17 => ?_) (fun c17 => ?_)
            · have c17' := i_ne c17
              refine r_iconst (v := 0) C dX6_fate_63 (by decide) ?_
              exact hret _ _ _ _ dX6_fate_64 rfl ⟨h0, o0⟩
            · have c17' := i_eq c17
              exfalso; omega
          · have c16' := i_eq c16
            exfalso; omega
        · have c14' := i_nle c14
          refine r_aload_n 1 C dX6_fate_31 rfl ?_
          refine gfX6_22 21 C (kS sC h0 kc_74) (xS sC h0 xc_74_5) dX6_fate_32 ?_
          refine gfX6_85 22 C (kS sC h0 kc_21) (xS sC h0 xc_21_1) dX6_fate_35 ?_
          refine r_iload_n 0 C dX6_fate_38 rfl ?_
          refine r_iald C (kS sC h0 kc_22) (vin (by omega) (by omega)) dX6_fate_39 ?_
          generalize (wI w 22 (v10).toNatClampNeg) = v18
          refine r_goto 44 C dX6_fate_40 (by decide) ?_
          refine r_istore_n [(3, .int v18), (2, .int v10), (0, .ref (gz (xG x) + 74)), (1, .int a1)] C dX6_fate_44 (by decide) rfl ?_
          refine r_iload_n 0 C dX6_fate_45 rfl ?_
          refine r_iconst (v := 3) C dX6_fate_46 (by decide) ?_
          refine r_icmp_ne 54 C dX6_fate_47 (by decide) (fun c19 => ?_) (fun c19 => ?_)
          · have c19' := i_ne c19
            refine r_iload_n 0 C dX6_fate_54 rfl ?_
            refine r_iconst (v := 2) C dX6_fate_55 (by decide) ?_
            refine r_icmp_ne 63 C dX6_fate_56 (by decide) (fun c20 => ?_) (fun c20 => ?_)
            · have c20' := i_ne c20
              refine r_iconst (v := 0) C dX6_fate_63 (by decide) ?_
              exact hret _ _ _ _ dX6_fate_64 rfl ⟨h0, o0⟩
            · have c20' := i_eq c20
              refine r_iconst (v := 2) C dX6_fate_59 (by decide) ?_
              refine r_goto 64 C dX6_fate_60 (by decide) ?_
              exact hret _ _ _ _ dX6_fate_64 rfl ⟨h0, o0⟩
          · have c19' := i_eq c19
            refine r_iconst (v := 1) C dX6_fate_50 (by decide) ?_
            refine r_goto 64 C dX6_fate_51 (by decide) ?_
            exact hret _ _ _ _ dX6_fate_64 rfl ⟨h0, o0⟩
set_option maxHeartbeats 4000000 in
set_option maxRecDepth 100000 in
theorem ctX6_isHere_74 (l : Launch) (G : Gt) (w : Wv) (sC : Str KC XC w) (o0 : Inv RC w) (a1 : Int32) : CtI l G yX6_isHere cX6_isHere 2 .boolean ({ frames := 1, cells := 0, slots := 0, locals := 23 } : Room) [.ref (gz G + 74), .int a1] w (fun r w' => Ch [] [] w w' ∧ Inv RC w' ∧ ((0 ≤ r.toInt ∧ r.toInt ≤ 1))) := by
  refine enterI (by decide) (Nat.le_of_ble_eq_true rfl) ?_
  intro x el eG C hret
  subst el; subst eG
  show V x 0 0 w 0 [(0, .ref (gz (xG x) + 74)), (1, .int a1)] []
  have h0 : Ch [] [] w w := Ch.rf
  have q0 : (0 : Int32).toInt = 0 := by decide
  have q1 : (1 : Int32).toInt = 1 := by decide
  refine r_aload_n 0 C dX6_isHere_0 rfl ?_
  refine gfX6_18 3 C (kS sC h0 kc_74) (xS sC h0 xc_74_4) dX6_isHere_1 ?_
  refine r_iload_n 1 C dX6_isHere_4 rfl ?_
  refine callVI C cwX6_88_V (ctX9_followers_3 _ _ w (sS sC h0) o0 a1 ) (by decide) (kS sC h0 kc_3) rfl rfl rfl (Nat.le_of_ble_eq_true rfl) (by decide) dX6_isHere_5 (fun r3 w2 y1 => ?_)
  show V x 0 0 w2 8 [(0, .ref (gz (xG x) + 74)), (1, .int a1)] [.int r3]
  obtain ⟨h4, o5⟩ := y1
  have h6 := Ch.tr h0 h4 (by decide) (by decide)
  refine r_if_le 23 C dX6_isHere_8 (by decide) (fun c7 => ?_) (fun c7 => ?_)
  · have c7' := i_le c7
    refine r_iconst (v := 0) C dX6_isHere_23 (by decide) ?_
    exact hret _ _ _ _ dX6_isHere_24 (nar_z (z_of (by omega))) ⟨h6, o5, by omega⟩
  · have c7' := i_nle c7
    refine r_aload_n 0 C dX6_isHere_11 rfl ?_
    refine r_iload_n 1 C dX6_isHere_12 rfl ?_
    refine callVI C cwX6_82_V (ctX6_fate_74 _ _ w2 (sS sC h6) o5 a1 ) (by decide) (kS sC h6 kc_74) rfl rfl rfl (Nat.le_of_ble_eq_true rfl) (by decide) dX6_isHere_13 (fun r10 w9 y8 => ?_)
    show V x 0 0 w9 16 [(0, .ref (gz (xG x) + 74)), (1, .int a1)] [.int r10]
    obtain ⟨h11, o12⟩ := y8
    have h13 := Ch.tr h6 h11 (by decide) (by decide)
    refine r_if_ne 23 C dX6_isHere_16 (by decide) (fun c14 => ?_) (fun c14 => ?_)
    · have c14' := i_ne c14
      refine r_iconst (v := 0) C dX6_isHere_23 (by decide) ?_
      exact hret _ _ _ _ dX6_isHere_24 (nar_z (z_of (by omega))) ⟨h13, o12, by omega⟩
    · have c14' := i_eq c14
      refine r_iconst (v := 1) C dX6_isHere_19 (by decide) ?_
      refine r_goto 24 C dX6_isHere_20 (by decide) ?_
      exact hret _ _ _ _ dX6_isHere_24 (nar_z (z_of (by omega))) ⟨h13, o12, by omega⟩
set_option maxHeartbeats 4000000 in
set_option maxRecDepth 100000 in
theorem ctX6_fate_77 (l : Launch) (G : Gt) (w : Wv) (sC : Str KC XC w) (o0 : Inv RC w) (a1 : Int32) : CtI l G yX6_fate cX6_fate 4 .int ({ frames := 0, cells := 0, slots := 0, locals := 0 } : Room) [.ref (gz G + 77), .int a1] w (fun r w' => Ch [] [] w w' ∧ Inv RC w') := by
  refine enterI (by decide) (Nat.le_of_ble_eq_true rfl) ?_
  intro x el eG C hret
  subst el; subst eG
  show V x 0 0 w 0 [(0, .ref (gz (xG x) + 77)), (1, .int a1)] []
  have h0 : Ch [] [] w w := Ch.rf
  have qm1 : ((-1) : Int32).toInt = (-1) := by decide
  have q0 : (0 : Int32).toInt = 0 := by decide
  have q1 : (1 : Int32).toInt = 1 := by decide
  have q2 : (2 : Int32).toInt = 2 := by decide
  have q3 : (3 : Int32).toInt = 3 := by decide
  have q6 : (6 : Int32).toInt = 6 := by decide
  have q42 : (42 : Int32).toInt = 42 := by decide
  refine r_iload_n 1 C dX6_fate_0 rfl ?_
  refine r_if_lt 19 C dX6_fate_1 (by decide) (fun c1 => ?_) (fun c1 => ?_)
  · have c1' := i_lt c1
    refine r_iconst (v := (-1)) C dX6_fate_19 (by decide) ?_
    refine r_istore_n [(2, .int (-1)), (0, .ref (gz (xG x) + 77)), (1, .int a1)] C dX6_fate_20 (by decide) rfl ?_
    refine r_iload_n 0 C dX6_fate_21 rfl ?_
    refine r_if_lt 43 C dX6_fate_22 (by decide) (fun c2 => ?_) (fun c2 => ?_)
    · have c2' := i_lt c2
      refine r_iconst (v := 0) C dX6_fate_43 (by decide) ?_
      refine r_istore_n [(3, .int 0), (2, .int (-1)), (0, .ref (gz (xG x) + 77)), (1, .int a1)] C dX6_fate_44 (by decide) rfl ?_
      refine r_iload_n 0 C dX6_fate_45 rfl ?_
      refine r_iconst (v := 3) C dX6_fate_46 (by decide) ?_
      refine r_icmp_ne 54 C dX6_fate_47 (by decide) (fun c3 => ?_) (fun c3 => ?_)
      · have c3' := i_ne c3
        refine r_iload_n 0 C dX6_fate_54 rfl ?_
        refine r_iconst (v := 2) C dX6_fate_55 (by decide) ?_
        refine r_icmp_ne 63 C dX6_fate_56 (by decide) (fun c4 => ?_) (fun c4 => ?_)
        · have c4' := i_ne c4
          refine r_iconst (v := 0) C dX6_fate_63 (by decide) ?_
          exact hret _ _ _ _ dX6_fate_64 rfl ⟨h0, o0⟩
        · have c4' := i_eq c4
          exfalso; omega
      · have c3' := i_eq c3
        exfalso; omega
    · have c2' := i_nlt c2
      exfalso; omega
  · have c1' := i_nlt c1
    refine r_iload_n 1 C dX6_fate_4 rfl ?_
    refine r_bipush (v := 6) C dX6_fate_5 (by decide) ?_
    have k6 := i_rng a1
    refine r_icmp_ge 19 C dX6_fate_7 (by decide) (fun c5 => ?_) (fun c5 => ?_)
    · have c5' := i_le c5
      refine r_iconst (v := (-1)) C dX6_fate_19 (by decide) ?_
      refine r_istore_n [(2, .int (-1)), (0, .ref (gz (xG x) + 77)), (1, .int a1)] C dX6_fate_20 (by decide) rfl ?_
      refine r_iload_n 0 C dX6_fate_21 rfl ?_
      refine r_if_lt 43 C dX6_fate_22 (by decide) (fun c7 => ?_) (fun c7 => ?_)
      · have c7' := i_lt c7
        refine r_iconst (v := 0) C dX6_fate_43 (by decide) ?_
        refine r_istore_n [(3, .int 0), (2, .int (-1)), (0, .ref (gz (xG x) + 77)), (1, .int a1)] C dX6_fate_44 (by decide) rfl ?_
        refine r_iload_n 0 C dX6_fate_45 rfl ?_
        refine r_iconst (v := 3) C dX6_fate_46 (by decide) ?_
        refine r_icmp_ne 54 C dX6_fate_47 (by decide) (fun c8 => ?_) (fun c8 => ?_)
        · have c8' := i_ne c8
          refine r_iload_n 0 C dX6_fate_54 rfl ?_
          refine r_iconst (v := 2) C dX6_fate_55 (by decide) ?_
          refine r_icmp_ne 63 C dX6_fate_56 (by decide) (fun c9 => ?_) (fun c9 => ?_)
          · have c9' := i_ne c9
            refine r_iconst (v := 0) C dX6_fate_63 (by decide) ?_
            exact hret _ _ _ _ dX6_fate_64 rfl ⟨h0, o0⟩
          · have c9' := i_eq c9
            exfalso; omega
        · have c8' := i_eq c8
          exfalso; omega
      · have c7' := i_nlt c7
        exfalso; omega
    · have c5' := i_nle c5
      refine r_aload_n 0 C dX6_fate_10 rfl ?_
      refine gfX6_9 78 C (kS sC h0 kc_77) (xS sC h0 xc_77_2) dX6_fate_11 ?_
      refine r_iload_n 1 C dX6_fate_14 rfl ?_
      refine r_iald C (kS sC h0 kc_78) (vin (by omega) (by omega)) dX6_fate_15 ?_
      generalize (wI w 78 (a1).toNatClampNeg) = v10
      refine r_goto 20 C dX6_fate_16 (by decide) ?_
      refine r_istore_n [(2, .int v10), (0, .ref (gz (xG x) + 77)), (1, .int a1)] C dX6_fate_20 (by decide) rfl ?_
      refine r_iload_n 0 C dX6_fate_21 rfl ?_
      refine r_if_lt 43 C dX6_fate_22 (by decide) (fun c11 => ?_) (fun c11 => ?_)
      · have c11' := i_lt c11
        refine r_iconst (v := 0) C dX6_fate_43 (by decide) ?_
        refine r_istore_n [(3, .int 0), (2, .int v10), (0, .ref (gz (xG x) + 77)), (1, .int a1)] C dX6_fate_44 (by decide) rfl ?_
        refine r_iload_n 0 C dX6_fate_45 rfl ?_
        refine r_iconst (v := 3) C dX6_fate_46 (by decide) ?_
        refine r_icmp_ne 54 C dX6_fate_47 (by decide) (fun c12 => ?_) (fun c12 => ?_)
        · have c12' := i_ne c12
          refine r_iload_n 0 C dX6_fate_54 rfl ?_
          refine r_iconst (v := 2) C dX6_fate_55 (by decide) ?_
          refine r_icmp_ne 63 C dX6_fate_56 (by decide) (fun c13 => ?_) (fun c13 => ?_)
          · have c13' := i_ne c13
            refine r_iconst (v := 0) C dX6_fate_63 (by decide) ?_
            exact hret _ _ _ _ dX6_fate_64 rfl ⟨h0, o0⟩
          · have c13' := i_eq c13
            exfalso; omega
        · have c12' := i_eq c12
          exfalso; omega
      · have c11' := i_nlt c11
        refine r_iload_n 0 C dX6_fate_25 rfl ?_
        refine r_bipush (v := 42) C dX6_fate_26 (by decide) ?_
        have k15 := i_rng v10
        refine r_icmp_ge 43 C dX6_fate_28 (by decide) (fun c14 => ?_) (fun c14 => ?_)
        · have c14' := i_le c14
          refine r_iconst (v := 0) C dX6_fate_43 (by decide) ?_
          refine r_istore_n [(3, .int 0), (2, .int v10), (0, .ref (gz (xG x) + 77)), (1, .int a1)] C dX6_fate_44 (by decide) rfl ?_
          refine r_iload_n 0 C dX6_fate_45 rfl ?_
          refine r_iconst (v := 3) C dX6_fate_46 (by decide) ?_
          refine r_icmp_ne 54 C dX6_fate_47 (by decide) (fun c16 => ?_) (fun c16 => ?_)
          · have c16' := i_ne c16
            refine r_iload_n 0 C dX6_fate_54 rfl ?_
            refine r_iconst (v := 2) C dX6_fate_55 (by decide) ?_
            refine r_icmp_ne 63 C dX6_fate_56 (by decide) (fun c17 => ?_) (fun c17 => ?_)
            · have c17' := i_ne c17
              refine r_iconst (v := 0) C dX6_fate_63 (by decide) ?_
              exact hret _ _ _ _ dX6_fate_64 rfl ⟨h0, o0⟩
            · have c17' := i_eq c17
              exfalso; omega
          · have c16' := i_eq c16
            exfalso; omega
        · have c14' := i_nle c14
          refine r_aload_n 1 C dX6_fate_31 rfl ?_
          refine gfX6_22 21 C (kS sC h0 kc_77) (xS sC h0 xc_77_5) dX6_fate_32 ?_
          refine gfX6_85 22 C (kS sC h0 kc_21) (xS sC h0 xc_21_1) dX6_fate_35 ?_
          refine r_iload_n 0 C dX6_fate_38 rfl ?_
          refine r_iald C (kS sC h0 kc_22) (vin (by omega) (by omega)) dX6_fate_39 ?_
          generalize (wI w 22 (v10).toNatClampNeg) = v18
          refine r_goto 44 C dX6_fate_40 (by decide) ?_
          refine r_istore_n [(3, .int v18), (2, .int v10), (0, .ref (gz (xG x) + 77)), (1, .int a1)] C dX6_fate_44 (by decide) rfl ?_
          refine r_iload_n 0 C dX6_fate_45 rfl ?_
          refine r_iconst (v := 3) C dX6_fate_46 (by decide) ?_
          refine r_icmp_ne 54 C dX6_fate_47 (by decide) (fun c19 => ?_) (fun c19 => ?_)
          · have c19' := i_ne c19
            refine r_iload_n 0 C dX6_fate_54 rfl ?_
            refine r_iconst (v := 2) C dX6_fate_55 (by decide) ?_
            refine r_icmp_ne 63 C dX6_fate_56 (by decide) (fun c20 => ?_) (fun c20 => ?_)
            · have c20' := i_ne c20
              refine r_iconst (v := 0) C dX6_fate_63 (by decide) ?_
              exact hret _ _ _ _ dX6_fate_64 rfl ⟨h0, o0⟩
            · have c20' := i_eq c20
              refine r_iconst (v := 2) C dX6_fate_59 (by decide) ?_
              refine r_goto 64 C dX6_fate_60 (by decide) ?_
              exact hret _ _ _ _ dX6_fate_64 rfl ⟨h0, o0⟩
          · have c19' := i_eq c19
            refine r_iconst (v := 1) C dX6_fate_50 (by decide) ?_
            refine r_goto 64 C dX6_fate_51 (by decide) ?_
            exact hret _ _ _ _ dX6_fate_64 rfl ⟨h0, o0⟩
set_option maxHeartbeats 4000000 in
set_option maxRecDepth 100000 in
theorem ctX6_isHere_77 (l : Launch) (G : Gt) (w : Wv) (sC : Str KC XC w) (o0 : Inv RC w) (a1 : Int32) : CtI l G yX6_isHere cX6_isHere 2 .boolean ({ frames := 1, cells := 0, slots := 0, locals := 23 } : Room) [.ref (gz G + 77), .int a1] w (fun r w' => Ch [] [] w w' ∧ Inv RC w' ∧ ((0 ≤ r.toInt ∧ r.toInt ≤ 1))) := by
  refine enterI (by decide) (Nat.le_of_ble_eq_true rfl) ?_
  intro x el eG C hret
  subst el; subst eG
  show V x 0 0 w 0 [(0, .ref (gz (xG x) + 77)), (1, .int a1)] []
  have h0 : Ch [] [] w w := Ch.rf
  have q0 : (0 : Int32).toInt = 0 := by decide
  have q1 : (1 : Int32).toInt = 1 := by decide
  refine r_aload_n 0 C dX6_isHere_0 rfl ?_
  refine gfX6_18 3 C (kS sC h0 kc_77) (xS sC h0 xc_77_4) dX6_isHere_1 ?_
  refine r_iload_n 1 C dX6_isHere_4 rfl ?_
  refine callVI C cwX6_88_V (ctX9_followers_3 _ _ w (sS sC h0) o0 a1 ) (by decide) (kS sC h0 kc_3) rfl rfl rfl (Nat.le_of_ble_eq_true rfl) (by decide) dX6_isHere_5 (fun r3 w2 y1 => ?_)
  show V x 0 0 w2 8 [(0, .ref (gz (xG x) + 77)), (1, .int a1)] [.int r3]
  obtain ⟨h4, o5⟩ := y1
  have h6 := Ch.tr h0 h4 (by decide) (by decide)
  refine r_if_le 23 C dX6_isHere_8 (by decide) (fun c7 => ?_) (fun c7 => ?_)
  · have c7' := i_le c7
    refine r_iconst (v := 0) C dX6_isHere_23 (by decide) ?_
    exact hret _ _ _ _ dX6_isHere_24 (nar_z (z_of (by omega))) ⟨h6, o5, by omega⟩
  · have c7' := i_nle c7
    refine r_aload_n 0 C dX6_isHere_11 rfl ?_
    refine r_iload_n 1 C dX6_isHere_12 rfl ?_
    refine callVI C cwX6_82_V (ctX6_fate_77 _ _ w2 (sS sC h6) o5 a1 ) (by decide) (kS sC h6 kc_77) rfl rfl rfl (Nat.le_of_ble_eq_true rfl) (by decide) dX6_isHere_13 (fun r10 w9 y8 => ?_)
    show V x 0 0 w9 16 [(0, .ref (gz (xG x) + 77)), (1, .int a1)] [.int r10]
    obtain ⟨h11, o12⟩ := y8
    have h13 := Ch.tr h6 h11 (by decide) (by decide)
    refine r_if_ne 23 C dX6_isHere_16 (by decide) (fun c14 => ?_) (fun c14 => ?_)
    · have c14' := i_ne c14
      refine r_iconst (v := 0) C dX6_isHere_23 (by decide) ?_
      exact hret _ _ _ _ dX6_isHere_24 (nar_z (z_of (by omega))) ⟨h13, o12, by omega⟩
    · have c14' := i_eq c14
      refine r_iconst (v := 1) C dX6_isHere_19 (by decide) ?_
      refine r_goto 24 C dX6_isHere_20 (by decide) ?_
      exact hret _ _ _ _ dX6_isHere_24 (nar_z (z_of (by omega))) ⟨h13, o12, by omega⟩
set_option maxHeartbeats 4000000 in
set_option maxRecDepth 100000 in
theorem ctX6_fate_88 (l : Launch) (G : Gt) (w : Wv) (sC : Str KC XC w) (o0 : Inv RC w) (a1 : Int32) : CtI l G yX6_fate cX6_fate 4 .int ({ frames := 0, cells := 0, slots := 0, locals := 0 } : Room) [.ref (gz G + 88), .int a1] w (fun r w' => Ch [] [] w w' ∧ Inv RC w') := by
  refine enterI (by decide) (Nat.le_of_ble_eq_true rfl) ?_
  intro x el eG C hret
  subst el; subst eG
  show V x 0 0 w 0 [(0, .ref (gz (xG x) + 88)), (1, .int a1)] []
  have h0 : Ch [] [] w w := Ch.rf
  have qm1 : ((-1) : Int32).toInt = (-1) := by decide
  have q0 : (0 : Int32).toInt = 0 := by decide
  have q1 : (1 : Int32).toInt = 1 := by decide
  have q2 : (2 : Int32).toInt = 2 := by decide
  have q3 : (3 : Int32).toInt = 3 := by decide
  have q6 : (6 : Int32).toInt = 6 := by decide
  have q42 : (42 : Int32).toInt = 42 := by decide
  refine r_iload_n 1 C dX6_fate_0 rfl ?_
  refine r_if_lt 19 C dX6_fate_1 (by decide) (fun c1 => ?_) (fun c1 => ?_)
  · have c1' := i_lt c1
    refine r_iconst (v := (-1)) C dX6_fate_19 (by decide) ?_
    refine r_istore_n [(2, .int (-1)), (0, .ref (gz (xG x) + 88)), (1, .int a1)] C dX6_fate_20 (by decide) rfl ?_
    refine r_iload_n 0 C dX6_fate_21 rfl ?_
    refine r_if_lt 43 C dX6_fate_22 (by decide) (fun c2 => ?_) (fun c2 => ?_)
    · have c2' := i_lt c2
      refine r_iconst (v := 0) C dX6_fate_43 (by decide) ?_
      refine r_istore_n [(3, .int 0), (2, .int (-1)), (0, .ref (gz (xG x) + 88)), (1, .int a1)] C dX6_fate_44 (by decide) rfl ?_
      refine r_iload_n 0 C dX6_fate_45 rfl ?_
      refine r_iconst (v := 3) C dX6_fate_46 (by decide) ?_
      refine r_icmp_ne 54 C dX6_fate_47 (by decide) (fun c3 => ?_) (fun c3 => ?_)
      · have c3' := i_ne c3
        refine r_iload_n 0 C dX6_fate_54 rfl ?_
        refine r_iconst (v := 2) C dX6_fate_55 (by decide) ?_
        refine r_icmp_ne 63 C dX6_fate_56 (by decide) (fun c4 => ?_) (fun c4 => ?_)
        · have c4' := i_ne c4
          refine r_iconst (v := 0) C dX6_fate_63 (by decide) ?_
          exact hret _ _ _ _ dX6_fate_64 rfl ⟨h0, o0⟩
        · have c4' := i_eq c4
          exfalso; omega
      · have c3' := i_eq c3
        exfalso; omega
    · have c2' := i_nlt c2
      exfalso; omega
  · have c1' := i_nlt c1
    refine r_iload_n 1 C dX6_fate_4 rfl ?_
    refine r_bipush (v := 6) C dX6_fate_5 (by decide) ?_
    have k6 := i_rng a1
    refine r_icmp_ge 19 C dX6_fate_7 (by decide) (fun c5 => ?_) (fun c5 => ?_)
    · have c5' := i_le c5
      refine r_iconst (v := (-1)) C dX6_fate_19 (by decide) ?_
      refine r_istore_n [(2, .int (-1)), (0, .ref (gz (xG x) + 88)), (1, .int a1)] C dX6_fate_20 (by decide) rfl ?_
      refine r_iload_n 0 C dX6_fate_21 rfl ?_
      refine r_if_lt 43 C dX6_fate_22 (by decide) (fun c7 => ?_) (fun c7 => ?_)
      · have c7' := i_lt c7
        refine r_iconst (v := 0) C dX6_fate_43 (by decide) ?_
        refine r_istore_n [(3, .int 0), (2, .int (-1)), (0, .ref (gz (xG x) + 88)), (1, .int a1)] C dX6_fate_44 (by decide) rfl ?_
        refine r_iload_n 0 C dX6_fate_45 rfl ?_
        refine r_iconst (v := 3) C dX6_fate_46 (by decide) ?_
        refine r_icmp_ne 54 C dX6_fate_47 (by decide) (fun c8 => ?_) (fun c8 => ?_)
        · have c8' := i_ne c8
          refine r_iload_n 0 C dX6_fate_54 rfl ?_
          refine r_iconst (v := 2) C dX6_fate_55 (by decide) ?_
          refine r_icmp_ne 63 C dX6_fate_56 (by decide) (fun c9 => ?_) (fun c9 => ?_)
          · have c9' := i_ne c9
            refine r_iconst (v := 0) C dX6_fate_63 (by decide) ?_
            exact hret _ _ _ _ dX6_fate_64 rfl ⟨h0, o0⟩
          · have c9' := i_eq c9
            exfalso; omega
        · have c8' := i_eq c8
          exfalso; omega
      · have c7' := i_nlt c7
        exfalso; omega
    · have c5' := i_nle c5
      refine r_aload_n 0 C dX6_fate_10 rfl ?_
      refine gfX6_9 89 C (kS sC h0 kc_88) (xS sC h0 xc_88_2) dX6_fate_11 ?_
      refine r_iload_n 1 C dX6_fate_14 rfl ?_
      refine r_iald C (kS sC h0 kc_89) (vin (by omega) (by omega)) dX6_fate_15 ?_
      generalize (wI w 89 (a1).toNatClampNeg) = v10
      refine r_goto 20 C dX6_fate_16 (by decide) ?_
      refine r_istore_n [(2, .int v10), (0, .ref (gz (xG x) + 88)), (1, .int a1)] C dX6_fate_20 (by decide) rfl ?_
      refine r_iload_n 0 C dX6_fate_21 rfl ?_
      refine r_if_lt 43 C dX6_fate_22 (by decide) (fun c11 => ?_) (fun c11 => ?_)
      · have c11' := i_lt c11
        refine r_iconst (v := 0) C dX6_fate_43 (by decide) ?_
        refine r_istore_n [(3, .int 0), (2, .int v10), (0, .ref (gz (xG x) + 88)), (1, .int a1)] C dX6_fate_44 (by decide) rfl ?_
        refine r_iload_n 0 C dX6_fate_45 rfl ?_
        refine r_iconst (v := 3) C dX6_fate_46 (by decide) ?_
        refine r_icmp_ne 54 C dX6_fate_47 (by decide) (fun c12 => ?_) (fun c12 => ?_)
        · have c12' := i_ne c12
          refine r_iload_n 0 C dX6_fate_54 rfl ?_
          refine r_iconst (v := 2) C dX6_fate_55 (by decide) ?_
          refine r_icmp_ne 63 C dX6_fate_56 (by decide) (fun c13 => ?_) (fun c13 => ?_)
          · have c13' := i_ne c13
            refine r_iconst (v := 0) C dX6_fate_63 (by decide) ?_
            exact hret _ _ _ _ dX6_fate_64 rfl ⟨h0, o0⟩
          · have c13' := i_eq c13
            exfalso; omega
        · have c12' := i_eq c12
          exfalso; omega
      · have c11' := i_nlt c11
        refine r_iload_n 0 C dX6_fate_25 rfl ?_
        refine r_bipush (v := 42) C dX6_fate_26 (by decide) ?_
        have k15 := i_rng v10
        refine r_icmp_ge 43 C dX6_fate_28 (by decide) (fun c14 => ?_) (fun c14 => ?_)
        · have c14' := i_le c14
          refine r_iconst (v := 0) C dX6_fate_43 (by decide) ?_
          refine r_istore_n [(3, .int 0), (2, .int v10), (0, .ref (gz (xG x) + 88)), (1, .int a1)] C dX6_fate_44 (by decide) rfl ?_
          refine r_iload_n 0 C dX6_fate_45 rfl ?_
          refine r_iconst (v := 3) C dX6_fate_46 (by decide) ?_
          refine r_icmp_ne 54 C dX6_fate_47 (by decide) (fun c16 => ?_) (fun c16 => ?_)
          · have c16' := i_ne c16
            refine r_iload_n 0 C dX6_fate_54 rfl ?_
            refine r_iconst (v := 2) C dX6_fate_55 (by decide) ?_
            refine r_icmp_ne 63 C dX6_fate_56 (by decide) (fun c17 => ?_) (fun c17 => ?_)
            · have c17' := i_ne c17
              refine r_iconst (v := 0) C dX6_fate_63 (by decide) ?_
              exact hret _ _ _ _ dX6_fate_64 rfl ⟨h0, o0⟩
            · have c17' := i_eq c17
              exfalso; omega
          · have c16' := i_eq c16
            exfalso; omega
        · have c14' := i_nle c14
          refine r_aload_n 1 C dX6_fate_31 rfl ?_
          refine gfX6_22 21 C (kS sC h0 kc_88) (xS sC h0 xc_88_5) dX6_fate_32 ?_
          refine gfX6_85 22 C (kS sC h0 kc_21) (xS sC h0 xc_21_1) dX6_fate_35 ?_
          refine r_iload_n 0 C dX6_fate_38 rfl ?_
          refine r_iald C (kS sC h0 kc_22) (vin (by omega) (by omega)) dX6_fate_39 ?_
          generalize (wI w 22 (v10).toNatClampNeg) = v18
          refine r_goto 44 C dX6_fate_40 (by decide) ?_
          refine r_istore_n [(3, .int v18), (2, .int v10), (0, .ref (gz (xG x) + 88)), (1, .int a1)] C dX6_fate_44 (by decide) rfl ?_
          refine r_iload_n 0 C dX6_fate_45 rfl ?_
          refine r_iconst (v := 3) C dX6_fate_46 (by decide) ?_
          refine r_icmp_ne 54 C dX6_fate_47 (by decide) (fun c19 => ?_) (fun c19 => ?_)
          · have c19' := i_ne c19
            refine r_iload_n 0 C dX6_fate_54 rfl ?_
            refine r_iconst (v := 2) C dX6_fate_55 (by decide) ?_
            refine r_icmp_ne 63 C dX6_fate_56 (by decide) (fun c20 => ?_) (fun c20 => ?_)
            · have c20' := i_ne c20
              refine r_iconst (v := 0) C dX6_fate_63 (by decide) ?_
              exact hret _ _ _ _ dX6_fate_64 rfl ⟨h0, o0⟩
            · have c20' := i_eq c20
              refine r_iconst (v := 2) C dX6_fate_59 (by decide) ?_
              refine r_goto 64 C dX6_fate_60 (by decide) ?_
              exact hret _ _ _ _ dX6_fate_64 rfl ⟨h0, o0⟩
          · have c19' := i_eq c19
            refine r_iconst (v := 1) C dX6_fate_50 (by decide) ?_
            refine r_goto 64 C dX6_fate_51 (by decide) ?_
            exact hret _ _ _ _ dX6_fate_64 rfl ⟨h0, o0⟩
set_option maxHeartbeats 4000000 in
set_option maxRecDepth 100000 in
theorem ctX6_isHere_88 (l : Launch) (G : Gt) (w : Wv) (sC : Str KC XC w) (o0 : Inv RC w) (a1 : Int32) : CtI l G yX6_isHere cX6_isHere 2 .boolean ({ frames := 1, cells := 0, slots := 0, locals := 23 } : Room) [.ref (gz G + 88), .int a1] w (fun r w' => Ch [] [] w w' ∧ Inv RC w' ∧ ((0 ≤ r.toInt ∧ r.toInt ≤ 1))) := by
  refine enterI (by decide) (Nat.le_of_ble_eq_true rfl) ?_
  intro x el eG C hret
  subst el; subst eG
  show V x 0 0 w 0 [(0, .ref (gz (xG x) + 88)), (1, .int a1)] []
  have h0 : Ch [] [] w w := Ch.rf
  have q0 : (0 : Int32).toInt = 0 := by decide
  have q1 : (1 : Int32).toInt = 1 := by decide
  refine r_aload_n 0 C dX6_isHere_0 rfl ?_
  refine gfX6_18 3 C (kS sC h0 kc_88) (xS sC h0 xc_88_4) dX6_isHere_1 ?_
  refine r_iload_n 1 C dX6_isHere_4 rfl ?_
  refine callVI C cwX6_88_V (ctX9_followers_3 _ _ w (sS sC h0) o0 a1 ) (by decide) (kS sC h0 kc_3) rfl rfl rfl (Nat.le_of_ble_eq_true rfl) (by decide) dX6_isHere_5 (fun r3 w2 y1 => ?_)
  show V x 0 0 w2 8 [(0, .ref (gz (xG x) + 88)), (1, .int a1)] [.int r3]
  obtain ⟨h4, o5⟩ := y1
  have h6 := Ch.tr h0 h4 (by decide) (by decide)
  refine r_if_le 23 C dX6_isHere_8 (by decide) (fun c7 => ?_) (fun c7 => ?_)
  · have c7' := i_le c7
    refine r_iconst (v := 0) C dX6_isHere_23 (by decide) ?_
    exact hret _ _ _ _ dX6_isHere_24 (nar_z (z_of (by omega))) ⟨h6, o5, by omega⟩
  · have c7' := i_nle c7
    refine r_aload_n 0 C dX6_isHere_11 rfl ?_
    refine r_iload_n 1 C dX6_isHere_12 rfl ?_
    refine callVI C cwX6_82_V (ctX6_fate_88 _ _ w2 (sS sC h6) o5 a1 ) (by decide) (kS sC h6 kc_88) rfl rfl rfl (Nat.le_of_ble_eq_true rfl) (by decide) dX6_isHere_13 (fun r10 w9 y8 => ?_)
    show V x 0 0 w9 16 [(0, .ref (gz (xG x) + 88)), (1, .int a1)] [.int r10]
    obtain ⟨h11, o12⟩ := y8
    have h13 := Ch.tr h6 h11 (by decide) (by decide)
    refine r_if_ne 23 C dX6_isHere_16 (by decide) (fun c14 => ?_) (fun c14 => ?_)
    · have c14' := i_ne c14
      refine r_iconst (v := 0) C dX6_isHere_23 (by decide) ?_
      exact hret _ _ _ _ dX6_isHere_24 (nar_z (z_of (by omega))) ⟨h13, o12, by omega⟩
    · have c14' := i_eq c14
      refine r_iconst (v := 1) C dX6_isHere_19 (by decide) ?_
      refine r_goto 24 C dX6_isHere_20 (by decide) ?_
      exact hret _ _ _ _ dX6_isHere_24 (nar_z (z_of (by omega))) ⟨h13, o12, by omega⟩
set_option maxHeartbeats 4000000 in
set_option maxRecDepth 100000 in
theorem ctX6_fate_91 (l : Launch) (G : Gt) (w : Wv) (sC : Str KC XC w) (o0 : Inv RC w) (a1 : Int32) : CtI l G yX6_fate cX6_fate 4 .int ({ frames := 0, cells := 0, slots := 0, locals := 0 } : Room) [.ref (gz G + 91), .int a1] w (fun r w' => Ch [] [] w w' ∧ Inv RC w') := by
  refine enterI (by decide) (Nat.le_of_ble_eq_true rfl) ?_
  intro x el eG C hret
  subst el; subst eG
  show V x 0 0 w 0 [(0, .ref (gz (xG x) + 91)), (1, .int a1)] []
  have h0 : Ch [] [] w w := Ch.rf
  have qm1 : ((-1) : Int32).toInt = (-1) := by decide
  have q0 : (0 : Int32).toInt = 0 := by decide
  have q1 : (1 : Int32).toInt = 1 := by decide
  have q2 : (2 : Int32).toInt = 2 := by decide
  have q3 : (3 : Int32).toInt = 3 := by decide
  have q6 : (6 : Int32).toInt = 6 := by decide
  have q42 : (42 : Int32).toInt = 42 := by decide
  refine r_iload_n 1 C dX6_fate_0 rfl ?_
  refine r_if_lt 19 C dX6_fate_1 (by decide) (fun c1 => ?_) (fun c1 => ?_)
  · have c1' := i_lt c1
    refine r_iconst (v := (-1)) C dX6_fate_19 (by decide) ?_
    refine r_istore_n [(2, .int (-1)), (0, .ref (gz (xG x) + 91)), (1, .int a1)] C dX6_fate_20 (by decide) rfl ?_
    refine r_iload_n 0 C dX6_fate_21 rfl ?_
    refine r_if_lt 43 C dX6_fate_22 (by decide) (fun c2 => ?_) (fun c2 => ?_)
    · have c2' := i_lt c2
      refine r_iconst (v := 0) C dX6_fate_43 (by decide) ?_
      refine r_istore_n [(3, .int 0), (2, .int (-1)), (0, .ref (gz (xG x) + 91)), (1, .int a1)] C dX6_fate_44 (by decide) rfl ?_
      refine r_iload_n 0 C dX6_fate_45 rfl ?_
      refine r_iconst (v := 3) C dX6_fate_46 (by decide) ?_
      refine r_icmp_ne 54 C dX6_fate_47 (by decide) (fun c3 => ?_) (fun c3 => ?_)
      · have c3' := i_ne c3
        refine r_iload_n 0 C dX6_fate_54 rfl ?_
        refine r_iconst (v := 2) C dX6_fate_55 (by decide) ?_
        refine r_icmp_ne 63 C dX6_fate_56 (by decide) (fun c4 => ?_) (fun c4 => ?_)
        · have c4' := i_ne c4
          refine r_iconst (v := 0) C dX6_fate_63 (by decide) ?_
          exact hret _ _ _ _ dX6_fate_64 rfl ⟨h0, o0⟩
        · have c4' := i_eq c4
          exfalso; omega
      · have c3' := i_eq c3
        exfalso; omega
    · have c2' := i_nlt c2
      exfalso; omega
  · have c1' := i_nlt c1
    refine r_iload_n 1 C dX6_fate_4 rfl ?_
    refine r_bipush (v := 6) C dX6_fate_5 (by decide) ?_
    have k6 := i_rng a1
    refine r_icmp_ge 19 C dX6_fate_7 (by decide) (fun c5 => ?_) (fun c5 => ?_)
    · have c5' := i_le c5
      refine r_iconst (v := (-1)) C dX6_fate_19 (by decide) ?_
      refine r_istore_n [(2, .int (-1)), (0, .ref (gz (xG x) + 91)), (1, .int a1)] C dX6_fate_20 (by decide) rfl ?_
      refine r_iload_n 0 C dX6_fate_21 rfl ?_
      refine r_if_lt 43 C dX6_fate_22 (by decide) (fun c7 => ?_) (fun c7 => ?_)
      · have c7' := i_lt c7
        refine r_iconst (v := 0) C dX6_fate_43 (by decide) ?_
        refine r_istore_n [(3, .int 0), (2, .int (-1)), (0, .ref (gz (xG x) + 91)), (1, .int a1)] C dX6_fate_44 (by decide) rfl ?_
        refine r_iload_n 0 C dX6_fate_45 rfl ?_
        refine r_iconst (v := 3) C dX6_fate_46 (by decide) ?_
        refine r_icmp_ne 54 C dX6_fate_47 (by decide) (fun c8 => ?_) (fun c8 => ?_)
        · have c8' := i_ne c8
          refine r_iload_n 0 C dX6_fate_54 rfl ?_
          refine r_iconst (v := 2) C dX6_fate_55 (by decide) ?_
          refine r_icmp_ne 63 C dX6_fate_56 (by decide) (fun c9 => ?_) (fun c9 => ?_)
          · have c9' := i_ne c9
            refine r_iconst (v := 0) C dX6_fate_63 (by decide) ?_
            exact hret _ _ _ _ dX6_fate_64 rfl ⟨h0, o0⟩
          · have c9' := i_eq c9
            exfalso; omega
        · have c8' := i_eq c8
          exfalso; omega
      · have c7' := i_nlt c7
        exfalso; omega
    · have c5' := i_nle c5
      refine r_aload_n 0 C dX6_fate_10 rfl ?_
      refine gfX6_9 92 C (kS sC h0 kc_91) (xS sC h0 xc_91_2) dX6_fate_11 ?_
      refine r_iload_n 1 C dX6_fate_14 rfl ?_
      refine r_iald C (kS sC h0 kc_92) (vin (by omega) (by omega)) dX6_fate_15 ?_
      generalize (wI w 92 (a1).toNatClampNeg) = v10
      refine r_goto 20 C dX6_fate_16 (by decide) ?_
      refine r_istore_n [(2, .int v10), (0, .ref (gz (xG x) + 91)), (1, .int a1)] C dX6_fate_20 (by decide) rfl ?_
      refine r_iload_n 0 C dX6_fate_21 rfl ?_
      refine r_if_lt 43 C dX6_fate_22 (by decide) (fun c11 => ?_) (fun c11 => ?_)
      · have c11' := i_lt c11
        refine r_iconst (v := 0) C dX6_fate_43 (by decide) ?_
        refine r_istore_n [(3, .int 0), (2, .int v10), (0, .ref (gz (xG x) + 91)), (1, .int a1)] C dX6_fate_44 (by decide) rfl ?_
        refine r_iload_n 0 C dX6_fate_45 rfl ?_
        refine r_iconst (v := 3) C dX6_fate_46 (by decide) ?_
        refine r_icmp_ne 54 C dX6_fate_47 (by decide) (fun c12 => ?_) (fun c12 => ?_)
        · have c12' := i_ne c12
          refine r_iload_n 0 C dX6_fate_54 rfl ?_
          refine r_iconst (v := 2) C dX6_fate_55 (by decide) ?_
          refine r_icmp_ne 63 C dX6_fate_56 (by decide) (fun c13 => ?_) (fun c13 => ?_)
          · have c13' := i_ne c13
            refine r_iconst (v := 0) C dX6_fate_63 (by decide) ?_
            exact hret _ _ _ _ dX6_fate_64 rfl ⟨h0, o0⟩
          · have c13' := i_eq c13
            exfalso; omega
        · have c12' := i_eq c12
          exfalso; omega
      · have c11' := i_nlt c11
        refine r_iload_n 0 C dX6_fate_25 rfl ?_
        refine r_bipush (v := 42) C dX6_fate_26 (by decide) ?_
        have k15 := i_rng v10
        refine r_icmp_ge 43 C dX6_fate_28 (by decide) (fun c14 => ?_) (fun c14 => ?_)
        · have c14' := i_le c14
          refine r_iconst (v := 0) C dX6_fate_43 (by decide) ?_
          refine r_istore_n [(3, .int 0), (2, .int v10), (0, .ref (gz (xG x) + 91)), (1, .int a1)] C dX6_fate_44 (by decide) rfl ?_
          refine r_iload_n 0 C dX6_fate_45 rfl ?_
          refine r_iconst (v := 3) C dX6_fate_46 (by decide) ?_
          refine r_icmp_ne 54 C dX6_fate_47 (by decide) (fun c16 => ?_) (fun c16 => ?_)
          · have c16' := i_ne c16
            refine r_iload_n 0 C dX6_fate_54 rfl ?_
            refine r_iconst (v := 2) C dX6_fate_55 (by decide) ?_
            refine r_icmp_ne 63 C dX6_fate_56 (by decide) (fun c17 => ?_) (fun c17 => ?_)
            · have c17' := i_ne c17
              refine r_iconst (v := 0) C dX6_fate_63 (by decide) ?_
              exact hret _ _ _ _ dX6_fate_64 rfl ⟨h0, o0⟩
            · have c17' := i_eq c17
              exfalso; omega
          · have c16' := i_eq c16
            exfalso; omega
        · have c14' := i_nle c14
          refine r_aload_n 1 C dX6_fate_31 rfl ?_
          refine gfX6_22 21 C (kS sC h0 kc_91) (xS sC h0 xc_91_5) dX6_fate_32 ?_
          refine gfX6_85 22 C (kS sC h0 kc_21) (xS sC h0 xc_21_1) dX6_fate_35 ?_
          refine r_iload_n 0 C dX6_fate_38 rfl ?_
          refine r_iald C (kS sC h0 kc_22) (vin (by omega) (by omega)) dX6_fate_39 ?_
          generalize (wI w 22 (v10).toNatClampNeg) = v18
          refine r_goto 44 C dX6_fate_40 (by decide) ?_
          refine r_istore_n [(3, .int v18), (2, .int v10), (0, .ref (gz (xG x) + 91)), (1, .int a1)] C dX6_fate_44 (by decide) rfl ?_
          refine r_iload_n 0 C dX6_fate_45 rfl ?_
          refine r_iconst (v := 3) C dX6_fate_46 (by decide) ?_
          refine r_icmp_ne 54 C dX6_fate_47 (by decide) (fun c19 => ?_) (fun c19 => ?_)
          · have c19' := i_ne c19
            refine r_iload_n 0 C dX6_fate_54 rfl ?_
            refine r_iconst (v := 2) C dX6_fate_55 (by decide) ?_
            refine r_icmp_ne 63 C dX6_fate_56 (by decide) (fun c20 => ?_) (fun c20 => ?_)
            · have c20' := i_ne c20
              refine r_iconst (v := 0) C dX6_fate_63 (by decide) ?_
              exact hret _ _ _ _ dX6_fate_64 rfl ⟨h0, o0⟩
            · have c20' := i_eq c20
              refine r_iconst (v := 2) C dX6_fate_59 (by decide) ?_
              refine r_goto 64 C dX6_fate_60 (by decide) ?_
              exact hret _ _ _ _ dX6_fate_64 rfl ⟨h0, o0⟩
          · have c19' := i_eq c19
            refine r_iconst (v := 1) C dX6_fate_50 (by decide) ?_
            refine r_goto 64 C dX6_fate_51 (by decide) ?_
            exact hret _ _ _ _ dX6_fate_64 rfl ⟨h0, o0⟩
set_option maxHeartbeats 4000000 in
set_option maxRecDepth 100000 in
theorem ctX6_isHere_91 (l : Launch) (G : Gt) (w : Wv) (sC : Str KC XC w) (o0 : Inv RC w) (a1 : Int32) : CtI l G yX6_isHere cX6_isHere 2 .boolean ({ frames := 1, cells := 0, slots := 0, locals := 23 } : Room) [.ref (gz G + 91), .int a1] w (fun r w' => Ch [] [] w w' ∧ Inv RC w' ∧ ((0 ≤ r.toInt ∧ r.toInt ≤ 1))) := by
  refine enterI (by decide) (Nat.le_of_ble_eq_true rfl) ?_
  intro x el eG C hret
  subst el; subst eG
  show V x 0 0 w 0 [(0, .ref (gz (xG x) + 91)), (1, .int a1)] []
  have h0 : Ch [] [] w w := Ch.rf
  have q0 : (0 : Int32).toInt = 0 := by decide
  have q1 : (1 : Int32).toInt = 1 := by decide
  refine r_aload_n 0 C dX6_isHere_0 rfl ?_
  refine gfX6_18 3 C (kS sC h0 kc_91) (xS sC h0 xc_91_4) dX6_isHere_1 ?_
  refine r_iload_n 1 C dX6_isHere_4 rfl ?_
  refine callVI C cwX6_88_V (ctX9_followers_3 _ _ w (sS sC h0) o0 a1 ) (by decide) (kS sC h0 kc_3) rfl rfl rfl (Nat.le_of_ble_eq_true rfl) (by decide) dX6_isHere_5 (fun r3 w2 y1 => ?_)
  show V x 0 0 w2 8 [(0, .ref (gz (xG x) + 91)), (1, .int a1)] [.int r3]
  obtain ⟨h4, o5⟩ := y1
  have h6 := Ch.tr h0 h4 (by decide) (by decide)
  refine r_if_le 23 C dX6_isHere_8 (by decide) (fun c7 => ?_) (fun c7 => ?_)
  · have c7' := i_le c7
    refine r_iconst (v := 0) C dX6_isHere_23 (by decide) ?_
    exact hret _ _ _ _ dX6_isHere_24 (nar_z (z_of (by omega))) ⟨h6, o5, by omega⟩
  · have c7' := i_nle c7
    refine r_aload_n 0 C dX6_isHere_11 rfl ?_
    refine r_iload_n 1 C dX6_isHere_12 rfl ?_
    refine callVI C cwX6_82_V (ctX6_fate_91 _ _ w2 (sS sC h6) o5 a1 ) (by decide) (kS sC h6 kc_91) rfl rfl rfl (Nat.le_of_ble_eq_true rfl) (by decide) dX6_isHere_13 (fun r10 w9 y8 => ?_)
    show V x 0 0 w9 16 [(0, .ref (gz (xG x) + 91)), (1, .int a1)] [.int r10]
    obtain ⟨h11, o12⟩ := y8
    have h13 := Ch.tr h6 h11 (by decide) (by decide)
    refine r_if_ne 23 C dX6_isHere_16 (by decide) (fun c14 => ?_) (fun c14 => ?_)
    · have c14' := i_ne c14
      refine r_iconst (v := 0) C dX6_isHere_23 (by decide) ?_
      exact hret _ _ _ _ dX6_isHere_24 (nar_z (z_of (by omega))) ⟨h13, o12, by omega⟩
    · have c14' := i_eq c14
      refine r_iconst (v := 1) C dX6_isHere_19 (by decide) ?_
      refine r_goto 24 C dX6_isHere_20 (by decide) ?_
      exact hret _ _ _ _ dX6_isHere_24 (nar_z (z_of (by omega))) ⟨h13, o12, by omega⟩
set_option maxHeartbeats 4000000 in
set_option maxRecDepth 100000 in
theorem ctX6_fate_94 (l : Launch) (G : Gt) (w : Wv) (sC : Str KC XC w) (o0 : Inv RC w) (a1 : Int32) : CtI l G yX6_fate cX6_fate 4 .int ({ frames := 0, cells := 0, slots := 0, locals := 0 } : Room) [.ref (gz G + 94), .int a1] w (fun r w' => Ch [] [] w w' ∧ Inv RC w') := by
  refine enterI (by decide) (Nat.le_of_ble_eq_true rfl) ?_
  intro x el eG C hret
  subst el; subst eG
  show V x 0 0 w 0 [(0, .ref (gz (xG x) + 94)), (1, .int a1)] []
  have h0 : Ch [] [] w w := Ch.rf
  have qm1 : ((-1) : Int32).toInt = (-1) := by decide
  have q0 : (0 : Int32).toInt = 0 := by decide
  have q1 : (1 : Int32).toInt = 1 := by decide
  have q2 : (2 : Int32).toInt = 2 := by decide
  have q3 : (3 : Int32).toInt = 3 := by decide
  have q6 : (6 : Int32).toInt = 6 := by decide
  have q42 : (42 : Int32).toInt = 42 := by decide
  refine r_iload_n 1 C dX6_fate_0 rfl ?_
  refine r_if_lt 19 C dX6_fate_1 (by decide) (fun c1 => ?_) (fun c1 => ?_)
  · have c1' := i_lt c1
    refine r_iconst (v := (-1)) C dX6_fate_19 (by decide) ?_
    refine r_istore_n [(2, .int (-1)), (0, .ref (gz (xG x) + 94)), (1, .int a1)] C dX6_fate_20 (by decide) rfl ?_
    refine r_iload_n 0 C dX6_fate_21 rfl ?_
    refine r_if_lt 43 C dX6_fate_22 (by decide) (fun c2 => ?_) (fun c2 => ?_)
    · have c2' := i_lt c2
      refine r_iconst (v := 0) C dX6_fate_43 (by decide) ?_
      refine r_istore_n [(3, .int 0), (2, .int (-1)), (0, .ref (gz (xG x) + 94)), (1, .int a1)] C dX6_fate_44 (by decide) rfl ?_
      refine r_iload_n 0 C dX6_fate_45 rfl ?_
      refine r_iconst (v := 3) C dX6_fate_46 (by decide) ?_
      refine r_icmp_ne 54 C dX6_fate_47 (by decide) (fun c3 => ?_) (fun c3 => ?_)
      · have c3' := i_ne c3
        refine r_iload_n 0 C dX6_fate_54 rfl ?_
        refine r_iconst (v := 2) C dX6_fate_55 (by decide) ?_
        refine r_icmp_ne 63 C dX6_fate_56 (by decide) (fun c4 => ?_) (fun c4 => ?_)
        · have c4' := i_ne c4
          refine r_iconst (v := 0) C dX6_fate_63 (by decide) ?_
          exact hret _ _ _ _ dX6_fate_64 rfl ⟨h0, o0⟩
        · have c4' := i_eq c4
          exfalso; omega
      · have c3' := i_eq c3
        exfalso; omega
    · have c2' := i_nlt c2
      exfalso; omega
  · have c1' := i_nlt c1
    refine r_iload_n 1 C dX6_fate_4 rfl ?_
    refine r_bipush (v := 6) C dX6_fate_5 (by decide) ?_
    have k6 := i_rng a1
    refine r_icmp_ge 19 C dX6_fate_7 (by decide) (fun c5 => ?_) (fun c5 => ?_)
    · have c5' := i_le c5
      refine r_iconst (v := (-1)) C dX6_fate_19 (by decide) ?_
      refine r_istore_n [(2, .int (-1)), (0, .ref (gz (xG x) + 94)), (1, .int a1)] C dX6_fate_20 (by decide) rfl ?_
      refine r_iload_n 0 C dX6_fate_21 rfl ?_
      refine r_if_lt 43 C dX6_fate_22 (by decide) (fun c7 => ?_) (fun c7 => ?_)
      · have c7' := i_lt c7
        refine r_iconst (v := 0) C dX6_fate_43 (by decide) ?_
        refine r_istore_n [(3, .int 0), (2, .int (-1)), (0, .ref (gz (xG x) + 94)), (1, .int a1)] C dX6_fate_44 (by decide) rfl ?_
        refine r_iload_n 0 C dX6_fate_45 rfl ?_
        refine r_iconst (v := 3) C dX6_fate_46 (by decide) ?_
        refine r_icmp_ne 54 C dX6_fate_47 (by decide) (fun c8 => ?_) (fun c8 => ?_)
        · have c8' := i_ne c8
          refine r_iload_n 0 C dX6_fate_54 rfl ?_
          refine r_iconst (v := 2) C dX6_fate_55 (by decide) ?_
          refine r_icmp_ne 63 C dX6_fate_56 (by decide) (fun c9 => ?_) (fun c9 => ?_)
          · have c9' := i_ne c9
            refine r_iconst (v := 0) C dX6_fate_63 (by decide) ?_
            exact hret _ _ _ _ dX6_fate_64 rfl ⟨h0, o0⟩
          · have c9' := i_eq c9
            exfalso; omega
        · have c8' := i_eq c8
          exfalso; omega
      · have c7' := i_nlt c7
        exfalso; omega
    · have c5' := i_nle c5
      refine r_aload_n 0 C dX6_fate_10 rfl ?_
      refine gfX6_9 95 C (kS sC h0 kc_94) (xS sC h0 xc_94_2) dX6_fate_11 ?_
      refine r_iload_n 1 C dX6_fate_14 rfl ?_
      refine r_iald C (kS sC h0 kc_95) (vin (by omega) (by omega)) dX6_fate_15 ?_
      generalize (wI w 95 (a1).toNatClampNeg) = v10
      refine r_goto 20 C dX6_fate_16 (by decide) ?_
      refine r_istore_n [(2, .int v10), (0, .ref (gz (xG x) + 94)), (1, .int a1)] C dX6_fate_20 (by decide) rfl ?_
      refine r_iload_n 0 C dX6_fate_21 rfl ?_
      refine r_if_lt 43 C dX6_fate_22 (by decide) (fun c11 => ?_) (fun c11 => ?_)
      · have c11' := i_lt c11
        refine r_iconst (v := 0) C dX6_fate_43 (by decide) ?_
        refine r_istore_n [(3, .int 0), (2, .int v10), (0, .ref (gz (xG x) + 94)), (1, .int a1)] C dX6_fate_44 (by decide) rfl ?_
        refine r_iload_n 0 C dX6_fate_45 rfl ?_
        refine r_iconst (v := 3) C dX6_fate_46 (by decide) ?_
        refine r_icmp_ne 54 C dX6_fate_47 (by decide) (fun c12 => ?_) (fun c12 => ?_)
        · have c12' := i_ne c12
          refine r_iload_n 0 C dX6_fate_54 rfl ?_
          refine r_iconst (v := 2) C dX6_fate_55 (by decide) ?_
          refine r_icmp_ne 63 C dX6_fate_56 (by decide) (fun c13 => ?_) (fun c13 => ?_)
          · have c13' := i_ne c13
            refine r_iconst (v := 0) C dX6_fate_63 (by decide) ?_
            exact hret _ _ _ _ dX6_fate_64 rfl ⟨h0, o0⟩
          · have c13' := i_eq c13
            exfalso; omega
        · have c12' := i_eq c12
          exfalso; omega
      · have c11' := i_nlt c11
        refine r_iload_n 0 C dX6_fate_25 rfl ?_
        refine r_bipush (v := 42) C dX6_fate_26 (by decide) ?_
        have k15 := i_rng v10
        refine r_icmp_ge 43 C dX6_fate_28 (by decide) (fun c14 => ?_) (fun c14 => ?_)
        · have c14' := i_le c14
          refine r_iconst (v := 0) C dX6_fate_43 (by decide) ?_
          refine r_istore_n [(3, .int 0), (2, .int v10), (0, .ref (gz (xG x) + 94)), (1, .int a1)] C dX6_fate_44 (by decide) rfl ?_
          refine r_iload_n 0 C dX6_fate_45 rfl ?_
          refine r_iconst (v := 3) C dX6_fate_46 (by decide) ?_
          refine r_icmp_ne 54 C dX6_fate_47 (by decide) (fun c16 => ?_) (fun c16 => ?_)
          · have c16' := i_ne c16
            refine r_iload_n 0 C dX6_fate_54 rfl ?_
            refine r_iconst (v := 2) C dX6_fate_55 (by decide) ?_
            refine r_icmp_ne 63 C dX6_fate_56 (by decide) (fun c17 => ?_) (fun c17 => ?_)
            · have c17' := i_ne c17
              refine r_iconst (v := 0) C dX6_fate_63 (by decide) ?_
              exact hret _ _ _ _ dX6_fate_64 rfl ⟨h0, o0⟩
            · have c17' := i_eq c17
              exfalso; omega
          · have c16' := i_eq c16
            exfalso; omega
        · have c14' := i_nle c14
          refine r_aload_n 1 C dX6_fate_31 rfl ?_
          refine gfX6_22 21 C (kS sC h0 kc_94) (xS sC h0 xc_94_5) dX6_fate_32 ?_
          refine gfX6_85 22 C (kS sC h0 kc_21) (xS sC h0 xc_21_1) dX6_fate_35 ?_
          refine r_iload_n 0 C dX6_fate_38 rfl ?_
          refine r_iald C (kS sC h0 kc_22) (vin (by omega) (by omega)) dX6_fate_39 ?_
          generalize (wI w 22 (v10).toNatClampNeg) = v18
          refine r_goto 44 C dX6_fate_40 (by decide) ?_
          refine r_istore_n [(3, .int v18), (2, .int v10), (0, .ref (gz (xG x) + 94)), (1, .int a1)] C dX6_fate_44 (by decide) rfl ?_
          refine r_iload_n 0 C dX6_fate_45 rfl ?_
          refine r_iconst (v := 3) C dX6_fate_46 (by decide) ?_
          refine r_icmp_ne 54 C dX6_fate_47 (by decide) (fun c19 => ?_) (fun c19 => ?_)
          · have c19' := i_ne c19
            refine r_iload_n 0 C dX6_fate_54 rfl ?_
            refine r_iconst (v := 2) C dX6_fate_55 (by decide) ?_
            refine r_icmp_ne 63 C dX6_fate_56 (by decide) (fun c20 => ?_) (fun c20 => ?_)
            · have c20' := i_ne c20
              refine r_iconst (v := 0) C dX6_fate_63 (by decide) ?_
              exact hret _ _ _ _ dX6_fate_64 rfl ⟨h0, o0⟩
            · have c20' := i_eq c20
              refine r_iconst (v := 2) C dX6_fate_59 (by decide) ?_
              refine r_goto 64 C dX6_fate_60 (by decide) ?_
              exact hret _ _ _ _ dX6_fate_64 rfl ⟨h0, o0⟩
          · have c19' := i_eq c19
            refine r_iconst (v := 1) C dX6_fate_50 (by decide) ?_
            refine r_goto 64 C dX6_fate_51 (by decide) ?_
            exact hret _ _ _ _ dX6_fate_64 rfl ⟨h0, o0⟩
set_option maxHeartbeats 4000000 in
set_option maxRecDepth 100000 in
theorem ctX6_isHere_94 (l : Launch) (G : Gt) (w : Wv) (sC : Str KC XC w) (o0 : Inv RC w) (a1 : Int32) : CtI l G yX6_isHere cX6_isHere 2 .boolean ({ frames := 1, cells := 0, slots := 0, locals := 23 } : Room) [.ref (gz G + 94), .int a1] w (fun r w' => Ch [] [] w w' ∧ Inv RC w' ∧ ((0 ≤ r.toInt ∧ r.toInt ≤ 1))) := by
  refine enterI (by decide) (Nat.le_of_ble_eq_true rfl) ?_
  intro x el eG C hret
  subst el; subst eG
  show V x 0 0 w 0 [(0, .ref (gz (xG x) + 94)), (1, .int a1)] []
  have h0 : Ch [] [] w w := Ch.rf
  have q0 : (0 : Int32).toInt = 0 := by decide
  have q1 : (1 : Int32).toInt = 1 := by decide
  refine r_aload_n 0 C dX6_isHere_0 rfl ?_
  refine gfX6_18 3 C (kS sC h0 kc_94) (xS sC h0 xc_94_4) dX6_isHere_1 ?_
  refine r_iload_n 1 C dX6_isHere_4 rfl ?_
  refine callVI C cwX6_88_V (ctX9_followers_3 _ _ w (sS sC h0) o0 a1 ) (by decide) (kS sC h0 kc_3) rfl rfl rfl (Nat.le_of_ble_eq_true rfl) (by decide) dX6_isHere_5 (fun r3 w2 y1 => ?_)
  show V x 0 0 w2 8 [(0, .ref (gz (xG x) + 94)), (1, .int a1)] [.int r3]
  obtain ⟨h4, o5⟩ := y1
  have h6 := Ch.tr h0 h4 (by decide) (by decide)
  refine r_if_le 23 C dX6_isHere_8 (by decide) (fun c7 => ?_) (fun c7 => ?_)
  · have c7' := i_le c7
    refine r_iconst (v := 0) C dX6_isHere_23 (by decide) ?_
    exact hret _ _ _ _ dX6_isHere_24 (nar_z (z_of (by omega))) ⟨h6, o5, by omega⟩
  · have c7' := i_nle c7
    refine r_aload_n 0 C dX6_isHere_11 rfl ?_
    refine r_iload_n 1 C dX6_isHere_12 rfl ?_
    refine callVI C cwX6_82_V (ctX6_fate_94 _ _ w2 (sS sC h6) o5 a1 ) (by decide) (kS sC h6 kc_94) rfl rfl rfl (Nat.le_of_ble_eq_true rfl) (by decide) dX6_isHere_13 (fun r10 w9 y8 => ?_)
    show V x 0 0 w9 16 [(0, .ref (gz (xG x) + 94)), (1, .int a1)] [.int r10]
    obtain ⟨h11, o12⟩ := y8
    have h13 := Ch.tr h6 h11 (by decide) (by decide)
    refine r_if_ne 23 C dX6_isHere_16 (by decide) (fun c14 => ?_) (fun c14 => ?_)
    · have c14' := i_ne c14
      refine r_iconst (v := 0) C dX6_isHere_23 (by decide) ?_
      exact hret _ _ _ _ dX6_isHere_24 (nar_z (z_of (by omega))) ⟨h13, o12, by omega⟩
    · have c14' := i_eq c14
      refine r_iconst (v := 1) C dX6_isHere_19 (by decide) ?_
      refine r_goto 24 C dX6_isHere_20 (by decide) ?_
      exact hret _ _ _ _ dX6_isHere_24 (nar_z (z_of (by omega))) ⟨h13, o12, by omega⟩
set_option maxHeartbeats 4000000 in
set_option maxRecDepth 100000 in
theorem ctX6_fate_97 (l : Launch) (G : Gt) (w : Wv) (sC : Str KC XC w) (o0 : Inv RC w) (a1 : Int32) : CtI l G yX6_fate cX6_fate 4 .int ({ frames := 0, cells := 0, slots := 0, locals := 0 } : Room) [.ref (gz G + 97), .int a1] w (fun r w' => Ch [] [] w w' ∧ Inv RC w') := by
  refine enterI (by decide) (Nat.le_of_ble_eq_true rfl) ?_
  intro x el eG C hret
  subst el; subst eG
  show V x 0 0 w 0 [(0, .ref (gz (xG x) + 97)), (1, .int a1)] []
  have h0 : Ch [] [] w w := Ch.rf
  have qm1 : ((-1) : Int32).toInt = (-1) := by decide
  have q0 : (0 : Int32).toInt = 0 := by decide
  have q1 : (1 : Int32).toInt = 1 := by decide
  have q2 : (2 : Int32).toInt = 2 := by decide
  have q3 : (3 : Int32).toInt = 3 := by decide
  have q6 : (6 : Int32).toInt = 6 := by decide
  have q42 : (42 : Int32).toInt = 42 := by decide
  refine r_iload_n 1 C dX6_fate_0 rfl ?_
  refine r_if_lt 19 C dX6_fate_1 (by decide) (fun c1 => ?_) (fun c1 => ?_)
  · have c1' := i_lt c1
    refine r_iconst (v := (-1)) C dX6_fate_19 (by decide) ?_
    refine r_istore_n [(2, .int (-1)), (0, .ref (gz (xG x) + 97)), (1, .int a1)] C dX6_fate_20 (by decide) rfl ?_
    refine r_iload_n 0 C dX6_fate_21 rfl ?_
    refine r_if_lt 43 C dX6_fate_22 (by decide) (fun c2 => ?_) (fun c2 => ?_)
    · have c2' := i_lt c2
      refine r_iconst (v := 0) C dX6_fate_43 (by decide) ?_
      refine r_istore_n [(3, .int 0), (2, .int (-1)), (0, .ref (gz (xG x) + 97)), (1, .int a1)] C dX6_fate_44 (by decide) rfl ?_
      refine r_iload_n 0 C dX6_fate_45 rfl ?_
      refine r_iconst (v := 3) C dX6_fate_46 (by decide) ?_
      refine r_icmp_ne 54 C dX6_fate_47 (by decide) (fun c3 => ?_) (fun c3 => ?_)
      · have c3' := i_ne c3
        refine r_iload_n 0 C dX6_fate_54 rfl ?_
        refine r_iconst (v := 2) C dX6_fate_55 (by decide) ?_
        refine r_icmp_ne 63 C dX6_fate_56 (by decide) (fun c4 => ?_) (fun c4 => ?_)
        · have c4' := i_ne c4
          refine r_iconst (v := 0) C dX6_fate_63 (by decide) ?_
          exact hret _ _ _ _ dX6_fate_64 rfl ⟨h0, o0⟩
        · have c4' := i_eq c4
          exfalso; omega
      · have c3' := i_eq c3
        exfalso; omega
    · have c2' := i_nlt c2
      exfalso; omega
  · have c1' := i_nlt c1
    refine r_iload_n 1 C dX6_fate_4 rfl ?_
    refine r_bipush (v := 6) C dX6_fate_5 (by decide) ?_
    have k6 := i_rng a1
    refine r_icmp_ge 19 C dX6_fate_7 (by decide) (fun c5 => ?_) (fun c5 => ?_)
    · have c5' := i_le c5
      refine r_iconst (v := (-1)) C dX6_fate_19 (by decide) ?_
      refine r_istore_n [(2, .int (-1)), (0, .ref (gz (xG x) + 97)), (1, .int a1)] C dX6_fate_20 (by decide) rfl ?_
      refine r_iload_n 0 C dX6_fate_21 rfl ?_
      refine r_if_lt 43 C dX6_fate_22 (by decide) (fun c7 => ?_) (fun c7 => ?_)
      · have c7' := i_lt c7
        refine r_iconst (v := 0) C dX6_fate_43 (by decide) ?_
        refine r_istore_n [(3, .int 0), (2, .int (-1)), (0, .ref (gz (xG x) + 97)), (1, .int a1)] C dX6_fate_44 (by decide) rfl ?_
        refine r_iload_n 0 C dX6_fate_45 rfl ?_
        refine r_iconst (v := 3) C dX6_fate_46 (by decide) ?_
        refine r_icmp_ne 54 C dX6_fate_47 (by decide) (fun c8 => ?_) (fun c8 => ?_)
        · have c8' := i_ne c8
          refine r_iload_n 0 C dX6_fate_54 rfl ?_
          refine r_iconst (v := 2) C dX6_fate_55 (by decide) ?_
          refine r_icmp_ne 63 C dX6_fate_56 (by decide) (fun c9 => ?_) (fun c9 => ?_)
          · have c9' := i_ne c9
            refine r_iconst (v := 0) C dX6_fate_63 (by decide) ?_
            exact hret _ _ _ _ dX6_fate_64 rfl ⟨h0, o0⟩
          · have c9' := i_eq c9
            exfalso; omega
        · have c8' := i_eq c8
          exfalso; omega
      · have c7' := i_nlt c7
        exfalso; omega
    · have c5' := i_nle c5
      refine r_aload_n 0 C dX6_fate_10 rfl ?_
      refine gfX6_9 98 C (kS sC h0 kc_97) (xS sC h0 xc_97_2) dX6_fate_11 ?_
      refine r_iload_n 1 C dX6_fate_14 rfl ?_
      refine r_iald C (kS sC h0 kc_98) (vin (by omega) (by omega)) dX6_fate_15 ?_
      generalize (wI w 98 (a1).toNatClampNeg) = v10
      refine r_goto 20 C dX6_fate_16 (by decide) ?_
      refine r_istore_n [(2, .int v10), (0, .ref (gz (xG x) + 97)), (1, .int a1)] C dX6_fate_20 (by decide) rfl ?_
      refine r_iload_n 0 C dX6_fate_21 rfl ?_
      refine r_if_lt 43 C dX6_fate_22 (by decide) (fun c11 => ?_) (fun c11 => ?_)
      · have c11' := i_lt c11
        refine r_iconst (v := 0) C dX6_fate_43 (by decide) ?_
        refine r_istore_n [(3, .int 0), (2, .int v10), (0, .ref (gz (xG x) + 97)), (1, .int a1)] C dX6_fate_44 (by decide) rfl ?_
        refine r_iload_n 0 C dX6_fate_45 rfl ?_
        refine r_iconst (v := 3) C dX6_fate_46 (by decide) ?_
        refine r_icmp_ne 54 C dX6_fate_47 (by decide) (fun c12 => ?_) (fun c12 => ?_)
        · have c12' := i_ne c12
          refine r_iload_n 0 C dX6_fate_54 rfl ?_
          refine r_iconst (v := 2) C dX6_fate_55 (by decide) ?_
          refine r_icmp_ne 63 C dX6_fate_56 (by decide) (fun c13 => ?_) (fun c13 => ?_)
          · have c13' := i_ne c13
            refine r_iconst (v := 0) C dX6_fate_63 (by decide) ?_
            exact hret _ _ _ _ dX6_fate_64 rfl ⟨h0, o0⟩
          · have c13' := i_eq c13
            exfalso; omega
        · have c12' := i_eq c12
          exfalso; omega
      · have c11' := i_nlt c11
        refine r_iload_n 0 C dX6_fate_25 rfl ?_
        refine r_bipush (v := 42) C dX6_fate_26 (by decide) ?_
        have k15 := i_rng v10
        refine r_icmp_ge 43 C dX6_fate_28 (by decide) (fun c14 => ?_) (fun c14 => ?_)
        · have c14' := i_le c14
          refine r_iconst (v := 0) C dX6_fate_43 (by decide) ?_
          refine r_istore_n [(3, .int 0), (2, .int v10), (0, .ref (gz (xG x) + 97)), (1, .int a1)] C dX6_fate_44 (by decide) rfl ?_
          refine r_iload_n 0 C dX6_fate_45 rfl ?_
          refine r_iconst (v := 3) C dX6_fate_46 (by decide) ?_
          refine r_icmp_ne 54 C dX6_fate_47 (by decide) (fun c16 => ?_) (fun c16 => ?_)
          · have c16' := i_ne c16
            refine r_iload_n 0 C dX6_fate_54 rfl ?_
            refine r_iconst (v := 2) C dX6_fate_55 (by decide) ?_
            refine r_icmp_ne 63 C dX6_fate_56 (by decide) (fun c17 => ?_) (fun c17 => ?_)
            · have c17' := i_ne c17
              refine r_iconst (v := 0) C dX6_fate_63 (by decide) ?_
              exact hret _ _ _ _ dX6_fate_64 rfl ⟨h0, o0⟩
            · have c17' := i_eq c17
              exfalso; omega
          · have c16' := i_eq c16
            exfalso; omega
        · have c14' := i_nle c14
          refine r_aload_n 1 C dX6_fate_31 rfl ?_
          refine gfX6_22 21 C (kS sC h0 kc_97) (xS sC h0 xc_97_5) dX6_fate_32 ?_
          refine gfX6_85 22 C (kS sC h0 kc_21) (xS sC h0 xc_21_1) dX6_fate_35 ?_
          refine r_iload_n 0 C dX6_fate_38 rfl ?_
          refine r_iald C (kS sC h0 kc_22) (vin (by omega) (by omega)) dX6_fate_39 ?_
          generalize (wI w 22 (v10).toNatClampNeg) = v18
          refine r_goto 44 C dX6_fate_40 (by decide) ?_
          refine r_istore_n [(3, .int v18), (2, .int v10), (0, .ref (gz (xG x) + 97)), (1, .int a1)] C dX6_fate_44 (by decide) rfl ?_
          refine r_iload_n 0 C dX6_fate_45 rfl ?_
          refine r_iconst (v := 3) C dX6_fate_46 (by decide) ?_
          refine r_icmp_ne 54 C dX6_fate_47 (by decide) (fun c19 => ?_) (fun c19 => ?_)
          · have c19' := i_ne c19
            refine r_iload_n 0 C dX6_fate_54 rfl ?_
            refine r_iconst (v := 2) C dX6_fate_55 (by decide) ?_
            refine r_icmp_ne 63 C dX6_fate_56 (by decide) (fun c20 => ?_) (fun c20 => ?_)
            · have c20' := i_ne c20
              refine r_iconst (v := 0) C dX6_fate_63 (by decide) ?_
              exact hret _ _ _ _ dX6_fate_64 rfl ⟨h0, o0⟩
            · have c20' := i_eq c20
              refine r_iconst (v := 2) C dX6_fate_59 (by decide) ?_
              refine r_goto 64 C dX6_fate_60 (by decide) ?_
              exact hret _ _ _ _ dX6_fate_64 rfl ⟨h0, o0⟩
          · have c19' := i_eq c19
            refine r_iconst (v := 1) C dX6_fate_50 (by decide) ?_
            refine r_goto 64 C dX6_fate_51 (by decide) ?_
            exact hret _ _ _ _ dX6_fate_64 rfl ⟨h0, o0⟩
set_option maxHeartbeats 4000000 in
set_option maxRecDepth 100000 in
theorem ctX6_isHere_97 (l : Launch) (G : Gt) (w : Wv) (sC : Str KC XC w) (o0 : Inv RC w) (a1 : Int32) : CtI l G yX6_isHere cX6_isHere 2 .boolean ({ frames := 1, cells := 0, slots := 0, locals := 23 } : Room) [.ref (gz G + 97), .int a1] w (fun r w' => Ch [] [] w w' ∧ Inv RC w' ∧ ((0 ≤ r.toInt ∧ r.toInt ≤ 1))) := by
  refine enterI (by decide) (Nat.le_of_ble_eq_true rfl) ?_
  intro x el eG C hret
  subst el; subst eG
  show V x 0 0 w 0 [(0, .ref (gz (xG x) + 97)), (1, .int a1)] []
  have h0 : Ch [] [] w w := Ch.rf
  have q0 : (0 : Int32).toInt = 0 := by decide
  have q1 : (1 : Int32).toInt = 1 := by decide
  refine r_aload_n 0 C dX6_isHere_0 rfl ?_
  refine gfX6_18 3 C (kS sC h0 kc_97) (xS sC h0 xc_97_4) dX6_isHere_1 ?_
  refine r_iload_n 1 C dX6_isHere_4 rfl ?_
  refine callVI C cwX6_88_V (ctX9_followers_3 _ _ w (sS sC h0) o0 a1 ) (by decide) (kS sC h0 kc_3) rfl rfl rfl (Nat.le_of_ble_eq_true rfl) (by decide) dX6_isHere_5 (fun r3 w2 y1 => ?_)
  show V x 0 0 w2 8 [(0, .ref (gz (xG x) + 97)), (1, .int a1)] [.int r3]
  obtain ⟨h4, o5⟩ := y1
  have h6 := Ch.tr h0 h4 (by decide) (by decide)
  refine r_if_le 23 C dX6_isHere_8 (by decide) (fun c7 => ?_) (fun c7 => ?_)
  · have c7' := i_le c7
    refine r_iconst (v := 0) C dX6_isHere_23 (by decide) ?_
    exact hret _ _ _ _ dX6_isHere_24 (nar_z (z_of (by omega))) ⟨h6, o5, by omega⟩
  · have c7' := i_nle c7
    refine r_aload_n 0 C dX6_isHere_11 rfl ?_
    refine r_iload_n 1 C dX6_isHere_12 rfl ?_
    refine callVI C cwX6_82_V (ctX6_fate_97 _ _ w2 (sS sC h6) o5 a1 ) (by decide) (kS sC h6 kc_97) rfl rfl rfl (Nat.le_of_ble_eq_true rfl) (by decide) dX6_isHere_13 (fun r10 w9 y8 => ?_)
    show V x 0 0 w9 16 [(0, .ref (gz (xG x) + 97)), (1, .int a1)] [.int r10]
    obtain ⟨h11, o12⟩ := y8
    have h13 := Ch.tr h6 h11 (by decide) (by decide)
    refine r_if_ne 23 C dX6_isHere_16 (by decide) (fun c14 => ?_) (fun c14 => ?_)
    · have c14' := i_ne c14
      refine r_iconst (v := 0) C dX6_isHere_23 (by decide) ?_
      exact hret _ _ _ _ dX6_isHere_24 (nar_z (z_of (by omega))) ⟨h13, o12, by omega⟩
    · have c14' := i_eq c14
      refine r_iconst (v := 1) C dX6_isHere_19 (by decide) ?_
      refine r_goto 24 C dX6_isHere_20 (by decide) ?_
      exact hret _ _ _ _ dX6_isHere_24 (nar_z (z_of (by omega))) ⟨h13, o12, by omega⟩
set_option maxHeartbeats 4000000 in
set_option maxRecDepth 100000 in
theorem ctX6_fate_100 (l : Launch) (G : Gt) (w : Wv) (sC : Str KC XC w) (o0 : Inv RC w) (a1 : Int32) : CtI l G yX6_fate cX6_fate 4 .int ({ frames := 0, cells := 0, slots := 0, locals := 0 } : Room) [.ref (gz G + 100), .int a1] w (fun r w' => Ch [] [] w w' ∧ Inv RC w') := by
  refine enterI (by decide) (Nat.le_of_ble_eq_true rfl) ?_
  intro x el eG C hret
  subst el; subst eG
  show V x 0 0 w 0 [(0, .ref (gz (xG x) + 100)), (1, .int a1)] []
  have h0 : Ch [] [] w w := Ch.rf
  have qm1 : ((-1) : Int32).toInt = (-1) := by decide
  have q0 : (0 : Int32).toInt = 0 := by decide
  have q1 : (1 : Int32).toInt = 1 := by decide
  have q2 : (2 : Int32).toInt = 2 := by decide
  have q3 : (3 : Int32).toInt = 3 := by decide
  have q6 : (6 : Int32).toInt = 6 := by decide
  have q42 : (42 : Int32).toInt = 42 := by decide
  refine r_iload_n 1 C dX6_fate_0 rfl ?_
  refine r_if_lt 19 C dX6_fate_1 (by decide) (fun c1 => ?_) (fun c1 => ?_)
  · have c1' := i_lt c1
    refine r_iconst (v := (-1)) C dX6_fate_19 (by decide) ?_
    refine r_istore_n [(2, .int (-1)), (0, .ref (gz (xG x) + 100)), (1, .int a1)] C dX6_fate_20 (by decide) rfl ?_
    refine r_iload_n 0 C dX6_fate_21 rfl ?_
    refine r_if_lt 43 C dX6_fate_22 (by decide) (fun c2 => ?_) (fun c2 => ?_)
    · have c2' := i_lt c2
      refine r_iconst (v := 0) C dX6_fate_43 (by decide) ?_
      refine r_istore_n [(3, .int 0), (2, .int (-1)), (0, .ref (gz (xG x) + 100)), (1, .int a1)] C dX6_fate_44 (by decide) rfl ?_
      refine r_iload_n 0 C dX6_fate_45 rfl ?_
      refine r_iconst (v := 3) C dX6_fate_46 (by decide) ?_
      refine r_icmp_ne 54 C dX6_fate_47 (by decide) (fun c3 => ?_) (fun c3 => ?_)
      · have c3' := i_ne c3
        refine r_iload_n 0 C dX6_fate_54 rfl ?_
        refine r_iconst (v := 2) C dX6_fate_55 (by decide) ?_
        refine r_icmp_ne 63 C dX6_fate_56 (by decide) (fun c4 => ?_) (fun c4 => ?_)
        · have c4' := i_ne c4
          refine r_iconst (v := 0) C dX6_fate_63 (by decide) ?_
          exact hret _ _ _ _ dX6_fate_64 rfl ⟨h0, o0⟩
        · have c4' := i_eq c4
          exfalso; omega
      · have c3' := i_eq c3
        exfalso; omega
    · have c2' := i_nlt c2
      exfalso; omega
  · have c1' := i_nlt c1
    refine r_iload_n 1 C dX6_fate_4 rfl ?_
    refine r_bipush (v := 6) C dX6_fate_5 (by decide) ?_
    have k6 := i_rng a1
    refine r_icmp_ge 19 C dX6_fate_7 (by decide) (fun c5 => ?_) (fun c5 => ?_)
    · have c5' := i_le c5
      refine r_iconst (v := (-1)) C dX6_fate_19 (by decide) ?_
      refine r_istore_n [(2, .int (-1)), (0, .ref (gz (xG x) + 100)), (1, .int a1)] C dX6_fate_20 (by decide) rfl ?_
      refine r_iload_n 0 C dX6_fate_21 rfl ?_
      refine r_if_lt 43 C dX6_fate_22 (by decide) (fun c7 => ?_) (fun c7 => ?_)
      · have c7' := i_lt c7
        refine r_iconst (v := 0) C dX6_fate_43 (by decide) ?_
        refine r_istore_n [(3, .int 0), (2, .int (-1)), (0, .ref (gz (xG x) + 100)), (1, .int a1)] C dX6_fate_44 (by decide) rfl ?_
        refine r_iload_n 0 C dX6_fate_45 rfl ?_
        refine r_iconst (v := 3) C dX6_fate_46 (by decide) ?_
        refine r_icmp_ne 54 C dX6_fate_47 (by decide) (fun c8 => ?_) (fun c8 => ?_)
        · have c8' := i_ne c8
          refine r_iload_n 0 C dX6_fate_54 rfl ?_
          refine r_iconst (v := 2) C dX6_fate_55 (by decide) ?_
          refine r_icmp_ne 63 C dX6_fate_56 (by decide) (fun c9 => ?_) (fun c9 => ?_)
          · have c9' := i_ne c9
            refine r_iconst (v := 0) C dX6_fate_63 (by decide) ?_
            exact hret _ _ _ _ dX6_fate_64 rfl ⟨h0, o0⟩
          · have c9' := i_eq c9
            exfalso; omega
        · have c8' := i_eq c8
          exfalso; omega
      · have c7' := i_nlt c7
        exfalso; omega
    · have c5' := i_nle c5
      refine r_aload_n 0 C dX6_fate_10 rfl ?_
      refine gfX6_9 101 C (kS sC h0 kc_100) (xS sC h0 xc_100_2) dX6_fate_11 ?_
      refine r_iload_n 1 C dX6_fate_14 rfl ?_
      refine r_iald C (kS sC h0 kc_101) (vin (by omega) (by omega)) dX6_fate_15 ?_
      generalize (wI w 101 (a1).toNatClampNeg) = v10
      refine r_goto 20 C dX6_fate_16 (by decide) ?_
      refine r_istore_n [(2, .int v10), (0, .ref (gz (xG x) + 100)), (1, .int a1)] C dX6_fate_20 (by decide) rfl ?_
      refine r_iload_n 0 C dX6_fate_21 rfl ?_
      refine r_if_lt 43 C dX6_fate_22 (by decide) (fun c11 => ?_) (fun c11 => ?_)
      · have c11' := i_lt c11
        refine r_iconst (v := 0) C dX6_fate_43 (by decide) ?_
        refine r_istore_n [(3, .int 0), (2, .int v10), (0, .ref (gz (xG x) + 100)), (1, .int a1)] C dX6_fate_44 (by decide) rfl ?_
        refine r_iload_n 0 C dX6_fate_45 rfl ?_
        refine r_iconst (v := 3) C dX6_fate_46 (by decide) ?_
        refine r_icmp_ne 54 C dX6_fate_47 (by decide) (fun c12 => ?_) (fun c12 => ?_)
        · have c12' := i_ne c12
          refine r_iload_n 0 C dX6_fate_54 rfl ?_
          refine r_iconst (v := 2) C dX6_fate_55 (by decide) ?_
          refine r_icmp_ne 63 C dX6_fate_56 (by decide) (fun c13 => ?_) (fun c13 => ?_)
          · have c13' := i_ne c13
            refine r_iconst (v := 0) C dX6_fate_63 (by decide) ?_
            exact hret _ _ _ _ dX6_fate_64 rfl ⟨h0, o0⟩
          · have c13' := i_eq c13
            exfalso; omega
        · have c12' := i_eq c12
          exfalso; omega
      · have c11' := i_nlt c11
        refine r_iload_n 0 C dX6_fate_25 rfl ?_
        refine r_bipush (v := 42) C dX6_fate_26 (by decide) ?_
        have k15 := i_rng v10
        refine r_icmp_ge 43 C dX6_fate_28 (by decide) (fun c14 => ?_) (fun c14 => ?_)
        · have c14' := i_le c14
          refine r_iconst (v := 0) C dX6_fate_43 (by decide) ?_
          refine r_istore_n [(3, .int 0), (2, .int v10), (0, .ref (gz (xG x) + 100)), (1, .int a1)] C dX6_fate_44 (by decide) rfl ?_
          refine r_iload_n 0 C dX6_fate_45 rfl ?_
          refine r_iconst (v := 3) C dX6_fate_46 (by decide) ?_
          refine r_icmp_ne 54 C dX6_fate_47 (by decide) (fun c16 => ?_) (fun c16 => ?_)
          · have c16' := i_ne c16
            refine r_iload_n 0 C dX6_fate_54 rfl ?_
            refine r_iconst (v := 2) C dX6_fate_55 (by decide) ?_
            refine r_icmp_ne 63 C dX6_fate_56 (by decide) (fun c17 => ?_) (fun c17 => ?_)
            · have c17' := i_ne c17
              refine r_iconst (v := 0) C dX6_fate_63 (by decide) ?_
              exact hret _ _ _ _ dX6_fate_64 rfl ⟨h0, o0⟩
            · have c17' := i_eq c17
              exfalso; omega
          · have c16' := i_eq c16
            exfalso; omega
        · have c14' := i_nle c14
          refine r_aload_n 1 C dX6_fate_31 rfl ?_
          refine gfX6_22 21 C (kS sC h0 kc_100) (xS sC h0 xc_100_5) dX6_fate_32 ?_
          refine gfX6_85 22 C (kS sC h0 kc_21) (xS sC h0 xc_21_1) dX6_fate_35 ?_
          refine r_iload_n 0 C dX6_fate_38 rfl ?_
          refine r_iald C (kS sC h0 kc_22) (vin (by omega) (by omega)) dX6_fate_39 ?_
          generalize (wI w 22 (v10).toNatClampNeg) = v18
          refine r_goto 44 C dX6_fate_40 (by decide) ?_
          refine r_istore_n [(3, .int v18), (2, .int v10), (0, .ref (gz (xG x) + 100)), (1, .int a1)] C dX6_fate_44 (by decide) rfl ?_
          refine r_iload_n 0 C dX6_fate_45 rfl ?_
          refine r_iconst (v := 3) C dX6_fate_46 (by decide) ?_
          refine r_icmp_ne 54 C dX6_fate_47 (by decide) (fun c19 => ?_) (fun c19 => ?_)
          · have c19' := i_ne c19
            refine r_iload_n 0 C dX6_fate_54 rfl ?_
            refine r_iconst (v := 2) C dX6_fate_55 (by decide) ?_
            refine r_icmp_ne 63 C dX6_fate_56 (by decide) (fun c20 => ?_) (fun c20 => ?_)
            · have c20' := i_ne c20
              refine r_iconst (v := 0) C dX6_fate_63 (by decide) ?_
              exact hret _ _ _ _ dX6_fate_64 rfl ⟨h0, o0⟩
            · have c20' := i_eq c20
              refine r_iconst (v := 2) C dX6_fate_59 (by decide) ?_
              refine r_goto 64 C dX6_fate_60 (by decide) ?_
              exact hret _ _ _ _ dX6_fate_64 rfl ⟨h0, o0⟩
          · have c19' := i_eq c19
            refine r_iconst (v := 1) C dX6_fate_50 (by decide) ?_
            refine r_goto 64 C dX6_fate_51 (by decide) ?_
            exact hret _ _ _ _ dX6_fate_64 rfl ⟨h0, o0⟩
set_option maxHeartbeats 4000000 in
set_option maxRecDepth 100000 in
theorem ctX6_isHere_100 (l : Launch) (G : Gt) (w : Wv) (sC : Str KC XC w) (o0 : Inv RC w) (a1 : Int32) : CtI l G yX6_isHere cX6_isHere 2 .boolean ({ frames := 1, cells := 0, slots := 0, locals := 23 } : Room) [.ref (gz G + 100), .int a1] w (fun r w' => Ch [] [] w w' ∧ Inv RC w' ∧ ((0 ≤ r.toInt ∧ r.toInt ≤ 1))) := by
  refine enterI (by decide) (Nat.le_of_ble_eq_true rfl) ?_
  intro x el eG C hret
  subst el; subst eG
  show V x 0 0 w 0 [(0, .ref (gz (xG x) + 100)), (1, .int a1)] []
  have h0 : Ch [] [] w w := Ch.rf
  have q0 : (0 : Int32).toInt = 0 := by decide
  have q1 : (1 : Int32).toInt = 1 := by decide
  refine r_aload_n 0 C dX6_isHere_0 rfl ?_
  refine gfX6_18 3 C (kS sC h0 kc_100) (xS sC h0 xc_100_4) dX6_isHere_1 ?_
  refine r_iload_n 1 C dX6_isHere_4 rfl ?_
  refine callVI C cwX6_88_V (ctX9_followers_3 _ _ w (sS sC h0) o0 a1 ) (by decide) (kS sC h0 kc_3) rfl rfl rfl (Nat.le_of_ble_eq_true rfl) (by decide) dX6_isHere_5 (fun r3 w2 y1 => ?_)
  show V x 0 0 w2 8 [(0, .ref (gz (xG x) + 100)), (1, .int a1)] [.int r3]
  obtain ⟨h4, o5⟩ := y1
  have h6 := Ch.tr h0 h4 (by decide) (by decide)
  refine r_if_le 23 C dX6_isHere_8 (by decide) (fun c7 => ?_) (fun c7 => ?_)
  · have c7' := i_le c7
    refine r_iconst (v := 0) C dX6_isHere_23 (by decide) ?_
    exact hret _ _ _ _ dX6_isHere_24 (nar_z (z_of (by omega))) ⟨h6, o5, by omega⟩
  · have c7' := i_nle c7
    refine r_aload_n 0 C dX6_isHere_11 rfl ?_
    refine r_iload_n 1 C dX6_isHere_12 rfl ?_
    refine callVI C cwX6_82_V (ctX6_fate_100 _ _ w2 (sS sC h6) o5 a1 ) (by decide) (kS sC h6 kc_100) rfl rfl rfl (Nat.le_of_ble_eq_true rfl) (by decide) dX6_isHere_13 (fun r10 w9 y8 => ?_)
    show V x 0 0 w9 16 [(0, .ref (gz (xG x) + 100)), (1, .int a1)] [.int r10]
    obtain ⟨h11, o12⟩ := y8
    have h13 := Ch.tr h6 h11 (by decide) (by decide)
    refine r_if_ne 23 C dX6_isHere_16 (by decide) (fun c14 => ?_) (fun c14 => ?_)
    · have c14' := i_ne c14
      refine r_iconst (v := 0) C dX6_isHere_23 (by decide) ?_
      exact hret _ _ _ _ dX6_isHere_24 (nar_z (z_of (by omega))) ⟨h13, o12, by omega⟩
    · have c14' := i_eq c14
      refine r_iconst (v := 1) C dX6_isHere_19 (by decide) ?_
      refine r_goto 24 C dX6_isHere_20 (by decide) ?_
      exact hret _ _ _ _ dX6_isHere_24 (nar_z (z_of (by omega))) ⟨h13, o12, by omega⟩
set_option maxHeartbeats 4000000 in
set_option maxRecDepth 100000 in
theorem ctX6_hears_35 (l : Launch) (G : Gt) (w : Wv) (sC : Str KC XC w) (o0 : Inv RC w) (a1 : Int32) (a2 : Int32) : CtI l G yX6_hears cX6_hears 4 .boolean ({ frames := 2, cells := 0, slots := 0, locals := 50 } : Room) [.ref (gz G + 35), .int a1, .int a2] w (fun r w' => Ch [25, 26, 27] [] w w' ∧ Inv RC w' ∧ ((0 ≤ r.toInt ∧ r.toInt ≤ 1))) := by
  refine enterI (by decide) (Nat.le_of_ble_eq_true rfl) ?_
  intro x el eG C hret
  subst el; subst eG
  show V x 0 0 w 0 [(0, .ref (gz (xG x) + 35)), (1, .int a1), (2, .int a2)] []
  have h0 : Ch [25, 26, 27] [] w w := Ch.rf
  have qm1 : ((-1) : Int32).toInt = (-1) := by decide
  have q0 : (0 : Int32).toInt = 0 := by decide
  have q1 : (1 : Int32).toInt = 1 := by decide
  refine r_aload_n 0 C dX6_hears_0 rfl ?_
  refine gfX6_18 3 C (kS sC h0 kc_35) (xS sC h0 xc_35_4) dX6_hears_1 ?_
  refine r_iload_n 1 C dX6_hears_4 rfl ?_
  refine r_iload_n 2 C dX6_hears_5 rfl ?_
  refine callVI C cwX6_63_V (ctX9_isFollower_3 _ _ w (sS sC h0) o0 a1 a2 ) (by decide) (kS sC h0 kc_3) rfl rfl rfl (Nat.le_of_ble_eq_true rfl) (by decide) dX6_hears_6 (fun r3 w2 y1 => ?_)
  show V x 0 0 w2 9 [(0, .ref (gz (xG x) + 35)), (1, .int a1), (2, .int a2)] [.int r3]
  obtain ⟨h4, o5, g6⟩ := y1
  have h7 := Ch.tr h0 h4 (by decide) (by decide)
  refine r_if_eq 20 C dX6_hears_9 (by decide) (fun c8 => ?_) (fun c8 => ?_)
  · have c8' := i_eq c8
    refine r_iconst (v := 0) C dX6_hears_20 (by decide) ?_
    exact hret _ _ _ _ dX6_hears_21 (nar_z (z_of (by omega))) ⟨h7, o5, by omega⟩
  · have c8' := i_ne c8
    refine r_aload_n 0 C dX6_hears_12 rfl ?_
    refine r_iload_n 1 C dX6_hears_13 rfl ?_
    refine callVI C cwX6_66_V (ctX6_isHere_35 _ _ w2 (sS sC h7) o5 a1 ) (by decide) (kS sC h7 kc_35) rfl rfl rfl (Nat.le_of_ble_eq_true rfl) (by decide) dX6_hears_14 (fun r11 w10 y9 => ?_)
    show V x 0 0 w10 17 [(0, .ref (gz (xG x) + 35)), (1, .int a1), (2, .int a2)] [.int r11]
    obtain ⟨h12, o13, g14⟩ := y9
    have h15 := Ch.tr h7 h12 (by decide) (by decide)
    refine r_if_ne 22 C dX6_hears_17 (by decide) (fun c16 => ?_) (fun c16 => ?_)
    · have c16' := i_ne c16
      refine r_aload_n 0 C dX6_hears_22 rfl ?_
      refine gfX6_22 21 C (kS sC h15 kc_35) (xS sC h15 xc_35_5) dX6_hears_23 ?_
      refine r_aload_n 0 C dX6_hears_26 rfl ?_
      refine gfX6_9 36 C (kS sC h15 kc_35) (xS sC h15 xc_35_2) dX6_hears_27 ?_
      refine r_iload_n 1 C dX6_hears_30 rfl ?_
      refine r_iald C (kS sC h15 kc_36) (vin (by omega) (by omega)) dX6_hears_31 ?_
      generalize (wI w10 36 (a1).toNatClampNeg) = v17
      refine r_aload_n 0 C dX6_hears_32 rfl ?_
      refine gfX6_32 (v := (wI w 35 0)) C (kS sC h15 kc_35) (h12.I (by decide) (by decide) (h4.I (by decide) (by decide) rfl)) dX6_hears_33 ?_
      refine callVI C cwX6_70_V (ctX1_steps_21 _ _ w10 (sS sC h15) o13 v17 (wI w 35 0) ) (by decide) (kS sC h15 kc_21) rfl rfl rfl (Nat.le_of_ble_eq_true rfl) (by decide) dX6_hears_36 (fun r20 w19 y18 => ?_)
      show V x 0 0 w19 39 [(0, .ref (gz (xG x) + 35)), (1, .int a1), (2, .int a2)] [.int r20]
      obtain ⟨h21, o22⟩ := y18
      have h23 := Ch.tr h15 h21 (by decide) (by decide)
      refine r_istore_n [(3, .int r20), (0, .ref (gz (xG x) + 35)), (1, .int a1), (2, .int a2)] C dX6_hears_39 (by decide) rfl ?_
      refine r_iload_n 0 C dX6_hears_40 rfl ?_
      refine r_iconst (v := (-1)) C dX6_hears_41 (by decide) ?_
      refine r_icmp_eq 62 C dX6_hears_42 (by decide) (fun c24 => ?_) (fun c24 => ?_)
      · have c24' := i_eq c24
        refine r_iconst (v := 0) C dX6_hears_62 (by decide) ?_
        exact hret _ _ _ _ dX6_hears_63 (nar_z (z_of (by omega))) ⟨h23, o22, by omega⟩
      · have c24' := i_ne c24
        refine r_iload_n 0 C dX6_hears_45 rfl ?_
        refine r_aload_n 1 C dX6_hears_46 rfl ?_
        refine gfX6_18 3 C (kS sC h23 kc_35) (xS sC h23 xc_35_4) dX6_hears_47 ?_
        refine gfX6_73 11 C (kS sC h23 kc_3) (xS sC h23 xc_3_16) dX6_hears_50 ?_
        refine r_iload_n 3 C dX6_hears_53 rfl ?_
        refine r_iald C (kS sC h23 kc_11) (vin (by omega) (by omega)) dX6_hears_54 ?_
        generalize (wI w19 11 (a2).toNatClampNeg) = v25
        have k27 := i_rng r20
        have k28 := i_rng v25
        refine r_icmp_gt 62 C dX6_hears_55 (by decide) (fun c26 => ?_) (fun c26 => ?_)
        · have c26' := i_lt c26
          refine r_iconst (v := 0) C dX6_hears_62 (by decide) ?_
          exact hret _ _ _ _ dX6_hears_63 (nar_z (z_of (by omega))) ⟨h23, o22, by omega⟩
        · have c26' := i_nlt c26
          refine r_iconst (v := 1) C dX6_hears_58 (by decide) ?_
          refine r_goto 63 C dX6_hears_59 (by decide) ?_
          exact hret _ _ _ _ dX6_hears_63 (nar_z (z_of (by omega))) ⟨h23, o22, by omega⟩
    · have c16' := i_eq c16
      refine r_iconst (v := 0) C dX6_hears_20 (by decide) ?_
      exact hret _ _ _ _ dX6_hears_21 (nar_z (z_of (by omega))) ⟨h15, o13, by omega⟩
set_option maxHeartbeats 4000000 in
set_option maxRecDepth 100000 in
theorem ctX6_lead_35 (l : Launch) (G : Gt) (w : Wv) (sC : Str KC XC w) (o0 : Inv RC w) (a1 : Int32) (b1 : 0 ≤ a1.toInt ∧ a1.toInt ≤ 5) : CtV l G yX6_lead cX6_lead 4 ({ frames := 2, cells := 0, slots := 0, locals := 54 } : Room) [.ref (gz G + 35), .int a1] w (fun w' => Ch [25, 26, 27, 36, 37] [] w w' ∧ Inv RC w') := by
  refine enterV (by decide) (Nat.le_of_ble_eq_true rfl) ?_
  intro x el eG C hnm hret
  subst el; subst eG
  show V x 0 0 w 0 [(0, .ref (gz (xG x) + 35)), (1, .int a1)] []
  have h0 : Ch [25, 26, 27, 36, 37] [] w w := Ch.rf
  have qm1 : ((-1) : Int32).toInt = (-1) := by decide
  have q0 : (0 : Int32).toInt = 0 := by decide
  have LP2 : ∀ (f3 : Nat) (u1 : Int32) (w4 : Wv), Ch [25, 26, 27, 36, 37] [] w w4 → Inv RC w4 → (0 ≤ u1.toInt ∧ u1.toInt ≤ 2147483647) → 2147483647 - u1.toInt < f3 → V x 0 0 w4 2 [(0, .ref (gz (xG x) + 35)), (1, .int a1), (2, .int u1)] [] := by
    intro f3
    induction f3 with
    | zero => intro u1 w4 h5 o6 z7 z8; exfalso; omega
    | succ f3 ih9 =>
      intro u1 w4 h5 o6 z7 z8
      refine r_iload_n 2 C dX6_lead_2 rfl ?_
      refine r_aload_n 0 C dX6_lead_3 rfl ?_
      refine gfX6_18 3 C (kS sC h5 kc_35) (xS sC h5 xc_35_4) dX6_lead_4 ?_
      refine gfX6_76 8 C (kS sC h5 kc_3) (xS sC h5 xc_3_13) dX6_lead_7 ?_
      refine r_iload_n 1 C dX6_lead_10 rfl ?_
      refine r_iald C (kS sC h5 kc_8) (vin (by omega) (by omega)) dX6_lead_11 ?_
      generalize (wI w4 8 (a1).toNatClampNeg) = v10
      have k12 := i_rng u1
      have k13 := i_rng v10
      refine r_icmp_ge 102 C dX6_lead_12 (by decide) (fun c11 => ?_) (fun c11 => ?_)
      · have c11' := i_le c11
        exact hret _ _ _ dX6_lead_102 ⟨h5, o6⟩
      · have c11' := i_nle c11
        refine r_aload_n 0 C dX6_lead_15 rfl ?_
        refine gfX6_15 37 C (kS sC h5 kc_35) (xS sC h5 xc_35_3) dX6_lead_16 ?_
        refine r_iload_n 1 C dX6_lead_19 rfl ?_
        refine r_iald C (kS sC h5 kc_37) (vin (by omega) (by omega)) dX6_lead_20 ?_
        generalize (wI w4 37 (a1).toNatClampNeg) = v14
        refine r_iconst (v := (-1)) C dX6_lead_21 (by decide) ?_
        refine r_icmp_eq 102 C dX6_lead_22 (by decide) (fun c15 => ?_) (fun c15 => ?_)
        · have c15' := i_eq c15
          exact hret _ _ _ dX6_lead_102 ⟨h5, o6⟩
        · have c15' := i_ne c15
          refine r_aload_n 0 C dX6_lead_25 rfl ?_
          refine gfX6_22 21 C (kS sC h5 kc_35) (xS sC h5 xc_35_5) dX6_lead_26 ?_
          refine r_aload_n 0 C dX6_lead_29 rfl ?_
          refine gfX6_9 36 C (kS sC h5 kc_35) (xS sC h5 xc_35_2) dX6_lead_30 ?_
          refine r_iload_n 1 C dX6_lead_33 rfl ?_
          refine r_iald C (kS sC h5 kc_36) (vin (by omega) (by omega)) dX6_lead_34 ?_
          generalize (wI w4 36 (a1).toNatClampNeg) = v16
          refine r_aload_n 0 C dX6_lead_35 rfl ?_
          refine gfX6_15 37 C (kS sC h5 kc_35) (xS sC h5 xc_35_3) dX6_lead_36 ?_
          refine r_iload_n 1 C dX6_lead_39 rfl ?_
          refine r_iald C (kS sC h5 kc_37) (vin (by omega) (by omega)) dX6_lead_40 ?_
          generalize (wI w4 37 (a1).toNatClampNeg) = v17
          refine callVI C cwX6_79_V (ctX1_onward_21 _ _ w4 (sS sC h5) o6 v16 v17 ) (by decide) (kS sC h5 kc_21) rfl rfl rfl (Nat.le_of_ble_eq_true rfl) (by decide) dX6_lead_41 (fun r20 w19 y18 => ?_)
          show V x 0 0 w19 44 [(0, .ref (gz (xG x) + 35)), (1, .int a1), (2, .int u1)] [.int r20]
          obtain ⟨h21, o22⟩ := y18
          have h23 := Ch.tr h5 h21 (by decide) (by decide)
          refine r_istore_n [(3, .int r20), (0, .ref (gz (xG x) + 35)), (1, .int a1), (2, .int u1)] C dX6_lead_44 (by decide) rfl ?_
          refine r_aload_n 1 C dX6_lead_45 rfl ?_
          refine gfX6_9 36 C (kS sC h23 kc_35) (xS sC h23 xc_35_2) dX6_lead_46 ?_
          refine r_iload_n 2 C dX6_lead_49 rfl ?_
          refine r_iload_n 0 C dX6_lead_50 rfl ?_
          refine r_iconst (v := (-1)) C dX6_lead_51 (by decide) ?_
          refine r_icmp_ne 64 C dX6_lead_52 (by decide) (fun c24 => ?_) (fun c24 => ?_)
          · have c24' := i_ne c24
            refine r_iload_n 0 C dX6_lead_64 rfl ?_
            refine r_iast C (kS sC h23 kc_36) (vin (by omega) (by omega)) dX6_lead_65 (fun w25 e26 => ?_)
            have h27 := Ch.putS h23 e26 (by decide)
            have o28 := Inv.put0 o22 e26 (by decide)
            refine r_aload_n 1 C dX6_lead_66 rfl ?_
            refine gfX6_9 36 C (kS sC h27 kc_35) (xS sC h27 xc_35_2) dX6_lead_67 ?_
            refine r_iload_n 2 C dX6_lead_70 rfl ?_
            refine r_iald C (kS sC h27 kc_36) (vin (by omega) (by omega)) dX6_lead_71 ?_
            generalize (wI w25 36 (a1).toNatClampNeg) = v29
            refine r_aload_n 1 C dX6_lead_72 rfl ?_
            refine gfX6_15 37 C (kS sC h27 kc_35) (xS sC h27 xc_35_3) dX6_lead_73 ?_
            refine r_iload_n 2 C dX6_lead_76 rfl ?_
            refine r_iald C (kS sC h27 kc_37) (vin (by omega) (by omega)) dX6_lead_77 ?_
            generalize (wI w25 37 (a1).toNatClampNeg) = v30
            refine r_icmp_eq 89 C dX6_lead_78 (by decide) (fun c31 => ?_) (fun c31 => ?_)
            · have c31' := i_eq c31
              refine r_aload_n 1 C dX6_lead_89 rfl ?_
              refine gfX6_15 37 C (kS sC h27 kc_35) (xS sC h27 xc_35_3) dX6_lead_90 ?_
              refine r_iload_n 2 C dX6_lead_93 rfl ?_
              refine r_iconst (v := (-1)) C dX6_lead_94 (by decide) ?_
              refine r_iast C (kS sC h27 kc_37) (vin (by omega) (by omega)) dX6_lead_95 (fun w32 e33 => ?_)
              have h34 := Ch.putS h27 e33 (by decide)
              have o35 := Inv.put0 o28 e33 (by decide)
              obtain ⟨i36, e37⟩ : ∃ z : Int32, u1 + Int32.ofInt 1 = z := ⟨_, rfl⟩
              have i36' := iinc_ok e37 (by decide) (by omega) (by omega)
              refine r_iinc [(2, .int i36), (3, .int r20), (0, .ref (gz (xG x) + 35)), (1, .int a1)] 3 C dX6_lead_96 rfl e37 (by decide) rfl ?_
              refine r_goto 2 C dX6_lead_99 (by decide) ?_
              refine r_lv [2, 3, 0] rfl ?_
              exact ih9 i36 w32 h34 o35 (by omega) (by omega)
            · have c31' := i_ne c31
              refine r_aload_n 1 C dX6_lead_81 rfl ?_
              refine r_iload_n 2 C dX6_lead_82 rfl ?_
              refine callVI C cwX6_82_V (ctX6_fate_35 _ _ w25 (sS sC h27) o28 a1 ) (by decide) (kS sC h27 kc_35) rfl rfl rfl (Nat.le_of_ble_eq_true rfl) (by decide) dX6_lead_83 (fun r40 w39 y38 => ?_)
              show V x 0 0 w39 86 [(3, .int r20), (0, .ref (gz (xG x) + 35)), (1, .int a1), (2, .int u1)] [.int r40]
              obtain ⟨h41, o42⟩ := y38
              have h43 := Ch.tr h27 h41 (by decide) (by decide)
              refine r_if_eq 96 C dX6_lead_86 (by decide) (fun c44 => ?_) (fun c44 => ?_)
              · have c44' := i_eq c44
                obtain ⟨i45, e46⟩ : ∃ z : Int32, u1 + Int32.ofInt 1 = z := ⟨_, rfl⟩
                have i45' := iinc_ok e46 (by decide) (by omega) (by omega)
                refine r_iinc [(2, .int i45), (3, .int r20), (0, .ref (gz (xG x) + 35)), (1, .int a1)] 3 C dX6_lead_96 rfl e46 (by decide) rfl ?_
                refine r_goto 2 C dX6_lead_99 (by decide) ?_
                refine r_lv [2, 3, 0] rfl ?_
                exact ih9 i45 w39 h43 o42 (by omega) (by omega)
              · have c44' := i_ne c44
                refine r_aload_n 1 C dX6_lead_89 rfl ?_
                refine gfX6_15 37 C (kS sC h43 kc_35) (xS sC h43 xc_35_3) dX6_lead_90 ?_
                refine r_iload_n 2 C dX6_lead_93 rfl ?_
                refine r_iconst (v := (-1)) C dX6_lead_94 (by decide) ?_
                refine r_iast C (kS sC h43 kc_37) (vin (by omega) (by omega)) dX6_lead_95 (fun w47 e48 => ?_)
                have h49 := Ch.putS h43 e48 (by decide)
                have o50 := Inv.put0 o42 e48 (by decide)
                obtain ⟨i51, e52⟩ : ∃ z : Int32, u1 + Int32.ofInt 1 = z := ⟨_, rfl⟩
                have i51' := iinc_ok e52 (by decide) (by omega) (by omega)
                refine r_iinc [(2, .int i51), (3, .int r20), (0, .ref (gz (xG x) + 35)), (1, .int a1)] 3 C dX6_lead_96 rfl e52 (by decide) rfl ?_
                refine r_goto 2 C dX6_lead_99 (by decide) ?_
                refine r_lv [2, 3, 0] rfl ?_
                exact ih9 i51 w47 h49 o50 (by omega) (by omega)
          · have c24' := i_eq c24
            refine r_aload_n 1 C dX6_lead_55 rfl ?_
            refine gfX6_9 36 C (kS sC h23 kc_35) (xS sC h23 xc_35_2) dX6_lead_56 ?_
            refine r_iload_n 2 C dX6_lead_59 rfl ?_
            refine r_iald C (kS sC h23 kc_36) (vin (by omega) (by omega)) dX6_lead_60 ?_
            generalize (wI w19 36 (a1).toNatClampNeg) = v53
            refine r_goto 65 C dX6_lead_61 (by decide) ?_
            refine r_iast C (kS sC h23 kc_36) (vin (by omega) (by omega)) dX6_lead_65 (fun w54 e55 => ?_)
            have h56 := Ch.putS h23 e55 (by decide)
            have o57 := Inv.put0 o22 e55 (by decide)
            refine r_aload_n 1 C dX6_lead_66 rfl ?_
            refine gfX6_9 36 C (kS sC h56 kc_35) (xS sC h56 xc_35_2) dX6_lead_67 ?_
            refine r_iload_n 2 C dX6_lead_70 rfl ?_
            refine r_iald C (kS sC h56 kc_36) (vin (by omega) (by omega)) dX6_lead_71 ?_
            generalize (wI w54 36 (a1).toNatClampNeg) = v58
            refine r_aload_n 1 C dX6_lead_72 rfl ?_
            refine gfX6_15 37 C (kS sC h56 kc_35) (xS sC h56 xc_35_3) dX6_lead_73 ?_
            refine r_iload_n 2 C dX6_lead_76 rfl ?_
            refine r_iald C (kS sC h56 kc_37) (vin (by omega) (by omega)) dX6_lead_77 ?_
            generalize (wI w54 37 (a1).toNatClampNeg) = v59
            refine r_icmp_eq 89 C dX6_lead_78 (by decide) (fun c60 => ?_) (fun c60 => ?_)
            · have c60' := i_eq c60
              refine r_aload_n 1 C dX6_lead_89 rfl ?_
              refine gfX6_15 37 C (kS sC h56 kc_35) (xS sC h56 xc_35_3) dX6_lead_90 ?_
              refine r_iload_n 2 C dX6_lead_93 rfl ?_
              refine r_iconst (v := (-1)) C dX6_lead_94 (by decide) ?_
              refine r_iast C (kS sC h56 kc_37) (vin (by omega) (by omega)) dX6_lead_95 (fun w61 e62 => ?_)
              have h63 := Ch.putS h56 e62 (by decide)
              have o64 := Inv.put0 o57 e62 (by decide)
              obtain ⟨i65, e66⟩ : ∃ z : Int32, u1 + Int32.ofInt 1 = z := ⟨_, rfl⟩
              have i65' := iinc_ok e66 (by decide) (by omega) (by omega)
              refine r_iinc [(2, .int i65), (3, .int r20), (0, .ref (gz (xG x) + 35)), (1, .int a1)] 3 C dX6_lead_96 rfl e66 (by decide) rfl ?_
              refine r_goto 2 C dX6_lead_99 (by decide) ?_
              refine r_lv [2, 3, 0] rfl ?_
              exact ih9 i65 w61 h63 o64 (by omega) (by omega)
            · have c60' := i_ne c60
              refine r_aload_n 1 C dX6_lead_81 rfl ?_
              refine r_iload_n 2 C dX6_lead_82 rfl ?_
              refine callVI C cwX6_82_V (ctX6_fate_35 _ _ w54 (sS sC h56) o57 a1 ) (by decide) (kS sC h56 kc_35) rfl rfl rfl (Nat.le_of_ble_eq_true rfl) (by decide) dX6_lead_83 (fun r69 w68 y67 => ?_)
              show V x 0 0 w68 86 [(3, .int r20), (0, .ref (gz (xG x) + 35)), (1, .int a1), (2, .int u1)] [.int r69]
              obtain ⟨h70, o71⟩ := y67
              have h72 := Ch.tr h56 h70 (by decide) (by decide)
              refine r_if_eq 96 C dX6_lead_86 (by decide) (fun c73 => ?_) (fun c73 => ?_)
              · have c73' := i_eq c73
                obtain ⟨i74, e75⟩ : ∃ z : Int32, u1 + Int32.ofInt 1 = z := ⟨_, rfl⟩
                have i74' := iinc_ok e75 (by decide) (by omega) (by omega)
                refine r_iinc [(2, .int i74), (3, .int r20), (0, .ref (gz (xG x) + 35)), (1, .int a1)] 3 C dX6_lead_96 rfl e75 (by decide) rfl ?_
                refine r_goto 2 C dX6_lead_99 (by decide) ?_
                refine r_lv [2, 3, 0] rfl ?_
                exact ih9 i74 w68 h72 o71 (by omega) (by omega)
              · have c73' := i_ne c73
                refine r_aload_n 1 C dX6_lead_89 rfl ?_
                refine gfX6_15 37 C (kS sC h72 kc_35) (xS sC h72 xc_35_3) dX6_lead_90 ?_
                refine r_iload_n 2 C dX6_lead_93 rfl ?_
                refine r_iconst (v := (-1)) C dX6_lead_94 (by decide) ?_
                refine r_iast C (kS sC h72 kc_37) (vin (by omega) (by omega)) dX6_lead_95 (fun w76 e77 => ?_)
                have h78 := Ch.putS h72 e77 (by decide)
                have o79 := Inv.put0 o71 e77 (by decide)
                obtain ⟨i80, e81⟩ : ∃ z : Int32, u1 + Int32.ofInt 1 = z := ⟨_, rfl⟩
                have i80' := iinc_ok e81 (by decide) (by omega) (by omega)
                refine r_iinc [(2, .int i80), (3, .int r20), (0, .ref (gz (xG x) + 35)), (1, .int a1)] 3 C dX6_lead_96 rfl e81 (by decide) rfl ?_
                refine r_goto 2 C dX6_lead_99 (by decide) ?_
                refine r_lv [2, 3, 0] rfl ?_
                exact ih9 i80 w76 h78 o79 (by omega) (by omega)
  refine r_iconst (v := 0) C dX6_lead_0 (by decide) ?_
  refine r_istore_n [(2, .int 0), (0, .ref (gz (xG x) + 35)), (1, .int a1)] C dX6_lead_1 (by decide) rfl ?_
  refine r_lv [1, 2, 0] rfl ?_
  exact LP2 4294967296 0 w h0 o0 (by omega) (by omega)
set_option maxHeartbeats 4000000 in
set_option maxRecDepth 100000 in
theorem ctX6_hears_38 (l : Launch) (G : Gt) (w : Wv) (sC : Str KC XC w) (o0 : Inv RC w) (a1 : Int32) (a2 : Int32) : CtI l G yX6_hears cX6_hears 4 .boolean ({ frames := 2, cells := 0, slots := 0, locals := 50 } : Room) [.ref (gz G + 38), .int a1, .int a2] w (fun r w' => Ch [25, 26, 27] [] w w' ∧ Inv RC w' ∧ ((0 ≤ r.toInt ∧ r.toInt ≤ 1))) := by
  refine enterI (by decide) (Nat.le_of_ble_eq_true rfl) ?_
  intro x el eG C hret
  subst el; subst eG
  show V x 0 0 w 0 [(0, .ref (gz (xG x) + 38)), (1, .int a1), (2, .int a2)] []
  have h0 : Ch [25, 26, 27] [] w w := Ch.rf
  have qm1 : ((-1) : Int32).toInt = (-1) := by decide
  have q0 : (0 : Int32).toInt = 0 := by decide
  have q1 : (1 : Int32).toInt = 1 := by decide
  refine r_aload_n 0 C dX6_hears_0 rfl ?_
  refine gfX6_18 3 C (kS sC h0 kc_38) (xS sC h0 xc_38_4) dX6_hears_1 ?_
  refine r_iload_n 1 C dX6_hears_4 rfl ?_
  refine r_iload_n 2 C dX6_hears_5 rfl ?_
  refine callVI C cwX6_63_V (ctX9_isFollower_3 _ _ w (sS sC h0) o0 a1 a2 ) (by decide) (kS sC h0 kc_3) rfl rfl rfl (Nat.le_of_ble_eq_true rfl) (by decide) dX6_hears_6 (fun r3 w2 y1 => ?_)
  show V x 0 0 w2 9 [(0, .ref (gz (xG x) + 38)), (1, .int a1), (2, .int a2)] [.int r3]
  obtain ⟨h4, o5, g6⟩ := y1
  have h7 := Ch.tr h0 h4 (by decide) (by decide)
  refine r_if_eq 20 C dX6_hears_9 (by decide) (fun c8 => ?_) (fun c8 => ?_)
  · have c8' := i_eq c8
    refine r_iconst (v := 0) C dX6_hears_20 (by decide) ?_
    exact hret _ _ _ _ dX6_hears_21 (nar_z (z_of (by omega))) ⟨h7, o5, by omega⟩
  · have c8' := i_ne c8
    refine r_aload_n 0 C dX6_hears_12 rfl ?_
    refine r_iload_n 1 C dX6_hears_13 rfl ?_
    refine callVI C cwX6_66_V (ctX6_isHere_38 _ _ w2 (sS sC h7) o5 a1 ) (by decide) (kS sC h7 kc_38) rfl rfl rfl (Nat.le_of_ble_eq_true rfl) (by decide) dX6_hears_14 (fun r11 w10 y9 => ?_)
    show V x 0 0 w10 17 [(0, .ref (gz (xG x) + 38)), (1, .int a1), (2, .int a2)] [.int r11]
    obtain ⟨h12, o13, g14⟩ := y9
    have h15 := Ch.tr h7 h12 (by decide) (by decide)
    refine r_if_ne 22 C dX6_hears_17 (by decide) (fun c16 => ?_) (fun c16 => ?_)
    · have c16' := i_ne c16
      refine r_aload_n 0 C dX6_hears_22 rfl ?_
      refine gfX6_22 21 C (kS sC h15 kc_38) (xS sC h15 xc_38_5) dX6_hears_23 ?_
      refine r_aload_n 0 C dX6_hears_26 rfl ?_
      refine gfX6_9 39 C (kS sC h15 kc_38) (xS sC h15 xc_38_2) dX6_hears_27 ?_
      refine r_iload_n 1 C dX6_hears_30 rfl ?_
      refine r_iald C (kS sC h15 kc_39) (vin (by omega) (by omega)) dX6_hears_31 ?_
      generalize (wI w10 39 (a1).toNatClampNeg) = v17
      refine r_aload_n 0 C dX6_hears_32 rfl ?_
      refine gfX6_32 (v := (wI w 38 0)) C (kS sC h15 kc_38) (h12.I (by decide) (by decide) (h4.I (by decide) (by decide) rfl)) dX6_hears_33 ?_
      refine callVI C cwX6_70_V (ctX1_steps_21 _ _ w10 (sS sC h15) o13 v17 (wI w 38 0) ) (by decide) (kS sC h15 kc_21) rfl rfl rfl (Nat.le_of_ble_eq_true rfl) (by decide) dX6_hears_36 (fun r20 w19 y18 => ?_)
      show V x 0 0 w19 39 [(0, .ref (gz (xG x) + 38)), (1, .int a1), (2, .int a2)] [.int r20]
      obtain ⟨h21, o22⟩ := y18
      have h23 := Ch.tr h15 h21 (by decide) (by decide)
      refine r_istore_n [(3, .int r20), (0, .ref (gz (xG x) + 38)), (1, .int a1), (2, .int a2)] C dX6_hears_39 (by decide) rfl ?_
      refine r_iload_n 0 C dX6_hears_40 rfl ?_
      refine r_iconst (v := (-1)) C dX6_hears_41 (by decide) ?_
      refine r_icmp_eq 62 C dX6_hears_42 (by decide) (fun c24 => ?_) (fun c24 => ?_)
      · have c24' := i_eq c24
        refine r_iconst (v := 0) C dX6_hears_62 (by decide) ?_
        exact hret _ _ _ _ dX6_hears_63 (nar_z (z_of (by omega))) ⟨h23, o22, by omega⟩
      · have c24' := i_ne c24
        refine r_iload_n 0 C dX6_hears_45 rfl ?_
        refine r_aload_n 1 C dX6_hears_46 rfl ?_
        refine gfX6_18 3 C (kS sC h23 kc_38) (xS sC h23 xc_38_4) dX6_hears_47 ?_
        refine gfX6_73 11 C (kS sC h23 kc_3) (xS sC h23 xc_3_16) dX6_hears_50 ?_
        refine r_iload_n 3 C dX6_hears_53 rfl ?_
        refine r_iald C (kS sC h23 kc_11) (vin (by omega) (by omega)) dX6_hears_54 ?_
        generalize (wI w19 11 (a2).toNatClampNeg) = v25
        have k27 := i_rng r20
        have k28 := i_rng v25
        refine r_icmp_gt 62 C dX6_hears_55 (by decide) (fun c26 => ?_) (fun c26 => ?_)
        · have c26' := i_lt c26
          refine r_iconst (v := 0) C dX6_hears_62 (by decide) ?_
          exact hret _ _ _ _ dX6_hears_63 (nar_z (z_of (by omega))) ⟨h23, o22, by omega⟩
        · have c26' := i_nlt c26
          refine r_iconst (v := 1) C dX6_hears_58 (by decide) ?_
          refine r_goto 63 C dX6_hears_59 (by decide) ?_
          exact hret _ _ _ _ dX6_hears_63 (nar_z (z_of (by omega))) ⟨h23, o22, by omega⟩
    · have c16' := i_eq c16
      refine r_iconst (v := 0) C dX6_hears_20 (by decide) ?_
      exact hret _ _ _ _ dX6_hears_21 (nar_z (z_of (by omega))) ⟨h15, o13, by omega⟩
set_option maxHeartbeats 4000000 in
set_option maxRecDepth 100000 in
theorem ctX6_lead_38 (l : Launch) (G : Gt) (w : Wv) (sC : Str KC XC w) (o0 : Inv RC w) (a1 : Int32) (b1 : 0 ≤ a1.toInt ∧ a1.toInt ≤ 5) : CtV l G yX6_lead cX6_lead 4 ({ frames := 2, cells := 0, slots := 0, locals := 54 } : Room) [.ref (gz G + 38), .int a1] w (fun w' => Ch [25, 26, 27, 39, 40] [] w w' ∧ Inv RC w') := by
  refine enterV (by decide) (Nat.le_of_ble_eq_true rfl) ?_
  intro x el eG C hnm hret
  subst el; subst eG
  show V x 0 0 w 0 [(0, .ref (gz (xG x) + 38)), (1, .int a1)] []
  have h0 : Ch [25, 26, 27, 39, 40] [] w w := Ch.rf
  have qm1 : ((-1) : Int32).toInt = (-1) := by decide
  have q0 : (0 : Int32).toInt = 0 := by decide
  have LP2 : ∀ (f3 : Nat) (u1 : Int32) (w4 : Wv), Ch [25, 26, 27, 39, 40] [] w w4 → Inv RC w4 → (0 ≤ u1.toInt ∧ u1.toInt ≤ 2147483647) → 2147483647 - u1.toInt < f3 → V x 0 0 w4 2 [(0, .ref (gz (xG x) + 38)), (1, .int a1), (2, .int u1)] [] := by
    intro f3
    induction f3 with
    | zero => intro u1 w4 h5 o6 z7 z8; exfalso; omega
    | succ f3 ih9 =>
      intro u1 w4 h5 o6 z7 z8
      refine r_iload_n 2 C dX6_lead_2 rfl ?_
      refine r_aload_n 0 C dX6_lead_3 rfl ?_
      refine gfX6_18 3 C (kS sC h5 kc_38) (xS sC h5 xc_38_4) dX6_lead_4 ?_
      refine gfX6_76 8 C (kS sC h5 kc_3) (xS sC h5 xc_3_13) dX6_lead_7 ?_
      refine r_iload_n 1 C dX6_lead_10 rfl ?_
      refine r_iald C (kS sC h5 kc_8) (vin (by omega) (by omega)) dX6_lead_11 ?_
      generalize (wI w4 8 (a1).toNatClampNeg) = v10
      have k12 := i_rng u1
      have k13 := i_rng v10
      refine r_icmp_ge 102 C dX6_lead_12 (by decide) (fun c11 => ?_) (fun c11 => ?_)
      · have c11' := i_le c11
        exact hret _ _ _ dX6_lead_102 ⟨h5, o6⟩
      · have c11' := i_nle c11
        refine r_aload_n 0 C dX6_lead_15 rfl ?_
        refine gfX6_15 40 C (kS sC h5 kc_38) (xS sC h5 xc_38_3) dX6_lead_16 ?_
        refine r_iload_n 1 C dX6_lead_19 rfl ?_
        refine r_iald C (kS sC h5 kc_40) (vin (by omega) (by omega)) dX6_lead_20 ?_
        generalize (wI w4 40 (a1).toNatClampNeg) = v14
        refine r_iconst (v := (-1)) C dX6_lead_21 (by decide) ?_
        refine r_icmp_eq 102 C dX6_lead_22 (by decide) (fun c15 => ?_) (fun c15 => ?_)
        · have c15' := i_eq c15
          exact hret _ _ _ dX6_lead_102 ⟨h5, o6⟩
        · have c15' := i_ne c15
          refine r_aload_n 0 C dX6_lead_25 rfl ?_
          refine gfX6_22 21 C (kS sC h5 kc_38) (xS sC h5 xc_38_5) dX6_lead_26 ?_
          refine r_aload_n 0 C dX6_lead_29 rfl ?_
          refine gfX6_9 39 C (kS sC h5 kc_38) (xS sC h5 xc_38_2) dX6_lead_30 ?_
          refine r_iload_n 1 C dX6_lead_33 rfl ?_
          refine r_iald C (kS sC h5 kc_39) (vin (by omega) (by omega)) dX6_lead_34 ?_
          generalize (wI w4 39 (a1).toNatClampNeg) = v16
          refine r_aload_n 0 C dX6_lead_35 rfl ?_
          refine gfX6_15 40 C (kS sC h5 kc_38) (xS sC h5 xc_38_3) dX6_lead_36 ?_
          refine r_iload_n 1 C dX6_lead_39 rfl ?_
          refine r_iald C (kS sC h5 kc_40) (vin (by omega) (by omega)) dX6_lead_40 ?_
          generalize (wI w4 40 (a1).toNatClampNeg) = v17
          refine callVI C cwX6_79_V (ctX1_onward_21 _ _ w4 (sS sC h5) o6 v16 v17 ) (by decide) (kS sC h5 kc_21) rfl rfl rfl (Nat.le_of_ble_eq_true rfl) (by decide) dX6_lead_41 (fun r20 w19 y18 => ?_)
          show V x 0 0 w19 44 [(0, .ref (gz (xG x) + 38)), (1, .int a1), (2, .int u1)] [.int r20]
          obtain ⟨h21, o22⟩ := y18
          have h23 := Ch.tr h5 h21 (by decide) (by decide)
          refine r_istore_n [(3, .int r20), (0, .ref (gz (xG x) + 38)), (1, .int a1), (2, .int u1)] C dX6_lead_44 (by decide) rfl ?_
          refine r_aload_n 1 C dX6_lead_45 rfl ?_
          refine gfX6_9 39 C (kS sC h23 kc_38) (xS sC h23 xc_38_2) dX6_lead_46 ?_
          refine r_iload_n 2 C dX6_lead_49 rfl ?_
          refine r_iload_n 0 C dX6_lead_50 rfl ?_
          refine r_iconst (v := (-1)) C dX6_lead_51 (by decide) ?_
          refine r_icmp_ne 64 C dX6_lead_52 (by decide) (fun c24 => ?_) (fun c24 => ?_)
          · have c24' := i_ne c24
            refine r_iload_n 0 C dX6_lead_64 rfl ?_
            refine r_iast C (kS sC h23 kc_39) (vin (by omega) (by omega)) dX6_lead_65 (fun w25 e26 => ?_)
            have h27 := Ch.putS h23 e26 (by decide)
            have o28 := Inv.put0 o22 e26 (by decide)
            refine r_aload_n 1 C dX6_lead_66 rfl ?_
            refine gfX6_9 39 C (kS sC h27 kc_38) (xS sC h27 xc_38_2) dX6_lead_67 ?_
            refine r_iload_n 2 C dX6_lead_70 rfl ?_
            refine r_iald C (kS sC h27 kc_39) (vin (by omega) (by omega)) dX6_lead_71 ?_
            generalize (wI w25 39 (a1).toNatClampNeg) = v29
            refine r_aload_n 1 C dX6_lead_72 rfl ?_
            refine gfX6_15 40 C (kS sC h27 kc_38) (xS sC h27 xc_38_3) dX6_lead_73 ?_
            refine r_iload_n 2 C dX6_lead_76 rfl ?_
            refine r_iald C (kS sC h27 kc_40) (vin (by omega) (by omega)) dX6_lead_77 ?_
            generalize (wI w25 40 (a1).toNatClampNeg) = v30
            refine r_icmp_eq 89 C dX6_lead_78 (by decide) (fun c31 => ?_) (fun c31 => ?_)
            · have c31' := i_eq c31
              refine r_aload_n 1 C dX6_lead_89 rfl ?_
              refine gfX6_15 40 C (kS sC h27 kc_38) (xS sC h27 xc_38_3) dX6_lead_90 ?_
              refine r_iload_n 2 C dX6_lead_93 rfl ?_
              refine r_iconst (v := (-1)) C dX6_lead_94 (by decide) ?_
              refine r_iast C (kS sC h27 kc_40) (vin (by omega) (by omega)) dX6_lead_95 (fun w32 e33 => ?_)
              have h34 := Ch.putS h27 e33 (by decide)
              have o35 := Inv.put0 o28 e33 (by decide)
              obtain ⟨i36, e37⟩ : ∃ z : Int32, u1 + Int32.ofInt 1 = z := ⟨_, rfl⟩
              have i36' := iinc_ok e37 (by decide) (by omega) (by omega)
              refine r_iinc [(2, .int i36), (3, .int r20), (0, .ref (gz (xG x) + 38)), (1, .int a1)] 3 C dX6_lead_96 rfl e37 (by decide) rfl ?_
              refine r_goto 2 C dX6_lead_99 (by decide) ?_
              refine r_lv [2, 3, 0] rfl ?_
              exact ih9 i36 w32 h34 o35 (by omega) (by omega)
            · have c31' := i_ne c31
              refine r_aload_n 1 C dX6_lead_81 rfl ?_
              refine r_iload_n 2 C dX6_lead_82 rfl ?_
              refine callVI C cwX6_82_V (ctX6_fate_38 _ _ w25 (sS sC h27) o28 a1 ) (by decide) (kS sC h27 kc_38) rfl rfl rfl (Nat.le_of_ble_eq_true rfl) (by decide) dX6_lead_83 (fun r40 w39 y38 => ?_)
              show V x 0 0 w39 86 [(3, .int r20), (0, .ref (gz (xG x) + 38)), (1, .int a1), (2, .int u1)] [.int r40]
              obtain ⟨h41, o42⟩ := y38
              have h43 := Ch.tr h27 h41 (by decide) (by decide)
              refine r_if_eq 96 C dX6_lead_86 (by decide) (fun c44 => ?_) (fun c44 => ?_)
              · have c44' := i_eq c44
                obtain ⟨i45, e46⟩ : ∃ z : Int32, u1 + Int32.ofInt 1 = z := ⟨_, rfl⟩
                have i45' := iinc_ok e46 (by decide) (by omega) (by omega)
                refine r_iinc [(2, .int i45), (3, .int r20), (0, .ref (gz (xG x) + 38)), (1, .int a1)] 3 C dX6_lead_96 rfl e46 (by decide) rfl ?_
                refine r_goto 2 C dX6_lead_99 (by decide) ?_
                refine r_lv [2, 3, 0] rfl ?_
                exact ih9 i45 w39 h43 o42 (by omega) (by omega)
              · have c44' := i_ne c44
                refine r_aload_n 1 C dX6_lead_89 rfl ?_
                refine gfX6_15 40 C (kS sC h43 kc_38) (xS sC h43 xc_38_3) dX6_lead_90 ?_
                refine r_iload_n 2 C dX6_lead_93 rfl ?_
                refine r_iconst (v := (-1)) C dX6_lead_94 (by decide) ?_
                refine r_iast C (kS sC h43 kc_40) (vin (by omega) (by omega)) dX6_lead_95 (fun w47 e48 => ?_)
                have h49 := Ch.putS h43 e48 (by decide)
                have o50 := Inv.put0 o42 e48 (by decide)
                obtain ⟨i51, e52⟩ : ∃ z : Int32, u1 + Int32.ofInt 1 = z := ⟨_, rfl⟩
                have i51' := iinc_ok e52 (by decide) (by omega) (by omega)
                refine r_iinc [(2, .int i51), (3, .int r20), (0, .ref (gz (xG x) + 38)), (1, .int a1)] 3 C dX6_lead_96 rfl e52 (by decide) rfl ?_
                refine r_goto 2 C dX6_lead_99 (by decide) ?_
                refine r_lv [2, 3, 0] rfl ?_
                exact ih9 i51 w47 h49 o50 (by omega) (by omega)
          · have c24' := i_eq c24
            refine r_aload_n 1 C dX6_lead_55 rfl ?_
            refine gfX6_9 39 C (kS sC h23 kc_38) (xS sC h23 xc_38_2) dX6_lead_56 ?_
            refine r_iload_n 2 C dX6_lead_59 rfl ?_
            refine r_iald C (kS sC h23 kc_39) (vin (by omega) (by omega)) dX6_lead_60 ?_
            generalize (wI w19 39 (a1).toNatClampNeg) = v53
            refine r_goto 65 C dX6_lead_61 (by decide) ?_
            refine r_iast C (kS sC h23 kc_39) (vin (by omega) (by omega)) dX6_lead_65 (fun w54 e55 => ?_)
            have h56 := Ch.putS h23 e55 (by decide)
            have o57 := Inv.put0 o22 e55 (by decide)
            refine r_aload_n 1 C dX6_lead_66 rfl ?_
            refine gfX6_9 39 C (kS sC h56 kc_38) (xS sC h56 xc_38_2) dX6_lead_67 ?_
            refine r_iload_n 2 C dX6_lead_70 rfl ?_
            refine r_iald C (kS sC h56 kc_39) (vin (by omega) (by omega)) dX6_lead_71 ?_
            generalize (wI w54 39 (a1).toNatClampNeg) = v58
            refine r_aload_n 1 C dX6_lead_72 rfl ?_
            refine gfX6_15 40 C (kS sC h56 kc_38) (xS sC h56 xc_38_3) dX6_lead_73 ?_
            refine r_iload_n 2 C dX6_lead_76 rfl ?_
            refine r_iald C (kS sC h56 kc_40) (vin (by omega) (by omega)) dX6_lead_77 ?_
            generalize (wI w54 40 (a1).toNatClampNeg) = v59
            refine r_icmp_eq 89 C dX6_lead_78 (by decide) (fun c60 => ?_) (fun c60 => ?_)
            · have c60' := i_eq c60
              refine r_aload_n 1 C dX6_lead_89 rfl ?_
              refine gfX6_15 40 C (kS sC h56 kc_38) (xS sC h56 xc_38_3) dX6_lead_90 ?_
              refine r_iload_n 2 C dX6_lead_93 rfl ?_
              refine r_iconst (v := (-1)) C dX6_lead_94 (by decide) ?_
              refine r_iast C (kS sC h56 kc_40) (vin (by omega) (by omega)) dX6_lead_95 (fun w61 e62 => ?_)
              have h63 := Ch.putS h56 e62 (by decide)
              have o64 := Inv.put0 o57 e62 (by decide)
              obtain ⟨i65, e66⟩ : ∃ z : Int32, u1 + Int32.ofInt 1 = z := ⟨_, rfl⟩
              have i65' := iinc_ok e66 (by decide) (by omega) (by omega)
              refine r_iinc [(2, .int i65), (3, .int r20), (0, .ref (gz (xG x) + 38)), (1, .int a1)] 3 C dX6_lead_96 rfl e66 (by decide) rfl ?_
              refine r_goto 2 C dX6_lead_99 (by decide) ?_
              refine r_lv [2, 3, 0] rfl ?_
              exact ih9 i65 w61 h63 o64 (by omega) (by omega)
            · have c60' := i_ne c60
              refine r_aload_n 1 C dX6_lead_81 rfl ?_
              refine r_iload_n 2 C dX6_lead_82 rfl ?_
              refine callVI C cwX6_82_V (ctX6_fate_38 _ _ w54 (sS sC h56) o57 a1 ) (by decide) (kS sC h56 kc_38) rfl rfl rfl (Nat.le_of_ble_eq_true rfl) (by decide) dX6_lead_83 (fun r69 w68 y67 => ?_)
              show V x 0 0 w68 86 [(3, .int r20), (0, .ref (gz (xG x) + 38)), (1, .int a1), (2, .int u1)] [.int r69]
              obtain ⟨h70, o71⟩ := y67
              have h72 := Ch.tr h56 h70 (by decide) (by decide)
              refine r_if_eq 96 C dX6_lead_86 (by decide) (fun c73 => ?_) (fun c73 => ?_)
              · have c73' := i_eq c73
                obtain ⟨i74, e75⟩ : ∃ z : Int32, u1 + Int32.ofInt 1 = z := ⟨_, rfl⟩
                have i74' := iinc_ok e75 (by decide) (by omega) (by omega)
                refine r_iinc [(2, .int i74), (3, .int r20), (0, .ref (gz (xG x) + 38)), (1, .int a1)] 3 C dX6_lead_96 rfl e75 (by decide) rfl ?_
                refine r_goto 2 C dX6_lead_99 (by decide) ?_
                refine r_lv [2, 3, 0] rfl ?_
                exact ih9 i74 w68 h72 o71 (by omega) (by omega)
              · have c73' := i_ne c73
                refine r_aload_n 1 C dX6_lead_89 rfl ?_
                refine gfX6_15 40 C (kS sC h72 kc_38) (xS sC h72 xc_38_3) dX6_lead_90 ?_
                refine r_iload_n 2 C dX6_lead_93 rfl ?_
                refine r_iconst (v := (-1)) C dX6_lead_94 (by decide) ?_
                refine r_iast C (kS sC h72 kc_40) (vin (by omega) (by omega)) dX6_lead_95 (fun w76 e77 => ?_)
                have h78 := Ch.putS h72 e77 (by decide)
                have o79 := Inv.put0 o71 e77 (by decide)
                obtain ⟨i80, e81⟩ : ∃ z : Int32, u1 + Int32.ofInt 1 = z := ⟨_, rfl⟩
                have i80' := iinc_ok e81 (by decide) (by omega) (by omega)
                refine r_iinc [(2, .int i80), (3, .int r20), (0, .ref (gz (xG x) + 38)), (1, .int a1)] 3 C dX6_lead_96 rfl e81 (by decide) rfl ?_
                refine r_goto 2 C dX6_lead_99 (by decide) ?_
                refine r_lv [2, 3, 0] rfl ?_
                exact ih9 i80 w76 h78 o79 (by omega) (by omega)
  refine r_iconst (v := 0) C dX6_lead_0 (by decide) ?_
  refine r_istore_n [(2, .int 0), (0, .ref (gz (xG x) + 38)), (1, .int a1)] C dX6_lead_1 (by decide) rfl ?_
  refine r_lv [1, 2, 0] rfl ?_
  exact LP2 4294967296 0 w h0 o0 (by omega) (by omega)
set_option maxHeartbeats 4000000 in
set_option maxRecDepth 100000 in
theorem ctX6_hears_41 (l : Launch) (G : Gt) (w : Wv) (sC : Str KC XC w) (o0 : Inv RC w) (a1 : Int32) (a2 : Int32) : CtI l G yX6_hears cX6_hears 4 .boolean ({ frames := 2, cells := 0, slots := 0, locals := 50 } : Room) [.ref (gz G + 41), .int a1, .int a2] w (fun r w' => Ch [32, 33, 34] [] w w' ∧ Inv RC w' ∧ ((0 ≤ r.toInt ∧ r.toInt ≤ 1))) := by
  refine enterI (by decide) (Nat.le_of_ble_eq_true rfl) ?_
  intro x el eG C hret
  subst el; subst eG
  show V x 0 0 w 0 [(0, .ref (gz (xG x) + 41)), (1, .int a1), (2, .int a2)] []
  have h0 : Ch [32, 33, 34] [] w w := Ch.rf
  have qm1 : ((-1) : Int32).toInt = (-1) := by decide
  have q0 : (0 : Int32).toInt = 0 := by decide
  have q1 : (1 : Int32).toInt = 1 := by decide
  refine r_aload_n 0 C dX6_hears_0 rfl ?_
  refine gfX6_18 3 C (kS sC h0 kc_41) (xS sC h0 xc_41_4) dX6_hears_1 ?_
  refine r_iload_n 1 C dX6_hears_4 rfl ?_
  refine r_iload_n 2 C dX6_hears_5 rfl ?_
  refine callVI C cwX6_63_V (ctX9_isFollower_3 _ _ w (sS sC h0) o0 a1 a2 ) (by decide) (kS sC h0 kc_3) rfl rfl rfl (Nat.le_of_ble_eq_true rfl) (by decide) dX6_hears_6 (fun r3 w2 y1 => ?_)
  show V x 0 0 w2 9 [(0, .ref (gz (xG x) + 41)), (1, .int a1), (2, .int a2)] [.int r3]
  obtain ⟨h4, o5, g6⟩ := y1
  have h7 := Ch.tr h0 h4 (by decide) (by decide)
  refine r_if_eq 20 C dX6_hears_9 (by decide) (fun c8 => ?_) (fun c8 => ?_)
  · have c8' := i_eq c8
    refine r_iconst (v := 0) C dX6_hears_20 (by decide) ?_
    exact hret _ _ _ _ dX6_hears_21 (nar_z (z_of (by omega))) ⟨h7, o5, by omega⟩
  · have c8' := i_ne c8
    refine r_aload_n 0 C dX6_hears_12 rfl ?_
    refine r_iload_n 1 C dX6_hears_13 rfl ?_
    refine callVI C cwX6_66_V (ctX6_isHere_41 _ _ w2 (sS sC h7) o5 a1 ) (by decide) (kS sC h7 kc_41) rfl rfl rfl (Nat.le_of_ble_eq_true rfl) (by decide) dX6_hears_14 (fun r11 w10 y9 => ?_)
    show V x 0 0 w10 17 [(0, .ref (gz (xG x) + 41)), (1, .int a1), (2, .int a2)] [.int r11]
    obtain ⟨h12, o13, g14⟩ := y9
    have h15 := Ch.tr h7 h12 (by decide) (by decide)
    refine r_if_ne 22 C dX6_hears_17 (by decide) (fun c16 => ?_) (fun c16 => ?_)
    · have c16' := i_ne c16
      refine r_aload_n 0 C dX6_hears_22 rfl ?_
      refine gfX6_22 28 C (kS sC h15 kc_41) (xS sC h15 xc_41_5) dX6_hears_23 ?_
      refine r_aload_n 0 C dX6_hears_26 rfl ?_
      refine gfX6_9 42 C (kS sC h15 kc_41) (xS sC h15 xc_41_2) dX6_hears_27 ?_
      refine r_iload_n 1 C dX6_hears_30 rfl ?_
      refine r_iald C (kS sC h15 kc_42) (vin (by omega) (by omega)) dX6_hears_31 ?_
      generalize (wI w10 42 (a1).toNatClampNeg) = v17
      refine r_aload_n 0 C dX6_hears_32 rfl ?_
      refine gfX6_32 (v := (wI w 41 0)) C (kS sC h15 kc_41) (h12.I (by decide) (by decide) (h4.I (by decide) (by decide) rfl)) dX6_hears_33 ?_
      refine callVI C cwX6_70_V (ctX1_steps_28 _ _ w10 (sS sC h15) o13 v17 (wI w 41 0) ) (by decide) (kS sC h15 kc_28) rfl rfl rfl (Nat.le_of_ble_eq_true rfl) (by decide) dX6_hears_36 (fun r20 w19 y18 => ?_)
      show V x 0 0 w19 39 [(0, .ref (gz (xG x) + 41)), (1, .int a1), (2, .int a2)] [.int r20]
      obtain ⟨h21, o22⟩ := y18
      have h23 := Ch.tr h15 h21 (by decide) (by decide)
      refine r_istore_n [(3, .int r20), (0, .ref (gz (xG x) + 41)), (1, .int a1), (2, .int a2)] C dX6_hears_39 (by decide) rfl ?_
      refine r_iload_n 0 C dX6_hears_40 rfl ?_
      refine r_iconst (v := (-1)) C dX6_hears_41 (by decide) ?_
      refine r_icmp_eq 62 C dX6_hears_42 (by decide) (fun c24 => ?_) (fun c24 => ?_)
      · have c24' := i_eq c24
        refine r_iconst (v := 0) C dX6_hears_62 (by decide) ?_
        exact hret _ _ _ _ dX6_hears_63 (nar_z (z_of (by omega))) ⟨h23, o22, by omega⟩
      · have c24' := i_ne c24
        refine r_iload_n 0 C dX6_hears_45 rfl ?_
        refine r_aload_n 1 C dX6_hears_46 rfl ?_
        refine gfX6_18 3 C (kS sC h23 kc_41) (xS sC h23 xc_41_4) dX6_hears_47 ?_
        refine gfX6_73 11 C (kS sC h23 kc_3) (xS sC h23 xc_3_16) dX6_hears_50 ?_
        refine r_iload_n 3 C dX6_hears_53 rfl ?_
        refine r_iald C (kS sC h23 kc_11) (vin (by omega) (by omega)) dX6_hears_54 ?_
        generalize (wI w19 11 (a2).toNatClampNeg) = v25
        have k27 := i_rng r20
        have k28 := i_rng v25
        refine r_icmp_gt 62 C dX6_hears_55 (by decide) (fun c26 => ?_) (fun c26 => ?_)
        · have c26' := i_lt c26
          refine r_iconst (v := 0) C dX6_hears_62 (by decide) ?_
          exact hret _ _ _ _ dX6_hears_63 (nar_z (z_of (by omega))) ⟨h23, o22, by omega⟩
        · have c26' := i_nlt c26
          refine r_iconst (v := 1) C dX6_hears_58 (by decide) ?_
          refine r_goto 63 C dX6_hears_59 (by decide) ?_
          exact hret _ _ _ _ dX6_hears_63 (nar_z (z_of (by omega))) ⟨h23, o22, by omega⟩
    · have c16' := i_eq c16
      refine r_iconst (v := 0) C dX6_hears_20 (by decide) ?_
      exact hret _ _ _ _ dX6_hears_21 (nar_z (z_of (by omega))) ⟨h15, o13, by omega⟩
set_option maxHeartbeats 4000000 in
set_option maxRecDepth 100000 in
theorem ctX6_lead_41 (l : Launch) (G : Gt) (w : Wv) (sC : Str KC XC w) (o0 : Inv RC w) (a1 : Int32) (b1 : 0 ≤ a1.toInt ∧ a1.toInt ≤ 5) : CtV l G yX6_lead cX6_lead 4 ({ frames := 2, cells := 0, slots := 0, locals := 54 } : Room) [.ref (gz G + 41), .int a1] w (fun w' => Ch [32, 33, 34, 42, 43] [] w w' ∧ Inv RC w') := by
  refine enterV (by decide) (Nat.le_of_ble_eq_true rfl) ?_
  intro x el eG C hnm hret
  subst el; subst eG
  show V x 0 0 w 0 [(0, .ref (gz (xG x) + 41)), (1, .int a1)] []
  have h0 : Ch [32, 33, 34, 42, 43] [] w w := Ch.rf
  have qm1 : ((-1) : Int32).toInt = (-1) := by decide
  have q0 : (0 : Int32).toInt = 0 := by decide
  have LP2 : ∀ (f3 : Nat) (u1 : Int32) (w4 : Wv), Ch [32, 33, 34, 42, 43] [] w w4 → Inv RC w4 → (0 ≤ u1.toInt ∧ u1.toInt ≤ 2147483647) → 2147483647 - u1.toInt < f3 → V x 0 0 w4 2 [(0, .ref (gz (xG x) + 41)), (1, .int a1), (2, .int u1)] [] := by
    intro f3
    induction f3 with
    | zero => intro u1 w4 h5 o6 z7 z8; exfalso; omega
    | succ f3 ih9 =>
      intro u1 w4 h5 o6 z7 z8
      refine r_iload_n 2 C dX6_lead_2 rfl ?_
      refine r_aload_n 0 C dX6_lead_3 rfl ?_
      refine gfX6_18 3 C (kS sC h5 kc_41) (xS sC h5 xc_41_4) dX6_lead_4 ?_
      refine gfX6_76 8 C (kS sC h5 kc_3) (xS sC h5 xc_3_13) dX6_lead_7 ?_
      refine r_iload_n 1 C dX6_lead_10 rfl ?_
      refine r_iald C (kS sC h5 kc_8) (vin (by omega) (by omega)) dX6_lead_11 ?_
      generalize (wI w4 8 (a1).toNatClampNeg) = v10
      have k12 := i_rng u1
      have k13 := i_rng v10
      refine r_icmp_ge 102 C dX6_lead_12 (by decide) (fun c11 => ?_) (fun c11 => ?_)
      · have c11' := i_le c11
        exact hret _ _ _ dX6_lead_102 ⟨h5, o6⟩
      · have c11' := i_nle c11
        refine r_aload_n 0 C dX6_lead_15 rfl ?_
        refine gfX6_15 43 C (kS sC h5 kc_41) (xS sC h5 xc_41_3) dX6_lead_16 ?_
        refine r_iload_n 1 C dX6_lead_19 rfl ?_
        refine r_iald C (kS sC h5 kc_43) (vin (by omega) (by omega)) dX6_lead_20 ?_
        generalize (wI w4 43 (a1).toNatClampNeg) = v14
        refine r_iconst (v := (-1)) C dX6_lead_21 (by decide) ?_
        refine r_icmp_eq 102 C dX6_lead_22 (by decide) (fun c15 => ?_) (fun c15 => ?_)
        · have c15' := i_eq c15
          exact hret _ _ _ dX6_lead_102 ⟨h5, o6⟩
        · have c15' := i_ne c15
          refine r_aload_n 0 C dX6_lead_25 rfl ?_
          refine gfX6_22 28 C (kS sC h5 kc_41) (xS sC h5 xc_41_5) dX6_lead_26 ?_
          refine r_aload_n 0 C dX6_lead_29 rfl ?_
          refine gfX6_9 42 C (kS sC h5 kc_41) (xS sC h5 xc_41_2) dX6_lead_30 ?_
          refine r_iload_n 1 C dX6_lead_33 rfl ?_
          refine r_iald C (kS sC h5 kc_42) (vin (by omega) (by omega)) dX6_lead_34 ?_
          generalize (wI w4 42 (a1).toNatClampNeg) = v16
          refine r_aload_n 0 C dX6_lead_35 rfl ?_
          refine gfX6_15 43 C (kS sC h5 kc_41) (xS sC h5 xc_41_3) dX6_lead_36 ?_
          refine r_iload_n 1 C dX6_lead_39 rfl ?_
          refine r_iald C (kS sC h5 kc_43) (vin (by omega) (by omega)) dX6_lead_40 ?_
          generalize (wI w4 43 (a1).toNatClampNeg) = v17
          refine callVI C cwX6_79_V (ctX1_onward_28 _ _ w4 (sS sC h5) o6 v16 v17 ) (by decide) (kS sC h5 kc_28) rfl rfl rfl (Nat.le_of_ble_eq_true rfl) (by decide) dX6_lead_41 (fun r20 w19 y18 => ?_)
          show V x 0 0 w19 44 [(0, .ref (gz (xG x) + 41)), (1, .int a1), (2, .int u1)] [.int r20]
          obtain ⟨h21, o22⟩ := y18
          have h23 := Ch.tr h5 h21 (by decide) (by decide)
          refine r_istore_n [(3, .int r20), (0, .ref (gz (xG x) + 41)), (1, .int a1), (2, .int u1)] C dX6_lead_44 (by decide) rfl ?_
          refine r_aload_n 1 C dX6_lead_45 rfl ?_
          refine gfX6_9 42 C (kS sC h23 kc_41) (xS sC h23 xc_41_2) dX6_lead_46 ?_
          refine r_iload_n 2 C dX6_lead_49 rfl ?_
          refine r_iload_n 0 C dX6_lead_50 rfl ?_
          refine r_iconst (v := (-1)) C dX6_lead_51 (by decide) ?_
          refine r_icmp_ne 64 C dX6_lead_52 (by decide) (fun c24 => ?_) (fun c24 => ?_)
          · have c24' := i_ne c24
            refine r_iload_n 0 C dX6_lead_64 rfl ?_
            refine r_iast C (kS sC h23 kc_42) (vin (by omega) (by omega)) dX6_lead_65 (fun w25 e26 => ?_)
            have h27 := Ch.putS h23 e26 (by decide)
            have o28 := Inv.put0 o22 e26 (by decide)
            refine r_aload_n 1 C dX6_lead_66 rfl ?_
            refine gfX6_9 42 C (kS sC h27 kc_41) (xS sC h27 xc_41_2) dX6_lead_67 ?_
            refine r_iload_n 2 C dX6_lead_70 rfl ?_
            refine r_iald C (kS sC h27 kc_42) (vin (by omega) (by omega)) dX6_lead_71 ?_
            generalize (wI w25 42 (a1).toNatClampNeg) = v29
            refine r_aload_n 1 C dX6_lead_72 rfl ?_
            refine gfX6_15 43 C (kS sC h27 kc_41) (xS sC h27 xc_41_3) dX6_lead_73 ?_
            refine r_iload_n 2 C dX6_lead_76 rfl ?_
            refine r_iald C (kS sC h27 kc_43) (vin (by omega) (by omega)) dX6_lead_77 ?_
            generalize (wI w25 43 (a1).toNatClampNeg) = v30
            refine r_icmp_eq 89 C dX6_lead_78 (by decide) (fun c31 => ?_) (fun c31 => ?_)
            · have c31' := i_eq c31
              refine r_aload_n 1 C dX6_lead_89 rfl ?_
              refine gfX6_15 43 C (kS sC h27 kc_41) (xS sC h27 xc_41_3) dX6_lead_90 ?_
              refine r_iload_n 2 C dX6_lead_93 rfl ?_
              refine r_iconst (v := (-1)) C dX6_lead_94 (by decide) ?_
              refine r_iast C (kS sC h27 kc_43) (vin (by omega) (by omega)) dX6_lead_95 (fun w32 e33 => ?_)
              have h34 := Ch.putS h27 e33 (by decide)
              have o35 := Inv.put0 o28 e33 (by decide)
              obtain ⟨i36, e37⟩ : ∃ z : Int32, u1 + Int32.ofInt 1 = z := ⟨_, rfl⟩
              have i36' := iinc_ok e37 (by decide) (by omega) (by omega)
              refine r_iinc [(2, .int i36), (3, .int r20), (0, .ref (gz (xG x) + 41)), (1, .int a1)] 3 C dX6_lead_96 rfl e37 (by decide) rfl ?_
              refine r_goto 2 C dX6_lead_99 (by decide) ?_
              refine r_lv [2, 3, 0] rfl ?_
              exact ih9 i36 w32 h34 o35 (by omega) (by omega)
            · have c31' := i_ne c31
              refine r_aload_n 1 C dX6_lead_81 rfl ?_
              refine r_iload_n 2 C dX6_lead_82 rfl ?_
              refine callVI C cwX6_82_V (ctX6_fate_41 _ _ w25 (sS sC h27) o28 a1 ) (by decide) (kS sC h27 kc_41) rfl rfl rfl (Nat.le_of_ble_eq_true rfl) (by decide) dX6_lead_83 (fun r40 w39 y38 => ?_)
              show V x 0 0 w39 86 [(3, .int r20), (0, .ref (gz (xG x) + 41)), (1, .int a1), (2, .int u1)] [.int r40]
              obtain ⟨h41, o42⟩ := y38
              have h43 := Ch.tr h27 h41 (by decide) (by decide)
              refine r_if_eq 96 C dX6_lead_86 (by decide) (fun c44 => ?_) (fun c44 => ?_)
              · have c44' := i_eq c44
                obtain ⟨i45, e46⟩ : ∃ z : Int32, u1 + Int32.ofInt 1 = z := ⟨_, rfl⟩
                have i45' := iinc_ok e46 (by decide) (by omega) (by omega)
                refine r_iinc [(2, .int i45), (3, .int r20), (0, .ref (gz (xG x) + 41)), (1, .int a1)] 3 C dX6_lead_96 rfl e46 (by decide) rfl ?_
                refine r_goto 2 C dX6_lead_99 (by decide) ?_
                refine r_lv [2, 3, 0] rfl ?_
                exact ih9 i45 w39 h43 o42 (by omega) (by omega)
              · have c44' := i_ne c44
                refine r_aload_n 1 C dX6_lead_89 rfl ?_
                refine gfX6_15 43 C (kS sC h43 kc_41) (xS sC h43 xc_41_3) dX6_lead_90 ?_
                refine r_iload_n 2 C dX6_lead_93 rfl ?_
                refine r_iconst (v := (-1)) C dX6_lead_94 (by decide) ?_
                refine r_iast C (kS sC h43 kc_43) (vin (by omega) (by omega)) dX6_lead_95 (fun w47 e48 => ?_)
                have h49 := Ch.putS h43 e48 (by decide)
                have o50 := Inv.put0 o42 e48 (by decide)
                obtain ⟨i51, e52⟩ : ∃ z : Int32, u1 + Int32.ofInt 1 = z := ⟨_, rfl⟩
                have i51' := iinc_ok e52 (by decide) (by omega) (by omega)
                refine r_iinc [(2, .int i51), (3, .int r20), (0, .ref (gz (xG x) + 41)), (1, .int a1)] 3 C dX6_lead_96 rfl e52 (by decide) rfl ?_
                refine r_goto 2 C dX6_lead_99 (by decide) ?_
                refine r_lv [2, 3, 0] rfl ?_
                exact ih9 i51 w47 h49 o50 (by omega) (by omega)
          · have c24' := i_eq c24
            refine r_aload_n 1 C dX6_lead_55 rfl ?_
            refine gfX6_9 42 C (kS sC h23 kc_41) (xS sC h23 xc_41_2) dX6_lead_56 ?_
            refine r_iload_n 2 C dX6_lead_59 rfl ?_
            refine r_iald C (kS sC h23 kc_42) (vin (by omega) (by omega)) dX6_lead_60 ?_
            generalize (wI w19 42 (a1).toNatClampNeg) = v53
            refine r_goto 65 C dX6_lead_61 (by decide) ?_
            refine r_iast C (kS sC h23 kc_42) (vin (by omega) (by omega)) dX6_lead_65 (fun w54 e55 => ?_)
            have h56 := Ch.putS h23 e55 (by decide)
            have o57 := Inv.put0 o22 e55 (by decide)
            refine r_aload_n 1 C dX6_lead_66 rfl ?_
            refine gfX6_9 42 C (kS sC h56 kc_41) (xS sC h56 xc_41_2) dX6_lead_67 ?_
            refine r_iload_n 2 C dX6_lead_70 rfl ?_
            refine r_iald C (kS sC h56 kc_42) (vin (by omega) (by omega)) dX6_lead_71 ?_
            generalize (wI w54 42 (a1).toNatClampNeg) = v58
            refine r_aload_n 1 C dX6_lead_72 rfl ?_
            refine gfX6_15 43 C (kS sC h56 kc_41) (xS sC h56 xc_41_3) dX6_lead_73 ?_
            refine r_iload_n 2 C dX6_lead_76 rfl ?_
            refine r_iald C (kS sC h56 kc_43) (vin (by omega) (by omega)) dX6_lead_77 ?_
            generalize (wI w54 43 (a1).toNatClampNeg) = v59
            refine r_icmp_eq 89 C dX6_lead_78 (by decide) (fun c60 => ?_) (fun c60 => ?_)
            · have c60' := i_eq c60
              refine r_aload_n 1 C dX6_lead_89 rfl ?_
              refine gfX6_15 43 C (kS sC h56 kc_41) (xS sC h56 xc_41_3) dX6_lead_90 ?_
              refine r_iload_n 2 C dX6_lead_93 rfl ?_
              refine r_iconst (v := (-1)) C dX6_lead_94 (by decide) ?_
              refine r_iast C (kS sC h56 kc_43) (vin (by omega) (by omega)) dX6_lead_95 (fun w61 e62 => ?_)
              have h63 := Ch.putS h56 e62 (by decide)
              have o64 := Inv.put0 o57 e62 (by decide)
              obtain ⟨i65, e66⟩ : ∃ z : Int32, u1 + Int32.ofInt 1 = z := ⟨_, rfl⟩
              have i65' := iinc_ok e66 (by decide) (by omega) (by omega)
              refine r_iinc [(2, .int i65), (3, .int r20), (0, .ref (gz (xG x) + 41)), (1, .int a1)] 3 C dX6_lead_96 rfl e66 (by decide) rfl ?_
              refine r_goto 2 C dX6_lead_99 (by decide) ?_
              refine r_lv [2, 3, 0] rfl ?_
              exact ih9 i65 w61 h63 o64 (by omega) (by omega)
            · have c60' := i_ne c60
              refine r_aload_n 1 C dX6_lead_81 rfl ?_
              refine r_iload_n 2 C dX6_lead_82 rfl ?_
              refine callVI C cwX6_82_V (ctX6_fate_41 _ _ w54 (sS sC h56) o57 a1 ) (by decide) (kS sC h56 kc_41) rfl rfl rfl (Nat.le_of_ble_eq_true rfl) (by decide) dX6_lead_83 (fun r69 w68 y67 => ?_)
              show V x 0 0 w68 86 [(3, .int r20), (0, .ref (gz (xG x) + 41)), (1, .int a1), (2, .int u1)] [.int r69]
              obtain ⟨h70, o71⟩ := y67
              have h72 := Ch.tr h56 h70 (by decide) (by decide)
              refine r_if_eq 96 C dX6_lead_86 (by decide) (fun c73 => ?_) (fun c73 => ?_)
              · have c73' := i_eq c73
                obtain ⟨i74, e75⟩ : ∃ z : Int32, u1 + Int32.ofInt 1 = z := ⟨_, rfl⟩
                have i74' := iinc_ok e75 (by decide) (by omega) (by omega)
                refine r_iinc [(2, .int i74), (3, .int r20), (0, .ref (gz (xG x) + 41)), (1, .int a1)] 3 C dX6_lead_96 rfl e75 (by decide) rfl ?_
                refine r_goto 2 C dX6_lead_99 (by decide) ?_
                refine r_lv [2, 3, 0] rfl ?_
                exact ih9 i74 w68 h72 o71 (by omega) (by omega)
              · have c73' := i_ne c73
                refine r_aload_n 1 C dX6_lead_89 rfl ?_
                refine gfX6_15 43 C (kS sC h72 kc_41) (xS sC h72 xc_41_3) dX6_lead_90 ?_
                refine r_iload_n 2 C dX6_lead_93 rfl ?_
                refine r_iconst (v := (-1)) C dX6_lead_94 (by decide) ?_
                refine r_iast C (kS sC h72 kc_43) (vin (by omega) (by omega)) dX6_lead_95 (fun w76 e77 => ?_)
                have h78 := Ch.putS h72 e77 (by decide)
                have o79 := Inv.put0 o71 e77 (by decide)
                obtain ⟨i80, e81⟩ : ∃ z : Int32, u1 + Int32.ofInt 1 = z := ⟨_, rfl⟩
                have i80' := iinc_ok e81 (by decide) (by omega) (by omega)
                refine r_iinc [(2, .int i80), (3, .int r20), (0, .ref (gz (xG x) + 41)), (1, .int a1)] 3 C dX6_lead_96 rfl e81 (by decide) rfl ?_
                refine r_goto 2 C dX6_lead_99 (by decide) ?_
                refine r_lv [2, 3, 0] rfl ?_
                exact ih9 i80 w76 h78 o79 (by omega) (by omega)
  refine r_iconst (v := 0) C dX6_lead_0 (by decide) ?_
  refine r_istore_n [(2, .int 0), (0, .ref (gz (xG x) + 41)), (1, .int a1)] C dX6_lead_1 (by decide) rfl ?_
  refine r_lv [1, 2, 0] rfl ?_
  exact LP2 4294967296 0 w h0 o0 (by omega) (by omega)
set_option maxHeartbeats 4000000 in
set_option maxRecDepth 100000 in
theorem ctX6_hears_62 (l : Launch) (G : Gt) (w : Wv) (sC : Str KC XC w) (o0 : Inv RC w) (a1 : Int32) (a2 : Int32) : CtI l G yX6_hears cX6_hears 4 .boolean ({ frames := 2, cells := 0, slots := 0, locals := 50 } : Room) [.ref (gz G + 62), .int a1, .int a2] w (fun r w' => Ch [25, 26, 27] [] w w' ∧ Inv RC w' ∧ ((0 ≤ r.toInt ∧ r.toInt ≤ 1))) := by
  refine enterI (by decide) (Nat.le_of_ble_eq_true rfl) ?_
  intro x el eG C hret
  subst el; subst eG
  show V x 0 0 w 0 [(0, .ref (gz (xG x) + 62)), (1, .int a1), (2, .int a2)] []
  have h0 : Ch [25, 26, 27] [] w w := Ch.rf
  have qm1 : ((-1) : Int32).toInt = (-1) := by decide
  have q0 : (0 : Int32).toInt = 0 := by decide
  have q1 : (1 : Int32).toInt = 1 := by decide
  refine r_aload_n 0 C dX6_hears_0 rfl ?_
  refine gfX6_18 3 C (kS sC h0 kc_62) (xS sC h0 xc_62_4) dX6_hears_1 ?_
  refine r_iload_n 1 C dX6_hears_4 rfl ?_
  refine r_iload_n 2 C dX6_hears_5 rfl ?_
  refine callVI C cwX6_63_V (ctX9_isFollower_3 _ _ w (sS sC h0) o0 a1 a2 ) (by decide) (kS sC h0 kc_3) rfl rfl rfl (Nat.le_of_ble_eq_true rfl) (by decide) dX6_hears_6 (fun r3 w2 y1 => ?_)
  show V x 0 0 w2 9 [(0, .ref (gz (xG x) + 62)), (1, .int a1), (2, .int a2)] [.int r3]
  obtain ⟨h4, o5, g6⟩ := y1
  have h7 := Ch.tr h0 h4 (by decide) (by decide)
  refine r_if_eq 20 C dX6_hears_9 (by decide) (fun c8 => ?_) (fun c8 => ?_)
  · have c8' := i_eq c8
    refine r_iconst (v := 0) C dX6_hears_20 (by decide) ?_
    exact hret _ _ _ _ dX6_hears_21 (nar_z (z_of (by omega))) ⟨h7, o5, by omega⟩
  · have c8' := i_ne c8
    refine r_aload_n 0 C dX6_hears_12 rfl ?_
    refine r_iload_n 1 C dX6_hears_13 rfl ?_
    refine callVI C cwX6_66_V (ctX6_isHere_62 _ _ w2 (sS sC h7) o5 a1 ) (by decide) (kS sC h7 kc_62) rfl rfl rfl (Nat.le_of_ble_eq_true rfl) (by decide) dX6_hears_14 (fun r11 w10 y9 => ?_)
    show V x 0 0 w10 17 [(0, .ref (gz (xG x) + 62)), (1, .int a1), (2, .int a2)] [.int r11]
    obtain ⟨h12, o13, g14⟩ := y9
    have h15 := Ch.tr h7 h12 (by decide) (by decide)
    refine r_if_ne 22 C dX6_hears_17 (by decide) (fun c16 => ?_) (fun c16 => ?_)
    · have c16' := i_ne c16
      refine r_aload_n 0 C dX6_hears_22 rfl ?_
      refine gfX6_22 21 C (kS sC h15 kc_62) (xS sC h15 xc_62_5) dX6_hears_23 ?_
      refine r_aload_n 0 C dX6_hears_26 rfl ?_
      refine gfX6_9 63 C (kS sC h15 kc_62) (xS sC h15 xc_62_2) dX6_hears_27 ?_
      refine r_iload_n 1 C dX6_hears_30 rfl ?_
      refine r_iald C (kS sC h15 kc_63) (vin (by omega) (by omega)) dX6_hears_31 ?_
      generalize (wI w10 63 (a1).toNatClampNeg) = v17
      refine r_aload_n 0 C dX6_hears_32 rfl ?_
      refine gfX6_32 (v := (wI w 62 0)) C (kS sC h15 kc_62) (h12.I (by decide) (by decide) (h4.I (by decide) (by decide) rfl)) dX6_hears_33 ?_
      refine callVI C cwX6_70_V (ctX1_steps_21 _ _ w10 (sS sC h15) o13 v17 (wI w 62 0) ) (by decide) (kS sC h15 kc_21) rfl rfl rfl (Nat.le_of_ble_eq_true rfl) (by decide) dX6_hears_36 (fun r20 w19 y18 => ?_)
      show V x 0 0 w19 39 [(0, .ref (gz (xG x) + 62)), (1, .int a1), (2, .int a2)] [.int r20]
      obtain ⟨h21, o22⟩ := y18
      have h23 := Ch.tr h15 h21 (by decide) (by decide)
      refine r_istore_n [(3, .int r20), (0, .ref (gz (xG x) + 62)), (1, .int a1), (2, .int a2)] C dX6_hears_39 (by decide) rfl ?_
      refine r_iload_n 0 C dX6_hears_40 rfl ?_
      refine r_iconst (v := (-1)) C dX6_hears_41 (by decide) ?_
      refine r_icmp_eq 62 C dX6_hears_42 (by decide) (fun c24 => ?_) (fun c24 => ?_)
      · have c24' := i_eq c24
        refine r_iconst (v := 0) C dX6_hears_62 (by decide) ?_
        exact hret _ _ _ _ dX6_hears_63 (nar_z (z_of (by omega))) ⟨h23, o22, by omega⟩
      · have c24' := i_ne c24
        refine r_iload_n 0 C dX6_hears_45 rfl ?_
        refine r_aload_n 1 C dX6_hears_46 rfl ?_
        refine gfX6_18 3 C (kS sC h23 kc_62) (xS sC h23 xc_62_4) dX6_hears_47 ?_
        refine gfX6_73 11 C (kS sC h23 kc_3) (xS sC h23 xc_3_16) dX6_hears_50 ?_
        refine r_iload_n 3 C dX6_hears_53 rfl ?_
        refine r_iald C (kS sC h23 kc_11) (vin (by omega) (by omega)) dX6_hears_54 ?_
        generalize (wI w19 11 (a2).toNatClampNeg) = v25
        have k27 := i_rng r20
        have k28 := i_rng v25
        refine r_icmp_gt 62 C dX6_hears_55 (by decide) (fun c26 => ?_) (fun c26 => ?_)
        · have c26' := i_lt c26
          refine r_iconst (v := 0) C dX6_hears_62 (by decide) ?_
          exact hret _ _ _ _ dX6_hears_63 (nar_z (z_of (by omega))) ⟨h23, o22, by omega⟩
        · have c26' := i_nlt c26
          refine r_iconst (v := 1) C dX6_hears_58 (by decide) ?_
          refine r_goto 63 C dX6_hears_59 (by decide) ?_
          exact hret _ _ _ _ dX6_hears_63 (nar_z (z_of (by omega))) ⟨h23, o22, by omega⟩
    · have c16' := i_eq c16
      refine r_iconst (v := 0) C dX6_hears_20 (by decide) ?_
      exact hret _ _ _ _ dX6_hears_21 (nar_z (z_of (by omega))) ⟨h15, o13, by omega⟩
set_option maxHeartbeats 4000000 in
set_option maxRecDepth 100000 in
theorem ctX6_lead_62 (l : Launch) (G : Gt) (w : Wv) (sC : Str KC XC w) (o0 : Inv RC w) (a1 : Int32) (b1 : 0 ≤ a1.toInt ∧ a1.toInt ≤ 5) : CtV l G yX6_lead cX6_lead 4 ({ frames := 2, cells := 0, slots := 0, locals := 54 } : Room) [.ref (gz G + 62), .int a1] w (fun w' => Ch [25, 26, 27, 63, 64] [] w w' ∧ Inv RC w') := by
  refine enterV (by decide) (Nat.le_of_ble_eq_true rfl) ?_
  intro x el eG C hnm hret
  subst el; subst eG
  show V x 0 0 w 0 [(0, .ref (gz (xG x) + 62)), (1, .int a1)] []
  have h0 : Ch [25, 26, 27, 63, 64] [] w w := Ch.rf
  have qm1 : ((-1) : Int32).toInt = (-1) := by decide
  have q0 : (0 : Int32).toInt = 0 := by decide
  have LP2 : ∀ (f3 : Nat) (u1 : Int32) (w4 : Wv), Ch [25, 26, 27, 63, 64] [] w w4 → Inv RC w4 → (0 ≤ u1.toInt ∧ u1.toInt ≤ 2147483647) → 2147483647 - u1.toInt < f3 → V x 0 0 w4 2 [(0, .ref (gz (xG x) + 62)), (1, .int a1), (2, .int u1)] [] := by
    intro f3
    induction f3 with
    | zero => intro u1 w4 h5 o6 z7 z8; exfalso; omega
    | succ f3 ih9 =>
      intro u1 w4 h5 o6 z7 z8
      refine r_iload_n 2 C dX6_lead_2 rfl ?_
      refine r_aload_n 0 C dX6_lead_3 rfl ?_
      refine gfX6_18 3 C (kS sC h5 kc_62) (xS sC h5 xc_62_4) dX6_lead_4 ?_
      refine gfX6_76 8 C (kS sC h5 kc_3) (xS sC h5 xc_3_13) dX6_lead_7 ?_
      refine r_iload_n 1 C dX6_lead_10 rfl ?_
      refine r_iald C (kS sC h5 kc_8) (vin (by omega) (by omega)) dX6_lead_11 ?_
      generalize (wI w4 8 (a1).toNatClampNeg) = v10
      have k12 := i_rng u1
      have k13 := i_rng v10
      refine r_icmp_ge 102 C dX6_lead_12 (by decide) (fun c11 => ?_) (fun c11 => ?_)
      · have c11' := i_le c11
        exact hret _ _ _ dX6_lead_102 ⟨h5, o6⟩
      · have c11' := i_nle c11
        refine r_aload_n 0 C dX6_lead_15 rfl ?_
        refine gfX6_15 64 C (kS sC h5 kc_62) (xS sC h5 xc_62_3) dX6_lead_16 ?_
        refine r_iload_n 1 C dX6_lead_19 rfl ?_
        refine r_iald C (kS sC h5 kc_64) (vin (by omega) (by omega)) dX6_lead_20 ?_
        generalize (wI w4 64 (a1).toNatClampNeg) = v14
        refine r_iconst (v := (-1)) C dX6_lead_21 (by decide) ?_
        refine r_icmp_eq 102 C dX6_lead_22 (by decide) (fun c15 => ?_) (fun c15 => ?_)
        · have c15' := i_eq c15
          exact hret _ _ _ dX6_lead_102 ⟨h5, o6⟩
        · have c15' := i_ne c15
          refine r_aload_n 0 C dX6_lead_25 rfl ?_
          refine gfX6_22 21 C (kS sC h5 kc_62) (xS sC h5 xc_62_5) dX6_lead_26 ?_
          refine r_aload_n 0 C dX6_lead_29 rfl ?_
          refine gfX6_9 63 C (kS sC h5 kc_62) (xS sC h5 xc_62_2) dX6_lead_30 ?_
          refine r_iload_n 1 C dX6_lead_33 rfl ?_
          refine r_iald C (kS sC h5 kc_63) (vin (by omega) (by omega)) dX6_lead_34 ?_
          generalize (wI w4 63 (a1).toNatClampNeg) = v16
          refine r_aload_n 0 C dX6_lead_35 rfl ?_
          refine gfX6_15 64 C (kS sC h5 kc_62) (xS sC h5 xc_62_3) dX6_lead_36 ?_
          refine r_iload_n 1 C dX6_lead_39 rfl ?_
          refine r_iald C (kS sC h5 kc_64) (vin (by omega) (by omega)) dX6_lead_40 ?_
          generalize (wI w4 64 (a1).toNatClampNeg) = v17
          refine callVI C cwX6_79_V (ctX1_onward_21 _ _ w4 (sS sC h5) o6 v16 v17 ) (by decide) (kS sC h5 kc_21) rfl rfl rfl (Nat.le_of_ble_eq_true rfl) (by decide) dX6_lead_41 (fun r20 w19 y18 => ?_)
          show V x 0 0 w19 44 [(0, .ref (gz (xG x) + 62)), (1, .int a1), (2, .int u1)] [.int r20]
          obtain ⟨h21, o22⟩ := y18
          have h23 := Ch.tr h5 h21 (by decide) (by decide)
          refine r_istore_n [(3, .int r20), (0, .ref (gz (xG x) + 62)), (1, .int a1), (2, .int u1)] C dX6_lead_44 (by decide) rfl ?_
          refine r_aload_n 1 C dX6_lead_45 rfl ?_
          refine gfX6_9 63 C (kS sC h23 kc_62) (xS sC h23 xc_62_2) dX6_lead_46 ?_
          refine r_iload_n 2 C dX6_lead_49 rfl ?_
          refine r_iload_n 0 C dX6_lead_50 rfl ?_
          refine r_iconst (v := (-1)) C dX6_lead_51 (by decide) ?_
          refine r_icmp_ne 64 C dX6_lead_52 (by decide) (fun c24 => ?_) (fun c24 => ?_)
          · have c24' := i_ne c24
            refine r_iload_n 0 C dX6_lead_64 rfl ?_
            refine r_iast C (kS sC h23 kc_63) (vin (by omega) (by omega)) dX6_lead_65 (fun w25 e26 => ?_)
            have h27 := Ch.putS h23 e26 (by decide)
            have o28 := Inv.put0 o22 e26 (by decide)
            refine r_aload_n 1 C dX6_lead_66 rfl ?_
            refine gfX6_9 63 C (kS sC h27 kc_62) (xS sC h27 xc_62_2) dX6_lead_67 ?_
            refine r_iload_n 2 C dX6_lead_70 rfl ?_
            refine r_iald C (kS sC h27 kc_63) (vin (by omega) (by omega)) dX6_lead_71 ?_
            generalize (wI w25 63 (a1).toNatClampNeg) = v29
            refine r_aload_n 1 C dX6_lead_72 rfl ?_
            refine gfX6_15 64 C (kS sC h27 kc_62) (xS sC h27 xc_62_3) dX6_lead_73 ?_
            refine r_iload_n 2 C dX6_lead_76 rfl ?_
            refine r_iald C (kS sC h27 kc_64) (vin (by omega) (by omega)) dX6_lead_77 ?_
            generalize (wI w25 64 (a1).toNatClampNeg) = v30
            refine r_icmp_eq 89 C dX6_lead_78 (by decide) (fun c31 => ?_) (fun c31 => ?_)
            · have c31' := i_eq c31
              refine r_aload_n 1 C dX6_lead_89 rfl ?_
              refine gfX6_15 64 C (kS sC h27 kc_62) (xS sC h27 xc_62_3) dX6_lead_90 ?_
              refine r_iload_n 2 C dX6_lead_93 rfl ?_
              refine r_iconst (v := (-1)) C dX6_lead_94 (by decide) ?_
              refine r_iast C (kS sC h27 kc_64) (vin (by omega) (by omega)) dX6_lead_95 (fun w32 e33 => ?_)
              have h34 := Ch.putS h27 e33 (by decide)
              have o35 := Inv.put0 o28 e33 (by decide)
              obtain ⟨i36, e37⟩ : ∃ z : Int32, u1 + Int32.ofInt 1 = z := ⟨_, rfl⟩
              have i36' := iinc_ok e37 (by decide) (by omega) (by omega)
              refine r_iinc [(2, .int i36), (3, .int r20), (0, .ref (gz (xG x) + 62)), (1, .int a1)] 3 C dX6_lead_96 rfl e37 (by decide) rfl ?_
              refine r_goto 2 C dX6_lead_99 (by decide) ?_
              refine r_lv [2, 3, 0] rfl ?_
              exact ih9 i36 w32 h34 o35 (by omega) (by omega)
            · have c31' := i_ne c31
              refine r_aload_n 1 C dX6_lead_81 rfl ?_
              refine r_iload_n 2 C dX6_lead_82 rfl ?_
              refine callVI C cwX6_82_V (ctX6_fate_62 _ _ w25 (sS sC h27) o28 a1 ) (by decide) (kS sC h27 kc_62) rfl rfl rfl (Nat.le_of_ble_eq_true rfl) (by decide) dX6_lead_83 (fun r40 w39 y38 => ?_)
              show V x 0 0 w39 86 [(3, .int r20), (0, .ref (gz (xG x) + 62)), (1, .int a1), (2, .int u1)] [.int r40]
              obtain ⟨h41, o42⟩ := y38
              have h43 := Ch.tr h27 h41 (by decide) (by decide)
              refine r_if_eq 96 C dX6_lead_86 (by decide) (fun c44 => ?_) (fun c44 => ?_)
              · have c44' := i_eq c44
                obtain ⟨i45, e46⟩ : ∃ z : Int32, u1 + Int32.ofInt 1 = z := ⟨_, rfl⟩
                have i45' := iinc_ok e46 (by decide) (by omega) (by omega)
                refine r_iinc [(2, .int i45), (3, .int r20), (0, .ref (gz (xG x) + 62)), (1, .int a1)] 3 C dX6_lead_96 rfl e46 (by decide) rfl ?_
                refine r_goto 2 C dX6_lead_99 (by decide) ?_
                refine r_lv [2, 3, 0] rfl ?_
                exact ih9 i45 w39 h43 o42 (by omega) (by omega)
              · have c44' := i_ne c44
                refine r_aload_n 1 C dX6_lead_89 rfl ?_
                refine gfX6_15 64 C (kS sC h43 kc_62) (xS sC h43 xc_62_3) dX6_lead_90 ?_
                refine r_iload_n 2 C dX6_lead_93 rfl ?_
                refine r_iconst (v := (-1)) C dX6_lead_94 (by decide) ?_
                refine r_iast C (kS sC h43 kc_64) (vin (by omega) (by omega)) dX6_lead_95 (fun w47 e48 => ?_)
                have h49 := Ch.putS h43 e48 (by decide)
                have o50 := Inv.put0 o42 e48 (by decide)
                obtain ⟨i51, e52⟩ : ∃ z : Int32, u1 + Int32.ofInt 1 = z := ⟨_, rfl⟩
                have i51' := iinc_ok e52 (by decide) (by omega) (by omega)
                refine r_iinc [(2, .int i51), (3, .int r20), (0, .ref (gz (xG x) + 62)), (1, .int a1)] 3 C dX6_lead_96 rfl e52 (by decide) rfl ?_
                refine r_goto 2 C dX6_lead_99 (by decide) ?_
                refine r_lv [2, 3, 0] rfl ?_
                exact ih9 i51 w47 h49 o50 (by omega) (by omega)
          · have c24' := i_eq c24
            refine r_aload_n 1 C dX6_lead_55 rfl ?_
            refine gfX6_9 63 C (kS sC h23 kc_62) (xS sC h23 xc_62_2) dX6_lead_56 ?_
            refine r_iload_n 2 C dX6_lead_59 rfl ?_
            refine r_iald C (kS sC h23 kc_63) (vin (by omega) (by omega)) dX6_lead_60 ?_
            generalize (wI w19 63 (a1).toNatClampNeg) = v53
            refine r_goto 65 C dX6_lead_61 (by decide) ?_
            refine r_iast C (kS sC h23 kc_63) (vin (by omega) (by omega)) dX6_lead_65 (fun w54 e55 => ?_)
            have h56 := Ch.putS h23 e55 (by decide)
            have o57 := Inv.put0 o22 e55 (by decide)
            refine r_aload_n 1 C dX6_lead_66 rfl ?_
            refine gfX6_9 63 C (kS sC h56 kc_62) (xS sC h56 xc_62_2) dX6_lead_67 ?_
            refine r_iload_n 2 C dX6_lead_70 rfl ?_
            refine r_iald C (kS sC h56 kc_63) (vin (by omega) (by omega)) dX6_lead_71 ?_
            generalize (wI w54 63 (a1).toNatClampNeg) = v58
            refine r_aload_n 1 C dX6_lead_72 rfl ?_
            refine gfX6_15 64 C (kS sC h56 kc_62) (xS sC h56 xc_62_3) dX6_lead_73 ?_
            refine r_iload_n 2 C dX6_lead_76 rfl ?_
            refine r_iald C (kS sC h56 kc_64) (vin (by omega) (by omega)) dX6_lead_77 ?_
            generalize (wI w54 64 (a1).toNatClampNeg) = v59
            refine r_icmp_eq 89 C dX6_lead_78 (by decide) (fun c60 => ?_) (fun c60 => ?_)
            · have c60' := i_eq c60
              refine r_aload_n 1 C dX6_lead_89 rfl ?_
              refine gfX6_15 64 C (kS sC h56 kc_62) (xS sC h56 xc_62_3) dX6_lead_90 ?_
              refine r_iload_n 2 C dX6_lead_93 rfl ?_
              refine r_iconst (v := (-1)) C dX6_lead_94 (by decide) ?_
              refine r_iast C (kS sC h56 kc_64) (vin (by omega) (by omega)) dX6_lead_95 (fun w61 e62 => ?_)
              have h63 := Ch.putS h56 e62 (by decide)
              have o64 := Inv.put0 o57 e62 (by decide)
              obtain ⟨i65, e66⟩ : ∃ z : Int32, u1 + Int32.ofInt 1 = z := ⟨_, rfl⟩
              have i65' := iinc_ok e66 (by decide) (by omega) (by omega)
              refine r_iinc [(2, .int i65), (3, .int r20), (0, .ref (gz (xG x) + 62)), (1, .int a1)] 3 C dX6_lead_96 rfl e66 (by decide) rfl ?_
              refine r_goto 2 C dX6_lead_99 (by decide) ?_
              refine r_lv [2, 3, 0] rfl ?_
              exact ih9 i65 w61 h63 o64 (by omega) (by omega)
            · have c60' := i_ne c60
              refine r_aload_n 1 C dX6_lead_81 rfl ?_
              refine r_iload_n 2 C dX6_lead_82 rfl ?_
              refine callVI C cwX6_82_V (ctX6_fate_62 _ _ w54 (sS sC h56) o57 a1 ) (by decide) (kS sC h56 kc_62) rfl rfl rfl (Nat.le_of_ble_eq_true rfl) (by decide) dX6_lead_83 (fun r69 w68 y67 => ?_)
              show V x 0 0 w68 86 [(3, .int r20), (0, .ref (gz (xG x) + 62)), (1, .int a1), (2, .int u1)] [.int r69]
              obtain ⟨h70, o71⟩ := y67
              have h72 := Ch.tr h56 h70 (by decide) (by decide)
              refine r_if_eq 96 C dX6_lead_86 (by decide) (fun c73 => ?_) (fun c73 => ?_)
              · have c73' := i_eq c73
                obtain ⟨i74, e75⟩ : ∃ z : Int32, u1 + Int32.ofInt 1 = z := ⟨_, rfl⟩
                have i74' := iinc_ok e75 (by decide) (by omega) (by omega)
                refine r_iinc [(2, .int i74), (3, .int r20), (0, .ref (gz (xG x) + 62)), (1, .int a1)] 3 C dX6_lead_96 rfl e75 (by decide) rfl ?_
                refine r_goto 2 C dX6_lead_99 (by decide) ?_
                refine r_lv [2, 3, 0] rfl ?_
                exact ih9 i74 w68 h72 o71 (by omega) (by omega)
              · have c73' := i_ne c73
                refine r_aload_n 1 C dX6_lead_89 rfl ?_
                refine gfX6_15 64 C (kS sC h72 kc_62) (xS sC h72 xc_62_3) dX6_lead_90 ?_
                refine r_iload_n 2 C dX6_lead_93 rfl ?_
                refine r_iconst (v := (-1)) C dX6_lead_94 (by decide) ?_
                refine r_iast C (kS sC h72 kc_64) (vin (by omega) (by omega)) dX6_lead_95 (fun w76 e77 => ?_)
                have h78 := Ch.putS h72 e77 (by decide)
                have o79 := Inv.put0 o71 e77 (by decide)
                obtain ⟨i80, e81⟩ : ∃ z : Int32, u1 + Int32.ofInt 1 = z := ⟨_, rfl⟩
                have i80' := iinc_ok e81 (by decide) (by omega) (by omega)
                refine r_iinc [(2, .int i80), (3, .int r20), (0, .ref (gz (xG x) + 62)), (1, .int a1)] 3 C dX6_lead_96 rfl e81 (by decide) rfl ?_
                refine r_goto 2 C dX6_lead_99 (by decide) ?_
                refine r_lv [2, 3, 0] rfl ?_
                exact ih9 i80 w76 h78 o79 (by omega) (by omega)
  refine r_iconst (v := 0) C dX6_lead_0 (by decide) ?_
  refine r_istore_n [(2, .int 0), (0, .ref (gz (xG x) + 62)), (1, .int a1)] C dX6_lead_1 (by decide) rfl ?_
  refine r_lv [1, 2, 0] rfl ?_
  exact LP2 4294967296 0 w h0 o0 (by omega) (by omega)
