set_option maxHeartbeats 4000000 in
set_option maxRecDepth 100000 in
theorem ctX5_readCell_1_12 (l : Launch) (G : Gt) (w : Wv) (sC : Str KC XC w) (o0 : Inv RC w)  : CtI l G yX5_readCell cX5_readCell 4 .int ({ frames := 2, cells := 0, slots := 0, locals := 45 } : Room) [.ref (gz G + 1), .ref (gz G + 12)] w (fun r w' => Ch [] [(1, 1), (1, 2), (1, 4), (1, 5)] w w' ∧ Inv RC w') := by
  refine enterI (by decide) (Nat.le_of_ble_eq_true rfl) ?_
  intro x el eG C hret
  subst el; subst eG
  show V x 0 0 w 0 [(0, .ref (gz (xG x) + 1)), (1, .ref (gz (xG x) + 12))] []
  have h0 : Ch [] [(1, 1), (1, 2), (1, 4), (1, 5)] w w := Ch.rf
  have qm1 : ((-1) : Int32).toInt = (-1) := by decide
  have q0 : (0 : Int32).toInt = 0 := by decide
  have q1 : (1 : Int32).toInt = 1 := by decide
  refine r_aload_n 0 C dX5_readCell_0 rfl ?_
  refine r_iconst (v := 0) C dX5_readCell_1 (by decide) ?_
  refine r_aload_n 1 C dX5_readCell_2 rfl ?_
  refine gfX5_40 (v := (wI w 12 0)) C (kS sC h0 kc_12) rfl dX5_readCell_3 ?_
  have b1 := Inv.get o0 rt_12_0 (j := 0) (by decide) (by decide)
  refine r_iconst (v := 1) C dX5_readCell_6 (by decide) ?_
  refine r_isub C dX5_readCell_7 (fun v2 e3 => ?_)
  have v2' := isub_ok e3 (by omega) (by omega)
  refine callVI C cwX5_96_V (ctX5_readNumber_1 _ _ w (sS sC h0) o0 0 v2 ) (by decide) (kS sC h0 kc_1) rfl rfl rfl (Nat.le_of_ble_eq_true rfl) (by decide) dX5_readCell_8 (fun r6 w5 y4 => ?_)
  show V x 0 0 w5 11 [(0, .ref (gz (xG x) + 1)), (1, .ref (gz (xG x) + 12))] [.int r6]
  obtain ⟨h7, o8, g9⟩ := y4
  have h10 := Ch.tr h0 h7 (by decide) (by decide)
  refine r_istore_n [(2, .int r6), (0, .ref (gz (xG x) + 1)), (1, .ref (gz (xG x) + 12))] C dX5_readCell_11 (by decide) rfl ?_
  refine r_aload_n 1 C dX5_readCell_12 rfl ?_
  refine r_iconst (v := 0) C dX5_readCell_13 (by decide) ?_
  refine r_aload_n 2 C dX5_readCell_14 rfl ?_
  refine gfX5_105 (v := (wI w 12 1)) C (kS sC h10 kc_12) (h7.I (by decide) (by decide) rfl) dX5_readCell_15 ?_
  have b11 := Inv.get o0 rt_12_1 (j := 1) (by decide) (by decide)
  refine r_iconst (v := 1) C dX5_readCell_18 (by decide) ?_
  refine r_isub C dX5_readCell_19 (fun v12 e13 => ?_)
  have v12' := isub_ok e13 (by omega) (by omega)
  refine callVI C cwX5_96_V (ctX5_readNumber_1 _ _ w5 (sS sC h10) o8 0 v12 ) (by decide) (kS sC h10 kc_1) rfl rfl rfl (Nat.le_of_ble_eq_true rfl) (by decide) dX5_readCell_20 (fun r16 w15 y14 => ?_)
  show V x 0 0 w15 23 [(2, .int r6), (0, .ref (gz (xG x) + 1)), (1, .ref (gz (xG x) + 12))] [.int r16]
  obtain ⟨h17, o18, g19⟩ := y14
  have h20 := Ch.tr h10 h17 (by decide) (by decide)
  refine r_istore_n [(3, .int r16), (2, .int r6), (0, .ref (gz (xG x) + 1)), (1, .ref (gz (xG x) + 12))] C dX5_readCell_23 (by decide) rfl ?_
  refine r_aload_n 2 C dX5_readCell_24 rfl ?_
  refine gfX5_30 (v := (wI w15 1 1)) C (kS sC h20 kc_1) rfl dX5_readCell_25 ?_
  refine r_if_ne 42 C dX5_readCell_28 (by decide) (fun c21 => ?_) (fun c21 => ?_)
  · have c21' := i_ne c21
    refine r_iconst (v := (-1)) C dX5_readCell_42 (by decide) ?_
    exact hret _ _ _ _ dX5_readCell_43 rfl ⟨h20, o18⟩
  · have c21' := i_eq c21
    refine r_iload_n 0 C dX5_readCell_31 rfl ?_
    refine r_aload_n 3 C dX5_readCell_32 rfl ?_
    refine gfX5_40 (v := (wI w 12 0)) C (kS sC h20 kc_12) (h17.I (by decide) (by decide) (h7.I (by decide) (by decide) rfl)) dX5_readCell_33 ?_
    refine r_imul C dX5_readCell_36 (fun v22 e23 => ?_)
    have v22' := imul_rng e23 (A := 8) (B := 9) (by omega) (by omega) (by decide)
    refine r_iload_n 1 C dX5_readCell_37 rfl ?_
    refine r_iadd C dX5_readCell_38 (fun v24 e25 => ?_)
    have v24' := iadd_ok e25 (by omega) (by omega)
    refine r_goto 43 C dX5_readCell_39 (by decide) ?_
    exact hret _ _ _ _ dX5_readCell_43 rfl ⟨h20, o18⟩
set_option maxHeartbeats 4000000 in
set_option maxRecDepth 100000 in
theorem ctX5_blameIfSpot_1_12 (l : Launch) (G : Gt) (w : Wv) (sC : Str KC XC w) (o0 : Inv RC w) (a2 : Int32) : CtV l G yX5_blameIfSpot cX5_blameIfSpot 3 ({ frames := 2, cells := 0, slots := 0, locals := 41 } : Room) [.ref (gz G + 1), .ref (gz G + 12), .int a2] w (fun w' => Ch [] [(1, 1), (1, 2)] w w' ∧ Inv RC w') := by
  refine enterV (by decide) (Nat.le_of_ble_eq_true rfl) ?_
  intro x el eG C hnm hret
  subst el; subst eG
  show V x 0 0 w 0 [(0, .ref (gz (xG x) + 1)), (1, .ref (gz (xG x) + 12)), (2, .int a2)] []
  have h0 : Ch [] [(1, 1), (1, 2)] w w := Ch.rf
  have q0 : (0 : Int32).toInt = 0 := by decide
  have q4 : (4 : Int32).toInt = 4 := by decide
  refine r_aload_n 1 C dX5_blameIfSpot_0 rfl ?_
  refine r_iload_n 2 C dX5_blameIfSpot_1 rfl ?_
  refine callVI C cwX5_138_V (ctX9_isSpot_12 _ _ w (sS sC h0) o0 a2 ) (by decide) (kS sC h0 kc_12) rfl rfl rfl (Nat.le_of_ble_eq_true rfl) (by decide) dX5_blameIfSpot_2 (fun r3 w2 y1 => ?_)
  show V x 0 0 w2 5 [(0, .ref (gz (xG x) + 1)), (1, .ref (gz (xG x) + 12)), (2, .int a2)] [.int r3]
  obtain ⟨h4, o5, g6⟩ := y1
  have h7 := Ch.tr h0 h4 (by decide) (by decide)
  refine r_if_eq 17 C dX5_blameIfSpot_5 (by decide) (fun c8 => ?_) (fun c8 => ?_)
  · have c8' := i_eq c8
    exact hret _ _ _ dX5_blameIfSpot_17 ⟨h7, o5⟩
  · have c8' := i_ne c8
    refine r_aload_n 0 C dX5_blameIfSpot_8 rfl ?_
    refine r_iconst (v := 4) C dX5_blameIfSpot_9 (by decide) ?_
    refine r_aload_n 0 C dX5_blameIfSpot_10 rfl ?_
    refine gfX5_116 (v := (wI w 1 5)) C (kS sC h7 kc_1) (h4.I (by decide) (by decide) rfl) dX5_blameIfSpot_11 ?_
    refine callVV C cwX5_43_V (ctX5_blame_1 _ _ w2 (sS sC h7) o5 4 (wI w 1 5) (by omega)) (by decide) (kS sC h7 kc_1) rfl rfl rfl (Nat.le_of_ble_eq_true rfl) (by decide) dX5_blameIfSpot_14 (fun w10 y9 => ?_)
    show V x 0 0 w10 17 [(0, .ref (gz (xG x) + 1)), (1, .ref (gz (xG x) + 12)), (2, .int a2)] []
    obtain ⟨h12, o13, f14⟩ := y9
    have h15 := Ch.tr h7 h12 (by decide) (by decide)
    exact hret _ _ _ dX5_blameIfSpot_17 ⟨h15, o13⟩
set_option maxHeartbeats 4000000 in
set_option maxRecDepth 100000 in
theorem ctX5_isTooMany_12 (l : Launch) (G : Gt) (w : Wv) (sC : Str KC XC w) (o0 : Inv RC w) (a2 : Int32) : CtI l G yX5_isTooMany cX5_isTooMany 2 .boolean ({ frames := 0, cells := 0, slots := 0, locals := 0 } : Room) [.ref (gz G + 12), .int a2] w (fun r w' => Ch [] [] w w' ∧ Inv RC w' ∧ ((0 ≤ r.toInt ∧ r.toInt ≤ 1))) := by
  refine enterI (by decide) (Nat.le_of_ble_eq_true rfl) ?_
  intro x el eG C hret
  subst el; subst eG
  show V x 0 0 w 0 [(0, .ref (gz (xG x) + 12)), (1, .int a2)] []
  have h0 : Ch [] [] w w := Ch.rf
  have qm1 : ((-1) : Int32).toInt = (-1) := by decide
  have q0 : (0 : Int32).toInt = 0 := by decide
  have q1 : (1 : Int32).toInt = 1 := by decide
  have q3 : (3 : Int32).toInt = 3 := by decide
  have q6 : (6 : Int32).toInt = 6 := by decide
  have q30 : (30 : Int32).toInt = 30 := by decide
  refine r_iload_n 1 C dX5_isTooMany_0 rfl ?_
  by_cases c1 : (a2 : Int32).toInt < 4 ∨ 8 < (a2 : Int32).toInt
  · refine r_tabOut 97 C dX5_isTooMany_1 c1 (by decide) ?_
    refine r_aload_n 0 C dX5_isTooMany_97 rfl ?_
    refine gfX5_93 (v := (wI w 12 2)) C (kS sC h0 kc_12) rfl dX5_isTooMany_98 ?_
    refine r_bipush (v := 30) C dX5_isTooMany_101 (by decide) ?_
    have k3 := i_rng (wI w 12 2)
    refine r_icmp_lt 110 C dX5_isTooMany_103 (by decide) (fun c2 => ?_) (fun c2 => ?_)
    · have c2' := i_lt c2
      refine r_iconst (v := 0) C dX5_isTooMany_110 (by decide) ?_
      exact hret _ _ _ _ dX5_isTooMany_111 (nar_z (z_of (by omega))) ⟨h0, o0, by omega⟩
    · have c2' := i_nlt c2
      refine r_iconst (v := 1) C dX5_isTooMany_106 (by decide) ?_
      refine r_goto 111 C dX5_isTooMany_107 (by decide) ?_
      exact hret _ _ _ _ dX5_isTooMany_111 (nar_z (z_of (by omega))) ⟨h0, o0, by omega⟩
  · rcases (show (a2 : Int32).toInt = 4 ∨ (a2 : Int32).toInt = 5 ∨ (a2 : Int32).toInt = 6 ∨ (a2 : Int32).toInt = 7 ∨ (a2 : Int32).toInt = 8 by omega) with c1 | c1 | c1 | c1 | c1
    · refine r_tabIn 36 C dX5_isTooMany_1 (by omega) (by omega) (by rw [c1]; rfl) (by decide) ?_
      refine r_aload_n 0 C dX5_isTooMany_36 rfl ?_
      refine gfX5_40 (v := (wI w 12 0)) C (kS sC h0 kc_12) rfl dX5_isTooMany_37 ?_
      have b4 := Inv.get o0 rt_12_0 (j := 0) (by decide) (by decide)
      refine r_if_le 47 C dX5_isTooMany_40 (by decide) (fun c5 => ?_) (fun c5 => ?_)
      · have c5' := i_le c5
        refine r_iconst (v := 0) C dX5_isTooMany_47 (by decide) ?_
        exact hret _ _ _ _ dX5_isTooMany_48 (nar_z (z_of (by omega))) ⟨h0, o0, by omega⟩
      · have c5' := i_nle c5
        refine r_iconst (v := 1) C dX5_isTooMany_43 (by decide) ?_
        refine r_goto 48 C dX5_isTooMany_44 (by decide) ?_
        exact hret _ _ _ _ dX5_isTooMany_48 (nar_z (z_of (by omega))) ⟨h0, o0, by omega⟩
    · refine r_tabIn 49 C dX5_isTooMany_1 (by omega) (by omega) (by rw [c1]; rfl) (by decide) ?_
      refine r_aload_n 0 C dX5_isTooMany_49 rfl ?_
      refine gfX5_80 (v := (wI w 12 3)) C (kS sC h0 kc_12) rfl dX5_isTooMany_50 ?_
      have b6 := Inv.get o0 rt_12_3 (j := 3) (by decide) (by decide)
      refine r_bipush (v := 6) C dX5_isTooMany_53 (by decide) ?_
      refine r_icmp_lt 62 C dX5_isTooMany_55 (by decide) (fun c7 => ?_) (fun c7 => ?_)
      · have c7' := i_lt c7
        refine r_iconst (v := 0) C dX5_isTooMany_62 (by decide) ?_
        exact hret _ _ _ _ dX5_isTooMany_63 (nar_z (z_of (by omega))) ⟨h0, o0, by omega⟩
      · have c7' := i_nlt c7
        refine r_iconst (v := 1) C dX5_isTooMany_58 (by decide) ?_
        refine r_goto 63 C dX5_isTooMany_59 (by decide) ?_
        exact hret _ _ _ _ dX5_isTooMany_63 (nar_z (z_of (by omega))) ⟨h0, o0, by omega⟩
    · refine r_tabIn 64 C dX5_isTooMany_1 (by omega) (by omega) (by rw [c1]; rfl) (by decide) ?_
      refine r_aload_n 0 C dX5_isTooMany_64 rfl ?_
      refine gfX5_83 (v := (wI w 12 4)) C (kS sC h0 kc_12) rfl dX5_isTooMany_65 ?_
      have b8 := Inv.get o0 rt_12_4 (j := 4) (by decide) (by decide)
      refine r_iconst (v := 3) C dX5_isTooMany_68 (by decide) ?_
      refine r_icmp_lt 76 C dX5_isTooMany_69 (by decide) (fun c9 => ?_) (fun c9 => ?_)
      · have c9' := i_lt c9
        refine r_iconst (v := 0) C dX5_isTooMany_76 (by decide) ?_
        exact hret _ _ _ _ dX5_isTooMany_77 (nar_z (z_of (by omega))) ⟨h0, o0, by omega⟩
      · have c9' := i_nlt c9
        refine r_iconst (v := 1) C dX5_isTooMany_72 (by decide) ?_
        refine r_goto 77 C dX5_isTooMany_73 (by decide) ?_
        exact hret _ _ _ _ dX5_isTooMany_77 (nar_z (z_of (by omega))) ⟨h0, o0, by omega⟩
    · refine r_tabIn 78 C dX5_isTooMany_1 (by omega) (by omega) (by rw [c1]; rfl) (by decide) ?_
      refine r_aload_n 0 C dX5_isTooMany_78 rfl ?_
      refine gfX5_86 (v := (wI w 12 5)) C (kS sC h0 kc_12) rfl dX5_isTooMany_79 ?_
      refine r_iconst (v := (-1)) C dX5_isTooMany_82 (by decide) ?_
      refine r_icmp_eq 90 C dX5_isTooMany_83 (by decide) (fun c10 => ?_) (fun c10 => ?_)
      · have c10' := i_eq c10
        refine r_iconst (v := 0) C dX5_isTooMany_90 (by decide) ?_
        exact hret _ _ _ _ dX5_isTooMany_91 (nar_z (z_of (by omega))) ⟨h0, o0, by omega⟩
      · have c10' := i_ne c10
        refine r_iconst (v := 1) C dX5_isTooMany_86 (by decide) ?_
        refine r_goto 91 C dX5_isTooMany_87 (by decide) ?_
        exact hret _ _ _ _ dX5_isTooMany_91 (nar_z (z_of (by omega))) ⟨h0, o0, by omega⟩
    · refine r_tabIn 92 C dX5_isTooMany_1 (by omega) (by omega) (by rw [c1]; rfl) (by decide) ?_
      refine r_aload_n 0 C dX5_isTooMany_92 rfl ?_
      refine gfX5_89 (v := (wI w 12 6)) C (kS sC h0 kc_12) rfl dX5_isTooMany_93 ?_
      have b11 := Inv.get o0 rt_12_6 (j := 6) (by decide) (by decide)
      exact hret _ _ _ _ dX5_isTooMany_96 (nar_z (z_of (by omega))) ⟨h0, o0, by omega⟩
set_option maxHeartbeats 4000000 in
set_option maxRecDepth 100000 in
theorem ctX5_readSize_1_12 (l : Launch) (G : Gt) (w : Wv) (sC : Str KC XC w) (o0 : Inv RC w)  : CtV l G yX5_readSize cX5_readSize 4 ({ frames := 2, cells := 0, slots := 0, locals := 45 } : Room) [.ref (gz G + 1), .ref (gz G + 12)] w (fun w' => Ch [] [(1, 1), (1, 2), (1, 4), (1, 5), (12, 0), (12, 1)] w w' ∧ Inv RC w') := by
  refine enterV (by decide) (Nat.le_of_ble_eq_true rfl) ?_
  intro x el eG C hnm hret
  subst el; subst eG
  show V x 0 0 w 0 [(0, .ref (gz (xG x) + 1)), (1, .ref (gz (xG x) + 12))] []
  have h0 : Ch [] [(1, 1), (1, 2), (1, 4), (1, 5), (12, 0), (12, 1)] w w := Ch.rf
  have q0 : (0 : Int32).toInt = 0 := by decide
  have q1 : (1 : Int32).toInt = 1 := by decide
  have q9 : (9 : Int32).toInt = 9 := by decide
  have q42 : (42 : Int32).toInt = 42 := by decide
  refine r_aload_n 0 C dX5_readSize_0 rfl ?_
  refine r_iconst (v := 1) C dX5_readSize_1 (by decide) ?_
  refine r_bipush (v := 9) C dX5_readSize_2 (by decide) ?_
  refine callVI C cwX5_96_V (ctX5_readNumber_1 _ _ w (sS sC h0) o0 1 9 ) (by decide) (kS sC h0 kc_1) rfl rfl rfl (Nat.le_of_ble_eq_true rfl) (by decide) dX5_readSize_4 (fun r3 w2 y1 => ?_)
  show V x 0 0 w2 7 [(0, .ref (gz (xG x) + 1)), (1, .ref (gz (xG x) + 12))] [.int r3]
  obtain ⟨h4, o5, g6⟩ := y1
  have h7 := Ch.tr h0 h4 (by decide) (by decide)
  refine r_istore_n [(2, .int r3), (0, .ref (gz (xG x) + 1)), (1, .ref (gz (xG x) + 12))] C dX5_readSize_7 (by decide) rfl ?_
  refine r_aload_n 1 C dX5_readSize_8 rfl ?_
  refine r_iconst (v := 1) C dX5_readSize_9 (by decide) ?_
  refine r_iload_n 0 C dX5_readSize_10 rfl ?_
  refine r_if_le 26 C dX5_readSize_11 (by decide) (fun c8 => ?_) (fun c8 => ?_)
  · have c8' := i_le c8
    exfalso; omega
  · have c8' := i_nle c8
    refine r_bipush (v := 9) C dX5_readSize_14 (by decide) ?_
    refine r_bipush (v := 42) C dX5_readSize_16 (by decide) ?_
    refine r_iload_n 0 C dX5_readSize_18 rfl ?_
    refine r_idiv C dX5_readSize_19 (fun q => by have q := i_eq q; omega) (fun v9 e10 => ?_)
    have v9' := idiv_rng e10 (by omega) (by omega)
    refine r_mmin C mw3_91 mw2_154 mw1_12 mw2_155 (by decide) (Nat.le_of_ble_eq_true rfl) (by decide) (by decide) dX5_readSize_20 (fun v11 e12 => ?_)
    have v11' := imin_ok e12
    refine r_goto 28 C dX5_readSize_23 (by decide) ?_
    refine callVI C cwX5_96_V (ctX5_readNumber_1 _ _ w2 (sS sC h7) o5 1 v11 ) (by decide) (kS sC h7 kc_1) rfl rfl rfl (Nat.le_of_ble_eq_true rfl) (by decide) dX5_readSize_28 (fun r15 w14 y13 => ?_)
    show V x 0 0 w14 31 [(2, .int r3), (0, .ref (gz (xG x) + 1)), (1, .ref (gz (xG x) + 12))] [.int r15]
    obtain ⟨h16, o17, g18⟩ := y13
    have h19 := Ch.tr h7 h16 (by decide) (by decide)
    refine r_istore_n [(3, .int r15), (2, .int r3), (0, .ref (gz (xG x) + 1)), (1, .ref (gz (xG x) + 12))] C dX5_readSize_31 (by decide) rfl ?_
    refine r_aload_n 2 C dX5_readSize_32 rfl ?_
    refine gfX5_30 (v := (wI w14 1 1)) C (kS sC h19 kc_1) rfl dX5_readSize_33 ?_
    refine r_if_ne 49 C dX5_readSize_36 (by decide) (fun c20 => ?_) (fun c20 => ?_)
    · have c20' := i_ne c20
      exact hret _ _ _ dX5_readSize_49 ⟨h19, o17⟩
    · have c20' := i_eq c20
      refine r_aload_n 3 C dX5_readSize_39 rfl ?_
      refine r_iload_n 1 C dX5_readSize_40 rfl ?_
      refine pfX5_40 C (kS sC h19 kc_12) dX5_readSize_41 (fun w21 e22 => ?_)
      have h23 := Ch.putF h19 e22 (by decide)
      have o24 := Inv.put o17 e22 0 9 (by omega) (by decide)
      refine r_aload_n 3 C dX5_readSize_44 rfl ?_
      refine r_iload_n 0 C dX5_readSize_45 rfl ?_
      refine pfX5_105 C (kS sC h23 kc_12) dX5_readSize_46 (fun w25 e26 => ?_)
      have h27 := Ch.putF h23 e26 (by decide)
      have o28 := Inv.put o24 e26 0 9 (by omega) (by decide)
      exact hret _ _ _ dX5_readSize_49 ⟨h27, o28⟩
set_option maxHeartbeats 4000000 in
set_option maxRecDepth 100000 in
theorem ctX5_readSpot_1_12 (l : Launch) (G : Gt) (w : Wv) (sC : Str KC XC w) (o0 : Inv RC w) (a2 : Int32) : CtV l G yX5_readSpot cX5_readSpot 4 ({ frames := 3, cells := 0, slots := 0, locals := 68 } : Room) [.ref (gz G + 1), .ref (gz G + 12), .int a2] w (fun w' => Ch [13] [(1, 1), (1, 2), (1, 4), (1, 5), (12, 2)] w w' ∧ Inv RC w') := by
  refine enterV (by decide) (Nat.le_of_ble_eq_true rfl) ?_
  intro x el eG C hnm hret
  subst el; subst eG
  show V x 0 0 w 0 [(0, .ref (gz (xG x) + 1)), (1, .ref (gz (xG x) + 12)), (2, .int a2)] []
  have h0 : Ch [13] [(1, 1), (1, 2), (1, 4), (1, 5), (12, 2)] w w := Ch.rf
  have qm1 : ((-1) : Int32).toInt = (-1) := by decide
  have q0 : (0 : Int32).toInt = 0 := by decide
  have q4 : (4 : Int32).toInt = 4 := by decide
  refine r_aload_n 0 C dX5_readSpot_0 rfl ?_
  refine r_aload_n 1 C dX5_readSpot_1 rfl ?_
  refine callVI C cwX5_108_V (ctX5_readCell_1_12 _ _ w (sS sC h0) o0  ) (by decide) (kS sC h0 kc_1) rfl rfl rfl (Nat.le_of_ble_eq_true rfl) (by decide) dX5_readSpot_2 (fun r3 w2 y1 => ?_)
  show V x 0 0 w2 5 [(0, .ref (gz (xG x) + 1)), (1, .ref (gz (xG x) + 12)), (2, .int a2)] [.int r3]
  obtain ⟨h4, o5⟩ := y1
  have h6 := Ch.tr h0 h4 (by decide) (by decide)
  refine r_istore_n [(3, .int r3), (0, .ref (gz (xG x) + 1)), (1, .ref (gz (xG x) + 12)), (2, .int a2)] C dX5_readSpot_5 (by decide) rfl ?_
  refine r_iload_n 0 C dX5_readSpot_6 rfl ?_
  refine r_iconst (v := (-1)) C dX5_readSpot_7 (by decide) ?_
  refine r_icmp_ne 12 C dX5_readSpot_8 (by decide) (fun c7 => ?_) (fun c7 => ?_)
  · have c7' := i_ne c7
    refine r_aload_n 2 C dX5_readSpot_12 rfl ?_
    refine r_iload_n 0 C dX5_readSpot_13 rfl ?_
    refine callVI C cwX5_112_V (ctX9_isTaken_12 _ _ w2 (sS sC h6) o5 r3 ) (by decide) (kS sC h6 kc_12) rfl rfl rfl (Nat.le_of_ble_eq_true rfl) (by decide) dX5_readSpot_14 (fun r10 w9 y8 => ?_)
    show V x 0 0 w9 17 [(3, .int r3), (0, .ref (gz (xG x) + 1)), (1, .ref (gz (xG x) + 12)), (2, .int a2)] [.int r10]
    obtain ⟨h11, o12, g13⟩ := y8
    have h14 := Ch.tr h6 h11 (by decide) (by decide)
    refine r_if_eq 32 C dX5_readSpot_17 (by decide) (fun c15 => ?_) (fun c15 => ?_)
    · have c15' := i_eq c15
      refine r_aload_n 2 C dX5_readSpot_32 rfl ?_
      refine r_iload_n 0 C dX5_readSpot_33 rfl ?_
      refine r_iload_n 3 C dX5_readSpot_34 rfl ?_
      refine callVV C cwX5_119_V (ctX9_addSpot_12 _ _ w9 (sS sC h14) o12 r3 a2 ) (by decide) (kS sC h14 kc_12) rfl rfl rfl (Nat.le_of_ble_eq_true rfl) (by decide) dX5_readSpot_35 (fun w17 y16 => ?_)
      show V x 0 0 w17 38 [(3, .int r3), (0, .ref (gz (xG x) + 1)), (1, .ref (gz (xG x) + 12)), (2, .int a2)] []
      obtain ⟨h19, o20⟩ := y16
      have h21 := Ch.tr h14 h19 (by decide) (by decide)
      exact hret _ _ _ dX5_readSpot_38 ⟨h21, o20⟩
    · have c15' := i_ne c15
      refine r_aload_n 1 C dX5_readSpot_20 rfl ?_
      refine r_iconst (v := 4) C dX5_readSpot_21 (by decide) ?_
      refine r_aload_n 1 C dX5_readSpot_22 rfl ?_
      refine gfX5_116 (v := (wI w2 1 5)) C (kS sC h14 kc_1) (h11.I (by decide) (by decide) rfl) dX5_readSpot_23 ?_
      refine callVV C cwX5_43_V (ctX5_blame_1 _ _ w9 (sS sC h14) o12 4 (wI w2 1 5) (by omega)) (by decide) (kS sC h14 kc_1) rfl rfl rfl (Nat.le_of_ble_eq_true rfl) (by decide) dX5_readSpot_26 (fun w23 y22 => ?_)
      show V x 0 0 w23 29 [(3, .int r3), (0, .ref (gz (xG x) + 1)), (1, .ref (gz (xG x) + 12)), (2, .int a2)] []
      obtain ⟨h25, o26, f27⟩ := y22
      have h28 := Ch.tr h14 h25 (by decide) (by decide)
      refine r_goto 38 C dX5_readSpot_29 (by decide) ?_
      exact hret _ _ _ dX5_readSpot_38 ⟨h28, o26⟩
  · have c7' := i_eq c7
    exact hret _ _ _ dX5_readSpot_11 ⟨h6, o5⟩
set_option maxHeartbeats 4000000 in
set_option maxRecDepth 100000 in
theorem ctX5_readCrowd_1_12 (l : Launch) (G : Gt) (w : Wv) (sC : Str KC XC w) (o0 : Inv RC w)  : CtV l G yX5_readCrowd cX5_readCrowd 7 ({ frames := 3, cells := 0, slots := 0, locals := 68 } : Room) [.ref (gz G + 1), .ref (gz G + 12)] w (fun w' => Ch [14, 15, 16, 17, 18] [(1, 1), (1, 2), (1, 4), (1, 5), (12, 3)] w w' ∧ Inv RC w') := by
  refine enterV (by decide) (Nat.le_of_ble_eq_true rfl) ?_
  intro x el eG C hnm hret
  subst el; subst eG
  show V x 0 0 w 0 [(0, .ref (gz (xG x) + 1)), (1, .ref (gz (xG x) + 12))] []
  have h0 : Ch [14, 15, 16, 17, 18] [(1, 1), (1, 2), (1, 4), (1, 5), (12, 3)] w w := Ch.rf
  have q0 : (0 : Int32).toInt = 0 := by decide
  have q1 : (1 : Int32).toInt = 1 := by decide
  have q2 : (2 : Int32).toInt = 2 := by decide
  have q3 : (3 : Int32).toInt = 3 := by decide
  have q99 : (99 : Int32).toInt = 99 := by decide
  refine r_aload_n 0 C dX5_readCrowd_0 rfl ?_
  refine r_iconst (v := 0) C dX5_readCrowd_1 (by decide) ?_
  refine r_iconst (v := 2) C dX5_readCrowd_2 (by decide) ?_
  refine callVI C cwX5_96_V (ctX5_readNumber_1 _ _ w (sS sC h0) o0 0 2 ) (by decide) (kS sC h0 kc_1) rfl rfl rfl (Nat.le_of_ble_eq_true rfl) (by decide) dX5_readCrowd_3 (fun r3 w2 y1 => ?_)
  show V x 0 0 w2 6 [(0, .ref (gz (xG x) + 1)), (1, .ref (gz (xG x) + 12))] [.int r3]
  obtain ⟨h4, o5, g6⟩ := y1
  have h7 := Ch.tr h0 h4 (by decide) (by decide)
  refine r_istore_n [(2, .int r3), (0, .ref (gz (xG x) + 1)), (1, .ref (gz (xG x) + 12))] C dX5_readCrowd_6 (by decide) rfl ?_
  refine r_aload_n 1 C dX5_readCrowd_7 rfl ?_
  refine r_aload_n 2 C dX5_readCrowd_8 rfl ?_
  refine callVI C cwX5_108_V (ctX5_readCell_1_12 _ _ w2 (sS sC h7) o5  ) (by decide) (kS sC h7 kc_1) rfl rfl rfl (Nat.le_of_ble_eq_true rfl) (by decide) dX5_readCrowd_9 (fun r10 w9 y8 => ?_)
  show V x 0 0 w9 12 [(2, .int r3), (0, .ref (gz (xG x) + 1)), (1, .ref (gz (xG x) + 12))] [.int r10]
  obtain ⟨h11, o12⟩ := y8
  have h13 := Ch.tr h7 h11 (by decide) (by decide)
  refine r_istore_n [(3, .int r10), (2, .int r3), (0, .ref (gz (xG x) + 1)), (1, .ref (gz (xG x) + 12))] C dX5_readCrowd_12 (by decide) rfl ?_
  refine r_aload_n 2 C dX5_readCrowd_13 rfl ?_
  refine r_aload_n 3 C dX5_readCrowd_14 rfl ?_
  refine r_iload_n 0 C dX5_readCrowd_15 rfl ?_
  refine callVV C cwX5_122_V (ctX5_blameIfSpot_1_12 _ _ w9 (sS sC h13) o12 r10 ) (by decide) (kS sC h13 kc_1) rfl rfl rfl (Nat.le_of_ble_eq_true rfl) (by decide) dX5_readCrowd_16 (fun w15 y14 => ?_)
  show V x 0 0 w15 19 [(3, .int r10), (2, .int r3), (0, .ref (gz (xG x) + 1)), (1, .ref (gz (xG x) + 12))] []
  obtain ⟨h17, o18⟩ := y14
  have h19 := Ch.tr h13 h17 (by decide) (by decide)
  refine r_aload_n 2 C dX5_readCrowd_19 rfl ?_
  refine r_iconst (v := 1) C dX5_readCrowd_20 (by decide) ?_
  refine r_bipush (v := 99) C dX5_readCrowd_21 (by decide) ?_
  refine callVI C cwX5_96_V (ctX5_readNumber_1 _ _ w15 (sS sC h19) o18 1 99 ) (by decide) (kS sC h19 kc_1) rfl rfl rfl (Nat.le_of_ble_eq_true rfl) (by decide) dX5_readCrowd_23 (fun r22 w21 y20 => ?_)
  show V x 0 0 w21 26 [(3, .int r10), (2, .int r3), (0, .ref (gz (xG x) + 1)), (1, .ref (gz (xG x) + 12))] [.int r22]
  obtain ⟨h23, o24, g25⟩ := y20
  have h26 := Ch.tr h19 h23 (by decide) (by decide)
  refine r_istore [(4, .int r22), (3, .int r10), (2, .int r3), (0, .ref (gz (xG x) + 1)), (1, .ref (gz (xG x) + 12))] C dX5_readCrowd_26 (by decide) rfl ?_
  refine r_aload_n 3 C dX5_readCrowd_28 rfl ?_
  refine r_iconst (v := 1) C dX5_readCrowd_29 (by decide) ?_
  refine r_iconst (v := 3) C dX5_readCrowd_30 (by decide) ?_
  refine callVI C cwX5_96_V (ctX5_readNumber_1 _ _ w21 (sS sC h26) o24 1 3 ) (by decide) (kS sC h26 kc_1) rfl rfl rfl (Nat.le_of_ble_eq_true rfl) (by decide) dX5_readCrowd_31 (fun r29 w28 y27 => ?_)
  show V x 0 0 w28 34 [(4, .int r22), (3, .int r10), (2, .int r3), (0, .ref (gz (xG x) + 1)), (1, .ref (gz (xG x) + 12))] [.int r29]
  obtain ⟨h30, o31, g32⟩ := y27
  have h33 := Ch.tr h26 h30 (by decide) (by decide)
  refine r_istore [(5, .int r29), (4, .int r22), (3, .int r10), (2, .int r3), (0, .ref (gz (xG x) + 1)), (1, .ref (gz (xG x) + 12))] C dX5_readCrowd_34 (by decide) rfl ?_
  refine r_aload_n 4 C dX5_readCrowd_36 rfl ?_
  refine r_iconst (v := 0) C dX5_readCrowd_37 (by decide) ?_
  refine r_iload 1 C dX5_readCrowd_38 rfl ?_
  refine callVI C cwX5_96_V (ctX5_readNumber_1 _ _ w28 (sS sC h33) o31 0 r22 ) (by decide) (kS sC h33 kc_1) rfl rfl rfl (Nat.le_of_ble_eq_true rfl) (by decide) dX5_readCrowd_40 (fun r36 w35 y34 => ?_)
  show V x 0 0 w35 43 [(5, .int r29), (4, .int r22), (3, .int r10), (2, .int r3), (0, .ref (gz (xG x) + 1)), (1, .ref (gz (xG x) + 12))] [.int r36]
  obtain ⟨h37, o38, g39⟩ := y34
  have h40 := Ch.tr h33 h37 (by decide) (by decide)
  refine r_istore [(6, .int r36), (5, .int r29), (4, .int r22), (3, .int r10), (2, .int r3), (0, .ref (gz (xG x) + 1)), (1, .ref (gz (xG x) + 12))] C dX5_readCrowd_43 (by decide) rfl ?_
  refine r_aload_n 5 C dX5_readCrowd_45 rfl ?_
  refine gfX5_30 (v := (wI w35 1 1)) C (kS sC h40 kc_1) rfl dX5_readCrowd_46 ?_
  refine r_if_ne 64 C dX5_readCrowd_49 (by decide) (fun c41 => ?_) (fun c41 => ?_)
  · have c41' := i_ne c41
    exact hret _ _ _ dX5_readCrowd_64 ⟨h40, o38⟩
  · have c41' := i_eq c41
    refine r_aload_n 6 C dX5_readCrowd_52 rfl ?_
    refine r_iload_n 4 C dX5_readCrowd_53 rfl ?_
    refine r_iload_n 3 C dX5_readCrowd_54 rfl ?_
    refine r_iload 2 C dX5_readCrowd_55 rfl ?_
    refine r_iload 1 C dX5_readCrowd_57 rfl ?_
    refine r_iload 0 C dX5_readCrowd_59 rfl ?_
    refine callVV C cwX5_125_V (ctX9_addCrowd_12 _ _ w35 (sS sC h40) o38 r3 r10 r22 r29 r36 ) (by decide) (kS sC h40 kc_12) rfl rfl rfl (Nat.le_of_ble_eq_true rfl) (by decide) dX5_readCrowd_61 (fun w43 y42 => ?_)
    show V x 0 0 w43 64 [(6, .int r36), (5, .int r29), (4, .int r22), (3, .int r10), (2, .int r3), (0, .ref (gz (xG x) + 1)), (1, .ref (gz (xG x) + 12))] []
    obtain ⟨h45, o46⟩ := y42
    have h47 := Ch.tr h40 h45 (by decide) (by decide)
    exact hret _ _ _ dX5_readCrowd_64 ⟨h47, o46⟩
set_option maxHeartbeats 4000000 in
set_option maxRecDepth 100000 in
theorem ctX5_readTune_1_12 (l : Launch) (G : Gt) (w : Wv) (sC : Str KC XC w) (o0 : Inv RC w)  : CtV l G yX5_readTune cX5_readTune 4 ({ frames := 2, cells := 0, slots := 0, locals := 45 } : Room) [.ref (gz G + 1), .ref (gz G + 12)] w (fun w' => Ch [19, 20] [(1, 1), (1, 2), (1, 4), (1, 5), (12, 4)] w w' ∧ Inv RC w') := by
  refine enterV (by decide) (Nat.le_of_ble_eq_true rfl) ?_
  intro x el eG C hnm hret
  subst el; subst eG
  show V x 0 0 w 0 [(0, .ref (gz (xG x) + 1)), (1, .ref (gz (xG x) + 12))] []
  have h0 : Ch [19, 20] [(1, 1), (1, 2), (1, 4), (1, 5), (12, 4)] w w := Ch.rf
  have q0 : (0 : Int32).toInt = 0 := by decide
  have q1 : (1 : Int32).toInt = 1 := by decide
  have q7 : (7 : Int32).toInt = 7 := by decide
  have q20 : (20 : Int32).toInt = 20 := by decide
  refine r_aload_n 0 C dX5_readTune_0 rfl ?_
  refine r_iconst (v := 1) C dX5_readTune_1 (by decide) ?_
  refine r_bipush (v := 7) C dX5_readTune_2 (by decide) ?_
  refine callVI C cwX5_96_V (ctX5_readNumber_1 _ _ w (sS sC h0) o0 1 7 ) (by decide) (kS sC h0 kc_1) rfl rfl rfl (Nat.le_of_ble_eq_true rfl) (by decide) dX5_readTune_4 (fun r3 w2 y1 => ?_)
  show V x 0 0 w2 7 [(0, .ref (gz (xG x) + 1)), (1, .ref (gz (xG x) + 12))] [.int r3]
  obtain ⟨h4, o5, g6⟩ := y1
  have h7 := Ch.tr h0 h4 (by decide) (by decide)
  refine r_istore_n [(2, .int r3), (0, .ref (gz (xG x) + 1)), (1, .ref (gz (xG x) + 12))] C dX5_readTune_7 (by decide) rfl ?_
  refine r_aload_n 1 C dX5_readTune_8 rfl ?_
  refine r_iconst (v := 0) C dX5_readTune_9 (by decide) ?_
  refine r_bipush (v := 20) C dX5_readTune_10 (by decide) ?_
  refine callVI C cwX5_96_V (ctX5_readNumber_1 _ _ w2 (sS sC h7) o5 0 20 ) (by decide) (kS sC h7 kc_1) rfl rfl rfl (Nat.le_of_ble_eq_true rfl) (by decide) dX5_readTune_12 (fun r10 w9 y8 => ?_)
  show V x 0 0 w9 15 [(2, .int r3), (0, .ref (gz (xG x) + 1)), (1, .ref (gz (xG x) + 12))] [.int r10]
  obtain ⟨h11, o12, g13⟩ := y8
  have h14 := Ch.tr h7 h11 (by decide) (by decide)
  refine r_istore_n [(3, .int r10), (2, .int r3), (0, .ref (gz (xG x) + 1)), (1, .ref (gz (xG x) + 12))] C dX5_readTune_15 (by decide) rfl ?_
  refine r_aload_n 2 C dX5_readTune_16 rfl ?_
  refine gfX5_30 (v := (wI w9 1 1)) C (kS sC h14 kc_1) rfl dX5_readTune_17 ?_
  refine r_if_ne 29 C dX5_readTune_20 (by decide) (fun c15 => ?_) (fun c15 => ?_)
  · have c15' := i_ne c15
    exact hret _ _ _ dX5_readTune_29 ⟨h14, o12⟩
  · have c15' := i_eq c15
    refine r_aload_n 3 C dX5_readTune_23 rfl ?_
    refine r_iload_n 1 C dX5_readTune_24 rfl ?_
    refine r_iload_n 0 C dX5_readTune_25 rfl ?_
    refine callVV C cwX5_129_V (ctX9_addTune_12 _ _ w9 (sS sC h14) o12 r3 r10 ) (by decide) (kS sC h14 kc_12) rfl rfl rfl (Nat.le_of_ble_eq_true rfl) (by decide) dX5_readTune_26 (fun w17 y16 => ?_)
    show V x 0 0 w17 29 [(3, .int r10), (2, .int r3), (0, .ref (gz (xG x) + 1)), (1, .ref (gz (xG x) + 12))] []
    obtain ⟨h19, o20⟩ := y16
    have h21 := Ch.tr h14 h19 (by decide) (by decide)
    exact hret _ _ _ dX5_readTune_29 ⟨h21, o20⟩
set_option maxHeartbeats 4000000 in
set_option maxRecDepth 100000 in
theorem ctX5_readPiper_1_12 (l : Launch) (G : Gt) (w : Wv) (sC : Str KC XC w) (o0 : Inv RC w)  : CtV l G yX5_readPiper cX5_readPiper 3 ({ frames := 3, cells := 0, slots := 0, locals := 68 } : Room) [.ref (gz G + 1), .ref (gz G + 12)] w (fun w' => Ch [] [(1, 1), (1, 2), (1, 4), (1, 5), (12, 5)] w w' ∧ Inv RC w') := by
  refine enterV (by decide) (Nat.le_of_ble_eq_true rfl) ?_
  intro x el eG C hnm hret
  subst el; subst eG
  show V x 0 0 w 0 [(0, .ref (gz (xG x) + 1)), (1, .ref (gz (xG x) + 12))] []
  have h0 : Ch [] [(1, 1), (1, 2), (1, 4), (1, 5), (12, 5)] w w := Ch.rf
  have q0 : (0 : Int32).toInt = 0 := by decide
  refine r_aload_n 0 C dX5_readPiper_0 rfl ?_
  refine r_aload_n 1 C dX5_readPiper_1 rfl ?_
  refine callVI C cwX5_108_V (ctX5_readCell_1_12 _ _ w (sS sC h0) o0  ) (by decide) (kS sC h0 kc_1) rfl rfl rfl (Nat.le_of_ble_eq_true rfl) (by decide) dX5_readPiper_2 (fun r3 w2 y1 => ?_)
  show V x 0 0 w2 5 [(0, .ref (gz (xG x) + 1)), (1, .ref (gz (xG x) + 12))] [.int r3]
  obtain ⟨h4, o5⟩ := y1
  have h6 := Ch.tr h0 h4 (by decide) (by decide)
  refine r_istore_n [(2, .int r3), (0, .ref (gz (xG x) + 1)), (1, .ref (gz (xG x) + 12))] C dX5_readPiper_5 (by decide) rfl ?_
  refine r_aload_n 1 C dX5_readPiper_6 rfl ?_
  refine r_aload_n 2 C dX5_readPiper_7 rfl ?_
  refine r_iload_n 0 C dX5_readPiper_8 rfl ?_
  refine callVV C cwX5_122_V (ctX5_blameIfSpot_1_12 _ _ w2 (sS sC h6) o5 r3 ) (by decide) (kS sC h6 kc_1) rfl rfl rfl (Nat.le_of_ble_eq_true rfl) (by decide) dX5_readPiper_9 (fun w8 y7 => ?_)
  show V x 0 0 w8 12 [(2, .int r3), (0, .ref (gz (xG x) + 1)), (1, .ref (gz (xG x) + 12))] []
  obtain ⟨h10, o11⟩ := y7
  have h12 := Ch.tr h6 h10 (by decide) (by decide)
  refine r_aload_n 1 C dX5_readPiper_12 rfl ?_
  refine gfX5_30 (v := (wI w8 1 1)) C (kS sC h12 kc_1) rfl dX5_readPiper_13 ?_
  refine r_if_ne 24 C dX5_readPiper_16 (by decide) (fun c13 => ?_) (fun c13 => ?_)
  · have c13' := i_ne c13
    exact hret _ _ _ dX5_readPiper_24 ⟨h12, o11⟩
  · have c13' := i_eq c13
    refine r_aload_n 2 C dX5_readPiper_19 rfl ?_
    refine r_iload_n 0 C dX5_readPiper_20 rfl ?_
    refine pfX5_86 C (kS sC h12 kc_12) dX5_readPiper_21 (fun w14 e15 => ?_)
    have h16 := Ch.putF h12 e15 (by decide)
    have k18 := i_rng r3
    have o17 := Inv.putk o11 e15 (by decide)
    exact hret _ _ _ dX5_readPiper_24 ⟨h16, o17⟩
set_option maxHeartbeats 4000000 in
set_option maxRecDepth 100000 in
theorem ctX5_readPay_1_12 (l : Launch) (G : Gt) (w : Wv) (sC : Str KC XC w) (o0 : Inv RC w)  : CtV l G yX5_readPay cX5_readPay 2 ({ frames := 2, cells := 0, slots := 0, locals := 45 } : Room) [.ref (gz G + 1), .ref (gz G + 12)] w (fun w' => Ch [] [(1, 1), (1, 2), (1, 4), (1, 5), (12, 6), (12, 7), (12, 8)] w w' ∧ Inv RC w') := by
  refine enterV (by decide) (Nat.le_of_ble_eq_true rfl) ?_
  intro x el eG C hnm hret
  subst el; subst eG
  show V x 0 0 w 0 [(0, .ref (gz (xG x) + 1)), (1, .ref (gz (xG x) + 12))] []
  have h0 : Ch [] [(1, 1), (1, 2), (1, 4), (1, 5), (12, 6), (12, 7), (12, 8)] w w := Ch.rf
  have q0 : (0 : Int32).toInt = 0 := by decide
  have q1 : (1 : Int32).toInt = 1 := by decide
  have q99 : (99 : Int32).toInt = 99 := by decide
  refine r_aload_n 1 C dX5_readPay_0 rfl ?_
  refine r_aload_n 0 C dX5_readPay_1 rfl ?_
  refine r_iconst (v := 0) C dX5_readPay_2 (by decide) ?_
  refine r_bipush (v := 99) C dX5_readPay_3 (by decide) ?_
  refine callVI C cwX5_96_V (ctX5_readNumber_1 _ _ w (sS sC h0) o0 0 99 ) (by decide) (kS sC h0 kc_1) rfl rfl rfl (Nat.le_of_ble_eq_true rfl) (by decide) dX5_readPay_5 (fun r3 w2 y1 => ?_)
  show V x 0 0 w2 8 [(0, .ref (gz (xG x) + 1)), (1, .ref (gz (xG x) + 12))] [.int r3, .ref (gz (xG x) + 12)]
  obtain ⟨h4, o5, g6⟩ := y1
  have h7 := Ch.tr h0 h4 (by decide) (by decide)
  refine pfX5_132 C (kS sC h7 kc_12) dX5_readPay_8 (fun w8 e9 => ?_)
  have h10 := Ch.putF h7 e9 (by decide)
  have o11 := Inv.putk o5 e9 (by decide)
  refine r_aload_n 1 C dX5_readPay_11 rfl ?_
  refine r_aload_n 0 C dX5_readPay_12 rfl ?_
  refine r_iconst (v := 0) C dX5_readPay_13 (by decide) ?_
  refine r_bipush (v := 99) C dX5_readPay_14 (by decide) ?_
  refine callVI C cwX5_96_V (ctX5_readNumber_1 _ _ w8 (sS sC h10) o11 0 99 ) (by decide) (kS sC h10 kc_1) rfl rfl rfl (Nat.le_of_ble_eq_true rfl) (by decide) dX5_readPay_16 (fun r14 w13 y12 => ?_)
  show V x 0 0 w13 19 [(0, .ref (gz (xG x) + 1)), (1, .ref (gz (xG x) + 12))] [.int r14, .ref (gz (xG x) + 12)]
  obtain ⟨h15, o16, g17⟩ := y12
  have h18 := Ch.tr h10 h15 (by decide) (by decide)
  refine pfX5_135 C (kS sC h18 kc_12) dX5_readPay_19 (fun w19 e20 => ?_)
  have h21 := Ch.putF h18 e20 (by decide)
  have o22 := Inv.putk o16 e20 (by decide)
  refine r_aload_n 1 C dX5_readPay_22 rfl ?_
  refine r_iconst (v := 1) C dX5_readPay_23 (by decide) ?_
  refine pfX5_89 C (kS sC h21 kc_12) (z_of (by omega)) dX5_readPay_24 (fun w23 e24 => ?_)
  have h25 := Ch.putF h21 e24 (by decide)
  have o26 := Inv.put o22 e24 0 1 (by omega) (by decide)
  exact hret _ _ _ dX5_readPay_27 ⟨h25, o26⟩
set_option maxHeartbeats 4000000 in
set_option maxRecDepth 100000 in
theorem ctX5_readSentence_1_12 (l : Launch) (G : Gt) (w : Wv) (sC : Str KC XC w) (o0 : Inv RC w)  : CtV l G yX5_readSentence cX5_readSentence 4 ({ frames := 8, cells := 0, slots := 0, locals := 185 } : Room) [.ref (gz G + 1), .ref (gz G + 12)] w (fun w' => Ch [13, 14, 15, 16, 17, 18, 19, 20] [(1, 1), (1, 2), (1, 4), (1, 5), (12, 0), (12, 1), (12, 2), (12, 3), (12, 4), (12, 5), (12, 6), (12, 7), (12, 8)] w w' ∧ Inv RC w') := by
  refine enterV (by decide) (Nat.le_of_ble_eq_true rfl) ?_
  intro x el eG C hnm hret
  subst el; subst eG
  show V x 0 0 w 0 [(0, .ref (gz (xG x) + 1)), (1, .ref (gz (xG x) + 12))] []
  have h0 : Ch [13, 14, 15, 16, 17, 18, 19, 20] [(1, 1), (1, 2), (1, 4), (1, 5), (12, 0), (12, 1), (12, 2), (12, 3), (12, 4), (12, 5), (12, 6), (12, 7), (12, 8)] w w := Ch.rf
  have qm1 : ((-1) : Int32).toInt = (-1) := by decide
  have q0 : (0 : Int32).toInt = 0 := by decide
  have q1 : (1 : Int32).toInt = 1 := by decide
  have q3 : (3 : Int32).toInt = 3 := by decide
  have q4 : (4 : Int32).toInt = 4 := by decide
  refine r_aload_n 0 C dX5_readSentence_0 rfl ?_
  refine gfX5_27 (v := (wI w 1 4)) C (kS sC h0 kc_1) rfl dX5_readSentence_1 ?_
  have b1 := Inv.get o0 rt_1_4 (j := 4) (by decide) (by decide)
  refine r_istore_n [(2, .int (wI w 1 4)), (0, .ref (gz (xG x) + 1)), (1, .ref (gz (xG x) + 12))] C dX5_readSentence_4 (by decide) rfl ?_
  refine r_aload_n 1 C dX5_readSentence_5 rfl ?_
  refine callVI C cwX5_50_V (ctX5_readWord_1 _ _ w (sS sC h0) o0  ) (by decide) (kS sC h0 kc_1) rfl rfl rfl (Nat.le_of_ble_eq_true rfl) (by decide) dX5_readSentence_6 (fun r4 w3 y2 => ?_)
  show V x 0 0 w3 9 [(2, .int (wI w 1 4)), (0, .ref (gz (xG x) + 1)), (1, .ref (gz (xG x) + 12))] [.int r4]
  obtain ⟨h5, o6⟩ := y2
  have h7 := Ch.tr h0 h5 (by decide) (by decide)
  refine r_istore_n [(3, .int r4), (2, .int (wI w 1 4)), (0, .ref (gz (xG x) + 1)), (1, .ref (gz (xG x) + 12))] C dX5_readSentence_9 (by decide) rfl ?_
  refine r_iload_n 0 C dX5_readSentence_10 rfl ?_
  refine r_iconst (v := (-1)) C dX5_readSentence_11 (by decide) ?_
  refine r_icmp_eq 27 C dX5_readSentence_12 (by decide) (fun c8 => ?_) (fun c8 => ?_)
  · have c8' := i_eq c8
    refine r_aload_n 2 C dX5_readSentence_27 rfl ?_
    refine r_iconst (v := 1) C dX5_readSentence_28 (by decide) ?_
    refine r_iload_n 1 C dX5_readSentence_29 rfl ?_
    refine callVV C cwX5_43_V (ctX5_blame_1 _ _ w3 (sS sC h7) o6 1 (wI w 1 4) (by omega)) (by decide) (kS sC h7 kc_1) rfl rfl rfl (Nat.le_of_ble_eq_true rfl) (by decide) dX5_readSentence_30 (fun w10 y9 => ?_)
    show V x 0 0 w10 33 [(3, .int r4), (2, .int (wI w 1 4)), (0, .ref (gz (xG x) + 1)), (1, .ref (gz (xG x) + 12))] []
    obtain ⟨h12, o13, f14⟩ := y9
    have h15 := Ch.tr h7 h12 (by decide) (by decide)
    refine r_goto 138 C dX5_readSentence_33 (by decide) ?_
    exact hret _ _ _ dX5_readSentence_138 ⟨h15, o13⟩
  · have c8' := i_ne c8
    refine r_aload_n 3 C dX5_readSentence_15 rfl ?_
    refine gfX5_40 (v := (wI w 12 0)) C (kS sC h7 kc_12) (h5.I (by decide) (by decide) rfl) dX5_readSentence_16 ?_
    have b16 := Inv.get o0 rt_12_0 (j := 0) (by decide) (by decide)
    refine r_if_ne 36 C dX5_readSentence_19 (by decide) (fun c17 => ?_) (fun c17 => ?_)
    · have c17' := i_ne c17
      refine r_aload_n 3 C dX5_readSentence_36 rfl ?_
      refine r_iload_n 0 C dX5_readSentence_37 rfl ?_
      refine callSI C cwX5_54_S (ctX5_isTooMany_12 _ _ w3 (sS sC h7) o6 r4 ) (by decide) rfl rfl (Nat.le_of_ble_eq_true rfl) (by decide) dX5_readSentence_38 (fun r20 w19 y18 => ?_)
      show V x 0 0 w19 41 [(3, .int r4), (2, .int (wI w 1 4)), (0, .ref (gz (xG x) + 1)), (1, .ref (gz (xG x) + 12))] [.int r20]
      obtain ⟨h21, o22, g23⟩ := y18
      have h24 := Ch.tr h7 h21 (by decide) (by decide)
      refine r_if_eq 53 C dX5_readSentence_41 (by decide) (fun c25 => ?_) (fun c25 => ?_)
      · have c25' := i_eq c25
        refine r_iload_n 0 C dX5_readSentence_53 rfl ?_
        by_cases c26 : (r4 : Int32).toInt < 4 ∨ 8 < (r4 : Int32).toInt
        · refine r_tabOut 128 C dX5_readSentence_54 c26 (by decide) ?_
          refine r_aload_n 2 C dX5_readSentence_128 rfl ?_
          refine r_aload_n 3 C dX5_readSentence_129 rfl ?_
          refine r_iload_n 0 C dX5_readSentence_130 rfl ?_
          refine callVV C cwX5_73_V (ctX5_readSpot_1_12 _ _ w19 (sS sC h24) o22 r4 ) (by decide) (kS sC h24 kc_1) rfl rfl rfl (Nat.le_of_ble_eq_true rfl) (by decide) dX5_readSentence_131 (fun w28 y27 => ?_)
          show V x 0 0 w28 134 [(3, .int r4), (2, .int (wI w 1 4)), (0, .ref (gz (xG x) + 1)), (1, .ref (gz (xG x) + 12))] []
          obtain ⟨h30, o31⟩ := y27
          have h32 := Ch.tr h24 h30 (by decide) (by decide)
          refine r_aload_n 2 C dX5_readSentence_134 rfl ?_
          refine callVV C cwX5_77_V (ctX5_readEnd_1 _ _ w28 (sS sC h32) o31  ) (by decide) (kS sC h32 kc_1) rfl rfl rfl (Nat.le_of_ble_eq_true rfl) (by decide) dX5_readSentence_135 (fun w34 y33 => ?_)
          show V x 0 0 w34 138 [(3, .int r4), (2, .int (wI w 1 4)), (0, .ref (gz (xG x) + 1)), (1, .ref (gz (xG x) + 12))] []
          obtain ⟨h36, o37⟩ := y33
          have h38 := Ch.tr h32 h36 (by decide) (by decide)
          exact hret _ _ _ dX5_readSentence_138 ⟨h38, o37⟩
        · rcases (show (r4 : Int32).toInt = 4 ∨ (r4 : Int32).toInt = 5 ∨ (r4 : Int32).toInt = 6 ∨ (r4 : Int32).toInt = 7 ∨ (r4 : Int32).toInt = 8 by omega) with c26 | c26 | c26 | c26 | c26
          · refine r_tabIn 88 C dX5_readSentence_54 (by omega) (by omega) (by rw [c26]; rfl) (by decide) ?_
            refine r_aload_n 2 C dX5_readSentence_88 rfl ?_
            refine r_aload_n 3 C dX5_readSentence_89 rfl ?_
            refine callVV C cwX5_58_V (ctX5_readSize_1_12 _ _ w19 (sS sC h24) o22  ) (by decide) (kS sC h24 kc_1) rfl rfl rfl (Nat.le_of_ble_eq_true rfl) (by decide) dX5_readSentence_90 (fun w40 y39 => ?_)
            show V x 0 0 w40 93 [(3, .int r4), (2, .int (wI w 1 4)), (0, .ref (gz (xG x) + 1)), (1, .ref (gz (xG x) + 12))] []
            obtain ⟨h42, o43⟩ := y39
            have h44 := Ch.tr h24 h42 (by decide) (by decide)
            refine r_goto 134 C dX5_readSentence_93 (by decide) ?_
            refine r_aload_n 2 C dX5_readSentence_134 rfl ?_
            refine callVV C cwX5_77_V (ctX5_readEnd_1 _ _ w40 (sS sC h44) o43  ) (by decide) (kS sC h44 kc_1) rfl rfl rfl (Nat.le_of_ble_eq_true rfl) (by decide) dX5_readSentence_135 (fun w46 y45 => ?_)
            show V x 0 0 w46 138 [(3, .int r4), (2, .int (wI w 1 4)), (0, .ref (gz (xG x) + 1)), (1, .ref (gz (xG x) + 12))] []
            obtain ⟨h48, o49⟩ := y45
            have h50 := Ch.tr h44 h48 (by decide) (by decide)
            exact hret _ _ _ dX5_readSentence_138 ⟨h50, o49⟩
          · refine r_tabIn 96 C dX5_readSentence_54 (by omega) (by omega) (by rw [c26]; rfl) (by decide) ?_
            refine r_aload_n 2 C dX5_readSentence_96 rfl ?_
            refine r_aload_n 3 C dX5_readSentence_97 rfl ?_
            refine callVV C cwX5_61_V (ctX5_readCrowd_1_12 _ _ w19 (sS sC h24) o22  ) (by decide) (kS sC h24 kc_1) rfl rfl rfl (Nat.le_of_ble_eq_true rfl) (by decide) dX5_readSentence_98 (fun w52 y51 => ?_)
            show V x 0 0 w52 101 [(3, .int r4), (2, .int (wI w 1 4)), (0, .ref (gz (xG x) + 1)), (1, .ref (gz (xG x) + 12))] []
            obtain ⟨h54, o55⟩ := y51
            have h56 := Ch.tr h24 h54 (by decide) (by decide)
            refine r_goto 134 C dX5_readSentence_101 (by decide) ?_
            refine r_aload_n 2 C dX5_readSentence_134 rfl ?_
            refine callVV C cwX5_77_V (ctX5_readEnd_1 _ _ w52 (sS sC h56) o55  ) (by decide) (kS sC h56 kc_1) rfl rfl rfl (Nat.le_of_ble_eq_true rfl) (by decide) dX5_readSentence_135 (fun w58 y57 => ?_)
            show V x 0 0 w58 138 [(3, .int r4), (2, .int (wI w 1 4)), (0, .ref (gz (xG x) + 1)), (1, .ref (gz (xG x) + 12))] []
            obtain ⟨h60, o61⟩ := y57
            have h62 := Ch.tr h56 h60 (by decide) (by decide)
            exact hret _ _ _ dX5_readSentence_138 ⟨h62, o61⟩
          · refine r_tabIn 104 C dX5_readSentence_54 (by omega) (by omega) (by rw [c26]; rfl) (by decide) ?_
            refine r_aload_n 2 C dX5_readSentence_104 rfl ?_
            refine r_aload_n 3 C dX5_readSentence_105 rfl ?_
            refine callVV C cwX5_64_V (ctX5_readTune_1_12 _ _ w19 (sS sC h24) o22  ) (by decide) (kS sC h24 kc_1) rfl rfl rfl (Nat.le_of_ble_eq_true rfl) (by decide) dX5_readSentence_106 (fun w64 y63 => ?_)
            show V x 0 0 w64 109 [(3, .int r4), (2, .int (wI w 1 4)), (0, .ref (gz (xG x) + 1)), (1, .ref (gz (xG x) + 12))] []
            obtain ⟨h66, o67⟩ := y63
            have h68 := Ch.tr h24 h66 (by decide) (by decide)
            refine r_goto 134 C dX5_readSentence_109 (by decide) ?_
            refine r_aload_n 2 C dX5_readSentence_134 rfl ?_
            refine callVV C cwX5_77_V (ctX5_readEnd_1 _ _ w64 (sS sC h68) o67  ) (by decide) (kS sC h68 kc_1) rfl rfl rfl (Nat.le_of_ble_eq_true rfl) (by decide) dX5_readSentence_135 (fun w70 y69 => ?_)
            show V x 0 0 w70 138 [(3, .int r4), (2, .int (wI w 1 4)), (0, .ref (gz (xG x) + 1)), (1, .ref (gz (xG x) + 12))] []
            obtain ⟨h72, o73⟩ := y69
            have h74 := Ch.tr h68 h72 (by decide) (by decide)
            exact hret _ _ _ dX5_readSentence_138 ⟨h74, o73⟩
          · refine r_tabIn 112 C dX5_readSentence_54 (by omega) (by omega) (by rw [c26]; rfl) (by decide) ?_
            refine r_aload_n 2 C dX5_readSentence_112 rfl ?_
            refine r_aload_n 3 C dX5_readSentence_113 rfl ?_
            refine callVV C cwX5_67_V (ctX5_readPiper_1_12 _ _ w19 (sS sC h24) o22  ) (by decide) (kS sC h24 kc_1) rfl rfl rfl (Nat.le_of_ble_eq_true rfl) (by decide) dX5_readSentence_114 (fun w76 y75 => ?_)
            show V x 0 0 w76 117 [(3, .int r4), (2, .int (wI w 1 4)), (0, .ref (gz (xG x) + 1)), (1, .ref (gz (xG x) + 12))] []
            obtain ⟨h78, o79⟩ := y75
            have h80 := Ch.tr h24 h78 (by decide) (by decide)
            refine r_goto 134 C dX5_readSentence_117 (by decide) ?_
            refine r_aload_n 2 C dX5_readSentence_134 rfl ?_
            refine callVV C cwX5_77_V (ctX5_readEnd_1 _ _ w76 (sS sC h80) o79  ) (by decide) (kS sC h80 kc_1) rfl rfl rfl (Nat.le_of_ble_eq_true rfl) (by decide) dX5_readSentence_135 (fun w82 y81 => ?_)
            show V x 0 0 w82 138 [(3, .int r4), (2, .int (wI w 1 4)), (0, .ref (gz (xG x) + 1)), (1, .ref (gz (xG x) + 12))] []
            obtain ⟨h84, o85⟩ := y81
            have h86 := Ch.tr h80 h84 (by decide) (by decide)
            exact hret _ _ _ dX5_readSentence_138 ⟨h86, o85⟩
          · refine r_tabIn 120 C dX5_readSentence_54 (by omega) (by omega) (by rw [c26]; rfl) (by decide) ?_
            refine r_aload_n 2 C dX5_readSentence_120 rfl ?_
            refine r_aload_n 3 C dX5_readSentence_121 rfl ?_
            refine callVV C cwX5_70_V (ctX5_readPay_1_12 _ _ w19 (sS sC h24) o22  ) (by decide) (kS sC h24 kc_1) rfl rfl rfl (Nat.le_of_ble_eq_true rfl) (by decide) dX5_readSentence_122 (fun w88 y87 => ?_)
            show V x 0 0 w88 125 [(3, .int r4), (2, .int (wI w 1 4)), (0, .ref (gz (xG x) + 1)), (1, .ref (gz (xG x) + 12))] []
            obtain ⟨h90, o91⟩ := y87
            have h92 := Ch.tr h24 h90 (by decide) (by decide)
            refine r_goto 134 C dX5_readSentence_125 (by decide) ?_
            refine r_aload_n 2 C dX5_readSentence_134 rfl ?_
            refine callVV C cwX5_77_V (ctX5_readEnd_1 _ _ w88 (sS sC h92) o91  ) (by decide) (kS sC h92 kc_1) rfl rfl rfl (Nat.le_of_ble_eq_true rfl) (by decide) dX5_readSentence_135 (fun w94 y93 => ?_)
            show V x 0 0 w94 138 [(3, .int r4), (2, .int (wI w 1 4)), (0, .ref (gz (xG x) + 1)), (1, .ref (gz (xG x) + 12))] []
            obtain ⟨h96, o97⟩ := y93
            have h98 := Ch.tr h92 h96 (by decide) (by decide)
            exact hret _ _ _ dX5_readSentence_138 ⟨h98, o97⟩
      · have c25' := i_ne c25
        refine r_aload_n 2 C dX5_readSentence_44 rfl ?_
        refine r_iconst (v := 3) C dX5_readSentence_45 (by decide) ?_
        refine r_iload_n 1 C dX5_readSentence_46 rfl ?_
        refine callVV C cwX5_43_V (ctX5_blame_1 _ _ w19 (sS sC h24) o22 3 (wI w 1 4) (by omega)) (by decide) (kS sC h24 kc_1) rfl rfl rfl (Nat.le_of_ble_eq_true rfl) (by decide) dX5_readSentence_47 (fun w100 y99 => ?_)
        show V x 0 0 w100 50 [(3, .int r4), (2, .int (wI w 1 4)), (0, .ref (gz (xG x) + 1)), (1, .ref (gz (xG x) + 12))] []
        obtain ⟨h102, o103, f104⟩ := y99
        have h105 := Ch.tr h24 h102 (by decide) (by decide)
        refine r_goto 138 C dX5_readSentence_50 (by decide) ?_
        exact hret _ _ _ dX5_readSentence_138 ⟨h105, o103⟩
    · have c17' := i_eq c17
      refine r_iload_n 0 C dX5_readSentence_22 rfl ?_
      refine r_iconst (v := 4) C dX5_readSentence_23 (by decide) ?_
      refine r_icmp_eq 36 C dX5_readSentence_24 (by decide) (fun c106 => ?_) (fun c106 => ?_)
      · have c106' := i_eq c106
        refine r_aload_n 3 C dX5_readSentence_36 rfl ?_
        refine r_iload_n 0 C dX5_readSentence_37 rfl ?_
        refine callSI C cwX5_54_S (ctX5_isTooMany_12 _ _ w3 (sS sC h7) o6 r4 ) (by decide) rfl rfl (Nat.le_of_ble_eq_true rfl) (by decide) dX5_readSentence_38 (fun r109 w108 y107 => ?_)
        show V x 0 0 w108 41 [(3, .int r4), (2, .int (wI w 1 4)), (0, .ref (gz (xG x) + 1)), (1, .ref (gz (xG x) + 12))] [.int r109]
        obtain ⟨h110, o111, g112⟩ := y107
        have h113 := Ch.tr h7 h110 (by decide) (by decide)
        refine r_if_eq 53 C dX5_readSentence_41 (by decide) (fun c114 => ?_) (fun c114 => ?_)
        · have c114' := i_eq c114
          refine r_iload_n 0 C dX5_readSentence_53 rfl ?_
          by_cases c115 : (r4 : Int32).toInt < 4 ∨ 8 < (r4 : Int32).toInt
          · refine r_tabOut 128 C dX5_readSentence_54 c115 (by decide) ?_
            refine r_aload_n 2 C dX5_readSentence_128 rfl ?_
            refine r_aload_n 3 C dX5_readSentence_129 rfl ?_
            refine r_iload_n 0 C dX5_readSentence_130 rfl ?_
            refine callVV C cwX5_73_V (ctX5_readSpot_1_12 _ _ w108 (sS sC h113) o111 r4 ) (by decide) (kS sC h113 kc_1) rfl rfl rfl (Nat.le_of_ble_eq_true rfl) (by decide) dX5_readSentence_131 (fun w117 y116 => ?_)
            show V x 0 0 w117 134 [(3, .int r4), (2, .int (wI w 1 4)), (0, .ref (gz (xG x) + 1)), (1, .ref (gz (xG x) + 12))] []
            obtain ⟨h119, o120⟩ := y116
            have h121 := Ch.tr h113 h119 (by decide) (by decide)
            refine r_aload_n 2 C dX5_readSentence_134 rfl ?_
            refine callVV C cwX5_77_V (ctX5_readEnd_1 _ _ w117 (sS sC h121) o120  ) (by decide) (kS sC h121 kc_1) rfl rfl rfl (Nat.le_of_ble_eq_true rfl) (by decide) dX5_readSentence_135 (fun w123 y122 => ?_)
            show V x 0 0 w123 138 [(3, .int r4), (2, .int (wI w 1 4)), (0, .ref (gz (xG x) + 1)), (1, .ref (gz (xG x) + 12))] []
            obtain ⟨h125, o126⟩ := y122
            have h127 := Ch.tr h121 h125 (by decide) (by decide)
            exact hret _ _ _ dX5_readSentence_138 ⟨h127, o126⟩
          · rcases (show (r4 : Int32).toInt = 4 ∨ (r4 : Int32).toInt = 5 ∨ (r4 : Int32).toInt = 6 ∨ (r4 : Int32).toInt = 7 ∨ (r4 : Int32).toInt = 8 by omega) with c115 | c115 | c115 | c115 | c115
            · refine r_tabIn 88 C dX5_readSentence_54 (by omega) (by omega) (by rw [c115]; rfl) (by decide) ?_
              refine r_aload_n 2 C dX5_readSentence_88 rfl ?_
              refine r_aload_n 3 C dX5_readSentence_89 rfl ?_
              refine callVV C cwX5_58_V (ctX5_readSize_1_12 _ _ w108 (sS sC h113) o111  ) (by decide) (kS sC h113 kc_1) rfl rfl rfl (Nat.le_of_ble_eq_true rfl) (by decide) dX5_readSentence_90 (fun w129 y128 => ?_)
              show V x 0 0 w129 93 [(3, .int r4), (2, .int (wI w 1 4)), (0, .ref (gz (xG x) + 1)), (1, .ref (gz (xG x) + 12))] []
              obtain ⟨h131, o132⟩ := y128
              have h133 := Ch.tr h113 h131 (by decide) (by decide)
              refine r_goto 134 C dX5_readSentence_93 (by decide) ?_
              refine r_aload_n 2 C dX5_readSentence_134 rfl ?_
              refine callVV C cwX5_77_V (ctX5_readEnd_1 _ _ w129 (sS sC h133) o132  ) (by decide) (kS sC h133 kc_1) rfl rfl rfl (Nat.le_of_ble_eq_true rfl) (by decide) dX5_readSentence_135 (fun w135 y134 => ?_)
              show V x 0 0 w135 138 [(3, .int r4), (2, .int (wI w 1 4)), (0, .ref (gz (xG x) + 1)), (1, .ref (gz (xG x) + 12))] []
              obtain ⟨h137, o138⟩ := y134
              have h139 := Ch.tr h133 h137 (by decide) (by decide)
              exact hret _ _ _ dX5_readSentence_138 ⟨h139, o138⟩
            · refine r_tabIn 96 C dX5_readSentence_54 (by omega) (by omega) (by rw [c115]; rfl) (by decide) ?_
              refine r_aload_n 2 C dX5_readSentence_96 rfl ?_
              refine r_aload_n 3 C dX5_readSentence_97 rfl ?_
              refine callVV C cwX5_61_V (ctX5_readCrowd_1_12 _ _ w108 (sS sC h113) o111  ) (by decide) (kS sC h113 kc_1) rfl rfl rfl (Nat.le_of_ble_eq_true rfl) (by decide) dX5_readSentence_98 (fun w141 y140 => ?_)
              show V x 0 0 w141 101 [(3, .int r4), (2, .int (wI w 1 4)), (0, .ref (gz (xG x) + 1)), (1, .ref (gz (xG x) + 12))] []
              obtain ⟨h143, o144⟩ := y140
              have h145 := Ch.tr h113 h143 (by decide) (by decide)
              refine r_goto 134 C dX5_readSentence_101 (by decide) ?_
              refine r_aload_n 2 C dX5_readSentence_134 rfl ?_
              refine callVV C cwX5_77_V (ctX5_readEnd_1 _ _ w141 (sS sC h145) o144  ) (by decide) (kS sC h145 kc_1) rfl rfl rfl (Nat.le_of_ble_eq_true rfl) (by decide) dX5_readSentence_135 (fun w147 y146 => ?_)
              show V x 0 0 w147 138 [(3, .int r4), (2, .int (wI w 1 4)), (0, .ref (gz (xG x) + 1)), (1, .ref (gz (xG x) + 12))] []
              obtain ⟨h149, o150⟩ := y146
              have h151 := Ch.tr h145 h149 (by decide) (by decide)
              exact hret _ _ _ dX5_readSentence_138 ⟨h151, o150⟩
            · refine r_tabIn 104 C dX5_readSentence_54 (by omega) (by omega) (by rw [c115]; rfl) (by decide) ?_
              refine r_aload_n 2 C dX5_readSentence_104 rfl ?_
              refine r_aload_n 3 C dX5_readSentence_105 rfl ?_
              refine callVV C cwX5_64_V (ctX5_readTune_1_12 _ _ w108 (sS sC h113) o111  ) (by decide) (kS sC h113 kc_1) rfl rfl rfl (Nat.le_of_ble_eq_true rfl) (by decide) dX5_readSentence_106 (fun w153 y152 => ?_)
              show V x 0 0 w153 109 [(3, .int r4), (2, .int (wI w 1 4)), (0, .ref (gz (xG x) + 1)), (1, .ref (gz (xG x) + 12))] []
              obtain ⟨h155, o156⟩ := y152
              have h157 := Ch.tr h113 h155 (by decide) (by decide)
              refine r_goto 134 C dX5_readSentence_109 (by decide) ?_
              refine r_aload_n 2 C dX5_readSentence_134 rfl ?_
              refine callVV C cwX5_77_V (ctX5_readEnd_1 _ _ w153 (sS sC h157) o156  ) (by decide) (kS sC h157 kc_1) rfl rfl rfl (Nat.le_of_ble_eq_true rfl) (by decide) dX5_readSentence_135 (fun w159 y158 => ?_)
              show V x 0 0 w159 138 [(3, .int r4), (2, .int (wI w 1 4)), (0, .ref (gz (xG x) + 1)), (1, .ref (gz (xG x) + 12))] []
              obtain ⟨h161, o162⟩ := y158
              have h163 := Ch.tr h157 h161 (by decide) (by decide)
              exact hret _ _ _ dX5_readSentence_138 ⟨h163, o162⟩
            · refine r_tabIn 112 C dX5_readSentence_54 (by omega) (by omega) (by rw [c115]; rfl) (by decide) ?_
              refine r_aload_n 2 C dX5_readSentence_112 rfl ?_
              refine r_aload_n 3 C dX5_readSentence_113 rfl ?_
              refine callVV C cwX5_67_V (ctX5_readPiper_1_12 _ _ w108 (sS sC h113) o111  ) (by decide) (kS sC h113 kc_1) rfl rfl rfl (Nat.le_of_ble_eq_true rfl) (by decide) dX5_readSentence_114 (fun w165 y164 => ?_)
              show V x 0 0 w165 117 [(3, .int r4), (2, .int (wI w 1 4)), (0, .ref (gz (xG x) + 1)), (1, .ref (gz (xG x) + 12))] []
              obtain ⟨h167, o168⟩ := y164
              have h169 := Ch.tr h113 h167 (by decide) (by decide)
              refine r_goto 134 C dX5_readSentence_117 (by decide) ?_
              refine r_aload_n 2 C dX5_readSentence_134 rfl ?_
              refine callVV C cwX5_77_V (ctX5_readEnd_1 _ _ w165 (sS sC h169) o168  ) (by decide) (kS sC h169 kc_1) rfl rfl rfl (Nat.le_of_ble_eq_true rfl) (by decide) dX5_readSentence_135 (fun w171 y170 => ?_)
              show V x 0 0 w171 138 [(3, .int r4), (2, .int (wI w 1 4)), (0, .ref (gz (xG x) + 1)), (1, .ref (gz (xG x) + 12))] []
              obtain ⟨h173, o174⟩ := y170
              have h175 := Ch.tr h169 h173 (by decide) (by decide)
              exact hret _ _ _ dX5_readSentence_138 ⟨h175, o174⟩
            · refine r_tabIn 120 C dX5_readSentence_54 (by omega) (by omega) (by rw [c115]; rfl) (by decide) ?_
              refine r_aload_n 2 C dX5_readSentence_120 rfl ?_
              refine r_aload_n 3 C dX5_readSentence_121 rfl ?_
              refine callVV C cwX5_70_V (ctX5_readPay_1_12 _ _ w108 (sS sC h113) o111  ) (by decide) (kS sC h113 kc_1) rfl rfl rfl (Nat.le_of_ble_eq_true rfl) (by decide) dX5_readSentence_122 (fun w177 y176 => ?_)
              show V x 0 0 w177 125 [(3, .int r4), (2, .int (wI w 1 4)), (0, .ref (gz (xG x) + 1)), (1, .ref (gz (xG x) + 12))] []
              obtain ⟨h179, o180⟩ := y176
              have h181 := Ch.tr h113 h179 (by decide) (by decide)
              refine r_goto 134 C dX5_readSentence_125 (by decide) ?_
              refine r_aload_n 2 C dX5_readSentence_134 rfl ?_
              refine callVV C cwX5_77_V (ctX5_readEnd_1 _ _ w177 (sS sC h181) o180  ) (by decide) (kS sC h181 kc_1) rfl rfl rfl (Nat.le_of_ble_eq_true rfl) (by decide) dX5_readSentence_135 (fun w183 y182 => ?_)
              show V x 0 0 w183 138 [(3, .int r4), (2, .int (wI w 1 4)), (0, .ref (gz (xG x) + 1)), (1, .ref (gz (xG x) + 12))] []
              obtain ⟨h185, o186⟩ := y182
              have h187 := Ch.tr h181 h185 (by decide) (by decide)
              exact hret _ _ _ dX5_readSentence_138 ⟨h187, o186⟩
        · have c114' := i_ne c114
          refine r_aload_n 2 C dX5_readSentence_44 rfl ?_
          refine r_iconst (v := 3) C dX5_readSentence_45 (by decide) ?_
          refine r_iload_n 1 C dX5_readSentence_46 rfl ?_
          refine callVV C cwX5_43_V (ctX5_blame_1 _ _ w108 (sS sC h113) o111 3 (wI w 1 4) (by omega)) (by decide) (kS sC h113 kc_1) rfl rfl rfl (Nat.le_of_ble_eq_true rfl) (by decide) dX5_readSentence_47 (fun w189 y188 => ?_)
          show V x 0 0 w189 50 [(3, .int r4), (2, .int (wI w 1 4)), (0, .ref (gz (xG x) + 1)), (1, .ref (gz (xG x) + 12))] []
          obtain ⟨h191, o192, f193⟩ := y188
          have h194 := Ch.tr h113 h191 (by decide) (by decide)
          refine r_goto 138 C dX5_readSentence_50 (by decide) ?_
          exact hret _ _ _ dX5_readSentence_138 ⟨h194, o192⟩
      · have c106' := i_ne c106
        refine r_aload_n 2 C dX5_readSentence_27 rfl ?_
        refine r_iconst (v := 1) C dX5_readSentence_28 (by decide) ?_
        refine r_iload_n 1 C dX5_readSentence_29 rfl ?_
        refine callVV C cwX5_43_V (ctX5_blame_1 _ _ w3 (sS sC h7) o6 1 (wI w 1 4) (by omega)) (by decide) (kS sC h7 kc_1) rfl rfl rfl (Nat.le_of_ble_eq_true rfl) (by decide) dX5_readSentence_30 (fun w196 y195 => ?_)
        show V x 0 0 w196 33 [(3, .int r4), (2, .int (wI w 1 4)), (0, .ref (gz (xG x) + 1)), (1, .ref (gz (xG x) + 12))] []
        obtain ⟨h198, o199, f200⟩ := y195
        have h201 := Ch.tr h7 h198 (by decide) (by decide)
        refine r_goto 138 C dX5_readSentence_33 (by decide) ?_
        exact hret _ _ _ dX5_readSentence_138 ⟨h201, o199⟩
set_option maxHeartbeats 4000000 in
set_option maxRecDepth 100000 in
theorem ctX5_read_1_12 (l : Launch) (G : Gt) (w : Wv) (sC : Str KC XC w) (o0 : Inv RC w)  : CtI l G yX5_read cX5_read 3 .boolean ({ frames := 9, cells := 0, slots := 0, locals := 208 } : Room) [.ref (gz G + 1), .ref (gz G + 12)] w (fun r w' => Ch [13, 14, 15, 16, 17, 18, 19, 20] [(1, 1), (1, 2), (1, 4), (1, 5), (12, 0), (12, 1), (12, 2), (12, 3), (12, 4), (12, 5), (12, 6), (12, 7), (12, 8)] w w' ∧ Inv RC w' ∧ ((0 ≤ r.toInt ∧ r.toInt ≤ 1))) := by
  refine enterI (by decide) (Nat.le_of_ble_eq_true rfl) ?_
  intro x el eG C hret
  subst el; subst eG
  show V x 0 0 w 0 [(0, .ref (gz (xG x) + 1)), (1, .ref (gz (xG x) + 12))] []
  have h0 : Ch [13, 14, 15, 16, 17, 18, 19, 20] [(1, 1), (1, 2), (1, 4), (1, 5), (12, 0), (12, 1), (12, 2), (12, 3), (12, 4), (12, 5), (12, 6), (12, 7), (12, 8)] w w := Ch.rf
  have qm1 : ((-1) : Int32).toInt = (-1) := by decide
  have q0 : (0 : Int32).toInt = 0 := by decide
  have q1 : (1 : Int32).toInt = 1 := by decide
  have q500 : (500 : Int32).toInt = 500 := by decide
  have LP26 : ∀ (f27 : Nat) (u25 : Int32) (w28 : Wv), Ch [13, 14, 15, 16, 17, 18, 19, 20] [(1, 1), (1, 2), (1, 4), (1, 5), (12, 0), (12, 1), (12, 2), (12, 3), (12, 4), (12, 5), (12, 6), (12, 7), (12, 8)] w w28 → Inv RC w28 → (0 ≤ u25.toInt ∧ u25.toInt ≤ 2147483647) → 2147483647 - u25.toInt < f27 → V x 0 0 w28 25 [(0, .ref (gz (xG x) + 1)), (1, .ref (gz (xG x) + 12)), (2, .int u25)] [] := by
    intro f27
    induction f27 with
    | zero => intro u25 w28 h29 o30 z31 z32; exfalso; omega
    | succ f27 ih33 =>
      intro u25 w28 h29 o30 z31 z32
      refine r_iload_n 2 C dX5_read_25 rfl ?_
      refine r_sipush (v := 500) C dX5_read_26 (by decide) ?_
      have k35 := i_rng u25
      refine r_icmp_ge 65 C dX5_read_29 (by decide) (fun c34 => ?_) (fun c34 => ?_)
      · have c34' := i_le c34
        refine r_aload_n 1 C dX5_read_65 rfl ?_
        refine gfX5_40 (v := (wI w28 12 0)) C (kS sC h29 kc_12) rfl dX5_read_66 ?_
        have b36 := Inv.get o30 rt_12_0 (j := 0) (by decide) (by decide)
        refine r_if_ne 88 C dX5_read_69 (by decide) (fun c37 => ?_) (fun c37 => ?_)
        · have c37' := i_ne c37
          refine r_aload_n 1 C dX5_read_88 rfl ?_
          refine callVV C cwX5_47_V (ctX9_placePiperIfUntold_12 _ _ w28 (sS sC h29) o30  ) (by decide) (kS sC h29 kc_12) rfl rfl rfl (Nat.le_of_ble_eq_true rfl) (by decide) dX5_read_89 (fun w39 y38 => ?_)
          show V x 0 0 w39 92 [(0, .ref (gz (xG x) + 1)), (1, .ref (gz (xG x) + 12)), (2, .int u25)] []
          obtain ⟨h41, o42⟩ := y38
          have h43 := Ch.tr h29 h41 (by decide) (by decide)
          refine r_aload_n 0 C dX5_read_92 rfl ?_
          refine gfX5_30 (v := (wI w28 1 1)) C (kS sC h43 kc_1) (h41.I (by decide) (by decide) rfl) dX5_read_93 ?_
          refine r_if_ne 103 C dX5_read_96 (by decide) (fun c44 => ?_) (fun c44 => ?_)
          · have c44' := i_ne c44
            refine r_iconst (v := 0) C dX5_read_103 (by decide) ?_
            exact hret _ _ _ _ dX5_read_104 (nar_z (z_of (by omega))) ⟨h43, o42, by omega⟩
          · have c44' := i_eq c44
            refine r_iconst (v := 1) C dX5_read_99 (by decide) ?_
            refine r_goto 104 C dX5_read_100 (by decide) ?_
            exact hret _ _ _ _ dX5_read_104 (nar_z (z_of (by omega))) ⟨h43, o42, by omega⟩
        · have c37' := i_eq c37
          refine r_aload_n 0 C dX5_read_72 rfl ?_
          refine gfX5_19 (v := (wI w 1 0)) C (kS sC h29 kc_1) (h29.I (by decide) (by decide) rfl) dX5_read_73 ?_
          have b45 := Inv.get o0 rt_1_0 (j := 0) (by decide) (by decide)
          refine r_if_le 88 C dX5_read_76 (by decide) (fun c46 => ?_) (fun c46 => ?_)
          · have c46' := i_le c46
            refine r_aload_n 1 C dX5_read_88 rfl ?_
            refine callVV C cwX5_47_V (ctX9_placePiperIfUntold_12 _ _ w28 (sS sC h29) o30  ) (by decide) (kS sC h29 kc_12) rfl rfl rfl (Nat.le_of_ble_eq_true rfl) (by decide) dX5_read_89 (fun w48 y47 => ?_)
            show V x 0 0 w48 92 [(0, .ref (gz (xG x) + 1)), (1, .ref (gz (xG x) + 12)), (2, .int u25)] []
            obtain ⟨h50, o51⟩ := y47
            have h52 := Ch.tr h29 h50 (by decide) (by decide)
            refine r_aload_n 0 C dX5_read_92 rfl ?_
            refine gfX5_30 (v := (wI w28 1 1)) C (kS sC h52 kc_1) (h50.I (by decide) (by decide) rfl) dX5_read_93 ?_
            refine r_if_ne 103 C dX5_read_96 (by decide) (fun c53 => ?_) (fun c53 => ?_)
            · have c53' := i_ne c53
              refine r_iconst (v := 0) C dX5_read_103 (by decide) ?_
              exact hret _ _ _ _ dX5_read_104 (nar_z (z_of (by omega))) ⟨h52, o51, by omega⟩
            · have c53' := i_eq c53
              refine r_iconst (v := 1) C dX5_read_99 (by decide) ?_
              refine r_goto 104 C dX5_read_100 (by decide) ?_
              exact hret _ _ _ _ dX5_read_104 (nar_z (z_of (by omega))) ⟨h52, o51, by omega⟩
          · have c46' := i_nle c46
            refine r_aload_n 0 C dX5_read_79 rfl ?_
            refine r_iconst (v := 1) C dX5_read_80 (by decide) ?_
            refine r_aload_n 0 C dX5_read_81 rfl ?_
            refine gfX5_19 (v := (wI w 1 0)) C (kS sC h29 kc_1) (h29.I (by decide) (by decide) rfl) dX5_read_82 ?_
            refine callVV C cwX5_43_V (ctX5_blame_1 _ _ w28 (sS sC h29) o30 1 (wI w 1 0) (by omega)) (by decide) (kS sC h29 kc_1) rfl rfl rfl (Nat.le_of_ble_eq_true rfl) (by decide) dX5_read_85 (fun w55 y54 => ?_)
            show V x 0 0 w55 88 [(0, .ref (gz (xG x) + 1)), (1, .ref (gz (xG x) + 12)), (2, .int u25)] []
            obtain ⟨h57, o58, f59⟩ := y54
            have h60 := Ch.tr h29 h57 (by decide) (by decide)
            refine r_aload_n 1 C dX5_read_88 rfl ?_
            refine callVV C cwX5_47_V (ctX9_placePiperIfUntold_12 _ _ w55 (sS sC h60) o58  ) (by decide) (kS sC h60 kc_12) rfl rfl rfl (Nat.le_of_ble_eq_true rfl) (by decide) dX5_read_89 (fun w62 y61 => ?_)
            show V x 0 0 w62 92 [(0, .ref (gz (xG x) + 1)), (1, .ref (gz (xG x) + 12)), (2, .int u25)] []
            obtain ⟨h64, o65⟩ := y61
            have h66 := Ch.tr h60 h64 (by decide) (by decide)
            refine r_aload_n 0 C dX5_read_92 rfl ?_
            refine gfX5_30 (v := (wI w55 1 1)) C (kS sC h66 kc_1) (h64.I (by decide) (by decide) rfl) dX5_read_93 ?_
            refine r_if_ne 103 C dX5_read_96 (by decide) (fun c67 => ?_) (fun c67 => ?_)
            · have c67' := i_ne c67
              refine r_iconst (v := 0) C dX5_read_103 (by decide) ?_
              exact hret _ _ _ _ dX5_read_104 (nar_z (z_of (by omega))) ⟨h66, o65, by omega⟩
            · have c67' := i_eq c67
              refine r_iconst (v := 1) C dX5_read_99 (by decide) ?_
              refine r_goto 104 C dX5_read_100 (by decide) ?_
              exact hret _ _ _ _ dX5_read_104 (nar_z (z_of (by omega))) ⟨h66, o65, by omega⟩
      · have c34' := i_nle c34
        refine r_aload_n 0 C dX5_read_32 rfl ?_
        refine gfX5_27 (v := (wI w28 1 4)) C (kS sC h29 kc_1) rfl dX5_read_33 ?_
        have b68 := Inv.get o30 rt_1_4 (j := 4) (by decide) (by decide)
        refine r_aload_n 0 C dX5_read_36 rfl ?_
        refine gfX5_19 (v := (wI w 1 0)) C (kS sC h29 kc_1) (h29.I (by decide) (by decide) rfl) dX5_read_37 ?_
        have b69 := Inv.get o0 rt_1_0 (j := 0) (by decide) (by decide)
        refine r_icmp_ge 65 C dX5_read_40 (by decide) (fun c70 => ?_) (fun c70 => ?_)
        · have c70' := i_le c70
          refine r_aload_n 1 C dX5_read_65 rfl ?_
          refine gfX5_40 (v := (wI w28 12 0)) C (kS sC h29 kc_12) rfl dX5_read_66 ?_
          have b71 := Inv.get o30 rt_12_0 (j := 0) (by decide) (by decide)
          refine r_if_ne 88 C dX5_read_69 (by decide) (fun c72 => ?_) (fun c72 => ?_)
          · have c72' := i_ne c72
            refine r_aload_n 1 C dX5_read_88 rfl ?_
            refine callVV C cwX5_47_V (ctX9_placePiperIfUntold_12 _ _ w28 (sS sC h29) o30  ) (by decide) (kS sC h29 kc_12) rfl rfl rfl (Nat.le_of_ble_eq_true rfl) (by decide) dX5_read_89 (fun w74 y73 => ?_)
            show V x 0 0 w74 92 [(0, .ref (gz (xG x) + 1)), (1, .ref (gz (xG x) + 12)), (2, .int u25)] []
            obtain ⟨h76, o77⟩ := y73
            have h78 := Ch.tr h29 h76 (by decide) (by decide)
            refine r_aload_n 0 C dX5_read_92 rfl ?_
            refine gfX5_30 (v := (wI w28 1 1)) C (kS sC h78 kc_1) (h76.I (by decide) (by decide) rfl) dX5_read_93 ?_
            refine r_if_ne 103 C dX5_read_96 (by decide) (fun c79 => ?_) (fun c79 => ?_)
            · have c79' := i_ne c79
              refine r_iconst (v := 0) C dX5_read_103 (by decide) ?_
              exact hret _ _ _ _ dX5_read_104 (nar_z (z_of (by omega))) ⟨h78, o77, by omega⟩
            · have c79' := i_eq c79
              refine r_iconst (v := 1) C dX5_read_99 (by decide) ?_
              refine r_goto 104 C dX5_read_100 (by decide) ?_
              exact hret _ _ _ _ dX5_read_104 (nar_z (z_of (by omega))) ⟨h78, o77, by omega⟩
          · have c72' := i_eq c72
            refine r_aload_n 0 C dX5_read_72 rfl ?_
            refine gfX5_19 (v := (wI w 1 0)) C (kS sC h29 kc_1) (h29.I (by decide) (by decide) rfl) dX5_read_73 ?_
            refine r_if_le 88 C dX5_read_76 (by decide) (fun c80 => ?_) (fun c80 => ?_)
            · have c80' := i_le c80
              refine r_aload_n 1 C dX5_read_88 rfl ?_
              refine callVV C cwX5_47_V (ctX9_placePiperIfUntold_12 _ _ w28 (sS sC h29) o30  ) (by decide) (kS sC h29 kc_12) rfl rfl rfl (Nat.le_of_ble_eq_true rfl) (by decide) dX5_read_89 (fun w82 y81 => ?_)
              show V x 0 0 w82 92 [(0, .ref (gz (xG x) + 1)), (1, .ref (gz (xG x) + 12)), (2, .int u25)] []
              obtain ⟨h84, o85⟩ := y81
              have h86 := Ch.tr h29 h84 (by decide) (by decide)
              refine r_aload_n 0 C dX5_read_92 rfl ?_
              refine gfX5_30 (v := (wI w28 1 1)) C (kS sC h86 kc_1) (h84.I (by decide) (by decide) rfl) dX5_read_93 ?_
              refine r_if_ne 103 C dX5_read_96 (by decide) (fun c87 => ?_) (fun c87 => ?_)
              · have c87' := i_ne c87
                refine r_iconst (v := 0) C dX5_read_103 (by decide) ?_
                exact hret _ _ _ _ dX5_read_104 (nar_z (z_of (by omega))) ⟨h86, o85, by omega⟩
              · have c87' := i_eq c87
                refine r_iconst (v := 1) C dX5_read_99 (by decide) ?_
                refine r_goto 104 C dX5_read_100 (by decide) ?_
                exact hret _ _ _ _ dX5_read_104 (nar_z (z_of (by omega))) ⟨h86, o85, by omega⟩
            · have c80' := i_nle c80
              refine r_aload_n 0 C dX5_read_79 rfl ?_
              refine r_iconst (v := 1) C dX5_read_80 (by decide) ?_
              refine r_aload_n 0 C dX5_read_81 rfl ?_
              refine gfX5_19 (v := (wI w 1 0)) C (kS sC h29 kc_1) (h29.I (by decide) (by decide) rfl) dX5_read_82 ?_
              refine callVV C cwX5_43_V (ctX5_blame_1 _ _ w28 (sS sC h29) o30 1 (wI w 1 0) (by omega)) (by decide) (kS sC h29 kc_1) rfl rfl rfl (Nat.le_of_ble_eq_true rfl) (by decide) dX5_read_85 (fun w89 y88 => ?_)
              show V x 0 0 w89 88 [(0, .ref (gz (xG x) + 1)), (1, .ref (gz (xG x) + 12)), (2, .int u25)] []
              obtain ⟨h91, o92, f93⟩ := y88
              have h94 := Ch.tr h29 h91 (by decide) (by decide)
              refine r_aload_n 1 C dX5_read_88 rfl ?_
              refine callVV C cwX5_47_V (ctX9_placePiperIfUntold_12 _ _ w89 (sS sC h94) o92  ) (by decide) (kS sC h94 kc_12) rfl rfl rfl (Nat.le_of_ble_eq_true rfl) (by decide) dX5_read_89 (fun w96 y95 => ?_)
              show V x 0 0 w96 92 [(0, .ref (gz (xG x) + 1)), (1, .ref (gz (xG x) + 12)), (2, .int u25)] []
              obtain ⟨h98, o99⟩ := y95
              have h100 := Ch.tr h94 h98 (by decide) (by decide)
              refine r_aload_n 0 C dX5_read_92 rfl ?_
              refine gfX5_30 (v := (wI w89 1 1)) C (kS sC h100 kc_1) (h98.I (by decide) (by decide) rfl) dX5_read_93 ?_
              refine r_if_ne 103 C dX5_read_96 (by decide) (fun c101 => ?_) (fun c101 => ?_)
              · have c101' := i_ne c101
                refine r_iconst (v := 0) C dX5_read_103 (by decide) ?_
                exact hret _ _ _ _ dX5_read_104 (nar_z (z_of (by omega))) ⟨h100, o99, by omega⟩
              · have c101' := i_eq c101
                refine r_iconst (v := 1) C dX5_read_99 (by decide) ?_
                refine r_goto 104 C dX5_read_100 (by decide) ?_
                exact hret _ _ _ _ dX5_read_104 (nar_z (z_of (by omega))) ⟨h100, o99, by omega⟩
        · have c70' := i_nle c70
          refine r_aload_n 0 C dX5_read_43 rfl ?_
          refine gfX5_30 (v := (wI w28 1 1)) C (kS sC h29 kc_1) rfl dX5_read_44 ?_
          refine r_if_ne 65 C dX5_read_47 (by decide) (fun c102 => ?_) (fun c102 => ?_)
          · have c102' := i_ne c102
            refine r_aload_n 1 C dX5_read_65 rfl ?_
            refine gfX5_40 (v := (wI w28 12 0)) C (kS sC h29 kc_12) rfl dX5_read_66 ?_
            have b103 := Inv.get o30 rt_12_0 (j := 0) (by decide) (by decide)
            refine r_if_ne 88 C dX5_read_69 (by decide) (fun c104 => ?_) (fun c104 => ?_)
            · have c104' := i_ne c104
              refine r_aload_n 1 C dX5_read_88 rfl ?_
              refine callVV C cwX5_47_V (ctX9_placePiperIfUntold_12 _ _ w28 (sS sC h29) o30  ) (by decide) (kS sC h29 kc_12) rfl rfl rfl (Nat.le_of_ble_eq_true rfl) (by decide) dX5_read_89 (fun w106 y105 => ?_)
              show V x 0 0 w106 92 [(0, .ref (gz (xG x) + 1)), (1, .ref (gz (xG x) + 12)), (2, .int u25)] []
              obtain ⟨h108, o109⟩ := y105
              have h110 := Ch.tr h29 h108 (by decide) (by decide)
              refine r_aload_n 0 C dX5_read_92 rfl ?_
              refine gfX5_30 (v := (wI w28 1 1)) C (kS sC h110 kc_1) (h108.I (by decide) (by decide) rfl) dX5_read_93 ?_
              refine r_if_ne 103 C dX5_read_96 (by decide) (fun c111 => ?_) (fun c111 => ?_)
              · have c111' := i_ne c111
                refine r_iconst (v := 0) C dX5_read_103 (by decide) ?_
                exact hret _ _ _ _ dX5_read_104 (nar_z (z_of (by omega))) ⟨h110, o109, by omega⟩
              · have c111' := i_eq c111
                refine r_iconst (v := 1) C dX5_read_99 (by decide) ?_
                refine r_goto 104 C dX5_read_100 (by decide) ?_
                exact hret _ _ _ _ dX5_read_104 (nar_z (z_of (by omega))) ⟨h110, o109, by omega⟩
            · have c104' := i_eq c104
              refine r_aload_n 0 C dX5_read_72 rfl ?_
              refine gfX5_19 (v := (wI w 1 0)) C (kS sC h29 kc_1) (h29.I (by decide) (by decide) rfl) dX5_read_73 ?_
              refine r_if_le 88 C dX5_read_76 (by decide) (fun c112 => ?_) (fun c112 => ?_)
              · have c112' := i_le c112
                refine r_aload_n 1 C dX5_read_88 rfl ?_
                refine callVV C cwX5_47_V (ctX9_placePiperIfUntold_12 _ _ w28 (sS sC h29) o30  ) (by decide) (kS sC h29 kc_12) rfl rfl rfl (Nat.le_of_ble_eq_true rfl) (by decide) dX5_read_89 (fun w114 y113 => ?_)
                show V x 0 0 w114 92 [(0, .ref (gz (xG x) + 1)), (1, .ref (gz (xG x) + 12)), (2, .int u25)] []
                obtain ⟨h116, o117⟩ := y113
                have h118 := Ch.tr h29 h116 (by decide) (by decide)
                refine r_aload_n 0 C dX5_read_92 rfl ?_
                refine gfX5_30 (v := (wI w28 1 1)) C (kS sC h118 kc_1) (h116.I (by decide) (by decide) rfl) dX5_read_93 ?_
                refine r_if_ne 103 C dX5_read_96 (by decide) (fun c119 => ?_) (fun c119 => ?_)
                · have c119' := i_ne c119
                  refine r_iconst (v := 0) C dX5_read_103 (by decide) ?_
                  exact hret _ _ _ _ dX5_read_104 (nar_z (z_of (by omega))) ⟨h118, o117, by omega⟩
                · have c119' := i_eq c119
                  refine r_iconst (v := 1) C dX5_read_99 (by decide) ?_
                  refine r_goto 104 C dX5_read_100 (by decide) ?_
                  exact hret _ _ _ _ dX5_read_104 (nar_z (z_of (by omega))) ⟨h118, o117, by omega⟩
              · have c112' := i_nle c112
                refine r_aload_n 0 C dX5_read_79 rfl ?_
                refine r_iconst (v := 1) C dX5_read_80 (by decide) ?_
                refine r_aload_n 0 C dX5_read_81 rfl ?_
                refine gfX5_19 (v := (wI w 1 0)) C (kS sC h29 kc_1) (h29.I (by decide) (by decide) rfl) dX5_read_82 ?_
                refine callVV C cwX5_43_V (ctX5_blame_1 _ _ w28 (sS sC h29) o30 1 (wI w 1 0) (by omega)) (by decide) (kS sC h29 kc_1) rfl rfl rfl (Nat.le_of_ble_eq_true rfl) (by decide) dX5_read_85 (fun w121 y120 => ?_)
                show V x 0 0 w121 88 [(0, .ref (gz (xG x) + 1)), (1, .ref (gz (xG x) + 12)), (2, .int u25)] []
                obtain ⟨h123, o124, f125⟩ := y120
                have h126 := Ch.tr h29 h123 (by decide) (by decide)
                refine r_aload_n 1 C dX5_read_88 rfl ?_
                refine callVV C cwX5_47_V (ctX9_placePiperIfUntold_12 _ _ w121 (sS sC h126) o124  ) (by decide) (kS sC h126 kc_12) rfl rfl rfl (Nat.le_of_ble_eq_true rfl) (by decide) dX5_read_89 (fun w128 y127 => ?_)
                show V x 0 0 w128 92 [(0, .ref (gz (xG x) + 1)), (1, .ref (gz (xG x) + 12)), (2, .int u25)] []
                obtain ⟨h130, o131⟩ := y127
                have h132 := Ch.tr h126 h130 (by decide) (by decide)
                refine r_aload_n 0 C dX5_read_92 rfl ?_
                refine gfX5_30 (v := (wI w121 1 1)) C (kS sC h132 kc_1) (h130.I (by decide) (by decide) rfl) dX5_read_93 ?_
                refine r_if_ne 103 C dX5_read_96 (by decide) (fun c133 => ?_) (fun c133 => ?_)
                · have c133' := i_ne c133
                  refine r_iconst (v := 0) C dX5_read_103 (by decide) ?_
                  exact hret _ _ _ _ dX5_read_104 (nar_z (z_of (by omega))) ⟨h132, o131, by omega⟩
                · have c133' := i_eq c133
                  refine r_iconst (v := 1) C dX5_read_99 (by decide) ?_
                  refine r_goto 104 C dX5_read_100 (by decide) ?_
                  exact hret _ _ _ _ dX5_read_104 (nar_z (z_of (by omega))) ⟨h132, o131, by omega⟩
          · have c102' := i_eq c102
            refine r_aload_n 0 C dX5_read_50 rfl ?_
            refine r_aload_n 1 C dX5_read_51 rfl ?_
            refine callVV C cwX5_36_V (ctX5_readSentence_1_12 _ _ w28 (sS sC h29) o30  ) (by decide) (kS sC h29 kc_1) rfl rfl rfl (Nat.le_of_ble_eq_true rfl) (by decide) dX5_read_52 (fun w135 y134 => ?_)
            show V x 0 0 w135 55 [(0, .ref (gz (xG x) + 1)), (1, .ref (gz (xG x) + 12)), (2, .int u25)] []
            obtain ⟨h137, o138⟩ := y134
            have h139 := Ch.tr h29 h137 (by decide) (by decide)
            refine r_aload_n 0 C dX5_read_55 rfl ?_
            refine callVV C cwX5_33_V (ctX5_skipBlanks_1 _ _ w135 (sS sC h139) o138  ) (by decide) (kS sC h139 kc_1) rfl rfl rfl (Nat.le_of_ble_eq_true rfl) (by decide) dX5_read_56 (fun w141 y140 => ?_)
            show V x 0 0 w141 59 [(0, .ref (gz (xG x) + 1)), (1, .ref (gz (xG x) + 12)), (2, .int u25)] []
            obtain ⟨h143, o144⟩ := y140
            have h145 := Ch.tr h139 h143 (by decide) (by decide)
            obtain ⟨i146, e147⟩ : ∃ z : Int32, u25 + Int32.ofInt 1 = z := ⟨_, rfl⟩
            have i146' := iinc_ok e147 (by decide) (by omega) (by omega)
            refine r_iinc [(2, .int i146), (0, .ref (gz (xG x) + 1)), (1, .ref (gz (xG x) + 12))] 2 C dX5_read_59 rfl e147 (by decide) rfl ?_
            refine r_goto 25 C dX5_read_62 (by decide) ?_
            refine r_lv [1, 2, 0] rfl ?_
            exact ih33 i146 w141 h145 o144 (by omega) (by omega)
  refine r_aload_n 1 C dX5_read_0 rfl ?_
  refine callVV C cwX5_22_V (ctX9_clear_12 _ _ w (sS sC h0) o0  ) (by decide) (kS sC h0 kc_12) rfl rfl rfl (Nat.le_of_ble_eq_true rfl) (by decide) dX5_read_1 (fun w2 y1 => ?_)
  show V x 0 0 w2 4 [(0, .ref (gz (xG x) + 1)), (1, .ref (gz (xG x) + 12))] []
  obtain ⟨h4, o5⟩ := y1
  have h6 := Ch.tr h0 h4 (by decide) (by decide)
  refine r_aload_n 0 C dX5_read_4 rfl ?_
  refine r_iconst (v := 0) C dX5_read_5 (by decide) ?_
  refine pfX5_27 C (kS sC h6 kc_1) dX5_read_6 (fun w7 e8 => ?_)
  have h9 := Ch.putF h6 e8 (by decide)
  have o10 := Inv.put o5 e8 0 500 (by omega) (by decide)
  refine r_aload_n 0 C dX5_read_9 rfl ?_
  refine r_iconst (v := 0) C dX5_read_10 (by decide) ?_
  refine pfX5_30 C (kS sC h9 kc_1) dX5_read_11 (fun w11 e12 => ?_)
  have h13 := Ch.putF h9 e12 (by decide)
  have o14 := Inv.putk o10 e12 (by decide)
  refine r_aload_n 0 C dX5_read_14 rfl ?_
  refine r_iconst (v := (-1)) C dX5_read_15 (by decide) ?_
  refine pfX5_9 C (kS sC h13 kc_1) dX5_read_16 (fun w15 e16 => ?_)
  have h17 := Ch.putF h13 e16 (by decide)
  have o18 := Inv.putk o14 e16 (by decide)
  refine r_aload_n 0 C dX5_read_19 rfl ?_
  refine callVV C cwX5_33_V (ctX5_skipBlanks_1 _ _ w15 (sS sC h17) o18  ) (by decide) (kS sC h17 kc_1) rfl rfl rfl (Nat.le_of_ble_eq_true rfl) (by decide) dX5_read_20 (fun w20 y19 => ?_)
  show V x 0 0 w20 23 [(0, .ref (gz (xG x) + 1)), (1, .ref (gz (xG x) + 12))] []
  obtain ⟨h22, o23⟩ := y19
  have h24 := Ch.tr h17 h22 (by decide) (by decide)
  refine r_iconst (v := 0) C dX5_read_23 (by decide) ?_
  refine r_istore_n [(2, .int 0), (0, .ref (gz (xG x) + 1)), (1, .ref (gz (xG x) + 12))] C dX5_read_24 (by decide) rfl ?_
  refine r_lv [1, 2, 0] rfl ?_
  exact LP26 4294967296 0 w20 h24 o23 (by omega) (by omega)
set_option maxHeartbeats 4000000 in
set_option maxRecDepth 100000 in
theorem ctX10_isCrowd_0 (l : Launch) (G : Gt) (w : Wv) (sC : Str KC XC w) (o0 : Inv RC w) (a1 : Int32) : CtI l G yX10_isCrowd cX10_isCrowd 2 .boolean ({ frames := 0, cells := 0, slots := 0, locals := 0 } : Room) [.ref (gz G + 0), .int a1] w (fun r w' => Ch [] [] w w' ∧ Inv RC w' ∧ ((0 ≤ r.toInt ∧ r.toInt ≤ 1) ∧ (r.toInt = 1 → (0 ≤ a1.toInt ∧ a1.toInt ≤ 5)))) := by
  refine enterI (by decide) (Nat.le_of_ble_eq_true rfl) ?_
  intro x el eG C hret
  subst el; subst eG
  show V x 0 0 w 0 [(0, .ref (gz (xG x) + 0)), (1, .int a1)] []
  have h0 : Ch [] [] w w := Ch.rf
  have q0 : (0 : Int32).toInt = 0 := by decide
  have q1 : (1 : Int32).toInt = 1 := by decide
  refine r_iload_n 1 C dX10_isCrowd_0 rfl ?_
  refine r_if_lt 19 C dX10_isCrowd_1 (by decide) (fun c1 => ?_) (fun c1 => ?_)
  · have c1' := i_lt c1
    refine r_iconst (v := 0) C dX10_isCrowd_19 (by decide) ?_
    exact hret _ _ _ _ dX10_isCrowd_20 (nar_z (z_of (by omega))) ⟨h0, o0, by omega⟩
  · have c1' := i_nlt c1
    refine r_iload_n 1 C dX10_isCrowd_4 rfl ?_
    refine r_aload_n 0 C dX10_isCrowd_5 rfl ?_
    refine gfX10_19 3 C (kS sC h0 kc_0) (xS sC h0 xc_0_1) dX10_isCrowd_6 ?_
    refine gfX10_129 (v := (wI w 3 3)) C (kS sC h0 kc_3) rfl dX10_isCrowd_9 ?_
    have b2 := Inv.get o0 rt_3_3 (j := 3) (by decide) (by decide)
    have k4 := i_rng a1
    refine r_icmp_ge 19 C dX10_isCrowd_12 (by decide) (fun c3 => ?_) (fun c3 => ?_)
    · have c3' := i_le c3
      refine r_iconst (v := 0) C dX10_isCrowd_19 (by decide) ?_
      exact hret _ _ _ _ dX10_isCrowd_20 (nar_z (z_of (by omega))) ⟨h0, o0, by omega⟩
    · have c3' := i_nle c3
      refine r_iconst (v := 1) C dX10_isCrowd_15 (by decide) ?_
      refine r_goto 20 C dX10_isCrowd_16 (by decide) ?_
      exact hret _ _ _ _ dX10_isCrowd_20 (nar_z (z_of (by omega))) ⟨h0, o0, by omega⟩
set_option maxHeartbeats 4000000 in
set_option maxRecDepth 100000 in
theorem ctX10_isTune_0 (l : Launch) (G : Gt) (w : Wv) (sC : Str KC XC w) (o0 : Inv RC w) (a1 : Int32) : CtI l G yX10_isTune cX10_isTune 2 .boolean ({ frames := 0, cells := 0, slots := 0, locals := 0 } : Room) [.ref (gz G + 0), .int a1] w (fun r w' => Ch [] [] w w' ∧ Inv RC w' ∧ ((0 ≤ r.toInt ∧ r.toInt ≤ 1) ∧ (r.toInt = 1 → (0 ≤ a1.toInt ∧ a1.toInt ≤ 2)))) := by
  refine enterI (by decide) (Nat.le_of_ble_eq_true rfl) ?_
  intro x el eG C hret
  subst el; subst eG
  show V x 0 0 w 0 [(0, .ref (gz (xG x) + 0)), (1, .int a1)] []
  have h0 : Ch [] [] w w := Ch.rf
  have q0 : (0 : Int32).toInt = 0 := by decide
  have q1 : (1 : Int32).toInt = 1 := by decide
  refine r_iload_n 1 C dX10_isTune_0 rfl ?_
  refine r_if_lt 19 C dX10_isTune_1 (by decide) (fun c1 => ?_) (fun c1 => ?_)
  · have c1' := i_lt c1
    refine r_iconst (v := 0) C dX10_isTune_19 (by decide) ?_
    exact hret _ _ _ _ dX10_isTune_20 (nar_z (z_of (by omega))) ⟨h0, o0, by omega⟩
  · have c1' := i_nlt c1
    refine r_iload_n 1 C dX10_isTune_4 rfl ?_
    refine r_aload_n 0 C dX10_isTune_5 rfl ?_
    refine gfX10_19 3 C (kS sC h0 kc_0) (xS sC h0 xc_0_1) dX10_isTune_6 ?_
    refine gfX10_132 (v := (wI w 3 4)) C (kS sC h0 kc_3) rfl dX10_isTune_9 ?_
    have b2 := Inv.get o0 rt_3_4 (j := 4) (by decide) (by decide)
    have k4 := i_rng a1
    refine r_icmp_ge 19 C dX10_isTune_12 (by decide) (fun c3 => ?_) (fun c3 => ?_)
    · have c3' := i_le c3
      refine r_iconst (v := 0) C dX10_isTune_19 (by decide) ?_
      exact hret _ _ _ _ dX10_isTune_20 (nar_z (z_of (by omega))) ⟨h0, o0, by omega⟩
    · have c3' := i_nle c3
      refine r_iconst (v := 1) C dX10_isTune_15 (by decide) ?_
      refine r_goto 20 C dX10_isTune_16 (by decide) ?_
      exact hret _ _ _ _ dX10_isTune_20 (nar_z (z_of (by omega))) ⟨h0, o0, by omega⟩
set_option maxHeartbeats 4000000 in
set_option maxRecDepth 100000 in
theorem ctX10_isTuneOrNone_0 (l : Launch) (G : Gt) (w : Wv) (sC : Str KC XC w) (o0 : Inv RC w) (a1 : Int32) : CtI l G yX10_isTuneOrNone cX10_isTuneOrNone 2 .boolean ({ frames := 1, cells := 0, slots := 0, locals := 21 } : Room) [.ref (gz G + 0), .int a1] w (fun r w' => Ch [] [] w w' ∧ Inv RC w' ∧ ((0 ≤ r.toInt ∧ r.toInt ≤ 1))) := by
  refine enterI (by decide) (Nat.le_of_ble_eq_true rfl) ?_
  intro x el eG C hret
  subst el; subst eG
  show V x 0 0 w 0 [(0, .ref (gz (xG x) + 0)), (1, .int a1)] []
  have h0 : Ch [] [] w w := Ch.rf
  have qm1 : ((-1) : Int32).toInt = (-1) := by decide
  have q0 : (0 : Int32).toInt = 0 := by decide
  have q1 : (1 : Int32).toInt = 1 := by decide
  refine r_iload_n 1 C dX10_isTuneOrNone_0 rfl ?_
  refine r_iconst (v := (-1)) C dX10_isTuneOrNone_1 (by decide) ?_
  refine r_icmp_eq 13 C dX10_isTuneOrNone_2 (by decide) (fun c1 => ?_) (fun c1 => ?_)
  · have c1' := i_eq c1
    refine r_iconst (v := 1) C dX10_isTuneOrNone_13 (by decide) ?_
    refine r_goto 18 C dX10_isTuneOrNone_14 (by decide) ?_
    exact hret _ _ _ _ dX10_isTuneOrNone_18 (nar_z (z_of (by omega))) ⟨h0, o0, by omega⟩
  · have c1' := i_ne c1
    refine r_aload_n 0 C dX10_isTuneOrNone_5 rfl ?_
    refine r_iload_n 1 C dX10_isTuneOrNone_6 rfl ?_
    refine callVI C cwX10_190_V (ctX10_isTune_0 _ _ w (sS sC h0) o0 a1 ) (by decide) (kS sC h0 kc_0) rfl rfl rfl (Nat.le_of_ble_eq_true rfl) (by decide) dX10_isTuneOrNone_7 (fun r4 w3 y2 => ?_)
    show V x 0 0 w3 10 [(0, .ref (gz (xG x) + 0)), (1, .int a1)] [.int r4]
    obtain ⟨h5, o6, g7⟩ := y2
    have h8 := Ch.tr h0 h5 (by decide) (by decide)
    refine r_if_eq 17 C dX10_isTuneOrNone_10 (by decide) (fun c9 => ?_) (fun c9 => ?_)
    · have c9' := i_eq c9
      refine r_iconst (v := 0) C dX10_isTuneOrNone_17 (by decide) ?_
      exact hret _ _ _ _ dX10_isTuneOrNone_18 (nar_z (z_of (by omega))) ⟨h8, o6, by omega⟩
    · have c9' := i_ne c9
      refine r_iconst (v := 1) C dX10_isTuneOrNone_13 (by decide) ?_
      refine r_goto 18 C dX10_isTuneOrNone_14 (by decide) ?_
      exact hret _ _ _ _ dX10_isTuneOrNone_18 (nar_z (z_of (by omega))) ⟨h8, o6, by omega⟩
set_option maxHeartbeats 4000000 in
set_option maxRecDepth 100000 in
theorem ctX10_begin_0 (l : Launch) (G : Gt) (w : Wv) (sC : Str KC XC w) (o0 : Inv RC w)  : CtV l G yX10_begin cX10_begin 2 ({ frames := 3, cells := 0, slots := 0, locals := 66 } : Room) [.ref (gz G + 0)] w (fun w' => Ch [22, 23, 24, 26, 29, 30, 31, 33, 36, 37] [(21, 0), (21, 2), (21, 3), (28, 0), (28, 2), (28, 3), (35, 0), (35, 1), (44, 0), (47, 0), (55, 7), (104, 0), (109, 0)] w w' ∧ Inv RC w') := by
  refine enterV (by decide) (Nat.le_of_ble_eq_true rfl) ?_
  intro x el eG C hnm hret
  subst el; subst eG
  show V x 0 0 w 0 [(0, .ref (gz (xG x) + 0))] []
  have h0 : Ch [22, 23, 24, 26, 29, 30, 31, 33, 36, 37] [(21, 0), (21, 2), (21, 3), (28, 0), (28, 2), (28, 3), (35, 0), (35, 1), (44, 0), (47, 0), (55, 7), (104, 0), (109, 0)] w w := Ch.rf
  have q0 : (0 : Int32).toInt = 0 := by decide
  have q1 : (1 : Int32).toInt = 1 := by decide
  have q2 : (2 : Int32).toInt = 2 := by decide
  have LP34 : ∀ (f35 : Nat) (u33 : Int32) (w36 : Wv), Ch [22, 23, 24, 26, 29, 30, 31, 33, 36, 37] [(21, 0), (21, 2), (21, 3), (28, 0), (28, 2), (28, 3), (35, 0), (35, 1), (44, 0), (47, 0), (55, 7), (104, 0), (109, 0)] w w36 → Inv RC w36 → (0 ≤ u33.toInt ∧ u33.toInt ≤ 2147483647) → 2147483647 - u33.toInt < f35 → V x 0 0 w36 54 [(0, .ref (gz (xG x) + 0)), (1, .int u33)] [] := by
    intro f35
    induction f35 with
    | zero => intro u33 w36 h37 o38 z39 z40; exfalso; omega
    | succ f35 ih41 =>
      intro u33 w36 h37 o38 z39 z40
      refine r_iload_n 1 C dX10_begin_54 rfl ?_
      refine r_iconst (v := 2) C dX10_begin_55 (by decide) ?_
      have k43 := i_rng u33
      refine r_icmp_ge 75 C dX10_begin_56 (by decide) (fun c42 => ?_) (fun c42 => ?_)
      · have c42' := i_le c42
        exact hret _ _ _ dX10_begin_75 ⟨h37, o38⟩
      · have c42' := i_nle c42
        refine r_aload_n 0 C dX10_begin_59 rfl ?_
        refine gfX10_92 103 C (kS sC h37 kc_0) (xS sC h37 xc_0_13) dX10_begin_60 ?_
        refine r_iload_n 1 C dX10_begin_63 rfl ?_
        rcases (show u33.toInt = 0 ∨ u33.toInt = 1 by omega) with c44 | c44
        · obtain rfl : u33 = 0 := i_of (by omega)
          refine r_aald 4 rfl C (kS sC h37 kc_103) (vin (by omega) (by omega)) (xS sC h37 xc_103_0) dX10_begin_64 ?_
          refine r_iconst (v := 0) C dX10_begin_65 (by decide) ?_
          refine pfX10_270 C (kS sC h37 kc_104) (z_of (by omega)) dX10_begin_66 (fun w45 e46 => ?_)
          have h47 := Ch.putF h37 e46 (by decide)
          have o48 := Inv.putk o38 e46 (by decide)
          obtain ⟨i49, e50⟩ : ∃ z : Int32, 0 + Int32.ofInt 1 = z := ⟨_, rfl⟩
          have i49' := iinc_ok e50 (by decide) (by omega) (by omega)
          obtain rfl : i49 = 1 := i_of (by omega)
          refine r_iinc [(1, .int 1), (0, .ref (gz (xG x) + 0))] 1 C dX10_begin_69 rfl e50 (by decide) rfl ?_
          refine r_goto 54 C dX10_begin_72 (by decide) ?_
          refine r_lv [1, 0] rfl ?_
          exact ih41 1 w45 h47 o48 (by omega) (by omega)
        · obtain rfl : u33 = 1 := i_of (by omega)
          refine r_aald 4 rfl C (kS sC h37 kc_103) (vin (by omega) (by omega)) (xS sC h37 xc_103_1) dX10_begin_64 ?_
          refine r_iconst (v := 0) C dX10_begin_65 (by decide) ?_
          refine pfX10_270 C (kS sC h37 kc_109) (z_of (by omega)) dX10_begin_66 (fun w51 e52 => ?_)
          have h53 := Ch.putF h37 e52 (by decide)
          have o54 := Inv.putk o38 e52 (by decide)
          obtain ⟨i55, e56⟩ : ∃ z : Int32, 1 + Int32.ofInt 1 = z := ⟨_, rfl⟩
          have i55' := iinc_ok e56 (by decide) (by omega) (by omega)
          obtain rfl : i55 = 2 := i_of (by omega)
          refine r_iinc [(1, .int 2), (0, .ref (gz (xG x) + 0))] 1 C dX10_begin_69 rfl e56 (by decide) rfl ?_
          refine r_goto 54 C dX10_begin_72 (by decide) ?_
          refine r_lv [1, 0] rfl ?_
          exact ih41 2 w51 h53 o54 (by omega) (by omega)
  refine r_aload_n 0 C dX10_begin_0 rfl ?_
  refine gfX10_29 21 C (kS sC h0 kc_0) (xS sC h0 xc_0_3) dX10_begin_1 ?_
  refine r_aload_n 0 C dX10_begin_4 rfl ?_
  refine gfX10_19 3 C (kS sC h0 kc_0) (xS sC h0 xc_0_1) dX10_begin_5 ?_
  refine callVV C cwX10_279_V (ctX1_lay_21_3 _ _ w (sS sC h0) o0  ) (by decide) (kS sC h0 kc_21) rfl rfl rfl (Nat.le_of_ble_eq_true rfl) (by decide) dX10_begin_8 (fun w2 y1 => ?_)
  show V x 0 0 w2 11 [(0, .ref (gz (xG x) + 0))] []
  obtain ⟨h4, o5⟩ := y1
  have h6 := Ch.tr h0 h4 (by decide) (by decide)
  refine r_aload_n 0 C dX10_begin_11 rfl ?_
  refine gfX10_33 28 C (kS sC h6 kc_0) (xS sC h6 xc_0_4) dX10_begin_12 ?_
  refine r_aload_n 0 C dX10_begin_15 rfl ?_
  refine gfX10_19 3 C (kS sC h6 kc_0) (xS sC h6 xc_0_1) dX10_begin_16 ?_
  refine callVV C cwX10_279_V (ctX1_lay_28_3 _ _ w2 (sS sC h6) o5  ) (by decide) (kS sC h6 kc_28) rfl rfl rfl (Nat.le_of_ble_eq_true rfl) (by decide) dX10_begin_19 (fun w8 y7 => ?_)
  show V x 0 0 w8 22 [(0, .ref (gz (xG x) + 0))] []
  obtain ⟨h10, o11⟩ := y7
  have h12 := Ch.tr h6 h10 (by decide) (by decide)
  refine r_aload_n 0 C dX10_begin_22 rfl ?_
  refine gfX10_41 35 C (kS sC h12 kc_0) (xS sC h12 xc_0_5) dX10_begin_23 ?_
  refine callVV C cwX10_283_V (ctX6_begin_35 _ _ w8 (sS sC h12) o11  ) (by decide) (kS sC h12 kc_35) rfl rfl rfl (Nat.le_of_ble_eq_true rfl) (by decide) dX10_begin_26 (fun w14 y13 => ?_)
  show V x 0 0 w14 29 [(0, .ref (gz (xG x) + 0))] []
  obtain ⟨h16, o17⟩ := y13
  have h18 := Ch.tr h12 h16 (by decide) (by decide)
  refine r_aload_n 0 C dX10_begin_29 rfl ?_
  refine gfX10_54 44 C (kS sC h18 kc_0) (xS sC h18 xc_0_8) dX10_begin_30 ?_
  refine r_iconst (v := 0) C dX10_begin_33 (by decide) ?_
  refine pfX10_156 C (kS sC h18 kc_44) dX10_begin_34 (fun w19 e20 => ?_)
  have h21 := Ch.putF h18 e20 (by decide)
  have o22 := Inv.put o17 e20 0 30 (by omega) (by decide)
  refine r_aload_n 0 C dX10_begin_37 rfl ?_
  refine gfX10_61 47 C (kS sC h21 kc_0) (xS sC h21 xc_0_9) dX10_begin_38 ?_
  refine r_iconst (v := 0) C dX10_begin_41 (by decide) ?_
  refine pfX10_157 C (kS sC h21 kc_47) dX10_begin_42 (fun w23 e24 => ?_)
  have h25 := Ch.putF h21 e24 (by decide)
  have o26 := Inv.put o22 e24 0 10 (by omega) (by decide)
  refine r_aload_n 0 C dX10_begin_45 rfl ?_
  refine gfX10_77 55 C (kS sC h25 kc_0) (xS sC h25 xc_0_11) dX10_begin_46 ?_
  refine callVV C cwX10_219_V (ctX8_forget_55 _ _ w23 (sS sC h25) o26  ) (by decide) (kS sC h25 kc_55) rfl rfl rfl (Nat.le_of_ble_eq_true rfl) (by decide) dX10_begin_49 (fun w28 y27 => ?_)
  show V x 0 0 w28 52 [(0, .ref (gz (xG x) + 0))] []
  obtain ⟨h30, o31⟩ := y27
  have h32 := Ch.tr h25 h30 (by decide) (by decide)
  refine r_iconst (v := 0) C dX10_begin_52 (by decide) ?_
  refine r_istore_n [(1, .int 0), (0, .ref (gz (xG x) + 0))] C dX10_begin_53 (by decide) rfl ?_
  refine r_lv [1, 0] rfl ?_
  exact LP34 4294967296 0 w28 h32 o31 (by omega) (by omega)
set_option maxHeartbeats 4000000 in
set_option maxRecDepth 100000 in
theorem ctX10_draw_0 (l : Launch) (G : Gt) (w : Wv) (sC : Str KC XC w) (o0 : Inv RC w) (a1 : Int32) : CtI l G yX10_draw cX10_draw 2 .int ({ frames := 0, cells := 0, slots := 0, locals := 0 } : Room) [.ref (gz G + 0), .int a1] w (fun r w' => Ch [] [(0, 14)] w w' ∧ Inv RC w') := by
  refine enterI (by decide) (Nat.le_of_ble_eq_true rfl) ?_
  intro x el eG C hret
  subst el; subst eG
  show V x 0 0 w 0 [(0, .ref (gz (xG x) + 0)), (1, .int a1)] []
  have h0 : Ch [] [(0, 14)] w w := Ch.rf
  have q0 : (0 : Int32).toInt = 0 := by decide
  have q65536 : (65536 : Int32).toInt = 65536 := by decide
  have ql12345 : (12345 : Int64).toInt = 12345 := by decide
  have ql1103515245 : (1103515245 : Int64).toInt = 1103515245 := by decide
  have ql2147483647 : (2147483647 : Int64).toInt = 2147483647 := by decide
  refine r_aload_n 0 C dX10_draw_0 rfl ?_
  refine r_aload_n 0 C dX10_draw_1 rfl ?_
  refine gfX10_260 (v := (wI w 0 14)) C (kS sC h0 kc_0) rfl dX10_draw_2 ?_
  refine r_i2l C dX10_draw_5 (fun v1 e2 => ?_)
  have v1' := i2l_ok e2
  refine r_ldc2 C mw4_66 dX10_draw_6 ?_
  refine r_lmul C dX10_draw_9 (fun v3 e4 => ?_)
  refine r_ldc2 C mw4_67 dX10_draw_10 ?_
  refine r_ladd C dX10_draw_13 (fun v5 e6 => ?_)
  refine r_ldc2 C mw4_68 dX10_draw_14 ?_
  refine r_land C dX10_draw_17 (fun v7 e8 => ?_)
  refine r_l2i C dX10_draw_18 (fun v9 e10 => ?_)
  refine pfX10_260 C (kS sC h0 kc_0) dX10_draw_19 (fun w11 e12 => ?_)
  have h13 := Ch.putF h0 e12 (by decide)
  have o14 := Inv.putk o0 e12 (by decide)
  refine r_iload_n 1 C dX10_draw_22 rfl ?_
  refine r_if_le 39 C dX10_draw_23 (by decide) (fun c15 => ?_) (fun c15 => ?_)
  · have c15' := i_le c15
    refine r_iconst (v := 0) C dX10_draw_39 (by decide) ?_
    exact hret _ _ _ _ dX10_draw_40 rfl ⟨h13, o14⟩
  · have c15' := i_nle c15
    refine r_aload_n 0 C dX10_draw_26 rfl ?_
    refine gfX10_260 (v := v9) C (kS sC h13 kc_0) (g_eq e12) dX10_draw_27 ?_
    refine r_ldcw C mw4_69 dX10_draw_30 ?_
    refine r_idiv C dX10_draw_33 (fun q => by have q := i_eq q; omega) (fun v16 e17 => ?_)
    refine r_iload_n 1 C dX10_draw_34 rfl ?_
    refine r_irem C dX10_draw_35 (fun q => by have q := i_eq q; omega) (fun v18 e19 => ?_)
    refine r_goto 40 C dX10_draw_36 (by decide) ?_
    exact hret _ _ _ _ dX10_draw_40 rfl ⟨h13, o14⟩
set_option maxHeartbeats 4000000 in
set_option maxRecDepth 100000 in
theorem ctX10_tryPlan_0 (l : Launch) (G : Gt) (w : Wv) (sC : Str KC XC w) (o0 : Inv RC w) (a1 : Int32) : CtI l G yX10_tryPlan cX10_tryPlan 2 .int ({ frames := 5, cells := 0, slots := 0, locals := 123 } : Room) [.ref (gz G + 0), .int a1] w (fun r w' => Ch [25, 26, 27, 39, 40] [(38, 0), (38, 1)] w w' ∧ Inv RC w') := by
  refine enterI (by decide) (Nat.le_of_ble_eq_true rfl) ?_
  intro x el eG C hret
  subst el; subst eG
  show V x 0 0 w 0 [(0, .ref (gz (xG x) + 0)), (1, .int a1)] []
  have h0 : Ch [25, 26, 27, 39, 40] [(38, 0), (38, 1)] w w := Ch.rf
  refine r_aload_n 0 C dX10_tryPlan_0 rfl ?_
  refine gfX10_45 38 C (kS sC h0 kc_0) (xS sC h0 xc_0_6) dX10_tryPlan_1 ?_
  refine r_aload_n 0 C dX10_tryPlan_4 rfl ?_
  refine gfX10_41 35 C (kS sC h0 kc_0) (xS sC h0 xc_0_5) dX10_tryPlan_5 ?_
  refine callVV C cwX10_291_V (ctX6_copy_38_35 _ _ w (sS sC h0) o0  ) (by decide) (kS sC h0 kc_38) rfl rfl rfl (Nat.le_of_ble_eq_true rfl) (by decide) dX10_tryPlan_8 (fun w2 y1 => ?_)
  show V x 0 0 w2 11 [(0, .ref (gz (xG x) + 0)), (1, .int a1)] []
  obtain ⟨h4, o5⟩ := y1
  have h6 := Ch.tr h0 h4 (by decide) (by decide)
  refine r_aload_n 0 C dX10_tryPlan_11 rfl ?_
  refine gfX10_54 44 C (kS sC h6 kc_0) (xS sC h6 xc_0_8) dX10_tryPlan_12 ?_
  refine r_aload_n 0 C dX10_tryPlan_15 rfl ?_
  refine gfX10_45 38 C (kS sC h6 kc_0) (xS sC h6 xc_0_6) dX10_tryPlan_16 ?_
  refine r_iload_n 1 C dX10_tryPlan_19 rfl ?_
  refine callVI C cwX10_294_V (ctX4_run_44_38 _ _ w2 (sS sC h6) o5 a1 ) (by decide) (kS sC h6 kc_44) rfl rfl rfl (Nat.le_of_ble_eq_true rfl) (by decide) dX10_tryPlan_20 (fun r9 w8 y7 => ?_)
  show V x 0 0 w8 23 [(0, .ref (gz (xG x) + 0)), (1, .int a1)] [.int r9]
  obtain ⟨h10, o11⟩ := y7
  have h12 := Ch.tr h6 h10 (by decide) (by decide)
  exact hret _ _ _ _ dX10_tryPlan_23 rfl ⟨h12, o11⟩
set_option maxHeartbeats 4000000 in
set_option maxRecDepth 100000 in
theorem ctX10_outBehindWall_0 (l : Launch) (G : Gt) (w : Wv) (sC : Str KC XC w) (o0 : Inv RC w) (a1 : Int32) (a2 : Int32) : CtI l G yX10_outBehindWall cX10_outBehindWall 3 .int ({ frames := 5, cells := 0, slots := 0, locals := 123 } : Room) [.ref (gz G + 0), .int a1, .int a2] w (fun r w' => Ch [29, 32, 33, 34, 42, 43] [(41, 0), (41, 1)] w w' ∧ Inv RC w') := by
  refine enterI (by decide) (Nat.le_of_ble_eq_true rfl) ?_
  intro x el eG C hret
  subst el; subst eG
  show V x 0 0 w 0 [(0, .ref (gz (xG x) + 0)), (1, .int a1), (2, .int a2)] []
  have h0 : Ch [29, 32, 33, 34, 42, 43] [(41, 0), (41, 1)] w w := Ch.rf
  have q0 : (0 : Int32).toInt = 0 := by decide
  have q1 : (1 : Int32).toInt = 1 := by decide
  have q30 : (30 : Int32).toInt = 30 := by decide
  refine r_aload_n 0 C dX10_outBehindWall_0 rfl ?_
  refine gfX10_33 28 C (kS sC h0 kc_0) (xS sC h0 xc_0_4) dX10_outBehindWall_1 ?_
  refine r_iload_n 1 C dX10_outBehindWall_4 rfl ?_
  refine r_iconst (v := 1) C dX10_outBehindWall_5 (by decide) ?_
  refine callVV C cwX10_225_V (ctX1_put_28 _ _ w (sS sC h0) o0 a1 1 ) (by decide) (kS sC h0 kc_28) rfl rfl rfl (Nat.le_of_ble_eq_true rfl) (by decide) dX10_outBehindWall_6 (fun w2 y1 => ?_)
  show V x 0 0 w2 9 [(0, .ref (gz (xG x) + 0)), (1, .int a1), (2, .int a2)] []
  obtain ⟨h4, o5⟩ := y1
  have h6 := Ch.tr h0 h4 (by decide) (by decide)
  refine r_aload_n 0 C dX10_outBehindWall_9 rfl ?_
  refine gfX10_48 41 C (kS sC h6 kc_0) (xS sC h6 xc_0_7) dX10_outBehindWall_10 ?_
  refine r_aload_n 0 C dX10_outBehindWall_13 rfl ?_
  refine gfX10_41 35 C (kS sC h6 kc_0) (xS sC h6 xc_0_5) dX10_outBehindWall_14 ?_
  refine callVV C cwX10_291_V (ctX6_copy_41_35 _ _ w2 (sS sC h6) o5  ) (by decide) (kS sC h6 kc_41) rfl rfl rfl (Nat.le_of_ble_eq_true rfl) (by decide) dX10_outBehindWall_17 (fun w8 y7 => ?_)
  show V x 0 0 w8 20 [(0, .ref (gz (xG x) + 0)), (1, .int a1), (2, .int a2)] []
  obtain ⟨h10, o11⟩ := y7
  have h12 := Ch.tr h6 h10 (by decide) (by decide)
  refine r_aload_n 0 C dX10_outBehindWall_20 rfl ?_
  refine gfX10_54 44 C (kS sC h12 kc_0) (xS sC h12 xc_0_8) dX10_outBehindWall_21 ?_
  refine r_aload_n 0 C dX10_outBehindWall_24 rfl ?_
  refine gfX10_48 41 C (kS sC h12 kc_0) (xS sC h12 xc_0_7) dX10_outBehindWall_25 ?_
  refine r_bipush (v := 30) C dX10_outBehindWall_28 (by decide) ?_
  refine callVI C cwX10_294_V (ctX4_run_44_41 _ _ w8 (sS sC h12) o11 30 ) (by decide) (kS sC h12 kc_44) rfl rfl rfl (Nat.le_of_ble_eq_true rfl) (by decide) dX10_outBehindWall_30 (fun r15 w14 y13 => ?_)
  show V x 0 0 w14 33 [(0, .ref (gz (xG x) + 0)), (1, .int a1), (2, .int a2)] [.int r15]
  obtain ⟨h16, o17⟩ := y13
  have h18 := Ch.tr h12 h16 (by decide) (by decide)
  refine r_pop C dX10_outBehindWall_33 rfl ?_
  refine r_aload_n 0 C dX10_outBehindWall_34 rfl ?_
  refine gfX10_33 28 C (kS sC h18 kc_0) (xS sC h18 xc_0_4) dX10_outBehindWall_35 ?_
  refine r_iload_n 1 C dX10_outBehindWall_38 rfl ?_
  refine r_iconst (v := 0) C dX10_outBehindWall_39 (by decide) ?_
  refine callVV C cwX10_225_V (ctX1_put_28 _ _ w14 (sS sC h18) o17 a1 0 ) (by decide) (kS sC h18 kc_28) rfl rfl rfl (Nat.le_of_ble_eq_true rfl) (by decide) dX10_outBehindWall_40 (fun w20 y19 => ?_)
  show V x 0 0 w20 43 [(0, .ref (gz (xG x) + 0)), (1, .int a1), (2, .int a2)] []
  obtain ⟨h22, o23⟩ := y19
  have h24 := Ch.tr h18 h22 (by decide) (by decide)
  refine r_aload_n 0 C dX10_outBehindWall_43 rfl ?_
  refine gfX10_48 41 C (kS sC h24 kc_0) (xS sC h24 xc_0_7) dX10_outBehindWall_44 ?_
  refine r_iload_n 2 C dX10_outBehindWall_47 rfl ?_
  refine r_iconst (v := 1) C dX10_outBehindWall_48 (by decide) ?_
  refine callVI C cwX10_145_V (ctX6_heads_41 _ _ w20 (sS sC h24) o23 a2 1 ) (by decide) (kS sC h24 kc_41) rfl rfl rfl (Nat.le_of_ble_eq_true rfl) (by decide) dX10_outBehindWall_49 (fun r27 w26 y25 => ?_)
  show V x 0 0 w26 52 [(0, .ref (gz (xG x) + 0)), (1, .int a1), (2, .int a2)] [.int r27]
  obtain ⟨h28, o29⟩ := y25
  have h30 := Ch.tr h24 h28 (by decide) (by decide)
  exact hret _ _ _ _ dX10_outBehindWall_52 rfl ⟨h30, o29⟩
set_option maxHeartbeats 4000000 in
set_option maxRecDepth 100000 in
theorem ctX10_feed_0 (l : Launch) (G : Gt) (w : Wv) (sC : Str KC XC w) (o0 : Inv RC w) (u : Int32) (pu : wI w 1 0 = u) (bu : 0 ≤ u.toInt ∧ u.toInt ≤ 500) (a1 : Int32) (a2 : Int64) : CtI l G yX10_feed cX10_feed 5 .int ({ frames := 1, cells := 0, slots := 0, locals := 21 } : Room) [.ref (gz G + 0), .int a1, .long a2] w (fun r w' => Ch [2] [(1, 0)] w w' ∧ Inv RC w' ∧ ((a1.toInt < 1 ∨ 8 < a1.toInt ∨ 500 < u.toInt + a1.toInt) → (wI w' 1 0).toInt = u.toInt) ∧ ((1 ≤ a1.toInt ∧ a1.toInt ≤ 8 ∧ u.toInt + a1.toInt ≤ 500) → (wI w' 1 0).toInt = u.toInt + a1.toInt) ∧ (((a1.toInt < 1 ∨ 8 < a1.toInt) → r.toInt = -1000000002) ∧ ((1 ≤ a1.toInt ∧ a1.toInt ≤ 8 ∧ 500 < u.toInt + a1.toInt) → r.toInt = -1000000004) ∧ ((1 ≤ a1.toInt ∧ a1.toInt ≤ 8 ∧ u.toInt + a1.toInt ≤ 500) → r.toInt = u.toInt + a1.toInt))) := by
  refine enterI (by decide) (Nat.le_of_ble_eq_true rfl) ?_
  intro x el eG C hret
  subst el; subst eG
  show V x 0 0 w 0 [(0, .ref (gz (xG x) + 0)), (1, .int a1), (2, .long a2)] []
  have h0 : Ch [2] [(1, 0)] w w := Ch.rf
  have qm1000000004 : ((-1000000004) : Int32).toInt = (-1000000004) := by decide
  have qm1000000002 : ((-1000000002) : Int32).toInt = (-1000000002) := by decide
  have q0 : (0 : Int32).toInt = 0 := by decide
  have q1 : (1 : Int32).toInt = 1 := by decide
  have q8 : (8 : Int32).toInt = 8 := by decide
  have q255 : (255 : Int32).toInt = 255 := by decide
  have q500 : (500 : Int32).toInt = 500 := by decide
  have LP11 : ∀ (f12 : Nat) (u10 : Int32) (w13 : Wv), Ch [2] [(1, 0)] w w13 → Inv RC w13 → ((-1) ≤ u10.toInt ∧ u10.toInt ≤ 7) → (1 ≤ a1.toInt ∧ a1.toInt ≤ 8) → (u.toInt + a1.toInt ≤ 500 ∧ (wI w13 1 0).toInt = u.toInt + a1.toInt - 1 - u10.toInt ∧ u10.toInt ≤ a1.toInt - 1) → u10.toInt - (-1) < f12 → V x 0 0 w13 37 [(0, .ref (gz (xG x) + 0)), (1, .int a1), (2, .long a2), (4, .int u10)] [] := by
    intro f12
    induction f12 with
    | zero => intro u10 w13 h14 o15 z16 z17 z18 z19; exfalso; omega
    | succ f12 ih20 =>
      intro u10 w13 h14 o15 z16 z17 z18 z19
      refine r_iload 3 C dX10_feed_37 rfl ?_
      refine r_if_lt 67 C dX10_feed_39 (by decide) (fun c21 => ?_) (fun c21 => ?_)
      · have c21' := i_lt c21
        refine r_aload_n 0 C dX10_feed_67 rfl ?_
        refine gfX10_10 1 C (kS sC h14 kc_0) (xS sC h14 xc_0_0) dX10_feed_68 ?_
        refine gfX10_101 (v := (wI w13 1 0)) C (kS sC h14 kc_1) rfl dX10_feed_71 ?_
        have b22 := Inv.get o15 rt_1_0 (j := 0) (by decide) (by decide)
        exact hret _ _ _ _ dX10_feed_74 rfl ⟨h14, o15, (by omega), by omega⟩
      · have c21' := i_nlt c21
        refine r_aload_n 0 C dX10_feed_42 rfl ?_
        refine gfX10_10 1 C (kS sC h14 kc_0) (xS sC h14 xc_0_0) dX10_feed_43 ?_
        refine r_lload_n 2 C dX10_feed_46 rfl ?_
        refine r_bipush (v := 8) C dX10_feed_47 (by decide) ?_
        refine r_iload 3 C dX10_feed_49 rfl ?_
        refine r_imul C dX10_feed_51 (fun v23 e24 => ?_)
        have k25 : (8 : Int32).toInt = 8 := by omega
        have v23' := imul_ok e24 (by rw [k25]; omega) (by rw [k25]; omega)
        rw [k25] at v23'
        refine r_lushr C dX10_feed_52 (fun v26 e27 => ?_)
        refine r_l2i C dX10_feed_53 (fun v28 e29 => ?_)
        refine r_sipush (v := 255) C dX10_feed_54 (by decide) ?_
        refine r_iand C dX10_feed_57 (fun v30 e31 => ?_)
        have v30' := iand_ok e31 8 (by decide) (by decide)
        have b32 := Inv.get o15 rt_1_0 (j := 0) (by decide) (by decide)
        refine callVV C cwX10_106_V (ctX5_add_1 _ _ w13 (sS sC h14) o15 (wI w13 1 0) rfl (by omega) v30 ) (by decide) (kS sC h14 kc_1) rfl rfl rfl (Nat.le_of_ble_eq_true rfl) (by decide) dX10_feed_58 (fun w34 y33 => ?_)
        show V x 0 0 w34 61 [(0, .ref (gz (xG x) + 0)), (1, .int a1), (2, .long a2), (4, .int u10)] []
        obtain ⟨h36, o37, f38⟩ := y33
        have h39 := Ch.tr h14 h36 (by decide) (by decide)
        obtain ⟨i40, e41⟩ : ∃ z : Int32, u10 + Int32.ofInt (-1) = z := ⟨_, rfl⟩
        have i40' := iinc_ok e41 (by decide) (by omega) (by omega)
        refine r_iinc [(4, .int i40), (0, .ref (gz (xG x) + 0)), (1, .int a1), (2, .long a2)] 3 C dX10_feed_61 rfl e41 (by decide) rfl ?_
        refine r_goto 37 C dX10_feed_64 (by decide) ?_
        refine r_lv [1, 2, 3, 0] rfl ?_
        exact ih20 i40 w34 h39 o37 (by omega) (by omega) (by omega) (by omega)
  refine r_iload_n 1 C dX10_feed_0 rfl ?_
  refine r_iconst (v := 1) C dX10_feed_1 (by decide) ?_
  have k2 := i_rng a1
  refine r_icmp_lt 11 C dX10_feed_2 (by decide) (fun c1 => ?_) (fun c1 => ?_)
  · have c1' := i_lt c1
    refine r_ldc C mw2_226 dX10_feed_11 ?_
    exact hret _ _ _ _ dX10_feed_13 rfl ⟨h0, o0, (by rw [pu]; omega), by omega⟩
  · have c1' := i_nlt c1
    refine r_iload_n 1 C dX10_feed_5 rfl ?_
    refine r_bipush (v := 8) C dX10_feed_6 (by decide) ?_
    have k4 := i_rng a1
    refine r_icmp_le 14 C dX10_feed_8 (by decide) (fun c3 => ?_) (fun c3 => ?_)
    · have c3' := i_le c3
      refine r_aload_n 0 C dX10_feed_14 rfl ?_
      refine gfX10_10 1 C (kS sC h0 kc_0) (xS sC h0 xc_0_0) dX10_feed_15 ?_
      refine gfX10_101 (v := u) C (kS sC h0 kc_1) pu dX10_feed_18 ?_
      refine r_iload_n 1 C dX10_feed_21 rfl ?_
      refine r_iadd C dX10_feed_22 (fun v5 e6 => ?_)
      have v5' := iadd_ok e6 (by omega) (by omega)
      refine r_sipush (v := 500) C dX10_feed_23 (by decide) ?_
      refine r_icmp_le 32 C dX10_feed_26 (by decide) (fun c7 => ?_) (fun c7 => ?_)
      · have c7' := i_le c7
        refine r_iload_n 1 C dX10_feed_32 rfl ?_
        refine r_iconst (v := 1) C dX10_feed_33 (by decide) ?_
        refine r_isub C dX10_feed_34 (fun v8 e9 => ?_)
        have v8' := isub_ok e9 (by omega) (by omega)
        refine r_istore [(4, .int v8), (0, .ref (gz (xG x) + 0)), (1, .int a1), (2, .long a2)] C dX10_feed_35 (by decide) rfl ?_
        refine r_lv [1, 2, 3, 0] rfl ?_
        exact LP11 4294967296 v8 w h0 o0 (by omega) (by omega) (by rw [pu]; omega) (by omega)
      · have c7' := i_nle c7
        refine r_ldc C mw2_227 dX10_feed_29 ?_
        exact hret _ _ _ _ dX10_feed_31 rfl ⟨h0, o0, (by rw [pu]; omega), by omega⟩
    · have c3' := i_nle c3
      refine r_ldc C mw2_226 dX10_feed_11 ?_
      exact hret _ _ _ _ dX10_feed_13 rfl ⟨h0, o0, (by rw [pu]; omega), by omega⟩
set_option maxHeartbeats 4000000 in
set_option maxRecDepth 100000 in
theorem ctX10_town_0 (l : Launch) (G : Gt) (w : Wv) (sC : Str KC XC w) (o0 : Inv RC w)  : CtI l G yX10_town cX10_town 2 .int ({ frames := 10, cells := 0, slots := 0, locals := 230 } : Room) [.ref (gz G + 0)] w (fun r w' => Ch [4, 5, 6, 7, 8, 9, 10, 11, 13, 14, 15, 16, 17, 18, 19, 20, 22, 23, 24, 26, 29, 30, 31, 33, 36, 37] [(1, 0), (1, 1), (1, 2), (1, 4), (1, 5), (3, 0), (3, 1), (3, 2), (3, 3), (3, 4), (3, 5), (3, 6), (3, 7), (3, 8), (12, 0), (12, 1), (12, 2), (12, 3), (12, 4), (12, 5), (12, 6), (12, 7), (12, 8), (21, 0), (21, 2), (21, 3), (28, 0), (28, 2), (28, 3), (35, 0), (35, 1), (44, 0), (47, 0), (55, 7), (104, 0), (109, 0)] w w' ∧ Inv RC w' ∧ wI w' 1 0 = 0) := by
  refine enterI (by decide) (Nat.le_of_ble_eq_true rfl) ?_
  intro x el eG C hret
  subst el; subst eG
  show V x 0 0 w 0 [(0, .ref (gz (xG x) + 0))] []
  have h0 : Ch [4, 5, 6, 7, 8, 9, 10, 11, 13, 14, 15, 16, 17, 18, 19, 20, 22, 23, 24, 26, 29, 30, 31, 33, 36, 37] [(1, 0), (1, 1), (1, 2), (1, 4), (1, 5), (3, 0), (3, 1), (3, 2), (3, 3), (3, 4), (3, 5), (3, 6), (3, 7), (3, 8), (12, 0), (12, 1), (12, 2), (12, 3), (12, 4), (12, 5), (12, 6), (12, 7), (12, 8), (21, 0), (21, 2), (21, 3), (28, 0), (28, 2), (28, 3), (35, 0), (35, 1), (44, 0), (47, 0), (55, 7), (104, 0), (109, 0)] w w := Ch.rf
  have qm10 : ((-10) : Int32).toInt = (-10) := by decide
  have q0 : (0 : Int32).toInt = 0 := by decide
  refine r_aload_n 0 C dX10_town_0 rfl ?_
  refine gfX10_10 1 C (kS sC h0 kc_0) (xS sC h0 xc_0_0) dX10_town_1 ?_
  refine r_aload_n 0 C dX10_town_4 rfl ?_
  refine gfX10_23 12 C (kS sC h0 kc_0) (xS sC h0 xc_0_2) dX10_town_5 ?_
  refine callVI C cwX10_110_V (ctX5_read_1_12 _ _ w (sS sC h0) o0  ) (by decide) (kS sC h0 kc_1) rfl rfl rfl (Nat.le_of_ble_eq_true rfl) (by decide) dX10_town_8 (fun r3 w2 y1 => ?_)
  show V x 0 0 w2 11 [(0, .ref (gz (xG x) + 0))] [.int r3]
  obtain ⟨h4, o5, g6⟩ := y1
  have h7 := Ch.tr h0 h4 (by decide) (by decide)
  refine r_istore_n [(1, .int r3), (0, .ref (gz (xG x) + 0))] C dX10_town_11 (by decide) rfl ?_
  refine r_iload_n 0 C dX10_town_12 rfl ?_
  refine r_if_eq 32 C dX10_town_13 (by decide) (fun c8 => ?_) (fun c8 => ?_)
  · have c8' := i_eq c8
    refine r_aload_n 1 C dX10_town_32 rfl ?_
    refine gfX10_10 1 C (kS sC h7 kc_0) (xS sC h7 xc_0_0) dX10_town_33 ?_
    refine r_iconst (v := 0) C dX10_town_36 (by decide) ?_
    refine pfX10_101 C (kS sC h7 kc_1) dX10_town_37 (fun w9 e10 => ?_)
    have h11 := Ch.putF h7 e10 (by decide)
    have o12 := Inv.put o5 e10 0 500 (by omega) (by decide)
    refine r_iload_n 0 C dX10_town_40 rfl ?_
    refine r_if_eq 54 C dX10_town_41 (by decide) (fun c13 => ?_) (fun c13 => ?_)
    · have c13' := i_eq c13
      refine r_bipush (v := (-10)) C dX10_town_54 (by decide) ?_
      refine r_aload_n 1 C dX10_town_56 rfl ?_
      refine gfX10_10 1 C (kS sC h11 kc_0) (xS sC h11 xc_0_0) dX10_town_57 ?_
      refine gfX10_117 (v := (wI w2 1 1)) C (kS sC h11 kc_1) (g_nk e10 (by decide) rfl) dX10_town_60 ?_
      refine r_isub C dX10_town_63 (fun v14 e15 => ?_)
      exact hret _ _ _ _ dX10_town_64 rfl ⟨h11, o12, (g_eq e10)⟩
    · have c13' := i_ne c13
      exfalso; omega
  · have c8' := i_ne c8
    refine r_aload_n 1 C dX10_town_16 rfl ?_
    refine gfX10_10 1 C (kS sC h7 kc_0) (xS sC h7 xc_0_0) dX10_town_17 ?_
    refine r_aload_n 1 C dX10_town_20 rfl ?_
    refine gfX10_19 3 C (kS sC h7 kc_0) (xS sC h7 xc_0_1) dX10_town_21 ?_
    refine callVI C cwX10_110_V (ctX5_read_1_3 _ _ w2 (sS sC h7) o5  ) (by decide) (kS sC h7 kc_1) rfl rfl rfl (Nat.le_of_ble_eq_true rfl) (by decide) dX10_town_24 (fun r18 w17 y16 => ?_)
    show V x 0 0 w17 27 [(1, .int r3), (0, .ref (gz (xG x) + 0))] [.int r18]
    obtain ⟨h19, o20, g21⟩ := y16
    have h22 := Ch.tr h7 h19 (by decide) (by decide)
    refine r_pop C dX10_town_27 rfl ?_
    refine r_aload_n 1 C dX10_town_28 rfl ?_
    refine callVV C cwX10_97_V (ctX10_begin_0 _ _ w17 (sS sC h22) o20  ) (by decide) (kS sC h22 kc_0) rfl rfl rfl (Nat.le_of_ble_eq_true rfl) (by decide) dX10_town_29 (fun w24 y23 => ?_)
    show V x 0 0 w24 32 [(1, .int r3), (0, .ref (gz (xG x) + 0))] []
    obtain ⟨h26, o27⟩ := y23
    have h28 := Ch.tr h22 h26 (by decide) (by decide)
    refine r_aload_n 1 C dX10_town_32 rfl ?_
    refine gfX10_10 1 C (kS sC h28 kc_0) (xS sC h28 xc_0_0) dX10_town_33 ?_
    refine r_iconst (v := 0) C dX10_town_36 (by decide) ?_
    refine pfX10_101 C (kS sC h28 kc_1) dX10_town_37 (fun w29 e30 => ?_)
    have h31 := Ch.putF h28 e30 (by decide)
    have o32 := Inv.put o27 e30 0 500 (by omega) (by decide)
    refine r_iload_n 0 C dX10_town_40 rfl ?_
    refine r_if_eq 54 C dX10_town_41 (by decide) (fun c33 => ?_) (fun c33 => ?_)
    · have c33' := i_eq c33
      exfalso; omega
    · have c33' := i_ne c33
      refine r_aload_n 1 C dX10_town_44 rfl ?_
      refine gfX10_29 21 C (kS sC h31 kc_0) (xS sC h31 xc_0_3) dX10_town_45 ?_
      refine gfX10_114 (v := (wI w24 21 0)) C (kS sC h31 kc_21) (g_nn e30 (by decide) rfl) dX10_town_48 ?_
      have b34 := Inv.get o27 rt_21_0 (j := 0) (by decide) (by decide)
      refine r_goto 64 C dX10_town_51 (by decide) ?_
      exact hret _ _ _ _ dX10_town_64 rfl ⟨h31, o32, (g_eq e30)⟩
set_option maxHeartbeats 4000000 in
set_option maxRecDepth 100000 in
theorem ctX10_fault_0 (l : Launch) (G : Gt) (w : Wv) (sC : Str KC XC w) (o0 : Inv RC w)  : CtI l G yX10_fault cX10_fault 1 .int ({ frames := 0, cells := 0, slots := 0, locals := 0 } : Room) [.ref (gz G + 0)] w (fun r w' => Ch [] [] w w' ∧ Inv RC w') := by
  refine enterI (by decide) (Nat.le_of_ble_eq_true rfl) ?_
  intro x el eG C hret
  subst el; subst eG
  show V x 0 0 w 0 [(0, .ref (gz (xG x) + 0))] []
  have h0 : Ch [] [] w w := Ch.rf
  refine r_aload_n 0 C dX10_fault_0 rfl ?_
  refine gfX10_10 1 C (kS sC h0 kc_0) (xS sC h0 xc_0_0) dX10_fault_1 ?_
  refine gfX10_120 (v := (wI w 1 2)) C (kS sC h0 kc_1) rfl dX10_fault_4 ?_
  exact hret _ _ _ _ dX10_fault_7 rfl ⟨h0, o0⟩
set_option maxHeartbeats 4000000 in
set_option maxRecDepth 100000 in
theorem ctX10_told_0 (l : Launch) (G : Gt) (w : Wv) (sC : Str KC XC w) (o0 : Inv RC w) (a1 : Int32) : CtI l G yX10_told cX10_told 2 .int ({ frames := 3, cells := 0, slots := 0, locals := 67 } : Room) [.ref (gz G + 0), .int a1] w (fun r w' => Ch [] [] w w' ∧ Inv RC w') := by
  refine enterI (by decide) (Nat.le_of_ble_eq_true rfl) ?_
  intro x el eG C hret
  subst el; subst eG
  show V x 0 0 w 0 [(0, .ref (gz (xG x) + 0)), (1, .int a1)] []
  have h0 : Ch [] [] w w := Ch.rf
  have qm1000000002 : ((-1000000002) : Int32).toInt = (-1000000002) := by decide
  have qm1 : ((-1) : Int32).toInt = (-1) := by decide
  have q0 : (0 : Int32).toInt = 0 := by decide
  have q1 : (1 : Int32).toInt = 1 := by decide
  have q2 : (2 : Int32).toInt = 2 := by decide
  refine r_iload_n 1 C dX10_told_0 rfl ?_
  by_cases c1 : (a1 : Int32).toInt < 0 ∨ 12 < (a1 : Int32).toInt
  · refine r_tabOut 197 C dX10_told_1 c1 (by decide) ?_
    refine r_ldc C mw2_226 dX10_told_197 ?_
    exact hret _ _ _ _ dX10_told_199 rfl ⟨h0, o0⟩
  · rcases (show (a1 : Int32).toInt = 0 ∨ (a1 : Int32).toInt = 1 ∨ (a1 : Int32).toInt = 2 ∨ (a1 : Int32).toInt = 3 ∨ (a1 : Int32).toInt = 4 ∨ (a1 : Int32).toInt = 5 ∨ (a1 : Int32).toInt = 6 ∨ (a1 : Int32).toInt = 7 ∨ (a1 : Int32).toInt = 8 ∨ (a1 : Int32).toInt = 9 ∨ (a1 : Int32).toInt = 10 ∨ (a1 : Int32).toInt = 11 ∨ (a1 : Int32).toInt = 12 by omega) with c1 | c1 | c1 | c1 | c1 | c1 | c1 | c1 | c1 | c1 | c1 | c1 | c1
    · refine r_tabIn 68 C dX10_told_1 (by omega) (by omega) (by rw [c1]; rfl) (by decide) ?_
      refine r_aload_n 0 C dX10_told_68 rfl ?_
      refine gfX10_19 3 C (kS sC h0 kc_0) (xS sC h0 xc_0_1) dX10_told_69 ?_
      refine gfX10_123 (v := (wI w 3 0)) C (kS sC h0 kc_3) rfl dX10_told_72 ?_
      have b2 := Inv.get o0 rt_3_0 (j := 0) (by decide) (by decide)
      exact hret _ _ _ _ dX10_told_75 rfl ⟨h0, o0⟩
    · refine r_tabIn 76 C dX10_told_1 (by omega) (by omega) (by rw [c1]; rfl) (by decide) ?_
      refine r_aload_n 0 C dX10_told_76 rfl ?_
      refine gfX10_19 3 C (kS sC h0 kc_0) (xS sC h0 xc_0_1) dX10_told_77 ?_
      refine gfX10_126 (v := (wI w 3 1)) C (kS sC h0 kc_3) rfl dX10_told_80 ?_
      have b3 := Inv.get o0 rt_3_1 (j := 1) (by decide) (by decide)
      exact hret _ _ _ _ dX10_told_83 rfl ⟨h0, o0⟩
    · refine r_tabIn 84 C dX10_told_1 (by omega) (by omega) (by rw [c1]; rfl) (by decide) ?_
      refine r_aload_n 0 C dX10_told_84 rfl ?_
      refine gfX10_19 3 C (kS sC h0 kc_0) (xS sC h0 xc_0_1) dX10_told_85 ?_
      refine gfX10_129 (v := (wI w 3 3)) C (kS sC h0 kc_3) rfl dX10_told_88 ?_
      have b4 := Inv.get o0 rt_3_3 (j := 3) (by decide) (by decide)
      exact hret _ _ _ _ dX10_told_91 rfl ⟨h0, o0⟩
    · refine r_tabIn 92 C dX10_told_1 (by omega) (by omega) (by rw [c1]; rfl) (by decide) ?_
      refine r_aload_n 0 C dX10_told_92 rfl ?_
      refine gfX10_19 3 C (kS sC h0 kc_0) (xS sC h0 xc_0_1) dX10_told_93 ?_
      refine gfX10_132 (v := (wI w 3 4)) C (kS sC h0 kc_3) rfl dX10_told_96 ?_
      have b5 := Inv.get o0 rt_3_4 (j := 4) (by decide) (by decide)
      exact hret _ _ _ _ dX10_told_99 rfl ⟨h0, o0⟩
    · refine r_tabIn 100 C dX10_told_1 (by omega) (by omega) (by rw [c1]; rfl) (by decide) ?_
      refine r_aload_n 0 C dX10_told_100 rfl ?_
      refine gfX10_10 1 C (kS sC h0 kc_0) (xS sC h0 xc_0_0) dX10_told_101 ?_
      refine gfX10_101 (v := (wI w 1 0)) C (kS sC h0 kc_1) rfl dX10_told_104 ?_
      have b6 := Inv.get o0 rt_1_0 (j := 0) (by decide) (by decide)
      exact hret _ _ _ _ dX10_told_107 rfl ⟨h0, o0⟩
    · refine r_tabIn 108 C dX10_told_1 (by omega) (by omega) (by rw [c1]; rfl) (by decide) ?_
      refine r_aload_n 0 C dX10_told_108 rfl ?_
      refine gfX10_41 35 C (kS sC h0 kc_0) (xS sC h0 xc_0_5) dX10_told_109 ?_
      refine gfX10_135 (v := (wI w 35 1)) C (kS sC h0 kc_35) rfl dX10_told_112 ?_
      exact hret _ _ _ _ dX10_told_115 rfl ⟨h0, o0⟩
    · refine r_tabIn 116 C dX10_told_1 (by omega) (by omega) (by rw [c1]; rfl) (by decide) ?_
      refine r_aload_n 0 C dX10_told_116 rfl ?_
      refine gfX10_29 21 C (kS sC h0 kc_0) (xS sC h0 xc_0_3) dX10_told_117 ?_
      refine gfX10_114 (v := (wI w 21 0)) C (kS sC h0 kc_21) rfl dX10_told_120 ?_
      have b7 := Inv.get o0 rt_21_0 (j := 0) (by decide) (by decide)
      refine r_if_ne 130 C dX10_told_123 (by decide) (fun c8 => ?_) (fun c8 => ?_)
      · have c8' := i_ne c8
        refine r_aload_n 0 C dX10_told_130 rfl ?_
        refine gfX10_29 21 C (kS sC h0 kc_0) (xS sC h0 xc_0_3) dX10_told_131 ?_
        refine r_aload_n 0 C dX10_told_134 rfl ?_
        refine gfX10_41 35 C (kS sC h0 kc_0) (xS sC h0 xc_0_5) dX10_told_135 ?_
        refine gfX10_138 (v := (wI w 35 0)) C (kS sC h0 kc_35) rfl dX10_told_138 ?_
        refine callVI C cwX10_141_V (ctX1_code_21 _ _ w (sS sC h0) o0 (wI w 35 0) ) (by decide) (kS sC h0 kc_21) rfl rfl rfl (Nat.le_of_ble_eq_true rfl) (by decide) dX10_told_141 (fun r11 w10 y9 => ?_)
        show V x 0 0 w10 144 [(0, .ref (gz (xG x) + 0)), (1, .int a1)] [.int r11]
        obtain ⟨h12, o13⟩ := y9
        have h14 := Ch.tr h0 h12 (by decide) (by decide)
        exact hret _ _ _ _ dX10_told_144 rfl ⟨h14, o13⟩
      · have c8' := i_eq c8
        refine r_iconst (v := 0) C dX10_told_126 (by decide) ?_
        refine r_goto 144 C dX10_told_127 (by decide) ?_
        exact hret _ _ _ _ dX10_told_144 rfl ⟨h0, o0⟩
    · refine r_tabIn 145 C dX10_told_1 (by omega) (by omega) (by rw [c1]; rfl) (by decide) ?_
      refine r_aload_n 0 C dX10_told_145 rfl ?_
      refine gfX10_41 35 C (kS sC h0 kc_0) (xS sC h0 xc_0_5) dX10_told_146 ?_
      refine r_iconst (v := (-1)) C dX10_told_149 (by decide) ?_
      refine r_iconst (v := 1) C dX10_told_150 (by decide) ?_
      refine callVI C cwX10_145_V (ctX6_heads_35 _ _ w (sS sC h0) o0 (-1) 1 ) (by decide) (kS sC h0 kc_35) rfl rfl rfl (Nat.le_of_ble_eq_true rfl) (by decide) dX10_told_151 (fun r17 w16 y15 => ?_)
      show V x 0 0 w16 154 [(0, .ref (gz (xG x) + 0)), (1, .int a1)] [.int r17]
      obtain ⟨h18, o19⟩ := y15
      have h20 := Ch.tr h0 h18 (by decide) (by decide)
      exact hret _ _ _ _ dX10_told_154 rfl ⟨h20, o19⟩
    · refine r_tabIn 155 C dX10_told_1 (by omega) (by omega) (by rw [c1]; rfl) (by decide) ?_
      refine r_aload_n 0 C dX10_told_155 rfl ?_
      refine gfX10_41 35 C (kS sC h0 kc_0) (xS sC h0 xc_0_5) dX10_told_156 ?_
      refine r_iconst (v := (-1)) C dX10_told_159 (by decide) ?_
      refine r_iconst (v := 2) C dX10_told_160 (by decide) ?_
      refine callVI C cwX10_145_V (ctX6_heads_35 _ _ w (sS sC h0) o0 (-1) 2 ) (by decide) (kS sC h0 kc_35) rfl rfl rfl (Nat.le_of_ble_eq_true rfl) (by decide) dX10_told_161 (fun r23 w22 y21 => ?_)
      show V x 0 0 w22 164 [(0, .ref (gz (xG x) + 0)), (1, .int a1)] [.int r23]
      obtain ⟨h24, o25⟩ := y21
      have h26 := Ch.tr h0 h24 (by decide) (by decide)
      exact hret _ _ _ _ dX10_told_164 rfl ⟨h26, o25⟩
    · refine r_tabIn 165 C dX10_told_1 (by omega) (by omega) (by rw [c1]; rfl) (by decide) ?_
      refine r_aload_n 0 C dX10_told_165 rfl ?_
      refine gfX10_41 35 C (kS sC h0 kc_0) (xS sC h0 xc_0_5) dX10_told_166 ?_
      refine callVI C cwX10_149_V (ctX6_left_35 _ _ w (sS sC h0) o0  ) (by decide) (kS sC h0 kc_35) rfl rfl rfl (Nat.le_of_ble_eq_true rfl) (by decide) dX10_told_169 (fun r29 w28 y27 => ?_)
      show V x 0 0 w28 172 [(0, .ref (gz (xG x) + 0)), (1, .int a1)] [.int r29]
      obtain ⟨h30, o31⟩ := y27
      have h32 := Ch.tr h0 h30 (by decide) (by decide)
      exact hret _ _ _ _ dX10_told_172 rfl ⟨h32, o31⟩
    · refine r_tabIn 173 C dX10_told_1 (by omega) (by omega) (by rw [c1]; rfl) (by decide) ?_
      refine r_aload_n 0 C dX10_told_173 rfl ?_
      refine gfX10_41 35 C (kS sC h0 kc_0) (xS sC h0 xc_0_5) dX10_told_174 ?_
      refine callVI C cwX10_153_V (ctX6_worth_35 _ _ w (sS sC h0) o0  ) (by decide) (kS sC h0 kc_35) rfl rfl rfl (Nat.le_of_ble_eq_true rfl) (by decide) dX10_told_177 (fun r35 w34 y33 => ?_)
      show V x 0 0 w34 180 [(0, .ref (gz (xG x) + 0)), (1, .int a1)] [.int r35]
      obtain ⟨h36, o37⟩ := y33
      have h38 := Ch.tr h0 h36 (by decide) (by decide)
      exact hret _ _ _ _ dX10_told_180 rfl ⟨h38, o37⟩
    · refine r_tabIn 181 C dX10_told_1 (by omega) (by omega) (by rw [c1]; rfl) (by decide) ?_
      refine r_aload_n 0 C dX10_told_181 rfl ?_
      refine gfX10_54 44 C (kS sC h0 kc_0) (xS sC h0 xc_0_8) dX10_told_182 ?_
      refine gfX10_156 (v := (wI w 44 0)) C (kS sC h0 kc_44) rfl dX10_told_185 ?_
      have b39 := Inv.get o0 rt_44_0 (j := 0) (by decide) (by decide)
      exact hret _ _ _ _ dX10_told_188 rfl ⟨h0, o0⟩
    · refine r_tabIn 189 C dX10_told_1 (by omega) (by omega) (by rw [c1]; rfl) (by decide) ?_
      refine r_aload_n 0 C dX10_told_189 rfl ?_
      refine gfX10_61 47 C (kS sC h0 kc_0) (xS sC h0 xc_0_9) dX10_told_190 ?_
      refine gfX10_157 (v := (wI w 47 0)) C (kS sC h0 kc_47) rfl dX10_told_193 ?_
      have b40 := Inv.get o0 rt_47_0 (j := 0) (by decide) (by decide)
      exact hret _ _ _ _ dX10_told_196 rfl ⟨h0, o0⟩
set_option maxHeartbeats 4000000 in
set_option maxRecDepth 100000 in
theorem ctX10_cell_0 (l : Launch) (G : Gt) (w : Wv) (sC : Str KC XC w) (o0 : Inv RC w) (a1 : Int32) (a2 : Int32) : CtI l G yX10_cell cX10_cell 4 .int ({ frames := 1, cells := 0, slots := 0, locals := 22 } : Room) [.ref (gz G + 0), .int a1, .int a2] w (fun r w' => Ch [] [] w w' ∧ Inv RC w') := by
  refine enterI (by decide) (Nat.le_of_ble_eq_true rfl) ?_
  intro x el eG C hret
  subst el; subst eG
  show V x 0 0 w 0 [(0, .ref (gz (xG x) + 0)), (1, .int a1), (2, .int a2)] []
  have h0 : Ch [] [] w w := Ch.rf
  have qm1000000001 : ((-1000000001) : Int32).toInt = (-1000000001) := by decide
  have qm1 : ((-1) : Int32).toInt = (-1) := by decide
  refine r_aload_n 0 C dX10_cell_0 rfl ?_
  refine gfX10_29 21 C (kS sC h0 kc_0) (xS sC h0 xc_0_3) dX10_cell_1 ?_
  refine r_iload_n 1 C dX10_cell_4 rfl ?_
  refine r_iload_n 2 C dX10_cell_5 rfl ?_
  refine callVI C cwX10_158_V (ctX1_cellAt_21 _ _ w (sS sC h0) o0 a1 a2 ) (by decide) (kS sC h0 kc_21) rfl rfl rfl (Nat.le_of_ble_eq_true rfl) (by decide) dX10_cell_6 (fun r3 w2 y1 => ?_)
  show V x 0 0 w2 9 [(0, .ref (gz (xG x) + 0)), (1, .int a1), (2, .int a2)] [.int r3]
  obtain ⟨h4, o5⟩ := y1
  have h6 := Ch.tr h0 h4 (by decide) (by decide)
  refine r_istore_n [(3, .int r3), (0, .ref (gz (xG x) + 0)), (1, .int a1), (2, .int a2)] C dX10_cell_9 (by decide) rfl ?_
  refine r_iload_n 0 C dX10_cell_10 rfl ?_
  refine r_iconst (v := (-1)) C dX10_cell_11 (by decide) ?_
  refine r_icmp_ne 20 C dX10_cell_12 (by decide) (fun c7 => ?_) (fun c7 => ?_)
  · have c7' := i_ne c7
    refine r_aload_n 1 C dX10_cell_20 rfl ?_
    refine gfX10_29 21 C (kS sC h6 kc_0) (xS sC h6 xc_0_3) dX10_cell_21 ?_
    refine r_iload_n 0 C dX10_cell_24 rfl ?_
    refine callVI C cwX10_162_V (ctX1_what_21 _ _ w2 (sS sC h6) o5 r3 ) (by decide) (kS sC h6 kc_21) rfl rfl rfl (Nat.le_of_ble_eq_true rfl) (by decide) dX10_cell_25 (fun r10 w9 y8 => ?_)
    show V x 0 0 w9 28 [(3, .int r3), (0, .ref (gz (xG x) + 0)), (1, .int a1), (2, .int a2)] [.int r10]
    obtain ⟨h11, o12⟩ := y8
    have h13 := Ch.tr h6 h11 (by decide) (by decide)
    exact hret _ _ _ _ dX10_cell_28 rfl ⟨h13, o12⟩
  · have c7' := i_eq c7
    refine r_ldc C mw3_198 dX10_cell_15 ?_
    refine r_goto 28 C dX10_cell_17 (by decide) ?_
    exact hret _ _ _ _ dX10_cell_28 rfl ⟨h6, o5⟩
set_option maxHeartbeats 4000000 in
set_option maxRecDepth 100000 in
theorem ctX10_crowd_0 (l : Launch) (G : Gt) (w : Wv) (sC : Str KC XC w) (o0 : Inv RC w) (a1 : Int32) (a2 : Int32) : CtI l G yX10_crowd cX10_crowd 3 .int ({ frames := 2, cells := 0, slots := 0, locals := 41 } : Room) [.ref (gz G + 0), .int a1, .int a2] w (fun r w' => Ch [] [] w w' ∧ Inv RC w') := by
  refine enterI (by decide) (Nat.le_of_ble_eq_true rfl) ?_
  intro x el eG C hret
  subst el; subst eG
  show V x 0 0 w 0 [(0, .ref (gz (xG x) + 0)), (1, .int a1), (2, .int a2)] []
  have h0 : Ch [] [] w w := Ch.rf
  have qm1000000002 : ((-1000000002) : Int32).toInt = (-1000000002) := by decide
  have qm1000000001 : ((-1000000001) : Int32).toInt = (-1000000001) := by decide
  have q0 : (0 : Int32).toInt = 0 := by decide
  refine r_aload_n 0 C dX10_crowd_0 rfl ?_
  refine r_iload_n 1 C dX10_crowd_1 rfl ?_
  refine callVI C cwX10_165_V (ctX10_isCrowd_0 _ _ w (sS sC h0) o0 a1 ) (by decide) (kS sC h0 kc_0) rfl rfl rfl (Nat.le_of_ble_eq_true rfl) (by decide) dX10_crowd_2 (fun r3 w2 y1 => ?_)
  show V x 0 0 w2 5 [(0, .ref (gz (xG x) + 0)), (1, .int a1), (2, .int a2)] [.int r3]
  obtain ⟨h4, o5, g6⟩ := y1
  have h7 := Ch.tr h0 h4 (by decide) (by decide)
  refine r_if_ne 11 C dX10_crowd_5 (by decide) (fun c8 => ?_) (fun c8 => ?_)
  · have c8' := i_ne c8
    refine r_iload_n 2 C dX10_crowd_11 rfl ?_
    by_cases c9 : (a2 : Int32).toInt < 0 ∨ 6 < (a2 : Int32).toInt
    · refine r_tabOut 139 C dX10_crowd_12 c9 (by decide) ?_
      refine r_ldc C mw2_226 dX10_crowd_139 ?_
      exact hret _ _ _ _ dX10_crowd_141 rfl ⟨h7, o5⟩
    · rcases (show (a2 : Int32).toInt = 0 ∨ (a2 : Int32).toInt = 1 ∨ (a2 : Int32).toInt = 2 ∨ (a2 : Int32).toInt = 3 ∨ (a2 : Int32).toInt = 4 ∨ (a2 : Int32).toInt = 5 ∨ (a2 : Int32).toInt = 6 by omega) with c9 | c9 | c9 | c9 | c9 | c9 | c9
      · refine r_tabIn 56 C dX10_crowd_12 (by omega) (by omega) (by rw [c9]; rfl) (by decide) ?_
        refine r_aload_n 0 C dX10_crowd_56 rfl ?_
        refine gfX10_19 3 C (kS sC h7 kc_0) (xS sC h7 xc_0_1) dX10_crowd_57 ?_
        refine gfX10_169 5 C (kS sC h7 kc_3) (xS sC h7 xc_3_10) dX10_crowd_60 ?_
        refine r_iload_n 1 C dX10_crowd_63 rfl ?_
        refine r_iald C (kS sC h7 kc_5) (vin (by omega) (by omega)) dX10_crowd_64 ?_
        generalize (wI w2 5 (a1).toNatClampNeg) = v10
        exact hret _ _ _ _ dX10_crowd_65 rfl ⟨h7, o5⟩
      · refine r_tabIn 66 C dX10_crowd_12 (by omega) (by omega) (by rw [c9]; rfl) (by decide) ?_
        refine r_aload_n 0 C dX10_crowd_66 rfl ?_
        refine gfX10_19 3 C (kS sC h7 kc_0) (xS sC h7 xc_0_1) dX10_crowd_67 ?_
        refine gfX10_173 7 C (kS sC h7 kc_3) (xS sC h7 xc_3_12) dX10_crowd_70 ?_
        refine r_iload_n 1 C dX10_crowd_73 rfl ?_
        refine r_iald C (kS sC h7 kc_7) (vin (by omega) (by omega)) dX10_crowd_74 ?_
        generalize (wI w2 7 (a1).toNatClampNeg) = v11
        exact hret _ _ _ _ dX10_crowd_75 rfl ⟨h7, o5⟩
      · refine r_tabIn 76 C dX10_crowd_12 (by omega) (by omega) (by rw [c9]; rfl) (by decide) ?_
        refine r_aload_n 0 C dX10_crowd_76 rfl ?_
        refine gfX10_19 3 C (kS sC h7 kc_0) (xS sC h7 xc_0_1) dX10_crowd_77 ?_
        refine gfX10_175 8 C (kS sC h7 kc_3) (xS sC h7 xc_3_13) dX10_crowd_80 ?_
        refine r_iload_n 1 C dX10_crowd_83 rfl ?_
        refine r_iald C (kS sC h7 kc_8) (vin (by omega) (by omega)) dX10_crowd_84 ?_
        generalize (wI w2 8 (a1).toNatClampNeg) = v12
        exact hret _ _ _ _ dX10_crowd_85 rfl ⟨h7, o5⟩
      · refine r_tabIn 86 C dX10_crowd_12 (by omega) (by omega) (by rw [c9]; rfl) (by decide) ?_
        refine r_aload_n 0 C dX10_crowd_86 rfl ?_
        refine gfX10_19 3 C (kS sC h7 kc_0) (xS sC h7 xc_0_1) dX10_crowd_87 ?_
        refine gfX10_178 9 C (kS sC h7 kc_3) (xS sC h7 xc_3_14) dX10_crowd_90 ?_
        refine r_iload_n 1 C dX10_crowd_93 rfl ?_
        refine r_iald C (kS sC h7 kc_9) (vin (by omega) (by omega)) dX10_crowd_94 ?_
        generalize (wI w2 9 (a1).toNatClampNeg) = v13
        exact hret _ _ _ _ dX10_crowd_95 rfl ⟨h7, o5⟩
      · refine r_tabIn 96 C dX10_crowd_12 (by omega) (by omega) (by rw [c9]; rfl) (by decide) ?_
        refine r_aload_n 0 C dX10_crowd_96 rfl ?_
        refine gfX10_29 21 C (kS sC h7 kc_0) (xS sC h7 xc_0_3) dX10_crowd_97 ?_
        refine r_aload_n 0 C dX10_crowd_100 rfl ?_
        refine gfX10_41 35 C (kS sC h7 kc_0) (xS sC h7 xc_0_5) dX10_crowd_101 ?_
        refine gfX10_181 36 C (kS sC h7 kc_35) (xS sC h7 xc_35_2) dX10_crowd_104 ?_
        refine r_iload_n 1 C dX10_crowd_107 rfl ?_
        refine r_iald C (kS sC h7 kc_36) (vin (by omega) (by omega)) dX10_crowd_108 ?_
        generalize (wI w2 36 (a1).toNatClampNeg) = v14
        refine callVI C cwX10_141_V (ctX1_code_21 _ _ w2 (sS sC h7) o5 v14 ) (by decide) (kS sC h7 kc_21) rfl rfl rfl (Nat.le_of_ble_eq_true rfl) (by decide) dX10_crowd_109 (fun r17 w16 y15 => ?_)
        show V x 0 0 w16 112 [(0, .ref (gz (xG x) + 0)), (1, .int a1), (2, .int a2)] [.int r17]
        obtain ⟨h18, o19⟩ := y15
        have h20 := Ch.tr h7 h18 (by decide) (by decide)
        exact hret _ _ _ _ dX10_crowd_112 rfl ⟨h20, o19⟩
      · refine r_tabIn 113 C dX10_crowd_12 (by omega) (by omega) (by rw [c9]; rfl) (by decide) ?_
        refine r_aload_n 0 C dX10_crowd_113 rfl ?_
        refine gfX10_29 21 C (kS sC h7 kc_0) (xS sC h7 xc_0_3) dX10_crowd_114 ?_
        refine r_aload_n 0 C dX10_crowd_117 rfl ?_
        refine gfX10_41 35 C (kS sC h7 kc_0) (xS sC h7 xc_0_5) dX10_crowd_118 ?_
        refine gfX10_184 37 C (kS sC h7 kc_35) (xS sC h7 xc_35_3) dX10_crowd_121 ?_
        refine r_iload_n 1 C dX10_crowd_124 rfl ?_
        refine r_iald C (kS sC h7 kc_37) (vin (by omega) (by omega)) dX10_crowd_125 ?_
        generalize (wI w2 37 (a1).toNatClampNeg) = v21
        refine callVI C cwX10_141_V (ctX1_code_21 _ _ w2 (sS sC h7) o5 v21 ) (by decide) (kS sC h7 kc_21) rfl rfl rfl (Nat.le_of_ble_eq_true rfl) (by decide) dX10_crowd_126 (fun r24 w23 y22 => ?_)
        show V x 0 0 w23 129 [(0, .ref (gz (xG x) + 0)), (1, .int a1), (2, .int a2)] [.int r24]
        obtain ⟨h25, o26⟩ := y22
        have h27 := Ch.tr h7 h25 (by decide) (by decide)
        exact hret _ _ _ _ dX10_crowd_129 rfl ⟨h27, o26⟩
      · refine r_tabIn 130 C dX10_crowd_12 (by omega) (by omega) (by rw [c9]; rfl) (by decide) ?_
        refine r_aload_n 0 C dX10_crowd_130 rfl ?_
        refine gfX10_41 35 C (kS sC h7 kc_0) (xS sC h7 xc_0_5) dX10_crowd_131 ?_
        refine r_iload_n 1 C dX10_crowd_134 rfl ?_
        refine callVI C cwX10_187_V (ctX6_fate_35 _ _ w2 (sS sC h7) o5 a1 ) (by decide) (kS sC h7 kc_35) rfl rfl rfl (Nat.le_of_ble_eq_true rfl) (by decide) dX10_crowd_135 (fun r30 w29 y28 => ?_)
        show V x 0 0 w29 138 [(0, .ref (gz (xG x) + 0)), (1, .int a1), (2, .int a2)] [.int r30]
        obtain ⟨h31, o32⟩ := y28
        have h33 := Ch.tr h7 h31 (by decide) (by decide)
        exact hret _ _ _ _ dX10_crowd_138 rfl ⟨h33, o32⟩
  · have c8' := i_eq c8
    refine r_ldc C mw3_198 dX10_crowd_8 ?_
    exact hret _ _ _ _ dX10_crowd_10 rfl ⟨h7, o5⟩
set_option maxHeartbeats 4000000 in
set_option maxRecDepth 100000 in
theorem ctX10_tune_0 (l : Launch) (G : Gt) (w : Wv) (sC : Str KC XC w) (o0 : Inv RC w) (a1 : Int32) (a2 : Int32) : CtI l G yX10_tune cX10_tune 3 .int ({ frames := 4, cells := 0, slots := 0, locals := 96 } : Room) [.ref (gz G + 0), .int a1, .int a2] w (fun r w' => Ch [25, 26, 27] [] w w' ∧ Inv RC w') := by
  refine enterI (by decide) (Nat.le_of_ble_eq_true rfl) ?_
  intro x el eG C hret
  subst el; subst eG
  show V x 0 0 w 0 [(0, .ref (gz (xG x) + 0)), (1, .int a1), (2, .int a2)] []
  have h0 : Ch [25, 26, 27] [] w w := Ch.rf
  have qm1000000002 : ((-1000000002) : Int32).toInt = (-1000000002) := by decide
  have qm1000000001 : ((-1000000001) : Int32).toInt = (-1000000001) := by decide
  have q0 : (0 : Int32).toInt = 0 := by decide
  refine r_aload_n 0 C dX10_tune_0 rfl ?_
  refine r_iload_n 1 C dX10_tune_1 rfl ?_
  refine callVI C cwX10_190_V (ctX10_isTune_0 _ _ w (sS sC h0) o0 a1 ) (by decide) (kS sC h0 kc_0) rfl rfl rfl (Nat.le_of_ble_eq_true rfl) (by decide) dX10_tune_2 (fun r3 w2 y1 => ?_)
  show V x 0 0 w2 5 [(0, .ref (gz (xG x) + 0)), (1, .int a1), (2, .int a2)] [.int r3]
  obtain ⟨h4, o5, g6⟩ := y1
  have h7 := Ch.tr h0 h4 (by decide) (by decide)
  refine r_if_ne 11 C dX10_tune_5 (by decide) (fun c8 => ?_) (fun c8 => ?_)
  · have c8' := i_ne c8
    refine r_iload_n 2 C dX10_tune_11 rfl ?_
    by_cases c9 : (a2 : Int32).toInt < 0 ∨ 2 < (a2 : Int32).toInt
    · refine r_tabOut 69 C dX10_tune_12 c9 (by decide) ?_
      refine r_ldc C mw2_226 dX10_tune_69 ?_
      exact hret _ _ _ _ dX10_tune_71 rfl ⟨h7, o5⟩
    · rcases (show (a2 : Int32).toInt = 0 ∨ (a2 : Int32).toInt = 1 ∨ (a2 : Int32).toInt = 2 by omega) with c9 | c9 | c9
      · refine r_tabIn 40 C dX10_tune_12 (by omega) (by omega) (by rw [c9]; rfl) (by decide) ?_
        refine r_aload_n 0 C dX10_tune_40 rfl ?_
        refine gfX10_19 3 C (kS sC h7 kc_0) (xS sC h7 xc_0_1) dX10_tune_41 ?_
        refine gfX10_193 10 C (kS sC h7 kc_3) (xS sC h7 xc_3_15) dX10_tune_44 ?_
        refine r_iload_n 1 C dX10_tune_47 rfl ?_
        refine r_iald C (kS sC h7 kc_10) (vin (by omega) (by omega)) dX10_tune_48 ?_
        generalize (wI w2 10 (a1).toNatClampNeg) = v10
        exact hret _ _ _ _ dX10_tune_49 rfl ⟨h7, o5⟩
      · refine r_tabIn 50 C dX10_tune_12 (by omega) (by omega) (by rw [c9]; rfl) (by decide) ?_
        refine r_aload_n 0 C dX10_tune_50 rfl ?_
        refine gfX10_19 3 C (kS sC h7 kc_0) (xS sC h7 xc_0_1) dX10_tune_51 ?_
        refine gfX10_196 11 C (kS sC h7 kc_3) (xS sC h7 xc_3_16) dX10_tune_54 ?_
        refine r_iload_n 1 C dX10_tune_57 rfl ?_
        refine r_iald C (kS sC h7 kc_11) (vin (by omega) (by omega)) dX10_tune_58 ?_
        generalize (wI w2 11 (a1).toNatClampNeg) = v11
        exact hret _ _ _ _ dX10_tune_59 rfl ⟨h7, o5⟩
      · refine r_tabIn 60 C dX10_tune_12 (by omega) (by omega) (by rw [c9]; rfl) (by decide) ?_
        refine r_aload_n 0 C dX10_tune_60 rfl ?_
        refine gfX10_41 35 C (kS sC h7 kc_0) (xS sC h7 xc_0_5) dX10_tune_61 ?_
        refine r_iload_n 1 C dX10_tune_64 rfl ?_
        refine callVI C cwX10_199_V (ctX6_hearers_35 _ _ w2 (sS sC h7) o5 a1 ) (by decide) (kS sC h7 kc_35) rfl rfl rfl (Nat.le_of_ble_eq_true rfl) (by decide) dX10_tune_65 (fun r14 w13 y12 => ?_)
        show V x 0 0 w13 68 [(0, .ref (gz (xG x) + 0)), (1, .int a1), (2, .int a2)] [.int r14]
        obtain ⟨h15, o16⟩ := y12
        have h17 := Ch.tr h7 h15 (by decide) (by decide)
        exact hret _ _ _ _ dX10_tune_68 rfl ⟨h17, o16⟩
  · have c8' := i_eq c8
    refine r_ldc C mw3_198 dX10_tune_8 ?_
    exact hret _ _ _ _ dX10_tune_10 rfl ⟨h7, o5⟩
set_option maxHeartbeats 4000000 in
set_option maxRecDepth 100000 in
theorem ctX10_far_0 (l : Launch) (G : Gt) (w : Wv) (sC : Str KC XC w) (o0 : Inv RC w) (a1 : Int32) (a2 : Int32) (a3 : Int32) (a4 : Int32) : CtI l G yX10_far cX10_far 7 .int ({ frames := 2, cells := 0, slots := 0, locals := 50 } : Room) [.ref (gz G + 0), .int a1, .int a2, .int a3, .int a4] w (fun r w' => Ch [25, 26, 27] [] w w' ∧ Inv RC w') := by
  refine enterI (by decide) (Nat.le_of_ble_eq_true rfl) ?_
  intro x el eG C hret
  subst el; subst eG
  show V x 0 0 w 0 [(0, .ref (gz (xG x) + 0)), (1, .int a1), (2, .int a2), (3, .int a3), (4, .int a4)] []
  have h0 : Ch [25, 26, 27] [] w w := Ch.rf
  have qm1000000001 : ((-1000000001) : Int32).toInt = (-1000000001) := by decide
  have qm1 : ((-1) : Int32).toInt = (-1) := by decide
  refine r_aload_n 0 C dX10_far_0 rfl ?_
  refine gfX10_29 21 C (kS sC h0 kc_0) (xS sC h0 xc_0_3) dX10_far_1 ?_
  refine r_iload_n 1 C dX10_far_4 rfl ?_
  refine r_iload_n 2 C dX10_far_5 rfl ?_
  refine callVI C cwX10_158_V (ctX1_cellAt_21 _ _ w (sS sC h0) o0 a1 a2 ) (by decide) (kS sC h0 kc_21) rfl rfl rfl (Nat.le_of_ble_eq_true rfl) (by decide) dX10_far_6 (fun r3 w2 y1 => ?_)
  show V x 0 0 w2 9 [(0, .ref (gz (xG x) + 0)), (1, .int a1), (2, .int a2), (3, .int a3), (4, .int a4)] [.int r3]
  obtain ⟨h4, o5⟩ := y1
  have h6 := Ch.tr h0 h4 (by decide) (by decide)
  refine r_istore [(5, .int r3), (0, .ref (gz (xG x) + 0)), (1, .int a1), (2, .int a2), (3, .int a3), (4, .int a4)] C dX10_far_9 (by decide) rfl ?_
  refine r_aload_n 1 C dX10_far_11 rfl ?_
  refine gfX10_29 21 C (kS sC h6 kc_0) (xS sC h6 xc_0_3) dX10_far_12 ?_
  refine r_iload_n 4 C dX10_far_15 rfl ?_
  refine r_iload 5 C dX10_far_16 rfl ?_
  refine callVI C cwX10_158_V (ctX1_cellAt_21 _ _ w2 (sS sC h6) o5 a3 a4 ) (by decide) (kS sC h6 kc_21) rfl rfl rfl (Nat.le_of_ble_eq_true rfl) (by decide) dX10_far_18 (fun r9 w8 y7 => ?_)
  show V x 0 0 w8 21 [(5, .int r3), (0, .ref (gz (xG x) + 0)), (1, .int a1), (2, .int a2), (3, .int a3), (4, .int a4)] [.int r9]
  obtain ⟨h10, o11⟩ := y7
  have h12 := Ch.tr h6 h10 (by decide) (by decide)
  refine r_istore [(6, .int r9), (5, .int r3), (0, .ref (gz (xG x) + 0)), (1, .int a1), (2, .int a2), (3, .int a3), (4, .int a4)] C dX10_far_21 (by decide) rfl ?_
  refine r_iload 1 C dX10_far_23 rfl ?_
  refine r_iconst (v := (-1)) C dX10_far_25 (by decide) ?_
  refine r_icmp_eq 35 C dX10_far_26 (by decide) (fun c13 => ?_) (fun c13 => ?_)
  · have c13' := i_eq c13
    refine r_ldc C mw3_198 dX10_far_35 ?_
    refine r_goto 51 C dX10_far_37 (by decide) ?_
    exact hret _ _ _ _ dX10_far_51 rfl ⟨h12, o11⟩
  · have c13' := i_ne c13
    refine r_iload 0 C dX10_far_29 rfl ?_
    refine r_iconst (v := (-1)) C dX10_far_31 (by decide) ?_
    refine r_icmp_ne 40 C dX10_far_32 (by decide) (fun c14 => ?_) (fun c14 => ?_)
    · have c14' := i_ne c14
      refine r_aload_n 2 C dX10_far_40 rfl ?_
      refine gfX10_29 21 C (kS sC h12 kc_0) (xS sC h12 xc_0_3) dX10_far_41 ?_
      refine r_iload 1 C dX10_far_44 rfl ?_
      refine r_iload 0 C dX10_far_46 rfl ?_
      refine callVI C cwX10_202_V (ctX1_steps_21 _ _ w8 (sS sC h12) o11 r3 r9 ) (by decide) (kS sC h12 kc_21) rfl rfl rfl (Nat.le_of_ble_eq_true rfl) (by decide) dX10_far_48 (fun r17 w16 y15 => ?_)
      show V x 0 0 w16 51 [(6, .int r9), (5, .int r3), (0, .ref (gz (xG x) + 0)), (1, .int a1), (2, .int a2), (3, .int a3), (4, .int a4)] [.int r17]
      obtain ⟨h18, o19⟩ := y15
      have h20 := Ch.tr h12 h18 (by decide) (by decide)
      exact hret _ _ _ _ dX10_far_51 rfl ⟨h20, o19⟩
    · have c14' := i_eq c14
      refine r_ldc C mw3_198 dX10_far_35 ?_
      refine r_goto 51 C dX10_far_37 (by decide) ?_
      exact hret _ _ _ _ dX10_far_51 rfl ⟨h12, o11⟩
set_option maxHeartbeats 4000000 in
set_option maxRecDepth 100000 in
theorem ctX10_minute_0 (l : Launch) (G : Gt) (w : Wv) (sC : Str KC XC w) (o0 : Inv RC w) (a1 : Int32) (a2 : Int32) : CtI l G yX10_minute cX10_minute 3 .int ({ frames := 4, cells := 0, slots := 0, locals := 100 } : Room) [.ref (gz G + 0), .int a1, .int a2] w (fun r w' => Ch [25, 26, 27, 36, 37] [(35, 0), (35, 1), (55, 7)] w w' ∧ Inv RC w') := by
  refine enterI (by decide) (Nat.le_of_ble_eq_true rfl) ?_
  intro x el eG C hret
  subst el; subst eG
  show V x 0 0 w 0 [(0, .ref (gz (xG x) + 0)), (1, .int a1), (2, .int a2)] []
  have h0 : Ch [25, 26, 27, 36, 37] [(35, 0), (35, 1), (55, 7)] w w := Ch.rf
  have qm1000000003 : ((-1000000003) : Int32).toInt = (-1000000003) := by decide
  have qm1000000002 : ((-1000000002) : Int32).toInt = (-1000000002) := by decide
  have qm1000000001 : ((-1000000001) : Int32).toInt = (-1000000001) := by decide
  have q0 : (0 : Int32).toInt = 0 := by decide
  refine r_aload_n 0 C dX10_minute_0 rfl ?_
  refine r_iload_n 2 C dX10_minute_1 rfl ?_
  refine callVI C cwX10_205_V (ctX10_isTuneOrNone_0 _ _ w (sS sC h0) o0 a2 ) (by decide) (kS sC h0 kc_0) rfl rfl rfl (Nat.le_of_ble_eq_true rfl) (by decide) dX10_minute_2 (fun r3 w2 y1 => ?_)
  show V x 0 0 w2 5 [(0, .ref (gz (xG x) + 0)), (1, .int a1), (2, .int a2)] [.int r3]
  obtain ⟨h4, o5, g6⟩ := y1
  have h7 := Ch.tr h0 h4 (by decide) (by decide)
  refine r_if_ne 11 C dX10_minute_5 (by decide) (fun c8 => ?_) (fun c8 => ?_)
  · have c8' := i_ne c8
    refine r_iload_n 1 C dX10_minute_11 rfl ?_
    refine callSI C cwX10_208_S (ctX10_isStep _ _ w2 a1 ) (by decide) rfl rfl (Nat.le_of_ble_eq_true rfl) (by decide) dX10_minute_12 (fun r11 w10 y9 => ?_)
    obtain ⟨y9, g12⟩ := y9
    obtain rfl := y9.symm
    show V x 0 0 w2 15 [(0, .ref (gz (xG x) + 0)), (1, .int a1), (2, .int a2)] [.int r11]
    refine r_if_ne 21 C dX10_minute_15 (by decide) (fun c13 => ?_) (fun c13 => ?_)
    · have c13' := i_ne c13
      refine r_aload_n 0 C dX10_minute_21 rfl ?_
      refine gfX10_41 35 C (kS sC h7 kc_0) (xS sC h7 xc_0_5) dX10_minute_22 ?_
      refine r_iload_n 1 C dX10_minute_25 rfl ?_
      refine callVI C cwX10_211_V (ctX6_may_35 _ _ w2 (sS sC h7) o5 a1 ) (by decide) (kS sC h7 kc_35) rfl rfl rfl (Nat.le_of_ble_eq_true rfl) (by decide) dX10_minute_26 (fun r16 w15 y14 => ?_)
      show V x 0 0 w15 29 [(0, .ref (gz (xG x) + 0)), (1, .int a1), (2, .int a2)] [.int r16]
      obtain ⟨h17, o18, g19⟩ := y14
      have h20 := Ch.tr h7 h17 (by decide) (by decide)
      refine r_if_ne 35 C dX10_minute_29 (by decide) (fun c21 => ?_) (fun c21 => ?_)
      · have c21' := i_ne c21
        refine r_aload_n 0 C dX10_minute_35 rfl ?_
        refine gfX10_41 35 C (kS sC h20 kc_0) (xS sC h20 xc_0_5) dX10_minute_36 ?_
        refine r_iload_n 1 C dX10_minute_39 rfl ?_
        refine r_iload_n 2 C dX10_minute_40 rfl ?_
        refine callVV C cwX10_215_V (ctX6_pass_35 _ _ w15 (sS sC h20) o18 a1 a2 ) (by decide) (kS sC h20 kc_35) rfl rfl rfl (Nat.le_of_ble_eq_true rfl) (by decide) dX10_minute_41 (fun w23 y22 => ?_)
        show V x 0 0 w23 44 [(0, .ref (gz (xG x) + 0)), (1, .int a1), (2, .int a2)] []
        obtain ⟨h25, o26⟩ := y22
        have h27 := Ch.tr h20 h25 (by decide) (by decide)
        refine r_aload_n 0 C dX10_minute_44 rfl ?_
        refine gfX10_77 55 C (kS sC h27 kc_0) (xS sC h27 xc_0_11) dX10_minute_45 ?_
        refine callVV C cwX10_219_V (ctX8_forget_55 _ _ w23 (sS sC h27) o26  ) (by decide) (kS sC h27 kc_55) rfl rfl rfl (Nat.le_of_ble_eq_true rfl) (by decide) dX10_minute_48 (fun w29 y28 => ?_)
        show V x 0 0 w29 51 [(0, .ref (gz (xG x) + 0)), (1, .int a1), (2, .int a2)] []
        obtain ⟨h31, o32⟩ := y28
        have h33 := Ch.tr h27 h31 (by decide) (by decide)
        refine r_aload_n 0 C dX10_minute_51 rfl ?_
        refine gfX10_29 21 C (kS sC h33 kc_0) (xS sC h33 xc_0_3) dX10_minute_52 ?_
        refine r_aload_n 0 C dX10_minute_55 rfl ?_
        refine gfX10_41 35 C (kS sC h33 kc_0) (xS sC h33 xc_0_5) dX10_minute_56 ?_
        refine gfX10_138 (v := (wI w23 35 0)) C (kS sC h33 kc_35) (h31.I (by decide) (by decide) rfl) dX10_minute_59 ?_
        refine callVI C cwX10_141_V (ctX1_code_21 _ _ w29 (sS sC h33) o32 (wI w23 35 0) ) (by decide) (kS sC h33 kc_21) rfl rfl rfl (Nat.le_of_ble_eq_true rfl) (by decide) dX10_minute_62 (fun r36 w35 y34 => ?_)
        show V x 0 0 w35 65 [(0, .ref (gz (xG x) + 0)), (1, .int a1), (2, .int a2)] [.int r36]
        obtain ⟨h37, o38⟩ := y34
        have h39 := Ch.tr h33 h37 (by decide) (by decide)
        exact hret _ _ _ _ dX10_minute_65 rfl ⟨h39, o38⟩
      · have c21' := i_eq c21
        refine r_ldc C mw4_29 dX10_minute_32 ?_
        exact hret _ _ _ _ dX10_minute_34 rfl ⟨h20, o18⟩
    · have c13' := i_eq c13
      refine r_ldc C mw2_226 dX10_minute_18 ?_
      exact hret _ _ _ _ dX10_minute_20 rfl ⟨h7, o5⟩
  · have c8' := i_eq c8
    refine r_ldc C mw3_198 dX10_minute_8 ?_
    exact hret _ _ _ _ dX10_minute_10 rfl ⟨h7, o5⟩
set_option maxHeartbeats 4000000 in
set_option maxRecDepth 100000 in
theorem ctX10_wall_0 (l : Launch) (G : Gt) (w : Wv) (sC : Str KC XC w) (o0 : Inv RC w) (a1 : Int32) (a2 : Int32) (a3 : Int32) (b3 : 0 ≤ a3.toInt ∧ a3.toInt ≤ 1) : CtI l G yX10_wall cX10_wall 6 .int ({ frames := 3, cells := 0, slots := 0, locals := 67 } : Room) [.ref (gz G + 0), .int a1, .int a2, .int a3] w (fun r w' => Ch [22, 26] [(55, 7)] w w' ∧ Inv RC w') := by
  refine enterI (by decide) (Nat.le_of_ble_eq_true rfl) ?_
  intro x el eG C hret
  subst el; subst eG
  show V x 0 0 w 0 [(0, .ref (gz (xG x) + 0)), (1, .int a1), (2, .int a2), (3, .int a3)] []
  have h0 : Ch [22, 26] [(55, 7)] w w := Ch.rf
  have qm1000000003 : ((-1000000003) : Int32).toInt = (-1000000003) := by decide
  have qm1000000001 : ((-1000000001) : Int32).toInt = (-1000000001) := by decide
  have qm1 : ((-1) : Int32).toInt = (-1) := by decide
  have q0 : (0 : Int32).toInt = 0 := by decide
  have q1 : (1 : Int32).toInt = 1 := by decide
  have q2 : (2 : Int32).toInt = 2 := by decide
  have q3 : (3 : Int32).toInt = 3 := by decide
  refine r_aload_n 0 C dX10_wall_0 rfl ?_
  refine gfX10_29 21 C (kS sC h0 kc_0) (xS sC h0 xc_0_3) dX10_wall_1 ?_
  refine r_iload_n 1 C dX10_wall_4 rfl ?_
  refine r_iload_n 2 C dX10_wall_5 rfl ?_
  refine callVI C cwX10_158_V (ctX1_cellAt_21 _ _ w (sS sC h0) o0 a1 a2 ) (by decide) (kS sC h0 kc_21) rfl rfl rfl (Nat.le_of_ble_eq_true rfl) (by decide) dX10_wall_6 (fun r3 w2 y1 => ?_)
  show V x 0 0 w2 9 [(0, .ref (gz (xG x) + 0)), (1, .int a1), (2, .int a2), (3, .int a3)] [.int r3]
  obtain ⟨h4, o5⟩ := y1
  have h6 := Ch.tr h0 h4 (by decide) (by decide)
  refine r_istore [(4, .int r3), (0, .ref (gz (xG x) + 0)), (1, .int a1), (2, .int a2), (3, .int a3)] C dX10_wall_9 (by decide) rfl ?_
  refine r_iload 0 C dX10_wall_11 rfl ?_
  refine r_iconst (v := (-1)) C dX10_wall_13 (by decide) ?_
  refine r_icmp_ne 20 C dX10_wall_14 (by decide) (fun c7 => ?_) (fun c7 => ?_)
  · have c7' := i_ne c7
    refine r_aload_n 1 C dX10_wall_20 rfl ?_
    refine gfX10_29 21 C (kS sC h6 kc_0) (xS sC h6 xc_0_3) dX10_wall_21 ?_
    refine r_iload 0 C dX10_wall_24 rfl ?_
    refine callVI C cwX10_162_V (ctX1_what_21 _ _ w2 (sS sC h6) o5 r3 ) (by decide) (kS sC h6 kc_21) rfl rfl rfl (Nat.le_of_ble_eq_true rfl) (by decide) dX10_wall_26 (fun r10 w9 y8 => ?_)
    show V x 0 0 w9 29 [(4, .int r3), (0, .ref (gz (xG x) + 0)), (1, .int a1), (2, .int a2), (3, .int a3)] [.int r10]
    obtain ⟨h11, o12⟩ := y8
    have h13 := Ch.tr h6 h11 (by decide) (by decide)
    refine r_istore [(5, .int r10), (4, .int r3), (0, .ref (gz (xG x) + 0)), (1, .int a1), (2, .int a2), (3, .int a3)] C dX10_wall_29 (by decide) rfl ?_
    refine r_iload 0 C dX10_wall_31 rfl ?_
    refine r_iconst (v := 2) C dX10_wall_33 (by decide) ?_
    refine r_icmp_eq 55 C dX10_wall_34 (by decide) (fun c14 => ?_) (fun c14 => ?_)
    · have c14' := i_eq c14
      refine r_ldc C mw4_29 dX10_wall_55 ?_
      exact hret _ _ _ _ dX10_wall_57 rfl ⟨h13, o12⟩
    · have c14' := i_ne c14
      refine r_iload 0 C dX10_wall_37 rfl ?_
      refine r_iconst (v := 3) C dX10_wall_39 (by decide) ?_
      refine r_icmp_eq 55 C dX10_wall_40 (by decide) (fun c15 => ?_) (fun c15 => ?_)
      · have c15' := i_eq c15
        refine r_ldc C mw4_29 dX10_wall_55 ?_
        exact hret _ _ _ _ dX10_wall_57 rfl ⟨h13, o12⟩
      · have c15' := i_ne c15
        refine r_aload_n 2 C dX10_wall_43 rfl ?_
        refine gfX10_41 35 C (kS sC h13 kc_0) (xS sC h13 xc_0_5) dX10_wall_44 ?_
        refine r_iload 1 C dX10_wall_47 rfl ?_
        refine callVI C cwX10_222_V (ctX6_holds_35 _ _ w9 (sS sC h13) o12 r3 ) (by decide) (kS sC h13 kc_35) rfl rfl rfl (Nat.le_of_ble_eq_true rfl) (by decide) dX10_wall_49 (fun r18 w17 y16 => ?_)
        show V x 0 0 w17 52 [(5, .int r10), (4, .int r3), (0, .ref (gz (xG x) + 0)), (1, .int a1), (2, .int a2), (3, .int a3)] [.int r18]
        obtain ⟨h19, o20, g21⟩ := y16
        have h22 := Ch.tr h13 h19 (by decide) (by decide)
        refine r_if_eq 58 C dX10_wall_52 (by decide) (fun c23 => ?_) (fun c23 => ?_)
        · have c23' := i_eq c23
          refine r_iload_n 5 C dX10_wall_58 rfl ?_
          refine r_iload 0 C dX10_wall_59 rfl ?_
          refine r_iconst (v := 1) C dX10_wall_61 (by decide) ?_
          refine r_icmp_ne 69 C dX10_wall_62 (by decide) (fun c24 => ?_) (fun c24 => ?_)
          · have c24' := i_ne c24
            refine r_iconst (v := 0) C dX10_wall_69 (by decide) ?_
            refine r_icmp_eq 98 C dX10_wall_70 (by decide) (fun c25 => ?_) (fun c25 => ?_)
            · have c25' := i_eq c25
              refine r_iload 0 C dX10_wall_98 rfl ?_
              refine r_iconst (v := 1) C dX10_wall_100 (by decide) ?_
              refine r_icmp_ne 108 C dX10_wall_101 (by decide) (fun c26 => ?_) (fun c26 => ?_)
              · have c26' := i_ne c26
                refine r_iconst (v := 0) C dX10_wall_108 (by decide) ?_
                exact hret _ _ _ _ dX10_wall_109 rfl ⟨h22, o20⟩
              · have c26' := i_eq c26
                refine r_iconst (v := 1) C dX10_wall_104 (by decide) ?_
                refine r_goto 109 C dX10_wall_105 (by decide) ?_
                exact hret _ _ _ _ dX10_wall_109 rfl ⟨h22, o20⟩
            · have c25' := i_ne c25
              refine r_aload_n 2 C dX10_wall_73 rfl ?_
              refine gfX10_29 21 C (kS sC h22 kc_0) (xS sC h22 xc_0_3) dX10_wall_74 ?_
              refine r_iload 1 C dX10_wall_77 rfl ?_
              refine r_iload_n 5 C dX10_wall_79 rfl ?_
              refine r_if_eq 87 C dX10_wall_80 (by decide) (fun c27 => ?_) (fun c27 => ?_)
              · have c27' := i_eq c27
                exfalso; omega
              · have c27' := i_ne c27
                refine r_iconst (v := 1) C dX10_wall_83 (by decide) ?_
                refine r_goto 88 C dX10_wall_84 (by decide) ?_
                refine callVV C cwX10_225_V (ctX1_put_21 _ _ w17 (sS sC h22) o20 r3 1 ) (by decide) (kS sC h22 kc_21) rfl rfl rfl (Nat.le_of_ble_eq_true rfl) (by decide) dX10_wall_88 (fun w29 y28 => ?_)
                show V x 0 0 w29 91 [(5, .int r10), (4, .int r3), (0, .ref (gz (xG x) + 0)), (1, .int a1), (2, .int a2), (3, .int a3)] []
                obtain ⟨h31, o32⟩ := y28
                have h33 := Ch.tr h22 h31 (by decide) (by decide)
                refine r_aload_n 2 C dX10_wall_91 rfl ?_
                refine gfX10_77 55 C (kS sC h33 kc_0) (xS sC h33 xc_0_11) dX10_wall_92 ?_
                refine callVV C cwX10_219_V (ctX8_forget_55 _ _ w29 (sS sC h33) o32  ) (by decide) (kS sC h33 kc_55) rfl rfl rfl (Nat.le_of_ble_eq_true rfl) (by decide) dX10_wall_95 (fun w35 y34 => ?_)
                show V x 0 0 w35 98 [(5, .int r10), (4, .int r3), (0, .ref (gz (xG x) + 0)), (1, .int a1), (2, .int a2), (3, .int a3)] []
                obtain ⟨h37, o38⟩ := y34
                have h39 := Ch.tr h33 h37 (by decide) (by decide)
                refine r_iload 0 C dX10_wall_98 rfl ?_
                refine r_iconst (v := 1) C dX10_wall_100 (by decide) ?_
                refine r_icmp_ne 108 C dX10_wall_101 (by decide) (fun c40 => ?_) (fun c40 => ?_)
                · have c40' := i_ne c40
                  refine r_iconst (v := 0) C dX10_wall_108 (by decide) ?_
                  exact hret _ _ _ _ dX10_wall_109 rfl ⟨h39, o38⟩
                · have c40' := i_eq c40
                  refine r_iconst (v := 1) C dX10_wall_104 (by decide) ?_
                  refine r_goto 109 C dX10_wall_105 (by decide) ?_
                  exact hret _ _ _ _ dX10_wall_109 rfl ⟨h39, o38⟩
          · have c24' := i_eq c24
            refine r_iconst (v := 1) C dX10_wall_65 (by decide) ?_
            refine r_goto 70 C dX10_wall_66 (by decide) ?_
            refine r_icmp_eq 98 C dX10_wall_70 (by decide) (fun c41 => ?_) (fun c41 => ?_)
            · have c41' := i_eq c41
              refine r_iload 0 C dX10_wall_98 rfl ?_
              refine r_iconst (v := 1) C dX10_wall_100 (by decide) ?_
              refine r_icmp_ne 108 C dX10_wall_101 (by decide) (fun c42 => ?_) (fun c42 => ?_)
              · have c42' := i_ne c42
                exfalso; omega
              · have c42' := i_eq c42
                refine r_iconst (v := 1) C dX10_wall_104 (by decide) ?_
                refine r_goto 109 C dX10_wall_105 (by decide) ?_
                exact hret _ _ _ _ dX10_wall_109 rfl ⟨h22, o20⟩
            · have c41' := i_ne c41
              refine r_aload_n 2 C dX10_wall_73 rfl ?_
              refine gfX10_29 21 C (kS sC h22 kc_0) (xS sC h22 xc_0_3) dX10_wall_74 ?_
              refine r_iload 1 C dX10_wall_77 rfl ?_
              refine r_iload_n 5 C dX10_wall_79 rfl ?_
              refine r_if_eq 87 C dX10_wall_80 (by decide) (fun c43 => ?_) (fun c43 => ?_)
              · have c43' := i_eq c43
                refine r_iconst (v := 0) C dX10_wall_87 (by decide) ?_
                refine callVV C cwX10_225_V (ctX1_put_21 _ _ w17 (sS sC h22) o20 r3 0 ) (by decide) (kS sC h22 kc_21) rfl rfl rfl (Nat.le_of_ble_eq_true rfl) (by decide) dX10_wall_88 (fun w45 y44 => ?_)
                show V x 0 0 w45 91 [(5, .int r10), (4, .int r3), (0, .ref (gz (xG x) + 0)), (1, .int a1), (2, .int a2), (3, .int a3)] []
                obtain ⟨h47, o48⟩ := y44
                have h49 := Ch.tr h22 h47 (by decide) (by decide)
                refine r_aload_n 2 C dX10_wall_91 rfl ?_
                refine gfX10_77 55 C (kS sC h49 kc_0) (xS sC h49 xc_0_11) dX10_wall_92 ?_
                refine callVV C cwX10_219_V (ctX8_forget_55 _ _ w45 (sS sC h49) o48  ) (by decide) (kS sC h49 kc_55) rfl rfl rfl (Nat.le_of_ble_eq_true rfl) (by decide) dX10_wall_95 (fun w51 y50 => ?_)
                show V x 0 0 w51 98 [(5, .int r10), (4, .int r3), (0, .ref (gz (xG x) + 0)), (1, .int a1), (2, .int a2), (3, .int a3)] []
                obtain ⟨h53, o54⟩ := y50
                have h55 := Ch.tr h49 h53 (by decide) (by decide)
                refine r_iload 0 C dX10_wall_98 rfl ?_
                refine r_iconst (v := 1) C dX10_wall_100 (by decide) ?_
                refine r_icmp_ne 108 C dX10_wall_101 (by decide) (fun c56 => ?_) (fun c56 => ?_)
                · have c56' := i_ne c56
                  exfalso; omega
                · have c56' := i_eq c56
                  refine r_iconst (v := 1) C dX10_wall_104 (by decide) ?_
                  refine r_goto 109 C dX10_wall_105 (by decide) ?_
                  exact hret _ _ _ _ dX10_wall_109 rfl ⟨h55, o54⟩
              · have c43' := i_ne c43
                exfalso; omega
        · have c23' := i_ne c23
          refine r_ldc C mw4_29 dX10_wall_55 ?_
          exact hret _ _ _ _ dX10_wall_57 rfl ⟨h22, o20⟩
  · have c7' := i_eq c7
    refine r_ldc C mw3_198 dX10_wall_17 ?_
    exact hret _ _ _ _ dX10_wall_19 rfl ⟨h6, o5⟩
set_option maxHeartbeats 4000000 in
set_option maxRecDepth 100000 in
theorem ctX10_drift_0 (l : Launch) (G : Gt) (w : Wv) (sC : Str KC XC w) (o0 : Inv RC w) (a1 : Int32) : CtI l G yX10_drift cX10_drift 5 .int ({ frames := 4, cells := 0, slots := 0, locals := 100 } : Room) [.ref (gz G + 0), .int a1] w (fun r w' => Ch [25, 26, 27, 36, 37] [(0, 14), (35, 0), (35, 1), (55, 7)] w w' ∧ Inv RC w') := by
  refine enterI (by decide) (Nat.le_of_ble_eq_true rfl) ?_
  intro x el eG C hret
  subst el; subst eG
  show V x 0 0 w 0 [(0, .ref (gz (xG x) + 0)), (1, .int a1)] []
  have h0 : Ch [25, 26, 27, 36, 37] [(0, 14), (35, 0), (35, 1), (55, 7)] w w := Ch.rf
  have qm1000000003 : ((-1000000003) : Int32).toInt = (-1000000003) := by decide
  have qm1000000002 : ((-1000000002) : Int32).toInt = (-1000000002) := by decide
  have qm1 : ((-1) : Int32).toInt = (-1) := by decide
  have q0 : (0 : Int32).toInt = 0 := by decide
  have q1 : (1 : Int32).toInt = 1 := by decide
  have q5 : (5 : Int32).toInt = 5 := by decide
  have q99 : (99 : Int32).toInt = 99 := by decide
  have LP8 : ∀ (f9 : Nat) (u7 : Int32) (w10 : Wv), Ch [25, 26, 27, 36, 37] [(0, 14), (35, 0), (35, 1), (55, 7)] w w10 → Inv RC w10 → (0 ≤ u7.toInt ∧ u7.toInt ≤ 2147483647) → (1 ≤ a1.toInt ∧ a1.toInt ≤ 99) → 2147483647 - u7.toInt < f9 → V x 0 0 w10 29 [(0, .ref (gz (xG x) + 0)), (1, .int a1), (2, .int u7)] [] := by
    intro f9
    induction f9 with
    | zero => intro u7 w10 h11 o12 z13 z14 z15; exfalso; omega
    | succ f9 ih16 =>
      intro u7 w10 h11 o12 z13 z14 z15
      refine r_iload_n 2 C dX10_drift_29 rfl ?_
      refine r_iload_n 1 C dX10_drift_30 rfl ?_
      have k18 := i_rng u7
      refine r_icmp_ge 102 C dX10_drift_31 (by decide) (fun c17 => ?_) (fun c17 => ?_)
      · have c17' := i_le c17
        refine r_aload_n 0 C dX10_drift_102 rfl ?_
        refine gfX10_77 55 C (kS sC h11 kc_0) (xS sC h11 xc_0_11) dX10_drift_103 ?_
        refine callVV C cwX10_219_V (ctX8_forget_55 _ _ w10 (sS sC h11) o12  ) (by decide) (kS sC h11 kc_55) rfl rfl rfl (Nat.le_of_ble_eq_true rfl) (by decide) dX10_drift_106 (fun w20 y19 => ?_)
        show V x 0 0 w20 109 [(0, .ref (gz (xG x) + 0)), (1, .int a1), (2, .int u7)] []
        obtain ⟨h22, o23⟩ := y19
        have h24 := Ch.tr h11 h22 (by decide) (by decide)
        refine r_aload_n 0 C dX10_drift_109 rfl ?_
        refine gfX10_41 35 C (kS sC h24 kc_0) (xS sC h24 xc_0_5) dX10_drift_110 ?_
        refine callVI C cwX10_149_V (ctX6_left_35 _ _ w20 (sS sC h24) o23  ) (by decide) (kS sC h24 kc_35) rfl rfl rfl (Nat.le_of_ble_eq_true rfl) (by decide) dX10_drift_113 (fun r27 w26 y25 => ?_)
        show V x 0 0 w26 116 [(0, .ref (gz (xG x) + 0)), (1, .int a1), (2, .int u7)] [.int r27]
        obtain ⟨h28, o29⟩ := y25
        have h30 := Ch.tr h24 h28 (by decide) (by decide)
        exact hret _ _ _ _ dX10_drift_116 rfl ⟨h30, o29⟩
      · have c17' := i_nle c17
        refine r_aload_n 0 C dX10_drift_34 rfl ?_
        refine r_iconst (v := 5) C dX10_drift_35 (by decide) ?_
        refine callVI C cwX10_228_V (ctX10_draw_0 _ _ w10 (sS sC h11) o12 5 ) (by decide) (kS sC h11 kc_0) rfl rfl rfl (Nat.le_of_ble_eq_true rfl) (by decide) dX10_drift_36 (fun r33 w32 y31 => ?_)
        show V x 0 0 w32 39 [(0, .ref (gz (xG x) + 0)), (1, .int a1), (2, .int u7)] [.int r33]
        obtain ⟨h34, o35⟩ := y31
        have h36 := Ch.tr h11 h34 (by decide) (by decide)
        refine r_istore_n [(3, .int r33), (0, .ref (gz (xG x) + 0)), (1, .int a1), (2, .int u7)] C dX10_drift_39 (by decide) rfl ?_
        refine r_aload_n 1 C dX10_drift_40 rfl ?_
        refine r_aload_n 1 C dX10_drift_41 rfl ?_
        refine gfX10_19 3 C (kS sC h36 kc_0) (xS sC h36 xc_0_1) dX10_drift_42 ?_
        refine gfX10_132 (v := (wI w 3 4)) C (kS sC h36 kc_3) (h34.I (by decide) (by decide) (h11.I (by decide) (by decide) rfl)) dX10_drift_45 ?_
        have b37 := Inv.get o0 rt_3_4 (j := 4) (by decide) (by decide)
        refine r_iconst (v := 1) C dX10_drift_48 (by decide) ?_
        refine r_iadd C dX10_drift_49 (fun v38 e39 => ?_)
        have v38' := iadd_ok e39 (by omega) (by omega)
        refine callVI C cwX10_228_V (ctX10_draw_0 _ _ w32 (sS sC h36) o35 v38 ) (by decide) (kS sC h36 kc_0) rfl rfl rfl (Nat.le_of_ble_eq_true rfl) (by decide) dX10_drift_50 (fun r42 w41 y40 => ?_)
        show V x 0 0 w41 53 [(3, .int r33), (0, .ref (gz (xG x) + 0)), (1, .int a1), (2, .int u7)] [.int r42]
        obtain ⟨h43, o44⟩ := y40
        have h45 := Ch.tr h36 h43 (by decide) (by decide)
        refine r_istore [(4, .int r42), (3, .int r33), (0, .ref (gz (xG x) + 0)), (1, .int a1), (2, .int u7)] C dX10_drift_53 (by decide) rfl ?_
        refine r_aload_n 2 C dX10_drift_55 rfl ?_
        refine gfX10_41 35 C (kS sC h45 kc_0) (xS sC h45 xc_0_5) dX10_drift_56 ?_
        refine r_aload_n 2 C dX10_drift_59 rfl ?_
        refine gfX10_41 35 C (kS sC h45 kc_0) (xS sC h45 xc_0_5) dX10_drift_60 ?_
        refine r_iload_n 1 C dX10_drift_63 rfl ?_
        refine callVI C cwX10_211_V (ctX6_may_35 _ _ w41 (sS sC h45) o44 r33 ) (by decide) (kS sC h45 kc_35) rfl rfl rfl (Nat.le_of_ble_eq_true rfl) (by decide) dX10_drift_64 (fun r48 w47 y46 => ?_)
        show V x 0 0 w47 67 [(4, .int r42), (3, .int r33), (0, .ref (gz (xG x) + 0)), (1, .int a1), (2, .int u7)] [.int r48, .ref (gz (xG x) + 35)]
        obtain ⟨h49, o50, g51⟩ := y46
        have h52 := Ch.tr h45 h49 (by decide) (by decide)
        refine r_if_eq 74 C dX10_drift_67 (by decide) (fun c53 => ?_) (fun c53 => ?_)
        · have c53' := i_eq c53
          refine r_iconst (v := 0) C dX10_drift_74 (by decide) ?_
          refine r_iload 0 C dX10_drift_75 rfl ?_
          refine r_aload_n 2 C dX10_drift_77 rfl ?_
          refine gfX10_19 3 C (kS sC h52 kc_0) (xS sC h52 xc_0_1) dX10_drift_78 ?_
          refine gfX10_132 (v := (wI w 3 4)) C (kS sC h52 kc_3) (h49.I (by decide) (by decide) (h43.I (by decide) (by decide) (h34.I (by decide) (by decide) (h11.I (by decide) (by decide) rfl)))) dX10_drift_81 ?_
          have k55 := i_rng r42
          refine r_icmp_ge 92 C dX10_drift_84 (by decide) (fun c54 => ?_) (fun c54 => ?_)
          · have c54' := i_le c54
            refine r_iconst (v := (-1)) C dX10_drift_92 (by decide) ?_
            refine callVV C cwX10_215_V (ctX6_pass_35 _ _ w47 (sS sC h52) o50 0 (-1) ) (by decide) (kS sC h52 kc_35) rfl rfl rfl (Nat.le_of_ble_eq_true rfl) (by decide) dX10_drift_93 (fun w57 y56 => ?_)
            show V x 0 0 w57 96 [(4, .int r42), (3, .int r33), (0, .ref (gz (xG x) + 0)), (1, .int a1), (2, .int u7)] []
            obtain ⟨h59, o60⟩ := y56
            have h61 := Ch.tr h52 h59 (by decide) (by decide)
            obtain ⟨i62, e63⟩ : ∃ z : Int32, u7 + Int32.ofInt 1 = z := ⟨_, rfl⟩
            have i62' := iinc_ok e63 (by decide) (by omega) (by omega)
            refine r_iinc [(2, .int i62), (4, .int r42), (3, .int r33), (0, .ref (gz (xG x) + 0)), (1, .int a1)] 4 C dX10_drift_96 rfl e63 (by decide) rfl ?_
            refine r_goto 29 C dX10_drift_99 (by decide) ?_
            refine r_lv [3, 4, 0] rfl ?_
            exact ih16 i62 w57 h61 o60 (by omega) (by omega) (by omega)
          · have c54' := i_nle c54
            refine r_iload 0 C dX10_drift_87 rfl ?_
            refine r_goto 93 C dX10_drift_89 (by decide) ?_
            refine callVV C cwX10_215_V (ctX6_pass_35 _ _ w47 (sS sC h52) o50 0 r42 ) (by decide) (kS sC h52 kc_35) rfl rfl rfl (Nat.le_of_ble_eq_true rfl) (by decide) dX10_drift_93 (fun w65 y64 => ?_)
            show V x 0 0 w65 96 [(4, .int r42), (3, .int r33), (0, .ref (gz (xG x) + 0)), (1, .int a1), (2, .int u7)] []
            obtain ⟨h67, o68⟩ := y64
            have h69 := Ch.tr h52 h67 (by decide) (by decide)
            obtain ⟨i70, e71⟩ : ∃ z : Int32, u7 + Int32.ofInt 1 = z := ⟨_, rfl⟩
            have i70' := iinc_ok e71 (by decide) (by omega) (by omega)
            refine r_iinc [(2, .int i70), (4, .int r42), (3, .int r33), (0, .ref (gz (xG x) + 0)), (1, .int a1)] 4 C dX10_drift_96 rfl e71 (by decide) rfl ?_
            refine r_goto 29 C dX10_drift_99 (by decide) ?_
            refine r_lv [3, 4, 0] rfl ?_
            exact ih16 i70 w65 h69 o68 (by omega) (by omega) (by omega)
        · have c53' := i_ne c53
          refine r_iload_n 1 C dX10_drift_70 rfl ?_
          refine r_goto 75 C dX10_drift_71 (by decide) ?_
          refine r_iload 0 C dX10_drift_75 rfl ?_
          refine r_aload_n 2 C dX10_drift_77 rfl ?_
          refine gfX10_19 3 C (kS sC h52 kc_0) (xS sC h52 xc_0_1) dX10_drift_78 ?_
          refine gfX10_132 (v := (wI w 3 4)) C (kS sC h52 kc_3) (h49.I (by decide) (by decide) (h43.I (by decide) (by decide) (h34.I (by decide) (by decide) (h11.I (by decide) (by decide) rfl)))) dX10_drift_81 ?_
          have k73 := i_rng r42
          refine r_icmp_ge 92 C dX10_drift_84 (by decide) (fun c72 => ?_) (fun c72 => ?_)
          · have c72' := i_le c72
            refine r_iconst (v := (-1)) C dX10_drift_92 (by decide) ?_
            refine callVV C cwX10_215_V (ctX6_pass_35 _ _ w47 (sS sC h52) o50 r33 (-1) ) (by decide) (kS sC h52 kc_35) rfl rfl rfl (Nat.le_of_ble_eq_true rfl) (by decide) dX10_drift_93 (fun w75 y74 => ?_)
            show V x 0 0 w75 96 [(4, .int r42), (3, .int r33), (0, .ref (gz (xG x) + 0)), (1, .int a1), (2, .int u7)] []
            obtain ⟨h77, o78⟩ := y74
            have h79 := Ch.tr h52 h77 (by decide) (by decide)
            obtain ⟨i80, e81⟩ : ∃ z : Int32, u7 + Int32.ofInt 1 = z := ⟨_, rfl⟩
            have i80' := iinc_ok e81 (by decide) (by omega) (by omega)
            refine r_iinc [(2, .int i80), (4, .int r42), (3, .int r33), (0, .ref (gz (xG x) + 0)), (1, .int a1)] 4 C dX10_drift_96 rfl e81 (by decide) rfl ?_
            refine r_goto 29 C dX10_drift_99 (by decide) ?_
            refine r_lv [3, 4, 0] rfl ?_
            exact ih16 i80 w75 h79 o78 (by omega) (by omega) (by omega)
          · have c72' := i_nle c72
            refine r_iload 0 C dX10_drift_87 rfl ?_
            refine r_goto 93 C dX10_drift_89 (by decide) ?_
            refine callVV C cwX10_215_V (ctX6_pass_35 _ _ w47 (sS sC h52) o50 r33 r42 ) (by decide) (kS sC h52 kc_35) rfl rfl rfl (Nat.le_of_ble_eq_true rfl) (by decide) dX10_drift_93 (fun w83 y82 => ?_)
            show V x 0 0 w83 96 [(4, .int r42), (3, .int r33), (0, .ref (gz (xG x) + 0)), (1, .int a1), (2, .int u7)] []
            obtain ⟨h85, o86⟩ := y82
            have h87 := Ch.tr h52 h85 (by decide) (by decide)
            obtain ⟨i88, e89⟩ : ∃ z : Int32, u7 + Int32.ofInt 1 = z := ⟨_, rfl⟩
            have i88' := iinc_ok e89 (by decide) (by omega) (by omega)
            refine r_iinc [(2, .int i88), (4, .int r42), (3, .int r33), (0, .ref (gz (xG x) + 0)), (1, .int a1)] 4 C dX10_drift_96 rfl e89 (by decide) rfl ?_
            refine r_goto 29 C dX10_drift_99 (by decide) ?_
            refine r_lv [3, 4, 0] rfl ?_
            exact ih16 i88 w83 h87 o86 (by omega) (by omega) (by omega)
  refine r_iload_n 1 C dX10_drift_0 rfl ?_
  refine r_iconst (v := 1) C dX10_drift_1 (by decide) ?_
  have k2 := i_rng a1
  refine r_icmp_lt 11 C dX10_drift_2 (by decide) (fun c1 => ?_) (fun c1 => ?_)
  · have c1' := i_lt c1
    refine r_ldc C mw2_226 dX10_drift_11 ?_
    exact hret _ _ _ _ dX10_drift_13 rfl ⟨h0, o0⟩
  · have c1' := i_nlt c1
    refine r_iload_n 1 C dX10_drift_5 rfl ?_
    refine r_bipush (v := 99) C dX10_drift_6 (by decide) ?_
    have k4 := i_rng a1
    refine r_icmp_le 14 C dX10_drift_8 (by decide) (fun c3 => ?_) (fun c3 => ?_)
    · have c3' := i_le c3
      refine r_aload_n 0 C dX10_drift_14 rfl ?_
      refine gfX10_29 21 C (kS sC h0 kc_0) (xS sC h0 xc_0_3) dX10_drift_15 ?_
      refine gfX10_114 (v := (wI w 21 0)) C (kS sC h0 kc_21) rfl dX10_drift_18 ?_
      have b5 := Inv.get o0 rt_21_0 (j := 0) (by decide) (by decide)
      refine r_if_ne 27 C dX10_drift_21 (by decide) (fun c6 => ?_) (fun c6 => ?_)
      · have c6' := i_ne c6
        refine r_iconst (v := 0) C dX10_drift_27 (by decide) ?_
        refine r_istore_n [(2, .int 0), (0, .ref (gz (xG x) + 0)), (1, .int a1)] C dX10_drift_28 (by decide) rfl ?_
        refine r_lv [1, 2, 0] rfl ?_
        exact LP8 4294967296 0 w h0 o0 (by omega) (by omega) (by omega)
      · have c6' := i_eq c6
        refine r_ldc C mw4_29 dX10_drift_24 ?_
        exact hret _ _ _ _ dX10_drift_26 rfl ⟨h0, o0⟩
    · have c3' := i_nle c3
      refine r_ldc C mw2_226 dX10_drift_11 ?_
      exact hret _ _ _ _ dX10_drift_13 rfl ⟨h0, o0⟩
set_option maxHeartbeats 4000000 in
set_option maxRecDepth 100000 in
theorem ctX10_plan_0 (l : Launch) (G : Gt) (w : Wv) (sC : Str KC XC w) (o0 : Inv RC w) (a1 : Int32) (a2 : Int32) : CtI l G yX10_plan cX10_plan 3 .int ({ frames := 2, cells := 0, slots := 0, locals := 42 } : Room) [.ref (gz G + 0), .int a1, .int a2] w (fun r w' => Ch [45, 46] [(44, 0)] w w' ∧ Inv RC w') := by
  refine enterI (by decide) (Nat.le_of_ble_eq_true rfl) ?_
  intro x el eG C hret
  subst el; subst eG
  show V x 0 0 w 0 [(0, .ref (gz (xG x) + 0)), (1, .int a1), (2, .int a2)] []
  have h0 : Ch [45, 46] [(44, 0)] w w := Ch.rf
  have qm1000000004 : ((-1000000004) : Int32).toInt = (-1000000004) := by decide
  have qm1000000002 : ((-1000000002) : Int32).toInt = (-1000000002) := by decide
  have qm1000000001 : ((-1000000001) : Int32).toInt = (-1000000001) := by decide
  have q0 : (0 : Int32).toInt = 0 := by decide
  have q30 : (30 : Int32).toInt = 30 := by decide
  refine r_aload_n 0 C dX10_plan_0 rfl ?_
  refine r_iload_n 2 C dX10_plan_1 rfl ?_
  refine callVI C cwX10_205_V (ctX10_isTuneOrNone_0 _ _ w (sS sC h0) o0 a2 ) (by decide) (kS sC h0 kc_0) rfl rfl rfl (Nat.le_of_ble_eq_true rfl) (by decide) dX10_plan_2 (fun r3 w2 y1 => ?_)
  show V x 0 0 w2 5 [(0, .ref (gz (xG x) + 0)), (1, .int a1), (2, .int a2)] [.int r3]
  obtain ⟨h4, o5, g6⟩ := y1
  have h7 := Ch.tr h0 h4 (by decide) (by decide)
  refine r_if_ne 11 C dX10_plan_5 (by decide) (fun c8 => ?_) (fun c8 => ?_)
  · have c8' := i_ne c8
    refine r_iload_n 1 C dX10_plan_11 rfl ?_
    refine callSI C cwX10_208_S (ctX10_isStep _ _ w2 a1 ) (by decide) rfl rfl (Nat.le_of_ble_eq_true rfl) (by decide) dX10_plan_12 (fun r11 w10 y9 => ?_)
    obtain ⟨y9, g12⟩ := y9
    obtain rfl := y9.symm
    show V x 0 0 w2 15 [(0, .ref (gz (xG x) + 0)), (1, .int a1), (2, .int a2)] [.int r11]
    refine r_if_ne 21 C dX10_plan_15 (by decide) (fun c13 => ?_) (fun c13 => ?_)
    · have c13' := i_ne c13
      refine r_aload_n 0 C dX10_plan_21 rfl ?_
      refine gfX10_54 44 C (kS sC h7 kc_0) (xS sC h7 xc_0_8) dX10_plan_22 ?_
      refine gfX10_156 (v := (wI w 44 0)) C (kS sC h7 kc_44) (h4.I (by decide) (by decide) rfl) dX10_plan_25 ?_
      have b14 := Inv.get o0 rt_44_0 (j := 0) (by decide) (by decide)
      refine r_bipush (v := 30) C dX10_plan_28 (by decide) ?_
      refine r_icmp_lt 36 C dX10_plan_30 (by decide) (fun c15 => ?_) (fun c15 => ?_)
      · have c15' := i_lt c15
        refine r_aload_n 0 C dX10_plan_36 rfl ?_
        refine gfX10_54 44 C (kS sC h7 kc_0) (xS sC h7 xc_0_8) dX10_plan_37 ?_
        refine r_iload_n 1 C dX10_plan_40 rfl ?_
        refine r_iload_n 2 C dX10_plan_41 rfl ?_
        refine callVV C cwX10_231_V (ctX4_add_44 _ _ w2 (sS sC h7) o5 a1 a2 ) (by decide) (kS sC h7 kc_44) rfl rfl rfl (Nat.le_of_ble_eq_true rfl) (by decide) dX10_plan_42 (fun w17 y16 => ?_)
        show V x 0 0 w17 45 [(0, .ref (gz (xG x) + 0)), (1, .int a1), (2, .int a2)] []
        obtain ⟨h19, o20⟩ := y16
        have h21 := Ch.tr h7 h19 (by decide) (by decide)
        refine r_aload_n 0 C dX10_plan_45 rfl ?_
        refine gfX10_54 44 C (kS sC h21 kc_0) (xS sC h21 xc_0_8) dX10_plan_46 ?_
        refine gfX10_156 (v := (wI w17 44 0)) C (kS sC h21 kc_44) rfl dX10_plan_49 ?_
        have b22 := Inv.get o20 rt_44_0 (j := 0) (by decide) (by decide)
        exact hret _ _ _ _ dX10_plan_52 rfl ⟨h21, o20⟩
      · have c15' := i_nlt c15
        refine r_ldc C mw2_227 dX10_plan_33 ?_
        exact hret _ _ _ _ dX10_plan_35 rfl ⟨h7, o5⟩
    · have c13' := i_eq c13
      refine r_ldc C mw2_226 dX10_plan_18 ?_
      exact hret _ _ _ _ dX10_plan_20 rfl ⟨h7, o5⟩
  · have c8' := i_eq c8
    refine r_ldc C mw3_198 dX10_plan_8 ?_
    exact hret _ _ _ _ dX10_plan_10 rfl ⟨h7, o5⟩
set_option maxHeartbeats 4000000 in
set_option maxRecDepth 100000 in
theorem ctX10_drop_0 (l : Launch) (G : Gt) (w : Wv) (sC : Str KC XC w) (o0 : Inv RC w)  : CtI l G yX10_drop cX10_drop 2 .int ({ frames := 0, cells := 0, slots := 0, locals := 0 } : Room) [.ref (gz G + 0)] w (fun r w' => Ch [] [(44, 0)] w w' ∧ Inv RC w') := by
  refine enterI (by decide) (Nat.le_of_ble_eq_true rfl) ?_
  intro x el eG C hret
  subst el; subst eG
  show V x 0 0 w 0 [(0, .ref (gz (xG x) + 0))] []
  have h0 : Ch [] [(44, 0)] w w := Ch.rf
  have q0 : (0 : Int32).toInt = 0 := by decide
  refine r_aload_n 0 C dX10_drop_0 rfl ?_
  refine gfX10_54 44 C (kS sC h0 kc_0) (xS sC h0 xc_0_8) dX10_drop_1 ?_
  refine gfX10_156 (v := (wI w 44 0)) C (kS sC h0 kc_44) rfl dX10_drop_4 ?_
  have b1 := Inv.get o0 rt_44_0 (j := 0) (by decide) (by decide)
  refine r_istore_n [(1, .int (wI w 44 0)), (0, .ref (gz (xG x) + 0))] C dX10_drop_7 (by decide) rfl ?_
  refine r_aload_n 1 C dX10_drop_8 rfl ?_
  refine gfX10_54 44 C (kS sC h0 kc_0) (xS sC h0 xc_0_8) dX10_drop_9 ?_
  refine r_iconst (v := 0) C dX10_drop_12 (by decide) ?_
  refine pfX10_156 C (kS sC h0 kc_44) dX10_drop_13 (fun w2 e3 => ?_)
  have h4 := Ch.putF h0 e3 (by decide)
  have o5 := Inv.put o0 e3 0 30 (by omega) (by decide)
  refine r_iload_n 0 C dX10_drop_16 rfl ?_
  exact hret _ _ _ _ dX10_drop_17 rfl ⟨h4, o5⟩
set_option maxHeartbeats 4000000 in
set_option maxRecDepth 100000 in
theorem ctX10_judge_0 (l : Launch) (G : Gt) (w : Wv) (sC : Str KC XC w) (o0 : Inv RC w)  : CtI l G yX10_judge cX10_judge 2 .int ({ frames := 6, cells := 0, slots := 0, locals := 144 } : Room) [.ref (gz G + 0)] w (fun r w' => Ch [25, 26, 27, 39, 40] [(38, 0), (38, 1)] w w' ∧ Inv RC w') := by
  refine enterI (by decide) (Nat.le_of_ble_eq_true rfl) ?_
  intro x el eG C hret
  subst el; subst eG
  show V x 0 0 w 0 [(0, .ref (gz (xG x) + 0))] []
  have h0 : Ch [25, 26, 27, 39, 40] [(38, 0), (38, 1)] w w := Ch.rf
  have qm1 : ((-1) : Int32).toInt = (-1) := by decide
  have q30 : (30 : Int32).toInt = 30 := by decide
  refine r_aload_n 0 C dX10_judge_0 rfl ?_
  refine r_bipush (v := 30) C dX10_judge_1 (by decide) ?_
  refine callVI C cwX10_233_V (ctX10_tryPlan_0 _ _ w (sS sC h0) o0 30 ) (by decide) (kS sC h0 kc_0) rfl rfl rfl (Nat.le_of_ble_eq_true rfl) (by decide) dX10_judge_3 (fun r3 w2 y1 => ?_)
  show V x 0 0 w2 6 [(0, .ref (gz (xG x) + 0))] [.int r3]
  obtain ⟨h4, o5⟩ := y1
  have h6 := Ch.tr h0 h4 (by decide) (by decide)
  refine r_istore_n [(1, .int r3), (0, .ref (gz (xG x) + 0))] C dX10_judge_6 (by decide) rfl ?_
  refine r_iload_n 0 C dX10_judge_7 rfl ?_
  refine r_aload_n 1 C dX10_judge_8 rfl ?_
  refine gfX10_54 44 C (kS sC h6 kc_0) (xS sC h6 xc_0_8) dX10_judge_9 ?_
  refine gfX10_156 (v := (wI w 44 0)) C (kS sC h6 kc_44) (h4.I (by decide) (by decide) rfl) dX10_judge_12 ?_
  have b7 := Inv.get o0 rt_44_0 (j := 0) (by decide) (by decide)
  have k9 := i_rng r3
  refine r_icmp_ge 22 C dX10_judge_15 (by decide) (fun c8 => ?_) (fun c8 => ?_)
  · have c8' := i_le c8
    refine r_iconst (v := (-1)) C dX10_judge_22 (by decide) ?_
    exact hret _ _ _ _ dX10_judge_23 rfl ⟨h6, o5⟩
  · have c8' := i_nle c8
    refine r_iload_n 0 C dX10_judge_18 rfl ?_
    refine r_goto 23 C dX10_judge_19 (by decide) ?_
    exact hret _ _ _ _ dX10_judge_23 rfl ⟨h6, o5⟩
set_option maxHeartbeats 4000000 in
set_option maxRecDepth 100000 in
theorem ctX10_tried_0 (l : Launch) (G : Gt) (w : Wv) (sC : Str KC XC w) (o0 : Inv RC w) (a1 : Int32) (a2 : Int32) : CtI l G yX10_tried cX10_tried 3 .int ({ frames := 6, cells := 0, slots := 0, locals := 144 } : Room) [.ref (gz G + 0), .int a1, .int a2] w (fun r w' => Ch [25, 26, 27, 39, 40] [(38, 0), (38, 1)] w w' ∧ Inv RC w') := by
  refine enterI (by decide) (Nat.le_of_ble_eq_true rfl) ?_
  intro x el eG C hret
  subst el; subst eG
  show V x 0 0 w 0 [(0, .ref (gz (xG x) + 0)), (1, .int a1), (2, .int a2)] []
  have h0 : Ch [25, 26, 27, 39, 40] [(38, 0), (38, 1)] w w := Ch.rf
  have qm1000000002 : ((-1000000002) : Int32).toInt = (-1000000002) := by decide
  have qm1000000001 : ((-1000000001) : Int32).toInt = (-1000000001) := by decide
  have qm1 : ((-1) : Int32).toInt = (-1) := by decide
  have q0 : (0 : Int32).toInt = 0 := by decide
  have q1 : (1 : Int32).toInt = 1 := by decide
  have q2 : (2 : Int32).toInt = 2 := by decide
  have q30 : (30 : Int32).toInt = 30 := by decide
  refine r_iload_n 1 C dX10_tried_0 rfl ?_
  refine r_iconst (v := (-1)) C dX10_tried_1 (by decide) ?_
  refine r_icmp_eq 15 C dX10_tried_2 (by decide) (fun c1 => ?_) (fun c1 => ?_)
  · have c1' := i_eq c1
    refine r_iload_n 1 C dX10_tried_15 rfl ?_
    refine r_iconst (v := (-1)) C dX10_tried_16 (by decide) ?_
    refine r_icmp_eq 32 C dX10_tried_17 (by decide) (fun c2 => ?_) (fun c2 => ?_)
    · have c2' := i_eq c2
      refine r_aload_n 0 C dX10_tried_32 rfl ?_
      refine r_bipush (v := 30) C dX10_tried_33 (by decide) ?_
      refine callVI C cwX10_233_V (ctX10_tryPlan_0 _ _ w (sS sC h0) o0 30 ) (by decide) (kS sC h0 kc_0) rfl rfl rfl (Nat.le_of_ble_eq_true rfl) (by decide) dX10_tried_35 (fun r5 w4 y3 => ?_)
      show V x 0 0 w4 38 [(0, .ref (gz (xG x) + 0)), (1, .int a1), (2, .int a2)] [.int r5]
      obtain ⟨h6, o7⟩ := y3
      have h8 := Ch.tr h0 h6 (by decide) (by decide)
      refine r_pop C dX10_tried_38 rfl ?_
      refine r_iload_n 1 C dX10_tried_39 rfl ?_
      refine r_iconst (v := (-1)) C dX10_tried_40 (by decide) ?_
      refine r_icmp_ne 54 C dX10_tried_41 (by decide) (fun c9 => ?_) (fun c9 => ?_)
      · have c9' := i_ne c9
        exfalso; omega
      · have c9' := i_eq c9
        refine r_aload_n 0 C dX10_tried_44 rfl ?_
        refine gfX10_45 38 C (kS sC h8 kc_0) (xS sC h8 xc_0_6) dX10_tried_45 ?_
        refine callVI C cwX10_153_V (ctX6_worth_38 _ _ w4 (sS sC h8) o7  ) (by decide) (kS sC h8 kc_38) rfl rfl rfl (Nat.le_of_ble_eq_true rfl) (by decide) dX10_tried_48 (fun r12 w11 y10 => ?_)
        show V x 0 0 w11 51 [(0, .ref (gz (xG x) + 0)), (1, .int a1), (2, .int a2)] [.int r12]
        obtain ⟨h13, o14⟩ := y10
        have h15 := Ch.tr h8 h13 (by decide) (by decide)
        refine r_goto 71 C dX10_tried_51 (by decide) ?_
        exact hret _ _ _ _ dX10_tried_71 rfl ⟨h15, o14⟩
    · have c2' := i_ne c2
      exfalso; omega
  · have c1' := i_ne c1
    refine r_iload_n 1 C dX10_tried_5 rfl ?_
    refine callSI C cwX10_236_S (ctX10_isKind _ _ w a1 ) (by decide) rfl rfl (Nat.le_of_ble_eq_true rfl) (by decide) dX10_tried_6 (fun r18 w17 y16 => ?_)
    obtain ⟨y16, g19⟩ := y16
    obtain rfl := y16.symm
    show V x 0 0 w 9 [(0, .ref (gz (xG x) + 0)), (1, .int a1), (2, .int a2)] [.int r18]
    refine r_if_ne 15 C dX10_tried_9 (by decide) (fun c20 => ?_) (fun c20 => ?_)
    · have c20' := i_ne c20
      refine r_iload_n 1 C dX10_tried_15 rfl ?_
      refine r_iconst (v := (-1)) C dX10_tried_16 (by decide) ?_
      refine r_icmp_eq 32 C dX10_tried_17 (by decide) (fun c21 => ?_) (fun c21 => ?_)
      · have c21' := i_eq c21
        exfalso; omega
      · have c21' := i_ne c21
        refine r_iload_n 2 C dX10_tried_20 rfl ?_
        refine r_if_lt 29 C dX10_tried_21 (by decide) (fun c22 => ?_) (fun c22 => ?_)
        · have c22' := i_lt c22
          refine r_ldc C mw2_226 dX10_tried_29 ?_
          exact hret _ _ _ _ dX10_tried_31 rfl ⟨h0, o0⟩
        · have c22' := i_nlt c22
          refine r_iload_n 2 C dX10_tried_24 rfl ?_
          refine r_iconst (v := 1) C dX10_tried_25 (by decide) ?_
          have k24 := i_rng a2
          refine r_icmp_le 32 C dX10_tried_26 (by decide) (fun c23 => ?_) (fun c23 => ?_)
          · have c23' := i_le c23
            refine r_aload_n 0 C dX10_tried_32 rfl ?_
            refine r_bipush (v := 30) C dX10_tried_33 (by decide) ?_
            refine callVI C cwX10_233_V (ctX10_tryPlan_0 _ _ w (sS sC h0) o0 30 ) (by decide) (kS sC h0 kc_0) rfl rfl rfl (Nat.le_of_ble_eq_true rfl) (by decide) dX10_tried_35 (fun r27 w26 y25 => ?_)
            show V x 0 0 w26 38 [(0, .ref (gz (xG x) + 0)), (1, .int a1), (2, .int a2)] [.int r27]
            obtain ⟨h28, o29⟩ := y25
            have h30 := Ch.tr h0 h28 (by decide) (by decide)
            refine r_pop C dX10_tried_38 rfl ?_
            refine r_iload_n 1 C dX10_tried_39 rfl ?_
            refine r_iconst (v := (-1)) C dX10_tried_40 (by decide) ?_
            refine r_icmp_ne 54 C dX10_tried_41 (by decide) (fun c31 => ?_) (fun c31 => ?_)
            · have c31' := i_ne c31
              refine r_aload_n 0 C dX10_tried_54 rfl ?_
              refine gfX10_45 38 C (kS sC h30 kc_0) (xS sC h30 xc_0_6) dX10_tried_55 ?_
              refine r_iload_n 1 C dX10_tried_58 rfl ?_
              refine r_iload_n 2 C dX10_tried_59 rfl ?_
              refine r_if_ne 67 C dX10_tried_60 (by decide) (fun c32 => ?_) (fun c32 => ?_)
              · have c32' := i_ne c32
                refine r_iconst (v := 2) C dX10_tried_67 (by decide) ?_
                refine callVI C cwX10_145_V (ctX6_heads_38 _ _ w26 (sS sC h30) o29 a1 2 ) (by decide) (kS sC h30 kc_38) rfl rfl rfl (Nat.le_of_ble_eq_true rfl) (by decide) dX10_tried_68 (fun r35 w34 y33 => ?_)
                show V x 0 0 w34 71 [(0, .ref (gz (xG x) + 0)), (1, .int a1), (2, .int a2)] [.int r35]
                obtain ⟨h36, o37⟩ := y33
                have h38 := Ch.tr h30 h36 (by decide) (by decide)
                exact hret _ _ _ _ dX10_tried_71 rfl ⟨h38, o37⟩
              · have c32' := i_eq c32
                refine r_iconst (v := 1) C dX10_tried_63 (by decide) ?_
                refine r_goto 68 C dX10_tried_64 (by decide) ?_
                refine callVI C cwX10_145_V (ctX6_heads_38 _ _ w26 (sS sC h30) o29 a1 1 ) (by decide) (kS sC h30 kc_38) rfl rfl rfl (Nat.le_of_ble_eq_true rfl) (by decide) dX10_tried_68 (fun r41 w40 y39 => ?_)
                show V x 0 0 w40 71 [(0, .ref (gz (xG x) + 0)), (1, .int a1), (2, .int a2)] [.int r41]
                obtain ⟨h42, o43⟩ := y39
                have h44 := Ch.tr h30 h42 (by decide) (by decide)
                exact hret _ _ _ _ dX10_tried_71 rfl ⟨h44, o43⟩
            · have c31' := i_eq c31
              exfalso; omega
          · have c23' := i_nle c23
            refine r_ldc C mw2_226 dX10_tried_29 ?_
            exact hret _ _ _ _ dX10_tried_31 rfl ⟨h0, o0⟩
    · have c20' := i_eq c20
      refine r_ldc C mw3_198 dX10_tried_12 ?_
      exact hret _ _ _ _ dX10_tried_14 rfl ⟨h0, o0⟩
set_option maxHeartbeats 4000000 in
set_option maxRecDepth 100000 in
theorem ctX10_where_0 (l : Launch) (G : Gt) (w : Wv) (sC : Str KC XC w) (o0 : Inv RC w) (a1 : Int32) (a2 : Int32) : CtI l G yX10_where cX10_where 3 .int ({ frames := 6, cells := 0, slots := 0, locals := 144 } : Room) [.ref (gz G + 0), .int a1, .int a2] w (fun r w' => Ch [25, 26, 27, 39, 40] [(38, 0), (38, 1)] w w' ∧ Inv RC w') := by
  refine enterI (by decide) (Nat.le_of_ble_eq_true rfl) ?_
  intro x el eG C hret
  subst el; subst eG
  show V x 0 0 w 0 [(0, .ref (gz (xG x) + 0)), (1, .int a1), (2, .int a2)] []
  have h0 : Ch [25, 26, 27, 39, 40] [(38, 0), (38, 1)] w w := Ch.rf
  have qm1000000002 : ((-1000000002) : Int32).toInt = (-1000000002) := by decide
  have qm1000000001 : ((-1000000001) : Int32).toInt = (-1000000001) := by decide
  have q0 : (0 : Int32).toInt = 0 := by decide
  have q30 : (30 : Int32).toInt = 30 := by decide
  refine r_aload_n 0 C dX10_where_0 rfl ?_
  refine r_iload_n 1 C dX10_where_1 rfl ?_
  refine callVI C cwX10_165_V (ctX10_isCrowd_0 _ _ w (sS sC h0) o0 a1 ) (by decide) (kS sC h0 kc_0) rfl rfl rfl (Nat.le_of_ble_eq_true rfl) (by decide) dX10_where_2 (fun r3 w2 y1 => ?_)
  show V x 0 0 w2 5 [(0, .ref (gz (xG x) + 0)), (1, .int a1), (2, .int a2)] [.int r3]
  obtain ⟨h4, o5, g6⟩ := y1
  have h7 := Ch.tr h0 h4 (by decide) (by decide)
  refine r_if_ne 11 C dX10_where_5 (by decide) (fun c8 => ?_) (fun c8 => ?_)
  · have c8' := i_ne c8
    refine r_iload_n 2 C dX10_where_11 rfl ?_
    refine r_if_lt 21 C dX10_where_12 (by decide) (fun c9 => ?_) (fun c9 => ?_)
    · have c9' := i_lt c9
      refine r_ldc C mw2_226 dX10_where_21 ?_
      exact hret _ _ _ _ dX10_where_23 rfl ⟨h7, o5⟩
    · have c9' := i_nlt c9
      refine r_iload_n 2 C dX10_where_15 rfl ?_
      refine r_bipush (v := 30) C dX10_where_16 (by decide) ?_
      have k11 := i_rng a2
      refine r_icmp_le 24 C dX10_where_18 (by decide) (fun c10 => ?_) (fun c10 => ?_)
      · have c10' := i_le c10
        refine r_aload_n 0 C dX10_where_24 rfl ?_
        refine r_iload_n 2 C dX10_where_25 rfl ?_
        refine callVI C cwX10_233_V (ctX10_tryPlan_0 _ _ w2 (sS sC h7) o5 a2 ) (by decide) (kS sC h7 kc_0) rfl rfl rfl (Nat.le_of_ble_eq_true rfl) (by decide) dX10_where_26 (fun r14 w13 y12 => ?_)
        show V x 0 0 w13 29 [(0, .ref (gz (xG x) + 0)), (1, .int a1), (2, .int a2)] [.int r14]
        obtain ⟨h15, o16⟩ := y12
        have h17 := Ch.tr h7 h15 (by decide) (by decide)
        refine r_pop C dX10_where_29 rfl ?_
        refine r_aload_n 0 C dX10_where_30 rfl ?_
        refine gfX10_29 21 C (kS sC h17 kc_0) (xS sC h17 xc_0_3) dX10_where_31 ?_
        refine r_aload_n 0 C dX10_where_34 rfl ?_
        refine gfX10_45 38 C (kS sC h17 kc_0) (xS sC h17 xc_0_6) dX10_where_35 ?_
        refine gfX10_181 39 C (kS sC h17 kc_38) (xS sC h17 xc_38_2) dX10_where_38 ?_
        refine r_iload_n 1 C dX10_where_41 rfl ?_
        refine r_iald C (kS sC h17 kc_39) (vin (by omega) (by omega)) dX10_where_42 ?_
        generalize (wI w13 39 (a1).toNatClampNeg) = v18
        refine callVI C cwX10_141_V (ctX1_code_21 _ _ w13 (sS sC h17) o16 v18 ) (by decide) (kS sC h17 kc_21) rfl rfl rfl (Nat.le_of_ble_eq_true rfl) (by decide) dX10_where_43 (fun r21 w20 y19 => ?_)
        show V x 0 0 w20 46 [(0, .ref (gz (xG x) + 0)), (1, .int a1), (2, .int a2)] [.int r21]
        obtain ⟨h22, o23⟩ := y19
        have h24 := Ch.tr h17 h22 (by decide) (by decide)
        exact hret _ _ _ _ dX10_where_46 rfl ⟨h24, o23⟩
      · have c10' := i_nle c10
        refine r_ldc C mw2_226 dX10_where_21 ?_
        exact hret _ _ _ _ dX10_where_23 rfl ⟨h7, o5⟩
  · have c8' := i_eq c8
    refine r_ldc C mw3_198 dX10_where_8 ?_
    exact hret _ _ _ _ dX10_where_10 rfl ⟨h7, o5⟩
set_option maxHeartbeats 4000000 in
set_option maxRecDepth 100000 in
theorem ctX10_soonest_0 (l : Launch) (G : Gt) (w : Wv) (sC : Str KC XC w) (o0 : Inv RC w) (a1 : Int32) (a2 : Int32) (a3 : Int32) : CtI l G yX10_soonest cX10_soonest 4 .int ({ frames := 17, cells := 0, slots := 0, locals := 444 } : Room) [.ref (gz G + 0), .int a1, .int a2, .int a3] w (fun r w' => Ch [25, 26, 27, 52, 53, 54, 57, 58, 60, 61, 63, 64, 66, 67, 69, 70, 72, 73, 75, 76, 78, 79] [(55, 0), (55, 7), (55, 8), (55, 9), (59, 0), (59, 1), (62, 0), (62, 1), (65, 0), (65, 1), (68, 0), (68, 1), (71, 0), (71, 1), (74, 0), (74, 1), (77, 0), (77, 1)] w w' ∧ Inv RC w') := by
  refine enterI (by decide) (Nat.le_of_ble_eq_true rfl) ?_
  intro x el eG C hret
  subst el; subst eG
  show V x 0 0 w 0 [(0, .ref (gz (xG x) + 0)), (1, .int a1), (2, .int a2), (3, .int a3)] []
  have h0 : Ch [25, 26, 27, 52, 53, 54, 57, 58, 60, 61, 63, 64, 66, 67, 69, 70, 72, 73, 75, 76, 78, 79] [(55, 0), (55, 7), (55, 8), (55, 9), (59, 0), (59, 1), (62, 0), (62, 1), (65, 0), (65, 1), (68, 0), (68, 1), (71, 0), (71, 1), (74, 0), (74, 1), (77, 0), (77, 1)] w w := Ch.rf
  have qm1000000001 : ((-1000000001) : Int32).toInt = (-1000000001) := by decide
  have qm1 : ((-1) : Int32).toInt = (-1) := by decide
  have q0 : (0 : Int32).toInt = 0 := by decide
  refine r_iload_n 1 C dX10_soonest_0 rfl ?_
  refine callSI C cwX10_236_S (ctX10_isKind _ _ w a1 ) (by decide) rfl rfl (Nat.le_of_ble_eq_true rfl) (by decide) dX10_soonest_1 (fun r3 w2 y1 => ?_)
  obtain ⟨y1, g4⟩ := y1
  obtain rfl := y1.symm
  show V x 0 0 w 4 [(0, .ref (gz (xG x) + 0)), (1, .int a1), (2, .int a2), (3, .int a3)] [.int r3]
  refine r_if_eq 15 C dX10_soonest_4 (by decide) (fun c5 => ?_) (fun c5 => ?_)
  · have c5' := i_eq c5
    refine r_ldc C mw3_198 dX10_soonest_15 ?_
    exact hret _ _ _ _ dX10_soonest_17 rfl ⟨h0, o0⟩
  · have c5' := i_ne c5
    refine r_aload_n 0 C dX10_soonest_7 rfl ?_
    refine r_iload_n 2 C dX10_soonest_8 rfl ?_
    refine callVI C cwX10_190_V (ctX10_isTune_0 _ _ w (sS sC h0) o0 a2 ) (by decide) (kS sC h0 kc_0) rfl rfl rfl (Nat.le_of_ble_eq_true rfl) (by decide) dX10_soonest_9 (fun r8 w7 y6 => ?_)
    show V x 0 0 w7 12 [(0, .ref (gz (xG x) + 0)), (1, .int a1), (2, .int a2), (3, .int a3)] [.int r8]
    obtain ⟨h9, o10, g11⟩ := y6
    have h12 := Ch.tr h0 h9 (by decide) (by decide)
    refine r_if_ne 18 C dX10_soonest_12 (by decide) (fun c13 => ?_) (fun c13 => ?_)
    · have c13' := i_ne c13
      refine r_aload_n 0 C dX10_soonest_18 rfl ?_
      refine gfX10_77 55 C (kS sC h12 kc_0) (xS sC h12 xc_0_11) dX10_soonest_19 ?_
      refine r_aload_n 0 C dX10_soonest_22 rfl ?_
      refine gfX10_41 35 C (kS sC h12 kc_0) (xS sC h12 xc_0_5) dX10_soonest_23 ?_
      refine r_iload_n 1 C dX10_soonest_26 rfl ?_
      refine r_iload_n 2 C dX10_soonest_27 rfl ?_
      refine callVV C cwX10_239_V (ctX8_search_55_35 _ _ w7 (sS sC h12) o10 a1 a2 ) (by decide) (kS sC h12 kc_55) rfl rfl rfl (Nat.le_of_ble_eq_true rfl) (by decide) dX10_soonest_28 (fun w15 y14 => ?_)
      show V x 0 0 w15 31 [(0, .ref (gz (xG x) + 0)), (1, .int a1), (2, .int a2), (3, .int a3)] []
      obtain ⟨h17, o18⟩ := y14
      have h19 := Ch.tr h12 h17 (by decide) (by decide)
      refine r_iload_n 3 C dX10_soonest_31 rfl ?_
      refine r_iconst (v := (-1)) C dX10_soonest_32 (by decide) ?_
      refine r_icmp_ne 46 C dX10_soonest_33 (by decide) (fun c20 => ?_) (fun c20 => ?_)
      · have c20' := i_ne c20
        refine r_aload_n 0 C dX10_soonest_46 rfl ?_
        refine gfX10_77 55 C (kS sC h19 kc_0) (xS sC h19 xc_0_11) dX10_soonest_47 ?_
        refine r_iload_n 3 C dX10_soonest_50 rfl ?_
        refine callVI C cwX10_244_V (ctX8_stepAt_55 _ _ w15 (sS sC h19) o18 a3 ) (by decide) (kS sC h19 kc_55) rfl rfl rfl (Nat.le_of_ble_eq_true rfl) (by decide) dX10_soonest_51 (fun r23 w22 y21 => ?_)
        show V x 0 0 w22 54 [(0, .ref (gz (xG x) + 0)), (1, .int a1), (2, .int a2), (3, .int a3)] [.int r23]
        obtain ⟨h24, o25⟩ := y21
        have h26 := Ch.tr h19 h24 (by decide) (by decide)
        exact hret _ _ _ _ dX10_soonest_54 rfl ⟨h26, o25⟩
      · have c20' := i_eq c20
        refine r_aload_n 0 C dX10_soonest_36 rfl ?_
        refine gfX10_77 55 C (kS sC h19 kc_0) (xS sC h19 xc_0_11) dX10_soonest_37 ?_
        refine gfX10_243 (v := (wI w15 55 0)) C (kS sC h19 kc_55) rfl dX10_soonest_40 ?_
        have b27 := Inv.get o18 rt_55_0 (j := 0) (by decide) (by decide)
        refine r_goto 54 C dX10_soonest_43 (by decide) ?_
        exact hret _ _ _ _ dX10_soonest_54 rfl ⟨h19, o18⟩
    · have c13' := i_eq c13
      refine r_ldc C mw3_198 dX10_soonest_15 ?_
      exact hret _ _ _ _ dX10_soonest_17 rfl ⟨h12, o10⟩
set_option maxHeartbeats 4000000 in
set_option maxRecDepth 100000 in
theorem ctX10_bestWall_0 (l : Launch) (G : Gt) (w : Wv) (sC : Str KC XC w) (o0 : Inv RC w) (a1 : Int32) (a2 : Int32) : CtI l G yX10_bestWall cX10_bestWall 8 .int ({ frames := 6, cells := 0, slots := 0, locals := 145 } : Room) [.ref (gz G + 0), .int a1, .int a2] w (fun r w' => Ch [29, 32, 33, 34, 42, 43] [(41, 0), (41, 1)] w w' ∧ Inv RC w') := by
  refine enterI (by decide) (Nat.le_of_ble_eq_true rfl) ?_
  intro x el eG C hret
  subst el; subst eG
  show V x 0 0 w 0 [(0, .ref (gz (xG x) + 0)), (1, .int a1), (2, .int a2)] []
  have h0 : Ch [29, 32, 33, 34, 42, 43] [(41, 0), (41, 1)] w w := Ch.rf
  have qm1000000002 : ((-1000000002) : Int32).toInt = (-1000000002) := by decide
  have qm1000000001 : ((-1000000001) : Int32).toInt = (-1000000001) := by decide
  have qm1 : ((-1) : Int32).toInt = (-1) := by decide
  have q0 : (0 : Int32).toInt = 0 := by decide
  have q1 : (1 : Int32).toInt = 1 := by decide
  have LP25 : ∀ (f26 : Nat) (u21 : Int32) (u22 : Int32) (u23 : Int32) (u24 : Int32) (w27 : Wv), Ch [29, 32, 33, 34, 42, 43] [(41, 0), (41, 1)] w w27 → Inv RC w27 → (0 ≤ u24.toInt ∧ u24.toInt ≤ 2147483647) → (0 ≤ a1.toInt ∧ a1.toInt ≤ 2) → (0 ≤ a2.toInt ∧ a2.toInt ≤ 1) → 2147483647 - u24.toInt < f26 → V x 0 0 w27 52 [(0, .ref (gz (xG x) + 0)), (1, .int a1), (2, .int a2), (3, .int u21), (4, .int u22), (5, .int u23), (6, .int u24)] [] := by
    intro f26
    induction f26 with
    | zero => intro u21 u22 u23 u24 w27 h28 o29 z30 z31 z32 z33; exfalso; omega
    | succ f26 ih34 =>
      intro u21 u22 u23 u24 w27 h28 o29 z30 z31 z32 z33
      refine r_iload 6 C dX10_bestWall_52 rfl ?_
      refine r_aload_n 0 C dX10_bestWall_54 rfl ?_
      refine gfX10_29 21 C (kS sC h28 kc_0) (xS sC h28 xc_0_3) dX10_bestWall_55 ?_
      refine gfX10_114 (v := (wI w 21 0)) C (kS sC h28 kc_21) (h28.I (by decide) (by decide) rfl) dX10_bestWall_58 ?_
      have b35 := Inv.get o0 rt_21_0 (j := 0) (by decide) (by decide)
      have k37 := i_rng u24
      refine r_icmp_ge 134 C dX10_bestWall_61 (by decide) (fun c36 => ?_) (fun c36 => ?_)
      · have c36' := i_le c36
        refine r_iload_n 3 C dX10_bestWall_134 rfl ?_
        refine r_iconst (v := (-1)) C dX10_bestWall_135 (by decide) ?_
        refine r_icmp_eq 143 C dX10_bestWall_136 (by decide) (fun c38 => ?_) (fun c38 => ?_)
        · have c38' := i_eq c38
          refine r_aload_n 0 C dX10_bestWall_143 rfl ?_
          refine gfX10_29 21 C (kS sC h28 kc_0) (xS sC h28 xc_0_3) dX10_bestWall_144 ?_
          refine r_iload_n 3 C dX10_bestWall_147 rfl ?_
          refine callVI C cwX10_141_V (ctX1_code_21 _ _ w27 (sS sC h28) o29 u21 ) (by decide) (kS sC h28 kc_21) rfl rfl rfl (Nat.le_of_ble_eq_true rfl) (by decide) dX10_bestWall_148 (fun r41 w40 y39 => ?_)
          show V x 0 0 w40 151 [(0, .ref (gz (xG x) + 0)), (1, .int a1), (2, .int a2), (3, .int u21), (4, .int u22), (5, .int u23), (6, .int u24)] [.int r41]
          obtain ⟨h42, o43⟩ := y39
          have h44 := Ch.tr h28 h42 (by decide) (by decide)
          refine r_goto 156 C dX10_bestWall_151 (by decide) ?_
          exact hret _ _ _ _ dX10_bestWall_156 rfl ⟨h44, o43⟩
        · have c38' := i_ne c38
          refine r_iload_n 2 C dX10_bestWall_139 rfl ?_
          refine r_if_ne 154 C dX10_bestWall_140 (by decide) (fun c45 => ?_) (fun c45 => ?_)
          · have c45' := i_ne c45
            refine r_iload 4 C dX10_bestWall_154 rfl ?_
            exact hret _ _ _ _ dX10_bestWall_156 rfl ⟨h28, o29⟩
          · have c45' := i_eq c45
            refine r_aload_n 0 C dX10_bestWall_143 rfl ?_
            refine gfX10_29 21 C (kS sC h28 kc_0) (xS sC h28 xc_0_3) dX10_bestWall_144 ?_
            refine r_iload_n 3 C dX10_bestWall_147 rfl ?_
            refine callVI C cwX10_141_V (ctX1_code_21 _ _ w27 (sS sC h28) o29 u21 ) (by decide) (kS sC h28 kc_21) rfl rfl rfl (Nat.le_of_ble_eq_true rfl) (by decide) dX10_bestWall_148 (fun r48 w47 y46 => ?_)
            show V x 0 0 w47 151 [(0, .ref (gz (xG x) + 0)), (1, .int a1), (2, .int a2), (3, .int u21), (4, .int u22), (5, .int u23), (6, .int u24)] [.int r48]
            obtain ⟨h49, o50⟩ := y46
            have h51 := Ch.tr h28 h49 (by decide) (by decide)
            refine r_goto 156 C dX10_bestWall_151 (by decide) ?_
            exact hret _ _ _ _ dX10_bestWall_156 rfl ⟨h51, o50⟩
      · have c36' := i_nle c36
        refine r_iload_n 3 C dX10_bestWall_64 rfl ?_
        refine r_iconst (v := (-1)) C dX10_bestWall_65 (by decide) ?_
        refine r_icmp_eq 76 C dX10_bestWall_66 (by decide) (fun c52 => ?_) (fun c52 => ?_)
        · have c52' := i_eq c52
          refine r_aload_n 0 C dX10_bestWall_76 rfl ?_
          refine gfX10_29 21 C (kS sC h28 kc_0) (xS sC h28 xc_0_3) dX10_bestWall_77 ?_
          refine r_iload 6 C dX10_bestWall_80 rfl ?_
          refine callVI C cwX10_162_V (ctX1_what_21 _ _ w27 (sS sC h28) o29 u24 ) (by decide) (kS sC h28 kc_21) rfl rfl rfl (Nat.le_of_ble_eq_true rfl) (by decide) dX10_bestWall_82 (fun r55 w54 y53 => ?_)
          show V x 0 0 w54 85 [(0, .ref (gz (xG x) + 0)), (1, .int a1), (2, .int a2), (3, .int u21), (4, .int u22), (5, .int u23), (6, .int u24)] [.int r55]
          obtain ⟨h56, o57⟩ := y53
          have h58 := Ch.tr h28 h56 (by decide) (by decide)
          refine r_if_ne 128 C dX10_bestWall_85 (by decide) (fun c59 => ?_) (fun c59 => ?_)
          · have c59' := i_ne c59
            obtain ⟨i60, e61⟩ : ∃ z : Int32, u24 + Int32.ofInt 1 = z := ⟨_, rfl⟩
            have i60' := iinc_ok e61 (by decide) (by omega) (by omega)
            refine r_iinc [(6, .int i60), (0, .ref (gz (xG x) + 0)), (1, .int a1), (2, .int a2), (3, .int u21), (4, .int u22), (5, .int u23)] 6 C dX10_bestWall_128 rfl e61 (by decide) rfl ?_
            refine r_goto 52 C dX10_bestWall_131 (by decide) ?_
            refine r_lv [1, 2, 3, 4, 5, 6, 0] rfl ?_
            exact ih34 u21 u22 u23 i60 w54 h58 o57 (by omega) (by omega) (by omega) (by omega)
          · have c59' := i_eq c59
            refine r_aload_n 0 C dX10_bestWall_88 rfl ?_
            refine gfX10_41 35 C (kS sC h58 kc_0) (xS sC h58 xc_0_5) dX10_bestWall_89 ?_
            refine r_iload 6 C dX10_bestWall_92 rfl ?_
            refine callVI C cwX10_222_V (ctX6_holds_35 _ _ w54 (sS sC h58) o57 u24 ) (by decide) (kS sC h58 kc_35) rfl rfl rfl (Nat.le_of_ble_eq_true rfl) (by decide) dX10_bestWall_94 (fun r64 w63 y62 => ?_)
            show V x 0 0 w63 97 [(0, .ref (gz (xG x) + 0)), (1, .int a1), (2, .int a2), (3, .int u21), (4, .int u22), (5, .int u23), (6, .int u24)] [.int r64]
            obtain ⟨h65, o66, g67⟩ := y62
            have h68 := Ch.tr h58 h65 (by decide) (by decide)
            refine r_if_ne 128 C dX10_bestWall_97 (by decide) (fun c69 => ?_) (fun c69 => ?_)
            · have c69' := i_ne c69
              obtain ⟨i70, e71⟩ : ∃ z : Int32, u24 + Int32.ofInt 1 = z := ⟨_, rfl⟩
              have i70' := iinc_ok e71 (by decide) (by omega) (by omega)
              refine r_iinc [(6, .int i70), (0, .ref (gz (xG x) + 0)), (1, .int a1), (2, .int a2), (3, .int u21), (4, .int u22), (5, .int u23)] 6 C dX10_bestWall_128 rfl e71 (by decide) rfl ?_
              refine r_goto 52 C dX10_bestWall_131 (by decide) ?_
              refine r_lv [1, 2, 3, 4, 5, 6, 0] rfl ?_
              exact ih34 u21 u22 u23 i70 w63 h68 o66 (by omega) (by omega) (by omega) (by omega)
            · have c69' := i_eq c69
              refine r_aload_n 0 C dX10_bestWall_100 rfl ?_
              refine r_iload 6 C dX10_bestWall_101 rfl ?_
              refine r_iload_n 1 C dX10_bestWall_103 rfl ?_
              refine callVI C cwX10_251_V (ctX10_outBehindWall_0 _ _ w63 (sS sC h68) o66 u24 a1 ) (by decide) (kS sC h68 kc_0) rfl rfl rfl (Nat.le_of_ble_eq_true rfl) (by decide) dX10_bestWall_104 (fun r74 w73 y72 => ?_)
              show V x 0 0 w73 107 [(0, .ref (gz (xG x) + 0)), (1, .int a1), (2, .int a2), (3, .int u21), (4, .int u22), (5, .int u23), (6, .int u24)] [.int r74]
              obtain ⟨h75, o76⟩ := y72
              have h77 := Ch.tr h68 h75 (by decide) (by decide)
              refine r_istore [(7, .int r74), (0, .ref (gz (xG x) + 0)), (1, .int a1), (2, .int a2), (3, .int u21), (4, .int u22), (5, .int u23), (6, .int u24)] C dX10_bestWall_107 (by decide) rfl ?_
              refine r_iload_n 4 C dX10_bestWall_109 rfl ?_
              refine r_iconst (v := (-1)) C dX10_bestWall_110 (by decide) ?_
              refine r_icmp_eq 121 C dX10_bestWall_111 (by decide) (fun c78 => ?_) (fun c78 => ?_)
              · have c78' := i_eq c78
                refine r_iload 7 C dX10_bestWall_121 rfl ?_
                refine r_istore_n [(3, .int u24), (7, .int r74), (0, .ref (gz (xG x) + 0)), (1, .int a1), (2, .int a2), (4, .int u22), (5, .int u23), (6, .int u24)] C dX10_bestWall_123 (by decide) rfl ?_
                refine r_iload 1 C dX10_bestWall_124 rfl ?_
                refine r_istore [(4, .int r74), (3, .int u24), (7, .int r74), (0, .ref (gz (xG x) + 0)), (1, .int a1), (2, .int a2), (5, .int u23), (6, .int u24)] C dX10_bestWall_126 (by decide) rfl ?_
                obtain ⟨i79, e80⟩ : ∃ z : Int32, u24 + Int32.ofInt 1 = z := ⟨_, rfl⟩
                have i79' := iinc_ok e80 (by decide) (by omega) (by omega)
                refine r_iinc [(6, .int i79), (4, .int r74), (3, .int u24), (7, .int r74), (0, .ref (gz (xG x) + 0)), (1, .int a1), (2, .int a2), (5, .int u23)] 7 C dX10_bestWall_128 rfl e80 (by decide) rfl ?_
                refine r_goto 52 C dX10_bestWall_131 (by decide) ?_
                refine r_lv [4, 5, 6, 2, 1, 7, 0] rfl ?_
                exact ih34 u24 r74 u23 i79 w73 h77 o76 (by omega) (by omega) (by omega) (by omega)
              · have c78' := i_ne c78
                exfalso; omega
        · have c52' := i_ne c52
          refine r_iload 4 C dX10_bestWall_69 rfl ?_
          refine r_iload 5 C dX10_bestWall_71 rfl ?_
          have k82 := i_rng u22
          have k83 := i_rng u23
          refine r_icmp_le 134 C dX10_bestWall_73 (by decide) (fun c81 => ?_) (fun c81 => ?_)
          · have c81' := i_le c81
            refine r_iload_n 3 C dX10_bestWall_134 rfl ?_
            refine r_iconst (v := (-1)) C dX10_bestWall_135 (by decide) ?_
            refine r_icmp_eq 143 C dX10_bestWall_136 (by decide) (fun c84 => ?_) (fun c84 => ?_)
            · have c84' := i_eq c84
              refine r_aload_n 0 C dX10_bestWall_143 rfl ?_
              refine gfX10_29 21 C (kS sC h28 kc_0) (xS sC h28 xc_0_3) dX10_bestWall_144 ?_
              refine r_iload_n 3 C dX10_bestWall_147 rfl ?_
              refine callVI C cwX10_141_V (ctX1_code_21 _ _ w27 (sS sC h28) o29 u21 ) (by decide) (kS sC h28 kc_21) rfl rfl rfl (Nat.le_of_ble_eq_true rfl) (by decide) dX10_bestWall_148 (fun r87 w86 y85 => ?_)
              show V x 0 0 w86 151 [(0, .ref (gz (xG x) + 0)), (1, .int a1), (2, .int a2), (3, .int u21), (4, .int u22), (5, .int u23), (6, .int u24)] [.int r87]
              obtain ⟨h88, o89⟩ := y85
              have h90 := Ch.tr h28 h88 (by decide) (by decide)
              refine r_goto 156 C dX10_bestWall_151 (by decide) ?_
              exact hret _ _ _ _ dX10_bestWall_156 rfl ⟨h90, o89⟩
            · have c84' := i_ne c84
              refine r_iload_n 2 C dX10_bestWall_139 rfl ?_
              refine r_if_ne 154 C dX10_bestWall_140 (by decide) (fun c91 => ?_) (fun c91 => ?_)
              · have c91' := i_ne c91
                refine r_iload 4 C dX10_bestWall_154 rfl ?_
                exact hret _ _ _ _ dX10_bestWall_156 rfl ⟨h28, o29⟩
              · have c91' := i_eq c91
                refine r_aload_n 0 C dX10_bestWall_143 rfl ?_
                refine gfX10_29 21 C (kS sC h28 kc_0) (xS sC h28 xc_0_3) dX10_bestWall_144 ?_
                refine r_iload_n 3 C dX10_bestWall_147 rfl ?_
                refine callVI C cwX10_141_V (ctX1_code_21 _ _ w27 (sS sC h28) o29 u21 ) (by decide) (kS sC h28 kc_21) rfl rfl rfl (Nat.le_of_ble_eq_true rfl) (by decide) dX10_bestWall_148 (fun r94 w93 y92 => ?_)
                show V x 0 0 w93 151 [(0, .ref (gz (xG x) + 0)), (1, .int a1), (2, .int a2), (3, .int u21), (4, .int u22), (5, .int u23), (6, .int u24)] [.int r94]
                obtain ⟨h95, o96⟩ := y92
                have h97 := Ch.tr h28 h95 (by decide) (by decide)
                refine r_goto 156 C dX10_bestWall_151 (by decide) ?_
                exact hret _ _ _ _ dX10_bestWall_156 rfl ⟨h97, o96⟩
          · have c81' := i_nle c81
            refine r_aload_n 0 C dX10_bestWall_76 rfl ?_
            refine gfX10_29 21 C (kS sC h28 kc_0) (xS sC h28 xc_0_3) dX10_bestWall_77 ?_
            refine r_iload 6 C dX10_bestWall_80 rfl ?_
            refine callVI C cwX10_162_V (ctX1_what_21 _ _ w27 (sS sC h28) o29 u24 ) (by decide) (kS sC h28 kc_21) rfl rfl rfl (Nat.le_of_ble_eq_true rfl) (by decide) dX10_bestWall_82 (fun r100 w99 y98 => ?_)
            show V x 0 0 w99 85 [(0, .ref (gz (xG x) + 0)), (1, .int a1), (2, .int a2), (3, .int u21), (4, .int u22), (5, .int u23), (6, .int u24)] [.int r100]
            obtain ⟨h101, o102⟩ := y98
            have h103 := Ch.tr h28 h101 (by decide) (by decide)
            refine r_if_ne 128 C dX10_bestWall_85 (by decide) (fun c104 => ?_) (fun c104 => ?_)
            · have c104' := i_ne c104
              obtain ⟨i105, e106⟩ : ∃ z : Int32, u24 + Int32.ofInt 1 = z := ⟨_, rfl⟩
              have i105' := iinc_ok e106 (by decide) (by omega) (by omega)
              refine r_iinc [(6, .int i105), (0, .ref (gz (xG x) + 0)), (1, .int a1), (2, .int a2), (3, .int u21), (4, .int u22), (5, .int u23)] 6 C dX10_bestWall_128 rfl e106 (by decide) rfl ?_
              refine r_goto 52 C dX10_bestWall_131 (by decide) ?_
              refine r_lv [1, 2, 3, 4, 5, 6, 0] rfl ?_
              exact ih34 u21 u22 u23 i105 w99 h103 o102 (by omega) (by omega) (by omega) (by omega)
            · have c104' := i_eq c104
              refine r_aload_n 0 C dX10_bestWall_88 rfl ?_
              refine gfX10_41 35 C (kS sC h103 kc_0) (xS sC h103 xc_0_5) dX10_bestWall_89 ?_
              refine r_iload 6 C dX10_bestWall_92 rfl ?_
              refine callVI C cwX10_222_V (ctX6_holds_35 _ _ w99 (sS sC h103) o102 u24 ) (by decide) (kS sC h103 kc_35) rfl rfl rfl (Nat.le_of_ble_eq_true rfl) (by decide) dX10_bestWall_94 (fun r109 w108 y107 => ?_)
              show V x 0 0 w108 97 [(0, .ref (gz (xG x) + 0)), (1, .int a1), (2, .int a2), (3, .int u21), (4, .int u22), (5, .int u23), (6, .int u24)] [.int r109]
              obtain ⟨h110, o111, g112⟩ := y107
              have h113 := Ch.tr h103 h110 (by decide) (by decide)
              refine r_if_ne 128 C dX10_bestWall_97 (by decide) (fun c114 => ?_) (fun c114 => ?_)
              · have c114' := i_ne c114
                obtain ⟨i115, e116⟩ : ∃ z : Int32, u24 + Int32.ofInt 1 = z := ⟨_, rfl⟩
                have i115' := iinc_ok e116 (by decide) (by omega) (by omega)
                refine r_iinc [(6, .int i115), (0, .ref (gz (xG x) + 0)), (1, .int a1), (2, .int a2), (3, .int u21), (4, .int u22), (5, .int u23)] 6 C dX10_bestWall_128 rfl e116 (by decide) rfl ?_
                refine r_goto 52 C dX10_bestWall_131 (by decide) ?_
                refine r_lv [1, 2, 3, 4, 5, 6, 0] rfl ?_
                exact ih34 u21 u22 u23 i115 w108 h113 o111 (by omega) (by omega) (by omega) (by omega)
              · have c114' := i_eq c114
                refine r_aload_n 0 C dX10_bestWall_100 rfl ?_
                refine r_iload 6 C dX10_bestWall_101 rfl ?_
                refine r_iload_n 1 C dX10_bestWall_103 rfl ?_
                refine callVI C cwX10_251_V (ctX10_outBehindWall_0 _ _ w108 (sS sC h113) o111 u24 a1 ) (by decide) (kS sC h113 kc_0) rfl rfl rfl (Nat.le_of_ble_eq_true rfl) (by decide) dX10_bestWall_104 (fun r119 w118 y117 => ?_)
                show V x 0 0 w118 107 [(0, .ref (gz (xG x) + 0)), (1, .int a1), (2, .int a2), (3, .int u21), (4, .int u22), (5, .int u23), (6, .int u24)] [.int r119]
                obtain ⟨h120, o121⟩ := y117
                have h122 := Ch.tr h113 h120 (by decide) (by decide)
                refine r_istore [(7, .int r119), (0, .ref (gz (xG x) + 0)), (1, .int a1), (2, .int a2), (3, .int u21), (4, .int u22), (5, .int u23), (6, .int u24)] C dX10_bestWall_107 (by decide) rfl ?_
                refine r_iload_n 4 C dX10_bestWall_109 rfl ?_
                refine r_iconst (v := (-1)) C dX10_bestWall_110 (by decide) ?_
                refine r_icmp_eq 121 C dX10_bestWall_111 (by decide) (fun c123 => ?_) (fun c123 => ?_)
                · have c123' := i_eq c123
                  refine r_iload 7 C dX10_bestWall_121 rfl ?_
                  refine r_istore_n [(3, .int u24), (7, .int r119), (0, .ref (gz (xG x) + 0)), (1, .int a1), (2, .int a2), (4, .int u22), (5, .int u23), (6, .int u24)] C dX10_bestWall_123 (by decide) rfl ?_
                  refine r_iload 1 C dX10_bestWall_124 rfl ?_
                  refine r_istore [(4, .int r119), (3, .int u24), (7, .int r119), (0, .ref (gz (xG x) + 0)), (1, .int a1), (2, .int a2), (5, .int u23), (6, .int u24)] C dX10_bestWall_126 (by decide) rfl ?_
                  obtain ⟨i124, e125⟩ : ∃ z : Int32, u24 + Int32.ofInt 1 = z := ⟨_, rfl⟩
                  have i124' := iinc_ok e125 (by decide) (by omega) (by omega)
                  refine r_iinc [(6, .int i124), (4, .int r119), (3, .int u24), (7, .int r119), (0, .ref (gz (xG x) + 0)), (1, .int a1), (2, .int a2), (5, .int u23)] 7 C dX10_bestWall_128 rfl e125 (by decide) rfl ?_
                  refine r_goto 52 C dX10_bestWall_131 (by decide) ?_
                  refine r_lv [4, 5, 6, 2, 1, 7, 0] rfl ?_
                  exact ih34 u24 r119 u23 i124 w118 h122 o121 (by omega) (by omega) (by omega) (by omega)
                · have c123' := i_ne c123
                  refine r_iload 0 C dX10_bestWall_114 rfl ?_
                  refine r_iload 5 C dX10_bestWall_116 rfl ?_
                  have k127 := i_rng r119
                  have k128 := i_rng u22
                  refine r_icmp_ge 128 C dX10_bestWall_118 (by decide) (fun c126 => ?_) (fun c126 => ?_)
                  · have c126' := i_le c126
                    obtain ⟨i129, e130⟩ : ∃ z : Int32, u24 + Int32.ofInt 1 = z := ⟨_, rfl⟩
                    have i129' := iinc_ok e130 (by decide) (by omega) (by omega)
                    refine r_iinc [(6, .int i129), (7, .int r119), (0, .ref (gz (xG x) + 0)), (1, .int a1), (2, .int a2), (3, .int u21), (4, .int u22), (5, .int u23)] 7 C dX10_bestWall_128 rfl e130 (by decide) rfl ?_
                    refine r_goto 52 C dX10_bestWall_131 (by decide) ?_
                    refine r_lv [2, 3, 4, 5, 6, 7, 0] rfl ?_
                    exact ih34 u21 u22 u23 i129 w118 h122 o121 (by omega) (by omega) (by omega) (by omega)
                  · have c126' := i_nle c126
                    refine r_iload 7 C dX10_bestWall_121 rfl ?_
                    refine r_istore_n [(3, .int u24), (7, .int r119), (0, .ref (gz (xG x) + 0)), (1, .int a1), (2, .int a2), (4, .int u22), (5, .int u23), (6, .int u24)] C dX10_bestWall_123 (by decide) rfl ?_
                    refine r_iload 1 C dX10_bestWall_124 rfl ?_
                    refine r_istore [(4, .int r119), (3, .int u24), (7, .int r119), (0, .ref (gz (xG x) + 0)), (1, .int a1), (2, .int a2), (5, .int u23), (6, .int u24)] C dX10_bestWall_126 (by decide) rfl ?_
                    obtain ⟨i131, e132⟩ : ∃ z : Int32, u24 + Int32.ofInt 1 = z := ⟨_, rfl⟩
                    have i131' := iinc_ok e132 (by decide) (by omega) (by omega)
                    refine r_iinc [(6, .int i131), (4, .int r119), (3, .int u24), (7, .int r119), (0, .ref (gz (xG x) + 0)), (1, .int a1), (2, .int a2), (5, .int u23)] 7 C dX10_bestWall_128 rfl e132 (by decide) rfl ?_
                    refine r_goto 52 C dX10_bestWall_131 (by decide) ?_
                    refine r_lv [4, 5, 6, 2, 1, 7, 0] rfl ?_
                    exact ih34 u24 r119 u23 i131 w118 h122 o121 (by omega) (by omega) (by omega) (by omega)
  refine r_iload_n 1 C dX10_bestWall_0 rfl ?_
  refine callSI C cwX10_236_S (ctX10_isKind _ _ w a1 ) (by decide) rfl rfl (Nat.le_of_ble_eq_true rfl) (by decide) dX10_bestWall_1 (fun r3 w2 y1 => ?_)
  obtain ⟨y1, g4⟩ := y1
  obtain rfl := y1.symm
  show V x 0 0 w 4 [(0, .ref (gz (xG x) + 0)), (1, .int a1), (2, .int a2)] [.int r3]
  refine r_if_ne 10 C dX10_bestWall_4 (by decide) (fun c5 => ?_) (fun c5 => ?_)
  · have c5' := i_ne c5
    refine r_iload_n 2 C dX10_bestWall_10 rfl ?_
    refine r_if_lt 19 C dX10_bestWall_11 (by decide) (fun c6 => ?_) (fun c6 => ?_)
    · have c6' := i_lt c6
      refine r_ldc C mw2_226 dX10_bestWall_19 ?_
      exact hret _ _ _ _ dX10_bestWall_21 rfl ⟨h0, o0⟩
    · have c6' := i_nlt c6
      refine r_iload_n 2 C dX10_bestWall_14 rfl ?_
      refine r_iconst (v := 1) C dX10_bestWall_15 (by decide) ?_
      have k8 := i_rng a2
      refine r_icmp_le 22 C dX10_bestWall_16 (by decide) (fun c7 => ?_) (fun c7 => ?_)
      · have c7' := i_le c7
        refine r_iconst (v := (-1)) C dX10_bestWall_22 (by decide) ?_
        refine r_istore_n [(3, .int (-1)), (0, .ref (gz (xG x) + 0)), (1, .int a1), (2, .int a2)] C dX10_bestWall_23 (by decide) rfl ?_
        refine r_iconst (v := 0) C dX10_bestWall_24 (by decide) ?_
        refine r_istore [(4, .int 0), (3, .int (-1)), (0, .ref (gz (xG x) + 0)), (1, .int a1), (2, .int a2)] C dX10_bestWall_25 (by decide) rfl ?_
        refine r_aload_n 2 C dX10_bestWall_27 rfl ?_
        refine gfX10_41 35 C (kS sC h0 kc_0) (xS sC h0 xc_0_5) dX10_bestWall_28 ?_
        refine r_iload_n 3 C dX10_bestWall_31 rfl ?_
        refine r_iconst (v := 1) C dX10_bestWall_32 (by decide) ?_
        refine callVI C cwX10_145_V (ctX6_heads_35 _ _ w (sS sC h0) o0 a1 1 ) (by decide) (kS sC h0 kc_35) rfl rfl rfl (Nat.le_of_ble_eq_true rfl) (by decide) dX10_bestWall_33 (fun r11 w10 y9 => ?_)
        show V x 0 0 w10 36 [(4, .int 0), (3, .int (-1)), (0, .ref (gz (xG x) + 0)), (1, .int a1), (2, .int a2)] [.int r11]
        obtain ⟨h12, o13⟩ := y9
        have h14 := Ch.tr h0 h12 (by decide) (by decide)
        refine r_istore [(5, .int r11), (4, .int 0), (3, .int (-1)), (0, .ref (gz (xG x) + 0)), (1, .int a1), (2, .int a2)] C dX10_bestWall_36 (by decide) rfl ?_
        refine r_aload_n 3 C dX10_bestWall_38 rfl ?_
        refine gfX10_33 28 C (kS sC h14 kc_0) (xS sC h14 xc_0_4) dX10_bestWall_39 ?_
        refine r_aload_n 3 C dX10_bestWall_42 rfl ?_
        refine gfX10_29 21 C (kS sC h14 kc_0) (xS sC h14 xc_0_3) dX10_bestWall_43 ?_
        refine callVV C cwX10_247_V (ctX1_copy_28_21 _ _ w10 (sS sC h14) o13  ) (by decide) (kS sC h14 kc_28) rfl rfl rfl (Nat.le_of_ble_eq_true rfl) (by decide) dX10_bestWall_46 (fun w16 y15 => ?_)
        show V x 0 0 w16 49 [(5, .int r11), (4, .int 0), (3, .int (-1)), (0, .ref (gz (xG x) + 0)), (1, .int a1), (2, .int a2)] []
        obtain ⟨h18, o19⟩ := y15
        have h20 := Ch.tr h14 h18 (by decide) (by decide)
        refine r_iconst (v := 0) C dX10_bestWall_49 (by decide) ?_
        refine r_istore [(6, .int 0), (5, .int r11), (4, .int 0), (3, .int (-1)), (0, .ref (gz (xG x) + 0)), (1, .int a1), (2, .int a2)] C dX10_bestWall_50 (by decide) rfl ?_
        refine r_lv [4, 5, 6, 3, 2, 1, 0] rfl ?_
        exact LP25 4294967296 (-1) 0 r11 0 w16 h20 o19 (by omega) (by omega) (by omega) (by omega)
      · have c7' := i_nle c7
        refine r_ldc C mw2_226 dX10_bestWall_19 ?_
        exact hret _ _ _ _ dX10_bestWall_21 rfl ⟨h0, o0⟩
  · have c5' := i_eq c5
    refine r_ldc C mw3_198 dX10_bestWall_7 ?_
    exact hret _ _ _ _ dX10_bestWall_9 rfl ⟨h0, o0⟩
set_option maxHeartbeats 4000000 in
set_option maxRecDepth 100000 in
theorem ctX10_wax_0 (l : Launch) (G : Gt) (w : Wv) (sC : Str KC XC w) (o0 : Inv RC w) (a1 : Int32) : CtI l G yX10_wax cX10_wax 4 .int ({ frames := 6, cells := 0, slots := 0, locals := 144 } : Room) [.ref (gz G + 0), .int a1] w (fun r w' => Ch [25, 26, 27, 39, 40] [(38, 0), (38, 1)] w w' ∧ Inv RC w') := by
  refine enterI (by decide) (Nat.le_of_ble_eq_true rfl) ?_
  intro x el eG C hret
  subst el; subst eG
  show V x 0 0 w 0 [(0, .ref (gz (xG x) + 0)), (1, .int a1)] []
  have h0 : Ch [25, 26, 27, 39, 40] [(38, 0), (38, 1)] w w := Ch.rf
  have qm1000000001 : ((-1000000001) : Int32).toInt = (-1000000001) := by decide
  have q0 : (0 : Int32).toInt = 0 := by decide
  have q1 : (1 : Int32).toInt = 1 := by decide
  have q30 : (30 : Int32).toInt = 30 := by decide
  have LP14 : ∀ (f15 : Nat) (u12 : Int32) (u13 : Int32) (w16 : Wv), Ch [25, 26, 27, 39, 40] [(38, 0), (38, 1)] w w16 → Inv RC w16 → (0 ≤ u13.toInt ∧ u13.toInt ≤ 2147483647) → (0 ≤ a1.toInt ∧ a1.toInt ≤ 2) → 2147483647 - u13.toInt < f15 → V x 0 0 w16 21 [(0, .ref (gz (xG x) + 0)), (1, .int a1), (2, .int u12), (3, .int u13)] [] := by
    intro f15
    induction f15 with
    | zero => intro u12 u13 w16 h17 o18 z19 z20 z21; exfalso; omega
    | succ f15 ih22 =>
      intro u12 u13 w16 h17 o18 z19 z20 z21
      refine r_iload_n 3 C dX10_wax_21 rfl ?_
      refine r_aload_n 0 C dX10_wax_22 rfl ?_
      refine gfX10_19 3 C (kS sC h17 kc_0) (xS sC h17 xc_0_1) dX10_wax_23 ?_
      refine gfX10_129 (v := (wI w 3 3)) C (kS sC h17 kc_3) (h17.I (by decide) (by decide) rfl) dX10_wax_26 ?_
      have b23 := Inv.get o0 rt_3_3 (j := 3) (by decide) (by decide)
      have k25 := i_rng u13
      refine r_icmp_ge 76 C dX10_wax_29 (by decide) (fun c24 => ?_) (fun c24 => ?_)
      · have c24' := i_le c24
        refine r_iload_n 2 C dX10_wax_76 rfl ?_
        exact hret _ _ _ _ dX10_wax_77 rfl ⟨h17, o18⟩
      · have c24' := i_nle c24
        refine r_aload_n 0 C dX10_wax_32 rfl ?_
        refine gfX10_19 3 C (kS sC h17 kc_0) (xS sC h17 xc_0_1) dX10_wax_33 ?_
        refine gfX10_169 5 C (kS sC h17 kc_3) (xS sC h17 xc_3_10) dX10_wax_36 ?_
        refine r_iload_n 3 C dX10_wax_39 rfl ?_
        refine r_iald C (kS sC h17 kc_5) (vin (by omega) (by omega)) dX10_wax_40 ?_
        generalize (wI w16 5 (u13).toNatClampNeg) = v26
        refine r_iload_n 1 C dX10_wax_41 rfl ?_
        refine r_icmp_ne 70 C dX10_wax_42 (by decide) (fun c27 => ?_) (fun c27 => ?_)
        · have c27' := i_ne c27
          obtain ⟨i28, e29⟩ : ∃ z : Int32, u13 + Int32.ofInt 1 = z := ⟨_, rfl⟩
          have i28' := iinc_ok e29 (by decide) (by omega) (by omega)
          refine r_iinc [(3, .int i28), (0, .ref (gz (xG x) + 0)), (1, .int a1), (2, .int u12)] 3 C dX10_wax_70 rfl e29 (by decide) rfl ?_
          refine r_goto 21 C dX10_wax_73 (by decide) ?_
          refine r_lv [1, 2, 3, 0] rfl ?_
          exact ih22 u12 i28 w16 h17 o18 (by omega) (by omega) (by omega)
        · have c27' := i_eq c27
          refine r_aload_n 0 C dX10_wax_45 rfl ?_
          refine gfX10_45 38 C (kS sC h17 kc_0) (xS sC h17 xc_0_6) dX10_wax_46 ?_
          refine r_iload_n 3 C dX10_wax_49 rfl ?_
          refine callVI C cwX10_187_V (ctX6_fate_38 _ _ w16 (sS sC h17) o18 u13 ) (by decide) (kS sC h17 kc_38) rfl rfl rfl (Nat.le_of_ble_eq_true rfl) (by decide) dX10_wax_50 (fun r32 w31 y30 => ?_)
          show V x 0 0 w31 53 [(0, .ref (gz (xG x) + 0)), (1, .int a1), (2, .int u12), (3, .int u13)] [.int r32]
          obtain ⟨h33, o34⟩ := y30
          have h35 := Ch.tr h17 h33 (by decide) (by decide)
          refine r_aload_n 0 C dX10_wax_53 rfl ?_
          refine gfX10_41 35 C (kS sC h35 kc_0) (xS sC h35 xc_0_5) dX10_wax_54 ?_
          refine r_iload_n 3 C dX10_wax_57 rfl ?_
          refine callVI C cwX10_187_V (ctX6_fate_35 _ _ w31 (sS sC h35) o34 u13 ) (by decide) (kS sC h35 kc_35) rfl rfl rfl (Nat.le_of_ble_eq_true rfl) (by decide) dX10_wax_58 (fun r38 w37 y36 => ?_)
          show V x 0 0 w37 61 [(0, .ref (gz (xG x) + 0)), (1, .int a1), (2, .int u12), (3, .int u13)] [.int r38, .int r32]
          obtain ⟨h39, o40⟩ := y36
          have h41 := Ch.tr h35 h39 (by decide) (by decide)
          refine r_icmp_eq 70 C dX10_wax_61 (by decide) (fun c42 => ?_) (fun c42 => ?_)
          · have c42' := i_eq c42
            obtain ⟨i43, e44⟩ : ∃ z : Int32, u13 + Int32.ofInt 1 = z := ⟨_, rfl⟩
            have i43' := iinc_ok e44 (by decide) (by omega) (by omega)
            refine r_iinc [(3, .int i43), (0, .ref (gz (xG x) + 0)), (1, .int a1), (2, .int u12)] 3 C dX10_wax_70 rfl e44 (by decide) rfl ?_
            refine r_goto 21 C dX10_wax_73 (by decide) ?_
            refine r_lv [1, 2, 3, 0] rfl ?_
            exact ih22 u12 i43 w37 h41 o40 (by omega) (by omega) (by omega)
          · have c42' := i_ne c42
            refine r_iload_n 2 C dX10_wax_64 rfl ?_
            refine r_iconst (v := 1) C dX10_wax_65 (by decide) ?_
            refine r_iload_n 3 C dX10_wax_66 rfl ?_
            refine r_ishl C dX10_wax_67 (fun v45 e46 => ?_)
            refine r_ior C dX10_wax_68 (fun v47 e48 => ?_)
            refine r_istore_n [(2, .int v47), (0, .ref (gz (xG x) + 0)), (1, .int a1), (3, .int u13)] C dX10_wax_69 (by decide) rfl ?_
            obtain ⟨i49, e50⟩ : ∃ z : Int32, u13 + Int32.ofInt 1 = z := ⟨_, rfl⟩
            have i49' := iinc_ok e50 (by decide) (by omega) (by omega)
            refine r_iinc [(3, .int i49), (2, .int v47), (0, .ref (gz (xG x) + 0)), (1, .int a1)] 3 C dX10_wax_70 rfl e50 (by decide) rfl ?_
            refine r_goto 21 C dX10_wax_73 (by decide) ?_
            refine r_lv [2, 3, 1, 0] rfl ?_
            exact ih22 v47 i49 w37 h41 o40 (by omega) (by omega) (by omega)
  refine r_iload_n 1 C dX10_wax_0 rfl ?_
  refine callSI C cwX10_236_S (ctX10_isKind _ _ w a1 ) (by decide) rfl rfl (Nat.le_of_ble_eq_true rfl) (by decide) dX10_wax_1 (fun r3 w2 y1 => ?_)
  obtain ⟨y1, g4⟩ := y1
  obtain rfl := y1.symm
  show V x 0 0 w 4 [(0, .ref (gz (xG x) + 0)), (1, .int a1)] [.int r3]
  refine r_if_ne 10 C dX10_wax_4 (by decide) (fun c5 => ?_) (fun c5 => ?_)
  · have c5' := i_ne c5
    refine r_aload_n 0 C dX10_wax_10 rfl ?_
    refine r_bipush (v := 30) C dX10_wax_11 (by decide) ?_
    refine callVI C cwX10_233_V (ctX10_tryPlan_0 _ _ w (sS sC h0) o0 30 ) (by decide) (kS sC h0 kc_0) rfl rfl rfl (Nat.le_of_ble_eq_true rfl) (by decide) dX10_wax_13 (fun r8 w7 y6 => ?_)
    show V x 0 0 w7 16 [(0, .ref (gz (xG x) + 0)), (1, .int a1)] [.int r8]
    obtain ⟨h9, o10⟩ := y6
    have h11 := Ch.tr h0 h9 (by decide) (by decide)
    refine r_pop C dX10_wax_16 rfl ?_
    refine r_iconst (v := 0) C dX10_wax_17 (by decide) ?_
    refine r_istore_n [(2, .int 0), (0, .ref (gz (xG x) + 0)), (1, .int a1)] C dX10_wax_18 (by decide) rfl ?_
    refine r_iconst (v := 0) C dX10_wax_19 (by decide) ?_
    refine r_istore_n [(3, .int 0), (2, .int 0), (0, .ref (gz (xG x) + 0)), (1, .int a1)] C dX10_wax_20 (by decide) rfl ?_
    refine r_lv [2, 3, 1, 0] rfl ?_
    exact LP14 4294967296 0 0 w7 h11 o10 (by omega) (by omega) (by omega)
  · have c5' := i_eq c5
    refine r_ldc C mw3_198 dX10_wax_7 ?_
    exact hret _ _ _ _ dX10_wax_9 rfl ⟨h0, o0⟩
set_option maxHeartbeats 4000000 in
set_option maxRecDepth 100000 in
theorem ctX10_see_0 (l : Launch) (G : Gt) (w : Wv) (sC : Str KC XC w) (o0 : Inv RC w) (a1 : Int32) (a2 : Int32) (a3 : Int32) (a4 : Int32) : CtI l G yX10_see cX10_see 6 .int ({ frames := 1, cells := 0, slots := 0, locals := 23 } : Room) [.ref (gz G + 0), .int a1, .int a2, .int a3, .int a4] w (fun r w' => Ch [48, 49, 50] [(47, 0)] w w' ∧ Inv RC w') := by
  refine enterI (by decide) (Nat.le_of_ble_eq_true rfl) ?_
  intro x el eG C hret
  subst el; subst eG
  show V x 0 0 w 0 [(0, .ref (gz (xG x) + 0)), (1, .int a1), (2, .int a2), (3, .int a3), (4, .int a4)] []
  have h0 : Ch [48, 49, 50] [(47, 0)] w w := Ch.rf
  have qm1000000004 : ((-1000000004) : Int32).toInt = (-1000000004) := by decide
  have qm1000000002 : ((-1000000002) : Int32).toInt = (-1000000002) := by decide
  have qm1000000001 : ((-1000000001) : Int32).toInt = (-1000000001) := by decide
  have qm1 : ((-1) : Int32).toInt = (-1) := by decide
  have q0 : (0 : Int32).toInt = 0 := by decide
  have q1 : (1 : Int32).toInt = 1 := by decide
  have q5 : (5 : Int32).toInt = 5 := by decide
  have q10 : (10 : Int32).toInt = 10 := by decide
  refine r_aload_n 0 C dX10_see_0 rfl ?_
  refine gfX10_29 21 C (kS sC h0 kc_0) (xS sC h0 xc_0_3) dX10_see_1 ?_
  refine r_iload_n 3 C dX10_see_4 rfl ?_
  refine r_iload 4 C dX10_see_5 rfl ?_
  refine callVI C cwX10_158_V (ctX1_cellAt_21 _ _ w (sS sC h0) o0 a3 a4 ) (by decide) (kS sC h0 kc_21) rfl rfl rfl (Nat.le_of_ble_eq_true rfl) (by decide) dX10_see_7 (fun r3 w2 y1 => ?_)
  show V x 0 0 w2 10 [(0, .ref (gz (xG x) + 0)), (1, .int a1), (2, .int a2), (3, .int a3), (4, .int a4)] [.int r3]
  obtain ⟨h4, o5⟩ := y1
  have h6 := Ch.tr h0 h4 (by decide) (by decide)
  refine r_istore [(5, .int r3), (0, .ref (gz (xG x) + 0)), (1, .int a1), (2, .int a2), (3, .int a3), (4, .int a4)] C dX10_see_10 (by decide) rfl ?_
  refine r_aload_n 1 C dX10_see_12 rfl ?_
  refine r_iload_n 2 C dX10_see_13 rfl ?_
  refine callVI C cwX10_165_V (ctX10_isCrowd_0 _ _ w2 (sS sC h6) o5 a1 ) (by decide) (kS sC h6 kc_0) rfl rfl rfl (Nat.le_of_ble_eq_true rfl) (by decide) dX10_see_14 (fun r9 w8 y7 => ?_)
  show V x 0 0 w8 17 [(5, .int r3), (0, .ref (gz (xG x) + 0)), (1, .int a1), (2, .int a2), (3, .int a3), (4, .int a4)] [.int r9]
  obtain ⟨h10, o11, g12⟩ := y7
  have h13 := Ch.tr h6 h10 (by decide) (by decide)
  refine r_if_eq 26 C dX10_see_17 (by decide) (fun c14 => ?_) (fun c14 => ?_)
  · have c14' := i_eq c14
    refine r_ldc C mw3_198 dX10_see_26 ?_
    exact hret _ _ _ _ dX10_see_28 rfl ⟨h13, o11⟩
  · have c14' := i_ne c14
    refine r_iload 0 C dX10_see_20 rfl ?_
    refine r_iconst (v := (-1)) C dX10_see_22 (by decide) ?_
    refine r_icmp_ne 29 C dX10_see_23 (by decide) (fun c15 => ?_) (fun c15 => ?_)
    · have c15' := i_ne c15
      refine r_iload_n 3 C dX10_see_29 rfl ?_
      refine r_iconst (v := 1) C dX10_see_30 (by decide) ?_
      have k17 := i_rng a2
      refine r_icmp_lt 39 C dX10_see_31 (by decide) (fun c16 => ?_) (fun c16 => ?_)
      · have c16' := i_lt c16
        refine r_ldc C mw2_226 dX10_see_39 ?_
        exact hret _ _ _ _ dX10_see_41 rfl ⟨h13, o11⟩
      · have c16' := i_nlt c16
        refine r_iload_n 3 C dX10_see_34 rfl ?_
        refine r_iconst (v := 5) C dX10_see_35 (by decide) ?_
        have k19 := i_rng a2
        refine r_icmp_le 42 C dX10_see_36 (by decide) (fun c18 => ?_) (fun c18 => ?_)
        · have c18' := i_le c18
          refine r_aload_n 1 C dX10_see_42 rfl ?_
          refine gfX10_61 47 C (kS sC h13 kc_0) (xS sC h13 xc_0_9) dX10_see_43 ?_
          refine gfX10_157 (v := (wI w 47 0)) C (kS sC h13 kc_47) (h10.I (by decide) (by decide) (h4.I (by decide) (by decide) rfl)) dX10_see_46 ?_
          have b20 := Inv.get o0 rt_47_0 (j := 0) (by decide) (by decide)
          refine r_bipush (v := 10) C dX10_see_49 (by decide) ?_
          refine r_icmp_lt 57 C dX10_see_51 (by decide) (fun c21 => ?_) (fun c21 => ?_)
          · have c21' := i_lt c21
            refine r_aload_n 1 C dX10_see_57 rfl ?_
            refine gfX10_61 47 C (kS sC h13 kc_0) (xS sC h13 xc_0_9) dX10_see_58 ?_
            refine r_iload_n 2 C dX10_see_61 rfl ?_
            refine r_iload_n 3 C dX10_see_62 rfl ?_
            refine r_iload 0 C dX10_see_63 rfl ?_
            refine callVV C cwX10_254_V (ctX7_add_47 _ _ w8 (sS sC h13) o11 a1 a2 r3 ) (by decide) (kS sC h13 kc_47) rfl rfl rfl (Nat.le_of_ble_eq_true rfl) (by decide) dX10_see_65 (fun w23 y22 => ?_)
            show V x 0 0 w23 68 [(5, .int r3), (0, .ref (gz (xG x) + 0)), (1, .int a1), (2, .int a2), (3, .int a3), (4, .int a4)] []
            obtain ⟨h25, o26⟩ := y22
            have h27 := Ch.tr h13 h25 (by decide) (by decide)
            refine r_aload_n 1 C dX10_see_68 rfl ?_
            refine gfX10_61 47 C (kS sC h27 kc_0) (xS sC h27 xc_0_9) dX10_see_69 ?_
            refine gfX10_157 (v := (wI w23 47 0)) C (kS sC h27 kc_47) rfl dX10_see_72 ?_
            have b28 := Inv.get o26 rt_47_0 (j := 0) (by decide) (by decide)
            exact hret _ _ _ _ dX10_see_75 rfl ⟨h27, o26⟩
          · have c21' := i_nlt c21
            refine r_ldc C mw2_227 dX10_see_54 ?_
            exact hret _ _ _ _ dX10_see_56 rfl ⟨h13, o11⟩
        · have c18' := i_nle c18
          refine r_ldc C mw2_226 dX10_see_39 ?_
          exact hret _ _ _ _ dX10_see_41 rfl ⟨h13, o11⟩
    · have c15' := i_eq c15
      refine r_ldc C mw3_198 dX10_see_26 ?_
      exact hret _ _ _ _ dX10_see_28 rfl ⟨h13, o11⟩
