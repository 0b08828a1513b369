set_option maxHeartbeats 4000000 in
set_option maxRecDepth 100000 in
theorem ctX10_keep_0 (l : Launch) (G : Gt) (w : Wv) (sC : Str KC XC w) (o0 : Inv RC w) (a1 : Int32) : CtI l G yX10_keep cX10_keep 2 .int ({ frames := 2, cells := 0, slots := 0, locals := 45 } : Room) [.ref (gz G + 0), .int a1] w (fun r w' => Ch [105, 107, 108, 110, 112, 113] [(104, 0), (104, 1), (106, 0), (106, 1), (109, 0), (109, 1), (111, 0), (111, 1)] w w' ∧ Inv RC w' ∧ (((a1.toInt < 0 ∨ 1 < a1.toInt) → r.toInt = -1000000001) ∧ ((0 ≤ a1.toInt ∧ a1.toInt ≤ 1) → r.toInt = 1))) := by
  refine enterI (by decide) (Nat.le_of_ble_eq_true rfl) ?_
  intro x el eG C hret
  subst el; subst eG
  show V x 0 0 w 0 [(0, .ref (gz (xG x) + 0)), (1, .int a1)] []
  have h0 : Ch [105, 107, 108, 110, 112, 113] [(104, 0), (104, 1), (106, 0), (106, 1), (109, 0), (109, 1), (111, 0), (111, 1)] w w := Ch.rf
  have qm1000000001 : ((-1000000001) : Int32).toInt = (-1000000001) := by decide
  have q0 : (0 : Int32).toInt = 0 := by decide
  have q1 : (1 : Int32).toInt = 1 := by decide
  refine r_iload_n 1 C dX10_keep_0 rfl ?_
  refine callSI C cwX10_263_S (ctX10_isImage _ _ w a1 ) (by decide) rfl rfl (Nat.le_of_ble_eq_true rfl) (by decide) dX10_keep_1 (fun r3 w2 y1 => ?_)
  obtain ⟨rfl, g4⟩ := y1
  show V x 0 0 w 4 [(0, .ref (gz (xG x) + 0)), (1, .int a1)] [.int r3]
  refine r_if_ne 10 C dX10_keep_4 (by decide) (fun c5 => ?_) (fun c5 => ?_)
  · have c5' := i_ne c5
    refine r_aload_n 0 C dX10_keep_10 rfl ?_
    refine gfX10_92 103 C (kS sC h0 kc_0) (xS sC h0 xc_0_13) dX10_keep_11 ?_
    refine r_iload_n 1 C dX10_keep_14 rfl ?_
    rcases (show a1.toInt = 0 ∨ a1.toInt = 1 by omega) with c6 | c6
    · obtain rfl : a1 = 0 := i_of (by omega)
      refine r_aald 4 rfl C (kS sC h0 kc_103) (vin (by omega) (by omega)) (xS sC h0 xc_103_0) dX10_keep_15 ?_
      refine r_aload_n 0 C dX10_keep_16 rfl ?_
      refine gfX10_41 35 C (kS sC h0 kc_0) (xS sC h0 xc_0_5) dX10_keep_17 ?_
      refine r_aload_n 0 C dX10_keep_20 rfl ?_
      refine gfX10_29 21 C (kS sC h0 kc_0) (xS sC h0 xc_0_3) dX10_keep_21 ?_
      refine r_aload_n 0 C dX10_keep_24 rfl ?_
      refine gfX10_260 (v := (wI w 0 14)) C (kS sC h0 kc_0) rfl dX10_keep_25 ?_
      refine callVV C cwX10_266_V (ctX2_take_104_35_21 _ _ w (sS sC h0) o0 (wI w 0 14) ) (by decide) (kS sC h0 kc_104) rfl rfl rfl (Nat.le_of_ble_eq_true rfl) (by decide) dX10_keep_28 (fun w8 y7 => ?_)
      show V x 0 0 w8 31 [(0, .ref (gz (xG x) + 0)), (1, .int 0)] []
      obtain ⟨h10, o11⟩ := y7
      have h12 := Ch.tr h0 h10 (by decide) (by decide)
      refine r_iconst (v := 1) C dX10_keep_31 (by decide) ?_
      exact hret _ _ _ _ dX10_keep_32 rfl ⟨h12, o11, by omega⟩
    · obtain rfl : a1 = 1 := i_of (by omega)
      refine r_aald 4 rfl C (kS sC h0 kc_103) (vin (by omega) (by omega)) (xS sC h0 xc_103_1) dX10_keep_15 ?_
      refine r_aload_n 0 C dX10_keep_16 rfl ?_
      refine gfX10_41 35 C (kS sC h0 kc_0) (xS sC h0 xc_0_5) dX10_keep_17 ?_
      refine r_aload_n 0 C dX10_keep_20 rfl ?_
      refine gfX10_29 21 C (kS sC h0 kc_0) (xS sC h0 xc_0_3) dX10_keep_21 ?_
      refine r_aload_n 0 C dX10_keep_24 rfl ?_
      refine gfX10_260 (v := (wI w 0 14)) C (kS sC h0 kc_0) rfl dX10_keep_25 ?_
      refine callVV C cwX10_266_V (ctX2_take_109_35_21 _ _ w (sS sC h0) o0 (wI w 0 14) ) (by decide) (kS sC h0 kc_109) rfl rfl rfl (Nat.le_of_ble_eq_true rfl) (by decide) dX10_keep_28 (fun w14 y13 => ?_)
      show V x 0 0 w14 31 [(0, .ref (gz (xG x) + 0)), (1, .int 1)] []
      obtain ⟨h16, o17⟩ := y13
      have h18 := Ch.tr h0 h16 (by decide) (by decide)
      refine r_iconst (v := 1) C dX10_keep_31 (by decide) ?_
      exact hret _ _ _ _ dX10_keep_32 rfl ⟨h18, o17, by omega⟩
  · have c5' := i_eq c5
    refine r_ldc C mw3_198 dX10_keep_7 ?_
    exact hret _ _ _ _ dX10_keep_9 rfl ⟨h0, o0, by omega⟩
