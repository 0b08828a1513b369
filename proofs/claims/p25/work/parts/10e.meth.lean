set_option maxHeartbeats 4000000 in
set_option maxRecDepth 100000 in
theorem ctX6_pass_62 (l : Launch) (G : Gt) (w : Wv) (sC : Str KC XC w) (o0 : Inv RC w) (a1 : Int32) (a2 : Int32) : CtV l G yX6_pass cX6_pass 4 ({ frames := 3, cells := 0, slots := 0, locals := 77 } : Room) [.ref (gz G + 62), .int a1, .int a2] w (fun w' => Ch [25, 26, 27, 63, 64] [(62, 0), (62, 1)] w w' ∧ Inv RC w') := by
  refine enterV (by decide) (Nat.le_of_ble_eq_true rfl) ?_
  intro x el eG C hnm hret
  subst el; subst eG
  show V x 0 0 w 0 [(0, .ref (gz (xG x) + 62)), (1, .int a1), (2, .int a2)] []
  have h0 : Ch [25, 26, 27, 63, 64] [(62, 0), (62, 1)] w w := Ch.rf
  have qm1 : ((-1) : Int32).toInt = (-1) := by decide
  have q0 : (0 : Int32).toInt = 0 := by decide
  have q1 : (1 : Int32).toInt = 1 := by decide
  have LP3 : ∀ (f4 : Nat) (u2 : Int32) (w5 : Wv), Ch [25, 26, 27, 63, 64] [(62, 0), (62, 1)] w w5 → Inv RC w5 → (0 ≤ u2.toInt ∧ u2.toInt ≤ 2147483647) → 2147483647 - u2.toInt < f4 → V x 0 0 w5 22 [(0, .ref (gz (xG x) + 62)), (1, .int a1), (2, .int a2), (3, .int u2)] [] := by
    intro f4
    induction f4 with
    | zero => intro u2 w5 h6 o7 z8 z9; exfalso; omega
    | succ f4 ih10 =>
      intro u2 w5 h6 o7 z8 z9
      refine r_iload_n 3 C dX6_pass_22 rfl ?_
      refine r_aload_n 0 C dX6_pass_23 rfl ?_
      refine gfX6_18 3 C (kS sC h6 kc_62) (xS sC h6 xc_62_4) dX6_pass_24 ?_
      refine gfX6_39 (v := (wI w 3 3)) C (kS sC h6 kc_3) (h6.I (by decide) (by decide) rfl) dX6_pass_27 ?_
      have b11 := Inv.get o0 rt_3_3 (j := 3) (by decide) (by decide)
      have k13 := i_rng u2
      refine r_icmp_ge 78 C dX6_pass_30 (by decide) (fun c12 => ?_) (fun c12 => ?_)
      · have c12' := i_le c12
        refine r_aload_n 0 C dX6_pass_78 rfl ?_
        refine r_dup C dX6_pass_79 rfl ?_
        refine gfX6_33 (v := (wI w5 62 1)) C (kS sC h6 kc_62) rfl dX6_pass_80 ?_
        refine r_iconst (v := 1) C dX6_pass_83 (by decide) ?_
        refine r_iadd C dX6_pass_84 (fun v14 e15 => ?_)
        refine pfX6_33 C (kS sC h6 kc_62) dX6_pass_85 (fun w16 e17 => ?_)
        have h18 := Ch.putF h6 e17 (by decide)
        have o19 := Inv.putk o7 e17 (by decide)
        exact hret _ _ _ dX6_pass_88 ⟨h18, o19⟩
      · have c12' := i_nle c12
        refine r_iload_n 2 C dX6_pass_33 rfl ?_
        refine r_iconst (v := (-1)) C dX6_pass_34 (by decide) ?_
        refine r_icmp_eq 57 C dX6_pass_35 (by decide) (fun c20 => ?_) (fun c20 => ?_)
        · have c20' := i_eq c20
          refine r_aload_n 0 C dX6_pass_57 rfl ?_
          refine gfX6_15 64 C (kS sC h6 kc_62) (xS sC h6 xc_62_3) dX6_pass_58 ?_
          refine r_iload_n 3 C dX6_pass_61 rfl ?_
          refine r_iald C (kS sC h6 kc_64) (vin (by omega) (by omega)) dX6_pass_62 ?_
          generalize (wI w5 64 (u2).toNatClampNeg) = v21
          refine r_iconst (v := (-1)) C dX6_pass_63 (by decide) ?_
          refine r_icmp_eq 72 C dX6_pass_64 (by decide) (fun c22 => ?_) (fun c22 => ?_)
          · have c22' := i_eq c22
            obtain ⟨i23, e24⟩ : ∃ z : Int32, u2 + Int32.ofInt 1 = z := ⟨_, rfl⟩
            have i23' := iinc_ok e24 (by decide) (by omega) (by omega)
            refine r_iinc [(3, .int i23), (0, .ref (gz (xG x) + 62)), (1, .int a1), (2, .int a2)] 3 C dX6_pass_72 rfl e24 (by decide) rfl ?_
            refine r_goto 22 C dX6_pass_75 (by decide) ?_
            refine r_lv [1, 2, 3, 0] rfl ?_
            exact ih10 i23 w5 h6 o7 (by omega) (by omega)
          · have c22' := i_ne c22
            refine r_aload_n 0 C dX6_pass_67 rfl ?_
            refine r_iload_n 3 C dX6_pass_68 rfl ?_
            refine callVV C cwX6_59_V (ctX6_lead_62 _ _ w5 (sS sC h6) o7 u2 (by omega)) (by decide) (kS sC h6 kc_62) rfl rfl rfl (Nat.le_of_ble_eq_true rfl) (by decide) dX6_pass_69 (fun w26 y25 => ?_)
            show V x 0 0 w26 72 [(0, .ref (gz (xG x) + 62)), (1, .int a1), (2, .int a2), (3, .int u2)] []
            obtain ⟨h28, o29⟩ := y25
            have h30 := Ch.tr h6 h28 (by decide) (by decide)
            obtain ⟨i31, e32⟩ : ∃ z : Int32, u2 + Int32.ofInt 1 = z := ⟨_, rfl⟩
            have i31' := iinc_ok e32 (by decide) (by omega) (by omega)
            refine r_iinc [(3, .int i31), (0, .ref (gz (xG x) + 62)), (1, .int a1), (2, .int a2)] 3 C dX6_pass_72 rfl e32 (by decide) rfl ?_
            refine r_goto 22 C dX6_pass_75 (by decide) ?_
            refine r_lv [1, 2, 3, 0] rfl ?_
            exact ih10 i31 w26 h30 o29 (by omega) (by omega)
        · have c20' := i_ne c20
          refine r_aload_n 0 C dX6_pass_38 rfl ?_
          refine r_iload_n 3 C dX6_pass_39 rfl ?_
          refine r_iload_n 2 C dX6_pass_40 rfl ?_
          refine callVI C cwX6_55_V (ctX6_hears_62 _ _ w5 (sS sC h6) o7 u2 a2 ) (by decide) (kS sC h6 kc_62) rfl rfl rfl (Nat.le_of_ble_eq_true rfl) (by decide) dX6_pass_41 (fun r35 w34 y33 => ?_)
          show V x 0 0 w34 44 [(0, .ref (gz (xG x) + 62)), (1, .int a1), (2, .int a2), (3, .int u2)] [.int r35]
          obtain ⟨h36, o37, g38⟩ := y33
          have h39 := Ch.tr h6 h36 (by decide) (by decide)
          refine r_if_eq 57 C dX6_pass_44 (by decide) (fun c40 => ?_) (fun c40 => ?_)
          · have c40' := i_eq c40
            refine r_aload_n 0 C dX6_pass_57 rfl ?_
            refine gfX6_15 64 C (kS sC h39 kc_62) (xS sC h39 xc_62_3) dX6_pass_58 ?_
            refine r_iload_n 3 C dX6_pass_61 rfl ?_
            refine r_iald C (kS sC h39 kc_64) (vin (by omega) (by omega)) dX6_pass_62 ?_
            generalize (wI w34 64 (u2).toNatClampNeg) = v41
            refine r_iconst (v := (-1)) C dX6_pass_63 (by decide) ?_
            refine r_icmp_eq 72 C dX6_pass_64 (by decide) (fun c42 => ?_) (fun c42 => ?_)
            · have c42' := i_eq c42
              obtain ⟨i43, e44⟩ : ∃ z : Int32, u2 + Int32.ofInt 1 = z := ⟨_, rfl⟩
              have i43' := iinc_ok e44 (by decide) (by omega) (by omega)
              refine r_iinc [(3, .int i43), (0, .ref (gz (xG x) + 62)), (1, .int a1), (2, .int a2)] 3 C dX6_pass_72 rfl e44 (by decide) rfl ?_
              refine r_goto 22 C dX6_pass_75 (by decide) ?_
              refine r_lv [1, 2, 3, 0] rfl ?_
              exact ih10 i43 w34 h39 o37 (by omega) (by omega)
            · have c42' := i_ne c42
              refine r_aload_n 0 C dX6_pass_67 rfl ?_
              refine r_iload_n 3 C dX6_pass_68 rfl ?_
              refine callVV C cwX6_59_V (ctX6_lead_62 _ _ w34 (sS sC h39) o37 u2 (by omega)) (by decide) (kS sC h39 kc_62) rfl rfl rfl (Nat.le_of_ble_eq_true rfl) (by decide) dX6_pass_69 (fun w46 y45 => ?_)
              show V x 0 0 w46 72 [(0, .ref (gz (xG x) + 62)), (1, .int a1), (2, .int a2), (3, .int u2)] []
              obtain ⟨h48, o49⟩ := y45
              have h50 := Ch.tr h39 h48 (by decide) (by decide)
              obtain ⟨i51, e52⟩ : ∃ z : Int32, u2 + Int32.ofInt 1 = z := ⟨_, rfl⟩
              have i51' := iinc_ok e52 (by decide) (by omega) (by omega)
              refine r_iinc [(3, .int i51), (0, .ref (gz (xG x) + 62)), (1, .int a1), (2, .int a2)] 3 C dX6_pass_72 rfl e52 (by decide) rfl ?_
              refine r_goto 22 C dX6_pass_75 (by decide) ?_
              refine r_lv [1, 2, 3, 0] rfl ?_
              exact ih10 i51 w46 h50 o49 (by omega) (by omega)
          · have c40' := i_ne c40
            refine r_aload_n 0 C dX6_pass_47 rfl ?_
            refine gfX6_15 64 C (kS sC h39 kc_62) (xS sC h39 xc_62_3) dX6_pass_48 ?_
            refine r_iload_n 3 C dX6_pass_51 rfl ?_
            refine r_aload_n 0 C dX6_pass_52 rfl ?_
            refine gfX6_32 (v := (wI w5 62 0)) C (kS sC h39 kc_62) (h36.I (by decide) (by decide) rfl) dX6_pass_53 ?_
            refine r_iast C (kS sC h39 kc_64) (vin (by omega) (by omega)) dX6_pass_56 (fun w53 e54 => ?_)
            have h55 := Ch.putS h39 e54 (by decide)
            have o56 := Inv.put0 o37 e54 (by decide)
            refine r_aload_n 0 C dX6_pass_57 rfl ?_
            refine gfX6_15 64 C (kS sC h55 kc_62) (xS sC h55 xc_62_3) dX6_pass_58 ?_
            refine r_iload_n 3 C dX6_pass_61 rfl ?_
            refine r_iald C (kS sC h55 kc_64) (vin (by omega) (by omega)) dX6_pass_62 ?_
            generalize (wI w53 64 (u2).toNatClampNeg) = v57
            refine r_iconst (v := (-1)) C dX6_pass_63 (by decide) ?_
            refine r_icmp_eq 72 C dX6_pass_64 (by decide) (fun c58 => ?_) (fun c58 => ?_)
            · have c58' := i_eq c58
              obtain ⟨i59, e60⟩ : ∃ z : Int32, u2 + Int32.ofInt 1 = z := ⟨_, rfl⟩
              have i59' := iinc_ok e60 (by decide) (by omega) (by omega)
              refine r_iinc [(3, .int i59), (0, .ref (gz (xG x) + 62)), (1, .int a1), (2, .int a2)] 3 C dX6_pass_72 rfl e60 (by decide) rfl ?_
              refine r_goto 22 C dX6_pass_75 (by decide) ?_
              refine r_lv [1, 2, 3, 0] rfl ?_
              exact ih10 i59 w53 h55 o56 (by omega) (by omega)
            · have c58' := i_ne c58
              refine r_aload_n 0 C dX6_pass_67 rfl ?_
              refine r_iload_n 3 C dX6_pass_68 rfl ?_
              refine callVV C cwX6_59_V (ctX6_lead_62 _ _ w53 (sS sC h55) o56 u2 (by omega)) (by decide) (kS sC h55 kc_62) rfl rfl rfl (Nat.le_of_ble_eq_true rfl) (by decide) dX6_pass_69 (fun w62 y61 => ?_)
              show V x 0 0 w62 72 [(0, .ref (gz (xG x) + 62)), (1, .int a1), (2, .int a2), (3, .int u2)] []
              obtain ⟨h64, o65⟩ := y61
              have h66 := Ch.tr h55 h64 (by decide) (by decide)
              obtain ⟨i67, e68⟩ : ∃ z : Int32, u2 + Int32.ofInt 1 = z := ⟨_, rfl⟩
              have i67' := iinc_ok e68 (by decide) (by omega) (by omega)
              refine r_iinc [(3, .int i67), (0, .ref (gz (xG x) + 62)), (1, .int a1), (2, .int a2)] 3 C dX6_pass_72 rfl e68 (by decide) rfl ?_
              refine r_goto 22 C dX6_pass_75 (by decide) ?_
              refine r_lv [1, 2, 3, 0] rfl ?_
              exact ih10 i67 w62 h66 o65 (by omega) (by omega)
  refine r_iload_n 1 C dX6_pass_0 rfl ?_
  refine r_if_eq 20 C dX6_pass_1 (by decide) (fun c1 => ?_) (fun c1 => ?_)
  · have c1' := i_eq c1
    refine r_iconst (v := 0) C dX6_pass_20 (by decide) ?_
    refine r_istore_n [(3, .int 0), (0, .ref (gz (xG x) + 62)), (1, .int a1), (2, .int a2)] C dX6_pass_21 (by decide) rfl ?_
    refine r_lv [1, 2, 3, 0] rfl ?_
    exact LP3 4294967296 0 w h0 o0 (by omega) (by omega)
  · have c1' := i_ne c1
    refine r_aload_n 0 C dX6_pass_4 rfl ?_
    refine r_aload_n 0 C dX6_pass_5 rfl ?_
    refine gfX6_22 21 C (kS sC h0 kc_62) (xS sC h0 xc_62_5) dX6_pass_6 ?_
    refine r_aload_n 0 C dX6_pass_9 rfl ?_
    refine gfX6_32 (v := (wI w 62 0)) C (kS sC h0 kc_62) rfl dX6_pass_10 ?_
    refine r_iload_n 1 C dX6_pass_13 rfl ?_
    refine callVI C cwX6_47_V (ctX1_beside_21 _ _ w (sS sC h0) o0 (wI w 62 0) a1 ) (by decide) (kS sC h0 kc_21) rfl rfl rfl (Nat.le_of_ble_eq_true rfl) (by decide) dX6_pass_14 (fun r71 w70 y69 => ?_)
    show V x 0 0 w70 17 [(0, .ref (gz (xG x) + 62)), (1, .int a1), (2, .int a2)] [.int r71, .ref (gz (xG x) + 62)]
    obtain ⟨h72, o73⟩ := y69
    have h74 := Ch.tr h0 h72 (by decide) (by decide)
    refine pfX6_32 C (kS sC h74 kc_62) dX6_pass_17 (fun w75 e76 => ?_)
    have h77 := Ch.putF h74 e76 (by decide)
    have o78 := Inv.putk o73 e76 (by decide)
    refine r_iconst (v := 0) C dX6_pass_20 (by decide) ?_
    refine r_istore_n [(3, .int 0), (0, .ref (gz (xG x) + 62)), (1, .int a1), (2, .int a2)] C dX6_pass_21 (by decide) rfl ?_
    refine r_lv [1, 2, 3, 0] rfl ?_
    exact LP3 4294967296 0 w75 h77 o78 (by omega) (by omega)
set_option maxHeartbeats 4000000 in
set_option maxRecDepth 100000 in
theorem ctX6_pass_65 (l : Launch) (G : Gt) (w : Wv) (sC : Str KC XC w) (o0 : Inv RC w) (a1 : Int32) (a2 : Int32) : CtV l G yX6_pass cX6_pass 4 ({ frames := 3, cells := 0, slots := 0, locals := 77 } : Room) [.ref (gz G + 65), .int a1, .int a2] w (fun w' => Ch [25, 26, 27, 66, 67] [(65, 0), (65, 1)] w w' ∧ Inv RC w') := by
  refine enterV (by decide) (Nat.le_of_ble_eq_true rfl) ?_
  intro x el eG C hnm hret
  subst el; subst eG
  show V x 0 0 w 0 [(0, .ref (gz (xG x) + 65)), (1, .int a1), (2, .int a2)] []
  have h0 : Ch [25, 26, 27, 66, 67] [(65, 0), (65, 1)] w w := Ch.rf
  have qm1 : ((-1) : Int32).toInt = (-1) := by decide
  have q0 : (0 : Int32).toInt = 0 := by decide
  have q1 : (1 : Int32).toInt = 1 := by decide
  have LP3 : ∀ (f4 : Nat) (u2 : Int32) (w5 : Wv), Ch [25, 26, 27, 66, 67] [(65, 0), (65, 1)] w w5 → Inv RC w5 → (0 ≤ u2.toInt ∧ u2.toInt ≤ 2147483647) → 2147483647 - u2.toInt < f4 → V x 0 0 w5 22 [(0, .ref (gz (xG x) + 65)), (1, .int a1), (2, .int a2), (3, .int u2)] [] := by
    intro f4
    induction f4 with
    | zero => intro u2 w5 h6 o7 z8 z9; exfalso; omega
    | succ f4 ih10 =>
      intro u2 w5 h6 o7 z8 z9
      refine r_iload_n 3 C dX6_pass_22 rfl ?_
      refine r_aload_n 0 C dX6_pass_23 rfl ?_
      refine gfX6_18 3 C (kS sC h6 kc_65) (xS sC h6 xc_65_4) dX6_pass_24 ?_
      refine gfX6_39 (v := (wI w 3 3)) C (kS sC h6 kc_3) (h6.I (by decide) (by decide) rfl) dX6_pass_27 ?_
      have b11 := Inv.get o0 rt_3_3 (j := 3) (by decide) (by decide)
      have k13 := i_rng u2
      refine r_icmp_ge 78 C dX6_pass_30 (by decide) (fun c12 => ?_) (fun c12 => ?_)
      · have c12' := i_le c12
        refine r_aload_n 0 C dX6_pass_78 rfl ?_
        refine r_dup C dX6_pass_79 rfl ?_
        refine gfX6_33 (v := (wI w5 65 1)) C (kS sC h6 kc_65) rfl dX6_pass_80 ?_
        refine r_iconst (v := 1) C dX6_pass_83 (by decide) ?_
        refine r_iadd C dX6_pass_84 (fun v14 e15 => ?_)
        refine pfX6_33 C (kS sC h6 kc_65) dX6_pass_85 (fun w16 e17 => ?_)
        have h18 := Ch.putF h6 e17 (by decide)
        have o19 := Inv.putk o7 e17 (by decide)
        exact hret _ _ _ dX6_pass_88 ⟨h18, o19⟩
      · have c12' := i_nle c12
        refine r_iload_n 2 C dX6_pass_33 rfl ?_
        refine r_iconst (v := (-1)) C dX6_pass_34 (by decide) ?_
        refine r_icmp_eq 57 C dX6_pass_35 (by decide) (fun c20 => ?_) (fun c20 => ?_)
        · have c20' := i_eq c20
          refine r_aload_n 0 C dX6_pass_57 rfl ?_
          refine gfX6_15 67 C (kS sC h6 kc_65) (xS sC h6 xc_65_3) dX6_pass_58 ?_
          refine r_iload_n 3 C dX6_pass_61 rfl ?_
          refine r_iald C (kS sC h6 kc_67) (vin (by omega) (by omega)) dX6_pass_62 ?_
          generalize (wI w5 67 (u2).toNatClampNeg) = v21
          refine r_iconst (v := (-1)) C dX6_pass_63 (by decide) ?_
          refine r_icmp_eq 72 C dX6_pass_64 (by decide) (fun c22 => ?_) (fun c22 => ?_)
          · have c22' := i_eq c22
            obtain ⟨i23, e24⟩ : ∃ z : Int32, u2 + Int32.ofInt 1 = z := ⟨_, rfl⟩
            have i23' := iinc_ok e24 (by decide) (by omega) (by omega)
            refine r_iinc [(3, .int i23), (0, .ref (gz (xG x) + 65)), (1, .int a1), (2, .int a2)] 3 C dX6_pass_72 rfl e24 (by decide) rfl ?_
            refine r_goto 22 C dX6_pass_75 (by decide) ?_
            refine r_lv [1, 2, 3, 0] rfl ?_
            exact ih10 i23 w5 h6 o7 (by omega) (by omega)
          · have c22' := i_ne c22
            refine r_aload_n 0 C dX6_pass_67 rfl ?_
            refine r_iload_n 3 C dX6_pass_68 rfl ?_
            refine callVV C cwX6_59_V (ctX6_lead_65 _ _ w5 (sS sC h6) o7 u2 (by omega)) (by decide) (kS sC h6 kc_65) rfl rfl rfl (Nat.le_of_ble_eq_true rfl) (by decide) dX6_pass_69 (fun w26 y25 => ?_)
            show V x 0 0 w26 72 [(0, .ref (gz (xG x) + 65)), (1, .int a1), (2, .int a2), (3, .int u2)] []
            obtain ⟨h28, o29⟩ := y25
            have h30 := Ch.tr h6 h28 (by decide) (by decide)
            obtain ⟨i31, e32⟩ : ∃ z : Int32, u2 + Int32.ofInt 1 = z := ⟨_, rfl⟩
            have i31' := iinc_ok e32 (by decide) (by omega) (by omega)
            refine r_iinc [(3, .int i31), (0, .ref (gz (xG x) + 65)), (1, .int a1), (2, .int a2)] 3 C dX6_pass_72 rfl e32 (by decide) rfl ?_
            refine r_goto 22 C dX6_pass_75 (by decide) ?_
            refine r_lv [1, 2, 3, 0] rfl ?_
            exact ih10 i31 w26 h30 o29 (by omega) (by omega)
        · have c20' := i_ne c20
          refine r_aload_n 0 C dX6_pass_38 rfl ?_
          refine r_iload_n 3 C dX6_pass_39 rfl ?_
          refine r_iload_n 2 C dX6_pass_40 rfl ?_
          refine callVI C cwX6_55_V (ctX6_hears_65 _ _ w5 (sS sC h6) o7 u2 a2 ) (by decide) (kS sC h6 kc_65) rfl rfl rfl (Nat.le_of_ble_eq_true rfl) (by decide) dX6_pass_41 (fun r35 w34 y33 => ?_)
          show V x 0 0 w34 44 [(0, .ref (gz (xG x) + 65)), (1, .int a1), (2, .int a2), (3, .int u2)] [.int r35]
          obtain ⟨h36, o37, g38⟩ := y33
          have h39 := Ch.tr h6 h36 (by decide) (by decide)
          refine r_if_eq 57 C dX6_pass_44 (by decide) (fun c40 => ?_) (fun c40 => ?_)
          · have c40' := i_eq c40
            refine r_aload_n 0 C dX6_pass_57 rfl ?_
            refine gfX6_15 67 C (kS sC h39 kc_65) (xS sC h39 xc_65_3) dX6_pass_58 ?_
            refine r_iload_n 3 C dX6_pass_61 rfl ?_
            refine r_iald C (kS sC h39 kc_67) (vin (by omega) (by omega)) dX6_pass_62 ?_
            generalize (wI w34 67 (u2).toNatClampNeg) = v41
            refine r_iconst (v := (-1)) C dX6_pass_63 (by decide) ?_
            refine r_icmp_eq 72 C dX6_pass_64 (by decide) (fun c42 => ?_) (fun c42 => ?_)
            · have c42' := i_eq c42
              obtain ⟨i43, e44⟩ : ∃ z : Int32, u2 + Int32.ofInt 1 = z := ⟨_, rfl⟩
              have i43' := iinc_ok e44 (by decide) (by omega) (by omega)
              refine r_iinc [(3, .int i43), (0, .ref (gz (xG x) + 65)), (1, .int a1), (2, .int a2)] 3 C dX6_pass_72 rfl e44 (by decide) rfl ?_
              refine r_goto 22 C dX6_pass_75 (by decide) ?_
              refine r_lv [1, 2, 3, 0] rfl ?_
              exact ih10 i43 w34 h39 o37 (by omega) (by omega)
            · have c42' := i_ne c42
              refine r_aload_n 0 C dX6_pass_67 rfl ?_
              refine r_iload_n 3 C dX6_pass_68 rfl ?_
              refine callVV C cwX6_59_V (ctX6_lead_65 _ _ w34 (sS sC h39) o37 u2 (by omega)) (by decide) (kS sC h39 kc_65) rfl rfl rfl (Nat.le_of_ble_eq_true rfl) (by decide) dX6_pass_69 (fun w46 y45 => ?_)
              show V x 0 0 w46 72 [(0, .ref (gz (xG x) + 65)), (1, .int a1), (2, .int a2), (3, .int u2)] []
              obtain ⟨h48, o49⟩ := y45
              have h50 := Ch.tr h39 h48 (by decide) (by decide)
              obtain ⟨i51, e52⟩ : ∃ z : Int32, u2 + Int32.ofInt 1 = z := ⟨_, rfl⟩
              have i51' := iinc_ok e52 (by decide) (by omega) (by omega)
              refine r_iinc [(3, .int i51), (0, .ref (gz (xG x) + 65)), (1, .int a1), (2, .int a2)] 3 C dX6_pass_72 rfl e52 (by decide) rfl ?_
              refine r_goto 22 C dX6_pass_75 (by decide) ?_
              refine r_lv [1, 2, 3, 0] rfl ?_
              exact ih10 i51 w46 h50 o49 (by omega) (by omega)
          · have c40' := i_ne c40
            refine r_aload_n 0 C dX6_pass_47 rfl ?_
            refine gfX6_15 67 C (kS sC h39 kc_65) (xS sC h39 xc_65_3) dX6_pass_48 ?_
            refine r_iload_n 3 C dX6_pass_51 rfl ?_
            refine r_aload_n 0 C dX6_pass_52 rfl ?_
            refine gfX6_32 (v := (wI w5 65 0)) C (kS sC h39 kc_65) (h36.I (by decide) (by decide) rfl) dX6_pass_53 ?_
            refine r_iast C (kS sC h39 kc_67) (vin (by omega) (by omega)) dX6_pass_56 (fun w53 e54 => ?_)
            have h55 := Ch.putS h39 e54 (by decide)
            have o56 := Inv.put0 o37 e54 (by decide)
            refine r_aload_n 0 C dX6_pass_57 rfl ?_
            refine gfX6_15 67 C (kS sC h55 kc_65) (xS sC h55 xc_65_3) dX6_pass_58 ?_
            refine r_iload_n 3 C dX6_pass_61 rfl ?_
            refine r_iald C (kS sC h55 kc_67) (vin (by omega) (by omega)) dX6_pass_62 ?_
            generalize (wI w53 67 (u2).toNatClampNeg) = v57
            refine r_iconst (v := (-1)) C dX6_pass_63 (by decide) ?_
            refine r_icmp_eq 72 C dX6_pass_64 (by decide) (fun c58 => ?_) (fun c58 => ?_)
            · have c58' := i_eq c58
              obtain ⟨i59, e60⟩ : ∃ z : Int32, u2 + Int32.ofInt 1 = z := ⟨_, rfl⟩
              have i59' := iinc_ok e60 (by decide) (by omega) (by omega)
              refine r_iinc [(3, .int i59), (0, .ref (gz (xG x) + 65)), (1, .int a1), (2, .int a2)] 3 C dX6_pass_72 rfl e60 (by decide) rfl ?_
              refine r_goto 22 C dX6_pass_75 (by decide) ?_
              refine r_lv [1, 2, 3, 0] rfl ?_
              exact ih10 i59 w53 h55 o56 (by omega) (by omega)
            · have c58' := i_ne c58
              refine r_aload_n 0 C dX6_pass_67 rfl ?_
              refine r_iload_n 3 C dX6_pass_68 rfl ?_
              refine callVV C cwX6_59_V (ctX6_lead_65 _ _ w53 (sS sC h55) o56 u2 (by omega)) (by decide) (kS sC h55 kc_65) rfl rfl rfl (Nat.le_of_ble_eq_true rfl) (by decide) dX6_pass_69 (fun w62 y61 => ?_)
              show V x 0 0 w62 72 [(0, .ref (gz (xG x) + 65)), (1, .int a1), (2, .int a2), (3, .int u2)] []
              obtain ⟨h64, o65⟩ := y61
              have h66 := Ch.tr h55 h64 (by decide) (by decide)
              obtain ⟨i67, e68⟩ : ∃ z : Int32, u2 + Int32.ofInt 1 = z := ⟨_, rfl⟩
              have i67' := iinc_ok e68 (by decide) (by omega) (by omega)
              refine r_iinc [(3, .int i67), (0, .ref (gz (xG x) + 65)), (1, .int a1), (2, .int a2)] 3 C dX6_pass_72 rfl e68 (by decide) rfl ?_
              refine r_goto 22 C dX6_pass_75 (by decide) ?_
              refine r_lv [1, 2, 3, 0] rfl ?_
              exact ih10 i67 w62 h66 o65 (by omega) (by omega)
  refine r_iload_n 1 C dX6_pass_0 rfl ?_
  refine r_if_eq 20 C dX6_pass_1 (by decide) (fun c1 => ?_) (fun c1 => ?_)
  · have c1' := i_eq c1
    refine r_iconst (v := 0) C dX6_pass_20 (by decide) ?_
    refine r_istore_n [(3, .int 0), (0, .ref (gz (xG x) + 65)), (1, .int a1), (2, .int a2)] C dX6_pass_21 (by decide) rfl ?_
    refine r_lv [1, 2, 3, 0] rfl ?_
    exact LP3 4294967296 0 w h0 o0 (by omega) (by omega)
  · have c1' := i_ne c1
    refine r_aload_n 0 C dX6_pass_4 rfl ?_
    refine r_aload_n 0 C dX6_pass_5 rfl ?_
    refine gfX6_22 21 C (kS sC h0 kc_65) (xS sC h0 xc_65_5) dX6_pass_6 ?_
    refine r_aload_n 0 C dX6_pass_9 rfl ?_
    refine gfX6_32 (v := (wI w 65 0)) C (kS sC h0 kc_65) rfl dX6_pass_10 ?_
    refine r_iload_n 1 C dX6_pass_13 rfl ?_
    refine callVI C cwX6_47_V (ctX1_beside_21 _ _ w (sS sC h0) o0 (wI w 65 0) a1 ) (by decide) (kS sC h0 kc_21) rfl rfl rfl (Nat.le_of_ble_eq_true rfl) (by decide) dX6_pass_14 (fun r71 w70 y69 => ?_)
    show V x 0 0 w70 17 [(0, .ref (gz (xG x) + 65)), (1, .int a1), (2, .int a2)] [.int r71, .ref (gz (xG x) + 65)]
    obtain ⟨h72, o73⟩ := y69
    have h74 := Ch.tr h0 h72 (by decide) (by decide)
    refine pfX6_32 C (kS sC h74 kc_65) dX6_pass_17 (fun w75 e76 => ?_)
    have h77 := Ch.putF h74 e76 (by decide)
    have o78 := Inv.putk o73 e76 (by decide)
    refine r_iconst (v := 0) C dX6_pass_20 (by decide) ?_
    refine r_istore_n [(3, .int 0), (0, .ref (gz (xG x) + 65)), (1, .int a1), (2, .int a2)] C dX6_pass_21 (by decide) rfl ?_
    refine r_lv [1, 2, 3, 0] rfl ?_
    exact LP3 4294967296 0 w75 h77 o78 (by omega) (by omega)
set_option maxHeartbeats 4000000 in
set_option maxRecDepth 100000 in
theorem ctX6_pass_68 (l : Launch) (G : Gt) (w : Wv) (sC : Str KC XC w) (o0 : Inv RC w) (a1 : Int32) (a2 : Int32) : CtV l G yX6_pass cX6_pass 4 ({ frames := 3, cells := 0, slots := 0, locals := 77 } : Room) [.ref (gz G + 68), .int a1, .int a2] w (fun w' => Ch [25, 26, 27, 69, 70] [(68, 0), (68, 1)] w w' ∧ Inv RC w') := by
  refine enterV (by decide) (Nat.le_of_ble_eq_true rfl) ?_
  intro x el eG C hnm hret
  subst el; subst eG
  show V x 0 0 w 0 [(0, .ref (gz (xG x) + 68)), (1, .int a1), (2, .int a2)] []
  have h0 : Ch [25, 26, 27, 69, 70] [(68, 0), (68, 1)] w w := Ch.rf
  have qm1 : ((-1) : Int32).toInt = (-1) := by decide
  have q0 : (0 : Int32).toInt = 0 := by decide
  have q1 : (1 : Int32).toInt = 1 := by decide
  have LP3 : ∀ (f4 : Nat) (u2 : Int32) (w5 : Wv), Ch [25, 26, 27, 69, 70] [(68, 0), (68, 1)] w w5 → Inv RC w5 → (0 ≤ u2.toInt ∧ u2.toInt ≤ 2147483647) → 2147483647 - u2.toInt < f4 → V x 0 0 w5 22 [(0, .ref (gz (xG x) + 68)), (1, .int a1), (2, .int a2), (3, .int u2)] [] := by
    intro f4
    induction f4 with
    | zero => intro u2 w5 h6 o7 z8 z9; exfalso; omega
    | succ f4 ih10 =>
      intro u2 w5 h6 o7 z8 z9
      refine r_iload_n 3 C dX6_pass_22 rfl ?_
      refine r_aload_n 0 C dX6_pass_23 rfl ?_
      refine gfX6_18 3 C (kS sC h6 kc_68) (xS sC h6 xc_68_4) dX6_pass_24 ?_
      refine gfX6_39 (v := (wI w 3 3)) C (kS sC h6 kc_3) (h6.I (by decide) (by decide) rfl) dX6_pass_27 ?_
      have b11 := Inv.get o0 rt_3_3 (j := 3) (by decide) (by decide)
      have k13 := i_rng u2
      refine r_icmp_ge 78 C dX6_pass_30 (by decide) (fun c12 => ?_) (fun c12 => ?_)
      · have c12' := i_le c12
        refine r_aload_n 0 C dX6_pass_78 rfl ?_
        refine r_dup C dX6_pass_79 rfl ?_
        refine gfX6_33 (v := (wI w5 68 1)) C (kS sC h6 kc_68) rfl dX6_pass_80 ?_
        refine r_iconst (v := 1) C dX6_pass_83 (by decide) ?_
        refine r_iadd C dX6_pass_84 (fun v14 e15 => ?_)
        refine pfX6_33 C (kS sC h6 kc_68) dX6_pass_85 (fun w16 e17 => ?_)
        have h18 := Ch.putF h6 e17 (by decide)
        have o19 := Inv.putk o7 e17 (by decide)
        exact hret _ _ _ dX6_pass_88 ⟨h18, o19⟩
      · have c12' := i_nle c12
        refine r_iload_n 2 C dX6_pass_33 rfl ?_
        refine r_iconst (v := (-1)) C dX6_pass_34 (by decide) ?_
        refine r_icmp_eq 57 C dX6_pass_35 (by decide) (fun c20 => ?_) (fun c20 => ?_)
        · have c20' := i_eq c20
          refine r_aload_n 0 C dX6_pass_57 rfl ?_
          refine gfX6_15 70 C (kS sC h6 kc_68) (xS sC h6 xc_68_3) dX6_pass_58 ?_
          refine r_iload_n 3 C dX6_pass_61 rfl ?_
          refine r_iald C (kS sC h6 kc_70) (vin (by omega) (by omega)) dX6_pass_62 ?_
          generalize (wI w5 70 (u2).toNatClampNeg) = v21
          refine r_iconst (v := (-1)) C dX6_pass_63 (by decide) ?_
          refine r_icmp_eq 72 C dX6_pass_64 (by decide) (fun c22 => ?_) (fun c22 => ?_)
          · have c22' := i_eq c22
            obtain ⟨i23, e24⟩ : ∃ z : Int32, u2 + Int32.ofInt 1 = z := ⟨_, rfl⟩
            have i23' := iinc_ok e24 (by decide) (by omega) (by omega)
            refine r_iinc [(3, .int i23), (0, .ref (gz (xG x) + 68)), (1, .int a1), (2, .int a2)] 3 C dX6_pass_72 rfl e24 (by decide) rfl ?_
            refine r_goto 22 C dX6_pass_75 (by decide) ?_
            refine r_lv [1, 2, 3, 0] rfl ?_
            exact ih10 i23 w5 h6 o7 (by omega) (by omega)
          · have c22' := i_ne c22
            refine r_aload_n 0 C dX6_pass_67 rfl ?_
            refine r_iload_n 3 C dX6_pass_68 rfl ?_
            refine callVV C cwX6_59_V (ctX6_lead_68 _ _ w5 (sS sC h6) o7 u2 (by omega)) (by decide) (kS sC h6 kc_68) rfl rfl rfl (Nat.le_of_ble_eq_true rfl) (by decide) dX6_pass_69 (fun w26 y25 => ?_)
            show V x 0 0 w26 72 [(0, .ref (gz (xG x) + 68)), (1, .int a1), (2, .int a2), (3, .int u2)] []
            obtain ⟨h28, o29⟩ := y25
            have h30 := Ch.tr h6 h28 (by decide) (by decide)
            obtain ⟨i31, e32⟩ : ∃ z : Int32, u2 + Int32.ofInt 1 = z := ⟨_, rfl⟩
            have i31' := iinc_ok e32 (by decide) (by omega) (by omega)
            refine r_iinc [(3, .int i31), (0, .ref (gz (xG x) + 68)), (1, .int a1), (2, .int a2)] 3 C dX6_pass_72 rfl e32 (by decide) rfl ?_
            refine r_goto 22 C dX6_pass_75 (by decide) ?_
            refine r_lv [1, 2, 3, 0] rfl ?_
            exact ih10 i31 w26 h30 o29 (by omega) (by omega)
        · have c20' := i_ne c20
          refine r_aload_n 0 C dX6_pass_38 rfl ?_
          refine r_iload_n 3 C dX6_pass_39 rfl ?_
          refine r_iload_n 2 C dX6_pass_40 rfl ?_
          refine callVI C cwX6_55_V (ctX6_hears_68 _ _ w5 (sS sC h6) o7 u2 a2 ) (by decide) (kS sC h6 kc_68) rfl rfl rfl (Nat.le_of_ble_eq_true rfl) (by decide) dX6_pass_41 (fun r35 w34 y33 => ?_)
          show V x 0 0 w34 44 [(0, .ref (gz (xG x) + 68)), (1, .int a1), (2, .int a2), (3, .int u2)] [.int r35]
          obtain ⟨h36, o37, g38⟩ := y33
          have h39 := Ch.tr h6 h36 (by decide) (by decide)
          refine r_if_eq 57 C dX6_pass_44 (by decide) (fun c40 => ?_) (fun c40 => ?_)
          · have c40' := i_eq c40
            refine r_aload_n 0 C dX6_pass_57 rfl ?_
            refine gfX6_15 70 C (kS sC h39 kc_68) (xS sC h39 xc_68_3) dX6_pass_58 ?_
            refine r_iload_n 3 C dX6_pass_61 rfl ?_
            refine r_iald C (kS sC h39 kc_70) (vin (by omega) (by omega)) dX6_pass_62 ?_
            generalize (wI w34 70 (u2).toNatClampNeg) = v41
            refine r_iconst (v := (-1)) C dX6_pass_63 (by decide) ?_
            refine r_icmp_eq 72 C dX6_pass_64 (by decide) (fun c42 => ?_) (fun c42 => ?_)
            · have c42' := i_eq c42
              obtain ⟨i43, e44⟩ : ∃ z : Int32, u2 + Int32.ofInt 1 = z := ⟨_, rfl⟩
              have i43' := iinc_ok e44 (by decide) (by omega) (by omega)
              refine r_iinc [(3, .int i43), (0, .ref (gz (xG x) + 68)), (1, .int a1), (2, .int a2)] 3 C dX6_pass_72 rfl e44 (by decide) rfl ?_
              refine r_goto 22 C dX6_pass_75 (by decide) ?_
              refine r_lv [1, 2, 3, 0] rfl ?_
              exact ih10 i43 w34 h39 o37 (by omega) (by omega)
            · have c42' := i_ne c42
              refine r_aload_n 0 C dX6_pass_67 rfl ?_
              refine r_iload_n 3 C dX6_pass_68 rfl ?_
              refine callVV C cwX6_59_V (ctX6_lead_68 _ _ w34 (sS sC h39) o37 u2 (by omega)) (by decide) (kS sC h39 kc_68) rfl rfl rfl (Nat.le_of_ble_eq_true rfl) (by decide) dX6_pass_69 (fun w46 y45 => ?_)
              show V x 0 0 w46 72 [(0, .ref (gz (xG x) + 68)), (1, .int a1), (2, .int a2), (3, .int u2)] []
              obtain ⟨h48, o49⟩ := y45
              have h50 := Ch.tr h39 h48 (by decide) (by decide)
              obtain ⟨i51, e52⟩ : ∃ z : Int32, u2 + Int32.ofInt 1 = z := ⟨_, rfl⟩
              have i51' := iinc_ok e52 (by decide) (by omega) (by omega)
              refine r_iinc [(3, .int i51), (0, .ref (gz (xG x) + 68)), (1, .int a1), (2, .int a2)] 3 C dX6_pass_72 rfl e52 (by decide) rfl ?_
              refine r_goto 22 C dX6_pass_75 (by decide) ?_
              refine r_lv [1, 2, 3, 0] rfl ?_
              exact ih10 i51 w46 h50 o49 (by omega) (by omega)
          · have c40' := i_ne c40
            refine r_aload_n 0 C dX6_pass_47 rfl ?_
            refine gfX6_15 70 C (kS sC h39 kc_68) (xS sC h39 xc_68_3) dX6_pass_48 ?_
            refine r_iload_n 3 C dX6_pass_51 rfl ?_
            refine r_aload_n 0 C dX6_pass_52 rfl ?_
            refine gfX6_32 (v := (wI w5 68 0)) C (kS sC h39 kc_68) (h36.I (by decide) (by decide) rfl) dX6_pass_53 ?_
            refine r_iast C (kS sC h39 kc_70) (vin (by omega) (by omega)) dX6_pass_56 (fun w53 e54 => ?_)
            have h55 := Ch.putS h39 e54 (by decide)
            have o56 := Inv.put0 o37 e54 (by decide)
            refine r_aload_n 0 C dX6_pass_57 rfl ?_
            refine gfX6_15 70 C (kS sC h55 kc_68) (xS sC h55 xc_68_3) dX6_pass_58 ?_
            refine r_iload_n 3 C dX6_pass_61 rfl ?_
            refine r_iald C (kS sC h55 kc_70) (vin (by omega) (by omega)) dX6_pass_62 ?_
            generalize (wI w53 70 (u2).toNatClampNeg) = v57
            refine r_iconst (v := (-1)) C dX6_pass_63 (by decide) ?_
            refine r_icmp_eq 72 C dX6_pass_64 (by decide) (fun c58 => ?_) (fun c58 => ?_)
            · have c58' := i_eq c58
              obtain ⟨i59, e60⟩ : ∃ z : Int32, u2 + Int32.ofInt 1 = z := ⟨_, rfl⟩
              have i59' := iinc_ok e60 (by decide) (by omega) (by omega)
              refine r_iinc [(3, .int i59), (0, .ref (gz (xG x) + 68)), (1, .int a1), (2, .int a2)] 3 C dX6_pass_72 rfl e60 (by decide) rfl ?_
              refine r_goto 22 C dX6_pass_75 (by decide) ?_
              refine r_lv [1, 2, 3, 0] rfl ?_
              exact ih10 i59 w53 h55 o56 (by omega) (by omega)
            · have c58' := i_ne c58
              refine r_aload_n 0 C dX6_pass_67 rfl ?_
              refine r_iload_n 3 C dX6_pass_68 rfl ?_
              refine callVV C cwX6_59_V (ctX6_lead_68 _ _ w53 (sS sC h55) o56 u2 (by omega)) (by decide) (kS sC h55 kc_68) rfl rfl rfl (Nat.le_of_ble_eq_true rfl) (by decide) dX6_pass_69 (fun w62 y61 => ?_)
              show V x 0 0 w62 72 [(0, .ref (gz (xG x) + 68)), (1, .int a1), (2, .int a2), (3, .int u2)] []
              obtain ⟨h64, o65⟩ := y61
              have h66 := Ch.tr h55 h64 (by decide) (by decide)
              obtain ⟨i67, e68⟩ : ∃ z : Int32, u2 + Int32.ofInt 1 = z := ⟨_, rfl⟩
              have i67' := iinc_ok e68 (by decide) (by omega) (by omega)
              refine r_iinc [(3, .int i67), (0, .ref (gz (xG x) + 68)), (1, .int a1), (2, .int a2)] 3 C dX6_pass_72 rfl e68 (by decide) rfl ?_
              refine r_goto 22 C dX6_pass_75 (by decide) ?_
              refine r_lv [1, 2, 3, 0] rfl ?_
              exact ih10 i67 w62 h66 o65 (by omega) (by omega)
  refine r_iload_n 1 C dX6_pass_0 rfl ?_
  refine r_if_eq 20 C dX6_pass_1 (by decide) (fun c1 => ?_) (fun c1 => ?_)
  · have c1' := i_eq c1
    refine r_iconst (v := 0) C dX6_pass_20 (by decide) ?_
    refine r_istore_n [(3, .int 0), (0, .ref (gz (xG x) + 68)), (1, .int a1), (2, .int a2)] C dX6_pass_21 (by decide) rfl ?_
    refine r_lv [1, 2, 3, 0] rfl ?_
    exact LP3 4294967296 0 w h0 o0 (by omega) (by omega)
  · have c1' := i_ne c1
    refine r_aload_n 0 C dX6_pass_4 rfl ?_
    refine r_aload_n 0 C dX6_pass_5 rfl ?_
    refine gfX6_22 21 C (kS sC h0 kc_68) (xS sC h0 xc_68_5) dX6_pass_6 ?_
    refine r_aload_n 0 C dX6_pass_9 rfl ?_
    refine gfX6_32 (v := (wI w 68 0)) C (kS sC h0 kc_68) rfl dX6_pass_10 ?_
    refine r_iload_n 1 C dX6_pass_13 rfl ?_
    refine callVI C cwX6_47_V (ctX1_beside_21 _ _ w (sS sC h0) o0 (wI w 68 0) a1 ) (by decide) (kS sC h0 kc_21) rfl rfl rfl (Nat.le_of_ble_eq_true rfl) (by decide) dX6_pass_14 (fun r71 w70 y69 => ?_)
    show V x 0 0 w70 17 [(0, .ref (gz (xG x) + 68)), (1, .int a1), (2, .int a2)] [.int r71, .ref (gz (xG x) + 68)]
    obtain ⟨h72, o73⟩ := y69
    have h74 := Ch.tr h0 h72 (by decide) (by decide)
    refine pfX6_32 C (kS sC h74 kc_68) dX6_pass_17 (fun w75 e76 => ?_)
    have h77 := Ch.putF h74 e76 (by decide)
    have o78 := Inv.putk o73 e76 (by decide)
    refine r_iconst (v := 0) C dX6_pass_20 (by decide) ?_
    refine r_istore_n [(3, .int 0), (0, .ref (gz (xG x) + 68)), (1, .int a1), (2, .int a2)] C dX6_pass_21 (by decide) rfl ?_
    refine r_lv [1, 2, 3, 0] rfl ?_
    exact LP3 4294967296 0 w75 h77 o78 (by omega) (by omega)
set_option maxHeartbeats 4000000 in
set_option maxRecDepth 100000 in
theorem ctX6_pass_71 (l : Launch) (G : Gt) (w : Wv) (sC : Str KC XC w) (o0 : Inv RC w) (a1 : Int32) (a2 : Int32) : CtV l G yX6_pass cX6_pass 4 ({ frames := 3, cells := 0, slots := 0, locals := 77 } : Room) [.ref (gz G + 71), .int a1, .int a2] w (fun w' => Ch [25, 26, 27, 72, 73] [(71, 0), (71, 1)] w w' ∧ Inv RC w') := by
  refine enterV (by decide) (Nat.le_of_ble_eq_true rfl) ?_
  intro x el eG C hnm hret
  subst el; subst eG
  show V x 0 0 w 0 [(0, .ref (gz (xG x) + 71)), (1, .int a1), (2, .int a2)] []
  have h0 : Ch [25, 26, 27, 72, 73] [(71, 0), (71, 1)] w w := Ch.rf
  have qm1 : ((-1) : Int32).toInt = (-1) := by decide
  have q0 : (0 : Int32).toInt = 0 := by decide
  have q1 : (1 : Int32).toInt = 1 := by decide
  have LP3 : ∀ (f4 : Nat) (u2 : Int32) (w5 : Wv), Ch [25, 26, 27, 72, 73] [(71, 0), (71, 1)] w w5 → Inv RC w5 → (0 ≤ u2.toInt ∧ u2.toInt ≤ 2147483647) → 2147483647 - u2.toInt < f4 → V x 0 0 w5 22 [(0, .ref (gz (xG x) + 71)), (1, .int a1), (2, .int a2), (3, .int u2)] [] := by
    intro f4
    induction f4 with
    | zero => intro u2 w5 h6 o7 z8 z9; exfalso; omega
    | succ f4 ih10 =>
      intro u2 w5 h6 o7 z8 z9
      refine r_iload_n 3 C dX6_pass_22 rfl ?_
      refine r_aload_n 0 C dX6_pass_23 rfl ?_
      refine gfX6_18 3 C (kS sC h6 kc_71) (xS sC h6 xc_71_4) dX6_pass_24 ?_
      refine gfX6_39 (v := (wI w 3 3)) C (kS sC h6 kc_3) (h6.I (by decide) (by decide) rfl) dX6_pass_27 ?_
      have b11 := Inv.get o0 rt_3_3 (j := 3) (by decide) (by decide)
      have k13 := i_rng u2
      refine r_icmp_ge 78 C dX6_pass_30 (by decide) (fun c12 => ?_) (fun c12 => ?_)
      · have c12' := i_le c12
        refine r_aload_n 0 C dX6_pass_78 rfl ?_
        refine r_dup C dX6_pass_79 rfl ?_
        refine gfX6_33 (v := (wI w5 71 1)) C (kS sC h6 kc_71) rfl dX6_pass_80 ?_
        refine r_iconst (v := 1) C dX6_pass_83 (by decide) ?_
        refine r_iadd C dX6_pass_84 (fun v14 e15 => ?_)
        refine pfX6_33 C (kS sC h6 kc_71) dX6_pass_85 (fun w16 e17 => ?_)
        have h18 := Ch.putF h6 e17 (by decide)
        have o19 := Inv.putk o7 e17 (by decide)
        exact hret _ _ _ dX6_pass_88 ⟨h18, o19⟩
      · have c12' := i_nle c12
        refine r_iload_n 2 C dX6_pass_33 rfl ?_
        refine r_iconst (v := (-1)) C dX6_pass_34 (by decide) ?_
        refine r_icmp_eq 57 C dX6_pass_35 (by decide) (fun c20 => ?_) (fun c20 => ?_)
        · have c20' := i_eq c20
          refine r_aload_n 0 C dX6_pass_57 rfl ?_
          refine gfX6_15 73 C (kS sC h6 kc_71) (xS sC h6 xc_71_3) dX6_pass_58 ?_
          refine r_iload_n 3 C dX6_pass_61 rfl ?_
          refine r_iald C (kS sC h6 kc_73) (vin (by omega) (by omega)) dX6_pass_62 ?_
          generalize (wI w5 73 (u2).toNatClampNeg) = v21
          refine r_iconst (v := (-1)) C dX6_pass_63 (by decide) ?_
          refine r_icmp_eq 72 C dX6_pass_64 (by decide) (fun c22 => ?_) (fun c22 => ?_)
          · have c22' := i_eq c22
            obtain ⟨i23, e24⟩ : ∃ z : Int32, u2 + Int32.ofInt 1 = z := ⟨_, rfl⟩
            have i23' := iinc_ok e24 (by decide) (by omega) (by omega)
            refine r_iinc [(3, .int i23), (0, .ref (gz (xG x) + 71)), (1, .int a1), (2, .int a2)] 3 C dX6_pass_72 rfl e24 (by decide) rfl ?_
            refine r_goto 22 C dX6_pass_75 (by decide) ?_
            refine r_lv [1, 2, 3, 0] rfl ?_
            exact ih10 i23 w5 h6 o7 (by omega) (by omega)
          · have c22' := i_ne c22
            refine r_aload_n 0 C dX6_pass_67 rfl ?_
            refine r_iload_n 3 C dX6_pass_68 rfl ?_
            refine callVV C cwX6_59_V (ctX6_lead_71 _ _ w5 (sS sC h6) o7 u2 (by omega)) (by decide) (kS sC h6 kc_71) rfl rfl rfl (Nat.le_of_ble_eq_true rfl) (by decide) dX6_pass_69 (fun w26 y25 => ?_)
            show V x 0 0 w26 72 [(0, .ref (gz (xG x) + 71)), (1, .int a1), (2, .int a2), (3, .int u2)] []
            obtain ⟨h28, o29⟩ := y25
            have h30 := Ch.tr h6 h28 (by decide) (by decide)
            obtain ⟨i31, e32⟩ : ∃ z : Int32, u2 + Int32.ofInt 1 = z := ⟨_, rfl⟩
            have i31' := iinc_ok e32 (by decide) (by omega) (by omega)
            refine r_iinc [(3, .int i31), (0, .ref (gz (xG x) + 71)), (1, .int a1), (2, .int a2)] 3 C dX6_pass_72 rfl e32 (by decide) rfl ?_
            refine r_goto 22 C dX6_pass_75 (by decide) ?_
            refine r_lv [1, 2, 3, 0] rfl ?_
            exact ih10 i31 w26 h30 o29 (by omega) (by omega)
        · have c20' := i_ne c20
          refine r_aload_n 0 C dX6_pass_38 rfl ?_
          refine r_iload_n 3 C dX6_pass_39 rfl ?_
          refine r_iload_n 2 C dX6_pass_40 rfl ?_
          refine callVI C cwX6_55_V (ctX6_hears_71 _ _ w5 (sS sC h6) o7 u2 a2 ) (by decide) (kS sC h6 kc_71) rfl rfl rfl (Nat.le_of_ble_eq_true rfl) (by decide) dX6_pass_41 (fun r35 w34 y33 => ?_)
          show V x 0 0 w34 44 [(0, .ref (gz (xG x) + 71)), (1, .int a1), (2, .int a2), (3, .int u2)] [.int r35]
          obtain ⟨h36, o37, g38⟩ := y33
          have h39 := Ch.tr h6 h36 (by decide) (by decide)
          refine r_if_eq 57 C dX6_pass_44 (by decide) (fun c40 => ?_) (fun c40 => ?_)
          · have c40' := i_eq c40
            refine r_aload_n 0 C dX6_pass_57 rfl ?_
            refine gfX6_15 73 C (kS sC h39 kc_71) (xS sC h39 xc_71_3) dX6_pass_58 ?_
            refine r_iload_n 3 C dX6_pass_61 rfl ?_
            refine r_iald C (kS sC h39 kc_73) (vin (by omega) (by omega)) dX6_pass_62 ?_
            generalize (wI w34 73 (u2).toNatClampNeg) = v41
            refine r_iconst (v := (-1)) C dX6_pass_63 (by decide) ?_
            refine r_icmp_eq 72 C dX6_pass_64 (by decide) (fun c42 => ?_) (fun c42 => ?_)
            · have c42' := i_eq c42
              obtain ⟨i43, e44⟩ : ∃ z : Int32, u2 + Int32.ofInt 1 = z := ⟨_, rfl⟩
              have i43' := iinc_ok e44 (by decide) (by omega) (by omega)
              refine r_iinc [(3, .int i43), (0, .ref (gz (xG x) + 71)), (1, .int a1), (2, .int a2)] 3 C dX6_pass_72 rfl e44 (by decide) rfl ?_
              refine r_goto 22 C dX6_pass_75 (by decide) ?_
              refine r_lv [1, 2, 3, 0] rfl ?_
              exact ih10 i43 w34 h39 o37 (by omega) (by omega)
            · have c42' := i_ne c42
              refine r_aload_n 0 C dX6_pass_67 rfl ?_
              refine r_iload_n 3 C dX6_pass_68 rfl ?_
              refine callVV C cwX6_59_V (ctX6_lead_71 _ _ w34 (sS sC h39) o37 u2 (by omega)) (by decide) (kS sC h39 kc_71) rfl rfl rfl (Nat.le_of_ble_eq_true rfl) (by decide) dX6_pass_69 (fun w46 y45 => ?_)
              show V x 0 0 w46 72 [(0, .ref (gz (xG x) + 71)), (1, .int a1), (2, .int a2), (3, .int u2)] []
              obtain ⟨h48, o49⟩ := y45
              have h50 := Ch.tr h39 h48 (by decide) (by decide)
              obtain ⟨i51, e52⟩ : ∃ z : Int32, u2 + Int32.ofInt 1 = z := ⟨_, rfl⟩
              have i51' := iinc_ok e52 (by decide) (by omega) (by omega)
              refine r_iinc [(3, .int i51), (0, .ref (gz (xG x) + 71)), (1, .int a1), (2, .int a2)] 3 C dX6_pass_72 rfl e52 (by decide) rfl ?_
              refine r_goto 22 C dX6_pass_75 (by decide) ?_
              refine r_lv [1, 2, 3, 0] rfl ?_
              exact ih10 i51 w46 h50 o49 (by omega) (by omega)
          · have c40' := i_ne c40
            refine r_aload_n 0 C dX6_pass_47 rfl ?_
            refine gfX6_15 73 C (kS sC h39 kc_71) (xS sC h39 xc_71_3) dX6_pass_48 ?_
            refine r_iload_n 3 C dX6_pass_51 rfl ?_
            refine r_aload_n 0 C dX6_pass_52 rfl ?_
            refine gfX6_32 (v := (wI w5 71 0)) C (kS sC h39 kc_71) (h36.I (by decide) (by decide) rfl) dX6_pass_53 ?_
            refine r_iast C (kS sC h39 kc_73) (vin (by omega) (by omega)) dX6_pass_56 (fun w53 e54 => ?_)
            have h55 := Ch.putS h39 e54 (by decide)
            have o56 := Inv.put0 o37 e54 (by decide)
            refine r_aload_n 0 C dX6_pass_57 rfl ?_
            refine gfX6_15 73 C (kS sC h55 kc_71) (xS sC h55 xc_71_3) dX6_pass_58 ?_
            refine r_iload_n 3 C dX6_pass_61 rfl ?_
            refine r_iald C (kS sC h55 kc_73) (vin (by omega) (by omega)) dX6_pass_62 ?_
            generalize (wI w53 73 (u2).toNatClampNeg) = v57
            refine r_iconst (v := (-1)) C dX6_pass_63 (by decide) ?_
            refine r_icmp_eq 72 C dX6_pass_64 (by decide) (fun c58 => ?_) (fun c58 => ?_)
            · have c58' := i_eq c58
              obtain ⟨i59, e60⟩ : ∃ z : Int32, u2 + Int32.ofInt 1 = z := ⟨_, rfl⟩
              have i59' := iinc_ok e60 (by decide) (by omega) (by omega)
              refine r_iinc [(3, .int i59), (0, .ref (gz (xG x) + 71)), (1, .int a1), (2, .int a2)] 3 C dX6_pass_72 rfl e60 (by decide) rfl ?_
              refine r_goto 22 C dX6_pass_75 (by decide) ?_
              refine r_lv [1, 2, 3, 0] rfl ?_
              exact ih10 i59 w53 h55 o56 (by omega) (by omega)
            · have c58' := i_ne c58
              refine r_aload_n 0 C dX6_pass_67 rfl ?_
              refine r_iload_n 3 C dX6_pass_68 rfl ?_
              refine callVV C cwX6_59_V (ctX6_lead_71 _ _ w53 (sS sC h55) o56 u2 (by omega)) (by decide) (kS sC h55 kc_71) rfl rfl rfl (Nat.le_of_ble_eq_true rfl) (by decide) dX6_pass_69 (fun w62 y61 => ?_)
              show V x 0 0 w62 72 [(0, .ref (gz (xG x) + 71)), (1, .int a1), (2, .int a2), (3, .int u2)] []
              obtain ⟨h64, o65⟩ := y61
              have h66 := Ch.tr h55 h64 (by decide) (by decide)
              obtain ⟨i67, e68⟩ : ∃ z : Int32, u2 + Int32.ofInt 1 = z := ⟨_, rfl⟩
              have i67' := iinc_ok e68 (by decide) (by omega) (by omega)
              refine r_iinc [(3, .int i67), (0, .ref (gz (xG x) + 71)), (1, .int a1), (2, .int a2)] 3 C dX6_pass_72 rfl e68 (by decide) rfl ?_
              refine r_goto 22 C dX6_pass_75 (by decide) ?_
              refine r_lv [1, 2, 3, 0] rfl ?_
              exact ih10 i67 w62 h66 o65 (by omega) (by omega)
  refine r_iload_n 1 C dX6_pass_0 rfl ?_
  refine r_if_eq 20 C dX6_pass_1 (by decide) (fun c1 => ?_) (fun c1 => ?_)
  · have c1' := i_eq c1
    refine r_iconst (v := 0) C dX6_pass_20 (by decide) ?_
    refine r_istore_n [(3, .int 0), (0, .ref (gz (xG x) + 71)), (1, .int a1), (2, .int a2)] C dX6_pass_21 (by decide) rfl ?_
    refine r_lv [1, 2, 3, 0] rfl ?_
    exact LP3 4294967296 0 w h0 o0 (by omega) (by omega)
  · have c1' := i_ne c1
    refine r_aload_n 0 C dX6_pass_4 rfl ?_
    refine r_aload_n 0 C dX6_pass_5 rfl ?_
    refine gfX6_22 21 C (kS sC h0 kc_71) (xS sC h0 xc_71_5) dX6_pass_6 ?_
    refine r_aload_n 0 C dX6_pass_9 rfl ?_
    refine gfX6_32 (v := (wI w 71 0)) C (kS sC h0 kc_71) rfl dX6_pass_10 ?_
    refine r_iload_n 1 C dX6_pass_13 rfl ?_
    refine callVI C cwX6_47_V (ctX1_beside_21 _ _ w (sS sC h0) o0 (wI w 71 0) a1 ) (by decide) (kS sC h0 kc_21) rfl rfl rfl (Nat.le_of_ble_eq_true rfl) (by decide) dX6_pass_14 (fun r71 w70 y69 => ?_)
    show V x 0 0 w70 17 [(0, .ref (gz (xG x) + 71)), (1, .int a1), (2, .int a2)] [.int r71, .ref (gz (xG x) + 71)]
    obtain ⟨h72, o73⟩ := y69
    have h74 := Ch.tr h0 h72 (by decide) (by decide)
    refine pfX6_32 C (kS sC h74 kc_71) dX6_pass_17 (fun w75 e76 => ?_)
    have h77 := Ch.putF h74 e76 (by decide)
    have o78 := Inv.putk o73 e76 (by decide)
    refine r_iconst (v := 0) C dX6_pass_20 (by decide) ?_
    refine r_istore_n [(3, .int 0), (0, .ref (gz (xG x) + 71)), (1, .int a1), (2, .int a2)] C dX6_pass_21 (by decide) rfl ?_
    refine r_lv [1, 2, 3, 0] rfl ?_
    exact LP3 4294967296 0 w75 h77 o78 (by omega) (by omega)
set_option maxHeartbeats 4000000 in
set_option maxRecDepth 100000 in
theorem ctX6_pass_74 (l : Launch) (G : Gt) (w : Wv) (sC : Str KC XC w) (o0 : Inv RC w) (a1 : Int32) (a2 : Int32) : CtV l G yX6_pass cX6_pass 4 ({ frames := 3, cells := 0, slots := 0, locals := 77 } : Room) [.ref (gz G + 74), .int a1, .int a2] w (fun w' => Ch [25, 26, 27, 75, 76] [(74, 0), (74, 1)] w w' ∧ Inv RC w') := by
  refine enterV (by decide) (Nat.le_of_ble_eq_true rfl) ?_
  intro x el eG C hnm hret
  subst el; subst eG
  show V x 0 0 w 0 [(0, .ref (gz (xG x) + 74)), (1, .int a1), (2, .int a2)] []
  have h0 : Ch [25, 26, 27, 75, 76] [(74, 0), (74, 1)] w w := Ch.rf
  have qm1 : ((-1) : Int32).toInt = (-1) := by decide
  have q0 : (0 : Int32).toInt = 0 := by decide
  have q1 : (1 : Int32).toInt = 1 := by decide
  have LP3 : ∀ (f4 : Nat) (u2 : Int32) (w5 : Wv), Ch [25, 26, 27, 75, 76] [(74, 0), (74, 1)] w w5 → Inv RC w5 → (0 ≤ u2.toInt ∧ u2.toInt ≤ 2147483647) → 2147483647 - u2.toInt < f4 → V x 0 0 w5 22 [(0, .ref (gz (xG x) + 74)), (1, .int a1), (2, .int a2), (3, .int u2)] [] := by
    intro f4
    induction f4 with
    | zero => intro u2 w5 h6 o7 z8 z9; exfalso; omega
    | succ f4 ih10 =>
      intro u2 w5 h6 o7 z8 z9
      refine r_iload_n 3 C dX6_pass_22 rfl ?_
      refine r_aload_n 0 C dX6_pass_23 rfl ?_
      refine gfX6_18 3 C (kS sC h6 kc_74) (xS sC h6 xc_74_4) dX6_pass_24 ?_
      refine gfX6_39 (v := (wI w 3 3)) C (kS sC h6 kc_3) (h6.I (by decide) (by decide) rfl) dX6_pass_27 ?_
      have b11 := Inv.get o0 rt_3_3 (j := 3) (by decide) (by decide)
      have k13 := i_rng u2
      refine r_icmp_ge 78 C dX6_pass_30 (by decide) (fun c12 => ?_) (fun c12 => ?_)
      · have c12' := i_le c12
        refine r_aload_n 0 C dX6_pass_78 rfl ?_
        refine r_dup C dX6_pass_79 rfl ?_
        refine gfX6_33 (v := (wI w5 74 1)) C (kS sC h6 kc_74) rfl dX6_pass_80 ?_
        refine r_iconst (v := 1) C dX6_pass_83 (by decide) ?_
        refine r_iadd C dX6_pass_84 (fun v14 e15 => ?_)
        refine pfX6_33 C (kS sC h6 kc_74) dX6_pass_85 (fun w16 e17 => ?_)
        have h18 := Ch.putF h6 e17 (by decide)
        have o19 := Inv.putk o7 e17 (by decide)
        exact hret _ _ _ dX6_pass_88 ⟨h18, o19⟩
      · have c12' := i_nle c12
        refine r_iload_n 2 C dX6_pass_33 rfl ?_
        refine r_iconst (v := (-1)) C dX6_pass_34 (by decide) ?_
        refine r_icmp_eq 57 C dX6_pass_35 (by decide) (fun c20 => ?_) (fun c20 => ?_)
        · have c20' := i_eq c20
          refine r_aload_n 0 C dX6_pass_57 rfl ?_
          refine gfX6_15 76 C (kS sC h6 kc_74) (xS sC h6 xc_74_3) dX6_pass_58 ?_
          refine r_iload_n 3 C dX6_pass_61 rfl ?_
          refine r_iald C (kS sC h6 kc_76) (vin (by omega) (by omega)) dX6_pass_62 ?_
          generalize (wI w5 76 (u2).toNatClampNeg) = v21
          refine r_iconst (v := (-1)) C dX6_pass_63 (by decide) ?_
          refine r_icmp_eq 72 C dX6_pass_64 (by decide) (fun c22 => ?_) (fun c22 => ?_)
          · have c22' := i_eq c22
            obtain ⟨i23, e24⟩ : ∃ z : Int32, u2 + Int32.ofInt 1 = z := ⟨_, rfl⟩
            have i23' := iinc_ok e24 (by decide) (by omega) (by omega)
            refine r_iinc [(3, .int i23), (0, .ref (gz (xG x) + 74)), (1, .int a1), (2, .int a2)] 3 C dX6_pass_72 rfl e24 (by decide) rfl ?_
            refine r_goto 22 C dX6_pass_75 (by decide) ?_
            refine r_lv [1, 2, 3, 0] rfl ?_
            exact ih10 i23 w5 h6 o7 (by omega) (by omega)
          · have c22' := i_ne c22
            refine r_aload_n 0 C dX6_pass_67 rfl ?_
            refine r_iload_n 3 C dX6_pass_68 rfl ?_
            refine callVV C cwX6_59_V (ctX6_lead_74 _ _ w5 (sS sC h6) o7 u2 (by omega)) (by decide) (kS sC h6 kc_74) rfl rfl rfl (Nat.le_of_ble_eq_true rfl) (by decide) dX6_pass_69 (fun w26 y25 => ?_)
            show V x 0 0 w26 72 [(0, .ref (gz (xG x) + 74)), (1, .int a1), (2, .int a2), (3, .int u2)] []
            obtain ⟨h28, o29⟩ := y25
            have h30 := Ch.tr h6 h28 (by decide) (by decide)
            obtain ⟨i31, e32⟩ : ∃ z : Int32, u2 + Int32.ofInt 1 = z := ⟨_, rfl⟩
            have i31' := iinc_ok e32 (by decide) (by omega) (by omega)
            refine r_iinc [(3, .int i31), (0, .ref (gz (xG x) + 74)), (1, .int a1), (2, .int a2)] 3 C dX6_pass_72 rfl e32 (by decide) rfl ?_
            refine r_goto 22 C dX6_pass_75 (by decide) ?_
            refine r_lv [1, 2, 3, 0] rfl ?_
            exact ih10 i31 w26 h30 o29 (by omega) (by omega)
        · have c20' := i_ne c20
          refine r_aload_n 0 C dX6_pass_38 rfl ?_
          refine r_iload_n 3 C dX6_pass_39 rfl ?_
          refine r_iload_n 2 C dX6_pass_40 rfl ?_
          refine callVI C cwX6_55_V (ctX6_hears_74 _ _ w5 (sS sC h6) o7 u2 a2 ) (by decide) (kS sC h6 kc_74) rfl rfl rfl (Nat.le_of_ble_eq_true rfl) (by decide) dX6_pass_41 (fun r35 w34 y33 => ?_)
          show V x 0 0 w34 44 [(0, .ref (gz (xG x) + 74)), (1, .int a1), (2, .int a2), (3, .int u2)] [.int r35]
          obtain ⟨h36, o37, g38⟩ := y33
          have h39 := Ch.tr h6 h36 (by decide) (by decide)
          refine r_if_eq 57 C dX6_pass_44 (by decide) (fun c40 => ?_) (fun c40 => ?_)
          · have c40' := i_eq c40
            refine r_aload_n 0 C dX6_pass_57 rfl ?_
            refine gfX6_15 76 C (kS sC h39 kc_74) (xS sC h39 xc_74_3) dX6_pass_58 ?_
            refine r_iload_n 3 C dX6_pass_61 rfl ?_
            refine r_iald C (kS sC h39 kc_76) (vin (by omega) (by omega)) dX6_pass_62 ?_
            generalize (wI w34 76 (u2).toNatClampNeg) = v41
            refine r_iconst (v := (-1)) C dX6_pass_63 (by decide) ?_
            refine r_icmp_eq 72 C dX6_pass_64 (by decide) (fun c42 => ?_) (fun c42 => ?_)
            · have c42' := i_eq c42
              obtain ⟨i43, e44⟩ : ∃ z : Int32, u2 + Int32.ofInt 1 = z := ⟨_, rfl⟩
              have i43' := iinc_ok e44 (by decide) (by omega) (by omega)
              refine r_iinc [(3, .int i43), (0, .ref (gz (xG x) + 74)), (1, .int a1), (2, .int a2)] 3 C dX6_pass_72 rfl e44 (by decide) rfl ?_
              refine r_goto 22 C dX6_pass_75 (by decide) ?_
              refine r_lv [1, 2, 3, 0] rfl ?_
              exact ih10 i43 w34 h39 o37 (by omega) (by omega)
            · have c42' := i_ne c42
              refine r_aload_n 0 C dX6_pass_67 rfl ?_
              refine r_iload_n 3 C dX6_pass_68 rfl ?_
              refine callVV C cwX6_59_V (ctX6_lead_74 _ _ w34 (sS sC h39) o37 u2 (by omega)) (by decide) (kS sC h39 kc_74) rfl rfl rfl (Nat.le_of_ble_eq_true rfl) (by decide) dX6_pass_69 (fun w46 y45 => ?_)
              show V x 0 0 w46 72 [(0, .ref (gz (xG x) + 74)), (1, .int a1), (2, .int a2), (3, .int u2)] []
              obtain ⟨h48, o49⟩ := y45
              have h50 := Ch.tr h39 h48 (by decide) (by decide)
              obtain ⟨i51, e52⟩ : ∃ z : Int32, u2 + Int32.ofInt 1 = z := ⟨_, rfl⟩
              have i51' := iinc_ok e52 (by decide) (by omega) (by omega)
              refine r_iinc [(3, .int i51), (0, .ref (gz (xG x) + 74)), (1, .int a1), (2, .int a2)] 3 C dX6_pass_72 rfl e52 (by decide) rfl ?_
              refine r_goto 22 C dX6_pass_75 (by decide) ?_
              refine r_lv [1, 2, 3, 0] rfl ?_
              exact ih10 i51 w46 h50 o49 (by omega) (by omega)
          · have c40' := i_ne c40
            refine r_aload_n 0 C dX6_pass_47 rfl ?_
            refine gfX6_15 76 C (kS sC h39 kc_74) (xS sC h39 xc_74_3) dX6_pass_48 ?_
            refine r_iload_n 3 C dX6_pass_51 rfl ?_
            refine r_aload_n 0 C dX6_pass_52 rfl ?_
            refine gfX6_32 (v := (wI w5 74 0)) C (kS sC h39 kc_74) (h36.I (by decide) (by decide) rfl) dX6_pass_53 ?_
            refine r_iast C (kS sC h39 kc_76) (vin (by omega) (by omega)) dX6_pass_56 (fun w53 e54 => ?_)
            have h55 := Ch.putS h39 e54 (by decide)
            have o56 := Inv.put0 o37 e54 (by decide)
            refine r_aload_n 0 C dX6_pass_57 rfl ?_
            refine gfX6_15 76 C (kS sC h55 kc_74) (xS sC h55 xc_74_3) dX6_pass_58 ?_
            refine r_iload_n 3 C dX6_pass_61 rfl ?_
            refine r_iald C (kS sC h55 kc_76) (vin (by omega) (by omega)) dX6_pass_62 ?_
            generalize (wI w53 76 (u2).toNatClampNeg) = v57
            refine r_iconst (v := (-1)) C dX6_pass_63 (by decide) ?_
            refine r_icmp_eq 72 C dX6_pass_64 (by decide) (fun c58 => ?_) (fun c58 => ?_)
            · have c58' := i_eq c58
              obtain ⟨i59, e60⟩ : ∃ z : Int32, u2 + Int32.ofInt 1 = z := ⟨_, rfl⟩
              have i59' := iinc_ok e60 (by decide) (by omega) (by omega)
              refine r_iinc [(3, .int i59), (0, .ref (gz (xG x) + 74)), (1, .int a1), (2, .int a2)] 3 C dX6_pass_72 rfl e60 (by decide) rfl ?_
              refine r_goto 22 C dX6_pass_75 (by decide) ?_
              refine r_lv [1, 2, 3, 0] rfl ?_
              exact ih10 i59 w53 h55 o56 (by omega) (by omega)
            · have c58' := i_ne c58
              refine r_aload_n 0 C dX6_pass_67 rfl ?_
              refine r_iload_n 3 C dX6_pass_68 rfl ?_
              refine callVV C cwX6_59_V (ctX6_lead_74 _ _ w53 (sS sC h55) o56 u2 (by omega)) (by decide) (kS sC h55 kc_74) rfl rfl rfl (Nat.le_of_ble_eq_true rfl) (by decide) dX6_pass_69 (fun w62 y61 => ?_)
              show V x 0 0 w62 72 [(0, .ref (gz (xG x) + 74)), (1, .int a1), (2, .int a2), (3, .int u2)] []
              obtain ⟨h64, o65⟩ := y61
              have h66 := Ch.tr h55 h64 (by decide) (by decide)
              obtain ⟨i67, e68⟩ : ∃ z : Int32, u2 + Int32.ofInt 1 = z := ⟨_, rfl⟩
              have i67' := iinc_ok e68 (by decide) (by omega) (by omega)
              refine r_iinc [(3, .int i67), (0, .ref (gz (xG x) + 74)), (1, .int a1), (2, .int a2)] 3 C dX6_pass_72 rfl e68 (by decide) rfl ?_
              refine r_goto 22 C dX6_pass_75 (by decide) ?_
              refine r_lv [1, 2, 3, 0] rfl ?_
              exact ih10 i67 w62 h66 o65 (by omega) (by omega)
  refine r_iload_n 1 C dX6_pass_0 rfl ?_
  refine r_if_eq 20 C dX6_pass_1 (by decide) (fun c1 => ?_) (fun c1 => ?_)
  · have c1' := i_eq c1
    refine r_iconst (v := 0) C dX6_pass_20 (by decide) ?_
    refine r_istore_n [(3, .int 0), (0, .ref (gz (xG x) + 74)), (1, .int a1), (2, .int a2)] C dX6_pass_21 (by decide) rfl ?_
    refine r_lv [1, 2, 3, 0] rfl ?_
    exact LP3 4294967296 0 w h0 o0 (by omega) (by omega)
  · have c1' := i_ne c1
    refine r_aload_n 0 C dX6_pass_4 rfl ?_
    refine r_aload_n 0 C dX6_pass_5 rfl ?_
    refine gfX6_22 21 C (kS sC h0 kc_74) (xS sC h0 xc_74_5) dX6_pass_6 ?_
    refine r_aload_n 0 C dX6_pass_9 rfl ?_
    refine gfX6_32 (v := (wI w 74 0)) C (kS sC h0 kc_74) rfl dX6_pass_10 ?_
    refine r_iload_n 1 C dX6_pass_13 rfl ?_
    refine callVI C cwX6_47_V (ctX1_beside_21 _ _ w (sS sC h0) o0 (wI w 74 0) a1 ) (by decide) (kS sC h0 kc_21) rfl rfl rfl (Nat.le_of_ble_eq_true rfl) (by decide) dX6_pass_14 (fun r71 w70 y69 => ?_)
    show V x 0 0 w70 17 [(0, .ref (gz (xG x) + 74)), (1, .int a1), (2, .int a2)] [.int r71, .ref (gz (xG x) + 74)]
    obtain ⟨h72, o73⟩ := y69
    have h74 := Ch.tr h0 h72 (by decide) (by decide)
    refine pfX6_32 C (kS sC h74 kc_74) dX6_pass_17 (fun w75 e76 => ?_)
    have h77 := Ch.putF h74 e76 (by decide)
    have o78 := Inv.putk o73 e76 (by decide)
    refine r_iconst (v := 0) C dX6_pass_20 (by decide) ?_
    refine r_istore_n [(3, .int 0), (0, .ref (gz (xG x) + 74)), (1, .int a1), (2, .int a2)] C dX6_pass_21 (by decide) rfl ?_
    refine r_lv [1, 2, 3, 0] rfl ?_
    exact LP3 4294967296 0 w75 h77 o78 (by omega) (by omega)
set_option maxHeartbeats 4000000 in
set_option maxRecDepth 100000 in
theorem ctX6_pass_77 (l : Launch) (G : Gt) (w : Wv) (sC : Str KC XC w) (o0 : Inv RC w) (a1 : Int32) (a2 : Int32) : CtV l G yX6_pass cX6_pass 4 ({ frames := 3, cells := 0, slots := 0, locals := 77 } : Room) [.ref (gz G + 77), .int a1, .int a2] w (fun w' => Ch [25, 26, 27, 78, 79] [(77, 0), (77, 1)] w w' ∧ Inv RC w') := by
  refine enterV (by decide) (Nat.le_of_ble_eq_true rfl) ?_
  intro x el eG C hnm hret
  subst el; subst eG
  show V x 0 0 w 0 [(0, .ref (gz (xG x) + 77)), (1, .int a1), (2, .int a2)] []
  have h0 : Ch [25, 26, 27, 78, 79] [(77, 0), (77, 1)] w w := Ch.rf
  have qm1 : ((-1) : Int32).toInt = (-1) := by decide
  have q0 : (0 : Int32).toInt = 0 := by decide
  have q1 : (1 : Int32).toInt = 1 := by decide
  have LP3 : ∀ (f4 : Nat) (u2 : Int32) (w5 : Wv), Ch [25, 26, 27, 78, 79] [(77, 0), (77, 1)] w w5 → Inv RC w5 → (0 ≤ u2.toInt ∧ u2.toInt ≤ 2147483647) → 2147483647 - u2.toInt < f4 → V x 0 0 w5 22 [(0, .ref (gz (xG x) + 77)), (1, .int a1), (2, .int a2), (3, .int u2)] [] := by
    intro f4
    induction f4 with
    | zero => intro u2 w5 h6 o7 z8 z9; exfalso; omega
    | succ f4 ih10 =>
      intro u2 w5 h6 o7 z8 z9
      refine r_iload_n 3 C dX6_pass_22 rfl ?_
      refine r_aload_n 0 C dX6_pass_23 rfl ?_
      refine gfX6_18 3 C (kS sC h6 kc_77) (xS sC h6 xc_77_4) dX6_pass_24 ?_
      refine gfX6_39 (v := (wI w 3 3)) C (kS sC h6 kc_3) (h6.I (by decide) (by decide) rfl) dX6_pass_27 ?_
      have b11 := Inv.get o0 rt_3_3 (j := 3) (by decide) (by decide)
      have k13 := i_rng u2
      refine r_icmp_ge 78 C dX6_pass_30 (by decide) (fun c12 => ?_) (fun c12 => ?_)
      · have c12' := i_le c12
        refine r_aload_n 0 C dX6_pass_78 rfl ?_
        refine r_dup C dX6_pass_79 rfl ?_
        refine gfX6_33 (v := (wI w5 77 1)) C (kS sC h6 kc_77) rfl dX6_pass_80 ?_
        refine r_iconst (v := 1) C dX6_pass_83 (by decide) ?_
        refine r_iadd C dX6_pass_84 (fun v14 e15 => ?_)
        refine pfX6_33 C (kS sC h6 kc_77) dX6_pass_85 (fun w16 e17 => ?_)
        have h18 := Ch.putF h6 e17 (by decide)
        have o19 := Inv.putk o7 e17 (by decide)
        exact hret _ _ _ dX6_pass_88 ⟨h18, o19⟩
      · have c12' := i_nle c12
        refine r_iload_n 2 C dX6_pass_33 rfl ?_
        refine r_iconst (v := (-1)) C dX6_pass_34 (by decide) ?_
        refine r_icmp_eq 57 C dX6_pass_35 (by decide) (fun c20 => ?_) (fun c20 => ?_)
        · have c20' := i_eq c20
          refine r_aload_n 0 C dX6_pass_57 rfl ?_
          refine gfX6_15 79 C (kS sC h6 kc_77) (xS sC h6 xc_77_3) dX6_pass_58 ?_
          refine r_iload_n 3 C dX6_pass_61 rfl ?_
          refine r_iald C (kS sC h6 kc_79) (vin (by omega) (by omega)) dX6_pass_62 ?_
          generalize (wI w5 79 (u2).toNatClampNeg) = v21
          refine r_iconst (v := (-1)) C dX6_pass_63 (by decide) ?_
          refine r_icmp_eq 72 C dX6_pass_64 (by decide) (fun c22 => ?_) (fun c22 => ?_)
          · have c22' := i_eq c22
            obtain ⟨i23, e24⟩ : ∃ z : Int32, u2 + Int32.ofInt 1 = z := ⟨_, rfl⟩
            have i23' := iinc_ok e24 (by decide) (by omega) (by omega)
            refine r_iinc [(3, .int i23), (0, .ref (gz (xG x) + 77)), (1, .int a1), (2, .int a2)] 3 C dX6_pass_72 rfl e24 (by decide) rfl ?_
            refine r_goto 22 C dX6_pass_75 (by decide) ?_
            refine r_lv [1, 2, 3, 0] rfl ?_
            exact ih10 i23 w5 h6 o7 (by omega) (by omega)
          · have c22' := i_ne c22
            refine r_aload_n 0 C dX6_pass_67 rfl ?_
            refine r_iload_n 3 C dX6_pass_68 rfl ?_
            refine callVV C cwX6_59_V (ctX6_lead_77 _ _ w5 (sS sC h6) o7 u2 (by omega)) (by decide) (kS sC h6 kc_77) rfl rfl rfl (Nat.le_of_ble_eq_true rfl) (by decide) dX6_pass_69 (fun w26 y25 => ?_)
            show V x 0 0 w26 72 [(0, .ref (gz (xG x) + 77)), (1, .int a1), (2, .int a2), (3, .int u2)] []
            obtain ⟨h28, o29⟩ := y25
            have h30 := Ch.tr h6 h28 (by decide) (by decide)
            obtain ⟨i31, e32⟩ : ∃ z : Int32, u2 + Int32.ofInt 1 = z := ⟨_, rfl⟩
            have i31' := iinc_ok e32 (by decide) (by omega) (by omega)
            refine r_iinc [(3, .int i31), (0, .ref (gz (xG x) + 77)), (1, .int a1), (2, .int a2)] 3 C dX6_pass_72 rfl e32 (by decide) rfl ?_
            refine r_goto 22 C dX6_pass_75 (by decide) ?_
            refine r_lv [1, 2, 3, 0] rfl ?_
            exact ih10 i31 w26 h30 o29 (by omega) (by omega)
        · have c20' := i_ne c20
          refine r_aload_n 0 C dX6_pass_38 rfl ?_
          refine r_iload_n 3 C dX6_pass_39 rfl ?_
          refine r_iload_n 2 C dX6_pass_40 rfl ?_
          refine callVI C cwX6_55_V (ctX6_hears_77 _ _ w5 (sS sC h6) o7 u2 a2 ) (by decide) (kS sC h6 kc_77) rfl rfl rfl (Nat.le_of_ble_eq_true rfl) (by decide) dX6_pass_41 (fun r35 w34 y33 => ?_)
          show V x 0 0 w34 44 [(0, .ref (gz (xG x) + 77)), (1, .int a1), (2, .int a2), (3, .int u2)] [.int r35]
          obtain ⟨h36, o37, g38⟩ := y33
          have h39 := Ch.tr h6 h36 (by decide) (by decide)
          refine r_if_eq 57 C dX6_pass_44 (by decide) (fun c40 => ?_) (fun c40 => ?_)
          · have c40' := i_eq c40
            refine r_aload_n 0 C dX6_pass_57 rfl ?_
            refine gfX6_15 79 C (kS sC h39 kc_77) (xS sC h39 xc_77_3) dX6_pass_58 ?_
            refine r_iload_n 3 C dX6_pass_61 rfl ?_
            refine r_iald C (kS sC h39 kc_79) (vin (by omega) (by omega)) dX6_pass_62 ?_
            generalize (wI w34 79 (u2).toNatClampNeg) = v41
            refine r_iconst (v := (-1)) C dX6_pass_63 (by decide) ?_
            refine r_icmp_eq 72 C dX6_pass_64 (by decide) (fun c42 => ?_) (fun c42 => ?_)
            · have c42' := i_eq c42
              obtain ⟨i43, e44⟩ : ∃ z : Int32, u2 + Int32.ofInt 1 = z := ⟨_, rfl⟩
              have i43' := iinc_ok e44 (by decide) (by omega) (by omega)
              refine r_iinc [(3, .int i43), (0, .ref (gz (xG x) + 77)), (1, .int a1), (2, .int a2)] 3 C dX6_pass_72 rfl e44 (by decide) rfl ?_
              refine r_goto 22 C dX6_pass_75 (by decide) ?_
              refine r_lv [1, 2, 3, 0] rfl ?_
              exact ih10 i43 w34 h39 o37 (by omega) (by omega)
            · have c42' := i_ne c42
              refine r_aload_n 0 C dX6_pass_67 rfl ?_
              refine r_iload_n 3 C dX6_pass_68 rfl ?_
              refine callVV C cwX6_59_V (ctX6_lead_77 _ _ w34 (sS sC h39) o37 u2 (by omega)) (by decide) (kS sC h39 kc_77) rfl rfl rfl (Nat.le_of_ble_eq_true rfl) (by decide) dX6_pass_69 (fun w46 y45 => ?_)
              show V x 0 0 w46 72 [(0, .ref (gz (xG x) + 77)), (1, .int a1), (2, .int a2), (3, .int u2)] []
              obtain ⟨h48, o49⟩ := y45
              have h50 := Ch.tr h39 h48 (by decide) (by decide)
              obtain ⟨i51, e52⟩ : ∃ z : Int32, u2 + Int32.ofInt 1 = z := ⟨_, rfl⟩
              have i51' := iinc_ok e52 (by decide) (by omega) (by omega)
              refine r_iinc [(3, .int i51), (0, .ref (gz (xG x) + 77)), (1, .int a1), (2, .int a2)] 3 C dX6_pass_72 rfl e52 (by decide) rfl ?_
              refine r_goto 22 C dX6_pass_75 (by decide) ?_
              refine r_lv [1, 2, 3, 0] rfl ?_
              exact ih10 i51 w46 h50 o49 (by omega) (by omega)
          · have c40' := i_ne c40
            refine r_aload_n 0 C dX6_pass_47 rfl ?_
            refine gfX6_15 79 C (kS sC h39 kc_77) (xS sC h39 xc_77_3) dX6_pass_48 ?_
            refine r_iload_n 3 C dX6_pass_51 rfl ?_
            refine r_aload_n 0 C dX6_pass_52 rfl ?_
            refine gfX6_32 (v := (wI w5 77 0)) C (kS sC h39 kc_77) (h36.I (by decide) (by decide) rfl) dX6_pass_53 ?_
            refine r_iast C (kS sC h39 kc_79) (vin (by omega) (by omega)) dX6_pass_56 (fun w53 e54 => ?_)
            have h55 := Ch.putS h39 e54 (by decide)
            have o56 := Inv.put0 o37 e54 (by decide)
            refine r_aload_n 0 C dX6_pass_57 rfl ?_
            refine gfX6_15 79 C (kS sC h55 kc_77) (xS sC h55 xc_77_3) dX6_pass_58 ?_
            refine r_iload_n 3 C dX6_pass_61 rfl ?_
            refine r_iald C (kS sC h55 kc_79) (vin (by omega) (by omega)) dX6_pass_62 ?_
            generalize (wI w53 79 (u2).toNatClampNeg) = v57
            refine r_iconst (v := (-1)) C dX6_pass_63 (by decide) ?_
            refine r_icmp_eq 72 C dX6_pass_64 (by decide) (fun c58 => ?_) (fun c58 => ?_)
            · have c58' := i_eq c58
              obtain ⟨i59, e60⟩ : ∃ z : Int32, u2 + Int32.ofInt 1 = z := ⟨_, rfl⟩
              have i59' := iinc_ok e60 (by decide) (by omega) (by omega)
              refine r_iinc [(3, .int i59), (0, .ref (gz (xG x) + 77)), (1, .int a1), (2, .int a2)] 3 C dX6_pass_72 rfl e60 (by decide) rfl ?_
              refine r_goto 22 C dX6_pass_75 (by decide) ?_
              refine r_lv [1, 2, 3, 0] rfl ?_
              exact ih10 i59 w53 h55 o56 (by omega) (by omega)
            · have c58' := i_ne c58
              refine r_aload_n 0 C dX6_pass_67 rfl ?_
              refine r_iload_n 3 C dX6_pass_68 rfl ?_
              refine callVV C cwX6_59_V (ctX6_lead_77 _ _ w53 (sS sC h55) o56 u2 (by omega)) (by decide) (kS sC h55 kc_77) rfl rfl rfl (Nat.le_of_ble_eq_true rfl) (by decide) dX6_pass_69 (fun w62 y61 => ?_)
              show V x 0 0 w62 72 [(0, .ref (gz (xG x) + 77)), (1, .int a1), (2, .int a2), (3, .int u2)] []
              obtain ⟨h64, o65⟩ := y61
              have h66 := Ch.tr h55 h64 (by decide) (by decide)
              obtain ⟨i67, e68⟩ : ∃ z : Int32, u2 + Int32.ofInt 1 = z := ⟨_, rfl⟩
              have i67' := iinc_ok e68 (by decide) (by omega) (by omega)
              refine r_iinc [(3, .int i67), (0, .ref (gz (xG x) + 77)), (1, .int a1), (2, .int a2)] 3 C dX6_pass_72 rfl e68 (by decide) rfl ?_
              refine r_goto 22 C dX6_pass_75 (by decide) ?_
              refine r_lv [1, 2, 3, 0] rfl ?_
              exact ih10 i67 w62 h66 o65 (by omega) (by omega)
  refine r_iload_n 1 C dX6_pass_0 rfl ?_
  refine r_if_eq 20 C dX6_pass_1 (by decide) (fun c1 => ?_) (fun c1 => ?_)
  · have c1' := i_eq c1
    refine r_iconst (v := 0) C dX6_pass_20 (by decide) ?_
    refine r_istore_n [(3, .int 0), (0, .ref (gz (xG x) + 77)), (1, .int a1), (2, .int a2)] C dX6_pass_21 (by decide) rfl ?_
    refine r_lv [1, 2, 3, 0] rfl ?_
    exact LP3 4294967296 0 w h0 o0 (by omega) (by omega)
  · have c1' := i_ne c1
    refine r_aload_n 0 C dX6_pass_4 rfl ?_
    refine r_aload_n 0 C dX6_pass_5 rfl ?_
    refine gfX6_22 21 C (kS sC h0 kc_77) (xS sC h0 xc_77_5) dX6_pass_6 ?_
    refine r_aload_n 0 C dX6_pass_9 rfl ?_
    refine gfX6_32 (v := (wI w 77 0)) C (kS sC h0 kc_77) rfl dX6_pass_10 ?_
    refine r_iload_n 1 C dX6_pass_13 rfl ?_
    refine callVI C cwX6_47_V (ctX1_beside_21 _ _ w (sS sC h0) o0 (wI w 77 0) a1 ) (by decide) (kS sC h0 kc_21) rfl rfl rfl (Nat.le_of_ble_eq_true rfl) (by decide) dX6_pass_14 (fun r71 w70 y69 => ?_)
    show V x 0 0 w70 17 [(0, .ref (gz (xG x) + 77)), (1, .int a1), (2, .int a2)] [.int r71, .ref (gz (xG x) + 77)]
    obtain ⟨h72, o73⟩ := y69
    have h74 := Ch.tr h0 h72 (by decide) (by decide)
    refine pfX6_32 C (kS sC h74 kc_77) dX6_pass_17 (fun w75 e76 => ?_)
    have h77 := Ch.putF h74 e76 (by decide)
    have o78 := Inv.putk o73 e76 (by decide)
    refine r_iconst (v := 0) C dX6_pass_20 (by decide) ?_
    refine r_istore_n [(3, .int 0), (0, .ref (gz (xG x) + 77)), (1, .int a1), (2, .int a2)] C dX6_pass_21 (by decide) rfl ?_
    refine r_lv [1, 2, 3, 0] rfl ?_
    exact LP3 4294967296 0 w75 h77 o78 (by omega) (by omega)
set_option maxHeartbeats 4000000 in
set_option maxRecDepth 100000 in
theorem ctX6_pass_88 (l : Launch) (G : Gt) (w : Wv) (sC : Str KC XC w) (o0 : Inv RC w) (a1 : Int32) (a2 : Int32) : CtV l G yX6_pass cX6_pass 4 ({ frames := 3, cells := 0, slots := 0, locals := 77 } : Room) [.ref (gz G + 88), .int a1, .int a2] w (fun w' => Ch [25, 26, 27, 89, 90] [(88, 0), (88, 1)] w w' ∧ Inv RC w') := by
  refine enterV (by decide) (Nat.le_of_ble_eq_true rfl) ?_
  intro x el eG C hnm hret
  subst el; subst eG
  show V x 0 0 w 0 [(0, .ref (gz (xG x) + 88)), (1, .int a1), (2, .int a2)] []
  have h0 : Ch [25, 26, 27, 89, 90] [(88, 0), (88, 1)] w w := Ch.rf
  have qm1 : ((-1) : Int32).toInt = (-1) := by decide
  have q0 : (0 : Int32).toInt = 0 := by decide
  have q1 : (1 : Int32).toInt = 1 := by decide
  have LP3 : ∀ (f4 : Nat) (u2 : Int32) (w5 : Wv), Ch [25, 26, 27, 89, 90] [(88, 0), (88, 1)] w w5 → Inv RC w5 → (0 ≤ u2.toInt ∧ u2.toInt ≤ 2147483647) → 2147483647 - u2.toInt < f4 → V x 0 0 w5 22 [(0, .ref (gz (xG x) + 88)), (1, .int a1), (2, .int a2), (3, .int u2)] [] := by
    intro f4
    induction f4 with
    | zero => intro u2 w5 h6 o7 z8 z9; exfalso; omega
    | succ f4 ih10 =>
      intro u2 w5 h6 o7 z8 z9
      refine r_iload_n 3 C dX6_pass_22 rfl ?_
      refine r_aload_n 0 C dX6_pass_23 rfl ?_
      refine gfX6_18 3 C (kS sC h6 kc_88) (xS sC h6 xc_88_4) dX6_pass_24 ?_
      refine gfX6_39 (v := (wI w 3 3)) C (kS sC h6 kc_3) (h6.I (by decide) (by decide) rfl) dX6_pass_27 ?_
      have b11 := Inv.get o0 rt_3_3 (j := 3) (by decide) (by decide)
      have k13 := i_rng u2
      refine r_icmp_ge 78 C dX6_pass_30 (by decide) (fun c12 => ?_) (fun c12 => ?_)
      · have c12' := i_le c12
        refine r_aload_n 0 C dX6_pass_78 rfl ?_
        refine r_dup C dX6_pass_79 rfl ?_
        refine gfX6_33 (v := (wI w5 88 1)) C (kS sC h6 kc_88) rfl dX6_pass_80 ?_
        refine r_iconst (v := 1) C dX6_pass_83 (by decide) ?_
        refine r_iadd C dX6_pass_84 (fun v14 e15 => ?_)
        refine pfX6_33 C (kS sC h6 kc_88) dX6_pass_85 (fun w16 e17 => ?_)
        have h18 := Ch.putF h6 e17 (by decide)
        have o19 := Inv.putk o7 e17 (by decide)
        exact hret _ _ _ dX6_pass_88 ⟨h18, o19⟩
      · have c12' := i_nle c12
        refine r_iload_n 2 C dX6_pass_33 rfl ?_
        refine r_iconst (v := (-1)) C dX6_pass_34 (by decide) ?_
        refine r_icmp_eq 57 C dX6_pass_35 (by decide) (fun c20 => ?_) (fun c20 => ?_)
        · have c20' := i_eq c20
          refine r_aload_n 0 C dX6_pass_57 rfl ?_
          refine gfX6_15 90 C (kS sC h6 kc_88) (xS sC h6 xc_88_3) dX6_pass_58 ?_
          refine r_iload_n 3 C dX6_pass_61 rfl ?_
          refine r_iald C (kS sC h6 kc_90) (vin (by omega) (by omega)) dX6_pass_62 ?_
          generalize (wI w5 90 (u2).toNatClampNeg) = v21
          refine r_iconst (v := (-1)) C dX6_pass_63 (by decide) ?_
          refine r_icmp_eq 72 C dX6_pass_64 (by decide) (fun c22 => ?_) (fun c22 => ?_)
          · have c22' := i_eq c22
            obtain ⟨i23, e24⟩ : ∃ z : Int32, u2 + Int32.ofInt 1 = z := ⟨_, rfl⟩
            have i23' := iinc_ok e24 (by decide) (by omega) (by omega)
            refine r_iinc [(3, .int i23), (0, .ref (gz (xG x) + 88)), (1, .int a1), (2, .int a2)] 3 C dX6_pass_72 rfl e24 (by decide) rfl ?_
            refine r_goto 22 C dX6_pass_75 (by decide) ?_
            refine r_lv [1, 2, 3, 0] rfl ?_
            exact ih10 i23 w5 h6 o7 (by omega) (by omega)
          · have c22' := i_ne c22
            refine r_aload_n 0 C dX6_pass_67 rfl ?_
            refine r_iload_n 3 C dX6_pass_68 rfl ?_
            refine callVV C cwX6_59_V (ctX6_lead_88 _ _ w5 (sS sC h6) o7 u2 (by omega)) (by decide) (kS sC h6 kc_88) rfl rfl rfl (Nat.le_of_ble_eq_true rfl) (by decide) dX6_pass_69 (fun w26 y25 => ?_)
            show V x 0 0 w26 72 [(0, .ref (gz (xG x) + 88)), (1, .int a1), (2, .int a2), (3, .int u2)] []
            obtain ⟨h28, o29⟩ := y25
            have h30 := Ch.tr h6 h28 (by decide) (by decide)
            obtain ⟨i31, e32⟩ : ∃ z : Int32, u2 + Int32.ofInt 1 = z := ⟨_, rfl⟩
            have i31' := iinc_ok e32 (by decide) (by omega) (by omega)
            refine r_iinc [(3, .int i31), (0, .ref (gz (xG x) + 88)), (1, .int a1), (2, .int a2)] 3 C dX6_pass_72 rfl e32 (by decide) rfl ?_
            refine r_goto 22 C dX6_pass_75 (by decide) ?_
            refine r_lv [1, 2, 3, 0] rfl ?_
            exact ih10 i31 w26 h30 o29 (by omega) (by omega)
        · have c20' := i_ne c20
          refine r_aload_n 0 C dX6_pass_38 rfl ?_
          refine r_iload_n 3 C dX6_pass_39 rfl ?_
          refine r_iload_n 2 C dX6_pass_40 rfl ?_
          refine callVI C cwX6_55_V (ctX6_hears_88 _ _ w5 (sS sC h6) o7 u2 a2 ) (by decide) (kS sC h6 kc_88) rfl rfl rfl (Nat.le_of_ble_eq_true rfl) (by decide) dX6_pass_41 (fun r35 w34 y33 => ?_)
          show V x 0 0 w34 44 [(0, .ref (gz (xG x) + 88)), (1, .int a1), (2, .int a2), (3, .int u2)] [.int r35]
          obtain ⟨h36, o37, g38⟩ := y33
          have h39 := Ch.tr h6 h36 (by decide) (by decide)
          refine r_if_eq 57 C dX6_pass_44 (by decide) (fun c40 => ?_) (fun c40 => ?_)
          · have c40' := i_eq c40
            refine r_aload_n 0 C dX6_pass_57 rfl ?_
            refine gfX6_15 90 C (kS sC h39 kc_88) (xS sC h39 xc_88_3) dX6_pass_58 ?_
            refine r_iload_n 3 C dX6_pass_61 rfl ?_
            refine r_iald C (kS sC h39 kc_90) (vin (by omega) (by omega)) dX6_pass_62 ?_
            generalize (wI w34 90 (u2).toNatClampNeg) = v41
            refine r_iconst (v := (-1)) C dX6_pass_63 (by decide) ?_
            refine r_icmp_eq 72 C dX6_pass_64 (by decide) (fun c42 => ?_) (fun c42 => ?_)
            · have c42' := i_eq c42
              obtain ⟨i43, e44⟩ : ∃ z : Int32, u2 + Int32.ofInt 1 = z := ⟨_, rfl⟩
              have i43' := iinc_ok e44 (by decide) (by omega) (by omega)
              refine r_iinc [(3, .int i43), (0, .ref (gz (xG x) + 88)), (1, .int a1), (2, .int a2)] 3 C dX6_pass_72 rfl e44 (by decide) rfl ?_
              refine r_goto 22 C dX6_pass_75 (by decide) ?_
              refine r_lv [1, 2, 3, 0] rfl ?_
              exact ih10 i43 w34 h39 o37 (by omega) (by omega)
            · have c42' := i_ne c42
              refine r_aload_n 0 C dX6_pass_67 rfl ?_
              refine r_iload_n 3 C dX6_pass_68 rfl ?_
              refine callVV C cwX6_59_V (ctX6_lead_88 _ _ w34 (sS sC h39) o37 u2 (by omega)) (by decide) (kS sC h39 kc_88) rfl rfl rfl (Nat.le_of_ble_eq_true rfl) (by decide) dX6_pass_69 (fun w46 y45 => ?_)
              show V x 0 0 w46 72 [(0, .ref (gz (xG x) + 88)), (1, .int a1), (2, .int a2), (3, .int u2)] []
              obtain ⟨h48, o49⟩ := y45
              have h50 := Ch.tr h39 h48 (by decide) (by decide)
              obtain ⟨i51, e52⟩ : ∃ z : Int32, u2 + Int32.ofInt 1 = z := ⟨_, rfl⟩
              have i51' := iinc_ok e52 (by decide) (by omega) (by omega)
              refine r_iinc [(3, .int i51), (0, .ref (gz (xG x) + 88)), (1, .int a1), (2, .int a2)] 3 C dX6_pass_72 rfl e52 (by decide) rfl ?_
              refine r_goto 22 C dX6_pass_75 (by decide) ?_
              refine r_lv [1, 2, 3, 0] rfl ?_
              exact ih10 i51 w46 h50 o49 (by omega) (by omega)
          · have c40' := i_ne c40
            refine r_aload_n 0 C dX6_pass_47 rfl ?_
            refine gfX6_15 90 C (kS sC h39 kc_88) (xS sC h39 xc_88_3) dX6_pass_48 ?_
            refine r_iload_n 3 C dX6_pass_51 rfl ?_
            refine r_aload_n 0 C dX6_pass_52 rfl ?_
            refine gfX6_32 (v := (wI w5 88 0)) C (kS sC h39 kc_88) (h36.I (by decide) (by decide) rfl) dX6_pass_53 ?_
            refine r_iast C (kS sC h39 kc_90) (vin (by omega) (by omega)) dX6_pass_56 (fun w53 e54 => ?_)
            have h55 := Ch.putS h39 e54 (by decide)
            have o56 := Inv.put0 o37 e54 (by decide)
            refine r_aload_n 0 C dX6_pass_57 rfl ?_
            refine gfX6_15 90 C (kS sC h55 kc_88) (xS sC h55 xc_88_3) dX6_pass_58 ?_
            refine r_iload_n 3 C dX6_pass_61 rfl ?_
            refine r_iald C (kS sC h55 kc_90) (vin (by omega) (by omega)) dX6_pass_62 ?_
            generalize (wI w53 90 (u2).toNatClampNeg) = v57
            refine r_iconst (v := (-1)) C dX6_pass_63 (by decide) ?_
            refine r_icmp_eq 72 C dX6_pass_64 (by decide) (fun c58 => ?_) (fun c58 => ?_)
            · have c58' := i_eq c58
              obtain ⟨i59, e60⟩ : ∃ z : Int32, u2 + Int32.ofInt 1 = z := ⟨_, rfl⟩
              have i59' := iinc_ok e60 (by decide) (by omega) (by omega)
              refine r_iinc [(3, .int i59), (0, .ref (gz (xG x) + 88)), (1, .int a1), (2, .int a2)] 3 C dX6_pass_72 rfl e60 (by decide) rfl ?_
              refine r_goto 22 C dX6_pass_75 (by decide) ?_
              refine r_lv [1, 2, 3, 0] rfl ?_
              exact ih10 i59 w53 h55 o56 (by omega) (by omega)
            · have c58' := i_ne c58
              refine r_aload_n 0 C dX6_pass_67 rfl ?_
              refine r_iload_n 3 C dX6_pass_68 rfl ?_
              refine callVV C cwX6_59_V (ctX6_lead_88 _ _ w53 (sS sC h55) o56 u2 (by omega)) (by decide) (kS sC h55 kc_88) rfl rfl rfl (Nat.le_of_ble_eq_true rfl) (by decide) dX6_pass_69 (fun w62 y61 => ?_)
              show V x 0 0 w62 72 [(0, .ref (gz (xG x) + 88)), (1, .int a1), (2, .int a2), (3, .int u2)] []
              obtain ⟨h64, o65⟩ := y61
              have h66 := Ch.tr h55 h64 (by decide) (by decide)
              obtain ⟨i67, e68⟩ : ∃ z : Int32, u2 + Int32.ofInt 1 = z := ⟨_, rfl⟩
              have i67' := iinc_ok e68 (by decide) (by omega) (by omega)
              refine r_iinc [(3, .int i67), (0, .ref (gz (xG x) + 88)), (1, .int a1), (2, .int a2)] 3 C dX6_pass_72 rfl e68 (by decide) rfl ?_
              refine r_goto 22 C dX6_pass_75 (by decide) ?_
              refine r_lv [1, 2, 3, 0] rfl ?_
              exact ih10 i67 w62 h66 o65 (by omega) (by omega)
  refine r_iload_n 1 C dX6_pass_0 rfl ?_
  refine r_if_eq 20 C dX6_pass_1 (by decide) (fun c1 => ?_) (fun c1 => ?_)
  · have c1' := i_eq c1
    refine r_iconst (v := 0) C dX6_pass_20 (by decide) ?_
    refine r_istore_n [(3, .int 0), (0, .ref (gz (xG x) + 88)), (1, .int a1), (2, .int a2)] C dX6_pass_21 (by decide) rfl ?_
    refine r_lv [1, 2, 3, 0] rfl ?_
    exact LP3 4294967296 0 w h0 o0 (by omega) (by omega)
  · have c1' := i_ne c1
    refine r_aload_n 0 C dX6_pass_4 rfl ?_
    refine r_aload_n 0 C dX6_pass_5 rfl ?_
    refine gfX6_22 21 C (kS sC h0 kc_88) (xS sC h0 xc_88_5) dX6_pass_6 ?_
    refine r_aload_n 0 C dX6_pass_9 rfl ?_
    refine gfX6_32 (v := (wI w 88 0)) C (kS sC h0 kc_88) rfl dX6_pass_10 ?_
    refine r_iload_n 1 C dX6_pass_13 rfl ?_
    refine callVI C cwX6_47_V (ctX1_beside_21 _ _ w (sS sC h0) o0 (wI w 88 0) a1 ) (by decide) (kS sC h0 kc_21) rfl rfl rfl (Nat.le_of_ble_eq_true rfl) (by decide) dX6_pass_14 (fun r71 w70 y69 => ?_)
    show V x 0 0 w70 17 [(0, .ref (gz (xG x) + 88)), (1, .int a1), (2, .int a2)] [.int r71, .ref (gz (xG x) + 88)]
    obtain ⟨h72, o73⟩ := y69
    have h74 := Ch.tr h0 h72 (by decide) (by decide)
    refine pfX6_32 C (kS sC h74 kc_88) dX6_pass_17 (fun w75 e76 => ?_)
    have h77 := Ch.putF h74 e76 (by decide)
    have o78 := Inv.putk o73 e76 (by decide)
    refine r_iconst (v := 0) C dX6_pass_20 (by decide) ?_
    refine r_istore_n [(3, .int 0), (0, .ref (gz (xG x) + 88)), (1, .int a1), (2, .int a2)] C dX6_pass_21 (by decide) rfl ?_
    refine r_lv [1, 2, 3, 0] rfl ?_
    exact LP3 4294967296 0 w75 h77 o78 (by omega) (by omega)
set_option maxHeartbeats 4000000 in
set_option maxRecDepth 100000 in
theorem ctX6_pass_91 (l : Launch) (G : Gt) (w : Wv) (sC : Str KC XC w) (o0 : Inv RC w) (a1 : Int32) (a2 : Int32) : CtV l G yX6_pass cX6_pass 4 ({ frames := 3, cells := 0, slots := 0, locals := 77 } : Room) [.ref (gz G + 91), .int a1, .int a2] w (fun w' => Ch [25, 26, 27, 92, 93] [(91, 0), (91, 1)] w w' ∧ Inv RC w') := by
  refine enterV (by decide) (Nat.le_of_ble_eq_true rfl) ?_
  intro x el eG C hnm hret
  subst el; subst eG
  show V x 0 0 w 0 [(0, .ref (gz (xG x) + 91)), (1, .int a1), (2, .int a2)] []
  have h0 : Ch [25, 26, 27, 92, 93] [(91, 0), (91, 1)] w w := Ch.rf
  have qm1 : ((-1) : Int32).toInt = (-1) := by decide
  have q0 : (0 : Int32).toInt = 0 := by decide
  have q1 : (1 : Int32).toInt = 1 := by decide
  have LP3 : ∀ (f4 : Nat) (u2 : Int32) (w5 : Wv), Ch [25, 26, 27, 92, 93] [(91, 0), (91, 1)] w w5 → Inv RC w5 → (0 ≤ u2.toInt ∧ u2.toInt ≤ 2147483647) → 2147483647 - u2.toInt < f4 → V x 0 0 w5 22 [(0, .ref (gz (xG x) + 91)), (1, .int a1), (2, .int a2), (3, .int u2)] [] := by
    intro f4
    induction f4 with
    | zero => intro u2 w5 h6 o7 z8 z9; exfalso; omega
    | succ f4 ih10 =>
      intro u2 w5 h6 o7 z8 z9
      refine r_iload_n 3 C dX6_pass_22 rfl ?_
      refine r_aload_n 0 C dX6_pass_23 rfl ?_
      refine gfX6_18 3 C (kS sC h6 kc_91) (xS sC h6 xc_91_4) dX6_pass_24 ?_
      refine gfX6_39 (v := (wI w 3 3)) C (kS sC h6 kc_3) (h6.I (by decide) (by decide) rfl) dX6_pass_27 ?_
      have b11 := Inv.get o0 rt_3_3 (j := 3) (by decide) (by decide)
      have k13 := i_rng u2
      refine r_icmp_ge 78 C dX6_pass_30 (by decide) (fun c12 => ?_) (fun c12 => ?_)
      · have c12' := i_le c12
        refine r_aload_n 0 C dX6_pass_78 rfl ?_
        refine r_dup C dX6_pass_79 rfl ?_
        refine gfX6_33 (v := (wI w5 91 1)) C (kS sC h6 kc_91) rfl dX6_pass_80 ?_
        refine r_iconst (v := 1) C dX6_pass_83 (by decide) ?_
        refine r_iadd C dX6_pass_84 (fun v14 e15 => ?_)
        refine pfX6_33 C (kS sC h6 kc_91) dX6_pass_85 (fun w16 e17 => ?_)
        have h18 := Ch.putF h6 e17 (by decide)
        have o19 := Inv.putk o7 e17 (by decide)
        exact hret _ _ _ dX6_pass_88 ⟨h18, o19⟩
      · have c12' := i_nle c12
        refine r_iload_n 2 C dX6_pass_33 rfl ?_
        refine r_iconst (v := (-1)) C dX6_pass_34 (by decide) ?_
        refine r_icmp_eq 57 C dX6_pass_35 (by decide) (fun c20 => ?_) (fun c20 => ?_)
        · have c20' := i_eq c20
          refine r_aload_n 0 C dX6_pass_57 rfl ?_
          refine gfX6_15 93 C (kS sC h6 kc_91) (xS sC h6 xc_91_3) dX6_pass_58 ?_
          refine r_iload_n 3 C dX6_pass_61 rfl ?_
          refine r_iald C (kS sC h6 kc_93) (vin (by omega) (by omega)) dX6_pass_62 ?_
          generalize (wI w5 93 (u2).toNatClampNeg) = v21
          refine r_iconst (v := (-1)) C dX6_pass_63 (by decide) ?_
          refine r_icmp_eq 72 C dX6_pass_64 (by decide) (fun c22 => ?_) (fun c22 => ?_)
          · have c22' := i_eq c22
            obtain ⟨i23, e24⟩ : ∃ z : Int32, u2 + Int32.ofInt 1 = z := ⟨_, rfl⟩
            have i23' := iinc_ok e24 (by decide) (by omega) (by omega)
            refine r_iinc [(3, .int i23), (0, .ref (gz (xG x) + 91)), (1, .int a1), (2, .int a2)] 3 C dX6_pass_72 rfl e24 (by decide) rfl ?_
            refine r_goto 22 C dX6_pass_75 (by decide) ?_
            refine r_lv [1, 2, 3, 0] rfl ?_
            exact ih10 i23 w5 h6 o7 (by omega) (by omega)
          · have c22' := i_ne c22
            refine r_aload_n 0 C dX6_pass_67 rfl ?_
            refine r_iload_n 3 C dX6_pass_68 rfl ?_
            refine callVV C cwX6_59_V (ctX6_lead_91 _ _ w5 (sS sC h6) o7 u2 (by omega)) (by decide) (kS sC h6 kc_91) rfl rfl rfl (Nat.le_of_ble_eq_true rfl) (by decide) dX6_pass_69 (fun w26 y25 => ?_)
            show V x 0 0 w26 72 [(0, .ref (gz (xG x) + 91)), (1, .int a1), (2, .int a2), (3, .int u2)] []
            obtain ⟨h28, o29⟩ := y25
            have h30 := Ch.tr h6 h28 (by decide) (by decide)
            obtain ⟨i31, e32⟩ : ∃ z : Int32, u2 + Int32.ofInt 1 = z := ⟨_, rfl⟩
            have i31' := iinc_ok e32 (by decide) (by omega) (by omega)
            refine r_iinc [(3, .int i31), (0, .ref (gz (xG x) + 91)), (1, .int a1), (2, .int a2)] 3 C dX6_pass_72 rfl e32 (by decide) rfl ?_
            refine r_goto 22 C dX6_pass_75 (by decide) ?_
            refine r_lv [1, 2, 3, 0] rfl ?_
            exact ih10 i31 w26 h30 o29 (by omega) (by omega)
        · have c20' := i_ne c20
          refine r_aload_n 0 C dX6_pass_38 rfl ?_
          refine r_iload_n 3 C dX6_pass_39 rfl ?_
          refine r_iload_n 2 C dX6_pass_40 rfl ?_
          refine callVI C cwX6_55_V (ctX6_hears_91 _ _ w5 (sS sC h6) o7 u2 a2 ) (by decide) (kS sC h6 kc_91) rfl rfl rfl (Nat.le_of_ble_eq_true rfl) (by decide) dX6_pass_41 (fun r35 w34 y33 => ?_)
          show V x 0 0 w34 44 [(0, .ref (gz (xG x) + 91)), (1, .int a1), (2, .int a2), (3, .int u2)] [.int r35]
          obtain ⟨h36, o37, g38⟩ := y33
          have h39 := Ch.tr h6 h36 (by decide) (by decide)
          refine r_if_eq 57 C dX6_pass_44 (by decide) (fun c40 => ?_) (fun c40 => ?_)
          · have c40' := i_eq c40
            refine r_aload_n 0 C dX6_pass_57 rfl ?_
            refine gfX6_15 93 C (kS sC h39 kc_91) (xS sC h39 xc_91_3) dX6_pass_58 ?_
            refine r_iload_n 3 C dX6_pass_61 rfl ?_
            refine r_iald C (kS sC h39 kc_93) (vin (by omega) (by omega)) dX6_pass_62 ?_
            generalize (wI w34 93 (u2).toNatClampNeg) = v41
            refine r_iconst (v := (-1)) C dX6_pass_63 (by decide) ?_
            refine r_icmp_eq 72 C dX6_pass_64 (by decide) (fun c42 => ?_) (fun c42 => ?_)
            · have c42' := i_eq c42
              obtain ⟨i43, e44⟩ : ∃ z : Int32, u2 + Int32.ofInt 1 = z := ⟨_, rfl⟩
              have i43' := iinc_ok e44 (by decide) (by omega) (by omega)
              refine r_iinc [(3, .int i43), (0, .ref (gz (xG x) + 91)), (1, .int a1), (2, .int a2)] 3 C dX6_pass_72 rfl e44 (by decide) rfl ?_
              refine r_goto 22 C dX6_pass_75 (by decide) ?_
              refine r_lv [1, 2, 3, 0] rfl ?_
              exact ih10 i43 w34 h39 o37 (by omega) (by omega)
            · have c42' := i_ne c42
              refine r_aload_n 0 C dX6_pass_67 rfl ?_
              refine r_iload_n 3 C dX6_pass_68 rfl ?_
              refine callVV C cwX6_59_V (ctX6_lead_91 _ _ w34 (sS sC h39) o37 u2 (by omega)) (by decide) (kS sC h39 kc_91) rfl rfl rfl (Nat.le_of_ble_eq_true rfl) (by decide) dX6_pass_69 (fun w46 y45 => ?_)
              show V x 0 0 w46 72 [(0, .ref (gz (xG x) + 91)), (1, .int a1), (2, .int a2), (3, .int u2)] []
              obtain ⟨h48, o49⟩ := y45
              have h50 := Ch.tr h39 h48 (by decide) (by decide)
              obtain ⟨i51, e52⟩ : ∃ z : Int32, u2 + Int32.ofInt 1 = z := ⟨_, rfl⟩
              have i51' := iinc_ok e52 (by decide) (by omega) (by omega)
              refine r_iinc [(3, .int i51), (0, .ref (gz (xG x) + 91)), (1, .int a1), (2, .int a2)] 3 C dX6_pass_72 rfl e52 (by decide) rfl ?_
              refine r_goto 22 C dX6_pass_75 (by decide) ?_
              refine r_lv [1, 2, 3, 0] rfl ?_
              exact ih10 i51 w46 h50 o49 (by omega) (by omega)
          · have c40' := i_ne c40
            refine r_aload_n 0 C dX6_pass_47 rfl ?_
            refine gfX6_15 93 C (kS sC h39 kc_91) (xS sC h39 xc_91_3) dX6_pass_48 ?_
            refine r_iload_n 3 C dX6_pass_51 rfl ?_
            refine r_aload_n 0 C dX6_pass_52 rfl ?_
            refine gfX6_32 (v := (wI w5 91 0)) C (kS sC h39 kc_91) (h36.I (by decide) (by decide) rfl) dX6_pass_53 ?_
            refine r_iast C (kS sC h39 kc_93) (vin (by omega) (by omega)) dX6_pass_56 (fun w53 e54 => ?_)
            have h55 := Ch.putS h39 e54 (by decide)
            have o56 := Inv.put0 o37 e54 (by decide)
            refine r_aload_n 0 C dX6_pass_57 rfl ?_
            refine gfX6_15 93 C (kS sC h55 kc_91) (xS sC h55 xc_91_3) dX6_pass_58 ?_
            refine r_iload_n 3 C dX6_pass_61 rfl ?_
            refine r_iald C (kS sC h55 kc_93) (vin (by omega) (by omega)) dX6_pass_62 ?_
            generalize (wI w53 93 (u2).toNatClampNeg) = v57
            refine r_iconst (v := (-1)) C dX6_pass_63 (by decide) ?_
            refine r_icmp_eq 72 C dX6_pass_64 (by decide) (fun c58 => ?_) (fun c58 => ?_)
            · have c58' := i_eq c58
              obtain ⟨i59, e60⟩ : ∃ z : Int32, u2 + Int32.ofInt 1 = z := ⟨_, rfl⟩
              have i59' := iinc_ok e60 (by decide) (by omega) (by omega)
              refine r_iinc [(3, .int i59), (0, .ref (gz (xG x) + 91)), (1, .int a1), (2, .int a2)] 3 C dX6_pass_72 rfl e60 (by decide) rfl ?_
              refine r_goto 22 C dX6_pass_75 (by decide) ?_
              refine r_lv [1, 2, 3, 0] rfl ?_
              exact ih10 i59 w53 h55 o56 (by omega) (by omega)
            · have c58' := i_ne c58
              refine r_aload_n 0 C dX6_pass_67 rfl ?_
              refine r_iload_n 3 C dX6_pass_68 rfl ?_
              refine callVV C cwX6_59_V (ctX6_lead_91 _ _ w53 (sS sC h55) o56 u2 (by omega)) (by decide) (kS sC h55 kc_91) rfl rfl rfl (Nat.le_of_ble_eq_true rfl) (by decide) dX6_pass_69 (fun w62 y61 => ?_)
              show V x 0 0 w62 72 [(0, .ref (gz (xG x) + 91)), (1, .int a1), (2, .int a2), (3, .int u2)] []
              obtain ⟨h64, o65⟩ := y61
              have h66 := Ch.tr h55 h64 (by decide) (by decide)
              obtain ⟨i67, e68⟩ : ∃ z : Int32, u2 + Int32.ofInt 1 = z := ⟨_, rfl⟩
              have i67' := iinc_ok e68 (by decide) (by omega) (by omega)
              refine r_iinc [(3, .int i67), (0, .ref (gz (xG x) + 91)), (1, .int a1), (2, .int a2)] 3 C dX6_pass_72 rfl e68 (by decide) rfl ?_
              refine r_goto 22 C dX6_pass_75 (by decide) ?_
              refine r_lv [1, 2, 3, 0] rfl ?_
              exact ih10 i67 w62 h66 o65 (by omega) (by omega)
  refine r_iload_n 1 C dX6_pass_0 rfl ?_
  refine r_if_eq 20 C dX6_pass_1 (by decide) (fun c1 => ?_) (fun c1 => ?_)
  · have c1' := i_eq c1
    refine r_iconst (v := 0) C dX6_pass_20 (by decide) ?_
    refine r_istore_n [(3, .int 0), (0, .ref (gz (xG x) + 91)), (1, .int a1), (2, .int a2)] C dX6_pass_21 (by decide) rfl ?_
    refine r_lv [1, 2, 3, 0] rfl ?_
    exact LP3 4294967296 0 w h0 o0 (by omega) (by omega)
  · have c1' := i_ne c1
    refine r_aload_n 0 C dX6_pass_4 rfl ?_
    refine r_aload_n 0 C dX6_pass_5 rfl ?_
    refine gfX6_22 21 C (kS sC h0 kc_91) (xS sC h0 xc_91_5) dX6_pass_6 ?_
    refine r_aload_n 0 C dX6_pass_9 rfl ?_
    refine gfX6_32 (v := (wI w 91 0)) C (kS sC h0 kc_91) rfl dX6_pass_10 ?_
    refine r_iload_n 1 C dX6_pass_13 rfl ?_
    refine callVI C cwX6_47_V (ctX1_beside_21 _ _ w (sS sC h0) o0 (wI w 91 0) a1 ) (by decide) (kS sC h0 kc_21) rfl rfl rfl (Nat.le_of_ble_eq_true rfl) (by decide) dX6_pass_14 (fun r71 w70 y69 => ?_)
    show V x 0 0 w70 17 [(0, .ref (gz (xG x) + 91)), (1, .int a1), (2, .int a2)] [.int r71, .ref (gz (xG x) + 91)]
    obtain ⟨h72, o73⟩ := y69
    have h74 := Ch.tr h0 h72 (by decide) (by decide)
    refine pfX6_32 C (kS sC h74 kc_91) dX6_pass_17 (fun w75 e76 => ?_)
    have h77 := Ch.putF h74 e76 (by decide)
    have o78 := Inv.putk o73 e76 (by decide)
    refine r_iconst (v := 0) C dX6_pass_20 (by decide) ?_
    refine r_istore_n [(3, .int 0), (0, .ref (gz (xG x) + 91)), (1, .int a1), (2, .int a2)] C dX6_pass_21 (by decide) rfl ?_
    refine r_lv [1, 2, 3, 0] rfl ?_
    exact LP3 4294967296 0 w75 h77 o78 (by omega) (by omega)
set_option maxHeartbeats 4000000 in
set_option maxRecDepth 100000 in
theorem ctX6_pass_94 (l : Launch) (G : Gt) (w : Wv) (sC : Str KC XC w) (o0 : Inv RC w) (a1 : Int32) (a2 : Int32) : CtV l G yX6_pass cX6_pass 4 ({ frames := 3, cells := 0, slots := 0, locals := 77 } : Room) [.ref (gz G + 94), .int a1, .int a2] w (fun w' => Ch [25, 26, 27, 95, 96] [(94, 0), (94, 1)] w w' ∧ Inv RC w') := by
  refine enterV (by decide) (Nat.le_of_ble_eq_true rfl) ?_
  intro x el eG C hnm hret
  subst el; subst eG
  show V x 0 0 w 0 [(0, .ref (gz (xG x) + 94)), (1, .int a1), (2, .int a2)] []
  have h0 : Ch [25, 26, 27, 95, 96] [(94, 0), (94, 1)] w w := Ch.rf
  have qm1 : ((-1) : Int32).toInt = (-1) := by decide
  have q0 : (0 : Int32).toInt = 0 := by decide
  have q1 : (1 : Int32).toInt = 1 := by decide
  have LP3 : ∀ (f4 : Nat) (u2 : Int32) (w5 : Wv), Ch [25, 26, 27, 95, 96] [(94, 0), (94, 1)] w w5 → Inv RC w5 → (0 ≤ u2.toInt ∧ u2.toInt ≤ 2147483647) → 2147483647 - u2.toInt < f4 → V x 0 0 w5 22 [(0, .ref (gz (xG x) + 94)), (1, .int a1), (2, .int a2), (3, .int u2)] [] := by
    intro f4
    induction f4 with
    | zero => intro u2 w5 h6 o7 z8 z9; exfalso; omega
    | succ f4 ih10 =>
      intro u2 w5 h6 o7 z8 z9
      refine r_iload_n 3 C dX6_pass_22 rfl ?_
      refine r_aload_n 0 C dX6_pass_23 rfl ?_
      refine gfX6_18 3 C (kS sC h6 kc_94) (xS sC h6 xc_94_4) dX6_pass_24 ?_
      refine gfX6_39 (v := (wI w 3 3)) C (kS sC h6 kc_3) (h6.I (by decide) (by decide) rfl) dX6_pass_27 ?_
      have b11 := Inv.get o0 rt_3_3 (j := 3) (by decide) (by decide)
      have k13 := i_rng u2
      refine r_icmp_ge 78 C dX6_pass_30 (by decide) (fun c12 => ?_) (fun c12 => ?_)
      · have c12' := i_le c12
        refine r_aload_n 0 C dX6_pass_78 rfl ?_
        refine r_dup C dX6_pass_79 rfl ?_
        refine gfX6_33 (v := (wI w5 94 1)) C (kS sC h6 kc_94) rfl dX6_pass_80 ?_
        refine r_iconst (v := 1) C dX6_pass_83 (by decide) ?_
        refine r_iadd C dX6_pass_84 (fun v14 e15 => ?_)
        refine pfX6_33 C (kS sC h6 kc_94) dX6_pass_85 (fun w16 e17 => ?_)
        have h18 := Ch.putF h6 e17 (by decide)
        have o19 := Inv.putk o7 e17 (by decide)
        exact hret _ _ _ dX6_pass_88 ⟨h18, o19⟩
      · have c12' := i_nle c12
        refine r_iload_n 2 C dX6_pass_33 rfl ?_
        refine r_iconst (v := (-1)) C dX6_pass_34 (by decide) ?_
        refine r_icmp_eq 57 C dX6_pass_35 (by decide) (fun c20 => ?_) (fun c20 => ?_)
        · have c20' := i_eq c20
          refine r_aload_n 0 C dX6_pass_57 rfl ?_
          refine gfX6_15 96 C (kS sC h6 kc_94) (xS sC h6 xc_94_3) dX6_pass_58 ?_
          refine r_iload_n 3 C dX6_pass_61 rfl ?_
          refine r_iald C (kS sC h6 kc_96) (vin (by omega) (by omega)) dX6_pass_62 ?_
          generalize (wI w5 96 (u2).toNatClampNeg) = v21
          refine r_iconst (v := (-1)) C dX6_pass_63 (by decide) ?_
          refine r_icmp_eq 72 C dX6_pass_64 (by decide) (fun c22 => ?_) (fun c22 => ?_)
          · have c22' := i_eq c22
            obtain ⟨i23, e24⟩ : ∃ z : Int32, u2 + Int32.ofInt 1 = z := ⟨_, rfl⟩
            have i23' := iinc_ok e24 (by decide) (by omega) (by omega)
            refine r_iinc [(3, .int i23), (0, .ref (gz (xG x) + 94)), (1, .int a1), (2, .int a2)] 3 C dX6_pass_72 rfl e24 (by decide) rfl ?_
            refine r_goto 22 C dX6_pass_75 (by decide) ?_
            refine r_lv [1, 2, 3, 0] rfl ?_
            exact ih10 i23 w5 h6 o7 (by omega) (by omega)
          · have c22' := i_ne c22
            refine r_aload_n 0 C dX6_pass_67 rfl ?_
            refine r_iload_n 3 C dX6_pass_68 rfl ?_
            refine callVV C cwX6_59_V (ctX6_lead_94 _ _ w5 (sS sC h6) o7 u2 (by omega)) (by decide) (kS sC h6 kc_94) rfl rfl rfl (Nat.le_of_ble_eq_true rfl) (by decide) dX6_pass_69 (fun w26 y25 => ?_)
            show V x 0 0 w26 72 [(0, .ref (gz (xG x) + 94)), (1, .int a1), (2, .int a2), (3, .int u2)] []
            obtain ⟨h28, o29⟩ := y25
            have h30 := Ch.tr h6 h28 (by decide) (by decide)
            obtain ⟨i31, e32⟩ : ∃ z : Int32, u2 + Int32.ofInt 1 = z := ⟨_, rfl⟩
            have i31' := iinc_ok e32 (by decide) (by omega) (by omega)
            refine r_iinc [(3, .int i31), (0, .ref (gz (xG x) + 94)), (1, .int a1), (2, .int a2)] 3 C dX6_pass_72 rfl e32 (by decide) rfl ?_
            refine r_goto 22 C dX6_pass_75 (by decide) ?_
            refine r_lv [1, 2, 3, 0] rfl ?_
            exact ih10 i31 w26 h30 o29 (by omega) (by omega)
        · have c20' := i_ne c20
          refine r_aload_n 0 C dX6_pass_38 rfl ?_
          refine r_iload_n 3 C dX6_pass_39 rfl ?_
          refine r_iload_n 2 C dX6_pass_40 rfl ?_
          refine callVI C cwX6_55_V (ctX6_hears_94 _ _ w5 (sS sC h6) o7 u2 a2 ) (by decide) (kS sC h6 kc_94) rfl rfl rfl (Nat.le_of_ble_eq_true rfl) (by decide) dX6_pass_41 (fun r35 w34 y33 => ?_)
          show V x 0 0 w34 44 [(0, .ref (gz (xG x) + 94)), (1, .int a1), (2, .int a2), (3, .int u2)] [.int r35]
          obtain ⟨h36, o37, g38⟩ := y33
          have h39 := Ch.tr h6 h36 (by decide) (by decide)
          refine r_if_eq 57 C dX6_pass_44 (by decide) (fun c40 => ?_) (fun c40 => ?_)
          · have c40' := i_eq c40
            refine r_aload_n 0 C dX6_pass_57 rfl ?_
            refine gfX6_15 96 C (kS sC h39 kc_94) (xS sC h39 xc_94_3) dX6_pass_58 ?_
            refine r_iload_n 3 C dX6_pass_61 rfl ?_
            refine r_iald C (kS sC h39 kc_96) (vin (by omega) (by omega)) dX6_pass_62 ?_
            generalize (wI w34 96 (u2).toNatClampNeg) = v41
            refine r_iconst (v := (-1)) C dX6_pass_63 (by decide) ?_
            refine r_icmp_eq 72 C dX6_pass_64 (by decide) (fun c42 => ?_) (fun c42 => ?_)
            · have c42' := i_eq c42
              obtain ⟨i43, e44⟩ : ∃ z : Int32, u2 + Int32.ofInt 1 = z := ⟨_, rfl⟩
              have i43' := iinc_ok e44 (by decide) (by omega) (by omega)
              refine r_iinc [(3, .int i43), (0, .ref (gz (xG x) + 94)), (1, .int a1), (2, .int a2)] 3 C dX6_pass_72 rfl e44 (by decide) rfl ?_
              refine r_goto 22 C dX6_pass_75 (by decide) ?_
              refine r_lv [1, 2, 3, 0] rfl ?_
              exact ih10 i43 w34 h39 o37 (by omega) (by omega)
            · have c42' := i_ne c42
              refine r_aload_n 0 C dX6_pass_67 rfl ?_
              refine r_iload_n 3 C dX6_pass_68 rfl ?_
              refine callVV C cwX6_59_V (ctX6_lead_94 _ _ w34 (sS sC h39) o37 u2 (by omega)) (by decide) (kS sC h39 kc_94) rfl rfl rfl (Nat.le_of_ble_eq_true rfl) (by decide) dX6_pass_69 (fun w46 y45 => ?_)
              show V x 0 0 w46 72 [(0, .ref (gz (xG x) + 94)), (1, .int a1), (2, .int a2), (3, .int u2)] []
              obtain ⟨h48, o49⟩ := y45
              have h50 := Ch.tr h39 h48 (by decide) (by decide)
              obtain ⟨i51, e52⟩ : ∃ z : Int32, u2 + Int32.ofInt 1 = z := ⟨_, rfl⟩
              have i51' := iinc_ok e52 (by decide) (by omega) (by omega)
              refine r_iinc [(3, .int i51), (0, .ref (gz (xG x) + 94)), (1, .int a1), (2, .int a2)] 3 C dX6_pass_72 rfl e52 (by decide) rfl ?_
              refine r_goto 22 C dX6_pass_75 (by decide) ?_
              refine r_lv [1, 2, 3, 0] rfl ?_
              exact ih10 i51 w46 h50 o49 (by omega) (by omega)
          · have c40' := i_ne c40
            refine r_aload_n 0 C dX6_pass_47 rfl ?_
            refine gfX6_15 96 C (kS sC h39 kc_94) (xS sC h39 xc_94_3) dX6_pass_48 ?_
            refine r_iload_n 3 C dX6_pass_51 rfl ?_
            refine r_aload_n 0 C dX6_pass_52 rfl ?_
            refine gfX6_32 (v := (wI w5 94 0)) C (kS sC h39 kc_94) (h36.I (by decide) (by decide) rfl) dX6_pass_53 ?_
            refine r_iast C (kS sC h39 kc_96) (vin (by omega) (by omega)) dX6_pass_56 (fun w53 e54 => ?_)
            have h55 := Ch.putS h39 e54 (by decide)
            have o56 := Inv.put0 o37 e54 (by decide)
            refine r_aload_n 0 C dX6_pass_57 rfl ?_
            refine gfX6_15 96 C (kS sC h55 kc_94) (xS sC h55 xc_94_3) dX6_pass_58 ?_
            refine r_iload_n 3 C dX6_pass_61 rfl ?_
            refine r_iald C (kS sC h55 kc_96) (vin (by omega) (by omega)) dX6_pass_62 ?_
            generalize (wI w53 96 (u2).toNatClampNeg) = v57
            refine r_iconst (v := (-1)) C dX6_pass_63 (by decide) ?_
            refine r_icmp_eq 72 C dX6_pass_64 (by decide) (fun c58 => ?_) (fun c58 => ?_)
            · have c58' := i_eq c58
              obtain ⟨i59, e60⟩ : ∃ z : Int32, u2 + Int32.ofInt 1 = z := ⟨_, rfl⟩
              have i59' := iinc_ok e60 (by decide) (by omega) (by omega)
              refine r_iinc [(3, .int i59), (0, .ref (gz (xG x) + 94)), (1, .int a1), (2, .int a2)] 3 C dX6_pass_72 rfl e60 (by decide) rfl ?_
              refine r_goto 22 C dX6_pass_75 (by decide) ?_
              refine r_lv [1, 2, 3, 0] rfl ?_
              exact ih10 i59 w53 h55 o56 (by omega) (by omega)
            · have c58' := i_ne c58
              refine r_aload_n 0 C dX6_pass_67 rfl ?_
              refine r_iload_n 3 C dX6_pass_68 rfl ?_
              refine callVV C cwX6_59_V (ctX6_lead_94 _ _ w53 (sS sC h55) o56 u2 (by omega)) (by decide) (kS sC h55 kc_94) rfl rfl rfl (Nat.le_of_ble_eq_true rfl) (by decide) dX6_pass_69 (fun w62 y61 => ?_)
              show V x 0 0 w62 72 [(0, .ref (gz (xG x) + 94)), (1, .int a1), (2, .int a2), (3, .int u2)] []
              obtain ⟨h64, o65⟩ := y61
              have h66 := Ch.tr h55 h64 (by decide) (by decide)
              obtain ⟨i67, e68⟩ : ∃ z : Int32, u2 + Int32.ofInt 1 = z := ⟨_, rfl⟩
              have i67' := iinc_ok e68 (by decide) (by omega) (by omega)
              refine r_iinc [(3, .int i67), (0, .ref (gz (xG x) + 94)), (1, .int a1), (2, .int a2)] 3 C dX6_pass_72 rfl e68 (by decide) rfl ?_
              refine r_goto 22 C dX6_pass_75 (by decide) ?_
              refine r_lv [1, 2, 3, 0] rfl ?_
              exact ih10 i67 w62 h66 o65 (by omega) (by omega)
  refine r_iload_n 1 C dX6_pass_0 rfl ?_
  refine r_if_eq 20 C dX6_pass_1 (by decide) (fun c1 => ?_) (fun c1 => ?_)
  · have c1' := i_eq c1
    refine r_iconst (v := 0) C dX6_pass_20 (by decide) ?_
    refine r_istore_n [(3, .int 0), (0, .ref (gz (xG x) + 94)), (1, .int a1), (2, .int a2)] C dX6_pass_21 (by decide) rfl ?_
    refine r_lv [1, 2, 3, 0] rfl ?_
    exact LP3 4294967296 0 w h0 o0 (by omega) (by omega)
  · have c1' := i_ne c1
    refine r_aload_n 0 C dX6_pass_4 rfl ?_
    refine r_aload_n 0 C dX6_pass_5 rfl ?_
    refine gfX6_22 21 C (kS sC h0 kc_94) (xS sC h0 xc_94_5) dX6_pass_6 ?_
    refine r_aload_n 0 C dX6_pass_9 rfl ?_
    refine gfX6_32 (v := (wI w 94 0)) C (kS sC h0 kc_94) rfl dX6_pass_10 ?_
    refine r_iload_n 1 C dX6_pass_13 rfl ?_
    refine callVI C cwX6_47_V (ctX1_beside_21 _ _ w (sS sC h0) o0 (wI w 94 0) a1 ) (by decide) (kS sC h0 kc_21) rfl rfl rfl (Nat.le_of_ble_eq_true rfl) (by decide) dX6_pass_14 (fun r71 w70 y69 => ?_)
    show V x 0 0 w70 17 [(0, .ref (gz (xG x) + 94)), (1, .int a1), (2, .int a2)] [.int r71, .ref (gz (xG x) + 94)]
    obtain ⟨h72, o73⟩ := y69
    have h74 := Ch.tr h0 h72 (by decide) (by decide)
    refine pfX6_32 C (kS sC h74 kc_94) dX6_pass_17 (fun w75 e76 => ?_)
    have h77 := Ch.putF h74 e76 (by decide)
    have o78 := Inv.putk o73 e76 (by decide)
    refine r_iconst (v := 0) C dX6_pass_20 (by decide) ?_
    refine r_istore_n [(3, .int 0), (0, .ref (gz (xG x) + 94)), (1, .int a1), (2, .int a2)] C dX6_pass_21 (by decide) rfl ?_
    refine r_lv [1, 2, 3, 0] rfl ?_
    exact LP3 4294967296 0 w75 h77 o78 (by omega) (by omega)
set_option maxHeartbeats 4000000 in
set_option maxRecDepth 100000 in
theorem ctX6_pass_97 (l : Launch) (G : Gt) (w : Wv) (sC : Str KC XC w) (o0 : Inv RC w) (a1 : Int32) (a2 : Int32) : CtV l G yX6_pass cX6_pass 4 ({ frames := 3, cells := 0, slots := 0, locals := 77 } : Room) [.ref (gz G + 97), .int a1, .int a2] w (fun w' => Ch [25, 26, 27, 98, 99] [(97, 0), (97, 1)] w w' ∧ Inv RC w') := by
  refine enterV (by decide) (Nat.le_of_ble_eq_true rfl) ?_
  intro x el eG C hnm hret
  subst el; subst eG
  show V x 0 0 w 0 [(0, .ref (gz (xG x) + 97)), (1, .int a1), (2, .int a2)] []
  have h0 : Ch [25, 26, 27, 98, 99] [(97, 0), (97, 1)] w w := Ch.rf
  have qm1 : ((-1) : Int32).toInt = (-1) := by decide
  have q0 : (0 : Int32).toInt = 0 := by decide
  have q1 : (1 : Int32).toInt = 1 := by decide
  have LP3 : ∀ (f4 : Nat) (u2 : Int32) (w5 : Wv), Ch [25, 26, 27, 98, 99] [(97, 0), (97, 1)] w w5 → Inv RC w5 → (0 ≤ u2.toInt ∧ u2.toInt ≤ 2147483647) → 2147483647 - u2.toInt < f4 → V x 0 0 w5 22 [(0, .ref (gz (xG x) + 97)), (1, .int a1), (2, .int a2), (3, .int u2)] [] := by
    intro f4
    induction f4 with
    | zero => intro u2 w5 h6 o7 z8 z9; exfalso; omega
    | succ f4 ih10 =>
      intro u2 w5 h6 o7 z8 z9
      refine r_iload_n 3 C dX6_pass_22 rfl ?_
      refine r_aload_n 0 C dX6_pass_23 rfl ?_
      refine gfX6_18 3 C (kS sC h6 kc_97) (xS sC h6 xc_97_4) dX6_pass_24 ?_
      refine gfX6_39 (v := (wI w 3 3)) C (kS sC h6 kc_3) (h6.I (by decide) (by decide) rfl) dX6_pass_27 ?_
      have b11 := Inv.get o0 rt_3_3 (j := 3) (by decide) (by decide)
      have k13 := i_rng u2
      refine r_icmp_ge 78 C dX6_pass_30 (by decide) (fun c12 => ?_) (fun c12 => ?_)
      · have c12' := i_le c12
        refine r_aload_n 0 C dX6_pass_78 rfl ?_
        refine r_dup C dX6_pass_79 rfl ?_
        refine gfX6_33 (v := (wI w5 97 1)) C (kS sC h6 kc_97) rfl dX6_pass_80 ?_
        refine r_iconst (v := 1) C dX6_pass_83 (by decide) ?_
        refine r_iadd C dX6_pass_84 (fun v14 e15 => ?_)
        refine pfX6_33 C (kS sC h6 kc_97) dX6_pass_85 (fun w16 e17 => ?_)
        have h18 := Ch.putF h6 e17 (by decide)
        have o19 := Inv.putk o7 e17 (by decide)
        exact hret _ _ _ dX6_pass_88 ⟨h18, o19⟩
      · have c12' := i_nle c12
        refine r_iload_n 2 C dX6_pass_33 rfl ?_
        refine r_iconst (v := (-1)) C dX6_pass_34 (by decide) ?_
        refine r_icmp_eq 57 C dX6_pass_35 (by decide) (fun c20 => ?_) (fun c20 => ?_)
        · have c20' := i_eq c20
          refine r_aload_n 0 C dX6_pass_57 rfl ?_
          refine gfX6_15 99 C (kS sC h6 kc_97) (xS sC h6 xc_97_3) dX6_pass_58 ?_
          refine r_iload_n 3 C dX6_pass_61 rfl ?_
          refine r_iald C (kS sC h6 kc_99) (vin (by omega) (by omega)) dX6_pass_62 ?_
          generalize (wI w5 99 (u2).toNatClampNeg) = v21
          refine r_iconst (v := (-1)) C dX6_pass_63 (by decide) ?_
          refine r_icmp_eq 72 C dX6_pass_64 (by decide) (fun c22 => ?_) (fun c22 => ?_)
          · have c22' := i_eq c22
            obtain ⟨i23, e24⟩ : ∃ z : Int32, u2 + Int32.ofInt 1 = z := ⟨_, rfl⟩
            have i23' := iinc_ok e24 (by decide) (by omega) (by omega)
            refine r_iinc [(3, .int i23), (0, .ref (gz (xG x) + 97)), (1, .int a1), (2, .int a2)] 3 C dX6_pass_72 rfl e24 (by decide) rfl ?_
            refine r_goto 22 C dX6_pass_75 (by decide) ?_
            refine r_lv [1, 2, 3, 0] rfl ?_
            exact ih10 i23 w5 h6 o7 (by omega) (by omega)
          · have c22' := i_ne c22
            refine r_aload_n 0 C dX6_pass_67 rfl ?_
            refine r_iload_n 3 C dX6_pass_68 rfl ?_
            refine callVV C cwX6_59_V (ctX6_lead_97 _ _ w5 (sS sC h6) o7 u2 (by omega)) (by decide) (kS sC h6 kc_97) rfl rfl rfl (Nat.le_of_ble_eq_true rfl) (by decide) dX6_pass_69 (fun w26 y25 => ?_)
            show V x 0 0 w26 72 [(0, .ref (gz (xG x) + 97)), (1, .int a1), (2, .int a2), (3, .int u2)] []
            obtain ⟨h28, o29⟩ := y25
            have h30 := Ch.tr h6 h28 (by decide) (by decide)
            obtain ⟨i31, e32⟩ : ∃ z : Int32, u2 + Int32.ofInt 1 = z := ⟨_, rfl⟩
            have i31' := iinc_ok e32 (by decide) (by omega) (by omega)
            refine r_iinc [(3, .int i31), (0, .ref (gz (xG x) + 97)), (1, .int a1), (2, .int a2)] 3 C dX6_pass_72 rfl e32 (by decide) rfl ?_
            refine r_goto 22 C dX6_pass_75 (by decide) ?_
            refine r_lv [1, 2, 3, 0] rfl ?_
            exact ih10 i31 w26 h30 o29 (by omega) (by omega)
        · have c20' := i_ne c20
          refine r_aload_n 0 C dX6_pass_38 rfl ?_
          refine r_iload_n 3 C dX6_pass_39 rfl ?_
          refine r_iload_n 2 C dX6_pass_40 rfl ?_
          refine callVI C cwX6_55_V (ctX6_hears_97 _ _ w5 (sS sC h6) o7 u2 a2 ) (by decide) (kS sC h6 kc_97) rfl rfl rfl (Nat.le_of_ble_eq_true rfl) (by decide) dX6_pass_41 (fun r35 w34 y33 => ?_)
          show V x 0 0 w34 44 [(0, .ref (gz (xG x) + 97)), (1, .int a1), (2, .int a2), (3, .int u2)] [.int r35]
          obtain ⟨h36, o37, g38⟩ := y33
          have h39 := Ch.tr h6 h36 (by decide) (by decide)
          refine r_if_eq 57 C dX6_pass_44 (by decide) (fun c40 => ?_) (fun c40 => ?_)
          · have c40' := i_eq c40
            refine r_aload_n 0 C dX6_pass_57 rfl ?_
            refine gfX6_15 99 C (kS sC h39 kc_97) (xS sC h39 xc_97_3) dX6_pass_58 ?_
            refine r_iload_n 3 C dX6_pass_61 rfl ?_
            refine r_iald C (kS sC h39 kc_99) (vin (by omega) (by omega)) dX6_pass_62 ?_
            generalize (wI w34 99 (u2).toNatClampNeg) = v41
            refine r_iconst (v := (-1)) C dX6_pass_63 (by decide) ?_
            refine r_icmp_eq 72 C dX6_pass_64 (by decide) (fun c42 => ?_) (fun c42 => ?_)
            · have c42' := i_eq c42
              obtain ⟨i43, e44⟩ : ∃ z : Int32, u2 + Int32.ofInt 1 = z := ⟨_, rfl⟩
              have i43' := iinc_ok e44 (by decide) (by omega) (by omega)
              refine r_iinc [(3, .int i43), (0, .ref (gz (xG x) + 97)), (1, .int a1), (2, .int a2)] 3 C dX6_pass_72 rfl e44 (by decide) rfl ?_
              refine r_goto 22 C dX6_pass_75 (by decide) ?_
              refine r_lv [1, 2, 3, 0] rfl ?_
              exact ih10 i43 w34 h39 o37 (by omega) (by omega)
            · have c42' := i_ne c42
              refine r_aload_n 0 C dX6_pass_67 rfl ?_
              refine r_iload_n 3 C dX6_pass_68 rfl ?_
              refine callVV C cwX6_59_V (ctX6_lead_97 _ _ w34 (sS sC h39) o37 u2 (by omega)) (by decide) (kS sC h39 kc_97) rfl rfl rfl (Nat.le_of_ble_eq_true rfl) (by decide) dX6_pass_69 (fun w46 y45 => ?_)
              show V x 0 0 w46 72 [(0, .ref (gz (xG x) + 97)), (1, .int a1), (2, .int a2), (3, .int u2)] []
              obtain ⟨h48, o49⟩ := y45
              have h50 := Ch.tr h39 h48 (by decide) (by decide)
              obtain ⟨i51, e52⟩ : ∃ z : Int32, u2 + Int32.ofInt 1 = z := ⟨_, rfl⟩
              have i51' := iinc_ok e52 (by decide) (by omega) (by omega)
              refine r_iinc [(3, .int i51), (0, .ref (gz (xG x) + 97)), (1, .int a1), (2, .int a2)] 3 C dX6_pass_72 rfl e52 (by decide) rfl ?_
              refine r_goto 22 C dX6_pass_75 (by decide) ?_
              refine r_lv [1, 2, 3, 0] rfl ?_
              exact ih10 i51 w46 h50 o49 (by omega) (by omega)
          · have c40' := i_ne c40
            refine r_aload_n 0 C dX6_pass_47 rfl ?_
            refine gfX6_15 99 C (kS sC h39 kc_97) (xS sC h39 xc_97_3) dX6_pass_48 ?_
            refine r_iload_n 3 C dX6_pass_51 rfl ?_
            refine r_aload_n 0 C dX6_pass_52 rfl ?_
            refine gfX6_32 (v := (wI w5 97 0)) C (kS sC h39 kc_97) (h36.I (by decide) (by decide) rfl) dX6_pass_53 ?_
            refine r_iast C (kS sC h39 kc_99) (vin (by omega) (by omega)) dX6_pass_56 (fun w53 e54 => ?_)
            have h55 := Ch.putS h39 e54 (by decide)
            have o56 := Inv.put0 o37 e54 (by decide)
            refine r_aload_n 0 C dX6_pass_57 rfl ?_
            refine gfX6_15 99 C (kS sC h55 kc_97) (xS sC h55 xc_97_3) dX6_pass_58 ?_
            refine r_iload_n 3 C dX6_pass_61 rfl ?_
            refine r_iald C (kS sC h55 kc_99) (vin (by omega) (by omega)) dX6_pass_62 ?_
            generalize (wI w53 99 (u2).toNatClampNeg) = v57
            refine r_iconst (v := (-1)) C dX6_pass_63 (by decide) ?_
            refine r_icmp_eq 72 C dX6_pass_64 (by decide) (fun c58 => ?_) (fun c58 => ?_)
            · have c58' := i_eq c58
              obtain ⟨i59, e60⟩ : ∃ z : Int32, u2 + Int32.ofInt 1 = z := ⟨_, rfl⟩
              have i59' := iinc_ok e60 (by decide) (by omega) (by omega)
              refine r_iinc [(3, .int i59), (0, .ref (gz (xG x) + 97)), (1, .int a1), (2, .int a2)] 3 C dX6_pass_72 rfl e60 (by decide) rfl ?_
              refine r_goto 22 C dX6_pass_75 (by decide) ?_
              refine r_lv [1, 2, 3, 0] rfl ?_
              exact ih10 i59 w53 h55 o56 (by omega) (by omega)
            · have c58' := i_ne c58
              refine r_aload_n 0 C dX6_pass_67 rfl ?_
              refine r_iload_n 3 C dX6_pass_68 rfl ?_
              refine callVV C cwX6_59_V (ctX6_lead_97 _ _ w53 (sS sC h55) o56 u2 (by omega)) (by decide) (kS sC h55 kc_97) rfl rfl rfl (Nat.le_of_ble_eq_true rfl) (by decide) dX6_pass_69 (fun w62 y61 => ?_)
              show V x 0 0 w62 72 [(0, .ref (gz (xG x) + 97)), (1, .int a1), (2, .int a2), (3, .int u2)] []
              obtain ⟨h64, o65⟩ := y61
              have h66 := Ch.tr h55 h64 (by decide) (by decide)
              obtain ⟨i67, e68⟩ : ∃ z : Int32, u2 + Int32.ofInt 1 = z := ⟨_, rfl⟩
              have i67' := iinc_ok e68 (by decide) (by omega) (by omega)
              refine r_iinc [(3, .int i67), (0, .ref (gz (xG x) + 97)), (1, .int a1), (2, .int a2)] 3 C dX6_pass_72 rfl e68 (by decide) rfl ?_
              refine r_goto 22 C dX6_pass_75 (by decide) ?_
              refine r_lv [1, 2, 3, 0] rfl ?_
              exact ih10 i67 w62 h66 o65 (by omega) (by omega)
  refine r_iload_n 1 C dX6_pass_0 rfl ?_
  refine r_if_eq 20 C dX6_pass_1 (by decide) (fun c1 => ?_) (fun c1 => ?_)
  · have c1' := i_eq c1
    refine r_iconst (v := 0) C dX6_pass_20 (by decide) ?_
    refine r_istore_n [(3, .int 0), (0, .ref (gz (xG x) + 97)), (1, .int a1), (2, .int a2)] C dX6_pass_21 (by decide) rfl ?_
    refine r_lv [1, 2, 3, 0] rfl ?_
    exact LP3 4294967296 0 w h0 o0 (by omega) (by omega)
  · have c1' := i_ne c1
    refine r_aload_n 0 C dX6_pass_4 rfl ?_
    refine r_aload_n 0 C dX6_pass_5 rfl ?_
    refine gfX6_22 21 C (kS sC h0 kc_97) (xS sC h0 xc_97_5) dX6_pass_6 ?_
    refine r_aload_n 0 C dX6_pass_9 rfl ?_
    refine gfX6_32 (v := (wI w 97 0)) C (kS sC h0 kc_97) rfl dX6_pass_10 ?_
    refine r_iload_n 1 C dX6_pass_13 rfl ?_
    refine callVI C cwX6_47_V (ctX1_beside_21 _ _ w (sS sC h0) o0 (wI w 97 0) a1 ) (by decide) (kS sC h0 kc_21) rfl rfl rfl (Nat.le_of_ble_eq_true rfl) (by decide) dX6_pass_14 (fun r71 w70 y69 => ?_)
    show V x 0 0 w70 17 [(0, .ref (gz (xG x) + 97)), (1, .int a1), (2, .int a2)] [.int r71, .ref (gz (xG x) + 97)]
    obtain ⟨h72, o73⟩ := y69
    have h74 := Ch.tr h0 h72 (by decide) (by decide)
    refine pfX6_32 C (kS sC h74 kc_97) dX6_pass_17 (fun w75 e76 => ?_)
    have h77 := Ch.putF h74 e76 (by decide)
    have o78 := Inv.putk o73 e76 (by decide)
    refine r_iconst (v := 0) C dX6_pass_20 (by decide) ?_
    refine r_istore_n [(3, .int 0), (0, .ref (gz (xG x) + 97)), (1, .int a1), (2, .int a2)] C dX6_pass_21 (by decide) rfl ?_
    refine r_lv [1, 2, 3, 0] rfl ?_
    exact LP3 4294967296 0 w75 h77 o78 (by omega) (by omega)
set_option maxHeartbeats 4000000 in
set_option maxRecDepth 100000 in
theorem ctX6_pass_100 (l : Launch) (G : Gt) (w : Wv) (sC : Str KC XC w) (o0 : Inv RC w) (a1 : Int32) (a2 : Int32) : CtV l G yX6_pass cX6_pass 4 ({ frames := 3, cells := 0, slots := 0, locals := 77 } : Room) [.ref (gz G + 100), .int a1, .int a2] w (fun w' => Ch [25, 26, 27, 101, 102] [(100, 0), (100, 1)] w w' ∧ Inv RC w') := by
  refine enterV (by decide) (Nat.le_of_ble_eq_true rfl) ?_
  intro x el eG C hnm hret
  subst el; subst eG
  show V x 0 0 w 0 [(0, .ref (gz (xG x) + 100)), (1, .int a1), (2, .int a2)] []
  have h0 : Ch [25, 26, 27, 101, 102] [(100, 0), (100, 1)] w w := Ch.rf
  have qm1 : ((-1) : Int32).toInt = (-1) := by decide
  have q0 : (0 : Int32).toInt = 0 := by decide
  have q1 : (1 : Int32).toInt = 1 := by decide
  have LP3 : ∀ (f4 : Nat) (u2 : Int32) (w5 : Wv), Ch [25, 26, 27, 101, 102] [(100, 0), (100, 1)] w w5 → Inv RC w5 → (0 ≤ u2.toInt ∧ u2.toInt ≤ 2147483647) → 2147483647 - u2.toInt < f4 → V x 0 0 w5 22 [(0, .ref (gz (xG x) + 100)), (1, .int a1), (2, .int a2), (3, .int u2)] [] := by
    intro f4
    induction f4 with
    | zero => intro u2 w5 h6 o7 z8 z9; exfalso; omega
    | succ f4 ih10 =>
      intro u2 w5 h6 o7 z8 z9
      refine r_iload_n 3 C dX6_pass_22 rfl ?_
      refine r_aload_n 0 C dX6_pass_23 rfl ?_
      refine gfX6_18 3 C (kS sC h6 kc_100) (xS sC h6 xc_100_4) dX6_pass_24 ?_
      refine gfX6_39 (v := (wI w 3 3)) C (kS sC h6 kc_3) (h6.I (by decide) (by decide) rfl) dX6_pass_27 ?_
      have b11 := Inv.get o0 rt_3_3 (j := 3) (by decide) (by decide)
      have k13 := i_rng u2
      refine r_icmp_ge 78 C dX6_pass_30 (by decide) (fun c12 => ?_) (fun c12 => ?_)
      · have c12' := i_le c12
        refine r_aload_n 0 C dX6_pass_78 rfl ?_
        refine r_dup C dX6_pass_79 rfl ?_
        refine gfX6_33 (v := (wI w5 100 1)) C (kS sC h6 kc_100) rfl dX6_pass_80 ?_
        refine r_iconst (v := 1) C dX6_pass_83 (by decide) ?_
        refine r_iadd C dX6_pass_84 (fun v14 e15 => ?_)
        refine pfX6_33 C (kS sC h6 kc_100) dX6_pass_85 (fun w16 e17 => ?_)
        have h18 := Ch.putF h6 e17 (by decide)
        have o19 := Inv.putk o7 e17 (by decide)
        exact hret _ _ _ dX6_pass_88 ⟨h18, o19⟩
      · have c12' := i_nle c12
        refine r_iload_n 2 C dX6_pass_33 rfl ?_
        refine r_iconst (v := (-1)) C dX6_pass_34 (by decide) ?_
        refine r_icmp_eq 57 C dX6_pass_35 (by decide) (fun c20 => ?_) (fun c20 => ?_)
        · have c20' := i_eq c20
          refine r_aload_n 0 C dX6_pass_57 rfl ?_
          refine gfX6_15 102 C (kS sC h6 kc_100) (xS sC h6 xc_100_3) dX6_pass_58 ?_
          refine r_iload_n 3 C dX6_pass_61 rfl ?_
          refine r_iald C (kS sC h6 kc_102) (vin (by omega) (by omega)) dX6_pass_62 ?_
          generalize (wI w5 102 (u2).toNatClampNeg) = v21
          refine r_iconst (v := (-1)) C dX6_pass_63 (by decide) ?_
          refine r_icmp_eq 72 C dX6_pass_64 (by decide) (fun c22 => ?_) (fun c22 => ?_)
          · have c22' := i_eq c22
            obtain ⟨i23, e24⟩ : ∃ z : Int32, u2 + Int32.ofInt 1 = z := ⟨_, rfl⟩
            have i23' := iinc_ok e24 (by decide) (by omega) (by omega)
            refine r_iinc [(3, .int i23), (0, .ref (gz (xG x) + 100)), (1, .int a1), (2, .int a2)] 3 C dX6_pass_72 rfl e24 (by decide) rfl ?_
            refine r_goto 22 C dX6_pass_75 (by decide) ?_
            refine r_lv [1, 2, 3, 0] rfl ?_
            exact ih10 i23 w5 h6 o7 (by omega) (by omega)
          · have c22' := i_ne c22
            refine r_aload_n 0 C dX6_pass_67 rfl ?_
            refine r_iload_n 3 C dX6_pass_68 rfl ?_
            refine callVV C cwX6_59_V (ctX6_lead_100 _ _ w5 (sS sC h6) o7 u2 (by omega)) (by decide) (kS sC h6 kc_100) rfl rfl rfl (Nat.le_of_ble_eq_true rfl) (by decide) dX6_pass_69 (fun w26 y25 => ?_)
            show V x 0 0 w26 72 [(0, .ref (gz (xG x) + 100)), (1, .int a1), (2, .int a2), (3, .int u2)] []
            obtain ⟨h28, o29⟩ := y25
            have h30 := Ch.tr h6 h28 (by decide) (by decide)
            obtain ⟨i31, e32⟩ : ∃ z : Int32, u2 + Int32.ofInt 1 = z := ⟨_, rfl⟩
            have i31' := iinc_ok e32 (by decide) (by omega) (by omega)
            refine r_iinc [(3, .int i31), (0, .ref (gz (xG x) + 100)), (1, .int a1), (2, .int a2)] 3 C dX6_pass_72 rfl e32 (by decide) rfl ?_
            refine r_goto 22 C dX6_pass_75 (by decide) ?_
            refine r_lv [1, 2, 3, 0] rfl ?_
            exact ih10 i31 w26 h30 o29 (by omega) (by omega)
        · have c20' := i_ne c20
          refine r_aload_n 0 C dX6_pass_38 rfl ?_
          refine r_iload_n 3 C dX6_pass_39 rfl ?_
          refine r_iload_n 2 C dX6_pass_40 rfl ?_
          refine callVI C cwX6_55_V (ctX6_hears_100 _ _ w5 (sS sC h6) o7 u2 a2 ) (by decide) (kS sC h6 kc_100) rfl rfl rfl (Nat.le_of_ble_eq_true rfl) (by decide) dX6_pass_41 (fun r35 w34 y33 => ?_)
          show V x 0 0 w34 44 [(0, .ref (gz (xG x) + 100)), (1, .int a1), (2, .int a2), (3, .int u2)] [.int r35]
          obtain ⟨h36, o37, g38⟩ := y33
          have h39 := Ch.tr h6 h36 (by decide) (by decide)
          refine r_if_eq 57 C dX6_pass_44 (by decide) (fun c40 => ?_) (fun c40 => ?_)
          · have c40' := i_eq c40
            refine r_aload_n 0 C dX6_pass_57 rfl ?_
            refine gfX6_15 102 C (kS sC h39 kc_100) (xS sC h39 xc_100_3) dX6_pass_58 ?_
            refine r_iload_n 3 C dX6_pass_61 rfl ?_
            refine r_iald C (kS sC h39 kc_102) (vin (by omega) (by omega)) dX6_pass_62 ?_
            generalize (wI w34 102 (u2).toNatClampNeg) = v41
            refine r_iconst (v := (-1)) C dX6_pass_63 (by decide) ?_
            refine r_icmp_eq 72 C dX6_pass_64 (by decide) (fun c42 => ?_) (fun c42 => ?_)
            · have c42' := i_eq c42
              obtain ⟨i43, e44⟩ : ∃ z : Int32, u2 + Int32.ofInt 1 = z := ⟨_, rfl⟩
              have i43' := iinc_ok e44 (by decide) (by omega) (by omega)
              refine r_iinc [(3, .int i43), (0, .ref (gz (xG x) + 100)), (1, .int a1), (2, .int a2)] 3 C dX6_pass_72 rfl e44 (by decide) rfl ?_
              refine r_goto 22 C dX6_pass_75 (by decide) ?_
              refine r_lv [1, 2, 3, 0] rfl ?_
              exact ih10 i43 w34 h39 o37 (by omega) (by omega)
            · have c42' := i_ne c42
              refine r_aload_n 0 C dX6_pass_67 rfl ?_
              refine r_iload_n 3 C dX6_pass_68 rfl ?_
              refine callVV C cwX6_59_V (ctX6_lead_100 _ _ w34 (sS sC h39) o37 u2 (by omega)) (by decide) (kS sC h39 kc_100) rfl rfl rfl (Nat.le_of_ble_eq_true rfl) (by decide) dX6_pass_69 (fun w46 y45 => ?_)
              show V x 0 0 w46 72 [(0, .ref (gz (xG x) + 100)), (1, .int a1), (2, .int a2), (3, .int u2)] []
              obtain ⟨h48, o49⟩ := y45
              have h50 := Ch.tr h39 h48 (by decide) (by decide)
              obtain ⟨i51, e52⟩ : ∃ z : Int32, u2 + Int32.ofInt 1 = z := ⟨_, rfl⟩
              have i51' := iinc_ok e52 (by decide) (by omega) (by omega)
              refine r_iinc [(3, .int i51), (0, .ref (gz (xG x) + 100)), (1, .int a1), (2, .int a2)] 3 C dX6_pass_72 rfl e52 (by decide) rfl ?_
              refine r_goto 22 C dX6_pass_75 (by decide) ?_
              refine r_lv [1, 2, 3, 0] rfl ?_
              exact ih10 i51 w46 h50 o49 (by omega) (by omega)
          · have c40' := i_ne c40
            refine r_aload_n 0 C dX6_pass_47 rfl ?_
            refine gfX6_15 102 C (kS sC h39 kc_100) (xS sC h39 xc_100_3) dX6_pass_48 ?_
            refine r_iload_n 3 C dX6_pass_51 rfl ?_
            refine r_aload_n 0 C dX6_pass_52 rfl ?_
            refine gfX6_32 (v := (wI w5 100 0)) C (kS sC h39 kc_100) (h36.I (by decide) (by decide) rfl) dX6_pass_53 ?_
            refine r_iast C (kS sC h39 kc_102) (vin (by omega) (by omega)) dX6_pass_56 (fun w53 e54 => ?_)
            have h55 := Ch.putS h39 e54 (by decide)
            have o56 := Inv.put0 o37 e54 (by decide)
            refine r_aload_n 0 C dX6_pass_57 rfl ?_
            refine gfX6_15 102 C (kS sC h55 kc_100) (xS sC h55 xc_100_3) dX6_pass_58 ?_
            refine r_iload_n 3 C dX6_pass_61 rfl ?_
            refine r_iald C (kS sC h55 kc_102) (vin (by omega) (by omega)) dX6_pass_62 ?_
            generalize (wI w53 102 (u2).toNatClampNeg) = v57
            refine r_iconst (v := (-1)) C dX6_pass_63 (by decide) ?_
            refine r_icmp_eq 72 C dX6_pass_64 (by decide) (fun c58 => ?_) (fun c58 => ?_)
            · have c58' := i_eq c58
              obtain ⟨i59, e60⟩ : ∃ z : Int32, u2 + Int32.ofInt 1 = z := ⟨_, rfl⟩
              have i59' := iinc_ok e60 (by decide) (by omega) (by omega)
              refine r_iinc [(3, .int i59), (0, .ref (gz (xG x) + 100)), (1, .int a1), (2, .int a2)] 3 C dX6_pass_72 rfl e60 (by decide) rfl ?_
              refine r_goto 22 C dX6_pass_75 (by decide) ?_
              refine r_lv [1, 2, 3, 0] rfl ?_
              exact ih10 i59 w53 h55 o56 (by omega) (by omega)
            · have c58' := i_ne c58
              refine r_aload_n 0 C dX6_pass_67 rfl ?_
              refine r_iload_n 3 C dX6_pass_68 rfl ?_
              refine callVV C cwX6_59_V (ctX6_lead_100 _ _ w53 (sS sC h55) o56 u2 (by omega)) (by decide) (kS sC h55 kc_100) rfl rfl rfl (Nat.le_of_ble_eq_true rfl) (by decide) dX6_pass_69 (fun w62 y61 => ?_)
              show V x 0 0 w62 72 [(0, .ref (gz (xG x) + 100)), (1, .int a1), (2, .int a2), (3, .int u2)] []
              obtain ⟨h64, o65⟩ := y61
              have h66 := Ch.tr h55 h64 (by decide) (by decide)
              obtain ⟨i67, e68⟩ : ∃ z : Int32, u2 + Int32.ofInt 1 = z := ⟨_, rfl⟩
              have i67' := iinc_ok e68 (by decide) (by omega) (by omega)
              refine r_iinc [(3, .int i67), (0, .ref (gz (xG x) + 100)), (1, .int a1), (2, .int a2)] 3 C dX6_pass_72 rfl e68 (by decide) rfl ?_
              refine r_goto 22 C dX6_pass_75 (by decide) ?_
              refine r_lv [1, 2, 3, 0] rfl ?_
              exact ih10 i67 w62 h66 o65 (by omega) (by omega)
  refine r_iload_n 1 C dX6_pass_0 rfl ?_
  refine r_if_eq 20 C dX6_pass_1 (by decide) (fun c1 => ?_) (fun c1 => ?_)
  · have c1' := i_eq c1
    refine r_iconst (v := 0) C dX6_pass_20 (by decide) ?_
    refine r_istore_n [(3, .int 0), (0, .ref (gz (xG x) + 100)), (1, .int a1), (2, .int a2)] C dX6_pass_21 (by decide) rfl ?_
    refine r_lv [1, 2, 3, 0] rfl ?_
    exact LP3 4294967296 0 w h0 o0 (by omega) (by omega)
  · have c1' := i_ne c1
    refine r_aload_n 0 C dX6_pass_4 rfl ?_
    refine r_aload_n 0 C dX6_pass_5 rfl ?_
    refine gfX6_22 21 C (kS sC h0 kc_100) (xS sC h0 xc_100_5) dX6_pass_6 ?_
    refine r_aload_n 0 C dX6_pass_9 rfl ?_
    refine gfX6_32 (v := (wI w 100 0)) C (kS sC h0 kc_100) rfl dX6_pass_10 ?_
    refine r_iload_n 1 C dX6_pass_13 rfl ?_
    refine callVI C cwX6_47_V (ctX1_beside_21 _ _ w (sS sC h0) o0 (wI w 100 0) a1 ) (by decide) (kS sC h0 kc_21) rfl rfl rfl (Nat.le_of_ble_eq_true rfl) (by decide) dX6_pass_14 (fun r71 w70 y69 => ?_)
    show V x 0 0 w70 17 [(0, .ref (gz (xG x) + 100)), (1, .int a1), (2, .int a2)] [.int r71, .ref (gz (xG x) + 100)]
    obtain ⟨h72, o73⟩ := y69
    have h74 := Ch.tr h0 h72 (by decide) (by decide)
    refine pfX6_32 C (kS sC h74 kc_100) dX6_pass_17 (fun w75 e76 => ?_)
    have h77 := Ch.putF h74 e76 (by decide)
    have o78 := Inv.putk o73 e76 (by decide)
    refine r_iconst (v := 0) C dX6_pass_20 (by decide) ?_
    refine r_istore_n [(3, .int 0), (0, .ref (gz (xG x) + 100)), (1, .int a1), (2, .int a2)] C dX6_pass_21 (by decide) rfl ?_
    refine r_lv [1, 2, 3, 0] rfl ?_
    exact LP3 4294967296 0 w75 h77 o78 (by omega) (by omega)
set_option maxHeartbeats 4000000 in
set_option maxRecDepth 100000 in
theorem ctX6_hearers_35 (l : Launch) (G : Gt) (w : Wv) (sC : Str KC XC w) (o0 : Inv RC w) (a1 : Int32) : CtI l G yX6_hearers cX6_hearers 4 .int ({ frames := 3, cells := 0, slots := 0, locals := 73 } : Room) [.ref (gz G + 35), .int a1] w (fun r w' => Ch [25, 26, 27] [] w w' ∧ Inv RC w') := by
  refine enterI (by decide) (Nat.le_of_ble_eq_true rfl) ?_
  intro x el eG C hret
  subst el; subst eG
  show V x 0 0 w 0 [(0, .ref (gz (xG x) + 35)), (1, .int a1)] []
  have h0 : Ch [25, 26, 27] [] w w := Ch.rf
  have q0 : (0 : Int32).toInt = 0 := by decide
  have q1 : (1 : Int32).toInt = 1 := by decide
  have LP3 : ∀ (f4 : Nat) (u1 : Int32) (u2 : Int32) (w5 : Wv), Ch [25, 26, 27] [] w w5 → Inv RC w5 → (0 ≤ u2.toInt ∧ u2.toInt ≤ 2147483647) → 2147483647 - u2.toInt < f4 → V x 0 0 w5 4 [(0, .ref (gz (xG x) + 35)), (1, .int a1), (2, .int u1), (3, .int u2)] [] := by
    intro f4
    induction f4 with
    | zero => intro u1 u2 w5 h6 o7 z8 z9; exfalso; omega
    | succ f4 ih10 =>
      intro u1 u2 w5 h6 o7 z8 z9
      refine r_iload_n 3 C dX6_hearers_4 rfl ?_
      refine r_aload_n 0 C dX6_hearers_5 rfl ?_
      refine gfX6_18 3 C (kS sC h6 kc_35) (xS sC h6 xc_35_4) dX6_hearers_6 ?_
      refine gfX6_39 (v := (wI w 3 3)) C (kS sC h6 kc_3) (h6.I (by decide) (by decide) rfl) dX6_hearers_9 ?_
      have b11 := Inv.get o0 rt_3_3 (j := 3) (by decide) (by decide)
      have k13 := i_rng u2
      refine r_icmp_ge 36 C dX6_hearers_12 (by decide) (fun c12 => ?_) (fun c12 => ?_)
      · have c12' := i_le c12
        refine r_iload_n 2 C dX6_hearers_36 rfl ?_
        exact hret _ _ _ _ dX6_hearers_37 rfl ⟨h6, o7⟩
      · have c12' := i_nle c12
        refine r_aload_n 0 C dX6_hearers_15 rfl ?_
        refine r_iload_n 3 C dX6_hearers_16 rfl ?_
        refine r_iload_n 1 C dX6_hearers_17 rfl ?_
        refine callVI C cwX6_55_V (ctX6_hears_35 _ _ w5 (sS sC h6) o7 u2 a1 ) (by decide) (kS sC h6 kc_35) rfl rfl rfl (Nat.le_of_ble_eq_true rfl) (by decide) dX6_hearers_18 (fun r16 w15 y14 => ?_)
        show V x 0 0 w15 21 [(0, .ref (gz (xG x) + 35)), (1, .int a1), (2, .int u1), (3, .int u2)] [.int r16]
        obtain ⟨h17, o18, g19⟩ := y14
        have h20 := Ch.tr h6 h17 (by decide) (by decide)
        refine r_if_eq 30 C dX6_hearers_21 (by decide) (fun c21 => ?_) (fun c21 => ?_)
        · have c21' := i_eq c21
          obtain ⟨i22, e23⟩ : ∃ z : Int32, u2 + Int32.ofInt 1 = z := ⟨_, rfl⟩
          have i22' := iinc_ok e23 (by decide) (by omega) (by omega)
          refine r_iinc [(3, .int i22), (0, .ref (gz (xG x) + 35)), (1, .int a1), (2, .int u1)] 3 C dX6_hearers_30 rfl e23 (by decide) rfl ?_
          refine r_goto 4 C dX6_hearers_33 (by decide) ?_
          refine r_lv [1, 2, 3, 0] rfl ?_
          exact ih10 u1 i22 w15 h20 o18 (by omega) (by omega)
        · have c21' := i_ne c21
          refine r_iload_n 2 C dX6_hearers_24 rfl ?_
          refine r_iconst (v := 1) C dX6_hearers_25 (by decide) ?_
          refine r_iload_n 3 C dX6_hearers_26 rfl ?_
          refine r_ishl C dX6_hearers_27 (fun v24 e25 => ?_)
          refine r_ior C dX6_hearers_28 (fun v26 e27 => ?_)
          refine r_istore_n [(2, .int v26), (0, .ref (gz (xG x) + 35)), (1, .int a1), (3, .int u2)] C dX6_hearers_29 (by decide) rfl ?_
          obtain ⟨i28, e29⟩ : ∃ z : Int32, u2 + Int32.ofInt 1 = z := ⟨_, rfl⟩
          have i28' := iinc_ok e29 (by decide) (by omega) (by omega)
          refine r_iinc [(3, .int i28), (2, .int v26), (0, .ref (gz (xG x) + 35)), (1, .int a1)] 3 C dX6_hearers_30 rfl e29 (by decide) rfl ?_
          refine r_goto 4 C dX6_hearers_33 (by decide) ?_
          refine r_lv [2, 3, 1, 0] rfl ?_
          exact ih10 v26 i28 w15 h20 o18 (by omega) (by omega)
  refine r_iconst (v := 0) C dX6_hearers_0 (by decide) ?_
  refine r_istore_n [(2, .int 0), (0, .ref (gz (xG x) + 35)), (1, .int a1)] C dX6_hearers_1 (by decide) rfl ?_
  refine r_iconst (v := 0) C dX6_hearers_2 (by decide) ?_
  refine r_istore_n [(3, .int 0), (2, .int 0), (0, .ref (gz (xG x) + 35)), (1, .int a1)] C dX6_hearers_3 (by decide) rfl ?_
  refine r_lv [2, 3, 1, 0] rfl ?_
  exact LP3 4294967296 0 0 w h0 o0 (by omega) (by omega)
set_option maxHeartbeats 4000000 in
set_option maxRecDepth 100000 in
theorem ctX6_isAt_35 (l : Launch) (G : Gt) (w : Wv) (sC : Str KC XC w) (o0 : Inv RC w) (a1 : Int32) (a2 : Int32) : CtI l G yX6_isAt cX6_isAt 3 .boolean ({ frames := 0, cells := 0, slots := 0, locals := 0 } : Room) [.ref (gz G + 35), .int a1, .int a2] w (fun r w' => Ch [] [] w w' ∧ Inv RC w' ∧ ((0 ≤ r.toInt ∧ r.toInt ≤ 1))) := by
  refine enterI (by decide) (Nat.le_of_ble_eq_true rfl) ?_
  intro x el eG C hret
  subst el; subst eG
  show V x 0 0 w 0 [(0, .ref (gz (xG x) + 35)), (1, .int a1), (2, .int a2)] []
  have h0 : Ch [] [] w w := Ch.rf
  have q0 : (0 : Int32).toInt = 0 := by decide
  have q1 : (1 : Int32).toInt = 1 := by decide
  have q6 : (6 : Int32).toInt = 6 := by decide
  refine r_iload_n 1 C dX6_isAt_0 rfl ?_
  refine r_if_lt 24 C dX6_isAt_1 (by decide) (fun c1 => ?_) (fun c1 => ?_)
  · have c1' := i_lt c1
    refine r_iconst (v := 0) C dX6_isAt_24 (by decide) ?_
    exact hret _ _ _ _ dX6_isAt_25 (nar_z (z_of (by omega))) ⟨h0, o0, by omega⟩
  · have c1' := i_nlt c1
    refine r_iload_n 1 C dX6_isAt_4 rfl ?_
    refine r_bipush (v := 6) C dX6_isAt_5 (by decide) ?_
    have k3 := i_rng a1
    refine r_icmp_ge 24 C dX6_isAt_7 (by decide) (fun c2 => ?_) (fun c2 => ?_)
    · have c2' := i_le c2
      refine r_iconst (v := 0) C dX6_isAt_24 (by decide) ?_
      exact hret _ _ _ _ dX6_isAt_25 (nar_z (z_of (by omega))) ⟨h0, o0, by omega⟩
    · have c2' := i_nle c2
      refine r_aload_n 0 C dX6_isAt_10 rfl ?_
      refine gfX6_9 36 C (kS sC h0 kc_35) (xS sC h0 xc_35_2) dX6_isAt_11 ?_
      refine r_iload_n 1 C dX6_isAt_14 rfl ?_
      refine r_iald C (kS sC h0 kc_36) (vin (by omega) (by omega)) dX6_isAt_15 ?_
      generalize (wI w 36 (a1).toNatClampNeg) = v4
      refine r_iload_n 2 C dX6_isAt_16 rfl ?_
      refine r_icmp_ne 24 C dX6_isAt_17 (by decide) (fun c5 => ?_) (fun c5 => ?_)
      · have c5' := i_ne c5
        refine r_iconst (v := 0) C dX6_isAt_24 (by decide) ?_
        exact hret _ _ _ _ dX6_isAt_25 (nar_z (z_of (by omega))) ⟨h0, o0, by omega⟩
      · have c5' := i_eq c5
        refine r_iconst (v := 1) C dX6_isAt_20 (by decide) ?_
        refine r_goto 25 C dX6_isAt_21 (by decide) ?_
        exact hret _ _ _ _ dX6_isAt_25 (nar_z (z_of (by omega))) ⟨h0, o0, by omega⟩
set_option maxHeartbeats 4000000 in
set_option maxRecDepth 100000 in
theorem ctX6_isAt_88 (l : Launch) (G : Gt) (w : Wv) (sC : Str KC XC w) (o0 : Inv RC w) (a1 : Int32) (a2 : Int32) : CtI l G yX6_isAt cX6_isAt 3 .boolean ({ frames := 0, cells := 0, slots := 0, locals := 0 } : Room) [.ref (gz G + 88), .int a1, .int a2] w (fun r w' => Ch [] [] w w' ∧ Inv RC w' ∧ ((0 ≤ r.toInt ∧ r.toInt ≤ 1))) := by
  refine enterI (by decide) (Nat.le_of_ble_eq_true rfl) ?_
  intro x el eG C hret
  subst el; subst eG
  show V x 0 0 w 0 [(0, .ref (gz (xG x) + 88)), (1, .int a1), (2, .int a2)] []
  have h0 : Ch [] [] w w := Ch.rf
  have q0 : (0 : Int32).toInt = 0 := by decide
  have q1 : (1 : Int32).toInt = 1 := by decide
  have q6 : (6 : Int32).toInt = 6 := by decide
  refine r_iload_n 1 C dX6_isAt_0 rfl ?_
  refine r_if_lt 24 C dX6_isAt_1 (by decide) (fun c1 => ?_) (fun c1 => ?_)
  · have c1' := i_lt c1
    refine r_iconst (v := 0) C dX6_isAt_24 (by decide) ?_
    exact hret _ _ _ _ dX6_isAt_25 (nar_z (z_of (by omega))) ⟨h0, o0, by omega⟩
  · have c1' := i_nlt c1
    refine r_iload_n 1 C dX6_isAt_4 rfl ?_
    refine r_bipush (v := 6) C dX6_isAt_5 (by decide) ?_
    have k3 := i_rng a1
    refine r_icmp_ge 24 C dX6_isAt_7 (by decide) (fun c2 => ?_) (fun c2 => ?_)
    · have c2' := i_le c2
      refine r_iconst (v := 0) C dX6_isAt_24 (by decide) ?_
      exact hret _ _ _ _ dX6_isAt_25 (nar_z (z_of (by omega))) ⟨h0, o0, by omega⟩
    · have c2' := i_nle c2
      refine r_aload_n 0 C dX6_isAt_10 rfl ?_
      refine gfX6_9 89 C (kS sC h0 kc_88) (xS sC h0 xc_88_2) dX6_isAt_11 ?_
      refine r_iload_n 1 C dX6_isAt_14 rfl ?_
      refine r_iald C (kS sC h0 kc_89) (vin (by omega) (by omega)) dX6_isAt_15 ?_
      generalize (wI w 89 (a1).toNatClampNeg) = v4
      refine r_iload_n 2 C dX6_isAt_16 rfl ?_
      refine r_icmp_ne 24 C dX6_isAt_17 (by decide) (fun c5 => ?_) (fun c5 => ?_)
      · have c5' := i_ne c5
        refine r_iconst (v := 0) C dX6_isAt_24 (by decide) ?_
        exact hret _ _ _ _ dX6_isAt_25 (nar_z (z_of (by omega))) ⟨h0, o0, by omega⟩
      · have c5' := i_eq c5
        refine r_iconst (v := 1) C dX6_isAt_20 (by decide) ?_
        refine r_goto 25 C dX6_isAt_21 (by decide) ?_
        exact hret _ _ _ _ dX6_isAt_25 (nar_z (z_of (by omega))) ⟨h0, o0, by omega⟩
set_option maxHeartbeats 4000000 in
set_option maxRecDepth 100000 in
theorem ctX6_isAt_91 (l : Launch) (G : Gt) (w : Wv) (sC : Str KC XC w) (o0 : Inv RC w) (a1 : Int32) (a2 : Int32) : CtI l G yX6_isAt cX6_isAt 3 .boolean ({ frames := 0, cells := 0, slots := 0, locals := 0 } : Room) [.ref (gz G + 91), .int a1, .int a2] w (fun r w' => Ch [] [] w w' ∧ Inv RC w' ∧ ((0 ≤ r.toInt ∧ r.toInt ≤ 1))) := by
  refine enterI (by decide) (Nat.le_of_ble_eq_true rfl) ?_
  intro x el eG C hret
  subst el; subst eG
  show V x 0 0 w 0 [(0, .ref (gz (xG x) + 91)), (1, .int a1), (2, .int a2)] []
  have h0 : Ch [] [] w w := Ch.rf
  have q0 : (0 : Int32).toInt = 0 := by decide
  have q1 : (1 : Int32).toInt = 1 := by decide
  have q6 : (6 : Int32).toInt = 6 := by decide
  refine r_iload_n 1 C dX6_isAt_0 rfl ?_
  refine r_if_lt 24 C dX6_isAt_1 (by decide) (fun c1 => ?_) (fun c1 => ?_)
  · have c1' := i_lt c1
    refine r_iconst (v := 0) C dX6_isAt_24 (by decide) ?_
    exact hret _ _ _ _ dX6_isAt_25 (nar_z (z_of (by omega))) ⟨h0, o0, by omega⟩
  · have c1' := i_nlt c1
    refine r_iload_n 1 C dX6_isAt_4 rfl ?_
    refine r_bipush (v := 6) C dX6_isAt_5 (by decide) ?_
    have k3 := i_rng a1
    refine r_icmp_ge 24 C dX6_isAt_7 (by decide) (fun c2 => ?_) (fun c2 => ?_)
    · have c2' := i_le c2
      refine r_iconst (v := 0) C dX6_isAt_24 (by decide) ?_
      exact hret _ _ _ _ dX6_isAt_25 (nar_z (z_of (by omega))) ⟨h0, o0, by omega⟩
    · have c2' := i_nle c2
      refine r_aload_n 0 C dX6_isAt_10 rfl ?_
      refine gfX6_9 92 C (kS sC h0 kc_91) (xS sC h0 xc_91_2) dX6_isAt_11 ?_
      refine r_iload_n 1 C dX6_isAt_14 rfl ?_
      refine r_iald C (kS sC h0 kc_92) (vin (by omega) (by omega)) dX6_isAt_15 ?_
      generalize (wI w 92 (a1).toNatClampNeg) = v4
      refine r_iload_n 2 C dX6_isAt_16 rfl ?_
      refine r_icmp_ne 24 C dX6_isAt_17 (by decide) (fun c5 => ?_) (fun c5 => ?_)
      · have c5' := i_ne c5
        refine r_iconst (v := 0) C dX6_isAt_24 (by decide) ?_
        exact hret _ _ _ _ dX6_isAt_25 (nar_z (z_of (by omega))) ⟨h0, o0, by omega⟩
      · have c5' := i_eq c5
        refine r_iconst (v := 1) C dX6_isAt_20 (by decide) ?_
        refine r_goto 25 C dX6_isAt_21 (by decide) ?_
        exact hret _ _ _ _ dX6_isAt_25 (nar_z (z_of (by omega))) ⟨h0, o0, by omega⟩
set_option maxHeartbeats 4000000 in
set_option maxRecDepth 100000 in
theorem ctX6_isAt_94 (l : Launch) (G : Gt) (w : Wv) (sC : Str KC XC w) (o0 : Inv RC w) (a1 : Int32) (a2 : Int32) : CtI l G yX6_isAt cX6_isAt 3 .boolean ({ frames := 0, cells := 0, slots := 0, locals := 0 } : Room) [.ref (gz G + 94), .int a1, .int a2] w (fun r w' => Ch [] [] w w' ∧ Inv RC w' ∧ ((0 ≤ r.toInt ∧ r.toInt ≤ 1))) := by
  refine enterI (by decide) (Nat.le_of_ble_eq_true rfl) ?_
  intro x el eG C hret
  subst el; subst eG
  show V x 0 0 w 0 [(0, .ref (gz (xG x) + 94)), (1, .int a1), (2, .int a2)] []
  have h0 : Ch [] [] w w := Ch.rf
  have q0 : (0 : Int32).toInt = 0 := by decide
  have q1 : (1 : Int32).toInt = 1 := by decide
  have q6 : (6 : Int32).toInt = 6 := by decide
  refine r_iload_n 1 C dX6_isAt_0 rfl ?_
  refine r_if_lt 24 C dX6_isAt_1 (by decide) (fun c1 => ?_) (fun c1 => ?_)
  · have c1' := i_lt c1
    refine r_iconst (v := 0) C dX6_isAt_24 (by decide) ?_
    exact hret _ _ _ _ dX6_isAt_25 (nar_z (z_of (by omega))) ⟨h0, o0, by omega⟩
  · have c1' := i_nlt c1
    refine r_iload_n 1 C dX6_isAt_4 rfl ?_
    refine r_bipush (v := 6) C dX6_isAt_5 (by decide) ?_
    have k3 := i_rng a1
    refine r_icmp_ge 24 C dX6_isAt_7 (by decide) (fun c2 => ?_) (fun c2 => ?_)
    · have c2' := i_le c2
      refine r_iconst (v := 0) C dX6_isAt_24 (by decide) ?_
      exact hret _ _ _ _ dX6_isAt_25 (nar_z (z_of (by omega))) ⟨h0, o0, by omega⟩
    · have c2' := i_nle c2
      refine r_aload_n 0 C dX6_isAt_10 rfl ?_
      refine gfX6_9 95 C (kS sC h0 kc_94) (xS sC h0 xc_94_2) dX6_isAt_11 ?_
      refine r_iload_n 1 C dX6_isAt_14 rfl ?_
      refine r_iald C (kS sC h0 kc_95) (vin (by omega) (by omega)) dX6_isAt_15 ?_
      generalize (wI w 95 (a1).toNatClampNeg) = v4
      refine r_iload_n 2 C dX6_isAt_16 rfl ?_
      refine r_icmp_ne 24 C dX6_isAt_17 (by decide) (fun c5 => ?_) (fun c5 => ?_)
      · have c5' := i_ne c5
        refine r_iconst (v := 0) C dX6_isAt_24 (by decide) ?_
        exact hret _ _ _ _ dX6_isAt_25 (nar_z (z_of (by omega))) ⟨h0, o0, by omega⟩
      · have c5' := i_eq c5
        refine r_iconst (v := 1) C dX6_isAt_20 (by decide) ?_
        refine r_goto 25 C dX6_isAt_21 (by decide) ?_
        exact hret _ _ _ _ dX6_isAt_25 (nar_z (z_of (by omega))) ⟨h0, o0, by omega⟩
set_option maxHeartbeats 4000000 in
set_option maxRecDepth 100000 in
theorem ctX6_isAt_97 (l : Launch) (G : Gt) (w : Wv) (sC : Str KC XC w) (o0 : Inv RC w) (a1 : Int32) (a2 : Int32) : CtI l G yX6_isAt cX6_isAt 3 .boolean ({ frames := 0, cells := 0, slots := 0, locals := 0 } : Room) [.ref (gz G + 97), .int a1, .int a2] w (fun r w' => Ch [] [] w w' ∧ Inv RC w' ∧ ((0 ≤ r.toInt ∧ r.toInt ≤ 1))) := by
  refine enterI (by decide) (Nat.le_of_ble_eq_true rfl) ?_
  intro x el eG C hret
  subst el; subst eG
  show V x 0 0 w 0 [(0, .ref (gz (xG x) + 97)), (1, .int a1), (2, .int a2)] []
  have h0 : Ch [] [] w w := Ch.rf
  have q0 : (0 : Int32).toInt = 0 := by decide
  have q1 : (1 : Int32).toInt = 1 := by decide
  have q6 : (6 : Int32).toInt = 6 := by decide
  refine r_iload_n 1 C dX6_isAt_0 rfl ?_
  refine r_if_lt 24 C dX6_isAt_1 (by decide) (fun c1 => ?_) (fun c1 => ?_)
  · have c1' := i_lt c1
    refine r_iconst (v := 0) C dX6_isAt_24 (by decide) ?_
    exact hret _ _ _ _ dX6_isAt_25 (nar_z (z_of (by omega))) ⟨h0, o0, by omega⟩
  · have c1' := i_nlt c1
    refine r_iload_n 1 C dX6_isAt_4 rfl ?_
    refine r_bipush (v := 6) C dX6_isAt_5 (by decide) ?_
    have k3 := i_rng a1
    refine r_icmp_ge 24 C dX6_isAt_7 (by decide) (fun c2 => ?_) (fun c2 => ?_)
    · have c2' := i_le c2
      refine r_iconst (v := 0) C dX6_isAt_24 (by decide) ?_
      exact hret _ _ _ _ dX6_isAt_25 (nar_z (z_of (by omega))) ⟨h0, o0, by omega⟩
    · have c2' := i_nle c2
      refine r_aload_n 0 C dX6_isAt_10 rfl ?_
      refine gfX6_9 98 C (kS sC h0 kc_97) (xS sC h0 xc_97_2) dX6_isAt_11 ?_
      refine r_iload_n 1 C dX6_isAt_14 rfl ?_
      refine r_iald C (kS sC h0 kc_98) (vin (by omega) (by omega)) dX6_isAt_15 ?_
      generalize (wI w 98 (a1).toNatClampNeg) = v4
      refine r_iload_n 2 C dX6_isAt_16 rfl ?_
      refine r_icmp_ne 24 C dX6_isAt_17 (by decide) (fun c5 => ?_) (fun c5 => ?_)
      · have c5' := i_ne c5
        refine r_iconst (v := 0) C dX6_isAt_24 (by decide) ?_
        exact hret _ _ _ _ dX6_isAt_25 (nar_z (z_of (by omega))) ⟨h0, o0, by omega⟩
      · have c5' := i_eq c5
        refine r_iconst (v := 1) C dX6_isAt_20 (by decide) ?_
        refine r_goto 25 C dX6_isAt_21 (by decide) ?_
        exact hret _ _ _ _ dX6_isAt_25 (nar_z (z_of (by omega))) ⟨h0, o0, by omega⟩
set_option maxHeartbeats 4000000 in
set_option maxRecDepth 100000 in
theorem ctX6_isAt_100 (l : Launch) (G : Gt) (w : Wv) (sC : Str KC XC w) (o0 : Inv RC w) (a1 : Int32) (a2 : Int32) : CtI l G yX6_isAt cX6_isAt 3 .boolean ({ frames := 0, cells := 0, slots := 0, locals := 0 } : Room) [.ref (gz G + 100), .int a1, .int a2] w (fun r w' => Ch [] [] w w' ∧ Inv RC w' ∧ ((0 ≤ r.toInt ∧ r.toInt ≤ 1))) := by
  refine enterI (by decide) (Nat.le_of_ble_eq_true rfl) ?_
  intro x el eG C hret
  subst el; subst eG
  show V x 0 0 w 0 [(0, .ref (gz (xG x) + 100)), (1, .int a1), (2, .int a2)] []
  have h0 : Ch [] [] w w := Ch.rf
  have q0 : (0 : Int32).toInt = 0 := by decide
  have q1 : (1 : Int32).toInt = 1 := by decide
  have q6 : (6 : Int32).toInt = 6 := by decide
  refine r_iload_n 1 C dX6_isAt_0 rfl ?_
  refine r_if_lt 24 C dX6_isAt_1 (by decide) (fun c1 => ?_) (fun c1 => ?_)
  · have c1' := i_lt c1
    refine r_iconst (v := 0) C dX6_isAt_24 (by decide) ?_
    exact hret _ _ _ _ dX6_isAt_25 (nar_z (z_of (by omega))) ⟨h0, o0, by omega⟩
  · have c1' := i_nlt c1
    refine r_iload_n 1 C dX6_isAt_4 rfl ?_
    refine r_bipush (v := 6) C dX6_isAt_5 (by decide) ?_
    have k3 := i_rng a1
    refine r_icmp_ge 24 C dX6_isAt_7 (by decide) (fun c2 => ?_) (fun c2 => ?_)
    · have c2' := i_le c2
      refine r_iconst (v := 0) C dX6_isAt_24 (by decide) ?_
      exact hret _ _ _ _ dX6_isAt_25 (nar_z (z_of (by omega))) ⟨h0, o0, by omega⟩
    · have c2' := i_nle c2
      refine r_aload_n 0 C dX6_isAt_10 rfl ?_
      refine gfX6_9 101 C (kS sC h0 kc_100) (xS sC h0 xc_100_2) dX6_isAt_11 ?_
      refine r_iload_n 1 C dX6_isAt_14 rfl ?_
      refine r_iald C (kS sC h0 kc_101) (vin (by omega) (by omega)) dX6_isAt_15 ?_
      generalize (wI w 101 (a1).toNatClampNeg) = v4
      refine r_iload_n 2 C dX6_isAt_16 rfl ?_
      refine r_icmp_ne 24 C dX6_isAt_17 (by decide) (fun c5 => ?_) (fun c5 => ?_)
      · have c5' := i_ne c5
        refine r_iconst (v := 0) C dX6_isAt_24 (by decide) ?_
        exact hret _ _ _ _ dX6_isAt_25 (nar_z (z_of (by omega))) ⟨h0, o0, by omega⟩
      · have c5' := i_eq c5
        refine r_iconst (v := 1) C dX6_isAt_20 (by decide) ?_
        refine r_goto 25 C dX6_isAt_21 (by decide) ?_
        exact hret _ _ _ _ dX6_isAt_25 (nar_z (z_of (by omega))) ⟨h0, o0, by omega⟩
set_option maxHeartbeats 4000000 in
set_option maxRecDepth 100000 in
theorem ctX6_holds_35 (l : Launch) (G : Gt) (w : Wv) (sC : Str KC XC w) (o0 : Inv RC w) (a1 : Int32) : CtI l G yX6_holds cX6_holds 4 .boolean ({ frames := 2, cells := 0, slots := 0, locals := 44 } : Room) [.ref (gz G + 35), .int a1] w (fun r w' => Ch [] [] w w' ∧ Inv RC w' ∧ ((0 ≤ r.toInt ∧ r.toInt ≤ 1))) := by
  refine enterI (by decide) (Nat.le_of_ble_eq_true rfl) ?_
  intro x el eG C hret
  subst el; subst eG
  show V x 0 0 w 0 [(0, .ref (gz (xG x) + 35)), (1, .int a1)] []
  have h0 : Ch [] [] w w := Ch.rf
  have q0 : (0 : Int32).toInt = 0 := by decide
  have q1 : (1 : Int32).toInt = 1 := by decide
  have LP4 : ∀ (f5 : Nat) (u2 : Int32) (u3 : Int32) (w6 : Wv), Ch [] [] w w6 → Inv RC w6 → (0 ≤ u2.toInt ∧ u2.toInt ≤ 1) → (0 ≤ u3.toInt ∧ u3.toInt ≤ 2147483647) → 2147483647 - u3.toInt < f5 → V x 0 0 w6 16 [(0, .ref (gz (xG x) + 35)), (1, .int a1), (2, .int u2), (3, .int u3)] [] := by
    intro f5
    induction f5 with
    | zero => intro u2 u3 w6 h7 o8 z9 z10 z11; exfalso; omega
    | succ f5 ih12 =>
      intro u2 u3 w6 h7 o8 z9 z10 z11
      refine r_iload_n 3 C dX6_holds_16 rfl ?_
      refine r_aload_n 0 C dX6_holds_17 rfl ?_
      refine gfX6_18 3 C (kS sC h7 kc_35) (xS sC h7 xc_35_4) dX6_holds_18 ?_
      refine gfX6_39 (v := (wI w 3 3)) C (kS sC h7 kc_3) (h7.I (by decide) (by decide) rfl) dX6_holds_21 ?_
      have b13 := Inv.get o0 rt_3_3 (j := 3) (by decide) (by decide)
      have k15 := i_rng u3
      refine r_icmp_ge 60 C dX6_holds_24 (by decide) (fun c14 => ?_) (fun c14 => ?_)
      · have c14' := i_le c14
        refine r_iload_n 2 C dX6_holds_60 rfl ?_
        exact hret _ _ _ _ dX6_holds_61 (nar_z (z_of (by omega))) ⟨h7, o8, by omega⟩
      · have c14' := i_nle c14
        refine r_iload_n 2 C dX6_holds_27 rfl ?_
        refine r_if_ne 48 C dX6_holds_28 (by decide) (fun c16 => ?_) (fun c16 => ?_)
        · have c16' := i_ne c16
          refine r_iconst (v := 1) C dX6_holds_48 (by decide) ?_
          refine r_goto 53 C dX6_holds_49 (by decide) ?_
          refine r_istore_n [(2, .int 1), (0, .ref (gz (xG x) + 35)), (1, .int a1), (3, .int u3)] C dX6_holds_53 (by decide) rfl ?_
          obtain ⟨i17, e18⟩ : ∃ z : Int32, u3 + Int32.ofInt 1 = z := ⟨_, rfl⟩
          have i17' := iinc_ok e18 (by decide) (by omega) (by omega)
          refine r_iinc [(3, .int i17), (2, .int 1), (0, .ref (gz (xG x) + 35)), (1, .int a1)] 3 C dX6_holds_54 rfl e18 (by decide) rfl ?_
          refine r_goto 16 C dX6_holds_57 (by decide) ?_
          refine r_lv [2, 3, 1, 0] rfl ?_
          exact ih12 1 i17 w6 h7 o8 (by omega) (by omega) (by omega)
        · have c16' := i_eq c16
          refine r_aload_n 0 C dX6_holds_31 rfl ?_
          refine r_iload_n 3 C dX6_holds_32 rfl ?_
          refine r_iload_n 1 C dX6_holds_33 rfl ?_
          refine callVI C cwX6_91_V (ctX6_isAt_35 _ _ w6 (sS sC h7) o8 u3 a1 ) (by decide) (kS sC h7 kc_35) rfl rfl rfl (Nat.le_of_ble_eq_true rfl) (by decide) dX6_holds_34 (fun r21 w20 y19 => ?_)
          show V x 0 0 w20 37 [(0, .ref (gz (xG x) + 35)), (1, .int a1), (2, .int u2), (3, .int u3)] [.int r21]
          obtain ⟨h22, o23, g24⟩ := y19
          have h25 := Ch.tr h7 h22 (by decide) (by decide)
          refine r_if_eq 52 C dX6_holds_37 (by decide) (fun c26 => ?_) (fun c26 => ?_)
          · have c26' := i_eq c26
            refine r_iconst (v := 0) C dX6_holds_52 (by decide) ?_
            refine r_istore_n [(2, .int 0), (0, .ref (gz (xG x) + 35)), (1, .int a1), (3, .int u3)] C dX6_holds_53 (by decide) rfl ?_
            obtain ⟨i27, e28⟩ : ∃ z : Int32, u3 + Int32.ofInt 1 = z := ⟨_, rfl⟩
            have i27' := iinc_ok e28 (by decide) (by omega) (by omega)
            refine r_iinc [(3, .int i27), (2, .int 0), (0, .ref (gz (xG x) + 35)), (1, .int a1)] 3 C dX6_holds_54 rfl e28 (by decide) rfl ?_
            refine r_goto 16 C dX6_holds_57 (by decide) ?_
            refine r_lv [2, 3, 1, 0] rfl ?_
            exact ih12 0 i27 w20 h25 o23 (by omega) (by omega) (by omega)
          · have c26' := i_ne c26
            refine r_aload_n 0 C dX6_holds_40 rfl ?_
            refine r_iload_n 3 C dX6_holds_41 rfl ?_
            refine callVI C cwX6_66_V (ctX6_isHere_35 _ _ w20 (sS sC h25) o23 u3 ) (by decide) (kS sC h25 kc_35) rfl rfl rfl (Nat.le_of_ble_eq_true rfl) (by decide) dX6_holds_42 (fun r31 w30 y29 => ?_)
            show V x 0 0 w30 45 [(0, .ref (gz (xG x) + 35)), (1, .int a1), (2, .int u2), (3, .int u3)] [.int r31]
            obtain ⟨h32, o33, g34⟩ := y29
            have h35 := Ch.tr h25 h32 (by decide) (by decide)
            refine r_if_eq 52 C dX6_holds_45 (by decide) (fun c36 => ?_) (fun c36 => ?_)
            · have c36' := i_eq c36
              refine r_iconst (v := 0) C dX6_holds_52 (by decide) ?_
              refine r_istore_n [(2, .int 0), (0, .ref (gz (xG x) + 35)), (1, .int a1), (3, .int u3)] C dX6_holds_53 (by decide) rfl ?_
              obtain ⟨i37, e38⟩ : ∃ z : Int32, u3 + Int32.ofInt 1 = z := ⟨_, rfl⟩
              have i37' := iinc_ok e38 (by decide) (by omega) (by omega)
              refine r_iinc [(3, .int i37), (2, .int 0), (0, .ref (gz (xG x) + 35)), (1, .int a1)] 3 C dX6_holds_54 rfl e38 (by decide) rfl ?_
              refine r_goto 16 C dX6_holds_57 (by decide) ?_
              refine r_lv [2, 3, 1, 0] rfl ?_
              exact ih12 0 i37 w30 h35 o33 (by omega) (by omega) (by omega)
            · have c36' := i_ne c36
              refine r_iconst (v := 1) C dX6_holds_48 (by decide) ?_
              refine r_goto 53 C dX6_holds_49 (by decide) ?_
              refine r_istore_n [(2, .int 1), (0, .ref (gz (xG x) + 35)), (1, .int a1), (3, .int u3)] C dX6_holds_53 (by decide) rfl ?_
              obtain ⟨i39, e40⟩ : ∃ z : Int32, u3 + Int32.ofInt 1 = z := ⟨_, rfl⟩
              have i39' := iinc_ok e40 (by decide) (by omega) (by omega)
              refine r_iinc [(3, .int i39), (2, .int 1), (0, .ref (gz (xG x) + 35)), (1, .int a1)] 3 C dX6_holds_54 rfl e40 (by decide) rfl ?_
              refine r_goto 16 C dX6_holds_57 (by decide) ?_
              refine r_lv [2, 3, 1, 0] rfl ?_
              exact ih12 1 i39 w30 h35 o33 (by omega) (by omega) (by omega)
  refine r_aload_n 0 C dX6_holds_0 rfl ?_
  refine gfX6_32 (v := (wI w 35 0)) C (kS sC h0 kc_35) rfl dX6_holds_1 ?_
  refine r_iload_n 1 C dX6_holds_4 rfl ?_
  refine r_icmp_ne 12 C dX6_holds_5 (by decide) (fun c1 => ?_) (fun c1 => ?_)
  · have c1' := i_ne c1
    refine r_iconst (v := 0) C dX6_holds_12 (by decide) ?_
    refine r_istore_n [(2, .int 0), (0, .ref (gz (xG x) + 35)), (1, .int a1)] C dX6_holds_13 (by decide) rfl ?_
    refine r_iconst (v := 0) C dX6_holds_14 (by decide) ?_
    refine r_istore_n [(3, .int 0), (2, .int 0), (0, .ref (gz (xG x) + 35)), (1, .int a1)] C dX6_holds_15 (by decide) rfl ?_
    refine r_lv [2, 3, 1, 0] rfl ?_
    exact LP4 4294967296 0 0 w h0 o0 (by omega) (by omega) (by omega)
  · have c1' := i_eq c1
    refine r_iconst (v := 1) C dX6_holds_8 (by decide) ?_
    refine r_goto 13 C dX6_holds_9 (by decide) ?_
    refine r_istore_n [(2, .int 1), (0, .ref (gz (xG x) + 35)), (1, .int a1)] C dX6_holds_13 (by decide) rfl ?_
    refine r_iconst (v := 0) C dX6_holds_14 (by decide) ?_
    refine r_istore_n [(3, .int 0), (2, .int 1), (0, .ref (gz (xG x) + 35)), (1, .int a1)] C dX6_holds_15 (by decide) rfl ?_
    refine r_lv [2, 3, 1, 0] rfl ?_
    exact LP4 4294967296 1 0 w h0 o0 (by omega) (by omega) (by omega)
set_option maxHeartbeats 4000000 in
set_option maxRecDepth 100000 in
theorem ctX6_heads_35 (l : Launch) (G : Gt) (w : Wv) (sC : Str KC XC w) (o0 : Inv RC w) (a1 : Int32) (a2 : Int32) : CtI l G yX6_heads cX6_heads 5 .int ({ frames := 1, cells := 0, slots := 0, locals := 23 } : Room) [.ref (gz G + 35), .int a1, .int a2] w (fun r w' => Ch [] [] w w' ∧ Inv RC w') := by
  refine enterI (by decide) (Nat.le_of_ble_eq_true rfl) ?_
  intro x el eG C hret
  subst el; subst eG
  show V x 0 0 w 0 [(0, .ref (gz (xG x) + 35)), (1, .int a1), (2, .int a2)] []
  have h0 : Ch [] [] w w := Ch.rf
  have qm1 : ((-1) : Int32).toInt = (-1) := by decide
  have q0 : (0 : Int32).toInt = 0 := by decide
  have LP3 : ∀ (f4 : Nat) (u1 : Int32) (u2 : Int32) (w5 : Wv), Ch [] [] w w5 → Inv RC w5 → (0 ≤ u2.toInt ∧ u2.toInt ≤ 2147483647) → 2147483647 - u2.toInt < f4 → V x 0 0 w5 5 [(0, .ref (gz (xG x) + 35)), (1, .int a1), (2, .int a2), (3, .int u1), (4, .int u2)] [] := by
    intro f4
    induction f4 with
    | zero => intro u1 u2 w5 h6 o7 z8 z9; exfalso; omega
    | succ f4 ih10 =>
      intro u1 u2 w5 h6 o7 z8 z9
      refine r_iload 4 C dX6_heads_5 rfl ?_
      refine r_aload_n 0 C dX6_heads_7 rfl ?_
      refine gfX6_18 3 C (kS sC h6 kc_35) (xS sC h6 xc_35_4) dX6_heads_8 ?_
      refine gfX6_39 (v := (wI w 3 3)) C (kS sC h6 kc_3) (h6.I (by decide) (by decide) rfl) dX6_heads_11 ?_
      have b11 := Inv.get o0 rt_3_3 (j := 3) (by decide) (by decide)
      have k13 := i_rng u2
      refine r_icmp_ge 64 C dX6_heads_14 (by decide) (fun c12 => ?_) (fun c12 => ?_)
      · have c12' := i_le c12
        refine r_iload_n 3 C dX6_heads_64 rfl ?_
        exact hret _ _ _ _ dX6_heads_65 rfl ⟨h6, o7⟩
      · have c12' := i_nle c12
        refine r_iload_n 1 C dX6_heads_17 rfl ?_
        refine r_iconst (v := (-1)) C dX6_heads_18 (by decide) ?_
        refine r_icmp_eq 36 C dX6_heads_19 (by decide) (fun c14 => ?_) (fun c14 => ?_)
        · have c14' := i_eq c14
          refine r_aload_n 0 C dX6_heads_36 rfl ?_
          refine r_iload 4 C dX6_heads_37 rfl ?_
          refine callVI C cwX6_82_V (ctX6_fate_35 _ _ w5 (sS sC h6) o7 u2 ) (by decide) (kS sC h6 kc_35) rfl rfl rfl (Nat.le_of_ble_eq_true rfl) (by decide) dX6_heads_39 (fun r17 w16 y15 => ?_)
          show V x 0 0 w16 42 [(0, .ref (gz (xG x) + 35)), (1, .int a1), (2, .int a2), (3, .int u1), (4, .int u2)] [.int r17]
          obtain ⟨h18, o19⟩ := y15
          have h20 := Ch.tr h6 h18 (by decide) (by decide)
          refine r_iload_n 2 C dX6_heads_42 rfl ?_
          refine r_icmp_ne 58 C dX6_heads_43 (by decide) (fun c21 => ?_) (fun c21 => ?_)
          · have c21' := i_ne c21
            obtain ⟨i22, e23⟩ : ∃ z : Int32, u2 + Int32.ofInt 1 = z := ⟨_, rfl⟩
            have i22' := iinc_ok e23 (by decide) (by omega) (by omega)
            refine r_iinc [(4, .int i22), (0, .ref (gz (xG x) + 35)), (1, .int a1), (2, .int a2), (3, .int u1)] 4 C dX6_heads_58 rfl e23 (by decide) rfl ?_
            refine r_goto 5 C dX6_heads_61 (by decide) ?_
            refine r_lv [1, 2, 3, 4, 0] rfl ?_
            exact ih10 u1 i22 w16 h20 o19 (by omega) (by omega)
          · have c21' := i_eq c21
            refine r_iload_n 3 C dX6_heads_46 rfl ?_
            refine r_aload_n 0 C dX6_heads_47 rfl ?_
            refine gfX6_18 3 C (kS sC h20 kc_35) (xS sC h20 xc_35_4) dX6_heads_48 ?_
            refine r_iload 4 C dX6_heads_51 rfl ?_
            refine callVI C cwX6_88_V (ctX9_followers_3 _ _ w16 (sS sC h20) o19 u2 ) (by decide) (kS sC h20 kc_3) rfl rfl rfl (Nat.le_of_ble_eq_true rfl) (by decide) dX6_heads_53 (fun r26 w25 y24 => ?_)
            show V x 0 0 w25 56 [(0, .ref (gz (xG x) + 35)), (1, .int a1), (2, .int a2), (3, .int u1), (4, .int u2)] [.int r26, .int u1]
            obtain ⟨h27, o28⟩ := y24
            have h29 := Ch.tr h20 h27 (by decide) (by decide)
            refine r_iadd C dX6_heads_56 (fun v30 e31 => ?_)
            refine r_istore_n [(3, .int v30), (0, .ref (gz (xG x) + 35)), (1, .int a1), (2, .int a2), (4, .int u2)] C dX6_heads_57 (by decide) rfl ?_
            obtain ⟨i32, e33⟩ : ∃ z : Int32, u2 + Int32.ofInt 1 = z := ⟨_, rfl⟩
            have i32' := iinc_ok e33 (by decide) (by omega) (by omega)
            refine r_iinc [(4, .int i32), (3, .int v30), (0, .ref (gz (xG x) + 35)), (1, .int a1), (2, .int a2)] 4 C dX6_heads_58 rfl e33 (by decide) rfl ?_
            refine r_goto 5 C dX6_heads_61 (by decide) ?_
            refine r_lv [2, 3, 4, 1, 0] rfl ?_
            exact ih10 v30 i32 w25 h29 o28 (by omega) (by omega)
        · have c14' := i_ne c14
          refine r_aload_n 0 C dX6_heads_22 rfl ?_
          refine gfX6_18 3 C (kS sC h6 kc_35) (xS sC h6 xc_35_4) dX6_heads_23 ?_
          refine gfX6_94 5 C (kS sC h6 kc_3) (xS sC h6 xc_3_10) dX6_heads_26 ?_
          refine r_iload 4 C dX6_heads_29 rfl ?_
          refine r_iald C (kS sC h6 kc_5) (vin (by omega) (by omega)) dX6_heads_31 ?_
          generalize (wI w5 5 (u2).toNatClampNeg) = v34
          refine r_iload_n 1 C dX6_heads_32 rfl ?_
          refine r_icmp_ne 58 C dX6_heads_33 (by decide) (fun c35 => ?_) (fun c35 => ?_)
          · have c35' := i_ne c35
            obtain ⟨i36, e37⟩ : ∃ z : Int32, u2 + Int32.ofInt 1 = z := ⟨_, rfl⟩
            have i36' := iinc_ok e37 (by decide) (by omega) (by omega)
            refine r_iinc [(4, .int i36), (0, .ref (gz (xG x) + 35)), (1, .int a1), (2, .int a2), (3, .int u1)] 4 C dX6_heads_58 rfl e37 (by decide) rfl ?_
            refine r_goto 5 C dX6_heads_61 (by decide) ?_
            refine r_lv [1, 2, 3, 4, 0] rfl ?_
            exact ih10 u1 i36 w5 h6 o7 (by omega) (by omega)
          · have c35' := i_eq c35
            refine r_aload_n 0 C dX6_heads_36 rfl ?_
            refine r_iload 4 C dX6_heads_37 rfl ?_
            refine callVI C cwX6_82_V (ctX6_fate_35 _ _ w5 (sS sC h6) o7 u2 ) (by decide) (kS sC h6 kc_35) rfl rfl rfl (Nat.le_of_ble_eq_true rfl) (by decide) dX6_heads_39 (fun r40 w39 y38 => ?_)
            show V x 0 0 w39 42 [(0, .ref (gz (xG x) + 35)), (1, .int a1), (2, .int a2), (3, .int u1), (4, .int u2)] [.int r40]
            obtain ⟨h41, o42⟩ := y38
            have h43 := Ch.tr h6 h41 (by decide) (by decide)
            refine r_iload_n 2 C dX6_heads_42 rfl ?_
            refine r_icmp_ne 58 C dX6_heads_43 (by decide) (fun c44 => ?_) (fun c44 => ?_)
            · have c44' := i_ne c44
              obtain ⟨i45, e46⟩ : ∃ z : Int32, u2 + Int32.ofInt 1 = z := ⟨_, rfl⟩
              have i45' := iinc_ok e46 (by decide) (by omega) (by omega)
              refine r_iinc [(4, .int i45), (0, .ref (gz (xG x) + 35)), (1, .int a1), (2, .int a2), (3, .int u1)] 4 C dX6_heads_58 rfl e46 (by decide) rfl ?_
              refine r_goto 5 C dX6_heads_61 (by decide) ?_
              refine r_lv [1, 2, 3, 4, 0] rfl ?_
              exact ih10 u1 i45 w39 h43 o42 (by omega) (by omega)
            · have c44' := i_eq c44
              refine r_iload_n 3 C dX6_heads_46 rfl ?_
              refine r_aload_n 0 C dX6_heads_47 rfl ?_
              refine gfX6_18 3 C (kS sC h43 kc_35) (xS sC h43 xc_35_4) dX6_heads_48 ?_
              refine r_iload 4 C dX6_heads_51 rfl ?_
              refine callVI C cwX6_88_V (ctX9_followers_3 _ _ w39 (sS sC h43) o42 u2 ) (by decide) (kS sC h43 kc_3) rfl rfl rfl (Nat.le_of_ble_eq_true rfl) (by decide) dX6_heads_53 (fun r49 w48 y47 => ?_)
              show V x 0 0 w48 56 [(0, .ref (gz (xG x) + 35)), (1, .int a1), (2, .int a2), (3, .int u1), (4, .int u2)] [.int r49, .int u1]
              obtain ⟨h50, o51⟩ := y47
              have h52 := Ch.tr h43 h50 (by decide) (by decide)
              refine r_iadd C dX6_heads_56 (fun v53 e54 => ?_)
              refine r_istore_n [(3, .int v53), (0, .ref (gz (xG x) + 35)), (1, .int a1), (2, .int a2), (4, .int u2)] C dX6_heads_57 (by decide) rfl ?_
              obtain ⟨i55, e56⟩ : ∃ z : Int32, u2 + Int32.ofInt 1 = z := ⟨_, rfl⟩
              have i55' := iinc_ok e56 (by decide) (by omega) (by omega)
              refine r_iinc [(4, .int i55), (3, .int v53), (0, .ref (gz (xG x) + 35)), (1, .int a1), (2, .int a2)] 4 C dX6_heads_58 rfl e56 (by decide) rfl ?_
              refine r_goto 5 C dX6_heads_61 (by decide) ?_
              refine r_lv [2, 3, 4, 1, 0] rfl ?_
              exact ih10 v53 i55 w48 h52 o51 (by omega) (by omega)
  refine r_iconst (v := 0) C dX6_heads_0 (by decide) ?_
  refine r_istore_n [(3, .int 0), (0, .ref (gz (xG x) + 35)), (1, .int a1), (2, .int a2)] C dX6_heads_1 (by decide) rfl ?_
  refine r_iconst (v := 0) C dX6_heads_2 (by decide) ?_
  refine r_istore [(4, .int 0), (3, .int 0), (0, .ref (gz (xG x) + 35)), (1, .int a1), (2, .int a2)] C dX6_heads_3 (by decide) rfl ?_
  refine r_lv [2, 3, 4, 1, 0] rfl ?_
  exact LP3 4294967296 0 0 w h0 o0 (by omega) (by omega)
set_option maxHeartbeats 4000000 in
set_option maxRecDepth 100000 in
theorem ctX6_heads_38 (l : Launch) (G : Gt) (w : Wv) (sC : Str KC XC w) (o0 : Inv RC w) (a1 : Int32) (a2 : Int32) : CtI l G yX6_heads cX6_heads 5 .int ({ frames := 1, cells := 0, slots := 0, locals := 23 } : Room) [.ref (gz G + 38), .int a1, .int a2] w (fun r w' => Ch [] [] w w' ∧ Inv RC w') := by
  refine enterI (by decide) (Nat.le_of_ble_eq_true rfl) ?_
  intro x el eG C hret
  subst el; subst eG
  show V x 0 0 w 0 [(0, .ref (gz (xG x) + 38)), (1, .int a1), (2, .int a2)] []
  have h0 : Ch [] [] w w := Ch.rf
  have qm1 : ((-1) : Int32).toInt = (-1) := by decide
  have q0 : (0 : Int32).toInt = 0 := by decide
  have LP3 : ∀ (f4 : Nat) (u1 : Int32) (u2 : Int32) (w5 : Wv), Ch [] [] w w5 → Inv RC w5 → (0 ≤ u2.toInt ∧ u2.toInt ≤ 2147483647) → 2147483647 - u2.toInt < f4 → V x 0 0 w5 5 [(0, .ref (gz (xG x) + 38)), (1, .int a1), (2, .int a2), (3, .int u1), (4, .int u2)] [] := by
    intro f4
    induction f4 with
    | zero => intro u1 u2 w5 h6 o7 z8 z9; exfalso; omega
    | succ f4 ih10 =>
      intro u1 u2 w5 h6 o7 z8 z9
      refine r_iload 4 C dX6_heads_5 rfl ?_
      refine r_aload_n 0 C dX6_heads_7 rfl ?_
      refine gfX6_18 3 C (kS sC h6 kc_38) (xS sC h6 xc_38_4) dX6_heads_8 ?_
      refine gfX6_39 (v := (wI w 3 3)) C (kS sC h6 kc_3) (h6.I (by decide) (by decide) rfl) dX6_heads_11 ?_
      have b11 := Inv.get o0 rt_3_3 (j := 3) (by decide) (by decide)
      have k13 := i_rng u2
      refine r_icmp_ge 64 C dX6_heads_14 (by decide) (fun c12 => ?_) (fun c12 => ?_)
      · have c12' := i_le c12
        refine r_iload_n 3 C dX6_heads_64 rfl ?_
        exact hret _ _ _ _ dX6_heads_65 rfl ⟨h6, o7⟩
      · have c12' := i_nle c12
        refine r_iload_n 1 C dX6_heads_17 rfl ?_
        refine r_iconst (v := (-1)) C dX6_heads_18 (by decide) ?_
        refine r_icmp_eq 36 C dX6_heads_19 (by decide) (fun c14 => ?_) (fun c14 => ?_)
        · have c14' := i_eq c14
          refine r_aload_n 0 C dX6_heads_36 rfl ?_
          refine r_iload 4 C dX6_heads_37 rfl ?_
          refine callVI C cwX6_82_V (ctX6_fate_38 _ _ w5 (sS sC h6) o7 u2 ) (by decide) (kS sC h6 kc_38) rfl rfl rfl (Nat.le_of_ble_eq_true rfl) (by decide) dX6_heads_39 (fun r17 w16 y15 => ?_)
          show V x 0 0 w16 42 [(0, .ref (gz (xG x) + 38)), (1, .int a1), (2, .int a2), (3, .int u1), (4, .int u2)] [.int r17]
          obtain ⟨h18, o19⟩ := y15
          have h20 := Ch.tr h6 h18 (by decide) (by decide)
          refine r_iload_n 2 C dX6_heads_42 rfl ?_
          refine r_icmp_ne 58 C dX6_heads_43 (by decide) (fun c21 => ?_) (fun c21 => ?_)
          · have c21' := i_ne c21
            obtain ⟨i22, e23⟩ : ∃ z : Int32, u2 + Int32.ofInt 1 = z := ⟨_, rfl⟩
            have i22' := iinc_ok e23 (by decide) (by omega) (by omega)
            refine r_iinc [(4, .int i22), (0, .ref (gz (xG x) + 38)), (1, .int a1), (2, .int a2), (3, .int u1)] 4 C dX6_heads_58 rfl e23 (by decide) rfl ?_
            refine r_goto 5 C dX6_heads_61 (by decide) ?_
            refine r_lv [1, 2, 3, 4, 0] rfl ?_
            exact ih10 u1 i22 w16 h20 o19 (by omega) (by omega)
          · have c21' := i_eq c21
            refine r_iload_n 3 C dX6_heads_46 rfl ?_
            refine r_aload_n 0 C dX6_heads_47 rfl ?_
            refine gfX6_18 3 C (kS sC h20 kc_38) (xS sC h20 xc_38_4) dX6_heads_48 ?_
            refine r_iload 4 C dX6_heads_51 rfl ?_
            refine callVI C cwX6_88_V (ctX9_followers_3 _ _ w16 (sS sC h20) o19 u2 ) (by decide) (kS sC h20 kc_3) rfl rfl rfl (Nat.le_of_ble_eq_true rfl) (by decide) dX6_heads_53 (fun r26 w25 y24 => ?_)
            show V x 0 0 w25 56 [(0, .ref (gz (xG x) + 38)), (1, .int a1), (2, .int a2), (3, .int u1), (4, .int u2)] [.int r26, .int u1]
            obtain ⟨h27, o28⟩ := y24
            have h29 := Ch.tr h20 h27 (by decide) (by decide)
            refine r_iadd C dX6_heads_56 (fun v30 e31 => ?_)
            refine r_istore_n [(3, .int v30), (0, .ref (gz (xG x) + 38)), (1, .int a1), (2, .int a2), (4, .int u2)] C dX6_heads_57 (by decide) rfl ?_
            obtain ⟨i32, e33⟩ : ∃ z : Int32, u2 + Int32.ofInt 1 = z := ⟨_, rfl⟩
            have i32' := iinc_ok e33 (by decide) (by omega) (by omega)
            refine r_iinc [(4, .int i32), (3, .int v30), (0, .ref (gz (xG x) + 38)), (1, .int a1), (2, .int a2)] 4 C dX6_heads_58 rfl e33 (by decide) rfl ?_
            refine r_goto 5 C dX6_heads_61 (by decide) ?_
            refine r_lv [2, 3, 4, 1, 0] rfl ?_
            exact ih10 v30 i32 w25 h29 o28 (by omega) (by omega)
        · have c14' := i_ne c14
          refine r_aload_n 0 C dX6_heads_22 rfl ?_
          refine gfX6_18 3 C (kS sC h6 kc_38) (xS sC h6 xc_38_4) dX6_heads_23 ?_
          refine gfX6_94 5 C (kS sC h6 kc_3) (xS sC h6 xc_3_10) dX6_heads_26 ?_
          refine r_iload 4 C dX6_heads_29 rfl ?_
          refine r_iald C (kS sC h6 kc_5) (vin (by omega) (by omega)) dX6_heads_31 ?_
          generalize (wI w5 5 (u2).toNatClampNeg) = v34
          refine r_iload_n 1 C dX6_heads_32 rfl ?_
          refine r_icmp_ne 58 C dX6_heads_33 (by decide) (fun c35 => ?_) (fun c35 => ?_)
          · have c35' := i_ne c35
            obtain ⟨i36, e37⟩ : ∃ z : Int32, u2 + Int32.ofInt 1 = z := ⟨_, rfl⟩
            have i36' := iinc_ok e37 (by decide) (by omega) (by omega)
            refine r_iinc [(4, .int i36), (0, .ref (gz (xG x) + 38)), (1, .int a1), (2, .int a2), (3, .int u1)] 4 C dX6_heads_58 rfl e37 (by decide) rfl ?_
            refine r_goto 5 C dX6_heads_61 (by decide) ?_
            refine r_lv [1, 2, 3, 4, 0] rfl ?_
            exact ih10 u1 i36 w5 h6 o7 (by omega) (by omega)
          · have c35' := i_eq c35
            refine r_aload_n 0 C dX6_heads_36 rfl ?_
            refine r_iload 4 C dX6_heads_37 rfl ?_
            refine callVI C cwX6_82_V (ctX6_fate_38 _ _ w5 (sS sC h6) o7 u2 ) (by decide) (kS sC h6 kc_38) rfl rfl rfl (Nat.le_of_ble_eq_true rfl) (by decide) dX6_heads_39 (fun r40 w39 y38 => ?_)
            show V x 0 0 w39 42 [(0, .ref (gz (xG x) + 38)), (1, .int a1), (2, .int a2), (3, .int u1), (4, .int u2)] [.int r40]
            obtain ⟨h41, o42⟩ := y38
            have h43 := Ch.tr h6 h41 (by decide) (by decide)
            refine r_iload_n 2 C dX6_heads_42 rfl ?_
            refine r_icmp_ne 58 C dX6_heads_43 (by decide) (fun c44 => ?_) (fun c44 => ?_)
            · have c44' := i_ne c44
              obtain ⟨i45, e46⟩ : ∃ z : Int32, u2 + Int32.ofInt 1 = z := ⟨_, rfl⟩
              have i45' := iinc_ok e46 (by decide) (by omega) (by omega)
              refine r_iinc [(4, .int i45), (0, .ref (gz (xG x) + 38)), (1, .int a1), (2, .int a2), (3, .int u1)] 4 C dX6_heads_58 rfl e46 (by decide) rfl ?_
              refine r_goto 5 C dX6_heads_61 (by decide) ?_
              refine r_lv [1, 2, 3, 4, 0] rfl ?_
              exact ih10 u1 i45 w39 h43 o42 (by omega) (by omega)
            · have c44' := i_eq c44
              refine r_iload_n 3 C dX6_heads_46 rfl ?_
              refine r_aload_n 0 C dX6_heads_47 rfl ?_
              refine gfX6_18 3 C (kS sC h43 kc_38) (xS sC h43 xc_38_4) dX6_heads_48 ?_
              refine r_iload 4 C dX6_heads_51 rfl ?_
              refine callVI C cwX6_88_V (ctX9_followers_3 _ _ w39 (sS sC h43) o42 u2 ) (by decide) (kS sC h43 kc_3) rfl rfl rfl (Nat.le_of_ble_eq_true rfl) (by decide) dX6_heads_53 (fun r49 w48 y47 => ?_)
              show V x 0 0 w48 56 [(0, .ref (gz (xG x) + 38)), (1, .int a1), (2, .int a2), (3, .int u1), (4, .int u2)] [.int r49, .int u1]
              obtain ⟨h50, o51⟩ := y47
              have h52 := Ch.tr h43 h50 (by decide) (by decide)
              refine r_iadd C dX6_heads_56 (fun v53 e54 => ?_)
              refine r_istore_n [(3, .int v53), (0, .ref (gz (xG x) + 38)), (1, .int a1), (2, .int a2), (4, .int u2)] C dX6_heads_57 (by decide) rfl ?_
              obtain ⟨i55, e56⟩ : ∃ z : Int32, u2 + Int32.ofInt 1 = z := ⟨_, rfl⟩
              have i55' := iinc_ok e56 (by decide) (by omega) (by omega)
              refine r_iinc [(4, .int i55), (3, .int v53), (0, .ref (gz (xG x) + 38)), (1, .int a1), (2, .int a2)] 4 C dX6_heads_58 rfl e56 (by decide) rfl ?_
              refine r_goto 5 C dX6_heads_61 (by decide) ?_
              refine r_lv [2, 3, 4, 1, 0] rfl ?_
              exact ih10 v53 i55 w48 h52 o51 (by omega) (by omega)
  refine r_iconst (v := 0) C dX6_heads_0 (by decide) ?_
  refine r_istore_n [(3, .int 0), (0, .ref (gz (xG x) + 38)), (1, .int a1), (2, .int a2)] C dX6_heads_1 (by decide) rfl ?_
  refine r_iconst (v := 0) C dX6_heads_2 (by decide) ?_
  refine r_istore [(4, .int 0), (3, .int 0), (0, .ref (gz (xG x) + 38)), (1, .int a1), (2, .int a2)] C dX6_heads_3 (by decide) rfl ?_
  refine r_lv [2, 3, 4, 1, 0] rfl ?_
  exact LP3 4294967296 0 0 w h0 o0 (by omega) (by omega)
set_option maxHeartbeats 4000000 in
set_option maxRecDepth 100000 in
theorem ctX6_heads_41 (l : Launch) (G : Gt) (w : Wv) (sC : Str KC XC w) (o0 : Inv RC w) (a1 : Int32) (a2 : Int32) : CtI l G yX6_heads cX6_heads 5 .int ({ frames := 1, cells := 0, slots := 0, locals := 23 } : Room) [.ref (gz G + 41), .int a1, .int a2] w (fun r w' => Ch [] [] w w' ∧ Inv RC w') := by
  refine enterI (by decide) (Nat.le_of_ble_eq_true rfl) ?_
  intro x el eG C hret
  subst el; subst eG
  show V x 0 0 w 0 [(0, .ref (gz (xG x) + 41)), (1, .int a1), (2, .int a2)] []
  have h0 : Ch [] [] w w := Ch.rf
  have qm1 : ((-1) : Int32).toInt = (-1) := by decide
  have q0 : (0 : Int32).toInt = 0 := by decide
  have LP3 : ∀ (f4 : Nat) (u1 : Int32) (u2 : Int32) (w5 : Wv), Ch [] [] w w5 → Inv RC w5 → (0 ≤ u2.toInt ∧ u2.toInt ≤ 2147483647) → 2147483647 - u2.toInt < f4 → V x 0 0 w5 5 [(0, .ref (gz (xG x) + 41)), (1, .int a1), (2, .int a2), (3, .int u1), (4, .int u2)] [] := by
    intro f4
    induction f4 with
    | zero => intro u1 u2 w5 h6 o7 z8 z9; exfalso; omega
    | succ f4 ih10 =>
      intro u1 u2 w5 h6 o7 z8 z9
      refine r_iload 4 C dX6_heads_5 rfl ?_
      refine r_aload_n 0 C dX6_heads_7 rfl ?_
      refine gfX6_18 3 C (kS sC h6 kc_41) (xS sC h6 xc_41_4) dX6_heads_8 ?_
      refine gfX6_39 (v := (wI w 3 3)) C (kS sC h6 kc_3) (h6.I (by decide) (by decide) rfl) dX6_heads_11 ?_
      have b11 := Inv.get o0 rt_3_3 (j := 3) (by decide) (by decide)
      have k13 := i_rng u2
      refine r_icmp_ge 64 C dX6_heads_14 (by decide) (fun c12 => ?_) (fun c12 => ?_)
      · have c12' := i_le c12
        refine r_iload_n 3 C dX6_heads_64 rfl ?_
        exact hret _ _ _ _ dX6_heads_65 rfl ⟨h6, o7⟩
      · have c12' := i_nle c12
        refine r_iload_n 1 C dX6_heads_17 rfl ?_
        refine r_iconst (v := (-1)) C dX6_heads_18 (by decide) ?_
        refine r_icmp_eq 36 C dX6_heads_19 (by decide) (fun c14 => ?_) (fun c14 => ?_)
        · have c14' := i_eq c14
          refine r_aload_n 0 C dX6_heads_36 rfl ?_
          refine r_iload 4 C dX6_heads_37 rfl ?_
          refine callVI C cwX6_82_V (ctX6_fate_41 _ _ w5 (sS sC h6) o7 u2 ) (by decide) (kS sC h6 kc_41) rfl rfl rfl (Nat.le_of_ble_eq_true rfl) (by decide) dX6_heads_39 (fun r17 w16 y15 => ?_)
          show V x 0 0 w16 42 [(0, .ref (gz (xG x) + 41)), (1, .int a1), (2, .int a2), (3, .int u1), (4, .int u2)] [.int r17]
          obtain ⟨h18, o19⟩ := y15
          have h20 := Ch.tr h6 h18 (by decide) (by decide)
          refine r_iload_n 2 C dX6_heads_42 rfl ?_
          refine r_icmp_ne 58 C dX6_heads_43 (by decide) (fun c21 => ?_) (fun c21 => ?_)
          · have c21' := i_ne c21
            obtain ⟨i22, e23⟩ : ∃ z : Int32, u2 + Int32.ofInt 1 = z := ⟨_, rfl⟩
            have i22' := iinc_ok e23 (by decide) (by omega) (by omega)
            refine r_iinc [(4, .int i22), (0, .ref (gz (xG x) + 41)), (1, .int a1), (2, .int a2), (3, .int u1)] 4 C dX6_heads_58 rfl e23 (by decide) rfl ?_
            refine r_goto 5 C dX6_heads_61 (by decide) ?_
            refine r_lv [1, 2, 3, 4, 0] rfl ?_
            exact ih10 u1 i22 w16 h20 o19 (by omega) (by omega)
          · have c21' := i_eq c21
            refine r_iload_n 3 C dX6_heads_46 rfl ?_
            refine r_aload_n 0 C dX6_heads_47 rfl ?_
            refine gfX6_18 3 C (kS sC h20 kc_41) (xS sC h20 xc_41_4) dX6_heads_48 ?_
            refine r_iload 4 C dX6_heads_51 rfl ?_
            refine callVI C cwX6_88_V (ctX9_followers_3 _ _ w16 (sS sC h20) o19 u2 ) (by decide) (kS sC h20 kc_3) rfl rfl rfl (Nat.le_of_ble_eq_true rfl) (by decide) dX6_heads_53 (fun r26 w25 y24 => ?_)
            show V x 0 0 w25 56 [(0, .ref (gz (xG x) + 41)), (1, .int a1), (2, .int a2), (3, .int u1), (4, .int u2)] [.int r26, .int u1]
            obtain ⟨h27, o28⟩ := y24
            have h29 := Ch.tr h20 h27 (by decide) (by decide)
            refine r_iadd C dX6_heads_56 (fun v30 e31 => ?_)
            refine r_istore_n [(3, .int v30), (0, .ref (gz (xG x) + 41)), (1, .int a1), (2, .int a2), (4, .int u2)] C dX6_heads_57 (by decide) rfl ?_
            obtain ⟨i32, e33⟩ : ∃ z : Int32, u2 + Int32.ofInt 1 = z := ⟨_, rfl⟩
            have i32' := iinc_ok e33 (by decide) (by omega) (by omega)
            refine r_iinc [(4, .int i32), (3, .int v30), (0, .ref (gz (xG x) + 41)), (1, .int a1), (2, .int a2)] 4 C dX6_heads_58 rfl e33 (by decide) rfl ?_
            refine r_goto 5 C dX6_heads_61 (by decide) ?_
            refine r_lv [2, 3, 4, 1, 0] rfl ?_
            exact ih10 v30 i32 w25 h29 o28 (by omega) (by omega)
        · have c14' := i_ne c14
          refine r_aload_n 0 C dX6_heads_22 rfl ?_
          refine gfX6_18 3 C (kS sC h6 kc_41) (xS sC h6 xc_41_4) dX6_heads_23 ?_
          refine gfX6_94 5 C (kS sC h6 kc_3) (xS sC h6 xc_3_10) dX6_heads_26 ?_
          refine r_iload 4 C dX6_heads_29 rfl ?_
          refine r_iald C (kS sC h6 kc_5) (vin (by omega) (by omega)) dX6_heads_31 ?_
          generalize (wI w5 5 (u2).toNatClampNeg) = v34
          refine r_iload_n 1 C dX6_heads_32 rfl ?_
          refine r_icmp_ne 58 C dX6_heads_33 (by decide) (fun c35 => ?_) (fun c35 => ?_)
          · have c35' := i_ne c35
            obtain ⟨i36, e37⟩ : ∃ z : Int32, u2 + Int32.ofInt 1 = z := ⟨_, rfl⟩
            have i36' := iinc_ok e37 (by decide) (by omega) (by omega)
            refine r_iinc [(4, .int i36), (0, .ref (gz (xG x) + 41)), (1, .int a1), (2, .int a2), (3, .int u1)] 4 C dX6_heads_58 rfl e37 (by decide) rfl ?_
            refine r_goto 5 C dX6_heads_61 (by decide) ?_
            refine r_lv [1, 2, 3, 4, 0] rfl ?_
            exact ih10 u1 i36 w5 h6 o7 (by omega) (by omega)
          · have c35' := i_eq c35
            refine r_aload_n 0 C dX6_heads_36 rfl ?_
            refine r_iload 4 C dX6_heads_37 rfl ?_
            refine callVI C cwX6_82_V (ctX6_fate_41 _ _ w5 (sS sC h6) o7 u2 ) (by decide) (kS sC h6 kc_41) rfl rfl rfl (Nat.le_of_ble_eq_true rfl) (by decide) dX6_heads_39 (fun r40 w39 y38 => ?_)
            show V x 0 0 w39 42 [(0, .ref (gz (xG x) + 41)), (1, .int a1), (2, .int a2), (3, .int u1), (4, .int u2)] [.int r40]
            obtain ⟨h41, o42⟩ := y38
            have h43 := Ch.tr h6 h41 (by decide) (by decide)
            refine r_iload_n 2 C dX6_heads_42 rfl ?_
            refine r_icmp_ne 58 C dX6_heads_43 (by decide) (fun c44 => ?_) (fun c44 => ?_)
            · have c44' := i_ne c44
              obtain ⟨i45, e46⟩ : ∃ z : Int32, u2 + Int32.ofInt 1 = z := ⟨_, rfl⟩
              have i45' := iinc_ok e46 (by decide) (by omega) (by omega)
              refine r_iinc [(4, .int i45), (0, .ref (gz (xG x) + 41)), (1, .int a1), (2, .int a2), (3, .int u1)] 4 C dX6_heads_58 rfl e46 (by decide) rfl ?_
              refine r_goto 5 C dX6_heads_61 (by decide) ?_
              refine r_lv [1, 2, 3, 4, 0] rfl ?_
              exact ih10 u1 i45 w39 h43 o42 (by omega) (by omega)
            · have c44' := i_eq c44
              refine r_iload_n 3 C dX6_heads_46 rfl ?_
              refine r_aload_n 0 C dX6_heads_47 rfl ?_
              refine gfX6_18 3 C (kS sC h43 kc_41) (xS sC h43 xc_41_4) dX6_heads_48 ?_
              refine r_iload 4 C dX6_heads_51 rfl ?_
              refine callVI C cwX6_88_V (ctX9_followers_3 _ _ w39 (sS sC h43) o42 u2 ) (by decide) (kS sC h43 kc_3) rfl rfl rfl (Nat.le_of_ble_eq_true rfl) (by decide) dX6_heads_53 (fun r49 w48 y47 => ?_)
              show V x 0 0 w48 56 [(0, .ref (gz (xG x) + 41)), (1, .int a1), (2, .int a2), (3, .int u1), (4, .int u2)] [.int r49, .int u1]
              obtain ⟨h50, o51⟩ := y47
              have h52 := Ch.tr h43 h50 (by decide) (by decide)
              refine r_iadd C dX6_heads_56 (fun v53 e54 => ?_)
              refine r_istore_n [(3, .int v53), (0, .ref (gz (xG x) + 41)), (1, .int a1), (2, .int a2), (4, .int u2)] C dX6_heads_57 (by decide) rfl ?_
              obtain ⟨i55, e56⟩ : ∃ z : Int32, u2 + Int32.ofInt 1 = z := ⟨_, rfl⟩
              have i55' := iinc_ok e56 (by decide) (by omega) (by omega)
              refine r_iinc [(4, .int i55), (3, .int v53), (0, .ref (gz (xG x) + 41)), (1, .int a1), (2, .int a2)] 4 C dX6_heads_58 rfl e56 (by decide) rfl ?_
              refine r_goto 5 C dX6_heads_61 (by decide) ?_
              refine r_lv [2, 3, 4, 1, 0] rfl ?_
              exact ih10 v53 i55 w48 h52 o51 (by omega) (by omega)
  refine r_iconst (v := 0) C dX6_heads_0 (by decide) ?_
  refine r_istore_n [(3, .int 0), (0, .ref (gz (xG x) + 41)), (1, .int a1), (2, .int a2)] C dX6_heads_1 (by decide) rfl ?_
  refine r_iconst (v := 0) C dX6_heads_2 (by decide) ?_
  refine r_istore [(4, .int 0), (3, .int 0), (0, .ref (gz (xG x) + 41)), (1, .int a1), (2, .int a2)] C dX6_heads_3 (by decide) rfl ?_
  refine r_lv [2, 3, 4, 1, 0] rfl ?_
  exact LP3 4294967296 0 0 w h0 o0 (by omega) (by omega)
set_option maxHeartbeats 4000000 in
set_option maxRecDepth 100000 in
theorem ctX6_left_35 (l : Launch) (G : Gt) (w : Wv) (sC : Str KC XC w) (o0 : Inv RC w)  : CtI l G yX6_left cX6_left 3 .int ({ frames := 1, cells := 0, slots := 0, locals := 23 } : Room) [.ref (gz G + 35)] w (fun r w' => Ch [] [] w w' ∧ Inv RC w') := by
  refine enterI (by decide) (Nat.le_of_ble_eq_true rfl) ?_
  intro x el eG C hret
  subst el; subst eG
  show V x 0 0 w 0 [(0, .ref (gz (xG x) + 35))] []
  have h0 : Ch [] [] w w := Ch.rf
  have q0 : (0 : Int32).toInt = 0 := by decide
  have LP3 : ∀ (f4 : Nat) (u1 : Int32) (u2 : Int32) (w5 : Wv), Ch [] [] w w5 → Inv RC w5 → (0 ≤ u2.toInt ∧ u2.toInt ≤ 2147483647) → 2147483647 - u2.toInt < f4 → V x 0 0 w5 4 [(0, .ref (gz (xG x) + 35)), (1, .int u1), (2, .int u2)] [] := by
    intro f4
    induction f4 with
    | zero => intro u1 u2 w5 h6 o7 z8 z9; exfalso; omega
    | succ f4 ih10 =>
      intro u1 u2 w5 h6 o7 z8 z9
      refine r_iload_n 2 C dX6_left_4 rfl ?_
      refine r_aload_n 0 C dX6_left_5 rfl ?_
      refine gfX6_18 3 C (kS sC h6 kc_35) (xS sC h6 xc_35_4) dX6_left_6 ?_
      refine gfX6_39 (v := (wI w 3 3)) C (kS sC h6 kc_3) (h6.I (by decide) (by decide) rfl) dX6_left_9 ?_
      have b11 := Inv.get o0 rt_3_3 (j := 3) (by decide) (by decide)
      have k13 := i_rng u2
      refine r_icmp_ge 53 C dX6_left_12 (by decide) (fun c12 => ?_) (fun c12 => ?_)
      · have c12' := i_le c12
        refine r_iload_n 1 C dX6_left_53 rfl ?_
        exact hret _ _ _ _ dX6_left_54 rfl ⟨h6, o7⟩
      · have c12' := i_nle c12
        refine r_iload_n 1 C dX6_left_15 rfl ?_
        refine r_aload_n 0 C dX6_left_16 rfl ?_
        refine r_iload_n 2 C dX6_left_17 rfl ?_
        refine callVI C cwX6_82_V (ctX6_fate_35 _ _ w5 (sS sC h6) o7 u2 ) (by decide) (kS sC h6 kc_35) rfl rfl rfl (Nat.le_of_ble_eq_true rfl) (by decide) dX6_left_18 (fun r16 w15 y14 => ?_)
        show V x 0 0 w15 21 [(0, .ref (gz (xG x) + 35)), (1, .int u1), (2, .int u2)] [.int r16, .int u1]
        obtain ⟨h17, o18⟩ := y14
        have h19 := Ch.tr h6 h17 (by decide) (by decide)
        refine r_if_ne 36 C dX6_left_21 (by decide) (fun c20 => ?_) (fun c20 => ?_)
        · have c20' := i_ne c20
          refine r_aload_n 0 C dX6_left_36 rfl ?_
          refine gfX6_18 3 C (kS sC h19 kc_35) (xS sC h19 xc_35_4) dX6_left_37 ?_
          refine gfX6_100 9 C (kS sC h19 kc_3) (xS sC h19 xc_3_14) dX6_left_40 ?_
          refine r_iload_n 2 C dX6_left_43 rfl ?_
          refine r_iald C (kS sC h19 kc_9) (vin (by omega) (by omega)) dX6_left_44 ?_
          generalize (wI w15 9 (u2).toNatClampNeg) = v21
          refine r_iadd C dX6_left_45 (fun v22 e23 => ?_)
          refine r_istore_n [(1, .int v22), (0, .ref (gz (xG x) + 35)), (2, .int u2)] C dX6_left_46 (by decide) rfl ?_
          obtain ⟨i24, e25⟩ : ∃ z : Int32, u2 + Int32.ofInt 1 = z := ⟨_, rfl⟩
          have i24' := iinc_ok e25 (by decide) (by omega) (by omega)
          refine r_iinc [(2, .int i24), (1, .int v22), (0, .ref (gz (xG x) + 35))] 2 C dX6_left_47 rfl e25 (by decide) rfl ?_
          refine r_goto 4 C dX6_left_50 (by decide) ?_
          refine r_lv [2, 1, 0] rfl ?_
          exact ih10 v22 i24 w15 h19 o18 (by omega) (by omega)
        · have c20' := i_eq c20
          refine r_aload_n 0 C dX6_left_24 rfl ?_
          refine gfX6_18 3 C (kS sC h19 kc_35) (xS sC h19 xc_35_4) dX6_left_25 ?_
          refine gfX6_97 7 C (kS sC h19 kc_3) (xS sC h19 xc_3_12) dX6_left_28 ?_
          refine r_iload_n 2 C dX6_left_31 rfl ?_
          refine r_iald C (kS sC h19 kc_7) (vin (by omega) (by omega)) dX6_left_32 ?_
          generalize (wI w15 7 (u2).toNatClampNeg) = v26
          refine r_goto 45 C dX6_left_33 (by decide) ?_
          refine r_iadd C dX6_left_45 (fun v27 e28 => ?_)
          refine r_istore_n [(1, .int v27), (0, .ref (gz (xG x) + 35)), (2, .int u2)] C dX6_left_46 (by decide) rfl ?_
          obtain ⟨i29, e30⟩ : ∃ z : Int32, u2 + Int32.ofInt 1 = z := ⟨_, rfl⟩
          have i29' := iinc_ok e30 (by decide) (by omega) (by omega)
          refine r_iinc [(2, .int i29), (1, .int v27), (0, .ref (gz (xG x) + 35))] 2 C dX6_left_47 rfl e30 (by decide) rfl ?_
          refine r_goto 4 C dX6_left_50 (by decide) ?_
          refine r_lv [2, 1, 0] rfl ?_
          exact ih10 v27 i29 w15 h19 o18 (by omega) (by omega)
  refine r_iconst (v := 0) C dX6_left_0 (by decide) ?_
  refine r_istore_n [(1, .int 0), (0, .ref (gz (xG x) + 35))] C dX6_left_1 (by decide) rfl ?_
  refine r_iconst (v := 0) C dX6_left_2 (by decide) ?_
  refine r_istore_n [(2, .int 0), (1, .int 0), (0, .ref (gz (xG x) + 35))] C dX6_left_3 (by decide) rfl ?_
  refine r_lv [2, 1, 0] rfl ?_
  exact LP3 4294967296 0 0 w h0 o0 (by omega) (by omega)
set_option maxHeartbeats 4000000 in
set_option maxRecDepth 100000 in
theorem ctX6_worth_35 (l : Launch) (G : Gt) (w : Wv) (sC : Str KC XC w) (o0 : Inv RC w)  : CtI l G yX6_worth cX6_worth 1 .int ({ frames := 2, cells := 0, slots := 0, locals := 47 } : Room) [.ref (gz G + 35)] w (fun r w' => Ch [] [] w w' ∧ Inv RC w') := by
  refine enterI (by decide) (Nat.le_of_ble_eq_true rfl) ?_
  intro x el eG C hret
  subst el; subst eG
  show V x 0 0 w 0 [(0, .ref (gz (xG x) + 35))] []
  have h0 : Ch [] [] w w := Ch.rf
  have qm1 : ((-1) : Int32).toInt = (-1) := by decide
  have q1 : (1 : Int32).toInt = 1 := by decide
  have q2 : (2 : Int32).toInt = 2 := by decide
  refine r_aload_n 0 C dX6_worth_0 rfl ?_
  refine gfX6_18 3 C (kS sC h0 kc_35) (xS sC h0 xc_35_4) dX6_worth_1 ?_
  refine gfX6_103 (v := (wI w 3 7)) C (kS sC h0 kc_3) rfl dX6_worth_4 ?_
  refine r_aload_n 0 C dX6_worth_7 rfl ?_
  refine r_iconst (v := (-1)) C dX6_worth_8 (by decide) ?_
  refine r_iconst (v := 1) C dX6_worth_9 (by decide) ?_
  refine callVI C cwX6_106_V (ctX6_heads_35 _ _ w (sS sC h0) o0 (-1) 1 ) (by decide) (kS sC h0 kc_35) rfl rfl rfl (Nat.le_of_ble_eq_true rfl) (by decide) dX6_worth_10 (fun r3 w2 y1 => ?_)
  show V x 0 0 w2 13 [(0, .ref (gz (xG x) + 35))] [.int r3, .int (wI w 3 7)]
  obtain ⟨h4, o5⟩ := y1
  have h6 := Ch.tr h0 h4 (by decide) (by decide)
  refine r_imul C dX6_worth_13 (fun v7 e8 => ?_)
  refine r_aload_n 0 C dX6_worth_14 rfl ?_
  refine gfX6_18 3 C (kS sC h6 kc_35) (xS sC h6 xc_35_4) dX6_worth_15 ?_
  refine gfX6_108 (v := (wI w 3 8)) C (kS sC h6 kc_3) (h4.I (by decide) (by decide) rfl) dX6_worth_18 ?_
  refine r_aload_n 0 C dX6_worth_21 rfl ?_
  refine r_iconst (v := (-1)) C dX6_worth_22 (by decide) ?_
  refine r_iconst (v := 2) C dX6_worth_23 (by decide) ?_
  refine callVI C cwX6_106_V (ctX6_heads_35 _ _ w2 (sS sC h6) o5 (-1) 2 ) (by decide) (kS sC h6 kc_35) rfl rfl rfl (Nat.le_of_ble_eq_true rfl) (by decide) dX6_worth_24 (fun r11 w10 y9 => ?_)
  show V x 0 0 w10 27 [(0, .ref (gz (xG x) + 35))] [.int r11, .int (wI w 3 8), .int v7]
  obtain ⟨h12, o13⟩ := y9
  have h14 := Ch.tr h6 h12 (by decide) (by decide)
  refine r_imul C dX6_worth_27 (fun v15 e16 => ?_)
  refine r_isub C dX6_worth_28 (fun v17 e18 => ?_)
  exact hret _ _ _ _ dX6_worth_29 rfl ⟨h14, o13⟩
set_option maxHeartbeats 4000000 in
set_option maxRecDepth 100000 in
theorem ctX6_worth_38 (l : Launch) (G : Gt) (w : Wv) (sC : Str KC XC w) (o0 : Inv RC w)  : CtI l G yX6_worth cX6_worth 1 .int ({ frames := 2, cells := 0, slots := 0, locals := 47 } : Room) [.ref (gz G + 38)] w (fun r w' => Ch [] [] w w' ∧ Inv RC w') := by
  refine enterI (by decide) (Nat.le_of_ble_eq_true rfl) ?_
  intro x el eG C hret
  subst el; subst eG
  show V x 0 0 w 0 [(0, .ref (gz (xG x) + 38))] []
  have h0 : Ch [] [] w w := Ch.rf
  have qm1 : ((-1) : Int32).toInt = (-1) := by decide
  have q1 : (1 : Int32).toInt = 1 := by decide
  have q2 : (2 : Int32).toInt = 2 := by decide
  refine r_aload_n 0 C dX6_worth_0 rfl ?_
  refine gfX6_18 3 C (kS sC h0 kc_38) (xS sC h0 xc_38_4) dX6_worth_1 ?_
  refine gfX6_103 (v := (wI w 3 7)) C (kS sC h0 kc_3) rfl dX6_worth_4 ?_
  refine r_aload_n 0 C dX6_worth_7 rfl ?_
  refine r_iconst (v := (-1)) C dX6_worth_8 (by decide) ?_
  refine r_iconst (v := 1) C dX6_worth_9 (by decide) ?_
  refine callVI C cwX6_106_V (ctX6_heads_38 _ _ w (sS sC h0) o0 (-1) 1 ) (by decide) (kS sC h0 kc_38) rfl rfl rfl (Nat.le_of_ble_eq_true rfl) (by decide) dX6_worth_10 (fun r3 w2 y1 => ?_)
  show V x 0 0 w2 13 [(0, .ref (gz (xG x) + 38))] [.int r3, .int (wI w 3 7)]
  obtain ⟨h4, o5⟩ := y1
  have h6 := Ch.tr h0 h4 (by decide) (by decide)
  refine r_imul C dX6_worth_13 (fun v7 e8 => ?_)
  refine r_aload_n 0 C dX6_worth_14 rfl ?_
  refine gfX6_18 3 C (kS sC h6 kc_38) (xS sC h6 xc_38_4) dX6_worth_15 ?_
  refine gfX6_108 (v := (wI w 3 8)) C (kS sC h6 kc_3) (h4.I (by decide) (by decide) rfl) dX6_worth_18 ?_
  refine r_aload_n 0 C dX6_worth_21 rfl ?_
  refine r_iconst (v := (-1)) C dX6_worth_22 (by decide) ?_
  refine r_iconst (v := 2) C dX6_worth_23 (by decide) ?_
  refine callVI C cwX6_106_V (ctX6_heads_38 _ _ w2 (sS sC h6) o5 (-1) 2 ) (by decide) (kS sC h6 kc_38) rfl rfl rfl (Nat.le_of_ble_eq_true rfl) (by decide) dX6_worth_24 (fun r11 w10 y9 => ?_)
  show V x 0 0 w10 27 [(0, .ref (gz (xG x) + 38))] [.int r11, .int (wI w 3 8), .int v7]
  obtain ⟨h12, o13⟩ := y9
  have h14 := Ch.tr h6 h12 (by decide) (by decide)
  refine r_imul C dX6_worth_27 (fun v15 e16 => ?_)
  refine r_isub C dX6_worth_28 (fun v17 e18 => ?_)
  exact hret _ _ _ _ dX6_worth_29 rfl ⟨h14, o13⟩
set_option maxHeartbeats 4000000 in
set_option maxRecDepth 100000 in
theorem ctX6_copy_38_35 (l : Launch) (G : Gt) (w : Wv) (sC : Str KC XC w) (o0 : Inv RC w)  : CtV l G yX6_copy cX6_copy 3 ({ frames := 0, cells := 0, slots := 0, locals := 0 } : Room) [.ref (gz G + 38), .ref (gz G + 35)] w (fun w' => Ch [39, 40] [(38, 0), (38, 1)] w w' ∧ Inv RC w') := by
  refine enterV (by decide) (Nat.le_of_ble_eq_true rfl) ?_
  intro x el eG C hnm hret
  subst el; subst eG
  show V x 0 0 w 0 [(0, .ref (gz (xG x) + 38)), (1, .ref (gz (xG x) + 35))] []
  have h0 : Ch [39, 40] [(38, 0), (38, 1)] w w := Ch.rf
  have q0 : (0 : Int32).toInt = 0 := by decide
  have LP10 : ∀ (f11 : Nat) (u9 : Int32) (w12 : Wv), Ch [39, 40] [(38, 0), (38, 1)] w w12 → Inv RC w12 → (0 ≤ u9.toInt ∧ u9.toInt ≤ 2147483647) → 2147483647 - u9.toInt < f11 → V x 0 0 w12 18 [(0, .ref (gz (xG x) + 38)), (1, .ref (gz (xG x) + 35)), (2, .int u9)] [] := by
    intro f11
    induction f11 with
    | zero => intro u9 w12 h13 o14 z15 z16; exfalso; omega
    | succ f11 ih17 =>
      intro u9 w12 h13 o14 z15 z16
      refine r_iload_n 2 C dX6_copy_18 rfl ?_
      refine r_aload_n 0 C dX6_copy_19 rfl ?_
      refine gfX6_18 3 C (kS sC h13 kc_38) (xS sC h13 xc_38_4) dX6_copy_20 ?_
      refine gfX6_39 (v := (wI w 3 3)) C (kS sC h13 kc_3) (h13.I (by decide) (by decide) rfl) dX6_copy_23 ?_
      have b18 := Inv.get o0 rt_3_3 (j := 3) (by decide) (by decide)
      have k20 := i_rng u9
      refine r_icmp_ge 59 C dX6_copy_26 (by decide) (fun c19 => ?_) (fun c19 => ?_)
      · have c19' := i_le c19
        exact hret _ _ _ dX6_copy_59 ⟨h13, o14⟩
      · have c19' := i_nle c19
        refine r_aload_n 0 C dX6_copy_29 rfl ?_
        refine gfX6_9 39 C (kS sC h13 kc_38) (xS sC h13 xc_38_2) dX6_copy_30 ?_
        refine r_iload_n 2 C dX6_copy_33 rfl ?_
        refine r_aload_n 1 C dX6_copy_34 rfl ?_
        refine gfX6_9 36 C (kS sC h13 kc_35) (xS sC h13 xc_35_2) dX6_copy_35 ?_
        refine r_iload_n 2 C dX6_copy_38 rfl ?_
        refine r_iald C (kS sC h13 kc_36) (vin (by omega) (by omega)) dX6_copy_39 ?_
        generalize (wI w12 36 (u9).toNatClampNeg) = v21
        refine r_iast C (kS sC h13 kc_39) (vin (by omega) (by omega)) dX6_copy_40 (fun w22 e23 => ?_)
        have h24 := Ch.putS h13 e23 (by decide)
        have o25 := Inv.put0 o14 e23 (by decide)
        refine r_aload_n 0 C dX6_copy_41 rfl ?_
        refine gfX6_15 40 C (kS sC h24 kc_38) (xS sC h24 xc_38_3) dX6_copy_42 ?_
        refine r_iload_n 2 C dX6_copy_45 rfl ?_
        refine r_aload_n 1 C dX6_copy_46 rfl ?_
        refine gfX6_15 37 C (kS sC h24 kc_35) (xS sC h24 xc_35_3) dX6_copy_47 ?_
        refine r_iload_n 2 C dX6_copy_50 rfl ?_
        refine r_iald C (kS sC h24 kc_37) (vin (by omega) (by omega)) dX6_copy_51 ?_
        generalize (wI w22 37 (u9).toNatClampNeg) = v26
        refine r_iast C (kS sC h24 kc_40) (vin (by omega) (by omega)) dX6_copy_52 (fun w27 e28 => ?_)
        have h29 := Ch.putS h24 e28 (by decide)
        have o30 := Inv.put0 o25 e28 (by decide)
        obtain ⟨i31, e32⟩ : ∃ z : Int32, u9 + Int32.ofInt 1 = z := ⟨_, rfl⟩
        have i31' := iinc_ok e32 (by decide) (by omega) (by omega)
        refine r_iinc [(2, .int i31), (0, .ref (gz (xG x) + 38)), (1, .ref (gz (xG x) + 35))] 2 C dX6_copy_53 rfl e32 (by decide) rfl ?_
        refine r_goto 18 C dX6_copy_56 (by decide) ?_
        refine r_lv [1, 2, 0] rfl ?_
        exact ih17 i31 w27 h29 o30 (by omega) (by omega)
  refine r_aload_n 0 C dX6_copy_0 rfl ?_
  refine r_aload_n 1 C dX6_copy_1 rfl ?_
  refine gfX6_32 (v := (wI w 35 0)) C (kS sC h0 kc_35) rfl dX6_copy_2 ?_
  refine pfX6_32 C (kS sC h0 kc_38) dX6_copy_5 (fun w1 e2 => ?_)
  have h3 := Ch.putF h0 e2 (by decide)
  have o4 := Inv.putk o0 e2 (by decide)
  refine r_aload_n 0 C dX6_copy_8 rfl ?_
  refine r_aload_n 1 C dX6_copy_9 rfl ?_
  refine gfX6_33 (v := (wI w 35 1)) C (kS sC h3 kc_35) (g_nn e2 (by decide) rfl) dX6_copy_10 ?_
  refine pfX6_33 C (kS sC h3 kc_38) dX6_copy_13 (fun w5 e6 => ?_)
  have h7 := Ch.putF h3 e6 (by decide)
  have o8 := Inv.putk o4 e6 (by decide)
  refine r_iconst (v := 0) C dX6_copy_16 (by decide) ?_
  refine r_istore_n [(2, .int 0), (0, .ref (gz (xG x) + 38)), (1, .ref (gz (xG x) + 35))] C dX6_copy_17 (by decide) rfl ?_
  refine r_lv [1, 2, 0] rfl ?_
  exact LP10 4294967296 0 w5 h7 o8 (by omega) (by omega)
set_option maxHeartbeats 4000000 in
set_option maxRecDepth 100000 in
theorem ctX6_copy_41_35 (l : Launch) (G : Gt) (w : Wv) (sC : Str KC XC w) (o0 : Inv RC w)  : CtV l G yX6_copy cX6_copy 3 ({ frames := 0, cells := 0, slots := 0, locals := 0 } : Room) [.ref (gz G + 41), .ref (gz G + 35)] w (fun w' => Ch [42, 43] [(41, 0), (41, 1)] w w' ∧ Inv RC w') := by
  refine enterV (by decide) (Nat.le_of_ble_eq_true rfl) ?_
  intro x el eG C hnm hret
  subst el; subst eG
  show V x 0 0 w 0 [(0, .ref (gz (xG x) + 41)), (1, .ref (gz (xG x) + 35))] []
  have h0 : Ch [42, 43] [(41, 0), (41, 1)] w w := Ch.rf
  have q0 : (0 : Int32).toInt = 0 := by decide
  have LP10 : ∀ (f11 : Nat) (u9 : Int32) (w12 : Wv), Ch [42, 43] [(41, 0), (41, 1)] w w12 → Inv RC w12 → (0 ≤ u9.toInt ∧ u9.toInt ≤ 2147483647) → 2147483647 - u9.toInt < f11 → V x 0 0 w12 18 [(0, .ref (gz (xG x) + 41)), (1, .ref (gz (xG x) + 35)), (2, .int u9)] [] := by
    intro f11
    induction f11 with
    | zero => intro u9 w12 h13 o14 z15 z16; exfalso; omega
    | succ f11 ih17 =>
      intro u9 w12 h13 o14 z15 z16
      refine r_iload_n 2 C dX6_copy_18 rfl ?_
      refine r_aload_n 0 C dX6_copy_19 rfl ?_
      refine gfX6_18 3 C (kS sC h13 kc_41) (xS sC h13 xc_41_4) dX6_copy_20 ?_
      refine gfX6_39 (v := (wI w 3 3)) C (kS sC h13 kc_3) (h13.I (by decide) (by decide) rfl) dX6_copy_23 ?_
      have b18 := Inv.get o0 rt_3_3 (j := 3) (by decide) (by decide)
      have k20 := i_rng u9
      refine r_icmp_ge 59 C dX6_copy_26 (by decide) (fun c19 => ?_) (fun c19 => ?_)
      · have c19' := i_le c19
        exact hret _ _ _ dX6_copy_59 ⟨h13, o14⟩
      · have c19' := i_nle c19
        refine r_aload_n 0 C dX6_copy_29 rfl ?_
        refine gfX6_9 42 C (kS sC h13 kc_41) (xS sC h13 xc_41_2) dX6_copy_30 ?_
        refine r_iload_n 2 C dX6_copy_33 rfl ?_
        refine r_aload_n 1 C dX6_copy_34 rfl ?_
        refine gfX6_9 36 C (kS sC h13 kc_35) (xS sC h13 xc_35_2) dX6_copy_35 ?_
        refine r_iload_n 2 C dX6_copy_38 rfl ?_
        refine r_iald C (kS sC h13 kc_36) (vin (by omega) (by omega)) dX6_copy_39 ?_
        generalize (wI w12 36 (u9).toNatClampNeg) = v21
        refine r_iast C (kS sC h13 kc_42) (vin (by omega) (by omega)) dX6_copy_40 (fun w22 e23 => ?_)
        have h24 := Ch.putS h13 e23 (by decide)
        have o25 := Inv.put0 o14 e23 (by decide)
        refine r_aload_n 0 C dX6_copy_41 rfl ?_
        refine gfX6_15 43 C (kS sC h24 kc_41) (xS sC h24 xc_41_3) dX6_copy_42 ?_
        refine r_iload_n 2 C dX6_copy_45 rfl ?_
        refine r_aload_n 1 C dX6_copy_46 rfl ?_
        refine gfX6_15 37 C (kS sC h24 kc_35) (xS sC h24 xc_35_3) dX6_copy_47 ?_
        refine r_iload_n 2 C dX6_copy_50 rfl ?_
        refine r_iald C (kS sC h24 kc_37) (vin (by omega) (by omega)) dX6_copy_51 ?_
        generalize (wI w22 37 (u9).toNatClampNeg) = v26
        refine r_iast C (kS sC h24 kc_43) (vin (by omega) (by omega)) dX6_copy_52 (fun w27 e28 => ?_)
        have h29 := Ch.putS h24 e28 (by decide)
        have o30 := Inv.put0 o25 e28 (by decide)
        obtain ⟨i31, e32⟩ : ∃ z : Int32, u9 + Int32.ofInt 1 = z := ⟨_, rfl⟩
        have i31' := iinc_ok e32 (by decide) (by omega) (by omega)
        refine r_iinc [(2, .int i31), (0, .ref (gz (xG x) + 41)), (1, .ref (gz (xG x) + 35))] 2 C dX6_copy_53 rfl e32 (by decide) rfl ?_
        refine r_goto 18 C dX6_copy_56 (by decide) ?_
        refine r_lv [1, 2, 0] rfl ?_
        exact ih17 i31 w27 h29 o30 (by omega) (by omega)
  refine r_aload_n 0 C dX6_copy_0 rfl ?_
  refine r_aload_n 1 C dX6_copy_1 rfl ?_
  refine gfX6_32 (v := (wI w 35 0)) C (kS sC h0 kc_35) rfl dX6_copy_2 ?_
  refine pfX6_32 C (kS sC h0 kc_41) dX6_copy_5 (fun w1 e2 => ?_)
  have h3 := Ch.putF h0 e2 (by decide)
  have o4 := Inv.putk o0 e2 (by decide)
  refine r_aload_n 0 C dX6_copy_8 rfl ?_
  refine r_aload_n 1 C dX6_copy_9 rfl ?_
  refine gfX6_33 (v := (wI w 35 1)) C (kS sC h3 kc_35) (g_nn e2 (by decide) rfl) dX6_copy_10 ?_
  refine pfX6_33 C (kS sC h3 kc_41) dX6_copy_13 (fun w5 e6 => ?_)
  have h7 := Ch.putF h3 e6 (by decide)
  have o8 := Inv.putk o4 e6 (by decide)
  refine r_iconst (v := 0) C dX6_copy_16 (by decide) ?_
  refine r_istore_n [(2, .int 0), (0, .ref (gz (xG x) + 41)), (1, .ref (gz (xG x) + 35))] C dX6_copy_17 (by decide) rfl ?_
  refine r_lv [1, 2, 0] rfl ?_
  exact LP10 4294967296 0 w5 h7 o8 (by omega) (by omega)
set_option maxHeartbeats 4000000 in
set_option maxRecDepth 100000 in
theorem ctX6_copy_59_35 (l : Launch) (G : Gt) (w : Wv) (sC : Str KC XC w) (o0 : Inv RC w)  : CtV l G yX6_copy cX6_copy 3 ({ frames := 0, cells := 0, slots := 0, locals := 0 } : Room) [.ref (gz G + 59), .ref (gz G + 35)] w (fun w' => Ch [60, 61] [(59, 0), (59, 1)] w w' ∧ Inv RC w') := by
  refine enterV (by decide) (Nat.le_of_ble_eq_true rfl) ?_
  intro x el eG C hnm hret
  subst el; subst eG
  show V x 0 0 w 0 [(0, .ref (gz (xG x) + 59)), (1, .ref (gz (xG x) + 35))] []
  have h0 : Ch [60, 61] [(59, 0), (59, 1)] w w := Ch.rf
  have q0 : (0 : Int32).toInt = 0 := by decide
  have LP10 : ∀ (f11 : Nat) (u9 : Int32) (w12 : Wv), Ch [60, 61] [(59, 0), (59, 1)] w w12 → Inv RC w12 → (0 ≤ u9.toInt ∧ u9.toInt ≤ 2147483647) → 2147483647 - u9.toInt < f11 → V x 0 0 w12 18 [(0, .ref (gz (xG x) + 59)), (1, .ref (gz (xG x) + 35)), (2, .int u9)] [] := by
    intro f11
    induction f11 with
    | zero => intro u9 w12 h13 o14 z15 z16; exfalso; omega
    | succ f11 ih17 =>
      intro u9 w12 h13 o14 z15 z16
      refine r_iload_n 2 C dX6_copy_18 rfl ?_
      refine r_aload_n 0 C dX6_copy_19 rfl ?_
      refine gfX6_18 3 C (kS sC h13 kc_59) (xS sC h13 xc_59_4) dX6_copy_20 ?_
      refine gfX6_39 (v := (wI w 3 3)) C (kS sC h13 kc_3) (h13.I (by decide) (by decide) rfl) dX6_copy_23 ?_
      have b18 := Inv.get o0 rt_3_3 (j := 3) (by decide) (by decide)
      have k20 := i_rng u9
      refine r_icmp_ge 59 C dX6_copy_26 (by decide) (fun c19 => ?_) (fun c19 => ?_)
      · have c19' := i_le c19
        exact hret _ _ _ dX6_copy_59 ⟨h13, o14⟩
      · have c19' := i_nle c19
        refine r_aload_n 0 C dX6_copy_29 rfl ?_
        refine gfX6_9 60 C (kS sC h13 kc_59) (xS sC h13 xc_59_2) dX6_copy_30 ?_
        refine r_iload_n 2 C dX6_copy_33 rfl ?_
        refine r_aload_n 1 C dX6_copy_34 rfl ?_
        refine gfX6_9 36 C (kS sC h13 kc_35) (xS sC h13 xc_35_2) dX6_copy_35 ?_
        refine r_iload_n 2 C dX6_copy_38 rfl ?_
        refine r_iald C (kS sC h13 kc_36) (vin (by omega) (by omega)) dX6_copy_39 ?_
        generalize (wI w12 36 (u9).toNatClampNeg) = v21
        refine r_iast C (kS sC h13 kc_60) (vin (by omega) (by omega)) dX6_copy_40 (fun w22 e23 => ?_)
        have h24 := Ch.putS h13 e23 (by decide)
        have o25 := Inv.put0 o14 e23 (by decide)
        refine r_aload_n 0 C dX6_copy_41 rfl ?_
        refine gfX6_15 61 C (kS sC h24 kc_59) (xS sC h24 xc_59_3) dX6_copy_42 ?_
        refine r_iload_n 2 C dX6_copy_45 rfl ?_
        refine r_aload_n 1 C dX6_copy_46 rfl ?_
        refine gfX6_15 37 C (kS sC h24 kc_35) (xS sC h24 xc_35_3) dX6_copy_47 ?_
        refine r_iload_n 2 C dX6_copy_50 rfl ?_
        refine r_iald C (kS sC h24 kc_37) (vin (by omega) (by omega)) dX6_copy_51 ?_
        generalize (wI w22 37 (u9).toNatClampNeg) = v26
        refine r_iast C (kS sC h24 kc_61) (vin (by omega) (by omega)) dX6_copy_52 (fun w27 e28 => ?_)
        have h29 := Ch.putS h24 e28 (by decide)
        have o30 := Inv.put0 o25 e28 (by decide)
        obtain ⟨i31, e32⟩ : ∃ z : Int32, u9 + Int32.ofInt 1 = z := ⟨_, rfl⟩
        have i31' := iinc_ok e32 (by decide) (by omega) (by omega)
        refine r_iinc [(2, .int i31), (0, .ref (gz (xG x) + 59)), (1, .ref (gz (xG x) + 35))] 2 C dX6_copy_53 rfl e32 (by decide) rfl ?_
        refine r_goto 18 C dX6_copy_56 (by decide) ?_
        refine r_lv [1, 2, 0] rfl ?_
        exact ih17 i31 w27 h29 o30 (by omega) (by omega)
  refine r_aload_n 0 C dX6_copy_0 rfl ?_
  refine r_aload_n 1 C dX6_copy_1 rfl ?_
  refine gfX6_32 (v := (wI w 35 0)) C (kS sC h0 kc_35) rfl dX6_copy_2 ?_
  refine pfX6_32 C (kS sC h0 kc_59) dX6_copy_5 (fun w1 e2 => ?_)
  have h3 := Ch.putF h0 e2 (by decide)
  have o4 := Inv.putk o0 e2 (by decide)
  refine r_aload_n 0 C dX6_copy_8 rfl ?_
  refine r_aload_n 1 C dX6_copy_9 rfl ?_
  refine gfX6_33 (v := (wI w 35 1)) C (kS sC h3 kc_35) (g_nn e2 (by decide) rfl) dX6_copy_10 ?_
  refine pfX6_33 C (kS sC h3 kc_59) dX6_copy_13 (fun w5 e6 => ?_)
  have h7 := Ch.putF h3 e6 (by decide)
  have o8 := Inv.putk o4 e6 (by decide)
  refine r_iconst (v := 0) C dX6_copy_16 (by decide) ?_
  refine r_istore_n [(2, .int 0), (0, .ref (gz (xG x) + 59)), (1, .ref (gz (xG x) + 35))] C dX6_copy_17 (by decide) rfl ?_
  refine r_lv [1, 2, 0] rfl ?_
  exact LP10 4294967296 0 w5 h7 o8 (by omega) (by omega)
set_option maxHeartbeats 4000000 in
set_option maxRecDepth 100000 in
theorem ctX6_copy_85_35 (l : Launch) (G : Gt) (w : Wv) (sC : Str KC XC w) (o0 : Inv RC w)  : CtV l G yX6_copy cX6_copy 3 ({ frames := 0, cells := 0, slots := 0, locals := 0 } : Room) [.ref (gz G + 85), .ref (gz G + 35)] w (fun w' => Ch [86, 87] [(85, 0), (85, 1)] w w' ∧ Inv RC w') := by
  refine enterV (by decide) (Nat.le_of_ble_eq_true rfl) ?_
  intro x el eG C hnm hret
  subst el; subst eG
  show V x 0 0 w 0 [(0, .ref (gz (xG x) + 85)), (1, .ref (gz (xG x) + 35))] []
  have h0 : Ch [86, 87] [(85, 0), (85, 1)] w w := Ch.rf
  have q0 : (0 : Int32).toInt = 0 := by decide
  have LP10 : ∀ (f11 : Nat) (u9 : Int32) (w12 : Wv), Ch [86, 87] [(85, 0), (85, 1)] w w12 → Inv RC w12 → (0 ≤ u9.toInt ∧ u9.toInt ≤ 2147483647) → 2147483647 - u9.toInt < f11 → V x 0 0 w12 18 [(0, .ref (gz (xG x) + 85)), (1, .ref (gz (xG x) + 35)), (2, .int u9)] [] := by
    intro f11
    induction f11 with
    | zero => intro u9 w12 h13 o14 z15 z16; exfalso; omega
    | succ f11 ih17 =>
      intro u9 w12 h13 o14 z15 z16
      refine r_iload_n 2 C dX6_copy_18 rfl ?_
      refine r_aload_n 0 C dX6_copy_19 rfl ?_
      refine gfX6_18 3 C (kS sC h13 kc_85) (xS sC h13 xc_85_4) dX6_copy_20 ?_
      refine gfX6_39 (v := (wI w 3 3)) C (kS sC h13 kc_3) (h13.I (by decide) (by decide) rfl) dX6_copy_23 ?_
      have b18 := Inv.get o0 rt_3_3 (j := 3) (by decide) (by decide)
      have k20 := i_rng u9
      refine r_icmp_ge 59 C dX6_copy_26 (by decide) (fun c19 => ?_) (fun c19 => ?_)
      · have c19' := i_le c19
        exact hret _ _ _ dX6_copy_59 ⟨h13, o14⟩
      · have c19' := i_nle c19
        refine r_aload_n 0 C dX6_copy_29 rfl ?_
        refine gfX6_9 86 C (kS sC h13 kc_85) (xS sC h13 xc_85_2) dX6_copy_30 ?_
        refine r_iload_n 2 C dX6_copy_33 rfl ?_
        refine r_aload_n 1 C dX6_copy_34 rfl ?_
        refine gfX6_9 36 C (kS sC h13 kc_35) (xS sC h13 xc_35_2) dX6_copy_35 ?_
        refine r_iload_n 2 C dX6_copy_38 rfl ?_
        refine r_iald C (kS sC h13 kc_36) (vin (by omega) (by omega)) dX6_copy_39 ?_
        generalize (wI w12 36 (u9).toNatClampNeg) = v21
        refine r_iast C (kS sC h13 kc_86) (vin (by omega) (by omega)) dX6_copy_40 (fun w22 e23 => ?_)
        have h24 := Ch.putS h13 e23 (by decide)
        have o25 := Inv.put0 o14 e23 (by decide)
        refine r_aload_n 0 C dX6_copy_41 rfl ?_
        refine gfX6_15 87 C (kS sC h24 kc_85) (xS sC h24 xc_85_3) dX6_copy_42 ?_
        refine r_iload_n 2 C dX6_copy_45 rfl ?_
        refine r_aload_n 1 C dX6_copy_46 rfl ?_
        refine gfX6_15 37 C (kS sC h24 kc_35) (xS sC h24 xc_35_3) dX6_copy_47 ?_
        refine r_iload_n 2 C dX6_copy_50 rfl ?_
        refine r_iald C (kS sC h24 kc_37) (vin (by omega) (by omega)) dX6_copy_51 ?_
        generalize (wI w22 37 (u9).toNatClampNeg) = v26
        refine r_iast C (kS sC h24 kc_87) (vin (by omega) (by omega)) dX6_copy_52 (fun w27 e28 => ?_)
        have h29 := Ch.putS h24 e28 (by decide)
        have o30 := Inv.put0 o25 e28 (by decide)
        obtain ⟨i31, e32⟩ : ∃ z : Int32, u9 + Int32.ofInt 1 = z := ⟨_, rfl⟩
        have i31' := iinc_ok e32 (by decide) (by omega) (by omega)
        refine r_iinc [(2, .int i31), (0, .ref (gz (xG x) + 85)), (1, .ref (gz (xG x) + 35))] 2 C dX6_copy_53 rfl e32 (by decide) rfl ?_
        refine r_goto 18 C dX6_copy_56 (by decide) ?_
        refine r_lv [1, 2, 0] rfl ?_
        exact ih17 i31 w27 h29 o30 (by omega) (by omega)
  refine r_aload_n 0 C dX6_copy_0 rfl ?_
  refine r_aload_n 1 C dX6_copy_1 rfl ?_
  refine gfX6_32 (v := (wI w 35 0)) C (kS sC h0 kc_35) rfl dX6_copy_2 ?_
  refine pfX6_32 C (kS sC h0 kc_85) dX6_copy_5 (fun w1 e2 => ?_)
  have h3 := Ch.putF h0 e2 (by decide)
  have o4 := Inv.putk o0 e2 (by decide)
  refine r_aload_n 0 C dX6_copy_8 rfl ?_
  refine r_aload_n 1 C dX6_copy_9 rfl ?_
  refine gfX6_33 (v := (wI w 35 1)) C (kS sC h3 kc_35) (g_nn e2 (by decide) rfl) dX6_copy_10 ?_
  refine pfX6_33 C (kS sC h3 kc_85) dX6_copy_13 (fun w5 e6 => ?_)
  have h7 := Ch.putF h3 e6 (by decide)
  have o8 := Inv.putk o4 e6 (by decide)
  refine r_iconst (v := 0) C dX6_copy_16 (by decide) ?_
  refine r_istore_n [(2, .int 0), (0, .ref (gz (xG x) + 85)), (1, .ref (gz (xG x) + 35))] C dX6_copy_17 (by decide) rfl ?_
  refine r_lv [1, 2, 0] rfl ?_
  exact LP10 4294967296 0 w5 h7 o8 (by omega) (by omega)
set_option maxHeartbeats 4000000 in
set_option maxRecDepth 100000 in
theorem ctX6_copy_62_59 (l : Launch) (G : Gt) (w : Wv) (sC : Str KC XC w) (o0 : Inv RC w)  : CtV l G yX6_copy cX6_copy 3 ({ frames := 0, cells := 0, slots := 0, locals := 0 } : Room) [.ref (gz G + 62), .ref (gz G + 59)] w (fun w' => Ch [63, 64] [(62, 0), (62, 1)] w w' ∧ Inv RC w') := by
  refine enterV (by decide) (Nat.le_of_ble_eq_true rfl) ?_
  intro x el eG C hnm hret
  subst el; subst eG
  show V x 0 0 w 0 [(0, .ref (gz (xG x) + 62)), (1, .ref (gz (xG x) + 59))] []
  have h0 : Ch [63, 64] [(62, 0), (62, 1)] w w := Ch.rf
  have q0 : (0 : Int32).toInt = 0 := by decide
  have LP10 : ∀ (f11 : Nat) (u9 : Int32) (w12 : Wv), Ch [63, 64] [(62, 0), (62, 1)] w w12 → Inv RC w12 → (0 ≤ u9.toInt ∧ u9.toInt ≤ 2147483647) → 2147483647 - u9.toInt < f11 → V x 0 0 w12 18 [(0, .ref (gz (xG x) + 62)), (1, .ref (gz (xG x) + 59)), (2, .int u9)] [] := by
    intro f11
    induction f11 with
    | zero => intro u9 w12 h13 o14 z15 z16; exfalso; omega
    | succ f11 ih17 =>
      intro u9 w12 h13 o14 z15 z16
      refine r_iload_n 2 C dX6_copy_18 rfl ?_
      refine r_aload_n 0 C dX6_copy_19 rfl ?_
      refine gfX6_18 3 C (kS sC h13 kc_62) (xS sC h13 xc_62_4) dX6_copy_20 ?_
      refine gfX6_39 (v := (wI w 3 3)) C (kS sC h13 kc_3) (h13.I (by decide) (by decide) rfl) dX6_copy_23 ?_
      have b18 := Inv.get o0 rt_3_3 (j := 3) (by decide) (by decide)
      have k20 := i_rng u9
      refine r_icmp_ge 59 C dX6_copy_26 (by decide) (fun c19 => ?_) (fun c19 => ?_)
      · have c19' := i_le c19
        exact hret _ _ _ dX6_copy_59 ⟨h13, o14⟩
      · have c19' := i_nle c19
        refine r_aload_n 0 C dX6_copy_29 rfl ?_
        refine gfX6_9 63 C (kS sC h13 kc_62) (xS sC h13 xc_62_2) dX6_copy_30 ?_
        refine r_iload_n 2 C dX6_copy_33 rfl ?_
        refine r_aload_n 1 C dX6_copy_34 rfl ?_
        refine gfX6_9 60 C (kS sC h13 kc_59) (xS sC h13 xc_59_2) dX6_copy_35 ?_
        refine r_iload_n 2 C dX6_copy_38 rfl ?_
        refine r_iald C (kS sC h13 kc_60) (vin (by omega) (by omega)) dX6_copy_39 ?_
        generalize (wI w12 60 (u9).toNatClampNeg) = v21
        refine r_iast C (kS sC h13 kc_63) (vin (by omega) (by omega)) dX6_copy_40 (fun w22 e23 => ?_)
        have h24 := Ch.putS h13 e23 (by decide)
        have o25 := Inv.put0 o14 e23 (by decide)
        refine r_aload_n 0 C dX6_copy_41 rfl ?_
        refine gfX6_15 64 C (kS sC h24 kc_62) (xS sC h24 xc_62_3) dX6_copy_42 ?_
        refine r_iload_n 2 C dX6_copy_45 rfl ?_
        refine r_aload_n 1 C dX6_copy_46 rfl ?_
        refine gfX6_15 61 C (kS sC h24 kc_59) (xS sC h24 xc_59_3) dX6_copy_47 ?_
        refine r_iload_n 2 C dX6_copy_50 rfl ?_
        refine r_iald C (kS sC h24 kc_61) (vin (by omega) (by omega)) dX6_copy_51 ?_
        generalize (wI w22 61 (u9).toNatClampNeg) = v26
        refine r_iast C (kS sC h24 kc_64) (vin (by omega) (by omega)) dX6_copy_52 (fun w27 e28 => ?_)
        have h29 := Ch.putS h24 e28 (by decide)
        have o30 := Inv.put0 o25 e28 (by decide)
        obtain ⟨i31, e32⟩ : ∃ z : Int32, u9 + Int32.ofInt 1 = z := ⟨_, rfl⟩
        have i31' := iinc_ok e32 (by decide) (by omega) (by omega)
        refine r_iinc [(2, .int i31), (0, .ref (gz (xG x) + 62)), (1, .ref (gz (xG x) + 59))] 2 C dX6_copy_53 rfl e32 (by decide) rfl ?_
        refine r_goto 18 C dX6_copy_56 (by decide) ?_
        refine r_lv [1, 2, 0] rfl ?_
        exact ih17 i31 w27 h29 o30 (by omega) (by omega)
  refine r_aload_n 0 C dX6_copy_0 rfl ?_
  refine r_aload_n 1 C dX6_copy_1 rfl ?_
  refine gfX6_32 (v := (wI w 59 0)) C (kS sC h0 kc_59) rfl dX6_copy_2 ?_
  refine pfX6_32 C (kS sC h0 kc_62) dX6_copy_5 (fun w1 e2 => ?_)
  have h3 := Ch.putF h0 e2 (by decide)
  have o4 := Inv.putk o0 e2 (by decide)
  refine r_aload_n 0 C dX6_copy_8 rfl ?_
  refine r_aload_n 1 C dX6_copy_9 rfl ?_
  refine gfX6_33 (v := (wI w 59 1)) C (kS sC h3 kc_59) (g_nn e2 (by decide) rfl) dX6_copy_10 ?_
  refine pfX6_33 C (kS sC h3 kc_62) dX6_copy_13 (fun w5 e6 => ?_)
  have h7 := Ch.putF h3 e6 (by decide)
  have o8 := Inv.putk o4 e6 (by decide)
  refine r_iconst (v := 0) C dX6_copy_16 (by decide) ?_
  refine r_istore_n [(2, .int 0), (0, .ref (gz (xG x) + 62)), (1, .ref (gz (xG x) + 59))] C dX6_copy_17 (by decide) rfl ?_
  refine r_lv [1, 2, 0] rfl ?_
  exact LP10 4294967296 0 w5 h7 o8 (by omega) (by omega)
