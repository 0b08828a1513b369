set_option maxHeartbeats 4000000 in
set_option maxRecDepth 100000 in
theorem ctX6_copy_65_62 (l : Launch) (G : Gt) (w : Wv) (sC : Str KC XC w) (o0 : Inv RC w)  : CtV l G yX6_copy cX6_copy 3 ({ frames := 0, cells := 0, slots := 0, locals := 0 } : Room) [.ref (gz G + 65), .ref (gz G + 62)] w (fun w' => Ch [66, 67] [(65, 0), (65, 1)] w w' ∧ Inv RC w') := by
  refine enterV (by decide) (Nat.le_of_ble_eq_true rfl) ?_
  intro x el eG C hnm hret
  subst el; subst eG
  show V x 0 0 w 0 [(0, .ref (gz (xG x) + 65)), (1, .ref (gz (xG x) + 62))] []
  have h0 : Ch [66, 67] [(65, 0), (65, 1)] w w := Ch.rf
  have q0 : (0 : Int32).toInt = 0 := by decide
  have LP10 : ∀ (f11 : Nat) (u9 : Int32) (w12 : Wv), Ch [66, 67] [(65, 0), (65, 1)] w w12 → Inv RC w12 → (0 ≤ u9.toInt ∧ u9.toInt ≤ 2147483647) → 2147483647 - u9.toInt < f11 → V x 0 0 w12 18 [(0, .ref (gz (xG x) + 65)), (1, .ref (gz (xG x) + 62)), (2, .int u9)] [] := by
    intro f11
    induction f11 with
    | zero => intro u9 w12 h13 o14 z15 z16; exfalso; omega
    | succ f11 ih17 =>
      intro u9 w12 h13 o14 z15 z16
      refine r_iload_n 2 C dX6_copy_18 rfl ?_
      refine r_aload_n 0 C dX6_copy_19 rfl ?_
      refine gfX6_18 3 C (kS sC h13 kc_65) (xS sC h13 xc_65_4) dX6_copy_20 ?_
      refine gfX6_39 (v := (wI w 3 3)) C (kS sC h13 kc_3) (h13.I (by decide) (by decide) rfl) dX6_copy_23 ?_
      have b18 := Inv.get o0 rt_3_3 (j := 3) (by decide) (by decide)
      have k20 := i_rng u9
      refine r_icmp_ge 59 C dX6_copy_26 (by decide) (fun c19 => ?_) (fun c19 => ?_)
      · have c19' := i_le c19
        exact hret _ _ _ dX6_copy_59 ⟨h13, o14⟩
      · have c19' := i_nle c19
        refine r_aload_n 0 C dX6_copy_29 rfl ?_
        refine gfX6_9 66 C (kS sC h13 kc_65) (xS sC h13 xc_65_2) dX6_copy_30 ?_
        refine r_iload_n 2 C dX6_copy_33 rfl ?_
        refine r_aload_n 1 C dX6_copy_34 rfl ?_
        refine gfX6_9 63 C (kS sC h13 kc_62) (xS sC h13 xc_62_2) dX6_copy_35 ?_
        refine r_iload_n 2 C dX6_copy_38 rfl ?_
        refine r_iald C (kS sC h13 kc_63) (vin (by omega) (by omega)) dX6_copy_39 ?_
        generalize (wI w12 63 (u9).toNatClampNeg) = v21
        refine r_iast C (kS sC h13 kc_66) (vin (by omega) (by omega)) dX6_copy_40 (fun w22 e23 => ?_)
        have h24 := Ch.putS h13 e23 (by decide)
        have o25 := Inv.put0 o14 e23 (by decide)
        refine r_aload_n 0 C dX6_copy_41 rfl ?_
        refine gfX6_15 67 C (kS sC h24 kc_65) (xS sC h24 xc_65_3) dX6_copy_42 ?_
        refine r_iload_n 2 C dX6_copy_45 rfl ?_
        refine r_aload_n 1 C dX6_copy_46 rfl ?_
        refine gfX6_15 64 C (kS sC h24 kc_62) (xS sC h24 xc_62_3) dX6_copy_47 ?_
        refine r_iload_n 2 C dX6_copy_50 rfl ?_
        refine r_iald C (kS sC h24 kc_64) (vin (by omega) (by omega)) dX6_copy_51 ?_
        generalize (wI w22 64 (u9).toNatClampNeg) = v26
        refine r_iast C (kS sC h24 kc_67) (vin (by omega) (by omega)) dX6_copy_52 (fun w27 e28 => ?_)
        have h29 := Ch.putS h24 e28 (by decide)
        have o30 := Inv.put0 o25 e28 (by decide)
        obtain ⟨i31, e32⟩ : ∃ z : Int32, u9 + Int32.ofInt 1 = z := ⟨_, rfl⟩
        have i31' := iinc_ok e32 (by decide) (by omega) (by omega)
        refine r_iinc [(2, .int i31), (0, .ref (gz (xG x) + 65)), (1, .ref (gz (xG x) + 62))] 2 C dX6_copy_53 rfl e32 (by decide) rfl ?_
        refine r_goto 18 C dX6_copy_56 (by decide) ?_
        refine r_lv [1, 2, 0] rfl ?_
        exact ih17 i31 w27 h29 o30 (by omega) (by omega)
  refine r_aload_n 0 C dX6_copy_0 rfl ?_
  refine r_aload_n 1 C dX6_copy_1 rfl ?_
  refine gfX6_32 (v := (wI w 62 0)) C (kS sC h0 kc_62) rfl dX6_copy_2 ?_
  refine pfX6_32 C (kS sC h0 kc_65) dX6_copy_5 (fun w1 e2 => ?_)
  have h3 := Ch.putF h0 e2 (by decide)
  have o4 := Inv.putk o0 e2 (by decide)
  refine r_aload_n 0 C dX6_copy_8 rfl ?_
  refine r_aload_n 1 C dX6_copy_9 rfl ?_
  refine gfX6_33 (v := (wI w 62 1)) C (kS sC h3 kc_62) (g_nn e2 (by decide) rfl) dX6_copy_10 ?_
  refine pfX6_33 C (kS sC h3 kc_65) dX6_copy_13 (fun w5 e6 => ?_)
  have h7 := Ch.putF h3 e6 (by decide)
  have o8 := Inv.putk o4 e6 (by decide)
  refine r_iconst (v := 0) C dX6_copy_16 (by decide) ?_
  refine r_istore_n [(2, .int 0), (0, .ref (gz (xG x) + 65)), (1, .ref (gz (xG x) + 62))] C dX6_copy_17 (by decide) rfl ?_
  refine r_lv [1, 2, 0] rfl ?_
  exact LP10 4294967296 0 w5 h7 o8 (by omega) (by omega)
set_option maxHeartbeats 4000000 in
set_option maxRecDepth 100000 in
theorem ctX6_copy_68_65 (l : Launch) (G : Gt) (w : Wv) (sC : Str KC XC w) (o0 : Inv RC w)  : CtV l G yX6_copy cX6_copy 3 ({ frames := 0, cells := 0, slots := 0, locals := 0 } : Room) [.ref (gz G + 68), .ref (gz G + 65)] w (fun w' => Ch [69, 70] [(68, 0), (68, 1)] w w' ∧ Inv RC w') := by
  refine enterV (by decide) (Nat.le_of_ble_eq_true rfl) ?_
  intro x el eG C hnm hret
  subst el; subst eG
  show V x 0 0 w 0 [(0, .ref (gz (xG x) + 68)), (1, .ref (gz (xG x) + 65))] []
  have h0 : Ch [69, 70] [(68, 0), (68, 1)] w w := Ch.rf
  have q0 : (0 : Int32).toInt = 0 := by decide
  have LP10 : ∀ (f11 : Nat) (u9 : Int32) (w12 : Wv), Ch [69, 70] [(68, 0), (68, 1)] w w12 → Inv RC w12 → (0 ≤ u9.toInt ∧ u9.toInt ≤ 2147483647) → 2147483647 - u9.toInt < f11 → V x 0 0 w12 18 [(0, .ref (gz (xG x) + 68)), (1, .ref (gz (xG x) + 65)), (2, .int u9)] [] := by
    intro f11
    induction f11 with
    | zero => intro u9 w12 h13 o14 z15 z16; exfalso; omega
    | succ f11 ih17 =>
      intro u9 w12 h13 o14 z15 z16
      refine r_iload_n 2 C dX6_copy_18 rfl ?_
      refine r_aload_n 0 C dX6_copy_19 rfl ?_
      refine gfX6_18 3 C (kS sC h13 kc_68) (xS sC h13 xc_68_4) dX6_copy_20 ?_
      refine gfX6_39 (v := (wI w 3 3)) C (kS sC h13 kc_3) (h13.I (by decide) (by decide) rfl) dX6_copy_23 ?_
      have b18 := Inv.get o0 rt_3_3 (j := 3) (by decide) (by decide)
      have k20 := i_rng u9
      refine r_icmp_ge 59 C dX6_copy_26 (by decide) (fun c19 => ?_) (fun c19 => ?_)
      · have c19' := i_le c19
        exact hret _ _ _ dX6_copy_59 ⟨h13, o14⟩
      · have c19' := i_nle c19
        refine r_aload_n 0 C dX6_copy_29 rfl ?_
        refine gfX6_9 69 C (kS sC h13 kc_68) (xS sC h13 xc_68_2) dX6_copy_30 ?_
        refine r_iload_n 2 C dX6_copy_33 rfl ?_
        refine r_aload_n 1 C dX6_copy_34 rfl ?_
        refine gfX6_9 66 C (kS sC h13 kc_65) (xS sC h13 xc_65_2) dX6_copy_35 ?_
        refine r_iload_n 2 C dX6_copy_38 rfl ?_
        refine r_iald C (kS sC h13 kc_66) (vin (by omega) (by omega)) dX6_copy_39 ?_
        generalize (wI w12 66 (u9).toNatClampNeg) = v21
        refine r_iast C (kS sC h13 kc_69) (vin (by omega) (by omega)) dX6_copy_40 (fun w22 e23 => ?_)
        have h24 := Ch.putS h13 e23 (by decide)
        have o25 := Inv.put0 o14 e23 (by decide)
        refine r_aload_n 0 C dX6_copy_41 rfl ?_
        refine gfX6_15 70 C (kS sC h24 kc_68) (xS sC h24 xc_68_3) dX6_copy_42 ?_
        refine r_iload_n 2 C dX6_copy_45 rfl ?_
        refine r_aload_n 1 C dX6_copy_46 rfl ?_
        refine gfX6_15 67 C (kS sC h24 kc_65) (xS sC h24 xc_65_3) dX6_copy_47 ?_
        refine r_iload_n 2 C dX6_copy_50 rfl ?_
        refine r_iald C (kS sC h24 kc_67) (vin (by omega) (by omega)) dX6_copy_51 ?_
        generalize (wI w22 67 (u9).toNatClampNeg) = v26
        refine r_iast C (kS sC h24 kc_70) (vin (by omega) (by omega)) dX6_copy_52 (fun w27 e28 => ?_)
        have h29 := Ch.putS h24 e28 (by decide)
        have o30 := Inv.put0 o25 e28 (by decide)
        obtain ⟨i31, e32⟩ : ∃ z : Int32, u9 + Int32.ofInt 1 = z := ⟨_, rfl⟩
        have i31' := iinc_ok e32 (by decide) (by omega) (by omega)
        refine r_iinc [(2, .int i31), (0, .ref (gz (xG x) + 68)), (1, .ref (gz (xG x) + 65))] 2 C dX6_copy_53 rfl e32 (by decide) rfl ?_
        refine r_goto 18 C dX6_copy_56 (by decide) ?_
        refine r_lv [1, 2, 0] rfl ?_
        exact ih17 i31 w27 h29 o30 (by omega) (by omega)
  refine r_aload_n 0 C dX6_copy_0 rfl ?_
  refine r_aload_n 1 C dX6_copy_1 rfl ?_
  refine gfX6_32 (v := (wI w 65 0)) C (kS sC h0 kc_65) rfl dX6_copy_2 ?_
  refine pfX6_32 C (kS sC h0 kc_68) dX6_copy_5 (fun w1 e2 => ?_)
  have h3 := Ch.putF h0 e2 (by decide)
  have o4 := Inv.putk o0 e2 (by decide)
  refine r_aload_n 0 C dX6_copy_8 rfl ?_
  refine r_aload_n 1 C dX6_copy_9 rfl ?_
  refine gfX6_33 (v := (wI w 65 1)) C (kS sC h3 kc_65) (g_nn e2 (by decide) rfl) dX6_copy_10 ?_
  refine pfX6_33 C (kS sC h3 kc_68) dX6_copy_13 (fun w5 e6 => ?_)
  have h7 := Ch.putF h3 e6 (by decide)
  have o8 := Inv.putk o4 e6 (by decide)
  refine r_iconst (v := 0) C dX6_copy_16 (by decide) ?_
  refine r_istore_n [(2, .int 0), (0, .ref (gz (xG x) + 68)), (1, .ref (gz (xG x) + 65))] C dX6_copy_17 (by decide) rfl ?_
  refine r_lv [1, 2, 0] rfl ?_
  exact LP10 4294967296 0 w5 h7 o8 (by omega) (by omega)
set_option maxHeartbeats 4000000 in
set_option maxRecDepth 100000 in
theorem ctX6_copy_71_68 (l : Launch) (G : Gt) (w : Wv) (sC : Str KC XC w) (o0 : Inv RC w)  : CtV l G yX6_copy cX6_copy 3 ({ frames := 0, cells := 0, slots := 0, locals := 0 } : Room) [.ref (gz G + 71), .ref (gz G + 68)] w (fun w' => Ch [72, 73] [(71, 0), (71, 1)] w w' ∧ Inv RC w') := by
  refine enterV (by decide) (Nat.le_of_ble_eq_true rfl) ?_
  intro x el eG C hnm hret
  subst el; subst eG
  show V x 0 0 w 0 [(0, .ref (gz (xG x) + 71)), (1, .ref (gz (xG x) + 68))] []
  have h0 : Ch [72, 73] [(71, 0), (71, 1)] w w := Ch.rf
  have q0 : (0 : Int32).toInt = 0 := by decide
  have LP10 : ∀ (f11 : Nat) (u9 : Int32) (w12 : Wv), Ch [72, 73] [(71, 0), (71, 1)] w w12 → Inv RC w12 → (0 ≤ u9.toInt ∧ u9.toInt ≤ 2147483647) → 2147483647 - u9.toInt < f11 → V x 0 0 w12 18 [(0, .ref (gz (xG x) + 71)), (1, .ref (gz (xG x) + 68)), (2, .int u9)] [] := by
    intro f11
    induction f11 with
    | zero => intro u9 w12 h13 o14 z15 z16; exfalso; omega
    | succ f11 ih17 =>
      intro u9 w12 h13 o14 z15 z16
      refine r_iload_n 2 C dX6_copy_18 rfl ?_
      refine r_aload_n 0 C dX6_copy_19 rfl ?_
      refine gfX6_18 3 C (kS sC h13 kc_71) (xS sC h13 xc_71_4) dX6_copy_20 ?_
      refine gfX6_39 (v := (wI w 3 3)) C (kS sC h13 kc_3) (h13.I (by decide) (by decide) rfl) dX6_copy_23 ?_
      have b18 := Inv.get o0 rt_3_3 (j := 3) (by decide) (by decide)
      have k20 := i_rng u9
      refine r_icmp_ge 59 C dX6_copy_26 (by decide) (fun c19 => ?_) (fun c19 => ?_)
      · have c19' := i_le c19
        exact hret _ _ _ dX6_copy_59 ⟨h13, o14⟩
      · have c19' := i_nle c19
        refine r_aload_n 0 C dX6_copy_29 rfl ?_
        refine gfX6_9 72 C (kS sC h13 kc_71) (xS sC h13 xc_71_2) dX6_copy_30 ?_
        refine r_iload_n 2 C dX6_copy_33 rfl ?_
        refine r_aload_n 1 C dX6_copy_34 rfl ?_
        refine gfX6_9 69 C (kS sC h13 kc_68) (xS sC h13 xc_68_2) dX6_copy_35 ?_
        refine r_iload_n 2 C dX6_copy_38 rfl ?_
        refine r_iald C (kS sC h13 kc_69) (vin (by omega) (by omega)) dX6_copy_39 ?_
        generalize (wI w12 69 (u9).toNatClampNeg) = v21
        refine r_iast C (kS sC h13 kc_72) (vin (by omega) (by omega)) dX6_copy_40 (fun w22 e23 => ?_)
        have h24 := Ch.putS h13 e23 (by decide)
        have o25 := Inv.put0 o14 e23 (by decide)
        refine r_aload_n 0 C dX6_copy_41 rfl ?_
        refine gfX6_15 73 C (kS sC h24 kc_71) (xS sC h24 xc_71_3) dX6_copy_42 ?_
        refine r_iload_n 2 C dX6_copy_45 rfl ?_
        refine r_aload_n 1 C dX6_copy_46 rfl ?_
        refine gfX6_15 70 C (kS sC h24 kc_68) (xS sC h24 xc_68_3) dX6_copy_47 ?_
        refine r_iload_n 2 C dX6_copy_50 rfl ?_
        refine r_iald C (kS sC h24 kc_70) (vin (by omega) (by omega)) dX6_copy_51 ?_
        generalize (wI w22 70 (u9).toNatClampNeg) = v26
        refine r_iast C (kS sC h24 kc_73) (vin (by omega) (by omega)) dX6_copy_52 (fun w27 e28 => ?_)
        have h29 := Ch.putS h24 e28 (by decide)
        have o30 := Inv.put0 o25 e28 (by decide)
        obtain ⟨i31, e32⟩ : ∃ z : Int32, u9 + Int32.ofInt 1 = z := ⟨_, rfl⟩
        have i31' := iinc_ok e32 (by decide) (by omega) (by omega)
        refine r_iinc [(2, .int i31), (0, .ref (gz (xG x) + 71)), (1, .ref (gz (xG x) + 68))] 2 C dX6_copy_53 rfl e32 (by decide) rfl ?_
        refine r_goto 18 C dX6_copy_56 (by decide) ?_
        refine r_lv [1, 2, 0] rfl ?_
        exact ih17 i31 w27 h29 o30 (by omega) (by omega)
  refine r_aload_n 0 C dX6_copy_0 rfl ?_
  refine r_aload_n 1 C dX6_copy_1 rfl ?_
  refine gfX6_32 (v := (wI w 68 0)) C (kS sC h0 kc_68) rfl dX6_copy_2 ?_
  refine pfX6_32 C (kS sC h0 kc_71) dX6_copy_5 (fun w1 e2 => ?_)
  have h3 := Ch.putF h0 e2 (by decide)
  have o4 := Inv.putk o0 e2 (by decide)
  refine r_aload_n 0 C dX6_copy_8 rfl ?_
  refine r_aload_n 1 C dX6_copy_9 rfl ?_
  refine gfX6_33 (v := (wI w 68 1)) C (kS sC h3 kc_68) (g_nn e2 (by decide) rfl) dX6_copy_10 ?_
  refine pfX6_33 C (kS sC h3 kc_71) dX6_copy_13 (fun w5 e6 => ?_)
  have h7 := Ch.putF h3 e6 (by decide)
  have o8 := Inv.putk o4 e6 (by decide)
  refine r_iconst (v := 0) C dX6_copy_16 (by decide) ?_
  refine r_istore_n [(2, .int 0), (0, .ref (gz (xG x) + 71)), (1, .ref (gz (xG x) + 68))] C dX6_copy_17 (by decide) rfl ?_
  refine r_lv [1, 2, 0] rfl ?_
  exact LP10 4294967296 0 w5 h7 o8 (by omega) (by omega)
set_option maxHeartbeats 4000000 in
set_option maxRecDepth 100000 in
theorem ctX6_copy_74_71 (l : Launch) (G : Gt) (w : Wv) (sC : Str KC XC w) (o0 : Inv RC w)  : CtV l G yX6_copy cX6_copy 3 ({ frames := 0, cells := 0, slots := 0, locals := 0 } : Room) [.ref (gz G + 74), .ref (gz G + 71)] w (fun w' => Ch [75, 76] [(74, 0), (74, 1)] w w' ∧ Inv RC w') := by
  refine enterV (by decide) (Nat.le_of_ble_eq_true rfl) ?_
  intro x el eG C hnm hret
  subst el; subst eG
  show V x 0 0 w 0 [(0, .ref (gz (xG x) + 74)), (1, .ref (gz (xG x) + 71))] []
  have h0 : Ch [75, 76] [(74, 0), (74, 1)] w w := Ch.rf
  have q0 : (0 : Int32).toInt = 0 := by decide
  have LP10 : ∀ (f11 : Nat) (u9 : Int32) (w12 : Wv), Ch [75, 76] [(74, 0), (74, 1)] w w12 → Inv RC w12 → (0 ≤ u9.toInt ∧ u9.toInt ≤ 2147483647) → 2147483647 - u9.toInt < f11 → V x 0 0 w12 18 [(0, .ref (gz (xG x) + 74)), (1, .ref (gz (xG x) + 71)), (2, .int u9)] [] := by
    intro f11
    induction f11 with
    | zero => intro u9 w12 h13 o14 z15 z16; exfalso; omega
    | succ f11 ih17 =>
      intro u9 w12 h13 o14 z15 z16
      refine r_iload_n 2 C dX6_copy_18 rfl ?_
      refine r_aload_n 0 C dX6_copy_19 rfl ?_
      refine gfX6_18 3 C (kS sC h13 kc_74) (xS sC h13 xc_74_4) dX6_copy_20 ?_
      refine gfX6_39 (v := (wI w 3 3)) C (kS sC h13 kc_3) (h13.I (by decide) (by decide) rfl) dX6_copy_23 ?_
      have b18 := Inv.get o0 rt_3_3 (j := 3) (by decide) (by decide)
      have k20 := i_rng u9
      refine r_icmp_ge 59 C dX6_copy_26 (by decide) (fun c19 => ?_) (fun c19 => ?_)
      · have c19' := i_le c19
        exact hret _ _ _ dX6_copy_59 ⟨h13, o14⟩
      · have c19' := i_nle c19
        refine r_aload_n 0 C dX6_copy_29 rfl ?_
        refine gfX6_9 75 C (kS sC h13 kc_74) (xS sC h13 xc_74_2) dX6_copy_30 ?_
        refine r_iload_n 2 C dX6_copy_33 rfl ?_
        refine r_aload_n 1 C dX6_copy_34 rfl ?_
        refine gfX6_9 72 C (kS sC h13 kc_71) (xS sC h13 xc_71_2) dX6_copy_35 ?_
        refine r_iload_n 2 C dX6_copy_38 rfl ?_
        refine r_iald C (kS sC h13 kc_72) (vin (by omega) (by omega)) dX6_copy_39 ?_
        generalize (wI w12 72 (u9).toNatClampNeg) = v21
        refine r_iast C (kS sC h13 kc_75) (vin (by omega) (by omega)) dX6_copy_40 (fun w22 e23 => ?_)
        have h24 := Ch.putS h13 e23 (by decide)
        have o25 := Inv.put0 o14 e23 (by decide)
        refine r_aload_n 0 C dX6_copy_41 rfl ?_
        refine gfX6_15 76 C (kS sC h24 kc_74) (xS sC h24 xc_74_3) dX6_copy_42 ?_
        refine r_iload_n 2 C dX6_copy_45 rfl ?_
        refine r_aload_n 1 C dX6_copy_46 rfl ?_
        refine gfX6_15 73 C (kS sC h24 kc_71) (xS sC h24 xc_71_3) dX6_copy_47 ?_
        refine r_iload_n 2 C dX6_copy_50 rfl ?_
        refine r_iald C (kS sC h24 kc_73) (vin (by omega) (by omega)) dX6_copy_51 ?_
        generalize (wI w22 73 (u9).toNatClampNeg) = v26
        refine r_iast C (kS sC h24 kc_76) (vin (by omega) (by omega)) dX6_copy_52 (fun w27 e28 => ?_)
        have h29 := Ch.putS h24 e28 (by decide)
        have o30 := Inv.put0 o25 e28 (by decide)
        obtain ⟨i31, e32⟩ : ∃ z : Int32, u9 + Int32.ofInt 1 = z := ⟨_, rfl⟩
        have i31' := iinc_ok e32 (by decide) (by omega) (by omega)
        refine r_iinc [(2, .int i31), (0, .ref (gz (xG x) + 74)), (1, .ref (gz (xG x) + 71))] 2 C dX6_copy_53 rfl e32 (by decide) rfl ?_
        refine r_goto 18 C dX6_copy_56 (by decide) ?_
        refine r_lv [1, 2, 0] rfl ?_
        exact ih17 i31 w27 h29 o30 (by omega) (by omega)
  refine r_aload_n 0 C dX6_copy_0 rfl ?_
  refine r_aload_n 1 C dX6_copy_1 rfl ?_
  refine gfX6_32 (v := (wI w 71 0)) C (kS sC h0 kc_71) rfl dX6_copy_2 ?_
  refine pfX6_32 C (kS sC h0 kc_74) dX6_copy_5 (fun w1 e2 => ?_)
  have h3 := Ch.putF h0 e2 (by decide)
  have o4 := Inv.putk o0 e2 (by decide)
  refine r_aload_n 0 C dX6_copy_8 rfl ?_
  refine r_aload_n 1 C dX6_copy_9 rfl ?_
  refine gfX6_33 (v := (wI w 71 1)) C (kS sC h3 kc_71) (g_nn e2 (by decide) rfl) dX6_copy_10 ?_
  refine pfX6_33 C (kS sC h3 kc_74) dX6_copy_13 (fun w5 e6 => ?_)
  have h7 := Ch.putF h3 e6 (by decide)
  have o8 := Inv.putk o4 e6 (by decide)
  refine r_iconst (v := 0) C dX6_copy_16 (by decide) ?_
  refine r_istore_n [(2, .int 0), (0, .ref (gz (xG x) + 74)), (1, .ref (gz (xG x) + 71))] C dX6_copy_17 (by decide) rfl ?_
  refine r_lv [1, 2, 0] rfl ?_
  exact LP10 4294967296 0 w5 h7 o8 (by omega) (by omega)
set_option maxHeartbeats 4000000 in
set_option maxRecDepth 100000 in
theorem ctX6_copy_77_74 (l : Launch) (G : Gt) (w : Wv) (sC : Str KC XC w) (o0 : Inv RC w)  : CtV l G yX6_copy cX6_copy 3 ({ frames := 0, cells := 0, slots := 0, locals := 0 } : Room) [.ref (gz G + 77), .ref (gz G + 74)] w (fun w' => Ch [78, 79] [(77, 0), (77, 1)] w w' ∧ Inv RC w') := by
  refine enterV (by decide) (Nat.le_of_ble_eq_true rfl) ?_
  intro x el eG C hnm hret
  subst el; subst eG
  show V x 0 0 w 0 [(0, .ref (gz (xG x) + 77)), (1, .ref (gz (xG x) + 74))] []
  have h0 : Ch [78, 79] [(77, 0), (77, 1)] w w := Ch.rf
  have q0 : (0 : Int32).toInt = 0 := by decide
  have LP10 : ∀ (f11 : Nat) (u9 : Int32) (w12 : Wv), Ch [78, 79] [(77, 0), (77, 1)] w w12 → Inv RC w12 → (0 ≤ u9.toInt ∧ u9.toInt ≤ 2147483647) → 2147483647 - u9.toInt < f11 → V x 0 0 w12 18 [(0, .ref (gz (xG x) + 77)), (1, .ref (gz (xG x) + 74)), (2, .int u9)] [] := by
    intro f11
    induction f11 with
    | zero => intro u9 w12 h13 o14 z15 z16; exfalso; omega
    | succ f11 ih17 =>
      intro u9 w12 h13 o14 z15 z16
      refine r_iload_n 2 C dX6_copy_18 rfl ?_
      refine r_aload_n 0 C dX6_copy_19 rfl ?_
      refine gfX6_18 3 C (kS sC h13 kc_77) (xS sC h13 xc_77_4) dX6_copy_20 ?_
      refine gfX6_39 (v := (wI w 3 3)) C (kS sC h13 kc_3) (h13.I (by decide) (by decide) rfl) dX6_copy_23 ?_
      have b18 := Inv.get o0 rt_3_3 (j := 3) (by decide) (by decide)
      have k20 := i_rng u9
      refine r_icmp_ge 59 C dX6_copy_26 (by decide) (fun c19 => ?_) (fun c19 => ?_)
      · have c19' := i_le c19
        exact hret _ _ _ dX6_copy_59 ⟨h13, o14⟩
      · have c19' := i_nle c19
        refine r_aload_n 0 C dX6_copy_29 rfl ?_
        refine gfX6_9 78 C (kS sC h13 kc_77) (xS sC h13 xc_77_2) dX6_copy_30 ?_
        refine r_iload_n 2 C dX6_copy_33 rfl ?_
        refine r_aload_n 1 C dX6_copy_34 rfl ?_
        refine gfX6_9 75 C (kS sC h13 kc_74) (xS sC h13 xc_74_2) dX6_copy_35 ?_
        refine r_iload_n 2 C dX6_copy_38 rfl ?_
        refine r_iald C (kS sC h13 kc_75) (vin (by omega) (by omega)) dX6_copy_39 ?_
        generalize (wI w12 75 (u9).toNatClampNeg) = v21
        refine r_iast C (kS sC h13 kc_78) (vin (by omega) (by omega)) dX6_copy_40 (fun w22 e23 => ?_)
        have h24 := Ch.putS h13 e23 (by decide)
        have o25 := Inv.put0 o14 e23 (by decide)
        refine r_aload_n 0 C dX6_copy_41 rfl ?_
        refine gfX6_15 79 C (kS sC h24 kc_77) (xS sC h24 xc_77_3) dX6_copy_42 ?_
        refine r_iload_n 2 C dX6_copy_45 rfl ?_
        refine r_aload_n 1 C dX6_copy_46 rfl ?_
        refine gfX6_15 76 C (kS sC h24 kc_74) (xS sC h24 xc_74_3) dX6_copy_47 ?_
        refine r_iload_n 2 C dX6_copy_50 rfl ?_
        refine r_iald C (kS sC h24 kc_76) (vin (by omega) (by omega)) dX6_copy_51 ?_
        generalize (wI w22 76 (u9).toNatClampNeg) = v26
        refine r_iast C (kS sC h24 kc_79) (vin (by omega) (by omega)) dX6_copy_52 (fun w27 e28 => ?_)
        have h29 := Ch.putS h24 e28 (by decide)
        have o30 := Inv.put0 o25 e28 (by decide)
        obtain ⟨i31, e32⟩ : ∃ z : Int32, u9 + Int32.ofInt 1 = z := ⟨_, rfl⟩
        have i31' := iinc_ok e32 (by decide) (by omega) (by omega)
        refine r_iinc [(2, .int i31), (0, .ref (gz (xG x) + 77)), (1, .ref (gz (xG x) + 74))] 2 C dX6_copy_53 rfl e32 (by decide) rfl ?_
        refine r_goto 18 C dX6_copy_56 (by decide) ?_
        refine r_lv [1, 2, 0] rfl ?_
        exact ih17 i31 w27 h29 o30 (by omega) (by omega)
  refine r_aload_n 0 C dX6_copy_0 rfl ?_
  refine r_aload_n 1 C dX6_copy_1 rfl ?_
  refine gfX6_32 (v := (wI w 74 0)) C (kS sC h0 kc_74) rfl dX6_copy_2 ?_
  refine pfX6_32 C (kS sC h0 kc_77) dX6_copy_5 (fun w1 e2 => ?_)
  have h3 := Ch.putF h0 e2 (by decide)
  have o4 := Inv.putk o0 e2 (by decide)
  refine r_aload_n 0 C dX6_copy_8 rfl ?_
  refine r_aload_n 1 C dX6_copy_9 rfl ?_
  refine gfX6_33 (v := (wI w 74 1)) C (kS sC h3 kc_74) (g_nn e2 (by decide) rfl) dX6_copy_10 ?_
  refine pfX6_33 C (kS sC h3 kc_77) dX6_copy_13 (fun w5 e6 => ?_)
  have h7 := Ch.putF h3 e6 (by decide)
  have o8 := Inv.putk o4 e6 (by decide)
  refine r_iconst (v := 0) C dX6_copy_16 (by decide) ?_
  refine r_istore_n [(2, .int 0), (0, .ref (gz (xG x) + 77)), (1, .ref (gz (xG x) + 74))] C dX6_copy_17 (by decide) rfl ?_
  refine r_lv [1, 2, 0] rfl ?_
  exact LP10 4294967296 0 w5 h7 o8 (by omega) (by omega)
set_option maxHeartbeats 4000000 in
set_option maxRecDepth 100000 in
theorem ctX6_copy_88_85 (l : Launch) (G : Gt) (w : Wv) (sC : Str KC XC w) (o0 : Inv RC w)  : CtV l G yX6_copy cX6_copy 3 ({ frames := 0, cells := 0, slots := 0, locals := 0 } : Room) [.ref (gz G + 88), .ref (gz G + 85)] w (fun w' => Ch [89, 90] [(88, 0), (88, 1)] w w' ∧ Inv RC w') := by
  refine enterV (by decide) (Nat.le_of_ble_eq_true rfl) ?_
  intro x el eG C hnm hret
  subst el; subst eG
  show V x 0 0 w 0 [(0, .ref (gz (xG x) + 88)), (1, .ref (gz (xG x) + 85))] []
  have h0 : Ch [89, 90] [(88, 0), (88, 1)] w w := Ch.rf
  have q0 : (0 : Int32).toInt = 0 := by decide
  have LP10 : ∀ (f11 : Nat) (u9 : Int32) (w12 : Wv), Ch [89, 90] [(88, 0), (88, 1)] w w12 → Inv RC w12 → (0 ≤ u9.toInt ∧ u9.toInt ≤ 2147483647) → 2147483647 - u9.toInt < f11 → V x 0 0 w12 18 [(0, .ref (gz (xG x) + 88)), (1, .ref (gz (xG x) + 85)), (2, .int u9)] [] := by
    intro f11
    induction f11 with
    | zero => intro u9 w12 h13 o14 z15 z16; exfalso; omega
    | succ f11 ih17 =>
      intro u9 w12 h13 o14 z15 z16
      refine r_iload_n 2 C dX6_copy_18 rfl ?_
      refine r_aload_n 0 C dX6_copy_19 rfl ?_
      refine gfX6_18 3 C (kS sC h13 kc_88) (xS sC h13 xc_88_4) dX6_copy_20 ?_
      refine gfX6_39 (v := (wI w 3 3)) C (kS sC h13 kc_3) (h13.I (by decide) (by decide) rfl) dX6_copy_23 ?_
      have b18 := Inv.get o0 rt_3_3 (j := 3) (by decide) (by decide)
      have k20 := i_rng u9
      refine r_icmp_ge 59 C dX6_copy_26 (by decide) (fun c19 => ?_) (fun c19 => ?_)
      · have c19' := i_le c19
        exact hret _ _ _ dX6_copy_59 ⟨h13, o14⟩
      · have c19' := i_nle c19
        refine r_aload_n 0 C dX6_copy_29 rfl ?_
        refine gfX6_9 89 C (kS sC h13 kc_88) (xS sC h13 xc_88_2) dX6_copy_30 ?_
        refine r_iload_n 2 C dX6_copy_33 rfl ?_
        refine r_aload_n 1 C dX6_copy_34 rfl ?_
        refine gfX6_9 86 C (kS sC h13 kc_85) (xS sC h13 xc_85_2) dX6_copy_35 ?_
        refine r_iload_n 2 C dX6_copy_38 rfl ?_
        refine r_iald C (kS sC h13 kc_86) (vin (by omega) (by omega)) dX6_copy_39 ?_
        generalize (wI w12 86 (u9).toNatClampNeg) = v21
        refine r_iast C (kS sC h13 kc_89) (vin (by omega) (by omega)) dX6_copy_40 (fun w22 e23 => ?_)
        have h24 := Ch.putS h13 e23 (by decide)
        have o25 := Inv.put0 o14 e23 (by decide)
        refine r_aload_n 0 C dX6_copy_41 rfl ?_
        refine gfX6_15 90 C (kS sC h24 kc_88) (xS sC h24 xc_88_3) dX6_copy_42 ?_
        refine r_iload_n 2 C dX6_copy_45 rfl ?_
        refine r_aload_n 1 C dX6_copy_46 rfl ?_
        refine gfX6_15 87 C (kS sC h24 kc_85) (xS sC h24 xc_85_3) dX6_copy_47 ?_
        refine r_iload_n 2 C dX6_copy_50 rfl ?_
        refine r_iald C (kS sC h24 kc_87) (vin (by omega) (by omega)) dX6_copy_51 ?_
        generalize (wI w22 87 (u9).toNatClampNeg) = v26
        refine r_iast C (kS sC h24 kc_90) (vin (by omega) (by omega)) dX6_copy_52 (fun w27 e28 => ?_)
        have h29 := Ch.putS h24 e28 (by decide)
        have o30 := Inv.put0 o25 e28 (by decide)
        obtain ⟨i31, e32⟩ : ∃ z : Int32, u9 + Int32.ofInt 1 = z := ⟨_, rfl⟩
        have i31' := iinc_ok e32 (by decide) (by omega) (by omega)
        refine r_iinc [(2, .int i31), (0, .ref (gz (xG x) + 88)), (1, .ref (gz (xG x) + 85))] 2 C dX6_copy_53 rfl e32 (by decide) rfl ?_
        refine r_goto 18 C dX6_copy_56 (by decide) ?_
        refine r_lv [1, 2, 0] rfl ?_
        exact ih17 i31 w27 h29 o30 (by omega) (by omega)
  refine r_aload_n 0 C dX6_copy_0 rfl ?_
  refine r_aload_n 1 C dX6_copy_1 rfl ?_
  refine gfX6_32 (v := (wI w 85 0)) C (kS sC h0 kc_85) rfl dX6_copy_2 ?_
  refine pfX6_32 C (kS sC h0 kc_88) dX6_copy_5 (fun w1 e2 => ?_)
  have h3 := Ch.putF h0 e2 (by decide)
  have o4 := Inv.putk o0 e2 (by decide)
  refine r_aload_n 0 C dX6_copy_8 rfl ?_
  refine r_aload_n 1 C dX6_copy_9 rfl ?_
  refine gfX6_33 (v := (wI w 85 1)) C (kS sC h3 kc_85) (g_nn e2 (by decide) rfl) dX6_copy_10 ?_
  refine pfX6_33 C (kS sC h3 kc_88) dX6_copy_13 (fun w5 e6 => ?_)
  have h7 := Ch.putF h3 e6 (by decide)
  have o8 := Inv.putk o4 e6 (by decide)
  refine r_iconst (v := 0) C dX6_copy_16 (by decide) ?_
  refine r_istore_n [(2, .int 0), (0, .ref (gz (xG x) + 88)), (1, .ref (gz (xG x) + 85))] C dX6_copy_17 (by decide) rfl ?_
  refine r_lv [1, 2, 0] rfl ?_
  exact LP10 4294967296 0 w5 h7 o8 (by omega) (by omega)
set_option maxHeartbeats 4000000 in
set_option maxRecDepth 100000 in
theorem ctX6_copy_91_88 (l : Launch) (G : Gt) (w : Wv) (sC : Str KC XC w) (o0 : Inv RC w)  : CtV l G yX6_copy cX6_copy 3 ({ frames := 0, cells := 0, slots := 0, locals := 0 } : Room) [.ref (gz G + 91), .ref (gz G + 88)] w (fun w' => Ch [92, 93] [(91, 0), (91, 1)] w w' ∧ Inv RC w') := by
  refine enterV (by decide) (Nat.le_of_ble_eq_true rfl) ?_
  intro x el eG C hnm hret
  subst el; subst eG
  show V x 0 0 w 0 [(0, .ref (gz (xG x) + 91)), (1, .ref (gz (xG x) + 88))] []
  have h0 : Ch [92, 93] [(91, 0), (91, 1)] w w := Ch.rf
  have q0 : (0 : Int32).toInt = 0 := by decide
  have LP10 : ∀ (f11 : Nat) (u9 : Int32) (w12 : Wv), Ch [92, 93] [(91, 0), (91, 1)] w w12 → Inv RC w12 → (0 ≤ u9.toInt ∧ u9.toInt ≤ 2147483647) → 2147483647 - u9.toInt < f11 → V x 0 0 w12 18 [(0, .ref (gz (xG x) + 91)), (1, .ref (gz (xG x) + 88)), (2, .int u9)] [] := by
    intro f11
    induction f11 with
    | zero => intro u9 w12 h13 o14 z15 z16; exfalso; omega
    | succ f11 ih17 =>
      intro u9 w12 h13 o14 z15 z16
      refine r_iload_n 2 C dX6_copy_18 rfl ?_
      refine r_aload_n 0 C dX6_copy_19 rfl ?_
      refine gfX6_18 3 C (kS sC h13 kc_91) (xS sC h13 xc_91_4) dX6_copy_20 ?_
      refine gfX6_39 (v := (wI w 3 3)) C (kS sC h13 kc_3) (h13.I (by decide) (by decide) rfl) dX6_copy_23 ?_
      have b18 := Inv.get o0 rt_3_3 (j := 3) (by decide) (by decide)
      have k20 := i_rng u9
      refine r_icmp_ge 59 C dX6_copy_26 (by decide) (fun c19 => ?_) (fun c19 => ?_)
      · have c19' := i_le c19
        exact hret _ _ _ dX6_copy_59 ⟨h13, o14⟩
      · have c19' := i_nle c19
        refine r_aload_n 0 C dX6_copy_29 rfl ?_
        refine gfX6_9 92 C (kS sC h13 kc_91) (xS sC h13 xc_91_2) dX6_copy_30 ?_
        refine r_iload_n 2 C dX6_copy_33 rfl ?_
        refine r_aload_n 1 C dX6_copy_34 rfl ?_
        refine gfX6_9 89 C (kS sC h13 kc_88) (xS sC h13 xc_88_2) dX6_copy_35 ?_
        refine r_iload_n 2 C dX6_copy_38 rfl ?_
        refine r_iald C (kS sC h13 kc_89) (vin (by omega) (by omega)) dX6_copy_39 ?_
        generalize (wI w12 89 (u9).toNatClampNeg) = v21
        refine r_iast C (kS sC h13 kc_92) (vin (by omega) (by omega)) dX6_copy_40 (fun w22 e23 => ?_)
        have h24 := Ch.putS h13 e23 (by decide)
        have o25 := Inv.put0 o14 e23 (by decide)
        refine r_aload_n 0 C dX6_copy_41 rfl ?_
        refine gfX6_15 93 C (kS sC h24 kc_91) (xS sC h24 xc_91_3) dX6_copy_42 ?_
        refine r_iload_n 2 C dX6_copy_45 rfl ?_
        refine r_aload_n 1 C dX6_copy_46 rfl ?_
        refine gfX6_15 90 C (kS sC h24 kc_88) (xS sC h24 xc_88_3) dX6_copy_47 ?_
        refine r_iload_n 2 C dX6_copy_50 rfl ?_
        refine r_iald C (kS sC h24 kc_90) (vin (by omega) (by omega)) dX6_copy_51 ?_
        generalize (wI w22 90 (u9).toNatClampNeg) = v26
        refine r_iast C (kS sC h24 kc_93) (vin (by omega) (by omega)) dX6_copy_52 (fun w27 e28 => ?_)
        have h29 := Ch.putS h24 e28 (by decide)
        have o30 := Inv.put0 o25 e28 (by decide)
        obtain ⟨i31, e32⟩ : ∃ z : Int32, u9 + Int32.ofInt 1 = z := ⟨_, rfl⟩
        have i31' := iinc_ok e32 (by decide) (by omega) (by omega)
        refine r_iinc [(2, .int i31), (0, .ref (gz (xG x) + 91)), (1, .ref (gz (xG x) + 88))] 2 C dX6_copy_53 rfl e32 (by decide) rfl ?_
        refine r_goto 18 C dX6_copy_56 (by decide) ?_
        refine r_lv [1, 2, 0] rfl ?_
        exact ih17 i31 w27 h29 o30 (by omega) (by omega)
  refine r_aload_n 0 C dX6_copy_0 rfl ?_
  refine r_aload_n 1 C dX6_copy_1 rfl ?_
  refine gfX6_32 (v := (wI w 88 0)) C (kS sC h0 kc_88) rfl dX6_copy_2 ?_
  refine pfX6_32 C (kS sC h0 kc_91) dX6_copy_5 (fun w1 e2 => ?_)
  have h3 := Ch.putF h0 e2 (by decide)
  have o4 := Inv.putk o0 e2 (by decide)
  refine r_aload_n 0 C dX6_copy_8 rfl ?_
  refine r_aload_n 1 C dX6_copy_9 rfl ?_
  refine gfX6_33 (v := (wI w 88 1)) C (kS sC h3 kc_88) (g_nn e2 (by decide) rfl) dX6_copy_10 ?_
  refine pfX6_33 C (kS sC h3 kc_91) dX6_copy_13 (fun w5 e6 => ?_)
  have h7 := Ch.putF h3 e6 (by decide)
  have o8 := Inv.putk o4 e6 (by decide)
  refine r_iconst (v := 0) C dX6_copy_16 (by decide) ?_
  refine r_istore_n [(2, .int 0), (0, .ref (gz (xG x) + 91)), (1, .ref (gz (xG x) + 88))] C dX6_copy_17 (by decide) rfl ?_
  refine r_lv [1, 2, 0] rfl ?_
  exact LP10 4294967296 0 w5 h7 o8 (by omega) (by omega)
set_option maxHeartbeats 4000000 in
set_option maxRecDepth 100000 in
theorem ctX6_copy_94_91 (l : Launch) (G : Gt) (w : Wv) (sC : Str KC XC w) (o0 : Inv RC w)  : CtV l G yX6_copy cX6_copy 3 ({ frames := 0, cells := 0, slots := 0, locals := 0 } : Room) [.ref (gz G + 94), .ref (gz G + 91)] w (fun w' => Ch [95, 96] [(94, 0), (94, 1)] w w' ∧ Inv RC w') := by
  refine enterV (by decide) (Nat.le_of_ble_eq_true rfl) ?_
  intro x el eG C hnm hret
  subst el; subst eG
  show V x 0 0 w 0 [(0, .ref (gz (xG x) + 94)), (1, .ref (gz (xG x) + 91))] []
  have h0 : Ch [95, 96] [(94, 0), (94, 1)] w w := Ch.rf
  have q0 : (0 : Int32).toInt = 0 := by decide
  have LP10 : ∀ (f11 : Nat) (u9 : Int32) (w12 : Wv), Ch [95, 96] [(94, 0), (94, 1)] w w12 → Inv RC w12 → (0 ≤ u9.toInt ∧ u9.toInt ≤ 2147483647) → 2147483647 - u9.toInt < f11 → V x 0 0 w12 18 [(0, .ref (gz (xG x) + 94)), (1, .ref (gz (xG x) + 91)), (2, .int u9)] [] := by
    intro f11
    induction f11 with
    | zero => intro u9 w12 h13 o14 z15 z16; exfalso; omega
    | succ f11 ih17 =>
      intro u9 w12 h13 o14 z15 z16
      refine r_iload_n 2 C dX6_copy_18 rfl ?_
      refine r_aload_n 0 C dX6_copy_19 rfl ?_
      refine gfX6_18 3 C (kS sC h13 kc_94) (xS sC h13 xc_94_4) dX6_copy_20 ?_
      refine gfX6_39 (v := (wI w 3 3)) C (kS sC h13 kc_3) (h13.I (by decide) (by decide) rfl) dX6_copy_23 ?_
      have b18 := Inv.get o0 rt_3_3 (j := 3) (by decide) (by decide)
      have k20 := i_rng u9
      refine r_icmp_ge 59 C dX6_copy_26 (by decide) (fun c19 => ?_) (fun c19 => ?_)
      · have c19' := i_le c19
        exact hret _ _ _ dX6_copy_59 ⟨h13, o14⟩
      · have c19' := i_nle c19
        refine r_aload_n 0 C dX6_copy_29 rfl ?_
        refine gfX6_9 95 C (kS sC h13 kc_94) (xS sC h13 xc_94_2) dX6_copy_30 ?_
        refine r_iload_n 2 C dX6_copy_33 rfl ?_
        refine r_aload_n 1 C dX6_copy_34 rfl ?_
        refine gfX6_9 92 C (kS sC h13 kc_91) (xS sC h13 xc_91_2) dX6_copy_35 ?_
        refine r_iload_n 2 C dX6_copy_38 rfl ?_
        refine r_iald C (kS sC h13 kc_92) (vin (by omega) (by omega)) dX6_copy_39 ?_
        generalize (wI w12 92 (u9).toNatClampNeg) = v21
        refine r_iast C (kS sC h13 kc_95) (vin (by omega) (by omega)) dX6_copy_40 (fun w22 e23 => ?_)
        have h24 := Ch.putS h13 e23 (by decide)
        have o25 := Inv.put0 o14 e23 (by decide)
        refine r_aload_n 0 C dX6_copy_41 rfl ?_
        refine gfX6_15 96 C (kS sC h24 kc_94) (xS sC h24 xc_94_3) dX6_copy_42 ?_
        refine r_iload_n 2 C dX6_copy_45 rfl ?_
        refine r_aload_n 1 C dX6_copy_46 rfl ?_
        refine gfX6_15 93 C (kS sC h24 kc_91) (xS sC h24 xc_91_3) dX6_copy_47 ?_
        refine r_iload_n 2 C dX6_copy_50 rfl ?_
        refine r_iald C (kS sC h24 kc_93) (vin (by omega) (by omega)) dX6_copy_51 ?_
        generalize (wI w22 93 (u9).toNatClampNeg) = v26
        refine r_iast C (kS sC h24 kc_96) (vin (by omega) (by omega)) dX6_copy_52 (fun w27 e28 => ?_)
        have h29 := Ch.putS h24 e28 (by decide)
        have o30 := Inv.put0 o25 e28 (by decide)
        obtain ⟨i31, e32⟩ : ∃ z : Int32, u9 + Int32.ofInt 1 = z := ⟨_, rfl⟩
        have i31' := iinc_ok e32 (by decide) (by omega) (by omega)
        refine r_iinc [(2, .int i31), (0, .ref (gz (xG x) + 94)), (1, .ref (gz (xG x) + 91))] 2 C dX6_copy_53 rfl e32 (by decide) rfl ?_
        refine r_goto 18 C dX6_copy_56 (by decide) ?_
        refine r_lv [1, 2, 0] rfl ?_
        exact ih17 i31 w27 h29 o30 (by omega) (by omega)
  refine r_aload_n 0 C dX6_copy_0 rfl ?_
  refine r_aload_n 1 C dX6_copy_1 rfl ?_
  refine gfX6_32 (v := (wI w 91 0)) C (kS sC h0 kc_91) rfl dX6_copy_2 ?_
  refine pfX6_32 C (kS sC h0 kc_94) dX6_copy_5 (fun w1 e2 => ?_)
  have h3 := Ch.putF h0 e2 (by decide)
  have o4 := Inv.putk o0 e2 (by decide)
  refine r_aload_n 0 C dX6_copy_8 rfl ?_
  refine r_aload_n 1 C dX6_copy_9 rfl ?_
  refine gfX6_33 (v := (wI w 91 1)) C (kS sC h3 kc_91) (g_nn e2 (by decide) rfl) dX6_copy_10 ?_
  refine pfX6_33 C (kS sC h3 kc_94) dX6_copy_13 (fun w5 e6 => ?_)
  have h7 := Ch.putF h3 e6 (by decide)
  have o8 := Inv.putk o4 e6 (by decide)
  refine r_iconst (v := 0) C dX6_copy_16 (by decide) ?_
  refine r_istore_n [(2, .int 0), (0, .ref (gz (xG x) + 94)), (1, .ref (gz (xG x) + 91))] C dX6_copy_17 (by decide) rfl ?_
  refine r_lv [1, 2, 0] rfl ?_
  exact LP10 4294967296 0 w5 h7 o8 (by omega) (by omega)
set_option maxHeartbeats 4000000 in
set_option maxRecDepth 100000 in
theorem ctX6_copy_97_94 (l : Launch) (G : Gt) (w : Wv) (sC : Str KC XC w) (o0 : Inv RC w)  : CtV l G yX6_copy cX6_copy 3 ({ frames := 0, cells := 0, slots := 0, locals := 0 } : Room) [.ref (gz G + 97), .ref (gz G + 94)] w (fun w' => Ch [98, 99] [(97, 0), (97, 1)] w w' ∧ Inv RC w') := by
  refine enterV (by decide) (Nat.le_of_ble_eq_true rfl) ?_
  intro x el eG C hnm hret
  subst el; subst eG
  show V x 0 0 w 0 [(0, .ref (gz (xG x) + 97)), (1, .ref (gz (xG x) + 94))] []
  have h0 : Ch [98, 99] [(97, 0), (97, 1)] w w := Ch.rf
  have q0 : (0 : Int32).toInt = 0 := by decide
  have LP10 : ∀ (f11 : Nat) (u9 : Int32) (w12 : Wv), Ch [98, 99] [(97, 0), (97, 1)] w w12 → Inv RC w12 → (0 ≤ u9.toInt ∧ u9.toInt ≤ 2147483647) → 2147483647 - u9.toInt < f11 → V x 0 0 w12 18 [(0, .ref (gz (xG x) + 97)), (1, .ref (gz (xG x) + 94)), (2, .int u9)] [] := by
    intro f11
    induction f11 with
    | zero => intro u9 w12 h13 o14 z15 z16; exfalso; omega
    | succ f11 ih17 =>
      intro u9 w12 h13 o14 z15 z16
      refine r_iload_n 2 C dX6_copy_18 rfl ?_
      refine r_aload_n 0 C dX6_copy_19 rfl ?_
      refine gfX6_18 3 C (kS sC h13 kc_97) (xS sC h13 xc_97_4) dX6_copy_20 ?_
      refine gfX6_39 (v := (wI w 3 3)) C (kS sC h13 kc_3) (h13.I (by decide) (by decide) rfl) dX6_copy_23 ?_
      have b18 := Inv.get o0 rt_3_3 (j := 3) (by decide) (by decide)
      have k20 := i_rng u9
      refine r_icmp_ge 59 C dX6_copy_26 (by decide) (fun c19 => ?_) (fun c19 => ?_)
      · have c19' := i_le c19
        exact hret _ _ _ dX6_copy_59 ⟨h13, o14⟩
      · have c19' := i_nle c19
        refine r_aload_n 0 C dX6_copy_29 rfl ?_
        refine gfX6_9 98 C (kS sC h13 kc_97) (xS sC h13 xc_97_2) dX6_copy_30 ?_
        refine r_iload_n 2 C dX6_copy_33 rfl ?_
        refine r_aload_n 1 C dX6_copy_34 rfl ?_
        refine gfX6_9 95 C (kS sC h13 kc_94) (xS sC h13 xc_94_2) dX6_copy_35 ?_
        refine r_iload_n 2 C dX6_copy_38 rfl ?_
        refine r_iald C (kS sC h13 kc_95) (vin (by omega) (by omega)) dX6_copy_39 ?_
        generalize (wI w12 95 (u9).toNatClampNeg) = v21
        refine r_iast C (kS sC h13 kc_98) (vin (by omega) (by omega)) dX6_copy_40 (fun w22 e23 => ?_)
        have h24 := Ch.putS h13 e23 (by decide)
        have o25 := Inv.put0 o14 e23 (by decide)
        refine r_aload_n 0 C dX6_copy_41 rfl ?_
        refine gfX6_15 99 C (kS sC h24 kc_97) (xS sC h24 xc_97_3) dX6_copy_42 ?_
        refine r_iload_n 2 C dX6_copy_45 rfl ?_
        refine r_aload_n 1 C dX6_copy_46 rfl ?_
        refine gfX6_15 96 C (kS sC h24 kc_94) (xS sC h24 xc_94_3) dX6_copy_47 ?_
        refine r_iload_n 2 C dX6_copy_50 rfl ?_
        refine r_iald C (kS sC h24 kc_96) (vin (by omega) (by omega)) dX6_copy_51 ?_
        generalize (wI w22 96 (u9).toNatClampNeg) = v26
        refine r_iast C (kS sC h24 kc_99) (vin (by omega) (by omega)) dX6_copy_52 (fun w27 e28 => ?_)
        have h29 := Ch.putS h24 e28 (by decide)
        have o30 := Inv.put0 o25 e28 (by decide)
        obtain ⟨i31, e32⟩ : ∃ z : Int32, u9 + Int32.ofInt 1 = z := ⟨_, rfl⟩
        have i31' := iinc_ok e32 (by decide) (by omega) (by omega)
        refine r_iinc [(2, .int i31), (0, .ref (gz (xG x) + 97)), (1, .ref (gz (xG x) + 94))] 2 C dX6_copy_53 rfl e32 (by decide) rfl ?_
        refine r_goto 18 C dX6_copy_56 (by decide) ?_
        refine r_lv [1, 2, 0] rfl ?_
        exact ih17 i31 w27 h29 o30 (by omega) (by omega)
  refine r_aload_n 0 C dX6_copy_0 rfl ?_
  refine r_aload_n 1 C dX6_copy_1 rfl ?_
  refine gfX6_32 (v := (wI w 94 0)) C (kS sC h0 kc_94) rfl dX6_copy_2 ?_
  refine pfX6_32 C (kS sC h0 kc_97) dX6_copy_5 (fun w1 e2 => ?_)
  have h3 := Ch.putF h0 e2 (by decide)
  have o4 := Inv.putk o0 e2 (by decide)
  refine r_aload_n 0 C dX6_copy_8 rfl ?_
  refine r_aload_n 1 C dX6_copy_9 rfl ?_
  refine gfX6_33 (v := (wI w 94 1)) C (kS sC h3 kc_94) (g_nn e2 (by decide) rfl) dX6_copy_10 ?_
  refine pfX6_33 C (kS sC h3 kc_97) dX6_copy_13 (fun w5 e6 => ?_)
  have h7 := Ch.putF h3 e6 (by decide)
  have o8 := Inv.putk o4 e6 (by decide)
  refine r_iconst (v := 0) C dX6_copy_16 (by decide) ?_
  refine r_istore_n [(2, .int 0), (0, .ref (gz (xG x) + 97)), (1, .ref (gz (xG x) + 94))] C dX6_copy_17 (by decide) rfl ?_
  refine r_lv [1, 2, 0] rfl ?_
  exact LP10 4294967296 0 w5 h7 o8 (by omega) (by omega)
set_option maxHeartbeats 4000000 in
set_option maxRecDepth 100000 in
theorem ctX6_copy_100_97 (l : Launch) (G : Gt) (w : Wv) (sC : Str KC XC w) (o0 : Inv RC w)  : CtV l G yX6_copy cX6_copy 3 ({ frames := 0, cells := 0, slots := 0, locals := 0 } : Room) [.ref (gz G + 100), .ref (gz G + 97)] w (fun w' => Ch [101, 102] [(100, 0), (100, 1)] w w' ∧ Inv RC w') := by
  refine enterV (by decide) (Nat.le_of_ble_eq_true rfl) ?_
  intro x el eG C hnm hret
  subst el; subst eG
  show V x 0 0 w 0 [(0, .ref (gz (xG x) + 100)), (1, .ref (gz (xG x) + 97))] []
  have h0 : Ch [101, 102] [(100, 0), (100, 1)] w w := Ch.rf
  have q0 : (0 : Int32).toInt = 0 := by decide
  have LP10 : ∀ (f11 : Nat) (u9 : Int32) (w12 : Wv), Ch [101, 102] [(100, 0), (100, 1)] w w12 → Inv RC w12 → (0 ≤ u9.toInt ∧ u9.toInt ≤ 2147483647) → 2147483647 - u9.toInt < f11 → V x 0 0 w12 18 [(0, .ref (gz (xG x) + 100)), (1, .ref (gz (xG x) + 97)), (2, .int u9)] [] := by
    intro f11
    induction f11 with
    | zero => intro u9 w12 h13 o14 z15 z16; exfalso; omega
    | succ f11 ih17 =>
      intro u9 w12 h13 o14 z15 z16
      refine r_iload_n 2 C dX6_copy_18 rfl ?_
      refine r_aload_n 0 C dX6_copy_19 rfl ?_
      refine gfX6_18 3 C (kS sC h13 kc_100) (xS sC h13 xc_100_4) dX6_copy_20 ?_
      refine gfX6_39 (v := (wI w 3 3)) C (kS sC h13 kc_3) (h13.I (by decide) (by decide) rfl) dX6_copy_23 ?_
      have b18 := Inv.get o0 rt_3_3 (j := 3) (by decide) (by decide)
      have k20 := i_rng u9
      refine r_icmp_ge 59 C dX6_copy_26 (by decide) (fun c19 => ?_) (fun c19 => ?_)
      · have c19' := i_le c19
        exact hret _ _ _ dX6_copy_59 ⟨h13, o14⟩
      · have c19' := i_nle c19
        refine r_aload_n 0 C dX6_copy_29 rfl ?_
        refine gfX6_9 101 C (kS sC h13 kc_100) (xS sC h13 xc_100_2) dX6_copy_30 ?_
        refine r_iload_n 2 C dX6_copy_33 rfl ?_
        refine r_aload_n 1 C dX6_copy_34 rfl ?_
        refine gfX6_9 98 C (kS sC h13 kc_97) (xS sC h13 xc_97_2) dX6_copy_35 ?_
        refine r_iload_n 2 C dX6_copy_38 rfl ?_
        refine r_iald C (kS sC h13 kc_98) (vin (by omega) (by omega)) dX6_copy_39 ?_
        generalize (wI w12 98 (u9).toNatClampNeg) = v21
        refine r_iast C (kS sC h13 kc_101) (vin (by omega) (by omega)) dX6_copy_40 (fun w22 e23 => ?_)
        have h24 := Ch.putS h13 e23 (by decide)
        have o25 := Inv.put0 o14 e23 (by decide)
        refine r_aload_n 0 C dX6_copy_41 rfl ?_
        refine gfX6_15 102 C (kS sC h24 kc_100) (xS sC h24 xc_100_3) dX6_copy_42 ?_
        refine r_iload_n 2 C dX6_copy_45 rfl ?_
        refine r_aload_n 1 C dX6_copy_46 rfl ?_
        refine gfX6_15 99 C (kS sC h24 kc_97) (xS sC h24 xc_97_3) dX6_copy_47 ?_
        refine r_iload_n 2 C dX6_copy_50 rfl ?_
        refine r_iald C (kS sC h24 kc_99) (vin (by omega) (by omega)) dX6_copy_51 ?_
        generalize (wI w22 99 (u9).toNatClampNeg) = v26
        refine r_iast C (kS sC h24 kc_102) (vin (by omega) (by omega)) dX6_copy_52 (fun w27 e28 => ?_)
        have h29 := Ch.putS h24 e28 (by decide)
        have o30 := Inv.put0 o25 e28 (by decide)
        obtain ⟨i31, e32⟩ : ∃ z : Int32, u9 + Int32.ofInt 1 = z := ⟨_, rfl⟩
        have i31' := iinc_ok e32 (by decide) (by omega) (by omega)
        refine r_iinc [(2, .int i31), (0, .ref (gz (xG x) + 100)), (1, .ref (gz (xG x) + 97))] 2 C dX6_copy_53 rfl e32 (by decide) rfl ?_
        refine r_goto 18 C dX6_copy_56 (by decide) ?_
        refine r_lv [1, 2, 0] rfl ?_
        exact ih17 i31 w27 h29 o30 (by omega) (by omega)
  refine r_aload_n 0 C dX6_copy_0 rfl ?_
  refine r_aload_n 1 C dX6_copy_1 rfl ?_
  refine gfX6_32 (v := (wI w 97 0)) C (kS sC h0 kc_97) rfl dX6_copy_2 ?_
  refine pfX6_32 C (kS sC h0 kc_100) dX6_copy_5 (fun w1 e2 => ?_)
  have h3 := Ch.putF h0 e2 (by decide)
  have o4 := Inv.putk o0 e2 (by decide)
  refine r_aload_n 0 C dX6_copy_8 rfl ?_
  refine r_aload_n 1 C dX6_copy_9 rfl ?_
  refine gfX6_33 (v := (wI w 97 1)) C (kS sC h3 kc_97) (g_nn e2 (by decide) rfl) dX6_copy_10 ?_
  refine pfX6_33 C (kS sC h3 kc_100) dX6_copy_13 (fun w5 e6 => ?_)
  have h7 := Ch.putF h3 e6 (by decide)
  have o8 := Inv.putk o4 e6 (by decide)
  refine r_iconst (v := 0) C dX6_copy_16 (by decide) ?_
  refine r_istore_n [(2, .int 0), (0, .ref (gz (xG x) + 100)), (1, .ref (gz (xG x) + 97))] C dX6_copy_17 (by decide) rfl ?_
  refine r_lv [1, 2, 0] rfl ?_
  exact LP10 4294967296 0 w5 h7 o8 (by omega) (by omega)
set_option maxHeartbeats 4000000 in
set_option maxRecDepth 100000 in
theorem ctX6_copy_106_35 (l : Launch) (G : Gt) (w : Wv) (sC : Str KC XC w) (o0 : Inv RC w)  : CtV l G yX6_copy cX6_copy 3 ({ frames := 0, cells := 0, slots := 0, locals := 0 } : Room) [.ref (gz G + 106), .ref (gz G + 35)] w (fun w' => Ch [107, 108] [(106, 0), (106, 1)] w w' ∧ Inv RC w') := by
  refine enterV (by decide) (Nat.le_of_ble_eq_true rfl) ?_
  intro x el eG C hnm hret
  subst el; subst eG
  show V x 0 0 w 0 [(0, .ref (gz (xG x) + 106)), (1, .ref (gz (xG x) + 35))] []
  have h0 : Ch [107, 108] [(106, 0), (106, 1)] w w := Ch.rf
  have q0 : (0 : Int32).toInt = 0 := by decide
  have LP10 : ∀ (f11 : Nat) (u9 : Int32) (w12 : Wv), Ch [107, 108] [(106, 0), (106, 1)] w w12 → Inv RC w12 → (0 ≤ u9.toInt ∧ u9.toInt ≤ 2147483647) → 2147483647 - u9.toInt < f11 → V x 0 0 w12 18 [(0, .ref (gz (xG x) + 106)), (1, .ref (gz (xG x) + 35)), (2, .int u9)] [] := by
    intro f11
    induction f11 with
    | zero => intro u9 w12 h13 o14 z15 z16; exfalso; omega
    | succ f11 ih17 =>
      intro u9 w12 h13 o14 z15 z16
      refine r_iload_n 2 C dX6_copy_18 rfl ?_
      refine r_aload_n 0 C dX6_copy_19 rfl ?_
      refine gfX6_18 3 C (kS sC h13 kc_106) (xS sC h13 xc_106_4) dX6_copy_20 ?_
      refine gfX6_39 (v := (wI w 3 3)) C (kS sC h13 kc_3) (h13.I (by decide) (by decide) rfl) dX6_copy_23 ?_
      have b18 := Inv.get o0 rt_3_3 (j := 3) (by decide) (by decide)
      have k20 := i_rng u9
      refine r_icmp_ge 59 C dX6_copy_26 (by decide) (fun c19 => ?_) (fun c19 => ?_)
      · have c19' := i_le c19
        exact hret _ _ _ dX6_copy_59 ⟨h13, o14⟩
      · have c19' := i_nle c19
        refine r_aload_n 0 C dX6_copy_29 rfl ?_
        refine gfX6_9 107 C (kS sC h13 kc_106) (xS sC h13 xc_106_2) dX6_copy_30 ?_
        refine r_iload_n 2 C dX6_copy_33 rfl ?_
        refine r_aload_n 1 C dX6_copy_34 rfl ?_
        refine gfX6_9 36 C (kS sC h13 kc_35) (xS sC h13 xc_35_2) dX6_copy_35 ?_
        refine r_iload_n 2 C dX6_copy_38 rfl ?_
        refine r_iald C (kS sC h13 kc_36) (vin (by omega) (by omega)) dX6_copy_39 ?_
        generalize (wI w12 36 (u9).toNatClampNeg) = v21
        refine r_iast C (kS sC h13 kc_107) (vin (by omega) (by omega)) dX6_copy_40 (fun w22 e23 => ?_)
        have h24 := Ch.putS h13 e23 (by decide)
        have o25 := Inv.put0 o14 e23 (by decide)
        refine r_aload_n 0 C dX6_copy_41 rfl ?_
        refine gfX6_15 108 C (kS sC h24 kc_106) (xS sC h24 xc_106_3) dX6_copy_42 ?_
        refine r_iload_n 2 C dX6_copy_45 rfl ?_
        refine r_aload_n 1 C dX6_copy_46 rfl ?_
        refine gfX6_15 37 C (kS sC h24 kc_35) (xS sC h24 xc_35_3) dX6_copy_47 ?_
        refine r_iload_n 2 C dX6_copy_50 rfl ?_
        refine r_iald C (kS sC h24 kc_37) (vin (by omega) (by omega)) dX6_copy_51 ?_
        generalize (wI w22 37 (u9).toNatClampNeg) = v26
        refine r_iast C (kS sC h24 kc_108) (vin (by omega) (by omega)) dX6_copy_52 (fun w27 e28 => ?_)
        have h29 := Ch.putS h24 e28 (by decide)
        have o30 := Inv.put0 o25 e28 (by decide)
        obtain ⟨i31, e32⟩ : ∃ z : Int32, u9 + Int32.ofInt 1 = z := ⟨_, rfl⟩
        have i31' := iinc_ok e32 (by decide) (by omega) (by omega)
        refine r_iinc [(2, .int i31), (0, .ref (gz (xG x) + 106)), (1, .ref (gz (xG x) + 35))] 2 C dX6_copy_53 rfl e32 (by decide) rfl ?_
        refine r_goto 18 C dX6_copy_56 (by decide) ?_
        refine r_lv [1, 2, 0] rfl ?_
        exact ih17 i31 w27 h29 o30 (by omega) (by omega)
  refine r_aload_n 0 C dX6_copy_0 rfl ?_
  refine r_aload_n 1 C dX6_copy_1 rfl ?_
  refine gfX6_32 (v := (wI w 35 0)) C (kS sC h0 kc_35) rfl dX6_copy_2 ?_
  refine pfX6_32 C (kS sC h0 kc_106) dX6_copy_5 (fun w1 e2 => ?_)
  have h3 := Ch.putF h0 e2 (by decide)
  have o4 := Inv.putk o0 e2 (by decide)
  refine r_aload_n 0 C dX6_copy_8 rfl ?_
  refine r_aload_n 1 C dX6_copy_9 rfl ?_
  refine gfX6_33 (v := (wI w 35 1)) C (kS sC h3 kc_35) (g_nn e2 (by decide) rfl) dX6_copy_10 ?_
  refine pfX6_33 C (kS sC h3 kc_106) dX6_copy_13 (fun w5 e6 => ?_)
  have h7 := Ch.putF h3 e6 (by decide)
  have o8 := Inv.putk o4 e6 (by decide)
  refine r_iconst (v := 0) C dX6_copy_16 (by decide) ?_
  refine r_istore_n [(2, .int 0), (0, .ref (gz (xG x) + 106)), (1, .ref (gz (xG x) + 35))] C dX6_copy_17 (by decide) rfl ?_
  refine r_lv [1, 2, 0] rfl ?_
  exact LP10 4294967296 0 w5 h7 o8 (by omega) (by omega)
set_option maxHeartbeats 4000000 in
set_option maxRecDepth 100000 in
theorem ctX6_copy_111_35 (l : Launch) (G : Gt) (w : Wv) (sC : Str KC XC w) (o0 : Inv RC w)  : CtV l G yX6_copy cX6_copy 3 ({ frames := 0, cells := 0, slots := 0, locals := 0 } : Room) [.ref (gz G + 111), .ref (gz G + 35)] w (fun w' => Ch [112, 113] [(111, 0), (111, 1)] w w' ∧ Inv RC w') := by
  refine enterV (by decide) (Nat.le_of_ble_eq_true rfl) ?_
  intro x el eG C hnm hret
  subst el; subst eG
  show V x 0 0 w 0 [(0, .ref (gz (xG x) + 111)), (1, .ref (gz (xG x) + 35))] []
  have h0 : Ch [112, 113] [(111, 0), (111, 1)] w w := Ch.rf
  have q0 : (0 : Int32).toInt = 0 := by decide
  have LP10 : ∀ (f11 : Nat) (u9 : Int32) (w12 : Wv), Ch [112, 113] [(111, 0), (111, 1)] w w12 → Inv RC w12 → (0 ≤ u9.toInt ∧ u9.toInt ≤ 2147483647) → 2147483647 - u9.toInt < f11 → V x 0 0 w12 18 [(0, .ref (gz (xG x) + 111)), (1, .ref (gz (xG x) + 35)), (2, .int u9)] [] := by
    intro f11
    induction f11 with
    | zero => intro u9 w12 h13 o14 z15 z16; exfalso; omega
    | succ f11 ih17 =>
      intro u9 w12 h13 o14 z15 z16
      refine r_iload_n 2 C dX6_copy_18 rfl ?_
      refine r_aload_n 0 C dX6_copy_19 rfl ?_
      refine gfX6_18 3 C (kS sC h13 kc_111) (xS sC h13 xc_111_4) dX6_copy_20 ?_
      refine gfX6_39 (v := (wI w 3 3)) C (kS sC h13 kc_3) (h13.I (by decide) (by decide) rfl) dX6_copy_23 ?_
      have b18 := Inv.get o0 rt_3_3 (j := 3) (by decide) (by decide)
      have k20 := i_rng u9
      refine r_icmp_ge 59 C dX6_copy_26 (by decide) (fun c19 => ?_) (fun c19 => ?_)
      · have c19' := i_le c19
        exact hret _ _ _ dX6_copy_59 ⟨h13, o14⟩
      · have c19' := i_nle c19
        refine r_aload_n 0 C dX6_copy_29 rfl ?_
        refine gfX6_9 112 C (kS sC h13 kc_111) (xS sC h13 xc_111_2) dX6_copy_30 ?_
        refine r_iload_n 2 C dX6_copy_33 rfl ?_
        refine r_aload_n 1 C dX6_copy_34 rfl ?_
        refine gfX6_9 36 C (kS sC h13 kc_35) (xS sC h13 xc_35_2) dX6_copy_35 ?_
        refine r_iload_n 2 C dX6_copy_38 rfl ?_
        refine r_iald C (kS sC h13 kc_36) (vin (by omega) (by omega)) dX6_copy_39 ?_
        generalize (wI w12 36 (u9).toNatClampNeg) = v21
        refine r_iast C (kS sC h13 kc_112) (vin (by omega) (by omega)) dX6_copy_40 (fun w22 e23 => ?_)
        have h24 := Ch.putS h13 e23 (by decide)
        have o25 := Inv.put0 o14 e23 (by decide)
        refine r_aload_n 0 C dX6_copy_41 rfl ?_
        refine gfX6_15 113 C (kS sC h24 kc_111) (xS sC h24 xc_111_3) dX6_copy_42 ?_
        refine r_iload_n 2 C dX6_copy_45 rfl ?_
        refine r_aload_n 1 C dX6_copy_46 rfl ?_
        refine gfX6_15 37 C (kS sC h24 kc_35) (xS sC h24 xc_35_3) dX6_copy_47 ?_
        refine r_iload_n 2 C dX6_copy_50 rfl ?_
        refine r_iald C (kS sC h24 kc_37) (vin (by omega) (by omega)) dX6_copy_51 ?_
        generalize (wI w22 37 (u9).toNatClampNeg) = v26
        refine r_iast C (kS sC h24 kc_113) (vin (by omega) (by omega)) dX6_copy_52 (fun w27 e28 => ?_)
        have h29 := Ch.putS h24 e28 (by decide)
        have o30 := Inv.put0 o25 e28 (by decide)
        obtain ⟨i31, e32⟩ : ∃ z : Int32, u9 + Int32.ofInt 1 = z := ⟨_, rfl⟩
        have i31' := iinc_ok e32 (by decide) (by omega) (by omega)
        refine r_iinc [(2, .int i31), (0, .ref (gz (xG x) + 111)), (1, .ref (gz (xG x) + 35))] 2 C dX6_copy_53 rfl e32 (by decide) rfl ?_
        refine r_goto 18 C dX6_copy_56 (by decide) ?_
        refine r_lv [1, 2, 0] rfl ?_
        exact ih17 i31 w27 h29 o30 (by omega) (by omega)
  refine r_aload_n 0 C dX6_copy_0 rfl ?_
  refine r_aload_n 1 C dX6_copy_1 rfl ?_
  refine gfX6_32 (v := (wI w 35 0)) C (kS sC h0 kc_35) rfl dX6_copy_2 ?_
  refine pfX6_32 C (kS sC h0 kc_111) dX6_copy_5 (fun w1 e2 => ?_)
  have h3 := Ch.putF h0 e2 (by decide)
  have o4 := Inv.putk o0 e2 (by decide)
  refine r_aload_n 0 C dX6_copy_8 rfl ?_
  refine r_aload_n 1 C dX6_copy_9 rfl ?_
  refine gfX6_33 (v := (wI w 35 1)) C (kS sC h3 kc_35) (g_nn e2 (by decide) rfl) dX6_copy_10 ?_
  refine pfX6_33 C (kS sC h3 kc_111) dX6_copy_13 (fun w5 e6 => ?_)
  have h7 := Ch.putF h3 e6 (by decide)
  have o8 := Inv.putk o4 e6 (by decide)
  refine r_iconst (v := 0) C dX6_copy_16 (by decide) ?_
  refine r_istore_n [(2, .int 0), (0, .ref (gz (xG x) + 111)), (1, .ref (gz (xG x) + 35))] C dX6_copy_17 (by decide) rfl ?_
  refine r_lv [1, 2, 0] rfl ?_
  exact LP10 4294967296 0 w5 h7 o8 (by omega) (by omega)
set_option maxHeartbeats 4000000 in
set_option maxRecDepth 100000 in
theorem ctX6_copy_35_106 (l : Launch) (G : Gt) (w : Wv) (sC : Str KC XC w) (o0 : Inv RC w)  : CtV l G yX6_copy cX6_copy 3 ({ frames := 0, cells := 0, slots := 0, locals := 0 } : Room) [.ref (gz G + 35), .ref (gz G + 106)] w (fun w' => Ch [36, 37] [(35, 0), (35, 1)] w w' ∧ Inv RC w') := by
  refine enterV (by decide) (Nat.le_of_ble_eq_true rfl) ?_
  intro x el eG C hnm hret
  subst el; subst eG
  show V x 0 0 w 0 [(0, .ref (gz (xG x) + 35)), (1, .ref (gz (xG x) + 106))] []
  have h0 : Ch [36, 37] [(35, 0), (35, 1)] w w := Ch.rf
  have q0 : (0 : Int32).toInt = 0 := by decide
  have LP10 : ∀ (f11 : Nat) (u9 : Int32) (w12 : Wv), Ch [36, 37] [(35, 0), (35, 1)] w w12 → Inv RC w12 → (0 ≤ u9.toInt ∧ u9.toInt ≤ 2147483647) → 2147483647 - u9.toInt < f11 → V x 0 0 w12 18 [(0, .ref (gz (xG x) + 35)), (1, .ref (gz (xG x) + 106)), (2, .int u9)] [] := by
    intro f11
    induction f11 with
    | zero => intro u9 w12 h13 o14 z15 z16; exfalso; omega
    | succ f11 ih17 =>
      intro u9 w12 h13 o14 z15 z16
      refine r_iload_n 2 C dX6_copy_18 rfl ?_
      refine r_aload_n 0 C dX6_copy_19 rfl ?_
      refine gfX6_18 3 C (kS sC h13 kc_35) (xS sC h13 xc_35_4) dX6_copy_20 ?_
      refine gfX6_39 (v := (wI w 3 3)) C (kS sC h13 kc_3) (h13.I (by decide) (by decide) rfl) dX6_copy_23 ?_
      have b18 := Inv.get o0 rt_3_3 (j := 3) (by decide) (by decide)
      have k20 := i_rng u9
      refine r_icmp_ge 59 C dX6_copy_26 (by decide) (fun c19 => ?_) (fun c19 => ?_)
      · have c19' := i_le c19
        exact hret _ _ _ dX6_copy_59 ⟨h13, o14⟩
      · have c19' := i_nle c19
        refine r_aload_n 0 C dX6_copy_29 rfl ?_
        refine gfX6_9 36 C (kS sC h13 kc_35) (xS sC h13 xc_35_2) dX6_copy_30 ?_
        refine r_iload_n 2 C dX6_copy_33 rfl ?_
        refine r_aload_n 1 C dX6_copy_34 rfl ?_
        refine gfX6_9 107 C (kS sC h13 kc_106) (xS sC h13 xc_106_2) dX6_copy_35 ?_
        refine r_iload_n 2 C dX6_copy_38 rfl ?_
        refine r_iald C (kS sC h13 kc_107) (vin (by omega) (by omega)) dX6_copy_39 ?_
        generalize (wI w12 107 (u9).toNatClampNeg) = v21
        refine r_iast C (kS sC h13 kc_36) (vin (by omega) (by omega)) dX6_copy_40 (fun w22 e23 => ?_)
        have h24 := Ch.putS h13 e23 (by decide)
        have o25 := Inv.put0 o14 e23 (by decide)
        refine r_aload_n 0 C dX6_copy_41 rfl ?_
        refine gfX6_15 37 C (kS sC h24 kc_35) (xS sC h24 xc_35_3) dX6_copy_42 ?_
        refine r_iload_n 2 C dX6_copy_45 rfl ?_
        refine r_aload_n 1 C dX6_copy_46 rfl ?_
        refine gfX6_15 108 C (kS sC h24 kc_106) (xS sC h24 xc_106_3) dX6_copy_47 ?_
        refine r_iload_n 2 C dX6_copy_50 rfl ?_
        refine r_iald C (kS sC h24 kc_108) (vin (by omega) (by omega)) dX6_copy_51 ?_
        generalize (wI w22 108 (u9).toNatClampNeg) = v26
        refine r_iast C (kS sC h24 kc_37) (vin (by omega) (by omega)) dX6_copy_52 (fun w27 e28 => ?_)
        have h29 := Ch.putS h24 e28 (by decide)
        have o30 := Inv.put0 o25 e28 (by decide)
        obtain ⟨i31, e32⟩ : ∃ z : Int32, u9 + Int32.ofInt 1 = z := ⟨_, rfl⟩
        have i31' := iinc_ok e32 (by decide) (by omega) (by omega)
        refine r_iinc [(2, .int i31), (0, .ref (gz (xG x) + 35)), (1, .ref (gz (xG x) + 106))] 2 C dX6_copy_53 rfl e32 (by decide) rfl ?_
        refine r_goto 18 C dX6_copy_56 (by decide) ?_
        refine r_lv [1, 2, 0] rfl ?_
        exact ih17 i31 w27 h29 o30 (by omega) (by omega)
  refine r_aload_n 0 C dX6_copy_0 rfl ?_
  refine r_aload_n 1 C dX6_copy_1 rfl ?_
  refine gfX6_32 (v := (wI w 106 0)) C (kS sC h0 kc_106) rfl dX6_copy_2 ?_
  refine pfX6_32 C (kS sC h0 kc_35) dX6_copy_5 (fun w1 e2 => ?_)
  have h3 := Ch.putF h0 e2 (by decide)
  have o4 := Inv.putk o0 e2 (by decide)
  refine r_aload_n 0 C dX6_copy_8 rfl ?_
  refine r_aload_n 1 C dX6_copy_9 rfl ?_
  refine gfX6_33 (v := (wI w 106 1)) C (kS sC h3 kc_106) (g_nn e2 (by decide) rfl) dX6_copy_10 ?_
  refine pfX6_33 C (kS sC h3 kc_35) dX6_copy_13 (fun w5 e6 => ?_)
  have h7 := Ch.putF h3 e6 (by decide)
  have o8 := Inv.putk o4 e6 (by decide)
  refine r_iconst (v := 0) C dX6_copy_16 (by decide) ?_
  refine r_istore_n [(2, .int 0), (0, .ref (gz (xG x) + 35)), (1, .ref (gz (xG x) + 106))] C dX6_copy_17 (by decide) rfl ?_
  refine r_lv [1, 2, 0] rfl ?_
  exact LP10 4294967296 0 w5 h7 o8 (by omega) (by omega)
set_option maxHeartbeats 4000000 in
set_option maxRecDepth 100000 in
theorem ctX6_copy_35_111 (l : Launch) (G : Gt) (w : Wv) (sC : Str KC XC w) (o0 : Inv RC w)  : CtV l G yX6_copy cX6_copy 3 ({ frames := 0, cells := 0, slots := 0, locals := 0 } : Room) [.ref (gz G + 35), .ref (gz G + 111)] w (fun w' => Ch [36, 37] [(35, 0), (35, 1)] w w' ∧ Inv RC w') := by
  refine enterV (by decide) (Nat.le_of_ble_eq_true rfl) ?_
  intro x el eG C hnm hret
  subst el; subst eG
  show V x 0 0 w 0 [(0, .ref (gz (xG x) + 35)), (1, .ref (gz (xG x) + 111))] []
  have h0 : Ch [36, 37] [(35, 0), (35, 1)] w w := Ch.rf
  have q0 : (0 : Int32).toInt = 0 := by decide
  have LP10 : ∀ (f11 : Nat) (u9 : Int32) (w12 : Wv), Ch [36, 37] [(35, 0), (35, 1)] w w12 → Inv RC w12 → (0 ≤ u9.toInt ∧ u9.toInt ≤ 2147483647) → 2147483647 - u9.toInt < f11 → V x 0 0 w12 18 [(0, .ref (gz (xG x) + 35)), (1, .ref (gz (xG x) + 111)), (2, .int u9)] [] := by
    intro f11
    induction f11 with
    | zero => intro u9 w12 h13 o14 z15 z16; exfalso; omega
    | succ f11 ih17 =>
      intro u9 w12 h13 o14 z15 z16
      refine r_iload_n 2 C dX6_copy_18 rfl ?_
      refine r_aload_n 0 C dX6_copy_19 rfl ?_
      refine gfX6_18 3 C (kS sC h13 kc_35) (xS sC h13 xc_35_4) dX6_copy_20 ?_
      refine gfX6_39 (v := (wI w 3 3)) C (kS sC h13 kc_3) (h13.I (by decide) (by decide) rfl) dX6_copy_23 ?_
      have b18 := Inv.get o0 rt_3_3 (j := 3) (by decide) (by decide)
      have k20 := i_rng u9
      refine r_icmp_ge 59 C dX6_copy_26 (by decide) (fun c19 => ?_) (fun c19 => ?_)
      · have c19' := i_le c19
        exact hret _ _ _ dX6_copy_59 ⟨h13, o14⟩
      · have c19' := i_nle c19
        refine r_aload_n 0 C dX6_copy_29 rfl ?_
        refine gfX6_9 36 C (kS sC h13 kc_35) (xS sC h13 xc_35_2) dX6_copy_30 ?_
        refine r_iload_n 2 C dX6_copy_33 rfl ?_
        refine r_aload_n 1 C dX6_copy_34 rfl ?_
        refine gfX6_9 112 C (kS sC h13 kc_111) (xS sC h13 xc_111_2) dX6_copy_35 ?_
        refine r_iload_n 2 C dX6_copy_38 rfl ?_
        refine r_iald C (kS sC h13 kc_112) (vin (by omega) (by omega)) dX6_copy_39 ?_
        generalize (wI w12 112 (u9).toNatClampNeg) = v21
        refine r_iast C (kS sC h13 kc_36) (vin (by omega) (by omega)) dX6_copy_40 (fun w22 e23 => ?_)
        have h24 := Ch.putS h13 e23 (by decide)
        have o25 := Inv.put0 o14 e23 (by decide)
        refine r_aload_n 0 C dX6_copy_41 rfl ?_
        refine gfX6_15 37 C (kS sC h24 kc_35) (xS sC h24 xc_35_3) dX6_copy_42 ?_
        refine r_iload_n 2 C dX6_copy_45 rfl ?_
        refine r_aload_n 1 C dX6_copy_46 rfl ?_
        refine gfX6_15 113 C (kS sC h24 kc_111) (xS sC h24 xc_111_3) dX6_copy_47 ?_
        refine r_iload_n 2 C dX6_copy_50 rfl ?_
        refine r_iald C (kS sC h24 kc_113) (vin (by omega) (by omega)) dX6_copy_51 ?_
        generalize (wI w22 113 (u9).toNatClampNeg) = v26
        refine r_iast C (kS sC h24 kc_37) (vin (by omega) (by omega)) dX6_copy_52 (fun w27 e28 => ?_)
        have h29 := Ch.putS h24 e28 (by decide)
        have o30 := Inv.put0 o25 e28 (by decide)
        obtain ⟨i31, e32⟩ : ∃ z : Int32, u9 + Int32.ofInt 1 = z := ⟨_, rfl⟩
        have i31' := iinc_ok e32 (by decide) (by omega) (by omega)
        refine r_iinc [(2, .int i31), (0, .ref (gz (xG x) + 35)), (1, .ref (gz (xG x) + 111))] 2 C dX6_copy_53 rfl e32 (by decide) rfl ?_
        refine r_goto 18 C dX6_copy_56 (by decide) ?_
        refine r_lv [1, 2, 0] rfl ?_
        exact ih17 i31 w27 h29 o30 (by omega) (by omega)
  refine r_aload_n 0 C dX6_copy_0 rfl ?_
  refine r_aload_n 1 C dX6_copy_1 rfl ?_
  refine gfX6_32 (v := (wI w 111 0)) C (kS sC h0 kc_111) rfl dX6_copy_2 ?_
  refine pfX6_32 C (kS sC h0 kc_35) dX6_copy_5 (fun w1 e2 => ?_)
  have h3 := Ch.putF h0 e2 (by decide)
  have o4 := Inv.putk o0 e2 (by decide)
  refine r_aload_n 0 C dX6_copy_8 rfl ?_
  refine r_aload_n 1 C dX6_copy_9 rfl ?_
  refine gfX6_33 (v := (wI w 111 1)) C (kS sC h3 kc_111) (g_nn e2 (by decide) rfl) dX6_copy_10 ?_
  refine pfX6_33 C (kS sC h3 kc_35) dX6_copy_13 (fun w5 e6 => ?_)
  have h7 := Ch.putF h3 e6 (by decide)
  have o8 := Inv.putk o4 e6 (by decide)
  refine r_iconst (v := 0) C dX6_copy_16 (by decide) ?_
  refine r_istore_n [(2, .int 0), (0, .ref (gz (xG x) + 35)), (1, .ref (gz (xG x) + 111))] C dX6_copy_17 (by decide) rfl ?_
  refine r_lv [1, 2, 0] rfl ?_
  exact LP10 4294967296 0 w5 h7 o8 (by omega) (by omega)
set_option maxHeartbeats 4000000 in
set_option maxRecDepth 100000 in
theorem ctX6_places_59 (l : Launch) (G : Gt) (w : Wv) (sC : Str KC XC w) (o0 : Inv RC w)  : CtL l G yX6_places cX6_places 4 ({ frames := 0, cells := 0, slots := 0, locals := 0 } : Room) [.ref (gz G + 59)] w (fun r w' => Ch [] [] w w' ∧ Inv RC w') := by
  refine enterL (by decide) (Nat.le_of_ble_eq_true rfl) ?_
  intro x el eG C hret
  subst el; subst eG
  show V x 0 0 w 0 [(0, .ref (gz (xG x) + 59))] []
  have h0 : Ch [] [] w w := Ch.rf
  have q0 : (0 : Int32).toInt = 0 := by decide
  have q6 : (6 : Int32).toInt = 6 := by decide
  have LP5 : ∀ (f6 : Nat) (u3 : Int64) (u4 : Int32) (w7 : Wv), Ch [] [] w w7 → Inv RC w7 → (0 ≤ u4.toInt ∧ u4.toInt ≤ 2147483647) → 2147483647 - u4.toInt < f6 → V x 0 0 w7 8 [(0, .ref (gz (xG x) + 59)), (1, .long u3), (3, .int u4)] [] := by
    intro f6
    induction f6 with
    | zero => intro u3 u4 w7 h8 o9 z10 z11; exfalso; omega
    | succ f6 ih12 =>
      intro u3 u4 w7 h8 o9 z10 z11
      refine r_iload_n 2 C dX6_places_8 rfl ?_
      refine r_aload_n 0 C dX6_places_9 rfl ?_
      refine gfX6_18 3 C (kS sC h8 kc_59) (xS sC h8 xc_59_4) dX6_places_10 ?_
      refine gfX6_39 (v := (wI w 3 3)) C (kS sC h8 kc_3) (h8.I (by decide) (by decide) rfl) dX6_places_13 ?_
      have b13 := Inv.get o0 rt_3_3 (j := 3) (by decide) (by decide)
      have k15 := i_rng u4
      refine r_icmp_ge 38 C dX6_places_16 (by decide) (fun c14 => ?_) (fun c14 => ?_)
      · have c14' := i_le c14
        refine r_lload_n 1 C dX6_places_38 rfl ?_
        exact hret _ _ _ _ dX6_places_39 ⟨h8, o9⟩
      · have c14' := i_nle c14
        refine r_lload_n 1 C dX6_places_19 rfl ?_
        refine r_bipush (v := 6) C dX6_places_20 (by decide) ?_
        refine r_lshl C dX6_places_22 (fun v16 e17 => ?_)
        refine r_aload_n 0 C dX6_places_23 rfl ?_
        refine gfX6_9 60 C (kS sC h8 kc_59) (xS sC h8 xc_59_2) dX6_places_24 ?_
        refine r_iload_n 2 C dX6_places_27 rfl ?_
        refine r_iald C (kS sC h8 kc_60) (vin (by omega) (by omega)) dX6_places_28 ?_
        generalize (wI w7 60 (u4).toNatClampNeg) = v18
        refine r_i2l C dX6_places_29 (fun v19 e20 => ?_)
        have v19' := i2l_ok e20
        refine r_lor C dX6_places_30 (fun v21 e22 => ?_)
        refine r_lstore_n [(1, .long v21), (0, .ref (gz (xG x) + 59)), (3, .int u4)] C dX6_places_31 (by decide) rfl ?_
        obtain ⟨i23, e24⟩ : ∃ z : Int32, u4 + Int32.ofInt 1 = z := ⟨_, rfl⟩
        have i23' := iinc_ok e24 (by decide) (by omega) (by omega)
        refine r_iinc [(3, .int i23), (1, .long v21), (0, .ref (gz (xG x) + 59))] 2 C dX6_places_32 rfl e24 (by decide) rfl ?_
        refine r_goto 8 C dX6_places_35 (by decide) ?_
        refine r_lv [2, 1, 0] rfl ?_
        exact ih12 v21 i23 w7 h8 o9 (by omega) (by omega)
  refine r_aload_n 0 C dX6_places_0 rfl ?_
  refine gfX6_32 (v := (wI w 59 0)) C (kS sC h0 kc_59) rfl dX6_places_1 ?_
  refine r_i2l C dX6_places_4 (fun v1 e2 => ?_)
  have v1' := i2l_ok e2
  refine r_lstore_n [(1, .long v1), (0, .ref (gz (xG x) + 59))] C dX6_places_5 (by decide) rfl ?_
  refine r_iconst (v := 0) C dX6_places_6 (by decide) ?_
  refine r_istore_n [(3, .int 0), (1, .long v1), (0, .ref (gz (xG x) + 59))] C dX6_places_7 (by decide) rfl ?_
  refine r_lv [2, 1, 0] rfl ?_
  exact LP5 4294967296 v1 0 w h0 o0 (by omega) (by omega)
set_option maxHeartbeats 4000000 in
set_option maxRecDepth 100000 in
theorem ctX6_goals_59 (l : Launch) (G : Gt) (w : Wv) (sC : Str KC XC w) (o0 : Inv RC w)  : CtL l G yX6_goals cX6_goals 4 ({ frames := 0, cells := 0, slots := 0, locals := 0 } : Room) [.ref (gz G + 59)] w (fun r w' => Ch [] [] w w' ∧ Inv RC w') := by
  refine enterL (by decide) (Nat.le_of_ble_eq_true rfl) ?_
  intro x el eG C hret
  subst el; subst eG
  show V x 0 0 w 0 [(0, .ref (gz (xG x) + 59))] []
  have h0 : Ch [] [] w w := Ch.rf
  have q0 : (0 : Int32).toInt = 0 := by decide
  have q1 : (1 : Int32).toInt = 1 := by decide
  have q6 : (6 : Int32).toInt = 6 := by decide
  have ql0 : (0 : Int64).toInt = 0 := by decide
  have LP3 : ∀ (f4 : Nat) (u1 : Int64) (u2 : Int32) (w5 : Wv), Ch [] [] w w5 → Inv RC w5 → (0 ≤ u2.toInt ∧ u2.toInt ≤ 2147483647) → 2147483647 - u2.toInt < f4 → V x 0 0 w5 4 [(0, .ref (gz (xG x) + 59)), (1, .long u1), (3, .int u2)] [] := by
    intro f4
    induction f4 with
    | zero => intro u1 u2 w5 h6 o7 z8 z9; exfalso; omega
    | succ f4 ih10 =>
      intro u1 u2 w5 h6 o7 z8 z9
      refine r_iload_n 2 C dX6_goals_4 rfl ?_
      refine r_aload_n 0 C dX6_goals_5 rfl ?_
      refine gfX6_18 3 C (kS sC h6 kc_59) (xS sC h6 xc_59_4) dX6_goals_6 ?_
      refine gfX6_39 (v := (wI w 3 3)) C (kS sC h6 kc_3) (h6.I (by decide) (by decide) rfl) dX6_goals_9 ?_
      have b11 := Inv.get o0 rt_3_3 (j := 3) (by decide) (by decide)
      have k13 := i_rng u2
      refine r_icmp_ge 36 C dX6_goals_12 (by decide) (fun c12 => ?_) (fun c12 => ?_)
      · have c12' := i_le c12
        refine r_lload_n 1 C dX6_goals_36 rfl ?_
        exact hret _ _ _ _ dX6_goals_37 ⟨h6, o7⟩
      · have c12' := i_nle c12
        refine r_lload_n 1 C dX6_goals_15 rfl ?_
        refine r_bipush (v := 6) C dX6_goals_16 (by decide) ?_
        refine r_lshl C dX6_goals_18 (fun v14 e15 => ?_)
        refine r_aload_n 0 C dX6_goals_19 rfl ?_
        refine gfX6_15 61 C (kS sC h6 kc_59) (xS sC h6 xc_59_3) dX6_goals_20 ?_
        refine r_iload_n 2 C dX6_goals_23 rfl ?_
        refine r_iald C (kS sC h6 kc_61) (vin (by omega) (by omega)) dX6_goals_24 ?_
        generalize (wI w5 61 (u2).toNatClampNeg) = v16
        refine r_iconst (v := 1) C dX6_goals_25 (by decide) ?_
        refine r_iadd C dX6_goals_26 (fun v17 e18 => ?_)
        refine r_i2l C dX6_goals_27 (fun v19 e20 => ?_)
        have v19' := i2l_ok e20
        refine r_lor C dX6_goals_28 (fun v21 e22 => ?_)
        refine r_lstore_n [(1, .long v21), (0, .ref (gz (xG x) + 59)), (3, .int u2)] C dX6_goals_29 (by decide) rfl ?_
        obtain ⟨i23, e24⟩ : ∃ z : Int32, u2 + Int32.ofInt 1 = z := ⟨_, rfl⟩
        have i23' := iinc_ok e24 (by decide) (by omega) (by omega)
        refine r_iinc [(3, .int i23), (1, .long v21), (0, .ref (gz (xG x) + 59))] 2 C dX6_goals_30 rfl e24 (by decide) rfl ?_
        refine r_goto 4 C dX6_goals_33 (by decide) ?_
        refine r_lv [2, 1, 0] rfl ?_
        exact ih10 v21 i23 w5 h6 o7 (by omega) (by omega)
  refine r_lconst (v := 0) C dX6_goals_0 (by decide) ?_
  refine r_lstore_n [(1, .long 0), (0, .ref (gz (xG x) + 59))] C dX6_goals_1 (by decide) rfl ?_
  refine r_iconst (v := 0) C dX6_goals_2 (by decide) ?_
  refine r_istore_n [(3, .int 0), (1, .long 0), (0, .ref (gz (xG x) + 59))] C dX6_goals_3 (by decide) rfl ?_
  refine r_lv [2, 1, 0] rfl ?_
  exact LP3 4294967296 0 0 w h0 o0 (by omega) (by omega)
set_option maxHeartbeats 4000000 in
set_option maxRecDepth 100000 in
theorem ctX6_places_62 (l : Launch) (G : Gt) (w : Wv) (sC : Str KC XC w) (o0 : Inv RC w)  : CtL l G yX6_places cX6_places 4 ({ frames := 0, cells := 0, slots := 0, locals := 0 } : Room) [.ref (gz G + 62)] w (fun r w' => Ch [] [] w w' ∧ Inv RC w') := by
  refine enterL (by decide) (Nat.le_of_ble_eq_true rfl) ?_
  intro x el eG C hret
  subst el; subst eG
  show V x 0 0 w 0 [(0, .ref (gz (xG x) + 62))] []
  have h0 : Ch [] [] w w := Ch.rf
  have q0 : (0 : Int32).toInt = 0 := by decide
  have q6 : (6 : Int32).toInt = 6 := by decide
  have LP5 : ∀ (f6 : Nat) (u3 : Int64) (u4 : Int32) (w7 : Wv), Ch [] [] w w7 → Inv RC w7 → (0 ≤ u4.toInt ∧ u4.toInt ≤ 2147483647) → 2147483647 - u4.toInt < f6 → V x 0 0 w7 8 [(0, .ref (gz (xG x) + 62)), (1, .long u3), (3, .int u4)] [] := by
    intro f6
    induction f6 with
    | zero => intro u3 u4 w7 h8 o9 z10 z11; exfalso; omega
    | succ f6 ih12 =>
      intro u3 u4 w7 h8 o9 z10 z11
      refine r_iload_n 2 C dX6_places_8 rfl ?_
      refine r_aload_n 0 C dX6_places_9 rfl ?_
      refine gfX6_18 3 C (kS sC h8 kc_62) (xS sC h8 xc_62_4) dX6_places_10 ?_
      refine gfX6_39 (v := (wI w 3 3)) C (kS sC h8 kc_3) (h8.I (by decide) (by decide) rfl) dX6_places_13 ?_
      have b13 := Inv.get o0 rt_3_3 (j := 3) (by decide) (by decide)
      have k15 := i_rng u4
      refine r_icmp_ge 38 C dX6_places_16 (by decide) (fun c14 => ?_) (fun c14 => ?_)
      · have c14' := i_le c14
        refine r_lload_n 1 C dX6_places_38 rfl ?_
        exact hret _ _ _ _ dX6_places_39 ⟨h8, o9⟩
      · have c14' := i_nle c14
        refine r_lload_n 1 C dX6_places_19 rfl ?_
        refine r_bipush (v := 6) C dX6_places_20 (by decide) ?_
        refine r_lshl C dX6_places_22 (fun v16 e17 => ?_)
        refine r_aload_n 0 C dX6_places_23 rfl ?_
        refine gfX6_9 63 C (kS sC h8 kc_62) (xS sC h8 xc_62_2) dX6_places_24 ?_
        refine r_iload_n 2 C dX6_places_27 rfl ?_
        refine r_iald C (kS sC h8 kc_63) (vin (by omega) (by omega)) dX6_places_28 ?_
        generalize (wI w7 63 (u4).toNatClampNeg) = v18
        refine r_i2l C dX6_places_29 (fun v19 e20 => ?_)
        have v19' := i2l_ok e20
        refine r_lor C dX6_places_30 (fun v21 e22 => ?_)
        refine r_lstore_n [(1, .long v21), (0, .ref (gz (xG x) + 62)), (3, .int u4)] C dX6_places_31 (by decide) rfl ?_
        obtain ⟨i23, e24⟩ : ∃ z : Int32, u4 + Int32.ofInt 1 = z := ⟨_, rfl⟩
        have i23' := iinc_ok e24 (by decide) (by omega) (by omega)
        refine r_iinc [(3, .int i23), (1, .long v21), (0, .ref (gz (xG x) + 62))] 2 C dX6_places_32 rfl e24 (by decide) rfl ?_
        refine r_goto 8 C dX6_places_35 (by decide) ?_
        refine r_lv [2, 1, 0] rfl ?_
        exact ih12 v21 i23 w7 h8 o9 (by omega) (by omega)
  refine r_aload_n 0 C dX6_places_0 rfl ?_
  refine gfX6_32 (v := (wI w 62 0)) C (kS sC h0 kc_62) rfl dX6_places_1 ?_
  refine r_i2l C dX6_places_4 (fun v1 e2 => ?_)
  have v1' := i2l_ok e2
  refine r_lstore_n [(1, .long v1), (0, .ref (gz (xG x) + 62))] C dX6_places_5 (by decide) rfl ?_
  refine r_iconst (v := 0) C dX6_places_6 (by decide) ?_
  refine r_istore_n [(3, .int 0), (1, .long v1), (0, .ref (gz (xG x) + 62))] C dX6_places_7 (by decide) rfl ?_
  refine r_lv [2, 1, 0] rfl ?_
  exact LP5 4294967296 v1 0 w h0 o0 (by omega) (by omega)
set_option maxHeartbeats 4000000 in
set_option maxRecDepth 100000 in
theorem ctX6_goals_62 (l : Launch) (G : Gt) (w : Wv) (sC : Str KC XC w) (o0 : Inv RC w)  : CtL l G yX6_goals cX6_goals 4 ({ frames := 0, cells := 0, slots := 0, locals := 0 } : Room) [.ref (gz G + 62)] w (fun r w' => Ch [] [] w w' ∧ Inv RC w') := by
  refine enterL (by decide) (Nat.le_of_ble_eq_true rfl) ?_
  intro x el eG C hret
  subst el; subst eG
  show V x 0 0 w 0 [(0, .ref (gz (xG x) + 62))] []
  have h0 : Ch [] [] w w := Ch.rf
  have q0 : (0 : Int32).toInt = 0 := by decide
  have q1 : (1 : Int32).toInt = 1 := by decide
  have q6 : (6 : Int32).toInt = 6 := by decide
  have ql0 : (0 : Int64).toInt = 0 := by decide
  have LP3 : ∀ (f4 : Nat) (u1 : Int64) (u2 : Int32) (w5 : Wv), Ch [] [] w w5 → Inv RC w5 → (0 ≤ u2.toInt ∧ u2.toInt ≤ 2147483647) → 2147483647 - u2.toInt < f4 → V x 0 0 w5 4 [(0, .ref (gz (xG x) + 62)), (1, .long u1), (3, .int u2)] [] := by
    intro f4
    induction f4 with
    | zero => intro u1 u2 w5 h6 o7 z8 z9; exfalso; omega
    | succ f4 ih10 =>
      intro u1 u2 w5 h6 o7 z8 z9
      refine r_iload_n 2 C dX6_goals_4 rfl ?_
      refine r_aload_n 0 C dX6_goals_5 rfl ?_
      refine gfX6_18 3 C (kS sC h6 kc_62) (xS sC h6 xc_62_4) dX6_goals_6 ?_
      refine gfX6_39 (v := (wI w 3 3)) C (kS sC h6 kc_3) (h6.I (by decide) (by decide) rfl) dX6_goals_9 ?_
      have b11 := Inv.get o0 rt_3_3 (j := 3) (by decide) (by decide)
      have k13 := i_rng u2
      refine r_icmp_ge 36 C dX6_goals_12 (by decide) (fun c12 => ?_) (fun c12 => ?_)
      · have c12' := i_le c12
        refine r_lload_n 1 C dX6_goals_36 rfl ?_
        exact hret _ _ _ _ dX6_goals_37 ⟨h6, o7⟩
      · have c12' := i_nle c12
        refine r_lload_n 1 C dX6_goals_15 rfl ?_
        refine r_bipush (v := 6) C dX6_goals_16 (by decide) ?_
        refine r_lshl C dX6_goals_18 (fun v14 e15 => ?_)
        refine r_aload_n 0 C dX6_goals_19 rfl ?_
        refine gfX6_15 64 C (kS sC h6 kc_62) (xS sC h6 xc_62_3) dX6_goals_20 ?_
        refine r_iload_n 2 C dX6_goals_23 rfl ?_
        refine r_iald C (kS sC h6 kc_64) (vin (by omega) (by omega)) dX6_goals_24 ?_
        generalize (wI w5 64 (u2).toNatClampNeg) = v16
        refine r_iconst (v := 1) C dX6_goals_25 (by decide) ?_
        refine r_iadd C dX6_goals_26 (fun v17 e18 => ?_)
        refine r_i2l C dX6_goals_27 (fun v19 e20 => ?_)
        have v19' := i2l_ok e20
        refine r_lor C dX6_goals_28 (fun v21 e22 => ?_)
        refine r_lstore_n [(1, .long v21), (0, .ref (gz (xG x) + 62)), (3, .int u2)] C dX6_goals_29 (by decide) rfl ?_
        obtain ⟨i23, e24⟩ : ∃ z : Int32, u2 + Int32.ofInt 1 = z := ⟨_, rfl⟩
        have i23' := iinc_ok e24 (by decide) (by omega) (by omega)
        refine r_iinc [(3, .int i23), (1, .long v21), (0, .ref (gz (xG x) + 62))] 2 C dX6_goals_30 rfl e24 (by decide) rfl ?_
        refine r_goto 4 C dX6_goals_33 (by decide) ?_
        refine r_lv [2, 1, 0] rfl ?_
        exact ih10 v21 i23 w5 h6 o7 (by omega) (by omega)
  refine r_lconst (v := 0) C dX6_goals_0 (by decide) ?_
  refine r_lstore_n [(1, .long 0), (0, .ref (gz (xG x) + 62))] C dX6_goals_1 (by decide) rfl ?_
  refine r_iconst (v := 0) C dX6_goals_2 (by decide) ?_
  refine r_istore_n [(3, .int 0), (1, .long 0), (0, .ref (gz (xG x) + 62))] C dX6_goals_3 (by decide) rfl ?_
  refine r_lv [2, 1, 0] rfl ?_
  exact LP3 4294967296 0 0 w h0 o0 (by omega) (by omega)
set_option maxHeartbeats 4000000 in
set_option maxRecDepth 100000 in
theorem ctX6_places_65 (l : Launch) (G : Gt) (w : Wv) (sC : Str KC XC w) (o0 : Inv RC w)  : CtL l G yX6_places cX6_places 4 ({ frames := 0, cells := 0, slots := 0, locals := 0 } : Room) [.ref (gz G + 65)] w (fun r w' => Ch [] [] w w' ∧ Inv RC w') := by
  refine enterL (by decide) (Nat.le_of_ble_eq_true rfl) ?_
  intro x el eG C hret
  subst el; subst eG
  show V x 0 0 w 0 [(0, .ref (gz (xG x) + 65))] []
  have h0 : Ch [] [] w w := Ch.rf
  have q0 : (0 : Int32).toInt = 0 := by decide
  have q6 : (6 : Int32).toInt = 6 := by decide
  have LP5 : ∀ (f6 : Nat) (u3 : Int64) (u4 : Int32) (w7 : Wv), Ch [] [] w w7 → Inv RC w7 → (0 ≤ u4.toInt ∧ u4.toInt ≤ 2147483647) → 2147483647 - u4.toInt < f6 → V x 0 0 w7 8 [(0, .ref (gz (xG x) + 65)), (1, .long u3), (3, .int u4)] [] := by
    intro f6
    induction f6 with
    | zero => intro u3 u4 w7 h8 o9 z10 z11; exfalso; omega
    | succ f6 ih12 =>
      intro u3 u4 w7 h8 o9 z10 z11
      refine r_iload_n 2 C dX6_places_8 rfl ?_
      refine r_aload_n 0 C dX6_places_9 rfl ?_
      refine gfX6_18 3 C (kS sC h8 kc_65) (xS sC h8 xc_65_4) dX6_places_10 ?_
      refine gfX6_39 (v := (wI w 3 3)) C (kS sC h8 kc_3) (h8.I (by decide) (by decide) rfl) dX6_places_13 ?_
      have b13 := Inv.get o0 rt_3_3 (j := 3) (by decide) (by decide)
      have k15 := i_rng u4
      refine r_icmp_ge 38 C dX6_places_16 (by decide) (fun c14 => ?_) (fun c14 => ?_)
      · have c14' := i_le c14
        refine r_lload_n 1 C dX6_places_38 rfl ?_
        exact hret _ _ _ _ dX6_places_39 ⟨h8, o9⟩
      · have c14' := i_nle c14
        refine r_lload_n 1 C dX6_places_19 rfl ?_
        refine r_bipush (v := 6) C dX6_places_20 (by decide) ?_
        refine r_lshl C dX6_places_22 (fun v16 e17 => ?_)
        refine r_aload_n 0 C dX6_places_23 rfl ?_
        refine gfX6_9 66 C (kS sC h8 kc_65) (xS sC h8 xc_65_2) dX6_places_24 ?_
        refine r_iload_n 2 C dX6_places_27 rfl ?_
        refine r_iald C (kS sC h8 kc_66) (vin (by omega) (by omega)) dX6_places_28 ?_
        generalize (wI w7 66 (u4).toNatClampNeg) = v18
        refine r_i2l C dX6_places_29 (fun v19 e20 => ?_)
        have v19' := i2l_ok e20
        refine r_lor C dX6_places_30 (fun v21 e22 => ?_)
        refine r_lstore_n [(1, .long v21), (0, .ref (gz (xG x) + 65)), (3, .int u4)] C dX6_places_31 (by decide) rfl ?_
        obtain ⟨i23, e24⟩ : ∃ z : Int32, u4 + Int32.ofInt 1 = z := ⟨_, rfl⟩
        have i23' := iinc_ok e24 (by decide) (by omega) (by omega)
        refine r_iinc [(3, .int i23), (1, .long v21), (0, .ref (gz (xG x) + 65))] 2 C dX6_places_32 rfl e24 (by decide) rfl ?_
        refine r_goto 8 C dX6_places_35 (by decide) ?_
        refine r_lv [2, 1, 0] rfl ?_
        exact ih12 v21 i23 w7 h8 o9 (by omega) (by omega)
  refine r_aload_n 0 C dX6_places_0 rfl ?_
  refine gfX6_32 (v := (wI w 65 0)) C (kS sC h0 kc_65) rfl dX6_places_1 ?_
  refine r_i2l C dX6_places_4 (fun v1 e2 => ?_)
  have v1' := i2l_ok e2
  refine r_lstore_n [(1, .long v1), (0, .ref (gz (xG x) + 65))] C dX6_places_5 (by decide) rfl ?_
  refine r_iconst (v := 0) C dX6_places_6 (by decide) ?_
  refine r_istore_n [(3, .int 0), (1, .long v1), (0, .ref (gz (xG x) + 65))] C dX6_places_7 (by decide) rfl ?_
  refine r_lv [2, 1, 0] rfl ?_
  exact LP5 4294967296 v1 0 w h0 o0 (by omega) (by omega)
set_option maxHeartbeats 4000000 in
set_option maxRecDepth 100000 in
theorem ctX6_goals_65 (l : Launch) (G : Gt) (w : Wv) (sC : Str KC XC w) (o0 : Inv RC w)  : CtL l G yX6_goals cX6_goals 4 ({ frames := 0, cells := 0, slots := 0, locals := 0 } : Room) [.ref (gz G + 65)] w (fun r w' => Ch [] [] w w' ∧ Inv RC w') := by
  refine enterL (by decide) (Nat.le_of_ble_eq_true rfl) ?_
  intro x el eG C hret
  subst el; subst eG
  show V x 0 0 w 0 [(0, .ref (gz (xG x) + 65))] []
  have h0 : Ch [] [] w w := Ch.rf
  have q0 : (0 : Int32).toInt = 0 := by decide
  have q1 : (1 : Int32).toInt = 1 := by decide
  have q6 : (6 : Int32).toInt = 6 := by decide
  have ql0 : (0 : Int64).toInt = 0 := by decide
  have LP3 : ∀ (f4 : Nat) (u1 : Int64) (u2 : Int32) (w5 : Wv), Ch [] [] w w5 → Inv RC w5 → (0 ≤ u2.toInt ∧ u2.toInt ≤ 2147483647) → 2147483647 - u2.toInt < f4 → V x 0 0 w5 4 [(0, .ref (gz (xG x) + 65)), (1, .long u1), (3, .int u2)] [] := by
    intro f4
    induction f4 with
    | zero => intro u1 u2 w5 h6 o7 z8 z9; exfalso; omega
    | succ f4 ih10 =>
      intro u1 u2 w5 h6 o7 z8 z9
      refine r_iload_n 2 C dX6_goals_4 rfl ?_
      refine r_aload_n 0 C dX6_goals_5 rfl ?_
      refine gfX6_18 3 C (kS sC h6 kc_65) (xS sC h6 xc_65_4) dX6_goals_6 ?_
      refine gfX6_39 (v := (wI w 3 3)) C (kS sC h6 kc_3) (h6.I (by decide) (by decide) rfl) dX6_goals_9 ?_
      have b11 := Inv.get o0 rt_3_3 (j := 3) (by decide) (by decide)
      have k13 := i_rng u2
      refine r_icmp_ge 36 C dX6_goals_12 (by decide) (fun c12 => ?_) (fun c12 => ?_)
      · have c12' := i_le c12
        refine r_lload_n 1 C dX6_goals_36 rfl ?_
        exact hret _ _ _ _ dX6_goals_37 ⟨h6, o7⟩
      · have c12' := i_nle c12
        refine r_lload_n 1 C dX6_goals_15 rfl ?_
        refine r_bipush (v := 6) C dX6_goals_16 (by decide) ?_
        refine r_lshl C dX6_goals_18 (fun v14 e15 => ?_)
        refine r_aload_n 0 C dX6_goals_19 rfl ?_
        refine gfX6_15 67 C (kS sC h6 kc_65) (xS sC h6 xc_65_3) dX6_goals_20 ?_
        refine r_iload_n 2 C dX6_goals_23 rfl ?_
        refine r_iald C (kS sC h6 kc_67) (vin (by omega) (by omega)) dX6_goals_24 ?_
        generalize (wI w5 67 (u2).toNatClampNeg) = v16
        refine r_iconst (v := 1) C dX6_goals_25 (by decide) ?_
        refine r_iadd C dX6_goals_26 (fun v17 e18 => ?_)
        refine r_i2l C dX6_goals_27 (fun v19 e20 => ?_)
        have v19' := i2l_ok e20
        refine r_lor C dX6_goals_28 (fun v21 e22 => ?_)
        refine r_lstore_n [(1, .long v21), (0, .ref (gz (xG x) + 65)), (3, .int u2)] C dX6_goals_29 (by decide) rfl ?_
        obtain ⟨i23, e24⟩ : ∃ z : Int32, u2 + Int32.ofInt 1 = z := ⟨_, rfl⟩
        have i23' := iinc_ok e24 (by decide) (by omega) (by omega)
        refine r_iinc [(3, .int i23), (1, .long v21), (0, .ref (gz (xG x) + 65))] 2 C dX6_goals_30 rfl e24 (by decide) rfl ?_
        refine r_goto 4 C dX6_goals_33 (by decide) ?_
        refine r_lv [2, 1, 0] rfl ?_
        exact ih10 v21 i23 w5 h6 o7 (by omega) (by omega)
  refine r_lconst (v := 0) C dX6_goals_0 (by decide) ?_
  refine r_lstore_n [(1, .long 0), (0, .ref (gz (xG x) + 65))] C dX6_goals_1 (by decide) rfl ?_
  refine r_iconst (v := 0) C dX6_goals_2 (by decide) ?_
  refine r_istore_n [(3, .int 0), (1, .long 0), (0, .ref (gz (xG x) + 65))] C dX6_goals_3 (by decide) rfl ?_
  refine r_lv [2, 1, 0] rfl ?_
  exact LP3 4294967296 0 0 w h0 o0 (by omega) (by omega)
set_option maxHeartbeats 4000000 in
set_option maxRecDepth 100000 in
theorem ctX6_places_68 (l : Launch) (G : Gt) (w : Wv) (sC : Str KC XC w) (o0 : Inv RC w)  : CtL l G yX6_places cX6_places 4 ({ frames := 0, cells := 0, slots := 0, locals := 0 } : Room) [.ref (gz G + 68)] w (fun r w' => Ch [] [] w w' ∧ Inv RC w') := by
  refine enterL (by decide) (Nat.le_of_ble_eq_true rfl) ?_
  intro x el eG C hret
  subst el; subst eG
  show V x 0 0 w 0 [(0, .ref (gz (xG x) + 68))] []
  have h0 : Ch [] [] w w := Ch.rf
  have q0 : (0 : Int32).toInt = 0 := by decide
  have q6 : (6 : Int32).toInt = 6 := by decide
  have LP5 : ∀ (f6 : Nat) (u3 : Int64) (u4 : Int32) (w7 : Wv), Ch [] [] w w7 → Inv RC w7 → (0 ≤ u4.toInt ∧ u4.toInt ≤ 2147483647) → 2147483647 - u4.toInt < f6 → V x 0 0 w7 8 [(0, .ref (gz (xG x) + 68)), (1, .long u3), (3, .int u4)] [] := by
    intro f6
    induction f6 with
    | zero => intro u3 u4 w7 h8 o9 z10 z11; exfalso; omega
    | succ f6 ih12 =>
      intro u3 u4 w7 h8 o9 z10 z11
      refine r_iload_n 2 C dX6_places_8 rfl ?_
      refine r_aload_n 0 C dX6_places_9 rfl ?_
      refine gfX6_18 3 C (kS sC h8 kc_68) (xS sC h8 xc_68_4) dX6_places_10 ?_
      refine gfX6_39 (v := (wI w 3 3)) C (kS sC h8 kc_3) (h8.I (by decide) (by decide) rfl) dX6_places_13 ?_
      have b13 := Inv.get o0 rt_3_3 (j := 3) (by decide) (by decide)
      have k15 := i_rng u4
      refine r_icmp_ge 38 C dX6_places_16 (by decide) (fun c14 => ?_) (fun c14 => ?_)
      · have c14' := i_le c14
        refine r_lload_n 1 C dX6_places_38 rfl ?_
        exact hret _ _ _ _ dX6_places_39 ⟨h8, o9⟩
      · have c14' := i_nle c14
        refine r_lload_n 1 C dX6_places_19 rfl ?_
        refine r_bipush (v := 6) C dX6_places_20 (by decide) ?_
        refine r_lshl C dX6_places_22 (fun v16 e17 => ?_)
        refine r_aload_n 0 C dX6_places_23 rfl ?_
        refine gfX6_9 69 C (kS sC h8 kc_68) (xS sC h8 xc_68_2) dX6_places_24 ?_
        refine r_iload_n 2 C dX6_places_27 rfl ?_
        refine r_iald C (kS sC h8 kc_69) (vin (by omega) (by omega)) dX6_places_28 ?_
        generalize (wI w7 69 (u4).toNatClampNeg) = v18
        refine r_i2l C dX6_places_29 (fun v19 e20 => ?_)
        have v19' := i2l_ok e20
        refine r_lor C dX6_places_30 (fun v21 e22 => ?_)
        refine r_lstore_n [(1, .long v21), (0, .ref (gz (xG x) + 68)), (3, .int u4)] C dX6_places_31 (by decide) rfl ?_
        obtain ⟨i23, e24⟩ : ∃ z : Int32, u4 + Int32.ofInt 1 = z := ⟨_, rfl⟩
        have i23' := iinc_ok e24 (by decide) (by omega) (by omega)
        refine r_iinc [(3, .int i23), (1, .long v21), (0, .ref (gz (xG x) + 68))] 2 C dX6_places_32 rfl e24 (by decide) rfl ?_
        refine r_goto 8 C dX6_places_35 (by decide) ?_
        refine r_lv [2, 1, 0] rfl ?_
        exact ih12 v21 i23 w7 h8 o9 (by omega) (by omega)
  refine r_aload_n 0 C dX6_places_0 rfl ?_
  refine gfX6_32 (v := (wI w 68 0)) C (kS sC h0 kc_68) rfl dX6_places_1 ?_
  refine r_i2l C dX6_places_4 (fun v1 e2 => ?_)
  have v1' := i2l_ok e2
  refine r_lstore_n [(1, .long v1), (0, .ref (gz (xG x) + 68))] C dX6_places_5 (by decide) rfl ?_
  refine r_iconst (v := 0) C dX6_places_6 (by decide) ?_
  refine r_istore_n [(3, .int 0), (1, .long v1), (0, .ref (gz (xG x) + 68))] C dX6_places_7 (by decide) rfl ?_
  refine r_lv [2, 1, 0] rfl ?_
  exact LP5 4294967296 v1 0 w h0 o0 (by omega) (by omega)
set_option maxHeartbeats 4000000 in
set_option maxRecDepth 100000 in
theorem ctX6_goals_68 (l : Launch) (G : Gt) (w : Wv) (sC : Str KC XC w) (o0 : Inv RC w)  : CtL l G yX6_goals cX6_goals 4 ({ frames := 0, cells := 0, slots := 0, locals := 0 } : Room) [.ref (gz G + 68)] w (fun r w' => Ch [] [] w w' ∧ Inv RC w') := by
  refine enterL (by decide) (Nat.le_of_ble_eq_true rfl) ?_
  intro x el eG C hret
  subst el; subst eG
  show V x 0 0 w 0 [(0, .ref (gz (xG x) + 68))] []
  have h0 : Ch [] [] w w := Ch.rf
  have q0 : (0 : Int32).toInt = 0 := by decide
  have q1 : (1 : Int32).toInt = 1 := by decide
  have q6 : (6 : Int32).toInt = 6 := by decide
  have ql0 : (0 : Int64).toInt = 0 := by decide
  have LP3 : ∀ (f4 : Nat) (u1 : Int64) (u2 : Int32) (w5 : Wv), Ch [] [] w w5 → Inv RC w5 → (0 ≤ u2.toInt ∧ u2.toInt ≤ 2147483647) → 2147483647 - u2.toInt < f4 → V x 0 0 w5 4 [(0, .ref (gz (xG x) + 68)), (1, .long u1), (3, .int u2)] [] := by
    intro f4
    induction f4 with
    | zero => intro u1 u2 w5 h6 o7 z8 z9; exfalso; omega
    | succ f4 ih10 =>
      intro u1 u2 w5 h6 o7 z8 z9
      refine r_iload_n 2 C dX6_goals_4 rfl ?_
      refine r_aload_n 0 C dX6_goals_5 rfl ?_
      refine gfX6_18 3 C (kS sC h6 kc_68) (xS sC h6 xc_68_4) dX6_goals_6 ?_
      refine gfX6_39 (v := (wI w 3 3)) C (kS sC h6 kc_3) (h6.I (by decide) (by decide) rfl) dX6_goals_9 ?_
      have b11 := Inv.get o0 rt_3_3 (j := 3) (by decide) (by decide)
      have k13 := i_rng u2
      refine r_icmp_ge 36 C dX6_goals_12 (by decide) (fun c12 => ?_) (fun c12 => ?_)
      · have c12' := i_le c12
        refine r_lload_n 1 C dX6_goals_36 rfl ?_
        exact hret _ _ _ _ dX6_goals_37 ⟨h6, o7⟩
      · have c12' := i_nle c12
        refine r_lload_n 1 C dX6_goals_15 rfl ?_
        refine r_bipush (v := 6) C dX6_goals_16 (by decide) ?_
        refine r_lshl C dX6_goals_18 (fun v14 e15 => ?_)
        refine r_aload_n 0 C dX6_goals_19 rfl ?_
        refine gfX6_15 70 C (kS sC h6 kc_68) (xS sC h6 xc_68_3) dX6_goals_20 ?_
        refine r_iload_n 2 C dX6_goals_23 rfl ?_
        refine r_iald C (kS sC h6 kc_70) (vin (by omega) (by omega)) dX6_goals_24 ?_
        generalize (wI w5 70 (u2).toNatClampNeg) = v16
        refine r_iconst (v := 1) C dX6_goals_25 (by decide) ?_
        refine r_iadd C dX6_goals_26 (fun v17 e18 => ?_)
        refine r_i2l C dX6_goals_27 (fun v19 e20 => ?_)
        have v19' := i2l_ok e20
        refine r_lor C dX6_goals_28 (fun v21 e22 => ?_)
        refine r_lstore_n [(1, .long v21), (0, .ref (gz (xG x) + 68)), (3, .int u2)] C dX6_goals_29 (by decide) rfl ?_
        obtain ⟨i23, e24⟩ : ∃ z : Int32, u2 + Int32.ofInt 1 = z := ⟨_, rfl⟩
        have i23' := iinc_ok e24 (by decide) (by omega) (by omega)
        refine r_iinc [(3, .int i23), (1, .long v21), (0, .ref (gz (xG x) + 68))] 2 C dX6_goals_30 rfl e24 (by decide) rfl ?_
        refine r_goto 4 C dX6_goals_33 (by decide) ?_
        refine r_lv [2, 1, 0] rfl ?_
        exact ih10 v21 i23 w5 h6 o7 (by omega) (by omega)
  refine r_lconst (v := 0) C dX6_goals_0 (by decide) ?_
  refine r_lstore_n [(1, .long 0), (0, .ref (gz (xG x) + 68))] C dX6_goals_1 (by decide) rfl ?_
  refine r_iconst (v := 0) C dX6_goals_2 (by decide) ?_
  refine r_istore_n [(3, .int 0), (1, .long 0), (0, .ref (gz (xG x) + 68))] C dX6_goals_3 (by decide) rfl ?_
  refine r_lv [2, 1, 0] rfl ?_
  exact LP3 4294967296 0 0 w h0 o0 (by omega) (by omega)
set_option maxHeartbeats 4000000 in
set_option maxRecDepth 100000 in
theorem ctX6_places_71 (l : Launch) (G : Gt) (w : Wv) (sC : Str KC XC w) (o0 : Inv RC w)  : CtL l G yX6_places cX6_places 4 ({ frames := 0, cells := 0, slots := 0, locals := 0 } : Room) [.ref (gz G + 71)] w (fun r w' => Ch [] [] w w' ∧ Inv RC w') := by
  refine enterL (by decide) (Nat.le_of_ble_eq_true rfl) ?_
  intro x el eG C hret
  subst el; subst eG
  show V x 0 0 w 0 [(0, .ref (gz (xG x) + 71))] []
  have h0 : Ch [] [] w w := Ch.rf
  have q0 : (0 : Int32).toInt = 0 := by decide
  have q6 : (6 : Int32).toInt = 6 := by decide
  have LP5 : ∀ (f6 : Nat) (u3 : Int64) (u4 : Int32) (w7 : Wv), Ch [] [] w w7 → Inv RC w7 → (0 ≤ u4.toInt ∧ u4.toInt ≤ 2147483647) → 2147483647 - u4.toInt < f6 → V x 0 0 w7 8 [(0, .ref (gz (xG x) + 71)), (1, .long u3), (3, .int u4)] [] := by
    intro f6
    induction f6 with
    | zero => intro u3 u4 w7 h8 o9 z10 z11; exfalso; omega
    | succ f6 ih12 =>
      intro u3 u4 w7 h8 o9 z10 z11
      refine r_iload_n 2 C dX6_places_8 rfl ?_
      refine r_aload_n 0 C dX6_places_9 rfl ?_
      refine gfX6_18 3 C (kS sC h8 kc_71) (xS sC h8 xc_71_4) dX6_places_10 ?_
      refine gfX6_39 (v := (wI w 3 3)) C (kS sC h8 kc_3) (h8.I (by decide) (by decide) rfl) dX6_places_13 ?_
      have b13 := Inv.get o0 rt_3_3 (j := 3) (by decide) (by decide)
      have k15 := i_rng u4
      refine r_icmp_ge 38 C dX6_places_16 (by decide) (fun c14 => ?_) (fun c14 => ?_)
      · have c14' := i_le c14
        refine r_lload_n 1 C dX6_places_38 rfl ?_
        exact hret _ _ _ _ dX6_places_39 ⟨h8, o9⟩
      · have c14' := i_nle c14
        refine r_lload_n 1 C dX6_places_19 rfl ?_
        refine r_bipush (v := 6) C dX6_places_20 (by decide) ?_
        refine r_lshl C dX6_places_22 (fun v16 e17 => ?_)
        refine r_aload_n 0 C dX6_places_23 rfl ?_
        refine gfX6_9 72 C (kS sC h8 kc_71) (xS sC h8 xc_71_2) dX6_places_24 ?_
        refine r_iload_n 2 C dX6_places_27 rfl ?_
        refine r_iald C (kS sC h8 kc_72) (vin (by omega) (by omega)) dX6_places_28 ?_
        generalize (wI w7 72 (u4).toNatClampNeg) = v18
        refine r_i2l C dX6_places_29 (fun v19 e20 => ?_)
        have v19' := i2l_ok e20
        refine r_lor C dX6_places_30 (fun v21 e22 => ?_)
        refine r_lstore_n [(1, .long v21), (0, .ref (gz (xG x) + 71)), (3, .int u4)] C dX6_places_31 (by decide) rfl ?_
        obtain ⟨i23, e24⟩ : ∃ z : Int32, u4 + Int32.ofInt 1 = z := ⟨_, rfl⟩
        have i23' := iinc_ok e24 (by decide) (by omega) (by omega)
        refine r_iinc [(3, .int i23), (1, .long v21), (0, .ref (gz (xG x) + 71))] 2 C dX6_places_32 rfl e24 (by decide) rfl ?_
        refine r_goto 8 C dX6_places_35 (by decide) ?_
        refine r_lv [2, 1, 0] rfl ?_
        exact ih12 v21 i23 w7 h8 o9 (by omega) (by omega)
  refine r_aload_n 0 C dX6_places_0 rfl ?_
  refine gfX6_32 (v := (wI w 71 0)) C (kS sC h0 kc_71) rfl dX6_places_1 ?_
  refine r_i2l C dX6_places_4 (fun v1 e2 => ?_)
  have v1' := i2l_ok e2
  refine r_lstore_n [(1, .long v1), (0, .ref (gz (xG x) + 71))] C dX6_places_5 (by decide) rfl ?_
  refine r_iconst (v := 0) C dX6_places_6 (by decide) ?_
  refine r_istore_n [(3, .int 0), (1, .long v1), (0, .ref (gz (xG x) + 71))] C dX6_places_7 (by decide) rfl ?_
  refine r_lv [2, 1, 0] rfl ?_
  exact LP5 4294967296 v1 0 w h0 o0 (by omega) (by omega)
set_option maxHeartbeats 4000000 in
set_option maxRecDepth 100000 in
theorem ctX6_goals_71 (l : Launch) (G : Gt) (w : Wv) (sC : Str KC XC w) (o0 : Inv RC w)  : CtL l G yX6_goals cX6_goals 4 ({ frames := 0, cells := 0, slots := 0, locals := 0 } : Room) [.ref (gz G + 71)] w (fun r w' => Ch [] [] w w' ∧ Inv RC w') := by
  refine enterL (by decide) (Nat.le_of_ble_eq_true rfl) ?_
  intro x el eG C hret
  subst el; subst eG
  show V x 0 0 w 0 [(0, .ref (gz (xG x) + 71))] []
  have h0 : Ch [] [] w w := Ch.rf
  have q0 : (0 : Int32).toInt = 0 := by decide
  have q1 : (1 : Int32).toInt = 1 := by decide
  have q6 : (6 : Int32).toInt = 6 := by decide
  have ql0 : (0 : Int64).toInt = 0 := by decide
  have LP3 : ∀ (f4 : Nat) (u1 : Int64) (u2 : Int32) (w5 : Wv), Ch [] [] w w5 → Inv RC w5 → (0 ≤ u2.toInt ∧ u2.toInt ≤ 2147483647) → 2147483647 - u2.toInt < f4 → V x 0 0 w5 4 [(0, .ref (gz (xG x) + 71)), (1, .long u1), (3, .int u2)] [] := by
    intro f4
    induction f4 with
    | zero => intro u1 u2 w5 h6 o7 z8 z9; exfalso; omega
    | succ f4 ih10 =>
      intro u1 u2 w5 h6 o7 z8 z9
      refine r_iload_n 2 C dX6_goals_4 rfl ?_
      refine r_aload_n 0 C dX6_goals_5 rfl ?_
      refine gfX6_18 3 C (kS sC h6 kc_71) (xS sC h6 xc_71_4) dX6_goals_6 ?_
      refine gfX6_39 (v := (wI w 3 3)) C (kS sC h6 kc_3) (h6.I (by decide) (by decide) rfl) dX6_goals_9 ?_
      have b11 := Inv.get o0 rt_3_3 (j := 3) (by decide) (by decide)
      have k13 := i_rng u2
      refine r_icmp_ge 36 C dX6_goals_12 (by decide) (fun c12 => ?_) (fun c12 => ?_)
      · have c12' := i_le c12
        refine r_lload_n 1 C dX6_goals_36 rfl ?_
        exact hret _ _ _ _ dX6_goals_37 ⟨h6, o7⟩
      · have c12' := i_nle c12
        refine r_lload_n 1 C dX6_goals_15 rfl ?_
        refine r_bipush (v := 6) C dX6_goals_16 (by decide) ?_
        refine r_lshl C dX6_goals_18 (fun v14 e15 => ?_)
        refine r_aload_n 0 C dX6_goals_19 rfl ?_
        refine gfX6_15 73 C (kS sC h6 kc_71) (xS sC h6 xc_71_3) dX6_goals_20 ?_
        refine r_iload_n 2 C dX6_goals_23 rfl ?_
        refine r_iald C (kS sC h6 kc_73) (vin (by omega) (by omega)) dX6_goals_24 ?_
        generalize (wI w5 73 (u2).toNatClampNeg) = v16
        refine r_iconst (v := 1) C dX6_goals_25 (by decide) ?_
        refine r_iadd C dX6_goals_26 (fun v17 e18 => ?_)
        refine r_i2l C dX6_goals_27 (fun v19 e20 => ?_)
        have v19' := i2l_ok e20
        refine r_lor C dX6_goals_28 (fun v21 e22 => ?_)
        refine r_lstore_n [(1, .long v21), (0, .ref (gz (xG x) + 71)), (3, .int u2)] C dX6_goals_29 (by decide) rfl ?_
        obtain ⟨i23, e24⟩ : ∃ z : Int32, u2 + Int32.ofInt 1 = z := ⟨_, rfl⟩
        have i23' := iinc_ok e24 (by decide) (by omega) (by omega)
        refine r_iinc [(3, .int i23), (1, .long v21), (0, .ref (gz (xG x) + 71))] 2 C dX6_goals_30 rfl e24 (by decide) rfl ?_
        refine r_goto 4 C dX6_goals_33 (by decide) ?_
        refine r_lv [2, 1, 0] rfl ?_
        exact ih10 v21 i23 w5 h6 o7 (by omega) (by omega)
  refine r_lconst (v := 0) C dX6_goals_0 (by decide) ?_
  refine r_lstore_n [(1, .long 0), (0, .ref (gz (xG x) + 71))] C dX6_goals_1 (by decide) rfl ?_
  refine r_iconst (v := 0) C dX6_goals_2 (by decide) ?_
  refine r_istore_n [(3, .int 0), (1, .long 0), (0, .ref (gz (xG x) + 71))] C dX6_goals_3 (by decide) rfl ?_
  refine r_lv [2, 1, 0] rfl ?_
  exact LP3 4294967296 0 0 w h0 o0 (by omega) (by omega)
set_option maxHeartbeats 4000000 in
set_option maxRecDepth 100000 in
theorem ctX6_places_74 (l : Launch) (G : Gt) (w : Wv) (sC : Str KC XC w) (o0 : Inv RC w)  : CtL l G yX6_places cX6_places 4 ({ frames := 0, cells := 0, slots := 0, locals := 0 } : Room) [.ref (gz G + 74)] w (fun r w' => Ch [] [] w w' ∧ Inv RC w') := by
  refine enterL (by decide) (Nat.le_of_ble_eq_true rfl) ?_
  intro x el eG C hret
  subst el; subst eG
  show V x 0 0 w 0 [(0, .ref (gz (xG x) + 74))] []
  have h0 : Ch [] [] w w := Ch.rf
  have q0 : (0 : Int32).toInt = 0 := by decide
  have q6 : (6 : Int32).toInt = 6 := by decide
  have LP5 : ∀ (f6 : Nat) (u3 : Int64) (u4 : Int32) (w7 : Wv), Ch [] [] w w7 → Inv RC w7 → (0 ≤ u4.toInt ∧ u4.toInt ≤ 2147483647) → 2147483647 - u4.toInt < f6 → V x 0 0 w7 8 [(0, .ref (gz (xG x) + 74)), (1, .long u3), (3, .int u4)] [] := by
    intro f6
    induction f6 with
    | zero => intro u3 u4 w7 h8 o9 z10 z11; exfalso; omega
    | succ f6 ih12 =>
      intro u3 u4 w7 h8 o9 z10 z11
      refine r_iload_n 2 C dX6_places_8 rfl ?_
      refine r_aload_n 0 C dX6_places_9 rfl ?_
      refine gfX6_18 3 C (kS sC h8 kc_74) (xS sC h8 xc_74_4) dX6_places_10 ?_
      refine gfX6_39 (v := (wI w 3 3)) C (kS sC h8 kc_3) (h8.I (by decide) (by decide) rfl) dX6_places_13 ?_
      have b13 := Inv.get o0 rt_3_3 (j := 3) (by decide) (by decide)
      have k15 := i_rng u4
      refine r_icmp_ge 38 C dX6_places_16 (by decide) (fun c14 => ?_) (fun c14 => ?_)
      · have c14' := i_le c14
        refine r_lload_n 1 C dX6_places_38 rfl ?_
        exact hret _ _ _ _ dX6_places_39 ⟨h8, o9⟩
      · have c14' := i_nle c14
        refine r_lload_n 1 C dX6_places_19 rfl ?_
        refine r_bipush (v := 6) C dX6_places_20 (by decide) ?_
        refine r_lshl C dX6_places_22 (fun v16 e17 => ?_)
        refine r_aload_n 0 C dX6_places_23 rfl ?_
        refine gfX6_9 75 C (kS sC h8 kc_74) (xS sC h8 xc_74_2) dX6_places_24 ?_
        refine r_iload_n 2 C dX6_places_27 rfl ?_
        refine r_iald C (kS sC h8 kc_75) (vin (by omega) (by omega)) dX6_places_28 ?_
        generalize (wI w7 75 (u4).toNatClampNeg) = v18
        refine r_i2l C dX6_places_29 (fun v19 e20 => ?_)
        have v19' := i2l_ok e20
        refine r_lor C dX6_places_30 (fun v21 e22 => ?_)
        refine r_lstore_n [(1, .long v21), (0, .ref (gz (xG x) + 74)), (3, .int u4)] C dX6_places_31 (by decide) rfl ?_
        obtain ⟨i23, e24⟩ : ∃ z : Int32, u4 + Int32.ofInt 1 = z := ⟨_, rfl⟩
        have i23' := iinc_ok e24 (by decide) (by omega) (by omega)
        refine r_iinc [(3, .int i23), (1, .long v21), (0, .ref (gz (xG x) + 74))] 2 C dX6_places_32 rfl e24 (by decide) rfl ?_
        refine r_goto 8 C dX6_places_35 (by decide) ?_
        refine r_lv [2, 1, 0] rfl ?_
        exact ih12 v21 i23 w7 h8 o9 (by omega) (by omega)
  refine r_aload_n 0 C dX6_places_0 rfl ?_
  refine gfX6_32 (v := (wI w 74 0)) C (kS sC h0 kc_74) rfl dX6_places_1 ?_
  refine r_i2l C dX6_places_4 (fun v1 e2 => ?_)
  have v1' := i2l_ok e2
  refine r_lstore_n [(1, .long v1), (0, .ref (gz (xG x) + 74))] C dX6_places_5 (by decide) rfl ?_
  refine r_iconst (v := 0) C dX6_places_6 (by decide) ?_
  refine r_istore_n [(3, .int 0), (1, .long v1), (0, .ref (gz (xG x) + 74))] C dX6_places_7 (by decide) rfl ?_
  refine r_lv [2, 1, 0] rfl ?_
  exact LP5 4294967296 v1 0 w h0 o0 (by omega) (by omega)
set_option maxHeartbeats 4000000 in
set_option maxRecDepth 100000 in
theorem ctX6_goals_74 (l : Launch) (G : Gt) (w : Wv) (sC : Str KC XC w) (o0 : Inv RC w)  : CtL l G yX6_goals cX6_goals 4 ({ frames := 0, cells := 0, slots := 0, locals := 0 } : Room) [.ref (gz G + 74)] w (fun r w' => Ch [] [] w w' ∧ Inv RC w') := by
  refine enterL (by decide) (Nat.le_of_ble_eq_true rfl) ?_
  intro x el eG C hret
  subst el; subst eG
  show V x 0 0 w 0 [(0, .ref (gz (xG x) + 74))] []
  have h0 : Ch [] [] w w := Ch.rf
  have q0 : (0 : Int32).toInt = 0 := by decide
  have q1 : (1 : Int32).toInt = 1 := by decide
  have q6 : (6 : Int32).toInt = 6 := by decide
  have ql0 : (0 : Int64).toInt = 0 := by decide
  have LP3 : ∀ (f4 : Nat) (u1 : Int64) (u2 : Int32) (w5 : Wv), Ch [] [] w w5 → Inv RC w5 → (0 ≤ u2.toInt ∧ u2.toInt ≤ 2147483647) → 2147483647 - u2.toInt < f4 → V x 0 0 w5 4 [(0, .ref (gz (xG x) + 74)), (1, .long u1), (3, .int u2)] [] := by
    intro f4
    induction f4 with
    | zero => intro u1 u2 w5 h6 o7 z8 z9; exfalso; omega
    | succ f4 ih10 =>
      intro u1 u2 w5 h6 o7 z8 z9
      refine r_iload_n 2 C dX6_goals_4 rfl ?_
      refine r_aload_n 0 C dX6_goals_5 rfl ?_
      refine gfX6_18 3 C (kS sC h6 kc_74) (xS sC h6 xc_74_4) dX6_goals_6 ?_
      refine gfX6_39 (v := (wI w 3 3)) C (kS sC h6 kc_3) (h6.I (by decide) (by decide) rfl) dX6_goals_9 ?_
      have b11 := Inv.get o0 rt_3_3 (j := 3) (by decide) (by decide)
      have k13 := i_rng u2
      refine r_icmp_ge 36 C dX6_goals_12 (by decide) (fun c12 => ?_) (fun c12 => ?_)
      · have c12' := i_le c12
        refine r_lload_n 1 C dX6_goals_36 rfl ?_
        exact hret _ _ _ _ dX6_goals_37 ⟨h6, o7⟩
      · have c12' := i_nle c12
        refine r_lload_n 1 C dX6_goals_15 rfl ?_
        refine r_bipush (v := 6) C dX6_goals_16 (by decide) ?_
        refine r_lshl C dX6_goals_18 (fun v14 e15 => ?_)
        refine r_aload_n 0 C dX6_goals_19 rfl ?_
        refine gfX6_15 76 C (kS sC h6 kc_74) (xS sC h6 xc_74_3) dX6_goals_20 ?_
        refine r_iload_n 2 C dX6_goals_23 rfl ?_
        refine r_iald C (kS sC h6 kc_76) (vin (by omega) (by omega)) dX6_goals_24 ?_
        generalize (wI w5 76 (u2).toNatClampNeg) = v16
        refine r_iconst (v := 1) C dX6_goals_25 (by decide) ?_
        refine r_iadd C dX6_goals_26 (fun v17 e18 => ?_)
        refine r_i2l C dX6_goals_27 (fun v19 e20 => ?_)
        have v19' := i2l_ok e20
        refine r_lor C dX6_goals_28 (fun v21 e22 => ?_)
        refine r_lstore_n [(1, .long v21), (0, .ref (gz (xG x) + 74)), (3, .int u2)] C dX6_goals_29 (by decide) rfl ?_
        obtain ⟨i23, e24⟩ : ∃ z : Int32, u2 + Int32.ofInt 1 = z := ⟨_, rfl⟩
        have i23' := iinc_ok e24 (by decide) (by omega) (by omega)
        refine r_iinc [(3, .int i23), (1, .long v21), (0, .ref (gz (xG x) + 74))] 2 C dX6_goals_30 rfl e24 (by decide) rfl ?_
        refine r_goto 4 C dX6_goals_33 (by decide) ?_
        refine r_lv [2, 1, 0] rfl ?_
        exact ih10 v21 i23 w5 h6 o7 (by omega) (by omega)
  refine r_lconst (v := 0) C dX6_goals_0 (by decide) ?_
  refine r_lstore_n [(1, .long 0), (0, .ref (gz (xG x) + 74))] C dX6_goals_1 (by decide) rfl ?_
  refine r_iconst (v := 0) C dX6_goals_2 (by decide) ?_
  refine r_istore_n [(3, .int 0), (1, .long 0), (0, .ref (gz (xG x) + 74))] C dX6_goals_3 (by decide) rfl ?_
  refine r_lv [2, 1, 0] rfl ?_
  exact LP3 4294967296 0 0 w h0 o0 (by omega) (by omega)
set_option maxHeartbeats 4000000 in
set_option maxRecDepth 100000 in
theorem ctX6_places_85 (l : Launch) (G : Gt) (w : Wv) (sC : Str KC XC w) (o0 : Inv RC w)  : CtL l G yX6_places cX6_places 4 ({ frames := 0, cells := 0, slots := 0, locals := 0 } : Room) [.ref (gz G + 85)] w (fun r w' => Ch [] [] w w' ∧ Inv RC w') := by
  refine enterL (by decide) (Nat.le_of_ble_eq_true rfl) ?_
  intro x el eG C hret
  subst el; subst eG
  show V x 0 0 w 0 [(0, .ref (gz (xG x) + 85))] []
  have h0 : Ch [] [] w w := Ch.rf
  have q0 : (0 : Int32).toInt = 0 := by decide
  have q6 : (6 : Int32).toInt = 6 := by decide
  have LP5 : ∀ (f6 : Nat) (u3 : Int64) (u4 : Int32) (w7 : Wv), Ch [] [] w w7 → Inv RC w7 → (0 ≤ u4.toInt ∧ u4.toInt ≤ 2147483647) → 2147483647 - u4.toInt < f6 → V x 0 0 w7 8 [(0, .ref (gz (xG x) + 85)), (1, .long u3), (3, .int u4)] [] := by
    intro f6
    induction f6 with
    | zero => intro u3 u4 w7 h8 o9 z10 z11; exfalso; omega
    | succ f6 ih12 =>
      intro u3 u4 w7 h8 o9 z10 z11
      refine r_iload_n 2 C dX6_places_8 rfl ?_
      refine r_aload_n 0 C dX6_places_9 rfl ?_
      refine gfX6_18 3 C (kS sC h8 kc_85) (xS sC h8 xc_85_4) dX6_places_10 ?_
      refine gfX6_39 (v := (wI w 3 3)) C (kS sC h8 kc_3) (h8.I (by decide) (by decide) rfl) dX6_places_13 ?_
      have b13 := Inv.get o0 rt_3_3 (j := 3) (by decide) (by decide)
      have k15 := i_rng u4
      refine r_icmp_ge 38 C dX6_places_16 (by decide) (fun c14 => ?_) (fun c14 => ?_)
      · have c14' := i_le c14
        refine r_lload_n 1 C dX6_places_38 rfl ?_
        exact hret _ _ _ _ dX6_places_39 ⟨h8, o9⟩
      · have c14' := i_nle c14
        refine r_lload_n 1 C dX6_places_19 rfl ?_
        refine r_bipush (v := 6) C dX6_places_20 (by decide) ?_
        refine r_lshl C dX6_places_22 (fun v16 e17 => ?_)
        refine r_aload_n 0 C dX6_places_23 rfl ?_
        refine gfX6_9 86 C (kS sC h8 kc_85) (xS sC h8 xc_85_2) dX6_places_24 ?_
        refine r_iload_n 2 C dX6_places_27 rfl ?_
        refine r_iald C (kS sC h8 kc_86) (vin (by omega) (by omega)) dX6_places_28 ?_
        generalize (wI w7 86 (u4).toNatClampNeg) = v18
        refine r_i2l C dX6_places_29 (fun v19 e20 => ?_)
        have v19' := i2l_ok e20
        refine r_lor C dX6_places_30 (fun v21 e22 => ?_)
        refine r_lstore_n [(1, .long v21), (0, .ref (gz (xG x) + 85)), (3, .int u4)] C dX6_places_31 (by decide) rfl ?_
        obtain ⟨i23, e24⟩ : ∃ z : Int32, u4 + Int32.ofInt 1 = z := ⟨_, rfl⟩
        have i23' := iinc_ok e24 (by decide) (by omega) (by omega)
        refine r_iinc [(3, .int i23), (1, .long v21), (0, .ref (gz (xG x) + 85))] 2 C dX6_places_32 rfl e24 (by decide) rfl ?_
        refine r_goto 8 C dX6_places_35 (by decide) ?_
        refine r_lv [2, 1, 0] rfl ?_
        exact ih12 v21 i23 w7 h8 o9 (by omega) (by omega)
  refine r_aload_n 0 C dX6_places_0 rfl ?_
  refine gfX6_32 (v := (wI w 85 0)) C (kS sC h0 kc_85) rfl dX6_places_1 ?_
  refine r_i2l C dX6_places_4 (fun v1 e2 => ?_)
  have v1' := i2l_ok e2
  refine r_lstore_n [(1, .long v1), (0, .ref (gz (xG x) + 85))] C dX6_places_5 (by decide) rfl ?_
  refine r_iconst (v := 0) C dX6_places_6 (by decide) ?_
  refine r_istore_n [(3, .int 0), (1, .long v1), (0, .ref (gz (xG x) + 85))] C dX6_places_7 (by decide) rfl ?_
  refine r_lv [2, 1, 0] rfl ?_
  exact LP5 4294967296 v1 0 w h0 o0 (by omega) (by omega)
set_option maxHeartbeats 4000000 in
set_option maxRecDepth 100000 in
theorem ctX6_goals_85 (l : Launch) (G : Gt) (w : Wv) (sC : Str KC XC w) (o0 : Inv RC w)  : CtL l G yX6_goals cX6_goals 4 ({ frames := 0, cells := 0, slots := 0, locals := 0 } : Room) [.ref (gz G + 85)] w (fun r w' => Ch [] [] w w' ∧ Inv RC w') := by
  refine enterL (by decide) (Nat.le_of_ble_eq_true rfl) ?_
  intro x el eG C hret
  subst el; subst eG
  show V x 0 0 w 0 [(0, .ref (gz (xG x) + 85))] []
  have h0 : Ch [] [] w w := Ch.rf
  have q0 : (0 : Int32).toInt = 0 := by decide
  have q1 : (1 : Int32).toInt = 1 := by decide
  have q6 : (6 : Int32).toInt = 6 := by decide
  have ql0 : (0 : Int64).toInt = 0 := by decide
  have LP3 : ∀ (f4 : Nat) (u1 : Int64) (u2 : Int32) (w5 : Wv), Ch [] [] w w5 → Inv RC w5 → (0 ≤ u2.toInt ∧ u2.toInt ≤ 2147483647) → 2147483647 - u2.toInt < f4 → V x 0 0 w5 4 [(0, .ref (gz (xG x) + 85)), (1, .long u1), (3, .int u2)] [] := by
    intro f4
    induction f4 with
    | zero => intro u1 u2 w5 h6 o7 z8 z9; exfalso; omega
    | succ f4 ih10 =>
      intro u1 u2 w5 h6 o7 z8 z9
      refine r_iload_n 2 C dX6_goals_4 rfl ?_
      refine r_aload_n 0 C dX6_goals_5 rfl ?_
      refine gfX6_18 3 C (kS sC h6 kc_85) (xS sC h6 xc_85_4) dX6_goals_6 ?_
      refine gfX6_39 (v := (wI w 3 3)) C (kS sC h6 kc_3) (h6.I (by decide) (by decide) rfl) dX6_goals_9 ?_
      have b11 := Inv.get o0 rt_3_3 (j := 3) (by decide) (by decide)
      have k13 := i_rng u2
      refine r_icmp_ge 36 C dX6_goals_12 (by decide) (fun c12 => ?_) (fun c12 => ?_)
      · have c12' := i_le c12
        refine r_lload_n 1 C dX6_goals_36 rfl ?_
        exact hret _ _ _ _ dX6_goals_37 ⟨h6, o7⟩
      · have c12' := i_nle c12
        refine r_lload_n 1 C dX6_goals_15 rfl ?_
        refine r_bipush (v := 6) C dX6_goals_16 (by decide) ?_
        refine r_lshl C dX6_goals_18 (fun v14 e15 => ?_)
        refine r_aload_n 0 C dX6_goals_19 rfl ?_
        refine gfX6_15 87 C (kS sC h6 kc_85) (xS sC h6 xc_85_3) dX6_goals_20 ?_
        refine r_iload_n 2 C dX6_goals_23 rfl ?_
        refine r_iald C (kS sC h6 kc_87) (vin (by omega) (by omega)) dX6_goals_24 ?_
        generalize (wI w5 87 (u2).toNatClampNeg) = v16
        refine r_iconst (v := 1) C dX6_goals_25 (by decide) ?_
        refine r_iadd C dX6_goals_26 (fun v17 e18 => ?_)
        refine r_i2l C dX6_goals_27 (fun v19 e20 => ?_)
        have v19' := i2l_ok e20
        refine r_lor C dX6_goals_28 (fun v21 e22 => ?_)
        refine r_lstore_n [(1, .long v21), (0, .ref (gz (xG x) + 85)), (3, .int u2)] C dX6_goals_29 (by decide) rfl ?_
        obtain ⟨i23, e24⟩ : ∃ z : Int32, u2 + Int32.ofInt 1 = z := ⟨_, rfl⟩
        have i23' := iinc_ok e24 (by decide) (by omega) (by omega)
        refine r_iinc [(3, .int i23), (1, .long v21), (0, .ref (gz (xG x) + 85))] 2 C dX6_goals_30 rfl e24 (by decide) rfl ?_
        refine r_goto 4 C dX6_goals_33 (by decide) ?_
        refine r_lv [2, 1, 0] rfl ?_
        exact ih10 v21 i23 w5 h6 o7 (by omega) (by omega)
  refine r_lconst (v := 0) C dX6_goals_0 (by decide) ?_
  refine r_lstore_n [(1, .long 0), (0, .ref (gz (xG x) + 85))] C dX6_goals_1 (by decide) rfl ?_
  refine r_iconst (v := 0) C dX6_goals_2 (by decide) ?_
  refine r_istore_n [(3, .int 0), (1, .long 0), (0, .ref (gz (xG x) + 85))] C dX6_goals_3 (by decide) rfl ?_
  refine r_lv [2, 1, 0] rfl ?_
  exact LP3 4294967296 0 0 w h0 o0 (by omega) (by omega)
set_option maxHeartbeats 4000000 in
set_option maxRecDepth 100000 in
theorem ctX6_places_88 (l : Launch) (G : Gt) (w : Wv) (sC : Str KC XC w) (o0 : Inv RC w)  : CtL l G yX6_places cX6_places 4 ({ frames := 0, cells := 0, slots := 0, locals := 0 } : Room) [.ref (gz G + 88)] w (fun r w' => Ch [] [] w w' ∧ Inv RC w') := by
  refine enterL (by decide) (Nat.le_of_ble_eq_true rfl) ?_
  intro x el eG C hret
  subst el; subst eG
  show V x 0 0 w 0 [(0, .ref (gz (xG x) + 88))] []
  have h0 : Ch [] [] w w := Ch.rf
  have q0 : (0 : Int32).toInt = 0 := by decide
  have q6 : (6 : Int32).toInt = 6 := by decide
  have LP5 : ∀ (f6 : Nat) (u3 : Int64) (u4 : Int32) (w7 : Wv), Ch [] [] w w7 → Inv RC w7 → (0 ≤ u4.toInt ∧ u4.toInt ≤ 2147483647) → 2147483647 - u4.toInt < f6 → V x 0 0 w7 8 [(0, .ref (gz (xG x) + 88)), (1, .long u3), (3, .int u4)] [] := by
    intro f6
    induction f6 with
    | zero => intro u3 u4 w7 h8 o9 z10 z11; exfalso; omega
    | succ f6 ih12 =>
      intro u3 u4 w7 h8 o9 z10 z11
      refine r_iload_n 2 C dX6_places_8 rfl ?_
      refine r_aload_n 0 C dX6_places_9 rfl ?_
      refine gfX6_18 3 C (kS sC h8 kc_88) (xS sC h8 xc_88_4) dX6_places_10 ?_
      refine gfX6_39 (v := (wI w 3 3)) C (kS sC h8 kc_3) (h8.I (by decide) (by decide) rfl) dX6_places_13 ?_
      have b13 := Inv.get o0 rt_3_3 (j := 3) (by decide) (by decide)
      have k15 := i_rng u4
      refine r_icmp_ge 38 C dX6_places_16 (by decide) (fun c14 => ?_) (fun c14 => ?_)
      · have c14' := i_le c14
        refine r_lload_n 1 C dX6_places_38 rfl ?_
        exact hret _ _ _ _ dX6_places_39 ⟨h8, o9⟩
      · have c14' := i_nle c14
        refine r_lload_n 1 C dX6_places_19 rfl ?_
        refine r_bipush (v := 6) C dX6_places_20 (by decide) ?_
        refine r_lshl C dX6_places_22 (fun v16 e17 => ?_)
        refine r_aload_n 0 C dX6_places_23 rfl ?_
        refine gfX6_9 89 C (kS sC h8 kc_88) (xS sC h8 xc_88_2) dX6_places_24 ?_
        refine r_iload_n 2 C dX6_places_27 rfl ?_
        refine r_iald C (kS sC h8 kc_89) (vin (by omega) (by omega)) dX6_places_28 ?_
        generalize (wI w7 89 (u4).toNatClampNeg) = v18
        refine r_i2l C dX6_places_29 (fun v19 e20 => ?_)
        have v19' := i2l_ok e20
        refine r_lor C dX6_places_30 (fun v21 e22 => ?_)
        refine r_lstore_n [(1, .long v21), (0, .ref (gz (xG x) + 88)), (3, .int u4)] C dX6_places_31 (by decide) rfl ?_
        obtain ⟨i23, e24⟩ : ∃ z : Int32, u4 + Int32.ofInt 1 = z := ⟨_, rfl⟩
        have i23' := iinc_ok e24 (by decide) (by omega) (by omega)
        refine r_iinc [(3, .int i23), (1, .long v21), (0, .ref (gz (xG x) + 88))] 2 C dX6_places_32 rfl e24 (by decide) rfl ?_
        refine r_goto 8 C dX6_places_35 (by decide) ?_
        refine r_lv [2, 1, 0] rfl ?_
        exact ih12 v21 i23 w7 h8 o9 (by omega) (by omega)
  refine r_aload_n 0 C dX6_places_0 rfl ?_
  refine gfX6_32 (v := (wI w 88 0)) C (kS sC h0 kc_88) rfl dX6_places_1 ?_
  refine r_i2l C dX6_places_4 (fun v1 e2 => ?_)
  have v1' := i2l_ok e2
  refine r_lstore_n [(1, .long v1), (0, .ref (gz (xG x) + 88))] C dX6_places_5 (by decide) rfl ?_
  refine r_iconst (v := 0) C dX6_places_6 (by decide) ?_
  refine r_istore_n [(3, .int 0), (1, .long v1), (0, .ref (gz (xG x) + 88))] C dX6_places_7 (by decide) rfl ?_
  refine r_lv [2, 1, 0] rfl ?_
  exact LP5 4294967296 v1 0 w h0 o0 (by omega) (by omega)
set_option maxHeartbeats 4000000 in
set_option maxRecDepth 100000 in
theorem ctX6_goals_88 (l : Launch) (G : Gt) (w : Wv) (sC : Str KC XC w) (o0 : Inv RC w)  : CtL l G yX6_goals cX6_goals 4 ({ frames := 0, cells := 0, slots := 0, locals := 0 } : Room) [.ref (gz G + 88)] w (fun r w' => Ch [] [] w w' ∧ Inv RC w') := by
  refine enterL (by decide) (Nat.le_of_ble_eq_true rfl) ?_
  intro x el eG C hret
  subst el; subst eG
  show V x 0 0 w 0 [(0, .ref (gz (xG x) + 88))] []
  have h0 : Ch [] [] w w := Ch.rf
  have q0 : (0 : Int32).toInt = 0 := by decide
  have q1 : (1 : Int32).toInt = 1 := by decide
  have q6 : (6 : Int32).toInt = 6 := by decide
  have ql0 : (0 : Int64).toInt = 0 := by decide
  have LP3 : ∀ (f4 : Nat) (u1 : Int64) (u2 : Int32) (w5 : Wv), Ch [] [] w w5 → Inv RC w5 → (0 ≤ u2.toInt ∧ u2.toInt ≤ 2147483647) → 2147483647 - u2.toInt < f4 → V x 0 0 w5 4 [(0, .ref (gz (xG x) + 88)), (1, .long u1), (3, .int u2)] [] := by
    intro f4
    induction f4 with
    | zero => intro u1 u2 w5 h6 o7 z8 z9; exfalso; omega
    | succ f4 ih10 =>
      intro u1 u2 w5 h6 o7 z8 z9
      refine r_iload_n 2 C dX6_goals_4 rfl ?_
      refine r_aload_n 0 C dX6_goals_5 rfl ?_
      refine gfX6_18 3 C (kS sC h6 kc_88) (xS sC h6 xc_88_4) dX6_goals_6 ?_
      refine gfX6_39 (v := (wI w 3 3)) C (kS sC h6 kc_3) (h6.I (by decide) (by decide) rfl) dX6_goals_9 ?_
      have b11 := Inv.get o0 rt_3_3 (j := 3) (by decide) (by decide)
      have k13 := i_rng u2
      refine r_icmp_ge 36 C dX6_goals_12 (by decide) (fun c12 => ?_) (fun c12 => ?_)
      · have c12' := i_le c12
        refine r_lload_n 1 C dX6_goals_36 rfl ?_
        exact hret _ _ _ _ dX6_goals_37 ⟨h6, o7⟩
      · have c12' := i_nle c12
        refine r_lload_n 1 C dX6_goals_15 rfl ?_
        refine r_bipush (v := 6) C dX6_goals_16 (by decide) ?_
        refine r_lshl C dX6_goals_18 (fun v14 e15 => ?_)
        refine r_aload_n 0 C dX6_goals_19 rfl ?_
        refine gfX6_15 90 C (kS sC h6 kc_88) (xS sC h6 xc_88_3) dX6_goals_20 ?_
        refine r_iload_n 2 C dX6_goals_23 rfl ?_
        refine r_iald C (kS sC h6 kc_90) (vin (by omega) (by omega)) dX6_goals_24 ?_
        generalize (wI w5 90 (u2).toNatClampNeg) = v16
        refine r_iconst (v := 1) C dX6_goals_25 (by decide) ?_
        refine r_iadd C dX6_goals_26 (fun v17 e18 => ?_)
        refine r_i2l C dX6_goals_27 (fun v19 e20 => ?_)
        have v19' := i2l_ok e20
        refine r_lor C dX6_goals_28 (fun v21 e22 => ?_)
        refine r_lstore_n [(1, .long v21), (0, .ref (gz (xG x) + 88)), (3, .int u2)] C dX6_goals_29 (by decide) rfl ?_
        obtain ⟨i23, e24⟩ : ∃ z : Int32, u2 + Int32.ofInt 1 = z := ⟨_, rfl⟩
        have i23' := iinc_ok e24 (by decide) (by omega) (by omega)
        refine r_iinc [(3, .int i23), (1, .long v21), (0, .ref (gz (xG x) + 88))] 2 C dX6_goals_30 rfl e24 (by decide) rfl ?_
        refine r_goto 4 C dX6_goals_33 (by decide) ?_
        refine r_lv [2, 1, 0] rfl ?_
        exact ih10 v21 i23 w5 h6 o7 (by omega) (by omega)
  refine r_lconst (v := 0) C dX6_goals_0 (by decide) ?_
  refine r_lstore_n [(1, .long 0), (0, .ref (gz (xG x) + 88))] C dX6_goals_1 (by decide) rfl ?_
  refine r_iconst (v := 0) C dX6_goals_2 (by decide) ?_
  refine r_istore_n [(3, .int 0), (1, .long 0), (0, .ref (gz (xG x) + 88))] C dX6_goals_3 (by decide) rfl ?_
  refine r_lv [2, 1, 0] rfl ?_
  exact LP3 4294967296 0 0 w h0 o0 (by omega) (by omega)
set_option maxHeartbeats 4000000 in
set_option maxRecDepth 100000 in
theorem ctX6_places_91 (l : Launch) (G : Gt) (w : Wv) (sC : Str KC XC w) (o0 : Inv RC w)  : CtL l G yX6_places cX6_places 4 ({ frames := 0, cells := 0, slots := 0, locals := 0 } : Room) [.ref (gz G + 91)] w (fun r w' => Ch [] [] w w' ∧ Inv RC w') := by
  refine enterL (by decide) (Nat.le_of_ble_eq_true rfl) ?_
  intro x el eG C hret
  subst el; subst eG
  show V x 0 0 w 0 [(0, .ref (gz (xG x) + 91))] []
  have h0 : Ch [] [] w w := Ch.rf
  have q0 : (0 : Int32).toInt = 0 := by decide
  have q6 : (6 : Int32).toInt = 6 := by decide
  have LP5 : ∀ (f6 : Nat) (u3 : Int64) (u4 : Int32) (w7 : Wv), Ch [] [] w w7 → Inv RC w7 → (0 ≤ u4.toInt ∧ u4.toInt ≤ 2147483647) → 2147483647 - u4.toInt < f6 → V x 0 0 w7 8 [(0, .ref (gz (xG x) + 91)), (1, .long u3), (3, .int u4)] [] := by
    intro f6
    induction f6 with
    | zero => intro u3 u4 w7 h8 o9 z10 z11; exfalso; omega
    | succ f6 ih12 =>
      intro u3 u4 w7 h8 o9 z10 z11
      refine r_iload_n 2 C dX6_places_8 rfl ?_
      refine r_aload_n 0 C dX6_places_9 rfl ?_
      refine gfX6_18 3 C (kS sC h8 kc_91) (xS sC h8 xc_91_4) dX6_places_10 ?_
      refine gfX6_39 (v := (wI w 3 3)) C (kS sC h8 kc_3) (h8.I (by decide) (by decide) rfl) dX6_places_13 ?_
      have b13 := Inv.get o0 rt_3_3 (j := 3) (by decide) (by decide)
      have k15 := i_rng u4
      refine r_icmp_ge 38 C dX6_places_16 (by decide) (fun c14 => ?_) (fun c14 => ?_)
      · have c14' := i_le c14
        refine r_lload_n 1 C dX6_places_38 rfl ?_
        exact hret _ _ _ _ dX6_places_39 ⟨h8, o9⟩
      · have c14' := i_nle c14
        refine r_lload_n 1 C dX6_places_19 rfl ?_
        refine r_bipush (v := 6) C dX6_places_20 (by decide) ?_
        refine r_lshl C dX6_places_22 (fun v16 e17 => ?_)
        refine r_aload_n 0 C dX6_places_23 rfl ?_
        refine gfX6_9 92 C (kS sC h8 kc_91) (xS sC h8 xc_91_2) dX6_places_24 ?_
        refine r_iload_n 2 C dX6_places_27 rfl ?_
        refine r_iald C (kS sC h8 kc_92) (vin (by omega) (by omega)) dX6_places_28 ?_
        generalize (wI w7 92 (u4).toNatClampNeg) = v18
        refine r_i2l C dX6_places_29 (fun v19 e20 => ?_)
        have v19' := i2l_ok e20
        refine r_lor C dX6_places_30 (fun v21 e22 => ?_)
        refine r_lstore_n [(1, .long v21), (0, .ref (gz (xG x) + 91)), (3, .int u4)] C dX6_places_31 (by decide) rfl ?_
        obtain ⟨i23, e24⟩ : ∃ z : Int32, u4 + Int32.ofInt 1 = z := ⟨_, rfl⟩
        have i23' := iinc_ok e24 (by decide) (by omega) (by omega)
        refine r_iinc [(3, .int i23), (1, .long v21), (0, .ref (gz (xG x) + 91))] 2 C dX6_places_32 rfl e24 (by decide) rfl ?_
        refine r_goto 8 C dX6_places_35 (by decide) ?_
        refine r_lv [2, 1, 0] rfl ?_
        exact ih12 v21 i23 w7 h8 o9 (by omega) (by omega)
  refine r_aload_n 0 C dX6_places_0 rfl ?_
  refine gfX6_32 (v := (wI w 91 0)) C (kS sC h0 kc_91) rfl dX6_places_1 ?_
  refine r_i2l C dX6_places_4 (fun v1 e2 => ?_)
  have v1' := i2l_ok e2
  refine r_lstore_n [(1, .long v1), (0, .ref (gz (xG x) + 91))] C dX6_places_5 (by decide) rfl ?_
  refine r_iconst (v := 0) C dX6_places_6 (by decide) ?_
  refine r_istore_n [(3, .int 0), (1, .long v1), (0, .ref (gz (xG x) + 91))] C dX6_places_7 (by decide) rfl ?_
  refine r_lv [2, 1, 0] rfl ?_
  exact LP5 4294967296 v1 0 w h0 o0 (by omega) (by omega)
set_option maxHeartbeats 4000000 in
set_option maxRecDepth 100000 in
theorem ctX6_goals_91 (l : Launch) (G : Gt) (w : Wv) (sC : Str KC XC w) (o0 : Inv RC w)  : CtL l G yX6_goals cX6_goals 4 ({ frames := 0, cells := 0, slots := 0, locals := 0 } : Room) [.ref (gz G + 91)] w (fun r w' => Ch [] [] w w' ∧ Inv RC w') := by
  refine enterL (by decide) (Nat.le_of_ble_eq_true rfl) ?_
  intro x el eG C hret
  subst el; subst eG
  show V x 0 0 w 0 [(0, .ref (gz (xG x) + 91))] []
  have h0 : Ch [] [] w w := Ch.rf
  have q0 : (0 : Int32).toInt = 0 := by decide
  have q1 : (1 : Int32).toInt = 1 := by decide
  have q6 : (6 : Int32).toInt = 6 := by decide
  have ql0 : (0 : Int64).toInt = 0 := by decide
  have LP3 : ∀ (f4 : Nat) (u1 : Int64) (u2 : Int32) (w5 : Wv), Ch [] [] w w5 → Inv RC w5 → (0 ≤ u2.toInt ∧ u2.toInt ≤ 2147483647) → 2147483647 - u2.toInt < f4 → V x 0 0 w5 4 [(0, .ref (gz (xG x) + 91)), (1, .long u1), (3, .int u2)] [] := by
    intro f4
    induction f4 with
    | zero => intro u1 u2 w5 h6 o7 z8 z9; exfalso; omega
    | succ f4 ih10 =>
      intro u1 u2 w5 h6 o7 z8 z9
      refine r_iload_n 2 C dX6_goals_4 rfl ?_
      refine r_aload_n 0 C dX6_goals_5 rfl ?_
      refine gfX6_18 3 C (kS sC h6 kc_91) (xS sC h6 xc_91_4) dX6_goals_6 ?_
      refine gfX6_39 (v := (wI w 3 3)) C (kS sC h6 kc_3) (h6.I (by decide) (by decide) rfl) dX6_goals_9 ?_
      have b11 := Inv.get o0 rt_3_3 (j := 3) (by decide) (by decide)
      have k13 := i_rng u2
      refine r_icmp_ge 36 C dX6_goals_12 (by decide) (fun c12 => ?_) (fun c12 => ?_)
      · have c12' := i_le c12
        refine r_lload_n 1 C dX6_goals_36 rfl ?_
        exact hret _ _ _ _ dX6_goals_37 ⟨h6, o7⟩
      · have c12' := i_nle c12
        refine r_lload_n 1 C dX6_goals_15 rfl ?_
        refine r_bipush (v := 6) C dX6_goals_16 (by decide) ?_
        refine r_lshl C dX6_goals_18 (fun v14 e15 => ?_)
        refine r_aload_n 0 C dX6_goals_19 rfl ?_
        refine gfX6_15 93 C (kS sC h6 kc_91) (xS sC h6 xc_91_3) dX6_goals_20 ?_
        refine r_iload_n 2 C dX6_goals_23 rfl ?_
        refine r_iald C (kS sC h6 kc_93) (vin (by omega) (by omega)) dX6_goals_24 ?_
        generalize (wI w5 93 (u2).toNatClampNeg) = v16
        refine r_iconst (v := 1) C dX6_goals_25 (by decide) ?_
        refine r_iadd C dX6_goals_26 (fun v17 e18 => ?_)
        refine r_i2l C dX6_goals_27 (fun v19 e20 => ?_)
        have v19' := i2l_ok e20
        refine r_lor C dX6_goals_28 (fun v21 e22 => ?_)
        refine r_lstore_n [(1, .long v21), (0, .ref (gz (xG x) + 91)), (3, .int u2)] C dX6_goals_29 (by decide) rfl ?_
        obtain ⟨i23, e24⟩ : ∃ z : Int32, u2 + Int32.ofInt 1 = z := ⟨_, rfl⟩
        have i23' := iinc_ok e24 (by decide) (by omega) (by omega)
        refine r_iinc [(3, .int i23), (1, .long v21), (0, .ref (gz (xG x) + 91))] 2 C dX6_goals_30 rfl e24 (by decide) rfl ?_
        refine r_goto 4 C dX6_goals_33 (by decide) ?_
        refine r_lv [2, 1, 0] rfl ?_
        exact ih10 v21 i23 w5 h6 o7 (by omega) (by omega)
  refine r_lconst (v := 0) C dX6_goals_0 (by decide) ?_
  refine r_lstore_n [(1, .long 0), (0, .ref (gz (xG x) + 91))] C dX6_goals_1 (by decide) rfl ?_
  refine r_iconst (v := 0) C dX6_goals_2 (by decide) ?_
  refine r_istore_n [(3, .int 0), (1, .long 0), (0, .ref (gz (xG x) + 91))] C dX6_goals_3 (by decide) rfl ?_
  refine r_lv [2, 1, 0] rfl ?_
  exact LP3 4294967296 0 0 w h0 o0 (by omega) (by omega)
set_option maxHeartbeats 4000000 in
set_option maxRecDepth 100000 in
theorem ctX6_places_94 (l : Launch) (G : Gt) (w : Wv) (sC : Str KC XC w) (o0 : Inv RC w)  : CtL l G yX6_places cX6_places 4 ({ frames := 0, cells := 0, slots := 0, locals := 0 } : Room) [.ref (gz G + 94)] w (fun r w' => Ch [] [] w w' ∧ Inv RC w') := by
  refine enterL (by decide) (Nat.le_of_ble_eq_true rfl) ?_
  intro x el eG C hret
  subst el; subst eG
  show V x 0 0 w 0 [(0, .ref (gz (xG x) + 94))] []
  have h0 : Ch [] [] w w := Ch.rf
  have q0 : (0 : Int32).toInt = 0 := by decide
  have q6 : (6 : Int32).toInt = 6 := by decide
  have LP5 : ∀ (f6 : Nat) (u3 : Int64) (u4 : Int32) (w7 : Wv), Ch [] [] w w7 → Inv RC w7 → (0 ≤ u4.toInt ∧ u4.toInt ≤ 2147483647) → 2147483647 - u4.toInt < f6 → V x 0 0 w7 8 [(0, .ref (gz (xG x) + 94)), (1, .long u3), (3, .int u4)] [] := by
    intro f6
    induction f6 with
    | zero => intro u3 u4 w7 h8 o9 z10 z11; exfalso; omega
    | succ f6 ih12 =>
      intro u3 u4 w7 h8 o9 z10 z11
      refine r_iload_n 2 C dX6_places_8 rfl ?_
      refine r_aload_n 0 C dX6_places_9 rfl ?_
      refine gfX6_18 3 C (kS sC h8 kc_94) (xS sC h8 xc_94_4) dX6_places_10 ?_
      refine gfX6_39 (v := (wI w 3 3)) C (kS sC h8 kc_3) (h8.I (by decide) (by decide) rfl) dX6_places_13 ?_
      have b13 := Inv.get o0 rt_3_3 (j := 3) (by decide) (by decide)
      have k15 := i_rng u4
      refine r_icmp_ge 38 C dX6_places_16 (by decide) (fun c14 => ?_) (fun c14 => ?_)
      · have c14' := i_le c14
        refine r_lload_n 1 C dX6_places_38 rfl ?_
        exact hret _ _ _ _ dX6_places_39 ⟨h8, o9⟩
      · have c14' := i_nle c14
        refine r_lload_n 1 C dX6_places_19 rfl ?_
        refine r_bipush (v := 6) C dX6_places_20 (by decide) ?_
        refine r_lshl C dX6_places_22 (fun v16 e17 => ?_)
        refine r_aload_n 0 C dX6_places_23 rfl ?_
        refine gfX6_9 95 C (kS sC h8 kc_94) (xS sC h8 xc_94_2) dX6_places_24 ?_
        refine r_iload_n 2 C dX6_places_27 rfl ?_
        refine r_iald C (kS sC h8 kc_95) (vin (by omega) (by omega)) dX6_places_28 ?_
        generalize (wI w7 95 (u4).toNatClampNeg) = v18
        refine r_i2l C dX6_places_29 (fun v19 e20 => ?_)
        have v19' := i2l_ok e20
        refine r_lor C dX6_places_30 (fun v21 e22 => ?_)
        refine r_lstore_n [(1, .long v21), (0, .ref (gz (xG x) + 94)), (3, .int u4)] C dX6_places_31 (by decide) rfl ?_
        obtain ⟨i23, e24⟩ : ∃ z : Int32, u4 + Int32.ofInt 1 = z := ⟨_, rfl⟩
        have i23' := iinc_ok e24 (by decide) (by omega) (by omega)
        refine r_iinc [(3, .int i23), (1, .long v21), (0, .ref (gz (xG x) + 94))] 2 C dX6_places_32 rfl e24 (by decide) rfl ?_
        refine r_goto 8 C dX6_places_35 (by decide) ?_
        refine r_lv [2, 1, 0] rfl ?_
        exact ih12 v21 i23 w7 h8 o9 (by omega) (by omega)
  refine r_aload_n 0 C dX6_places_0 rfl ?_
  refine gfX6_32 (v := (wI w 94 0)) C (kS sC h0 kc_94) rfl dX6_places_1 ?_
  refine r_i2l C dX6_places_4 (fun v1 e2 => ?_)
  have v1' := i2l_ok e2
  refine r_lstore_n [(1, .long v1), (0, .ref (gz (xG x) + 94))] C dX6_places_5 (by decide) rfl ?_
  refine r_iconst (v := 0) C dX6_places_6 (by decide) ?_
  refine r_istore_n [(3, .int 0), (1, .long v1), (0, .ref (gz (xG x) + 94))] C dX6_places_7 (by decide) rfl ?_
  refine r_lv [2, 1, 0] rfl ?_
  exact LP5 4294967296 v1 0 w h0 o0 (by omega) (by omega)
set_option maxHeartbeats 4000000 in
set_option maxRecDepth 100000 in
theorem ctX6_goals_94 (l : Launch) (G : Gt) (w : Wv) (sC : Str KC XC w) (o0 : Inv RC w)  : CtL l G yX6_goals cX6_goals 4 ({ frames := 0, cells := 0, slots := 0, locals := 0 } : Room) [.ref (gz G + 94)] w (fun r w' => Ch [] [] w w' ∧ Inv RC w') := by
  refine enterL (by decide) (Nat.le_of_ble_eq_true rfl) ?_
  intro x el eG C hret
  subst el; subst eG
  show V x 0 0 w 0 [(0, .ref (gz (xG x) + 94))] []
  have h0 : Ch [] [] w w := Ch.rf
  have q0 : (0 : Int32).toInt = 0 := by decide
  have q1 : (1 : Int32).toInt = 1 := by decide
  have q6 : (6 : Int32).toInt = 6 := by decide
  have ql0 : (0 : Int64).toInt = 0 := by decide
  have LP3 : ∀ (f4 : Nat) (u1 : Int64) (u2 : Int32) (w5 : Wv), Ch [] [] w w5 → Inv RC w5 → (0 ≤ u2.toInt ∧ u2.toInt ≤ 2147483647) → 2147483647 - u2.toInt < f4 → V x 0 0 w5 4 [(0, .ref (gz (xG x) + 94)), (1, .long u1), (3, .int u2)] [] := by
    intro f4
    induction f4 with
    | zero => intro u1 u2 w5 h6 o7 z8 z9; exfalso; omega
    | succ f4 ih10 =>
      intro u1 u2 w5 h6 o7 z8 z9
      refine r_iload_n 2 C dX6_goals_4 rfl ?_
      refine r_aload_n 0 C dX6_goals_5 rfl ?_
      refine gfX6_18 3 C (kS sC h6 kc_94) (xS sC h6 xc_94_4) dX6_goals_6 ?_
      refine gfX6_39 (v := (wI w 3 3)) C (kS sC h6 kc_3) (h6.I (by decide) (by decide) rfl) dX6_goals_9 ?_
      have b11 := Inv.get o0 rt_3_3 (j := 3) (by decide) (by decide)
      have k13 := i_rng u2
      refine r_icmp_ge 36 C dX6_goals_12 (by decide) (fun c12 => ?_) (fun c12 => ?_)
      · have c12' := i_le c12
        refine r_lload_n 1 C dX6_goals_36 rfl ?_
        exact hret _ _ _ _ dX6_goals_37 ⟨h6, o7⟩
      · have c12' := i_nle c12
        refine r_lload_n 1 C dX6_goals_15 rfl ?_
        refine r_bipush (v := 6) C dX6_goals_16 (by decide) ?_
        refine r_lshl C dX6_goals_18 (fun v14 e15 => ?_)
        refine r_aload_n 0 C dX6_goals_19 rfl ?_
        refine gfX6_15 96 C (kS sC h6 kc_94) (xS sC h6 xc_94_3) dX6_goals_20 ?_
        refine r_iload_n 2 C dX6_goals_23 rfl ?_
        refine r_iald C (kS sC h6 kc_96) (vin (by omega) (by omega)) dX6_goals_24 ?_
        generalize (wI w5 96 (u2).toNatClampNeg) = v16
        refine r_iconst (v := 1) C dX6_goals_25 (by decide) ?_
        refine r_iadd C dX6_goals_26 (fun v17 e18 => ?_)
        refine r_i2l C dX6_goals_27 (fun v19 e20 => ?_)
        have v19' := i2l_ok e20
        refine r_lor C dX6_goals_28 (fun v21 e22 => ?_)
        refine r_lstore_n [(1, .long v21), (0, .ref (gz (xG x) + 94)), (3, .int u2)] C dX6_goals_29 (by decide) rfl ?_
        obtain ⟨i23, e24⟩ : ∃ z : Int32, u2 + Int32.ofInt 1 = z := ⟨_, rfl⟩
        have i23' := iinc_ok e24 (by decide) (by omega) (by omega)
        refine r_iinc [(3, .int i23), (1, .long v21), (0, .ref (gz (xG x) + 94))] 2 C dX6_goals_30 rfl e24 (by decide) rfl ?_
        refine r_goto 4 C dX6_goals_33 (by decide) ?_
        refine r_lv [2, 1, 0] rfl ?_
        exact ih10 v21 i23 w5 h6 o7 (by omega) (by omega)
  refine r_lconst (v := 0) C dX6_goals_0 (by decide) ?_
  refine r_lstore_n [(1, .long 0), (0, .ref (gz (xG x) + 94))] C dX6_goals_1 (by decide) rfl ?_
  refine r_iconst (v := 0) C dX6_goals_2 (by decide) ?_
  refine r_istore_n [(3, .int 0), (1, .long 0), (0, .ref (gz (xG x) + 94))] C dX6_goals_3 (by decide) rfl ?_
  refine r_lv [2, 1, 0] rfl ?_
  exact LP3 4294967296 0 0 w h0 o0 (by omega) (by omega)
set_option maxHeartbeats 4000000 in
set_option maxRecDepth 100000 in
theorem ctX6_places_97 (l : Launch) (G : Gt) (w : Wv) (sC : Str KC XC w) (o0 : Inv RC w)  : CtL l G yX6_places cX6_places 4 ({ frames := 0, cells := 0, slots := 0, locals := 0 } : Room) [.ref (gz G + 97)] w (fun r w' => Ch [] [] w w' ∧ Inv RC w') := by
  refine enterL (by decide) (Nat.le_of_ble_eq_true rfl) ?_
  intro x el eG C hret
  subst el; subst eG
  show V x 0 0 w 0 [(0, .ref (gz (xG x) + 97))] []
  have h0 : Ch [] [] w w := Ch.rf
  have q0 : (0 : Int32).toInt = 0 := by decide
  have q6 : (6 : Int32).toInt = 6 := by decide
  have LP5 : ∀ (f6 : Nat) (u3 : Int64) (u4 : Int32) (w7 : Wv), Ch [] [] w w7 → Inv RC w7 → (0 ≤ u4.toInt ∧ u4.toInt ≤ 2147483647) → 2147483647 - u4.toInt < f6 → V x 0 0 w7 8 [(0, .ref (gz (xG x) + 97)), (1, .long u3), (3, .int u4)] [] := by
    intro f6
    induction f6 with
    | zero => intro u3 u4 w7 h8 o9 z10 z11; exfalso; omega
    | succ f6 ih12 =>
      intro u3 u4 w7 h8 o9 z10 z11
      refine r_iload_n 2 C dX6_places_8 rfl ?_
      refine r_aload_n 0 C dX6_places_9 rfl ?_
      refine gfX6_18 3 C (kS sC h8 kc_97) (xS sC h8 xc_97_4) dX6_places_10 ?_
      refine gfX6_39 (v := (wI w 3 3)) C (kS sC h8 kc_3) (h8.I (by decide) (by decide) rfl) dX6_places_13 ?_
      have b13 := Inv.get o0 rt_3_3 (j := 3) (by decide) (by decide)
      have k15 := i_rng u4
      refine r_icmp_ge 38 C dX6_places_16 (by decide) (fun c14 => ?_) (fun c14 => ?_)
      · have c14' := i_le c14
        refine r_lload_n 1 C dX6_places_38 rfl ?_
        exact hret _ _ _ _ dX6_places_39 ⟨h8, o9⟩
      · have c14' := i_nle c14
        refine r_lload_n 1 C dX6_places_19 rfl ?_
        refine r_bipush (v := 6) C dX6_places_20 (by decide) ?_
        refine r_lshl C dX6_places_22 (fun v16 e17 => ?_)
        refine r_aload_n 0 C dX6_places_23 rfl ?_
        refine gfX6_9 98 C (kS sC h8 kc_97) (xS sC h8 xc_97_2) dX6_places_24 ?_
        refine r_iload_n 2 C dX6_places_27 rfl ?_
        refine r_iald C (kS sC h8 kc_98) (vin (by omega) (by omega)) dX6_places_28 ?_
        generalize (wI w7 98 (u4).toNatClampNeg) = v18
        refine r_i2l C dX6_places_29 (fun v19 e20 => ?_)
        have v19' := i2l_ok e20
        refine r_lor C dX6_places_30 (fun v21 e22 => ?_)
        refine r_lstore_n [(1, .long v21), (0, .ref (gz (xG x) + 97)), (3, .int u4)] C dX6_places_31 (by decide) rfl ?_
        obtain ⟨i23, e24⟩ : ∃ z : Int32, u4 + Int32.ofInt 1 = z := ⟨_, rfl⟩
        have i23' := iinc_ok e24 (by decide) (by omega) (by omega)
        refine r_iinc [(3, .int i23), (1, .long v21), (0, .ref (gz (xG x) + 97))] 2 C dX6_places_32 rfl e24 (by decide) rfl ?_
        refine r_goto 8 C dX6_places_35 (by decide) ?_
        refine r_lv [2, 1, 0] rfl ?_
        exact ih12 v21 i23 w7 h8 o9 (by omega) (by omega)
  refine r_aload_n 0 C dX6_places_0 rfl ?_
  refine gfX6_32 (v := (wI w 97 0)) C (kS sC h0 kc_97) rfl dX6_places_1 ?_
  refine r_i2l C dX6_places_4 (fun v1 e2 => ?_)
  have v1' := i2l_ok e2
  refine r_lstore_n [(1, .long v1), (0, .ref (gz (xG x) + 97))] C dX6_places_5 (by decide) rfl ?_
  refine r_iconst (v := 0) C dX6_places_6 (by decide) ?_
  refine r_istore_n [(3, .int 0), (1, .long v1), (0, .ref (gz (xG x) + 97))] C dX6_places_7 (by decide) rfl ?_
  refine r_lv [2, 1, 0] rfl ?_
  exact LP5 4294967296 v1 0 w h0 o0 (by omega) (by omega)
set_option maxHeartbeats 4000000 in
set_option maxRecDepth 100000 in
theorem ctX6_goals_97 (l : Launch) (G : Gt) (w : Wv) (sC : Str KC XC w) (o0 : Inv RC w)  : CtL l G yX6_goals cX6_goals 4 ({ frames := 0, cells := 0, slots := 0, locals := 0 } : Room) [.ref (gz G + 97)] w (fun r w' => Ch [] [] w w' ∧ Inv RC w') := by
  refine enterL (by decide) (Nat.le_of_ble_eq_true rfl) ?_
  intro x el eG C hret
  subst el; subst eG
  show V x 0 0 w 0 [(0, .ref (gz (xG x) + 97))] []
  have h0 : Ch [] [] w w := Ch.rf
  have q0 : (0 : Int32).toInt = 0 := by decide
  have q1 : (1 : Int32).toInt = 1 := by decide
  have q6 : (6 : Int32).toInt = 6 := by decide
  have ql0 : (0 : Int64).toInt = 0 := by decide
  have LP3 : ∀ (f4 : Nat) (u1 : Int64) (u2 : Int32) (w5 : Wv), Ch [] [] w w5 → Inv RC w5 → (0 ≤ u2.toInt ∧ u2.toInt ≤ 2147483647) → 2147483647 - u2.toInt < f4 → V x 0 0 w5 4 [(0, .ref (gz (xG x) + 97)), (1, .long u1), (3, .int u2)] [] := by
    intro f4
    induction f4 with
    | zero => intro u1 u2 w5 h6 o7 z8 z9; exfalso; omega
    | succ f4 ih10 =>
      intro u1 u2 w5 h6 o7 z8 z9
      refine r_iload_n 2 C dX6_goals_4 rfl ?_
      refine r_aload_n 0 C dX6_goals_5 rfl ?_
      refine gfX6_18 3 C (kS sC h6 kc_97) (xS sC h6 xc_97_4) dX6_goals_6 ?_
      refine gfX6_39 (v := (wI w 3 3)) C (kS sC h6 kc_3) (h6.I (by decide) (by decide) rfl) dX6_goals_9 ?_
      have b11 := Inv.get o0 rt_3_3 (j := 3) (by decide) (by decide)
      have k13 := i_rng u2
      refine r_icmp_ge 36 C dX6_goals_12 (by decide) (fun c12 => ?_) (fun c12 => ?_)
      · have c12' := i_le c12
        refine r_lload_n 1 C dX6_goals_36 rfl ?_
        exact hret _ _ _ _ dX6_goals_37 ⟨h6, o7⟩
      · have c12' := i_nle c12
        refine r_lload_n 1 C dX6_goals_15 rfl ?_
        refine r_bipush (v := 6) C dX6_goals_16 (by decide) ?_
        refine r_lshl C dX6_goals_18 (fun v14 e15 => ?_)
        refine r_aload_n 0 C dX6_goals_19 rfl ?_
        refine gfX6_15 99 C (kS sC h6 kc_97) (xS sC h6 xc_97_3) dX6_goals_20 ?_
        refine r_iload_n 2 C dX6_goals_23 rfl ?_
        refine r_iald C (kS sC h6 kc_99) (vin (by omega) (by omega)) dX6_goals_24 ?_
        generalize (wI w5 99 (u2).toNatClampNeg) = v16
        refine r_iconst (v := 1) C dX6_goals_25 (by decide) ?_
        refine r_iadd C dX6_goals_26 (fun v17 e18 => ?_)
        refine r_i2l C dX6_goals_27 (fun v19 e20 => ?_)
        have v19' := i2l_ok e20
        refine r_lor C dX6_goals_28 (fun v21 e22 => ?_)
        refine r_lstore_n [(1, .long v21), (0, .ref (gz (xG x) + 97)), (3, .int u2)] C dX6_goals_29 (by decide) rfl ?_
        obtain ⟨i23, e24⟩ : ∃ z : Int32, u2 + Int32.ofInt 1 = z := ⟨_, rfl⟩
        have i23' := iinc_ok e24 (by decide) (by omega) (by omega)
        refine r_iinc [(3, .int i23), (1, .long v21), (0, .ref (gz (xG x) + 97))] 2 C dX6_goals_30 rfl e24 (by decide) rfl ?_
        refine r_goto 4 C dX6_goals_33 (by decide) ?_
        refine r_lv [2, 1, 0] rfl ?_
        exact ih10 v21 i23 w5 h6 o7 (by omega) (by omega)
  refine r_lconst (v := 0) C dX6_goals_0 (by decide) ?_
  refine r_lstore_n [(1, .long 0), (0, .ref (gz (xG x) + 97))] C dX6_goals_1 (by decide) rfl ?_
  refine r_iconst (v := 0) C dX6_goals_2 (by decide) ?_
  refine r_istore_n [(3, .int 0), (1, .long 0), (0, .ref (gz (xG x) + 97))] C dX6_goals_3 (by decide) rfl ?_
  refine r_lv [2, 1, 0] rfl ?_
  exact LP3 4294967296 0 0 w h0 o0 (by omega) (by omega)
set_option maxHeartbeats 4000000 in
set_option maxRecDepth 100000 in
theorem ctX4_add_44 (l : Launch) (G : Gt) (w : Wv) (sC : Str KC XC w) (o0 : Inv RC w) (a1 : Int32) (a2 : Int32) : CtV l G yX4_add cX4_add 3 ({ frames := 0, cells := 0, slots := 0, locals := 0 } : Room) [.ref (gz G + 44), .int a1, .int a2] w (fun w' => Ch [45, 46] [(44, 0)] w w' ∧ Inv RC w') := by
  refine enterV (by decide) (Nat.le_of_ble_eq_true rfl) ?_
  intro x el eG C hnm hret
  subst el; subst eG
  show V x 0 0 w 0 [(0, .ref (gz (xG x) + 44)), (1, .int a1), (2, .int a2)] []
  have h0 : Ch [45, 46] [(44, 0)] w w := Ch.rf
  have q1 : (1 : Int32).toInt = 1 := by decide
  have q30 : (30 : Int32).toInt = 30 := by decide
  refine r_aload_n 0 C dX4_add_0 rfl ?_
  refine gfX4_18 (v := (wI w 44 0)) C (kS sC h0 kc_44) rfl dX4_add_1 ?_
  have b1 := Inv.get o0 rt_44_0 (j := 0) (by decide) (by decide)
  refine r_bipush (v := 30) C dX4_add_4 (by decide) ?_
  refine r_icmp_ge 39 C dX4_add_6 (by decide) (fun c2 => ?_) (fun c2 => ?_)
  · have c2' := i_le c2
    exact hret _ _ _ dX4_add_39 ⟨h0, o0⟩
  · have c2' := i_nle c2
    refine r_aload_n 0 C dX4_add_9 rfl ?_
    refine gfX4_9 45 C (kS sC h0 kc_44) (xS sC h0 xc_44_1) dX4_add_10 ?_
    refine r_aload_n 0 C dX4_add_13 rfl ?_
    refine gfX4_18 (v := (wI w 44 0)) C (kS sC h0 kc_44) rfl dX4_add_14 ?_
    refine r_iload_n 1 C dX4_add_17 rfl ?_
    refine r_iast C (kS sC h0 kc_45) (vin (by omega) (by omega)) dX4_add_18 (fun w3 e4 => ?_)
    have h5 := Ch.putS h0 e4 (by decide)
    have o6 := Inv.put0 o0 e4 (by decide)
    refine r_aload_n 0 C dX4_add_19 rfl ?_
    refine gfX4_15 46 C (kS sC h5 kc_44) (xS sC h5 xc_44_2) dX4_add_20 ?_
    refine r_aload_n 0 C dX4_add_23 rfl ?_
    refine gfX4_18 (v := (wI w 44 0)) C (kS sC h5 kc_44) (g_nn e4 (by decide) rfl) dX4_add_24 ?_
    refine r_iload_n 2 C dX4_add_27 rfl ?_
    refine r_iast C (kS sC h5 kc_46) (vin (by omega) (by omega)) dX4_add_28 (fun w7 e8 => ?_)
    have h9 := Ch.putS h5 e8 (by decide)
    have o10 := Inv.put0 o6 e8 (by decide)
    refine r_aload_n 0 C dX4_add_29 rfl ?_
    refine r_dup C dX4_add_30 rfl ?_
    refine gfX4_18 (v := (wI w 44 0)) C (kS sC h9 kc_44) (g_nn e8 (by decide) (g_nn e4 (by decide) rfl)) dX4_add_31 ?_
    refine r_iconst (v := 1) C dX4_add_34 (by decide) ?_
    refine r_iadd C dX4_add_35 (fun v11 e12 => ?_)
    have v11' := iadd_ok e12 (by omega) (by omega)
    refine pfX4_18 C (kS sC h9 kc_44) dX4_add_36 (fun w13 e14 => ?_)
    have h15 := Ch.putF h9 e14 (by decide)
    have o16 := Inv.put o10 e14 0 30 (by omega) (by decide)
    exact hret _ _ _ dX4_add_39 ⟨h15, o16⟩
set_option maxHeartbeats 4000000 in
set_option maxRecDepth 100000 in
theorem ctX4_run_44_38 (l : Launch) (G : Gt) (w : Wv) (sC : Str KC XC w) (o0 : Inv RC w) (a2 : Int32) : CtI l G yX4_run cX4_run 4 .int ({ frames := 4, cells := 0, slots := 0, locals := 100 } : Room) [.ref (gz G + 44), .ref (gz G + 38), .int a2] w (fun r w' => Ch [25, 26, 27, 39, 40] [(38, 0), (38, 1)] w w' ∧ Inv RC w') := by
  refine enterI (by decide) (Nat.le_of_ble_eq_true rfl) ?_
  intro x el eG C hret
  subst el; subst eG
  show V x 0 0 w 0 [(0, .ref (gz (xG x) + 44)), (1, .ref (gz (xG x) + 38)), (2, .int a2)] []
  have h0 : Ch [25, 26, 27, 39, 40] [(38, 0), (38, 1)] w w := Ch.rf
  have q0 : (0 : Int32).toInt = 0 := by decide
  have LP2 : ∀ (f3 : Nat) (u1 : Int32) (w4 : Wv), Ch [25, 26, 27, 39, 40] [(38, 0), (38, 1)] w w4 → Inv RC w4 → (0 ≤ u1.toInt ∧ u1.toInt ≤ 2147483647) → 2147483647 - u1.toInt < f3 → V x 0 0 w4 2 [(0, .ref (gz (xG x) + 44)), (1, .ref (gz (xG x) + 38)), (2, .int a2), (3, .int u1)] [] := by
    intro f3
    induction f3 with
    | zero => intro u1 w4 h5 o6 z7 z8; exfalso; omega
    | succ f3 ih9 =>
      intro u1 w4 h5 o6 z7 z8
      refine r_iload_n 3 C dX4_run_2 rfl ?_
      refine r_aload_n 0 C dX4_run_3 rfl ?_
      refine gfX4_18 (v := (wI w 44 0)) C (kS sC h5 kc_44) (h5.I (by decide) (by decide) rfl) dX4_run_4 ?_
      have b10 := Inv.get o0 rt_44_0 (j := 0) (by decide) (by decide)
      have k12 := i_rng u1
      refine r_icmp_ge 50 C dX4_run_7 (by decide) (fun c11 => ?_) (fun c11 => ?_)
      · have c11' := i_le c11
        refine r_iload_n 3 C dX4_run_50 rfl ?_
        exact hret _ _ _ _ dX4_run_51 rfl ⟨h5, o6⟩
      · have c11' := i_nle c11
        refine r_iload_n 3 C dX4_run_10 rfl ?_
        refine r_iload_n 2 C dX4_run_11 rfl ?_
        have k14 := i_rng a2
        refine r_icmp_ge 50 C dX4_run_12 (by decide) (fun c13 => ?_) (fun c13 => ?_)
        · have c13' := i_le c13
          refine r_iload_n 3 C dX4_run_50 rfl ?_
          exact hret _ _ _ _ dX4_run_51 rfl ⟨h5, o6⟩
        · have c13' := i_nle c13
          refine r_aload_n 1 C dX4_run_15 rfl ?_
          refine r_aload_n 0 C dX4_run_16 rfl ?_
          refine gfX4_9 45 C (kS sC h5 kc_44) (xS sC h5 xc_44_1) dX4_run_17 ?_
          refine r_iload_n 3 C dX4_run_20 rfl ?_
          refine r_iald C (kS sC h5 kc_45) (vin (by omega) (by omega)) dX4_run_21 ?_
          generalize (wI w4 45 (u1).toNatClampNeg) = v15
          refine callVI C cwX4_22_V (ctX6_may_38 _ _ w4 (sS sC h5) o6 v15 ) (by decide) (kS sC h5 kc_38) rfl rfl rfl (Nat.le_of_ble_eq_true rfl) (by decide) dX4_run_22 (fun r18 w17 y16 => ?_)
          show V x 0 0 w17 25 [(0, .ref (gz (xG x) + 44)), (1, .ref (gz (xG x) + 38)), (2, .int a2), (3, .int u1)] [.int r18]
          obtain ⟨h19, o20, g21⟩ := y16
          have h22 := Ch.tr h5 h19 (by decide) (by decide)
          refine r_if_eq 50 C dX4_run_25 (by decide) (fun c23 => ?_) (fun c23 => ?_)
          · have c23' := i_eq c23
            refine r_iload_n 3 C dX4_run_50 rfl ?_
            exact hret _ _ _ _ dX4_run_51 rfl ⟨h22, o20⟩
          · have c23' := i_ne c23
            refine r_aload_n 1 C dX4_run_28 rfl ?_
            refine r_aload_n 0 C dX4_run_29 rfl ?_
            refine gfX4_9 45 C (kS sC h22 kc_44) (xS sC h22 xc_44_1) dX4_run_30 ?_
            refine r_iload_n 3 C dX4_run_33 rfl ?_
            refine r_iald C (kS sC h22 kc_45) (vin (by omega) (by omega)) dX4_run_34 ?_
            generalize (wI w17 45 (u1).toNatClampNeg) = v24
            refine r_aload_n 0 C dX4_run_35 rfl ?_
            refine gfX4_15 46 C (kS sC h22 kc_44) (xS sC h22 xc_44_2) dX4_run_36 ?_
            refine r_iload_n 3 C dX4_run_39 rfl ?_
            refine r_iald C (kS sC h22 kc_46) (vin (by omega) (by omega)) dX4_run_40 ?_
            generalize (wI w17 46 (u1).toNatClampNeg) = v25
            refine callVV C cwX4_28_V (ctX6_pass_38 _ _ w17 (sS sC h22) o20 v24 v25 ) (by decide) (kS sC h22 kc_38) rfl rfl rfl (Nat.le_of_ble_eq_true rfl) (by decide) dX4_run_41 (fun w27 y26 => ?_)
            show V x 0 0 w27 44 [(0, .ref (gz (xG x) + 44)), (1, .ref (gz (xG x) + 38)), (2, .int a2), (3, .int u1)] []
            obtain ⟨h29, o30⟩ := y26
            have h31 := Ch.tr h22 h29 (by decide) (by decide)
            obtain ⟨i32, e33⟩ : ∃ z : Int32, u1 + Int32.ofInt 1 = z := ⟨_, rfl⟩
            have i32' := iinc_ok e33 (by decide) (by omega) (by omega)
            refine r_iinc [(3, .int i32), (0, .ref (gz (xG x) + 44)), (1, .ref (gz (xG x) + 38)), (2, .int a2)] 3 C dX4_run_44 rfl e33 (by decide) rfl ?_
            refine r_goto 2 C dX4_run_47 (by decide) ?_
            refine r_lv [1, 2, 3, 0] rfl ?_
            exact ih9 i32 w27 h31 o30 (by omega) (by omega)
  refine r_iconst (v := 0) C dX4_run_0 (by decide) ?_
  refine r_istore_n [(3, .int 0), (0, .ref (gz (xG x) + 44)), (1, .ref (gz (xG x) + 38)), (2, .int a2)] C dX4_run_1 (by decide) rfl ?_
  refine r_lv [1, 2, 3, 0] rfl ?_
  exact LP2 4294967296 0 w h0 o0 (by omega) (by omega)
set_option maxHeartbeats 4000000 in
set_option maxRecDepth 100000 in
theorem ctX4_run_44_41 (l : Launch) (G : Gt) (w : Wv) (sC : Str KC XC w) (o0 : Inv RC w) (a2 : Int32) : CtI l G yX4_run cX4_run 4 .int ({ frames := 4, cells := 0, slots := 0, locals := 100 } : Room) [.ref (gz G + 44), .ref (gz G + 41), .int a2] w (fun r w' => Ch [32, 33, 34, 42, 43] [(41, 0), (41, 1)] w w' ∧ Inv RC w') := by
  refine enterI (by decide) (Nat.le_of_ble_eq_true rfl) ?_
  intro x el eG C hret
  subst el; subst eG
  show V x 0 0 w 0 [(0, .ref (gz (xG x) + 44)), (1, .ref (gz (xG x) + 41)), (2, .int a2)] []
  have h0 : Ch [32, 33, 34, 42, 43] [(41, 0), (41, 1)] w w := Ch.rf
  have q0 : (0 : Int32).toInt = 0 := by decide
  have LP2 : ∀ (f3 : Nat) (u1 : Int32) (w4 : Wv), Ch [32, 33, 34, 42, 43] [(41, 0), (41, 1)] w w4 → Inv RC w4 → (0 ≤ u1.toInt ∧ u1.toInt ≤ 2147483647) → 2147483647 - u1.toInt < f3 → V x 0 0 w4 2 [(0, .ref (gz (xG x) + 44)), (1, .ref (gz (xG x) + 41)), (2, .int a2), (3, .int u1)] [] := by
    intro f3
    induction f3 with
    | zero => intro u1 w4 h5 o6 z7 z8; exfalso; omega
    | succ f3 ih9 =>
      intro u1 w4 h5 o6 z7 z8
      refine r_iload_n 3 C dX4_run_2 rfl ?_
      refine r_aload_n 0 C dX4_run_3 rfl ?_
      refine gfX4_18 (v := (wI w 44 0)) C (kS sC h5 kc_44) (h5.I (by decide) (by decide) rfl) dX4_run_4 ?_
      have b10 := Inv.get o0 rt_44_0 (j := 0) (by decide) (by decide)
      have k12 := i_rng u1
      refine r_icmp_ge 50 C dX4_run_7 (by decide) (fun c11 => ?_) (fun c11 => ?_)
      · have c11' := i_le c11
        refine r_iload_n 3 C dX4_run_50 rfl ?_
        exact hret _ _ _ _ dX4_run_51 rfl ⟨h5, o6⟩
      · have c11' := i_nle c11
        refine r_iload_n 3 C dX4_run_10 rfl ?_
        refine r_iload_n 2 C dX4_run_11 rfl ?_
        have k14 := i_rng a2
        refine r_icmp_ge 50 C dX4_run_12 (by decide) (fun c13 => ?_) (fun c13 => ?_)
        · have c13' := i_le c13
          refine r_iload_n 3 C dX4_run_50 rfl ?_
          exact hret _ _ _ _ dX4_run_51 rfl ⟨h5, o6⟩
        · have c13' := i_nle c13
          refine r_aload_n 1 C dX4_run_15 rfl ?_
          refine r_aload_n 0 C dX4_run_16 rfl ?_
          refine gfX4_9 45 C (kS sC h5 kc_44) (xS sC h5 xc_44_1) dX4_run_17 ?_
          refine r_iload_n 3 C dX4_run_20 rfl ?_
          refine r_iald C (kS sC h5 kc_45) (vin (by omega) (by omega)) dX4_run_21 ?_
          generalize (wI w4 45 (u1).toNatClampNeg) = v15
          refine callVI C cwX4_22_V (ctX6_may_41 _ _ w4 (sS sC h5) o6 v15 ) (by decide) (kS sC h5 kc_41) rfl rfl rfl (Nat.le_of_ble_eq_true rfl) (by decide) dX4_run_22 (fun r18 w17 y16 => ?_)
          show V x 0 0 w17 25 [(0, .ref (gz (xG x) + 44)), (1, .ref (gz (xG x) + 41)), (2, .int a2), (3, .int u1)] [.int r18]
          obtain ⟨h19, o20, g21⟩ := y16
          have h22 := Ch.tr h5 h19 (by decide) (by decide)
          refine r_if_eq 50 C dX4_run_25 (by decide) (fun c23 => ?_) (fun c23 => ?_)
          · have c23' := i_eq c23
            refine r_iload_n 3 C dX4_run_50 rfl ?_
            exact hret _ _ _ _ dX4_run_51 rfl ⟨h22, o20⟩
          · have c23' := i_ne c23
            refine r_aload_n 1 C dX4_run_28 rfl ?_
            refine r_aload_n 0 C dX4_run_29 rfl ?_
            refine gfX4_9 45 C (kS sC h22 kc_44) (xS sC h22 xc_44_1) dX4_run_30 ?_
            refine r_iload_n 3 C dX4_run_33 rfl ?_
            refine r_iald C (kS sC h22 kc_45) (vin (by omega) (by omega)) dX4_run_34 ?_
            generalize (wI w17 45 (u1).toNatClampNeg) = v24
            refine r_aload_n 0 C dX4_run_35 rfl ?_
            refine gfX4_15 46 C (kS sC h22 kc_44) (xS sC h22 xc_44_2) dX4_run_36 ?_
            refine r_iload_n 3 C dX4_run_39 rfl ?_
            refine r_iald C (kS sC h22 kc_46) (vin (by omega) (by omega)) dX4_run_40 ?_
            generalize (wI w17 46 (u1).toNatClampNeg) = v25
            refine callVV C cwX4_28_V (ctX6_pass_41 _ _ w17 (sS sC h22) o20 v24 v25 ) (by decide) (kS sC h22 kc_41) rfl rfl rfl (Nat.le_of_ble_eq_true rfl) (by decide) dX4_run_41 (fun w27 y26 => ?_)
            show V x 0 0 w27 44 [(0, .ref (gz (xG x) + 44)), (1, .ref (gz (xG x) + 41)), (2, .int a2), (3, .int u1)] []
            obtain ⟨h29, o30⟩ := y26
            have h31 := Ch.tr h22 h29 (by decide) (by decide)
            obtain ⟨i32, e33⟩ : ∃ z : Int32, u1 + Int32.ofInt 1 = z := ⟨_, rfl⟩
            have i32' := iinc_ok e33 (by decide) (by omega) (by omega)
            refine r_iinc [(3, .int i32), (0, .ref (gz (xG x) + 44)), (1, .ref (gz (xG x) + 41)), (2, .int a2)] 3 C dX4_run_44 rfl e33 (by decide) rfl ?_
            refine r_goto 2 C dX4_run_47 (by decide) ?_
            refine r_lv [1, 2, 3, 0] rfl ?_
            exact ih9 i32 w27 h31 o30 (by omega) (by omega)
  refine r_iconst (v := 0) C dX4_run_0 (by decide) ?_
  refine r_istore_n [(3, .int 0), (0, .ref (gz (xG x) + 44)), (1, .ref (gz (xG x) + 41)), (2, .int a2)] C dX4_run_1 (by decide) rfl ?_
  refine r_lv [1, 2, 3, 0] rfl ?_
  exact LP2 4294967296 0 w h0 o0 (by omega) (by omega)
set_option maxHeartbeats 4000000 in
set_option maxRecDepth 100000 in
theorem ctX7_add_47 (l : Launch) (G : Gt) (w : Wv) (sC : Str KC XC w) (o0 : Inv RC w) (a1 : Int32) (a2 : Int32) (a3 : Int32) : CtV l G yX7_add cX7_add 4 ({ frames := 0, cells := 0, slots := 0, locals := 0 } : Room) [.ref (gz G + 47), .int a1, .int a2, .int a3] w (fun w' => Ch [48, 49, 50] [(47, 0)] w w' ∧ Inv RC w') := by
  refine enterV (by decide) (Nat.le_of_ble_eq_true rfl) ?_
  intro x el eG C hnm hret
  subst el; subst eG
  show V x 0 0 w 0 [(0, .ref (gz (xG x) + 47)), (1, .int a1), (2, .int a2), (3, .int a3)] []
  have h0 : Ch [48, 49, 50] [(47, 0)] w w := Ch.rf
  have q1 : (1 : Int32).toInt = 1 := by decide
  have q10 : (10 : Int32).toInt = 10 := by decide
  refine r_aload_n 0 C dX7_add_0 rfl ?_
  refine gfX7_21 (v := (wI w 47 0)) C (kS sC h0 kc_47) rfl dX7_add_1 ?_
  have b1 := Inv.get o0 rt_47_0 (j := 0) (by decide) (by decide)
  refine r_bipush (v := 10) C dX7_add_4 (by decide) ?_
  refine r_icmp_ge 49 C dX7_add_6 (by decide) (fun c2 => ?_) (fun c2 => ?_)
  · have c2' := i_le c2
    exact hret _ _ _ dX7_add_49 ⟨h0, o0⟩
  · have c2' := i_nle c2
    refine r_aload_n 0 C dX7_add_9 rfl ?_
    refine gfX7_9 48 C (kS sC h0 kc_47) (xS sC h0 xc_47_1) dX7_add_10 ?_
    refine r_aload_n 0 C dX7_add_13 rfl ?_
    refine gfX7_21 (v := (wI w 47 0)) C (kS sC h0 kc_47) rfl dX7_add_14 ?_
    refine r_iload_n 1 C dX7_add_17 rfl ?_
    refine r_iast C (kS sC h0 kc_48) (vin (by omega) (by omega)) dX7_add_18 (fun w3 e4 => ?_)
    have h5 := Ch.putS h0 e4 (by decide)
    have o6 := Inv.put0 o0 e4 (by decide)
    refine r_aload_n 0 C dX7_add_19 rfl ?_
    refine gfX7_15 49 C (kS sC h5 kc_47) (xS sC h5 xc_47_2) dX7_add_20 ?_
    refine r_aload_n 0 C dX7_add_23 rfl ?_
    refine gfX7_21 (v := (wI w 47 0)) C (kS sC h5 kc_47) (g_nn e4 (by decide) rfl) dX7_add_24 ?_
    refine r_iload_n 2 C dX7_add_27 rfl ?_
    refine r_iast C (kS sC h5 kc_49) (vin (by omega) (by omega)) dX7_add_28 (fun w7 e8 => ?_)
    have h9 := Ch.putS h5 e8 (by decide)
    have o10 := Inv.put0 o6 e8 (by decide)
    refine r_aload_n 0 C dX7_add_29 rfl ?_
    refine gfX7_18 50 C (kS sC h9 kc_47) (xS sC h9 xc_47_3) dX7_add_30 ?_
    refine r_aload_n 0 C dX7_add_33 rfl ?_
    refine gfX7_21 (v := (wI w 47 0)) C (kS sC h9 kc_47) (g_nn e8 (by decide) (g_nn e4 (by decide) rfl)) dX7_add_34 ?_
    refine r_iload_n 3 C dX7_add_37 rfl ?_
    refine r_iast C (kS sC h9 kc_50) (vin (by omega) (by omega)) dX7_add_38 (fun w11 e12 => ?_)
    have h13 := Ch.putS h9 e12 (by decide)
    have o14 := Inv.put0 o10 e12 (by decide)
    refine r_aload_n 0 C dX7_add_39 rfl ?_
    refine r_dup C dX7_add_40 rfl ?_
    refine gfX7_21 (v := (wI w 47 0)) C (kS sC h13 kc_47) (g_nn e12 (by decide) (g_nn e8 (by decide) (g_nn e4 (by decide) rfl))) dX7_add_41 ?_
    refine r_iconst (v := 1) C dX7_add_44 (by decide) ?_
    refine r_iadd C dX7_add_45 (fun v15 e16 => ?_)
    have v15' := iadd_ok e16 (by omega) (by omega)
    refine pfX7_21 C (kS sC h13 kc_47) dX7_add_46 (fun w17 e18 => ?_)
    have h19 := Ch.putF h13 e18 (by decide)
    have o20 := Inv.put o14 e18 0 10 (by omega) (by decide)
    exact hret _ _ _ dX7_add_49 ⟨h19, o20⟩
set_option maxHeartbeats 4000000 in
set_option maxRecDepth 100000 in
theorem ctX7_latest_47 (l : Launch) (G : Gt) (w : Wv) (sC : Str KC XC w) (o0 : Inv RC w) (a1 : Int32) (b1 : 1 ≤ a1.toInt ∧ a1.toInt ≤ 5) : CtI l G yX7_latest cX7_latest 4 .int ({ frames := 1, cells := 0, slots := 0, locals := 21 } : Room) [.ref (gz G + 47), .int a1] w (fun r w' => Ch [] [] w w' ∧ Inv RC w' ∧ (0 ≤ r.toInt ∧ r.toInt ≤ 5)) := by
  refine enterI (by decide) (Nat.le_of_ble_eq_true rfl) ?_
  intro x el eG C hret
  subst el; subst eG
  show V x 0 0 w 0 [(0, .ref (gz (xG x) + 47)), (1, .int a1)] []
  have h0 : Ch [] [] w w := Ch.rf
  have q0 : (0 : Int32).toInt = 0 := by decide
  have LP3 : ∀ (f4 : Nat) (u1 : Int32) (u2 : Int32) (w5 : Wv), Ch [] [] w w5 → Inv RC w5 → (0 ≤ u1.toInt ∧ u1.toInt ≤ 5) → (0 ≤ u2.toInt ∧ u2.toInt ≤ 2147483647) → 2147483647 - u2.toInt < f4 → V x 0 0 w5 4 [(0, .ref (gz (xG x) + 47)), (1, .int a1), (2, .int u1), (3, .int u2)] [] := by
    intro f4
    induction f4 with
    | zero => intro u1 u2 w5 h6 o7 z8 z9 z10; exfalso; omega
    | succ f4 ih11 =>
      intro u1 u2 w5 h6 o7 z8 z9 z10
      refine r_iload_n 3 C dX7_latest_4 rfl ?_
      refine r_aload_n 0 C dX7_latest_5 rfl ?_
      refine gfX7_21 (v := (wI w 47 0)) C (kS sC h6 kc_47) (h6.I (by decide) (by decide) rfl) dX7_latest_6 ?_
      have b12 := Inv.get o0 rt_47_0 (j := 0) (by decide) (by decide)
      have k14 := i_rng u2
      refine r_icmp_ge 43 C dX7_latest_9 (by decide) (fun c13 => ?_) (fun c13 => ?_)
      · have c13' := i_le c13
        refine r_iload_n 2 C dX7_latest_43 rfl ?_
        exact hret _ _ _ _ dX7_latest_44 rfl ⟨h6, o7, by omega⟩
      · have c13' := i_nle c13
        refine r_aload_n 0 C dX7_latest_12 rfl ?_
        refine gfX7_15 49 C (kS sC h6 kc_47) (xS sC h6 xc_47_2) dX7_latest_13 ?_
        refine r_iload_n 3 C dX7_latest_16 rfl ?_
        refine r_iald C (kS sC h6 kc_49) (vin (by omega) (by omega)) dX7_latest_17 ?_
        rw [show wI w5 49 (u2).toNatClampNeg = (wI w 49 (u2).toNatClampNeg) from (h6.A (by decide) (by decide) rfl)]
        refine r_iload_n 1 C dX7_latest_18 rfl ?_
        have k17 := i_rng (wI w 49 (u2).toNatClampNeg)
        refine r_icmp_gt 35 C dX7_latest_19 (by decide) (fun c16 => ?_) (fun c16 => ?_)
        · have c16' := i_lt c16
          refine r_iload_n 2 C dX7_latest_35 rfl ?_
          refine r_istore_n [(2, .int u1), (0, .ref (gz (xG x) + 47)), (1, .int a1), (3, .int u2)] C dX7_latest_36 (by decide) rfl ?_
          obtain ⟨i18, e19⟩ : ∃ z : Int32, u2 + Int32.ofInt 1 = z := ⟨_, rfl⟩
          have i18' := iinc_ok e19 (by decide) (by omega) (by omega)
          refine r_iinc [(3, .int i18), (2, .int u1), (0, .ref (gz (xG x) + 47)), (1, .int a1)] 3 C dX7_latest_37 rfl e19 (by decide) rfl ?_
          refine r_goto 4 C dX7_latest_40 (by decide) ?_
          refine r_lv [2, 3, 1, 0] rfl ?_
          exact ih11 u1 i18 w5 h6 o7 (by omega) (by omega) (by omega)
        · have c16' := i_nlt c16
          refine r_iload_n 2 C dX7_latest_22 rfl ?_
          refine r_aload_n 0 C dX7_latest_23 rfl ?_
          refine gfX7_15 49 C (kS sC h6 kc_47) (xS sC h6 xc_47_2) dX7_latest_24 ?_
          refine r_iload_n 3 C dX7_latest_27 rfl ?_
          refine r_iald C (kS sC h6 kc_49) (vin (by omega) (by omega)) dX7_latest_28 ?_
          rw [show wI w5 49 (u2).toNatClampNeg = (wI w 49 (u2).toNatClampNeg) from (h6.A (by decide) (by decide) rfl)]
          refine r_mmax C mw4_213 mw3_153 mw1_12 mw3_154 (by decide) (Nat.le_of_ble_eq_true rfl) (by decide) (by decide) dX7_latest_29 (fun v21 e22 => ?_)
          have v21' := imax_ok e22
          refine r_goto 36 C dX7_latest_32 (by decide) ?_
          refine r_istore_n [(2, .int v21), (0, .ref (gz (xG x) + 47)), (1, .int a1), (3, .int u2)] C dX7_latest_36 (by decide) rfl ?_
          obtain ⟨i23, e24⟩ : ∃ z : Int32, u2 + Int32.ofInt 1 = z := ⟨_, rfl⟩
          have i23' := iinc_ok e24 (by decide) (by omega) (by omega)
          refine r_iinc [(3, .int i23), (2, .int v21), (0, .ref (gz (xG x) + 47)), (1, .int a1)] 3 C dX7_latest_37 rfl e24 (by decide) rfl ?_
          refine r_goto 4 C dX7_latest_40 (by decide) ?_
          refine r_lv [2, 3, 1, 0] rfl ?_
          exact ih11 v21 i23 w5 h6 o7 (by omega) (by omega) (by omega)
  refine r_iconst (v := 0) C dX7_latest_0 (by decide) ?_
  refine r_istore_n [(2, .int 0), (0, .ref (gz (xG x) + 47)), (1, .int a1)] C dX7_latest_1 (by decide) rfl ?_
  refine r_iconst (v := 0) C dX7_latest_2 (by decide) ?_
  refine r_istore_n [(3, .int 0), (2, .int 0), (0, .ref (gz (xG x) + 47)), (1, .int a1)] C dX7_latest_3 (by decide) rfl ?_
  refine r_lv [2, 3, 1, 0] rfl ?_
  exact LP3 4294967296 0 0 w h0 o0 (by omega) (by omega) (by omega)
set_option maxHeartbeats 4000000 in
set_option maxRecDepth 100000 in
theorem ctX7_fits_47_88 (l : Launch) (G : Gt) (w : Wv) (sC : Str KC XC w) (o0 : Inv RC w) (a2 : Int32) : CtI l G yX7_fits cX7_fits 5 .boolean ({ frames := 1, cells := 0, slots := 0, locals := 22 } : Room) [.ref (gz G + 47), .ref (gz G + 88), .int a2] w (fun r w' => Ch [] [] w w' ∧ Inv RC w' ∧ ((0 ≤ r.toInt ∧ r.toInt ≤ 1))) := by
  refine enterI (by decide) (Nat.le_of_ble_eq_true rfl) ?_
  intro x el eG C hret
  subst el; subst eG
  show V x 0 0 w 0 [(0, .ref (gz (xG x) + 47)), (1, .ref (gz (xG x) + 88)), (2, .int a2)] []
  have h0 : Ch [] [] w w := Ch.rf
  have q0 : (0 : Int32).toInt = 0 := by decide
  have q1 : (1 : Int32).toInt = 1 := by decide
  have LP3 : ∀ (f4 : Nat) (u1 : Int32) (u2 : Int32) (w5 : Wv), Ch [] [] w w5 → Inv RC w5 → (0 ≤ u1.toInt ∧ u1.toInt ≤ 1) → (0 ≤ u2.toInt ∧ u2.toInt ≤ 2147483647) → 2147483647 - u2.toInt < f4 → V x 0 0 w5 5 [(0, .ref (gz (xG x) + 47)), (1, .ref (gz (xG x) + 88)), (2, .int a2), (3, .int u1), (4, .int u2)] [] := by
    intro f4
    induction f4 with
    | zero => intro u1 u2 w5 h6 o7 z8 z9 z10; exfalso; omega
    | succ f4 ih11 =>
      intro u1 u2 w5 h6 o7 z8 z9 z10
      refine r_iload 4 C dX7_fits_5 rfl ?_
      refine r_aload_n 0 C dX7_fits_7 rfl ?_
      refine gfX7_21 (v := (wI w 47 0)) C (kS sC h6 kc_47) (h6.I (by decide) (by decide) rfl) dX7_fits_8 ?_
      have b12 := Inv.get o0 rt_47_0 (j := 0) (by decide) (by decide)
      have k14 := i_rng u2
      refine r_icmp_ge 62 C dX7_fits_11 (by decide) (fun c13 => ?_) (fun c13 => ?_)
      · have c13' := i_le c13
        refine r_iload_n 3 C dX7_fits_62 rfl ?_
        exact hret _ _ _ _ dX7_fits_63 (nar_z (z_of (by omega))) ⟨h6, o7, by omega⟩
      · have c13' := i_nle c13
        refine r_iload_n 3 C dX7_fits_14 rfl ?_
        refine r_if_eq 54 C dX7_fits_15 (by decide) (fun c15 => ?_) (fun c15 => ?_)
        · have c15' := i_eq c15
          refine r_iconst (v := 0) C dX7_fits_54 (by decide) ?_
          refine r_istore_n [(3, .int 0), (0, .ref (gz (xG x) + 47)), (1, .ref (gz (xG x) + 88)), (2, .int a2), (4, .int u2)] C dX7_fits_55 (by decide) rfl ?_
          obtain ⟨i16, e17⟩ : ∃ z : Int32, u2 + Int32.ofInt 1 = z := ⟨_, rfl⟩
          have i16' := iinc_ok e17 (by decide) (by omega) (by omega)
          refine r_iinc [(4, .int i16), (3, .int 0), (0, .ref (gz (xG x) + 47)), (1, .ref (gz (xG x) + 88)), (2, .int a2)] 4 C dX7_fits_56 rfl e17 (by decide) rfl ?_
          refine r_goto 5 C dX7_fits_59 (by decide) ?_
          refine r_lv [2, 3, 4, 1, 0] rfl ?_
          exact ih11 0 i16 w5 h6 o7 (by omega) (by omega) (by omega)
        · have c15' := i_ne c15
          refine r_aload_n 0 C dX7_fits_18 rfl ?_
          refine gfX7_15 49 C (kS sC h6 kc_47) (xS sC h6 xc_47_2) dX7_fits_19 ?_
          refine r_iload 4 C dX7_fits_22 rfl ?_
          refine r_iald C (kS sC h6 kc_49) (vin (by omega) (by omega)) dX7_fits_24 ?_
          generalize (wI w5 49 (u2).toNatClampNeg) = v18
          refine r_iload_n 2 C dX7_fits_25 rfl ?_
          refine r_icmp_ne 50 C dX7_fits_26 (by decide) (fun c19 => ?_) (fun c19 => ?_)
          · have c19' := i_ne c19
            refine r_iconst (v := 1) C dX7_fits_50 (by decide) ?_
            refine r_goto 55 C dX7_fits_51 (by decide) ?_
            refine r_istore_n [(3, .int 1), (0, .ref (gz (xG x) + 47)), (1, .ref (gz (xG x) + 88)), (2, .int a2), (4, .int u2)] C dX7_fits_55 (by decide) rfl ?_
            obtain ⟨i20, e21⟩ : ∃ z : Int32, u2 + Int32.ofInt 1 = z := ⟨_, rfl⟩
            have i20' := iinc_ok e21 (by decide) (by omega) (by omega)
            refine r_iinc [(4, .int i20), (3, .int 1), (0, .ref (gz (xG x) + 47)), (1, .ref (gz (xG x) + 88)), (2, .int a2)] 4 C dX7_fits_56 rfl e21 (by decide) rfl ?_
            refine r_goto 5 C dX7_fits_59 (by decide) ?_
            refine r_lv [2, 3, 4, 1, 0] rfl ?_
            exact ih11 1 i20 w5 h6 o7 (by omega) (by omega) (by omega)
          · have c19' := i_eq c19
            refine r_aload_n 1 C dX7_fits_29 rfl ?_
            refine r_aload_n 0 C dX7_fits_30 rfl ?_
            refine gfX7_9 48 C (kS sC h6 kc_47) (xS sC h6 xc_47_1) dX7_fits_31 ?_
            refine r_iload 4 C dX7_fits_34 rfl ?_
            refine r_iald C (kS sC h6 kc_48) (vin (by omega) (by omega)) dX7_fits_36 ?_
            generalize (wI w5 48 (u2).toNatClampNeg) = v22
            refine r_aload_n 0 C dX7_fits_37 rfl ?_
            refine gfX7_18 50 C (kS sC h6 kc_47) (xS sC h6 xc_47_3) dX7_fits_38 ?_
            refine r_iload 4 C dX7_fits_41 rfl ?_
            refine r_iald C (kS sC h6 kc_50) (vin (by omega) (by omega)) dX7_fits_43 ?_
            generalize (wI w5 50 (u2).toNatClampNeg) = v23
            refine callVI C cwX7_25_V (ctX6_isAt_88 _ _ w5 (sS sC h6) o7 v22 v23 ) (by decide) (kS sC h6 kc_88) rfl rfl rfl (Nat.le_of_ble_eq_true rfl) (by decide) dX7_fits_44 (fun r26 w25 y24 => ?_)
            show V x 0 0 w25 47 [(0, .ref (gz (xG x) + 47)), (1, .ref (gz (xG x) + 88)), (2, .int a2), (3, .int u1), (4, .int u2)] [.int r26]
            obtain ⟨h27, o28, g29⟩ := y24
            have h30 := Ch.tr h6 h27 (by decide) (by decide)
            refine r_if_eq 54 C dX7_fits_47 (by decide) (fun c31 => ?_) (fun c31 => ?_)
            · have c31' := i_eq c31
              refine r_iconst (v := 0) C dX7_fits_54 (by decide) ?_
              refine r_istore_n [(3, .int 0), (0, .ref (gz (xG x) + 47)), (1, .ref (gz (xG x) + 88)), (2, .int a2), (4, .int u2)] C dX7_fits_55 (by decide) rfl ?_
              obtain ⟨i32, e33⟩ : ∃ z : Int32, u2 + Int32.ofInt 1 = z := ⟨_, rfl⟩
              have i32' := iinc_ok e33 (by decide) (by omega) (by omega)
              refine r_iinc [(4, .int i32), (3, .int 0), (0, .ref (gz (xG x) + 47)), (1, .ref (gz (xG x) + 88)), (2, .int a2)] 4 C dX7_fits_56 rfl e33 (by decide) rfl ?_
              refine r_goto 5 C dX7_fits_59 (by decide) ?_
              refine r_lv [2, 3, 4, 1, 0] rfl ?_
              exact ih11 0 i32 w25 h30 o28 (by omega) (by omega) (by omega)
            · have c31' := i_ne c31
              refine r_iconst (v := 1) C dX7_fits_50 (by decide) ?_
              refine r_goto 55 C dX7_fits_51 (by decide) ?_
              refine r_istore_n [(3, .int 1), (0, .ref (gz (xG x) + 47)), (1, .ref (gz (xG x) + 88)), (2, .int a2), (4, .int u2)] C dX7_fits_55 (by decide) rfl ?_
              obtain ⟨i34, e35⟩ : ∃ z : Int32, u2 + Int32.ofInt 1 = z := ⟨_, rfl⟩
              have i34' := iinc_ok e35 (by decide) (by omega) (by omega)
              refine r_iinc [(4, .int i34), (3, .int 1), (0, .ref (gz (xG x) + 47)), (1, .ref (gz (xG x) + 88)), (2, .int a2)] 4 C dX7_fits_56 rfl e35 (by decide) rfl ?_
              refine r_goto 5 C dX7_fits_59 (by decide) ?_
              refine r_lv [2, 3, 4, 1, 0] rfl ?_
              exact ih11 1 i34 w25 h30 o28 (by omega) (by omega) (by omega)
  refine r_iconst (v := 1) C dX7_fits_0 (by decide) ?_
  refine r_istore_n [(3, .int 1), (0, .ref (gz (xG x) + 47)), (1, .ref (gz (xG x) + 88)), (2, .int a2)] C dX7_fits_1 (by decide) rfl ?_
  refine r_iconst (v := 0) C dX7_fits_2 (by decide) ?_
  refine r_istore [(4, .int 0), (3, .int 1), (0, .ref (gz (xG x) + 47)), (1, .ref (gz (xG x) + 88)), (2, .int a2)] C dX7_fits_3 (by decide) rfl ?_
  refine r_lv [2, 3, 4, 1, 0] rfl ?_
  exact LP3 4294967296 1 0 w h0 o0 (by omega) (by omega) (by omega)
set_option maxHeartbeats 4000000 in
set_option maxRecDepth 100000 in
theorem ctX7_fits_47_91 (l : Launch) (G : Gt) (w : Wv) (sC : Str KC XC w) (o0 : Inv RC w) (a2 : Int32) : CtI l G yX7_fits cX7_fits 5 .boolean ({ frames := 1, cells := 0, slots := 0, locals := 22 } : Room) [.ref (gz G + 47), .ref (gz G + 91), .int a2] w (fun r w' => Ch [] [] w w' ∧ Inv RC w' ∧ ((0 ≤ r.toInt ∧ r.toInt ≤ 1))) := by
  refine enterI (by decide) (Nat.le_of_ble_eq_true rfl) ?_
  intro x el eG C hret
  subst el; subst eG
  show V x 0 0 w 0 [(0, .ref (gz (xG x) + 47)), (1, .ref (gz (xG x) + 91)), (2, .int a2)] []
  have h0 : Ch [] [] w w := Ch.rf
  have q0 : (0 : Int32).toInt = 0 := by decide
  have q1 : (1 : Int32).toInt = 1 := by decide
  have LP3 : ∀ (f4 : Nat) (u1 : Int32) (u2 : Int32) (w5 : Wv), Ch [] [] w w5 → Inv RC w5 → (0 ≤ u1.toInt ∧ u1.toInt ≤ 1) → (0 ≤ u2.toInt ∧ u2.toInt ≤ 2147483647) → 2147483647 - u2.toInt < f4 → V x 0 0 w5 5 [(0, .ref (gz (xG x) + 47)), (1, .ref (gz (xG x) + 91)), (2, .int a2), (3, .int u1), (4, .int u2)] [] := by
    intro f4
    induction f4 with
    | zero => intro u1 u2 w5 h6 o7 z8 z9 z10; exfalso; omega
    | succ f4 ih11 =>
      intro u1 u2 w5 h6 o7 z8 z9 z10
      refine r_iload 4 C dX7_fits_5 rfl ?_
      refine r_aload_n 0 C dX7_fits_7 rfl ?_
      refine gfX7_21 (v := (wI w 47 0)) C (kS sC h6 kc_47) (h6.I (by decide) (by decide) rfl) dX7_fits_8 ?_
      have b12 := Inv.get o0 rt_47_0 (j := 0) (by decide) (by decide)
      have k14 := i_rng u2
      refine r_icmp_ge 62 C dX7_fits_11 (by decide) (fun c13 => ?_) (fun c13 => ?_)
      · have c13' := i_le c13
        refine r_iload_n 3 C dX7_fits_62 rfl ?_
        exact hret _ _ _ _ dX7_fits_63 (nar_z (z_of (by omega))) ⟨h6, o7, by omega⟩
      · have c13' := i_nle c13
        refine r_iload_n 3 C dX7_fits_14 rfl ?_
        refine r_if_eq 54 C dX7_fits_15 (by decide) (fun c15 => ?_) (fun c15 => ?_)
        · have c15' := i_eq c15
          refine r_iconst (v := 0) C dX7_fits_54 (by decide) ?_
          refine r_istore_n [(3, .int 0), (0, .ref (gz (xG x) + 47)), (1, .ref (gz (xG x) + 91)), (2, .int a2), (4, .int u2)] C dX7_fits_55 (by decide) rfl ?_
          obtain ⟨i16, e17⟩ : ∃ z : Int32, u2 + Int32.ofInt 1 = z := ⟨_, rfl⟩
          have i16' := iinc_ok e17 (by decide) (by omega) (by omega)
          refine r_iinc [(4, .int i16), (3, .int 0), (0, .ref (gz (xG x) + 47)), (1, .ref (gz (xG x) + 91)), (2, .int a2)] 4 C dX7_fits_56 rfl e17 (by decide) rfl ?_
          refine r_goto 5 C dX7_fits_59 (by decide) ?_
          refine r_lv [2, 3, 4, 1, 0] rfl ?_
          exact ih11 0 i16 w5 h6 o7 (by omega) (by omega) (by omega)
        · have c15' := i_ne c15
          refine r_aload_n 0 C dX7_fits_18 rfl ?_
          refine gfX7_15 49 C (kS sC h6 kc_47) (xS sC h6 xc_47_2) dX7_fits_19 ?_
          refine r_iload 4 C dX7_fits_22 rfl ?_
          refine r_iald C (kS sC h6 kc_49) (vin (by omega) (by omega)) dX7_fits_24 ?_
          generalize (wI w5 49 (u2).toNatClampNeg) = v18
          refine r_iload_n 2 C dX7_fits_25 rfl ?_
          refine r_icmp_ne 50 C dX7_fits_26 (by decide) (fun c19 => ?_) (fun c19 => ?_)
          · have c19' := i_ne c19
            refine r_iconst (v := 1) C dX7_fits_50 (by decide) ?_
            refine r_goto 55 C dX7_fits_51 (by decide) ?_
            refine r_istore_n [(3, .int 1), (0, .ref (gz (xG x) + 47)), (1, .ref (gz (xG x) + 91)), (2, .int a2), (4, .int u2)] C dX7_fits_55 (by decide) rfl ?_
            obtain ⟨i20, e21⟩ : ∃ z : Int32, u2 + Int32.ofInt 1 = z := ⟨_, rfl⟩
            have i20' := iinc_ok e21 (by decide) (by omega) (by omega)
            refine r_iinc [(4, .int i20), (3, .int 1), (0, .ref (gz (xG x) + 47)), (1, .ref (gz (xG x) + 91)), (2, .int a2)] 4 C dX7_fits_56 rfl e21 (by decide) rfl ?_
            refine r_goto 5 C dX7_fits_59 (by decide) ?_
            refine r_lv [2, 3, 4, 1, 0] rfl ?_
            exact ih11 1 i20 w5 h6 o7 (by omega) (by omega) (by omega)
          · have c19' := i_eq c19
            refine r_aload_n 1 C dX7_fits_29 rfl ?_
            refine r_aload_n 0 C dX7_fits_30 rfl ?_
            refine gfX7_9 48 C (kS sC h6 kc_47) (xS sC h6 xc_47_1) dX7_fits_31 ?_
            refine r_iload 4 C dX7_fits_34 rfl ?_
            refine r_iald C (kS sC h6 kc_48) (vin (by omega) (by omega)) dX7_fits_36 ?_
            generalize (wI w5 48 (u2).toNatClampNeg) = v22
            refine r_aload_n 0 C dX7_fits_37 rfl ?_
            refine gfX7_18 50 C (kS sC h6 kc_47) (xS sC h6 xc_47_3) dX7_fits_38 ?_
            refine r_iload 4 C dX7_fits_41 rfl ?_
            refine r_iald C (kS sC h6 kc_50) (vin (by omega) (by omega)) dX7_fits_43 ?_
            generalize (wI w5 50 (u2).toNatClampNeg) = v23
            refine callVI C cwX7_25_V (ctX6_isAt_91 _ _ w5 (sS sC h6) o7 v22 v23 ) (by decide) (kS sC h6 kc_91) rfl rfl rfl (Nat.le_of_ble_eq_true rfl) (by decide) dX7_fits_44 (fun r26 w25 y24 => ?_)
            show V x 0 0 w25 47 [(0, .ref (gz (xG x) + 47)), (1, .ref (gz (xG x) + 91)), (2, .int a2), (3, .int u1), (4, .int u2)] [.int r26]
            obtain ⟨h27, o28, g29⟩ := y24
            have h30 := Ch.tr h6 h27 (by decide) (by decide)
            refine r_if_eq 54 C dX7_fits_47 (by decide) (fun c31 => ?_) (fun c31 => ?_)
            · have c31' := i_eq c31
              refine r_iconst (v := 0) C dX7_fits_54 (by decide) ?_
              refine r_istore_n [(3, .int 0), (0, .ref (gz (xG x) + 47)), (1, .ref (gz (xG x) + 91)), (2, .int a2), (4, .int u2)] C dX7_fits_55 (by decide) rfl ?_
              obtain ⟨i32, e33⟩ : ∃ z : Int32, u2 + Int32.ofInt 1 = z := ⟨_, rfl⟩
              have i32' := iinc_ok e33 (by decide) (by omega) (by omega)
              refine r_iinc [(4, .int i32), (3, .int 0), (0, .ref (gz (xG x) + 47)), (1, .ref (gz (xG x) + 91)), (2, .int a2)] 4 C dX7_fits_56 rfl e33 (by decide) rfl ?_
              refine r_goto 5 C dX7_fits_59 (by decide) ?_
              refine r_lv [2, 3, 4, 1, 0] rfl ?_
              exact ih11 0 i32 w25 h30 o28 (by omega) (by omega) (by omega)
            · have c31' := i_ne c31
              refine r_iconst (v := 1) C dX7_fits_50 (by decide) ?_
              refine r_goto 55 C dX7_fits_51 (by decide) ?_
              refine r_istore_n [(3, .int 1), (0, .ref (gz (xG x) + 47)), (1, .ref (gz (xG x) + 91)), (2, .int a2), (4, .int u2)] C dX7_fits_55 (by decide) rfl ?_
              obtain ⟨i34, e35⟩ : ∃ z : Int32, u2 + Int32.ofInt 1 = z := ⟨_, rfl⟩
              have i34' := iinc_ok e35 (by decide) (by omega) (by omega)
              refine r_iinc [(4, .int i34), (3, .int 1), (0, .ref (gz (xG x) + 47)), (1, .ref (gz (xG x) + 91)), (2, .int a2)] 4 C dX7_fits_56 rfl e35 (by decide) rfl ?_
              refine r_goto 5 C dX7_fits_59 (by decide) ?_
              refine r_lv [2, 3, 4, 1, 0] rfl ?_
              exact ih11 1 i34 w25 h30 o28 (by omega) (by omega) (by omega)
  refine r_iconst (v := 1) C dX7_fits_0 (by decide) ?_
  refine r_istore_n [(3, .int 1), (0, .ref (gz (xG x) + 47)), (1, .ref (gz (xG x) + 91)), (2, .int a2)] C dX7_fits_1 (by decide) rfl ?_
  refine r_iconst (v := 0) C dX7_fits_2 (by decide) ?_
  refine r_istore [(4, .int 0), (3, .int 1), (0, .ref (gz (xG x) + 47)), (1, .ref (gz (xG x) + 91)), (2, .int a2)] C dX7_fits_3 (by decide) rfl ?_
  refine r_lv [2, 3, 4, 1, 0] rfl ?_
  exact LP3 4294967296 1 0 w h0 o0 (by omega) (by omega) (by omega)
set_option maxHeartbeats 4000000 in
set_option maxRecDepth 100000 in
theorem ctX7_fits_47_94 (l : Launch) (G : Gt) (w : Wv) (sC : Str KC XC w) (o0 : Inv RC w) (a2 : Int32) : CtI l G yX7_fits cX7_fits 5 .boolean ({ frames := 1, cells := 0, slots := 0, locals := 22 } : Room) [.ref (gz G + 47), .ref (gz G + 94), .int a2] w (fun r w' => Ch [] [] w w' ∧ Inv RC w' ∧ ((0 ≤ r.toInt ∧ r.toInt ≤ 1))) := by
  refine enterI (by decide) (Nat.le_of_ble_eq_true rfl) ?_
  intro x el eG C hret
  subst el; subst eG
  show V x 0 0 w 0 [(0, .ref (gz (xG x) + 47)), (1, .ref (gz (xG x) + 94)), (2, .int a2)] []
  have h0 : Ch [] [] w w := Ch.rf
  have q0 : (0 : Int32).toInt = 0 := by decide
  have q1 : (1 : Int32).toInt = 1 := by decide
  have LP3 : ∀ (f4 : Nat) (u1 : Int32) (u2 : Int32) (w5 : Wv), Ch [] [] w w5 → Inv RC w5 → (0 ≤ u1.toInt ∧ u1.toInt ≤ 1) → (0 ≤ u2.toInt ∧ u2.toInt ≤ 2147483647) → 2147483647 - u2.toInt < f4 → V x 0 0 w5 5 [(0, .ref (gz (xG x) + 47)), (1, .ref (gz (xG x) + 94)), (2, .int a2), (3, .int u1), (4, .int u2)] [] := by
    intro f4
    induction f4 with
    | zero => intro u1 u2 w5 h6 o7 z8 z9 z10; exfalso; omega
    | succ f4 ih11 =>
      intro u1 u2 w5 h6 o7 z8 z9 z10
      refine r_iload 4 C dX7_fits_5 rfl ?_
      refine r_aload_n 0 C dX7_fits_7 rfl ?_
      refine gfX7_21 (v := (wI w 47 0)) C (kS sC h6 kc_47) (h6.I (by decide) (by decide) rfl) dX7_fits_8 ?_
      have b12 := Inv.get o0 rt_47_0 (j := 0) (by decide) (by decide)
      have k14 := i_rng u2
      refine r_icmp_ge 62 C dX7_fits_11 (by decide) (fun c13 => ?_) (fun c13 => ?_)
      · have c13' := i_le c13
        refine r_iload_n 3 C dX7_fits_62 rfl ?_
        exact hret _ _ _ _ dX7_fits_63 (nar_z (z_of (by omega))) ⟨h6, o7, by omega⟩
      · have c13' := i_nle c13
        refine r_iload_n 3 C dX7_fits_14 rfl ?_
        refine r_if_eq 54 C dX7_fits_15 (by decide) (fun c15 => ?_) (fun c15 => ?_)
        · have c15' := i_eq c15
          refine r_iconst (v := 0) C dX7_fits_54 (by decide) ?_
          refine r_istore_n [(3, .int 0), (0, .ref (gz (xG x) + 47)), (1, .ref (gz (xG x) + 94)), (2, .int a2), (4, .int u2)] C dX7_fits_55 (by decide) rfl ?_
          obtain ⟨i16, e17⟩ : ∃ z : Int32, u2 + Int32.ofInt 1 = z := ⟨_, rfl⟩
          have i16' := iinc_ok e17 (by decide) (by omega) (by omega)
          refine r_iinc [(4, .int i16), (3, .int 0), (0, .ref (gz (xG x) + 47)), (1, .ref (gz (xG x) + 94)), (2, .int a2)] 4 C dX7_fits_56 rfl e17 (by decide) rfl ?_
          refine r_goto 5 C dX7_fits_59 (by decide) ?_
          refine r_lv [2, 3, 4, 1, 0] rfl ?_
          exact ih11 0 i16 w5 h6 o7 (by omega) (by omega) (by omega)
        · have c15' := i_ne c15
          refine r_aload_n 0 C dX7_fits_18 rfl ?_
          refine gfX7_15 49 C (kS sC h6 kc_47) (xS sC h6 xc_47_2) dX7_fits_19 ?_
          refine r_iload 4 C dX7_fits_22 rfl ?_
          refine r_iald C (kS sC h6 kc_49) (vin (by omega) (by omega)) dX7_fits_24 ?_
          generalize (wI w5 49 (u2).toNatClampNeg) = v18
          refine r_iload_n 2 C dX7_fits_25 rfl ?_
          refine r_icmp_ne 50 C dX7_fits_26 (by decide) (fun c19 => ?_) (fun c19 => ?_)
          · have c19' := i_ne c19
            refine r_iconst (v := 1) C dX7_fits_50 (by decide) ?_
            refine r_goto 55 C dX7_fits_51 (by decide) ?_
            refine r_istore_n [(3, .int 1), (0, .ref (gz (xG x) + 47)), (1, .ref (gz (xG x) + 94)), (2, .int a2), (4, .int u2)] C dX7_fits_55 (by decide) rfl ?_
            obtain ⟨i20, e21⟩ : ∃ z : Int32, u2 + Int32.ofInt 1 = z := ⟨_, rfl⟩
            have i20' := iinc_ok e21 (by decide) (by omega) (by omega)
            refine r_iinc [(4, .int i20), (3, .int 1), (0, .ref (gz (xG x) + 47)), (1, .ref (gz (xG x) + 94)), (2, .int a2)] 4 C dX7_fits_56 rfl e21 (by decide) rfl ?_
            refine r_goto 5 C dX7_fits_59 (by decide) ?_
            refine r_lv [2, 3, 4, 1, 0] rfl ?_
            exact ih11 1 i20 w5 h6 o7 (by omega) (by omega) (by omega)
          · have c19' := i_eq c19
            refine r_aload_n 1 C dX7_fits_29 rfl ?_
            refine r_aload_n 0 C dX7_fits_30 rfl ?_
            refine gfX7_9 48 C (kS sC h6 kc_47) (xS sC h6 xc_47_1) dX7_fits_31 ?_
            refine r_iload 4 C dX7_fits_34 rfl ?_
            refine r_iald C (kS sC h6 kc_48) (vin (by omega) (by omega)) dX7_fits_36 ?_
            generalize (wI w5 48 (u2).toNatClampNeg) = v22
            refine r_aload_n 0 C dX7_fits_37 rfl ?_
            refine gfX7_18 50 C (kS sC h6 kc_47) (xS sC h6 xc_47_3) dX7_fits_38 ?_
            refine r_iload 4 C dX7_fits_41 rfl ?_
            refine r_iald C (kS sC h6 kc_50) (vin (by omega) (by omega)) dX7_fits_43 ?_
            generalize (wI w5 50 (u2).toNatClampNeg) = v23
            refine callVI C cwX7_25_V (ctX6_isAt_94 _ _ w5 (sS sC h6) o7 v22 v23 ) (by decide) (kS sC h6 kc_94) rfl rfl rfl (Nat.le_of_ble_eq_true rfl) (by decide) dX7_fits_44 (fun r26 w25 y24 => ?_)
            show V x 0 0 w25 47 [(0, .ref (gz (xG x) + 47)), (1, .ref (gz (xG x) + 94)), (2, .int a2), (3, .int u1), (4, .int u2)] [.int r26]
            obtain ⟨h27, o28, g29⟩ := y24
            have h30 := Ch.tr h6 h27 (by decide) (by decide)
            refine r_if_eq 54 C dX7_fits_47 (by decide) (fun c31 => ?_) (fun c31 => ?_)
            · have c31' := i_eq c31
              refine r_iconst (v := 0) C dX7_fits_54 (by decide) ?_
              refine r_istore_n [(3, .int 0), (0, .ref (gz (xG x) + 47)), (1, .ref (gz (xG x) + 94)), (2, .int a2), (4, .int u2)] C dX7_fits_55 (by decide) rfl ?_
              obtain ⟨i32, e33⟩ : ∃ z : Int32, u2 + Int32.ofInt 1 = z := ⟨_, rfl⟩
              have i32' := iinc_ok e33 (by decide) (by omega) (by omega)
              refine r_iinc [(4, .int i32), (3, .int 0), (0, .ref (gz (xG x) + 47)), (1, .ref (gz (xG x) + 94)), (2, .int a2)] 4 C dX7_fits_56 rfl e33 (by decide) rfl ?_
              refine r_goto 5 C dX7_fits_59 (by decide) ?_
              refine r_lv [2, 3, 4, 1, 0] rfl ?_
              exact ih11 0 i32 w25 h30 o28 (by omega) (by omega) (by omega)
            · have c31' := i_ne c31
              refine r_iconst (v := 1) C dX7_fits_50 (by decide) ?_
              refine r_goto 55 C dX7_fits_51 (by decide) ?_
              refine r_istore_n [(3, .int 1), (0, .ref (gz (xG x) + 47)), (1, .ref (gz (xG x) + 94)), (2, .int a2), (4, .int u2)] C dX7_fits_55 (by decide) rfl ?_
              obtain ⟨i34, e35⟩ : ∃ z : Int32, u2 + Int32.ofInt 1 = z := ⟨_, rfl⟩
              have i34' := iinc_ok e35 (by decide) (by omega) (by omega)
              refine r_iinc [(4, .int i34), (3, .int 1), (0, .ref (gz (xG x) + 47)), (1, .ref (gz (xG x) + 94)), (2, .int a2)] 4 C dX7_fits_56 rfl e35 (by decide) rfl ?_
              refine r_goto 5 C dX7_fits_59 (by decide) ?_
              refine r_lv [2, 3, 4, 1, 0] rfl ?_
              exact ih11 1 i34 w25 h30 o28 (by omega) (by omega) (by omega)
  refine r_iconst (v := 1) C dX7_fits_0 (by decide) ?_
  refine r_istore_n [(3, .int 1), (0, .ref (gz (xG x) + 47)), (1, .ref (gz (xG x) + 94)), (2, .int a2)] C dX7_fits_1 (by decide) rfl ?_
  refine r_iconst (v := 0) C dX7_fits_2 (by decide) ?_
  refine r_istore [(4, .int 0), (3, .int 1), (0, .ref (gz (xG x) + 47)), (1, .ref (gz (xG x) + 94)), (2, .int a2)] C dX7_fits_3 (by decide) rfl ?_
  refine r_lv [2, 3, 4, 1, 0] rfl ?_
  exact LP3 4294967296 1 0 w h0 o0 (by omega) (by omega) (by omega)
set_option maxHeartbeats 4000000 in
set_option maxRecDepth 100000 in
theorem ctX7_fits_47_97 (l : Launch) (G : Gt) (w : Wv) (sC : Str KC XC w) (o0 : Inv RC w) (a2 : Int32) : CtI l G yX7_fits cX7_fits 5 .boolean ({ frames := 1, cells := 0, slots := 0, locals := 22 } : Room) [.ref (gz G + 47), .ref (gz G + 97), .int a2] w (fun r w' => Ch [] [] w w' ∧ Inv RC w' ∧ ((0 ≤ r.toInt ∧ r.toInt ≤ 1))) := by
  refine enterI (by decide) (Nat.le_of_ble_eq_true rfl) ?_
  intro x el eG C hret
  subst el; subst eG
  show V x 0 0 w 0 [(0, .ref (gz (xG x) + 47)), (1, .ref (gz (xG x) + 97)), (2, .int a2)] []
  have h0 : Ch [] [] w w := Ch.rf
  have q0 : (0 : Int32).toInt = 0 := by decide
  have q1 : (1 : Int32).toInt = 1 := by decide
  have LP3 : ∀ (f4 : Nat) (u1 : Int32) (u2 : Int32) (w5 : Wv), Ch [] [] w w5 → Inv RC w5 → (0 ≤ u1.toInt ∧ u1.toInt ≤ 1) → (0 ≤ u2.toInt ∧ u2.toInt ≤ 2147483647) → 2147483647 - u2.toInt < f4 → V x 0 0 w5 5 [(0, .ref (gz (xG x) + 47)), (1, .ref (gz (xG x) + 97)), (2, .int a2), (3, .int u1), (4, .int u2)] [] := by
    intro f4
    induction f4 with
    | zero => intro u1 u2 w5 h6 o7 z8 z9 z10; exfalso; omega
    | succ f4 ih11 =>
      intro u1 u2 w5 h6 o7 z8 z9 z10
      refine r_iload 4 C dX7_fits_5 rfl ?_
      refine r_aload_n 0 C dX7_fits_7 rfl ?_
      refine gfX7_21 (v := (wI w 47 0)) C (kS sC h6 kc_47) (h6.I (by decide) (by decide) rfl) dX7_fits_8 ?_
      have b12 := Inv.get o0 rt_47_0 (j := 0) (by decide) (by decide)
      have k14 := i_rng u2
      refine r_icmp_ge 62 C dX7_fits_11 (by decide) (fun c13 => ?_) (fun c13 => ?_)
      · have c13' := i_le c13
        refine r_iload_n 3 C dX7_fits_62 rfl ?_
        exact hret _ _ _ _ dX7_fits_63 (nar_z (z_of (by omega))) ⟨h6, o7, by omega⟩
      · have c13' := i_nle c13
        refine r_iload_n 3 C dX7_fits_14 rfl ?_
        refine r_if_eq 54 C dX7_fits_15 (by decide) (fun c15 => ?_) (fun c15 => ?_)
        · have c15' := i_eq c15
          refine r_iconst (v := 0) C dX7_fits_54 (by decide) ?_
          refine r_istore_n [(3, .int 0), (0, .ref (gz (xG x) + 47)), (1, .ref (gz (xG x) + 97)), (2, .int a2), (4, .int u2)] C dX7_fits_55 (by decide) rfl ?_
          obtain ⟨i16, e17⟩ : ∃ z : Int32, u2 + Int32.ofInt 1 = z := ⟨_, rfl⟩
          have i16' := iinc_ok e17 (by decide) (by omega) (by omega)
          refine r_iinc [(4, .int i16), (3, .int 0), (0, .ref (gz (xG x) + 47)), (1, .ref (gz (xG x) + 97)), (2, .int a2)] 4 C dX7_fits_56 rfl e17 (by decide) rfl ?_
          refine r_goto 5 C dX7_fits_59 (by decide) ?_
          refine r_lv [2, 3, 4, 1, 0] rfl ?_
          exact ih11 0 i16 w5 h6 o7 (by omega) (by omega) (by omega)
        · have c15' := i_ne c15
          refine r_aload_n 0 C dX7_fits_18 rfl ?_
          refine gfX7_15 49 C (kS sC h6 kc_47) (xS sC h6 xc_47_2) dX7_fits_19 ?_
          refine r_iload 4 C dX7_fits_22 rfl ?_
          refine r_iald C (kS sC h6 kc_49) (vin (by omega) (by omega)) dX7_fits_24 ?_
          generalize (wI w5 49 (u2).toNatClampNeg) = v18
          refine r_iload_n 2 C dX7_fits_25 rfl ?_
          refine r_icmp_ne 50 C dX7_fits_26 (by decide) (fun c19 => ?_) (fun c19 => ?_)
          · have c19' := i_ne c19
            refine r_iconst (v := 1) C dX7_fits_50 (by decide) ?_
            refine r_goto 55 C dX7_fits_51 (by decide) ?_
            refine r_istore_n [(3, .int 1), (0, .ref (gz (xG x) + 47)), (1, .ref (gz (xG x) + 97)), (2, .int a2), (4, .int u2)] C dX7_fits_55 (by decide) rfl ?_
            obtain ⟨i20, e21⟩ : ∃ z : Int32, u2 + Int32.ofInt 1 = z := ⟨_, rfl⟩
            have i20' := iinc_ok e21 (by decide) (by omega) (by omega)
            refine r_iinc [(4, .int i20), (3, .int 1), (0, .ref (gz (xG x) + 47)), (1, .ref (gz (xG x) + 97)), (2, .int a2)] 4 C dX7_fits_56 rfl e21 (by decide) rfl ?_
            refine r_goto 5 C dX7_fits_59 (by decide) ?_
            refine r_lv [2, 3, 4, 1, 0] rfl ?_
            exact ih11 1 i20 w5 h6 o7 (by omega) (by omega) (by omega)
          · have c19' := i_eq c19
            refine r_aload_n 1 C dX7_fits_29 rfl ?_
            refine r_aload_n 0 C dX7_fits_30 rfl ?_
            refine gfX7_9 48 C (kS sC h6 kc_47) (xS sC h6 xc_47_1) dX7_fits_31 ?_
            refine r_iload 4 C dX7_fits_34 rfl ?_
            refine r_iald C (kS sC h6 kc_48) (vin (by omega) (by omega)) dX7_fits_36 ?_
            generalize (wI w5 48 (u2).toNatClampNeg) = v22
            refine r_aload_n 0 C dX7_fits_37 rfl ?_
            refine gfX7_18 50 C (kS sC h6 kc_47) (xS sC h6 xc_47_3) dX7_fits_38 ?_
            refine r_iload 4 C dX7_fits_41 rfl ?_
            refine r_iald C (kS sC h6 kc_50) (vin (by omega) (by omega)) dX7_fits_43 ?_
            generalize (wI w5 50 (u2).toNatClampNeg) = v23
            refine callVI C cwX7_25_V (ctX6_isAt_97 _ _ w5 (sS sC h6) o7 v22 v23 ) (by decide) (kS sC h6 kc_97) rfl rfl rfl (Nat.le_of_ble_eq_true rfl) (by decide) dX7_fits_44 (fun r26 w25 y24 => ?_)
            show V x 0 0 w25 47 [(0, .ref (gz (xG x) + 47)), (1, .ref (gz (xG x) + 97)), (2, .int a2), (3, .int u1), (4, .int u2)] [.int r26]
            obtain ⟨h27, o28, g29⟩ := y24
            have h30 := Ch.tr h6 h27 (by decide) (by decide)
            refine r_if_eq 54 C dX7_fits_47 (by decide) (fun c31 => ?_) (fun c31 => ?_)
            · have c31' := i_eq c31
              refine r_iconst (v := 0) C dX7_fits_54 (by decide) ?_
              refine r_istore_n [(3, .int 0), (0, .ref (gz (xG x) + 47)), (1, .ref (gz (xG x) + 97)), (2, .int a2), (4, .int u2)] C dX7_fits_55 (by decide) rfl ?_
              obtain ⟨i32, e33⟩ : ∃ z : Int32, u2 + Int32.ofInt 1 = z := ⟨_, rfl⟩
              have i32' := iinc_ok e33 (by decide) (by omega) (by omega)
              refine r_iinc [(4, .int i32), (3, .int 0), (0, .ref (gz (xG x) + 47)), (1, .ref (gz (xG x) + 97)), (2, .int a2)] 4 C dX7_fits_56 rfl e33 (by decide) rfl ?_
              refine r_goto 5 C dX7_fits_59 (by decide) ?_
              refine r_lv [2, 3, 4, 1, 0] rfl ?_
              exact ih11 0 i32 w25 h30 o28 (by omega) (by omega) (by omega)
            · have c31' := i_ne c31
              refine r_iconst (v := 1) C dX7_fits_50 (by decide) ?_
              refine r_goto 55 C dX7_fits_51 (by decide) ?_
              refine r_istore_n [(3, .int 1), (0, .ref (gz (xG x) + 47)), (1, .ref (gz (xG x) + 97)), (2, .int a2), (4, .int u2)] C dX7_fits_55 (by decide) rfl ?_
              obtain ⟨i34, e35⟩ : ∃ z : Int32, u2 + Int32.ofInt 1 = z := ⟨_, rfl⟩
              have i34' := iinc_ok e35 (by decide) (by omega) (by omega)
              refine r_iinc [(4, .int i34), (3, .int 1), (0, .ref (gz (xG x) + 47)), (1, .ref (gz (xG x) + 97)), (2, .int a2)] 4 C dX7_fits_56 rfl e35 (by decide) rfl ?_
              refine r_goto 5 C dX7_fits_59 (by decide) ?_
              refine r_lv [2, 3, 4, 1, 0] rfl ?_
              exact ih11 1 i34 w25 h30 o28 (by omega) (by omega) (by omega)
  refine r_iconst (v := 1) C dX7_fits_0 (by decide) ?_
  refine r_istore_n [(3, .int 1), (0, .ref (gz (xG x) + 47)), (1, .ref (gz (xG x) + 97)), (2, .int a2)] C dX7_fits_1 (by decide) rfl ?_
  refine r_iconst (v := 0) C dX7_fits_2 (by decide) ?_
  refine r_istore [(4, .int 0), (3, .int 1), (0, .ref (gz (xG x) + 47)), (1, .ref (gz (xG x) + 97)), (2, .int a2)] C dX7_fits_3 (by decide) rfl ?_
  refine r_lv [2, 3, 4, 1, 0] rfl ?_
  exact LP3 4294967296 1 0 w h0 o0 (by omega) (by omega) (by omega)
set_option maxHeartbeats 4000000 in
set_option maxRecDepth 100000 in
theorem ctX7_fits_47_100 (l : Launch) (G : Gt) (w : Wv) (sC : Str KC XC w) (o0 : Inv RC w) (a2 : Int32) : CtI l G yX7_fits cX7_fits 5 .boolean ({ frames := 1, cells := 0, slots := 0, locals := 22 } : Room) [.ref (gz G + 47), .ref (gz G + 100), .int a2] w (fun r w' => Ch [] [] w w' ∧ Inv RC w' ∧ ((0 ≤ r.toInt ∧ r.toInt ≤ 1))) := by
  refine enterI (by decide) (Nat.le_of_ble_eq_true rfl) ?_
  intro x el eG C hret
  subst el; subst eG
  show V x 0 0 w 0 [(0, .ref (gz (xG x) + 47)), (1, .ref (gz (xG x) + 100)), (2, .int a2)] []
  have h0 : Ch [] [] w w := Ch.rf
  have q0 : (0 : Int32).toInt = 0 := by decide
  have q1 : (1 : Int32).toInt = 1 := by decide
  have LP3 : ∀ (f4 : Nat) (u1 : Int32) (u2 : Int32) (w5 : Wv), Ch [] [] w w5 → Inv RC w5 → (0 ≤ u1.toInt ∧ u1.toInt ≤ 1) → (0 ≤ u2.toInt ∧ u2.toInt ≤ 2147483647) → 2147483647 - u2.toInt < f4 → V x 0 0 w5 5 [(0, .ref (gz (xG x) + 47)), (1, .ref (gz (xG x) + 100)), (2, .int a2), (3, .int u1), (4, .int u2)] [] := by
    intro f4
    induction f4 with
    | zero => intro u1 u2 w5 h6 o7 z8 z9 z10; exfalso; omega
    | succ f4 ih11 =>
      intro u1 u2 w5 h6 o7 z8 z9 z10
      refine r_iload 4 C dX7_fits_5 rfl ?_
      refine r_aload_n 0 C dX7_fits_7 rfl ?_
      refine gfX7_21 (v := (wI w 47 0)) C (kS sC h6 kc_47) (h6.I (by decide) (by decide) rfl) dX7_fits_8 ?_
      have b12 := Inv.get o0 rt_47_0 (j := 0) (by decide) (by decide)
      have k14 := i_rng u2
      refine r_icmp_ge 62 C dX7_fits_11 (by decide) (fun c13 => ?_) (fun c13 => ?_)
      · have c13' := i_le c13
        refine r_iload_n 3 C dX7_fits_62 rfl ?_
        exact hret _ _ _ _ dX7_fits_63 (nar_z (z_of (by omega))) ⟨h6, o7, by omega⟩
      · have c13' := i_nle c13
        refine r_iload_n 3 C dX7_fits_14 rfl ?_
        refine r_if_eq 54 C dX7_fits_15 (by decide) (fun c15 => ?_) (fun c15 => ?_)
        · have c15' := i_eq c15
          refine r_iconst (v := 0) C dX7_fits_54 (by decide) ?_
          refine r_istore_n [(3, .int 0), (0, .ref (gz (xG x) + 47)), (1, .ref (gz (xG x) + 100)), (2, .int a2), (4, .int u2)] C dX7_fits_55 (by decide) rfl ?_
          obtain ⟨i16, e17⟩ : ∃ z : Int32, u2 + Int32.ofInt 1 = z := ⟨_, rfl⟩
          have i16' := iinc_ok e17 (by decide) (by omega) (by omega)
          refine r_iinc [(4, .int i16), (3, .int 0), (0, .ref (gz (xG x) + 47)), (1, .ref (gz (xG x) + 100)), (2, .int a2)] 4 C dX7_fits_56 rfl e17 (by decide) rfl ?_
          refine r_goto 5 C dX7_fits_59 (by decide) ?_
          refine r_lv [2, 3, 4, 1, 0] rfl ?_
          exact ih11 0 i16 w5 h6 o7 (by omega) (by omega) (by omega)
        · have c15' := i_ne c15
          refine r_aload_n 0 C dX7_fits_18 rfl ?_
          refine gfX7_15 49 C (kS sC h6 kc_47) (xS sC h6 xc_47_2) dX7_fits_19 ?_
          refine r_iload 4 C dX7_fits_22 rfl ?_
          refine r_iald C (kS sC h6 kc_49) (vin (by omega) (by omega)) dX7_fits_24 ?_
          generalize (wI w5 49 (u2).toNatClampNeg) = v18
          refine r_iload_n 2 C dX7_fits_25 rfl ?_
          refine r_icmp_ne 50 C dX7_fits_26 (by decide) (fun c19 => ?_) (fun c19 => ?_)
          · have c19' := i_ne c19
            refine r_iconst (v := 1) C dX7_fits_50 (by decide) ?_
            refine r_goto 55 C dX7_fits_51 (by decide) ?_
            refine r_istore_n [(3, .int 1), (0, .ref (gz (xG x) + 47)), (1, .ref (gz (xG x) + 100)), (2, .int a2), (4, .int u2)] C dX7_fits_55 (by decide) rfl ?_
            obtain ⟨i20, e21⟩ : ∃ z : Int32, u2 + Int32.ofInt 1 = z := ⟨_, rfl⟩
            have i20' := iinc_ok e21 (by decide) (by omega) (by omega)
            refine r_iinc [(4, .int i20), (3, .int 1), (0, .ref (gz (xG x) + 47)), (1, .ref (gz (xG x) + 100)), (2, .int a2)] 4 C dX7_fits_56 rfl e21 (by decide) rfl ?_
            refine r_goto 5 C dX7_fits_59 (by decide) ?_
            refine r_lv [2, 3, 4, 1, 0] rfl ?_
            exact ih11 1 i20 w5 h6 o7 (by omega) (by omega) (by omega)
          · have c19' := i_eq c19
            refine r_aload_n 1 C dX7_fits_29 rfl ?_
            refine r_aload_n 0 C dX7_fits_30 rfl ?_
            refine gfX7_9 48 C (kS sC h6 kc_47) (xS sC h6 xc_47_1) dX7_fits_31 ?_
            refine r_iload 4 C dX7_fits_34 rfl ?_
            refine r_iald C (kS sC h6 kc_48) (vin (by omega) (by omega)) dX7_fits_36 ?_
            generalize (wI w5 48 (u2).toNatClampNeg) = v22
            refine r_aload_n 0 C dX7_fits_37 rfl ?_
            refine gfX7_18 50 C (kS sC h6 kc_47) (xS sC h6 xc_47_3) dX7_fits_38 ?_
            refine r_iload 4 C dX7_fits_41 rfl ?_
            refine r_iald C (kS sC h6 kc_50) (vin (by omega) (by omega)) dX7_fits_43 ?_
            generalize (wI w5 50 (u2).toNatClampNeg) = v23
            refine callVI C cwX7_25_V (ctX6_isAt_100 _ _ w5 (sS sC h6) o7 v22 v23 ) (by decide) (kS sC h6 kc_100) rfl rfl rfl (Nat.le_of_ble_eq_true rfl) (by decide) dX7_fits_44 (fun r26 w25 y24 => ?_)
            show V x 0 0 w25 47 [(0, .ref (gz (xG x) + 47)), (1, .ref (gz (xG x) + 100)), (2, .int a2), (3, .int u1), (4, .int u2)] [.int r26]
            obtain ⟨h27, o28, g29⟩ := y24
            have h30 := Ch.tr h6 h27 (by decide) (by decide)
            refine r_if_eq 54 C dX7_fits_47 (by decide) (fun c31 => ?_) (fun c31 => ?_)
            · have c31' := i_eq c31
              refine r_iconst (v := 0) C dX7_fits_54 (by decide) ?_
              refine r_istore_n [(3, .int 0), (0, .ref (gz (xG x) + 47)), (1, .ref (gz (xG x) + 100)), (2, .int a2), (4, .int u2)] C dX7_fits_55 (by decide) rfl ?_
              obtain ⟨i32, e33⟩ : ∃ z : Int32, u2 + Int32.ofInt 1 = z := ⟨_, rfl⟩
              have i32' := iinc_ok e33 (by decide) (by omega) (by omega)
              refine r_iinc [(4, .int i32), (3, .int 0), (0, .ref (gz (xG x) + 47)), (1, .ref (gz (xG x) + 100)), (2, .int a2)] 4 C dX7_fits_56 rfl e33 (by decide) rfl ?_
              refine r_goto 5 C dX7_fits_59 (by decide) ?_
              refine r_lv [2, 3, 4, 1, 0] rfl ?_
              exact ih11 0 i32 w25 h30 o28 (by omega) (by omega) (by omega)
            · have c31' := i_ne c31
              refine r_iconst (v := 1) C dX7_fits_50 (by decide) ?_
              refine r_goto 55 C dX7_fits_51 (by decide) ?_
              refine r_istore_n [(3, .int 1), (0, .ref (gz (xG x) + 47)), (1, .ref (gz (xG x) + 100)), (2, .int a2), (4, .int u2)] C dX7_fits_55 (by decide) rfl ?_
              obtain ⟨i34, e35⟩ : ∃ z : Int32, u2 + Int32.ofInt 1 = z := ⟨_, rfl⟩
              have i34' := iinc_ok e35 (by decide) (by omega) (by omega)
              refine r_iinc [(4, .int i34), (3, .int 1), (0, .ref (gz (xG x) + 47)), (1, .ref (gz (xG x) + 100)), (2, .int a2)] 4 C dX7_fits_56 rfl e35 (by decide) rfl ?_
              refine r_goto 5 C dX7_fits_59 (by decide) ?_
              refine r_lv [2, 3, 4, 1, 0] rfl ?_
              exact ih11 1 i34 w25 h30 o28 (by omega) (by omega) (by omega)
  refine r_iconst (v := 1) C dX7_fits_0 (by decide) ?_
  refine r_istore_n [(3, .int 1), (0, .ref (gz (xG x) + 47)), (1, .ref (gz (xG x) + 100)), (2, .int a2)] C dX7_fits_1 (by decide) rfl ?_
  refine r_iconst (v := 0) C dX7_fits_2 (by decide) ?_
  refine r_istore [(4, .int 0), (3, .int 1), (0, .ref (gz (xG x) + 47)), (1, .ref (gz (xG x) + 100)), (2, .int a2)] C dX7_fits_3 (by decide) rfl ?_
  refine r_lv [2, 3, 4, 1, 0] rfl ?_
  exact LP3 4294967296 1 0 w h0 o0 (by omega) (by omega) (by omega)
set_option maxHeartbeats 4000000 in
set_option maxRecDepth 100000 in
theorem ctX3_clear_51 (l : Launch) (G : Gt) (w : Wv) (sC : Str KC XC w) (o0 : Inv RC w)  : CtV l G yX3_clear cX3_clear 2 ({ frames := 0, cells := 0, slots := 0, locals := 0 } : Room) [.ref (gz G + 51)] w (fun w' => Ch [54] [] w w' ∧ Inv RC w') := by
  refine enterV (by decide) (Nat.le_of_ble_eq_true rfl) ?_
  intro x el eG C hnm hret
  subst el; subst eG
  show V x 0 0 w 0 [(0, .ref (gz (xG x) + 51))] []
  have h0 : Ch [54] [] w w := Ch.rf
  have qm1 : ((-1) : Int32).toInt = (-1) := by decide
  have q0 : (0 : Int32).toInt = 0 := by decide
  have q1024 : (1024 : Int32).toInt = 1024 := by decide
  have LP2 : ∀ (f3 : Nat) (u1 : Int32) (w4 : Wv), Ch [54] [] w w4 → Inv RC w4 → (0 ≤ u1.toInt ∧ u1.toInt ≤ 2147483647) → 2147483647 - u1.toInt < f3 → V x 0 0 w4 2 [(0, .ref (gz (xG x) + 51)), (1, .int u1)] [] := by
    intro f3
    induction f3 with
    | zero => intro u1 w4 h5 o6 z7 z8; exfalso; omega
    | succ f3 ih9 =>
      intro u1 w4 h5 o6 z7 z8
      refine r_iload_n 1 C dX3_clear_2 rfl ?_
      refine r_sipush (v := 1024) C dX3_clear_3 (by decide) ?_
      have k11 := i_rng u1
      refine r_icmp_ge 22 C dX3_clear_6 (by decide) (fun c10 => ?_) (fun c10 => ?_)
      · have c10' := i_le c10
        exact hret _ _ _ dX3_clear_22 ⟨h5, o6⟩
      · have c10' := i_nle c10
        refine r_aload_n 0 C dX3_clear_9 rfl ?_
        refine gfX3_18 54 C (kS sC h5 kc_51) (xS sC h5 xc_51_2) dX3_clear_10 ?_
        refine r_iload_n 1 C dX3_clear_13 rfl ?_
        refine r_iconst (v := (-1)) C dX3_clear_14 (by decide) ?_
        refine r_iast C (kS sC h5 kc_54) (vin (by omega) (by omega)) dX3_clear_15 (fun w12 e13 => ?_)
        have h14 := Ch.putS h5 e13 (by decide)
        have o15 := Inv.put0 o6 e13 (by decide)
        obtain ⟨i16, e17⟩ : ∃ z : Int32, u1 + Int32.ofInt 1 = z := ⟨_, rfl⟩
        have i16' := iinc_ok e17 (by decide) (by omega) (by omega)
        refine r_iinc [(1, .int i16), (0, .ref (gz (xG x) + 51))] 1 C dX3_clear_16 rfl e17 (by decide) rfl ?_
        refine r_goto 2 C dX3_clear_19 (by decide) ?_
        refine r_lv [1, 0] rfl ?_
        exact ih9 i16 w12 h14 o15 (by omega) (by omega)
  refine r_iconst (v := 0) C dX3_clear_0 (by decide) ?_
  refine r_istore_n [(1, .int 0), (0, .ref (gz (xG x) + 51))] C dX3_clear_1 (by decide) rfl ?_
  refine r_lv [1, 0] rfl ?_
  exact LP2 4294967296 0 w h0 o0 (by omega) (by omega)
set_option maxHeartbeats 4000000 in
set_option maxRecDepth 100000 in
theorem ctX3_value_51 (l : Launch) (G : Gt) (w : Wv) (sC : Str KC XC w) (o0 : Inv RC w) (a1 : Int64) (a2 : Int64) : CtI l G yX3_value cX3_value 6 .int ({ frames := 1, cells := 0, slots := 0, locals := 25 } : Room) [.ref (gz G + 51), .long a1, .long a2] w (fun r w' => Ch [] [] w w' ∧ Inv RC w') := by
  refine enterI (by decide) (Nat.le_of_ble_eq_true rfl) ?_
  intro x el eG C hret
  subst el; subst eG
  show V x 0 0 w 0 [(0, .ref (gz (xG x) + 51)), (1, .long a1), (3, .long a2)] []
  have h0 : Ch [] [] w w := Ch.rf
  have qm1 : ((-1) : Int32).toInt = (-1) := by decide
  have q0 : (0 : Int32).toInt = 0 := by decide
  refine r_lload_n 1 C dX3_value_0 rfl ?_
  refine r_lload_n 2 C dX3_value_1 rfl ?_
  refine callSI C cwX3_26_S (ctX3_slot _ _ w a1 a2 ) (by decide) rfl rfl (Nat.le_of_ble_eq_true rfl) (by decide) dX3_value_2 (fun r3 w2 y1 => ?_)
  obtain ⟨y1, g4⟩ := y1
  obtain rfl := y1.symm
  show V x 0 0 w 5 [(0, .ref (gz (xG x) + 51)), (1, .long a1), (3, .long a2)] [.int r3]
  refine r_istore [(5, .int r3), (0, .ref (gz (xG x) + 51)), (1, .long a1), (3, .long a2)] C dX3_value_5 (by decide) rfl ?_
  refine r_aload_n 1 C dX3_value_7 rfl ?_
  refine gfX3_11 52 C (kS sC h0 kc_51) (xS sC h0 xc_51_0) dX3_value_8 ?_
  refine r_iload 0 C dX3_value_11 rfl ?_
  refine r_lald C (kS sC h0 kc_52) (vin (by omega) (by omega)) dX3_value_13 ?_
  generalize (wL w 52 (r3).toNatClampNeg) = v5
  refine r_lload_n 2 C dX3_value_14 rfl ?_
  refine r_lcmp C dX3_value_15 (fun v6 e7 => ?_)
  have v6' := lcmp_ok e7
  refine r_if_ne 41 C dX3_value_16 (by decide) (fun c8 => ?_) (fun c8 => ?_)
  · have c8' := i_ne c8
    refine r_iconst (v := (-1)) C dX3_value_41 (by decide) ?_
    exact hret _ _ _ _ dX3_value_42 rfl ⟨h0, o0⟩
  · have c8' := i_eq c8
    refine r_aload_n 1 C dX3_value_19 rfl ?_
    refine gfX3_15 53 C (kS sC h0 kc_51) (xS sC h0 xc_51_1) dX3_value_20 ?_
    refine r_iload 0 C dX3_value_23 rfl ?_
    refine r_lald C (kS sC h0 kc_53) (vin (by omega) (by omega)) dX3_value_25 ?_
    generalize (wL w 53 (r3).toNatClampNeg) = v9
    refine r_lload_n 3 C dX3_value_26 rfl ?_
    refine r_lcmp C dX3_value_27 (fun v10 e11 => ?_)
    have v10' := lcmp_ok e11
    refine r_if_ne 41 C dX3_value_28 (by decide) (fun c12 => ?_) (fun c12 => ?_)
    · have c12' := i_ne c12
      refine r_iconst (v := (-1)) C dX3_value_41 (by decide) ?_
      exact hret _ _ _ _ dX3_value_42 rfl ⟨h0, o0⟩
    · have c12' := i_eq c12
      refine r_aload_n 1 C dX3_value_31 rfl ?_
      refine gfX3_18 54 C (kS sC h0 kc_51) (xS sC h0 xc_51_2) dX3_value_32 ?_
      refine r_iload 0 C dX3_value_35 rfl ?_
      refine r_iald C (kS sC h0 kc_54) (vin (by omega) (by omega)) dX3_value_37 ?_
      generalize (wI w 54 (r3).toNatClampNeg) = v13
      refine r_goto 42 C dX3_value_38 (by decide) ?_
      exact hret _ _ _ _ dX3_value_42 rfl ⟨h0, o0⟩
