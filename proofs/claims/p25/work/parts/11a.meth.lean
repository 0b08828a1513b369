set_option maxHeartbeats 4000000 in
set_option maxRecDepth 100000 in
theorem ctX11_in (l : Launch) (G : Gt) (w : Wv) (a1 : Int64) (a2 : Int64) (a3 : Int64) : CtI l G yX11_in cX11_in 6 .boolean ({ frames := 0, cells := 0, slots := 0, locals := 0 } : Room) [.long a1, .long a2, .long a3] w (fun r w' => w' = w ∧ ((0 ≤ r.toInt ∧ r.toInt ≤ 1) ∧ ((a2.toInt ≤ a1.toInt ∧ a1.toInt ≤ a3.toInt → r.toInt = 1) ∧ (a1.toInt < a2.toInt ∨ a3.toInt < a1.toInt → r.toInt = 0)))) := by
  refine enterI (by decide) (Nat.le_of_ble_eq_true rfl) ?_
  intro x el eG C hret
  subst el; subst eG
  show V x 0 0 w 0 [(0, .long a1), (2, .long a2), (4, .long a3)] []
  have q0 : (0 : Int32).toInt = 0 := by decide
  have q1 : (1 : Int32).toInt = 1 := by decide
  refine r_lload_n 0 C dX11_in_0 rfl ?_
  refine r_lload_n 1 C dX11_in_1 rfl ?_
  refine r_lcmp C dX11_in_2 (fun v1 e2 => ?_)
  have v1' := lcmp_ok e2
  refine r_if_lt 17 C dX11_in_3 (by decide) (fun c3 => ?_) (fun c3 => ?_)
  · have c3' := i_lt c3
    refine r_iconst (v := 0) C dX11_in_17 (by decide) ?_
    exact hret _ _ _ _ dX11_in_18 (nar_z (z_of (by omega))) ⟨rfl, by omega⟩
  · have c3' := i_nlt c3
    refine r_lload_n 0 C dX11_in_6 rfl ?_
    refine r_lload 2 C dX11_in_7 rfl ?_
    refine r_lcmp C dX11_in_9 (fun v4 e5 => ?_)
    have v4' := lcmp_ok e5
    refine r_if_gt 17 C dX11_in_10 (by decide) (fun c6 => ?_) (fun c6 => ?_)
    · have c6' := i_lt c6
      refine r_iconst (v := 0) C dX11_in_17 (by decide) ?_
      exact hret _ _ _ _ dX11_in_18 (nar_z (z_of (by omega))) ⟨rfl, by omega⟩
    · have c6' := i_nlt c6
      refine r_iconst (v := 1) C dX11_in_13 (by decide) ?_
      refine r_goto 18 C dX11_in_14 (by decide) ?_
      exact hret _ _ _ _ dX11_in_18 (nar_z (z_of (by omega))) ⟨rfl, by omega⟩
set_option maxHeartbeats 4000000 in
set_option maxRecDepth 100000 in
theorem ctX11_has (l : Launch) (G : Gt) (w : Wv) (a1 : Int32) (a2 : Int32) : CtI l G yX11_has cX11_has 2 .boolean ({ frames := 0, cells := 0, slots := 0, locals := 0 } : Room) [.int a1, .int a2] w (fun r w' => w' = w ∧ ((0 ≤ r.toInt ∧ r.toInt ≤ 1))) := by
  refine enterI (by decide) (Nat.le_of_ble_eq_true rfl) ?_
  intro x el eG C hret
  subst el; subst eG
  show V x 0 0 w 0 [(0, .int a1), (1, .int a2)] []
  have q0 : (0 : Int32).toInt = 0 := by decide
  have q1 : (1 : Int32).toInt = 1 := by decide
  refine r_iload_n 0 C dX11_has_0 rfl ?_
  refine r_iload_n 1 C dX11_has_1 rfl ?_
  refine r_ishr C dX11_has_2 (fun v1 e2 => ?_)
  refine r_iconst (v := 1) C dX11_has_3 (by decide) ?_
  refine r_iand C dX11_has_4 (fun v3 e4 => ?_)
  have v3' := iand_ok e4 1 (by decide) (by decide)
  refine r_iconst (v := 1) C dX11_has_5 (by decide) ?_
  refine r_icmp_ne 13 C dX11_has_6 (by decide) (fun c5 => ?_) (fun c5 => ?_)
  · have c5' := i_ne c5
    refine r_iconst (v := 0) C dX11_has_13 (by decide) ?_
    exact hret _ _ _ _ dX11_has_14 (nar_z (z_of (by omega))) ⟨rfl, by omega⟩
  · have c5' := i_eq c5
    refine r_iconst (v := 1) C dX11_has_9 (by decide) ?_
    refine r_goto 14 C dX11_has_10 (by decide) ?_
    exact hret _ _ _ _ dX11_has_14 (nar_z (z_of (by omega))) ⟨rfl, by omega⟩
set_option maxHeartbeats 4000000 in
set_option maxRecDepth 100000 in
theorem ctX11_code (l : Launch) (G : Gt) (w : Wv) (a1 : Int32) (a2 : Int32) (a3 : Int32) : CtL l G yX11_code cX11_code 3 ({ frames := 0, cells := 0, slots := 0, locals := 0 } : Room) [.int a1, .int a2, .int a3] w (fun r w' => w' = w) := by
  refine enterL (by decide) (Nat.le_of_ble_eq_true rfl) ?_
  intro x el eG C hret
  subst el; subst eG
  show V x 0 0 w 0 [(0, .int a1), (1, .int a2), (2, .int a3)] []
  have ql27 : (27 : Int64).toInt = 27 := by decide
  have ql96 : (96 : Int64).toInt = 96 := by decide
  refine r_ldc2 C mw6_26 dX11_code_0 ?_
  refine r_ldc2 C mw6_26 dX11_code_3 ?_
  refine r_iload_n 0 C dX11_code_6 rfl ?_
  refine r_i2l C dX11_code_7 (fun v1 e2 => ?_)
  have v1' := i2l_ok e2
  refine r_ldc2 C mw6_27 dX11_code_8 ?_
  refine r_lsub C dX11_code_11 (fun v3 e4 => ?_)
  refine r_lmul C dX11_code_12 (fun v5 e6 => ?_)
  refine r_iload_n 1 C dX11_code_13 rfl ?_
  refine r_i2l C dX11_code_14 (fun v7 e8 => ?_)
  have v7' := i2l_ok e8
  refine r_ladd C dX11_code_15 (fun v9 e10 => ?_)
  refine r_ldc2 C mw6_27 dX11_code_16 ?_
  refine r_lsub C dX11_code_19 (fun v11 e12 => ?_)
  refine r_lmul C dX11_code_20 (fun v13 e14 => ?_)
  refine r_iload_n 2 C dX11_code_21 rfl ?_
  refine r_i2l C dX11_code_22 (fun v15 e16 => ?_)
  have v15' := i2l_ok e16
  refine r_ladd C dX11_code_23 (fun v17 e18 => ?_)
  refine r_ldc2 C mw6_27 dX11_code_24 ?_
  refine r_lsub C dX11_code_27 (fun v19 e20 => ?_)
  exact hret _ _ _ _ dX11_code_28 rfl
set_option maxHeartbeats 4000000 in
set_option maxRecDepth 100000 in
theorem ctX11_more (l : Launch) (G : Gt) (w : Wv) (a1 : Int64) (a2 : Int32) : CtL l G yX11_more cX11_more 3 ({ frames := 0, cells := 0, slots := 0, locals := 0 } : Room) [.long a1, .int a2] w (fun r w' => w' = w) := by
  refine enterL (by decide) (Nat.le_of_ble_eq_true rfl) ?_
  intro x el eG C hret
  subst el; subst eG
  show V x 0 0 w 0 [(0, .long a1), (2, .int a2)] []
  have ql27 : (27 : Int64).toInt = 27 := by decide
  have ql96 : (96 : Int64).toInt = 96 := by decide
  refine r_ldc2 C mw6_26 dX11_more_0 ?_
  refine r_lload_n 0 C dX11_more_3 rfl ?_
  refine r_lmul C dX11_more_4 (fun v1 e2 => ?_)
  refine r_iload_n 1 C dX11_more_5 rfl ?_
  refine r_i2l C dX11_more_6 (fun v3 e4 => ?_)
  have v3' := i2l_ok e4
  refine r_ladd C dX11_more_7 (fun v5 e6 => ?_)
  refine r_ldc2 C mw6_27 dX11_more_8 ?_
  refine r_lsub C dX11_more_11 (fun v7 e8 => ?_)
  exact hret _ _ _ _ dX11_more_12 rfl
set_option maxHeartbeats 4000000 in
set_option maxRecDepth 100000 in
theorem ctX11_fails (l : Launch) (G : Gt) (w : Wv) (sM : Str KM XM w) (o0 : OkM w) (a1 : Int32) (a2 : Int32) : CtI l G yX11_fails cX11_fails 3 .int ({ frames := 0, cells := 0, slots := 0, locals := 0 } : Room) [.ref (gz G + 114), .int a1, .int a2] w (fun r w' => Ch [] [(114, 21)] w w' ∧ OkM w' ∧ (r.toInt = a1.toInt)) := by
  refine enterI (by decide) (Nat.le_of_ble_eq_true rfl) ?_
  intro x el eG C hret
  subst el; subst eG
  show V x 0 0 w 0 [(0, .ref (gz (xG x) + 114)), (1, .int a1), (2, .int a2)] []
  have h0 : Ch [] [(114, 21)] w w := Ch.rf
  obtain ⟨rA, rB, rC, rD⟩ := (o0.2 : Rel w)
  refine r_aload_n 0 C dX11_fails_0 rfl ?_
  refine r_iload_n 2 C dX11_fails_1 rfl ?_
  refine pfX11_50 C (kS sM h0 kc_114) dX11_fails_2 (fun w1 e2 => ?_)
  have h3 := Ch.putF h0 e2 (by decide)
  have k5 := i_rng a2
  have o4 : OkM w1 := ⟨Inv.putk o0.1 e2 (by decide), Rel.putF o0.2 e2 (by decide)⟩
  refine r_iload_n 1 C dX11_fails_5 rfl ?_
  exact hret _ _ _ _ dX11_fails_6 rfl ⟨h3, o4, by omega⟩
set_option maxHeartbeats 4000000 in
set_option maxRecDepth 100000 in
theorem ctX11_here (l : Launch) (G : Gt) (w : Wv) (sM : Str KM XM w) (o0 : OkM w) (u : Int32) (pu : wI w 114 22 = u) (bu : 0 ≤ u.toInt ∧ u.toInt ≤ 500) (t : Int32) (pt : wI w 114 20 = t) (bt : 0 ≤ t.toInt ∧ t.toInt ≤ 500)  : CtI l G yX11_here cX11_here 1 .int ({ frames := 0, cells := 0, slots := 0, locals := 0 } : Room) [.ref (gz G + 114)] w (fun r w' => Ch [] [(114, 22)] w w' ∧ OkM w' ∧ (u.toInt ≤ (wI w' 114 22).toInt ∧ (wI w' 114 22).toInt ≤ 500 ∧ (0 ≤ r.toInt → (wI w' 114 22).toInt < t.toInt))) := by
  refine enterI (by decide) (Nat.le_of_ble_eq_true rfl) ?_
  intro x el eG C hret
  subst el; subst eG
  show V x 0 0 w 0 [(0, .ref (gz (xG x) + 114))] []
  have h0 : Ch [] [(114, 22)] w w := Ch.rf
  have qm1 : ((-1) : Int32).toInt = (-1) := by decide
  have q1 : (1 : Int32).toInt = 1 := by decide
  have q32 : (32 : Int32).toInt = 32 := by decide
  obtain ⟨rA, rB, rC, rD⟩ := (o0.2 : Rel w)
  have LP1 : ∀ (f2 : Nat) (w3 : Wv), Ch [] [(114, 22)] w w3 → OkM w3 → (u.toInt ≤ (wI w3 114 22).toInt ∧ (wI w3 114 22).toInt ≤ 500) → 501 - (wI w3 114 22).toInt < f2 → V x 0 0 w3 0 [(0, .ref (gz (xG x) + 114))] [] := by
    intro f2
    induction f2 with
    | zero => intro  w3 h4 o5 z6 z7; have b0 := Inv.get o5.1 rt_114_22 (j := 22) (by decide) (by decide); exfalso; omega
    | succ f2 ih8 =>
      intro  w3 h4 o5 z6 z7
      refine r_aload_n 0 C dX11_here_0 rfl ?_
      refine gfX11_136 (v := (wI w3 114 22)) C (kS sM h4 kc_114) rfl dX11_here_1 ?_
      have b9 := Inv.get o5.1 rt_114_22 (j := 22) (by decide) (by decide)
      refine r_aload_n 0 C dX11_here_4 rfl ?_
      refine gfX11_130 (v := t) C (kS sM h4 kc_114) (h4.I (by decide) (by decide) pt) dX11_here_5 ?_
      refine r_icmp_ge 38 C dX11_here_8 (by decide) (fun c10 => ?_) (fun c10 => ?_)
      · have c10' := i_le c10
        refine r_aload_n 0 C dX11_here_38 rfl ?_
        refine gfX11_136 (v := (wI w3 114 22)) C (kS sM h4 kc_114) rfl dX11_here_39 ?_
        refine r_aload_n 0 C dX11_here_42 rfl ?_
        refine gfX11_130 (v := t) C (kS sM h4 kc_114) (h4.I (by decide) (by decide) pt) dX11_here_43 ?_
        refine r_icmp_ge 61 C dX11_here_46 (by decide) (fun c11 => ?_) (fun c11 => ?_)
        · have c11' := i_le c11
          refine r_iconst (v := (-1)) C dX11_here_61 (by decide) ?_
          exact hret _ _ _ _ dX11_here_62 rfl ⟨h4, o5, (by omega)⟩
        · have c11' := i_nle c11
          refine r_aload_n 0 C dX11_here_49 rfl ?_
          refine gfX11_47 125 C (kS sM h4 kc_114) (xS sM h4 xc_114_19) dX11_here_50 ?_
          refine r_aload_n 0 C dX11_here_53 rfl ?_
          refine gfX11_136 (v := (wI w3 114 22)) C (kS sM h4 kc_114) rfl dX11_here_54 ?_
          refine r_iald C (kS sM h4 kc_125) (vin (by omega) (by omega)) dX11_here_57 ?_
          generalize (wI w3 125 ((wI w3 114 22)).toNatClampNeg) = v12
          refine r_goto 62 C dX11_here_58 (by decide) ?_
          exact hret _ _ _ _ dX11_here_62 rfl ⟨h4, o5, (by omega)⟩
      · have c10' := i_nle c10
        refine r_aload_n 0 C dX11_here_11 rfl ?_
        refine gfX11_47 125 C (kS sM h4 kc_114) (xS sM h4 xc_114_19) dX11_here_12 ?_
        refine r_aload_n 0 C dX11_here_15 rfl ?_
        refine gfX11_136 (v := (wI w3 114 22)) C (kS sM h4 kc_114) rfl dX11_here_16 ?_
        refine r_iald C (kS sM h4 kc_125) (vin (by omega) (by omega)) dX11_here_19 ?_
        generalize (wI w3 125 ((wI w3 114 22)).toNatClampNeg) = v13
        refine r_bipush (v := 32) C dX11_here_20 (by decide) ?_
        refine r_icmp_ne 38 C dX11_here_22 (by decide) (fun c14 => ?_) (fun c14 => ?_)
        · have c14' := i_ne c14
          refine r_aload_n 0 C dX11_here_38 rfl ?_
          refine gfX11_136 (v := (wI w3 114 22)) C (kS sM h4 kc_114) rfl dX11_here_39 ?_
          refine r_aload_n 0 C dX11_here_42 rfl ?_
          refine gfX11_130 (v := t) C (kS sM h4 kc_114) (h4.I (by decide) (by decide) pt) dX11_here_43 ?_
          refine r_icmp_ge 61 C dX11_here_46 (by decide) (fun c15 => ?_) (fun c15 => ?_)
          · have c15' := i_le c15
            refine r_iconst (v := (-1)) C dX11_here_61 (by decide) ?_
            exact hret _ _ _ _ dX11_here_62 rfl ⟨h4, o5, (by omega)⟩
          · have c15' := i_nle c15
            refine r_aload_n 0 C dX11_here_49 rfl ?_
            refine gfX11_47 125 C (kS sM h4 kc_114) (xS sM h4 xc_114_19) dX11_here_50 ?_
            refine r_aload_n 0 C dX11_here_53 rfl ?_
            refine gfX11_136 (v := (wI w3 114 22)) C (kS sM h4 kc_114) rfl dX11_here_54 ?_
            refine r_iald C (kS sM h4 kc_125) (vin (by omega) (by omega)) dX11_here_57 ?_
            generalize (wI w3 125 ((wI w3 114 22)).toNatClampNeg) = v16
            refine r_goto 62 C dX11_here_58 (by decide) ?_
            exact hret _ _ _ _ dX11_here_62 rfl ⟨h4, o5, (by omega)⟩
        · have c14' := i_eq c14
          refine r_aload_n 0 C dX11_here_25 rfl ?_
          refine r_dup C dX11_here_26 rfl ?_
          refine gfX11_136 (v := (wI w3 114 22)) C (kS sM h4 kc_114) rfl dX11_here_27 ?_
          refine r_iconst (v := 1) C dX11_here_30 (by decide) ?_
          refine r_iadd C dX11_here_31 (fun v17 e18 => ?_)
          have v17' := iadd_ok e18 (by omega) (by omega)
          refine pfX11_136 C (kS sM h4 kc_114) dX11_here_32 (fun w19 e20 => ?_)
          have h21 := Ch.putF h4 e20 (by decide)
          have o22 : OkM w19 := ⟨Inv.put o5.1 e20 0 501 (by omega) (by decide), Rel.putF o5.2 e20 (by decide)⟩
          refine r_goto 0 C dX11_here_35 (by decide) ?_
          refine r_lv [0] rfl ?_
          exact ih8  w19 h21 o22 (by rw [(g_eq e20)]; omega) (by rw [(g_eq e20)]; omega)
  refine r_lv [0] rfl ?_
  exact LP1 4294967296  w h0 o0 (by rw [pu]; omega) (by rw [pu]; omega)
set_option maxHeartbeats 4000000 in
set_option maxRecDepth 100000 in
theorem ctX11_readWord (l : Launch) (G : Gt) (w : Wv) (sM : Str KM XM w) (o0 : OkM w) (u : Int32) (pu : wI w 114 22 = u) (bu : 0 ≤ u.toInt ∧ u.toInt ≤ 500) (t : Int32) (pt : wI w 114 20 = t) (bt : 0 ≤ t.toInt ∧ t.toInt ≤ 500)  : CtV l G yX11_readWord cX11_readWord 2 ({ frames := 1, cells := 0, slots := 0, locals := 25 } : Room) [.ref (gz G + 114)] w (fun w' => Ch [] [(114, 22), (114, 23), (114, 24)] w w' ∧ OkM w' ∧ (u.toInt ≤ (wI w' 114 22).toInt ∧ (wI w' 114 22).toInt ≤ 500) ∧ (u.toInt ≤ (wI w' 114 24).toInt ∧ (wI w' 114 24).toInt ≤ 500)) := by
  refine enterV (by decide) (Nat.le_of_ble_eq_true rfl) ?_
  intro x el eG C hnm hret
  subst el; subst eG
  show V x 0 0 w 0 [(0, .ref (gz (xG x) + 114))] []
  have h0 : Ch [] [(114, 22), (114, 23), (114, 24)] w w := Ch.rf
  have q0 : (0 : Int32).toInt = 0 := by decide
  have q1 : (1 : Int32).toInt = 1 := by decide
  have ql0 : (0 : Int64).toInt = 0 := by decide
  have ql27 : (27 : Int64).toInt = 27 := by decide
  have ql96 : (96 : Int64).toInt = 96 := by decide
  have ql97 : (97 : Int64).toInt = 97 := by decide
  have ql122 : (122 : Int64).toInt = 122 := by decide
  have ql100000000000000 : (100000000000000 : Int64).toInt = 100000000000000 := by decide
  have ql200000000000000 : (200000000000000 : Int64).toInt = 200000000000000 := by decide
  obtain ⟨rA, rB, rC, rD⟩ := (o0.2 : Rel w)
  have LP18 : ∀ (f19 : Nat) (u17 : Int32) (w20 : Wv), Ch [] [(114, 22), (114, 23), (114, 24)] w w20 → OkM w20 → (u.toInt ≤ (wI w20 114 24).toInt ∧ (wI w20 114 24).toInt ≤ 500 ∧ u.toInt ≤ (wI w20 114 22).toInt ∧ (wI w20 114 22).toInt ≤ 500) → 501 - (wI w20 114 24).toInt < f19 → V x 0 0 w20 18 [(0, .ref (gz (xG x) + 114)), (1, .int u17)] [] := by
    intro f19
    induction f19 with
    | zero => intro u17 w20 h21 o22 z23 z24; have b0 := Inv.get o22.1 rt_114_24 (j := 24) (by decide) (by decide); exfalso; omega
    | succ f19 ih25 =>
      intro u17 w20 h21 o22 z23 z24
      refine r_aload_n 0 C dX11_readWord_18 rfl ?_
      refine gfX11_147 (v := (wI w20 114 24)) C (kS sM h21 kc_114) rfl dX11_readWord_19 ?_
      have b26 := Inv.get o22.1 rt_114_24 (j := 24) (by decide) (by decide)
      refine r_aload_n 0 C dX11_readWord_22 rfl ?_
      refine gfX11_130 (v := t) C (kS sM h21 kc_114) (h21.I (by decide) (by decide) pt) dX11_readWord_23 ?_
      refine r_icmp_ge 108 C dX11_readWord_26 (by decide) (fun c27 => ?_) (fun c27 => ?_)
      · have c27' := i_le c27
        exact hret _ _ _ dX11_readWord_108 ⟨h21, o22, (by omega), (by omega)⟩
      · have c27' := i_nle c27
        refine r_aload_n 0 C dX11_readWord_29 rfl ?_
        refine gfX11_47 125 C (kS sM h21 kc_114) (xS sM h21 xc_114_19) dX11_readWord_30 ?_
        refine r_aload_n 0 C dX11_readWord_33 rfl ?_
        refine gfX11_147 (v := (wI w20 114 24)) C (kS sM h21 kc_114) rfl dX11_readWord_34 ?_
        refine r_iald C (kS sM h21 kc_125) (vin (by omega) (by omega)) dX11_readWord_37 ?_
        generalize (wI w20 125 ((wI w20 114 24)).toNatClampNeg) = v28
        refine r_i2l C dX11_readWord_38 (fun v29 e30 => ?_)
        have v29' := i2l_ok e30
        refine r_ldc2 C mw6_22 dX11_readWord_39 ?_
        refine r_ldc2 C mw6_23 dX11_readWord_42 ?_
        refine callSI C cwX11_114_S (ctX11_in _ _ w20 v29 97 122 ) (by decide) rfl rfl (Nat.le_of_ble_eq_true rfl) (by decide) dX11_readWord_45 (fun r33 w32 y31 => ?_)
        obtain ⟨y31, g34⟩ := y31
        obtain rfl := y31.symm
        show V x 0 0 w20 48 [(0, .ref (gz (xG x) + 114)), (1, .int u17)] [.int r33]
        refine r_if_eq 108 C dX11_readWord_48 (by decide) (fun c35 => ?_) (fun c35 => ?_)
        · have c35' := i_eq c35
          exact hret _ _ _ dX11_readWord_108 ⟨h21, o22, (by omega), (by omega)⟩
        · have c35' := i_ne c35
          refine r_aload_n 0 C dX11_readWord_51 rfl ?_
          refine r_aload_n 0 C dX11_readWord_52 rfl ?_
          refine gfX11_143 (v := (wL w20 114 23)) C (kS sM h21 kc_114) rfl dX11_readWord_53 ?_
          refine r_ldc2 C mw6_24 dX11_readWord_56 ?_
          refine r_lcmp C dX11_readWord_59 (fun v36 e37 => ?_)
          have v36' := lcmp_ok e37
          refine r_if_le 69 C dX11_readWord_60 (by decide) (fun c38 => ?_) (fun c38 => ?_)
          · have c38' := i_le c38
            refine r_ldc2 C mw6_26 dX11_readWord_69 ?_
            refine r_aload_n 0 C dX11_readWord_72 rfl ?_
            refine gfX11_143 (v := (wL w20 114 23)) C (kS sM h21 kc_114) rfl dX11_readWord_73 ?_
            refine r_lmul C dX11_readWord_76 (fun v39 e40 => ?_)
            refine r_aload_n 0 C dX11_readWord_77 rfl ?_
            refine gfX11_47 125 C (kS sM h21 kc_114) (xS sM h21 xc_114_19) dX11_readWord_78 ?_
            refine r_aload_n 0 C dX11_readWord_81 rfl ?_
            refine gfX11_147 (v := (wI w20 114 24)) C (kS sM h21 kc_114) rfl dX11_readWord_82 ?_
            refine r_iald C (kS sM h21 kc_125) (vin (by omega) (by omega)) dX11_readWord_85 ?_
            generalize (wI w20 125 ((wI w20 114 24)).toNatClampNeg) = v41
            refine r_i2l C dX11_readWord_86 (fun v42 e43 => ?_)
            have v42' := i2l_ok e43
            refine r_ladd C dX11_readWord_87 (fun v44 e45 => ?_)
            refine r_ldc2 C mw6_27 dX11_readWord_88 ?_
            refine r_lsub C dX11_readWord_91 (fun v46 e47 => ?_)
            refine pfX11_143 C (kS sM h21 kc_114) dX11_readWord_92 (fun w48 e49 => ?_)
            have h50 := Ch.putFL h21 e49 (by decide)
            have o51 : OkM w48 := ⟨Inv.putL o22.1 e49, Rel.putFL o22.2 e49 (by decide)⟩
            refine r_aload_n 0 C dX11_readWord_95 rfl ?_
            refine r_dup C dX11_readWord_96 rfl ?_
            refine gfX11_147 (v := (wI w20 114 24)) C (kS sM h50 kc_114) (g_L e49 rfl) dX11_readWord_97 ?_
            refine r_iconst (v := 1) C dX11_readWord_100 (by decide) ?_
            refine r_iadd C dX11_readWord_101 (fun v52 e53 => ?_)
            have v52' := iadd_ok e53 (by omega) (by omega)
            refine pfX11_147 C (kS sM h50 kc_114) dX11_readWord_102 (fun w54 e55 => ?_)
            have h56 := Ch.putF h50 e55 (by decide)
            have o57 : OkM w54 := ⟨Inv.put o51.1 e55 0 501 (by omega) (by decide), Rel.putF o51.2 e55 (by decide)⟩
            refine r_goto 18 C dX11_readWord_105 (by decide) ?_
            refine r_lv [0, 1] rfl ?_
            exact ih25 u17 w54 h56 o57 (by rw [(g_eq e55), (g_nk e55 (by decide) (g_L e49 rfl))]; omega) (by rw [(g_eq e55)]; omega)
          · have c38' := i_nle c38
            refine r_ldc2 C mw6_25 dX11_readWord_63 ?_
            refine r_goto 92 C dX11_readWord_66 (by decide) ?_
            refine pfX11_143 C (kS sM h21 kc_114) dX11_readWord_92 (fun w58 e59 => ?_)
            have h60 := Ch.putFL h21 e59 (by decide)
            have o61 : OkM w58 := ⟨Inv.putL o22.1 e59, Rel.putFL o22.2 e59 (by decide)⟩
            refine r_aload_n 0 C dX11_readWord_95 rfl ?_
            refine r_dup C dX11_readWord_96 rfl ?_
            refine gfX11_147 (v := (wI w20 114 24)) C (kS sM h60 kc_114) (g_L e59 rfl) dX11_readWord_97 ?_
            refine r_iconst (v := 1) C dX11_readWord_100 (by decide) ?_
            refine r_iadd C dX11_readWord_101 (fun v62 e63 => ?_)
            have v62' := iadd_ok e63 (by omega) (by omega)
            refine pfX11_147 C (kS sM h60 kc_114) dX11_readWord_102 (fun w64 e65 => ?_)
            have h66 := Ch.putF h60 e65 (by decide)
            have o67 : OkM w64 := ⟨Inv.put o61.1 e65 0 501 (by omega) (by decide), Rel.putF o61.2 e65 (by decide)⟩
            refine r_goto 18 C dX11_readWord_105 (by decide) ?_
            refine r_lv [0, 1] rfl ?_
            exact ih25 u17 w64 h66 o67 (by rw [(g_eq e65), (g_nk e65 (by decide) (g_L e59 rfl))]; omega) (by rw [(g_eq e65)]; omega)
  refine r_aload_n 0 C dX11_readWord_0 rfl ?_
  refine callVI C cwX11_139_V (ctX11_here _ _ w (sS sM h0) o0 u pu (by omega) t pt (by omega)  ) (by decide) (kS sM h0 kc_114) rfl rfl rfl (Nat.le_of_ble_eq_true rfl) (by decide) dX11_readWord_1 (fun r3 w2 y1 => ?_)
  show V x 0 0 w2 4 [(0, .ref (gz (xG x) + 114))] [.int r3]
  obtain ⟨h4, o5, f6⟩ := y1
  have h7 := Ch.tr h0 h4 (by decide) (by decide)
  refine r_istore_n [(1, .int r3), (0, .ref (gz (xG x) + 114))] C dX11_readWord_4 (by decide) rfl ?_
  refine r_aload_n 1 C dX11_readWord_5 rfl ?_
  refine r_lconst (v := 0) C dX11_readWord_6 (by decide) ?_
  refine pfX11_143 C (kS sM h7 kc_114) dX11_readWord_7 (fun w8 e9 => ?_)
  have h10 := Ch.putFL h7 e9 (by decide)
  have o11 : OkM w8 := ⟨Inv.putL o5.1 e9, Rel.putFL o5.2 e9 (by decide)⟩
  refine r_aload_n 1 C dX11_readWord_10 rfl ?_
  refine r_aload_n 1 C dX11_readWord_11 rfl ?_
  refine gfX11_136 (v := (wI w2 114 22)) C (kS sM h10 kc_114) (g_L e9 rfl) dX11_readWord_12 ?_
  have b12 := Inv.get o5.1 rt_114_22 (j := 22) (by decide) (by decide)
  refine pfX11_147 C (kS sM h10 kc_114) dX11_readWord_15 (fun w13 e14 => ?_)
  have h15 := Ch.putF h10 e14 (by decide)
  have o16 : OkM w13 := ⟨Inv.put o11.1 e14 0 501 (by omega) (by decide), Rel.putF o11.2 e14 (by decide)⟩
  refine r_lv [1, 0] rfl ?_
  exact LP18 4294967296 r3 w13 h15 o16 (by rw [(g_eq e14), (g_nk e14 (by decide) (g_L e9 rfl))]; omega) (by rw [(g_eq e14)]; omega)
set_option maxHeartbeats 4000000 in
set_option maxRecDepth 100000 in
theorem ctX11_kindOfWord (l : Launch) (G : Gt) (w : Wv) (sM : Str KM XM w) (o0 : OkM w)  : CtI l G yX11_kindOfWord cX11_kindOfWord 1 .int ({ frames := 1, cells := 0, slots := 0, locals := 22 } : Room) [.ref (gz G + 114)] w (fun r w' => Ch [] [] w w' ∧ OkM w' ∧ (-1 ≤ r.toInt ∧ r.toInt ≤ 7)) := by
  refine enterI (by decide) (Nat.le_of_ble_eq_true rfl) ?_
  intro x el eG C hret
  subst el; subst eG
  show V x 0 0 w 0 [(0, .ref (gz (xG x) + 114))] []
  have h0 : Ch [] [] w w := Ch.rf
  have qm1 : ((-1) : Int32).toInt = (-1) := by decide
  have q0 : (0 : Int32).toInt = 0 := by decide
  have q1 : (1 : Int32).toInt = 1 := by decide
  have q2 : (2 : Int32).toInt = 2 := by decide
  have q3 : (3 : Int32).toInt = 3 := by decide
  have q4 : (4 : Int32).toInt = 4 := by decide
  have q5 : (5 : Int32).toInt = 5 := by decide
  have q6 : (6 : Int32).toInt = 6 := by decide
  have q7 : (7 : Int32).toInt = 7 := by decide
  have q97 : (97 : Int32).toInt = 97 := by decide
  have q99 : (99 : Int32).toInt = 99 := by decide
  have q100 : (100 : Int32).toInt = 100 := by decide
  have q101 : (101 : Int32).toInt = 101 := by decide
  have q103 : (103 : Int32).toInt = 103 := by decide
  have q105 : (105 : Int32).toInt = 105 := by decide
  have q108 : (108 : Int32).toInt = 108 := by decide
  have q110 : (110 : Int32).toInt = 110 := by decide
  have q111 : (111 : Int32).toInt = 111 := by decide
  have q112 : (112 : Int32).toInt = 112 := by decide
  have q114 : (114 : Int32).toInt = 114 := by decide
  have q116 : (116 : Int32).toInt = 116 := by decide
  have q117 : (117 : Int32).toInt = 117 := by decide
  have q119 : (119 : Int32).toInt = 119 := by decide
  have q121 : (121 : Int32).toInt = 121 := by decide
  obtain ⟨rA, rB, rC, rD⟩ := (o0.2 : Rel w)
  refine r_aload_n 0 C dX11_kindOfWord_0 rfl ?_
  refine gfX11_143 (v := (wL w 114 23)) C (kS sM h0 kc_114) rfl dX11_kindOfWord_1 ?_
  refine r_bipush (v := 116) C dX11_kindOfWord_4 (by decide) ?_
  refine r_bipush (v := 111) C dX11_kindOfWord_6 (by decide) ?_
  refine r_bipush (v := 119) C dX11_kindOfWord_8 (by decide) ?_
  refine callSL C cwX11_217_S (ctX11_code _ _ w 116 111 119 ) (by decide) rfl rfl (Nat.le_of_ble_eq_true rfl) (by decide) dX11_kindOfWord_10 (fun r3 w2 y1 => ?_)
  obtain rfl := y1.symm
  show V x 0 0 w 13 [(0, .ref (gz (xG x) + 114))] [.long r3, .long (wL w 114 23)]
  refine r_bipush (v := 110) C dX11_kindOfWord_13 (by decide) ?_
  refine callSL C cwX11_221_S (ctX11_more _ _ w r3 110 ) (by decide) rfl rfl (Nat.le_of_ble_eq_true rfl) (by decide) dX11_kindOfWord_15 (fun r7 w6 y5 => ?_)
  obtain rfl := y5.symm
  show V x 0 0 w 18 [(0, .ref (gz (xG x) + 114))] [.long r7, .long (wL w 114 23)]
  refine r_lcmp C dX11_kindOfWord_18 (fun v9 e10 => ?_)
  have v9' := lcmp_ok e10
  refine r_if_ne 24 C dX11_kindOfWord_19 (by decide) (fun c11 => ?_) (fun c11 => ?_)
  · have c11' := i_ne c11
    refine r_aload_n 0 C dX11_kindOfWord_24 rfl ?_
    refine gfX11_143 (v := (wL w 114 23)) C (kS sM h0 kc_114) rfl dX11_kindOfWord_25 ?_
    refine r_bipush (v := 119) C dX11_kindOfWord_28 (by decide) ?_
    refine r_bipush (v := 97) C dX11_kindOfWord_30 (by decide) ?_
    refine r_bipush (v := 108) C dX11_kindOfWord_32 (by decide) ?_
    refine callSL C cwX11_217_S (ctX11_code _ _ w 119 97 108 ) (by decide) rfl rfl (Nat.le_of_ble_eq_true rfl) (by decide) dX11_kindOfWord_34 (fun r14 w13 y12 => ?_)
    obtain rfl := y12.symm
    show V x 0 0 w 37 [(0, .ref (gz (xG x) + 114))] [.long r14, .long (wL w 114 23)]
    refine r_bipush (v := 108) C dX11_kindOfWord_37 (by decide) ?_
    refine callSL C cwX11_221_S (ctX11_more _ _ w r14 108 ) (by decide) rfl rfl (Nat.le_of_ble_eq_true rfl) (by decide) dX11_kindOfWord_39 (fun r18 w17 y16 => ?_)
    obtain rfl := y16.symm
    show V x 0 0 w 42 [(0, .ref (gz (xG x) + 114))] [.long r18, .long (wL w 114 23)]
    refine r_lcmp C dX11_kindOfWord_42 (fun v20 e21 => ?_)
    have v20' := lcmp_ok e21
    refine r_if_ne 48 C dX11_kindOfWord_43 (by decide) (fun c22 => ?_) (fun c22 => ?_)
    · have c22' := i_ne c22
      refine r_aload_n 0 C dX11_kindOfWord_48 rfl ?_
      refine gfX11_143 (v := (wL w 114 23)) C (kS sM h0 kc_114) rfl dX11_kindOfWord_49 ?_
      refine r_bipush (v := 119) C dX11_kindOfWord_52 (by decide) ?_
      refine r_bipush (v := 97) C dX11_kindOfWord_54 (by decide) ?_
      refine r_bipush (v := 116) C dX11_kindOfWord_56 (by decide) ?_
      refine callSL C cwX11_217_S (ctX11_code _ _ w 119 97 116 ) (by decide) rfl rfl (Nat.le_of_ble_eq_true rfl) (by decide) dX11_kindOfWord_58 (fun r25 w24 y23 => ?_)
      obtain rfl := y23.symm
      show V x 0 0 w 61 [(0, .ref (gz (xG x) + 114))] [.long r25, .long (wL w 114 23)]
      refine r_bipush (v := 101) C dX11_kindOfWord_61 (by decide) ?_
      refine callSL C cwX11_221_S (ctX11_more _ _ w r25 101 ) (by decide) rfl rfl (Nat.le_of_ble_eq_true rfl) (by decide) dX11_kindOfWord_63 (fun r29 w28 y27 => ?_)
      obtain rfl := y27.symm
      show V x 0 0 w 66 [(0, .ref (gz (xG x) + 114))] [.long r29, .long (wL w 114 23)]
      refine r_bipush (v := 114) C dX11_kindOfWord_66 (by decide) ?_
      refine callSL C cwX11_221_S (ctX11_more _ _ w r29 114 ) (by decide) rfl rfl (Nat.le_of_ble_eq_true rfl) (by decide) dX11_kindOfWord_68 (fun r33 w32 y31 => ?_)
      obtain rfl := y31.symm
      show V x 0 0 w 71 [(0, .ref (gz (xG x) + 114))] [.long r33, .long (wL w 114 23)]
      refine r_lcmp C dX11_kindOfWord_71 (fun v35 e36 => ?_)
      have v35' := lcmp_ok e36
      refine r_if_ne 77 C dX11_kindOfWord_72 (by decide) (fun c37 => ?_) (fun c37 => ?_)
      · have c37' := i_ne c37
        refine r_aload_n 0 C dX11_kindOfWord_77 rfl ?_
        refine gfX11_143 (v := (wL w 114 23)) C (kS sM h0 kc_114) rfl dX11_kindOfWord_78 ?_
        refine r_bipush (v := 103) C dX11_kindOfWord_81 (by decide) ?_
        refine r_bipush (v := 97) C dX11_kindOfWord_83 (by decide) ?_
        refine r_bipush (v := 116) C dX11_kindOfWord_85 (by decide) ?_
        refine callSL C cwX11_217_S (ctX11_code _ _ w 103 97 116 ) (by decide) rfl rfl (Nat.le_of_ble_eq_true rfl) (by decide) dX11_kindOfWord_87 (fun r40 w39 y38 => ?_)
        obtain rfl := y38.symm
        show V x 0 0 w 90 [(0, .ref (gz (xG x) + 114))] [.long r40, .long (wL w 114 23)]
        refine r_bipush (v := 101) C dX11_kindOfWord_90 (by decide) ?_
        refine callSL C cwX11_221_S (ctX11_more _ _ w r40 101 ) (by decide) rfl rfl (Nat.le_of_ble_eq_true rfl) (by decide) dX11_kindOfWord_92 (fun r44 w43 y42 => ?_)
        obtain rfl := y42.symm
        show V x 0 0 w 95 [(0, .ref (gz (xG x) + 114))] [.long r44, .long (wL w 114 23)]
        refine r_lcmp C dX11_kindOfWord_95 (fun v46 e47 => ?_)
        have v46' := lcmp_ok e47
        refine r_if_ne 101 C dX11_kindOfWord_96 (by decide) (fun c48 => ?_) (fun c48 => ?_)
        · have c48' := i_ne c48
          refine r_aload_n 0 C dX11_kindOfWord_101 rfl ?_
          refine gfX11_143 (v := (wL w 114 23)) C (kS sM h0 kc_114) rfl dX11_kindOfWord_102 ?_
          refine r_bipush (v := 99) C dX11_kindOfWord_105 (by decide) ?_
          refine r_bipush (v := 114) C dX11_kindOfWord_107 (by decide) ?_
          refine r_bipush (v := 111) C dX11_kindOfWord_109 (by decide) ?_
          refine callSL C cwX11_217_S (ctX11_code _ _ w 99 114 111 ) (by decide) rfl rfl (Nat.le_of_ble_eq_true rfl) (by decide) dX11_kindOfWord_111 (fun r51 w50 y49 => ?_)
          obtain rfl := y49.symm
          show V x 0 0 w 114 [(0, .ref (gz (xG x) + 114))] [.long r51, .long (wL w 114 23)]
          refine r_bipush (v := 119) C dX11_kindOfWord_114 (by decide) ?_
          refine callSL C cwX11_221_S (ctX11_more _ _ w r51 119 ) (by decide) rfl rfl (Nat.le_of_ble_eq_true rfl) (by decide) dX11_kindOfWord_116 (fun r55 w54 y53 => ?_)
          obtain rfl := y53.symm
          show V x 0 0 w 119 [(0, .ref (gz (xG x) + 114))] [.long r55, .long (wL w 114 23)]
          refine r_bipush (v := 100) C dX11_kindOfWord_119 (by decide) ?_
          refine callSL C cwX11_221_S (ctX11_more _ _ w r55 100 ) (by decide) rfl rfl (Nat.le_of_ble_eq_true rfl) (by decide) dX11_kindOfWord_121 (fun r59 w58 y57 => ?_)
          obtain rfl := y57.symm
          show V x 0 0 w 124 [(0, .ref (gz (xG x) + 114))] [.long r59, .long (wL w 114 23)]
          refine r_lcmp C dX11_kindOfWord_124 (fun v61 e62 => ?_)
          have v61' := lcmp_ok e62
          refine r_if_ne 130 C dX11_kindOfWord_125 (by decide) (fun c63 => ?_) (fun c63 => ?_)
          · have c63' := i_ne c63
            refine r_aload_n 0 C dX11_kindOfWord_130 rfl ?_
            refine gfX11_143 (v := (wL w 114 23)) C (kS sM h0 kc_114) rfl dX11_kindOfWord_131 ?_
            refine r_bipush (v := 116) C dX11_kindOfWord_134 (by decide) ?_
            refine r_bipush (v := 117) C dX11_kindOfWord_136 (by decide) ?_
            refine r_bipush (v := 110) C dX11_kindOfWord_138 (by decide) ?_
            refine callSL C cwX11_217_S (ctX11_code _ _ w 116 117 110 ) (by decide) rfl rfl (Nat.le_of_ble_eq_true rfl) (by decide) dX11_kindOfWord_140 (fun r66 w65 y64 => ?_)
            obtain rfl := y64.symm
            show V x 0 0 w 143 [(0, .ref (gz (xG x) + 114))] [.long r66, .long (wL w 114 23)]
            refine r_bipush (v := 101) C dX11_kindOfWord_143 (by decide) ?_
            refine callSL C cwX11_221_S (ctX11_more _ _ w r66 101 ) (by decide) rfl rfl (Nat.le_of_ble_eq_true rfl) (by decide) dX11_kindOfWord_145 (fun r70 w69 y68 => ?_)
            obtain rfl := y68.symm
            show V x 0 0 w 148 [(0, .ref (gz (xG x) + 114))] [.long r70, .long (wL w 114 23)]
            refine r_lcmp C dX11_kindOfWord_148 (fun v72 e73 => ?_)
            have v72' := lcmp_ok e73
            refine r_if_ne 154 C dX11_kindOfWord_149 (by decide) (fun c74 => ?_) (fun c74 => ?_)
            · have c74' := i_ne c74
              refine r_aload_n 0 C dX11_kindOfWord_154 rfl ?_
              refine gfX11_143 (v := (wL w 114 23)) C (kS sM h0 kc_114) rfl dX11_kindOfWord_155 ?_
              refine r_bipush (v := 112) C dX11_kindOfWord_158 (by decide) ?_
              refine r_bipush (v := 105) C dX11_kindOfWord_160 (by decide) ?_
              refine r_bipush (v := 112) C dX11_kindOfWord_162 (by decide) ?_
              refine callSL C cwX11_217_S (ctX11_code _ _ w 112 105 112 ) (by decide) rfl rfl (Nat.le_of_ble_eq_true rfl) (by decide) dX11_kindOfWord_164 (fun r77 w76 y75 => ?_)
              obtain rfl := y75.symm
              show V x 0 0 w 167 [(0, .ref (gz (xG x) + 114))] [.long r77, .long (wL w 114 23)]
              refine r_bipush (v := 101) C dX11_kindOfWord_167 (by decide) ?_
              refine callSL C cwX11_221_S (ctX11_more _ _ w r77 101 ) (by decide) rfl rfl (Nat.le_of_ble_eq_true rfl) (by decide) dX11_kindOfWord_169 (fun r81 w80 y79 => ?_)
              obtain rfl := y79.symm
              show V x 0 0 w 172 [(0, .ref (gz (xG x) + 114))] [.long r81, .long (wL w 114 23)]
              refine r_bipush (v := 114) C dX11_kindOfWord_172 (by decide) ?_
              refine callSL C cwX11_221_S (ctX11_more _ _ w r81 114 ) (by decide) rfl rfl (Nat.le_of_ble_eq_true rfl) (by decide) dX11_kindOfWord_174 (fun r85 w84 y83 => ?_)
              obtain rfl := y83.symm
              show V x 0 0 w 177 [(0, .ref (gz (xG x) + 114))] [.long r85, .long (wL w 114 23)]
              refine r_lcmp C dX11_kindOfWord_177 (fun v87 e88 => ?_)
              have v87' := lcmp_ok e88
              refine r_if_ne 186 C dX11_kindOfWord_178 (by decide) (fun c89 => ?_) (fun c89 => ?_)
              · have c89' := i_ne c89
                refine r_aload_n 0 C dX11_kindOfWord_186 rfl ?_
                refine gfX11_143 (v := (wL w 114 23)) C (kS sM h0 kc_114) rfl dX11_kindOfWord_187 ?_
                refine r_bipush (v := 112) C dX11_kindOfWord_190 (by decide) ?_
                refine r_bipush (v := 97) C dX11_kindOfWord_192 (by decide) ?_
                refine r_bipush (v := 121) C dX11_kindOfWord_194 (by decide) ?_
                refine callSL C cwX11_217_S (ctX11_code _ _ w 112 97 121 ) (by decide) rfl rfl (Nat.le_of_ble_eq_true rfl) (by decide) dX11_kindOfWord_196 (fun r92 w91 y90 => ?_)
                obtain rfl := y90.symm
                show V x 0 0 w 199 [(0, .ref (gz (xG x) + 114))] [.long r92, .long (wL w 114 23)]
                refine r_lcmp C dX11_kindOfWord_199 (fun v94 e95 => ?_)
                have v94' := lcmp_ok e95
                refine r_if_ne 208 C dX11_kindOfWord_200 (by decide) (fun c96 => ?_) (fun c96 => ?_)
                · have c96' := i_ne c96
                  refine r_iconst (v := (-1)) C dX11_kindOfWord_208 (by decide) ?_
                  exact hret _ _ _ _ dX11_kindOfWord_209 rfl ⟨h0, o0, by omega⟩
                · have c96' := i_eq c96
                  refine r_bipush (v := 7) C dX11_kindOfWord_203 (by decide) ?_
                  refine r_goto 209 C dX11_kindOfWord_205 (by decide) ?_
                  exact hret _ _ _ _ dX11_kindOfWord_209 rfl ⟨h0, o0, by omega⟩
              · have c89' := i_eq c89
                refine r_bipush (v := 6) C dX11_kindOfWord_181 (by decide) ?_
                refine r_goto 209 C dX11_kindOfWord_183 (by decide) ?_
                exact hret _ _ _ _ dX11_kindOfWord_209 rfl ⟨h0, o0, by omega⟩
            · have c74' := i_eq c74
              refine r_iconst (v := 5) C dX11_kindOfWord_152 (by decide) ?_
              exact hret _ _ _ _ dX11_kindOfWord_153 rfl ⟨h0, o0, by omega⟩
          · have c63' := i_eq c63
            refine r_iconst (v := 4) C dX11_kindOfWord_128 (by decide) ?_
            exact hret _ _ _ _ dX11_kindOfWord_129 rfl ⟨h0, o0, by omega⟩
        · have c48' := i_eq c48
          refine r_iconst (v := 3) C dX11_kindOfWord_99 (by decide) ?_
          exact hret _ _ _ _ dX11_kindOfWord_100 rfl ⟨h0, o0, by omega⟩
      · have c37' := i_eq c37
        refine r_iconst (v := 2) C dX11_kindOfWord_75 (by decide) ?_
        exact hret _ _ _ _ dX11_kindOfWord_76 rfl ⟨h0, o0, by omega⟩
    · have c22' := i_eq c22
      refine r_iconst (v := 1) C dX11_kindOfWord_46 (by decide) ?_
      exact hret _ _ _ _ dX11_kindOfWord_47 rfl ⟨h0, o0, by omega⟩
  · have c11' := i_eq c11
    refine r_iconst (v := 0) C dX11_kindOfWord_22 (by decide) ?_
    exact hret _ _ _ _ dX11_kindOfWord_23 rfl ⟨h0, o0, by omega⟩
set_option maxHeartbeats 4000000 in
set_option maxRecDepth 100000 in
theorem ctX11_takeNumber (l : Launch) (G : Gt) (w : Wv) (sM : Str KM XM w) (o0 : OkM w) (u : Int32) (pu : wI w 114 22 = u) (bu : 0 ≤ u.toInt ∧ u.toInt ≤ 500) (t : Int32) (pt : wI w 114 20 = t) (bt : 0 ≤ t.toInt ∧ t.toInt ≤ 500) (a1 : Int32) (a2 : Int32) : CtI l G yX11_takeNumber cX11_takeNumber 4 .int ({ frames := 1, cells := 0, slots := 0, locals := 25 } : Room) [.ref (gz G + 114), .int a1, .int a2] w (fun r w' => Ch [] [(114, 21), (114, 22), (114, 25), (114, 26)] w w' ∧ OkM w' ∧ (u.toInt ≤ (wI w' 114 22).toInt ∧ (wI w' 114 22).toInt ≤ 500) ∧ (r.toInt = 0 → (a1.toInt ≤ (wI w' 114 25).toInt ∧ (wI w' 114 25).toInt ≤ a2.toInt)) ∧ (0 ≤ r.toInt ∧ r.toInt ≤ 2)) := by
  refine enterI (by decide) (Nat.le_of_ble_eq_true rfl) ?_
  intro x el eG C hret
  subst el; subst eG
  show V x 0 0 w 0 [(0, .ref (gz (xG x) + 114)), (1, .int a1), (2, .int a2)] []
  have h0 : Ch [] [(114, 21), (114, 22), (114, 25), (114, 26)] w w := Ch.rf
  have q0 : (0 : Int32).toInt = 0 := by decide
  have q1 : (1 : Int32).toInt = 1 := by decide
  have q2 : (2 : Int32).toInt = 2 := by decide
  have q3 : (3 : Int32).toInt = 3 := by decide
  have q10 : (10 : Int32).toInt = 10 := by decide
  have q48 : (48 : Int32).toInt = 48 := by decide
  have q10000 : (10000 : Int32).toInt = 10000 := by decide
  have ql48 : (48 : Int64).toInt = 48 := by decide
  have ql57 : (57 : Int64).toInt = 57 := by decide
  obtain ⟨rA, rB, rC, rD⟩ := (o0.2 : Rel w)
  have LP25 : ∀ (f26 : Nat) (u24 : Int32) (w27 : Wv), Ch [] [(114, 21), (114, 22), (114, 25), (114, 26)] w w27 → OkM w27 → (48 ≤ u24.toInt ∧ u24.toInt ≤ 57) → (u.toInt ≤ (wI w27 114 22).toInt ∧ (wI w27 114 22).toInt ≤ 500) → 501 - (wI w27 114 22).toInt < f26 → V x 0 0 w27 42 [(0, .ref (gz (xG x) + 114)), (1, .int a1), (2, .int a2), (3, .int u24)] [] := by
    intro f26
    induction f26 with
    | zero => intro u24 w27 h28 o29 z30 z31 z32; have b0 := Inv.get o29.1 rt_114_22 (j := 22) (by decide) (by decide); exfalso; omega
    | succ f26 ih33 =>
      intro u24 w27 h28 o29 z30 z31 z32
      refine r_aload_n 0 C dX11_takeNumber_42 rfl ?_
      refine gfX11_136 (v := (wI w27 114 22)) C (kS sM h28 kc_114) rfl dX11_takeNumber_43 ?_
      have b34 := Inv.get o29.1 rt_114_22 (j := 22) (by decide) (by decide)
      refine r_aload_n 0 C dX11_takeNumber_46 rfl ?_
      refine gfX11_130 (v := t) C (kS sM h28 kc_114) (h28.I (by decide) (by decide) pt) dX11_takeNumber_47 ?_
      refine r_icmp_ge 129 C dX11_takeNumber_50 (by decide) (fun c35 => ?_) (fun c35 => ?_)
      · have c35' := i_le c35
        refine r_aload_n 0 C dX11_takeNumber_129 rfl ?_
        refine gfX11_136 (v := (wI w27 114 22)) C (kS sM h28 kc_114) rfl dX11_takeNumber_130 ?_
        refine r_aload_n 0 C dX11_takeNumber_133 rfl ?_
        refine gfX11_170 (v := (wI w27 114 26)) C (kS sM h28 kc_114) rfl dX11_takeNumber_134 ?_
        refine r_isub C dX11_takeNumber_137 (fun v36 e37 => ?_)
        refine r_iconst (v := 3) C dX11_takeNumber_138 (by decide) ?_
        have k39 := i_rng v36
        refine r_icmp_gt 157 C dX11_takeNumber_139 (by decide) (fun c38 => ?_) (fun c38 => ?_)
        · have c38' := i_lt c38
          refine r_aload_n 0 C dX11_takeNumber_157 rfl ?_
          refine r_iconst (v := 2) C dX11_takeNumber_158 (by decide) ?_
          refine r_aload_n 0 C dX11_takeNumber_159 rfl ?_
          refine gfX11_170 (v := (wI w27 114 26)) C (kS sM h28 kc_114) rfl dX11_takeNumber_160 ?_
          refine callVI C cwX11_166_V (ctX11_fails _ _ w27 (sS sM h28) o29 2 (wI w27 114 26) ) (by decide) (kS sM h28 kc_114) rfl rfl rfl (Nat.le_of_ble_eq_true rfl) (by decide) dX11_takeNumber_163 (fun r42 w41 y40 => ?_)
          show V x 0 0 w41 166 [(0, .ref (gz (xG x) + 114)), (1, .int a1), (2, .int a2), (3, .int u24)] [.int r42]
          obtain ⟨h43, o44, g45⟩ := y40
          have h46 := Ch.tr h28 h43 (by decide) (by decide)
          refine r_goto 170 C dX11_takeNumber_166 (by decide) ?_
          exact hret _ _ _ _ dX11_takeNumber_170 rfl ⟨h46, o44, (by rw [(h43.I (by decide) (by decide) rfl)]; omega), (by rw [(h43.I (by decide) (by decide) rfl)]; omega), by omega⟩
        · have c38' := i_nlt c38
          refine r_aload_n 0 C dX11_takeNumber_142 rfl ?_
          refine gfX11_173 (v := (wI w27 114 25)) C (kS sM h28 kc_114) rfl dX11_takeNumber_143 ?_
          refine r_i2l C dX11_takeNumber_146 (fun v47 e48 => ?_)
          have v47' := i2l_ok e48
          refine r_iload_n 1 C dX11_takeNumber_147 rfl ?_
          refine r_i2l C dX11_takeNumber_148 (fun v49 e50 => ?_)
          have v49' := i2l_ok e50
          refine r_iload_n 2 C dX11_takeNumber_149 rfl ?_
          refine r_i2l C dX11_takeNumber_150 (fun v51 e52 => ?_)
          have v51' := i2l_ok e52
          refine callSI C cwX11_114_S (ctX11_in _ _ w27 v47 v49 v51 ) (by decide) rfl rfl (Nat.le_of_ble_eq_true rfl) (by decide) dX11_takeNumber_151 (fun r55 w54 y53 => ?_)
          obtain ⟨y53, g56⟩ := y53
          obtain rfl := y53.symm
          show V x 0 0 w27 154 [(0, .ref (gz (xG x) + 114)), (1, .int a1), (2, .int a2), (3, .int u24)] [.int r55]
          refine r_if_ne 169 C dX11_takeNumber_154 (by decide) (fun c57 => ?_) (fun c57 => ?_)
          · have c57' := i_ne c57
            refine r_iconst (v := 0) C dX11_takeNumber_169 (by decide) ?_
            exact hret _ _ _ _ dX11_takeNumber_170 rfl ⟨h28, o29, (by omega), (by omega), by omega⟩
          · have c57' := i_eq c57
            refine r_aload_n 0 C dX11_takeNumber_157 rfl ?_
            refine r_iconst (v := 2) C dX11_takeNumber_158 (by decide) ?_
            refine r_aload_n 0 C dX11_takeNumber_159 rfl ?_
            refine gfX11_170 (v := (wI w27 114 26)) C (kS sM h28 kc_114) rfl dX11_takeNumber_160 ?_
            refine callVI C cwX11_166_V (ctX11_fails _ _ w27 (sS sM h28) o29 2 (wI w27 114 26) ) (by decide) (kS sM h28 kc_114) rfl rfl rfl (Nat.le_of_ble_eq_true rfl) (by decide) dX11_takeNumber_163 (fun r60 w59 y58 => ?_)
            show V x 0 0 w59 166 [(0, .ref (gz (xG x) + 114)), (1, .int a1), (2, .int a2), (3, .int u24)] [.int r60]
            obtain ⟨h61, o62, g63⟩ := y58
            have h64 := Ch.tr h28 h61 (by decide) (by decide)
            refine r_goto 170 C dX11_takeNumber_166 (by decide) ?_
            exact hret _ _ _ _ dX11_takeNumber_170 rfl ⟨h64, o62, (by rw [(h61.I (by decide) (by decide) rfl)]; omega), (by rw [(h61.I (by decide) (by decide) rfl)]; omega), by omega⟩
      · have c35' := i_nle c35
        refine r_aload_n 0 C dX11_takeNumber_53 rfl ?_
        refine gfX11_47 125 C (kS sM h28 kc_114) (xS sM h28 xc_114_19) dX11_takeNumber_54 ?_
        refine r_aload_n 0 C dX11_takeNumber_57 rfl ?_
        refine gfX11_136 (v := (wI w27 114 22)) C (kS sM h28 kc_114) rfl dX11_takeNumber_58 ?_
        refine r_iald C (kS sM h28 kc_125) (vin (by omega) (by omega)) dX11_takeNumber_61 ?_
        generalize (wI w27 125 ((wI w27 114 22)).toNatClampNeg) = v65
        refine r_i2l C dX11_takeNumber_62 (fun v66 e67 => ?_)
        have v66' := i2l_ok e67
        refine r_ldc2 C mw6_50 dX11_takeNumber_63 ?_
        refine r_ldc2 C mw6_51 dX11_takeNumber_66 ?_
        refine callSI C cwX11_114_S (ctX11_in _ _ w27 v66 48 57 ) (by decide) rfl rfl (Nat.le_of_ble_eq_true rfl) (by decide) dX11_takeNumber_69 (fun r70 w69 y68 => ?_)
        obtain ⟨y68, g71⟩ := y68
        obtain rfl := y68.symm
        show V x 0 0 w27 72 [(0, .ref (gz (xG x) + 114)), (1, .int a1), (2, .int a2), (3, .int u24)] [.int r70]
        refine r_if_eq 129 C dX11_takeNumber_72 (by decide) (fun c72 => ?_) (fun c72 => ?_)
        · have c72' := i_eq c72
          refine r_aload_n 0 C dX11_takeNumber_129 rfl ?_
          refine gfX11_136 (v := (wI w27 114 22)) C (kS sM h28 kc_114) rfl dX11_takeNumber_130 ?_
          refine r_aload_n 0 C dX11_takeNumber_133 rfl ?_
          refine gfX11_170 (v := (wI w27 114 26)) C (kS sM h28 kc_114) rfl dX11_takeNumber_134 ?_
          refine r_isub C dX11_takeNumber_137 (fun v73 e74 => ?_)
          refine r_iconst (v := 3) C dX11_takeNumber_138 (by decide) ?_
          have k76 := i_rng v73
          refine r_icmp_gt 157 C dX11_takeNumber_139 (by decide) (fun c75 => ?_) (fun c75 => ?_)
          · have c75' := i_lt c75
            refine r_aload_n 0 C dX11_takeNumber_157 rfl ?_
            refine r_iconst (v := 2) C dX11_takeNumber_158 (by decide) ?_
            refine r_aload_n 0 C dX11_takeNumber_159 rfl ?_
            refine gfX11_170 (v := (wI w27 114 26)) C (kS sM h28 kc_114) rfl dX11_takeNumber_160 ?_
            refine callVI C cwX11_166_V (ctX11_fails _ _ w27 (sS sM h28) o29 2 (wI w27 114 26) ) (by decide) (kS sM h28 kc_114) rfl rfl rfl (Nat.le_of_ble_eq_true rfl) (by decide) dX11_takeNumber_163 (fun r79 w78 y77 => ?_)
            show V x 0 0 w78 166 [(0, .ref (gz (xG x) + 114)), (1, .int a1), (2, .int a2), (3, .int u24)] [.int r79]
            obtain ⟨h80, o81, g82⟩ := y77
            have h83 := Ch.tr h28 h80 (by decide) (by decide)
            refine r_goto 170 C dX11_takeNumber_166 (by decide) ?_
            exact hret _ _ _ _ dX11_takeNumber_170 rfl ⟨h83, o81, (by rw [(h80.I (by decide) (by decide) rfl)]; omega), (by rw [(h80.I (by decide) (by decide) rfl)]; omega), by omega⟩
          · have c75' := i_nlt c75
            refine r_aload_n 0 C dX11_takeNumber_142 rfl ?_
            refine gfX11_173 (v := (wI w27 114 25)) C (kS sM h28 kc_114) rfl dX11_takeNumber_143 ?_
            refine r_i2l C dX11_takeNumber_146 (fun v84 e85 => ?_)
            have v84' := i2l_ok e85
            refine r_iload_n 1 C dX11_takeNumber_147 rfl ?_
            refine r_i2l C dX11_takeNumber_148 (fun v86 e87 => ?_)
            have v86' := i2l_ok e87
            refine r_iload_n 2 C dX11_takeNumber_149 rfl ?_
            refine r_i2l C dX11_takeNumber_150 (fun v88 e89 => ?_)
            have v88' := i2l_ok e89
            refine callSI C cwX11_114_S (ctX11_in _ _ w27 v84 v86 v88 ) (by decide) rfl rfl (Nat.le_of_ble_eq_true rfl) (by decide) dX11_takeNumber_151 (fun r92 w91 y90 => ?_)
            obtain ⟨y90, g93⟩ := y90
            obtain rfl := y90.symm
            show V x 0 0 w27 154 [(0, .ref (gz (xG x) + 114)), (1, .int a1), (2, .int a2), (3, .int u24)] [.int r92]
            refine r_if_ne 169 C dX11_takeNumber_154 (by decide) (fun c94 => ?_) (fun c94 => ?_)
            · have c94' := i_ne c94
              refine r_iconst (v := 0) C dX11_takeNumber_169 (by decide) ?_
              exact hret _ _ _ _ dX11_takeNumber_170 rfl ⟨h28, o29, (by omega), (by omega), by omega⟩
            · have c94' := i_eq c94
              refine r_aload_n 0 C dX11_takeNumber_157 rfl ?_
              refine r_iconst (v := 2) C dX11_takeNumber_158 (by decide) ?_
              refine r_aload_n 0 C dX11_takeNumber_159 rfl ?_
              refine gfX11_170 (v := (wI w27 114 26)) C (kS sM h28 kc_114) rfl dX11_takeNumber_160 ?_
              refine callVI C cwX11_166_V (ctX11_fails _ _ w27 (sS sM h28) o29 2 (wI w27 114 26) ) (by decide) (kS sM h28 kc_114) rfl rfl rfl (Nat.le_of_ble_eq_true rfl) (by decide) dX11_takeNumber_163 (fun r97 w96 y95 => ?_)
              show V x 0 0 w96 166 [(0, .ref (gz (xG x) + 114)), (1, .int a1), (2, .int a2), (3, .int u24)] [.int r97]
              obtain ⟨h98, o99, g100⟩ := y95
              have h101 := Ch.tr h28 h98 (by decide) (by decide)
              refine r_goto 170 C dX11_takeNumber_166 (by decide) ?_
              exact hret _ _ _ _ dX11_takeNumber_170 rfl ⟨h101, o99, (by rw [(h98.I (by decide) (by decide) rfl)]; omega), (by rw [(h98.I (by decide) (by decide) rfl)]; omega), by omega⟩
        · have c72' := i_ne c72
          refine r_aload_n 0 C dX11_takeNumber_75 rfl ?_
          refine r_aload_n 0 C dX11_takeNumber_76 rfl ?_
          refine gfX11_173 (v := (wI w27 114 25)) C (kS sM h28 kc_114) rfl dX11_takeNumber_77 ?_
          refine r_sipush (v := 10000) C dX11_takeNumber_80 (by decide) ?_
          have k103 := i_rng (wI w27 114 25)
          refine r_icmp_le 93 C dX11_takeNumber_83 (by decide) (fun c102 => ?_) (fun c102 => ?_)
          · have c102' := i_le c102
            refine r_bipush (v := 10) C dX11_takeNumber_93 (by decide) ?_
            refine r_aload_n 0 C dX11_takeNumber_95 rfl ?_
            refine gfX11_173 (v := (wI w27 114 25)) C (kS sM h28 kc_114) rfl dX11_takeNumber_96 ?_
            refine r_imul C dX11_takeNumber_99 (fun v104 e105 => ?_)
            refine r_aload_n 0 C dX11_takeNumber_100 rfl ?_
            refine gfX11_47 125 C (kS sM h28 kc_114) (xS sM h28 xc_114_19) dX11_takeNumber_101 ?_
            refine r_aload_n 0 C dX11_takeNumber_104 rfl ?_
            refine gfX11_136 (v := (wI w27 114 22)) C (kS sM h28 kc_114) rfl dX11_takeNumber_105 ?_
            refine r_iald C (kS sM h28 kc_125) (vin (by omega) (by omega)) dX11_takeNumber_108 ?_
            generalize (wI w27 125 ((wI w27 114 22)).toNatClampNeg) = v106
            refine r_iadd C dX11_takeNumber_109 (fun v107 e108 => ?_)
            refine r_bipush (v := 48) C dX11_takeNumber_110 (by decide) ?_
            refine r_isub C dX11_takeNumber_112 (fun v109 e110 => ?_)
            refine pfX11_173 C (kS sM h28 kc_114) dX11_takeNumber_113 (fun w111 e112 => ?_)
            have h113 := Ch.putF h28 e112 (by decide)
            have k115 := i_rng v109
            have o114 : OkM w111 := ⟨Inv.putk o29.1 e112 (by decide), Rel.putF o29.2 e112 (by decide)⟩
            refine r_aload_n 0 C dX11_takeNumber_116 rfl ?_
            refine r_dup C dX11_takeNumber_117 rfl ?_
            refine gfX11_136 (v := (wI w27 114 22)) C (kS sM h113 kc_114) (g_nk e112 (by decide) rfl) dX11_takeNumber_118 ?_
            refine r_iconst (v := 1) C dX11_takeNumber_121 (by decide) ?_
            refine r_iadd C dX11_takeNumber_122 (fun v116 e117 => ?_)
            have v116' := iadd_ok e117 (by omega) (by omega)
            refine pfX11_136 C (kS sM h113 kc_114) dX11_takeNumber_123 (fun w118 e119 => ?_)
            have h120 := Ch.putF h113 e119 (by decide)
            have o121 : OkM w118 := ⟨Inv.put o114.1 e119 0 501 (by omega) (by decide), Rel.putF o114.2 e119 (by decide)⟩
            refine r_goto 42 C dX11_takeNumber_126 (by decide) ?_
            refine r_lv [0, 1, 2, 3] rfl ?_
            exact ih33 u24 w118 h120 o121 (by omega) (by rw [(g_eq e119)]; omega) (by rw [(g_eq e119)]; omega)
          · have c102' := i_nle c102
            refine r_aload_n 0 C dX11_takeNumber_86 rfl ?_
            refine gfX11_173 (v := (wI w27 114 25)) C (kS sM h28 kc_114) rfl dX11_takeNumber_87 ?_
            refine r_goto 113 C dX11_takeNumber_90 (by decide) ?_
            refine pfX11_173 C (kS sM h28 kc_114) dX11_takeNumber_113 (fun w122 e123 => ?_)
            have h124 := Ch.putF h28 e123 (by decide)
            have k126 := i_rng (wI w27 114 25)
            have o125 : OkM w122 := ⟨Inv.putk o29.1 e123 (by decide), Rel.putF o29.2 e123 (by decide)⟩
            refine r_aload_n 0 C dX11_takeNumber_116 rfl ?_
            refine r_dup C dX11_takeNumber_117 rfl ?_
            refine gfX11_136 (v := (wI w27 114 22)) C (kS sM h124 kc_114) (g_nk e123 (by decide) rfl) dX11_takeNumber_118 ?_
            refine r_iconst (v := 1) C dX11_takeNumber_121 (by decide) ?_
            refine r_iadd C dX11_takeNumber_122 (fun v127 e128 => ?_)
            have v127' := iadd_ok e128 (by omega) (by omega)
            refine pfX11_136 C (kS sM h124 kc_114) dX11_takeNumber_123 (fun w129 e130 => ?_)
            have h131 := Ch.putF h124 e130 (by decide)
            have o132 : OkM w129 := ⟨Inv.put o125.1 e130 0 501 (by omega) (by decide), Rel.putF o125.2 e130 (by decide)⟩
            refine r_goto 42 C dX11_takeNumber_126 (by decide) ?_
            refine r_lv [0, 1, 2, 3] rfl ?_
            exact ih33 u24 w129 h131 o132 (by omega) (by rw [(g_eq e130)]; omega) (by rw [(g_eq e130)]; omega)
  refine r_aload_n 0 C dX11_takeNumber_0 rfl ?_
  refine callVI C cwX11_139_V (ctX11_here _ _ w (sS sM h0) o0 u pu (by omega) t pt (by omega)  ) (by decide) (kS sM h0 kc_114) rfl rfl rfl (Nat.le_of_ble_eq_true rfl) (by decide) dX11_takeNumber_1 (fun r3 w2 y1 => ?_)
  show V x 0 0 w2 4 [(0, .ref (gz (xG x) + 114)), (1, .int a1), (2, .int a2)] [.int r3]
  obtain ⟨h4, o5, f6⟩ := y1
  have h7 := Ch.tr h0 h4 (by decide) (by decide)
  refine r_istore_n [(3, .int r3), (0, .ref (gz (xG x) + 114)), (1, .int a1), (2, .int a2)] C dX11_takeNumber_4 (by decide) rfl ?_
  refine r_iload_n 0 C dX11_takeNumber_5 rfl ?_
  refine r_i2l C dX11_takeNumber_6 (fun v8 e9 => ?_)
  have v8' := i2l_ok e9
  refine r_ldc2 C mw6_50 dX11_takeNumber_7 ?_
  refine r_ldc2 C mw6_51 dX11_takeNumber_10 ?_
  refine callSI C cwX11_114_S (ctX11_in _ _ w2 v8 48 57 ) (by decide) rfl rfl (Nat.le_of_ble_eq_true rfl) (by decide) dX11_takeNumber_13 (fun r12 w11 y10 => ?_)
  obtain ⟨y10, g13⟩ := y10
  obtain rfl := y10.symm
  show V x 0 0 w2 16 [(3, .int r3), (0, .ref (gz (xG x) + 114)), (1, .int a1), (2, .int a2)] [.int r12]
  refine r_if_ne 29 C dX11_takeNumber_16 (by decide) (fun c14 => ?_) (fun c14 => ?_)
  · have c14' := i_ne c14
    refine r_aload_n 1 C dX11_takeNumber_29 rfl ?_
    refine r_aload_n 1 C dX11_takeNumber_30 rfl ?_
    refine gfX11_136 (v := (wI w2 114 22)) C (kS sM h7 kc_114) rfl dX11_takeNumber_31 ?_
    have b15 := Inv.get o5.1 rt_114_22 (j := 22) (by decide) (by decide)
    refine pfX11_170 C (kS sM h7 kc_114) dX11_takeNumber_34 (fun w16 e17 => ?_)
    have h18 := Ch.putF h7 e17 (by decide)
    have o19 : OkM w16 := ⟨Inv.putk o5.1 e17 (by decide), Rel.putF o5.2 e17 (by decide)⟩
    refine r_aload_n 1 C dX11_takeNumber_37 rfl ?_
    refine r_iconst (v := 0) C dX11_takeNumber_38 (by decide) ?_
    refine pfX11_173 C (kS sM h18 kc_114) dX11_takeNumber_39 (fun w20 e21 => ?_)
    have h22 := Ch.putF h18 e21 (by decide)
    have o23 : OkM w20 := ⟨Inv.putk o19.1 e21 (by decide), Rel.putF o19.2 e21 (by decide)⟩
    refine r_lv [1, 2, 3, 0] rfl ?_
    exact LP25 4294967296 r3 w20 h22 o23 (by omega) (by rw [(g_nk e21 (by decide) (g_nk e17 (by decide) rfl))]; omega) (by rw [(g_nk e21 (by decide) (g_nk e17 (by decide) rfl))]; omega)
  · have c14' := i_eq c14
    refine r_aload_n 1 C dX11_takeNumber_19 rfl ?_
    refine r_iconst (v := 1) C dX11_takeNumber_20 (by decide) ?_
    refine r_aload_n 1 C dX11_takeNumber_21 rfl ?_
    refine gfX11_136 (v := (wI w2 114 22)) C (kS sM h7 kc_114) rfl dX11_takeNumber_22 ?_
    have b133 := Inv.get o5.1 rt_114_22 (j := 22) (by decide) (by decide)
    refine callVI C cwX11_166_V (ctX11_fails _ _ w2 (sS sM h7) o5 1 (wI w2 114 22) ) (by decide) (kS sM h7 kc_114) rfl rfl rfl (Nat.le_of_ble_eq_true rfl) (by decide) dX11_takeNumber_25 (fun r136 w135 y134 => ?_)
    show V x 0 0 w135 28 [(3, .int r3), (0, .ref (gz (xG x) + 114)), (1, .int a1), (2, .int a2)] [.int r136]
    obtain ⟨h137, o138, g139⟩ := y134
    have h140 := Ch.tr h7 h137 (by decide) (by decide)
    exact hret _ _ _ _ dX11_takeNumber_28 rfl ⟨h140, o138, (by rw [(h137.I (by decide) (by decide) rfl)]; omega), (by rw [(h137.I (by decide) (by decide) (h4.I (by decide) (by decide) rfl))]; omega), by omega⟩
set_option maxHeartbeats 4000000 in
set_option maxRecDepth 100000 in
theorem ctX11_into_127 (l : Launch) (G : Gt) (w : Wv) (sM : Str KM XM w) (o0 : OkM w) (u : Int32) (pu : wI w 114 22 = u) (bu : 0 ≤ u.toInt ∧ u.toInt ≤ 500) (t : Int32) (pt : wI w 114 20 = t) (bt : 0 ≤ t.toInt ∧ t.toInt ≤ 500) (a2 : Int32) (a3 : Int32) (a4 : Int32) (b2 : 0 ≤ a2.toInt ∧ a2.toInt ≤ 5) : CtI l G yX11_into cX11_into 6 .int ({ frames := 2, cells := 0, slots := 0, locals := 48 } : Room) [.ref (gz G + 114), .ref (gz G + 127), .int a2, .int a3, .int a4] w (fun r w' => Ch [127] [(114, 21), (114, 22), (114, 25), (114, 26)] w w' ∧ OkM w' ∧ (u.toInt ≤ (wI w' 114 22).toInt ∧ (wI w' 114 22).toInt ≤ 500) ∧ (0 ≤ r.toInt ∧ r.toInt ≤ 2)) := by
  refine enterI (by decide) (Nat.le_of_ble_eq_true rfl) ?_
  intro x el eG C hret
  subst el; subst eG
  show V x 0 0 w 0 [(0, .ref (gz (xG x) + 114)), (1, .ref (gz (xG x) + 127)), (2, .int a2), (3, .int a3), (4, .int a4)] []
  have h0 : Ch [127] [(114, 21), (114, 22), (114, 25), (114, 26)] w w := Ch.rf
  obtain ⟨rA, rB, rC, rD⟩ := (o0.2 : Rel w)
  refine r_aload_n 0 C dX11_into_0 rfl ?_
  refine r_iload_n 3 C dX11_into_1 rfl ?_
  refine r_iload 4 C dX11_into_2 rfl ?_
  refine callVI C cwX11_176_V (ctX11_takeNumber _ _ w (sS sM h0) o0 u pu (by omega) t pt (by omega) a3 a4 ) (by decide) (kS sM h0 kc_114) rfl rfl rfl (Nat.le_of_ble_eq_true rfl) (by decide) dX11_into_4 (fun r3 w2 y1 => ?_)
  show V x 0 0 w2 7 [(0, .ref (gz (xG x) + 114)), (1, .ref (gz (xG x) + 127)), (2, .int a2), (3, .int a3), (4, .int a4)] [.int r3]
  obtain ⟨h4, o5, f6, f7, g8⟩ := y1
  have h9 := Ch.tr h0 h4 (by decide) (by decide)
  refine r_istore [(5, .int r3), (0, .ref (gz (xG x) + 114)), (1, .ref (gz (xG x) + 127)), (2, .int a2), (3, .int a3), (4, .int a4)] C dX11_into_7 (by decide) rfl ?_
  refine r_aload_n 2 C dX11_into_9 rfl ?_
  refine r_iload_n 3 C dX11_into_10 rfl ?_
  refine r_aload_n 1 C dX11_into_11 rfl ?_
  refine gfX11_173 (v := (wI w2 114 25)) C (kS sM h9 kc_114) rfl dX11_into_12 ?_
  refine r_iast C (kS sM h9 kc_127) (vin (by omega) (by omega)) dX11_into_15 (fun w10 e11 => ?_)
  have h12 := Ch.putS h9 e11 (by decide)
  have o13 : OkM w10 := ⟨Inv.put0 o5.1 e11 (by decide), Rel.putS o5.2 e11 (by decide)⟩
  refine r_iload 0 C dX11_into_16 rfl ?_
  exact hret _ _ _ _ dX11_into_18 rfl ⟨h12, o13, (by rw [(g_nn e11 (by decide) rfl)]; omega), by omega⟩
set_option maxHeartbeats 4000000 in
set_option maxRecDepth 100000 in
theorem ctX11_into_129 (l : Launch) (G : Gt) (w : Wv) (sM : Str KM XM w) (o0 : OkM w) (u : Int32) (pu : wI w 114 22 = u) (bu : 0 ≤ u.toInt ∧ u.toInt ≤ 500) (t : Int32) (pt : wI w 114 20 = t) (bt : 0 ≤ t.toInt ∧ t.toInt ≤ 500) (a2 : Int32) (a3 : Int32) (a4 : Int32) (b2 : 0 ≤ a2.toInt ∧ a2.toInt ≤ 5) : CtI l G yX11_into cX11_into 6 .int ({ frames := 2, cells := 0, slots := 0, locals := 48 } : Room) [.ref (gz G + 114), .ref (gz G + 129), .int a2, .int a3, .int a4] w (fun r w' => Ch [129] [(114, 21), (114, 22), (114, 25), (114, 26)] w w' ∧ OkM w' ∧ (u.toInt ≤ (wI w' 114 22).toInt ∧ (wI w' 114 22).toInt ≤ 500) ∧ (0 ≤ r.toInt ∧ r.toInt ≤ 2)) := by
  refine enterI (by decide) (Nat.le_of_ble_eq_true rfl) ?_
  intro x el eG C hret
  subst el; subst eG
  show V x 0 0 w 0 [(0, .ref (gz (xG x) + 114)), (1, .ref (gz (xG x) + 129)), (2, .int a2), (3, .int a3), (4, .int a4)] []
  have h0 : Ch [129] [(114, 21), (114, 22), (114, 25), (114, 26)] w w := Ch.rf
  obtain ⟨rA, rB, rC, rD⟩ := (o0.2 : Rel w)
  refine r_aload_n 0 C dX11_into_0 rfl ?_
  refine r_iload_n 3 C dX11_into_1 rfl ?_
  refine r_iload 4 C dX11_into_2 rfl ?_
  refine callVI C cwX11_176_V (ctX11_takeNumber _ _ w (sS sM h0) o0 u pu (by omega) t pt (by omega) a3 a4 ) (by decide) (kS sM h0 kc_114) rfl rfl rfl (Nat.le_of_ble_eq_true rfl) (by decide) dX11_into_4 (fun r3 w2 y1 => ?_)
  show V x 0 0 w2 7 [(0, .ref (gz (xG x) + 114)), (1, .ref (gz (xG x) + 129)), (2, .int a2), (3, .int a3), (4, .int a4)] [.int r3]
  obtain ⟨h4, o5, f6, f7, g8⟩ := y1
  have h9 := Ch.tr h0 h4 (by decide) (by decide)
  refine r_istore [(5, .int r3), (0, .ref (gz (xG x) + 114)), (1, .ref (gz (xG x) + 129)), (2, .int a2), (3, .int a3), (4, .int a4)] C dX11_into_7 (by decide) rfl ?_
  refine r_aload_n 2 C dX11_into_9 rfl ?_
  refine r_iload_n 3 C dX11_into_10 rfl ?_
  refine r_aload_n 1 C dX11_into_11 rfl ?_
  refine gfX11_173 (v := (wI w2 114 25)) C (kS sM h9 kc_114) rfl dX11_into_12 ?_
  refine r_iast C (kS sM h9 kc_129) (vin (by omega) (by omega)) dX11_into_15 (fun w10 e11 => ?_)
  have h12 := Ch.putS h9 e11 (by decide)
  have o13 : OkM w10 := ⟨Inv.put0 o5.1 e11 (by decide), Rel.putS o5.2 e11 (by decide)⟩
  refine r_iload 0 C dX11_into_16 rfl ?_
  exact hret _ _ _ _ dX11_into_18 rfl ⟨h12, o13, (by rw [(g_nn e11 (by decide) rfl)]; omega), by omega⟩
set_option maxHeartbeats 4000000 in
set_option maxRecDepth 100000 in
theorem ctX11_into_130 (l : Launch) (G : Gt) (w : Wv) (sM : Str KM XM w) (o0 : OkM w) (u : Int32) (pu : wI w 114 22 = u) (bu : 0 ≤ u.toInt ∧ u.toInt ≤ 500) (t : Int32) (pt : wI w 114 20 = t) (bt : 0 ≤ t.toInt ∧ t.toInt ≤ 500) (a2 : Int32) (a3 : Int32) (a4 : Int32) (b2 : 0 ≤ a2.toInt ∧ a2.toInt ≤ 5) : CtI l G yX11_into cX11_into 6 .int ({ frames := 2, cells := 0, slots := 0, locals := 48 } : Room) [.ref (gz G + 114), .ref (gz G + 130), .int a2, .int a3, .int a4] w (fun r w' => Ch [130] [(114, 21), (114, 22), (114, 25), (114, 26)] w w' ∧ OkM w' ∧ (u.toInt ≤ (wI w' 114 22).toInt ∧ (wI w' 114 22).toInt ≤ 500) ∧ (0 ≤ r.toInt ∧ r.toInt ≤ 2)) := by
  refine enterI (by decide) (Nat.le_of_ble_eq_true rfl) ?_
  intro x el eG C hret
  subst el; subst eG
  show V x 0 0 w 0 [(0, .ref (gz (xG x) + 114)), (1, .ref (gz (xG x) + 130)), (2, .int a2), (3, .int a3), (4, .int a4)] []
  have h0 : Ch [130] [(114, 21), (114, 22), (114, 25), (114, 26)] w w := Ch.rf
  obtain ⟨rA, rB, rC, rD⟩ := (o0.2 : Rel w)
  refine r_aload_n 0 C dX11_into_0 rfl ?_
  refine r_iload_n 3 C dX11_into_1 rfl ?_
  refine r_iload 4 C dX11_into_2 rfl ?_
  refine callVI C cwX11_176_V (ctX11_takeNumber _ _ w (sS sM h0) o0 u pu (by omega) t pt (by omega) a3 a4 ) (by decide) (kS sM h0 kc_114) rfl rfl rfl (Nat.le_of_ble_eq_true rfl) (by decide) dX11_into_4 (fun r3 w2 y1 => ?_)
  show V x 0 0 w2 7 [(0, .ref (gz (xG x) + 114)), (1, .ref (gz (xG x) + 130)), (2, .int a2), (3, .int a3), (4, .int a4)] [.int r3]
  obtain ⟨h4, o5, f6, f7, g8⟩ := y1
  have h9 := Ch.tr h0 h4 (by decide) (by decide)
  refine r_istore [(5, .int r3), (0, .ref (gz (xG x) + 114)), (1, .ref (gz (xG x) + 130)), (2, .int a2), (3, .int a3), (4, .int a4)] C dX11_into_7 (by decide) rfl ?_
  refine r_aload_n 2 C dX11_into_9 rfl ?_
  refine r_iload_n 3 C dX11_into_10 rfl ?_
  refine r_aload_n 1 C dX11_into_11 rfl ?_
  refine gfX11_173 (v := (wI w2 114 25)) C (kS sM h9 kc_114) rfl dX11_into_12 ?_
  refine r_iast C (kS sM h9 kc_130) (vin (by omega) (by omega)) dX11_into_15 (fun w10 e11 => ?_)
  have h12 := Ch.putS h9 e11 (by decide)
  have o13 : OkM w10 := ⟨Inv.put0 o5.1 e11 (by decide), Rel.putS o5.2 e11 (by decide)⟩
  refine r_iload 0 C dX11_into_16 rfl ?_
  exact hret _ _ _ _ dX11_into_18 rfl ⟨h12, o13, (by rw [(g_nn e11 (by decide) rfl)]; omega), by omega⟩
set_option maxHeartbeats 4000000 in
set_option maxRecDepth 100000 in
theorem ctX11_into_131 (l : Launch) (G : Gt) (w : Wv) (sM : Str KM XM w) (o0 : OkM w) (u : Int32) (pu : wI w 114 22 = u) (bu : 0 ≤ u.toInt ∧ u.toInt ≤ 500) (t : Int32) (pt : wI w 114 20 = t) (bt : 0 ≤ t.toInt ∧ t.toInt ≤ 500) (a2 : Int32) (a3 : Int32) (a4 : Int32) (b2 : 0 ≤ a2.toInt ∧ a2.toInt ≤ 5) : CtI l G yX11_into cX11_into 6 .int ({ frames := 2, cells := 0, slots := 0, locals := 48 } : Room) [.ref (gz G + 114), .ref (gz G + 131), .int a2, .int a3, .int a4] w (fun r w' => Ch [131] [(114, 21), (114, 22), (114, 25), (114, 26)] w w' ∧ OkM w' ∧ (u.toInt ≤ (wI w' 114 22).toInt ∧ (wI w' 114 22).toInt ≤ 500) ∧ (0 ≤ r.toInt ∧ r.toInt ≤ 2)) := by
  refine enterI (by decide) (Nat.le_of_ble_eq_true rfl) ?_
  intro x el eG C hret
  subst el; subst eG
  show V x 0 0 w 0 [(0, .ref (gz (xG x) + 114)), (1, .ref (gz (xG x) + 131)), (2, .int a2), (3, .int a3), (4, .int a4)] []
  have h0 : Ch [131] [(114, 21), (114, 22), (114, 25), (114, 26)] w w := Ch.rf
  obtain ⟨rA, rB, rC, rD⟩ := (o0.2 : Rel w)
  refine r_aload_n 0 C dX11_into_0 rfl ?_
  refine r_iload_n 3 C dX11_into_1 rfl ?_
  refine r_iload 4 C dX11_into_2 rfl ?_
  refine callVI C cwX11_176_V (ctX11_takeNumber _ _ w (sS sM h0) o0 u pu (by omega) t pt (by omega) a3 a4 ) (by decide) (kS sM h0 kc_114) rfl rfl rfl (Nat.le_of_ble_eq_true rfl) (by decide) dX11_into_4 (fun r3 w2 y1 => ?_)
  show V x 0 0 w2 7 [(0, .ref (gz (xG x) + 114)), (1, .ref (gz (xG x) + 131)), (2, .int a2), (3, .int a3), (4, .int a4)] [.int r3]
  obtain ⟨h4, o5, f6, f7, g8⟩ := y1
  have h9 := Ch.tr h0 h4 (by decide) (by decide)
  refine r_istore [(5, .int r3), (0, .ref (gz (xG x) + 114)), (1, .ref (gz (xG x) + 131)), (2, .int a2), (3, .int a3), (4, .int a4)] C dX11_into_7 (by decide) rfl ?_
  refine r_aload_n 2 C dX11_into_9 rfl ?_
  refine r_iload_n 3 C dX11_into_10 rfl ?_
  refine r_aload_n 1 C dX11_into_11 rfl ?_
  refine gfX11_173 (v := (wI w2 114 25)) C (kS sM h9 kc_114) rfl dX11_into_12 ?_
  refine r_iast C (kS sM h9 kc_131) (vin (by omega) (by omega)) dX11_into_15 (fun w10 e11 => ?_)
  have h12 := Ch.putS h9 e11 (by decide)
  have o13 : OkM w10 := ⟨Inv.put0 o5.1 e11 (by decide), Rel.putS o5.2 e11 (by decide)⟩
  refine r_iload 0 C dX11_into_16 rfl ?_
  exact hret _ _ _ _ dX11_into_18 rfl ⟨h12, o13, (by rw [(g_nn e11 (by decide) rfl)]; omega), by omega⟩
set_option maxHeartbeats 4000000 in
set_option maxRecDepth 100000 in
theorem ctX11_into_132 (l : Launch) (G : Gt) (w : Wv) (sM : Str KM XM w) (o0 : OkM w) (u : Int32) (pu : wI w 114 22 = u) (bu : 0 ≤ u.toInt ∧ u.toInt ≤ 500) (t : Int32) (pt : wI w 114 20 = t) (bt : 0 ≤ t.toInt ∧ t.toInt ≤ 500) (a2 : Int32) (a3 : Int32) (a4 : Int32) (b2 : 0 ≤ a2.toInt ∧ a2.toInt ≤ 2) : CtI l G yX11_into cX11_into 6 .int ({ frames := 2, cells := 0, slots := 0, locals := 48 } : Room) [.ref (gz G + 114), .ref (gz G + 132), .int a2, .int a3, .int a4] w (fun r w' => Ch [132] [(114, 21), (114, 22), (114, 25), (114, 26)] w w' ∧ OkM w' ∧ (u.toInt ≤ (wI w' 114 22).toInt ∧ (wI w' 114 22).toInt ≤ 500) ∧ (0 ≤ r.toInt ∧ r.toInt ≤ 2)) := by
  refine enterI (by decide) (Nat.le_of_ble_eq_true rfl) ?_
  intro x el eG C hret
  subst el; subst eG
  show V x 0 0 w 0 [(0, .ref (gz (xG x) + 114)), (1, .ref (gz (xG x) + 132)), (2, .int a2), (3, .int a3), (4, .int a4)] []
  have h0 : Ch [132] [(114, 21), (114, 22), (114, 25), (114, 26)] w w := Ch.rf
  obtain ⟨rA, rB, rC, rD⟩ := (o0.2 : Rel w)
  refine r_aload_n 0 C dX11_into_0 rfl ?_
  refine r_iload_n 3 C dX11_into_1 rfl ?_
  refine r_iload 4 C dX11_into_2 rfl ?_
  refine callVI C cwX11_176_V (ctX11_takeNumber _ _ w (sS sM h0) o0 u pu (by omega) t pt (by omega) a3 a4 ) (by decide) (kS sM h0 kc_114) rfl rfl rfl (Nat.le_of_ble_eq_true rfl) (by decide) dX11_into_4 (fun r3 w2 y1 => ?_)
  show V x 0 0 w2 7 [(0, .ref (gz (xG x) + 114)), (1, .ref (gz (xG x) + 132)), (2, .int a2), (3, .int a3), (4, .int a4)] [.int r3]
  obtain ⟨h4, o5, f6, f7, g8⟩ := y1
  have h9 := Ch.tr h0 h4 (by decide) (by decide)
  refine r_istore [(5, .int r3), (0, .ref (gz (xG x) + 114)), (1, .ref (gz (xG x) + 132)), (2, .int a2), (3, .int a3), (4, .int a4)] C dX11_into_7 (by decide) rfl ?_
  refine r_aload_n 2 C dX11_into_9 rfl ?_
  refine r_iload_n 3 C dX11_into_10 rfl ?_
  refine r_aload_n 1 C dX11_into_11 rfl ?_
  refine gfX11_173 (v := (wI w2 114 25)) C (kS sM h9 kc_114) rfl dX11_into_12 ?_
  refine r_iast C (kS sM h9 kc_132) (vin (by omega) (by omega)) dX11_into_15 (fun w10 e11 => ?_)
  have h12 := Ch.putS h9 e11 (by decide)
  have o13 : OkM w10 := ⟨Inv.put0 o5.1 e11 (by decide), Rel.putS o5.2 e11 (by decide)⟩
  refine r_iload 0 C dX11_into_16 rfl ?_
  exact hret _ _ _ _ dX11_into_18 rfl ⟨h12, o13, (by rw [(g_nn e11 (by decide) rfl)]; omega), by omega⟩
set_option maxHeartbeats 4000000 in
set_option maxRecDepth 100000 in
theorem ctX11_into_133 (l : Launch) (G : Gt) (w : Wv) (sM : Str KM XM w) (o0 : OkM w) (u : Int32) (pu : wI w 114 22 = u) (bu : 0 ≤ u.toInt ∧ u.toInt ≤ 500) (t : Int32) (pt : wI w 114 20 = t) (bt : 0 ≤ t.toInt ∧ t.toInt ≤ 500) (a2 : Int32) (a3 : Int32) (a4 : Int32) (b2 : 0 ≤ a2.toInt ∧ a2.toInt ≤ 2) : CtI l G yX11_into cX11_into 6 .int ({ frames := 2, cells := 0, slots := 0, locals := 48 } : Room) [.ref (gz G + 114), .ref (gz G + 133), .int a2, .int a3, .int a4] w (fun r w' => Ch [133] [(114, 21), (114, 22), (114, 25), (114, 26)] w w' ∧ OkM w' ∧ (u.toInt ≤ (wI w' 114 22).toInt ∧ (wI w' 114 22).toInt ≤ 500) ∧ (0 ≤ r.toInt ∧ r.toInt ≤ 2)) := by
  refine enterI (by decide) (Nat.le_of_ble_eq_true rfl) ?_
  intro x el eG C hret
  subst el; subst eG
  show V x 0 0 w 0 [(0, .ref (gz (xG x) + 114)), (1, .ref (gz (xG x) + 133)), (2, .int a2), (3, .int a3), (4, .int a4)] []
  have h0 : Ch [133] [(114, 21), (114, 22), (114, 25), (114, 26)] w w := Ch.rf
  obtain ⟨rA, rB, rC, rD⟩ := (o0.2 : Rel w)
  refine r_aload_n 0 C dX11_into_0 rfl ?_
  refine r_iload_n 3 C dX11_into_1 rfl ?_
  refine r_iload 4 C dX11_into_2 rfl ?_
  refine callVI C cwX11_176_V (ctX11_takeNumber _ _ w (sS sM h0) o0 u pu (by omega) t pt (by omega) a3 a4 ) (by decide) (kS sM h0 kc_114) rfl rfl rfl (Nat.le_of_ble_eq_true rfl) (by decide) dX11_into_4 (fun r3 w2 y1 => ?_)
  show V x 0 0 w2 7 [(0, .ref (gz (xG x) + 114)), (1, .ref (gz (xG x) + 133)), (2, .int a2), (3, .int a3), (4, .int a4)] [.int r3]
  obtain ⟨h4, o5, f6, f7, g8⟩ := y1
  have h9 := Ch.tr h0 h4 (by decide) (by decide)
  refine r_istore [(5, .int r3), (0, .ref (gz (xG x) + 114)), (1, .ref (gz (xG x) + 133)), (2, .int a2), (3, .int a3), (4, .int a4)] C dX11_into_7 (by decide) rfl ?_
  refine r_aload_n 2 C dX11_into_9 rfl ?_
  refine r_iload_n 3 C dX11_into_10 rfl ?_
  refine r_aload_n 1 C dX11_into_11 rfl ?_
  refine gfX11_173 (v := (wI w2 114 25)) C (kS sM h9 kc_114) rfl dX11_into_12 ?_
  refine r_iast C (kS sM h9 kc_133) (vin (by omega) (by omega)) dX11_into_15 (fun w10 e11 => ?_)
  have h12 := Ch.putS h9 e11 (by decide)
  have o13 : OkM w10 := ⟨Inv.put0 o5.1 e11 (by decide), Rel.putS o5.2 e11 (by decide)⟩
  refine r_iload 0 C dX11_into_16 rfl ?_
  exact hret _ _ _ _ dX11_into_18 rfl ⟨h12, o13, (by rw [(g_nn e11 (by decide) rfl)]; omega), by omega⟩
set_option maxHeartbeats 4000000 in
set_option maxRecDepth 100000 in
theorem ctX11_takeTown (l : Launch) (G : Gt) (w : Wv) (sM : Str KM XM w) (o0 : OkM w) (u : Int32) (pu : wI w 114 22 = u) (bu : 0 ≤ u.toInt ∧ u.toInt ≤ 500) (t : Int32) (pt : wI w 114 20 = t) (bt : 0 ≤ t.toInt ∧ t.toInt ≤ 500)  : CtI l G yX11_takeTown cX11_takeTown 3 .int ({ frames := 2, cells := 0, slots := 0, locals := 48 } : Room) [.ref (gz G + 114)] w (fun r w' => Ch [] [(114, 21), (114, 22), (114, 25), (114, 26), (114, 27), (114, 28)] w w' ∧ OkM w' ∧ (u.toInt ≤ (wI w' 114 22).toInt ∧ (wI w' 114 22).toInt ≤ 500) ∧ (0 ≤ r.toInt ∧ r.toInt ≤ 2)) := by
  refine enterI (by decide) (Nat.le_of_ble_eq_true rfl) ?_
  intro x el eG C hret
  subst el; subst eG
  show V x 0 0 w 0 [(0, .ref (gz (xG x) + 114))] []
  have h0 : Ch [] [(114, 21), (114, 22), (114, 25), (114, 26), (114, 27), (114, 28)] w w := Ch.rf
  have q0 : (0 : Int32).toInt = 0 := by decide
  have q1 : (1 : Int32).toInt = 1 := by decide
  have q2 : (2 : Int32).toInt = 2 := by decide
  have q9 : (9 : Int32).toInt = 9 := by decide
  have q42 : (42 : Int32).toInt = 42 := by decide
  obtain ⟨rA, rB, rC, rD⟩ := (o0.2 : Rel w)
  refine r_aload_n 0 C dX11_takeTown_0 rfl ?_
  refine r_iconst (v := 1) C dX11_takeTown_1 (by decide) ?_
  refine r_bipush (v := 9) C dX11_takeTown_2 (by decide) ?_
  refine callVI C cwX11_176_V (ctX11_takeNumber _ _ w (sS sM h0) o0 u pu (by omega) t pt (by omega) 1 9 ) (by decide) (kS sM h0 kc_114) rfl rfl rfl (Nat.le_of_ble_eq_true rfl) (by decide) dX11_takeTown_4 (fun r3 w2 y1 => ?_)
  show V x 0 0 w2 7 [(0, .ref (gz (xG x) + 114))] [.int r3]
  obtain ⟨h4, o5, f6, f7, g8⟩ := y1
  have h9 := Ch.tr h0 h4 (by decide) (by decide)
  refine r_istore_n [(1, .int r3), (0, .ref (gz (xG x) + 114))] C dX11_takeTown_7 (by decide) rfl ?_
  refine r_aload_n 1 C dX11_takeTown_8 rfl ?_
  refine gfX11_173 (v := (wI w2 114 25)) C (kS sM h9 kc_114) rfl dX11_takeTown_9 ?_
  refine r_istore_n [(2, .int (wI w2 114 25)), (1, .int r3), (0, .ref (gz (xG x) + 114))] C dX11_takeTown_12 (by decide) rfl ?_
  refine r_iload_n 1 C dX11_takeTown_13 rfl ?_
  refine r_if_le 21 C dX11_takeTown_14 (by decide) (fun c10 => ?_) (fun c10 => ?_)
  · have c10' := i_le c10
    refine r_aload_n 2 C dX11_takeTown_21 rfl ?_
    refine r_iconst (v := 1) C dX11_takeTown_22 (by decide) ?_
    refine r_bipush (v := 9) C dX11_takeTown_23 (by decide) ?_
    have b11 := Inv.get o5.1 rt_114_22 (j := 22) (by decide) (by decide)
    refine callVI C cwX11_176_V (ctX11_takeNumber _ _ w2 (sS sM h9) o5 (wI w2 114 22) rfl (by omega) t (h4.I (by decide) (by decide) pt) (by omega) 1 9 ) (by decide) (kS sM h9 kc_114) rfl rfl rfl (Nat.le_of_ble_eq_true rfl) (by decide) dX11_takeTown_25 (fun r14 w13 y12 => ?_)
    show V x 0 0 w13 28 [(2, .int (wI w2 114 25)), (1, .int r3), (0, .ref (gz (xG x) + 114))] [.int r14]
    obtain ⟨h15, o16, f17, f18, g19⟩ := y12
    have h20 := Ch.tr h9 h15 (by decide) (by decide)
    refine r_istore_n [(1, .int r14), (2, .int (wI w2 114 25)), (0, .ref (gz (xG x) + 114))] C dX11_takeTown_28 (by decide) rfl ?_
    refine r_iload_n 0 C dX11_takeTown_29 rfl ?_
    refine r_if_le 35 C dX11_takeTown_30 (by decide) (fun c21 => ?_) (fun c21 => ?_)
    · have c21' := i_le c21
      refine r_iload_n 1 C dX11_takeTown_35 rfl ?_
      refine r_aload_n 2 C dX11_takeTown_36 rfl ?_
      refine gfX11_173 (v := (wI w13 114 25)) C (kS sM h20 kc_114) rfl dX11_takeTown_37 ?_
      refine r_imul C dX11_takeTown_40 (fun v22 e23 => ?_)
      have v22' := imul_rng e23 (A := 9) (B := 9) (by omega) (by omega) (by decide)
      refine r_bipush (v := 42) C dX11_takeTown_41 (by decide) ?_
      refine r_icmp_le 56 C dX11_takeTown_43 (by decide) (fun c24 => ?_) (fun c24 => ?_)
      · have c24' := i_le c24
        refine r_aload_n 2 C dX11_takeTown_56 rfl ?_
        refine r_iload_n 1 C dX11_takeTown_57 rfl ?_
        refine pfX11_179 C (kS sM h20 kc_114) dX11_takeTown_58 (fun w25 e26 => ?_)
        have h27 := Ch.putF h20 e26 (by decide)
        have k29 := i_rng (wI w2 114 25)
        have o28 := Inv.put o16.1 e26 0 9 (by omega) (by decide)
        refine r_aload_n 2 C dX11_takeTown_61 rfl ?_
        refine r_aload_n 2 C dX11_takeTown_62 rfl ?_
        refine gfX11_173 (v := (wI w13 114 25)) C (kS sM h27 kc_114) (g_nk e26 (by decide) rfl) dX11_takeTown_63 ?_
        refine pfX11_182 C (kS sM h27 kc_114) dX11_takeTown_66 (fun w30 e31 => ?_)
        have h32 := Ch.putF h27 e31 (by decide)
        have k34 := i_rng (wI w13 114 25)
        have o33 := Inv.put o28 e31 0 9 (by omega) (by decide)
        have o35 : OkM w30 := ⟨o33, Rel.of (g_nk e31 (by decide) (g_nk e26 (by decide) (h15.I (by decide) (by decide) (h4.I (by decide) (by decide) rfl)))) (g_nk e31 (by decide) (g_nk e26 (by decide) (h15.I (by decide) (by decide) (h4.I (by decide) (by decide) rfl)))) (g_nk e31 (by decide) (g_eq e26)) (g_eq e31) (g_nk e31 (by decide) (g_nk e26 (by decide) (h15.I (by decide) (by decide) (h4.I (by decide) (by decide) rfl)))) (g_nk e31 (by decide) (g_nk e26 (by decide) (h15.I (by decide) (by decide) (h4.I (by decide) (by decide) rfl)))) (by first | omega | (simp only [q0]; omega)) (by first | omega | (simp only [q0]; omega)) (by first | omega | (simp only [q0]; omega)) (by first | omega | (simp only [q0]; omega))⟩
        refine r_iconst (v := 0) C dX11_takeTown_69 (by decide) ?_
        exact hret _ _ _ _ dX11_takeTown_70 rfl ⟨h32, o35, (by rw [(g_nk e31 (by decide) (g_nk e26 (by decide) rfl))]; omega), by omega⟩
      · have c24' := i_nle c24
        refine r_aload_n 2 C dX11_takeTown_46 rfl ?_
        refine r_iconst (v := 2) C dX11_takeTown_47 (by decide) ?_
        refine r_aload_n 2 C dX11_takeTown_48 rfl ?_
        refine gfX11_170 (v := (wI w13 114 26)) C (kS sM h20 kc_114) rfl dX11_takeTown_49 ?_
        refine callVI C cwX11_166_V (ctX11_fails _ _ w13 (sS sM h20) o16 2 (wI w13 114 26) ) (by decide) (kS sM h20 kc_114) rfl rfl rfl (Nat.le_of_ble_eq_true rfl) (by decide) dX11_takeTown_52 (fun r38 w37 y36 => ?_)
        show V x 0 0 w37 55 [(1, .int r14), (2, .int (wI w2 114 25)), (0, .ref (gz (xG x) + 114))] [.int r38]
        obtain ⟨h39, o40, g41⟩ := y36
        have h42 := Ch.tr h20 h39 (by decide) (by decide)
        exact hret _ _ _ _ dX11_takeTown_55 rfl ⟨h42, o40, (by rw [(h39.I (by decide) (by decide) rfl)]; omega), by omega⟩
    · have c21' := i_nle c21
      refine r_iload_n 0 C dX11_takeTown_33 rfl ?_
      exact hret _ _ _ _ dX11_takeTown_34 rfl ⟨h20, o16, (by omega), by omega⟩
  · have c10' := i_nle c10
    refine r_iload_n 1 C dX11_takeTown_17 rfl ?_
    refine r_goto 28 C dX11_takeTown_18 (by decide) ?_
    refine r_istore_n [(1, .int r3), (2, .int (wI w2 114 25)), (0, .ref (gz (xG x) + 114))] C dX11_takeTown_28 (by decide) rfl ?_
    refine r_iload_n 0 C dX11_takeTown_29 rfl ?_
    refine r_if_le 35 C dX11_takeTown_30 (by decide) (fun c43 => ?_) (fun c43 => ?_)
    · have c43' := i_le c43
      exfalso; omega
    · have c43' := i_nle c43
      refine r_iload_n 0 C dX11_takeTown_33 rfl ?_
      exact hret _ _ _ _ dX11_takeTown_34 rfl ⟨h9, o5, (by omega), by omega⟩
set_option maxHeartbeats 4000000 in
set_option maxRecDepth 100000 in
theorem ctX11_takeCell (l : Launch) (G : Gt) (w : Wv) (sM : Str KM XM w) (o0 : OkM w) (u : Int32) (pu : wI w 114 22 = u) (bu : 0 ≤ u.toInt ∧ u.toInt ≤ 500) (t : Int32) (pt : wI w 114 20 = t) (bt : 0 ≤ t.toInt ∧ t.toInt ≤ 500)  : CtI l G yX11_takeCell cX11_takeCell 3 .int ({ frames := 2, cells := 0, slots := 0, locals := 48 } : Room) [.ref (gz G + 114)] w (fun r w' => Ch [] [(114, 21), (114, 22), (114, 25), (114, 26), (114, 43)] w w' ∧ OkM w' ∧ (u.toInt ≤ (wI w' 114 22).toInt ∧ (wI w' 114 22).toInt ≤ 500) ∧ (r.toInt = 0 → (0 ≤ (wI w' 114 43).toInt ∧ (wI w' 114 43).toInt ≤ 41)) ∧ (0 ≤ r.toInt ∧ r.toInt ≤ 2)) := by
  refine enterI (by decide) (Nat.le_of_ble_eq_true rfl) ?_
  intro x el eG C hret
  subst el; subst eG
  show V x 0 0 w 0 [(0, .ref (gz (xG x) + 114))] []
  have h0 : Ch [] [(114, 21), (114, 22), (114, 25), (114, 26), (114, 43)] w w := Ch.rf
  have q0 : (0 : Int32).toInt = 0 := by decide
  have q1 : (1 : Int32).toInt = 1 := by decide
  obtain ⟨rA, rB, rC, rD⟩ := (o0.2 : Rel w)
  refine r_aload_n 0 C dX11_takeCell_0 rfl ?_
  refine r_iconst (v := 0) C dX11_takeCell_1 (by decide) ?_
  refine r_aload_n 0 C dX11_takeCell_2 rfl ?_
  refine gfX11_179 (v := (wI w 114 27)) C (kS sM h0 kc_114) rfl dX11_takeCell_3 ?_
  have b1 := Inv.get o0.1 rt_114_27 (j := 27) (by decide) (by decide)
  refine r_iconst (v := 1) C dX11_takeCell_6 (by decide) ?_
  refine r_isub C dX11_takeCell_7 (fun v2 e3 => ?_)
  have v2' := isub_ok e3 (by omega) (by omega)
  refine callVI C cwX11_176_V (ctX11_takeNumber _ _ w (sS sM h0) o0 u pu (by omega) t pt (by omega) 0 v2 ) (by decide) (kS sM h0 kc_114) rfl rfl rfl (Nat.le_of_ble_eq_true rfl) (by decide) dX11_takeCell_8 (fun r6 w5 y4 => ?_)
  show V x 0 0 w5 11 [(0, .ref (gz (xG x) + 114))] [.int r6]
  obtain ⟨h7, o8, f9, f10, g11⟩ := y4
  have h12 := Ch.tr h0 h7 (by decide) (by decide)
  refine r_istore_n [(1, .int r6), (0, .ref (gz (xG x) + 114))] C dX11_takeCell_11 (by decide) rfl ?_
  refine r_aload_n 1 C dX11_takeCell_12 rfl ?_
  refine gfX11_173 (v := (wI w5 114 25)) C (kS sM h12 kc_114) rfl dX11_takeCell_13 ?_
  refine r_istore_n [(2, .int (wI w5 114 25)), (1, .int r6), (0, .ref (gz (xG x) + 114))] C dX11_takeCell_16 (by decide) rfl ?_
  refine r_iload_n 1 C dX11_takeCell_17 rfl ?_
  refine r_if_le 25 C dX11_takeCell_18 (by decide) (fun c13 => ?_) (fun c13 => ?_)
  · have c13' := i_le c13
    refine r_aload_n 2 C dX11_takeCell_25 rfl ?_
    refine r_iconst (v := 0) C dX11_takeCell_26 (by decide) ?_
    refine r_aload_n 2 C dX11_takeCell_27 rfl ?_
    refine gfX11_182 (v := (wI w 114 28)) C (kS sM h12 kc_114) (h7.I (by decide) (by decide) rfl) dX11_takeCell_28 ?_
    have b14 := Inv.get o0.1 rt_114_28 (j := 28) (by decide) (by decide)
    refine r_iconst (v := 1) C dX11_takeCell_31 (by decide) ?_
    refine r_isub C dX11_takeCell_32 (fun v15 e16 => ?_)
    have v15' := isub_ok e16 (by omega) (by omega)
    have b17 := Inv.get o8.1 rt_114_22 (j := 22) (by decide) (by decide)
    refine callVI C cwX11_176_V (ctX11_takeNumber _ _ w5 (sS sM h12) o8 (wI w5 114 22) rfl (by omega) t (h7.I (by decide) (by decide) pt) (by omega) 0 v15 ) (by decide) (kS sM h12 kc_114) rfl rfl rfl (Nat.le_of_ble_eq_true rfl) (by decide) dX11_takeCell_33 (fun r20 w19 y18 => ?_)
    show V x 0 0 w19 36 [(2, .int (wI w5 114 25)), (1, .int r6), (0, .ref (gz (xG x) + 114))] [.int r20]
    obtain ⟨h21, o22, f23, f24, g25⟩ := y18
    have h26 := Ch.tr h12 h21 (by decide) (by decide)
    refine r_istore_n [(1, .int r20), (2, .int (wI w5 114 25)), (0, .ref (gz (xG x) + 114))] C dX11_takeCell_36 (by decide) rfl ?_
    by_cases c27 : (r20 : Int32).toInt = 0
    · have c27' := c27
      refine r_aload_n 2 C dX11_takeCell_37 rfl ?_
      refine r_aload_n 2 C dX11_takeCell_38 rfl ?_
      refine gfX11_179 (v := (wI w 114 27)) C (kS sM h26 kc_114) (h21.I (by decide) (by decide) (h7.I (by decide) (by decide) rfl)) dX11_takeCell_39 ?_
      refine r_aload_n 2 C dX11_takeCell_42 rfl ?_
      refine gfX11_173 (v := (wI w19 114 25)) C (kS sM h26 kc_114) rfl dX11_takeCell_43 ?_
      have k28 := cell_rng (W := ((wI w 114 27) : Int32).toInt) (D := ((wI w 114 28) : Int32).toInt) (y := ((wI w19 114 25) : Int32).toInt) (x := ((wI w5 114 25) : Int32).toInt) (by omega) (by omega) (by omega)
      refine r_imul C dX11_takeCell_46 (fun v29 e30 => ?_)
      have v29' := imul_rng e30 (A := 9) (B := 8) (by omega) (by omega) (by decide)
      refine r_iload_n 1 C dX11_takeCell_47 rfl ?_
      refine r_iadd C dX11_takeCell_48 (fun v31 e32 => ?_)
      have v31' := iadd_ok e32 (by omega) (by omega)
      refine pfX11_185 C (kS sM h26 kc_114) dX11_takeCell_49 (fun w33 e34 => ?_)
      have h35 := Ch.putF h26 e34 (by decide)
      have o36 : OkM w33 := ⟨Inv.putk o22.1 e34 (by decide), Rel.putF o22.2 e34 (by decide)⟩
      refine r_iload_n 0 C dX11_takeCell_52 rfl ?_
      exact hret _ _ _ _ dX11_takeCell_53 rfl ⟨h35, o36, (by rw [(g_nk e34 (by decide) rfl)]; omega), (by rw [(g_eq e34)]; omega), by omega⟩
    · have c27' := c27
      refine r_aload_n 2 C dX11_takeCell_37 rfl ?_
      refine r_aload_n 2 C dX11_takeCell_38 rfl ?_
      refine gfX11_179 (v := (wI w 114 27)) C (kS sM h26 kc_114) (h21.I (by decide) (by decide) (h7.I (by decide) (by decide) rfl)) dX11_takeCell_39 ?_
      refine r_aload_n 2 C dX11_takeCell_42 rfl ?_
      refine gfX11_173 (v := (wI w19 114 25)) C (kS sM h26 kc_114) rfl dX11_takeCell_43 ?_
      refine r_imul C dX11_takeCell_46 (fun v37 e38 => ?_)
      refine r_iload_n 1 C dX11_takeCell_47 rfl ?_
      refine r_iadd C dX11_takeCell_48 (fun v39 e40 => ?_)
      refine pfX11_185 C (kS sM h26 kc_114) dX11_takeCell_49 (fun w41 e42 => ?_)
      have h43 := Ch.putF h26 e42 (by decide)
      have k45 := i_rng v39
      have o44 : OkM w41 := ⟨Inv.putk o22.1 e42 (by decide), Rel.putF o22.2 e42 (by decide)⟩
      refine r_iload_n 0 C dX11_takeCell_52 rfl ?_
      exact hret _ _ _ _ dX11_takeCell_53 rfl ⟨h43, o44, (by rw [(g_nk e42 (by decide) rfl)]; omega), (by rw [(g_eq e42)]; omega), by omega⟩
  · have c13' := i_nle c13
    refine r_iload_n 1 C dX11_takeCell_21 rfl ?_
    refine r_goto 36 C dX11_takeCell_22 (by decide) ?_
    refine r_istore_n [(1, .int r6), (2, .int (wI w5 114 25)), (0, .ref (gz (xG x) + 114))] C dX11_takeCell_36 (by decide) rfl ?_
    by_cases c46 : (r6 : Int32).toInt = 0
    · have c46' := c46
      refine r_aload_n 2 C dX11_takeCell_37 rfl ?_
      refine r_aload_n 2 C dX11_takeCell_38 rfl ?_
      refine gfX11_179 (v := (wI w 114 27)) C (kS sM h12 kc_114) (h7.I (by decide) (by decide) rfl) dX11_takeCell_39 ?_
      refine r_aload_n 2 C dX11_takeCell_42 rfl ?_
      refine gfX11_173 (v := (wI w5 114 25)) C (kS sM h12 kc_114) rfl dX11_takeCell_43 ?_
      have k47 := cell_rng (W := ((wI w 114 27) : Int32).toInt) (D := ((wI w 114 28) : Int32).toInt) (y := ((wI w5 114 25) : Int32).toInt) (x := ((wI w5 114 25) : Int32).toInt) (by omega) (by omega) (by omega)
      refine r_imul C dX11_takeCell_46 (fun v48 e49 => ?_)
      have v48' := imul_rng e49 (A := 9) (B := 8) (by omega) (by omega) (by decide)
      refine r_iload_n 1 C dX11_takeCell_47 rfl ?_
      refine r_iadd C dX11_takeCell_48 (fun v50 e51 => ?_)
      have v50' := iadd_ok e51 (by omega) (by omega)
      refine pfX11_185 C (kS sM h12 kc_114) dX11_takeCell_49 (fun w52 e53 => ?_)
      have h54 := Ch.putF h12 e53 (by decide)
      have o55 : OkM w52 := ⟨Inv.putk o8.1 e53 (by decide), Rel.putF o8.2 e53 (by decide)⟩
      refine r_iload_n 0 C dX11_takeCell_52 rfl ?_
      exact hret _ _ _ _ dX11_takeCell_53 rfl ⟨h54, o55, (by rw [(g_nk e53 (by decide) rfl)]; omega), (by rw [(g_eq e53)]; omega), by omega⟩
    · have c46' := c46
      refine r_aload_n 2 C dX11_takeCell_37 rfl ?_
      refine r_aload_n 2 C dX11_takeCell_38 rfl ?_
      refine gfX11_179 (v := (wI w 114 27)) C (kS sM h12 kc_114) (h7.I (by decide) (by decide) rfl) dX11_takeCell_39 ?_
      refine r_aload_n 2 C dX11_takeCell_42 rfl ?_
      refine gfX11_173 (v := (wI w5 114 25)) C (kS sM h12 kc_114) rfl dX11_takeCell_43 ?_
      refine r_imul C dX11_takeCell_46 (fun v56 e57 => ?_)
      refine r_iload_n 1 C dX11_takeCell_47 rfl ?_
      refine r_iadd C dX11_takeCell_48 (fun v58 e59 => ?_)
      refine pfX11_185 C (kS sM h12 kc_114) dX11_takeCell_49 (fun w60 e61 => ?_)
      have h62 := Ch.putF h12 e61 (by decide)
      have k64 := i_rng v58
      have o63 : OkM w60 := ⟨Inv.putk o8.1 e61 (by decide), Rel.putF o8.2 e61 (by decide)⟩
      refine r_iload_n 0 C dX11_takeCell_52 rfl ?_
      exact hret _ _ _ _ dX11_takeCell_53 rfl ⟨h62, o63, (by rw [(g_nk e61 (by decide) rfl)]; omega), (by rw [(g_eq e61)]; omega), by omega⟩
set_option maxHeartbeats 4000000 in
set_option maxRecDepth 100000 in
theorem ctX11_isTakenUp (l : Launch) (G : Gt) (w : Wv) (sM : Str KM XM w) (o0 : OkM w) (a1 : Int32) (b1 : 0 ≤ a1.toInt ∧ a1.toInt ≤ 41) : CtI l G yX11_isTakenUp cX11_isTakenUp 4 .boolean ({ frames := 0, cells := 0, slots := 0, locals := 0 } : Room) [.ref (gz G + 114), .int a1] w (fun r w' => Ch [] [] w w' ∧ OkM w' ∧ ((0 ≤ r.toInt ∧ r.toInt ≤ 1))) := by
  refine enterI (by decide) (Nat.le_of_ble_eq_true rfl) ?_
  intro x el eG C hret
  subst el; subst eG
  show V x 0 0 w 0 [(0, .ref (gz (xG x) + 114)), (1, .int a1)] []
  have h0 : Ch [] [] w w := Ch.rf
  have q0 : (0 : Int32).toInt = 0 := by decide
  have q1 : (1 : Int32).toInt = 1 := by decide
  obtain ⟨rA, rB, rC, rD⟩ := (o0.2 : Rel w)
  have LP5 : ∀ (f6 : Nat) (u3 : Int32) (u4 : Int32) (w7 : Wv), Ch [] [] w w7 → OkM w7 → (0 ≤ u3.toInt ∧ u3.toInt ≤ 1) → (0 ≤ u4.toInt ∧ u4.toInt ≤ 2147483647) → 2147483647 - u4.toInt < f6 → V x 0 0 w7 25 [(0, .ref (gz (xG x) + 114)), (1, .int a1), (2, .int u3), (3, .int u4)] [] := by
    intro f6
    induction f6 with
    | zero => intro u3 u4 w7 h8 o9 z10 z11 z12; exfalso; omega
    | succ f6 ih13 =>
      intro u3 u4 w7 h8 o9 z10 z11 z12
      refine r_iload_n 3 C dX11_isTakenUp_25 rfl ?_
      refine r_aload_n 0 C dX11_isTakenUp_26 rfl ?_
      refine gfX11_191 (v := (wI w 114 31)) C (kS sM h8 kc_114) (h8.I (by decide) (by decide) rfl) dX11_isTakenUp_27 ?_
      have b14 := Inv.get o0.1 rt_114_31 (j := 31) (by decide) (by decide)
      have k16 := i_rng u4
      refine r_icmp_ge 59 C dX11_isTakenUp_30 (by decide) (fun c15 => ?_) (fun c15 => ?_)
      · have c15' := i_le c15
        refine r_iload_n 2 C dX11_isTakenUp_59 rfl ?_
        exact hret _ _ _ _ dX11_isTakenUp_60 (nar_z (z_of (by omega))) ⟨h8, o9, by omega⟩
      · have c15' := i_nle c15
        refine r_iload_n 2 C dX11_isTakenUp_33 rfl ?_
        refine r_if_ne 47 C dX11_isTakenUp_34 (by decide) (fun c17 => ?_) (fun c17 => ?_)
        · have c17' := i_ne c17
          refine r_iconst (v := 1) C dX11_isTakenUp_47 (by decide) ?_
          refine r_goto 52 C dX11_isTakenUp_48 (by decide) ?_
          refine r_istore_n [(2, .int 1), (0, .ref (gz (xG x) + 114)), (1, .int a1), (3, .int u4)] C dX11_isTakenUp_52 (by decide) rfl ?_
          obtain ⟨i18, e19⟩ : ∃ z : Int32, u4 + Int32.ofInt 1 = z := ⟨_, rfl⟩
          have i18' := iinc_ok e19 (by decide) (by omega) (by omega)
          refine r_iinc [(3, .int i18), (2, .int 1), (0, .ref (gz (xG x) + 114)), (1, .int a1)] 3 C dX11_isTakenUp_53 rfl e19 (by decide) rfl ?_
          refine r_goto 25 C dX11_isTakenUp_56 (by decide) ?_
          refine r_lv [2, 3, 1, 0] rfl ?_
          exact ih13 1 i18 w7 h8 o9 (by omega) (by omega) (by omega)
        · have c17' := i_eq c17
          refine r_aload_n 0 C dX11_isTakenUp_37 rfl ?_
          refine gfX11_59 128 C (kS sM h8 kc_114) (xS sM h8 xc_114_33) dX11_isTakenUp_38 ?_
          refine r_iload_n 3 C dX11_isTakenUp_41 rfl ?_
          refine r_iald C (kS sM h8 kc_128) (vin (by omega) (by omega)) dX11_isTakenUp_42 ?_
          have b21 := Inv.geta o9.1 rt_128_0 (i := u4) (by omega) (by omega) (by omega)
          generalize (wI w7 128 (u4).toNatClampNeg) = v20 at b21 ⊢
          refine r_iload_n 1 C dX11_isTakenUp_43 rfl ?_
          refine r_icmp_ne 51 C dX11_isTakenUp_44 (by decide) (fun c22 => ?_) (fun c22 => ?_)
          · have c22' := i_ne c22
            refine r_iconst (v := 0) C dX11_isTakenUp_51 (by decide) ?_
            refine r_istore_n [(2, .int 0), (0, .ref (gz (xG x) + 114)), (1, .int a1), (3, .int u4)] C dX11_isTakenUp_52 (by decide) rfl ?_
            obtain ⟨i23, e24⟩ : ∃ z : Int32, u4 + Int32.ofInt 1 = z := ⟨_, rfl⟩
            have i23' := iinc_ok e24 (by decide) (by omega) (by omega)
            refine r_iinc [(3, .int i23), (2, .int 0), (0, .ref (gz (xG x) + 114)), (1, .int a1)] 3 C dX11_isTakenUp_53 rfl e24 (by decide) rfl ?_
            refine r_goto 25 C dX11_isTakenUp_56 (by decide) ?_
            refine r_lv [2, 3, 1, 0] rfl ?_
            exact ih13 0 i23 w7 h8 o9 (by omega) (by omega) (by omega)
          · have c22' := i_eq c22
            refine r_iconst (v := 1) C dX11_isTakenUp_47 (by decide) ?_
            refine r_goto 52 C dX11_isTakenUp_48 (by decide) ?_
            refine r_istore_n [(2, .int 1), (0, .ref (gz (xG x) + 114)), (1, .int a1), (3, .int u4)] C dX11_isTakenUp_52 (by decide) rfl ?_
            obtain ⟨i25, e26⟩ : ∃ z : Int32, u4 + Int32.ofInt 1 = z := ⟨_, rfl⟩
            have i25' := iinc_ok e26 (by decide) (by omega) (by omega)
            refine r_iinc [(3, .int i25), (2, .int 1), (0, .ref (gz (xG x) + 114)), (1, .int a1)] 3 C dX11_isTakenUp_53 rfl e26 (by decide) rfl ?_
            refine r_goto 25 C dX11_isTakenUp_56 (by decide) ?_
            refine r_lv [2, 3, 1, 0] rfl ?_
            exact ih13 1 i25 w7 h8 o9 (by omega) (by omega) (by omega)
  refine r_aload_n 0 C dX11_isTakenUp_0 rfl ?_
  refine gfX11_53 126 C (kS sM h0 kc_114) (xS sM h0 xc_114_29) dX11_isTakenUp_1 ?_
  refine r_iload_n 1 C dX11_isTakenUp_4 rfl ?_
  refine r_iald C (kS sM h0 kc_126) (vin (by omega) (by omega)) dX11_isTakenUp_5 ?_
  generalize (wI w 126 (a1).toNatClampNeg) = v1
  refine r_if_gt 17 C dX11_isTakenUp_6 (by decide) (fun c2 => ?_) (fun c2 => ?_)
  · have c2' := i_lt c2
    refine r_iconst (v := 1) C dX11_isTakenUp_17 (by decide) ?_
    refine r_goto 22 C dX11_isTakenUp_18 (by decide) ?_
    refine r_istore_n [(2, .int 1), (0, .ref (gz (xG x) + 114)), (1, .int a1)] C dX11_isTakenUp_22 (by decide) rfl ?_
    refine r_iconst (v := 0) C dX11_isTakenUp_23 (by decide) ?_
    refine r_istore_n [(3, .int 0), (2, .int 1), (0, .ref (gz (xG x) + 114)), (1, .int a1)] C dX11_isTakenUp_24 (by decide) rfl ?_
    refine r_lv [2, 3, 1, 0] rfl ?_
    exact LP5 4294967296 1 0 w h0 o0 (by omega) (by omega) (by omega)
  · have c2' := i_nlt c2
    refine r_aload_n 0 C dX11_isTakenUp_9 rfl ?_
    refine gfX11_188 (v := (wI w 114 40)) C (kS sM h0 kc_114) rfl dX11_isTakenUp_10 ?_
    have b27 := Inv.get o0.1 rt_114_40 (j := 40) (by decide) (by decide)
    refine r_iload_n 1 C dX11_isTakenUp_13 rfl ?_
    refine r_icmp_ne 21 C dX11_isTakenUp_14 (by decide) (fun c28 => ?_) (fun c28 => ?_)
    · have c28' := i_ne c28
      refine r_iconst (v := 0) C dX11_isTakenUp_21 (by decide) ?_
      refine r_istore_n [(2, .int 0), (0, .ref (gz (xG x) + 114)), (1, .int a1)] C dX11_isTakenUp_22 (by decide) rfl ?_
      refine r_iconst (v := 0) C dX11_isTakenUp_23 (by decide) ?_
      refine r_istore_n [(3, .int 0), (2, .int 0), (0, .ref (gz (xG x) + 114)), (1, .int a1)] C dX11_isTakenUp_24 (by decide) rfl ?_
      refine r_lv [2, 3, 1, 0] rfl ?_
      exact LP5 4294967296 0 0 w h0 o0 (by omega) (by omega) (by omega)
    · have c28' := i_eq c28
      refine r_iconst (v := 1) C dX11_isTakenUp_17 (by decide) ?_
      refine r_goto 22 C dX11_isTakenUp_18 (by decide) ?_
      refine r_istore_n [(2, .int 1), (0, .ref (gz (xG x) + 114)), (1, .int a1)] C dX11_isTakenUp_22 (by decide) rfl ?_
      refine r_iconst (v := 0) C dX11_isTakenUp_23 (by decide) ?_
      refine r_istore_n [(3, .int 0), (2, .int 1), (0, .ref (gz (xG x) + 114)), (1, .int a1)] C dX11_isTakenUp_24 (by decide) rfl ?_
      refine r_lv [2, 3, 1, 0] rfl ?_
      exact LP5 4294967296 1 0 w h0 o0 (by omega) (by omega) (by omega)
set_option maxHeartbeats 4000000 in
set_option maxRecDepth 100000 in
theorem ctX11_takeMark (l : Launch) (G : Gt) (w : Wv) (sM : Str KM XM w) (o0 : OkM w) (u : Int32) (pu : wI w 114 22 = u) (bu : 0 ≤ u.toInt ∧ u.toInt ≤ 500) (t : Int32) (pt : wI w 114 20 = t) (bt : 0 ≤ t.toInt ∧ t.toInt ≤ 500) (a1 : Int32) : CtI l G yX11_takeMark cX11_takeMark 3 .int ({ frames := 3, cells := 0, slots := 0, locals := 70 } : Room) [.ref (gz G + 114), .int a1] w (fun r w' => Ch [126] [(114, 21), (114, 22), (114, 25), (114, 26), (114, 30), (114, 43)] w w' ∧ OkM w' ∧ (u.toInt ≤ (wI w' 114 22).toInt ∧ (wI w' 114 22).toInt ≤ 500) ∧ (0 ≤ r.toInt ∧ r.toInt ≤ 4)) := by
  refine enterI (by decide) (Nat.le_of_ble_eq_true rfl) ?_
  intro x el eG C hret
  subst el; subst eG
  show V x 0 0 w 0 [(0, .ref (gz (xG x) + 114)), (1, .int a1)] []
  have h0 : Ch [126] [(114, 21), (114, 22), (114, 25), (114, 26), (114, 30), (114, 43)] w w := Ch.rf
  have q0 : (0 : Int32).toInt = 0 := by decide
  have q1 : (1 : Int32).toInt = 1 := by decide
  have q4 : (4 : Int32).toInt = 4 := by decide
  obtain ⟨rA, rB, rC, rD⟩ := (o0.2 : Rel w)
  refine r_aload_n 0 C dX11_takeMark_0 rfl ?_
  refine r_dup C dX11_takeMark_1 rfl ?_
  refine gfX11_194 (v := (wI w 114 30)) C (kS sM h0 kc_114) rfl dX11_takeMark_2 ?_
  refine r_iconst (v := 1) C dX11_takeMark_5 (by decide) ?_
  refine r_iadd C dX11_takeMark_6 (fun v1 e2 => ?_)
  refine pfX11_194 C (kS sM h0 kc_114) dX11_takeMark_7 (fun w3 e4 => ?_)
  have h5 := Ch.putF h0 e4 (by decide)
  have k7 := i_rng v1
  have o6 : OkM w3 := ⟨Inv.putk o0.1 e4 (by decide), Rel.putF o0.2 e4 (by decide)⟩
  refine r_aload_n 0 C dX11_takeMark_10 rfl ?_
  refine callVI C cwX11_197_V (ctX11_takeCell _ _ w3 (sS sM h5) o6 u (g_nk e4 (by decide) pu) (by omega) t (g_nk e4 (by decide) pt) (by omega)  ) (by decide) (kS sM h5 kc_114) rfl rfl rfl (Nat.le_of_ble_eq_true rfl) (by decide) dX11_takeMark_11 (fun r10 w9 y8 => ?_)
  show V x 0 0 w9 14 [(0, .ref (gz (xG x) + 114)), (1, .int a1)] [.int r10]
  obtain ⟨h11, o12, f13, f14, g15⟩ := y8
  have h16 := Ch.tr h5 h11 (by decide) (by decide)
  refine r_istore_n [(2, .int r10), (0, .ref (gz (xG x) + 114)), (1, .int a1)] C dX11_takeMark_14 (by decide) rfl ?_
  refine r_iload_n 0 C dX11_takeMark_15 rfl ?_
  refine r_if_le 21 C dX11_takeMark_16 (by decide) (fun c17 => ?_) (fun c17 => ?_)
  · have c17' := i_le c17
    refine r_aload_n 1 C dX11_takeMark_21 rfl ?_
    refine r_aload_n 1 C dX11_takeMark_22 rfl ?_
    refine gfX11_185 (v := (wI w9 114 43)) C (kS sM h16 kc_114) rfl dX11_takeMark_23 ?_
    refine callVI C cwX11_200_V (ctX11_isTakenUp _ _ w9 (sS sM h16) o12 (wI w9 114 43) (by omega)) (by decide) (kS sM h16 kc_114) rfl rfl rfl (Nat.le_of_ble_eq_true rfl) (by decide) dX11_takeMark_26 (fun r20 w19 y18 => ?_)
    show V x 0 0 w19 29 [(2, .int r10), (0, .ref (gz (xG x) + 114)), (1, .int a1)] [.int r20]
    obtain ⟨h21, o22, g23⟩ := y18
    have h24 := Ch.tr h16 h21 (by decide) (by decide)
    refine r_if_eq 42 C dX11_takeMark_29 (by decide) (fun c25 => ?_) (fun c25 => ?_)
    · have c25' := i_eq c25
      refine r_aload_n 1 C dX11_takeMark_42 rfl ?_
      refine gfX11_53 126 C (kS sM h24 kc_114) (xS sM h24 xc_114_29) dX11_takeMark_43 ?_
      refine r_aload_n 1 C dX11_takeMark_46 rfl ?_
      refine gfX11_185 (v := (wI w9 114 43)) C (kS sM h24 kc_114) (h21.I (by decide) (by decide) rfl) dX11_takeMark_47 ?_
      refine r_iload_n 2 C dX11_takeMark_50 rfl ?_
      refine r_iast C (kS sM h24 kc_126) (vin (by omega) (by omega)) dX11_takeMark_51 (fun w26 e27 => ?_)
      have h28 := Ch.putS h24 e27 (by decide)
      have o29 : OkM w26 := ⟨Inv.put0 o22.1 e27 (by decide), Rel.putS o22.2 e27 (by decide)⟩
      refine r_iconst (v := 0) C dX11_takeMark_52 (by decide) ?_
      exact hret _ _ _ _ dX11_takeMark_53 rfl ⟨h28, o29, (by rw [(g_nn e27 (by decide) (h21.I (by decide) (by decide) rfl))]; omega), by omega⟩
    · have c25' := i_ne c25
      refine r_aload_n 1 C dX11_takeMark_32 rfl ?_
      refine r_iconst (v := 4) C dX11_takeMark_33 (by decide) ?_
      refine r_aload_n 1 C dX11_takeMark_34 rfl ?_
      refine gfX11_170 (v := (wI w9 114 26)) C (kS sM h24 kc_114) (h21.I (by decide) (by decide) rfl) dX11_takeMark_35 ?_
      refine callVI C cwX11_166_V (ctX11_fails _ _ w19 (sS sM h24) o22 4 (wI w9 114 26) ) (by decide) (kS sM h24 kc_114) rfl rfl rfl (Nat.le_of_ble_eq_true rfl) (by decide) dX11_takeMark_38 (fun r32 w31 y30 => ?_)
      show V x 0 0 w31 41 [(2, .int r10), (0, .ref (gz (xG x) + 114)), (1, .int a1)] [.int r32]
      obtain ⟨h33, o34, g35⟩ := y30
      have h36 := Ch.tr h24 h33 (by decide) (by decide)
      exact hret _ _ _ _ dX11_takeMark_41 rfl ⟨h36, o34, (by rw [(h33.I (by decide) (by decide) (h21.I (by decide) (by decide) rfl))]; omega), by omega⟩
  · have c17' := i_nle c17
    refine r_iload_n 0 C dX11_takeMark_19 rfl ?_
    exact hret _ _ _ _ dX11_takeMark_20 rfl ⟨h16, o12, (by omega), by omega⟩
set_option maxHeartbeats 4000000 in
set_option maxRecDepth 100000 in
theorem ctX11_takeCrowd (l : Launch) (G : Gt) (w : Wv) (sM : Str KM XM w) (o0 : OkM w) (u : Int32) (pu : wI w 114 22 = u) (bu : 0 ≤ u.toInt ∧ u.toInt ≤ 500) (t : Int32) (pt : wI w 114 20 = t) (bt : 0 ≤ t.toInt ∧ t.toInt ≤ 500) (W : Int32) (pW : wI w 114 27 = W) (bW : 1 ≤ W.toInt ∧ W.toInt ≤ 9) (K : Int32) (pK : wI w 114 31 = K) (bK : 0 ≤ K.toInt ∧ K.toInt ≤ 5)  : CtI l G yX11_takeCrowd cX11_takeCrowd 3 .int ({ frames := 3, cells := 0, slots := 0, locals := 73 } : Room) [.ref (gz G + 114)] w (fun r w' => Ch [127, 128, 129, 130, 131] [(114, 21), (114, 22), (114, 25), (114, 26), (114, 31), (114, 43)] w w' ∧ OkM w' ∧ (u.toInt ≤ (wI w' 114 22).toInt ∧ (wI w' 114 22).toInt ≤ 500) ∧ (0 ≤ r.toInt ∧ r.toInt ≤ 4)) := by
  refine enterI (by decide) (Nat.le_of_ble_eq_true rfl) ?_
  intro x el eG C hret
  subst el; subst eG
  show V x 0 0 w 0 [(0, .ref (gz (xG x) + 114))] []
  have h0 : Ch [127, 128, 129, 130, 131] [(114, 21), (114, 22), (114, 25), (114, 26), (114, 31), (114, 43)] w w := Ch.rf
  have q0 : (0 : Int32).toInt = 0 := by decide
  have q1 : (1 : Int32).toInt = 1 := by decide
  have q2 : (2 : Int32).toInt = 2 := by decide
  have q3 : (3 : Int32).toInt = 3 := by decide
  have q4 : (4 : Int32).toInt = 4 := by decide
  have q99 : (99 : Int32).toInt = 99 := by decide
  obtain ⟨rA, rB, rC, rD⟩ := (o0.2 : Rel w)
  (try simp only [pW] at rA); (try simp only [pW] at rB); (try simp only [pW] at rC); (try simp only [pW] at rD)
  (try simp only [pK] at rA); (try simp only [pK] at rB); (try simp only [pK] at rC); (try simp only [pK] at rD)
  refine r_aload_n 0 C dX11_takeCrowd_0 rfl ?_
  refine gfX11_191 (v := K) C (kS sM h0 kc_114) pK dX11_takeCrowd_1 ?_
  refine r_istore_n [(1, .int K), (0, .ref (gz (xG x) + 114))] C dX11_takeCrowd_4 (by decide) rfl ?_
  refine r_aload_n 1 C dX11_takeCrowd_5 rfl ?_
  refine r_aload_n 1 C dX11_takeCrowd_6 rfl ?_
  refine gfX11_56 127 C (kS sM h0 kc_114) (xS sM h0 xc_114_32) dX11_takeCrowd_7 ?_
  refine r_iload_n 0 C dX11_takeCrowd_10 rfl ?_
  refine r_iconst (v := 0) C dX11_takeCrowd_11 (by decide) ?_
  refine r_iconst (v := 2) C dX11_takeCrowd_12 (by decide) ?_
  refine callVI C cwX11_204_V (ctX11_into_127 _ _ w (sS sM h0) o0 u pu (by omega) t pt (by omega) K 0 2 (by omega)) (by decide) (kS sM h0 kc_114) rfl rfl rfl (Nat.le_of_ble_eq_true rfl) (by decide) dX11_takeCrowd_13 (fun r3 w2 y1 => ?_)
  show V x 0 0 w2 16 [(1, .int K), (0, .ref (gz (xG x) + 114))] [.int r3]
  obtain ⟨h4, o5, f6, g7⟩ := y1
  have h8 := Ch.tr h0 h4 (by decide) (by decide)
  refine r_istore_n [(2, .int r3), (1, .int K), (0, .ref (gz (xG x) + 114))] C dX11_takeCrowd_16 (by decide) rfl ?_
  refine r_iload_n 0 C dX11_takeCrowd_17 rfl ?_
  refine r_if_le 25 C dX11_takeCrowd_18 (by decide) (fun c9 => ?_) (fun c9 => ?_)
  · have c9' := i_le c9
    refine r_aload_n 2 C dX11_takeCrowd_25 rfl ?_
    have b10 := Inv.get o5.1 rt_114_22 (j := 22) (by decide) (by decide)
    refine callVI C cwX11_197_V (ctX11_takeCell _ _ w2 (sS sM h8) o5 (wI w2 114 22) rfl (by omega) t (h4.I (by decide) (by decide) pt) (by omega)  ) (by decide) (kS sM h8 kc_114) rfl rfl rfl (Nat.le_of_ble_eq_true rfl) (by decide) dX11_takeCrowd_26 (fun r13 w12 y11 => ?_)
    show V x 0 0 w12 29 [(2, .int r3), (1, .int K), (0, .ref (gz (xG x) + 114))] [.int r13]
    obtain ⟨h14, o15, f16, f17, g18⟩ := y11
    have h19 := Ch.tr h8 h14 (by decide) (by decide)
    refine r_istore_n [(2, .int r13), (1, .int K), (0, .ref (gz (xG x) + 114))] C dX11_takeCrowd_29 (by decide) rfl ?_
    refine r_iload_n 0 C dX11_takeCrowd_30 rfl ?_
    refine r_if_le 36 C dX11_takeCrowd_31 (by decide) (fun c20 => ?_) (fun c20 => ?_)
    · have c20' := i_le c20
      refine r_aload_n 2 C dX11_takeCrowd_36 rfl ?_
      refine gfX11_53 126 C (kS sM h19 kc_114) (xS sM h19 xc_114_29) dX11_takeCrowd_37 ?_
      refine r_aload_n 2 C dX11_takeCrowd_40 rfl ?_
      refine gfX11_185 (v := (wI w12 114 43)) C (kS sM h19 kc_114) rfl dX11_takeCrowd_41 ?_
      refine r_iald C (kS sM h19 kc_126) (vin (by omega) (by omega)) dX11_takeCrowd_44 ?_
      generalize (wI w12 126 ((wI w12 114 43)).toNatClampNeg) = v21
      refine r_if_le 58 C dX11_takeCrowd_45 (by decide) (fun c22 => ?_) (fun c22 => ?_)
      · have c22' := i_le c22
        refine r_aload_n 2 C dX11_takeCrowd_58 rfl ?_
        refine gfX11_59 128 C (kS sM h19 kc_114) (xS sM h19 xc_114_33) dX11_takeCrowd_59 ?_
        refine r_iload_n 1 C dX11_takeCrowd_62 rfl ?_
        refine r_aload_n 2 C dX11_takeCrowd_63 rfl ?_
        refine gfX11_185 (v := (wI w12 114 43)) C (kS sM h19 kc_114) rfl dX11_takeCrowd_64 ?_
        refine r_iast C (kS sM h19 kc_128) (vin (by omega) (by omega)) dX11_takeCrowd_67 (fun w23 e24 => ?_)
        have h25 := Ch.putS h19 e24 (by decide)
        have k27 := i_rng (wI w12 114 43)
        have o26 : OkM w23 := ⟨Inv.putR o15.1 e24 0 5 (by omega) (by omega) 0 41 (by omega) (by decide), Rel.putS o15.2 e24 (by decide)⟩
        refine r_aload_n 2 C dX11_takeCrowd_68 rfl ?_
        refine r_dup C dX11_takeCrowd_69 rfl ?_
        refine gfX11_191 (v := K) C (kS sM h25 kc_114) (g_nn e24 (by decide) (h14.I (by decide) (by decide) (h4.I (by decide) (by decide) pK))) dX11_takeCrowd_70 ?_
        refine r_iconst (v := 1) C dX11_takeCrowd_73 (by decide) ?_
        refine r_iadd C dX11_takeCrowd_74 (fun v28 e29 => ?_)
        have v28' := iadd_ok e29 (by omega) (by omega)
        refine pfX11_191 C (kS sM h25 kc_114) dX11_takeCrowd_75 (fun w30 e31 => ?_)
        have h32 := Ch.putF h25 e31 (by decide)
        have o33 := Inv.put o26.1 e31 0 6 (by omega) (by decide)
        have o34 : OkM w30 := ⟨o33, Rel.of (g_nk e31 (by decide) (g_nn e24 (by decide) (h14.I (by decide) (by decide) (h4.I (by decide) (by decide) rfl)))) (g_nk e31 (by decide) (g_nn e24 (by decide) (h14.I (by decide) (by decide) (h4.I (by decide) (by decide) rfl)))) (g_nk e31 (by decide) (g_nn e24 (by decide) (h14.I (by decide) (by decide) (h4.I (by decide) (by decide) pW)))) (g_nk e31 (by decide) (g_nn e24 (by decide) (h14.I (by decide) (by decide) (h4.I (by decide) (by decide) rfl)))) (g_nk e31 (by decide) (g_nn e24 (by decide) (h14.I (by decide) (by decide) (h4.I (by decide) (by decide) rfl)))) (g_eq e31) (by first | omega | (simp only [q0]; omega)) (by first | omega | (simp only [q0]; omega)) (by first | omega | (simp only [q0]; omega)) (by first | omega | (simp only [q0]; omega))⟩
        refine r_aload_n 2 C dX11_takeCrowd_78 rfl ?_
        refine r_aload_n 2 C dX11_takeCrowd_79 rfl ?_
        refine gfX11_62 129 C (kS sM h32 kc_114) (xS sM h32 xc_114_34) dX11_takeCrowd_80 ?_
        refine r_iload_n 1 C dX11_takeCrowd_83 rfl ?_
        refine r_iconst (v := 1) C dX11_takeCrowd_84 (by decide) ?_
        refine r_bipush (v := 99) C dX11_takeCrowd_85 (by decide) ?_
        have b35 := Inv.get o15.1 rt_114_22 (j := 22) (by decide) (by decide)
        refine callVI C cwX11_204_V (ctX11_into_129 _ _ w30 (sS sM h32) o34 (wI w12 114 22) (g_nk e31 (by decide) (g_nn e24 (by decide) rfl)) (by omega) t (g_nk e31 (by decide) (g_nn e24 (by decide) (h14.I (by decide) (by decide) (h4.I (by decide) (by decide) pt)))) (by omega) K 1 99 (by omega)) (by decide) (kS sM h32 kc_114) rfl rfl rfl (Nat.le_of_ble_eq_true rfl) (by decide) dX11_takeCrowd_87 (fun r38 w37 y36 => ?_)
        show V x 0 0 w37 90 [(2, .int r13), (1, .int K), (0, .ref (gz (xG x) + 114))] [.int r38]
        obtain ⟨h39, o40, f41, g42⟩ := y36
        have h43 := Ch.tr h32 h39 (by decide) (by decide)
        refine r_istore_n [(2, .int r38), (1, .int K), (0, .ref (gz (xG x) + 114))] C dX11_takeCrowd_90 (by decide) rfl ?_
        refine r_iload_n 0 C dX11_takeCrowd_91 rfl ?_
        refine r_if_le 99 C dX11_takeCrowd_92 (by decide) (fun c44 => ?_) (fun c44 => ?_)
        · have c44' := i_le c44
          refine r_aload_n 2 C dX11_takeCrowd_99 rfl ?_
          refine r_aload_n 2 C dX11_takeCrowd_100 rfl ?_
          refine gfX11_65 130 C (kS sM h43 kc_114) (xS sM h43 xc_114_35) dX11_takeCrowd_101 ?_
          refine r_iload_n 1 C dX11_takeCrowd_104 rfl ?_
          refine r_iconst (v := 1) C dX11_takeCrowd_105 (by decide) ?_
          refine r_iconst (v := 3) C dX11_takeCrowd_106 (by decide) ?_
          have b45 := Inv.get o40.1 rt_114_22 (j := 22) (by decide) (by decide)
          refine callVI C cwX11_204_V (ctX11_into_130 _ _ w37 (sS sM h43) o40 (wI w37 114 22) rfl (by omega) t (h39.I (by decide) (by decide) (g_nk e31 (by decide) (g_nn e24 (by decide) (h14.I (by decide) (by decide) (h4.I (by decide) (by decide) pt))))) (by omega) K 1 3 (by omega)) (by decide) (kS sM h43 kc_114) rfl rfl rfl (Nat.le_of_ble_eq_true rfl) (by decide) dX11_takeCrowd_107 (fun r48 w47 y46 => ?_)
          show V x 0 0 w47 110 [(2, .int r38), (1, .int K), (0, .ref (gz (xG x) + 114))] [.int r48]
          obtain ⟨h49, o50, f51, g52⟩ := y46
          have h53 := Ch.tr h43 h49 (by decide) (by decide)
          refine r_istore_n [(2, .int r48), (1, .int K), (0, .ref (gz (xG x) + 114))] C dX11_takeCrowd_110 (by decide) rfl ?_
          refine r_iload_n 0 C dX11_takeCrowd_111 rfl ?_
          refine r_if_le 119 C dX11_takeCrowd_112 (by decide) (fun c54 => ?_) (fun c54 => ?_)
          · have c54' := i_le c54
            refine r_aload_n 2 C dX11_takeCrowd_119 rfl ?_
            refine r_aload_n 2 C dX11_takeCrowd_120 rfl ?_
            refine gfX11_68 131 C (kS sM h53 kc_114) (xS sM h53 xc_114_36) dX11_takeCrowd_121 ?_
            refine r_iload_n 1 C dX11_takeCrowd_124 rfl ?_
            refine r_iconst (v := 0) C dX11_takeCrowd_125 (by decide) ?_
            refine r_aload_n 2 C dX11_takeCrowd_126 rfl ?_
            refine gfX11_62 129 C (kS sM h53 kc_114) (xS sM h53 xc_114_34) dX11_takeCrowd_127 ?_
            refine r_iload_n 1 C dX11_takeCrowd_130 rfl ?_
            refine r_iald C (kS sM h53 kc_129) (vin (by omega) (by omega)) dX11_takeCrowd_131 ?_
            generalize (wI w47 129 (K).toNatClampNeg) = v55
            have b56 := Inv.get o50.1 rt_114_22 (j := 22) (by decide) (by decide)
            refine callVI C cwX11_204_V (ctX11_into_131 _ _ w47 (sS sM h53) o50 (wI w47 114 22) rfl (by omega) t (h49.I (by decide) (by decide) (h39.I (by decide) (by decide) (g_nk e31 (by decide) (g_nn e24 (by decide) (h14.I (by decide) (by decide) (h4.I (by decide) (by decide) pt)))))) (by omega) K 0 v55 (by omega)) (by decide) (kS sM h53 kc_114) rfl rfl rfl (Nat.le_of_ble_eq_true rfl) (by decide) dX11_takeCrowd_132 (fun r59 w58 y57 => ?_)
            show V x 0 0 w58 135 [(2, .int r48), (1, .int K), (0, .ref (gz (xG x) + 114))] [.int r59]
            obtain ⟨h60, o61, f62, g63⟩ := y57
            have h64 := Ch.tr h53 h60 (by decide) (by decide)
            exact hret _ _ _ _ dX11_takeCrowd_135 rfl ⟨h64, o61, (by omega), by omega⟩
          · have c54' := i_nle c54
            refine r_iload_n 0 C dX11_takeCrowd_115 rfl ?_
            refine r_goto 135 C dX11_takeCrowd_116 (by decide) ?_
            exact hret _ _ _ _ dX11_takeCrowd_135 rfl ⟨h53, o50, (by omega), by omega⟩
        · have c44' := i_nle c44
          refine r_iload_n 0 C dX11_takeCrowd_95 rfl ?_
          refine r_goto 110 C dX11_takeCrowd_96 (by decide) ?_
          refine r_istore_n [(2, .int r38), (1, .int K), (0, .ref (gz (xG x) + 114))] C dX11_takeCrowd_110 (by decide) rfl ?_
          refine r_iload_n 0 C dX11_takeCrowd_111 rfl ?_
          refine r_if_le 119 C dX11_takeCrowd_112 (by decide) (fun c65 => ?_) (fun c65 => ?_)
          · have c65' := i_le c65
            exfalso; omega
          · have c65' := i_nle c65
            refine r_iload_n 0 C dX11_takeCrowd_115 rfl ?_
            refine r_goto 135 C dX11_takeCrowd_116 (by decide) ?_
            exact hret _ _ _ _ dX11_takeCrowd_135 rfl ⟨h43, o40, (by omega), by omega⟩
      · have c22' := i_nle c22
        refine r_aload_n 2 C dX11_takeCrowd_48 rfl ?_
        refine r_iconst (v := 4) C dX11_takeCrowd_49 (by decide) ?_
        refine r_aload_n 2 C dX11_takeCrowd_50 rfl ?_
        refine gfX11_170 (v := (wI w12 114 26)) C (kS sM h19 kc_114) rfl dX11_takeCrowd_51 ?_
        refine callVI C cwX11_166_V (ctX11_fails _ _ w12 (sS sM h19) o15 4 (wI w12 114 26) ) (by decide) (kS sM h19 kc_114) rfl rfl rfl (Nat.le_of_ble_eq_true rfl) (by decide) dX11_takeCrowd_54 (fun r68 w67 y66 => ?_)
        show V x 0 0 w67 57 [(2, .int r13), (1, .int K), (0, .ref (gz (xG x) + 114))] [.int r68]
        obtain ⟨h69, o70, g71⟩ := y66
        have h72 := Ch.tr h19 h69 (by decide) (by decide)
        exact hret _ _ _ _ dX11_takeCrowd_57 rfl ⟨h72, o70, (by rw [(h69.I (by decide) (by decide) rfl)]; omega), by omega⟩
    · have c20' := i_nle c20
      refine r_iload_n 0 C dX11_takeCrowd_34 rfl ?_
      exact hret _ _ _ _ dX11_takeCrowd_35 rfl ⟨h19, o15, (by omega), by omega⟩
  · have c9' := i_nle c9
    refine r_iload_n 0 C dX11_takeCrowd_21 rfl ?_
    refine r_goto 29 C dX11_takeCrowd_22 (by decide) ?_
    refine r_istore_n [(2, .int r3), (1, .int K), (0, .ref (gz (xG x) + 114))] C dX11_takeCrowd_29 (by decide) rfl ?_
    refine r_iload_n 0 C dX11_takeCrowd_30 rfl ?_
    refine r_if_le 36 C dX11_takeCrowd_31 (by decide) (fun c73 => ?_) (fun c73 => ?_)
    · have c73' := i_le c73
      exfalso; omega
    · have c73' := i_nle c73
      refine r_iload_n 0 C dX11_takeCrowd_34 rfl ?_
      exact hret _ _ _ _ dX11_takeCrowd_35 rfl ⟨h8, o5, (by omega), by omega⟩
set_option maxHeartbeats 4000000 in
set_option maxRecDepth 100000 in
theorem ctX11_takeTune (l : Launch) (G : Gt) (w : Wv) (sM : Str KM XM w) (o0 : OkM w) (u : Int32) (pu : wI w 114 22 = u) (bu : 0 ≤ u.toInt ∧ u.toInt ≤ 500) (t : Int32) (pt : wI w 114 20 = t) (bt : 0 ≤ t.toInt ∧ t.toInt ≤ 500) (K : Int32) (pK : wI w 114 37 = K) (bK : 0 ≤ K.toInt ∧ K.toInt ≤ 2)  : CtI l G yX11_takeTune cX11_takeTune 3 .int ({ frames := 3, cells := 0, slots := 0, locals := 73 } : Room) [.ref (gz G + 114)] w (fun r w' => Ch [132, 133] [(114, 21), (114, 22), (114, 25), (114, 26), (114, 37)] w w' ∧ OkM w' ∧ (u.toInt ≤ (wI w' 114 22).toInt ∧ (wI w' 114 22).toInt ≤ 500) ∧ (0 ≤ r.toInt ∧ r.toInt ≤ 4)) := by
  refine enterI (by decide) (Nat.le_of_ble_eq_true rfl) ?_
  intro x el eG C hret
  subst el; subst eG
  show V x 0 0 w 0 [(0, .ref (gz (xG x) + 114))] []
  have h0 : Ch [132, 133] [(114, 21), (114, 22), (114, 25), (114, 26), (114, 37)] w w := Ch.rf
  have q0 : (0 : Int32).toInt = 0 := by decide
  have q1 : (1 : Int32).toInt = 1 := by decide
  have q7 : (7 : Int32).toInt = 7 := by decide
  have q20 : (20 : Int32).toInt = 20 := by decide
  obtain ⟨rA, rB, rC, rD⟩ := (o0.2 : Rel w)
  refine r_aload_n 0 C dX11_takeTune_0 rfl ?_
  refine gfX11_208 (v := K) C (kS sM h0 kc_114) pK dX11_takeTune_1 ?_
  refine r_istore_n [(1, .int K), (0, .ref (gz (xG x) + 114))] C dX11_takeTune_4 (by decide) rfl ?_
  refine r_aload_n 1 C dX11_takeTune_5 rfl ?_
  refine r_dup C dX11_takeTune_6 rfl ?_
  refine gfX11_208 (v := K) C (kS sM h0 kc_114) pK dX11_takeTune_7 ?_
  refine r_iconst (v := 1) C dX11_takeTune_10 (by decide) ?_
  refine r_iadd C dX11_takeTune_11 (fun v1 e2 => ?_)
  have v1' := iadd_ok e2 (by omega) (by omega)
  refine pfX11_208 C (kS sM h0 kc_114) dX11_takeTune_12 (fun w3 e4 => ?_)
  have h5 := Ch.putF h0 e4 (by decide)
  have o6 : OkM w3 := ⟨Inv.put o0.1 e4 0 3 (by omega) (by decide), Rel.putF o0.2 e4 (by decide)⟩
  refine r_aload_n 1 C dX11_takeTune_15 rfl ?_
  refine r_aload_n 1 C dX11_takeTune_16 rfl ?_
  refine gfX11_71 132 C (kS sM h5 kc_114) (xS sM h5 xc_114_38) dX11_takeTune_17 ?_
  refine r_iload_n 0 C dX11_takeTune_20 rfl ?_
  refine r_iconst (v := 1) C dX11_takeTune_21 (by decide) ?_
  refine r_bipush (v := 7) C dX11_takeTune_22 (by decide) ?_
  refine callVI C cwX11_204_V (ctX11_into_132 _ _ w3 (sS sM h5) o6 u (g_nk e4 (by decide) pu) (by omega) t (g_nk e4 (by decide) pt) (by omega) K 1 7 (by omega)) (by decide) (kS sM h5 kc_114) rfl rfl rfl (Nat.le_of_ble_eq_true rfl) (by decide) dX11_takeTune_24 (fun r9 w8 y7 => ?_)
  show V x 0 0 w8 27 [(1, .int K), (0, .ref (gz (xG x) + 114))] [.int r9]
  obtain ⟨h10, o11, f12, g13⟩ := y7
  have h14 := Ch.tr h5 h10 (by decide) (by decide)
  refine r_istore_n [(2, .int r9), (1, .int K), (0, .ref (gz (xG x) + 114))] C dX11_takeTune_27 (by decide) rfl ?_
  refine r_iload_n 0 C dX11_takeTune_28 rfl ?_
  refine r_if_le 36 C dX11_takeTune_29 (by decide) (fun c15 => ?_) (fun c15 => ?_)
  · have c15' := i_le c15
    refine r_aload_n 2 C dX11_takeTune_36 rfl ?_
    refine r_aload_n 2 C dX11_takeTune_37 rfl ?_
    refine gfX11_74 133 C (kS sM h14 kc_114) (xS sM h14 xc_114_39) dX11_takeTune_38 ?_
    refine r_iload_n 1 C dX11_takeTune_41 rfl ?_
    refine r_iconst (v := 0) C dX11_takeTune_42 (by decide) ?_
    refine r_bipush (v := 20) C dX11_takeTune_43 (by decide) ?_
    have b16 := Inv.get o11.1 rt_114_22 (j := 22) (by decide) (by decide)
    refine callVI C cwX11_204_V (ctX11_into_133 _ _ w8 (sS sM h14) o11 (wI w8 114 22) rfl (by omega) t (h10.I (by decide) (by decide) (g_nk e4 (by decide) pt)) (by omega) K 0 20 (by omega)) (by decide) (kS sM h14 kc_114) rfl rfl rfl (Nat.le_of_ble_eq_true rfl) (by decide) dX11_takeTune_45 (fun r19 w18 y17 => ?_)
    show V x 0 0 w18 48 [(2, .int r9), (1, .int K), (0, .ref (gz (xG x) + 114))] [.int r19]
    obtain ⟨h20, o21, f22, g23⟩ := y17
    have h24 := Ch.tr h14 h20 (by decide) (by decide)
    exact hret _ _ _ _ dX11_takeTune_48 rfl ⟨h24, o21, (by omega), by omega⟩
  · have c15' := i_nle c15
    refine r_iload_n 0 C dX11_takeTune_32 rfl ?_
    refine r_goto 48 C dX11_takeTune_33 (by decide) ?_
    exact hret _ _ _ _ dX11_takeTune_48 rfl ⟨h14, o11, (by omega), by omega⟩
set_option maxHeartbeats 4000000 in
set_option maxRecDepth 100000 in
theorem ctX11_takePiper (l : Launch) (G : Gt) (w : Wv) (sM : Str KM XM w) (o0 : OkM w) (u : Int32) (pu : wI w 114 22 = u) (bu : 0 ≤ u.toInt ∧ u.toInt ≤ 500) (t : Int32) (pt : wI w 114 20 = t) (bt : 0 ≤ t.toInt ∧ t.toInt ≤ 500)  : CtI l G yX11_takePiper cX11_takePiper 2 .int ({ frames := 3, cells := 0, slots := 0, locals := 70 } : Room) [.ref (gz G + 114)] w (fun r w' => Ch [] [(114, 21), (114, 22), (114, 25), (114, 26), (114, 40), (114, 43)] w w' ∧ OkM w' ∧ (u.toInt ≤ (wI w' 114 22).toInt ∧ (wI w' 114 22).toInt ≤ 500) ∧ (0 ≤ r.toInt ∧ r.toInt ≤ 4)) := by
  refine enterI (by decide) (Nat.le_of_ble_eq_true rfl) ?_
  intro x el eG C hret
  subst el; subst eG
  show V x 0 0 w 0 [(0, .ref (gz (xG x) + 114))] []
  have h0 : Ch [] [(114, 21), (114, 22), (114, 25), (114, 26), (114, 40), (114, 43)] w w := Ch.rf
  have q0 : (0 : Int32).toInt = 0 := by decide
  have q4 : (4 : Int32).toInt = 4 := by decide
  obtain ⟨rA, rB, rC, rD⟩ := (o0.2 : Rel w)
  refine r_aload_n 0 C dX11_takePiper_0 rfl ?_
  refine callVI C cwX11_197_V (ctX11_takeCell _ _ w (sS sM h0) o0 u pu (by omega) t pt (by omega)  ) (by decide) (kS sM h0 kc_114) rfl rfl rfl (Nat.le_of_ble_eq_true rfl) (by decide) dX11_takePiper_1 (fun r3 w2 y1 => ?_)
  show V x 0 0 w2 4 [(0, .ref (gz (xG x) + 114))] [.int r3]
  obtain ⟨h4, o5, f6, f7, g8⟩ := y1
  have h9 := Ch.tr h0 h4 (by decide) (by decide)
  refine r_istore_n [(1, .int r3), (0, .ref (gz (xG x) + 114))] C dX11_takePiper_4 (by decide) rfl ?_
  refine r_iload_n 0 C dX11_takePiper_5 rfl ?_
  refine r_if_le 11 C dX11_takePiper_6 (by decide) (fun c10 => ?_) (fun c10 => ?_)
  · have c10' := i_le c10
    refine r_aload_n 1 C dX11_takePiper_11 rfl ?_
    refine r_aload_n 1 C dX11_takePiper_12 rfl ?_
    refine gfX11_185 (v := (wI w2 114 43)) C (kS sM h9 kc_114) rfl dX11_takePiper_13 ?_
    refine pfX11_188 C (kS sM h9 kc_114) dX11_takePiper_16 (fun w11 e12 => ?_)
    have h13 := Ch.putF h9 e12 (by decide)
    have k15 := i_rng (wI w2 114 43)
    have o14 : OkM w11 := ⟨Inv.put o5.1 e12 (-1) 41 (by omega) (by decide), Rel.putF o5.2 e12 (by decide)⟩
    refine r_aload_n 1 C dX11_takePiper_19 rfl ?_
    refine gfX11_53 126 C (kS sM h13 kc_114) (xS sM h13 xc_114_29) dX11_takePiper_20 ?_
    refine r_aload_n 1 C dX11_takePiper_23 rfl ?_
    refine gfX11_185 (v := (wI w2 114 43)) C (kS sM h13 kc_114) (g_nk e12 (by decide) rfl) dX11_takePiper_24 ?_
    refine r_iald C (kS sM h13 kc_126) (vin (by omega) (by omega)) dX11_takePiper_27 ?_
    generalize (wI w11 126 ((wI w2 114 43)).toNatClampNeg) = v16
    refine r_if_le 43 C dX11_takePiper_28 (by decide) (fun c17 => ?_) (fun c17 => ?_)
    · have c17' := i_le c17
      refine r_iconst (v := 0) C dX11_takePiper_43 (by decide) ?_
      exact hret _ _ _ _ dX11_takePiper_44 rfl ⟨h13, o14, (by rw [(g_nk e12 (by decide) rfl)]; omega), by omega⟩
    · have c17' := i_nle c17
      refine r_aload_n 1 C dX11_takePiper_31 rfl ?_
      refine r_iconst (v := 4) C dX11_takePiper_32 (by decide) ?_
      refine r_aload_n 1 C dX11_takePiper_33 rfl ?_
      refine gfX11_170 (v := (wI w2 114 26)) C (kS sM h13 kc_114) (g_nk e12 (by decide) rfl) dX11_takePiper_34 ?_
      refine callVI C cwX11_166_V (ctX11_fails _ _ w11 (sS sM h13) o14 4 (wI w2 114 26) ) (by decide) (kS sM h13 kc_114) rfl rfl rfl (Nat.le_of_ble_eq_true rfl) (by decide) dX11_takePiper_37 (fun r20 w19 y18 => ?_)
      show V x 0 0 w19 40 [(1, .int r3), (0, .ref (gz (xG x) + 114))] [.int r20]
      obtain ⟨h21, o22, g23⟩ := y18
      have h24 := Ch.tr h13 h21 (by decide) (by decide)
      refine r_goto 44 C dX11_takePiper_40 (by decide) ?_
      exact hret _ _ _ _ dX11_takePiper_44 rfl ⟨h24, o22, (by rw [(h21.I (by decide) (by decide) (g_nk e12 (by decide) rfl))]; omega), by omega⟩
  · have c10' := i_nle c10
    refine r_iload_n 0 C dX11_takePiper_9 rfl ?_
    exact hret _ _ _ _ dX11_takePiper_10 rfl ⟨h9, o5, (by omega), by omega⟩
set_option maxHeartbeats 4000000 in
set_option maxRecDepth 100000 in
theorem ctX11_takePay (l : Launch) (G : Gt) (w : Wv) (sM : Str KM XM w) (o0 : OkM w) (u : Int32) (pu : wI w 114 22 = u) (bu : 0 ≤ u.toInt ∧ u.toInt ≤ 500) (t : Int32) (pt : wI w 114 20 = t) (bt : 0 ≤ t.toInt ∧ t.toInt ≤ 500)  : CtI l G yX11_takePay cX11_takePay 2 .int ({ frames := 2, cells := 0, slots := 0, locals := 48 } : Room) [.ref (gz G + 114)] w (fun r w' => Ch [] [(114, 21), (114, 22), (114, 25), (114, 26), (114, 41), (114, 42)] w w' ∧ OkM w' ∧ (u.toInt ≤ (wI w' 114 22).toInt ∧ (wI w' 114 22).toInt ≤ 500) ∧ (0 ≤ r.toInt ∧ r.toInt ≤ 4)) := by
  refine enterI (by decide) (Nat.le_of_ble_eq_true rfl) ?_
  intro x el eG C hret
  subst el; subst eG
  show V x 0 0 w 0 [(0, .ref (gz (xG x) + 114))] []
  have h0 : Ch [] [(114, 21), (114, 22), (114, 25), (114, 26), (114, 41), (114, 42)] w w := Ch.rf
  have q0 : (0 : Int32).toInt = 0 := by decide
  have q99 : (99 : Int32).toInt = 99 := by decide
  obtain ⟨rA, rB, rC, rD⟩ := (o0.2 : Rel w)
  refine r_aload_n 0 C dX11_takePay_0 rfl ?_
  refine r_iconst (v := 0) C dX11_takePay_1 (by decide) ?_
  refine r_bipush (v := 99) C dX11_takePay_2 (by decide) ?_
  refine callVI C cwX11_176_V (ctX11_takeNumber _ _ w (sS sM h0) o0 u pu (by omega) t pt (by omega) 0 99 ) (by decide) (kS sM h0 kc_114) rfl rfl rfl (Nat.le_of_ble_eq_true rfl) (by decide) dX11_takePay_4 (fun r3 w2 y1 => ?_)
  show V x 0 0 w2 7 [(0, .ref (gz (xG x) + 114))] [.int r3]
  obtain ⟨h4, o5, f6, f7, g8⟩ := y1
  have h9 := Ch.tr h0 h4 (by decide) (by decide)
  refine r_istore_n [(1, .int r3), (0, .ref (gz (xG x) + 114))] C dX11_takePay_7 (by decide) rfl ?_
  refine r_aload_n 1 C dX11_takePay_8 rfl ?_
  refine r_aload_n 1 C dX11_takePay_9 rfl ?_
  refine gfX11_173 (v := (wI w2 114 25)) C (kS sM h9 kc_114) rfl dX11_takePay_10 ?_
  refine pfX11_211 C (kS sM h9 kc_114) dX11_takePay_13 (fun w10 e11 => ?_)
  have h12 := Ch.putF h9 e11 (by decide)
  have k14 := i_rng (wI w2 114 25)
  have o13 : OkM w10 := ⟨Inv.putk o5.1 e11 (by decide), Rel.putF o5.2 e11 (by decide)⟩
  refine r_iload_n 0 C dX11_takePay_16 rfl ?_
  refine r_if_le 24 C dX11_takePay_17 (by decide) (fun c15 => ?_) (fun c15 => ?_)
  · have c15' := i_le c15
    refine r_aload_n 1 C dX11_takePay_24 rfl ?_
    refine r_iconst (v := 0) C dX11_takePay_25 (by decide) ?_
    refine r_bipush (v := 99) C dX11_takePay_26 (by decide) ?_
    have b16 := Inv.get o5.1 rt_114_22 (j := 22) (by decide) (by decide)
    refine callVI C cwX11_176_V (ctX11_takeNumber _ _ w10 (sS sM h12) o13 (wI w2 114 22) (g_nk e11 (by decide) rfl) (by omega) t (g_nk e11 (by decide) (h4.I (by decide) (by decide) pt)) (by omega) 0 99 ) (by decide) (kS sM h12 kc_114) rfl rfl rfl (Nat.le_of_ble_eq_true rfl) (by decide) dX11_takePay_28 (fun r19 w18 y17 => ?_)
    show V x 0 0 w18 31 [(1, .int r3), (0, .ref (gz (xG x) + 114))] [.int r19]
    obtain ⟨h20, o21, f22, f23, g24⟩ := y17
    have h25 := Ch.tr h12 h20 (by decide) (by decide)
    refine r_istore_n [(1, .int r19), (0, .ref (gz (xG x) + 114))] C dX11_takePay_31 (by decide) rfl ?_
    refine r_aload_n 1 C dX11_takePay_32 rfl ?_
    refine r_aload_n 1 C dX11_takePay_33 rfl ?_
    refine gfX11_173 (v := (wI w18 114 25)) C (kS sM h25 kc_114) rfl dX11_takePay_34 ?_
    refine pfX11_214 C (kS sM h25 kc_114) dX11_takePay_37 (fun w26 e27 => ?_)
    have h28 := Ch.putF h25 e27 (by decide)
    have k30 := i_rng (wI w18 114 25)
    have o29 : OkM w26 := ⟨Inv.putk o21.1 e27 (by decide), Rel.putF o21.2 e27 (by decide)⟩
    refine r_iload_n 0 C dX11_takePay_40 rfl ?_
    exact hret _ _ _ _ dX11_takePay_41 rfl ⟨h28, o29, (by rw [(g_nk e27 (by decide) rfl)]; omega), by omega⟩
  · have c15' := i_nle c15
    refine r_iload_n 0 C dX11_takePay_20 rfl ?_
    refine r_goto 31 C dX11_takePay_21 (by decide) ?_
    refine r_istore_n [(1, .int r3), (0, .ref (gz (xG x) + 114))] C dX11_takePay_31 (by decide) rfl ?_
    refine r_aload_n 1 C dX11_takePay_32 rfl ?_
    refine r_aload_n 1 C dX11_takePay_33 rfl ?_
    refine gfX11_173 (v := (wI w2 114 25)) C (kS sM h12 kc_114) (g_nk e11 (by decide) rfl) dX11_takePay_34 ?_
    refine pfX11_214 C (kS sM h12 kc_114) dX11_takePay_37 (fun w31 e32 => ?_)
    have h33 := Ch.putF h12 e32 (by decide)
    have k35 := i_rng (wI w2 114 25)
    have o34 : OkM w31 := ⟨Inv.putk o13.1 e32 (by decide), Rel.putF o13.2 e32 (by decide)⟩
    refine r_iload_n 0 C dX11_takePay_40 rfl ?_
    exact hret _ _ _ _ dX11_takePay_41 rfl ⟨h33, o34, (by rw [(g_nk e32 (by decide) (g_nk e11 (by decide) rfl))]; omega), by omega⟩
set_option maxHeartbeats 4000000 in
set_option maxRecDepth 100000 in
theorem ctX11_takeClause (l : Launch) (G : Gt) (w : Wv) (sM : Str KM XM w) (o0 : OkM w) (u : Int32) (pu : wI w 114 22 = u) (bu : 0 ≤ u.toInt ∧ u.toInt ≤ 500) (t : Int32) (pt : wI w 114 20 = t) (bt : 0 ≤ t.toInt ∧ t.toInt ≤ 500)  : CtI l G yX11_takeClause cX11_takeClause 4 .int ({ frames := 4, cells := 0, slots := 0, locals := 95 } : Room) [.ref (gz G + 114)] w (fun r w' => Ch [126, 127, 128, 129, 130, 131, 132, 133] [(114, 21), (114, 22), (114, 23), (114, 24), (114, 25), (114, 26), (114, 27), (114, 28), (114, 30), (114, 31), (114, 37), (114, 40), (114, 41), (114, 42), (114, 43)] w w' ∧ OkM w' ∧ (u.toInt ≤ (wI w' 114 22).toInt ∧ (r.toInt = 0 → (u.toInt + 1 ≤ (wI w' 114 22).toInt ∧ (wI w' 114 22).toInt ≤ 500))) ∧ (0 ≤ r.toInt ∧ r.toInt ≤ 4)) := by
  refine enterI (by decide) (Nat.le_of_ble_eq_true rfl) ?_
  intro x el eG C hret
  subst el; subst eG
  show V x 0 0 w 0 [(0, .ref (gz (xG x) + 114))] []
  have h0 : Ch [126, 127, 128, 129, 130, 131, 132, 133] [(114, 21), (114, 22), (114, 23), (114, 24), (114, 25), (114, 26), (114, 27), (114, 28), (114, 30), (114, 31), (114, 37), (114, 40), (114, 41), (114, 42), (114, 43)] w w := Ch.rf
  have q0 : (0 : Int32).toInt = 0 := by decide
  have q1 : (1 : Int32).toInt = 1 := by decide
  have q3 : (3 : Int32).toInt = 3 := by decide
  have q4 : (4 : Int32).toInt = 4 := by decide
  have q5 : (5 : Int32).toInt = 5 := by decide
  have q6 : (6 : Int32).toInt = 6 := by decide
  have q30 : (30 : Int32).toInt = 30 := by decide
  have q59 : (59 : Int32).toInt = 59 := by decide
  obtain ⟨rA, rB, rC, rD⟩ := (o0.2 : Rel w)
  refine r_aload_n 0 C dX11_takeClause_0 rfl ?_
  refine callVV C cwX11_225_V (ctX11_readWord _ _ w (sS sM h0) o0 u pu (by omega) t pt (by omega)  ) (by decide) (kS sM h0 kc_114) rfl rfl rfl (Nat.le_of_ble_eq_true rfl) (by decide) dX11_takeClause_1 (fun w2 y1 => ?_)
  show V x 0 0 w2 4 [(0, .ref (gz (xG x) + 114))] []
  obtain ⟨h4, o5, f6, f7⟩ := y1
  have h8 := Ch.tr h0 h4 (by decide) (by decide)
  refine r_aload_n 0 C dX11_takeClause_4 rfl ?_
  refine callVI C cwX11_228_V (ctX11_kindOfWord _ _ w2 (sS sM h8) o5  ) (by decide) (kS sM h8 kc_114) rfl rfl rfl (Nat.le_of_ble_eq_true rfl) (by decide) dX11_takeClause_5 (fun r11 w10 y9 => ?_)
  show V x 0 0 w10 8 [(0, .ref (gz (xG x) + 114))] [.int r11]
  obtain ⟨h12, o13, g14⟩ := y9
  have h15 := Ch.tr h8 h12 (by decide) (by decide)
  refine r_istore_n [(1, .int r11), (0, .ref (gz (xG x) + 114))] C dX11_takeClause_8 (by decide) rfl ?_
  refine r_iload_n 0 C dX11_takeClause_9 rfl ?_
  refine r_if_lt 24 C dX11_takeClause_10 (by decide) (fun c16 => ?_) (fun c16 => ?_)
  · have c16' := i_lt c16
    refine r_aload_n 1 C dX11_takeClause_24 rfl ?_
    refine r_iconst (v := 1) C dX11_takeClause_25 (by decide) ?_
    refine r_aload_n 1 C dX11_takeClause_26 rfl ?_
    refine gfX11_136 (v := (wI w2 114 22)) C (kS sM h15 kc_114) (h12.I (by decide) (by decide) rfl) dX11_takeClause_27 ?_
    have b17 := Inv.get o5.1 rt_114_22 (j := 22) (by decide) (by decide)
    refine callVI C cwX11_166_V (ctX11_fails _ _ w10 (sS sM h15) o13 1 (wI w2 114 22) ) (by decide) (kS sM h15 kc_114) rfl rfl rfl (Nat.le_of_ble_eq_true rfl) (by decide) dX11_takeClause_30 (fun r20 w19 y18 => ?_)
    show V x 0 0 w19 33 [(1, .int r11), (0, .ref (gz (xG x) + 114))] [.int r20]
    obtain ⟨h21, o22, g23⟩ := y18
    have h24 := Ch.tr h15 h21 (by decide) (by decide)
    exact hret _ _ _ _ dX11_takeClause_33 rfl ⟨h24, o22, (by rw [(h21.I (by decide) (by decide) (h12.I (by decide) (by decide) rfl))]; omega), by omega⟩
  · have c16' := i_nlt c16
    refine r_iload_n 0 C dX11_takeClause_13 rfl ?_
    refine r_if_le 34 C dX11_takeClause_14 (by decide) (fun c25 => ?_) (fun c25 => ?_)
    · have c25' := i_le c25
      refine r_iload_n 0 C dX11_takeClause_34 rfl ?_
      refine r_if_ne 53 C dX11_takeClause_35 (by decide) (fun c26 => ?_) (fun c26 => ?_)
      · have c26' := i_ne c26
        exfalso; omega
      · have c26' := i_eq c26
        refine r_aload_n 1 C dX11_takeClause_38 rfl ?_
        refine gfX11_179 (v := (wI w 114 27)) C (kS sM h15 kc_114) (h12.I (by decide) (by decide) (h4.I (by decide) (by decide) rfl)) dX11_takeClause_39 ?_
        have b27 := Inv.get o0.1 rt_114_27 (j := 27) (by decide) (by decide)
        refine r_if_le 49 C dX11_takeClause_42 (by decide) (fun c28 => ?_) (fun c28 => ?_)
        · have c28' := i_le c28
          refine r_iconst (v := 0) C dX11_takeClause_49 (by decide) ?_
          refine r_goto 151 C dX11_takeClause_50 (by decide) ?_
          refine r_istore_n [(2, .int 0), (1, .int r11), (0, .ref (gz (xG x) + 114))] C dX11_takeClause_151 (by decide) rfl ?_
          refine r_iload_n 0 C dX11_takeClause_152 rfl ?_
          refine r_if_eq 166 C dX11_takeClause_153 (by decide) (fun c29 => ?_) (fun c29 => ?_)
          · have c29' := i_eq c29
            refine r_aload_n 2 C dX11_takeClause_166 rfl ?_
            refine r_aload_n 2 C dX11_takeClause_167 rfl ?_
            refine gfX11_147 (v := (wI w2 114 24)) C (kS sM h15 kc_114) (h12.I (by decide) (by decide) rfl) dX11_takeClause_168 ?_
            have b30 := Inv.get o5.1 rt_114_24 (j := 24) (by decide) (by decide)
            refine pfX11_136 C (kS sM h15 kc_114) dX11_takeClause_171 (fun w31 e32 => ?_)
            have h33 := Ch.putF h15 e32 (by decide)
            have o34 : OkM w31 := ⟨Inv.put o13.1 e32 0 501 (by omega) (by decide), Rel.putF o13.2 e32 (by decide)⟩
            refine r_iload_n 1 C dX11_takeClause_174 rfl ?_
            refine r_if_ne 185 C dX11_takeClause_175 (by decide) (fun c35 => ?_) (fun c35 => ?_)
            · have c35' := i_ne c35
              exfalso; omega
            · have c35' := i_eq c35
              refine r_aload_n 2 C dX11_takeClause_178 rfl ?_
              refine callVI C cwX11_231_V (ctX11_takeTown _ _ w31 (sS sM h33) o34 (wI w2 114 24) (g_eq e32) (by omega) t (g_nk e32 (by decide) (h12.I (by decide) (by decide) (h4.I (by decide) (by decide) pt))) (by omega)  ) (by decide) (kS sM h33 kc_114) rfl rfl rfl (Nat.le_of_ble_eq_true rfl) (by decide) dX11_takeClause_179 (fun r38 w37 y36 => ?_)
              show V x 0 0 w37 182 [(2, .int 0), (1, .int r11), (0, .ref (gz (xG x) + 114))] [.int r38]
              obtain ⟨h39, o40, f41, g42⟩ := y36
              have h43 := Ch.tr h33 h39 (by decide) (by decide)
              obtain ⟨R44a, R44b, R44c, R44d⟩ := (o40.2 : Rel w37)
              refine r_goto 239 C dX11_takeClause_182 (by decide) ?_
              refine r_istore_n [(3, .int r38), (2, .int 0), (1, .int r11), (0, .ref (gz (xG x) + 114))] C dX11_takeClause_239 (by decide) rfl ?_
              refine r_iload_n 0 C dX11_takeClause_240 rfl ?_
              refine r_if_ne 263 C dX11_takeClause_241 (by decide) (fun c45 => ?_) (fun c45 => ?_)
              · have c45' := i_ne c45
                refine r_aload_n 3 C dX11_takeClause_263 rfl ?_
                refine r_dup C dX11_takeClause_264 rfl ?_
                refine gfX11_136 (v := (wI w37 114 22)) C (kS sM h43 kc_114) rfl dX11_takeClause_265 ?_
                have b46 := Inv.get o40.1 rt_114_22 (j := 22) (by decide) (by decide)
                refine r_iconst (v := 1) C dX11_takeClause_268 (by decide) ?_
                refine r_iadd C dX11_takeClause_269 (fun v47 e48 => ?_)
                have v47' := iadd_ok e48 (by omega) (by omega)
                refine pfX11_136 C (kS sM h43 kc_114) dX11_takeClause_270 (fun w49 e50 => ?_)
                have h51 := Ch.putF h43 e50 (by decide)
                have o52 : OkM w49 := ⟨Inv.put o40.1 e50 0 501 (by omega) (by decide), Rel.putF o40.2 e50 (by decide)⟩
                refine r_iload_n 0 C dX11_takeClause_273 rfl ?_
                exact hret _ _ _ _ dX11_takeClause_274 rfl ⟨h51, o52, (by rw [(g_eq e50)]; omega), by omega⟩
              · have c45' := i_eq c45
                refine r_aload_n 3 C dX11_takeClause_244 rfl ?_
                have b53 := Inv.get o40.1 rt_114_22 (j := 22) (by decide) (by decide)
                refine callVI C cwX11_139_V (ctX11_here _ _ w37 (sS sM h43) o40 (wI w37 114 22) rfl (by omega) t (h39.I (by decide) (by decide) (g_nk e32 (by decide) (h12.I (by decide) (by decide) (h4.I (by decide) (by decide) pt)))) (by omega)  ) (by decide) (kS sM h43 kc_114) rfl rfl rfl (Nat.le_of_ble_eq_true rfl) (by decide) dX11_takeClause_245 (fun r56 w55 y54 => ?_)
                show V x 0 0 w55 248 [(3, .int r38), (2, .int 0), (1, .int r11), (0, .ref (gz (xG x) + 114))] [.int r56]
                obtain ⟨h57, o58, f59⟩ := y54
                have h60 := Ch.tr h43 h57 (by decide) (by decide)
                refine r_bipush (v := 59) C dX11_takeClause_248 (by decide) ?_
                refine r_icmp_eq 263 C dX11_takeClause_250 (by decide) (fun c61 => ?_) (fun c61 => ?_)
                · have c61' := i_eq c61
                  refine r_aload_n 3 C dX11_takeClause_263 rfl ?_
                  refine r_dup C dX11_takeClause_264 rfl ?_
                  refine gfX11_136 (v := (wI w55 114 22)) C (kS sM h60 kc_114) rfl dX11_takeClause_265 ?_
                  have b62 := Inv.get o58.1 rt_114_22 (j := 22) (by decide) (by decide)
                  refine r_iconst (v := 1) C dX11_takeClause_268 (by decide) ?_
                  refine r_iadd C dX11_takeClause_269 (fun v63 e64 => ?_)
                  have v63' := iadd_ok e64 (by omega) (by omega)
                  refine pfX11_136 C (kS sM h60 kc_114) dX11_takeClause_270 (fun w65 e66 => ?_)
                  have h67 := Ch.putF h60 e66 (by decide)
                  have o68 : OkM w65 := ⟨Inv.put o58.1 e66 0 501 (by omega) (by decide), Rel.putF o58.2 e66 (by decide)⟩
                  refine r_iload_n 0 C dX11_takeClause_273 rfl ?_
                  exact hret _ _ _ _ dX11_takeClause_274 rfl ⟨h67, o68, (by rw [(g_eq e66)]; omega), by omega⟩
                · have c61' := i_ne c61
                  refine r_aload_n 3 C dX11_takeClause_253 rfl ?_
                  refine r_iconst (v := 1) C dX11_takeClause_254 (by decide) ?_
                  refine r_aload_n 3 C dX11_takeClause_255 rfl ?_
                  refine gfX11_136 (v := (wI w55 114 22)) C (kS sM h60 kc_114) rfl dX11_takeClause_256 ?_
                  have b69 := Inv.get o58.1 rt_114_22 (j := 22) (by decide) (by decide)
                  refine callVI C cwX11_166_V (ctX11_fails _ _ w55 (sS sM h60) o58 1 (wI w55 114 22) ) (by decide) (kS sM h60 kc_114) rfl rfl rfl (Nat.le_of_ble_eq_true rfl) (by decide) dX11_takeClause_259 (fun r72 w71 y70 => ?_)
                  show V x 0 0 w71 262 [(3, .int r38), (2, .int 0), (1, .int r11), (0, .ref (gz (xG x) + 114))] [.int r72]
                  obtain ⟨h73, o74, g75⟩ := y70
                  have h76 := Ch.tr h60 h73 (by decide) (by decide)
                  exact hret _ _ _ _ dX11_takeClause_262 rfl ⟨h76, o74, (by rw [(h73.I (by decide) (by decide) rfl)]; omega), by omega⟩
          · have c29' := i_ne c29
            exfalso; omega
        · have c28' := i_nle c28
          refine r_iconst (v := 1) C dX11_takeClause_45 (by decide) ?_
          refine r_goto 151 C dX11_takeClause_46 (by decide) ?_
          refine r_istore_n [(2, .int 1), (1, .int r11), (0, .ref (gz (xG x) + 114))] C dX11_takeClause_151 (by decide) rfl ?_
          refine r_iload_n 0 C dX11_takeClause_152 rfl ?_
          refine r_if_eq 166 C dX11_takeClause_153 (by decide) (fun c77 => ?_) (fun c77 => ?_)
          · have c77' := i_eq c77
            exfalso; omega
          · have c77' := i_ne c77
            refine r_aload_n 2 C dX11_takeClause_156 rfl ?_
            refine r_iconst (v := 3) C dX11_takeClause_157 (by decide) ?_
            refine r_aload_n 2 C dX11_takeClause_158 rfl ?_
            refine gfX11_136 (v := (wI w2 114 22)) C (kS sM h15 kc_114) (h12.I (by decide) (by decide) rfl) dX11_takeClause_159 ?_
            have b78 := Inv.get o5.1 rt_114_22 (j := 22) (by decide) (by decide)
            refine callVI C cwX11_166_V (ctX11_fails _ _ w10 (sS sM h15) o13 3 (wI w2 114 22) ) (by decide) (kS sM h15 kc_114) rfl rfl rfl (Nat.le_of_ble_eq_true rfl) (by decide) dX11_takeClause_162 (fun r81 w80 y79 => ?_)
            show V x 0 0 w80 165 [(2, .int 1), (1, .int r11), (0, .ref (gz (xG x) + 114))] [.int r81]
            obtain ⟨h82, o83, g84⟩ := y79
            have h85 := Ch.tr h15 h82 (by decide) (by decide)
            exact hret _ _ _ _ dX11_takeClause_165 rfl ⟨h85, o83, (by rw [(h82.I (by decide) (by decide) (h12.I (by decide) (by decide) rfl))]; omega), by omega⟩
    · have c25' := i_nle c25
      refine r_aload_n 1 C dX11_takeClause_17 rfl ?_
      refine gfX11_179 (v := (wI w 114 27)) C (kS sM h15 kc_114) (h12.I (by decide) (by decide) (h4.I (by decide) (by decide) rfl)) dX11_takeClause_18 ?_
      have b86 := Inv.get o0.1 rt_114_27 (j := 27) (by decide) (by decide)
      refine r_if_ne 34 C dX11_takeClause_21 (by decide) (fun c87 => ?_) (fun c87 => ?_)
      · have c87' := i_ne c87
        refine r_iload_n 0 C dX11_takeClause_34 rfl ?_
        refine r_if_ne 53 C dX11_takeClause_35 (by decide) (fun c88 => ?_) (fun c88 => ?_)
        · have c88' := i_ne c88
          refine r_iload_n 0 C dX11_takeClause_53 rfl ?_
          refine r_iconst (v := 4) C dX11_takeClause_54 (by decide) ?_
          refine r_icmp_ge 75 C dX11_takeClause_55 (by decide) (fun c89 => ?_) (fun c89 => ?_)
          · have c89' := i_le c89
            refine r_iload_n 0 C dX11_takeClause_75 rfl ?_
            refine r_iconst (v := 4) C dX11_takeClause_76 (by decide) ?_
            refine r_icmp_ne 97 C dX11_takeClause_77 (by decide) (fun c90 => ?_) (fun c90 => ?_)
            · have c90' := i_ne c90
              refine r_iload_n 0 C dX11_takeClause_97 rfl ?_
              refine r_iconst (v := 5) C dX11_takeClause_98 (by decide) ?_
              refine r_icmp_ne 118 C dX11_takeClause_99 (by decide) (fun c91 => ?_) (fun c91 => ?_)
              · have c91' := i_ne c91
                refine r_iload_n 0 C dX11_takeClause_118 rfl ?_
                refine r_bipush (v := 6) C dX11_takeClause_119 (by decide) ?_
                refine r_icmp_ne 139 C dX11_takeClause_121 (by decide) (fun c92 => ?_) (fun c92 => ?_)
                · have c92' := i_ne c92
                  refine r_aload_n 1 C dX11_takeClause_139 rfl ?_
                  refine gfX11_211 (v := (wI w 114 41)) C (kS sM h15 kc_114) (h12.I (by decide) (by decide) (h4.I (by decide) (by decide) rfl)) dX11_takeClause_140 ?_
                  refine r_if_lt 150 C dX11_takeClause_143 (by decide) (fun c93 => ?_) (fun c93 => ?_)
                  · have c93' := i_lt c93
                    refine r_iconst (v := 0) C dX11_takeClause_150 (by decide) ?_
                    refine r_istore_n [(2, .int 0), (1, .int r11), (0, .ref (gz (xG x) + 114))] C dX11_takeClause_151 (by decide) rfl ?_
                    refine r_iload_n 0 C dX11_takeClause_152 rfl ?_
                    refine r_if_eq 166 C dX11_takeClause_153 (by decide) (fun c94 => ?_) (fun c94 => ?_)
                    · have c94' := i_eq c94
                      refine r_aload_n 2 C dX11_takeClause_166 rfl ?_
                      refine r_aload_n 2 C dX11_takeClause_167 rfl ?_
                      refine gfX11_147 (v := (wI w2 114 24)) C (kS sM h15 kc_114) (h12.I (by decide) (by decide) rfl) dX11_takeClause_168 ?_
                      have b95 := Inv.get o5.1 rt_114_24 (j := 24) (by decide) (by decide)
                      refine pfX11_136 C (kS sM h15 kc_114) dX11_takeClause_171 (fun w96 e97 => ?_)
                      have h98 := Ch.putF h15 e97 (by decide)
                      have o99 : OkM w96 := ⟨Inv.put o13.1 e97 0 501 (by omega) (by decide), Rel.putF o13.2 e97 (by decide)⟩
                      refine r_iload_n 1 C dX11_takeClause_174 rfl ?_
                      refine r_if_ne 185 C dX11_takeClause_175 (by decide) (fun c100 => ?_) (fun c100 => ?_)
                      · have c100' := i_ne c100
                        refine r_iload_n 1 C dX11_takeClause_185 rfl ?_
                        refine r_iconst (v := 4) C dX11_takeClause_186 (by decide) ?_
                        refine r_icmp_ge 198 C dX11_takeClause_187 (by decide) (fun c101 => ?_) (fun c101 => ?_)
                        · have c101' := i_le c101
                          refine r_iload_n 1 C dX11_takeClause_198 rfl ?_
                          refine r_iconst (v := 4) C dX11_takeClause_199 (by decide) ?_
                          refine r_icmp_ne 210 C dX11_takeClause_200 (by decide) (fun c102 => ?_) (fun c102 => ?_)
                          · have c102' := i_ne c102
                            refine r_iload_n 1 C dX11_takeClause_210 rfl ?_
                            refine r_iconst (v := 5) C dX11_takeClause_211 (by decide) ?_
                            refine r_icmp_ne 222 C dX11_takeClause_212 (by decide) (fun c103 => ?_) (fun c103 => ?_)
                            · have c103' := i_ne c103
                              refine r_iload_n 1 C dX11_takeClause_222 rfl ?_
                              refine r_bipush (v := 6) C dX11_takeClause_223 (by decide) ?_
                              refine r_icmp_ne 235 C dX11_takeClause_225 (by decide) (fun c104 => ?_) (fun c104 => ?_)
                              · have c104' := i_ne c104
                                refine r_aload_n 2 C dX11_takeClause_235 rfl ?_
                                refine callVI C cwX11_247_V (ctX11_takePay _ _ w96 (sS sM h98) o99 (wI w2 114 24) (g_eq e97) (by omega) t (g_nk e97 (by decide) (h12.I (by decide) (by decide) (h4.I (by decide) (by decide) pt))) (by omega)  ) (by decide) (kS sM h98 kc_114) rfl rfl rfl (Nat.le_of_ble_eq_true rfl) (by decide) dX11_takeClause_236 (fun r107 w106 y105 => ?_)
                                show V x 0 0 w106 239 [(2, .int 0), (1, .int r11), (0, .ref (gz (xG x) + 114))] [.int r107]
                                obtain ⟨h108, o109, f110, g111⟩ := y105
                                have h112 := Ch.tr h98 h108 (by decide) (by decide)
                                refine r_istore_n [(3, .int r107), (2, .int 0), (1, .int r11), (0, .ref (gz (xG x) + 114))] C dX11_takeClause_239 (by decide) rfl ?_
                                refine r_iload_n 0 C dX11_takeClause_240 rfl ?_
                                refine r_if_ne 263 C dX11_takeClause_241 (by decide) (fun c113 => ?_) (fun c113 => ?_)
                                · have c113' := i_ne c113
                                  refine r_aload_n 3 C dX11_takeClause_263 rfl ?_
                                  refine r_dup C dX11_takeClause_264 rfl ?_
                                  refine gfX11_136 (v := (wI w106 114 22)) C (kS sM h112 kc_114) rfl dX11_takeClause_265 ?_
                                  have b114 := Inv.get o109.1 rt_114_22 (j := 22) (by decide) (by decide)
                                  refine r_iconst (v := 1) C dX11_takeClause_268 (by decide) ?_
                                  refine r_iadd C dX11_takeClause_269 (fun v115 e116 => ?_)
                                  have v115' := iadd_ok e116 (by omega) (by omega)
                                  refine pfX11_136 C (kS sM h112 kc_114) dX11_takeClause_270 (fun w117 e118 => ?_)
                                  have h119 := Ch.putF h112 e118 (by decide)
                                  have o120 : OkM w117 := ⟨Inv.put o109.1 e118 0 501 (by omega) (by decide), Rel.putF o109.2 e118 (by decide)⟩
                                  refine r_iload_n 0 C dX11_takeClause_273 rfl ?_
                                  exact hret _ _ _ _ dX11_takeClause_274 rfl ⟨h119, o120, (by rw [(g_eq e118)]; omega), by omega⟩
                                · have c113' := i_eq c113
                                  refine r_aload_n 3 C dX11_takeClause_244 rfl ?_
                                  have b121 := Inv.get o109.1 rt_114_22 (j := 22) (by decide) (by decide)
                                  refine callVI C cwX11_139_V (ctX11_here _ _ w106 (sS sM h112) o109 (wI w106 114 22) rfl (by omega) t (h108.I (by decide) (by decide) (g_nk e97 (by decide) (h12.I (by decide) (by decide) (h4.I (by decide) (by decide) pt)))) (by omega)  ) (by decide) (kS sM h112 kc_114) rfl rfl rfl (Nat.le_of_ble_eq_true rfl) (by decide) dX11_takeClause_245 (fun r124 w123 y122 => ?_)
                                  show V x 0 0 w123 248 [(3, .int r107), (2, .int 0), (1, .int r11), (0, .ref (gz (xG x) + 114))] [.int r124]
                                  obtain ⟨h125, o126, f127⟩ := y122
                                  have h128 := Ch.tr h112 h125 (by decide) (by decide)
                                  refine r_bipush (v := 59) C dX11_takeClause_248 (by decide) ?_
                                  refine r_icmp_eq 263 C dX11_takeClause_250 (by decide) (fun c129 => ?_) (fun c129 => ?_)
                                  · have c129' := i_eq c129
                                    refine r_aload_n 3 C dX11_takeClause_263 rfl ?_
                                    refine r_dup C dX11_takeClause_264 rfl ?_
                                    refine gfX11_136 (v := (wI w123 114 22)) C (kS sM h128 kc_114) rfl dX11_takeClause_265 ?_
                                    have b130 := Inv.get o126.1 rt_114_22 (j := 22) (by decide) (by decide)
                                    refine r_iconst (v := 1) C dX11_takeClause_268 (by decide) ?_
                                    refine r_iadd C dX11_takeClause_269 (fun v131 e132 => ?_)
                                    have v131' := iadd_ok e132 (by omega) (by omega)
                                    refine pfX11_136 C (kS sM h128 kc_114) dX11_takeClause_270 (fun w133 e134 => ?_)
                                    have h135 := Ch.putF h128 e134 (by decide)
                                    have o136 : OkM w133 := ⟨Inv.put o126.1 e134 0 501 (by omega) (by decide), Rel.putF o126.2 e134 (by decide)⟩
                                    refine r_iload_n 0 C dX11_takeClause_273 rfl ?_
                                    exact hret _ _ _ _ dX11_takeClause_274 rfl ⟨h135, o136, (by rw [(g_eq e134)]; omega), by omega⟩
                                  · have c129' := i_ne c129
                                    refine r_aload_n 3 C dX11_takeClause_253 rfl ?_
                                    refine r_iconst (v := 1) C dX11_takeClause_254 (by decide) ?_
                                    refine r_aload_n 3 C dX11_takeClause_255 rfl ?_
                                    refine gfX11_136 (v := (wI w123 114 22)) C (kS sM h128 kc_114) rfl dX11_takeClause_256 ?_
                                    have b137 := Inv.get o126.1 rt_114_22 (j := 22) (by decide) (by decide)
                                    refine callVI C cwX11_166_V (ctX11_fails _ _ w123 (sS sM h128) o126 1 (wI w123 114 22) ) (by decide) (kS sM h128 kc_114) rfl rfl rfl (Nat.le_of_ble_eq_true rfl) (by decide) dX11_takeClause_259 (fun r140 w139 y138 => ?_)
                                    show V x 0 0 w139 262 [(3, .int r107), (2, .int 0), (1, .int r11), (0, .ref (gz (xG x) + 114))] [.int r140]
                                    obtain ⟨h141, o142, g143⟩ := y138
                                    have h144 := Ch.tr h128 h141 (by decide) (by decide)
                                    exact hret _ _ _ _ dX11_takeClause_262 rfl ⟨h144, o142, (by rw [(h141.I (by decide) (by decide) rfl)]; omega), by omega⟩
                              · have c104' := i_eq c104
                                exfalso; omega
                            · have c103' := i_eq c103
                              exfalso; omega
                          · have c102' := i_eq c102
                            exfalso; omega
                        · have c101' := i_nle c101
                          exfalso; omega
                      · have c100' := i_eq c100
                        exfalso; omega
                    · have c94' := i_ne c94
                      exfalso; omega
                  · have c93' := i_nlt c93
                    refine r_iconst (v := 1) C dX11_takeClause_146 (by decide) ?_
                    refine r_goto 151 C dX11_takeClause_147 (by decide) ?_
                    refine r_istore_n [(2, .int 1), (1, .int r11), (0, .ref (gz (xG x) + 114))] C dX11_takeClause_151 (by decide) rfl ?_
                    refine r_iload_n 0 C dX11_takeClause_152 rfl ?_
                    refine r_if_eq 166 C dX11_takeClause_153 (by decide) (fun c145 => ?_) (fun c145 => ?_)
                    · have c145' := i_eq c145
                      exfalso; omega
                    · have c145' := i_ne c145
                      refine r_aload_n 2 C dX11_takeClause_156 rfl ?_
                      refine r_iconst (v := 3) C dX11_takeClause_157 (by decide) ?_
                      refine r_aload_n 2 C dX11_takeClause_158 rfl ?_
                      refine gfX11_136 (v := (wI w2 114 22)) C (kS sM h15 kc_114) (h12.I (by decide) (by decide) rfl) dX11_takeClause_159 ?_
                      have b146 := Inv.get o5.1 rt_114_22 (j := 22) (by decide) (by decide)
                      refine callVI C cwX11_166_V (ctX11_fails _ _ w10 (sS sM h15) o13 3 (wI w2 114 22) ) (by decide) (kS sM h15 kc_114) rfl rfl rfl (Nat.le_of_ble_eq_true rfl) (by decide) dX11_takeClause_162 (fun r149 w148 y147 => ?_)
                      show V x 0 0 w148 165 [(2, .int 1), (1, .int r11), (0, .ref (gz (xG x) + 114))] [.int r149]
                      obtain ⟨h150, o151, g152⟩ := y147
                      have h153 := Ch.tr h15 h150 (by decide) (by decide)
                      exact hret _ _ _ _ dX11_takeClause_165 rfl ⟨h153, o151, (by rw [(h150.I (by decide) (by decide) (h12.I (by decide) (by decide) rfl))]; omega), by omega⟩
                · have c92' := i_eq c92
                  refine r_aload_n 1 C dX11_takeClause_124 rfl ?_
                  refine gfX11_188 (v := (wI w 114 40)) C (kS sM h15 kc_114) (h12.I (by decide) (by decide) (h4.I (by decide) (by decide) rfl)) dX11_takeClause_125 ?_
                  have b154 := Inv.get o0.1 rt_114_40 (j := 40) (by decide) (by decide)
                  refine r_if_lt 135 C dX11_takeClause_128 (by decide) (fun c155 => ?_) (fun c155 => ?_)
                  · have c155' := i_lt c155
                    refine r_iconst (v := 0) C dX11_takeClause_135 (by decide) ?_
                    refine r_goto 151 C dX11_takeClause_136 (by decide) ?_
                    refine r_istore_n [(2, .int 0), (1, .int r11), (0, .ref (gz (xG x) + 114))] C dX11_takeClause_151 (by decide) rfl ?_
                    refine r_iload_n 0 C dX11_takeClause_152 rfl ?_
                    refine r_if_eq 166 C dX11_takeClause_153 (by decide) (fun c156 => ?_) (fun c156 => ?_)
                    · have c156' := i_eq c156
                      refine r_aload_n 2 C dX11_takeClause_166 rfl ?_
                      refine r_aload_n 2 C dX11_takeClause_167 rfl ?_
                      refine gfX11_147 (v := (wI w2 114 24)) C (kS sM h15 kc_114) (h12.I (by decide) (by decide) rfl) dX11_takeClause_168 ?_
                      have b157 := Inv.get o5.1 rt_114_24 (j := 24) (by decide) (by decide)
                      refine pfX11_136 C (kS sM h15 kc_114) dX11_takeClause_171 (fun w158 e159 => ?_)
                      have h160 := Ch.putF h15 e159 (by decide)
                      have o161 : OkM w158 := ⟨Inv.put o13.1 e159 0 501 (by omega) (by decide), Rel.putF o13.2 e159 (by decide)⟩
                      refine r_iload_n 1 C dX11_takeClause_174 rfl ?_
                      refine r_if_ne 185 C dX11_takeClause_175 (by decide) (fun c162 => ?_) (fun c162 => ?_)
                      · have c162' := i_ne c162
                        refine r_iload_n 1 C dX11_takeClause_185 rfl ?_
                        refine r_iconst (v := 4) C dX11_takeClause_186 (by decide) ?_
                        refine r_icmp_ge 198 C dX11_takeClause_187 (by decide) (fun c163 => ?_) (fun c163 => ?_)
                        · have c163' := i_le c163
                          refine r_iload_n 1 C dX11_takeClause_198 rfl ?_
                          refine r_iconst (v := 4) C dX11_takeClause_199 (by decide) ?_
                          refine r_icmp_ne 210 C dX11_takeClause_200 (by decide) (fun c164 => ?_) (fun c164 => ?_)
                          · have c164' := i_ne c164
                            refine r_iload_n 1 C dX11_takeClause_210 rfl ?_
                            refine r_iconst (v := 5) C dX11_takeClause_211 (by decide) ?_
                            refine r_icmp_ne 222 C dX11_takeClause_212 (by decide) (fun c165 => ?_) (fun c165 => ?_)
                            · have c165' := i_ne c165
                              refine r_iload_n 1 C dX11_takeClause_222 rfl ?_
                              refine r_bipush (v := 6) C dX11_takeClause_223 (by decide) ?_
                              refine r_icmp_ne 235 C dX11_takeClause_225 (by decide) (fun c166 => ?_) (fun c166 => ?_)
                              · have c166' := i_ne c166
                                exfalso; omega
                              · have c166' := i_eq c166
                                refine r_aload_n 2 C dX11_takeClause_228 rfl ?_
                                refine callVI C cwX11_244_V (ctX11_takePiper _ _ w158 (sS sM h160) o161 (wI w2 114 24) (g_eq e159) (by omega) t (g_nk e159 (by decide) (h12.I (by decide) (by decide) (h4.I (by decide) (by decide) pt))) (by omega)  ) (by decide) (kS sM h160 kc_114) rfl rfl rfl (Nat.le_of_ble_eq_true rfl) (by decide) dX11_takeClause_229 (fun r169 w168 y167 => ?_)
                                show V x 0 0 w168 232 [(2, .int 0), (1, .int r11), (0, .ref (gz (xG x) + 114))] [.int r169]
                                obtain ⟨h170, o171, f172, g173⟩ := y167
                                have h174 := Ch.tr h160 h170 (by decide) (by decide)
                                refine r_goto 239 C dX11_takeClause_232 (by decide) ?_
                                refine r_istore_n [(3, .int r169), (2, .int 0), (1, .int r11), (0, .ref (gz (xG x) + 114))] C dX11_takeClause_239 (by decide) rfl ?_
                                refine r_iload_n 0 C dX11_takeClause_240 rfl ?_
                                refine r_if_ne 263 C dX11_takeClause_241 (by decide) (fun c175 => ?_) (fun c175 => ?_)
                                · have c175' := i_ne c175
                                  refine r_aload_n 3 C dX11_takeClause_263 rfl ?_
                                  refine r_dup C dX11_takeClause_264 rfl ?_
                                  refine gfX11_136 (v := (wI w168 114 22)) C (kS sM h174 kc_114) rfl dX11_takeClause_265 ?_
                                  have b176 := Inv.get o171.1 rt_114_22 (j := 22) (by decide) (by decide)
                                  refine r_iconst (v := 1) C dX11_takeClause_268 (by decide) ?_
                                  refine r_iadd C dX11_takeClause_269 (fun v177 e178 => ?_)
                                  have v177' := iadd_ok e178 (by omega) (by omega)
                                  refine pfX11_136 C (kS sM h174 kc_114) dX11_takeClause_270 (fun w179 e180 => ?_)
                                  have h181 := Ch.putF h174 e180 (by decide)
                                  have o182 : OkM w179 := ⟨Inv.put o171.1 e180 0 501 (by omega) (by decide), Rel.putF o171.2 e180 (by decide)⟩
                                  refine r_iload_n 0 C dX11_takeClause_273 rfl ?_
                                  exact hret _ _ _ _ dX11_takeClause_274 rfl ⟨h181, o182, (by rw [(g_eq e180)]; omega), by omega⟩
                                · have c175' := i_eq c175
                                  refine r_aload_n 3 C dX11_takeClause_244 rfl ?_
                                  have b183 := Inv.get o171.1 rt_114_22 (j := 22) (by decide) (by decide)
                                  refine callVI C cwX11_139_V (ctX11_here _ _ w168 (sS sM h174) o171 (wI w168 114 22) rfl (by omega) t (h170.I (by decide) (by decide) (g_nk e159 (by decide) (h12.I (by decide) (by decide) (h4.I (by decide) (by decide) pt)))) (by omega)  ) (by decide) (kS sM h174 kc_114) rfl rfl rfl (Nat.le_of_ble_eq_true rfl) (by decide) dX11_takeClause_245 (fun r186 w185 y184 => ?_)
                                  show V x 0 0 w185 248 [(3, .int r169), (2, .int 0), (1, .int r11), (0, .ref (gz (xG x) + 114))] [.int r186]
                                  obtain ⟨h187, o188, f189⟩ := y184
                                  have h190 := Ch.tr h174 h187 (by decide) (by decide)
                                  refine r_bipush (v := 59) C dX11_takeClause_248 (by decide) ?_
                                  refine r_icmp_eq 263 C dX11_takeClause_250 (by decide) (fun c191 => ?_) (fun c191 => ?_)
                                  · have c191' := i_eq c191
                                    refine r_aload_n 3 C dX11_takeClause_263 rfl ?_
                                    refine r_dup C dX11_takeClause_264 rfl ?_
                                    refine gfX11_136 (v := (wI w185 114 22)) C (kS sM h190 kc_114) rfl dX11_takeClause_265 ?_
                                    have b192 := Inv.get o188.1 rt_114_22 (j := 22) (by decide) (by decide)
                                    refine r_iconst (v := 1) C dX11_takeClause_268 (by decide) ?_
                                    refine r_iadd C dX11_takeClause_269 (fun v193 e194 => ?_)
                                    have v193' := iadd_ok e194 (by omega) (by omega)
                                    refine pfX11_136 C (kS sM h190 kc_114) dX11_takeClause_270 (fun w195 e196 => ?_)
                                    have h197 := Ch.putF h190 e196 (by decide)
                                    have o198 : OkM w195 := ⟨Inv.put o188.1 e196 0 501 (by omega) (by decide), Rel.putF o188.2 e196 (by decide)⟩
                                    refine r_iload_n 0 C dX11_takeClause_273 rfl ?_
                                    exact hret _ _ _ _ dX11_takeClause_274 rfl ⟨h197, o198, (by rw [(g_eq e196)]; omega), by omega⟩
                                  · have c191' := i_ne c191
                                    refine r_aload_n 3 C dX11_takeClause_253 rfl ?_
                                    refine r_iconst (v := 1) C dX11_takeClause_254 (by decide) ?_
                                    refine r_aload_n 3 C dX11_takeClause_255 rfl ?_
                                    refine gfX11_136 (v := (wI w185 114 22)) C (kS sM h190 kc_114) rfl dX11_takeClause_256 ?_
                                    have b199 := Inv.get o188.1 rt_114_22 (j := 22) (by decide) (by decide)
                                    refine callVI C cwX11_166_V (ctX11_fails _ _ w185 (sS sM h190) o188 1 (wI w185 114 22) ) (by decide) (kS sM h190 kc_114) rfl rfl rfl (Nat.le_of_ble_eq_true rfl) (by decide) dX11_takeClause_259 (fun r202 w201 y200 => ?_)
                                    show V x 0 0 w201 262 [(3, .int r169), (2, .int 0), (1, .int r11), (0, .ref (gz (xG x) + 114))] [.int r202]
                                    obtain ⟨h203, o204, g205⟩ := y200
                                    have h206 := Ch.tr h190 h203 (by decide) (by decide)
                                    exact hret _ _ _ _ dX11_takeClause_262 rfl ⟨h206, o204, (by rw [(h203.I (by decide) (by decide) rfl)]; omega), by omega⟩
                            · have c165' := i_eq c165
                              exfalso; omega
                          · have c164' := i_eq c164
                            exfalso; omega
                        · have c163' := i_nle c163
                          exfalso; omega
                      · have c162' := i_eq c162
                        exfalso; omega
                    · have c156' := i_ne c156
                      exfalso; omega
                  · have c155' := i_nlt c155
                    refine r_iconst (v := 1) C dX11_takeClause_131 (by decide) ?_
                    refine r_goto 151 C dX11_takeClause_132 (by decide) ?_
                    refine r_istore_n [(2, .int 1), (1, .int r11), (0, .ref (gz (xG x) + 114))] C dX11_takeClause_151 (by decide) rfl ?_
                    refine r_iload_n 0 C dX11_takeClause_152 rfl ?_
                    refine r_if_eq 166 C dX11_takeClause_153 (by decide) (fun c207 => ?_) (fun c207 => ?_)
                    · have c207' := i_eq c207
                      exfalso; omega
                    · have c207' := i_ne c207
                      refine r_aload_n 2 C dX11_takeClause_156 rfl ?_
                      refine r_iconst (v := 3) C dX11_takeClause_157 (by decide) ?_
                      refine r_aload_n 2 C dX11_takeClause_158 rfl ?_
                      refine gfX11_136 (v := (wI w2 114 22)) C (kS sM h15 kc_114) (h12.I (by decide) (by decide) rfl) dX11_takeClause_159 ?_
                      have b208 := Inv.get o5.1 rt_114_22 (j := 22) (by decide) (by decide)
                      refine callVI C cwX11_166_V (ctX11_fails _ _ w10 (sS sM h15) o13 3 (wI w2 114 22) ) (by decide) (kS sM h15 kc_114) rfl rfl rfl (Nat.le_of_ble_eq_true rfl) (by decide) dX11_takeClause_162 (fun r211 w210 y209 => ?_)
                      show V x 0 0 w210 165 [(2, .int 1), (1, .int r11), (0, .ref (gz (xG x) + 114))] [.int r211]
                      obtain ⟨h212, o213, g214⟩ := y209
                      have h215 := Ch.tr h15 h212 (by decide) (by decide)
                      exact hret _ _ _ _ dX11_takeClause_165 rfl ⟨h215, o213, (by rw [(h212.I (by decide) (by decide) (h12.I (by decide) (by decide) rfl))]; omega), by omega⟩
              · have c91' := i_eq c91
                refine r_aload_n 1 C dX11_takeClause_102 rfl ?_
                refine gfX11_208 (v := (wI w 114 37)) C (kS sM h15 kc_114) (h12.I (by decide) (by decide) (h4.I (by decide) (by decide) rfl)) dX11_takeClause_103 ?_
                have b216 := Inv.get o0.1 rt_114_37 (j := 37) (by decide) (by decide)
                refine r_iconst (v := 3) C dX11_takeClause_106 (by decide) ?_
                refine r_icmp_ne 114 C dX11_takeClause_107 (by decide) (fun c217 => ?_) (fun c217 => ?_)
                · have c217' := i_ne c217
                  refine r_iconst (v := 0) C dX11_takeClause_114 (by decide) ?_
                  refine r_goto 151 C dX11_takeClause_115 (by decide) ?_
                  refine r_istore_n [(2, .int 0), (1, .int r11), (0, .ref (gz (xG x) + 114))] C dX11_takeClause_151 (by decide) rfl ?_
                  refine r_iload_n 0 C dX11_takeClause_152 rfl ?_
                  refine r_if_eq 166 C dX11_takeClause_153 (by decide) (fun c218 => ?_) (fun c218 => ?_)
                  · have c218' := i_eq c218
                    refine r_aload_n 2 C dX11_takeClause_166 rfl ?_
                    refine r_aload_n 2 C dX11_takeClause_167 rfl ?_
                    refine gfX11_147 (v := (wI w2 114 24)) C (kS sM h15 kc_114) (h12.I (by decide) (by decide) rfl) dX11_takeClause_168 ?_
                    have b219 := Inv.get o5.1 rt_114_24 (j := 24) (by decide) (by decide)
                    refine pfX11_136 C (kS sM h15 kc_114) dX11_takeClause_171 (fun w220 e221 => ?_)
                    have h222 := Ch.putF h15 e221 (by decide)
                    have o223 : OkM w220 := ⟨Inv.put o13.1 e221 0 501 (by omega) (by decide), Rel.putF o13.2 e221 (by decide)⟩
                    refine r_iload_n 1 C dX11_takeClause_174 rfl ?_
                    refine r_if_ne 185 C dX11_takeClause_175 (by decide) (fun c224 => ?_) (fun c224 => ?_)
                    · have c224' := i_ne c224
                      refine r_iload_n 1 C dX11_takeClause_185 rfl ?_
                      refine r_iconst (v := 4) C dX11_takeClause_186 (by decide) ?_
                      refine r_icmp_ge 198 C dX11_takeClause_187 (by decide) (fun c225 => ?_) (fun c225 => ?_)
                      · have c225' := i_le c225
                        refine r_iload_n 1 C dX11_takeClause_198 rfl ?_
                        refine r_iconst (v := 4) C dX11_takeClause_199 (by decide) ?_
                        refine r_icmp_ne 210 C dX11_takeClause_200 (by decide) (fun c226 => ?_) (fun c226 => ?_)
                        · have c226' := i_ne c226
                          refine r_iload_n 1 C dX11_takeClause_210 rfl ?_
                          refine r_iconst (v := 5) C dX11_takeClause_211 (by decide) ?_
                          refine r_icmp_ne 222 C dX11_takeClause_212 (by decide) (fun c227 => ?_) (fun c227 => ?_)
                          · have c227' := i_ne c227
                            exfalso; omega
                          · have c227' := i_eq c227
                            refine r_aload_n 2 C dX11_takeClause_215 rfl ?_
                            refine callVI C cwX11_241_V (ctX11_takeTune _ _ w220 (sS sM h222) o223 (wI w2 114 24) (g_eq e221) (by omega) t (g_nk e221 (by decide) (h12.I (by decide) (by decide) (h4.I (by decide) (by decide) pt))) (by omega) (wI w 114 37) (g_nk e221 (by decide) (h12.I (by decide) (by decide) (h4.I (by decide) (by decide) rfl))) (by omega)  ) (by decide) (kS sM h222 kc_114) rfl rfl rfl (Nat.le_of_ble_eq_true rfl) (by decide) dX11_takeClause_216 (fun r230 w229 y228 => ?_)
                            show V x 0 0 w229 219 [(2, .int 0), (1, .int r11), (0, .ref (gz (xG x) + 114))] [.int r230]
                            obtain ⟨h231, o232, f233, g234⟩ := y228
                            have h235 := Ch.tr h222 h231 (by decide) (by decide)
                            refine r_goto 239 C dX11_takeClause_219 (by decide) ?_
                            refine r_istore_n [(3, .int r230), (2, .int 0), (1, .int r11), (0, .ref (gz (xG x) + 114))] C dX11_takeClause_239 (by decide) rfl ?_
                            refine r_iload_n 0 C dX11_takeClause_240 rfl ?_
                            refine r_if_ne 263 C dX11_takeClause_241 (by decide) (fun c236 => ?_) (fun c236 => ?_)
                            · have c236' := i_ne c236
                              refine r_aload_n 3 C dX11_takeClause_263 rfl ?_
                              refine r_dup C dX11_takeClause_264 rfl ?_
                              refine gfX11_136 (v := (wI w229 114 22)) C (kS sM h235 kc_114) rfl dX11_takeClause_265 ?_
                              have b237 := Inv.get o232.1 rt_114_22 (j := 22) (by decide) (by decide)
                              refine r_iconst (v := 1) C dX11_takeClause_268 (by decide) ?_
                              refine r_iadd C dX11_takeClause_269 (fun v238 e239 => ?_)
                              have v238' := iadd_ok e239 (by omega) (by omega)
                              refine pfX11_136 C (kS sM h235 kc_114) dX11_takeClause_270 (fun w240 e241 => ?_)
                              have h242 := Ch.putF h235 e241 (by decide)
                              have o243 : OkM w240 := ⟨Inv.put o232.1 e241 0 501 (by omega) (by decide), Rel.putF o232.2 e241 (by decide)⟩
                              refine r_iload_n 0 C dX11_takeClause_273 rfl ?_
                              exact hret _ _ _ _ dX11_takeClause_274 rfl ⟨h242, o243, (by rw [(g_eq e241)]; omega), by omega⟩
                            · have c236' := i_eq c236
                              refine r_aload_n 3 C dX11_takeClause_244 rfl ?_
                              have b244 := Inv.get o232.1 rt_114_22 (j := 22) (by decide) (by decide)
                              refine callVI C cwX11_139_V (ctX11_here _ _ w229 (sS sM h235) o232 (wI w229 114 22) rfl (by omega) t (h231.I (by decide) (by decide) (g_nk e221 (by decide) (h12.I (by decide) (by decide) (h4.I (by decide) (by decide) pt)))) (by omega)  ) (by decide) (kS sM h235 kc_114) rfl rfl rfl (Nat.le_of_ble_eq_true rfl) (by decide) dX11_takeClause_245 (fun r247 w246 y245 => ?_)
                              show V x 0 0 w246 248 [(3, .int r230), (2, .int 0), (1, .int r11), (0, .ref (gz (xG x) + 114))] [.int r247]
                              obtain ⟨h248, o249, f250⟩ := y245
                              have h251 := Ch.tr h235 h248 (by decide) (by decide)
                              refine r_bipush (v := 59) C dX11_takeClause_248 (by decide) ?_
                              refine r_icmp_eq 263 C dX11_takeClause_250 (by decide) (fun c252 => ?_) (fun c252 => ?_)
                              · have c252' := i_eq c252
                                refine r_aload_n 3 C dX11_takeClause_263 rfl ?_
                                refine r_dup C dX11_takeClause_264 rfl ?_
                                refine gfX11_136 (v := (wI w246 114 22)) C (kS sM h251 kc_114) rfl dX11_takeClause_265 ?_
                                have b253 := Inv.get o249.1 rt_114_22 (j := 22) (by decide) (by decide)
                                refine r_iconst (v := 1) C dX11_takeClause_268 (by decide) ?_
                                refine r_iadd C dX11_takeClause_269 (fun v254 e255 => ?_)
                                have v254' := iadd_ok e255 (by omega) (by omega)
                                refine pfX11_136 C (kS sM h251 kc_114) dX11_takeClause_270 (fun w256 e257 => ?_)
                                have h258 := Ch.putF h251 e257 (by decide)
                                have o259 : OkM w256 := ⟨Inv.put o249.1 e257 0 501 (by omega) (by decide), Rel.putF o249.2 e257 (by decide)⟩
                                refine r_iload_n 0 C dX11_takeClause_273 rfl ?_
                                exact hret _ _ _ _ dX11_takeClause_274 rfl ⟨h258, o259, (by rw [(g_eq e257)]; omega), by omega⟩
                              · have c252' := i_ne c252
                                refine r_aload_n 3 C dX11_takeClause_253 rfl ?_
                                refine r_iconst (v := 1) C dX11_takeClause_254 (by decide) ?_
                                refine r_aload_n 3 C dX11_takeClause_255 rfl ?_
                                refine gfX11_136 (v := (wI w246 114 22)) C (kS sM h251 kc_114) rfl dX11_takeClause_256 ?_
                                have b260 := Inv.get o249.1 rt_114_22 (j := 22) (by decide) (by decide)
                                refine callVI C cwX11_166_V (ctX11_fails _ _ w246 (sS sM h251) o249 1 (wI w246 114 22) ) (by decide) (kS sM h251 kc_114) rfl rfl rfl (Nat.le_of_ble_eq_true rfl) (by decide) dX11_takeClause_259 (fun r263 w262 y261 => ?_)
                                show V x 0 0 w262 262 [(3, .int r230), (2, .int 0), (1, .int r11), (0, .ref (gz (xG x) + 114))] [.int r263]
                                obtain ⟨h264, o265, g266⟩ := y261
                                have h267 := Ch.tr h251 h264 (by decide) (by decide)
                                exact hret _ _ _ _ dX11_takeClause_262 rfl ⟨h267, o265, (by rw [(h264.I (by decide) (by decide) rfl)]; omega), by omega⟩
                        · have c226' := i_eq c226
                          exfalso; omega
                      · have c225' := i_nle c225
                        exfalso; omega
                    · have c224' := i_eq c224
                      exfalso; omega
                  · have c218' := i_ne c218
                    exfalso; omega
                · have c217' := i_eq c217
                  refine r_iconst (v := 1) C dX11_takeClause_110 (by decide) ?_
                  refine r_goto 151 C dX11_takeClause_111 (by decide) ?_
                  refine r_istore_n [(2, .int 1), (1, .int r11), (0, .ref (gz (xG x) + 114))] C dX11_takeClause_151 (by decide) rfl ?_
                  refine r_iload_n 0 C dX11_takeClause_152 rfl ?_
                  refine r_if_eq 166 C dX11_takeClause_153 (by decide) (fun c268 => ?_) (fun c268 => ?_)
                  · have c268' := i_eq c268
                    exfalso; omega
                  · have c268' := i_ne c268
                    refine r_aload_n 2 C dX11_takeClause_156 rfl ?_
                    refine r_iconst (v := 3) C dX11_takeClause_157 (by decide) ?_
                    refine r_aload_n 2 C dX11_takeClause_158 rfl ?_
                    refine gfX11_136 (v := (wI w2 114 22)) C (kS sM h15 kc_114) (h12.I (by decide) (by decide) rfl) dX11_takeClause_159 ?_
                    have b269 := Inv.get o5.1 rt_114_22 (j := 22) (by decide) (by decide)
                    refine callVI C cwX11_166_V (ctX11_fails _ _ w10 (sS sM h15) o13 3 (wI w2 114 22) ) (by decide) (kS sM h15 kc_114) rfl rfl rfl (Nat.le_of_ble_eq_true rfl) (by decide) dX11_takeClause_162 (fun r272 w271 y270 => ?_)
                    show V x 0 0 w271 165 [(2, .int 1), (1, .int r11), (0, .ref (gz (xG x) + 114))] [.int r272]
                    obtain ⟨h273, o274, g275⟩ := y270
                    have h276 := Ch.tr h15 h273 (by decide) (by decide)
                    exact hret _ _ _ _ dX11_takeClause_165 rfl ⟨h276, o274, (by rw [(h273.I (by decide) (by decide) (h12.I (by decide) (by decide) rfl))]; omega), by omega⟩
            · have c90' := i_eq c90
              refine r_aload_n 1 C dX11_takeClause_80 rfl ?_
              refine gfX11_191 (v := (wI w 114 31)) C (kS sM h15 kc_114) (h12.I (by decide) (by decide) (h4.I (by decide) (by decide) rfl)) dX11_takeClause_81 ?_
              have b277 := Inv.get o0.1 rt_114_31 (j := 31) (by decide) (by decide)
              refine r_bipush (v := 6) C dX11_takeClause_84 (by decide) ?_
              refine r_icmp_ne 93 C dX11_takeClause_86 (by decide) (fun c278 => ?_) (fun c278 => ?_)
              · have c278' := i_ne c278
                refine r_iconst (v := 0) C dX11_takeClause_93 (by decide) ?_
                refine r_goto 151 C dX11_takeClause_94 (by decide) ?_
                refine r_istore_n [(2, .int 0), (1, .int r11), (0, .ref (gz (xG x) + 114))] C dX11_takeClause_151 (by decide) rfl ?_
                refine r_iload_n 0 C dX11_takeClause_152 rfl ?_
                refine r_if_eq 166 C dX11_takeClause_153 (by decide) (fun c279 => ?_) (fun c279 => ?_)
                · have c279' := i_eq c279
                  refine r_aload_n 2 C dX11_takeClause_166 rfl ?_
                  refine r_aload_n 2 C dX11_takeClause_167 rfl ?_
                  refine gfX11_147 (v := (wI w2 114 24)) C (kS sM h15 kc_114) (h12.I (by decide) (by decide) rfl) dX11_takeClause_168 ?_
                  have b280 := Inv.get o5.1 rt_114_24 (j := 24) (by decide) (by decide)
                  refine pfX11_136 C (kS sM h15 kc_114) dX11_takeClause_171 (fun w281 e282 => ?_)
                  have h283 := Ch.putF h15 e282 (by decide)
                  have o284 : OkM w281 := ⟨Inv.put o13.1 e282 0 501 (by omega) (by decide), Rel.putF o13.2 e282 (by decide)⟩
                  refine r_iload_n 1 C dX11_takeClause_174 rfl ?_
                  refine r_if_ne 185 C dX11_takeClause_175 (by decide) (fun c285 => ?_) (fun c285 => ?_)
                  · have c285' := i_ne c285
                    refine r_iload_n 1 C dX11_takeClause_185 rfl ?_
                    refine r_iconst (v := 4) C dX11_takeClause_186 (by decide) ?_
                    refine r_icmp_ge 198 C dX11_takeClause_187 (by decide) (fun c286 => ?_) (fun c286 => ?_)
                    · have c286' := i_le c286
                      refine r_iload_n 1 C dX11_takeClause_198 rfl ?_
                      refine r_iconst (v := 4) C dX11_takeClause_199 (by decide) ?_
                      refine r_icmp_ne 210 C dX11_takeClause_200 (by decide) (fun c287 => ?_) (fun c287 => ?_)
                      · have c287' := i_ne c287
                        exfalso; omega
                      · have c287' := i_eq c287
                        refine r_aload_n 2 C dX11_takeClause_203 rfl ?_
                        refine callVI C cwX11_238_V (ctX11_takeCrowd _ _ w281 (sS sM h283) o284 (wI w2 114 24) (g_eq e282) (by omega) t (g_nk e282 (by decide) (h12.I (by decide) (by decide) (h4.I (by decide) (by decide) pt))) (by omega) (wI w 114 27) (g_nk e282 (by decide) (h12.I (by decide) (by decide) (h4.I (by decide) (by decide) rfl))) (by omega) (wI w 114 31) (g_nk e282 (by decide) (h12.I (by decide) (by decide) (h4.I (by decide) (by decide) rfl))) (by omega)  ) (by decide) (kS sM h283 kc_114) rfl rfl rfl (Nat.le_of_ble_eq_true rfl) (by decide) dX11_takeClause_204 (fun r290 w289 y288 => ?_)
                        show V x 0 0 w289 207 [(2, .int 0), (1, .int r11), (0, .ref (gz (xG x) + 114))] [.int r290]
                        obtain ⟨h291, o292, f293, g294⟩ := y288
                        have h295 := Ch.tr h283 h291 (by decide) (by decide)
                        obtain ⟨R296a, R296b, R296c, R296d⟩ := (o292.2 : Rel w289)
                        refine r_goto 239 C dX11_takeClause_207 (by decide) ?_
                        refine r_istore_n [(3, .int r290), (2, .int 0), (1, .int r11), (0, .ref (gz (xG x) + 114))] C dX11_takeClause_239 (by decide) rfl ?_
                        refine r_iload_n 0 C dX11_takeClause_240 rfl ?_
                        refine r_if_ne 263 C dX11_takeClause_241 (by decide) (fun c297 => ?_) (fun c297 => ?_)
                        · have c297' := i_ne c297
                          refine r_aload_n 3 C dX11_takeClause_263 rfl ?_
                          refine r_dup C dX11_takeClause_264 rfl ?_
                          refine gfX11_136 (v := (wI w289 114 22)) C (kS sM h295 kc_114) rfl dX11_takeClause_265 ?_
                          have b298 := Inv.get o292.1 rt_114_22 (j := 22) (by decide) (by decide)
                          refine r_iconst (v := 1) C dX11_takeClause_268 (by decide) ?_
                          refine r_iadd C dX11_takeClause_269 (fun v299 e300 => ?_)
                          have v299' := iadd_ok e300 (by omega) (by omega)
                          refine pfX11_136 C (kS sM h295 kc_114) dX11_takeClause_270 (fun w301 e302 => ?_)
                          have h303 := Ch.putF h295 e302 (by decide)
                          have o304 : OkM w301 := ⟨Inv.put o292.1 e302 0 501 (by omega) (by decide), Rel.putF o292.2 e302 (by decide)⟩
                          refine r_iload_n 0 C dX11_takeClause_273 rfl ?_
                          exact hret _ _ _ _ dX11_takeClause_274 rfl ⟨h303, o304, (by rw [(g_eq e302)]; omega), by omega⟩
                        · have c297' := i_eq c297
                          refine r_aload_n 3 C dX11_takeClause_244 rfl ?_
                          have b305 := Inv.get o292.1 rt_114_22 (j := 22) (by decide) (by decide)
                          refine callVI C cwX11_139_V (ctX11_here _ _ w289 (sS sM h295) o292 (wI w289 114 22) rfl (by omega) t (h291.I (by decide) (by decide) (g_nk e282 (by decide) (h12.I (by decide) (by decide) (h4.I (by decide) (by decide) pt)))) (by omega)  ) (by decide) (kS sM h295 kc_114) rfl rfl rfl (Nat.le_of_ble_eq_true rfl) (by decide) dX11_takeClause_245 (fun r308 w307 y306 => ?_)
                          show V x 0 0 w307 248 [(3, .int r290), (2, .int 0), (1, .int r11), (0, .ref (gz (xG x) + 114))] [.int r308]
                          obtain ⟨h309, o310, f311⟩ := y306
                          have h312 := Ch.tr h295 h309 (by decide) (by decide)
                          refine r_bipush (v := 59) C dX11_takeClause_248 (by decide) ?_
                          refine r_icmp_eq 263 C dX11_takeClause_250 (by decide) (fun c313 => ?_) (fun c313 => ?_)
                          · have c313' := i_eq c313
                            refine r_aload_n 3 C dX11_takeClause_263 rfl ?_
                            refine r_dup C dX11_takeClause_264 rfl ?_
                            refine gfX11_136 (v := (wI w307 114 22)) C (kS sM h312 kc_114) rfl dX11_takeClause_265 ?_
                            have b314 := Inv.get o310.1 rt_114_22 (j := 22) (by decide) (by decide)
                            refine r_iconst (v := 1) C dX11_takeClause_268 (by decide) ?_
                            refine r_iadd C dX11_takeClause_269 (fun v315 e316 => ?_)
                            have v315' := iadd_ok e316 (by omega) (by omega)
                            refine pfX11_136 C (kS sM h312 kc_114) dX11_takeClause_270 (fun w317 e318 => ?_)
                            have h319 := Ch.putF h312 e318 (by decide)
                            have o320 : OkM w317 := ⟨Inv.put o310.1 e318 0 501 (by omega) (by decide), Rel.putF o310.2 e318 (by decide)⟩
                            refine r_iload_n 0 C dX11_takeClause_273 rfl ?_
                            exact hret _ _ _ _ dX11_takeClause_274 rfl ⟨h319, o320, (by rw [(g_eq e318)]; omega), by omega⟩
                          · have c313' := i_ne c313
                            refine r_aload_n 3 C dX11_takeClause_253 rfl ?_
                            refine r_iconst (v := 1) C dX11_takeClause_254 (by decide) ?_
                            refine r_aload_n 3 C dX11_takeClause_255 rfl ?_
                            refine gfX11_136 (v := (wI w307 114 22)) C (kS sM h312 kc_114) rfl dX11_takeClause_256 ?_
                            have b321 := Inv.get o310.1 rt_114_22 (j := 22) (by decide) (by decide)
                            refine callVI C cwX11_166_V (ctX11_fails _ _ w307 (sS sM h312) o310 1 (wI w307 114 22) ) (by decide) (kS sM h312 kc_114) rfl rfl rfl (Nat.le_of_ble_eq_true rfl) (by decide) dX11_takeClause_259 (fun r324 w323 y322 => ?_)
                            show V x 0 0 w323 262 [(3, .int r290), (2, .int 0), (1, .int r11), (0, .ref (gz (xG x) + 114))] [.int r324]
                            obtain ⟨h325, o326, g327⟩ := y322
                            have h328 := Ch.tr h312 h325 (by decide) (by decide)
                            exact hret _ _ _ _ dX11_takeClause_262 rfl ⟨h328, o326, (by rw [(h325.I (by decide) (by decide) rfl)]; omega), by omega⟩
                    · have c286' := i_nle c286
                      exfalso; omega
                  · have c285' := i_eq c285
                    exfalso; omega
                · have c279' := i_ne c279
                  exfalso; omega
              · have c278' := i_eq c278
                refine r_iconst (v := 1) C dX11_takeClause_89 (by decide) ?_
                refine r_goto 151 C dX11_takeClause_90 (by decide) ?_
                refine r_istore_n [(2, .int 1), (1, .int r11), (0, .ref (gz (xG x) + 114))] C dX11_takeClause_151 (by decide) rfl ?_
                refine r_iload_n 0 C dX11_takeClause_152 rfl ?_
                refine r_if_eq 166 C dX11_takeClause_153 (by decide) (fun c329 => ?_) (fun c329 => ?_)
                · have c329' := i_eq c329
                  exfalso; omega
                · have c329' := i_ne c329
                  refine r_aload_n 2 C dX11_takeClause_156 rfl ?_
                  refine r_iconst (v := 3) C dX11_takeClause_157 (by decide) ?_
                  refine r_aload_n 2 C dX11_takeClause_158 rfl ?_
                  refine gfX11_136 (v := (wI w2 114 22)) C (kS sM h15 kc_114) (h12.I (by decide) (by decide) rfl) dX11_takeClause_159 ?_
                  have b330 := Inv.get o5.1 rt_114_22 (j := 22) (by decide) (by decide)
                  refine callVI C cwX11_166_V (ctX11_fails _ _ w10 (sS sM h15) o13 3 (wI w2 114 22) ) (by decide) (kS sM h15 kc_114) rfl rfl rfl (Nat.le_of_ble_eq_true rfl) (by decide) dX11_takeClause_162 (fun r333 w332 y331 => ?_)
                  show V x 0 0 w332 165 [(2, .int 1), (1, .int r11), (0, .ref (gz (xG x) + 114))] [.int r333]
                  obtain ⟨h334, o335, g336⟩ := y331
                  have h337 := Ch.tr h15 h334 (by decide) (by decide)
                  exact hret _ _ _ _ dX11_takeClause_165 rfl ⟨h337, o335, (by rw [(h334.I (by decide) (by decide) (h12.I (by decide) (by decide) rfl))]; omega), by omega⟩
          · have c89' := i_nle c89
            refine r_aload_n 1 C dX11_takeClause_58 rfl ?_
            refine gfX11_194 (v := (wI w 114 30)) C (kS sM h15 kc_114) (h12.I (by decide) (by decide) (h4.I (by decide) (by decide) rfl)) dX11_takeClause_59 ?_
            refine r_bipush (v := 30) C dX11_takeClause_62 (by decide) ?_
            refine r_icmp_ne 71 C dX11_takeClause_64 (by decide) (fun c338 => ?_) (fun c338 => ?_)
            · have c338' := i_ne c338
              refine r_iconst (v := 0) C dX11_takeClause_71 (by decide) ?_
              refine r_goto 151 C dX11_takeClause_72 (by decide) ?_
              refine r_istore_n [(2, .int 0), (1, .int r11), (0, .ref (gz (xG x) + 114))] C dX11_takeClause_151 (by decide) rfl ?_
              refine r_iload_n 0 C dX11_takeClause_152 rfl ?_
              refine r_if_eq 166 C dX11_takeClause_153 (by decide) (fun c339 => ?_) (fun c339 => ?_)
              · have c339' := i_eq c339
                refine r_aload_n 2 C dX11_takeClause_166 rfl ?_
                refine r_aload_n 2 C dX11_takeClause_167 rfl ?_
                refine gfX11_147 (v := (wI w2 114 24)) C (kS sM h15 kc_114) (h12.I (by decide) (by decide) rfl) dX11_takeClause_168 ?_
                have b340 := Inv.get o5.1 rt_114_24 (j := 24) (by decide) (by decide)
                refine pfX11_136 C (kS sM h15 kc_114) dX11_takeClause_171 (fun w341 e342 => ?_)
                have h343 := Ch.putF h15 e342 (by decide)
                have o344 : OkM w341 := ⟨Inv.put o13.1 e342 0 501 (by omega) (by decide), Rel.putF o13.2 e342 (by decide)⟩
                refine r_iload_n 1 C dX11_takeClause_174 rfl ?_
                refine r_if_ne 185 C dX11_takeClause_175 (by decide) (fun c345 => ?_) (fun c345 => ?_)
                · have c345' := i_ne c345
                  refine r_iload_n 1 C dX11_takeClause_185 rfl ?_
                  refine r_iconst (v := 4) C dX11_takeClause_186 (by decide) ?_
                  refine r_icmp_ge 198 C dX11_takeClause_187 (by decide) (fun c346 => ?_) (fun c346 => ?_)
                  · have c346' := i_le c346
                    exfalso; omega
                  · have c346' := i_nle c346
                    refine r_aload_n 2 C dX11_takeClause_190 rfl ?_
                    refine r_iload_n 1 C dX11_takeClause_191 rfl ?_
                    refine callVI C cwX11_234_V (ctX11_takeMark _ _ w341 (sS sM h343) o344 (wI w2 114 24) (g_eq e342) (by omega) t (g_nk e342 (by decide) (h12.I (by decide) (by decide) (h4.I (by decide) (by decide) pt))) (by omega) r11 ) (by decide) (kS sM h343 kc_114) rfl rfl rfl (Nat.le_of_ble_eq_true rfl) (by decide) dX11_takeClause_192 (fun r349 w348 y347 => ?_)
                    show V x 0 0 w348 195 [(2, .int 0), (1, .int r11), (0, .ref (gz (xG x) + 114))] [.int r349]
                    obtain ⟨h350, o351, f352, g353⟩ := y347
                    have h354 := Ch.tr h343 h350 (by decide) (by decide)
                    refine r_goto 239 C dX11_takeClause_195 (by decide) ?_
                    refine r_istore_n [(3, .int r349), (2, .int 0), (1, .int r11), (0, .ref (gz (xG x) + 114))] C dX11_takeClause_239 (by decide) rfl ?_
                    refine r_iload_n 0 C dX11_takeClause_240 rfl ?_
                    refine r_if_ne 263 C dX11_takeClause_241 (by decide) (fun c355 => ?_) (fun c355 => ?_)
                    · have c355' := i_ne c355
                      refine r_aload_n 3 C dX11_takeClause_263 rfl ?_
                      refine r_dup C dX11_takeClause_264 rfl ?_
                      refine gfX11_136 (v := (wI w348 114 22)) C (kS sM h354 kc_114) rfl dX11_takeClause_265 ?_
                      have b356 := Inv.get o351.1 rt_114_22 (j := 22) (by decide) (by decide)
                      refine r_iconst (v := 1) C dX11_takeClause_268 (by decide) ?_
                      refine r_iadd C dX11_takeClause_269 (fun v357 e358 => ?_)
                      have v357' := iadd_ok e358 (by omega) (by omega)
                      refine pfX11_136 C (kS sM h354 kc_114) dX11_takeClause_270 (fun w359 e360 => ?_)
                      have h361 := Ch.putF h354 e360 (by decide)
                      have o362 : OkM w359 := ⟨Inv.put o351.1 e360 0 501 (by omega) (by decide), Rel.putF o351.2 e360 (by decide)⟩
                      refine r_iload_n 0 C dX11_takeClause_273 rfl ?_
                      exact hret _ _ _ _ dX11_takeClause_274 rfl ⟨h361, o362, (by rw [(g_eq e360)]; omega), by omega⟩
                    · have c355' := i_eq c355
                      refine r_aload_n 3 C dX11_takeClause_244 rfl ?_
                      have b363 := Inv.get o351.1 rt_114_22 (j := 22) (by decide) (by decide)
                      refine callVI C cwX11_139_V (ctX11_here _ _ w348 (sS sM h354) o351 (wI w348 114 22) rfl (by omega) t (h350.I (by decide) (by decide) (g_nk e342 (by decide) (h12.I (by decide) (by decide) (h4.I (by decide) (by decide) pt)))) (by omega)  ) (by decide) (kS sM h354 kc_114) rfl rfl rfl (Nat.le_of_ble_eq_true rfl) (by decide) dX11_takeClause_245 (fun r366 w365 y364 => ?_)
                      show V x 0 0 w365 248 [(3, .int r349), (2, .int 0), (1, .int r11), (0, .ref (gz (xG x) + 114))] [.int r366]
                      obtain ⟨h367, o368, f369⟩ := y364
                      have h370 := Ch.tr h354 h367 (by decide) (by decide)
                      refine r_bipush (v := 59) C dX11_takeClause_248 (by decide) ?_
                      refine r_icmp_eq 263 C dX11_takeClause_250 (by decide) (fun c371 => ?_) (fun c371 => ?_)
                      · have c371' := i_eq c371
                        refine r_aload_n 3 C dX11_takeClause_263 rfl ?_
                        refine r_dup C dX11_takeClause_264 rfl ?_
                        refine gfX11_136 (v := (wI w365 114 22)) C (kS sM h370 kc_114) rfl dX11_takeClause_265 ?_
                        have b372 := Inv.get o368.1 rt_114_22 (j := 22) (by decide) (by decide)
                        refine r_iconst (v := 1) C dX11_takeClause_268 (by decide) ?_
                        refine r_iadd C dX11_takeClause_269 (fun v373 e374 => ?_)
                        have v373' := iadd_ok e374 (by omega) (by omega)
                        refine pfX11_136 C (kS sM h370 kc_114) dX11_takeClause_270 (fun w375 e376 => ?_)
                        have h377 := Ch.putF h370 e376 (by decide)
                        have o378 : OkM w375 := ⟨Inv.put o368.1 e376 0 501 (by omega) (by decide), Rel.putF o368.2 e376 (by decide)⟩
                        refine r_iload_n 0 C dX11_takeClause_273 rfl ?_
                        exact hret _ _ _ _ dX11_takeClause_274 rfl ⟨h377, o378, (by rw [(g_eq e376)]; omega), by omega⟩
                      · have c371' := i_ne c371
                        refine r_aload_n 3 C dX11_takeClause_253 rfl ?_
                        refine r_iconst (v := 1) C dX11_takeClause_254 (by decide) ?_
                        refine r_aload_n 3 C dX11_takeClause_255 rfl ?_
                        refine gfX11_136 (v := (wI w365 114 22)) C (kS sM h370 kc_114) rfl dX11_takeClause_256 ?_
                        have b379 := Inv.get o368.1 rt_114_22 (j := 22) (by decide) (by decide)
                        refine callVI C cwX11_166_V (ctX11_fails _ _ w365 (sS sM h370) o368 1 (wI w365 114 22) ) (by decide) (kS sM h370 kc_114) rfl rfl rfl (Nat.le_of_ble_eq_true rfl) (by decide) dX11_takeClause_259 (fun r382 w381 y380 => ?_)
                        show V x 0 0 w381 262 [(3, .int r349), (2, .int 0), (1, .int r11), (0, .ref (gz (xG x) + 114))] [.int r382]
                        obtain ⟨h383, o384, g385⟩ := y380
                        have h386 := Ch.tr h370 h383 (by decide) (by decide)
                        exact hret _ _ _ _ dX11_takeClause_262 rfl ⟨h386, o384, (by rw [(h383.I (by decide) (by decide) rfl)]; omega), by omega⟩
                · have c345' := i_eq c345
                  exfalso; omega
              · have c339' := i_ne c339
                exfalso; omega
            · have c338' := i_eq c338
              refine r_iconst (v := 1) C dX11_takeClause_67 (by decide) ?_
              refine r_goto 151 C dX11_takeClause_68 (by decide) ?_
              refine r_istore_n [(2, .int 1), (1, .int r11), (0, .ref (gz (xG x) + 114))] C dX11_takeClause_151 (by decide) rfl ?_
              refine r_iload_n 0 C dX11_takeClause_152 rfl ?_
              refine r_if_eq 166 C dX11_takeClause_153 (by decide) (fun c387 => ?_) (fun c387 => ?_)
              · have c387' := i_eq c387
                exfalso; omega
              · have c387' := i_ne c387
                refine r_aload_n 2 C dX11_takeClause_156 rfl ?_
                refine r_iconst (v := 3) C dX11_takeClause_157 (by decide) ?_
                refine r_aload_n 2 C dX11_takeClause_158 rfl ?_
                refine gfX11_136 (v := (wI w2 114 22)) C (kS sM h15 kc_114) (h12.I (by decide) (by decide) rfl) dX11_takeClause_159 ?_
                have b388 := Inv.get o5.1 rt_114_22 (j := 22) (by decide) (by decide)
                refine callVI C cwX11_166_V (ctX11_fails _ _ w10 (sS sM h15) o13 3 (wI w2 114 22) ) (by decide) (kS sM h15 kc_114) rfl rfl rfl (Nat.le_of_ble_eq_true rfl) (by decide) dX11_takeClause_162 (fun r391 w390 y389 => ?_)
                show V x 0 0 w390 165 [(2, .int 1), (1, .int r11), (0, .ref (gz (xG x) + 114))] [.int r391]
                obtain ⟨h392, o393, g394⟩ := y389
                have h395 := Ch.tr h15 h392 (by decide) (by decide)
                exact hret _ _ _ _ dX11_takeClause_165 rfl ⟨h395, o393, (by rw [(h392.I (by decide) (by decide) (h12.I (by decide) (by decide) rfl))]; omega), by omega⟩
        · have c88' := i_eq c88
          exfalso; omega
      · have c87' := i_eq c87
        refine r_aload_n 1 C dX11_takeClause_24 rfl ?_
        refine r_iconst (v := 1) C dX11_takeClause_25 (by decide) ?_
        refine r_aload_n 1 C dX11_takeClause_26 rfl ?_
        refine gfX11_136 (v := (wI w2 114 22)) C (kS sM h15 kc_114) (h12.I (by decide) (by decide) rfl) dX11_takeClause_27 ?_
        have b396 := Inv.get o5.1 rt_114_22 (j := 22) (by decide) (by decide)
        refine callVI C cwX11_166_V (ctX11_fails _ _ w10 (sS sM h15) o13 1 (wI w2 114 22) ) (by decide) (kS sM h15 kc_114) rfl rfl rfl (Nat.le_of_ble_eq_true rfl) (by decide) dX11_takeClause_30 (fun r399 w398 y397 => ?_)
        show V x 0 0 w398 33 [(1, .int r11), (0, .ref (gz (xG x) + 114))] [.int r399]
        obtain ⟨h400, o401, g402⟩ := y397
        have h403 := Ch.tr h15 h400 (by decide) (by decide)
        exact hret _ _ _ _ dX11_takeClause_33 rfl ⟨h403, o401, (by rw [(h400.I (by decide) (by decide) (h12.I (by decide) (by decide) rfl))]; omega), by omega⟩
set_option maxHeartbeats 4000000 in
set_option maxRecDepth 100000 in
theorem ctX11_clear (l : Launch) (G : Gt) (w : Wv) (sM : Str KM XM w) (o0 : OkM w)  : CtV l G yX11_clear cX11_clear 2 ({ frames := 0, cells := 0, slots := 0, locals := 0 } : Room) [.ref (gz G + 114)] w (fun w' => Ch [126] [(114, 27), (114, 28), (114, 30), (114, 31), (114, 37), (114, 40), (114, 41)] w w' ∧ OkM w') := by
  refine enterV (by decide) (Nat.le_of_ble_eq_true rfl) ?_
  intro x el eG C hnm hret
  subst el; subst eG
  show V x 0 0 w 0 [(0, .ref (gz (xG x) + 114))] []
  have h0 : Ch [126] [(114, 27), (114, 28), (114, 30), (114, 31), (114, 37), (114, 40), (114, 41)] w w := Ch.rf
  have qm1 : ((-1) : Int32).toInt = (-1) := by decide
  have q0 : (0 : Int32).toInt = 0 := by decide
  have q42 : (42 : Int32).toInt = 42 := by decide
  obtain ⟨rA, rB, rC, rD⟩ := (o0.2 : Rel w)
  have LP31 : ∀ (f32 : Nat) (u30 : Int32) (w33 : Wv), Ch [126] [(114, 27), (114, 28), (114, 30), (114, 31), (114, 37), (114, 40), (114, 41)] w w33 → OkM w33 → (0 ≤ u30.toInt ∧ u30.toInt ≤ 2147483647) → 2147483647 - u30.toInt < f32 → V x 0 0 w33 37 [(0, .ref (gz (xG x) + 114)), (1, .int u30)] [] := by
    intro f32
    induction f32 with
    | zero => intro u30 w33 h34 o35 z36 z37; exfalso; omega
    | succ f32 ih38 =>
      intro u30 w33 h34 o35 z36 z37
      obtain ⟨R39a, R39b, R39c, R39d⟩ := (o35.2 : Rel w33)
      refine r_iload_n 1 C dX11_clear_37 rfl ?_
      refine r_bipush (v := 42) C dX11_clear_38 (by decide) ?_
      have k41 := i_rng u30
      refine r_icmp_ge 56 C dX11_clear_40 (by decide) (fun c40 => ?_) (fun c40 => ?_)
      · have c40' := i_le c40
        exact hret _ _ _ dX11_clear_56 ⟨h34, o35⟩
      · have c40' := i_nle c40
        refine r_aload_n 0 C dX11_clear_43 rfl ?_
        refine gfX11_53 126 C (kS sM h34 kc_114) (xS sM h34 xc_114_29) dX11_clear_44 ?_
        refine r_iload_n 1 C dX11_clear_47 rfl ?_
        refine r_iconst (v := 0) C dX11_clear_48 (by decide) ?_
        refine r_iast C (kS sM h34 kc_126) (vin (by omega) (by omega)) dX11_clear_49 (fun w42 e43 => ?_)
        have h44 := Ch.putS h34 e43 (by decide)
        have o45 : OkM w42 := ⟨Inv.put0 o35.1 e43 (by decide), Rel.putS o35.2 e43 (by decide)⟩
        obtain ⟨i46, e47⟩ : ∃ z : Int32, u30 + Int32.ofInt 1 = z := ⟨_, rfl⟩
        have i46' := iinc_ok e47 (by decide) (by omega) (by omega)
        refine r_iinc [(1, .int i46), (0, .ref (gz (xG x) + 114))] 1 C dX11_clear_50 rfl e47 (by decide) rfl ?_
        refine r_goto 37 C dX11_clear_53 (by decide) ?_
        refine r_lv [1, 0] rfl ?_
        exact ih38 i46 w42 h44 o45 (by omega) (by omega)
  refine r_aload_n 0 C dX11_clear_0 rfl ?_
  refine r_iconst (v := 0) C dX11_clear_1 (by decide) ?_
  refine pfX11_179 C (kS sM h0 kc_114) dX11_clear_2 (fun w1 e2 => ?_)
  have h3 := Ch.putF h0 e2 (by decide)
  have o4 := Inv.put o0.1 e2 0 9 (by omega) (by decide)
  refine r_aload_n 0 C dX11_clear_5 rfl ?_
  refine r_iconst (v := 0) C dX11_clear_6 (by decide) ?_
  refine pfX11_182 C (kS sM h3 kc_114) dX11_clear_7 (fun w5 e6 => ?_)
  have h7 := Ch.putF h3 e6 (by decide)
  have o8 := Inv.put o4 e6 0 9 (by omega) (by decide)
  refine r_aload_n 0 C dX11_clear_10 rfl ?_
  refine r_iconst (v := 0) C dX11_clear_11 (by decide) ?_
  refine pfX11_194 C (kS sM h7 kc_114) dX11_clear_12 (fun w9 e10 => ?_)
  have h11 := Ch.putF h7 e10 (by decide)
  have o12 := Inv.putk o8 e10 (by decide)
  refine r_aload_n 0 C dX11_clear_15 rfl ?_
  refine r_iconst (v := 0) C dX11_clear_16 (by decide) ?_
  refine pfX11_191 C (kS sM h11 kc_114) dX11_clear_17 (fun w13 e14 => ?_)
  have h15 := Ch.putF h11 e14 (by decide)
  have o16 := Inv.put o12 e14 0 6 (by omega) (by decide)
  refine r_aload_n 0 C dX11_clear_20 rfl ?_
  refine r_iconst (v := 0) C dX11_clear_21 (by decide) ?_
  refine pfX11_208 C (kS sM h15 kc_114) dX11_clear_22 (fun w17 e18 => ?_)
  have h19 := Ch.putF h15 e18 (by decide)
  have o20 := Inv.put o16 e18 0 3 (by omega) (by decide)
  refine r_aload_n 0 C dX11_clear_25 rfl ?_
  refine r_iconst (v := (-1)) C dX11_clear_26 (by decide) ?_
  refine pfX11_188 C (kS sM h19 kc_114) dX11_clear_27 (fun w21 e22 => ?_)
  have h23 := Ch.putF h19 e22 (by decide)
  have o24 := Inv.put o20 e22 (-1) 41 (by omega) (by decide)
  refine r_aload_n 0 C dX11_clear_30 rfl ?_
  refine r_iconst (v := (-1)) C dX11_clear_31 (by decide) ?_
  refine pfX11_211 C (kS sM h23 kc_114) dX11_clear_32 (fun w25 e26 => ?_)
  have h27 := Ch.putF h23 e26 (by decide)
  have o28 := Inv.putk o24 e26 (by decide)
  have o29 : OkM w25 := ⟨o28, Rel.of (g_nk e26 (by decide) (g_nk e22 (by decide) (g_nk e18 (by decide) (g_nk e14 (by decide) (g_nk e10 (by decide) (g_nk e6 (by decide) (g_nk e2 (by decide) rfl))))))) (g_nk e26 (by decide) (g_nk e22 (by decide) (g_nk e18 (by decide) (g_nk e14 (by decide) (g_nk e10 (by decide) (g_nk e6 (by decide) (g_nk e2 (by decide) rfl))))))) (g_nk e26 (by decide) (g_nk e22 (by decide) (g_nk e18 (by decide) (g_nk e14 (by decide) (g_nk e10 (by decide) (g_nk e6 (by decide) (g_eq e2))))))) (g_nk e26 (by decide) (g_nk e22 (by decide) (g_nk e18 (by decide) (g_nk e14 (by decide) (g_nk e10 (by decide) (g_eq e6)))))) (g_nk e26 (by decide) (g_nk e22 (by decide) (g_nk e18 (by decide) (g_nk e14 (by decide) (g_nk e10 (by decide) (g_nk e6 (by decide) (g_nk e2 (by decide) rfl))))))) (g_nk e26 (by decide) (g_nk e22 (by decide) (g_nk e18 (by decide) (g_eq e14)))) (by first | omega | (simp only [q0]; omega)) (by first | omega | (simp only [q0]; omega)) (by first | omega | (simp only [q0]; omega)) (by first | omega | (simp only [q0]; omega))⟩
  refine r_iconst (v := 0) C dX11_clear_35 (by decide) ?_
  refine r_istore_n [(1, .int 0), (0, .ref (gz (xG x) + 114))] C dX11_clear_36 (by decide) rfl ?_
  refine r_lv [1, 0] rfl ?_
  exact LP31 4294967296 0 w25 h27 o29 (by omega) (by omega)
set_option maxHeartbeats 4000000 in
set_option maxRecDepth 100000 in
theorem ctX11_isCell (l : Launch) (G : Gt) (w : Wv) (sM : Str KM XM w) (o0 : OkM w) (W : Int32) (pW : wI w 114 0 = W) (bW : 0 ≤ W.toInt ∧ W.toInt ≤ 9) (D : Int32) (pD : wI w 114 1 = D) (bD : 0 ≤ D.toInt ∧ D.toInt ≤ 9) (a1 : Int32) (a2 : Int32) : CtI l G yX11_isCell cX11_isCell 3 .boolean ({ frames := 1, cells := 0, slots := 0, locals := 25 } : Room) [.ref (gz G + 114), .int a1, .int a2] w (fun r w' => Ch [] [] w w' ∧ OkM w' ∧ ((0 ≤ r.toInt ∧ r.toInt ≤ 1) ∧ (r.toInt = 1 → (0 ≤ a1.toInt ∧ a1.toInt < W.toInt ∧ 0 ≤ a2.toInt ∧ a2.toInt < D.toInt)))) := by
  refine enterI (by decide) (Nat.le_of_ble_eq_true rfl) ?_
  intro x el eG C hret
  subst el; subst eG
  show V x 0 0 w 0 [(0, .ref (gz (xG x) + 114)), (1, .int a1), (2, .int a2)] []
  have h0 : Ch [] [] w w := Ch.rf
  have q0 : (0 : Int32).toInt = 0 := by decide
  have q1 : (1 : Int32).toInt = 1 := by decide
  have ql0 : (0 : Int64).toInt = 0 := by decide
  obtain ⟨rA, rB, rC, rD⟩ := (o0.2 : Rel w)
  (try simp only [pW] at rA); (try simp only [pW] at rB); (try simp only [pW] at rC); (try simp only [pW] at rD)
  (try simp only [pD] at rA); (try simp only [pD] at rB); (try simp only [pD] at rC); (try simp only [pD] at rD)
  refine r_iload_n 1 C dX11_isCell_0 rfl ?_
  refine r_i2l C dX11_isCell_1 (fun v1 e2 => ?_)
  have v1' := i2l_ok e2
  refine r_lconst (v := 0) C dX11_isCell_2 (by decide) ?_
  refine r_aload_n 0 C dX11_isCell_3 rfl ?_
  refine gfX11_111 (v := W) C (kS sM h0 kc_114) pW dX11_isCell_4 ?_
  refine r_iconst (v := 1) C dX11_isCell_7 (by decide) ?_
  refine r_isub C dX11_isCell_8 (fun v3 e4 => ?_)
  have v3' := isub_ok e4 (by omega) (by omega)
  refine r_i2l C dX11_isCell_9 (fun v5 e6 => ?_)
  have v5' := i2l_ok e6
  refine callSI C cwX11_114_S (ctX11_in _ _ w v1 0 v5 ) (by decide) rfl rfl (Nat.le_of_ble_eq_true rfl) (by decide) dX11_isCell_10 (fun r9 w8 y7 => ?_)
  obtain ⟨y7, g10⟩ := y7
  obtain rfl := y7.symm
  show V x 0 0 w 13 [(0, .ref (gz (xG x) + 114)), (1, .int a1), (2, .int a2)] [.int r9]
  refine r_if_eq 36 C dX11_isCell_13 (by decide) (fun c11 => ?_) (fun c11 => ?_)
  · have c11' := i_eq c11
    refine r_iconst (v := 0) C dX11_isCell_36 (by decide) ?_
    exact hret _ _ _ _ dX11_isCell_37 (nar_z (z_of (by omega))) ⟨h0, o0, by omega⟩
  · have c11' := i_ne c11
    refine r_iload_n 2 C dX11_isCell_16 rfl ?_
    refine r_i2l C dX11_isCell_17 (fun v12 e13 => ?_)
    have v12' := i2l_ok e13
    refine r_lconst (v := 0) C dX11_isCell_18 (by decide) ?_
    refine r_aload_n 0 C dX11_isCell_19 rfl ?_
    refine gfX11_118 (v := D) C (kS sM h0 kc_114) pD dX11_isCell_20 ?_
    refine r_iconst (v := 1) C dX11_isCell_23 (by decide) ?_
    refine r_isub C dX11_isCell_24 (fun v14 e15 => ?_)
    have v14' := isub_ok e15 (by omega) (by omega)
    refine r_i2l C dX11_isCell_25 (fun v16 e17 => ?_)
    have v16' := i2l_ok e17
    refine callSI C cwX11_114_S (ctX11_in _ _ w v12 0 v16 ) (by decide) rfl rfl (Nat.le_of_ble_eq_true rfl) (by decide) dX11_isCell_26 (fun r20 w19 y18 => ?_)
    obtain ⟨y18, g21⟩ := y18
    obtain rfl := y18.symm
    show V x 0 0 w 29 [(0, .ref (gz (xG x) + 114)), (1, .int a1), (2, .int a2)] [.int r20]
    refine r_if_eq 36 C dX11_isCell_29 (by decide) (fun c22 => ?_) (fun c22 => ?_)
    · have c22' := i_eq c22
      refine r_iconst (v := 0) C dX11_isCell_36 (by decide) ?_
      exact hret _ _ _ _ dX11_isCell_37 (nar_z (z_of (by omega))) ⟨h0, o0, by omega⟩
    · have c22' := i_ne c22
      refine r_iconst (v := 1) C dX11_isCell_32 (by decide) ?_
      refine r_goto 37 C dX11_isCell_33 (by decide) ?_
      exact hret _ _ _ _ dX11_isCell_37 (nar_z (z_of (by omega))) ⟨h0, o0, by omega⟩
set_option maxHeartbeats 4000000 in
set_option maxRecDepth 100000 in
theorem ctX11_isCrowd (l : Launch) (G : Gt) (w : Wv) (sM : Str KM XM w) (o0 : OkM w) (K : Int32) (pK : wI w 114 3 = K) (bK : 0 ≤ K.toInt ∧ K.toInt ≤ 6) (a1 : Int32) : CtI l G yX11_isCrowd cX11_isCrowd 2 .boolean ({ frames := 1, cells := 0, slots := 0, locals := 25 } : Room) [.ref (gz G + 114), .int a1] w (fun r w' => Ch [] [] w w' ∧ OkM w' ∧ ((0 ≤ r.toInt ∧ r.toInt ≤ 1) ∧ (r.toInt = 1 → (0 ≤ a1.toInt ∧ a1.toInt < K.toInt)))) := by
  refine enterI (by decide) (Nat.le_of_ble_eq_true rfl) ?_
  intro x el eG C hret
  subst el; subst eG
  show V x 0 0 w 0 [(0, .ref (gz (xG x) + 114)), (1, .int a1)] []
  have h0 : Ch [] [] w w := Ch.rf
  have q1 : (1 : Int32).toInt = 1 := by decide
  have ql0 : (0 : Int64).toInt = 0 := by decide
  obtain ⟨rA, rB, rC, rD⟩ := (o0.2 : Rel w)
  (try simp only [pK] at rA); (try simp only [pK] at rB); (try simp only [pK] at rC); (try simp only [pK] at rD)
  refine r_iload_n 1 C dX11_isCrowd_0 rfl ?_
  refine r_i2l C dX11_isCrowd_1 (fun v1 e2 => ?_)
  have v1' := i2l_ok e2
  refine r_lconst (v := 0) C dX11_isCrowd_2 (by decide) ?_
  refine r_aload_n 0 C dX11_isCrowd_3 rfl ?_
  refine gfX11_121 (v := K) C (kS sM h0 kc_114) pK dX11_isCrowd_4 ?_
  refine r_iconst (v := 1) C dX11_isCrowd_7 (by decide) ?_
  refine r_isub C dX11_isCrowd_8 (fun v3 e4 => ?_)
  have v3' := isub_ok e4 (by omega) (by omega)
  refine r_i2l C dX11_isCrowd_9 (fun v5 e6 => ?_)
  have v5' := i2l_ok e6
  refine callSI C cwX11_114_S (ctX11_in _ _ w v1 0 v5 ) (by decide) rfl rfl (Nat.le_of_ble_eq_true rfl) (by decide) dX11_isCrowd_10 (fun r9 w8 y7 => ?_)
  obtain ⟨y7, g10⟩ := y7
  obtain rfl := y7.symm
  show V x 0 0 w 13 [(0, .ref (gz (xG x) + 114)), (1, .int a1)] [.int r9]
  exact hret _ _ _ _ dX11_isCrowd_13 (nar_z (z_of (by omega))) ⟨h0, o0, by omega⟩
set_option maxHeartbeats 4000000 in
set_option maxRecDepth 100000 in
theorem ctX11_isTune (l : Launch) (G : Gt) (w : Wv) (sM : Str KM XM w) (o0 : OkM w) (K : Int32) (pK : wI w 114 8 = K) (bK : 0 ≤ K.toInt ∧ K.toInt ≤ 3) (a1 : Int32) : CtI l G yX11_isTune cX11_isTune 2 .boolean ({ frames := 1, cells := 0, slots := 0, locals := 25 } : Room) [.ref (gz G + 114), .int a1] w (fun r w' => Ch [] [] w w' ∧ OkM w' ∧ ((0 ≤ r.toInt ∧ r.toInt ≤ 1) ∧ (r.toInt = 1 → (0 ≤ a1.toInt ∧ a1.toInt < K.toInt)))) := by
  refine enterI (by decide) (Nat.le_of_ble_eq_true rfl) ?_
  intro x el eG C hret
  subst el; subst eG
  show V x 0 0 w 0 [(0, .ref (gz (xG x) + 114)), (1, .int a1)] []
  have h0 : Ch [] [] w w := Ch.rf
  have q1 : (1 : Int32).toInt = 1 := by decide
  have ql0 : (0 : Int64).toInt = 0 := by decide
  obtain ⟨rA, rB, rC, rD⟩ := (o0.2 : Rel w)
  refine r_iload_n 1 C dX11_isTune_0 rfl ?_
  refine r_i2l C dX11_isTune_1 (fun v1 e2 => ?_)
  have v1' := i2l_ok e2
  refine r_lconst (v := 0) C dX11_isTune_2 (by decide) ?_
  refine r_aload_n 0 C dX11_isTune_3 rfl ?_
  refine gfX11_124 (v := K) C (kS sM h0 kc_114) pK dX11_isTune_4 ?_
  refine r_iconst (v := 1) C dX11_isTune_7 (by decide) ?_
  refine r_isub C dX11_isTune_8 (fun v3 e4 => ?_)
  have v3' := isub_ok e4 (by omega) (by omega)
  refine r_i2l C dX11_isTune_9 (fun v5 e6 => ?_)
  have v5' := i2l_ok e6
  refine callSI C cwX11_114_S (ctX11_in _ _ w v1 0 v5 ) (by decide) rfl rfl (Nat.le_of_ble_eq_true rfl) (by decide) dX11_isTune_10 (fun r9 w8 y7 => ?_)
  obtain ⟨y7, g10⟩ := y7
  obtain rfl := y7.symm
  show V x 0 0 w 13 [(0, .ref (gz (xG x) + 114)), (1, .int a1)] [.int r9]
  exact hret _ _ _ _ dX11_isTune_13 (nar_z (z_of (by omega))) ⟨h0, o0, by omega⟩
set_option maxHeartbeats 4000000 in
set_option maxRecDepth 100000 in
theorem ctX11_told10 (l : Launch) (G : Gt) (w : Wv) (sM : Str KM XM w) (o0 : OkM w) (W : Int32) (pW : wI w 114 0 = W) (bW : 1 ≤ W.toInt ∧ W.toInt ≤ 9) (a1 : Int32) (b1 : 0 ≤ a1.toInt ∧ a1.toInt ≤ 41) : CtI l G yX11_told10 cX11_told10 2 .int ({ frames := 0, cells := 0, slots := 0, locals := 0 } : Room) [.ref (gz G + 114), .int a1] w (fun r w' => Ch [] [] w w' ∧ OkM w') := by
  refine enterI (by decide) (Nat.le_of_ble_eq_true rfl) ?_
  intro x el eG C hret
  subst el; subst eG
  show V x 0 0 w 0 [(0, .ref (gz (xG x) + 114)), (1, .int a1)] []
  have h0 : Ch [] [] w w := Ch.rf
  have q0 : (0 : Int32).toInt = 0 := by decide
  have q10 : (10 : Int32).toInt = 10 := by decide
  obtain ⟨rA, rB, rC, rD⟩ := (o0.2 : Rel w)
  (try simp only [pW] at rA); (try simp only [pW] at rB); (try simp only [pW] at rC); (try simp only [pW] at rD)
  refine r_bipush (v := 10) C dX11_told10_0 (by decide) ?_
  refine r_iload_n 1 C dX11_told10_2 rfl ?_
  refine r_aload_n 0 C dX11_told10_3 rfl ?_
  refine gfX11_111 (v := W) C (kS sM h0 kc_114) pW dX11_told10_4 ?_
  refine r_irem C dX11_told10_7 (fun q => by have q := i_eq q; omega) (fun v1 e2 => ?_)
  have v1' := irem_rng e2 (by omega) (by omega)
  refine r_imul C dX11_told10_8 (fun v3 e4 => ?_)
  have k5 : (10 : Int32).toInt = 10 := by omega
  have v3' := imul_ok e4 (by rw [k5]; omega) (by rw [k5]; omega)
  rw [k5] at v3'
  refine r_iload_n 1 C dX11_told10_9 rfl ?_
  refine r_aload_n 0 C dX11_told10_10 rfl ?_
  refine gfX11_111 (v := W) C (kS sM h0 kc_114) pW dX11_told10_11 ?_
  refine r_idiv C dX11_told10_14 (fun q => by have q := i_eq q; omega) (fun v6 e7 => ?_)
  have v6' := idiv_rng e7 (by omega) (by omega)
  refine r_iadd C dX11_told10_15 (fun v8 e9 => ?_)
  have v8' := iadd_ok e9 (by omega) (by omega)
  exact hret _ _ _ _ dX11_told10_16 rfl ⟨h0, o0⟩
set_option maxHeartbeats 4000000 in
set_option maxRecDepth 100000 in
theorem ctX11_firstFree (l : Launch) (G : Gt) (w : Wv) (sM : Str KM XM w) (o0 : OkM w) (W : Int32) (pW : wI w 114 0 = W) (bW : 0 ≤ W.toInt ∧ W.toInt ≤ 9) (D : Int32) (pD : wI w 114 1 = D) (bD : 0 ≤ D.toInt ∧ D.toInt ≤ 9)  : CtI l G yX11_firstFree cX11_firstFree 2 .int ({ frames := 0, cells := 0, slots := 0, locals := 0 } : Room) [.ref (gz G + 114)] w (fun r w' => Ch [] [] w w' ∧ OkM w' ∧ (0 ≤ r.toInt ∧ r.toInt ≤ 41)) := by
  refine enterI (by decide) (Nat.le_of_ble_eq_true rfl) ?_
  intro x el eG C hret
  subst el; subst eG
  show V x 0 0 w 0 [(0, .ref (gz (xG x) + 114))] []
  have h0 : Ch [] [] w w := Ch.rf
  have q0 : (0 : Int32).toInt = 0 := by decide
  obtain ⟨rA, rB, rC, rD⟩ := (o0.2 : Rel w)
  (try simp only [pW] at rA); (try simp only [pW] at rB); (try simp only [pW] at rC); (try simp only [pW] at rD)
  (try simp only [pD] at rA); (try simp only [pD] at rB); (try simp only [pD] at rC); (try simp only [pD] at rD)
  have LP2 : ∀ (f3 : Nat) (u1 : Int32) (w4 : Wv), Ch [] [] w w4 → OkM w4 → (0 ≤ u1.toInt ∧ u1.toInt ≤ 2147483647) → 2147483647 - u1.toInt < f3 → V x 0 0 w4 2 [(0, .ref (gz (xG x) + 114)), (1, .int u1)] [] := by
    intro f3
    induction f3 with
    | zero => intro u1 w4 h5 o6 z7 z8; exfalso; omega
    | succ f3 ih9 =>
      intro u1 w4 h5 o6 z7 z8
      refine r_iload_n 1 C dX11_firstFree_2 rfl ?_
      refine r_aload_n 0 C dX11_firstFree_3 rfl ?_
      refine gfX11_111 (v := W) C (kS sM h5 kc_114) (h5.I (by decide) (by decide) pW) dX11_firstFree_4 ?_
      refine r_aload_n 0 C dX11_firstFree_7 rfl ?_
      refine gfX11_118 (v := D) C (kS sM h5 kc_114) (h5.I (by decide) (by decide) pD) dX11_firstFree_8 ?_
      refine r_imul C dX11_firstFree_11 (fun v10 e11 => ?_)
      have v10' := imul_rng e11 (A := 9) (B := 9) (by omega) (by omega) (by decide)
      have k13 := i_rng u1
      refine r_icmp_ge 32 C dX11_firstFree_12 (by decide) (fun c12 => ?_) (fun c12 => ?_)
      · have c12' := i_le c12
        refine r_iconst (v := 0) C dX11_firstFree_32 (by decide) ?_
        exact hret _ _ _ _ dX11_firstFree_33 rfl ⟨h5, o6, by omega⟩
      · have c12' := i_nle c12
        refine r_aload_n 0 C dX11_firstFree_15 rfl ?_
        refine gfX11_7 115 C (kS sM h5 kc_114) (xS sM h5 xc_114_2) dX11_firstFree_16 ?_
        refine r_iload_n 1 C dX11_firstFree_19 rfl ?_
        refine r_iald C (kS sM h5 kc_115) (vin (by omega) (by omega)) dX11_firstFree_20 ?_
        generalize (wI w4 115 (u1).toNatClampNeg) = v14
        refine r_if_ne 26 C dX11_firstFree_21 (by decide) (fun c15 => ?_) (fun c15 => ?_)
        · have c15' := i_ne c15
          obtain ⟨i16, e17⟩ : ∃ z : Int32, u1 + Int32.ofInt 1 = z := ⟨_, rfl⟩
          have i16' := iinc_ok e17 (by decide) (by omega) (by omega)
          refine r_iinc [(1, .int i16), (0, .ref (gz (xG x) + 114))] 1 C dX11_firstFree_26 rfl e17 (by decide) rfl ?_
          refine r_goto 2 C dX11_firstFree_29 (by decide) ?_
          refine r_lv [1, 0] rfl ?_
          exact ih9 i16 w4 h5 o6 (by omega) (by omega)
        · have c15' := i_eq c15
          refine r_iload_n 1 C dX11_firstFree_24 rfl ?_
          exact hret _ _ _ _ dX11_firstFree_25 rfl ⟨h5, o6, by omega⟩
  refine r_iconst (v := 0) C dX11_firstFree_0 (by decide) ?_
  refine r_istore_n [(1, .int 0), (0, .ref (gz (xG x) + 114))] C dX11_firstFree_1 (by decide) rfl ?_
  refine r_lv [1, 0] rfl ?_
  exact LP2 4294967296 0 w h0 o0 (by omega) (by omega)
set_option maxHeartbeats 4000000 in
set_option maxRecDepth 100000 in
theorem ctX11_beside (l : Launch) (G : Gt) (w : Wv) (sM : Str KM XM w) (o0 : OkM w) (W : Int32) (pW : wI w 114 0 = W) (bW : 1 ≤ W.toInt ∧ W.toInt ≤ 9) (D : Int32) (pD : wI w 114 1 = D) (bD : 0 ≤ D.toInt ∧ D.toInt ≤ 9) (a1 : Int32) (a2 : Int32) (b1 : 0 ≤ a1.toInt ∧ a1.toInt ≤ 41) : CtI l G yX11_beside cX11_beside 5 .int ({ frames := 2, cells := 0, slots := 0, locals := 47 } : Room) [.ref (gz G + 114), .int a1, .int a2] w (fun r w' => Ch [] [] w w' ∧ OkM w' ∧ (-1 ≤ r.toInt ∧ r.toInt ≤ 41)) := by
  refine enterI (by decide) (Nat.le_of_ble_eq_true rfl) ?_
  intro x el eG C hret
  subst el; subst eG
  show V x 0 0 w 0 [(0, .ref (gz (xG x) + 114)), (1, .int a1), (2, .int a2)] []
  have h0 : Ch [] [] w w := Ch.rf
  have qm1 : ((-1) : Int32).toInt = (-1) := by decide
  have q0 : (0 : Int32).toInt = 0 := by decide
  have q1 : (1 : Int32).toInt = 1 := by decide
  have q2 : (2 : Int32).toInt = 2 := by decide
  have q3 : (3 : Int32).toInt = 3 := by decide
  have q4 : (4 : Int32).toInt = 4 := by decide
  obtain ⟨rA, rB, rC, rD⟩ := (o0.2 : Rel w)
  (try simp only [pW] at rA); (try simp only [pW] at rB); (try simp only [pW] at rC); (try simp only [pW] at rD)
  (try simp only [pD] at rA); (try simp only [pD] at rB); (try simp only [pD] at rC); (try simp only [pD] at rD)
  refine r_iload_n 1 C dX11_beside_0 rfl ?_
  refine r_aload_n 0 C dX11_beside_1 rfl ?_
  refine gfX11_111 (v := W) C (kS sM h0 kc_114) pW dX11_beside_2 ?_
  refine r_irem C dX11_beside_5 (fun q => by have q := i_eq q; omega) (fun v1 e2 => ?_)
  have v1' := irem_rng e2 (by omega) (by omega)
  refine r_iload_n 2 C dX11_beside_6 rfl ?_
  refine r_iconst (v := 2) C dX11_beside_7 (by decide) ?_
  refine r_icmp_ne 15 C dX11_beside_8 (by decide) (fun c3 => ?_) (fun c3 => ?_)
  · have c3' := i_ne c3
    refine r_iload_n 2 C dX11_beside_15 rfl ?_
    refine r_iconst (v := 4) C dX11_beside_16 (by decide) ?_
    refine r_icmp_ne 24 C dX11_beside_17 (by decide) (fun c4 => ?_) (fun c4 => ?_)
    · have c4' := i_ne c4
      refine r_iconst (v := 0) C dX11_beside_24 (by decide) ?_
      refine r_iadd C dX11_beside_25 (fun v5 e6 => ?_)
      have v5' := iadd_ok e6 (by omega) (by omega)
      refine r_istore_n [(3, .int v5), (0, .ref (gz (xG x) + 114)), (1, .int a1), (2, .int a2)] C dX11_beside_26 (by decide) rfl ?_
      refine r_iload_n 2 C dX11_beside_27 rfl ?_
      refine r_aload_n 1 C dX11_beside_28 rfl ?_
      refine gfX11_111 (v := W) C (kS sM h0 kc_114) pW dX11_beside_29 ?_
      refine r_idiv C dX11_beside_32 (fun q => by have q := i_eq q; omega) (fun v7 e8 => ?_)
      have v7' := idiv_rng e8 (by omega) (by omega)
      refine r_iload_n 3 C dX11_beside_33 rfl ?_
      refine r_iconst (v := 3) C dX11_beside_34 (by decide) ?_
      refine r_icmp_ne 42 C dX11_beside_35 (by decide) (fun c9 => ?_) (fun c9 => ?_)
      · have c9' := i_ne c9
        refine r_iload_n 3 C dX11_beside_42 rfl ?_
        refine r_iconst (v := 1) C dX11_beside_43 (by decide) ?_
        refine r_icmp_ne 51 C dX11_beside_44 (by decide) (fun c10 => ?_) (fun c10 => ?_)
        · have c10' := i_ne c10
          refine r_iconst (v := 0) C dX11_beside_51 (by decide) ?_
          refine r_iadd C dX11_beside_52 (fun v11 e12 => ?_)
          have v11' := iadd_ok e12 (by omega) (by omega)
          refine r_istore [(4, .int v11), (3, .int v5), (0, .ref (gz (xG x) + 114)), (1, .int a1), (2, .int a2)] C dX11_beside_53 (by decide) rfl ?_
          refine r_aload_n 2 C dX11_beside_55 rfl ?_
          refine r_iload_n 1 C dX11_beside_56 rfl ?_
          refine r_iload 0 C dX11_beside_57 rfl ?_
          refine callVI C cwX11_274_V (ctX11_isCell _ _ w (sS sM h0) o0 W pW (by omega) D pD (by omega) v5 v11 ) (by decide) (kS sM h0 kc_114) rfl rfl rfl (Nat.le_of_ble_eq_true rfl) (by decide) dX11_beside_59 (fun r15 w14 y13 => ?_)
          show V x 0 0 w14 62 [(4, .int v11), (3, .int v5), (0, .ref (gz (xG x) + 114)), (1, .int a1), (2, .int a2)] [.int r15]
          obtain ⟨h16, o17, g18⟩ := y13
          have h19 := Ch.tr h0 h16 (by decide) (by decide)
          refine r_if_eq 77 C dX11_beside_62 (by decide) (fun c20 => ?_) (fun c20 => ?_)
          · have c20' := i_eq c20
            refine r_iconst (v := (-1)) C dX11_beside_77 (by decide) ?_
            exact hret _ _ _ _ dX11_beside_78 rfl ⟨h19, o17, by omega⟩
          · have c20' := i_ne c20
            have k21 := cell_rng (W := (W : Int32).toInt) (D := (D : Int32).toInt) (y := (v11 : Int32).toInt) (x := (v5 : Int32).toInt) (by omega) (by omega) (by omega)
            refine r_aload_n 2 C dX11_beside_65 rfl ?_
            refine gfX11_111 (v := W) C (kS sM h19 kc_114) (h16.I (by decide) (by decide) pW) dX11_beside_66 ?_
            refine r_iload 0 C dX11_beside_69 rfl ?_
            refine r_imul C dX11_beside_71 (fun v22 e23 => ?_)
            have v22' := imul_rng e23 (A := 9) (B := 8) (by omega) (by omega) (by decide)
            refine r_iload_n 1 C dX11_beside_72 rfl ?_
            refine r_iadd C dX11_beside_73 (fun v24 e25 => ?_)
            have v24' := iadd_ok e25 (by omega) (by omega)
            refine r_goto 78 C dX11_beside_74 (by decide) ?_
            exact hret _ _ _ _ dX11_beside_78 rfl ⟨h19, o17, by omega⟩
        · have c10' := i_eq c10
          refine r_iconst (v := (-1)) C dX11_beside_47 (by decide) ?_
          refine r_goto 52 C dX11_beside_48 (by decide) ?_
          refine r_iadd C dX11_beside_52 (fun v26 e27 => ?_)
          have v26' := iadd_ok e27 (by omega) (by omega)
          refine r_istore [(4, .int v26), (3, .int v5), (0, .ref (gz (xG x) + 114)), (1, .int a1), (2, .int a2)] C dX11_beside_53 (by decide) rfl ?_
          refine r_aload_n 2 C dX11_beside_55 rfl ?_
          refine r_iload_n 1 C dX11_beside_56 rfl ?_
          refine r_iload 0 C dX11_beside_57 rfl ?_
          refine callVI C cwX11_274_V (ctX11_isCell _ _ w (sS sM h0) o0 W pW (by omega) D pD (by omega) v5 v26 ) (by decide) (kS sM h0 kc_114) rfl rfl rfl (Nat.le_of_ble_eq_true rfl) (by decide) dX11_beside_59 (fun r30 w29 y28 => ?_)
          show V x 0 0 w29 62 [(4, .int v26), (3, .int v5), (0, .ref (gz (xG x) + 114)), (1, .int a1), (2, .int a2)] [.int r30]
          obtain ⟨h31, o32, g33⟩ := y28
          have h34 := Ch.tr h0 h31 (by decide) (by decide)
          refine r_if_eq 77 C dX11_beside_62 (by decide) (fun c35 => ?_) (fun c35 => ?_)
          · have c35' := i_eq c35
            refine r_iconst (v := (-1)) C dX11_beside_77 (by decide) ?_
            exact hret _ _ _ _ dX11_beside_78 rfl ⟨h34, o32, by omega⟩
          · have c35' := i_ne c35
            have k36 := cell_rng (W := (W : Int32).toInt) (D := (D : Int32).toInt) (y := (v26 : Int32).toInt) (x := (v5 : Int32).toInt) (by omega) (by omega) (by omega)
            refine r_aload_n 2 C dX11_beside_65 rfl ?_
            refine gfX11_111 (v := W) C (kS sM h34 kc_114) (h31.I (by decide) (by decide) pW) dX11_beside_66 ?_
            refine r_iload 0 C dX11_beside_69 rfl ?_
            refine r_imul C dX11_beside_71 (fun v37 e38 => ?_)
            have v37' := imul_rng e38 (A := 9) (B := 8) (by omega) (by omega) (by decide)
            refine r_iload_n 1 C dX11_beside_72 rfl ?_
            refine r_iadd C dX11_beside_73 (fun v39 e40 => ?_)
            have v39' := iadd_ok e40 (by omega) (by omega)
            refine r_goto 78 C dX11_beside_74 (by decide) ?_
            exact hret _ _ _ _ dX11_beside_78 rfl ⟨h34, o32, by omega⟩
      · have c9' := i_eq c9
        refine r_iconst (v := 1) C dX11_beside_38 (by decide) ?_
        refine r_goto 52 C dX11_beside_39 (by decide) ?_
        refine r_iadd C dX11_beside_52 (fun v41 e42 => ?_)
        have v41' := iadd_ok e42 (by omega) (by omega)
        refine r_istore [(4, .int v41), (3, .int v5), (0, .ref (gz (xG x) + 114)), (1, .int a1), (2, .int a2)] C dX11_beside_53 (by decide) rfl ?_
        refine r_aload_n 2 C dX11_beside_55 rfl ?_
        refine r_iload_n 1 C dX11_beside_56 rfl ?_
        refine r_iload 0 C dX11_beside_57 rfl ?_
        refine callVI C cwX11_274_V (ctX11_isCell _ _ w (sS sM h0) o0 W pW (by omega) D pD (by omega) v5 v41 ) (by decide) (kS sM h0 kc_114) rfl rfl rfl (Nat.le_of_ble_eq_true rfl) (by decide) dX11_beside_59 (fun r45 w44 y43 => ?_)
        show V x 0 0 w44 62 [(4, .int v41), (3, .int v5), (0, .ref (gz (xG x) + 114)), (1, .int a1), (2, .int a2)] [.int r45]
        obtain ⟨h46, o47, g48⟩ := y43
        have h49 := Ch.tr h0 h46 (by decide) (by decide)
        refine r_if_eq 77 C dX11_beside_62 (by decide) (fun c50 => ?_) (fun c50 => ?_)
        · have c50' := i_eq c50
          refine r_iconst (v := (-1)) C dX11_beside_77 (by decide) ?_
          exact hret _ _ _ _ dX11_beside_78 rfl ⟨h49, o47, by omega⟩
        · have c50' := i_ne c50
          have k51 := cell_rng (W := (W : Int32).toInt) (D := (D : Int32).toInt) (y := (v41 : Int32).toInt) (x := (v5 : Int32).toInt) (by omega) (by omega) (by omega)
          refine r_aload_n 2 C dX11_beside_65 rfl ?_
          refine gfX11_111 (v := W) C (kS sM h49 kc_114) (h46.I (by decide) (by decide) pW) dX11_beside_66 ?_
          refine r_iload 0 C dX11_beside_69 rfl ?_
          refine r_imul C dX11_beside_71 (fun v52 e53 => ?_)
          have v52' := imul_rng e53 (A := 9) (B := 8) (by omega) (by omega) (by decide)
          refine r_iload_n 1 C dX11_beside_72 rfl ?_
          refine r_iadd C dX11_beside_73 (fun v54 e55 => ?_)
          have v54' := iadd_ok e55 (by omega) (by omega)
          refine r_goto 78 C dX11_beside_74 (by decide) ?_
          exact hret _ _ _ _ dX11_beside_78 rfl ⟨h49, o47, by omega⟩
    · have c4' := i_eq c4
      refine r_iconst (v := (-1)) C dX11_beside_20 (by decide) ?_
      refine r_goto 25 C dX11_beside_21 (by decide) ?_
      refine r_iadd C dX11_beside_25 (fun v56 e57 => ?_)
      have v56' := iadd_ok e57 (by omega) (by omega)
      refine r_istore_n [(3, .int v56), (0, .ref (gz (xG x) + 114)), (1, .int a1), (2, .int a2)] C dX11_beside_26 (by decide) rfl ?_
      refine r_iload_n 2 C dX11_beside_27 rfl ?_
      refine r_aload_n 1 C dX11_beside_28 rfl ?_
      refine gfX11_111 (v := W) C (kS sM h0 kc_114) pW dX11_beside_29 ?_
      refine r_idiv C dX11_beside_32 (fun q => by have q := i_eq q; omega) (fun v58 e59 => ?_)
      have v58' := idiv_rng e59 (by omega) (by omega)
      refine r_iload_n 3 C dX11_beside_33 rfl ?_
      refine r_iconst (v := 3) C dX11_beside_34 (by decide) ?_
      refine r_icmp_ne 42 C dX11_beside_35 (by decide) (fun c60 => ?_) (fun c60 => ?_)
      · have c60' := i_ne c60
        refine r_iload_n 3 C dX11_beside_42 rfl ?_
        refine r_iconst (v := 1) C dX11_beside_43 (by decide) ?_
        refine r_icmp_ne 51 C dX11_beside_44 (by decide) (fun c61 => ?_) (fun c61 => ?_)
        · have c61' := i_ne c61
          refine r_iconst (v := 0) C dX11_beside_51 (by decide) ?_
          refine r_iadd C dX11_beside_52 (fun v62 e63 => ?_)
          have v62' := iadd_ok e63 (by omega) (by omega)
          refine r_istore [(4, .int v62), (3, .int v56), (0, .ref (gz (xG x) + 114)), (1, .int a1), (2, .int a2)] C dX11_beside_53 (by decide) rfl ?_
          refine r_aload_n 2 C dX11_beside_55 rfl ?_
          refine r_iload_n 1 C dX11_beside_56 rfl ?_
          refine r_iload 0 C dX11_beside_57 rfl ?_
          refine callVI C cwX11_274_V (ctX11_isCell _ _ w (sS sM h0) o0 W pW (by omega) D pD (by omega) v56 v62 ) (by decide) (kS sM h0 kc_114) rfl rfl rfl (Nat.le_of_ble_eq_true rfl) (by decide) dX11_beside_59 (fun r66 w65 y64 => ?_)
          show V x 0 0 w65 62 [(4, .int v62), (3, .int v56), (0, .ref (gz (xG x) + 114)), (1, .int a1), (2, .int a2)] [.int r66]
          obtain ⟨h67, o68, g69⟩ := y64
          have h70 := Ch.tr h0 h67 (by decide) (by decide)
          refine r_if_eq 77 C dX11_beside_62 (by decide) (fun c71 => ?_) (fun c71 => ?_)
          · have c71' := i_eq c71
            refine r_iconst (v := (-1)) C dX11_beside_77 (by decide) ?_
            exact hret _ _ _ _ dX11_beside_78 rfl ⟨h70, o68, by omega⟩
          · have c71' := i_ne c71
            have k72 := cell_rng (W := (W : Int32).toInt) (D := (D : Int32).toInt) (y := (v62 : Int32).toInt) (x := (v56 : Int32).toInt) (by omega) (by omega) (by omega)
            refine r_aload_n 2 C dX11_beside_65 rfl ?_
            refine gfX11_111 (v := W) C (kS sM h70 kc_114) (h67.I (by decide) (by decide) pW) dX11_beside_66 ?_
            refine r_iload 0 C dX11_beside_69 rfl ?_
            refine r_imul C dX11_beside_71 (fun v73 e74 => ?_)
            have v73' := imul_rng e74 (A := 9) (B := 8) (by omega) (by omega) (by decide)
            refine r_iload_n 1 C dX11_beside_72 rfl ?_
            refine r_iadd C dX11_beside_73 (fun v75 e76 => ?_)
            have v75' := iadd_ok e76 (by omega) (by omega)
            refine r_goto 78 C dX11_beside_74 (by decide) ?_
            exact hret _ _ _ _ dX11_beside_78 rfl ⟨h70, o68, by omega⟩
        · have c61' := i_eq c61
          exfalso; omega
      · have c60' := i_eq c60
        exfalso; omega
  · have c3' := i_eq c3
    refine r_iconst (v := 1) C dX11_beside_11 (by decide) ?_
    refine r_goto 25 C dX11_beside_12 (by decide) ?_
    refine r_iadd C dX11_beside_25 (fun v77 e78 => ?_)
    have v77' := iadd_ok e78 (by omega) (by omega)
    refine r_istore_n [(3, .int v77), (0, .ref (gz (xG x) + 114)), (1, .int a1), (2, .int a2)] C dX11_beside_26 (by decide) rfl ?_
    refine r_iload_n 2 C dX11_beside_27 rfl ?_
    refine r_aload_n 1 C dX11_beside_28 rfl ?_
    refine gfX11_111 (v := W) C (kS sM h0 kc_114) pW dX11_beside_29 ?_
    refine r_idiv C dX11_beside_32 (fun q => by have q := i_eq q; omega) (fun v79 e80 => ?_)
    have v79' := idiv_rng e80 (by omega) (by omega)
    refine r_iload_n 3 C dX11_beside_33 rfl ?_
    refine r_iconst (v := 3) C dX11_beside_34 (by decide) ?_
    refine r_icmp_ne 42 C dX11_beside_35 (by decide) (fun c81 => ?_) (fun c81 => ?_)
    · have c81' := i_ne c81
      refine r_iload_n 3 C dX11_beside_42 rfl ?_
      refine r_iconst (v := 1) C dX11_beside_43 (by decide) ?_
      refine r_icmp_ne 51 C dX11_beside_44 (by decide) (fun c82 => ?_) (fun c82 => ?_)
      · have c82' := i_ne c82
        refine r_iconst (v := 0) C dX11_beside_51 (by decide) ?_
        refine r_iadd C dX11_beside_52 (fun v83 e84 => ?_)
        have v83' := iadd_ok e84 (by omega) (by omega)
        refine r_istore [(4, .int v83), (3, .int v77), (0, .ref (gz (xG x) + 114)), (1, .int a1), (2, .int a2)] C dX11_beside_53 (by decide) rfl ?_
        refine r_aload_n 2 C dX11_beside_55 rfl ?_
        refine r_iload_n 1 C dX11_beside_56 rfl ?_
        refine r_iload 0 C dX11_beside_57 rfl ?_
        refine callVI C cwX11_274_V (ctX11_isCell _ _ w (sS sM h0) o0 W pW (by omega) D pD (by omega) v77 v83 ) (by decide) (kS sM h0 kc_114) rfl rfl rfl (Nat.le_of_ble_eq_true rfl) (by decide) dX11_beside_59 (fun r87 w86 y85 => ?_)
        show V x 0 0 w86 62 [(4, .int v83), (3, .int v77), (0, .ref (gz (xG x) + 114)), (1, .int a1), (2, .int a2)] [.int r87]
        obtain ⟨h88, o89, g90⟩ := y85
        have h91 := Ch.tr h0 h88 (by decide) (by decide)
        refine r_if_eq 77 C dX11_beside_62 (by decide) (fun c92 => ?_) (fun c92 => ?_)
        · have c92' := i_eq c92
          refine r_iconst (v := (-1)) C dX11_beside_77 (by decide) ?_
          exact hret _ _ _ _ dX11_beside_78 rfl ⟨h91, o89, by omega⟩
        · have c92' := i_ne c92
          have k93 := cell_rng (W := (W : Int32).toInt) (D := (D : Int32).toInt) (y := (v83 : Int32).toInt) (x := (v77 : Int32).toInt) (by omega) (by omega) (by omega)
          refine r_aload_n 2 C dX11_beside_65 rfl ?_
          refine gfX11_111 (v := W) C (kS sM h91 kc_114) (h88.I (by decide) (by decide) pW) dX11_beside_66 ?_
          refine r_iload 0 C dX11_beside_69 rfl ?_
          refine r_imul C dX11_beside_71 (fun v94 e95 => ?_)
          have v94' := imul_rng e95 (A := 9) (B := 8) (by omega) (by omega) (by decide)
          refine r_iload_n 1 C dX11_beside_72 rfl ?_
          refine r_iadd C dX11_beside_73 (fun v96 e97 => ?_)
          have v96' := iadd_ok e97 (by omega) (by omega)
          refine r_goto 78 C dX11_beside_74 (by decide) ?_
          exact hret _ _ _ _ dX11_beside_78 rfl ⟨h91, o89, by omega⟩
      · have c82' := i_eq c82
        exfalso; omega
    · have c81' := i_eq c81
      exfalso; omega
set_option maxHeartbeats 4000000 in
set_option maxRecDepth 100000 in
theorem ctX11_findFarTo (l : Launch) (G : Gt) (w : Wv) (sM : Str KM XM w) (o0 : OkM w) (W : Int32) (pW : wI w 114 0 = W) (bW : 0 ≤ W.toInt ∧ W.toInt ≤ 9) (D : Int32) (pD : wI w 114 1 = D) (bD : 0 ≤ D.toInt ∧ D.toInt ≤ 9) (a1 : Int32) (b1 : 0 ≤ a1.toInt ∧ a1.toInt ≤ 41) : CtV l G yX11_findFarTo cX11_findFarTo 6 ({ frames := 3, cells := 0, slots := 0, locals := 71 } : Room) [.ref (gz G + 114), .int a1] w (fun w' => Ch [134] [] w w' ∧ OkM w') := by
  refine enterV (by decide) (Nat.le_of_ble_eq_true rfl) ?_
  intro x el eG C hnm hret
  subst el; subst eG
  show V x 0 0 w 0 [(0, .ref (gz (xG x) + 114)), (1, .int a1)] []
  have h0 : Ch [134] [] w w := Ch.rf
  have q0 : (0 : Int32).toInt = 0 := by decide
  have q1 : (1 : Int32).toInt = 1 := by decide
  have q5 : (5 : Int32).toInt = 5 := by decide
  have q42 : (42 : Int32).toInt = 42 := by decide
  have q1000 : (1000 : Int32).toInt = 1000 := by decide
  obtain ⟨rA, rB, rC, rD⟩ := (o0.2 : Rel w)
  (try simp only [pW] at rA); (try simp only [pW] at rB); (try simp only [pW] at rC); (try simp only [pW] at rD)
  (try simp only [pD] at rA); (try simp only [pD] at rB); (try simp only [pD] at rC); (try simp only [pD] at rD)
  have LP2 : ∀ (f3 : Nat) (u1 : Int32) (w4 : Wv), Ch [134] [] w w4 → OkM w4 → (0 ≤ u1.toInt ∧ u1.toInt ≤ 2147483647) → 2147483647 - u1.toInt < f3 → V x 0 0 w4 2 [(0, .ref (gz (xG x) + 114)), (1, .int a1), (2, .int u1)] [] := by
    intro f3
    induction f3 with
    | zero => intro u1 w4 h5 o6 z7 z8; exfalso; omega
    | succ f3 ih9 =>
      intro u1 w4 h5 o6 z7 z8
      have LP26 : ∀ (f27 : Nat) (u25 : Int32) (w28 : Wv), Ch [134] [] w w28 → OkM w28 → (0 ≤ u25.toInt ∧ u25.toInt ≤ 2147483647) → 2147483647 - u25.toInt < f27 → V x 0 0 w28 60 [(0, .ref (gz (xG x) + 114)), (1, .int a1), (2, .int u25)] [] := by
        intro f27
        induction f27 with
        | zero => intro u25 w28 h29 o30 z31 z32; exfalso; omega
        | succ f27 ih33 =>
          intro u25 w28 h29 o30 z31 z32
          have LP39 : ∀ (f40 : Nat) (u38 : Int32) (w41 : Wv), Ch [134] [] w w41 → OkM w41 → (0 ≤ u38.toInt ∧ u38.toInt ≤ 2147483647) → (0 ≤ u25.toInt ∧ u25.toInt ≤ 80) → 2147483647 - u38.toInt < f40 → V x 0 0 w41 75 [(0, .ref (gz (xG x) + 114)), (1, .int a1), (2, .int u25), (3, .int u38)] [] := by
            intro f40
            induction f40 with
            | zero => intro u38 w41 h42 o43 z44 z45 z46; exfalso; omega
            | succ f40 ih47 =>
              intro u38 w41 h42 o43 z44 z45 z46
              have LP55 : ∀ (f56 : Nat) (u54 : Int32) (w57 : Wv), Ch [134] [] w w57 → OkM w57 → (0 ≤ u54.toInt ∧ u54.toInt ≤ 2147483647) → (0 ≤ u38.toInt ∧ u38.toInt ≤ 80) → (u38.toInt < W.toInt * D.toInt) → 2147483647 - u54.toInt < f56 → V x 0 0 w57 91 [(0, .ref (gz (xG x) + 114)), (1, .int a1), (2, .int u25), (3, .int u38), (4, .int u54)] [] := by
                intro f56
                induction f56 with
                | zero => intro u54 w57 h58 o59 z60 z61 z62 z63; exfalso; omega
                | succ f56 ih64 =>
                  intro u54 w57 h58 o59 z60 z61 z62 z63
                  refine r_iload 4 C dX11_findFarTo_91 rfl ?_
                  refine r_iconst (v := 5) C dX11_findFarTo_93 (by decide) ?_
                  have k66 := i_rng u54
                  refine r_icmp_ge 176 C dX11_findFarTo_94 (by decide) (fun c65 => ?_) (fun c65 => ?_)
                  · have c65' := i_le c65
                    obtain ⟨i67, e68⟩ : ∃ z : Int32, u38 + Int32.ofInt 1 = z := ⟨_, rfl⟩
                    have i67' := iinc_ok e68 (by decide) (by omega) (by omega)
                    refine r_iinc [(3, .int i67), (0, .ref (gz (xG x) + 114)), (1, .int a1), (2, .int u25), (4, .int u54)] 3 C dX11_findFarTo_176 rfl e68 (by decide) rfl ?_
                    refine r_goto 75 C dX11_findFarTo_179 (by decide) ?_
                    refine r_lv [1, 2, 3, 0] rfl ?_
                    exact ih47 i67 w57 h58 o59 (by omega) (by omega) (by omega)
                  · have c65' := i_nle c65
                    refine r_aload_n 0 C dX11_findFarTo_97 rfl ?_
                    refine gfX11_77 134 C (kS sM h58 kc_114) (xS sM h58 xc_114_44) dX11_findFarTo_98 ?_
                    refine r_bipush (v := 42) C dX11_findFarTo_101 (by decide) ?_
                    refine r_iload_n 1 C dX11_findFarTo_103 rfl ?_
                    refine r_imul C dX11_findFarTo_104 (fun v69 e70 => ?_)
                    have k71 : (42 : Int32).toInt = 42 := by omega
                    have v69' := imul_ok e70 (by rw [k71]; omega) (by rw [k71]; omega)
                    rw [k71] at v69'
                    refine r_iload_n 3 C dX11_findFarTo_105 rfl ?_
                    refine r_iadd C dX11_findFarTo_106 (fun v72 e73 => ?_)
                    have v72' := iadd_ok e73 (by omega) (by omega)
                    refine r_iald C (kS sM h58 kc_134) (vin (by omega) (by omega)) dX11_findFarTo_107 ?_
                    generalize (wI w57 134 (v72).toNatClampNeg) = v74
                    refine r_iload_n 2 C dX11_findFarTo_108 rfl ?_
                    refine r_icmp_ne 176 C dX11_findFarTo_109 (by decide) (fun c75 => ?_) (fun c75 => ?_)
                    · have c75' := i_ne c75
                      obtain ⟨i76, e77⟩ : ∃ z : Int32, u38 + Int32.ofInt 1 = z := ⟨_, rfl⟩
                      have i76' := iinc_ok e77 (by decide) (by omega) (by omega)
                      refine r_iinc [(3, .int i76), (0, .ref (gz (xG x) + 114)), (1, .int a1), (2, .int u25), (4, .int u54)] 3 C dX11_findFarTo_176 rfl e77 (by decide) rfl ?_
                      refine r_goto 75 C dX11_findFarTo_179 (by decide) ?_
                      refine r_lv [1, 2, 3, 0] rfl ?_
                      exact ih47 i76 w57 h58 o59 (by omega) (by omega) (by omega)
                    · have c75' := i_eq c75
                      have k78 := prod_pos (W := (W : Int32).toInt) (D := (D : Int32).toInt) (c := (u38 : Int32).toInt) (by omega) (by omega) (by omega)
                      refine r_aload_n 0 C dX11_findFarTo_112 rfl ?_
                      refine r_iload_n 3 C dX11_findFarTo_113 rfl ?_
                      refine r_iload 4 C dX11_findFarTo_114 rfl ?_
                      refine callVI C cwX11_278_V (ctX11_beside _ _ w57 (sS sM h58) o59 W (h58.I (by decide) (by decide) pW) (by omega) D (h58.I (by decide) (by decide) pD) (by omega) u38 u54 (by omega)) (by decide) (kS sM h58 kc_114) rfl rfl rfl (Nat.le_of_ble_eq_true rfl) (by decide) dX11_findFarTo_116 (fun r81 w80 y79 => ?_)
                      show V x 0 0 w80 119 [(0, .ref (gz (xG x) + 114)), (1, .int a1), (2, .int u25), (3, .int u38), (4, .int u54)] [.int r81]
                      obtain ⟨h82, o83, g84⟩ := y79
                      have h85 := Ch.tr h58 h82 (by decide) (by decide)
                      refine r_istore [(5, .int r81), (0, .ref (gz (xG x) + 114)), (1, .int a1), (2, .int u25), (3, .int u38), (4, .int u54)] C dX11_findFarTo_119 (by decide) rfl ?_
                      refine r_iload 0 C dX11_findFarTo_121 rfl ?_
                      refine r_if_lt 170 C dX11_findFarTo_123 (by decide) (fun c86 => ?_) (fun c86 => ?_)
                      · have c86' := i_lt c86
                        obtain ⟨i87, e88⟩ : ∃ z : Int32, u54 + Int32.ofInt 1 = z := ⟨_, rfl⟩
                        have i87' := iinc_ok e88 (by decide) (by omega) (by omega)
                        refine r_iinc [(4, .int i87), (5, .int r81), (0, .ref (gz (xG x) + 114)), (1, .int a1), (2, .int u25), (3, .int u38)] 5 C dX11_findFarTo_170 rfl e88 (by decide) rfl ?_
                        refine r_goto 91 C dX11_findFarTo_173 (by decide) ?_
                        refine r_lv [2, 3, 4, 5, 0] rfl ?_
                        exact ih64 i87 w80 h85 o83 (by omega) (by omega) (by omega) (by omega)
                      · have c86' := i_nlt c86
                        refine r_aload_n 1 C dX11_findFarTo_126 rfl ?_
                        refine gfX11_7 115 C (kS sM h85 kc_114) (xS sM h85 xc_114_2) dX11_findFarTo_127 ?_
                        refine r_iload 0 C dX11_findFarTo_130 rfl ?_
                        refine r_iald C (kS sM h85 kc_115) (vin (by omega) (by omega)) dX11_findFarTo_132 ?_
                        generalize (wI w80 115 (r81).toNatClampNeg) = v89
                        refine r_iconst (v := 1) C dX11_findFarTo_133 (by decide) ?_
                        refine r_icmp_eq 170 C dX11_findFarTo_134 (by decide) (fun c90 => ?_) (fun c90 => ?_)
                        · have c90' := i_eq c90
                          obtain ⟨i91, e92⟩ : ∃ z : Int32, u54 + Int32.ofInt 1 = z := ⟨_, rfl⟩
                          have i91' := iinc_ok e92 (by decide) (by omega) (by omega)
                          refine r_iinc [(4, .int i91), (5, .int r81), (0, .ref (gz (xG x) + 114)), (1, .int a1), (2, .int u25), (3, .int u38)] 5 C dX11_findFarTo_170 rfl e92 (by decide) rfl ?_
                          refine r_goto 91 C dX11_findFarTo_173 (by decide) ?_
                          refine r_lv [2, 3, 4, 5, 0] rfl ?_
                          exact ih64 i91 w80 h85 o83 (by omega) (by omega) (by omega) (by omega)
                        · have c90' := i_ne c90
                          refine r_aload_n 1 C dX11_findFarTo_137 rfl ?_
                          refine gfX11_77 134 C (kS sM h85 kc_114) (xS sM h85 xc_114_44) dX11_findFarTo_138 ?_
                          refine r_bipush (v := 42) C dX11_findFarTo_141 (by decide) ?_
                          refine r_iload_n 2 C dX11_findFarTo_143 rfl ?_
                          refine r_imul C dX11_findFarTo_144 (fun v93 e94 => ?_)
                          have k95 : (42 : Int32).toInt = 42 := by omega
                          have v93' := imul_ok e94 (by rw [k95]; omega) (by rw [k95]; omega)
                          rw [k95] at v93'
                          refine r_iload 0 C dX11_findFarTo_145 rfl ?_
                          refine r_iadd C dX11_findFarTo_147 (fun v96 e97 => ?_)
                          have v96' := iadd_ok e97 (by omega) (by omega)
                          refine r_iald C (kS sM h85 kc_134) (vin (by omega) (by omega)) dX11_findFarTo_148 ?_
                          generalize (wI w80 134 (v96).toNatClampNeg) = v98
                          refine r_sipush (v := 1000) C dX11_findFarTo_149 (by decide) ?_
                          refine r_icmp_ne 170 C dX11_findFarTo_152 (by decide) (fun c99 => ?_) (fun c99 => ?_)
                          · have c99' := i_ne c99
                            obtain ⟨i100, e101⟩ : ∃ z : Int32, u54 + Int32.ofInt 1 = z := ⟨_, rfl⟩
                            have i100' := iinc_ok e101 (by decide) (by omega) (by omega)
                            refine r_iinc [(4, .int i100), (5, .int r81), (0, .ref (gz (xG x) + 114)), (1, .int a1), (2, .int u25), (3, .int u38)] 5 C dX11_findFarTo_170 rfl e101 (by decide) rfl ?_
                            refine r_goto 91 C dX11_findFarTo_173 (by decide) ?_
                            refine r_lv [2, 3, 4, 5, 0] rfl ?_
                            exact ih64 i100 w80 h85 o83 (by omega) (by omega) (by omega) (by omega)
                          · have c99' := i_eq c99
                            refine r_aload_n 1 C dX11_findFarTo_155 rfl ?_
                            refine gfX11_77 134 C (kS sM h85 kc_114) (xS sM h85 xc_114_44) dX11_findFarTo_156 ?_
                            refine r_bipush (v := 42) C dX11_findFarTo_159 (by decide) ?_
                            refine r_iload_n 2 C dX11_findFarTo_161 rfl ?_
                            refine r_imul C dX11_findFarTo_162 (fun v102 e103 => ?_)
                            have k104 : (42 : Int32).toInt = 42 := by omega
                            have v102' := imul_ok e103 (by rw [k104]; omega) (by rw [k104]; omega)
                            rw [k104] at v102'
                            refine r_iload 0 C dX11_findFarTo_163 rfl ?_
                            refine r_iadd C dX11_findFarTo_165 (fun v105 e106 => ?_)
                            have v105' := iadd_ok e106 (by omega) (by omega)
                            refine r_iload_n 3 C dX11_findFarTo_166 rfl ?_
                            refine r_iconst (v := 1) C dX11_findFarTo_167 (by decide) ?_
                            refine r_iadd C dX11_findFarTo_168 (fun v107 e108 => ?_)
                            have v107' := iadd_ok e108 (by omega) (by omega)
                            refine r_iast C (kS sM h85 kc_134) (vin (by omega) (by omega)) dX11_findFarTo_169 (fun w109 e110 => ?_)
                            have h111 := Ch.putS h85 e110 (by decide)
                            have o112 : OkM w109 := ⟨Inv.put0 o83.1 e110 (by decide), Rel.putS o83.2 e110 (by decide)⟩
                            obtain ⟨i113, e114⟩ : ∃ z : Int32, u54 + Int32.ofInt 1 = z := ⟨_, rfl⟩
                            have i113' := iinc_ok e114 (by decide) (by omega) (by omega)
                            refine r_iinc [(4, .int i113), (5, .int r81), (0, .ref (gz (xG x) + 114)), (1, .int a1), (2, .int u25), (3, .int u38)] 5 C dX11_findFarTo_170 rfl e114 (by decide) rfl ?_
                            refine r_goto 91 C dX11_findFarTo_173 (by decide) ?_
                            refine r_lv [2, 3, 4, 5, 0] rfl ?_
                            exact ih64 i113 w109 h111 o112 (by omega) (by omega) (by omega) (by omega)
              refine r_iload_n 3 C dX11_findFarTo_75 rfl ?_
              refine r_aload_n 0 C dX11_findFarTo_76 rfl ?_
              refine gfX11_111 (v := W) C (kS sM h42 kc_114) (h42.I (by decide) (by decide) pW) dX11_findFarTo_77 ?_
              refine r_aload_n 0 C dX11_findFarTo_80 rfl ?_
              refine gfX11_118 (v := D) C (kS sM h42 kc_114) (h42.I (by decide) (by decide) pD) dX11_findFarTo_81 ?_
              refine r_imul C dX11_findFarTo_84 (fun v48 e49 => ?_)
              have v48' := imul_rng e49 (A := 9) (B := 9) (by omega) (by omega) (by decide)
              have k51 := i_rng u38
              refine r_icmp_ge 182 C dX11_findFarTo_85 (by decide) (fun c50 => ?_) (fun c50 => ?_)
              · have c50' := i_le c50
                obtain ⟨i52, e53⟩ : ∃ z : Int32, u25 + Int32.ofInt 1 = z := ⟨_, rfl⟩
                have i52' := iinc_ok e53 (by decide) (by omega) (by omega)
                refine r_iinc [(2, .int i52), (0, .ref (gz (xG x) + 114)), (1, .int a1), (3, .int u38)] 2 C dX11_findFarTo_182 rfl e53 (by decide) rfl ?_
                refine r_goto 60 C dX11_findFarTo_185 (by decide) ?_
                refine r_lv [1, 2, 0] rfl ?_
                exact ih33 i52 w41 h42 o43 (by omega) (by omega)
              · have c50' := i_nle c50
                refine r_iconst (v := 1) C dX11_findFarTo_88 (by decide) ?_
                refine r_istore [(4, .int 1), (0, .ref (gz (xG x) + 114)), (1, .int a1), (2, .int u25), (3, .int u38)] C dX11_findFarTo_89 (by decide) rfl ?_
                refine r_lv [1, 2, 3, 4, 0] rfl ?_
                exact LP55 4294967296 1 w41 h42 o43 (by omega) (by omega) (by omega) (by omega)
          refine r_iload_n 2 C dX11_findFarTo_60 rfl ?_
          refine r_aload_n 0 C dX11_findFarTo_61 rfl ?_
          refine gfX11_111 (v := W) C (kS sM h29 kc_114) (h29.I (by decide) (by decide) pW) dX11_findFarTo_62 ?_
          refine r_aload_n 0 C dX11_findFarTo_65 rfl ?_
          refine gfX11_118 (v := D) C (kS sM h29 kc_114) (h29.I (by decide) (by decide) pD) dX11_findFarTo_66 ?_
          refine r_imul C dX11_findFarTo_69 (fun v34 e35 => ?_)
          have v34' := imul_rng e35 (A := 9) (B := 9) (by omega) (by omega) (by decide)
          have k37 := i_rng u25
          refine r_icmp_ge 188 C dX11_findFarTo_70 (by decide) (fun c36 => ?_) (fun c36 => ?_)
          · have c36' := i_le c36
            exact hret _ _ _ dX11_findFarTo_188 ⟨h29, o30⟩
          · have c36' := i_nle c36
            refine r_iconst (v := 0) C dX11_findFarTo_73 (by decide) ?_
            refine r_istore_n [(3, .int 0), (0, .ref (gz (xG x) + 114)), (1, .int a1), (2, .int u25)] C dX11_findFarTo_74 (by decide) rfl ?_
            refine r_lv [1, 2, 3, 0] rfl ?_
            exact LP39 4294967296 0 w28 h29 o30 (by omega) (by omega) (by omega)
      refine r_iload_n 2 C dX11_findFarTo_2 rfl ?_
      refine r_aload_n 0 C dX11_findFarTo_3 rfl ?_
      refine gfX11_111 (v := W) C (kS sM h5 kc_114) (h5.I (by decide) (by decide) pW) dX11_findFarTo_4 ?_
      refine r_aload_n 0 C dX11_findFarTo_7 rfl ?_
      refine gfX11_118 (v := D) C (kS sM h5 kc_114) (h5.I (by decide) (by decide) pD) dX11_findFarTo_8 ?_
      refine r_imul C dX11_findFarTo_11 (fun v10 e11 => ?_)
      have v10' := imul_rng e11 (A := 9) (B := 9) (by omega) (by omega) (by decide)
      have k13 := i_rng u1
      refine r_icmp_ge 35 C dX11_findFarTo_12 (by decide) (fun c12 => ?_) (fun c12 => ?_)
      · have c12' := i_le c12
        refine r_aload_n 0 C dX11_findFarTo_35 rfl ?_
        refine gfX11_77 134 C (kS sM h5 kc_114) (xS sM h5 xc_114_44) dX11_findFarTo_36 ?_
        refine r_bipush (v := 42) C dX11_findFarTo_39 (by decide) ?_
        refine r_iload_n 1 C dX11_findFarTo_41 rfl ?_
        refine r_imul C dX11_findFarTo_42 (fun v14 e15 => ?_)
        have k16 : (42 : Int32).toInt = 42 := by omega
        have v14' := imul_ok e15 (by rw [k16]; omega) (by rw [k16]; omega)
        rw [k16] at v14'
        refine r_iload_n 1 C dX11_findFarTo_43 rfl ?_
        refine r_iadd C dX11_findFarTo_44 (fun v17 e18 => ?_)
        have v17' := iadd_ok e18 (by omega) (by omega)
        refine r_iconst (v := 0) C dX11_findFarTo_45 (by decide) ?_
        refine r_iast C (kS sM h5 kc_134) (vin (by omega) (by omega)) dX11_findFarTo_46 (fun w19 e20 => ?_)
        have h21 := Ch.putS h5 e20 (by decide)
        have o22 : OkM w19 := ⟨Inv.put0 o6.1 e20 (by decide), Rel.putS o6.2 e20 (by decide)⟩
        refine r_aload_n 0 C dX11_findFarTo_47 rfl ?_
        refine gfX11_7 115 C (kS sM h21 kc_114) (xS sM h21 xc_114_2) dX11_findFarTo_48 ?_
        refine r_iload_n 1 C dX11_findFarTo_51 rfl ?_
        refine r_iald C (kS sM h21 kc_115) (vin (by omega) (by omega)) dX11_findFarTo_52 ?_
        generalize (wI w19 115 (a1).toNatClampNeg) = v23
        refine r_iconst (v := 1) C dX11_findFarTo_53 (by decide) ?_
        refine r_icmp_ne 58 C dX11_findFarTo_54 (by decide) (fun c24 => ?_) (fun c24 => ?_)
        · have c24' := i_ne c24
          refine r_iconst (v := 0) C dX11_findFarTo_58 (by decide) ?_
          refine r_istore_n [(2, .int 0), (0, .ref (gz (xG x) + 114)), (1, .int a1)] C dX11_findFarTo_59 (by decide) rfl ?_
          refine r_lv [1, 2, 0] rfl ?_
          exact LP26 4294967296 0 w19 h21 o22 (by omega) (by omega)
        · have c24' := i_eq c24
          exact hret _ _ _ dX11_findFarTo_57 ⟨h21, o22⟩
      · have c12' := i_nle c12
        refine r_aload_n 0 C dX11_findFarTo_15 rfl ?_
        refine gfX11_77 134 C (kS sM h5 kc_114) (xS sM h5 xc_114_44) dX11_findFarTo_16 ?_
        refine r_bipush (v := 42) C dX11_findFarTo_19 (by decide) ?_
        refine r_iload_n 1 C dX11_findFarTo_21 rfl ?_
        refine r_imul C dX11_findFarTo_22 (fun v115 e116 => ?_)
        have k117 : (42 : Int32).toInt = 42 := by omega
        have v115' := imul_ok e116 (by rw [k117]; omega) (by rw [k117]; omega)
        rw [k117] at v115'
        refine r_iload_n 2 C dX11_findFarTo_23 rfl ?_
        refine r_iadd C dX11_findFarTo_24 (fun v118 e119 => ?_)
        have v118' := iadd_ok e119 (by omega) (by omega)
        refine r_sipush (v := 1000) C dX11_findFarTo_25 (by decide) ?_
        refine r_iast C (kS sM h5 kc_134) (vin (by omega) (by omega)) dX11_findFarTo_28 (fun w120 e121 => ?_)
        have h122 := Ch.putS h5 e121 (by decide)
        have o123 : OkM w120 := ⟨Inv.put0 o6.1 e121 (by decide), Rel.putS o6.2 e121 (by decide)⟩
        obtain ⟨i124, e125⟩ : ∃ z : Int32, u1 + Int32.ofInt 1 = z := ⟨_, rfl⟩
        have i124' := iinc_ok e125 (by decide) (by omega) (by omega)
        refine r_iinc [(2, .int i124), (0, .ref (gz (xG x) + 114)), (1, .int a1)] 2 C dX11_findFarTo_29 rfl e125 (by decide) rfl ?_
        refine r_goto 2 C dX11_findFarTo_32 (by decide) ?_
        refine r_lv [1, 2, 0] rfl ?_
        exact ih9 i124 w120 h122 o123 (by omega) (by omega)
  refine r_iconst (v := 0) C dX11_findFarTo_0 (by decide) ?_
  refine r_istore_n [(2, .int 0), (0, .ref (gz (xG x) + 114)), (1, .int a1)] C dX11_findFarTo_1 (by decide) rfl ?_
  refine r_lv [1, 2, 0] rfl ?_
  exact LP2 4294967296 0 w h0 o0 (by omega) (by omega)
