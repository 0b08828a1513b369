def VM : Wv := nX11 (addK WC112 (11, .inl fX11)) 114 115
theorem strC_M : Str KC XC VM := ⟨by decide +kernel, by decide +kernel⟩
theorem strM_M : Str KM XM VM := ⟨by decide +kernel, by decide +kernel⟩
set_option maxHeartbeats 4000000 in
set_option maxRecDepth 100000 in
theorem law_walk (x : Ct) (b Ls : Nat) (xf : Nat → Int32) (C : Cx x cL_law 4 RL room_1) (hX : va_X b Ls xf (xs x) (xs x).heap) (hbl : b < (xs x).heap.size) (hbz : b < gz (xG x)) (hL : Ls ≤ 5) (hret : ∀ (cells slots : Nat) (w : Wv) (pc : Nat) (lv : List (Nat × Value)), decode cL_law pc = .ok (.ireturn, 1) → cells ≤ 600000 → slots ≤ 7302250 → V x cells slots w pc lv [.int 1]) : V x 0 0 w00 0 [(0, .ref b)] [] := by
  obtain ⟨n0, hn0⟩ : ∃ z : Int32, z = Int32.ofNat Ls := ⟨_, rfl⟩
  have n0' : n0.toInt = (Ls : Int) := by rw [hn0]; exact nI_toInt (by omega)
  have qm1 : ((-1) : Int32).toInt = (-1) := by decide
  have q0 : (0 : Int32).toInt = 0 := by decide
  have q1 : (1 : Int32).toInt = 1 := by decide
  have q2 : (2 : Int32).toInt = 2 := by decide
  have q3 : (3 : Int32).toInt = 3 := by decide
  have q4 : (4 : Int32).toInt = 4 := by decide
  have q5 : (5 : Int32).toInt = 5 := by decide
  have q31 : (31 : Int32).toInt = 31 := by decide
  have q32 : (32 : Int32).toInt = 32 := by decide
  have ql4294967295 : (4294967295 : Int64).toInt = 4294967295 := by decide
  refine r_new (ci := 10) C rfl inX10 tyX10 tyX10_ok mw1_18 mw1_19 mw1_1 fX10 dfX10 (by decide) (by decide) dL_law_0 (fun w0 e0 => ?_)
  rw [show (wK w00).length = 0 from rfl]
  subst e0; show V x 1 15 WC0 3 [(0, .ref b)] [.ref (gz (xG x) + 0)]
  refine r_dup C dL_law_3 rfl ?_
  refine callIV C cwL_9_I (cnX10_0 _ _) (by decide) rfl rfl (Nat.le_of_ble_eq_true rfl) (by decide) dL_law_4 (fun w1 y1 => ?_)
  show V x 114 8864 w1 7 [(0, .ref b)] [.ref (gz (xG x) + 0)]
  obtain ⟨h1, z0, z1, z2, z3, z4, z5, z6, z7⟩ := y1
  refine r_astore_n [(1, .ref (gz (xG x) + 0)), (0, .ref b)] C dL_law_7 (by decide) rfl ?_
  have l1 : (wK w1).length = 114 := by rw [h1.1]; decide +kernel
  refine r_new (ci := 11) C rfl inX11 tyX11 tyX11_ok mw5_50 mw5_51 mw1_13 fX11 dfX11 (by decide) (by decide) dL_law_8 (fun w2 e2 => ?_)
  rw [l1]
  show V x 115 8922 w2 11 [(1, .ref (gz (xG x) + 0)), (0, .ref b)] [.ref (gz (xG x) + 114)]
  refine r_dup C dL_law_11 rfl ?_
  have l2 : (wK w2).length = 115 := len_add e2 l1
  have k2 : (wK w2)[114]? = some (11, .inl fX11) := by subst e2; show (wK w1 ++ [_])[114]? = _; rw [List.getElem?_append_right (by rw [l1]; exact Nat.le_refl _), l1]; rfl
  refine callIV C cwL_12_I (cnX11 _ _ w2 114 115 k2 l2) (by decide) rfl rfl (Nat.le_of_ble_eq_true rfl) (by decide) dL_law_12 (fun w3 e3 => ?_)
  show V x 145 11604 w3 15 [(1, .ref (gz (xG x) + 0)), (0, .ref b)] [.ref (gz (xG x) + 114)]
  have h3 : Ch [21, 22, 26, 28, 29, 33, 35, 36, 37, 44, 47, 55, 104, 109] VM w3 := by subst e3; subst e2; exact ((((((((((((((((((((((((((((((((((((((((((((((((((((((((((((((((h1.cAdd).cAdd).cX).cAdd).cX).cAdd).cX).cAdd).cX).cAdd).cX).cAdd).cX).cAdd).cX).cI).cI).cAdd).cX).cAdd).cX).cAdd).cX).cAdd).cX).cI).cAdd).cX).cAdd).cX).cAdd).cX).cAdd).cX).cAdd).cX).cAdd).cX).cAdd).cX).cAdd).cX).cAdd).cX).cAdd).cX).cAdd).cX).cAdd).cX).cAdd).cX).cAdd).cX).cAdd).cX).cAdd).cX).cAdd).cX).cAdd).cX).cAdd).cX).cI
  have lo : Lo 114 w1 w3 := by subst e3; subst e2; exact (((((((((((((((((((((((((((((((((((((((((((((((((((((((((((((((((Lo.rf (N := 114) (L := 114) l1 (Nat.le_refl _)).cAdd).cAdd).cX).cAdd).cX).cAdd).cX).cAdd).cX).cAdd).cX).cAdd).cX).cAdd).cX).cI (by decide)).cI (by decide)).cAdd).cX).cAdd).cX).cAdd).cX).cAdd).cX).cI (by decide)).cAdd).cX).cAdd).cX).cAdd).cX).cAdd).cX).cAdd).cX).cAdd).cX).cAdd).cX).cAdd).cX).cAdd).cX).cAdd).cX).cAdd).cX).cAdd).cX).cAdd).cX).cAdd).cX).cAdd).cX).cAdd).cX).cAdd).cX).cAdd).cX).cAdd).cX).cI (by decide)
  have sC := sS strC_M h3
  have sM := sS strM_M h3
  have g0 : wI w3 3 3 = 0 := h3.I (by decide) (by decide +kernel)
  have g1 : wI w3 3 4 = 0 := h3.I (by decide) (by decide +kernel)
  have g2 : wI w3 3 0 = 0 := h3.I (by decide) (by decide +kernel)
  have g3 : wI w3 3 1 = 0 := h3.I (by decide) (by decide +kernel)
  have g4 : wI w3 21 0 = 0 := (lo.2 21 (by decide) 0).trans z0
  have g5 : wI w3 21 2 = 0 := (lo.2 21 (by decide) 2).trans z1
  have g6 : wI w3 21 3 = 0 := (lo.2 21 (by decide) 3).trans z2
  have g7 : wI w3 1 0 = 0 := h3.I (by decide) (by decide +kernel)
  have g8 : wI w3 1 2 = (-1) := h3.I (by decide) (by decide +kernel)
  have g9 : wI w3 44 0 = 0 := (lo.2 44 (by decide) 0).trans z4
  have g10 : wI w3 47 0 = 0 := (lo.2 47 (by decide) 0).trans z5
  have g11 : wI w3 35 1 = 0 := (lo.2 35 (by decide) 1).trans z3
  have g12 : wI w3 0 14 = 0 := h3.I (by decide) (by decide +kernel)
  have g13 : wI w3 104 0 = 0 := (lo.2 104 (by decide) 0).trans z6
  have g14 : wI w3 109 0 = 0 := (lo.2 109 (by decide) 0).trans z7
  have g15 : wI w3 114 0 = 0 := h3.I (by decide) (by decide +kernel)
  have g16 : wI w3 114 1 = 0 := h3.I (by decide) (by decide +kernel)
  have g17 : wI w3 114 3 = 0 := h3.I (by decide) (by decide +kernel)
  have g18 : wI w3 114 8 = 0 := h3.I (by decide) (by decide +kernel)
  have g19 : wI w3 114 20 = 0 := h3.I (by decide) (by decide +kernel)
  have g20 : wI w3 114 21 = (-1) := h3.I (by decide) (by decide +kernel)
  have g21 : wI w3 114 49 = 0 := h3.I (by decide) (by decide +kernel)
  have g22 : wI w3 114 52 = 0 := h3.I (by decide) (by decide +kernel)
  have g23 : wI w3 114 17 = 0 := h3.I (by decide) (by decide +kernel)
  have g24 : wI w3 114 18 = 0 := h3.I (by decide) (by decide +kernel)
  have g25 : wI w3 144 0 = 0 := h3.I (by decide) (by decide +kernel)
  have g26 : wI w3 144 1 = 0 := h3.I (by decide) (by decide +kernel)
  clear h1 z0 z1 z2 z3 z4 z5 z6 z7 l1 l2 k2 lo e3
  have h0 : Ch [0, 1, 2, 3, 4, 5, 6, 7, 8, 9, 10, 11, 12, 13, 14, 15, 16, 17, 18, 19, 20, 21, 22, 23, 24, 25, 26, 27, 28, 29, 30, 31, 32, 33, 34, 35, 36, 37, 38, 39, 40, 41, 42, 43, 44, 45, 46, 47, 48, 49, 50, 51, 52, 53, 54, 55, 56, 57, 58, 59, 60, 61, 62, 63, 64, 65, 66, 67, 68, 69, 70, 71, 72, 73, 74, 75, 76, 77, 78, 79, 80, 81, 82, 83, 84, 85, 86, 87, 88, 89, 90, 91, 92, 93, 94, 95, 96, 97, 98, 99, 100, 101, 102, 103, 104, 105, 106, 107, 108, 109, 110, 111, 112, 113, 114, 115, 116, 117, 118, 119, 120, 121, 122, 123, 124, 125, 126, 127, 128, 129, 130, 131, 132, 133, 134, 135, 136, 137, 138, 139, 140, 141, 142, 143, 144] w3 w3 := Ch.rf
  refine r_astore_n [(2, .ref (gz (xG x) + 114)), (1, .ref (gz (xG x) + 0)), (0, .ref b)] C dL_law_15 (by decide) rfl ?_
  refine r_iconst (v := 0) C dL_law_16 (by decide) ?_
  refine r_istore_n [(3, .int 0), (2, .ref (gz (xG x) + 114)), (1, .ref (gz (xG x) + 0)), (0, .ref b)] C dL_law_17 (by decide) rfl ?_
  refine r_iload_n 0 C dL_law_18 rfl ?_
  refine r_aload_n 3 C dL_law_19 rfl ?_
  refine r_slen C hX hbl hbz dL_law_20 ?_
  rw [← hn0]
  refine r_iconst (v := 5) C dL_law_21 (by decide) ?_
  refine r_isub C dL_law_22 (fun v101 e102 => ?_)
  have v101' := isub_ok e102 (by omega) (by omega)
  refine r_icmp_gt 935 C dL_law_23 (by decide) (fun c103 => ?_) (fun c103 => ?_)
  · have c103' := i_lt c103
    refine r_iconst (v := 1) C dL_law_935 (by decide) ?_
    exact hret _ _ _ _ _ dL_law_936 (by decide) (by decide)
  · have c103' := i_nlt c103
    refine r_aload_n 3 C dL_law_26 rfl ?_
    refine r_iload_n 0 C dL_law_27 rfl ?_
    refine r_sldj 0 C hX hbl hbz (by omega) (by omega) dL_law_28 ?_
    refine r_bipush (v := 31) C dL_law_29 (by decide) ?_
    refine r_iand C dL_law_31 (fun v104 e105 => ?_)
    by_cases c106 : v104.toInt < 0 ∨ 24 < v104.toInt
    · refine r_tabOut 929 C dL_law_32 c106 (by decide) ?_
      obtain ⟨i107, e108⟩ : ∃ z : Int32, 0 + Int32.ofInt 5 = z := ⟨_, rfl⟩
      have i107' := iinc_ok e108 (by decide) (by omega) (by omega)
      obtain rfl : i107 = 5 := i_of (by omega)
      refine r_iinc [(3, .int 5), (2, .ref (gz (xG x) + 114)), (1, .ref (gz (xG x) + 0)), (0, .ref b)] 0 C dL_law_929 rfl e108 (by decide) rfl ?_
      refine r_goto 18 C dL_law_932 (by decide) ?_
      refine r_iload_n 0 C dL_law_18 rfl ?_
      refine r_aload_n 3 C dL_law_19 rfl ?_
      refine r_slen C hX hbl hbz dL_law_20 ?_
      rw [← hn0]
      refine r_iconst (v := 5) C dL_law_21 (by decide) ?_
      refine r_isub C dL_law_22 (fun v109 e110 => ?_)
      have v109' := isub_ok e110 (by omega) (by omega)
      refine r_icmp_gt 935 C dL_law_23 (by decide) (fun c111 => ?_) (fun c111 => ?_)
      · have c111' := i_lt c111
        refine r_iconst (v := 1) C dL_law_935 (by decide) ?_
        exact hret _ _ _ _ _ dL_law_936 (by decide) (by decide)
      · have c111' := i_nlt c111
        exfalso; omega
    · rcases (show v104.toInt = 0 ∨ v104.toInt = 1 ∨ v104.toInt = 2 ∨ v104.toInt = 3 ∨ v104.toInt = 4 ∨ v104.toInt = 5 ∨ v104.toInt = 6 ∨ v104.toInt = 7 ∨ v104.toInt = 8 ∨ v104.toInt = 9 ∨ v104.toInt = 10 ∨ v104.toInt = 11 ∨ v104.toInt = 12 ∨ v104.toInt = 13 ∨ v104.toInt = 14 ∨ v104.toInt = 15 ∨ v104.toInt = 16 ∨ v104.toInt = 17 ∨ v104.toInt = 18 ∨ v104.toInt = 19 ∨ v104.toInt = 20 ∨ v104.toInt = 21 ∨ v104.toInt = 22 ∨ v104.toInt = 23 ∨ v104.toInt = 24 by omega) with c106 | c106 | c106 | c106 | c106 | c106 | c106 | c106 | c106 | c106 | c106 | c106 | c106 | c106 | c106 | c106 | c106 | c106 | c106 | c106 | c106 | c106 | c106 | c106 | c106
      · refine r_tabIn 148 C dL_law_32 (by omega) (by omega) (by rw [c106]; rfl) (by decide) ?_
        refine r_aload_n 2 C dL_law_148 rfl ?_
        refine r_aload_n 3 C dL_law_149 rfl ?_
        refine r_iload_n 0 C dL_law_150 rfl ?_
        refine r_iconst (v := 1) C dL_law_151 (by decide) ?_
        refine r_iadd C dL_law_152 (fun v112 e113 => ?_)
        have v112' := iadd_ok e113 (by omega) (by omega)
        refine r_sldj 1 C hX hbl hbz (by omega) (by omega) dL_law_153 ?_
        refine r_aload_n 3 C dL_law_154 rfl ?_
        refine r_iload_n 0 C dL_law_155 rfl ?_
        refine r_iconst (v := 2) C dL_law_156 (by decide) ?_
        refine r_iadd C dL_law_157 (fun v114 e115 => ?_)
        have v114' := iadd_ok e115 (by omega) (by omega)
        refine r_sldj 2 C hX hbl hbz (by omega) (by omega) dL_law_158 ?_
        refine r_i2l C dL_law_159 (fun v116 e117 => ?_)
        have v116' := i2l_ok e117
        refine r_bipush (v := 32) C dL_law_160 (by decide) ?_
        refine r_lshl C dL_law_162 (fun v118 e119 => ?_)
        refine r_aload_n 3 C dL_law_163 rfl ?_
        refine r_iload_n 0 C dL_law_164 rfl ?_
        refine r_iconst (v := 3) C dL_law_165 (by decide) ?_
        refine r_iadd C dL_law_166 (fun v120 e121 => ?_)
        have v120' := iadd_ok e121 (by omega) (by omega)
        refine r_sldj 3 C hX hbl hbz (by omega) (by omega) dL_law_167 ?_
        refine r_i2l C dL_law_168 (fun v122 e123 => ?_)
        have v122' := i2l_ok e123
        refine r_ldc2 C mw7_66 dL_law_169 ?_
        refine r_land C dL_law_172 (fun v124 e125 => ?_)
        refine r_lor C dL_law_173 (fun v126 e127 => ?_)
        refine callVI C cwL_15_V (ctX10_feed_0 _ _ w3 (sS sC h0) g7 (xf 1) v126 ) (by decide) (kS sC h0 kc_0) rfl rfl rfl (Nat.le_of_ble_eq_true rfl) (by decide) dL_law_174 (fun r130 w129 y128 => ?_)
        show V x 145 11604 w129 177 [(3, .int 0), (2, .ref (gz (xG x) + 114)), (1, .ref (gz (xG x) + 0)), (0, .ref b)] [.int r130]
        obtain ⟨h131, g132⟩ := y128
        have h133 := Ch.tr h0 h131 (by decide)
        refine r_aload_n 1 C dL_law_177 rfl ?_
        refine r_aload_n 3 C dL_law_178 rfl ?_
        refine r_iload_n 0 C dL_law_179 rfl ?_
        refine r_iconst (v := 1) C dL_law_180 (by decide) ?_
        refine r_iadd C dL_law_181 (fun v134 e135 => ?_)
        have v134' := iadd_ok e135 (by omega) (by omega)
        refine r_sldj 1 C hX hbl hbz (by omega) (by omega) dL_law_182 ?_
        refine r_aload_n 3 C dL_law_183 rfl ?_
        refine r_iload_n 0 C dL_law_184 rfl ?_
        refine r_iconst (v := 2) C dL_law_185 (by decide) ?_
        refine r_iadd C dL_law_186 (fun v136 e137 => ?_)
        have v136' := iadd_ok e137 (by omega) (by omega)
        refine r_sldj 2 C hX hbl hbz (by omega) (by omega) dL_law_187 ?_
        refine r_i2l C dL_law_188 (fun v138 e139 => ?_)
        have v138' := i2l_ok e139
        refine r_bipush (v := 32) C dL_law_189 (by decide) ?_
        refine r_lshl C dL_law_191 (fun v140 e141 => ?_)
        refine r_aload_n 3 C dL_law_192 rfl ?_
        refine r_iload_n 0 C dL_law_193 rfl ?_
        refine r_iconst (v := 3) C dL_law_194 (by decide) ?_
        refine r_iadd C dL_law_195 (fun v142 e143 => ?_)
        have v142' := iadd_ok e143 (by omega) (by omega)
        refine r_sldj 3 C hX hbl hbz (by omega) (by omega) dL_law_196 ?_
        refine r_i2l C dL_law_197 (fun v144 e145 => ?_)
        have v144' := i2l_ok e145
        refine r_ldc2 C mw7_66 dL_law_198 ?_
        refine r_land C dL_law_201 (fun v146 e147 => ?_)
        refine r_lor C dL_law_202 (fun v148 e149 => ?_)
        refine callVI C cwL_19_V (ctX11_feed_114 _ _ w129 (sS sM h133) (h131.I (by decide) g19) (xf 1) v148 ) (by decide) (kS sM h133 kc_114) rfl rfl rfl (Nat.le_of_ble_eq_true rfl) (by decide) dL_law_203 (fun r152 w151 y150 => ?_)
        show V x 145 11604 w151 206 [(3, .int 0), (2, .ref (gz (xG x) + 114)), (1, .ref (gz (xG x) + 0)), (0, .ref b)] [.int r152, .int r130]
        obtain ⟨h153, g154⟩ := y150
        have h155 := Ch.tr h133 h153 (by decide)
        refine r_icmp_eq 929 C dL_law_206 (by decide) (fun c156 => ?_) (fun c156 => ?_)
        · have c156' := i_eq c156
          obtain ⟨i157, e158⟩ : ∃ z : Int32, 0 + Int32.ofInt 5 = z := ⟨_, rfl⟩
          have i157' := iinc_ok e158 (by decide) (by omega) (by omega)
          obtain rfl : i157 = 5 := i_of (by omega)
          refine r_iinc [(3, .int 5), (2, .ref (gz (xG x) + 114)), (1, .ref (gz (xG x) + 0)), (0, .ref b)] 0 C dL_law_929 rfl e158 (by decide) rfl ?_
          refine r_goto 18 C dL_law_932 (by decide) ?_
          refine r_iload_n 0 C dL_law_18 rfl ?_
          refine r_aload_n 3 C dL_law_19 rfl ?_
          refine r_slen C hX hbl hbz dL_law_20 ?_
          rw [← hn0]
          refine r_iconst (v := 5) C dL_law_21 (by decide) ?_
          refine r_isub C dL_law_22 (fun v159 e160 => ?_)
          have v159' := isub_ok e160 (by omega) (by omega)
          refine r_icmp_gt 935 C dL_law_23 (by decide) (fun c161 => ?_) (fun c161 => ?_)
          · have c161' := i_lt c161
            refine r_iconst (v := 1) C dL_law_935 (by decide) ?_
            exact hret _ _ _ _ _ dL_law_936 (by decide) (by decide)
          · have c161' := i_nlt c161
            exfalso; omega
        · have c156' := i_ne c156
          exfalso; omega
      · refine r_tabIn 211 C dL_law_32 (by omega) (by omega) (by rw [c106]; rfl) (by decide) ?_
        refine r_aload_n 2 C dL_law_211 rfl ?_
        refine callVI C cwL_20_V (ctX10_town_0 _ _ w3 (sS sC h0) g7  ) (by decide) (kS sC h0 kc_0) rfl rfl rfl (Nat.le_of_ble_eq_true rfl) (by decide) dL_law_212 (fun r164 w163 y162 => ?_)
        show V x 145 11604 w163 215 [(3, .int 0), (2, .ref (gz (xG x) + 114)), (1, .ref (gz (xG x) + 0)), (0, .ref b)] [.int r164]
        obtain ⟨h165, g166⟩ := y162
        have h167 := Ch.tr h0 h165 (by decide)
        refine r_aload_n 1 C dL_law_215 rfl ?_
        refine callVI C cwL_24_V (ctX11_town_114 _ _ w163 (sS sM h167) (h165.I (by decide) g19)  ) (by decide) (kS sM h167 kc_114) rfl rfl rfl (Nat.le_of_ble_eq_true rfl) (by decide) dL_law_216 (fun r170 w169 y168 => ?_)
        show V x 145 11604 w169 219 [(3, .int 0), (2, .ref (gz (xG x) + 114)), (1, .ref (gz (xG x) + 0)), (0, .ref b)] [.int r170, .int r164]
        obtain ⟨h171, g172⟩ := y168
        have h173 := Ch.tr h167 h171 (by decide)
        refine r_icmp_eq 929 C dL_law_219 (by decide) (fun c174 => ?_) (fun c174 => ?_)
        · have c174' := i_eq c174
          obtain ⟨i175, e176⟩ : ∃ z : Int32, 0 + Int32.ofInt 5 = z := ⟨_, rfl⟩
          have i175' := iinc_ok e176 (by decide) (by omega) (by omega)
          obtain rfl : i175 = 5 := i_of (by omega)
          refine r_iinc [(3, .int 5), (2, .ref (gz (xG x) + 114)), (1, .ref (gz (xG x) + 0)), (0, .ref b)] 0 C dL_law_929 rfl e176 (by decide) rfl ?_
          refine r_goto 18 C dL_law_932 (by decide) ?_
          refine r_iload_n 0 C dL_law_18 rfl ?_
          refine r_aload_n 3 C dL_law_19 rfl ?_
          refine r_slen C hX hbl hbz dL_law_20 ?_
          rw [← hn0]
          refine r_iconst (v := 5) C dL_law_21 (by decide) ?_
          refine r_isub C dL_law_22 (fun v177 e178 => ?_)
          have v177' := isub_ok e178 (by omega) (by omega)
          refine r_icmp_gt 935 C dL_law_23 (by decide) (fun c179 => ?_) (fun c179 => ?_)
          · have c179' := i_lt c179
            refine r_iconst (v := 1) C dL_law_935 (by decide) ?_
            exact hret _ _ _ _ _ dL_law_936 (by decide) (by decide)
          · have c179' := i_nlt c179
            exfalso; omega
        · have c174' := i_ne c174
          exfalso; omega
      · refine r_tabIn 224 C dL_law_32 (by omega) (by omega) (by rw [c106]; rfl) (by decide) ?_
        refine r_aload_n 2 C dL_law_224 rfl ?_
        refine callVI C cwL_25_V (ctX10_fault_0 _ _ w3 (sS sC h0) g8  ) (by decide) (kS sC h0 kc_0) rfl rfl rfl (Nat.le_of_ble_eq_true rfl) (by decide) dL_law_225 (fun r182 w181 y180 => ?_)
        show V x 145 11604 w181 228 [(3, .int 0), (2, .ref (gz (xG x) + 114)), (1, .ref (gz (xG x) + 0)), (0, .ref b)] [.int r182]
        obtain ⟨h183, g184⟩ := y180
        have h185 := Ch.tr h0 h183 (by decide)
        refine r_aload_n 1 C dL_law_228 rfl ?_
        refine callVI C cwL_28_V (ctX11_fault_114 _ _ w181 (sS sM h185) (h183.I (by decide) g20)  ) (by decide) (kS sM h185 kc_114) rfl rfl rfl (Nat.le_of_ble_eq_true rfl) (by decide) dL_law_229 (fun r188 w187 y186 => ?_)
        show V x 145 11604 w187 232 [(3, .int 0), (2, .ref (gz (xG x) + 114)), (1, .ref (gz (xG x) + 0)), (0, .ref b)] [.int r188, .int r182]
        obtain ⟨h189, g190⟩ := y186
        have h191 := Ch.tr h185 h189 (by decide)
        refine r_icmp_eq 929 C dL_law_232 (by decide) (fun c192 => ?_) (fun c192 => ?_)
        · have c192' := i_eq c192
          obtain ⟨i193, e194⟩ : ∃ z : Int32, 0 + Int32.ofInt 5 = z := ⟨_, rfl⟩
          have i193' := iinc_ok e194 (by decide) (by omega) (by omega)
          obtain rfl : i193 = 5 := i_of (by omega)
          refine r_iinc [(3, .int 5), (2, .ref (gz (xG x) + 114)), (1, .ref (gz (xG x) + 0)), (0, .ref b)] 0 C dL_law_929 rfl e194 (by decide) rfl ?_
          refine r_goto 18 C dL_law_932 (by decide) ?_
          refine r_iload_n 0 C dL_law_18 rfl ?_
          refine r_aload_n 3 C dL_law_19 rfl ?_
          refine r_slen C hX hbl hbz dL_law_20 ?_
          rw [← hn0]
          refine r_iconst (v := 5) C dL_law_21 (by decide) ?_
          refine r_isub C dL_law_22 (fun v195 e196 => ?_)
          have v195' := isub_ok e196 (by omega) (by omega)
          refine r_icmp_gt 935 C dL_law_23 (by decide) (fun c197 => ?_) (fun c197 => ?_)
          · have c197' := i_lt c197
            refine r_iconst (v := 1) C dL_law_935 (by decide) ?_
            exact hret _ _ _ _ _ dL_law_936 (by decide) (by decide)
          · have c197' := i_nlt c197
            exfalso; omega
        · have c192' := i_ne c192
          exfalso; omega
      · refine r_tabIn 237 C dL_law_32 (by omega) (by omega) (by rw [c106]; rfl) (by decide) ?_
        refine r_aload_n 2 C dL_law_237 rfl ?_
        refine r_aload_n 3 C dL_law_238 rfl ?_
        refine r_iload_n 0 C dL_law_239 rfl ?_
        refine r_iconst (v := 1) C dL_law_240 (by decide) ?_
        refine r_iadd C dL_law_241 (fun v198 e199 => ?_)
        have v198' := iadd_ok e199 (by omega) (by omega)
        refine r_sldj 1 C hX hbl hbz (by omega) (by omega) dL_law_242 ?_
        refine callVI C cwL_29_V (ctX10_told_0 _ _ w3 (sS sC h0) g2 g3 g0 g1 g7 g11 g4 g9 g10 (xf 1) ) (by decide) (kS sC h0 kc_0) rfl rfl rfl (Nat.le_of_ble_eq_true rfl) (by decide) dL_law_243 (fun r202 w201 y200 => ?_)
        show V x 145 11604 w201 246 [(3, .int 0), (2, .ref (gz (xG x) + 114)), (1, .ref (gz (xG x) + 0)), (0, .ref b)] [.int r202]
        obtain ⟨h203, g204⟩ := y200
        have h205 := Ch.tr h0 h203 (by decide)
        refine r_aload_n 1 C dL_law_246 rfl ?_
        refine r_aload_n 3 C dL_law_247 rfl ?_
        refine r_iload_n 0 C dL_law_248 rfl ?_
        refine r_iconst (v := 1) C dL_law_249 (by decide) ?_
        refine r_iadd C dL_law_250 (fun v206 e207 => ?_)
        have v206' := iadd_ok e207 (by omega) (by omega)
        refine r_sldj 1 C hX hbl hbz (by omega) (by omega) dL_law_251 ?_
        refine callVI C cwL_33_V (ctX11_told_114 _ _ w201 (sS sM h205) (h203.I (by decide) g15) (h203.I (by decide) g16) (h203.I (by decide) g17) (h203.I (by decide) g18) (h203.I (by decide) g19) (h203.I (by decide) g23) (h203.I (by decide) g21) (h203.I (by decide) g22) (xf 1) ) (by decide) (kS sM h205 kc_114) rfl rfl rfl (Nat.le_of_ble_eq_true rfl) (by decide) dL_law_252 (fun r210 w209 y208 => ?_)
        show V x 145 11604 w209 255 [(3, .int 0), (2, .ref (gz (xG x) + 114)), (1, .ref (gz (xG x) + 0)), (0, .ref b)] [.int r210, .int r202]
        obtain ⟨h211, g212⟩ := y208
        have h213 := Ch.tr h205 h211 (by decide)
        refine r_icmp_eq 929 C dL_law_255 (by decide) (fun c214 => ?_) (fun c214 => ?_)
        · have c214' := i_eq c214
          obtain ⟨i215, e216⟩ : ∃ z : Int32, 0 + Int32.ofInt 5 = z := ⟨_, rfl⟩
          have i215' := iinc_ok e216 (by decide) (by omega) (by omega)
          obtain rfl : i215 = 5 := i_of (by omega)
          refine r_iinc [(3, .int 5), (2, .ref (gz (xG x) + 114)), (1, .ref (gz (xG x) + 0)), (0, .ref b)] 0 C dL_law_929 rfl e216 (by decide) rfl ?_
          refine r_goto 18 C dL_law_932 (by decide) ?_
          refine r_iload_n 0 C dL_law_18 rfl ?_
          refine r_aload_n 3 C dL_law_19 rfl ?_
          refine r_slen C hX hbl hbz dL_law_20 ?_
          rw [← hn0]
          refine r_iconst (v := 5) C dL_law_21 (by decide) ?_
          refine r_isub C dL_law_22 (fun v217 e218 => ?_)
          have v217' := isub_ok e218 (by omega) (by omega)
          refine r_icmp_gt 935 C dL_law_23 (by decide) (fun c219 => ?_) (fun c219 => ?_)
          · have c219' := i_lt c219
            refine r_iconst (v := 1) C dL_law_935 (by decide) ?_
            exact hret _ _ _ _ _ dL_law_936 (by decide) (by decide)
          · have c219' := i_nlt c219
            exfalso; omega
        · have c214' := i_ne c214
          exfalso; omega
      · refine r_tabIn 260 C dL_law_32 (by omega) (by omega) (by rw [c106]; rfl) (by decide) ?_
        refine r_aload_n 2 C dL_law_260 rfl ?_
        refine r_aload_n 3 C dL_law_261 rfl ?_
        refine r_iload_n 0 C dL_law_262 rfl ?_
        refine r_iconst (v := 1) C dL_law_263 (by decide) ?_
        refine r_iadd C dL_law_264 (fun v220 e221 => ?_)
        have v220' := iadd_ok e221 (by omega) (by omega)
        refine r_sldj 1 C hX hbl hbz (by omega) (by omega) dL_law_265 ?_
        refine r_aload_n 3 C dL_law_266 rfl ?_
        refine r_iload_n 0 C dL_law_267 rfl ?_
        refine r_iconst (v := 2) C dL_law_268 (by decide) ?_
        refine r_iadd C dL_law_269 (fun v222 e223 => ?_)
        have v222' := iadd_ok e223 (by omega) (by omega)
        refine r_sldj 2 C hX hbl hbz (by omega) (by omega) dL_law_270 ?_
        refine callVI C cwL_34_V (ctX10_cell_0 _ _ w3 (sS sC h0) g5 g6 (xf 1) (xf 2) ) (by decide) (kS sC h0 kc_0) rfl rfl rfl (Nat.le_of_ble_eq_true rfl) (by decide) dL_law_271 (fun r226 w225 y224 => ?_)
        show V x 145 11604 w225 274 [(3, .int 0), (2, .ref (gz (xG x) + 114)), (1, .ref (gz (xG x) + 0)), (0, .ref b)] [.int r226]
        obtain ⟨h227, g228⟩ := y224
        have h229 := Ch.tr h0 h227 (by decide)
        refine r_aload_n 1 C dL_law_274 rfl ?_
        refine r_aload_n 3 C dL_law_275 rfl ?_
        refine r_iload_n 0 C dL_law_276 rfl ?_
        refine r_iconst (v := 1) C dL_law_277 (by decide) ?_
        refine r_iadd C dL_law_278 (fun v230 e231 => ?_)
        have v230' := iadd_ok e231 (by omega) (by omega)
        refine r_sldj 1 C hX hbl hbz (by omega) (by omega) dL_law_279 ?_
        refine r_aload_n 3 C dL_law_280 rfl ?_
        refine r_iload_n 0 C dL_law_281 rfl ?_
        refine r_iconst (v := 2) C dL_law_282 (by decide) ?_
        refine r_iadd C dL_law_283 (fun v232 e233 => ?_)
        have v232' := iadd_ok e233 (by omega) (by omega)
        refine r_sldj 2 C hX hbl hbz (by omega) (by omega) dL_law_284 ?_
        refine callVI C cwL_38_V (ctX11_cell_114 _ _ w225 (sS sM h229) (h227.I (by decide) g15) (h227.I (by decide) g16) (xf 1) (xf 2) ) (by decide) (kS sM h229 kc_114) rfl rfl rfl (Nat.le_of_ble_eq_true rfl) (by decide) dL_law_285 (fun r236 w235 y234 => ?_)
        show V x 145 11604 w235 288 [(3, .int 0), (2, .ref (gz (xG x) + 114)), (1, .ref (gz (xG x) + 0)), (0, .ref b)] [.int r236, .int r226]
        obtain ⟨h237, g238⟩ := y234
        have h239 := Ch.tr h229 h237 (by decide)
        refine r_icmp_eq 929 C dL_law_288 (by decide) (fun c240 => ?_) (fun c240 => ?_)
        · have c240' := i_eq c240
          obtain ⟨i241, e242⟩ : ∃ z : Int32, 0 + Int32.ofInt 5 = z := ⟨_, rfl⟩
          have i241' := iinc_ok e242 (by decide) (by omega) (by omega)
          obtain rfl : i241 = 5 := i_of (by omega)
          refine r_iinc [(3, .int 5), (2, .ref (gz (xG x) + 114)), (1, .ref (gz (xG x) + 0)), (0, .ref b)] 0 C dL_law_929 rfl e242 (by decide) rfl ?_
          refine r_goto 18 C dL_law_932 (by decide) ?_
          refine r_iload_n 0 C dL_law_18 rfl ?_
          refine r_aload_n 3 C dL_law_19 rfl ?_
          refine r_slen C hX hbl hbz dL_law_20 ?_
          rw [← hn0]
          refine r_iconst (v := 5) C dL_law_21 (by decide) ?_
          refine r_isub C dL_law_22 (fun v243 e244 => ?_)
          have v243' := isub_ok e244 (by omega) (by omega)
          refine r_icmp_gt 935 C dL_law_23 (by decide) (fun c245 => ?_) (fun c245 => ?_)
          · have c245' := i_lt c245
            refine r_iconst (v := 1) C dL_law_935 (by decide) ?_
            exact hret _ _ _ _ _ dL_law_936 (by decide) (by decide)
          · have c245' := i_nlt c245
            exfalso; omega
        · have c240' := i_ne c240
          exfalso; omega
      · refine r_tabIn 293 C dL_law_32 (by omega) (by omega) (by rw [c106]; rfl) (by decide) ?_
        refine r_aload_n 2 C dL_law_293 rfl ?_
        refine r_aload_n 3 C dL_law_294 rfl ?_
        refine r_iload_n 0 C dL_law_295 rfl ?_
        refine r_iconst (v := 1) C dL_law_296 (by decide) ?_
        refine r_iadd C dL_law_297 (fun v246 e247 => ?_)
        have v246' := iadd_ok e247 (by omega) (by omega)
        refine r_sldj 1 C hX hbl hbz (by omega) (by omega) dL_law_298 ?_
        refine r_aload_n 3 C dL_law_299 rfl ?_
        refine r_iload_n 0 C dL_law_300 rfl ?_
        refine r_iconst (v := 2) C dL_law_301 (by decide) ?_
        refine r_iadd C dL_law_302 (fun v248 e249 => ?_)
        have v248' := iadd_ok e249 (by omega) (by omega)
        refine r_sldj 2 C hX hbl hbz (by omega) (by omega) dL_law_303 ?_
        refine callVI C cwL_39_V (ctX10_crowd_0 _ _ w3 (sS sC h0) g0 (xf 1) (xf 2) ) (by decide) (kS sC h0 kc_0) rfl rfl rfl (Nat.le_of_ble_eq_true rfl) (by decide) dL_law_304 (fun r252 w251 y250 => ?_)
        show V x 145 11604 w251 307 [(3, .int 0), (2, .ref (gz (xG x) + 114)), (1, .ref (gz (xG x) + 0)), (0, .ref b)] [.int r252]
        obtain ⟨h253, g254⟩ := y250
        have h255 := Ch.tr h0 h253 (by decide)
        refine r_aload_n 1 C dL_law_307 rfl ?_
        refine r_aload_n 3 C dL_law_308 rfl ?_
        refine r_iload_n 0 C dL_law_309 rfl ?_
        refine r_iconst (v := 1) C dL_law_310 (by decide) ?_
        refine r_iadd C dL_law_311 (fun v256 e257 => ?_)
        have v256' := iadd_ok e257 (by omega) (by omega)
        refine r_sldj 1 C hX hbl hbz (by omega) (by omega) dL_law_312 ?_
        refine r_aload_n 3 C dL_law_313 rfl ?_
        refine r_iload_n 0 C dL_law_314 rfl ?_
        refine r_iconst (v := 2) C dL_law_315 (by decide) ?_
        refine r_iadd C dL_law_316 (fun v258 e259 => ?_)
        have v258' := iadd_ok e259 (by omega) (by omega)
        refine r_sldj 2 C hX hbl hbz (by omega) (by omega) dL_law_317 ?_
        refine callVI C cwL_42_V (ctX11_crowd_114 _ _ w251 (sS sM h255) (h253.I (by decide) g17) (xf 1) (xf 2) ) (by decide) (kS sM h255 kc_114) rfl rfl rfl (Nat.le_of_ble_eq_true rfl) (by decide) dL_law_318 (fun r262 w261 y260 => ?_)
        show V x 145 11604 w261 321 [(3, .int 0), (2, .ref (gz (xG x) + 114)), (1, .ref (gz (xG x) + 0)), (0, .ref b)] [.int r262, .int r252]
        obtain ⟨h263, g264⟩ := y260
        have h265 := Ch.tr h255 h263 (by decide)
        refine r_icmp_eq 929 C dL_law_321 (by decide) (fun c266 => ?_) (fun c266 => ?_)
        · have c266' := i_eq c266
          obtain ⟨i267, e268⟩ : ∃ z : Int32, 0 + Int32.ofInt 5 = z := ⟨_, rfl⟩
          have i267' := iinc_ok e268 (by decide) (by omega) (by omega)
          obtain rfl : i267 = 5 := i_of (by omega)
          refine r_iinc [(3, .int 5), (2, .ref (gz (xG x) + 114)), (1, .ref (gz (xG x) + 0)), (0, .ref b)] 0 C dL_law_929 rfl e268 (by decide) rfl ?_
          refine r_goto 18 C dL_law_932 (by decide) ?_
          refine r_iload_n 0 C dL_law_18 rfl ?_
          refine r_aload_n 3 C dL_law_19 rfl ?_
          refine r_slen C hX hbl hbz dL_law_20 ?_
          rw [← hn0]
          refine r_iconst (v := 5) C dL_law_21 (by decide) ?_
          refine r_isub C dL_law_22 (fun v269 e270 => ?_)
          have v269' := isub_ok e270 (by omega) (by omega)
          refine r_icmp_gt 935 C dL_law_23 (by decide) (fun c271 => ?_) (fun c271 => ?_)
          · have c271' := i_lt c271
            refine r_iconst (v := 1) C dL_law_935 (by decide) ?_
            exact hret _ _ _ _ _ dL_law_936 (by decide) (by decide)
          · have c271' := i_nlt c271
            exfalso; omega
        · have c266' := i_ne c266
          exfalso; omega
      · refine r_tabIn 326 C dL_law_32 (by omega) (by omega) (by rw [c106]; rfl) (by decide) ?_
        refine r_aload_n 2 C dL_law_326 rfl ?_
        refine r_aload_n 3 C dL_law_327 rfl ?_
        refine r_iload_n 0 C dL_law_328 rfl ?_
        refine r_iconst (v := 1) C dL_law_329 (by decide) ?_
        refine r_iadd C dL_law_330 (fun v272 e273 => ?_)
        have v272' := iadd_ok e273 (by omega) (by omega)
        refine r_sldj 1 C hX hbl hbz (by omega) (by omega) dL_law_331 ?_
        refine r_aload_n 3 C dL_law_332 rfl ?_
        refine r_iload_n 0 C dL_law_333 rfl ?_
        refine r_iconst (v := 2) C dL_law_334 (by decide) ?_
        refine r_iadd C dL_law_335 (fun v274 e275 => ?_)
        have v274' := iadd_ok e275 (by omega) (by omega)
        refine r_sldj 2 C hX hbl hbz (by omega) (by omega) dL_law_336 ?_
        refine callVI C cwL_43_V (ctX10_tune_0 _ _ w3 (sS sC h0) g1 (xf 1) (xf 2) ) (by decide) (kS sC h0 kc_0) rfl rfl rfl (Nat.le_of_ble_eq_true rfl) (by decide) dL_law_337 (fun r278 w277 y276 => ?_)
        show V x 145 11604 w277 340 [(3, .int 0), (2, .ref (gz (xG x) + 114)), (1, .ref (gz (xG x) + 0)), (0, .ref b)] [.int r278]
        obtain ⟨h279, g280⟩ := y276
        have h281 := Ch.tr h0 h279 (by decide)
        refine r_aload_n 1 C dL_law_340 rfl ?_
        refine r_aload_n 3 C dL_law_341 rfl ?_
        refine r_iload_n 0 C dL_law_342 rfl ?_
        refine r_iconst (v := 1) C dL_law_343 (by decide) ?_
        refine r_iadd C dL_law_344 (fun v282 e283 => ?_)
        have v282' := iadd_ok e283 (by omega) (by omega)
        refine r_sldj 1 C hX hbl hbz (by omega) (by omega) dL_law_345 ?_
        refine r_aload_n 3 C dL_law_346 rfl ?_
        refine r_iload_n 0 C dL_law_347 rfl ?_
        refine r_iconst (v := 2) C dL_law_348 (by decide) ?_
        refine r_iadd C dL_law_349 (fun v284 e285 => ?_)
        have v284' := iadd_ok e285 (by omega) (by omega)
        refine r_sldj 2 C hX hbl hbz (by omega) (by omega) dL_law_350 ?_
        refine callVI C cwL_46_V (ctX11_tune_114 _ _ w277 (sS sM h281) (h279.I (by decide) g18) (xf 1) (xf 2) ) (by decide) (kS sM h281 kc_114) rfl rfl rfl (Nat.le_of_ble_eq_true rfl) (by decide) dL_law_351 (fun r288 w287 y286 => ?_)
        show V x 145 11604 w287 354 [(3, .int 0), (2, .ref (gz (xG x) + 114)), (1, .ref (gz (xG x) + 0)), (0, .ref b)] [.int r288, .int r278]
        obtain ⟨h289, g290⟩ := y286
        have h291 := Ch.tr h281 h289 (by decide)
        refine r_icmp_eq 929 C dL_law_354 (by decide) (fun c292 => ?_) (fun c292 => ?_)
        · have c292' := i_eq c292
          obtain ⟨i293, e294⟩ : ∃ z : Int32, 0 + Int32.ofInt 5 = z := ⟨_, rfl⟩
          have i293' := iinc_ok e294 (by decide) (by omega) (by omega)
          obtain rfl : i293 = 5 := i_of (by omega)
          refine r_iinc [(3, .int 5), (2, .ref (gz (xG x) + 114)), (1, .ref (gz (xG x) + 0)), (0, .ref b)] 0 C dL_law_929 rfl e294 (by decide) rfl ?_
          refine r_goto 18 C dL_law_932 (by decide) ?_
          refine r_iload_n 0 C dL_law_18 rfl ?_
          refine r_aload_n 3 C dL_law_19 rfl ?_
          refine r_slen C hX hbl hbz dL_law_20 ?_
          rw [← hn0]
          refine r_iconst (v := 5) C dL_law_21 (by decide) ?_
          refine r_isub C dL_law_22 (fun v295 e296 => ?_)
          have v295' := isub_ok e296 (by omega) (by omega)
          refine r_icmp_gt 935 C dL_law_23 (by decide) (fun c297 => ?_) (fun c297 => ?_)
          · have c297' := i_lt c297
            refine r_iconst (v := 1) C dL_law_935 (by decide) ?_
            exact hret _ _ _ _ _ dL_law_936 (by decide) (by decide)
          · have c297' := i_nlt c297
            exfalso; omega
        · have c292' := i_ne c292
          exfalso; omega
      · refine r_tabIn 359 C dL_law_32 (by omega) (by omega) (by rw [c106]; rfl) (by decide) ?_
        refine r_aload_n 2 C dL_law_359 rfl ?_
        refine r_aload_n 3 C dL_law_360 rfl ?_
        refine r_iload_n 0 C dL_law_361 rfl ?_
        refine r_iconst (v := 1) C dL_law_362 (by decide) ?_
        refine r_iadd C dL_law_363 (fun v298 e299 => ?_)
        have v298' := iadd_ok e299 (by omega) (by omega)
        refine r_sldj 1 C hX hbl hbz (by omega) (by omega) dL_law_364 ?_
        refine r_aload_n 3 C dL_law_365 rfl ?_
        refine r_iload_n 0 C dL_law_366 rfl ?_
        refine r_iconst (v := 2) C dL_law_367 (by decide) ?_
        refine r_iadd C dL_law_368 (fun v300 e301 => ?_)
        have v300' := iadd_ok e301 (by omega) (by omega)
        refine r_sldj 2 C hX hbl hbz (by omega) (by omega) dL_law_369 ?_
        refine r_aload_n 3 C dL_law_370 rfl ?_
        refine r_iload_n 0 C dL_law_371 rfl ?_
        refine r_iconst (v := 3) C dL_law_372 (by decide) ?_
        refine r_iadd C dL_law_373 (fun v302 e303 => ?_)
        have v302' := iadd_ok e303 (by omega) (by omega)
        refine r_sldj 3 C hX hbl hbz (by omega) (by omega) dL_law_374 ?_
        refine r_aload_n 3 C dL_law_375 rfl ?_
        refine r_iload_n 0 C dL_law_376 rfl ?_
        refine r_iconst (v := 4) C dL_law_377 (by decide) ?_
        refine r_iadd C dL_law_378 (fun v304 e305 => ?_)
        have v304' := iadd_ok e305 (by omega) (by omega)
        refine r_sldj 4 C hX hbl hbz (by omega) (by omega) dL_law_379 ?_
        refine callVI C cwL_47_V (ctX10_far_0 _ _ w3 (sS sC h0) g5 g6 (xf 1) (xf 2) (xf 3) (xf 4) ) (by decide) (kS sC h0 kc_0) rfl rfl rfl (Nat.le_of_ble_eq_true rfl) (by decide) dL_law_380 (fun r308 w307 y306 => ?_)
        show V x 145 11604 w307 383 [(3, .int 0), (2, .ref (gz (xG x) + 114)), (1, .ref (gz (xG x) + 0)), (0, .ref b)] [.int r308]
        obtain ⟨h309, g310⟩ := y306
        have h311 := Ch.tr h0 h309 (by decide)
        refine r_aload_n 1 C dL_law_383 rfl ?_
        refine r_aload_n 3 C dL_law_384 rfl ?_
        refine r_iload_n 0 C dL_law_385 rfl ?_
        refine r_iconst (v := 1) C dL_law_386 (by decide) ?_
        refine r_iadd C dL_law_387 (fun v312 e313 => ?_)
        have v312' := iadd_ok e313 (by omega) (by omega)
        refine r_sldj 1 C hX hbl hbz (by omega) (by omega) dL_law_388 ?_
        refine r_aload_n 3 C dL_law_389 rfl ?_
        refine r_iload_n 0 C dL_law_390 rfl ?_
        refine r_iconst (v := 2) C dL_law_391 (by decide) ?_
        refine r_iadd C dL_law_392 (fun v314 e315 => ?_)
        have v314' := iadd_ok e315 (by omega) (by omega)
        refine r_sldj 2 C hX hbl hbz (by omega) (by omega) dL_law_393 ?_
        refine r_aload_n 3 C dL_law_394 rfl ?_
        refine r_iload_n 0 C dL_law_395 rfl ?_
        refine r_iconst (v := 3) C dL_law_396 (by decide) ?_
        refine r_iadd C dL_law_397 (fun v316 e317 => ?_)
        have v316' := iadd_ok e317 (by omega) (by omega)
        refine r_sldj 3 C hX hbl hbz (by omega) (by omega) dL_law_398 ?_
        refine r_aload_n 3 C dL_law_399 rfl ?_
        refine r_iload_n 0 C dL_law_400 rfl ?_
        refine r_iconst (v := 4) C dL_law_401 (by decide) ?_
        refine r_iadd C dL_law_402 (fun v318 e319 => ?_)
        have v318' := iadd_ok e319 (by omega) (by omega)
        refine r_sldj 4 C hX hbl hbz (by omega) (by omega) dL_law_403 ?_
        refine callVI C cwL_51_V (ctX11_far_114 _ _ w307 (sS sM h311) (h309.I (by decide) g15) (h309.I (by decide) g16) (xf 1) (xf 2) (xf 3) (xf 4) ) (by decide) (kS sM h311 kc_114) rfl rfl rfl (Nat.le_of_ble_eq_true rfl) (by decide) dL_law_404 (fun r322 w321 y320 => ?_)
        show V x 145 11604 w321 407 [(3, .int 0), (2, .ref (gz (xG x) + 114)), (1, .ref (gz (xG x) + 0)), (0, .ref b)] [.int r322, .int r308]
        obtain ⟨h323, g324⟩ := y320
        have h325 := Ch.tr h311 h323 (by decide)
        refine r_icmp_eq 929 C dL_law_407 (by decide) (fun c326 => ?_) (fun c326 => ?_)
        · have c326' := i_eq c326
          obtain ⟨i327, e328⟩ : ∃ z : Int32, 0 + Int32.ofInt 5 = z := ⟨_, rfl⟩
          have i327' := iinc_ok e328 (by decide) (by omega) (by omega)
          obtain rfl : i327 = 5 := i_of (by omega)
          refine r_iinc [(3, .int 5), (2, .ref (gz (xG x) + 114)), (1, .ref (gz (xG x) + 0)), (0, .ref b)] 0 C dL_law_929 rfl e328 (by decide) rfl ?_
          refine r_goto 18 C dL_law_932 (by decide) ?_
          refine r_iload_n 0 C dL_law_18 rfl ?_
          refine r_aload_n 3 C dL_law_19 rfl ?_
          refine r_slen C hX hbl hbz dL_law_20 ?_
          rw [← hn0]
          refine r_iconst (v := 5) C dL_law_21 (by decide) ?_
          refine r_isub C dL_law_22 (fun v329 e330 => ?_)
          have v329' := isub_ok e330 (by omega) (by omega)
          refine r_icmp_gt 935 C dL_law_23 (by decide) (fun c331 => ?_) (fun c331 => ?_)
          · have c331' := i_lt c331
            refine r_iconst (v := 1) C dL_law_935 (by decide) ?_
            exact hret _ _ _ _ _ dL_law_936 (by decide) (by decide)
          · have c331' := i_nlt c331
            exfalso; omega
        · have c326' := i_ne c326
          exfalso; omega
      · refine r_tabIn 412 C dL_law_32 (by omega) (by omega) (by rw [c106]; rfl) (by decide) ?_
        refine r_aload_n 2 C dL_law_412 rfl ?_
        refine r_aload_n 3 C dL_law_413 rfl ?_
        refine r_iload_n 0 C dL_law_414 rfl ?_
        refine r_iconst (v := 1) C dL_law_415 (by decide) ?_
        refine r_iadd C dL_law_416 (fun v332 e333 => ?_)
        have v332' := iadd_ok e333 (by omega) (by omega)
        refine r_sldj 1 C hX hbl hbz (by omega) (by omega) dL_law_417 ?_
        refine r_aload_n 3 C dL_law_418 rfl ?_
        refine r_iload_n 0 C dL_law_419 rfl ?_
        refine r_iconst (v := 2) C dL_law_420 (by decide) ?_
        refine r_iadd C dL_law_421 (fun v334 e335 => ?_)
        have v334' := iadd_ok e335 (by omega) (by omega)
        refine r_sldj 2 C hX hbl hbz (by omega) (by omega) dL_law_422 ?_
        refine callVI C cwL_52_V (ctX10_minute_0 _ _ w3 (sS sC h0) g1 g4 (xf 1) (xf 2) ) (by decide) (kS sC h0 kc_0) rfl rfl rfl (Nat.le_of_ble_eq_true rfl) (by decide) dL_law_423 (fun r338 w337 y336 => ?_)
        show V x 145 11604 w337 426 [(3, .int 0), (2, .ref (gz (xG x) + 114)), (1, .ref (gz (xG x) + 0)), (0, .ref b)] [.int r338]
        obtain ⟨h339, g340⟩ := y336
        have h341 := Ch.tr h0 h339 (by decide)
        refine r_aload_n 1 C dL_law_426 rfl ?_
        refine r_aload_n 3 C dL_law_427 rfl ?_
        refine r_iload_n 0 C dL_law_428 rfl ?_
        refine r_iconst (v := 1) C dL_law_429 (by decide) ?_
        refine r_iadd C dL_law_430 (fun v342 e343 => ?_)
        have v342' := iadd_ok e343 (by omega) (by omega)
        refine r_sldj 1 C hX hbl hbz (by omega) (by omega) dL_law_431 ?_
        refine r_aload_n 3 C dL_law_432 rfl ?_
        refine r_iload_n 0 C dL_law_433 rfl ?_
        refine r_iconst (v := 2) C dL_law_434 (by decide) ?_
        refine r_iadd C dL_law_435 (fun v344 e345 => ?_)
        have v344' := iadd_ok e345 (by omega) (by omega)
        refine r_sldj 2 C hX hbl hbz (by omega) (by omega) dL_law_436 ?_
        refine callVI C cwL_55_V (ctX11_minute_114 _ _ w337 (sS sM h341) (h339.I (by decide) g18) (h339.I (by decide) g15) (xf 1) (xf 2) ) (by decide) (kS sM h341 kc_114) rfl rfl rfl (Nat.le_of_ble_eq_true rfl) (by decide) dL_law_437 (fun r348 w347 y346 => ?_)
        show V x 145 11604 w347 440 [(3, .int 0), (2, .ref (gz (xG x) + 114)), (1, .ref (gz (xG x) + 0)), (0, .ref b)] [.int r348, .int r338]
        obtain ⟨h349, g350⟩ := y346
        have h351 := Ch.tr h341 h349 (by decide)
        refine r_icmp_eq 929 C dL_law_440 (by decide) (fun c352 => ?_) (fun c352 => ?_)
        · have c352' := i_eq c352
          obtain ⟨i353, e354⟩ : ∃ z : Int32, 0 + Int32.ofInt 5 = z := ⟨_, rfl⟩
          have i353' := iinc_ok e354 (by decide) (by omega) (by omega)
          obtain rfl : i353 = 5 := i_of (by omega)
          refine r_iinc [(3, .int 5), (2, .ref (gz (xG x) + 114)), (1, .ref (gz (xG x) + 0)), (0, .ref b)] 0 C dL_law_929 rfl e354 (by decide) rfl ?_
          refine r_goto 18 C dL_law_932 (by decide) ?_
          refine r_iload_n 0 C dL_law_18 rfl ?_
          refine r_aload_n 3 C dL_law_19 rfl ?_
          refine r_slen C hX hbl hbz dL_law_20 ?_
          rw [← hn0]
          refine r_iconst (v := 5) C dL_law_21 (by decide) ?_
          refine r_isub C dL_law_22 (fun v355 e356 => ?_)
          have v355' := isub_ok e356 (by omega) (by omega)
          refine r_icmp_gt 935 C dL_law_23 (by decide) (fun c357 => ?_) (fun c357 => ?_)
          · have c357' := i_lt c357
            refine r_iconst (v := 1) C dL_law_935 (by decide) ?_
            exact hret _ _ _ _ _ dL_law_936 (by decide) (by decide)
          · have c357' := i_nlt c357
            exfalso; omega
        · have c352' := i_ne c352
          exfalso; omega
      · refine r_tabIn 445 C dL_law_32 (by omega) (by omega) (by rw [c106]; rfl) (by decide) ?_
        refine r_aload_n 2 C dL_law_445 rfl ?_
        refine r_aload_n 3 C dL_law_446 rfl ?_
        refine r_iload_n 0 C dL_law_447 rfl ?_
        refine r_iconst (v := 1) C dL_law_448 (by decide) ?_
        refine r_iadd C dL_law_449 (fun v358 e359 => ?_)
        have v358' := iadd_ok e359 (by omega) (by omega)
        refine r_sldj 1 C hX hbl hbz (by omega) (by omega) dL_law_450 ?_
        refine r_aload_n 3 C dL_law_451 rfl ?_
        refine r_iload_n 0 C dL_law_452 rfl ?_
        refine r_iconst (v := 2) C dL_law_453 (by decide) ?_
        refine r_iadd C dL_law_454 (fun v360 e361 => ?_)
        have v360' := iadd_ok e361 (by omega) (by omega)
        refine r_sldj 2 C hX hbl hbz (by omega) (by omega) dL_law_455 ?_
        refine r_aload_n 3 C dL_law_456 rfl ?_
        refine r_iload_n 0 C dL_law_457 rfl ?_
        refine r_iconst (v := 3) C dL_law_458 (by decide) ?_
        refine r_iadd C dL_law_459 (fun v362 e363 => ?_)
        have v362' := iadd_ok e363 (by omega) (by omega)
        refine r_sldj 3 C hX hbl hbz (by omega) (by omega) dL_law_460 ?_
        refine r_if_eq 468 C dL_law_461 (by decide) (fun c364 => ?_) (fun c364 => ?_)
        · have c364' := i_eq c364
          refine r_iconst (v := 0) C dL_law_468 (by decide) ?_
          refine callVI C cwL_56_V (ctX10_wall_0 _ _ w3 (sS sC h0) g5 g6 (xf 1) (xf 2) 0 ) (by decide) (kS sC h0 kc_0) rfl rfl rfl (Nat.le_of_ble_eq_true rfl) (by decide) dL_law_469 (fun r367 w366 y365 => ?_)
          show V x 145 11604 w366 472 [(3, .int 0), (2, .ref (gz (xG x) + 114)), (1, .ref (gz (xG x) + 0)), (0, .ref b)] [.int r367]
          obtain ⟨h368, g369⟩ := y365
          have h370 := Ch.tr h0 h368 (by decide)
          refine r_aload_n 1 C dL_law_472 rfl ?_
          refine r_aload_n 3 C dL_law_473 rfl ?_
          refine r_iload_n 0 C dL_law_474 rfl ?_
          refine r_iconst (v := 1) C dL_law_475 (by decide) ?_
          refine r_iadd C dL_law_476 (fun v371 e372 => ?_)
          have v371' := iadd_ok e372 (by omega) (by omega)
          refine r_sldj 1 C hX hbl hbz (by omega) (by omega) dL_law_477 ?_
          refine r_aload_n 3 C dL_law_478 rfl ?_
          refine r_iload_n 0 C dL_law_479 rfl ?_
          refine r_iconst (v := 2) C dL_law_480 (by decide) ?_
          refine r_iadd C dL_law_481 (fun v373 e374 => ?_)
          have v373' := iadd_ok e374 (by omega) (by omega)
          refine r_sldj 2 C hX hbl hbz (by omega) (by omega) dL_law_482 ?_
          refine r_aload_n 3 C dL_law_483 rfl ?_
          refine r_iload_n 0 C dL_law_484 rfl ?_
          refine r_iconst (v := 3) C dL_law_485 (by decide) ?_
          refine r_iadd C dL_law_486 (fun v375 e376 => ?_)
          have v375' := iadd_ok e376 (by omega) (by omega)
          refine r_sldj 3 C hX hbl hbz (by omega) (by omega) dL_law_487 ?_
          refine r_if_eq 495 C dL_law_488 (by decide) (fun c377 => ?_) (fun c377 => ?_)
          · have c377' := i_eq c377
            refine r_iconst (v := 0) C dL_law_495 (by decide) ?_
            refine callVI C cwL_60_V (ctX11_wall_114 _ _ w366 (sS sM h370) (h368.I (by decide) g15) (h368.I (by decide) g16) (xf 1) (xf 2) 0 ) (by decide) (kS sM h370 kc_114) rfl rfl rfl (Nat.le_of_ble_eq_true rfl) (by decide) dL_law_496 (fun r380 w379 y378 => ?_)
            show V x 145 11604 w379 499 [(3, .int 0), (2, .ref (gz (xG x) + 114)), (1, .ref (gz (xG x) + 0)), (0, .ref b)] [.int r380, .int r367]
            obtain ⟨h381, g382⟩ := y378
            have h383 := Ch.tr h370 h381 (by decide)
            refine r_icmp_eq 929 C dL_law_499 (by decide) (fun c384 => ?_) (fun c384 => ?_)
            · have c384' := i_eq c384
              obtain ⟨i385, e386⟩ : ∃ z : Int32, 0 + Int32.ofInt 5 = z := ⟨_, rfl⟩
              have i385' := iinc_ok e386 (by decide) (by omega) (by omega)
              obtain rfl : i385 = 5 := i_of (by omega)
              refine r_iinc [(3, .int 5), (2, .ref (gz (xG x) + 114)), (1, .ref (gz (xG x) + 0)), (0, .ref b)] 0 C dL_law_929 rfl e386 (by decide) rfl ?_
              refine r_goto 18 C dL_law_932 (by decide) ?_
              refine r_iload_n 0 C dL_law_18 rfl ?_
              refine r_aload_n 3 C dL_law_19 rfl ?_
              refine r_slen C hX hbl hbz dL_law_20 ?_
              rw [← hn0]
              refine r_iconst (v := 5) C dL_law_21 (by decide) ?_
              refine r_isub C dL_law_22 (fun v387 e388 => ?_)
              have v387' := isub_ok e388 (by omega) (by omega)
              refine r_icmp_gt 935 C dL_law_23 (by decide) (fun c389 => ?_) (fun c389 => ?_)
              · have c389' := i_lt c389
                refine r_iconst (v := 1) C dL_law_935 (by decide) ?_
                exact hret _ _ _ _ _ dL_law_936 (by decide) (by decide)
              · have c389' := i_nlt c389
                exfalso; omega
            · have c384' := i_ne c384
              exfalso; omega
          · have c377' := i_ne c377
            refine r_iconst (v := 1) C dL_law_491 (by decide) ?_
            refine r_goto 496 C dL_law_492 (by decide) ?_
            refine callVI C cwL_60_V (ctX11_wall_114 _ _ w366 (sS sM h370) (h368.I (by decide) g15) (h368.I (by decide) g16) (xf 1) (xf 2) 1 ) (by decide) (kS sM h370 kc_114) rfl rfl rfl (Nat.le_of_ble_eq_true rfl) (by decide) dL_law_496 (fun r392 w391 y390 => ?_)
            show V x 145 11604 w391 499 [(3, .int 0), (2, .ref (gz (xG x) + 114)), (1, .ref (gz (xG x) + 0)), (0, .ref b)] [.int r392, .int r367]
            obtain ⟨h393, g394⟩ := y390
            have h395 := Ch.tr h370 h393 (by decide)
            refine r_icmp_eq 929 C dL_law_499 (by decide) (fun c396 => ?_) (fun c396 => ?_)
            · have c396' := i_eq c396
              obtain ⟨i397, e398⟩ : ∃ z : Int32, 0 + Int32.ofInt 5 = z := ⟨_, rfl⟩
              have i397' := iinc_ok e398 (by decide) (by omega) (by omega)
              obtain rfl : i397 = 5 := i_of (by omega)
              refine r_iinc [(3, .int 5), (2, .ref (gz (xG x) + 114)), (1, .ref (gz (xG x) + 0)), (0, .ref b)] 0 C dL_law_929 rfl e398 (by decide) rfl ?_
              refine r_goto 18 C dL_law_932 (by decide) ?_
              refine r_iload_n 0 C dL_law_18 rfl ?_
              refine r_aload_n 3 C dL_law_19 rfl ?_
              refine r_slen C hX hbl hbz dL_law_20 ?_
              rw [← hn0]
              refine r_iconst (v := 5) C dL_law_21 (by decide) ?_
              refine r_isub C dL_law_22 (fun v399 e400 => ?_)
              have v399' := isub_ok e400 (by omega) (by omega)
              refine r_icmp_gt 935 C dL_law_23 (by decide) (fun c401 => ?_) (fun c401 => ?_)
              · have c401' := i_lt c401
                refine r_iconst (v := 1) C dL_law_935 (by decide) ?_
                exact hret _ _ _ _ _ dL_law_936 (by decide) (by decide)
              · have c401' := i_nlt c401
                exfalso; omega
            · have c396' := i_ne c396
              exfalso; omega
        · have c364' := i_ne c364
          refine r_iconst (v := 1) C dL_law_464 (by decide) ?_
          refine r_goto 469 C dL_law_465 (by decide) ?_
          refine callVI C cwL_56_V (ctX10_wall_0 _ _ w3 (sS sC h0) g5 g6 (xf 1) (xf 2) 1 ) (by decide) (kS sC h0 kc_0) rfl rfl rfl (Nat.le_of_ble_eq_true rfl) (by decide) dL_law_469 (fun r404 w403 y402 => ?_)
          show V x 145 11604 w403 472 [(3, .int 0), (2, .ref (gz (xG x) + 114)), (1, .ref (gz (xG x) + 0)), (0, .ref b)] [.int r404]
          obtain ⟨h405, g406⟩ := y402
          have h407 := Ch.tr h0 h405 (by decide)
          refine r_aload_n 1 C dL_law_472 rfl ?_
          refine r_aload_n 3 C dL_law_473 rfl ?_
          refine r_iload_n 0 C dL_law_474 rfl ?_
          refine r_iconst (v := 1) C dL_law_475 (by decide) ?_
          refine r_iadd C dL_law_476 (fun v408 e409 => ?_)
          have v408' := iadd_ok e409 (by omega) (by omega)
          refine r_sldj 1 C hX hbl hbz (by omega) (by omega) dL_law_477 ?_
          refine r_aload_n 3 C dL_law_478 rfl ?_
          refine r_iload_n 0 C dL_law_479 rfl ?_
          refine r_iconst (v := 2) C dL_law_480 (by decide) ?_
          refine r_iadd C dL_law_481 (fun v410 e411 => ?_)
          have v410' := iadd_ok e411 (by omega) (by omega)
          refine r_sldj 2 C hX hbl hbz (by omega) (by omega) dL_law_482 ?_
          refine r_aload_n 3 C dL_law_483 rfl ?_
          refine r_iload_n 0 C dL_law_484 rfl ?_
          refine r_iconst (v := 3) C dL_law_485 (by decide) ?_
          refine r_iadd C dL_law_486 (fun v412 e413 => ?_)
          have v412' := iadd_ok e413 (by omega) (by omega)
          refine r_sldj 3 C hX hbl hbz (by omega) (by omega) dL_law_487 ?_
          refine r_if_eq 495 C dL_law_488 (by decide) (fun c414 => ?_) (fun c414 => ?_)
          · have c414' := i_eq c414
            refine r_iconst (v := 0) C dL_law_495 (by decide) ?_
            refine callVI C cwL_60_V (ctX11_wall_114 _ _ w403 (sS sM h407) (h405.I (by decide) g15) (h405.I (by decide) g16) (xf 1) (xf 2) 0 ) (by decide) (kS sM h407 kc_114) rfl rfl rfl (Nat.le_of_ble_eq_true rfl) (by decide) dL_law_496 (fun r417 w416 y415 => ?_)
            show V x 145 11604 w416 499 [(3, .int 0), (2, .ref (gz (xG x) + 114)), (1, .ref (gz (xG x) + 0)), (0, .ref b)] [.int r417, .int r404]
            obtain ⟨h418, g419⟩ := y415
            have h420 := Ch.tr h407 h418 (by decide)
            refine r_icmp_eq 929 C dL_law_499 (by decide) (fun c421 => ?_) (fun c421 => ?_)
            · have c421' := i_eq c421
              obtain ⟨i422, e423⟩ : ∃ z : Int32, 0 + Int32.ofInt 5 = z := ⟨_, rfl⟩
              have i422' := iinc_ok e423 (by decide) (by omega) (by omega)
              obtain rfl : i422 = 5 := i_of (by omega)
              refine r_iinc [(3, .int 5), (2, .ref (gz (xG x) + 114)), (1, .ref (gz (xG x) + 0)), (0, .ref b)] 0 C dL_law_929 rfl e423 (by decide) rfl ?_
              refine r_goto 18 C dL_law_932 (by decide) ?_
              refine r_iload_n 0 C dL_law_18 rfl ?_
              refine r_aload_n 3 C dL_law_19 rfl ?_
              refine r_slen C hX hbl hbz dL_law_20 ?_
              rw [← hn0]
              refine r_iconst (v := 5) C dL_law_21 (by decide) ?_
              refine r_isub C dL_law_22 (fun v424 e425 => ?_)
              have v424' := isub_ok e425 (by omega) (by omega)
              refine r_icmp_gt 935 C dL_law_23 (by decide) (fun c426 => ?_) (fun c426 => ?_)
              · have c426' := i_lt c426
                refine r_iconst (v := 1) C dL_law_935 (by decide) ?_
                exact hret _ _ _ _ _ dL_law_936 (by decide) (by decide)
              · have c426' := i_nlt c426
                exfalso; omega
            · have c421' := i_ne c421
              exfalso; omega
          · have c414' := i_ne c414
            refine r_iconst (v := 1) C dL_law_491 (by decide) ?_
            refine r_goto 496 C dL_law_492 (by decide) ?_
            refine callVI C cwL_60_V (ctX11_wall_114 _ _ w403 (sS sM h407) (h405.I (by decide) g15) (h405.I (by decide) g16) (xf 1) (xf 2) 1 ) (by decide) (kS sM h407 kc_114) rfl rfl rfl (Nat.le_of_ble_eq_true rfl) (by decide) dL_law_496 (fun r429 w428 y427 => ?_)
            show V x 145 11604 w428 499 [(3, .int 0), (2, .ref (gz (xG x) + 114)), (1, .ref (gz (xG x) + 0)), (0, .ref b)] [.int r429, .int r404]
            obtain ⟨h430, g431⟩ := y427
            have h432 := Ch.tr h407 h430 (by decide)
            refine r_icmp_eq 929 C dL_law_499 (by decide) (fun c433 => ?_) (fun c433 => ?_)
            · have c433' := i_eq c433
              obtain ⟨i434, e435⟩ : ∃ z : Int32, 0 + Int32.ofInt 5 = z := ⟨_, rfl⟩
              have i434' := iinc_ok e435 (by decide) (by omega) (by omega)
              obtain rfl : i434 = 5 := i_of (by omega)
              refine r_iinc [(3, .int 5), (2, .ref (gz (xG x) + 114)), (1, .ref (gz (xG x) + 0)), (0, .ref b)] 0 C dL_law_929 rfl e435 (by decide) rfl ?_
              refine r_goto 18 C dL_law_932 (by decide) ?_
              refine r_iload_n 0 C dL_law_18 rfl ?_
              refine r_aload_n 3 C dL_law_19 rfl ?_
              refine r_slen C hX hbl hbz dL_law_20 ?_
              rw [← hn0]
              refine r_iconst (v := 5) C dL_law_21 (by decide) ?_
              refine r_isub C dL_law_22 (fun v436 e437 => ?_)
              have v436' := isub_ok e437 (by omega) (by omega)
              refine r_icmp_gt 935 C dL_law_23 (by decide) (fun c438 => ?_) (fun c438 => ?_)
              · have c438' := i_lt c438
                refine r_iconst (v := 1) C dL_law_935 (by decide) ?_
                exact hret _ _ _ _ _ dL_law_936 (by decide) (by decide)
              · have c438' := i_nlt c438
                exfalso; omega
            · have c433' := i_ne c433
              exfalso; omega
      · refine r_tabIn 504 C dL_law_32 (by omega) (by omega) (by rw [c106]; rfl) (by decide) ?_
        refine r_aload_n 2 C dL_law_504 rfl ?_
        refine r_aload_n 3 C dL_law_505 rfl ?_
        refine r_iload_n 0 C dL_law_506 rfl ?_
        refine r_iconst (v := 1) C dL_law_507 (by decide) ?_
        refine r_iadd C dL_law_508 (fun v439 e440 => ?_)
        have v439' := iadd_ok e440 (by omega) (by omega)
        refine r_sldj 1 C hX hbl hbz (by omega) (by omega) dL_law_509 ?_
        refine callVI C cwL_61_V (ctX10_drift_0 _ _ w3 (sS sC h0) g4 (xf 1) ) (by decide) (kS sC h0 kc_0) rfl rfl rfl (Nat.le_of_ble_eq_true rfl) (by decide) dL_law_510 (fun r443 w442 y441 => ?_)
        show V x 145 11604 w442 513 [(3, .int 0), (2, .ref (gz (xG x) + 114)), (1, .ref (gz (xG x) + 0)), (0, .ref b)] [.int r443]
        obtain ⟨h444, g445⟩ := y441
        have h446 := Ch.tr h0 h444 (by decide)
        refine r_aload_n 1 C dL_law_513 rfl ?_
        refine r_aload_n 3 C dL_law_514 rfl ?_
        refine r_iload_n 0 C dL_law_515 rfl ?_
        refine r_iconst (v := 1) C dL_law_516 (by decide) ?_
        refine r_iadd C dL_law_517 (fun v447 e448 => ?_)
        have v447' := iadd_ok e448 (by omega) (by omega)
        refine r_sldj 1 C hX hbl hbz (by omega) (by omega) dL_law_518 ?_
        refine callVI C cwL_64_V (ctX11_drift_114 _ _ w442 (sS sM h446) (h444.I (by decide) g15) (xf 1) ) (by decide) (kS sM h446 kc_114) rfl rfl rfl (Nat.le_of_ble_eq_true rfl) (by decide) dL_law_519 (fun r451 w450 y449 => ?_)
        show V x 145 11604 w450 522 [(3, .int 0), (2, .ref (gz (xG x) + 114)), (1, .ref (gz (xG x) + 0)), (0, .ref b)] [.int r451, .int r443]
        obtain ⟨h452, g453⟩ := y449
        have h454 := Ch.tr h446 h452 (by decide)
        refine r_icmp_eq 929 C dL_law_522 (by decide) (fun c455 => ?_) (fun c455 => ?_)
        · have c455' := i_eq c455
          obtain ⟨i456, e457⟩ : ∃ z : Int32, 0 + Int32.ofInt 5 = z := ⟨_, rfl⟩
          have i456' := iinc_ok e457 (by decide) (by omega) (by omega)
          obtain rfl : i456 = 5 := i_of (by omega)
          refine r_iinc [(3, .int 5), (2, .ref (gz (xG x) + 114)), (1, .ref (gz (xG x) + 0)), (0, .ref b)] 0 C dL_law_929 rfl e457 (by decide) rfl ?_
          refine r_goto 18 C dL_law_932 (by decide) ?_
          refine r_iload_n 0 C dL_law_18 rfl ?_
          refine r_aload_n 3 C dL_law_19 rfl ?_
          refine r_slen C hX hbl hbz dL_law_20 ?_
          rw [← hn0]
          refine r_iconst (v := 5) C dL_law_21 (by decide) ?_
          refine r_isub C dL_law_22 (fun v458 e459 => ?_)
          have v458' := isub_ok e459 (by omega) (by omega)
          refine r_icmp_gt 935 C dL_law_23 (by decide) (fun c460 => ?_) (fun c460 => ?_)
          · have c460' := i_lt c460
            refine r_iconst (v := 1) C dL_law_935 (by decide) ?_
            exact hret _ _ _ _ _ dL_law_936 (by decide) (by decide)
          · have c460' := i_nlt c460
            exfalso; omega
        · have c455' := i_ne c455
          exfalso; omega
      · refine r_tabIn 527 C dL_law_32 (by omega) (by omega) (by rw [c106]; rfl) (by decide) ?_
        refine r_aload_n 2 C dL_law_527 rfl ?_
        refine r_aload_n 3 C dL_law_528 rfl ?_
        refine r_iload_n 0 C dL_law_529 rfl ?_
        refine r_iconst (v := 1) C dL_law_530 (by decide) ?_
        refine r_iadd C dL_law_531 (fun v461 e462 => ?_)
        have v461' := iadd_ok e462 (by omega) (by omega)
        refine r_sldj 1 C hX hbl hbz (by omega) (by omega) dL_law_532 ?_
        refine r_aload_n 3 C dL_law_533 rfl ?_
        refine r_iload_n 0 C dL_law_534 rfl ?_
        refine r_iconst (v := 2) C dL_law_535 (by decide) ?_
        refine r_iadd C dL_law_536 (fun v463 e464 => ?_)
        have v463' := iadd_ok e464 (by omega) (by omega)
        refine r_sldj 2 C hX hbl hbz (by omega) (by omega) dL_law_537 ?_
        refine callVI C cwL_65_V (ctX10_plan_0 _ _ w3 (sS sC h0) g1 g9 (xf 1) (xf 2) ) (by decide) (kS sC h0 kc_0) rfl rfl rfl (Nat.le_of_ble_eq_true rfl) (by decide) dL_law_538 (fun r467 w466 y465 => ?_)
        show V x 145 11604 w466 541 [(3, .int 0), (2, .ref (gz (xG x) + 114)), (1, .ref (gz (xG x) + 0)), (0, .ref b)] [.int r467]
        obtain ⟨h468, g469⟩ := y465
        have h470 := Ch.tr h0 h468 (by decide)
        refine r_aload_n 1 C dL_law_541 rfl ?_
        refine r_aload_n 3 C dL_law_542 rfl ?_
        refine r_iload_n 0 C dL_law_543 rfl ?_
        refine r_iconst (v := 1) C dL_law_544 (by decide) ?_
        refine r_iadd C dL_law_545 (fun v471 e472 => ?_)
        have v471' := iadd_ok e472 (by omega) (by omega)
        refine r_sldj 1 C hX hbl hbz (by omega) (by omega) dL_law_546 ?_
        refine r_aload_n 3 C dL_law_547 rfl ?_
        refine r_iload_n 0 C dL_law_548 rfl ?_
        refine r_iconst (v := 2) C dL_law_549 (by decide) ?_
        refine r_iadd C dL_law_550 (fun v473 e474 => ?_)
        have v473' := iadd_ok e474 (by omega) (by omega)
        refine r_sldj 2 C hX hbl hbz (by omega) (by omega) dL_law_551 ?_
        refine callVI C cwL_68_V (ctX11_plan_114 _ _ w466 (sS sM h470) (h468.I (by decide) g18) (h468.I (by decide) g21) (xf 1) (xf 2) ) (by decide) (kS sM h470 kc_114) rfl rfl rfl (Nat.le_of_ble_eq_true rfl) (by decide) dL_law_552 (fun r477 w476 y475 => ?_)
        show V x 145 11604 w476 555 [(3, .int 0), (2, .ref (gz (xG x) + 114)), (1, .ref (gz (xG x) + 0)), (0, .ref b)] [.int r477, .int r467]
        obtain ⟨h478, g479⟩ := y475
        have h480 := Ch.tr h470 h478 (by decide)
        refine r_icmp_eq 929 C dL_law_555 (by decide) (fun c481 => ?_) (fun c481 => ?_)
        · have c481' := i_eq c481
          obtain ⟨i482, e483⟩ : ∃ z : Int32, 0 + Int32.ofInt 5 = z := ⟨_, rfl⟩
          have i482' := iinc_ok e483 (by decide) (by omega) (by omega)
          obtain rfl : i482 = 5 := i_of (by omega)
          refine r_iinc [(3, .int 5), (2, .ref (gz (xG x) + 114)), (1, .ref (gz (xG x) + 0)), (0, .ref b)] 0 C dL_law_929 rfl e483 (by decide) rfl ?_
          refine r_goto 18 C dL_law_932 (by decide) ?_
          refine r_iload_n 0 C dL_law_18 rfl ?_
          refine r_aload_n 3 C dL_law_19 rfl ?_
          refine r_slen C hX hbl hbz dL_law_20 ?_
          rw [← hn0]
          refine r_iconst (v := 5) C dL_law_21 (by decide) ?_
          refine r_isub C dL_law_22 (fun v484 e485 => ?_)
          have v484' := isub_ok e485 (by omega) (by omega)
          refine r_icmp_gt 935 C dL_law_23 (by decide) (fun c486 => ?_) (fun c486 => ?_)
          · have c486' := i_lt c486
            refine r_iconst (v := 1) C dL_law_935 (by decide) ?_
            exact hret _ _ _ _ _ dL_law_936 (by decide) (by decide)
          · have c486' := i_nlt c486
            exfalso; omega
        · have c481' := i_ne c481
          exfalso; omega
      · refine r_tabIn 560 C dL_law_32 (by omega) (by omega) (by rw [c106]; rfl) (by decide) ?_
        refine r_aload_n 2 C dL_law_560 rfl ?_
        refine callVI C cwL_69_V (ctX10_drop_0 _ _ w3 (sS sC h0) g9  ) (by decide) (kS sC h0 kc_0) rfl rfl rfl (Nat.le_of_ble_eq_true rfl) (by decide) dL_law_561 (fun r489 w488 y487 => ?_)
        show V x 145 11604 w488 564 [(3, .int 0), (2, .ref (gz (xG x) + 114)), (1, .ref (gz (xG x) + 0)), (0, .ref b)] [.int r489]
        obtain ⟨h490, g491⟩ := y487
        have h492 := Ch.tr h0 h490 (by decide)
        refine r_aload_n 1 C dL_law_564 rfl ?_
        refine callVI C cwL_72_V (ctX11_drop_114 _ _ w488 (sS sM h492) (h490.I (by decide) g21)  ) (by decide) (kS sM h492 kc_114) rfl rfl rfl (Nat.le_of_ble_eq_true rfl) (by decide) dL_law_565 (fun r495 w494 y493 => ?_)
        show V x 145 11604 w494 568 [(3, .int 0), (2, .ref (gz (xG x) + 114)), (1, .ref (gz (xG x) + 0)), (0, .ref b)] [.int r495, .int r489]
        obtain ⟨h496, g497⟩ := y493
        have h498 := Ch.tr h492 h496 (by decide)
        refine r_icmp_eq 929 C dL_law_568 (by decide) (fun c499 => ?_) (fun c499 => ?_)
        · have c499' := i_eq c499
          obtain ⟨i500, e501⟩ : ∃ z : Int32, 0 + Int32.ofInt 5 = z := ⟨_, rfl⟩
          have i500' := iinc_ok e501 (by decide) (by omega) (by omega)
          obtain rfl : i500 = 5 := i_of (by omega)
          refine r_iinc [(3, .int 5), (2, .ref (gz (xG x) + 114)), (1, .ref (gz (xG x) + 0)), (0, .ref b)] 0 C dL_law_929 rfl e501 (by decide) rfl ?_
          refine r_goto 18 C dL_law_932 (by decide) ?_
          refine r_iload_n 0 C dL_law_18 rfl ?_
          refine r_aload_n 3 C dL_law_19 rfl ?_
          refine r_slen C hX hbl hbz dL_law_20 ?_
          rw [← hn0]
          refine r_iconst (v := 5) C dL_law_21 (by decide) ?_
          refine r_isub C dL_law_22 (fun v502 e503 => ?_)
          have v502' := isub_ok e503 (by omega) (by omega)
          refine r_icmp_gt 935 C dL_law_23 (by decide) (fun c504 => ?_) (fun c504 => ?_)
          · have c504' := i_lt c504
            refine r_iconst (v := 1) C dL_law_935 (by decide) ?_
            exact hret _ _ _ _ _ dL_law_936 (by decide) (by decide)
          · have c504' := i_nlt c504
            exfalso; omega
        · have c499' := i_ne c499
          exfalso; omega
      · refine r_tabIn 573 C dL_law_32 (by omega) (by omega) (by rw [c106]; rfl) (by decide) ?_
        refine r_aload_n 2 C dL_law_573 rfl ?_
        refine callVI C cwL_73_V (ctX10_judge_0 _ _ w3 (sS sC h0) g0 g9  ) (by decide) (kS sC h0 kc_0) rfl rfl rfl (Nat.le_of_ble_eq_true rfl) (by decide) dL_law_574 (fun r507 w506 y505 => ?_)
        show V x 145 11604 w506 577 [(3, .int 0), (2, .ref (gz (xG x) + 114)), (1, .ref (gz (xG x) + 0)), (0, .ref b)] [.int r507]
        obtain ⟨h508, g509⟩ := y505
        have h510 := Ch.tr h0 h508 (by decide)
        refine r_aload_n 1 C dL_law_577 rfl ?_
        refine callVI C cwL_76_V (ctX11_judge_114 _ _ w506 (sS sM h510) (h508.I (by decide) g17) (h508.I (by decide) g21) (h508.I (by decide) g15) (h508.I (by decide) g16)  ) (by decide) (kS sM h510 kc_114) rfl rfl rfl (Nat.le_of_ble_eq_true rfl) (by decide) dL_law_578 (fun r513 w512 y511 => ?_)
        show V x 145 11604 w512 581 [(3, .int 0), (2, .ref (gz (xG x) + 114)), (1, .ref (gz (xG x) + 0)), (0, .ref b)] [.int r513, .int r507]
        obtain ⟨h514, g515⟩ := y511
        have h516 := Ch.tr h510 h514 (by decide)
        refine r_icmp_eq 929 C dL_law_581 (by decide) (fun c517 => ?_) (fun c517 => ?_)
        · have c517' := i_eq c517
          obtain ⟨i518, e519⟩ : ∃ z : Int32, 0 + Int32.ofInt 5 = z := ⟨_, rfl⟩
          have i518' := iinc_ok e519 (by decide) (by omega) (by omega)
          obtain rfl : i518 = 5 := i_of (by omega)
          refine r_iinc [(3, .int 5), (2, .ref (gz (xG x) + 114)), (1, .ref (gz (xG x) + 0)), (0, .ref b)] 0 C dL_law_929 rfl e519 (by decide) rfl ?_
          refine r_goto 18 C dL_law_932 (by decide) ?_
          refine r_iload_n 0 C dL_law_18 rfl ?_
          refine r_aload_n 3 C dL_law_19 rfl ?_
          refine r_slen C hX hbl hbz dL_law_20 ?_
          rw [← hn0]
          refine r_iconst (v := 5) C dL_law_21 (by decide) ?_
          refine r_isub C dL_law_22 (fun v520 e521 => ?_)
          have v520' := isub_ok e521 (by omega) (by omega)
          refine r_icmp_gt 935 C dL_law_23 (by decide) (fun c522 => ?_) (fun c522 => ?_)
          · have c522' := i_lt c522
            refine r_iconst (v := 1) C dL_law_935 (by decide) ?_
            exact hret _ _ _ _ _ dL_law_936 (by decide) (by decide)
          · have c522' := i_nlt c522
            exfalso; omega
        · have c517' := i_ne c517
          exfalso; omega
      · refine r_tabIn 586 C dL_law_32 (by omega) (by omega) (by rw [c106]; rfl) (by decide) ?_
        refine r_aload_n 2 C dL_law_586 rfl ?_
        refine r_aload_n 3 C dL_law_587 rfl ?_
        refine r_iload_n 0 C dL_law_588 rfl ?_
        refine r_iconst (v := 1) C dL_law_589 (by decide) ?_
        refine r_iadd C dL_law_590 (fun v523 e524 => ?_)
        have v523' := iadd_ok e524 (by omega) (by omega)
        refine r_sldj 1 C hX hbl hbz (by omega) (by omega) dL_law_591 ?_
        refine r_aload_n 3 C dL_law_592 rfl ?_
        refine r_iload_n 0 C dL_law_593 rfl ?_
        refine r_iconst (v := 2) C dL_law_594 (by decide) ?_
        refine r_iadd C dL_law_595 (fun v525 e526 => ?_)
        have v525' := iadd_ok e526 (by omega) (by omega)
        refine r_sldj 2 C hX hbl hbz (by omega) (by omega) dL_law_596 ?_
        refine callVI C cwL_77_V (ctX10_tried_0 _ _ w3 (sS sC h0) g0 g9 (xf 1) (xf 2) ) (by decide) (kS sC h0 kc_0) rfl rfl rfl (Nat.le_of_ble_eq_true rfl) (by decide) dL_law_597 (fun r529 w528 y527 => ?_)
        show V x 145 11604 w528 600 [(3, .int 0), (2, .ref (gz (xG x) + 114)), (1, .ref (gz (xG x) + 0)), (0, .ref b)] [.int r529]
        obtain ⟨h530, g531⟩ := y527
        have h532 := Ch.tr h0 h530 (by decide)
        refine r_aload_n 1 C dL_law_600 rfl ?_
        refine r_aload_n 3 C dL_law_601 rfl ?_
        refine r_iload_n 0 C dL_law_602 rfl ?_
        refine r_iconst (v := 1) C dL_law_603 (by decide) ?_
        refine r_iadd C dL_law_604 (fun v533 e534 => ?_)
        have v533' := iadd_ok e534 (by omega) (by omega)
        refine r_sldj 1 C hX hbl hbz (by omega) (by omega) dL_law_605 ?_
        refine r_aload_n 3 C dL_law_606 rfl ?_
        refine r_iload_n 0 C dL_law_607 rfl ?_
        refine r_iconst (v := 2) C dL_law_608 (by decide) ?_
        refine r_iadd C dL_law_609 (fun v535 e536 => ?_)
        have v535' := iadd_ok e536 (by omega) (by omega)
        refine r_sldj 2 C hX hbl hbz (by omega) (by omega) dL_law_610 ?_
        refine callVI C cwL_80_V (ctX11_tried_114 _ _ w528 (sS sM h532) (h530.I (by decide) g17) (h530.I (by decide) g21) (h530.I (by decide) g15) (h530.I (by decide) g16) (xf 1) (xf 2) ) (by decide) (kS sM h532 kc_114) rfl rfl rfl (Nat.le_of_ble_eq_true rfl) (by decide) dL_law_611 (fun r539 w538 y537 => ?_)
        show V x 145 11604 w538 614 [(3, .int 0), (2, .ref (gz (xG x) + 114)), (1, .ref (gz (xG x) + 0)), (0, .ref b)] [.int r539, .int r529]
        obtain ⟨h540, g541⟩ := y537
        have h542 := Ch.tr h532 h540 (by decide)
        refine r_icmp_eq 929 C dL_law_614 (by decide) (fun c543 => ?_) (fun c543 => ?_)
        · have c543' := i_eq c543
          obtain ⟨i544, e545⟩ : ∃ z : Int32, 0 + Int32.ofInt 5 = z := ⟨_, rfl⟩
          have i544' := iinc_ok e545 (by decide) (by omega) (by omega)
          obtain rfl : i544 = 5 := i_of (by omega)
          refine r_iinc [(3, .int 5), (2, .ref (gz (xG x) + 114)), (1, .ref (gz (xG x) + 0)), (0, .ref b)] 0 C dL_law_929 rfl e545 (by decide) rfl ?_
          refine r_goto 18 C dL_law_932 (by decide) ?_
          refine r_iload_n 0 C dL_law_18 rfl ?_
          refine r_aload_n 3 C dL_law_19 rfl ?_
          refine r_slen C hX hbl hbz dL_law_20 ?_
          rw [← hn0]
          refine r_iconst (v := 5) C dL_law_21 (by decide) ?_
          refine r_isub C dL_law_22 (fun v546 e547 => ?_)
          have v546' := isub_ok e547 (by omega) (by omega)
          refine r_icmp_gt 935 C dL_law_23 (by decide) (fun c548 => ?_) (fun c548 => ?_)
          · have c548' := i_lt c548
            refine r_iconst (v := 1) C dL_law_935 (by decide) ?_
            exact hret _ _ _ _ _ dL_law_936 (by decide) (by decide)
          · have c548' := i_nlt c548
            exfalso; omega
        · have c543' := i_ne c543
          exfalso; omega
      · refine r_tabIn 619 C dL_law_32 (by omega) (by omega) (by rw [c106]; rfl) (by decide) ?_
        refine r_aload_n 2 C dL_law_619 rfl ?_
        refine r_aload_n 3 C dL_law_620 rfl ?_
        refine r_iload_n 0 C dL_law_621 rfl ?_
        refine r_iconst (v := 1) C dL_law_622 (by decide) ?_
        refine r_iadd C dL_law_623 (fun v549 e550 => ?_)
        have v549' := iadd_ok e550 (by omega) (by omega)
        refine r_sldj 1 C hX hbl hbz (by omega) (by omega) dL_law_624 ?_
        refine r_aload_n 3 C dL_law_625 rfl ?_
        refine r_iload_n 0 C dL_law_626 rfl ?_
        refine r_iconst (v := 2) C dL_law_627 (by decide) ?_
        refine r_iadd C dL_law_628 (fun v551 e552 => ?_)
        have v551' := iadd_ok e552 (by omega) (by omega)
        refine r_sldj 2 C hX hbl hbz (by omega) (by omega) dL_law_629 ?_
        refine callVI C cwL_81_V (ctX10_where_0 _ _ w3 (sS sC h0) g0 (xf 1) (xf 2) ) (by decide) (kS sC h0 kc_0) rfl rfl rfl (Nat.le_of_ble_eq_true rfl) (by decide) dL_law_630 (fun r555 w554 y553 => ?_)
        show V x 145 11604 w554 633 [(3, .int 0), (2, .ref (gz (xG x) + 114)), (1, .ref (gz (xG x) + 0)), (0, .ref b)] [.int r555]
        obtain ⟨h556, g557⟩ := y553
        have h558 := Ch.tr h0 h556 (by decide)
        refine r_aload_n 1 C dL_law_633 rfl ?_
        refine r_aload_n 3 C dL_law_634 rfl ?_
        refine r_iload_n 0 C dL_law_635 rfl ?_
        refine r_iconst (v := 1) C dL_law_636 (by decide) ?_
        refine r_iadd C dL_law_637 (fun v559 e560 => ?_)
        have v559' := iadd_ok e560 (by omega) (by omega)
        refine r_sldj 1 C hX hbl hbz (by omega) (by omega) dL_law_638 ?_
        refine r_aload_n 3 C dL_law_639 rfl ?_
        refine r_iload_n 0 C dL_law_640 rfl ?_
        refine r_iconst (v := 2) C dL_law_641 (by decide) ?_
        refine r_iadd C dL_law_642 (fun v561 e562 => ?_)
        have v561' := iadd_ok e562 (by omega) (by omega)
        refine r_sldj 2 C hX hbl hbz (by omega) (by omega) dL_law_643 ?_
        refine callVI C cwL_84_V (ctX11_where_114 _ _ w554 (sS sM h558) (h556.I (by decide) g17) (xf 1) (xf 2) ) (by decide) (kS sM h558 kc_114) rfl rfl rfl (Nat.le_of_ble_eq_true rfl) (by decide) dL_law_644 (fun r565 w564 y563 => ?_)
        show V x 145 11604 w564 647 [(3, .int 0), (2, .ref (gz (xG x) + 114)), (1, .ref (gz (xG x) + 0)), (0, .ref b)] [.int r565, .int r555]
        obtain ⟨h566, g567⟩ := y563
        have h568 := Ch.tr h558 h566 (by decide)
        refine r_icmp_eq 929 C dL_law_647 (by decide) (fun c569 => ?_) (fun c569 => ?_)
        · have c569' := i_eq c569
          obtain ⟨i570, e571⟩ : ∃ z : Int32, 0 + Int32.ofInt 5 = z := ⟨_, rfl⟩
          have i570' := iinc_ok e571 (by decide) (by omega) (by omega)
          obtain rfl : i570 = 5 := i_of (by omega)
          refine r_iinc [(3, .int 5), (2, .ref (gz (xG x) + 114)), (1, .ref (gz (xG x) + 0)), (0, .ref b)] 0 C dL_law_929 rfl e571 (by decide) rfl ?_
          refine r_goto 18 C dL_law_932 (by decide) ?_
          refine r_iload_n 0 C dL_law_18 rfl ?_
          refine r_aload_n 3 C dL_law_19 rfl ?_
          refine r_slen C hX hbl hbz dL_law_20 ?_
          rw [← hn0]
          refine r_iconst (v := 5) C dL_law_21 (by decide) ?_
          refine r_isub C dL_law_22 (fun v572 e573 => ?_)
          have v572' := isub_ok e573 (by omega) (by omega)
          refine r_icmp_gt 935 C dL_law_23 (by decide) (fun c574 => ?_) (fun c574 => ?_)
          · have c574' := i_lt c574
            refine r_iconst (v := 1) C dL_law_935 (by decide) ?_
            exact hret _ _ _ _ _ dL_law_936 (by decide) (by decide)
          · have c574' := i_nlt c574
            exfalso; omega
        · have c569' := i_ne c569
          exfalso; omega
      · refine r_tabIn 652 C dL_law_32 (by omega) (by omega) (by rw [c106]; rfl) (by decide) ?_
        refine r_aload_n 2 C dL_law_652 rfl ?_
        refine r_aload_n 3 C dL_law_653 rfl ?_
        refine r_iload_n 0 C dL_law_654 rfl ?_
        refine r_iconst (v := 1) C dL_law_655 (by decide) ?_
        refine r_iadd C dL_law_656 (fun v575 e576 => ?_)
        have v575' := iadd_ok e576 (by omega) (by omega)
        refine r_sldj 1 C hX hbl hbz (by omega) (by omega) dL_law_657 ?_
        refine r_aload_n 3 C dL_law_658 rfl ?_
        refine r_iload_n 0 C dL_law_659 rfl ?_
        refine r_iconst (v := 2) C dL_law_660 (by decide) ?_
        refine r_iadd C dL_law_661 (fun v577 e578 => ?_)
        have v577' := iadd_ok e578 (by omega) (by omega)
        refine r_sldj 2 C hX hbl hbz (by omega) (by omega) dL_law_662 ?_
        refine r_aload_n 3 C dL_law_663 rfl ?_
        refine r_iload_n 0 C dL_law_664 rfl ?_
        refine r_iconst (v := 3) C dL_law_665 (by decide) ?_
        refine r_iadd C dL_law_666 (fun v579 e580 => ?_)
        have v579' := iadd_ok e580 (by omega) (by omega)
        refine r_sldj 3 C hX hbl hbz (by omega) (by omega) dL_law_667 ?_
        refine callVI C cwL_85_V (ctX10_soonest_0 _ _ w3 (sS sC h0) g1 (xf 1) (xf 2) (xf 3) ) (by decide) (kS sC h0 kc_0) rfl rfl rfl (Nat.le_of_ble_eq_true rfl) (by decide) dL_law_668 (fun r583 w582 y581 => ?_)
        show V x 145 11604 w582 671 [(3, .int 0), (2, .ref (gz (xG x) + 114)), (1, .ref (gz (xG x) + 0)), (0, .ref b)] [.int r583]
        obtain ⟨h584, g585⟩ := y581
        have h586 := Ch.tr h0 h584 (by decide)
        refine r_aload_n 1 C dL_law_671 rfl ?_
        refine r_aload_n 3 C dL_law_672 rfl ?_
        refine r_iload_n 0 C dL_law_673 rfl ?_
        refine r_iconst (v := 1) C dL_law_674 (by decide) ?_
        refine r_iadd C dL_law_675 (fun v587 e588 => ?_)
        have v587' := iadd_ok e588 (by omega) (by omega)
        refine r_sldj 1 C hX hbl hbz (by omega) (by omega) dL_law_676 ?_
        refine r_aload_n 3 C dL_law_677 rfl ?_
        refine r_iload_n 0 C dL_law_678 rfl ?_
        refine r_iconst (v := 2) C dL_law_679 (by decide) ?_
        refine r_iadd C dL_law_680 (fun v589 e590 => ?_)
        have v589' := iadd_ok e590 (by omega) (by omega)
        refine r_sldj 2 C hX hbl hbz (by omega) (by omega) dL_law_681 ?_
        refine r_aload_n 3 C dL_law_682 rfl ?_
        refine r_iload_n 0 C dL_law_683 rfl ?_
        refine r_iconst (v := 3) C dL_law_684 (by decide) ?_
        refine r_iadd C dL_law_685 (fun v591 e592 => ?_)
        have v591' := iadd_ok e592 (by omega) (by omega)
        refine r_sldj 3 C hX hbl hbz (by omega) (by omega) dL_law_686 ?_
        refine callVI C cwL_89_V (ctX11_soonest_114 _ _ w582 (sS sM h586) (h584.I (by decide) g18) (xf 1) (xf 2) (xf 3) ) (by decide) (kS sM h586 kc_114) rfl rfl rfl (Nat.le_of_ble_eq_true rfl) (by decide) dL_law_687 (fun r595 w594 y593 => ?_)
        show V x 145 11604 w594 690 [(3, .int 0), (2, .ref (gz (xG x) + 114)), (1, .ref (gz (xG x) + 0)), (0, .ref b)] [.int r595, .int r583]
        obtain ⟨h596, g597⟩ := y593
        have h598 := Ch.tr h586 h596 (by decide)
        refine r_icmp_eq 929 C dL_law_690 (by decide) (fun c599 => ?_) (fun c599 => ?_)
        · have c599' := i_eq c599
          obtain ⟨i600, e601⟩ : ∃ z : Int32, 0 + Int32.ofInt 5 = z := ⟨_, rfl⟩
          have i600' := iinc_ok e601 (by decide) (by omega) (by omega)
          obtain rfl : i600 = 5 := i_of (by omega)
          refine r_iinc [(3, .int 5), (2, .ref (gz (xG x) + 114)), (1, .ref (gz (xG x) + 0)), (0, .ref b)] 0 C dL_law_929 rfl e601 (by decide) rfl ?_
          refine r_goto 18 C dL_law_932 (by decide) ?_
          refine r_iload_n 0 C dL_law_18 rfl ?_
          refine r_aload_n 3 C dL_law_19 rfl ?_
          refine r_slen C hX hbl hbz dL_law_20 ?_
          rw [← hn0]
          refine r_iconst (v := 5) C dL_law_21 (by decide) ?_
          refine r_isub C dL_law_22 (fun v602 e603 => ?_)
          have v602' := isub_ok e603 (by omega) (by omega)
          refine r_icmp_gt 935 C dL_law_23 (by decide) (fun c604 => ?_) (fun c604 => ?_)
          · have c604' := i_lt c604
            refine r_iconst (v := 1) C dL_law_935 (by decide) ?_
            exact hret _ _ _ _ _ dL_law_936 (by decide) (by decide)
          · have c604' := i_nlt c604
            exfalso; omega
        · have c599' := i_ne c599
          exfalso; omega
      · refine r_tabIn 695 C dL_law_32 (by omega) (by omega) (by rw [c106]; rfl) (by decide) ?_
        refine r_aload_n 2 C dL_law_695 rfl ?_
        refine r_aload_n 3 C dL_law_696 rfl ?_
        refine r_iload_n 0 C dL_law_697 rfl ?_
        refine r_iconst (v := 1) C dL_law_698 (by decide) ?_
        refine r_iadd C dL_law_699 (fun v605 e606 => ?_)
        have v605' := iadd_ok e606 (by omega) (by omega)
        refine r_sldj 1 C hX hbl hbz (by omega) (by omega) dL_law_700 ?_
        refine r_aload_n 3 C dL_law_701 rfl ?_
        refine r_iload_n 0 C dL_law_702 rfl ?_
        refine r_iconst (v := 2) C dL_law_703 (by decide) ?_
        refine r_iadd C dL_law_704 (fun v607 e608 => ?_)
        have v607' := iadd_ok e608 (by omega) (by omega)
        refine r_sldj 2 C hX hbl hbz (by omega) (by omega) dL_law_705 ?_
        refine callVI C cwL_90_V (ctX10_bestWall_0 _ _ w3 (sS sC h0) g0 g4 (xf 1) (xf 2) ) (by decide) (kS sC h0 kc_0) rfl rfl rfl (Nat.le_of_ble_eq_true rfl) (by decide) dL_law_706 (fun r611 w610 y609 => ?_)
        show V x 145 11604 w610 709 [(3, .int 0), (2, .ref (gz (xG x) + 114)), (1, .ref (gz (xG x) + 0)), (0, .ref b)] [.int r611]
        obtain ⟨h612, g613⟩ := y609
        have h614 := Ch.tr h0 h612 (by decide)
        refine r_aload_n 1 C dL_law_709 rfl ?_
        refine r_aload_n 3 C dL_law_710 rfl ?_
        refine r_iload_n 0 C dL_law_711 rfl ?_
        refine r_iconst (v := 1) C dL_law_712 (by decide) ?_
        refine r_iadd C dL_law_713 (fun v615 e616 => ?_)
        have v615' := iadd_ok e616 (by omega) (by omega)
        refine r_sldj 1 C hX hbl hbz (by omega) (by omega) dL_law_714 ?_
        refine r_aload_n 3 C dL_law_715 rfl ?_
        refine r_iload_n 0 C dL_law_716 rfl ?_
        refine r_iconst (v := 2) C dL_law_717 (by decide) ?_
        refine r_iadd C dL_law_718 (fun v617 e618 => ?_)
        have v617' := iadd_ok e618 (by omega) (by omega)
        refine r_sldj 2 C hX hbl hbz (by omega) (by omega) dL_law_719 ?_
        refine callVI C cwL_93_V (ctX11_bestWall_114 _ _ w610 (sS sM h614) (h612.I (by decide) g17) (h612.I (by decide) g21) (h612.I (by decide) g15) (h612.I (by decide) g16) (xf 1) (xf 2) ) (by decide) (kS sM h614 kc_114) rfl rfl rfl (Nat.le_of_ble_eq_true rfl) (by decide) dL_law_720 (fun r621 w620 y619 => ?_)
        show V x 145 11604 w620 723 [(3, .int 0), (2, .ref (gz (xG x) + 114)), (1, .ref (gz (xG x) + 0)), (0, .ref b)] [.int r621, .int r611]
        obtain ⟨h622, g623⟩ := y619
        have h624 := Ch.tr h614 h622 (by decide)
        refine r_icmp_eq 929 C dL_law_723 (by decide) (fun c625 => ?_) (fun c625 => ?_)
        · have c625' := i_eq c625
          obtain ⟨i626, e627⟩ : ∃ z : Int32, 0 + Int32.ofInt 5 = z := ⟨_, rfl⟩
          have i626' := iinc_ok e627 (by decide) (by omega) (by omega)
          obtain rfl : i626 = 5 := i_of (by omega)
          refine r_iinc [(3, .int 5), (2, .ref (gz (xG x) + 114)), (1, .ref (gz (xG x) + 0)), (0, .ref b)] 0 C dL_law_929 rfl e627 (by decide) rfl ?_
          refine r_goto 18 C dL_law_932 (by decide) ?_
          refine r_iload_n 0 C dL_law_18 rfl ?_
          refine r_aload_n 3 C dL_law_19 rfl ?_
          refine r_slen C hX hbl hbz dL_law_20 ?_
          rw [← hn0]
          refine r_iconst (v := 5) C dL_law_21 (by decide) ?_
          refine r_isub C dL_law_22 (fun v628 e629 => ?_)
          have v628' := isub_ok e629 (by omega) (by omega)
          refine r_icmp_gt 935 C dL_law_23 (by decide) (fun c630 => ?_) (fun c630 => ?_)
          · have c630' := i_lt c630
            refine r_iconst (v := 1) C dL_law_935 (by decide) ?_
            exact hret _ _ _ _ _ dL_law_936 (by decide) (by decide)
          · have c630' := i_nlt c630
            exfalso; omega
        · have c625' := i_ne c625
          exfalso; omega
      · refine r_tabIn 728 C dL_law_32 (by omega) (by omega) (by rw [c106]; rfl) (by decide) ?_
        refine r_aload_n 2 C dL_law_728 rfl ?_
        refine r_aload_n 3 C dL_law_729 rfl ?_
        refine r_iload_n 0 C dL_law_730 rfl ?_
        refine r_iconst (v := 1) C dL_law_731 (by decide) ?_
        refine r_iadd C dL_law_732 (fun v631 e632 => ?_)
        have v631' := iadd_ok e632 (by omega) (by omega)
        refine r_sldj 1 C hX hbl hbz (by omega) (by omega) dL_law_733 ?_
        refine callVI C cwL_94_V (ctX10_wax_0 _ _ w3 (sS sC h0) g0 g9 (xf 1) ) (by decide) (kS sC h0 kc_0) rfl rfl rfl (Nat.le_of_ble_eq_true rfl) (by decide) dL_law_734 (fun r635 w634 y633 => ?_)
        show V x 145 11604 w634 737 [(3, .int 0), (2, .ref (gz (xG x) + 114)), (1, .ref (gz (xG x) + 0)), (0, .ref b)] [.int r635]
        obtain ⟨h636, g637⟩ := y633
        have h638 := Ch.tr h0 h636 (by decide)
        refine r_aload_n 1 C dL_law_737 rfl ?_
        refine r_aload_n 3 C dL_law_738 rfl ?_
        refine r_iload_n 0 C dL_law_739 rfl ?_
        refine r_iconst (v := 1) C dL_law_740 (by decide) ?_
        refine r_iadd C dL_law_741 (fun v639 e640 => ?_)
        have v639' := iadd_ok e640 (by omega) (by omega)
        refine r_sldj 1 C hX hbl hbz (by omega) (by omega) dL_law_742 ?_
        refine callVI C cwL_97_V (ctX11_wax_114 _ _ w634 (sS sM h638) (h636.I (by decide) g17) (h636.I (by decide) g21) (h636.I (by decide) g15) (h636.I (by decide) g16) (xf 1) ) (by decide) (kS sM h638 kc_114) rfl rfl rfl (Nat.le_of_ble_eq_true rfl) (by decide) dL_law_743 (fun r643 w642 y641 => ?_)
        show V x 145 11604 w642 746 [(3, .int 0), (2, .ref (gz (xG x) + 114)), (1, .ref (gz (xG x) + 0)), (0, .ref b)] [.int r643, .int r635]
        obtain ⟨h644, g645⟩ := y641
        have h646 := Ch.tr h638 h644 (by decide)
        refine r_icmp_eq 929 C dL_law_746 (by decide) (fun c647 => ?_) (fun c647 => ?_)
        · have c647' := i_eq c647
          obtain ⟨i648, e649⟩ : ∃ z : Int32, 0 + Int32.ofInt 5 = z := ⟨_, rfl⟩
          have i648' := iinc_ok e649 (by decide) (by omega) (by omega)
          obtain rfl : i648 = 5 := i_of (by omega)
          refine r_iinc [(3, .int 5), (2, .ref (gz (xG x) + 114)), (1, .ref (gz (xG x) + 0)), (0, .ref b)] 0 C dL_law_929 rfl e649 (by decide) rfl ?_
          refine r_goto 18 C dL_law_932 (by decide) ?_
          refine r_iload_n 0 C dL_law_18 rfl ?_
          refine r_aload_n 3 C dL_law_19 rfl ?_
          refine r_slen C hX hbl hbz dL_law_20 ?_
          rw [← hn0]
          refine r_iconst (v := 5) C dL_law_21 (by decide) ?_
          refine r_isub C dL_law_22 (fun v650 e651 => ?_)
          have v650' := isub_ok e651 (by omega) (by omega)
          refine r_icmp_gt 935 C dL_law_23 (by decide) (fun c652 => ?_) (fun c652 => ?_)
          · have c652' := i_lt c652
            refine r_iconst (v := 1) C dL_law_935 (by decide) ?_
            exact hret _ _ _ _ _ dL_law_936 (by decide) (by decide)
          · have c652' := i_nlt c652
            exfalso; omega
        · have c647' := i_ne c647
          exfalso; omega
      · refine r_tabIn 751 C dL_law_32 (by omega) (by omega) (by rw [c106]; rfl) (by decide) ?_
        refine r_aload_n 2 C dL_law_751 rfl ?_
        refine r_aload_n 3 C dL_law_752 rfl ?_
        refine r_iload_n 0 C dL_law_753 rfl ?_
        refine r_iconst (v := 1) C dL_law_754 (by decide) ?_
        refine r_iadd C dL_law_755 (fun v653 e654 => ?_)
        have v653' := iadd_ok e654 (by omega) (by omega)
        refine r_sldj 1 C hX hbl hbz (by omega) (by omega) dL_law_756 ?_
        refine r_aload_n 3 C dL_law_757 rfl ?_
        refine r_iload_n 0 C dL_law_758 rfl ?_
        refine r_iconst (v := 2) C dL_law_759 (by decide) ?_
        refine r_iadd C dL_law_760 (fun v655 e656 => ?_)
        have v655' := iadd_ok e656 (by omega) (by omega)
        refine r_sldj 2 C hX hbl hbz (by omega) (by omega) dL_law_761 ?_
        refine r_aload_n 3 C dL_law_762 rfl ?_
        refine r_iload_n 0 C dL_law_763 rfl ?_
        refine r_iconst (v := 3) C dL_law_764 (by decide) ?_
        refine r_iadd C dL_law_765 (fun v657 e658 => ?_)
        have v657' := iadd_ok e658 (by omega) (by omega)
        refine r_sldj 3 C hX hbl hbz (by omega) (by omega) dL_law_766 ?_
        refine r_aload_n 3 C dL_law_767 rfl ?_
        refine r_iload_n 0 C dL_law_768 rfl ?_
        refine r_iconst (v := 4) C dL_law_769 (by decide) ?_
        refine r_iadd C dL_law_770 (fun v659 e660 => ?_)
        have v659' := iadd_ok e660 (by omega) (by omega)
        refine r_sldj 4 C hX hbl hbz (by omega) (by omega) dL_law_771 ?_
        refine callVI C cwL_98_V (ctX10_see_0 _ _ w3 (sS sC h0) g5 g6 g0 (xf 1) (xf 2) (xf 3) (xf 4) ) (by decide) (kS sC h0 kc_0) rfl rfl rfl (Nat.le_of_ble_eq_true rfl) (by decide) dL_law_772 (fun r663 w662 y661 => ?_)
        show V x 145 11604 w662 775 [(3, .int 0), (2, .ref (gz (xG x) + 114)), (1, .ref (gz (xG x) + 0)), (0, .ref b)] [.int r663]
        obtain ⟨h664, g665⟩ := y661
        have h666 := Ch.tr h0 h664 (by decide)
        refine r_aload_n 1 C dL_law_775 rfl ?_
        refine r_aload_n 3 C dL_law_776 rfl ?_
        refine r_iload_n 0 C dL_law_777 rfl ?_
        refine r_iconst (v := 1) C dL_law_778 (by decide) ?_
        refine r_iadd C dL_law_779 (fun v667 e668 => ?_)
        have v667' := iadd_ok e668 (by omega) (by omega)
        refine r_sldj 1 C hX hbl hbz (by omega) (by omega) dL_law_780 ?_
        refine r_aload_n 3 C dL_law_781 rfl ?_
        refine r_iload_n 0 C dL_law_782 rfl ?_
        refine r_iconst (v := 2) C dL_law_783 (by decide) ?_
        refine r_iadd C dL_law_784 (fun v669 e670 => ?_)
        have v669' := iadd_ok e670 (by omega) (by omega)
        refine r_sldj 2 C hX hbl hbz (by omega) (by omega) dL_law_785 ?_
        refine r_aload_n 3 C dL_law_786 rfl ?_
        refine r_iload_n 0 C dL_law_787 rfl ?_
        refine r_iconst (v := 3) C dL_law_788 (by decide) ?_
        refine r_iadd C dL_law_789 (fun v671 e672 => ?_)
        have v671' := iadd_ok e672 (by omega) (by omega)
        refine r_sldj 3 C hX hbl hbz (by omega) (by omega) dL_law_790 ?_
        refine r_aload_n 3 C dL_law_791 rfl ?_
        refine r_iload_n 0 C dL_law_792 rfl ?_
        refine r_iconst (v := 4) C dL_law_793 (by decide) ?_
        refine r_iadd C dL_law_794 (fun v673 e674 => ?_)
        have v673' := iadd_ok e674 (by omega) (by omega)
        refine r_sldj 4 C hX hbl hbz (by omega) (by omega) dL_law_795 ?_
        refine callVI C cwL_101_V (ctX11_see_114 _ _ w662 (sS sM h666) (h664.I (by decide) g15) (h664.I (by decide) g16) (h664.I (by decide) g17) (xf 1) (xf 2) (xf 3) (xf 4) ) (by decide) (kS sM h666 kc_114) rfl rfl rfl (Nat.le_of_ble_eq_true rfl) (by decide) dL_law_796 (fun r677 w676 y675 => ?_)
        show V x 145 11604 w676 799 [(3, .int 0), (2, .ref (gz (xG x) + 114)), (1, .ref (gz (xG x) + 0)), (0, .ref b)] [.int r677, .int r663]
        obtain ⟨h678, g679⟩ := y675
        have h680 := Ch.tr h666 h678 (by decide)
        refine r_icmp_eq 929 C dL_law_799 (by decide) (fun c681 => ?_) (fun c681 => ?_)
        · have c681' := i_eq c681
          obtain ⟨i682, e683⟩ : ∃ z : Int32, 0 + Int32.ofInt 5 = z := ⟨_, rfl⟩
          have i682' := iinc_ok e683 (by decide) (by omega) (by omega)
          obtain rfl : i682 = 5 := i_of (by omega)
          refine r_iinc [(3, .int 5), (2, .ref (gz (xG x) + 114)), (1, .ref (gz (xG x) + 0)), (0, .ref b)] 0 C dL_law_929 rfl e683 (by decide) rfl ?_
          refine r_goto 18 C dL_law_932 (by decide) ?_
          refine r_iload_n 0 C dL_law_18 rfl ?_
          refine r_aload_n 3 C dL_law_19 rfl ?_
          refine r_slen C hX hbl hbz dL_law_20 ?_
          rw [← hn0]
          refine r_iconst (v := 5) C dL_law_21 (by decide) ?_
          refine r_isub C dL_law_22 (fun v684 e685 => ?_)
          have v684' := isub_ok e685 (by omega) (by omega)
          refine r_icmp_gt 935 C dL_law_23 (by decide) (fun c686 => ?_) (fun c686 => ?_)
          · have c686' := i_lt c686
            refine r_iconst (v := 1) C dL_law_935 (by decide) ?_
            exact hret _ _ _ _ _ dL_law_936 (by decide) (by decide)
          · have c686' := i_nlt c686
            exfalso; omega
        · have c681' := i_ne c681
          exfalso; omega
      · refine r_tabIn 804 C dL_law_32 (by omega) (by omega) (by rw [c106]; rfl) (by decide) ?_
        refine r_aload_n 2 C dL_law_804 rfl ?_
        refine r_aload_n 3 C dL_law_805 rfl ?_
        refine r_iload_n 0 C dL_law_806 rfl ?_
        refine r_iconst (v := 1) C dL_law_807 (by decide) ?_
        refine r_iadd C dL_law_808 (fun v687 e688 => ?_)
        have v687' := iadd_ok e688 (by omega) (by omega)
        refine r_sldj 1 C hX hbl hbz (by omega) (by omega) dL_law_809 ?_
        refine r_aload_n 3 C dL_law_810 rfl ?_
        refine r_iload_n 0 C dL_law_811 rfl ?_
        refine r_iconst (v := 2) C dL_law_812 (by decide) ?_
        refine r_iadd C dL_law_813 (fun v689 e690 => ?_)
        have v689' := iadd_ok e690 (by omega) (by omega)
        refine r_sldj 2 C hX hbl hbz (by omega) (by omega) dL_law_814 ?_
        refine r_aload_n 3 C dL_law_815 rfl ?_
        refine r_iload_n 0 C dL_law_816 rfl ?_
        refine r_iconst (v := 3) C dL_law_817 (by decide) ?_
        refine r_iadd C dL_law_818 (fun v691 e692 => ?_)
        have v691' := iadd_ok e692 (by omega) (by omega)
        refine r_sldj 3 C hX hbl hbz (by omega) (by omega) dL_law_819 ?_
        refine callVI C cwL_102_V (ctX10_walks_0 _ _ w3 (sS sC h0) g1 (xf 1) (xf 2) (xf 3) ) (by decide) (kS sC h0 kc_0) rfl rfl rfl (Nat.le_of_ble_eq_true rfl) (by decide) dL_law_820 (fun r695 w694 y693 => ?_)
        show V x 145 11604 w694 823 [(3, .int 0), (2, .ref (gz (xG x) + 114)), (1, .ref (gz (xG x) + 0)), (0, .ref b)] [.int r695]
        obtain ⟨h696, g697⟩ := y693
        have h698 := Ch.tr h0 h696 (by decide)
        refine r_aload_n 1 C dL_law_823 rfl ?_
        refine r_aload_n 3 C dL_law_824 rfl ?_
        refine r_iload_n 0 C dL_law_825 rfl ?_
        refine r_iconst (v := 1) C dL_law_826 (by decide) ?_
        refine r_iadd C dL_law_827 (fun v699 e700 => ?_)
        have v699' := iadd_ok e700 (by omega) (by omega)
        refine r_sldj 1 C hX hbl hbz (by omega) (by omega) dL_law_828 ?_
        refine r_aload_n 3 C dL_law_829 rfl ?_
        refine r_iload_n 0 C dL_law_830 rfl ?_
        refine r_iconst (v := 2) C dL_law_831 (by decide) ?_
        refine r_iadd C dL_law_832 (fun v701 e702 => ?_)
        have v701' := iadd_ok e702 (by omega) (by omega)
        refine r_sldj 2 C hX hbl hbz (by omega) (by omega) dL_law_833 ?_
        refine r_aload_n 3 C dL_law_834 rfl ?_
        refine r_iload_n 0 C dL_law_835 rfl ?_
        refine r_iconst (v := 3) C dL_law_836 (by decide) ?_
        refine r_iadd C dL_law_837 (fun v703 e704 => ?_)
        have v703' := iadd_ok e704 (by omega) (by omega)
        refine r_sldj 3 C hX hbl hbz (by omega) (by omega) dL_law_838 ?_
        refine callVI C cwL_105_V (ctX11_walks_114 _ _ w694 (sS sM h698) (h696.I (by decide) g18) (xf 1) (xf 2) (xf 3) ) (by decide) (kS sM h698 kc_114) rfl rfl rfl (Nat.le_of_ble_eq_true rfl) (by decide) dL_law_839 (fun r707 w706 y705 => ?_)
        show V x 145 11604 w706 842 [(3, .int 0), (2, .ref (gz (xG x) + 114)), (1, .ref (gz (xG x) + 0)), (0, .ref b)] [.int r707, .int r695]
        obtain ⟨h708, g709⟩ := y705
        have h710 := Ch.tr h698 h708 (by decide)
        refine r_icmp_eq 929 C dL_law_842 (by decide) (fun c711 => ?_) (fun c711 => ?_)
        · have c711' := i_eq c711
          obtain ⟨i712, e713⟩ : ∃ z : Int32, 0 + Int32.ofInt 5 = z := ⟨_, rfl⟩
          have i712' := iinc_ok e713 (by decide) (by omega) (by omega)
          obtain rfl : i712 = 5 := i_of (by omega)
          refine r_iinc [(3, .int 5), (2, .ref (gz (xG x) + 114)), (1, .ref (gz (xG x) + 0)), (0, .ref b)] 0 C dL_law_929 rfl e713 (by decide) rfl ?_
          refine r_goto 18 C dL_law_932 (by decide) ?_
          refine r_iload_n 0 C dL_law_18 rfl ?_
          refine r_aload_n 3 C dL_law_19 rfl ?_
          refine r_slen C hX hbl hbz dL_law_20 ?_
          rw [← hn0]
          refine r_iconst (v := 5) C dL_law_21 (by decide) ?_
          refine r_isub C dL_law_22 (fun v714 e715 => ?_)
          have v714' := isub_ok e715 (by omega) (by omega)
          refine r_icmp_gt 935 C dL_law_23 (by decide) (fun c716 => ?_) (fun c716 => ?_)
          · have c716' := i_lt c716
            refine r_iconst (v := 1) C dL_law_935 (by decide) ?_
            exact hret _ _ _ _ _ dL_law_936 (by decide) (by decide)
          · have c716' := i_nlt c716
            exfalso; omega
        · have c711' := i_ne c711
          exfalso; omega
      · refine r_tabIn 847 C dL_law_32 (by omega) (by omega) (by rw [c106]; rfl) (by decide) ?_
        refine r_aload_n 2 C dL_law_847 rfl ?_
        refine callVI C cwL_106_V (ctX10_tear_0 _ _ w3 (sS sC h0) g10  ) (by decide) (kS sC h0 kc_0) rfl rfl rfl (Nat.le_of_ble_eq_true rfl) (by decide) dL_law_848 (fun r719 w718 y717 => ?_)
        show V x 145 11604 w718 851 [(3, .int 0), (2, .ref (gz (xG x) + 114)), (1, .ref (gz (xG x) + 0)), (0, .ref b)] [.int r719]
        obtain ⟨h720, g721⟩ := y717
        have h722 := Ch.tr h0 h720 (by decide)
        refine r_aload_n 1 C dL_law_851 rfl ?_
        refine callVI C cwL_109_V (ctX11_tear_114 _ _ w718 (sS sM h722) (h720.I (by decide) g22)  ) (by decide) (kS sM h722 kc_114) rfl rfl rfl (Nat.le_of_ble_eq_true rfl) (by decide) dL_law_852 (fun r725 w724 y723 => ?_)
        show V x 145 11604 w724 855 [(3, .int 0), (2, .ref (gz (xG x) + 114)), (1, .ref (gz (xG x) + 0)), (0, .ref b)] [.int r725, .int r719]
        obtain ⟨h726, g727⟩ := y723
        have h728 := Ch.tr h722 h726 (by decide)
        refine r_icmp_eq 929 C dL_law_855 (by decide) (fun c729 => ?_) (fun c729 => ?_)
        · have c729' := i_eq c729
          obtain ⟨i730, e731⟩ : ∃ z : Int32, 0 + Int32.ofInt 5 = z := ⟨_, rfl⟩
          have i730' := iinc_ok e731 (by decide) (by omega) (by omega)
          obtain rfl : i730 = 5 := i_of (by omega)
          refine r_iinc [(3, .int 5), (2, .ref (gz (xG x) + 114)), (1, .ref (gz (xG x) + 0)), (0, .ref b)] 0 C dL_law_929 rfl e731 (by decide) rfl ?_
          refine r_goto 18 C dL_law_932 (by decide) ?_
          refine r_iload_n 0 C dL_law_18 rfl ?_
          refine r_aload_n 3 C dL_law_19 rfl ?_
          refine r_slen C hX hbl hbz dL_law_20 ?_
          rw [← hn0]
          refine r_iconst (v := 5) C dL_law_21 (by decide) ?_
          refine r_isub C dL_law_22 (fun v732 e733 => ?_)
          have v732' := isub_ok e733 (by omega) (by omega)
          refine r_icmp_gt 935 C dL_law_23 (by decide) (fun c734 => ?_) (fun c734 => ?_)
          · have c734' := i_lt c734
            refine r_iconst (v := 1) C dL_law_935 (by decide) ?_
            exact hret _ _ _ _ _ dL_law_936 (by decide) (by decide)
          · have c734' := i_nlt c734
            exfalso; omega
        · have c729' := i_ne c729
          exfalso; omega
      · refine r_tabIn 860 C dL_law_32 (by omega) (by omega) (by rw [c106]; rfl) (by decide) ?_
        refine r_aload_n 2 C dL_law_860 rfl ?_
        refine r_aload_n 3 C dL_law_861 rfl ?_
        refine r_iload_n 0 C dL_law_862 rfl ?_
        refine r_iconst (v := 1) C dL_law_863 (by decide) ?_
        refine r_iadd C dL_law_864 (fun v735 e736 => ?_)
        have v735' := iadd_ok e736 (by omega) (by omega)
        refine r_sldj 1 C hX hbl hbz (by omega) (by omega) dL_law_865 ?_
        refine callVI C cwL_110_V (ctX10_seed_0 _ _ w3 (sS sC h0) g12 (xf 1) ) (by decide) (kS sC h0 kc_0) rfl rfl rfl (Nat.le_of_ble_eq_true rfl) (by decide) dL_law_866 (fun r739 w738 y737 => ?_)
        show V x 145 11604 w738 869 [(3, .int 0), (2, .ref (gz (xG x) + 114)), (1, .ref (gz (xG x) + 0)), (0, .ref b)] [.int r739]
        obtain ⟨h740, g741⟩ := y737
        have h742 := Ch.tr h0 h740 (by decide)
        refine r_aload_n 1 C dL_law_869 rfl ?_
        refine r_aload_n 3 C dL_law_870 rfl ?_
        refine r_iload_n 0 C dL_law_871 rfl ?_
        refine r_iconst (v := 1) C dL_law_872 (by decide) ?_
        refine r_iadd C dL_law_873 (fun v743 e744 => ?_)
        have v743' := iadd_ok e744 (by omega) (by omega)
        refine r_sldj 1 C hX hbl hbz (by omega) (by omega) dL_law_874 ?_
        refine callVI C cwL_113_V (ctX11_seed_114 _ _ w738 (sS sM h742) (h740.I (by decide) g24) (xf 1) ) (by decide) (kS sM h742 kc_114) rfl rfl rfl (Nat.le_of_ble_eq_true rfl) (by decide) dL_law_875 (fun r747 w746 y745 => ?_)
        show V x 145 11604 w746 878 [(3, .int 0), (2, .ref (gz (xG x) + 114)), (1, .ref (gz (xG x) + 0)), (0, .ref b)] [.int r747, .int r739]
        obtain ⟨h748, g749⟩ := y745
        have h750 := Ch.tr h742 h748 (by decide)
        refine r_icmp_eq 929 C dL_law_878 (by decide) (fun c751 => ?_) (fun c751 => ?_)
        · have c751' := i_eq c751
          obtain ⟨i752, e753⟩ : ∃ z : Int32, 0 + Int32.ofInt 5 = z := ⟨_, rfl⟩
          have i752' := iinc_ok e753 (by decide) (by omega) (by omega)
          obtain rfl : i752 = 5 := i_of (by omega)
          refine r_iinc [(3, .int 5), (2, .ref (gz (xG x) + 114)), (1, .ref (gz (xG x) + 0)), (0, .ref b)] 0 C dL_law_929 rfl e753 (by decide) rfl ?_
          refine r_goto 18 C dL_law_932 (by decide) ?_
          refine r_iload_n 0 C dL_law_18 rfl ?_
          refine r_aload_n 3 C dL_law_19 rfl ?_
          refine r_slen C hX hbl hbz dL_law_20 ?_
          rw [← hn0]
          refine r_iconst (v := 5) C dL_law_21 (by decide) ?_
          refine r_isub C dL_law_22 (fun v754 e755 => ?_)
          have v754' := isub_ok e755 (by omega) (by omega)
          refine r_icmp_gt 935 C dL_law_23 (by decide) (fun c756 => ?_) (fun c756 => ?_)
          · have c756' := i_lt c756
            refine r_iconst (v := 1) C dL_law_935 (by decide) ?_
            exact hret _ _ _ _ _ dL_law_936 (by decide) (by decide)
          · have c756' := i_nlt c756
            exfalso; omega
        · have c751' := i_ne c751
          exfalso; omega
      · refine r_tabIn 883 C dL_law_32 (by omega) (by omega) (by rw [c106]; rfl) (by decide) ?_
        refine r_aload_n 2 C dL_law_883 rfl ?_
        refine r_aload_n 3 C dL_law_884 rfl ?_
        refine r_iload_n 0 C dL_law_885 rfl ?_
        refine r_iconst (v := 1) C dL_law_886 (by decide) ?_
        refine r_iadd C dL_law_887 (fun v757 e758 => ?_)
        have v757' := iadd_ok e758 (by omega) (by omega)
        refine r_sldj 1 C hX hbl hbz (by omega) (by omega) dL_law_888 ?_
        refine callVI C cwL_114_V (ctX10_keep_0 _ _ w3 (sS sC h0) g0 (xf 1) ) (by decide) (kS sC h0 kc_0) rfl rfl rfl (Nat.le_of_ble_eq_true rfl) (by decide) dL_law_889 (fun r761 w760 y759 => ?_)
        show V x 145 11604 w760 892 [(3, .int 0), (2, .ref (gz (xG x) + 114)), (1, .ref (gz (xG x) + 0)), (0, .ref b)] [.int r761]
        obtain ⟨h762, g763⟩ := y759
        have h764 := Ch.tr h0 h762 (by decide)
        refine r_aload_n 1 C dL_law_892 rfl ?_
        refine r_aload_n 3 C dL_law_893 rfl ?_
        refine r_iload_n 0 C dL_law_894 rfl ?_
        refine r_iconst (v := 1) C dL_law_895 (by decide) ?_
        refine r_iadd C dL_law_896 (fun v765 e766 => ?_)
        have v765' := iadd_ok e766 (by omega) (by omega)
        refine r_sldj 1 C hX hbl hbz (by omega) (by omega) dL_law_897 ?_
        refine callVI C cwL_117_V (ctX11_keep_114 _ _ w760 (sS sM h764)  (xf 1) ) (by decide) (kS sM h764 kc_114) rfl rfl rfl (Nat.le_of_ble_eq_true rfl) (by decide) dL_law_898 (fun r769 w768 y767 => ?_)
        show V x 145 11604 w768 901 [(3, .int 0), (2, .ref (gz (xG x) + 114)), (1, .ref (gz (xG x) + 0)), (0, .ref b)] [.int r769, .int r761]
        obtain ⟨h770, g771⟩ := y767
        have h772 := Ch.tr h764 h770 (by decide)
        refine r_icmp_eq 929 C dL_law_901 (by decide) (fun c773 => ?_) (fun c773 => ?_)
        · have c773' := i_eq c773
          obtain ⟨i774, e775⟩ : ∃ z : Int32, 0 + Int32.ofInt 5 = z := ⟨_, rfl⟩
          have i774' := iinc_ok e775 (by decide) (by omega) (by omega)
          obtain rfl : i774 = 5 := i_of (by omega)
          refine r_iinc [(3, .int 5), (2, .ref (gz (xG x) + 114)), (1, .ref (gz (xG x) + 0)), (0, .ref b)] 0 C dL_law_929 rfl e775 (by decide) rfl ?_
          refine r_goto 18 C dL_law_932 (by decide) ?_
          refine r_iload_n 0 C dL_law_18 rfl ?_
          refine r_aload_n 3 C dL_law_19 rfl ?_
          refine r_slen C hX hbl hbz dL_law_20 ?_
          rw [← hn0]
          refine r_iconst (v := 5) C dL_law_21 (by decide) ?_
          refine r_isub C dL_law_22 (fun v776 e777 => ?_)
          have v776' := isub_ok e777 (by omega) (by omega)
          refine r_icmp_gt 935 C dL_law_23 (by decide) (fun c778 => ?_) (fun c778 => ?_)
          · have c778' := i_lt c778
            refine r_iconst (v := 1) C dL_law_935 (by decide) ?_
            exact hret _ _ _ _ _ dL_law_936 (by decide) (by decide)
          · have c778' := i_nlt c778
            exfalso; omega
        · have c773' := i_ne c773
          exfalso; omega
      · refine r_tabIn 906 C dL_law_32 (by omega) (by omega) (by rw [c106]; rfl) (by decide) ?_
        refine r_aload_n 2 C dL_law_906 rfl ?_
        refine r_aload_n 3 C dL_law_907 rfl ?_
        refine r_iload_n 0 C dL_law_908 rfl ?_
        refine r_iconst (v := 1) C dL_law_909 (by decide) ?_
        refine r_iadd C dL_law_910 (fun v779 e780 => ?_)
        have v779' := iadd_ok e780 (by omega) (by omega)
        refine r_sldj 1 C hX hbl hbz (by omega) (by omega) dL_law_911 ?_
        refine callVI C cwL_118_V (ctX10_goBack_0 _ _ w3 (sS sC h0) g13 g14 (xf 1) ) (by decide) (kS sC h0 kc_0) rfl rfl rfl (Nat.le_of_ble_eq_true rfl) (by decide) dL_law_912 (fun r783 w782 y781 => ?_)
        show V x 145 11604 w782 915 [(3, .int 0), (2, .ref (gz (xG x) + 114)), (1, .ref (gz (xG x) + 0)), (0, .ref b)] [.int r783]
        obtain ⟨h784, g785⟩ := y781
        have h786 := Ch.tr h0 h784 (by decide)
        refine r_aload_n 1 C dL_law_915 rfl ?_
        refine r_aload_n 3 C dL_law_916 rfl ?_
        refine r_iload_n 0 C dL_law_917 rfl ?_
        refine r_iconst (v := 1) C dL_law_918 (by decide) ?_
        refine r_iadd C dL_law_919 (fun v787 e788 => ?_)
        have v787' := iadd_ok e788 (by omega) (by omega)
        refine r_sldj 1 C hX hbl hbz (by omega) (by omega) dL_law_920 ?_
        refine callVI C cwL_121_V (ctX11_goBack_114 _ _ w782 (sS sM h786) (h784.I (by decide) g25) (h784.I (by decide) g26) (xf 1) ) (by decide) (kS sM h786 kc_114) rfl rfl rfl (Nat.le_of_ble_eq_true rfl) (by decide) dL_law_921 (fun r791 w790 y789 => ?_)
        show V x 145 11604 w790 924 [(3, .int 0), (2, .ref (gz (xG x) + 114)), (1, .ref (gz (xG x) + 0)), (0, .ref b)] [.int r791, .int r783]
        obtain ⟨h792, g793⟩ := y789
        have h794 := Ch.tr h786 h792 (by decide)
        refine r_icmp_eq 929 C dL_law_924 (by decide) (fun c795 => ?_) (fun c795 => ?_)
        · have c795' := i_eq c795
          obtain ⟨i796, e797⟩ : ∃ z : Int32, 0 + Int32.ofInt 5 = z := ⟨_, rfl⟩
          have i796' := iinc_ok e797 (by decide) (by omega) (by omega)
          obtain rfl : i796 = 5 := i_of (by omega)
          refine r_iinc [(3, .int 5), (2, .ref (gz (xG x) + 114)), (1, .ref (gz (xG x) + 0)), (0, .ref b)] 0 C dL_law_929 rfl e797 (by decide) rfl ?_
          refine r_goto 18 C dL_law_932 (by decide) ?_
          refine r_iload_n 0 C dL_law_18 rfl ?_
          refine r_aload_n 3 C dL_law_19 rfl ?_
          refine r_slen C hX hbl hbz dL_law_20 ?_
          rw [← hn0]
          refine r_iconst (v := 5) C dL_law_21 (by decide) ?_
          refine r_isub C dL_law_22 (fun v798 e799 => ?_)
          have v798' := isub_ok e799 (by omega) (by omega)
          refine r_icmp_gt 935 C dL_law_23 (by decide) (fun c800 => ?_) (fun c800 => ?_)
          · have c800' := i_lt c800
            refine r_iconst (v := 1) C dL_law_935 (by decide) ?_
            exact hret _ _ _ _ _ dL_law_936 (by decide) (by decide)
          · have c800' := i_nlt c800
            exfalso; omega
        · have c795' := i_ne c795
          exfalso; omega
