def VM : Wv := nX11 (addK WC112 (11, .inl fX11)) 114 115
theorem strC_M : Str KC XC VM := ⟨by decide +kernel, by decide +kernel⟩
theorem strM_M : Str KM XM VM := ⟨by decide +kernel, by decide +kernel⟩
set_option maxHeartbeats 4000000 in
set_option maxRecDepth 100000 in
theorem law_walk (x : Ct) (b Ls : Nat) (xf : Nat → Int32) (C : Cx x cL_law 4 RL room_1) (hX : va_X b Ls xf (xs x) (xs x).heap) (hbl : b < (xs x).heap.size) (hbz : b < gz (xG x)) (hL : Ls ≤ 5) (hret : ∀ (cells slots : Nat) (w : Wv) (pc : Nat) (lv : List (Nat × Value)), decode cL_law pc = .ok (.ireturn, 1) → cells ≤ 600000 → slots ≤ 7302250 → V x cells slots w pc lv [.int 1]) : V x 0 0 w00 0 [(0, .ref b)] [] := by
  obtain ⟨n0, hn0⟩ : ∃ z : Int32, z = Int32.ofNat Ls := ⟨_, rfl⟩
  have n0' : n0.toInt = (Ls : Int) := by rw [hn0]; exact nI_toInt (by omega)
  have qm1 : ((-1) : Int32).toInt = (-1) := by decide
  have q0 : (0 : Int32).toInt = 0 := by decide
  have q1 : (1 : Int32).toInt = 1 := by decide
  have q2 : (2 : Int32).toInt = 2 := by decide
  have q3 : (3 : Int32).toInt = 3 := by decide
  have q4 : (4 : Int32).toInt = 4 := by decide
  have q5 : (5 : Int32).toInt = 5 := by decide
  have q31 : (31 : Int32).toInt = 31 := by decide
  have q32 : (32 : Int32).toInt = 32 := by decide
  have ql4294967295 : (4294967295 : Int64).toInt = 4294967295 := by decide
  refine r_new (ci := 10) C rfl inX10 tyX10 tyX10_ok mw1_18 mw1_19 mw1_1 fX10 dfX10 (by decide) (by decide) dL_law_0 (fun w0 e0 => ?_)
  rw [show (wK w00).length = 0 from rfl]
  subst e0; show V x 1 15 WC0 3 [(0, .ref b)] [.ref (gz (xG x) + 0)]
  refine r_dup C dL_law_3 rfl ?_
  refine callIV C cwL_9_I (cnX10_0 _ _) (by decide) rfl rfl (Nat.le_of_ble_eq_true rfl) (by decide) dL_law_4 (fun w1 y1 => ?_)
  show V x 114 8864 w1 7 [(0, .ref b)] [.ref (gz (xG x) + 0)]
  obtain ⟨h1, z0, z1, z2, z3, z4, z5, z6, z7⟩ := y1
  refine r_astore_n [(1, .ref (gz (xG x) + 0)), (0, .ref b)] C dL_law_7 (by decide) rfl ?_
  have l1 : (wK w1).length = 114 := by rw [h1.1]; decide +kernel
  refine r_new (ci := 11) C rfl inX11 tyX11 tyX11_ok mw5_50 mw5_51 mw1_13 fX11 dfX11 (by decide) (by decide) dL_law_8 (fun w2 e2 => ?_)
  rw [l1]
  show V x 115 8922 w2 11 [(1, .ref (gz (xG x) + 0)), (0, .ref b)] [.ref (gz (xG x) + 114)]
  refine r_dup C dL_law_11 rfl ?_
  have l2 : (wK w2).length = 115 := len_add e2 l1
  have k2 : (wK w2)[114]? = some (11, .inl fX11) := by subst e2; show (wK w1 ++ [_])[114]? = _; rw [List.getElem?_append_right (by rw [l1]; exact Nat.le_refl _), l1]; rfl
  refine callIV C cwL_12_I (cnX11 _ _ w2 114 115 k2 l2) (by decide) rfl rfl (Nat.le_of_ble_eq_true rfl) (by decide) dL_law_12 (fun w3 e3 => ?_)
  show V x 145 11604 w3 15 [(1, .ref (gz (xG x) + 0)), (0, .ref b)] [.ref (gz (xG x) + 114)]
  have h3 : Ch [21, 22, 26, 28, 29, 33, 35, 36, 37, 44, 47, 55, 104, 109] VM w3 := by subst e3; subst e2; exact ((((((((((((((((((((((((((((((((((((((((((((((((((((((((((((((((h1.cAdd).cAdd).cX).cAdd).cX).cAdd).cX).cAdd).cX).cAdd).cX).cAdd).cX).cAdd).cX).cI).cI).cAdd).cX).cAdd).cX).cAdd).cX).cAdd).cX).cI).cAdd).cX).cAdd).cX).cAdd).cX).cAdd).cX).cAdd).cX).cAdd).cX).cAdd).cX).cAdd).cX).cAdd).cX).cAdd).cX).cAdd).cX).cAdd).cX).cAdd).cX).cAdd).cX).cAdd).cX).cAdd).cX).cAdd).cX).cAdd).cX).cAdd).cX).cI
  have lo : Lo 114 w1 w3 := by subst e3; subst e2; exact (((((((((((((((((((((((((((((((((((((((((((((((((((((((((((((((((Lo.rf (N := 114) (L := 114) l1 (Nat.le_refl _)).cAdd).cAdd).cX).cAdd).cX).cAdd).cX).cAdd).cX).cAdd).cX).cAdd).cX).cAdd).cX).cI (by decide)).cI (by decide)).cAdd).cX).cAdd).cX).cAdd).cX).cAdd).cX).cI (by decide)).cAdd).cX).cAdd).cX).cAdd).cX).cAdd).cX).cAdd).cX).cAdd).cX).cAdd).cX).cAdd).cX).cAdd).cX).cAdd).cX).cAdd).cX).cAdd).cX).cAdd).cX).cAdd).cX).cAdd).cX).cAdd).cX).cAdd).cX).cAdd).cX).cAdd).cX).cI (by decide)
  have sC := sS strC_M h3
  have sM := sS strM_M h3
  have g0 : wI w3 3 3 = 0 := h3.I (by decide) (by decide +kernel)
  have g1 : wI w3 3 4 = 0 := h3.I (by decide) (by decide +kernel)
  have g2 : wI w3 3 0 = 0 := h3.I (by decide) (by decide +kernel)
  have g3 : wI w3 3 1 = 0 := h3.I (by decide) (by decide +kernel)
  have g4 : wI w3 21 0 = 0 := (lo.2 21 (by decide) 0).trans z0
  have g5 : wI w3 21 2 = 0 := (lo.2 21 (by decide) 2).trans z1
  have g6 : wI w3 21 3 = 0 := (lo.2 21 (by decide) 3).trans z2
  have g7 : wI w3 1 0 = 0 := h3.I (by decide) (by decide +kernel)
  have g8 : wI w3 1 2 = (-1) := h3.I (by decide) (by decide +kernel)
  have g9 : wI w3 44 0 = 0 := (lo.2 44 (by decide) 0).trans z4
  have g10 : wI w3 47 0 = 0 := (lo.2 47 (by decide) 0).trans z5
  have g11 : wI w3 35 1 = 0 := (lo.2 35 (by decide) 1).trans z3
  have g12 : wI w3 0 14 = 0 := h3.I (by decide) (by decide +kernel)
  have g13 : wI w3 104 0 = 0 := (lo.2 104 (by decide) 0).trans z6
  have g14 : wI w3 109 0 = 0 := (lo.2 109 (by decide) 0).trans z7
  have g15 : wI w3 114 0 = 0 := h3.I (by decide) (by decide +kernel)
  have g16 : wI w3 114 1 = 0 := h3.I (by decide) (by decide +kernel)
  have g17 : wI w3 114 3 = 0 := h3.I (by decide) (by decide +kernel)
  have g18 : wI w3 114 8 = 0 := h3.I (by decide) (by decide +kernel)
  have g19 : wI w3 114 20 = 0 := h3.I (by decide) (by decide +kernel)
  have g20 : wI w3 114 21 = (-1) := h3.I (by decide) (by decide +kernel)
  have g21 : wI w3 114 49 = 0 := h3.I (by decide) (by decide +kernel)
  have g22 : wI w3 114 52 = 0 := h3.I (by decide) (by decide +kernel)
  have g23 : wI w3 114 17 = 0 := h3.I (by decide) (by decide +kernel)
  have g24 : wI w3 114 18 = 0 := h3.I (by decide) (by decide +kernel)
  have g25 : wI w3 144 0 = 0 := h3.I (by decide) (by decide +kernel)
  have g26 : wI w3 144 1 = 0 := h3.I (by decide) (by decide +kernel)
  clear h1 z0 z1 z2 z3 z4 z5 z6 z7 l1 l2 k2 lo e3
  have h0 : Ch [0, 1, 2, 3, 4, 5, 6, 7, 8, 9, 10, 11, 12, 13, 14, 15, 16, 17, 18, 19, 20, 21, 22, 23, 24, 25, 26, 27, 28, 29, 30, 31, 32, 33, 34, 35, 36, 37, 38, 39, 40, 41, 42, 43, 44, 45, 46, 47, 48, 49, 50, 51, 52, 53, 54, 55, 56, 57, 58, 59, 60, 61, 62, 63, 64, 65, 66, 67, 68, 69, 70, 71, 72, 73, 74, 75, 76, 77, 78, 79, 80, 81, 82, 83, 84, 85, 86, 87, 88, 89, 90, 91, 92, 93, 94, 95, 96, 97, 98, 99, 100, 101, 102, 103, 104, 105, 106, 107, 108, 109, 110, 111, 112, 113, 114, 115, 116, 117, 118, 119, 120, 121, 122, 123, 124, 125, 126, 127, 128, 129, 130, 131, 132, 133, 134, 135, 136, 137, 138, 139, 140, 141, 142, 143, 144] w3 w3 := Ch.rf
  refine r_astore_n [(2, .ref (gz (xG x) + 114)), (1, .ref (gz (xG x) + 0)), (0, .ref b)] C dL_law_15 (by decide) rfl ?_
  refine r_iconst (v := 0) C dL_law_16 (by decide) ?_
  refine r_istore_n [(3, .int 0), (2, .ref (gz (xG x) + 114)), (1, .ref (gz (xG x) + 0)), (0, .ref b)] C dL_law_17 (by decide) rfl ?_
  refine r_iload_n 0 C dL_law_18 rfl ?_
  refine r_aload_n 3 C dL_law_19 rfl ?_
  refine r_slen C hX hbl hbz dL_law_20 ?_
  rw [← hn0]
  refine r_iconst (v := 5) C dL_law_21 (by decide) ?_
  refine r_isub C dL_law_22 (fun v101 e102 => ?_)
  have v101' := isub_ok e102 (by omega) (by omega)
  refine r_icmp_gt 935 C dL_law_23 (by decide) (fun c103 => ?_) (fun c103 => ?_)
  · have c103' := i_lt c103
    refine r_iconst (v := 1) C dL_law_935 (by decide) ?_
    exact hret _ _ _ _ _ dL_law_936 (by decide) (by decide)
  · have c103' := i_nlt c103
    refine r_aload_n 3 C dL_law_26 rfl ?_
    refine r_iload_n 0 C dL_law_27 rfl ?_
    refine r_sld C hX hbl hbz (vin (by omega) (by omega)) dL_law_28 (fun v104 => ?_)
    refine r_bipush (v := 31) C dL_law_29 (by decide) ?_
    refine r_iand C dL_law_31 (fun v105 e106 => ?_)
    by_cases c107 : v105.toInt < 0 ∨ 24 < v105.toInt
    · refine r_tabOut 929 C dL_law_32 c107 (by decide) ?_
      obtain ⟨i108, e109⟩ : ∃ z : Int32, 0 + Int32.ofInt 5 = z := ⟨_, rfl⟩
      have i108' := iinc_ok e109 (by decide) (by omega) (by omega)
      obtain rfl : i108 = 5 := i_of (by omega)
      refine r_iinc [(3, .int 5), (2, .ref (gz (xG x) + 114)), (1, .ref (gz (xG x) + 0)), (0, .ref b)] 0 C dL_law_929 rfl e109 (by decide) rfl ?_
      refine r_goto 18 C dL_law_932 (by decide) ?_
      refine r_iload_n 0 C dL_law_18 rfl ?_
      refine r_aload_n 3 C dL_law_19 rfl ?_
      refine r_slen C hX hbl hbz dL_law_20 ?_
      rw [← hn0]
      refine r_iconst (v := 5) C dL_law_21 (by decide) ?_
      refine r_isub C dL_law_22 (fun v110 e111 => ?_)
      have v110' := isub_ok e111 (by omega) (by omega)
      refine r_icmp_gt 935 C dL_law_23 (by decide) (fun c112 => ?_) (fun c112 => ?_)
      · have c112' := i_lt c112
        refine r_iconst (v := 1) C dL_law_935 (by decide) ?_
        exact hret _ _ _ _ _ dL_law_936 (by decide) (by decide)
      · have c112' := i_nlt c112
        exfalso; omega
    · rcases (show v105.toInt = 0 ∨ v105.toInt = 1 ∨ v105.toInt = 2 ∨ v105.toInt = 3 ∨ v105.toInt = 4 ∨ v105.toInt = 5 ∨ v105.toInt = 6 ∨ v105.toInt = 7 ∨ v105.toInt = 8 ∨ v105.toInt = 9 ∨ v105.toInt = 10 ∨ v105.toInt = 11 ∨ v105.toInt = 12 ∨ v105.toInt = 13 ∨ v105.toInt = 14 ∨ v105.toInt = 15 ∨ v105.toInt = 16 ∨ v105.toInt = 17 ∨ v105.toInt = 18 ∨ v105.toInt = 19 ∨ v105.toInt = 20 ∨ v105.toInt = 21 ∨ v105.toInt = 22 ∨ v105.toInt = 23 ∨ v105.toInt = 24 by omega) with c107 | c107 | c107 | c107 | c107 | c107 | c107 | c107 | c107 | c107 | c107 | c107 | c107 | c107 | c107 | c107 | c107 | c107 | c107 | c107 | c107 | c107 | c107 | c107 | c107
      · refine r_tabIn 148 C dL_law_32 (by omega) (by omega) (by rw [c107]; rfl) (by decide) ?_
        refine r_aload_n 2 C dL_law_148 rfl ?_
        refine r_aload_n 3 C dL_law_149 rfl ?_
        refine r_iload_n 0 C dL_law_150 rfl ?_
        refine r_iconst (v := 1) C dL_law_151 (by decide) ?_
        refine r_iadd C dL_law_152 (fun v113 e114 => ?_)
        have v113' := iadd_ok e114 (by omega) (by omega)
        refine r_sld C hX hbl hbz (vin (by omega) (by omega)) dL_law_153 (fun v115 => ?_)
        refine r_aload_n 3 C dL_law_154 rfl ?_
        refine r_iload_n 0 C dL_law_155 rfl ?_
        refine r_iconst (v := 2) C dL_law_156 (by decide) ?_
        refine r_iadd C dL_law_157 (fun v116 e117 => ?_)
        have v116' := iadd_ok e117 (by omega) (by omega)
        refine r_sld C hX hbl hbz (vin (by omega) (by omega)) dL_law_158 (fun v118 => ?_)
        refine r_i2l C dL_law_159 (fun v119 e120 => ?_)
        have v119' := i2l_ok e120
        refine r_bipush (v := 32) C dL_law_160 (by decide) ?_
        refine r_lshl C dL_law_162 (fun v121 e122 => ?_)
        refine r_aload_n 3 C dL_law_163 rfl ?_
        refine r_iload_n 0 C dL_law_164 rfl ?_
        refine r_iconst (v := 3) C dL_law_165 (by decide) ?_
        refine r_iadd C dL_law_166 (fun v123 e124 => ?_)
        have v123' := iadd_ok e124 (by omega) (by omega)
        refine r_sld C hX hbl hbz (vin (by omega) (by omega)) dL_law_167 (fun v125 => ?_)
        refine r_i2l C dL_law_168 (fun v126 e127 => ?_)
        have v126' := i2l_ok e127
        refine r_ldc2 C mw7_66 dL_law_169 ?_
        refine r_land C dL_law_172 (fun v128 e129 => ?_)
        refine r_lor C dL_law_173 (fun v130 e131 => ?_)
        refine callVI C cwL_15_V (ctX10_feed_0 _ _ w3 (sS sC h0) g7 v115 v130 ) (by decide) (kS sC h0 kc_0) rfl rfl rfl (Nat.le_of_ble_eq_true rfl) (by decide) dL_law_174 (fun r134 w133 y132 => ?_)
        show V x 145 11604 w133 177 [(3, .int 0), (2, .ref (gz (xG x) + 114)), (1, .ref (gz (xG x) + 0)), (0, .ref b)] [.int r134]
        obtain ⟨h135, g136⟩ := y132
        have h137 := Ch.tr h0 h135 (by decide)
        refine r_aload_n 1 C dL_law_177 rfl ?_
        refine r_aload_n 3 C dL_law_178 rfl ?_
        refine r_iload_n 0 C dL_law_179 rfl ?_
        refine r_iconst (v := 1) C dL_law_180 (by decide) ?_
        refine r_iadd C dL_law_181 (fun v138 e139 => ?_)
        have v138' := iadd_ok e139 (by omega) (by omega)
        refine r_sld C hX hbl hbz (vin (by omega) (by omega)) dL_law_182 (fun v140 => ?_)
        refine r_aload_n 3 C dL_law_183 rfl ?_
        refine r_iload_n 0 C dL_law_184 rfl ?_
        refine r_iconst (v := 2) C dL_law_185 (by decide) ?_
        refine r_iadd C dL_law_186 (fun v141 e142 => ?_)
        have v141' := iadd_ok e142 (by omega) (by omega)
        refine r_sld C hX hbl hbz (vin (by omega) (by omega)) dL_law_187 (fun v143 => ?_)
        refine r_i2l C dL_law_188 (fun v144 e145 => ?_)
        have v144' := i2l_ok e145
        refine r_bipush (v := 32) C dL_law_189 (by decide) ?_
        refine r_lshl C dL_law_191 (fun v146 e147 => ?_)
        refine r_aload_n 3 C dL_law_192 rfl ?_
        refine r_iload_n 0 C dL_law_193 rfl ?_
        refine r_iconst (v := 3) C dL_law_194 (by decide) ?_
        refine r_iadd C dL_law_195 (fun v148 e149 => ?_)
        have v148' := iadd_ok e149 (by omega) (by omega)
        refine r_sld C hX hbl hbz (vin (by omega) (by omega)) dL_law_196 (fun v150 => ?_)
        refine r_i2l C dL_law_197 (fun v151 e152 => ?_)
        have v151' := i2l_ok e152
        refine r_ldc2 C mw7_66 dL_law_198 ?_
        refine r_land C dL_law_201 (fun v153 e154 => ?_)
        refine r_lor C dL_law_202 (fun v155 e156 => ?_)
        refine callVI C cwL_19_V (ctX11_feed_114 _ _ w133 (sS sM h137) (h135.I (by decide) g19) v140 v155 ) (by decide) (kS sM h137 kc_114) rfl rfl rfl (Nat.le_of_ble_eq_true rfl) (by decide) dL_law_203 (fun r159 w158 y157 => ?_)
        show V x 145 11604 w158 206 [(3, .int 0), (2, .ref (gz (xG x) + 114)), (1, .ref (gz (xG x) + 0)), (0, .ref b)] [.int r159, .int r134]
        obtain ⟨h160, g161⟩ := y157
        have h162 := Ch.tr h137 h160 (by decide)
        refine r_icmp_eq 929 C dL_law_206 (by decide) (fun c163 => ?_) (fun c163 => ?_)
        · have c163' := i_eq c163
          obtain ⟨i164, e165⟩ : ∃ z : Int32, 0 + Int32.ofInt 5 = z := ⟨_, rfl⟩
          have i164' := iinc_ok e165 (by decide) (by omega) (by omega)
          obtain rfl : i164 = 5 := i_of (by omega)
          refine r_iinc [(3, .int 5), (2, .ref (gz (xG x) + 114)), (1, .ref (gz (xG x) + 0)), (0, .ref b)] 0 C dL_law_929 rfl e165 (by decide) rfl ?_
          refine r_goto 18 C dL_law_932 (by decide) ?_
          refine r_iload_n 0 C dL_law_18 rfl ?_
          refine r_aload_n 3 C dL_law_19 rfl ?_
          refine r_slen C hX hbl hbz dL_law_20 ?_
          rw [← hn0]
          refine r_iconst (v := 5) C dL_law_21 (by decide) ?_
          refine r_isub C dL_law_22 (fun v166 e167 => ?_)
          have v166' := isub_ok e167 (by omega) (by omega)
          refine r_icmp_gt 935 C dL_law_23 (by decide) (fun c168 => ?_) (fun c168 => ?_)
          · have c168' := i_lt c168
            refine r_iconst (v := 1) C dL_law_935 (by decide) ?_
            exact hret _ _ _ _ _ dL_law_936 (by decide) (by decide)
          · have c168' := i_nlt c168
            exfalso; omega
        · have c163' := i_ne c163
          exfalso; omega
      · refine r_tabIn 211 C dL_law_32 (by omega) (by omega) (by rw [c107]; rfl) (by decide) ?_
        refine r_aload_n 2 C dL_law_211 rfl ?_
        refine callVI C cwL_20_V (ctX10_town_0 _ _ w3 (sS sC h0) g7  ) (by decide) (kS sC h0 kc_0) rfl rfl rfl (Nat.le_of_ble_eq_true rfl) (by decide) dL_law_212 (fun r171 w170 y169 => ?_)
        show V x 145 11604 w170 215 [(3, .int 0), (2, .ref (gz (xG x) + 114)), (1, .ref (gz (xG x) + 0)), (0, .ref b)] [.int r171]
        obtain ⟨h172, g173⟩ := y169
        have h174 := Ch.tr h0 h172 (by decide)
        refine r_aload_n 1 C dL_law_215 rfl ?_
        refine callVI C cwL_24_V (ctX11_town_114 _ _ w170 (sS sM h174) (h172.I (by decide) g19)  ) (by decide) (kS sM h174 kc_114) rfl rfl rfl (Nat.le_of_ble_eq_true rfl) (by decide) dL_law_216 (fun r177 w176 y175 => ?_)
        show V x 145 11604 w176 219 [(3, .int 0), (2, .ref (gz (xG x) + 114)), (1, .ref (gz (xG x) + 0)), (0, .ref b)] [.int r177, .int r171]
        obtain ⟨h178, g179⟩ := y175
        have h180 := Ch.tr h174 h178 (by decide)
        refine r_icmp_eq 929 C dL_law_219 (by decide) (fun c181 => ?_) (fun c181 => ?_)
        · have c181' := i_eq c181
          obtain ⟨i182, e183⟩ : ∃ z : Int32, 0 + Int32.ofInt 5 = z := ⟨_, rfl⟩
          have i182' := iinc_ok e183 (by decide) (by omega) (by omega)
          obtain rfl : i182 = 5 := i_of (by omega)
          refine r_iinc [(3, .int 5), (2, .ref (gz (xG x) + 114)), (1, .ref (gz (xG x) + 0)), (0, .ref b)] 0 C dL_law_929 rfl e183 (by decide) rfl ?_
          refine r_goto 18 C dL_law_932 (by decide) ?_
          refine r_iload_n 0 C dL_law_18 rfl ?_
          refine r_aload_n 3 C dL_law_19 rfl ?_
          refine r_slen C hX hbl hbz dL_law_20 ?_
          rw [← hn0]
          refine r_iconst (v := 5) C dL_law_21 (by decide) ?_
          refine r_isub C dL_law_22 (fun v184 e185 => ?_)
          have v184' := isub_ok e185 (by omega) (by omega)
          refine r_icmp_gt 935 C dL_law_23 (by decide) (fun c186 => ?_) (fun c186 => ?_)
          · have c186' := i_lt c186
            refine r_iconst (v := 1) C dL_law_935 (by decide) ?_
            exact hret _ _ _ _ _ dL_law_936 (by decide) (by decide)
          · have c186' := i_nlt c186
            exfalso; omega
        · have c181' := i_ne c181
          exfalso; omega
      · refine r_tabIn 224 C dL_law_32 (by omega) (by omega) (by rw [c107]; rfl) (by decide) ?_
        refine r_aload_n 2 C dL_law_224 rfl ?_
        refine callVI C cwL_25_V (ctX10_fault_0 _ _ w3 (sS sC h0) g8  ) (by decide) (kS sC h0 kc_0) rfl rfl rfl (Nat.le_of_ble_eq_true rfl) (by decide) dL_law_225 (fun r189 w188 y187 => ?_)
        show V x 145 11604 w188 228 [(3, .int 0), (2, .ref (gz (xG x) + 114)), (1, .ref (gz (xG x) + 0)), (0, .ref b)] [.int r189]
        obtain ⟨h190, g191⟩ := y187
        have h192 := Ch.tr h0 h190 (by decide)
        refine r_aload_n 1 C dL_law_228 rfl ?_
        refine callVI C cwL_28_V (ctX11_fault_114 _ _ w188 (sS sM h192) (h190.I (by decide) g20)  ) (by decide) (kS sM h192 kc_114) rfl rfl rfl (Nat.le_of_ble_eq_true rfl) (by decide) dL_law_229 (fun r195 w194 y193 => ?_)
        show V x 145 11604 w194 232 [(3, .int 0), (2, .ref (gz (xG x) + 114)), (1, .ref (gz (xG x) + 0)), (0, .ref b)] [.int r195, .int r189]
        obtain ⟨h196, g197⟩ := y193
        have h198 := Ch.tr h192 h196 (by decide)
        refine r_icmp_eq 929 C dL_law_232 (by decide) (fun c199 => ?_) (fun c199 => ?_)
        · have c199' := i_eq c199
          obtain ⟨i200, e201⟩ : ∃ z : Int32, 0 + Int32.ofInt 5 = z := ⟨_, rfl⟩
          have i200' := iinc_ok e201 (by decide) (by omega) (by omega)
          obtain rfl : i200 = 5 := i_of (by omega)
          refine r_iinc [(3, .int 5), (2, .ref (gz (xG x) + 114)), (1, .ref (gz (xG x) + 0)), (0, .ref b)] 0 C dL_law_929 rfl e201 (by decide) rfl ?_
          refine r_goto 18 C dL_law_932 (by decide) ?_
          refine r_iload_n 0 C dL_law_18 rfl ?_
          refine r_aload_n 3 C dL_law_19 rfl ?_
          refine r_slen C hX hbl hbz dL_law_20 ?_
          rw [← hn0]
          refine r_iconst (v := 5) C dL_law_21 (by decide) ?_
          refine r_isub C dL_law_22 (fun v202 e203 => ?_)
          have v202' := isub_ok e203 (by omega) (by omega)
          refine r_icmp_gt 935 C dL_law_23 (by decide) (fun c204 => ?_) (fun c204 => ?_)
          · have c204' := i_lt c204
            refine r_iconst (v := 1) C dL_law_935 (by decide) ?_
            exact hret _ _ _ _ _ dL_law_936 (by decide) (by decide)
          · have c204' := i_nlt c204
            exfalso; omega
        · have c199' := i_ne c199
          exfalso; omega
      · refine r_tabIn 237 C dL_law_32 (by omega) (by omega) (by rw [c107]; rfl) (by decide) ?_
        refine r_aload_n 2 C dL_law_237 rfl ?_
        refine r_aload_n 3 C dL_law_238 rfl ?_
        refine r_iload_n 0 C dL_law_239 rfl ?_
        refine r_iconst (v := 1) C dL_law_240 (by decide) ?_
        refine r_iadd C dL_law_241 (fun v205 e206 => ?_)
        have v205' := iadd_ok e206 (by omega) (by omega)
        refine r_sld C hX hbl hbz (vin (by omega) (by omega)) dL_law_242 (fun v207 => ?_)
        refine callVI C cwL_29_V (ctX10_told_0 _ _ w3 (sS sC h0) g2 g3 g0 g1 g7 g11 g4 g9 g10 v207 ) (by decide) (kS sC h0 kc_0) rfl rfl rfl (Nat.le_of_ble_eq_true rfl) (by decide) dL_law_243 (fun r210 w209 y208 => ?_)
        show V x 145 11604 w209 246 [(3, .int 0), (2, .ref (gz (xG x) + 114)), (1, .ref (gz (xG x) + 0)), (0, .ref b)] [.int r210]
        obtain ⟨h211, g212⟩ := y208
        have h213 := Ch.tr h0 h211 (by decide)
        refine r_aload_n 1 C dL_law_246 rfl ?_
        refine r_aload_n 3 C dL_law_247 rfl ?_
        refine r_iload_n 0 C dL_law_248 rfl ?_
        refine r_iconst (v := 1) C dL_law_249 (by decide) ?_
        refine r_iadd C dL_law_250 (fun v214 e215 => ?_)
        have v214' := iadd_ok e215 (by omega) (by omega)
        refine r_sld C hX hbl hbz (vin (by omega) (by omega)) dL_law_251 (fun v216 => ?_)
        refine callVI C cwL_33_V (ctX11_told_114 _ _ w209 (sS sM h213) (h211.I (by decide) g15) (h211.I (by decide) g16) (h211.I (by decide) g17) (h211.I (by decide) g18) (h211.I (by decide) g19) (h211.I (by decide) g23) (h211.I (by decide) g21) (h211.I (by decide) g22) v216 ) (by decide) (kS sM h213 kc_114) rfl rfl rfl (Nat.le_of_ble_eq_true rfl) (by decide) dL_law_252 (fun r219 w218 y217 => ?_)
        show V x 145 11604 w218 255 [(3, .int 0), (2, .ref (gz (xG x) + 114)), (1, .ref (gz (xG x) + 0)), (0, .ref b)] [.int r219, .int r210]
        obtain ⟨h220, g221⟩ := y217
        have h222 := Ch.tr h213 h220 (by decide)
        refine r_icmp_eq 929 C dL_law_255 (by decide) (fun c223 => ?_) (fun c223 => ?_)
        · have c223' := i_eq c223
          obtain ⟨i224, e225⟩ : ∃ z : Int32, 0 + Int32.ofInt 5 = z := ⟨_, rfl⟩
          have i224' := iinc_ok e225 (by decide) (by omega) (by omega)
          obtain rfl : i224 = 5 := i_of (by omega)
          refine r_iinc [(3, .int 5), (2, .ref (gz (xG x) + 114)), (1, .ref (gz (xG x) + 0)), (0, .ref b)] 0 C dL_law_929 rfl e225 (by decide) rfl ?_
          refine r_goto 18 C dL_law_932 (by decide) ?_
          refine r_iload_n 0 C dL_law_18 rfl ?_
          refine r_aload_n 3 C dL_law_19 rfl ?_
          refine r_slen C hX hbl hbz dL_law_20 ?_
          rw [← hn0]
          refine r_iconst (v := 5) C dL_law_21 (by decide) ?_
          refine r_isub C dL_law_22 (fun v226 e227 => ?_)
          have v226' := isub_ok e227 (by omega) (by omega)
          refine r_icmp_gt 935 C dL_law_23 (by decide) (fun c228 => ?_) (fun c228 => ?_)
          · have c228' := i_lt c228
            refine r_iconst (v := 1) C dL_law_935 (by decide) ?_
            exact hret _ _ _ _ _ dL_law_936 (by decide) (by decide)
          · have c228' := i_nlt c228
            exfalso; omega
        · have c223' := i_ne c223
          exfalso; omega
      · refine r_tabIn 260 C dL_law_32 (by omega) (by omega) (by rw [c107]; rfl) (by decide) ?_
        refine r_aload_n 2 C dL_law_260 rfl ?_
        refine r_aload_n 3 C dL_law_261 rfl ?_
        refine r_iload_n 0 C dL_law_262 rfl ?_
        refine r_iconst (v := 1) C dL_law_263 (by decide) ?_
        refine r_iadd C dL_law_264 (fun v229 e230 => ?_)
        have v229' := iadd_ok e230 (by omega) (by omega)
        refine r_sld C hX hbl hbz (vin (by omega) (by omega)) dL_law_265 (fun v231 => ?_)
        refine r_aload_n 3 C dL_law_266 rfl ?_
        refine r_iload_n 0 C dL_law_267 rfl ?_
        refine r_iconst (v := 2) C dL_law_268 (by decide) ?_
        refine r_iadd C dL_law_269 (fun v232 e233 => ?_)
        have v232' := iadd_ok e233 (by omega) (by omega)
        refine r_sld C hX hbl hbz (vin (by omega) (by omega)) dL_law_270 (fun v234 => ?_)
        refine callVI C cwL_34_V (ctX10_cell_0 _ _ w3 (sS sC h0) g5 g6 v231 v234 ) (by decide) (kS sC h0 kc_0) rfl rfl rfl (Nat.le_of_ble_eq_true rfl) (by decide) dL_law_271 (fun r237 w236 y235 => ?_)
        show V x 145 11604 w236 274 [(3, .int 0), (2, .ref (gz (xG x) + 114)), (1, .ref (gz (xG x) + 0)), (0, .ref b)] [.int r237]
        obtain ⟨h238, g239⟩ := y235
        have h240 := Ch.tr h0 h238 (by decide)
        refine r_aload_n 1 C dL_law_274 rfl ?_
        refine r_aload_n 3 C dL_law_275 rfl ?_
        refine r_iload_n 0 C dL_law_276 rfl ?_
        refine r_iconst (v := 1) C dL_law_277 (by decide) ?_
        refine r_iadd C dL_law_278 (fun v241 e242 => ?_)
        have v241' := iadd_ok e242 (by omega) (by omega)
        refine r_sld C hX hbl hbz (vin (by omega) (by omega)) dL_law_279 (fun v243 => ?_)
        refine r_aload_n 3 C dL_law_280 rfl ?_
        refine r_iload_n 0 C dL_law_281 rfl ?_
        refine r_iconst (v := 2) C dL_law_282 (by decide) ?_
        refine r_iadd C dL_law_283 (fun v244 e245 => ?_)
        have v244' := iadd_ok e245 (by omega) (by omega)
        refine r_sld C hX hbl hbz (vin (by omega) (by omega)) dL_law_284 (fun v246 => ?_)
        refine callVI C cwL_38_V (ctX11_cell_114 _ _ w236 (sS sM h240) (h238.I (by decide) g15) (h238.I (by decide) g16) v243 v246 ) (by decide) (kS sM h240 kc_114) rfl rfl rfl (Nat.le_of_ble_eq_true rfl) (by decide) dL_law_285 (fun r249 w248 y247 => ?_)
        show V x 145 11604 w248 288 [(3, .int 0), (2, .ref (gz (xG x) + 114)), (1, .ref (gz (xG x) + 0)), (0, .ref b)] [.int r249, .int r237]
        obtain ⟨h250, g251⟩ := y247
        have h252 := Ch.tr h240 h250 (by decide)
        refine r_icmp_eq 929 C dL_law_288 (by decide) (fun c253 => ?_) (fun c253 => ?_)
        · have c253' := i_eq c253
          obtain ⟨i254, e255⟩ : ∃ z : Int32, 0 + Int32.ofInt 5 = z := ⟨_, rfl⟩
          have i254' := iinc_ok e255 (by decide) (by omega) (by omega)
          obtain rfl : i254 = 5 := i_of (by omega)
          refine r_iinc [(3, .int 5), (2, .ref (gz (xG x) + 114)), (1, .ref (gz (xG x) + 0)), (0, .ref b)] 0 C dL_law_929 rfl e255 (by decide) rfl ?_
          refine r_goto 18 C dL_law_932 (by decide) ?_
          refine r_iload_n 0 C dL_law_18 rfl ?_
          refine r_aload_n 3 C dL_law_19 rfl ?_
          refine r_slen C hX hbl hbz dL_law_20 ?_
          rw [← hn0]
          refine r_iconst (v := 5) C dL_law_21 (by decide) ?_
          refine r_isub C dL_law_22 (fun v256 e257 => ?_)
          have v256' := isub_ok e257 (by omega) (by omega)
          refine r_icmp_gt 935 C dL_law_23 (by decide) (fun c258 => ?_) (fun c258 => ?_)
          · have c258' := i_lt c258
            refine r_iconst (v := 1) C dL_law_935 (by decide) ?_
            exact hret _ _ _ _ _ dL_law_936 (by decide) (by decide)
          · have c258' := i_nlt c258
            exfalso; omega
        · have c253' := i_ne c253
          exfalso; omega
      · refine r_tabIn 293 C dL_law_32 (by omega) (by omega) (by rw [c107]; rfl) (by decide) ?_
        refine r_aload_n 2 C dL_law_293 rfl ?_
        refine r_aload_n 3 C dL_law_294 rfl ?_
        refine r_iload_n 0 C dL_law_295 rfl ?_
        refine r_iconst (v := 1) C dL_law_296 (by decide) ?_
        refine r_iadd C dL_law_297 (fun v259 e260 => ?_)
        have v259' := iadd_ok e260 (by omega) (by omega)
        refine r_sld C hX hbl hbz (vin (by omega) (by omega)) dL_law_298 (fun v261 => ?_)
        refine r_aload_n 3 C dL_law_299 rfl ?_
        refine r_iload_n 0 C dL_law_300 rfl ?_
        refine r_iconst (v := 2) C dL_law_301 (by decide) ?_
        refine r_iadd C dL_law_302 (fun v262 e263 => ?_)
        have v262' := iadd_ok e263 (by omega) (by omega)
        refine r_sld C hX hbl hbz (vin (by omega) (by omega)) dL_law_303 (fun v264 => ?_)
        refine callVI C cwL_39_V (ctX10_crowd_0 _ _ w3 (sS sC h0) g0 v261 v264 ) (by decide) (kS sC h0 kc_0) rfl rfl rfl (Nat.le_of_ble_eq_true rfl) (by decide) dL_law_304 (fun r267 w266 y265 => ?_)
        show V x 145 11604 w266 307 [(3, .int 0), (2, .ref (gz (xG x) + 114)), (1, .ref (gz (xG x) + 0)), (0, .ref b)] [.int r267]
        obtain ⟨h268, g269⟩ := y265
        have h270 := Ch.tr h0 h268 (by decide)
        refine r_aload_n 1 C dL_law_307 rfl ?_
        refine r_aload_n 3 C dL_law_308 rfl ?_
        refine r_iload_n 0 C dL_law_309 rfl ?_
        refine r_iconst (v := 1) C dL_law_310 (by decide) ?_
        refine r_iadd C dL_law_311 (fun v271 e272 => ?_)
        have v271' := iadd_ok e272 (by omega) (by omega)
        refine r_sld C hX hbl hbz (vin (by omega) (by omega)) dL_law_312 (fun v273 => ?_)
        refine r_aload_n 3 C dL_law_313 rfl ?_
        refine r_iload_n 0 C dL_law_314 rfl ?_
        refine r_iconst (v := 2) C dL_law_315 (by decide) ?_
        refine r_iadd C dL_law_316 (fun v274 e275 => ?_)
        have v274' := iadd_ok e275 (by omega) (by omega)
        refine r_sld C hX hbl hbz (vin (by omega) (by omega)) dL_law_317 (fun v276 => ?_)
        refine callVI C cwL_42_V (ctX11_crowd_114 _ _ w266 (sS sM h270) (h268.I (by decide) g17) v273 v276 ) (by decide) (kS sM h270 kc_114) rfl rfl rfl (Nat.le_of_ble_eq_true rfl) (by decide) dL_law_318 (fun r279 w278 y277 => ?_)
        show V x 145 11604 w278 321 [(3, .int 0), (2, .ref (gz (xG x) + 114)), (1, .ref (gz (xG x) + 0)), (0, .ref b)] [.int r279, .int r267]
        obtain ⟨h280, g281⟩ := y277
        have h282 := Ch.tr h270 h280 (by decide)
        refine r_icmp_eq 929 C dL_law_321 (by decide) (fun c283 => ?_) (fun c283 => ?_)
        · have c283' := i_eq c283
          obtain ⟨i284, e285⟩ : ∃ z : Int32, 0 + Int32.ofInt 5 = z := ⟨_, rfl⟩
          have i284' := iinc_ok e285 (by decide) (by omega) (by omega)
          obtain rfl : i284 = 5 := i_of (by omega)
          refine r_iinc [(3, .int 5), (2, .ref (gz (xG x) + 114)), (1, .ref (gz (xG x) + 0)), (0, .ref b)] 0 C dL_law_929 rfl e285 (by decide) rfl ?_
          refine r_goto 18 C dL_law_932 (by decide) ?_
          refine r_iload_n 0 C dL_law_18 rfl ?_
          refine r_aload_n 3 C dL_law_19 rfl ?_
          refine r_slen C hX hbl hbz dL_law_20 ?_
          rw [← hn0]
          refine r_iconst (v := 5) C dL_law_21 (by decide) ?_
          refine r_isub C dL_law_22 (fun v286 e287 => ?_)
          have v286' := isub_ok e287 (by omega) (by omega)
          refine r_icmp_gt 935 C dL_law_23 (by decide) (fun c288 => ?_) (fun c288 => ?_)
          · have c288' := i_lt c288
            refine r_iconst (v := 1) C dL_law_935 (by decide) ?_
            exact hret _ _ _ _ _ dL_law_936 (by decide) (by decide)
          · have c288' := i_nlt c288
            exfalso; omega
        · have c283' := i_ne c283
          exfalso; omega
      · refine r_tabIn 326 C dL_law_32 (by omega) (by omega) (by rw [c107]; rfl) (by decide) ?_
        refine r_aload_n 2 C dL_law_326 rfl ?_
        refine r_aload_n 3 C dL_law_327 rfl ?_
        refine r_iload_n 0 C dL_law_328 rfl ?_
        refine r_iconst (v := 1) C dL_law_329 (by decide) ?_
        refine r_iadd C dL_law_330 (fun v289 e290 => ?_)
        have v289' := iadd_ok e290 (by omega) (by omega)
        refine r_sld C hX hbl hbz (vin (by omega) (by omega)) dL_law_331 (fun v291 => ?_)
        refine r_aload_n 3 C dL_law_332 rfl ?_
        refine r_iload_n 0 C dL_law_333 rfl ?_
        refine r_iconst (v := 2) C dL_law_334 (by decide) ?_
        refine r_iadd C dL_law_335 (fun v292 e293 => ?_)
        have v292' := iadd_ok e293 (by omega) (by omega)
        refine r_sld C hX hbl hbz (vin (by omega) (by omega)) dL_law_336 (fun v294 => ?_)
        refine callVI C cwL_43_V (ctX10_tune_0 _ _ w3 (sS sC h0) g1 v291 v294 ) (by decide) (kS sC h0 kc_0) rfl rfl rfl (Nat.le_of_ble_eq_true rfl) (by decide) dL_law_337 (fun r297 w296 y295 => ?_)
        show V x 145 11604 w296 340 [(3, .int 0), (2, .ref (gz (xG x) + 114)), (1, .ref (gz (xG x) + 0)), (0, .ref b)] [.int r297]
        obtain ⟨h298, g299⟩ := y295
        have h300 := Ch.tr h0 h298 (by decide)
        refine r_aload_n 1 C dL_law_340 rfl ?_
        refine r_aload_n 3 C dL_law_341 rfl ?_
        refine r_iload_n 0 C dL_law_342 rfl ?_
        refine r_iconst (v := 1) C dL_law_343 (by decide) ?_
        refine r_iadd C dL_law_344 (fun v301 e302 => ?_)
        have v301' := iadd_ok e302 (by omega) (by omega)
        refine r_sld C hX hbl hbz (vin (by omega) (by omega)) dL_law_345 (fun v303 => ?_)
        refine r_aload_n 3 C dL_law_346 rfl ?_
        refine r_iload_n 0 C dL_law_347 rfl ?_
        refine r_iconst (v := 2) C dL_law_348 (by decide) ?_
        refine r_iadd C dL_law_349 (fun v304 e305 => ?_)
        have v304' := iadd_ok e305 (by omega) (by omega)
        refine r_sld C hX hbl hbz (vin (by omega) (by omega)) dL_law_350 (fun v306 => ?_)
        refine callVI C cwL_46_V (ctX11_tune_114 _ _ w296 (sS sM h300) (h298.I (by decide) g18) v303 v306 ) (by decide) (kS sM h300 kc_114) rfl rfl rfl (Nat.le_of_ble_eq_true rfl) (by decide) dL_law_351 (fun r309 w308 y307 => ?_)
        show V x 145 11604 w308 354 [(3, .int 0), (2, .ref (gz (xG x) + 114)), (1, .ref (gz (xG x) + 0)), (0, .ref b)] [.int r309, .int r297]
        obtain ⟨h310, g311⟩ := y307
        have h312 := Ch.tr h300 h310 (by decide)
        refine r_icmp_eq 929 C dL_law_354 (by decide) (fun c313 => ?_) (fun c313 => ?_)
        · have c313' := i_eq c313
          obtain ⟨i314, e315⟩ : ∃ z : Int32, 0 + Int32.ofInt 5 = z := ⟨_, rfl⟩
          have i314' := iinc_ok e315 (by decide) (by omega) (by omega)
          obtain rfl : i314 = 5 := i_of (by omega)
          refine r_iinc [(3, .int 5), (2, .ref (gz (xG x) + 114)), (1, .ref (gz (xG x) + 0)), (0, .ref b)] 0 C dL_law_929 rfl e315 (by decide) rfl ?_
          refine r_goto 18 C dL_law_932 (by decide) ?_
          refine r_iload_n 0 C dL_law_18 rfl ?_
          refine r_aload_n 3 C dL_law_19 rfl ?_
          refine r_slen C hX hbl hbz dL_law_20 ?_
          rw [← hn0]
          refine r_iconst (v := 5) C dL_law_21 (by decide) ?_
          refine r_isub C dL_law_22 (fun v316 e317 => ?_)
          have v316' := isub_ok e317 (by omega) (by omega)
          refine r_icmp_gt 935 C dL_law_23 (by decide) (fun c318 => ?_) (fun c318 => ?_)
          · have c318' := i_lt c318
            refine r_iconst (v := 1) C dL_law_935 (by decide) ?_
            exact hret _ _ _ _ _ dL_law_936 (by decide) (by decide)
          · have c318' := i_nlt c318
            exfalso; omega
        · have c313' := i_ne c313
          exfalso; omega
      · refine r_tabIn 359 C dL_law_32 (by omega) (by omega) (by rw [c107]; rfl) (by decide) ?_
        refine r_aload_n 2 C dL_law_359 rfl ?_
        refine r_aload_n 3 C dL_law_360 rfl ?_
        refine r_iload_n 0 C dL_law_361 rfl ?_
        refine r_iconst (v := 1) C dL_law_362 (by decide) ?_
        refine r_iadd C dL_law_363 (fun v319 e320 => ?_)
        have v319' := iadd_ok e320 (by omega) (by omega)
        refine r_sld C hX hbl hbz (vin (by omega) (by omega)) dL_law_364 (fun v321 => ?_)
        refine r_aload_n 3 C dL_law_365 rfl ?_
        refine r_iload_n 0 C dL_law_366 rfl ?_
        refine r_iconst (v := 2) C dL_law_367 (by decide) ?_
        refine r_iadd C dL_law_368 (fun v322 e323 => ?_)
        have v322' := iadd_ok e323 (by omega) (by omega)
        refine r_sld C hX hbl hbz (vin (by omega) (by omega)) dL_law_369 (fun v324 => ?_)
        refine r_aload_n 3 C dL_law_370 rfl ?_
        refine r_iload_n 0 C dL_law_371 rfl ?_
        refine r_iconst (v := 3) C dL_law_372 (by decide) ?_
        refine r_iadd C dL_law_373 (fun v325 e326 => ?_)
        have v325' := iadd_ok e326 (by omega) (by omega)
        refine r_sld C hX hbl hbz (vin (by omega) (by omega)) dL_law_374 (fun v327 => ?_)
        refine r_aload_n 3 C dL_law_375 rfl ?_
        refine r_iload_n 0 C dL_law_376 rfl ?_
        refine r_iconst (v := 4) C dL_law_377 (by decide) ?_
        refine r_iadd C dL_law_378 (fun v328 e329 => ?_)
        have v328' := iadd_ok e329 (by omega) (by omega)
        refine r_sld C hX hbl hbz (vin (by omega) (by omega)) dL_law_379 (fun v330 => ?_)
        refine callVI C cwL_47_V (ctX10_far_0 _ _ w3 (sS sC h0) g5 g6 v321 v324 v327 v330 ) (by decide) (kS sC h0 kc_0) rfl rfl rfl (Nat.le_of_ble_eq_true rfl) (by decide) dL_law_380 (fun r333 w332 y331 => ?_)
        show V x 145 11604 w332 383 [(3, .int 0), (2, .ref (gz (xG x) + 114)), (1, .ref (gz (xG x) + 0)), (0, .ref b)] [.int r333]
        obtain ⟨h334, g335⟩ := y331
        have h336 := Ch.tr h0 h334 (by decide)
        refine r_aload_n 1 C dL_law_383 rfl ?_
        refine r_aload_n 3 C dL_law_384 rfl ?_
        refine r_iload_n 0 C dL_law_385 rfl ?_
        refine r_iconst (v := 1) C dL_law_386 (by decide) ?_
        refine r_iadd C dL_law_387 (fun v337 e338 => ?_)
        have v337' := iadd_ok e338 (by omega) (by omega)
        refine r_sld C hX hbl hbz (vin (by omega) (by omega)) dL_law_388 (fun v339 => ?_)
        refine r_aload_n 3 C dL_law_389 rfl ?_
        refine r_iload_n 0 C dL_law_390 rfl ?_
        refine r_iconst (v := 2) C dL_law_391 (by decide) ?_
        refine r_iadd C dL_law_392 (fun v340 e341 => ?_)
        have v340' := iadd_ok e341 (by omega) (by omega)
        refine r_sld C hX hbl hbz (vin (by omega) (by omega)) dL_law_393 (fun v342 => ?_)
        refine r_aload_n 3 C dL_law_394 rfl ?_
        refine r_iload_n 0 C dL_law_395 rfl ?_
        refine r_iconst (v := 3) C dL_law_396 (by decide) ?_
        refine r_iadd C dL_law_397 (fun v343 e344 => ?_)
        have v343' := iadd_ok e344 (by omega) (by omega)
        refine r_sld C hX hbl hbz (vin (by omega) (by omega)) dL_law_398 (fun v345 => ?_)
        refine r_aload_n 3 C dL_law_399 rfl ?_
        refine r_iload_n 0 C dL_law_400 rfl ?_
        refine r_iconst (v := 4) C dL_law_401 (by decide) ?_
        refine r_iadd C dL_law_402 (fun v346 e347 => ?_)
        have v346' := iadd_ok e347 (by omega) (by omega)
        refine r_sld C hX hbl hbz (vin (by omega) (by omega)) dL_law_403 (fun v348 => ?_)
        refine callVI C cwL_51_V (ctX11_far_114 _ _ w332 (sS sM h336) (h334.I (by decide) g15) (h334.I (by decide) g16) v339 v342 v345 v348 ) (by decide) (kS sM h336 kc_114) rfl rfl rfl (Nat.le_of_ble_eq_true rfl) (by decide) dL_law_404 (fun r351 w350 y349 => ?_)
        show V x 145 11604 w350 407 [(3, .int 0), (2, .ref (gz (xG x) + 114)), (1, .ref (gz (xG x) + 0)), (0, .ref b)] [.int r351, .int r333]
        obtain ⟨h352, g353⟩ := y349
        have h354 := Ch.tr h336 h352 (by decide)
        refine r_icmp_eq 929 C dL_law_407 (by decide) (fun c355 => ?_) (fun c355 => ?_)
        · have c355' := i_eq c355
          obtain ⟨i356, e357⟩ : ∃ z : Int32, 0 + Int32.ofInt 5 = z := ⟨_, rfl⟩
          have i356' := iinc_ok e357 (by decide) (by omega) (by omega)
          obtain rfl : i356 = 5 := i_of (by omega)
          refine r_iinc [(3, .int 5), (2, .ref (gz (xG x) + 114)), (1, .ref (gz (xG x) + 0)), (0, .ref b)] 0 C dL_law_929 rfl e357 (by decide) rfl ?_
          refine r_goto 18 C dL_law_932 (by decide) ?_
          refine r_iload_n 0 C dL_law_18 rfl ?_
          refine r_aload_n 3 C dL_law_19 rfl ?_
          refine r_slen C hX hbl hbz dL_law_20 ?_
          rw [← hn0]
          refine r_iconst (v := 5) C dL_law_21 (by decide) ?_
          refine r_isub C dL_law_22 (fun v358 e359 => ?_)
          have v358' := isub_ok e359 (by omega) (by omega)
          refine r_icmp_gt 935 C dL_law_23 (by decide) (fun c360 => ?_) (fun c360 => ?_)
          · have c360' := i_lt c360
            refine r_iconst (v := 1) C dL_law_935 (by decide) ?_
            exact hret _ _ _ _ _ dL_law_936 (by decide) (by decide)
          · have c360' := i_nlt c360
            exfalso; omega
        · have c355' := i_ne c355
          exfalso; omega
      · refine r_tabIn 412 C dL_law_32 (by omega) (by omega) (by rw [c107]; rfl) (by decide) ?_
        refine r_aload_n 2 C dL_law_412 rfl ?_
        refine r_aload_n 3 C dL_law_413 rfl ?_
        refine r_iload_n 0 C dL_law_414 rfl ?_
        refine r_iconst (v := 1) C dL_law_415 (by decide) ?_
        refine r_iadd C dL_law_416 (fun v361 e362 => ?_)
        have v361' := iadd_ok e362 (by omega) (by omega)
        refine r_sld C hX hbl hbz (vin (by omega) (by omega)) dL_law_417 (fun v363 => ?_)
        refine r_aload_n 3 C dL_law_418 rfl ?_
        refine r_iload_n 0 C dL_law_419 rfl ?_
        refine r_iconst (v := 2) C dL_law_420 (by decide) ?_
        refine r_iadd C dL_law_421 (fun v364 e365 => ?_)
        have v364' := iadd_ok e365 (by omega) (by omega)
        refine r_sld C hX hbl hbz (vin (by omega) (by omega)) dL_law_422 (fun v366 => ?_)
        refine callVI C cwL_52_V (ctX10_minute_0 _ _ w3 (sS sC h0) g1 g4 v363 v366 ) (by decide) (kS sC h0 kc_0) rfl rfl rfl (Nat.le_of_ble_eq_true rfl) (by decide) dL_law_423 (fun r369 w368 y367 => ?_)
        show V x 145 11604 w368 426 [(3, .int 0), (2, .ref (gz (xG x) + 114)), (1, .ref (gz (xG x) + 0)), (0, .ref b)] [.int r369]
        obtain ⟨h370, g371⟩ := y367
        have h372 := Ch.tr h0 h370 (by decide)
        refine r_aload_n 1 C dL_law_426 rfl ?_
        refine r_aload_n 3 C dL_law_427 rfl ?_
        refine r_iload_n 0 C dL_law_428 rfl ?_
        refine r_iconst (v := 1) C dL_law_429 (by decide) ?_
        refine r_iadd C dL_law_430 (fun v373 e374 => ?_)
        have v373' := iadd_ok e374 (by omega) (by omega)
        refine r_sld C hX hbl hbz (vin (by omega) (by omega)) dL_law_431 (fun v375 => ?_)
        refine r_aload_n 3 C dL_law_432 rfl ?_
        refine r_iload_n 0 C dL_law_433 rfl ?_
        refine r_iconst (v := 2) C dL_law_434 (by decide) ?_
        refine r_iadd C dL_law_435 (fun v376 e377 => ?_)
        have v376' := iadd_ok e377 (by omega) (by omega)
        refine r_sld C hX hbl hbz (vin (by omega) (by omega)) dL_law_436 (fun v378 => ?_)
        refine callVI C cwL_55_V (ctX11_minute_114 _ _ w368 (sS sM h372) (h370.I (by decide) g18) (h370.I (by decide) g15) v375 v378 ) (by decide) (kS sM h372 kc_114) rfl rfl rfl (Nat.le_of_ble_eq_true rfl) (by decide) dL_law_437 (fun r381 w380 y379 => ?_)
        show V x 145 11604 w380 440 [(3, .int 0), (2, .ref (gz (xG x) + 114)), (1, .ref (gz (xG x) + 0)), (0, .ref b)] [.int r381, .int r369]
        obtain ⟨h382, g383⟩ := y379
        have h384 := Ch.tr h372 h382 (by decide)
        refine r_icmp_eq 929 C dL_law_440 (by decide) (fun c385 => ?_) (fun c385 => ?_)
        · have c385' := i_eq c385
          obtain ⟨i386, e387⟩ : ∃ z : Int32, 0 + Int32.ofInt 5 = z := ⟨_, rfl⟩
          have i386' := iinc_ok e387 (by decide) (by omega) (by omega)
          obtain rfl : i386 = 5 := i_of (by omega)
          refine r_iinc [(3, .int 5), (2, .ref (gz (xG x) + 114)), (1, .ref (gz (xG x) + 0)), (0, .ref b)] 0 C dL_law_929 rfl e387 (by decide) rfl ?_
          refine r_goto 18 C dL_law_932 (by decide) ?_
          refine r_iload_n 0 C dL_law_18 rfl ?_
          refine r_aload_n 3 C dL_law_19 rfl ?_
          refine r_slen C hX hbl hbz dL_law_20 ?_
          rw [← hn0]
          refine r_iconst (v := 5) C dL_law_21 (by decide) ?_
          refine r_isub C dL_law_22 (fun v388 e389 => ?_)
          have v388' := isub_ok e389 (by omega) (by omega)
          refine r_icmp_gt 935 C dL_law_23 (by decide) (fun c390 => ?_) (fun c390 => ?_)
          · have c390' := i_lt c390
            refine r_iconst (v := 1) C dL_law_935 (by decide) ?_
            exact hret _ _ _ _ _ dL_law_936 (by decide) (by decide)
          · have c390' := i_nlt c390
            exfalso; omega
        · have c385' := i_ne c385
          exfalso; omega
      · refine r_tabIn 445 C dL_law_32 (by omega) (by omega) (by rw [c107]; rfl) (by decide) ?_
        refine r_aload_n 2 C dL_law_445 rfl ?_
        refine r_aload_n 3 C dL_law_446 rfl ?_
        refine r_iload_n 0 C dL_law_447 rfl ?_
        refine r_iconst (v := 1) C dL_law_448 (by decide) ?_
        refine r_iadd C dL_law_449 (fun v391 e392 => ?_)
        have v391' := iadd_ok e392 (by omega) (by omega)
        refine r_sld C hX hbl hbz (vin (by omega) (by omega)) dL_law_450 (fun v393 => ?_)
        refine r_aload_n 3 C dL_law_451 rfl ?_
        refine r_iload_n 0 C dL_law_452 rfl ?_
        refine r_iconst (v := 2) C dL_law_453 (by decide) ?_
        refine r_iadd C dL_law_454 (fun v394 e395 => ?_)
        have v394' := iadd_ok e395 (by omega) (by omega)
        refine r_sld C hX hbl hbz (vin (by omega) (by omega)) dL_law_455 (fun v396 => ?_)
        refine r_aload_n 3 C dL_law_456 rfl ?_
        refine r_iload_n 0 C dL_law_457 rfl ?_
        refine r_iconst (v := 3) C dL_law_458 (by decide) ?_
        refine r_iadd C dL_law_459 (fun v397 e398 => ?_)
        have v397' := iadd_ok e398 (by omega) (by omega)
        refine r_sld C hX hbl hbz (vin (by omega) (by omega)) dL_law_460 (fun v399 => ?_)
        refine r_if_eq 468 C dL_law_461 (by decide) (fun c400 => ?_) (fun c400 => ?_)
        · have c400' := i_eq c400
          refine r_iconst (v := 0) C dL_law_468 (by decide) ?_
          refine callVI C cwL_56_V (ctX10_wall_0 _ _ w3 (sS sC h0) g5 g6 v393 v396 0 ) (by decide) (kS sC h0 kc_0) rfl rfl rfl (Nat.le_of_ble_eq_true rfl) (by decide) dL_law_469 (fun r403 w402 y401 => ?_)
          show V x 145 11604 w402 472 [(3, .int 0), (2, .ref (gz (xG x) + 114)), (1, .ref (gz (xG x) + 0)), (0, .ref b)] [.int r403]
          obtain ⟨h404, g405⟩ := y401
          have h406 := Ch.tr h0 h404 (by decide)
          refine r_aload_n 1 C dL_law_472 rfl ?_
          refine r_aload_n 3 C dL_law_473 rfl ?_
          refine r_iload_n 0 C dL_law_474 rfl ?_
          refine r_iconst (v := 1) C dL_law_475 (by decide) ?_
          refine r_iadd C dL_law_476 (fun v407 e408 => ?_)
          have v407' := iadd_ok e408 (by omega) (by omega)
          refine r_sld C hX hbl hbz (vin (by omega) (by omega)) dL_law_477 (fun v409 => ?_)
          refine r_aload_n 3 C dL_law_478 rfl ?_
          refine r_iload_n 0 C dL_law_479 rfl ?_
          refine r_iconst (v := 2) C dL_law_480 (by decide) ?_
          refine r_iadd C dL_law_481 (fun v410 e411 => ?_)
          have v410' := iadd_ok e411 (by omega) (by omega)
          refine r_sld C hX hbl hbz (vin (by omega) (by omega)) dL_law_482 (fun v412 => ?_)
          refine r_aload_n 3 C dL_law_483 rfl ?_
          refine r_iload_n 0 C dL_law_484 rfl ?_
          refine r_iconst (v := 3) C dL_law_485 (by decide) ?_
          refine r_iadd C dL_law_486 (fun v413 e414 => ?_)
          have v413' := iadd_ok e414 (by omega) (by omega)
          refine r_sld C hX hbl hbz (vin (by omega) (by omega)) dL_law_487 (fun v415 => ?_)
          refine r_if_eq 495 C dL_law_488 (by decide) (fun c416 => ?_) (fun c416 => ?_)
          · have c416' := i_eq c416
            refine r_iconst (v := 0) C dL_law_495 (by decide) ?_
            refine callVI C cwL_60_V (ctX11_wall_114 _ _ w402 (sS sM h406) (h404.I (by decide) g15) (h404.I (by decide) g16) v409 v412 0 ) (by decide) (kS sM h406 kc_114) rfl rfl rfl (Nat.le_of_ble_eq_true rfl) (by decide) dL_law_496 (fun r419 w418 y417 => ?_)
            show V x 145 11604 w418 499 [(3, .int 0), (2, .ref (gz (xG x) + 114)), (1, .ref (gz (xG x) + 0)), (0, .ref b)] [.int r419, .int r403]
            obtain ⟨h420, g421⟩ := y417
            have h422 := Ch.tr h406 h420 (by decide)
            refine r_icmp_eq 929 C dL_law_499 (by decide) (fun c423 => ?_) (fun c423 => ?_)
            · have c423' := i_eq c423
              obtain ⟨i424, e425⟩ : ∃ z : Int32, 0 + Int32.ofInt 5 = z := ⟨_, rfl⟩
              have i424' := iinc_ok e425 (by decide) (by omega) (by omega)
              obtain rfl : i424 = 5 := i_of (by omega)
              refine r_iinc [(3, .int 5), (2, .ref (gz (xG x) + 114)), (1, .ref (gz (xG x) + 0)), (0, .ref b)] 0 C dL_law_929 rfl e425 (by decide) rfl ?_
              refine r_goto 18 C dL_law_932 (by decide) ?_
              refine r_iload_n 0 C dL_law_18 rfl ?_
              refine r_aload_n 3 C dL_law_19 rfl ?_
              refine r_slen C hX hbl hbz dL_law_20 ?_
              rw [← hn0]
              refine r_iconst (v := 5) C dL_law_21 (by decide) ?_
              refine r_isub C dL_law_22 (fun v426 e427 => ?_)
              have v426' := isub_ok e427 (by omega) (by omega)
              refine r_icmp_gt 935 C dL_law_23 (by decide) (fun c428 => ?_) (fun c428 => ?_)
              · have c428' := i_lt c428
                refine r_iconst (v := 1) C dL_law_935 (by decide) ?_
                exact hret _ _ _ _ _ dL_law_936 (by decide) (by decide)
              · have c428' := i_nlt c428
                exfalso; omega
            · have c423' := i_ne c423
              exfalso; omega
          · have c416' := i_ne c416
            refine r_iconst (v := 1) C dL_law_491 (by decide) ?_
            refine r_goto 496 C dL_law_492 (by decide) ?_
            refine callVI C cwL_60_V (ctX11_wall_114 _ _ w402 (sS sM h406) (h404.I (by decide) g15) (h404.I (by decide) g16) v409 v412 1 ) (by decide) (kS sM h406 kc_114) rfl rfl rfl (Nat.le_of_ble_eq_true rfl) (by decide) dL_law_496 (fun r431 w430 y429 => ?_)
            show V x 145 11604 w430 499 [(3, .int 0), (2, .ref (gz (xG x) + 114)), (1, .ref (gz (xG x) + 0)), (0, .ref b)] [.int r431, .int r403]
            obtain ⟨h432, g433⟩ := y429
            have h434 := Ch.tr h406 h432 (by decide)
            refine r_icmp_eq 929 C dL_law_499 (by decide) (fun c435 => ?_) (fun c435 => ?_)
            · have c435' := i_eq c435
              obtain ⟨i436, e437⟩ : ∃ z : Int32, 0 + Int32.ofInt 5 = z := ⟨_, rfl⟩
              have i436' := iinc_ok e437 (by decide) (by omega) (by omega)
              obtain rfl : i436 = 5 := i_of (by omega)
              refine r_iinc [(3, .int 5), (2, .ref (gz (xG x) + 114)), (1, .ref (gz (xG x) + 0)), (0, .ref b)] 0 C dL_law_929 rfl e437 (by decide) rfl ?_
              refine r_goto 18 C dL_law_932 (by decide) ?_
              refine r_iload_n 0 C dL_law_18 rfl ?_
              refine r_aload_n 3 C dL_law_19 rfl ?_
              refine r_slen C hX hbl hbz dL_law_20 ?_
              rw [← hn0]
              refine r_iconst (v := 5) C dL_law_21 (by decide) ?_
              refine r_isub C dL_law_22 (fun v438 e439 => ?_)
              have v438' := isub_ok e439 (by omega) (by omega)
              refine r_icmp_gt 935 C dL_law_23 (by decide) (fun c440 => ?_) (fun c440 => ?_)
              · have c440' := i_lt c440
                refine r_iconst (v := 1) C dL_law_935 (by decide) ?_
                exact hret _ _ _ _ _ dL_law_936 (by decide) (by decide)
              · have c440' := i_nlt c440
                exfalso; omega
            · have c435' := i_ne c435
              exfalso; omega
        · have c400' := i_ne c400
          refine r_iconst (v := 1) C dL_law_464 (by decide) ?_
          refine r_goto 469 C dL_law_465 (by decide) ?_
          refine callVI C cwL_56_V (ctX10_wall_0 _ _ w3 (sS sC h0) g5 g6 v393 v396 1 ) (by decide) (kS sC h0 kc_0) rfl rfl rfl (Nat.le_of_ble_eq_true rfl) (by decide) dL_law_469 (fun r443 w442 y441 => ?_)
          show V x 145 11604 w442 472 [(3, .int 0), (2, .ref (gz (xG x) + 114)), (1, .ref (gz (xG x) + 0)), (0, .ref b)] [.int r443]
          obtain ⟨h444, g445⟩ := y441
          have h446 := Ch.tr h0 h444 (by decide)
          refine r_aload_n 1 C dL_law_472 rfl ?_
          refine r_aload_n 3 C dL_law_473 rfl ?_
          refine r_iload_n 0 C dL_law_474 rfl ?_
          refine r_iconst (v := 1) C dL_law_475 (by decide) ?_
          refine r_iadd C dL_law_476 (fun v447 e448 => ?_)
          have v447' := iadd_ok e448 (by omega) (by omega)
          refine r_sld C hX hbl hbz (vin (by omega) (by omega)) dL_law_477 (fun v449 => ?_)
          refine r_aload_n 3 C dL_law_478 rfl ?_
          refine r_iload_n 0 C dL_law_479 rfl ?_
          refine r_iconst (v := 2) C dL_law_480 (by decide) ?_
          refine r_iadd C dL_law_481 (fun v450 e451 => ?_)
          have v450' := iadd_ok e451 (by omega) (by omega)
          refine r_sld C hX hbl hbz (vin (by omega) (by omega)) dL_law_482 (fun v452 => ?_)
          refine r_aload_n 3 C dL_law_483 rfl ?_
          refine r_iload_n 0 C dL_law_484 rfl ?_
          refine r_iconst (v := 3) C dL_law_485 (by decide) ?_
          refine r_iadd C dL_law_486 (fun v453 e454 => ?_)
          have v453' := iadd_ok e454 (by omega) (by omega)
          refine r_sld C hX hbl hbz (vin (by omega) (by omega)) dL_law_487 (fun v455 => ?_)
          refine r_if_eq 495 C dL_law_488 (by decide) (fun c456 => ?_) (fun c456 => ?_)
          · have c456' := i_eq c456
            refine r_iconst (v := 0) C dL_law_495 (by decide) ?_
            refine callVI C cwL_60_V (ctX11_wall_114 _ _ w442 (sS sM h446) (h444.I (by decide) g15) (h444.I (by decide) g16) v449 v452 0 ) (by decide) (kS sM h446 kc_114) rfl rfl rfl (Nat.le_of_ble_eq_true rfl) (by decide) dL_law_496 (fun r459 w458 y457 => ?_)
            show V x 145 11604 w458 499 [(3, .int 0), (2, .ref (gz (xG x) + 114)), (1, .ref (gz (xG x) + 0)), (0, .ref b)] [.int r459, .int r443]
            obtain ⟨h460, g461⟩ := y457
            have h462 := Ch.tr h446 h460 (by decide)
            refine r_icmp_eq 929 C dL_law_499 (by decide) (fun c463 => ?_) (fun c463 => ?_)
            · have c463' := i_eq c463
              obtain ⟨i464, e465⟩ : ∃ z : Int32, 0 + Int32.ofInt 5 = z := ⟨_, rfl⟩
              have i464' := iinc_ok e465 (by decide) (by omega) (by omega)
              obtain rfl : i464 = 5 := i_of (by omega)
              refine r_iinc [(3, .int 5), (2, .ref (gz (xG x) + 114)), (1, .ref (gz (xG x) + 0)), (0, .ref b)] 0 C dL_law_929 rfl e465 (by decide) rfl ?_
              refine r_goto 18 C dL_law_932 (by decide) ?_
              refine r_iload_n 0 C dL_law_18 rfl ?_
              refine r_aload_n 3 C dL_law_19 rfl ?_
              refine r_slen C hX hbl hbz dL_law_20 ?_
              rw [← hn0]
              refine r_iconst (v := 5) C dL_law_21 (by decide) ?_
              refine r_isub C dL_law_22 (fun v466 e467 => ?_)
              have v466' := isub_ok e467 (by omega) (by omega)
              refine r_icmp_gt 935 C dL_law_23 (by decide) (fun c468 => ?_) (fun c468 => ?_)
              · have c468' := i_lt c468
                refine r_iconst (v := 1) C dL_law_935 (by decide) ?_
                exact hret _ _ _ _ _ dL_law_936 (by decide) (by decide)
              · have c468' := i_nlt c468
                exfalso; omega
            · have c463' := i_ne c463
              exfalso; omega
          · have c456' := i_ne c456
            refine r_iconst (v := 1) C dL_law_491 (by decide) ?_
            refine r_goto 496 C dL_law_492 (by decide) ?_
            refine callVI C cwL_60_V (ctX11_wall_114 _ _ w442 (sS sM h446) (h444.I (by decide) g15) (h444.I (by decide) g16) v449 v452 1 ) (by decide) (kS sM h446 kc_114) rfl rfl rfl (Nat.le_of_ble_eq_true rfl) (by decide) dL_law_496 (fun r471 w470 y469 => ?_)
            show V x 145 11604 w470 499 [(3, .int 0), (2, .ref (gz (xG x) + 114)), (1, .ref (gz (xG x) + 0)), (0, .ref b)] [.int r471, .int r443]
            obtain ⟨h472, g473⟩ := y469
            have h474 := Ch.tr h446 h472 (by decide)
            refine r_icmp_eq 929 C dL_law_499 (by decide) (fun c475 => ?_) (fun c475 => ?_)
            · have c475' := i_eq c475
              obtain ⟨i476, e477⟩ : ∃ z : Int32, 0 + Int32.ofInt 5 = z := ⟨_, rfl⟩
              have i476' := iinc_ok e477 (by decide) (by omega) (by omega)
              obtain rfl : i476 = 5 := i_of (by omega)
              refine r_iinc [(3, .int 5), (2, .ref (gz (xG x) + 114)), (1, .ref (gz (xG x) + 0)), (0, .ref b)] 0 C dL_law_929 rfl e477 (by decide) rfl ?_
              refine r_goto 18 C dL_law_932 (by decide) ?_
              refine r_iload_n 0 C dL_law_18 rfl ?_
              refine r_aload_n 3 C dL_law_19 rfl ?_
              refine r_slen C hX hbl hbz dL_law_20 ?_
              rw [← hn0]
              refine r_iconst (v := 5) C dL_law_21 (by decide) ?_
              refine r_isub C dL_law_22 (fun v478 e479 => ?_)
              have v478' := isub_ok e479 (by omega) (by omega)
              refine r_icmp_gt 935 C dL_law_23 (by decide) (fun c480 => ?_) (fun c480 => ?_)
              · have c480' := i_lt c480
                refine r_iconst (v := 1) C dL_law_935 (by decide) ?_
                exact hret _ _ _ _ _ dL_law_936 (by decide) (by decide)
              · have c480' := i_nlt c480
                exfalso; omega
            · have c475' := i_ne c475
              exfalso; omega
      · refine r_tabIn 504 C dL_law_32 (by omega) (by omega) (by rw [c107]; rfl) (by decide) ?_
        refine r_aload_n 2 C dL_law_504 rfl ?_
        refine r_aload_n 3 C dL_law_505 rfl ?_
        refine r_iload_n 0 C dL_law_506 rfl ?_
        refine r_iconst (v := 1) C dL_law_507 (by decide) ?_
        refine r_iadd C dL_law_508 (fun v481 e482 => ?_)
        have v481' := iadd_ok e482 (by omega) (by omega)
        refine r_sld C hX hbl hbz (vin (by omega) (by omega)) dL_law_509 (fun v483 => ?_)
        refine callVI C cwL_61_V (ctX10_drift_0 _ _ w3 (sS sC h0) g4 v483 ) (by decide) (kS sC h0 kc_0) rfl rfl rfl (Nat.le_of_ble_eq_true rfl) (by decide) dL_law_510 (fun r486 w485 y484 => ?_)
        show V x 145 11604 w485 513 [(3, .int 0), (2, .ref (gz (xG x) + 114)), (1, .ref (gz (xG x) + 0)), (0, .ref b)] [.int r486]
        obtain ⟨h487, g488⟩ := y484
        have h489 := Ch.tr h0 h487 (by decide)
        refine r_aload_n 1 C dL_law_513 rfl ?_
        refine r_aload_n 3 C dL_law_514 rfl ?_
        refine r_iload_n 0 C dL_law_515 rfl ?_
        refine r_iconst (v := 1) C dL_law_516 (by decide) ?_
        refine r_iadd C dL_law_517 (fun v490 e491 => ?_)
        have v490' := iadd_ok e491 (by omega) (by omega)
        refine r_sld C hX hbl hbz (vin (by omega) (by omega)) dL_law_518 (fun v492 => ?_)
        refine callVI C cwL_64_V (ctX11_drift_114 _ _ w485 (sS sM h489) (h487.I (by decide) g15) v492 ) (by decide) (kS sM h489 kc_114) rfl rfl rfl (Nat.le_of_ble_eq_true rfl) (by decide) dL_law_519 (fun r495 w494 y493 => ?_)
        show V x 145 11604 w494 522 [(3, .int 0), (2, .ref (gz (xG x) + 114)), (1, .ref (gz (xG x) + 0)), (0, .ref b)] [.int r495, .int r486]
        obtain ⟨h496, g497⟩ := y493
        have h498 := Ch.tr h489 h496 (by decide)
        refine r_icmp_eq 929 C dL_law_522 (by decide) (fun c499 => ?_) (fun c499 => ?_)
        · have c499' := i_eq c499
          obtain ⟨i500, e501⟩ : ∃ z : Int32, 0 + Int32.ofInt 5 = z := ⟨_, rfl⟩
          have i500' := iinc_ok e501 (by decide) (by omega) (by omega)
          obtain rfl : i500 = 5 := i_of (by omega)
          refine r_iinc [(3, .int 5), (2, .ref (gz (xG x) + 114)), (1, .ref (gz (xG x) + 0)), (0, .ref b)] 0 C dL_law_929 rfl e501 (by decide) rfl ?_
          refine r_goto 18 C dL_law_932 (by decide) ?_
          refine r_iload_n 0 C dL_law_18 rfl ?_
          refine r_aload_n 3 C dL_law_19 rfl ?_
          refine r_slen C hX hbl hbz dL_law_20 ?_
          rw [← hn0]
          refine r_iconst (v := 5) C dL_law_21 (by decide) ?_
          refine r_isub C dL_law_22 (fun v502 e503 => ?_)
          have v502' := isub_ok e503 (by omega) (by omega)
          refine r_icmp_gt 935 C dL_law_23 (by decide) (fun c504 => ?_) (fun c504 => ?_)
          · have c504' := i_lt c504
            refine r_iconst (v := 1) C dL_law_935 (by decide) ?_
            exact hret _ _ _ _ _ dL_law_936 (by decide) (by decide)
          · have c504' := i_nlt c504
            exfalso; omega
        · have c499' := i_ne c499
          exfalso; omega
      · refine r_tabIn 527 C dL_law_32 (by omega) (by omega) (by rw [c107]; rfl) (by decide) ?_
        refine r_aload_n 2 C dL_law_527 rfl ?_
        refine r_aload_n 3 C dL_law_528 rfl ?_
        refine r_iload_n 0 C dL_law_529 rfl ?_
        refine r_iconst (v := 1) C dL_law_530 (by decide) ?_
        refine r_iadd C dL_law_531 (fun v505 e506 => ?_)
        have v505' := iadd_ok e506 (by omega) (by omega)
        refine r_sld C hX hbl hbz (vin (by omega) (by omega)) dL_law_532 (fun v507 => ?_)
        refine r_aload_n 3 C dL_law_533 rfl ?_
        refine r_iload_n 0 C dL_law_534 rfl ?_
        refine r_iconst (v := 2) C dL_law_535 (by decide) ?_
        refine r_iadd C dL_law_536 (fun v508 e509 => ?_)
        have v508' := iadd_ok e509 (by omega) (by omega)
        refine r_sld C hX hbl hbz (vin (by omega) (by omega)) dL_law_537 (fun v510 => ?_)
        refine callVI C cwL_65_V (ctX10_plan_0 _ _ w3 (sS sC h0) g1 g9 v507 v510 ) (by decide) (kS sC h0 kc_0) rfl rfl rfl (Nat.le_of_ble_eq_true rfl) (by decide) dL_law_538 (fun r513 w512 y511 => ?_)
        show V x 145 11604 w512 541 [(3, .int 0), (2, .ref (gz (xG x) + 114)), (1, .ref (gz (xG x) + 0)), (0, .ref b)] [.int r513]
        obtain ⟨h514, g515⟩ := y511
        have h516 := Ch.tr h0 h514 (by decide)
        refine r_aload_n 1 C dL_law_541 rfl ?_
        refine r_aload_n 3 C dL_law_542 rfl ?_
        refine r_iload_n 0 C dL_law_543 rfl ?_
        refine r_iconst (v := 1) C dL_law_544 (by decide) ?_
        refine r_iadd C dL_law_545 (fun v517 e518 => ?_)
        have v517' := iadd_ok e518 (by omega) (by omega)
        refine r_sld C hX hbl hbz (vin (by omega) (by omega)) dL_law_546 (fun v519 => ?_)
        refine r_aload_n 3 C dL_law_547 rfl ?_
        refine r_iload_n 0 C dL_law_548 rfl ?_
        refine r_iconst (v := 2) C dL_law_549 (by decide) ?_
        refine r_iadd C dL_law_550 (fun v520 e521 => ?_)
        have v520' := iadd_ok e521 (by omega) (by omega)
        refine r_sld C hX hbl hbz (vin (by omega) (by omega)) dL_law_551 (fun v522 => ?_)
        refine callVI C cwL_68_V (ctX11_plan_114 _ _ w512 (sS sM h516) (h514.I (by decide) g18) (h514.I (by decide) g21) v519 v522 ) (by decide) (kS sM h516 kc_114) rfl rfl rfl (Nat.le_of_ble_eq_true rfl) (by decide) dL_law_552 (fun r525 w524 y523 => ?_)
        show V x 145 11604 w524 555 [(3, .int 0), (2, .ref (gz (xG x) + 114)), (1, .ref (gz (xG x) + 0)), (0, .ref b)] [.int r525, .int r513]
        obtain ⟨h526, g527⟩ := y523
        have h528 := Ch.tr h516 h526 (by decide)
        refine r_icmp_eq 929 C dL_law_555 (by decide) (fun c529 => ?_) (fun c529 => ?_)
        · have c529' := i_eq c529
          obtain ⟨i530, e531⟩ : ∃ z : Int32, 0 + Int32.ofInt 5 = z := ⟨_, rfl⟩
          have i530' := iinc_ok e531 (by decide) (by omega) (by omega)
          obtain rfl : i530 = 5 := i_of (by omega)
          refine r_iinc [(3, .int 5), (2, .ref (gz (xG x) + 114)), (1, .ref (gz (xG x) + 0)), (0, .ref b)] 0 C dL_law_929 rfl e531 (by decide) rfl ?_
          refine r_goto 18 C dL_law_932 (by decide) ?_
          refine r_iload_n 0 C dL_law_18 rfl ?_
          refine r_aload_n 3 C dL_law_19 rfl ?_
          refine r_slen C hX hbl hbz dL_law_20 ?_
          rw [← hn0]
          refine r_iconst (v := 5) C dL_law_21 (by decide) ?_
          refine r_isub C dL_law_22 (fun v532 e533 => ?_)
          have v532' := isub_ok e533 (by omega) (by omega)
          refine r_icmp_gt 935 C dL_law_23 (by decide) (fun c534 => ?_) (fun c534 => ?_)
          · have c534' := i_lt c534
            refine r_iconst (v := 1) C dL_law_935 (by decide) ?_
            exact hret _ _ _ _ _ dL_law_936 (by decide) (by decide)
          · have c534' := i_nlt c534
            exfalso; omega
        · have c529' := i_ne c529
          exfalso; omega
      · refine r_tabIn 560 C dL_law_32 (by omega) (by omega) (by rw [c107]; rfl) (by decide) ?_
        refine r_aload_n 2 C dL_law_560 rfl ?_
        refine callVI C cwL_69_V (ctX10_drop_0 _ _ w3 (sS sC h0) g9  ) (by decide) (kS sC h0 kc_0) rfl rfl rfl (Nat.le_of_ble_eq_true rfl) (by decide) dL_law_561 (fun r537 w536 y535 => ?_)
        show V x 145 11604 w536 564 [(3, .int 0), (2, .ref (gz (xG x) + 114)), (1, .ref (gz (xG x) + 0)), (0, .ref b)] [.int r537]
        obtain ⟨h538, g539⟩ := y535
        have h540 := Ch.tr h0 h538 (by decide)
        refine r_aload_n 1 C dL_law_564 rfl ?_
        refine callVI C cwL_72_V (ctX11_drop_114 _ _ w536 (sS sM h540) (h538.I (by decide) g21)  ) (by decide) (kS sM h540 kc_114) rfl rfl rfl (Nat.le_of_ble_eq_true rfl) (by decide) dL_law_565 (fun r543 w542 y541 => ?_)
        show V x 145 11604 w542 568 [(3, .int 0), (2, .ref (gz (xG x) + 114)), (1, .ref (gz (xG x) + 0)), (0, .ref b)] [.int r543, .int r537]
        obtain ⟨h544, g545⟩ := y541
        have h546 := Ch.tr h540 h544 (by decide)
        refine r_icmp_eq 929 C dL_law_568 (by decide) (fun c547 => ?_) (fun c547 => ?_)
        · have c547' := i_eq c547
          obtain ⟨i548, e549⟩ : ∃ z : Int32, 0 + Int32.ofInt 5 = z := ⟨_, rfl⟩
          have i548' := iinc_ok e549 (by decide) (by omega) (by omega)
          obtain rfl : i548 = 5 := i_of (by omega)
          refine r_iinc [(3, .int 5), (2, .ref (gz (xG x) + 114)), (1, .ref (gz (xG x) + 0)), (0, .ref b)] 0 C dL_law_929 rfl e549 (by decide) rfl ?_
          refine r_goto 18 C dL_law_932 (by decide) ?_
          refine r_iload_n 0 C dL_law_18 rfl ?_
          refine r_aload_n 3 C dL_law_19 rfl ?_
          refine r_slen C hX hbl hbz dL_law_20 ?_
          rw [← hn0]
          refine r_iconst (v := 5) C dL_law_21 (by decide) ?_
          refine r_isub C dL_law_22 (fun v550 e551 => ?_)
          have v550' := isub_ok e551 (by omega) (by omega)
          refine r_icmp_gt 935 C dL_law_23 (by decide) (fun c552 => ?_) (fun c552 => ?_)
          · have c552' := i_lt c552
            refine r_iconst (v := 1) C dL_law_935 (by decide) ?_
            exact hret _ _ _ _ _ dL_law_936 (by decide) (by decide)
          · have c552' := i_nlt c552
            exfalso; omega
        · have c547' := i_ne c547
          exfalso; omega
      · refine r_tabIn 573 C dL_law_32 (by omega) (by omega) (by rw [c107]; rfl) (by decide) ?_
        refine r_aload_n 2 C dL_law_573 rfl ?_
        refine callVI C cwL_73_V (ctX10_judge_0 _ _ w3 (sS sC h0) g0 g9  ) (by decide) (kS sC h0 kc_0) rfl rfl rfl (Nat.le_of_ble_eq_true rfl) (by decide) dL_law_574 (fun r555 w554 y553 => ?_)
        show V x 145 11604 w554 577 [(3, .int 0), (2, .ref (gz (xG x) + 114)), (1, .ref (gz (xG x) + 0)), (0, .ref b)] [.int r555]
        obtain ⟨h556, g557⟩ := y553
        have h558 := Ch.tr h0 h556 (by decide)
        refine r_aload_n 1 C dL_law_577 rfl ?_
        refine callVI C cwL_76_V (ctX11_judge_114 _ _ w554 (sS sM h558) (h556.I (by decide) g17) (h556.I (by decide) g21) (h556.I (by decide) g15) (h556.I (by decide) g16)  ) (by decide) (kS sM h558 kc_114) rfl rfl rfl (Nat.le_of_ble_eq_true rfl) (by decide) dL_law_578 (fun r561 w560 y559 => ?_)
        show V x 145 11604 w560 581 [(3, .int 0), (2, .ref (gz (xG x) + 114)), (1, .ref (gz (xG x) + 0)), (0, .ref b)] [.int r561, .int r555]
        obtain ⟨h562, g563⟩ := y559
        have h564 := Ch.tr h558 h562 (by decide)
        refine r_icmp_eq 929 C dL_law_581 (by decide) (fun c565 => ?_) (fun c565 => ?_)
        · have c565' := i_eq c565
          obtain ⟨i566, e567⟩ : ∃ z : Int32, 0 + Int32.ofInt 5 = z := ⟨_, rfl⟩
          have i566' := iinc_ok e567 (by decide) (by omega) (by omega)
          obtain rfl : i566 = 5 := i_of (by omega)
          refine r_iinc [(3, .int 5), (2, .ref (gz (xG x) + 114)), (1, .ref (gz (xG x) + 0)), (0, .ref b)] 0 C dL_law_929 rfl e567 (by decide) rfl ?_
          refine r_goto 18 C dL_law_932 (by decide) ?_
          refine r_iload_n 0 C dL_law_18 rfl ?_
          refine r_aload_n 3 C dL_law_19 rfl ?_
          refine r_slen C hX hbl hbz dL_law_20 ?_
          rw [← hn0]
          refine r_iconst (v := 5) C dL_law_21 (by decide) ?_
          refine r_isub C dL_law_22 (fun v568 e569 => ?_)
          have v568' := isub_ok e569 (by omega) (by omega)
          refine r_icmp_gt 935 C dL_law_23 (by decide) (fun c570 => ?_) (fun c570 => ?_)
          · have c570' := i_lt c570
            refine r_iconst (v := 1) C dL_law_935 (by decide) ?_
            exact hret _ _ _ _ _ dL_law_936 (by decide) (by decide)
          · have c570' := i_nlt c570
            exfalso; omega
        · have c565' := i_ne c565
          exfalso; omega
      · refine r_tabIn 586 C dL_law_32 (by omega) (by omega) (by rw [c107]; rfl) (by decide) ?_
        refine r_aload_n 2 C dL_law_586 rfl ?_
        refine r_aload_n 3 C dL_law_587 rfl ?_
        refine r_iload_n 0 C dL_law_588 rfl ?_
        refine r_iconst (v := 1) C dL_law_589 (by decide) ?_
        refine r_iadd C dL_law_590 (fun v571 e572 => ?_)
        have v571' := iadd_ok e572 (by omega) (by omega)
        refine r_sld C hX hbl hbz (vin (by omega) (by omega)) dL_law_591 (fun v573 => ?_)
        refine r_aload_n 3 C dL_law_592 rfl ?_
        refine r_iload_n 0 C dL_law_593 rfl ?_
        refine r_iconst (v := 2) C dL_law_594 (by decide) ?_
        refine r_iadd C dL_law_595 (fun v574 e575 => ?_)
        have v574' := iadd_ok e575 (by omega) (by omega)
        refine r_sld C hX hbl hbz (vin (by omega) (by omega)) dL_law_596 (fun v576 => ?_)
        refine callVI C cwL_77_V (ctX10_tried_0 _ _ w3 (sS sC h0) g0 g9 v573 v576 ) (by decide) (kS sC h0 kc_0) rfl rfl rfl (Nat.le_of_ble_eq_true rfl) (by decide) dL_law_597 (fun r579 w578 y577 => ?_)
        show V x 145 11604 w578 600 [(3, .int 0), (2, .ref (gz (xG x) + 114)), (1, .ref (gz (xG x) + 0)), (0, .ref b)] [.int r579]
        obtain ⟨h580, g581⟩ := y577
        have h582 := Ch.tr h0 h580 (by decide)
        refine r_aload_n 1 C dL_law_600 rfl ?_
        refine r_aload_n 3 C dL_law_601 rfl ?_
        refine r_iload_n 0 C dL_law_602 rfl ?_
        refine r_iconst (v := 1) C dL_law_603 (by decide) ?_
        refine r_iadd C dL_law_604 (fun v583 e584 => ?_)
        have v583' := iadd_ok e584 (by omega) (by omega)
        refine r_sld C hX hbl hbz (vin (by omega) (by omega)) dL_law_605 (fun v585 => ?_)
        refine r_aload_n 3 C dL_law_606 rfl ?_
        refine r_iload_n 0 C dL_law_607 rfl ?_
        refine r_iconst (v := 2) C dL_law_608 (by decide) ?_
        refine r_iadd C dL_law_609 (fun v586 e587 => ?_)
        have v586' := iadd_ok e587 (by omega) (by omega)
        refine r_sld C hX hbl hbz (vin (by omega) (by omega)) dL_law_610 (fun v588 => ?_)
        refine callVI C cwL_80_V (ctX11_tried_114 _ _ w578 (sS sM h582) (h580.I (by decide) g17) (h580.I (by decide) g21) (h580.I (by decide) g15) (h580.I (by decide) g16) v585 v588 ) (by decide) (kS sM h582 kc_114) rfl rfl rfl (Nat.le_of_ble_eq_true rfl) (by decide) dL_law_611 (fun r591 w590 y589 => ?_)
        show V x 145 11604 w590 614 [(3, .int 0), (2, .ref (gz (xG x) + 114)), (1, .ref (gz (xG x) + 0)), (0, .ref b)] [.int r591, .int r579]
        obtain ⟨h592, g593⟩ := y589
        have h594 := Ch.tr h582 h592 (by decide)
        refine r_icmp_eq 929 C dL_law_614 (by decide) (fun c595 => ?_) (fun c595 => ?_)
        · have c595' := i_eq c595
          obtain ⟨i596, e597⟩ : ∃ z : Int32, 0 + Int32.ofInt 5 = z := ⟨_, rfl⟩
          have i596' := iinc_ok e597 (by decide) (by omega) (by omega)
          obtain rfl : i596 = 5 := i_of (by omega)
          refine r_iinc [(3, .int 5), (2, .ref (gz (xG x) + 114)), (1, .ref (gz (xG x) + 0)), (0, .ref b)] 0 C dL_law_929 rfl e597 (by decide) rfl ?_
          refine r_goto 18 C dL_law_932 (by decide) ?_
          refine r_iload_n 0 C dL_law_18 rfl ?_
          refine r_aload_n 3 C dL_law_19 rfl ?_
          refine r_slen C hX hbl hbz dL_law_20 ?_
          rw [← hn0]
          refine r_iconst (v := 5) C dL_law_21 (by decide) ?_
          refine r_isub C dL_law_22 (fun v598 e599 => ?_)
          have v598' := isub_ok e599 (by omega) (by omega)
          refine r_icmp_gt 935 C dL_law_23 (by decide) (fun c600 => ?_) (fun c600 => ?_)
          · have c600' := i_lt c600
            refine r_iconst (v := 1) C dL_law_935 (by decide) ?_
            exact hret _ _ _ _ _ dL_law_936 (by decide) (by decide)
          · have c600' := i_nlt c600
            exfalso; omega
        · have c595' := i_ne c595
          exfalso; omega
      · refine r_tabIn 619 C dL_law_32 (by omega) (by omega) (by rw [c107]; rfl) (by decide) ?_
        refine r_aload_n 2 C dL_law_619 rfl ?_
        refine r_aload_n 3 C dL_law_620 rfl ?_
        refine r_iload_n 0 C dL_law_621 rfl ?_
        refine r_iconst (v := 1) C dL_law_622 (by decide) ?_
        refine r_iadd C dL_law_623 (fun v601 e602 => ?_)
        have v601' := iadd_ok e602 (by omega) (by omega)
        refine r_sld C hX hbl hbz (vin (by omega) (by omega)) dL_law_624 (fun v603 => ?_)
        refine r_aload_n 3 C dL_law_625 rfl ?_
        refine r_iload_n 0 C dL_law_626 rfl ?_
        refine r_iconst (v := 2) C dL_law_627 (by decide) ?_
        refine r_iadd C dL_law_628 (fun v604 e605 => ?_)
        have v604' := iadd_ok e605 (by omega) (by omega)
        refine r_sld C hX hbl hbz (vin (by omega) (by omega)) dL_law_629 (fun v606 => ?_)
        refine callVI C cwL_81_V (ctX10_where_0 _ _ w3 (sS sC h0) g0 v603 v606 ) (by decide) (kS sC h0 kc_0) rfl rfl rfl (Nat.le_of_ble_eq_true rfl) (by decide) dL_law_630 (fun r609 w608 y607 => ?_)
        show V x 145 11604 w608 633 [(3, .int 0), (2, .ref (gz (xG x) + 114)), (1, .ref (gz (xG x) + 0)), (0, .ref b)] [.int r609]
        obtain ⟨h610, g611⟩ := y607
        have h612 := Ch.tr h0 h610 (by decide)
        refine r_aload_n 1 C dL_law_633 rfl ?_
        refine r_aload_n 3 C dL_law_634 rfl ?_
        refine r_iload_n 0 C dL_law_635 rfl ?_
        refine r_iconst (v := 1) C dL_law_636 (by decide) ?_
        refine r_iadd C dL_law_637 (fun v613 e614 => ?_)
        have v613' := iadd_ok e614 (by omega) (by omega)
        refine r_sld C hX hbl hbz (vin (by omega) (by omega)) dL_law_638 (fun v615 => ?_)
        refine r_aload_n 3 C dL_law_639 rfl ?_
        refine r_iload_n 0 C dL_law_640 rfl ?_
        refine r_iconst (v := 2) C dL_law_641 (by decide) ?_
        refine r_iadd C dL_law_642 (fun v616 e617 => ?_)
        have v616' := iadd_ok e617 (by omega) (by omega)
        refine r_sld C hX hbl hbz (vin (by omega) (by omega)) dL_law_643 (fun v618 => ?_)
        refine callVI C cwL_84_V (ctX11_where_114 _ _ w608 (sS sM h612) (h610.I (by decide) g17) v615 v618 ) (by decide) (kS sM h612 kc_114) rfl rfl rfl (Nat.le_of_ble_eq_true rfl) (by decide) dL_law_644 (fun r621 w620 y619 => ?_)
        show V x 145 11604 w620 647 [(3, .int 0), (2, .ref (gz (xG x) + 114)), (1, .ref (gz (xG x) + 0)), (0, .ref b)] [.int r621, .int r609]
        obtain ⟨h622, g623⟩ := y619
        have h624 := Ch.tr h612 h622 (by decide)
        refine r_icmp_eq 929 C dL_law_647 (by decide) (fun c625 => ?_) (fun c625 => ?_)
        · have c625' := i_eq c625
          obtain ⟨i626, e627⟩ : ∃ z : Int32, 0 + Int32.ofInt 5 = z := ⟨_, rfl⟩
          have i626' := iinc_ok e627 (by decide) (by omega) (by omega)
          obtain rfl : i626 = 5 := i_of (by omega)
          refine r_iinc [(3, .int 5), (2, .ref (gz (xG x) + 114)), (1, .ref (gz (xG x) + 0)), (0, .ref b)] 0 C dL_law_929 rfl e627 (by decide) rfl ?_
          refine r_goto 18 C dL_law_932 (by decide) ?_
          refine r_iload_n 0 C dL_law_18 rfl ?_
          refine r_aload_n 3 C dL_law_19 rfl ?_
          refine r_slen C hX hbl hbz dL_law_20 ?_
          rw [← hn0]
          refine r_iconst (v := 5) C dL_law_21 (by decide) ?_
          refine r_isub C dL_law_22 (fun v628 e629 => ?_)
          have v628' := isub_ok e629 (by omega) (by omega)
          refine r_icmp_gt 935 C dL_law_23 (by decide) (fun c630 => ?_) (fun c630 => ?_)
          · have c630' := i_lt c630
            refine r_iconst (v := 1) C dL_law_935 (by decide) ?_
            exact hret _ _ _ _ _ dL_law_936 (by decide) (by decide)
          · have c630' := i_nlt c630
            exfalso; omega
        · have c625' := i_ne c625
          exfalso; omega
      · refine r_tabIn 652 C dL_law_32 (by omega) (by omega) (by rw [c107]; rfl) (by decide) ?_
        refine r_aload_n 2 C dL_law_652 rfl ?_
        refine r_aload_n 3 C dL_law_653 rfl ?_
        refine r_iload_n 0 C dL_law_654 rfl ?_
        refine r_iconst (v := 1) C dL_law_655 (by decide) ?_
        refine r_iadd C dL_law_656 (fun v631 e632 => ?_)
        have v631' := iadd_ok e632 (by omega) (by omega)
        refine r_sld C hX hbl hbz (vin (by omega) (by omega)) dL_law_657 (fun v633 => ?_)
        refine r_aload_n 3 C dL_law_658 rfl ?_
        refine r_iload_n 0 C dL_law_659 rfl ?_
        refine r_iconst (v := 2) C dL_law_660 (by decide) ?_
        refine r_iadd C dL_law_661 (fun v634 e635 => ?_)
        have v634' := iadd_ok e635 (by omega) (by omega)
        refine r_sld C hX hbl hbz (vin (by omega) (by omega)) dL_law_662 (fun v636 => ?_)
        refine r_aload_n 3 C dL_law_663 rfl ?_
        refine r_iload_n 0 C dL_law_664 rfl ?_
        refine r_iconst (v := 3) C dL_law_665 (by decide) ?_
        refine r_iadd C dL_law_666 (fun v637 e638 => ?_)
        have v637' := iadd_ok e638 (by omega) (by omega)
        refine r_sld C hX hbl hbz (vin (by omega) (by omega)) dL_law_667 (fun v639 => ?_)
        refine callVI C cwL_85_V (ctX10_soonest_0 _ _ w3 (sS sC h0) g1 v633 v636 v639 ) (by decide) (kS sC h0 kc_0) rfl rfl rfl (Nat.le_of_ble_eq_true rfl) (by decide) dL_law_668 (fun r642 w641 y640 => ?_)
        show V x 145 11604 w641 671 [(3, .int 0), (2, .ref (gz (xG x) + 114)), (1, .ref (gz (xG x) + 0)), (0, .ref b)] [.int r642]
        obtain ⟨h643, g644⟩ := y640
        have h645 := Ch.tr h0 h643 (by decide)
        refine r_aload_n 1 C dL_law_671 rfl ?_
        refine r_aload_n 3 C dL_law_672 rfl ?_
        refine r_iload_n 0 C dL_law_673 rfl ?_
        refine r_iconst (v := 1) C dL_law_674 (by decide) ?_
        refine r_iadd C dL_law_675 (fun v646 e647 => ?_)
        have v646' := iadd_ok e647 (by omega) (by omega)
        refine r_sld C hX hbl hbz (vin (by omega) (by omega)) dL_law_676 (fun v648 => ?_)
        refine r_aload_n 3 C dL_law_677 rfl ?_
        refine r_iload_n 0 C dL_law_678 rfl ?_
        refine r_iconst (v := 2) C dL_law_679 (by decide) ?_
        refine r_iadd C dL_law_680 (fun v649 e650 => ?_)
        have v649' := iadd_ok e650 (by omega) (by omega)
        refine r_sld C hX hbl hbz (vin (by omega) (by omega)) dL_law_681 (fun v651 => ?_)
        refine r_aload_n 3 C dL_law_682 rfl ?_
        refine r_iload_n 0 C dL_law_683 rfl ?_
        refine r_iconst (v := 3) C dL_law_684 (by decide) ?_
        refine r_iadd C dL_law_685 (fun v652 e653 => ?_)
        have v652' := iadd_ok e653 (by omega) (by omega)
        refine r_sld C hX hbl hbz (vin (by omega) (by omega)) dL_law_686 (fun v654 => ?_)
        refine callVI C cwL_89_V (ctX11_soonest_114 _ _ w641 (sS sM h645) (h643.I (by decide) g18) v648 v651 v654 ) (by decide) (kS sM h645 kc_114) rfl rfl rfl (Nat.le_of_ble_eq_true rfl) (by decide) dL_law_687 (fun r657 w656 y655 => ?_)
        show V x 145 11604 w656 690 [(3, .int 0), (2, .ref (gz (xG x) + 114)), (1, .ref (gz (xG x) + 0)), (0, .ref b)] [.int r657, .int r642]
        obtain ⟨h658, g659⟩ := y655
        have h660 := Ch.tr h645 h658 (by decide)
        refine r_icmp_eq 929 C dL_law_690 (by decide) (fun c661 => ?_) (fun c661 => ?_)
        · have c661' := i_eq c661
          obtain ⟨i662, e663⟩ : ∃ z : Int32, 0 + Int32.ofInt 5 = z := ⟨_, rfl⟩
          have i662' := iinc_ok e663 (by decide) (by omega) (by omega)
          obtain rfl : i662 = 5 := i_of (by omega)
          refine r_iinc [(3, .int 5), (2, .ref (gz (xG x) + 114)), (1, .ref (gz (xG x) + 0)), (0, .ref b)] 0 C dL_law_929 rfl e663 (by decide) rfl ?_
          refine r_goto 18 C dL_law_932 (by decide) ?_
          refine r_iload_n 0 C dL_law_18 rfl ?_
          refine r_aload_n 3 C dL_law_19 rfl ?_
          refine r_slen C hX hbl hbz dL_law_20 ?_
          rw [← hn0]
          refine r_iconst (v := 5) C dL_law_21 (by decide) ?_
          refine r_isub C dL_law_22 (fun v664 e665 => ?_)
          have v664' := isub_ok e665 (by omega) (by omega)
          refine r_icmp_gt 935 C dL_law_23 (by decide) (fun c666 => ?_) (fun c666 => ?_)
          · have c666' := i_lt c666
            refine r_iconst (v := 1) C dL_law_935 (by decide) ?_
            exact hret _ _ _ _ _ dL_law_936 (by decide) (by decide)
          · have c666' := i_nlt c666
            exfalso; omega
        · have c661' := i_ne c661
          exfalso; omega
      · refine r_tabIn 695 C dL_law_32 (by omega) (by omega) (by rw [c107]; rfl) (by decide) ?_
        refine r_aload_n 2 C dL_law_695 rfl ?_
        refine r_aload_n 3 C dL_law_696 rfl ?_
        refine r_iload_n 0 C dL_law_697 rfl ?_
        refine r_iconst (v := 1) C dL_law_698 (by decide) ?_
        refine r_iadd C dL_law_699 (fun v667 e668 => ?_)
        have v667' := iadd_ok e668 (by omega) (by omega)
        refine r_sld C hX hbl hbz (vin (by omega) (by omega)) dL_law_700 (fun v669 => ?_)
        refine r_aload_n 3 C dL_law_701 rfl ?_
        refine r_iload_n 0 C dL_law_702 rfl ?_
        refine r_iconst (v := 2) C dL_law_703 (by decide) ?_
        refine r_iadd C dL_law_704 (fun v670 e671 => ?_)
        have v670' := iadd_ok e671 (by omega) (by omega)
        refine r_sld C hX hbl hbz (vin (by omega) (by omega)) dL_law_705 (fun v672 => ?_)
        refine callVI C cwL_90_V (ctX10_bestWall_0 _ _ w3 (sS sC h0) g0 g4 v669 v672 ) (by decide) (kS sC h0 kc_0) rfl rfl rfl (Nat.le_of_ble_eq_true rfl) (by decide) dL_law_706 (fun r675 w674 y673 => ?_)
        show V x 145 11604 w674 709 [(3, .int 0), (2, .ref (gz (xG x) + 114)), (1, .ref (gz (xG x) + 0)), (0, .ref b)] [.int r675]
        obtain ⟨h676, g677⟩ := y673
        have h678 := Ch.tr h0 h676 (by decide)
        refine r_aload_n 1 C dL_law_709 rfl ?_
        refine r_aload_n 3 C dL_law_710 rfl ?_
        refine r_iload_n 0 C dL_law_711 rfl ?_
        refine r_iconst (v := 1) C dL_law_712 (by decide) ?_
        refine r_iadd C dL_law_713 (fun v679 e680 => ?_)
        have v679' := iadd_ok e680 (by omega) (by omega)
        refine r_sld C hX hbl hbz (vin (by omega) (by omega)) dL_law_714 (fun v681 => ?_)
        refine r_aload_n 3 C dL_law_715 rfl ?_
        refine r_iload_n 0 C dL_law_716 rfl ?_
        refine r_iconst (v := 2) C dL_law_717 (by decide) ?_
        refine r_iadd C dL_law_718 (fun v682 e683 => ?_)
        have v682' := iadd_ok e683 (by omega) (by omega)
        refine r_sld C hX hbl hbz (vin (by omega) (by omega)) dL_law_719 (fun v684 => ?_)
        refine callVI C cwL_93_V (ctX11_bestWall_114 _ _ w674 (sS sM h678) (h676.I (by decide) g17) (h676.I (by decide) g21) (h676.I (by decide) g15) (h676.I (by decide) g16) v681 v684 ) (by decide) (kS sM h678 kc_114) rfl rfl rfl (Nat.le_of_ble_eq_true rfl) (by decide) dL_law_720 (fun r687 w686 y685 => ?_)
        show V x 145 11604 w686 723 [(3, .int 0), (2, .ref (gz (xG x) + 114)), (1, .ref (gz (xG x) + 0)), (0, .ref b)] [.int r687, .int r675]
        obtain ⟨h688, g689⟩ := y685
        have h690 := Ch.tr h678 h688 (by decide)
        refine r_icmp_eq 929 C dL_law_723 (by decide) (fun c691 => ?_) (fun c691 => ?_)
        · have c691' := i_eq c691
          obtain ⟨i692, e693⟩ : ∃ z : Int32, 0 + Int32.ofInt 5 = z := ⟨_, rfl⟩
          have i692' := iinc_ok e693 (by decide) (by omega) (by omega)
          obtain rfl : i692 = 5 := i_of (by omega)
          refine r_iinc [(3, .int 5), (2, .ref (gz (xG x) + 114)), (1, .ref (gz (xG x) + 0)), (0, .ref b)] 0 C dL_law_929 rfl e693 (by decide) rfl ?_
          refine r_goto 18 C dL_law_932 (by decide) ?_
          refine r_iload_n 0 C dL_law_18 rfl ?_
          refine r_aload_n 3 C dL_law_19 rfl ?_
          refine r_slen C hX hbl hbz dL_law_20 ?_
          rw [← hn0]
          refine r_iconst (v := 5) C dL_law_21 (by decide) ?_
          refine r_isub C dL_law_22 (fun v694 e695 => ?_)
          have v694' := isub_ok e695 (by omega) (by omega)
          refine r_icmp_gt 935 C dL_law_23 (by decide) (fun c696 => ?_) (fun c696 => ?_)
          · have c696' := i_lt c696
            refine r_iconst (v := 1) C dL_law_935 (by decide) ?_
            exact hret _ _ _ _ _ dL_law_936 (by decide) (by decide)
          · have c696' := i_nlt c696
            exfalso; omega
        · have c691' := i_ne c691
          exfalso; omega
      · refine r_tabIn 728 C dL_law_32 (by omega) (by omega) (by rw [c107]; rfl) (by decide) ?_
        refine r_aload_n 2 C dL_law_728 rfl ?_
        refine r_aload_n 3 C dL_law_729 rfl ?_
        refine r_iload_n 0 C dL_law_730 rfl ?_
        refine r_iconst (v := 1) C dL_law_731 (by decide) ?_
        refine r_iadd C dL_law_732 (fun v697 e698 => ?_)
        have v697' := iadd_ok e698 (by omega) (by omega)
        refine r_sld C hX hbl hbz (vin (by omega) (by omega)) dL_law_733 (fun v699 => ?_)
        refine callVI C cwL_94_V (ctX10_wax_0 _ _ w3 (sS sC h0) g0 g9 v699 ) (by decide) (kS sC h0 kc_0) rfl rfl rfl (Nat.le_of_ble_eq_true rfl) (by decide) dL_law_734 (fun r702 w701 y700 => ?_)
        show V x 145 11604 w701 737 [(3, .int 0), (2, .ref (gz (xG x) + 114)), (1, .ref (gz (xG x) + 0)), (0, .ref b)] [.int r702]
        obtain ⟨h703, g704⟩ := y700
        have h705 := Ch.tr h0 h703 (by decide)
        refine r_aload_n 1 C dL_law_737 rfl ?_
        refine r_aload_n 3 C dL_law_738 rfl ?_
        refine r_iload_n 0 C dL_law_739 rfl ?_
        refine r_iconst (v := 1) C dL_law_740 (by decide) ?_
        refine r_iadd C dL_law_741 (fun v706 e707 => ?_)
        have v706' := iadd_ok e707 (by omega) (by omega)
        refine r_sld C hX hbl hbz (vin (by omega) (by omega)) dL_law_742 (fun v708 => ?_)
        refine callVI C cwL_97_V (ctX11_wax_114 _ _ w701 (sS sM h705) (h703.I (by decide) g17) (h703.I (by decide) g21) (h703.I (by decide) g15) (h703.I (by decide) g16) v708 ) (by decide) (kS sM h705 kc_114) rfl rfl rfl (Nat.le_of_ble_eq_true rfl) (by decide) dL_law_743 (fun r711 w710 y709 => ?_)
        show V x 145 11604 w710 746 [(3, .int 0), (2, .ref (gz (xG x) + 114)), (1, .ref (gz (xG x) + 0)), (0, .ref b)] [.int r711, .int r702]
        obtain ⟨h712, g713⟩ := y709
        have h714 := Ch.tr h705 h712 (by decide)
        refine r_icmp_eq 929 C dL_law_746 (by decide) (fun c715 => ?_) (fun c715 => ?_)
        · have c715' := i_eq c715
          obtain ⟨i716, e717⟩ : ∃ z : Int32, 0 + Int32.ofInt 5 = z := ⟨_, rfl⟩
          have i716' := iinc_ok e717 (by decide) (by omega) (by omega)
          obtain rfl : i716 = 5 := i_of (by omega)
          refine r_iinc [(3, .int 5), (2, .ref (gz (xG x) + 114)), (1, .ref (gz (xG x) + 0)), (0, .ref b)] 0 C dL_law_929 rfl e717 (by decide) rfl ?_
          refine r_goto 18 C dL_law_932 (by decide) ?_
          refine r_iload_n 0 C dL_law_18 rfl ?_
          refine r_aload_n 3 C dL_law_19 rfl ?_
          refine r_slen C hX hbl hbz dL_law_20 ?_
          rw [← hn0]
          refine r_iconst (v := 5) C dL_law_21 (by decide) ?_
          refine r_isub C dL_law_22 (fun v718 e719 => ?_)
          have v718' := isub_ok e719 (by omega) (by omega)
          refine r_icmp_gt 935 C dL_law_23 (by decide) (fun c720 => ?_) (fun c720 => ?_)
          · have c720' := i_lt c720
            refine r_iconst (v := 1) C dL_law_935 (by decide) ?_
            exact hret _ _ _ _ _ dL_law_936 (by decide) (by decide)
          · have c720' := i_nlt c720
            exfalso; omega
        · have c715' := i_ne c715
          exfalso; omega
      · refine r_tabIn 751 C dL_law_32 (by omega) (by omega) (by rw [c107]; rfl) (by decide) ?_
        refine r_aload_n 2 C dL_law_751 rfl ?_
        refine r_aload_n 3 C dL_law_752 rfl ?_
        refine r_iload_n 0 C dL_law_753 rfl ?_
        refine r_iconst (v := 1) C dL_law_754 (by decide) ?_
        refine r_iadd C dL_law_755 (fun v721 e722 => ?_)
        have v721' := iadd_ok e722 (by omega) (by omega)
        refine r_sld C hX hbl hbz (vin (by omega) (by omega)) dL_law_756 (fun v723 => ?_)
        refine r_aload_n 3 C dL_law_757 rfl ?_
        refine r_iload_n 0 C dL_law_758 rfl ?_
        refine r_iconst (v := 2) C dL_law_759 (by decide) ?_
        refine r_iadd C dL_law_760 (fun v724 e725 => ?_)
        have v724' := iadd_ok e725 (by omega) (by omega)
        refine r_sld C hX hbl hbz (vin (by omega) (by omega)) dL_law_761 (fun v726 => ?_)
        refine r_aload_n 3 C dL_law_762 rfl ?_
        refine r_iload_n 0 C dL_law_763 rfl ?_
        refine r_iconst (v := 3) C dL_law_764 (by decide) ?_
        refine r_iadd C dL_law_765 (fun v727 e728 => ?_)
        have v727' := iadd_ok e728 (by omega) (by omega)
        refine r_sld C hX hbl hbz (vin (by omega) (by omega)) dL_law_766 (fun v729 => ?_)
        refine r_aload_n 3 C dL_law_767 rfl ?_
        refine r_iload_n 0 C dL_law_768 rfl ?_
        refine r_iconst (v := 4) C dL_law_769 (by decide) ?_
        refine r_iadd C dL_law_770 (fun v730 e731 => ?_)
        have v730' := iadd_ok e731 (by omega) (by omega)
        refine r_sld C hX hbl hbz (vin (by omega) (by omega)) dL_law_771 (fun v732 => ?_)
        refine callVI C cwL_98_V (ctX10_see_0 _ _ w3 (sS sC h0) g5 g6 g0 v723 v726 v729 v732 ) (by decide) (kS sC h0 kc_0) rfl rfl rfl (Nat.le_of_ble_eq_true rfl) (by decide) dL_law_772 (fun r735 w734 y733 => ?_)
        show V x 145 11604 w734 775 [(3, .int 0), (2, .ref (gz (xG x) + 114)), (1, .ref (gz (xG x) + 0)), (0, .ref b)] [.int r735]
        obtain ⟨h736, g737⟩ := y733
        have h738 := Ch.tr h0 h736 (by decide)
        refine r_aload_n 1 C dL_law_775 rfl ?_
        refine r_aload_n 3 C dL_law_776 rfl ?_
        refine r_iload_n 0 C dL_law_777 rfl ?_
        refine r_iconst (v := 1) C dL_law_778 (by decide) ?_
        refine r_iadd C dL_law_779 (fun v739 e740 => ?_)
        have v739' := iadd_ok e740 (by omega) (by omega)
        refine r_sld C hX hbl hbz (vin (by omega) (by omega)) dL_law_780 (fun v741 => ?_)
        refine r_aload_n 3 C dL_law_781 rfl ?_
        refine r_iload_n 0 C dL_law_782 rfl ?_
        refine r_iconst (v := 2) C dL_law_783 (by decide) ?_
        refine r_iadd C dL_law_784 (fun v742 e743 => ?_)
        have v742' := iadd_ok e743 (by omega) (by omega)
        refine r_sld C hX hbl hbz (vin (by omega) (by omega)) dL_law_785 (fun v744 => ?_)
        refine r_aload_n 3 C dL_law_786 rfl ?_
        refine r_iload_n 0 C dL_law_787 rfl ?_
        refine r_iconst (v := 3) C dL_law_788 (by decide) ?_
        refine r_iadd C dL_law_789 (fun v745 e746 => ?_)
        have v745' := iadd_ok e746 (by omega) (by omega)
        refine r_sld C hX hbl hbz (vin (by omega) (by omega)) dL_law_790 (fun v747 => ?_)
        refine r_aload_n 3 C dL_law_791 rfl ?_
        refine r_iload_n 0 C dL_law_792 rfl ?_
        refine r_iconst (v := 4) C dL_law_793 (by decide) ?_
        refine r_iadd C dL_law_794 (fun v748 e749 => ?_)
        have v748' := iadd_ok e749 (by omega) (by omega)
        refine r_sld C hX hbl hbz (vin (by omega) (by omega)) dL_law_795 (fun v750 => ?_)
        refine callVI C cwL_101_V (ctX11_see_114 _ _ w734 (sS sM h738) (h736.I (by decide) g15) (h736.I (by decide) g16) (h736.I (by decide) g17) v741 v744 v747 v750 ) (by decide) (kS sM h738 kc_114) rfl rfl rfl (Nat.le_of_ble_eq_true rfl) (by decide) dL_law_796 (fun r753 w752 y751 => ?_)
        show V x 145 11604 w752 799 [(3, .int 0), (2, .ref (gz (xG x) + 114)), (1, .ref (gz (xG x) + 0)), (0, .ref b)] [.int r753, .int r735]
        obtain ⟨h754, g755⟩ := y751
        have h756 := Ch.tr h738 h754 (by decide)
        refine r_icmp_eq 929 C dL_law_799 (by decide) (fun c757 => ?_) (fun c757 => ?_)
        · have c757' := i_eq c757
          obtain ⟨i758, e759⟩ : ∃ z : Int32, 0 + Int32.ofInt 5 = z := ⟨_, rfl⟩
          have i758' := iinc_ok e759 (by decide) (by omega) (by omega)
          obtain rfl : i758 = 5 := i_of (by omega)
          refine r_iinc [(3, .int 5), (2, .ref (gz (xG x) + 114)), (1, .ref (gz (xG x) + 0)), (0, .ref b)] 0 C dL_law_929 rfl e759 (by decide) rfl ?_
          refine r_goto 18 C dL_law_932 (by decide) ?_
          refine r_iload_n 0 C dL_law_18 rfl ?_
          refine r_aload_n 3 C dL_law_19 rfl ?_
          refine r_slen C hX hbl hbz dL_law_20 ?_
          rw [← hn0]
          refine r_iconst (v := 5) C dL_law_21 (by decide) ?_
          refine r_isub C dL_law_22 (fun v760 e761 => ?_)
          have v760' := isub_ok e761 (by omega) (by omega)
          refine r_icmp_gt 935 C dL_law_23 (by decide) (fun c762 => ?_) (fun c762 => ?_)
          · have c762' := i_lt c762
            refine r_iconst (v := 1) C dL_law_935 (by decide) ?_
            exact hret _ _ _ _ _ dL_law_936 (by decide) (by decide)
          · have c762' := i_nlt c762
            exfalso; omega
        · have c757' := i_ne c757
          exfalso; omega
      · refine r_tabIn 804 C dL_law_32 (by omega) (by omega) (by rw [c107]; rfl) (by decide) ?_
        refine r_aload_n 2 C dL_law_804 rfl ?_
        refine r_aload_n 3 C dL_law_805 rfl ?_
        refine r_iload_n 0 C dL_law_806 rfl ?_
        refine r_iconst (v := 1) C dL_law_807 (by decide) ?_
        refine r_iadd C dL_law_808 (fun v763 e764 => ?_)
        have v763' := iadd_ok e764 (by omega) (by omega)
        refine r_sld C hX hbl hbz (vin (by omega) (by omega)) dL_law_809 (fun v765 => ?_)
        refine r_aload_n 3 C dL_law_810 rfl ?_
        refine r_iload_n 0 C dL_law_811 rfl ?_
        refine r_iconst (v := 2) C dL_law_812 (by decide) ?_
        refine r_iadd C dL_law_813 (fun v766 e767 => ?_)
        have v766' := iadd_ok e767 (by omega) (by omega)
        refine r_sld C hX hbl hbz (vin (by omega) (by omega)) dL_law_814 (fun v768 => ?_)
        refine r_aload_n 3 C dL_law_815 rfl ?_
        refine r_iload_n 0 C dL_law_816 rfl ?_
        refine r_iconst (v := 3) C dL_law_817 (by decide) ?_
        refine r_iadd C dL_law_818 (fun v769 e770 => ?_)
        have v769' := iadd_ok e770 (by omega) (by omega)
        refine r_sld C hX hbl hbz (vin (by omega) (by omega)) dL_law_819 (fun v771 => ?_)
        refine callVI C cwL_102_V (ctX10_walks_0 _ _ w3 (sS sC h0) g1 v765 v768 v771 ) (by decide) (kS sC h0 kc_0) rfl rfl rfl (Nat.le_of_ble_eq_true rfl) (by decide) dL_law_820 (fun r774 w773 y772 => ?_)
        show V x 145 11604 w773 823 [(3, .int 0), (2, .ref (gz (xG x) + 114)), (1, .ref (gz (xG x) + 0)), (0, .ref b)] [.int r774]
        obtain ⟨h775, g776⟩ := y772
        have h777 := Ch.tr h0 h775 (by decide)
        refine r_aload_n 1 C dL_law_823 rfl ?_
        refine r_aload_n 3 C dL_law_824 rfl ?_
        refine r_iload_n 0 C dL_law_825 rfl ?_
        refine r_iconst (v := 1) C dL_law_826 (by decide) ?_
        refine r_iadd C dL_law_827 (fun v778 e779 => ?_)
        have v778' := iadd_ok e779 (by omega) (by omega)
        refine r_sld C hX hbl hbz (vin (by omega) (by omega)) dL_law_828 (fun v780 => ?_)
        refine r_aload_n 3 C dL_law_829 rfl ?_
        refine r_iload_n 0 C dL_law_830 rfl ?_
        refine r_iconst (v := 2) C dL_law_831 (by decide) ?_
        refine r_iadd C dL_law_832 (fun v781 e782 => ?_)
        have v781' := iadd_ok e782 (by omega) (by omega)
        refine r_sld C hX hbl hbz (vin (by omega) (by omega)) dL_law_833 (fun v783 => ?_)
        refine r_aload_n 3 C dL_law_834 rfl ?_
        refine r_iload_n 0 C dL_law_835 rfl ?_
        refine r_iconst (v := 3) C dL_law_836 (by decide) ?_
        refine r_iadd C dL_law_837 (fun v784 e785 => ?_)
        have v784' := iadd_ok e785 (by omega) (by omega)
        refine r_sld C hX hbl hbz (vin (by omega) (by omega)) dL_law_838 (fun v786 => ?_)
        refine callVI C cwL_105_V (ctX11_walks_114 _ _ w773 (sS sM h777) (h775.I (by decide) g18) v780 v783 v786 ) (by decide) (kS sM h777 kc_114) rfl rfl rfl (Nat.le_of_ble_eq_true rfl) (by decide) dL_law_839 (fun r789 w788 y787 => ?_)
        show V x 145 11604 w788 842 [(3, .int 0), (2, .ref (gz (xG x) + 114)), (1, .ref (gz (xG x) + 0)), (0, .ref b)] [.int r789, .int r774]
        obtain ⟨h790, g791⟩ := y787
        have h792 := Ch.tr h777 h790 (by decide)
        refine r_icmp_eq 929 C dL_law_842 (by decide) (fun c793 => ?_) (fun c793 => ?_)
        · have c793' := i_eq c793
          obtain ⟨i794, e795⟩ : ∃ z : Int32, 0 + Int32.ofInt 5 = z := ⟨_, rfl⟩
          have i794' := iinc_ok e795 (by decide) (by omega) (by omega)
          obtain rfl : i794 = 5 := i_of (by omega)
          refine r_iinc [(3, .int 5), (2, .ref (gz (xG x) + 114)), (1, .ref (gz (xG x) + 0)), (0, .ref b)] 0 C dL_law_929 rfl e795 (by decide) rfl ?_
          refine r_goto 18 C dL_law_932 (by decide) ?_
          refine r_iload_n 0 C dL_law_18 rfl ?_
          refine r_aload_n 3 C dL_law_19 rfl ?_
          refine r_slen C hX hbl hbz dL_law_20 ?_
          rw [← hn0]
          refine r_iconst (v := 5) C dL_law_21 (by decide) ?_
          refine r_isub C dL_law_22 (fun v796 e797 => ?_)
          have v796' := isub_ok e797 (by omega) (by omega)
          refine r_icmp_gt 935 C dL_law_23 (by decide) (fun c798 => ?_) (fun c798 => ?_)
          · have c798' := i_lt c798
            refine r_iconst (v := 1) C dL_law_935 (by decide) ?_
            exact hret _ _ _ _ _ dL_law_936 (by decide) (by decide)
          · have c798' := i_nlt c798
            exfalso; omega
        · have c793' := i_ne c793
          exfalso; omega
      · refine r_tabIn 847 C dL_law_32 (by omega) (by omega) (by rw [c107]; rfl) (by decide) ?_
        refine r_aload_n 2 C dL_law_847 rfl ?_
        refine callVI C cwL_106_V (ctX10_tear_0 _ _ w3 (sS sC h0) g10  ) (by decide) (kS sC h0 kc_0) rfl rfl rfl (Nat.le_of_ble_eq_true rfl) (by decide) dL_law_848 (fun r801 w800 y799 => ?_)
        show V x 145 11604 w800 851 [(3, .int 0), (2, .ref (gz (xG x) + 114)), (1, .ref (gz (xG x) + 0)), (0, .ref b)] [.int r801]
        obtain ⟨h802, g803⟩ := y799
        have h804 := Ch.tr h0 h802 (by decide)
        refine r_aload_n 1 C dL_law_851 rfl ?_
        refine callVI C cwL_109_V (ctX11_tear_114 _ _ w800 (sS sM h804) (h802.I (by decide) g22)  ) (by decide) (kS sM h804 kc_114) rfl rfl rfl (Nat.le_of_ble_eq_true rfl) (by decide) dL_law_852 (fun r807 w806 y805 => ?_)
        show V x 145 11604 w806 855 [(3, .int 0), (2, .ref (gz (xG x) + 114)), (1, .ref (gz (xG x) + 0)), (0, .ref b)] [.int r807, .int r801]
        obtain ⟨h808, g809⟩ := y805
        have h810 := Ch.tr h804 h808 (by decide)
        refine r_icmp_eq 929 C dL_law_855 (by decide) (fun c811 => ?_) (fun c811 => ?_)
        · have c811' := i_eq c811
          obtain ⟨i812, e813⟩ : ∃ z : Int32, 0 + Int32.ofInt 5 = z := ⟨_, rfl⟩
          have i812' := iinc_ok e813 (by decide) (by omega) (by omega)
          obtain rfl : i812 = 5 := i_of (by omega)
          refine r_iinc [(3, .int 5), (2, .ref (gz (xG x) + 114)), (1, .ref (gz (xG x) + 0)), (0, .ref b)] 0 C dL_law_929 rfl e813 (by decide) rfl ?_
          refine r_goto 18 C dL_law_932 (by decide) ?_
          refine r_iload_n 0 C dL_law_18 rfl ?_
          refine r_aload_n 3 C dL_law_19 rfl ?_
          refine r_slen C hX hbl hbz dL_law_20 ?_
          rw [← hn0]
          refine r_iconst (v := 5) C dL_law_21 (by decide) ?_
          refine r_isub C dL_law_22 (fun v814 e815 => ?_)
          have v814' := isub_ok e815 (by omega) (by omega)
          refine r_icmp_gt 935 C dL_law_23 (by decide) (fun c816 => ?_) (fun c816 => ?_)
          · have c816' := i_lt c816
            refine r_iconst (v := 1) C dL_law_935 (by decide) ?_
            exact hret _ _ _ _ _ dL_law_936 (by decide) (by decide)
          · have c816' := i_nlt c816
            exfalso; omega
        · have c811' := i_ne c811
          exfalso; omega
      · refine r_tabIn 860 C dL_law_32 (by omega) (by omega) (by rw [c107]; rfl) (by decide) ?_
        refine r_aload_n 2 C dL_law_860 rfl ?_
        refine r_aload_n 3 C dL_law_861 rfl ?_
        refine r_iload_n 0 C dL_law_862 rfl ?_
        refine r_iconst (v := 1) C dL_law_863 (by decide) ?_
        refine r_iadd C dL_law_864 (fun v817 e818 => ?_)
        have v817' := iadd_ok e818 (by omega) (by omega)
        refine r_sld C hX hbl hbz (vin (by omega) (by omega)) dL_law_865 (fun v819 => ?_)
        refine callVI C cwL_110_V (ctX10_seed_0 _ _ w3 (sS sC h0) g12 v819 ) (by decide) (kS sC h0 kc_0) rfl rfl rfl (Nat.le_of_ble_eq_true rfl) (by decide) dL_law_866 (fun r822 w821 y820 => ?_)
        show V x 145 11604 w821 869 [(3, .int 0), (2, .ref (gz (xG x) + 114)), (1, .ref (gz (xG x) + 0)), (0, .ref b)] [.int r822]
        obtain ⟨h823, g824⟩ := y820
        have h825 := Ch.tr h0 h823 (by decide)
        refine r_aload_n 1 C dL_law_869 rfl ?_
        refine r_aload_n 3 C dL_law_870 rfl ?_
        refine r_iload_n 0 C dL_law_871 rfl ?_
        refine r_iconst (v := 1) C dL_law_872 (by decide) ?_
        refine r_iadd C dL_law_873 (fun v826 e827 => ?_)
        have v826' := iadd_ok e827 (by omega) (by omega)
        refine r_sld C hX hbl hbz (vin (by omega) (by omega)) dL_law_874 (fun v828 => ?_)
        refine callVI C cwL_113_V (ctX11_seed_114 _ _ w821 (sS sM h825) (h823.I (by decide) g24) v828 ) (by decide) (kS sM h825 kc_114) rfl rfl rfl (Nat.le_of_ble_eq_true rfl) (by decide) dL_law_875 (fun r831 w830 y829 => ?_)
        show V x 145 11604 w830 878 [(3, .int 0), (2, .ref (gz (xG x) + 114)), (1, .ref (gz (xG x) + 0)), (0, .ref b)] [.int r831, .int r822]
        obtain ⟨h832, g833⟩ := y829
        have h834 := Ch.tr h825 h832 (by decide)
        refine r_icmp_eq 929 C dL_law_878 (by decide) (fun c835 => ?_) (fun c835 => ?_)
        · have c835' := i_eq c835
          obtain ⟨i836, e837⟩ : ∃ z : Int32, 0 + Int32.ofInt 5 = z := ⟨_, rfl⟩
          have i836' := iinc_ok e837 (by decide) (by omega) (by omega)
          obtain rfl : i836 = 5 := i_of (by omega)
          refine r_iinc [(3, .int 5), (2, .ref (gz (xG x) + 114)), (1, .ref (gz (xG x) + 0)), (0, .ref b)] 0 C dL_law_929 rfl e837 (by decide) rfl ?_
          refine r_goto 18 C dL_law_932 (by decide) ?_
          refine r_iload_n 0 C dL_law_18 rfl ?_
          refine r_aload_n 3 C dL_law_19 rfl ?_
          refine r_slen C hX hbl hbz dL_law_20 ?_
          rw [← hn0]
          refine r_iconst (v := 5) C dL_law_21 (by decide) ?_
          refine r_isub C dL_law_22 (fun v838 e839 => ?_)
          have v838' := isub_ok e839 (by omega) (by omega)
          refine r_icmp_gt 935 C dL_law_23 (by decide) (fun c840 => ?_) (fun c840 => ?_)
          · have c840' := i_lt c840
            refine r_iconst (v := 1) C dL_law_935 (by decide) ?_
            exact hret _ _ _ _ _ dL_law_936 (by decide) (by decide)
          · have c840' := i_nlt c840
            exfalso; omega
        · have c835' := i_ne c835
          exfalso; omega
      · refine r_tabIn 883 C dL_law_32 (by omega) (by omega) (by rw [c107]; rfl) (by decide) ?_
        refine r_aload_n 2 C dL_law_883 rfl ?_
        refine r_aload_n 3 C dL_law_884 rfl ?_
        refine r_iload_n 0 C dL_law_885 rfl ?_
        refine r_iconst (v := 1) C dL_law_886 (by decide) ?_
        refine r_iadd C dL_law_887 (fun v841 e842 => ?_)
        have v841' := iadd_ok e842 (by omega) (by omega)
        refine r_sld C hX hbl hbz (vin (by omega) (by omega)) dL_law_888 (fun v843 => ?_)
        refine callVI C cwL_114_V (ctX10_keep_0 _ _ w3 (sS sC h0) g0 v843 ) (by decide) (kS sC h0 kc_0) rfl rfl rfl (Nat.le_of_ble_eq_true rfl) (by decide) dL_law_889 (fun r846 w845 y844 => ?_)
        show V x 145 11604 w845 892 [(3, .int 0), (2, .ref (gz (xG x) + 114)), (1, .ref (gz (xG x) + 0)), (0, .ref b)] [.int r846]
        obtain ⟨h847, g848⟩ := y844
        have h849 := Ch.tr h0 h847 (by decide)
        refine r_aload_n 1 C dL_law_892 rfl ?_
        refine r_aload_n 3 C dL_law_893 rfl ?_
        refine r_iload_n 0 C dL_law_894 rfl ?_
        refine r_iconst (v := 1) C dL_law_895 (by decide) ?_
        refine r_iadd C dL_law_896 (fun v850 e851 => ?_)
        have v850' := iadd_ok e851 (by omega) (by omega)
        refine r_sld C hX hbl hbz (vin (by omega) (by omega)) dL_law_897 (fun v852 => ?_)
        refine callVI C cwL_117_V (ctX11_keep_114 _ _ w845 (sS sM h849)  v852 ) (by decide) (kS sM h849 kc_114) rfl rfl rfl (Nat.le_of_ble_eq_true rfl) (by decide) dL_law_898 (fun r855 w854 y853 => ?_)
        show V x 145 11604 w854 901 [(3, .int 0), (2, .ref (gz (xG x) + 114)), (1, .ref (gz (xG x) + 0)), (0, .ref b)] [.int r855, .int r846]
        obtain ⟨h856, g857⟩ := y853
        have h858 := Ch.tr h849 h856 (by decide)
        refine r_icmp_eq 929 C dL_law_901 (by decide) (fun c859 => ?_) (fun c859 => ?_)
        · have c859' := i_eq c859
          obtain ⟨i860, e861⟩ : ∃ z : Int32, 0 + Int32.ofInt 5 = z := ⟨_, rfl⟩
          have i860' := iinc_ok e861 (by decide) (by omega) (by omega)
          obtain rfl : i860 = 5 := i_of (by omega)
          refine r_iinc [(3, .int 5), (2, .ref (gz (xG x) + 114)), (1, .ref (gz (xG x) + 0)), (0, .ref b)] 0 C dL_law_929 rfl e861 (by decide) rfl ?_
          refine r_goto 18 C dL_law_932 (by decide) ?_
          refine r_iload_n 0 C dL_law_18 rfl ?_
          refine r_aload_n 3 C dL_law_19 rfl ?_
          refine r_slen C hX hbl hbz dL_law_20 ?_
          rw [← hn0]
          refine r_iconst (v := 5) C dL_law_21 (by decide) ?_
          refine r_isub C dL_law_22 (fun v862 e863 => ?_)
          have v862' := isub_ok e863 (by omega) (by omega)
          refine r_icmp_gt 935 C dL_law_23 (by decide) (fun c864 => ?_) (fun c864 => ?_)
          · have c864' := i_lt c864
            refine r_iconst (v := 1) C dL_law_935 (by decide) ?_
            exact hret _ _ _ _ _ dL_law_936 (by decide) (by decide)
          · have c864' := i_nlt c864
            exfalso; omega
        · have c859' := i_ne c859
          exfalso; omega
      · refine r_tabIn 906 C dL_law_32 (by omega) (by omega) (by rw [c107]; rfl) (by decide) ?_
        refine r_aload_n 2 C dL_law_906 rfl ?_
        refine r_aload_n 3 C dL_law_907 rfl ?_
        refine r_iload_n 0 C dL_law_908 rfl ?_
        refine r_iconst (v := 1) C dL_law_909 (by decide) ?_
        refine r_iadd C dL_law_910 (fun v865 e866 => ?_)
        have v865' := iadd_ok e866 (by omega) (by omega)
        refine r_sld C hX hbl hbz (vin (by omega) (by omega)) dL_law_911 (fun v867 => ?_)
        refine callVI C cwL_118_V (ctX10_goBack_0 _ _ w3 (sS sC h0) g13 g14 v867 ) (by decide) (kS sC h0 kc_0) rfl rfl rfl (Nat.le_of_ble_eq_true rfl) (by decide) dL_law_912 (fun r870 w869 y868 => ?_)
        show V x 145 11604 w869 915 [(3, .int 0), (2, .ref (gz (xG x) + 114)), (1, .ref (gz (xG x) + 0)), (0, .ref b)] [.int r870]
        obtain ⟨h871, g872⟩ := y868
        have h873 := Ch.tr h0 h871 (by decide)
        refine r_aload_n 1 C dL_law_915 rfl ?_
        refine r_aload_n 3 C dL_law_916 rfl ?_
        refine r_iload_n 0 C dL_law_917 rfl ?_
        refine r_iconst (v := 1) C dL_law_918 (by decide) ?_
        refine r_iadd C dL_law_919 (fun v874 e875 => ?_)
        have v874' := iadd_ok e875 (by omega) (by omega)
        refine r_sld C hX hbl hbz (vin (by omega) (by omega)) dL_law_920 (fun v876 => ?_)
        refine callVI C cwL_121_V (ctX11_goBack_114 _ _ w869 (sS sM h873) (h871.I (by decide) g25) (h871.I (by decide) g26) v876 ) (by decide) (kS sM h873 kc_114) rfl rfl rfl (Nat.le_of_ble_eq_true rfl) (by decide) dL_law_921 (fun r879 w878 y877 => ?_)
        show V x 145 11604 w878 924 [(3, .int 0), (2, .ref (gz (xG x) + 114)), (1, .ref (gz (xG x) + 0)), (0, .ref b)] [.int r879, .int r870]
        obtain ⟨h880, g881⟩ := y877
        have h882 := Ch.tr h873 h880 (by decide)
        refine r_icmp_eq 929 C dL_law_924 (by decide) (fun c883 => ?_) (fun c883 => ?_)
        · have c883' := i_eq c883
          obtain ⟨i884, e885⟩ : ∃ z : Int32, 0 + Int32.ofInt 5 = z := ⟨_, rfl⟩
          have i884' := iinc_ok e885 (by decide) (by omega) (by omega)
          obtain rfl : i884 = 5 := i_of (by omega)
          refine r_iinc [(3, .int 5), (2, .ref (gz (xG x) + 114)), (1, .ref (gz (xG x) + 0)), (0, .ref b)] 0 C dL_law_929 rfl e885 (by decide) rfl ?_
          refine r_goto 18 C dL_law_932 (by decide) ?_
          refine r_iload_n 0 C dL_law_18 rfl ?_
          refine r_aload_n 3 C dL_law_19 rfl ?_
          refine r_slen C hX hbl hbz dL_law_20 ?_
          rw [← hn0]
          refine r_iconst (v := 5) C dL_law_21 (by decide) ?_
          refine r_isub C dL_law_22 (fun v886 e887 => ?_)
          have v886' := isub_ok e887 (by omega) (by omega)
          refine r_icmp_gt 935 C dL_law_23 (by decide) (fun c888 => ?_) (fun c888 => ?_)
          · have c888' := i_lt c888
            refine r_iconst (v := 1) C dL_law_935 (by decide) ?_
            exact hret _ _ _ _ _ dL_law_936 (by decide) (by decide)
          · have c888' := i_nlt c888
            exfalso; omega
        · have c883' := i_ne c883
          exfalso; omega
