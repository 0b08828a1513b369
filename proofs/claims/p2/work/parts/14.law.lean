def VM : Wv := nX11 (addK WC112 (11, .inl fX11)) 114 115
theorem strC_M : Str KC XC VM := ⟨by decide +kernel, by decide +kernel⟩
theorem strM_M : Str KM XM VM := ⟨by decide +kernel, by decide +kernel⟩
theorem okM_M : OkM VM := ⟨Inv.dec (by decide +kernel), by unfold Rel; decide +kernel⟩
set_option maxHeartbeats 4000000 in
set_option maxRecDepth 100000 in
theorem law_walk (x : Ct) (b Ls : Nat) (xf : Nat → Int32) (C : Cx x cL_law 4 RL room_1) (hX : va_X b Ls xf (xs x) (xs x).heap) (hbl : b < (xs x).heap.size) (hbz : b < gz (xG x)) (hL : Ls ≤ 320) (hret : ∀ (cells slots : Nat) (w : Wv) (pc : Nat) (lv : List (Nat × Value)), decode cL_law pc = .ok (.ireturn, 1) → cells ≤ 600000 → slots ≤ 7302250 → V x cells slots w pc lv [.int 1]) : V x 0 0 w00 0 [(0, .ref b)] [] := by
  obtain ⟨n0, hn0⟩ : ∃ z : Int32, z = Int32.ofNat Ls := ⟨_, rfl⟩
  have n0' : n0.toInt = (Ls : Int) := by rw [hn0]; exact nI_toInt (by omega)
  have q0 : (0 : Int32).toInt = 0 := by decide
  have q1 : (1 : Int32).toInt = 1 := by decide
  have q2 : (2 : Int32).toInt = 2 := by decide
  have q3 : (3 : Int32).toInt = 3 := by decide
  have q4 : (4 : Int32).toInt = 4 := by decide
  have q5 : (5 : Int32).toInt = 5 := by decide
  have q31 : (31 : Int32).toInt = 31 := by decide
  have q32 : (32 : Int32).toInt = 32 := by decide
  have ql4294967295 : (4294967295 : Int64).toInt = 4294967295 := by decide
  refine r_new (ci := 10) C rfl inX10 tyX10 tyX10_ok mw1_18 mw1_19 mw1_1 fX10 dfX10 (by decide) (by decide) dL_law_0 (fun w0 e0 => ?_)
  rw [show (wK w00).length = 0 from rfl]
  subst e0; show V x 1 15 WC0 3 [(0, .ref b)] [.ref (gz (xG x) + 0)]
  refine r_dup C dL_law_3 rfl ?_
  refine callIV C cwL_9_I (cnX10_0 _ _) (by decide) rfl rfl (Nat.le_of_ble_eq_true rfl) (by decide) dL_law_4 (fun w1 y1 => ?_)
  show V x 114 8864 w1 7 [(0, .ref b)] [.ref (gz (xG x) + 0)]
  obtain ⟨h1, oC1⟩ := y1
  refine r_astore_n [(1, .ref (gz (xG x) + 0)), (0, .ref b)] C dL_law_7 (by decide) rfl ?_
  have l1 : (wK w1).length = 114 := by rw [h1.1]; decide +kernel
  refine r_new (ci := 11) C rfl inX11 tyX11 tyX11_ok mw5_50 mw5_51 mw1_13 fX11 dfX11 (by decide) (by decide) dL_law_8 (fun w2 e2 => ?_)
  rw [l1]
  show V x 115 8922 w2 11 [(1, .ref (gz (xG x) + 0)), (0, .ref b)] [.ref (gz (xG x) + 114)]
  refine r_dup C dL_law_11 rfl ?_
  have l2 : (wK w2).length = 115 := len_add e2 l1
  have k2 : (wK w2)[114]? = some (11, .inl fX11) := by subst e2; show (wK w1 ++ [_])[114]? = _; rw [List.getElem?_append_right (by rw [l1]; exact Nat.le_refl _), l1]; rfl
  refine callIV C cwL_12_I (cnX11 _ _ w2 114 115 k2 l2) (by decide) rfl rfl (Nat.le_of_ble_eq_true rfl) (by decide) dL_law_12 (fun w3 e3 => ?_)
  show V x 145 11604 w3 15 [(1, .ref (gz (xG x) + 0)), (0, .ref b)] [.ref (gz (xG x) + 114)]
  have h3 : Ch [22, 23, 24, 26, 29, 30, 31, 33, 36, 37] [(21, 0), (21, 2), (21, 3), (28, 0), (28, 2), (28, 3), (35, 0), (35, 1), (44, 0), (47, 0), (55, 7), (104, 0), (109, 0)] VM w3 := by subst e3; subst e2; exact ((((((((((((((((((((((((((((((((((((((((((((((((((((((((((((((((h1.cAdd).cAdd).cX).cAdd).cX).cAdd).cX).cAdd).cX).cAdd).cX).cAdd).cX).cAdd).cX).cI).cI).cAdd).cX).cAdd).cX).cAdd).cX).cAdd).cX).cI).cAdd).cX).cAdd).cX).cAdd).cX).cAdd).cX).cAdd).cX).cAdd).cX).cAdd).cX).cAdd).cX).cAdd).cX).cAdd).cX).cAdd).cX).cAdd).cX).cAdd).cX).cAdd).cX).cAdd).cX).cAdd).cX).cAdd).cX).cAdd).cX).cAdd).cX).cI
  have lo : Lo 114 w1 w3 := by subst e3; subst e2; exact (((((((((((((((((((((((((((((((((((((((((((((((((((((((((((((((((Lo.rf (N := 114) (L := 114) l1 (Nat.le_refl _)).cAdd).cAdd).cX).cAdd).cX).cAdd).cX).cAdd).cX).cAdd).cX).cAdd).cX).cAdd).cX).cI (by decide)).cI (by decide)).cAdd).cX).cAdd).cX).cAdd).cX).cAdd).cX).cI (by decide)).cAdd).cX).cAdd).cX).cAdd).cX).cAdd).cX).cAdd).cX).cAdd).cX).cAdd).cX).cAdd).cX).cAdd).cX).cAdd).cX).cAdd).cX).cAdd).cX).cAdd).cX).cAdd).cX).cAdd).cX).cAdd).cX).cAdd).cX).cAdd).cX).cAdd).cX).cI (by decide)
  have sC := sS strC_M h3
  have sM := sS strM_M h3
  have oC3 : Inv RC w3 := Inv.lo oC1 lo (by decide)
  have oM3 : OkM w3 := OkM.ch okM_M h3 (by decide) (by decide)
  have g1 : wI w3 1 0 = 0 := (lo.2 1 (by decide) 0).trans (h1.I (by decide) (by decide) (by decide +kernel))
  have g2 : wI w3 114 20 = 0 := h3.I (by decide) (by decide) (by decide +kernel)
  clear h1 oC1 l1 l2 k2 lo e3
  have h0 : Ch [2, 4, 5, 6, 7, 8, 9, 10, 11, 13, 14, 15, 16, 17, 18, 19, 20, 22, 23, 24, 25, 26, 27, 29, 30, 31, 32, 33, 34, 36, 37, 39, 40, 42, 43, 45, 46, 48, 49, 50, 52, 53, 54, 57, 58, 60, 61, 63, 64, 66, 67, 69, 70, 72, 73, 75, 76, 78, 79, 82, 83, 84, 86, 87, 89, 90, 92, 93, 95, 96, 98, 99, 101, 102, 105, 107, 108, 110, 112, 113, 115, 116, 117, 118, 119, 120, 121, 122, 123, 124, 125, 126, 127, 128, 129, 130, 131, 132, 133, 134, 135, 136, 137, 138, 139, 140, 141, 142, 143, 144] [(0, 14), (1, 0), (1, 1), (1, 2), (1, 4), (1, 5), (3, 0), (3, 1), (3, 2), (3, 3), (3, 4), (3, 5), (3, 6), (3, 7), (3, 8), (12, 0), (12, 1), (12, 2), (12, 3), (12, 4), (12, 5), (12, 6), (12, 7), (12, 8), (21, 0), (21, 2), (21, 3), (28, 0), (28, 2), (28, 3), (35, 0), (35, 1), (38, 0), (38, 1), (41, 0), (41, 1), (44, 0), (47, 0), (55, 0), (55, 7), (55, 8), (55, 9), (59, 0), (59, 1), (62, 0), (62, 1), (65, 0), (65, 1), (68, 0), (68, 1), (71, 0), (71, 1), (74, 0), (74, 1), (77, 0), (77, 1), (80, 0), (80, 8), (80, 9), (80, 10), (80, 11), (85, 0), (85, 1), (88, 0), (88, 1), (91, 0), (91, 1), (94, 0), (94, 1), (97, 0), (97, 1), (100, 0), (100, 1), (104, 0), (104, 1), (106, 0), (106, 1), (109, 0), (109, 1), (111, 0), (111, 1), (114, 0), (114, 1), (114, 3), (114, 8), (114, 11), (114, 12), (114, 13), (114, 17), (114, 18), (114, 20), (114, 21), (114, 22), (114, 23), (114, 24), (114, 25), (114, 26), (114, 27), (114, 28), (114, 30), (114, 31), (114, 37), (114, 40), (114, 41), (114, 42), (114, 43), (114, 45), (114, 49), (114, 52)] w3 w3 := Ch.rf
  refine r_astore_n [(2, .ref (gz (xG x) + 114)), (1, .ref (gz (xG x) + 0)), (0, .ref b)] C dL_law_15 (by decide) rfl ?_
  have LP102 : ∀ (f103 : Nat) (u101 : Int32) (w104 : Wv), Ch [2, 4, 5, 6, 7, 8, 9, 10, 11, 13, 14, 15, 16, 17, 18, 19, 20, 22, 23, 24, 25, 26, 27, 29, 30, 31, 32, 33, 34, 36, 37, 39, 40, 42, 43, 45, 46, 48, 49, 50, 52, 53, 54, 57, 58, 60, 61, 63, 64, 66, 67, 69, 70, 72, 73, 75, 76, 78, 79, 82, 83, 84, 86, 87, 89, 90, 92, 93, 95, 96, 98, 99, 101, 102, 105, 107, 108, 110, 112, 113, 115, 116, 117, 118, 119, 120, 121, 122, 123, 124, 125, 126, 127, 128, 129, 130, 131, 132, 133, 134, 135, 136, 137, 138, 139, 140, 141, 142, 143, 144] [(0, 14), (1, 0), (1, 1), (1, 2), (1, 4), (1, 5), (3, 0), (3, 1), (3, 2), (3, 3), (3, 4), (3, 5), (3, 6), (3, 7), (3, 8), (12, 0), (12, 1), (12, 2), (12, 3), (12, 4), (12, 5), (12, 6), (12, 7), (12, 8), (21, 0), (21, 2), (21, 3), (28, 0), (28, 2), (28, 3), (35, 0), (35, 1), (38, 0), (38, 1), (41, 0), (41, 1), (44, 0), (47, 0), (55, 0), (55, 7), (55, 8), (55, 9), (59, 0), (59, 1), (62, 0), (62, 1), (65, 0), (65, 1), (68, 0), (68, 1), (71, 0), (71, 1), (74, 0), (74, 1), (77, 0), (77, 1), (80, 0), (80, 8), (80, 9), (80, 10), (80, 11), (85, 0), (85, 1), (88, 0), (88, 1), (91, 0), (91, 1), (94, 0), (94, 1), (97, 0), (97, 1), (100, 0), (100, 1), (104, 0), (104, 1), (106, 0), (106, 1), (109, 0), (109, 1), (111, 0), (111, 1), (114, 0), (114, 1), (114, 3), (114, 8), (114, 11), (114, 12), (114, 13), (114, 17), (114, 18), (114, 20), (114, 21), (114, 22), (114, 23), (114, 24), (114, 25), (114, 26), (114, 27), (114, 28), (114, 30), (114, 31), (114, 37), (114, 40), (114, 41), (114, 42), (114, 43), (114, 45), (114, 49), (114, 52)] w3 w104 → (Inv RC w104 ∧ OkM w104) → (0 ≤ u101.toInt ∧ u101.toInt ≤ 325) → ((wI w104 1 0).toInt = (wI w104 114 20).toInt) → 325 - u101.toInt < f103 → V x 145 11604 w104 18 [(0, .ref b), (1, .ref (gz (xG x) + 0)), (2, .ref (gz (xG x) + 114)), (3, .int u101)] [] := by
    intro f103
    induction f103 with
    | zero => intro u101 w104 h105 o106 z107 z108 z109; exfalso; omega
    | succ f103 ih110 =>
      intro u101 w104 h105 o106 z107 z108 z109
      refine r_iload_n 3 C dL_law_18 rfl ?_
      have k111 := clampN (i := u101) (by omega)
      refine r_aload_n 0 C dL_law_19 rfl ?_
      refine r_slen C hX hbl hbz dL_law_20 ?_
      rw [← hn0]
      refine r_iconst (v := 5) C dL_law_21 (by decide) ?_
      refine r_isub C dL_law_22 (fun v112 e113 => ?_)
      have v112' := isub_ok e113 (by omega) (by omega)
      refine r_icmp_gt 935 C dL_law_23 (by decide) (fun c114 => ?_) (fun c114 => ?_)
      · have c114' := i_lt c114
        refine r_iconst (v := 1) C dL_law_935 (by decide) ?_
        exact hret _ _ _ _ _ dL_law_936 (by decide) (by decide)
      · have c114' := i_nlt c114
        refine r_aload_n 0 C dL_law_26 rfl ?_
        refine r_iload_n 3 C dL_law_27 rfl ?_
        refine r_sldj (u101.toNatClampNeg + 0) C hX hbl hbz (by omega) (by omega) dL_law_28 ?_
        refine r_bipush (v := 31) C dL_law_29 (by decide) ?_
        refine r_iand C dL_law_31 (fun v115 e116 => ?_)
        have v115' := iand_ok e116 5 (by decide) (by decide)
        by_cases c117 : (v115 : Int32).toInt < 0 ∨ 24 < (v115 : Int32).toInt
        · refine r_tabOut 929 C dL_law_32 c117 (by decide) ?_
          obtain ⟨i118, e119⟩ : ∃ z : Int32, u101 + Int32.ofInt 5 = z := ⟨_, rfl⟩
          have i118' := iinc_ok e119 (by decide) (by omega) (by omega)
          refine r_iinc [(3, .int i118), (0, .ref b), (1, .ref (gz (xG x) + 0)), (2, .ref (gz (xG x) + 114))] 3 C dL_law_929 rfl e119 (by decide) rfl ?_
          refine r_goto 18 C dL_law_932 (by decide) ?_
          refine r_lv [1, 2, 3, 0] rfl ?_
          exact ih110 i118 w104 h105 ⟨o106.1, o106.2⟩ (by omega) (by omega) (by omega)
        · rcases (show (v115 : Int32).toInt = 0 ∨ (v115 : Int32).toInt = 1 ∨ (v115 : Int32).toInt = 2 ∨ (v115 : Int32).toInt = 3 ∨ (v115 : Int32).toInt = 4 ∨ (v115 : Int32).toInt = 5 ∨ (v115 : Int32).toInt = 6 ∨ (v115 : Int32).toInt = 7 ∨ (v115 : Int32).toInt = 8 ∨ (v115 : Int32).toInt = 9 ∨ (v115 : Int32).toInt = 10 ∨ (v115 : Int32).toInt = 11 ∨ (v115 : Int32).toInt = 12 ∨ (v115 : Int32).toInt = 13 ∨ (v115 : Int32).toInt = 14 ∨ (v115 : Int32).toInt = 15 ∨ (v115 : Int32).toInt = 16 ∨ (v115 : Int32).toInt = 17 ∨ (v115 : Int32).toInt = 18 ∨ (v115 : Int32).toInt = 19 ∨ (v115 : Int32).toInt = 20 ∨ (v115 : Int32).toInt = 21 ∨ (v115 : Int32).toInt = 22 ∨ (v115 : Int32).toInt = 23 ∨ (v115 : Int32).toInt = 24 by omega) with c117 | c117 | c117 | c117 | c117 | c117 | c117 | c117 | c117 | c117 | c117 | c117 | c117 | c117 | c117 | c117 | c117 | c117 | c117 | c117 | c117 | c117 | c117 | c117 | c117
          · refine r_tabIn 148 C dL_law_32 (by omega) (by omega) (by rw [c117]; rfl) (by decide) ?_
            refine r_aload_n 1 C dL_law_148 rfl ?_
            refine r_aload_n 0 C dL_law_149 rfl ?_
            refine r_iload_n 3 C dL_law_150 rfl ?_
            refine r_iconst (v := 1) C dL_law_151 (by decide) ?_
            refine r_iadd C dL_law_152 (fun v120 e121 => ?_)
            have v120' := iadd_ok e121 (by omega) (by omega)
            refine r_sldj (u101.toNatClampNeg + 1) C hX hbl hbz (by omega) (by omega) dL_law_153 ?_
            refine r_aload_n 0 C dL_law_154 rfl ?_
            refine r_iload_n 3 C dL_law_155 rfl ?_
            refine r_iconst (v := 2) C dL_law_156 (by decide) ?_
            refine r_iadd C dL_law_157 (fun v122 e123 => ?_)
            have v122' := iadd_ok e123 (by omega) (by omega)
            refine r_sldj (u101.toNatClampNeg + 2) C hX hbl hbz (by omega) (by omega) dL_law_158 ?_
            refine r_i2l C dL_law_159 (fun v124 e125 => ?_)
            have v124' := i2l_ok e125
            refine r_bipush (v := 32) C dL_law_160 (by decide) ?_
            refine r_lshl C dL_law_162 (fun v126 e127 => ?_)
            refine r_aload_n 0 C dL_law_163 rfl ?_
            refine r_iload_n 3 C dL_law_164 rfl ?_
            refine r_iconst (v := 3) C dL_law_165 (by decide) ?_
            refine r_iadd C dL_law_166 (fun v128 e129 => ?_)
            have v128' := iadd_ok e129 (by omega) (by omega)
            refine r_sldj (u101.toNatClampNeg + 3) C hX hbl hbz (by omega) (by omega) dL_law_167 ?_
            refine r_i2l C dL_law_168 (fun v130 e131 => ?_)
            have v130' := i2l_ok e131
            refine r_ldc2 C mw7_66 dL_law_169 ?_
            refine r_land C dL_law_172 (fun v132 e133 => ?_)
            refine r_lor C dL_law_173 (fun v134 e135 => ?_)
            have b136 := Inv.get o106.1 rt_1_0 (j := 0) (by decide) (by decide)
            refine callVI C cwL_15_V (ctX10_feed_0 _ _ w104 (sS sC h105) o106.1 (wI w104 1 0) rfl (by omega) (xf (u101.toNatClampNeg + 1)) v134 ) (by decide) (kS sC h105 kc_0) rfl rfl rfl (Nat.le_of_ble_eq_true rfl) (by decide) dL_law_174 (fun r139 w138 y137 => ?_)
            show V x 145 11604 w138 177 [(0, .ref b), (1, .ref (gz (xG x) + 0)), (2, .ref (gz (xG x) + 114)), (3, .int u101)] [.int r139]
            obtain ⟨h140, o141, f142, g143⟩ := y137
            have h144 := Ch.tr h105 h140 (by decide) (by decide)
            have o145 := OkM.ch o106.2 h140 (by decide) (by decide)
            refine r_aload_n 2 C dL_law_177 rfl ?_
            refine r_aload_n 0 C dL_law_178 rfl ?_
            refine r_iload_n 3 C dL_law_179 rfl ?_
            refine r_iconst (v := 1) C dL_law_180 (by decide) ?_
            refine r_iadd C dL_law_181 (fun v146 e147 => ?_)
            have v146' := iadd_ok e147 (by omega) (by omega)
            refine r_sldj (u101.toNatClampNeg + 1) C hX hbl hbz (by omega) (by omega) dL_law_182 ?_
            refine r_aload_n 0 C dL_law_183 rfl ?_
            refine r_iload_n 3 C dL_law_184 rfl ?_
            refine r_iconst (v := 2) C dL_law_185 (by decide) ?_
            refine r_iadd C dL_law_186 (fun v148 e149 => ?_)
            have v148' := iadd_ok e149 (by omega) (by omega)
            refine r_sldj (u101.toNatClampNeg + 2) C hX hbl hbz (by omega) (by omega) dL_law_187 ?_
            refine r_i2l C dL_law_188 (fun v150 e151 => ?_)
            have v150' := i2l_ok e151
            refine r_bipush (v := 32) C dL_law_189 (by decide) ?_
            refine r_lshl C dL_law_191 (fun v152 e153 => ?_)
            refine r_aload_n 0 C dL_law_192 rfl ?_
            refine r_iload_n 3 C dL_law_193 rfl ?_
            refine r_iconst (v := 3) C dL_law_194 (by decide) ?_
            refine r_iadd C dL_law_195 (fun v154 e155 => ?_)
            have v154' := iadd_ok e155 (by omega) (by omega)
            refine r_sldj (u101.toNatClampNeg + 3) C hX hbl hbz (by omega) (by omega) dL_law_196 ?_
            refine r_i2l C dL_law_197 (fun v156 e157 => ?_)
            have v156' := i2l_ok e157
            refine r_ldc2 C mw7_66 dL_law_198 ?_
            refine r_land C dL_law_201 (fun v158 e159 => ?_)
            refine r_lor C dL_law_202 (fun v160 e161 => ?_)
            have b162 := Inv.get o106.2.1 rt_114_20 (j := 20) (by decide) (by decide)
            refine callVI C cwL_19_V (ctX11_feed _ _ w138 (sS sM h144) o145 (wI w104 114 20) (h140.I (by decide) (by decide) rfl) (by omega) (xf (u101.toNatClampNeg + 1)) v160 ) (by decide) (kS sM h144 kc_114) rfl rfl rfl (Nat.le_of_ble_eq_true rfl) (by decide) dL_law_203 (fun r165 w164 y163 => ?_)
            show V x 145 11604 w164 206 [(0, .ref b), (1, .ref (gz (xG x) + 0)), (2, .ref (gz (xG x) + 114)), (3, .int u101)] [.int r165, .int r139]
            obtain ⟨h166, o167, f168, g169⟩ := y163
            have h170 := Ch.tr h144 h166 (by decide) (by decide)
            have o171 := Inv.ch o141 h166 (by decide)
            refine r_icmp_eq 929 C dL_law_206 (by decide) (fun c172 => ?_) (fun c172 => ?_)
            · have c172' := i_eq c172
              obtain ⟨i173, e174⟩ : ∃ z : Int32, u101 + Int32.ofInt 5 = z := ⟨_, rfl⟩
              have i173' := iinc_ok e174 (by decide) (by omega) (by omega)
              refine r_iinc [(3, .int i173), (0, .ref b), (1, .ref (gz (xG x) + 0)), (2, .ref (gz (xG x) + 114))] 3 C dL_law_929 rfl e174 (by decide) rfl ?_
              refine r_goto 18 C dL_law_932 (by decide) ?_
              refine r_lv [1, 2, 3, 0] rfl ?_
              exact ih110 i173 w164 h170 ⟨o171, o167⟩ (by omega) (by rw [(h166.I (by decide) (by decide) rfl)] <;> omega) (by omega)
            · have c172' := i_ne c172
              exfalso; omega
          · refine r_tabIn 211 C dL_law_32 (by omega) (by omega) (by rw [c117]; rfl) (by decide) ?_
            refine r_aload_n 1 C dL_law_211 rfl ?_
            refine callVI C cwL_20_V (ctX10_town_0 _ _ w104 (sS sC h105) o106.1  ) (by decide) (kS sC h105 kc_0) rfl rfl rfl (Nat.le_of_ble_eq_true rfl) (by decide) dL_law_212 (fun r177 w176 y175 => ?_)
            show V x 145 11604 w176 215 [(0, .ref b), (1, .ref (gz (xG x) + 0)), (2, .ref (gz (xG x) + 114)), (3, .int u101)] [.int r177]
            obtain ⟨h178, o179, f180⟩ := y175
            have h181 := Ch.tr h105 h178 (by decide) (by decide)
            have o182 := OkM.ch o106.2 h178 (by decide) (by decide)
            refine r_pop C dL_law_215 rfl ?_
            refine r_aload_n 2 C dL_law_216 rfl ?_
            refine callVI C cwL_24_V (ctX11_town _ _ w176 (sS sM h181) o182  ) (by decide) (kS sM h181 kc_114) rfl rfl rfl (Nat.le_of_ble_eq_true rfl) (by decide) dL_law_217 (fun r185 w184 y183 => ?_)
            show V x 145 11604 w184 220 [(0, .ref b), (1, .ref (gz (xG x) + 0)), (2, .ref (gz (xG x) + 114)), (3, .int u101)] [.int r185]
            obtain ⟨h186, o187, f188⟩ := y183
            have h189 := Ch.tr h181 h186 (by decide) (by decide)
            have o190 := Inv.ch o179 h186 (by decide)
            refine r_pop C dL_law_220 rfl ?_
            refine r_goto 929 C dL_law_221 (by decide) ?_
            obtain ⟨i191, e192⟩ : ∃ z : Int32, u101 + Int32.ofInt 5 = z := ⟨_, rfl⟩
            have i191' := iinc_ok e192 (by decide) (by omega) (by omega)
            refine r_iinc [(3, .int i191), (0, .ref b), (1, .ref (gz (xG x) + 0)), (2, .ref (gz (xG x) + 114))] 3 C dL_law_929 rfl e192 (by decide) rfl ?_
            refine r_goto 18 C dL_law_932 (by decide) ?_
            refine r_lv [1, 2, 3, 0] rfl ?_
            exact ih110 i191 w184 h189 ⟨o190, o187⟩ (by omega) (by rw [(h186.I (by decide) (by decide) f180), f188] <;> omega) (by omega)
          · refine r_tabIn 224 C dL_law_32 (by omega) (by omega) (by rw [c117]; rfl) (by decide) ?_
            refine r_aload_n 1 C dL_law_224 rfl ?_
            refine callVI C cwL_25_V (ctX10_fault_0 _ _ w104 (sS sC h105) o106.1  ) (by decide) (kS sC h105 kc_0) rfl rfl rfl (Nat.le_of_ble_eq_true rfl) (by decide) dL_law_225 (fun r195 w194 y193 => ?_)
            show V x 145 11604 w194 228 [(0, .ref b), (1, .ref (gz (xG x) + 0)), (2, .ref (gz (xG x) + 114)), (3, .int u101)] [.int r195]
            obtain ⟨h196, o197⟩ := y193
            have h198 := Ch.tr h105 h196 (by decide) (by decide)
            have o199 := OkM.ch o106.2 h196 (by decide) (by decide)
            refine r_pop C dL_law_228 rfl ?_
            refine r_aload_n 2 C dL_law_229 rfl ?_
            refine callVI C cwL_28_V (ctX11_fault _ _ w194 (sS sM h198) o199  ) (by decide) (kS sM h198 kc_114) rfl rfl rfl (Nat.le_of_ble_eq_true rfl) (by decide) dL_law_230 (fun r202 w201 y200 => ?_)
            show V x 145 11604 w201 233 [(0, .ref b), (1, .ref (gz (xG x) + 0)), (2, .ref (gz (xG x) + 114)), (3, .int u101)] [.int r202]
            obtain ⟨h203, o204⟩ := y200
            have h205 := Ch.tr h198 h203 (by decide) (by decide)
            have o206 := Inv.ch o197 h203 (by decide)
            refine r_pop C dL_law_233 rfl ?_
            refine r_goto 929 C dL_law_234 (by decide) ?_
            obtain ⟨i207, e208⟩ : ∃ z : Int32, u101 + Int32.ofInt 5 = z := ⟨_, rfl⟩
            have i207' := iinc_ok e208 (by decide) (by omega) (by omega)
            refine r_iinc [(3, .int i207), (0, .ref b), (1, .ref (gz (xG x) + 0)), (2, .ref (gz (xG x) + 114))] 3 C dL_law_929 rfl e208 (by decide) rfl ?_
            refine r_goto 18 C dL_law_932 (by decide) ?_
            refine r_lv [1, 2, 3, 0] rfl ?_
            exact ih110 i207 w201 h205 ⟨o206, o204⟩ (by omega) (by rw [(h203.I (by decide) (by decide) (h196.I (by decide) (by decide) rfl)), (h203.I (by decide) (by decide) (h196.I (by decide) (by decide) rfl))] <;> omega) (by omega)
          · refine r_tabIn 237 C dL_law_32 (by omega) (by omega) (by rw [c117]; rfl) (by decide) ?_
            refine r_aload_n 1 C dL_law_237 rfl ?_
            refine r_aload_n 0 C dL_law_238 rfl ?_
            refine r_iload_n 3 C dL_law_239 rfl ?_
            refine r_iconst (v := 1) C dL_law_240 (by decide) ?_
            refine r_iadd C dL_law_241 (fun v209 e210 => ?_)
            have v209' := iadd_ok e210 (by omega) (by omega)
            refine r_sldj (u101.toNatClampNeg + 1) C hX hbl hbz (by omega) (by omega) dL_law_242 ?_
            refine callVI C cwL_29_V (ctX10_told_0 _ _ w104 (sS sC h105) o106.1 (xf (u101.toNatClampNeg + 1)) ) (by decide) (kS sC h105 kc_0) rfl rfl rfl (Nat.le_of_ble_eq_true rfl) (by decide) dL_law_243 (fun r213 w212 y211 => ?_)
            show V x 145 11604 w212 246 [(0, .ref b), (1, .ref (gz (xG x) + 0)), (2, .ref (gz (xG x) + 114)), (3, .int u101)] [.int r213]
            obtain ⟨h214, o215⟩ := y211
            have h216 := Ch.tr h105 h214 (by decide) (by decide)
            have o217 := OkM.ch o106.2 h214 (by decide) (by decide)
            refine r_pop C dL_law_246 rfl ?_
            refine r_aload_n 2 C dL_law_247 rfl ?_
            refine r_aload_n 0 C dL_law_248 rfl ?_
            refine r_iload_n 3 C dL_law_249 rfl ?_
            refine r_iconst (v := 1) C dL_law_250 (by decide) ?_
            refine r_iadd C dL_law_251 (fun v218 e219 => ?_)
            have v218' := iadd_ok e219 (by omega) (by omega)
            refine r_sldj (u101.toNatClampNeg + 1) C hX hbl hbz (by omega) (by omega) dL_law_252 ?_
            refine callVI C cwL_33_V (ctX11_told _ _ w212 (sS sM h216) o217 (xf (u101.toNatClampNeg + 1)) ) (by decide) (kS sM h216 kc_114) rfl rfl rfl (Nat.le_of_ble_eq_true rfl) (by decide) dL_law_253 (fun r222 w221 y220 => ?_)
            show V x 145 11604 w221 256 [(0, .ref b), (1, .ref (gz (xG x) + 0)), (2, .ref (gz (xG x) + 114)), (3, .int u101)] [.int r222]
            obtain ⟨h223, o224⟩ := y220
            have h225 := Ch.tr h216 h223 (by decide) (by decide)
            have o226 := Inv.ch o215 h223 (by decide)
            refine r_pop C dL_law_256 rfl ?_
            refine r_goto 929 C dL_law_257 (by decide) ?_
            obtain ⟨i227, e228⟩ : ∃ z : Int32, u101 + Int32.ofInt 5 = z := ⟨_, rfl⟩
            have i227' := iinc_ok e228 (by decide) (by omega) (by omega)
            refine r_iinc [(3, .int i227), (0, .ref b), (1, .ref (gz (xG x) + 0)), (2, .ref (gz (xG x) + 114))] 3 C dL_law_929 rfl e228 (by decide) rfl ?_
            refine r_goto 18 C dL_law_932 (by decide) ?_
            refine r_lv [1, 2, 3, 0] rfl ?_
            exact ih110 i227 w221 h225 ⟨o226, o224⟩ (by omega) (by rw [(h223.I (by decide) (by decide) (h214.I (by decide) (by decide) rfl)), (h223.I (by decide) (by decide) (h214.I (by decide) (by decide) rfl))] <;> omega) (by omega)
          · refine r_tabIn 260 C dL_law_32 (by omega) (by omega) (by rw [c117]; rfl) (by decide) ?_
            refine r_aload_n 1 C dL_law_260 rfl ?_
            refine r_aload_n 0 C dL_law_261 rfl ?_
            refine r_iload_n 3 C dL_law_262 rfl ?_
            refine r_iconst (v := 1) C dL_law_263 (by decide) ?_
            refine r_iadd C dL_law_264 (fun v229 e230 => ?_)
            have v229' := iadd_ok e230 (by omega) (by omega)
            refine r_sldj (u101.toNatClampNeg + 1) C hX hbl hbz (by omega) (by omega) dL_law_265 ?_
            refine r_aload_n 0 C dL_law_266 rfl ?_
            refine r_iload_n 3 C dL_law_267 rfl ?_
            refine r_iconst (v := 2) C dL_law_268 (by decide) ?_
            refine r_iadd C dL_law_269 (fun v231 e232 => ?_)
            have v231' := iadd_ok e232 (by omega) (by omega)
            refine r_sldj (u101.toNatClampNeg + 2) C hX hbl hbz (by omega) (by omega) dL_law_270 ?_
            refine callVI C cwL_34_V (ctX10_cell_0 _ _ w104 (sS sC h105) o106.1 (xf (u101.toNatClampNeg + 1)) (xf (u101.toNatClampNeg + 2)) ) (by decide) (kS sC h105 kc_0) rfl rfl rfl (Nat.le_of_ble_eq_true rfl) (by decide) dL_law_271 (fun r235 w234 y233 => ?_)
            show V x 145 11604 w234 274 [(0, .ref b), (1, .ref (gz (xG x) + 0)), (2, .ref (gz (xG x) + 114)), (3, .int u101)] [.int r235]
            obtain ⟨h236, o237⟩ := y233
            have h238 := Ch.tr h105 h236 (by decide) (by decide)
            have o239 := OkM.ch o106.2 h236 (by decide) (by decide)
            refine r_pop C dL_law_274 rfl ?_
            refine r_aload_n 2 C dL_law_275 rfl ?_
            refine r_aload_n 0 C dL_law_276 rfl ?_
            refine r_iload_n 3 C dL_law_277 rfl ?_
            refine r_iconst (v := 1) C dL_law_278 (by decide) ?_
            refine r_iadd C dL_law_279 (fun v240 e241 => ?_)
            have v240' := iadd_ok e241 (by omega) (by omega)
            refine r_sldj (u101.toNatClampNeg + 1) C hX hbl hbz (by omega) (by omega) dL_law_280 ?_
            refine r_aload_n 0 C dL_law_281 rfl ?_
            refine r_iload_n 3 C dL_law_282 rfl ?_
            refine r_iconst (v := 2) C dL_law_283 (by decide) ?_
            refine r_iadd C dL_law_284 (fun v242 e243 => ?_)
            have v242' := iadd_ok e243 (by omega) (by omega)
            refine r_sldj (u101.toNatClampNeg + 2) C hX hbl hbz (by omega) (by omega) dL_law_285 ?_
            have b244 := Inv.get o106.2.1 rt_114_0 (j := 0) (by decide) (by decide)
            have b245 := Inv.get o106.2.1 rt_114_1 (j := 1) (by decide) (by decide)
            refine callVI C cwL_38_V (ctX11_cell _ _ w234 (sS sM h238) o239 (wI w104 114 0) (h236.I (by decide) (by decide) rfl) (by omega) (wI w104 114 1) (h236.I (by decide) (by decide) rfl) (by omega) (xf (u101.toNatClampNeg + 1)) (xf (u101.toNatClampNeg + 2)) ) (by decide) (kS sM h238 kc_114) rfl rfl rfl (Nat.le_of_ble_eq_true rfl) (by decide) dL_law_286 (fun r248 w247 y246 => ?_)
            show V x 145 11604 w247 289 [(0, .ref b), (1, .ref (gz (xG x) + 0)), (2, .ref (gz (xG x) + 114)), (3, .int u101)] [.int r248]
            obtain ⟨h249, o250⟩ := y246
            have h251 := Ch.tr h238 h249 (by decide) (by decide)
            have o252 := Inv.ch o237 h249 (by decide)
            refine r_pop C dL_law_289 rfl ?_
            refine r_goto 929 C dL_law_290 (by decide) ?_
            obtain ⟨i253, e254⟩ : ∃ z : Int32, u101 + Int32.ofInt 5 = z := ⟨_, rfl⟩
            have i253' := iinc_ok e254 (by decide) (by omega) (by omega)
            refine r_iinc [(3, .int i253), (0, .ref b), (1, .ref (gz (xG x) + 0)), (2, .ref (gz (xG x) + 114))] 3 C dL_law_929 rfl e254 (by decide) rfl ?_
            refine r_goto 18 C dL_law_932 (by decide) ?_
            refine r_lv [1, 2, 3, 0] rfl ?_
            exact ih110 i253 w247 h251 ⟨o252, o250⟩ (by omega) (by rw [(h249.I (by decide) (by decide) (h236.I (by decide) (by decide) rfl)), (h249.I (by decide) (by decide) (h236.I (by decide) (by decide) rfl))] <;> omega) (by omega)
          · refine r_tabIn 293 C dL_law_32 (by omega) (by omega) (by rw [c117]; rfl) (by decide) ?_
            refine r_aload_n 1 C dL_law_293 rfl ?_
            refine r_aload_n 0 C dL_law_294 rfl ?_
            refine r_iload_n 3 C dL_law_295 rfl ?_
            refine r_iconst (v := 1) C dL_law_296 (by decide) ?_
            refine r_iadd C dL_law_297 (fun v255 e256 => ?_)
            have v255' := iadd_ok e256 (by omega) (by omega)
            refine r_sldj (u101.toNatClampNeg + 1) C hX hbl hbz (by omega) (by omega) dL_law_298 ?_
            refine r_aload_n 0 C dL_law_299 rfl ?_
            refine r_iload_n 3 C dL_law_300 rfl ?_
            refine r_iconst (v := 2) C dL_law_301 (by decide) ?_
            refine r_iadd C dL_law_302 (fun v257 e258 => ?_)
            have v257' := iadd_ok e258 (by omega) (by omega)
            refine r_sldj (u101.toNatClampNeg + 2) C hX hbl hbz (by omega) (by omega) dL_law_303 ?_
            refine callVI C cwL_39_V (ctX10_crowd_0 _ _ w104 (sS sC h105) o106.1 (xf (u101.toNatClampNeg + 1)) (xf (u101.toNatClampNeg + 2)) ) (by decide) (kS sC h105 kc_0) rfl rfl rfl (Nat.le_of_ble_eq_true rfl) (by decide) dL_law_304 (fun r261 w260 y259 => ?_)
            show V x 145 11604 w260 307 [(0, .ref b), (1, .ref (gz (xG x) + 0)), (2, .ref (gz (xG x) + 114)), (3, .int u101)] [.int r261]
            obtain ⟨h262, o263⟩ := y259
            have h264 := Ch.tr h105 h262 (by decide) (by decide)
            have o265 := OkM.ch o106.2 h262 (by decide) (by decide)
            refine r_pop C dL_law_307 rfl ?_
            refine r_aload_n 2 C dL_law_308 rfl ?_
            refine r_aload_n 0 C dL_law_309 rfl ?_
            refine r_iload_n 3 C dL_law_310 rfl ?_
            refine r_iconst (v := 1) C dL_law_311 (by decide) ?_
            refine r_iadd C dL_law_312 (fun v266 e267 => ?_)
            have v266' := iadd_ok e267 (by omega) (by omega)
            refine r_sldj (u101.toNatClampNeg + 1) C hX hbl hbz (by omega) (by omega) dL_law_313 ?_
            refine r_aload_n 0 C dL_law_314 rfl ?_
            refine r_iload_n 3 C dL_law_315 rfl ?_
            refine r_iconst (v := 2) C dL_law_316 (by decide) ?_
            refine r_iadd C dL_law_317 (fun v268 e269 => ?_)
            have v268' := iadd_ok e269 (by omega) (by omega)
            refine r_sldj (u101.toNatClampNeg + 2) C hX hbl hbz (by omega) (by omega) dL_law_318 ?_
            refine callVI C cwL_42_V (ctX11_crowd _ _ w260 (sS sM h264) o265 (xf (u101.toNatClampNeg + 1)) (xf (u101.toNatClampNeg + 2)) ) (by decide) (kS sM h264 kc_114) rfl rfl rfl (Nat.le_of_ble_eq_true rfl) (by decide) dL_law_319 (fun r272 w271 y270 => ?_)
            show V x 145 11604 w271 322 [(0, .ref b), (1, .ref (gz (xG x) + 0)), (2, .ref (gz (xG x) + 114)), (3, .int u101)] [.int r272]
            obtain ⟨h273, o274⟩ := y270
            have h275 := Ch.tr h264 h273 (by decide) (by decide)
            have o276 := Inv.ch o263 h273 (by decide)
            refine r_pop C dL_law_322 rfl ?_
            refine r_goto 929 C dL_law_323 (by decide) ?_
            obtain ⟨i277, e278⟩ : ∃ z : Int32, u101 + Int32.ofInt 5 = z := ⟨_, rfl⟩
            have i277' := iinc_ok e278 (by decide) (by omega) (by omega)
            refine r_iinc [(3, .int i277), (0, .ref b), (1, .ref (gz (xG x) + 0)), (2, .ref (gz (xG x) + 114))] 3 C dL_law_929 rfl e278 (by decide) rfl ?_
            refine r_goto 18 C dL_law_932 (by decide) ?_
            refine r_lv [1, 2, 3, 0] rfl ?_
            exact ih110 i277 w271 h275 ⟨o276, o274⟩ (by omega) (by rw [(h273.I (by decide) (by decide) (h262.I (by decide) (by decide) rfl)), (h273.I (by decide) (by decide) (h262.I (by decide) (by decide) rfl))] <;> omega) (by omega)
          · refine r_tabIn 326 C dL_law_32 (by omega) (by omega) (by rw [c117]; rfl) (by decide) ?_
            refine r_aload_n 1 C dL_law_326 rfl ?_
            refine r_aload_n 0 C dL_law_327 rfl ?_
            refine r_iload_n 3 C dL_law_328 rfl ?_
            refine r_iconst (v := 1) C dL_law_329 (by decide) ?_
            refine r_iadd C dL_law_330 (fun v279 e280 => ?_)
            have v279' := iadd_ok e280 (by omega) (by omega)
            refine r_sldj (u101.toNatClampNeg + 1) C hX hbl hbz (by omega) (by omega) dL_law_331 ?_
            refine r_aload_n 0 C dL_law_332 rfl ?_
            refine r_iload_n 3 C dL_law_333 rfl ?_
            refine r_iconst (v := 2) C dL_law_334 (by decide) ?_
            refine r_iadd C dL_law_335 (fun v281 e282 => ?_)
            have v281' := iadd_ok e282 (by omega) (by omega)
            refine r_sldj (u101.toNatClampNeg + 2) C hX hbl hbz (by omega) (by omega) dL_law_336 ?_
            refine callVI C cwL_43_V (ctX10_tune_0 _ _ w104 (sS sC h105) o106.1 (xf (u101.toNatClampNeg + 1)) (xf (u101.toNatClampNeg + 2)) ) (by decide) (kS sC h105 kc_0) rfl rfl rfl (Nat.le_of_ble_eq_true rfl) (by decide) dL_law_337 (fun r285 w284 y283 => ?_)
            show V x 145 11604 w284 340 [(0, .ref b), (1, .ref (gz (xG x) + 0)), (2, .ref (gz (xG x) + 114)), (3, .int u101)] [.int r285]
            obtain ⟨h286, o287⟩ := y283
            have h288 := Ch.tr h105 h286 (by decide) (by decide)
            have o289 := OkM.ch o106.2 h286 (by decide) (by decide)
            refine r_pop C dL_law_340 rfl ?_
            refine r_aload_n 2 C dL_law_341 rfl ?_
            refine r_aload_n 0 C dL_law_342 rfl ?_
            refine r_iload_n 3 C dL_law_343 rfl ?_
            refine r_iconst (v := 1) C dL_law_344 (by decide) ?_
            refine r_iadd C dL_law_345 (fun v290 e291 => ?_)
            have v290' := iadd_ok e291 (by omega) (by omega)
            refine r_sldj (u101.toNatClampNeg + 1) C hX hbl hbz (by omega) (by omega) dL_law_346 ?_
            refine r_aload_n 0 C dL_law_347 rfl ?_
            refine r_iload_n 3 C dL_law_348 rfl ?_
            refine r_iconst (v := 2) C dL_law_349 (by decide) ?_
            refine r_iadd C dL_law_350 (fun v292 e293 => ?_)
            have v292' := iadd_ok e293 (by omega) (by omega)
            refine r_sldj (u101.toNatClampNeg + 2) C hX hbl hbz (by omega) (by omega) dL_law_351 ?_
            refine callVI C cwL_46_V (ctX11_tune _ _ w284 (sS sM h288) o289 (xf (u101.toNatClampNeg + 1)) (xf (u101.toNatClampNeg + 2)) ) (by decide) (kS sM h288 kc_114) rfl rfl rfl (Nat.le_of_ble_eq_true rfl) (by decide) dL_law_352 (fun r296 w295 y294 => ?_)
            show V x 145 11604 w295 355 [(0, .ref b), (1, .ref (gz (xG x) + 0)), (2, .ref (gz (xG x) + 114)), (3, .int u101)] [.int r296]
            obtain ⟨h297, o298⟩ := y294
            have h299 := Ch.tr h288 h297 (by decide) (by decide)
            have o300 := Inv.ch o287 h297 (by decide)
            refine r_pop C dL_law_355 rfl ?_
            refine r_goto 929 C dL_law_356 (by decide) ?_
            obtain ⟨i301, e302⟩ : ∃ z : Int32, u101 + Int32.ofInt 5 = z := ⟨_, rfl⟩
            have i301' := iinc_ok e302 (by decide) (by omega) (by omega)
            refine r_iinc [(3, .int i301), (0, .ref b), (1, .ref (gz (xG x) + 0)), (2, .ref (gz (xG x) + 114))] 3 C dL_law_929 rfl e302 (by decide) rfl ?_
            refine r_goto 18 C dL_law_932 (by decide) ?_
            refine r_lv [1, 2, 3, 0] rfl ?_
            exact ih110 i301 w295 h299 ⟨o300, o298⟩ (by omega) (by rw [(h297.I (by decide) (by decide) (h286.I (by decide) (by decide) rfl)), (h297.I (by decide) (by decide) (h286.I (by decide) (by decide) rfl))] <;> omega) (by omega)
          · refine r_tabIn 359 C dL_law_32 (by omega) (by omega) (by rw [c117]; rfl) (by decide) ?_
            refine r_aload_n 1 C dL_law_359 rfl ?_
            refine r_aload_n 0 C dL_law_360 rfl ?_
            refine r_iload_n 3 C dL_law_361 rfl ?_
            refine r_iconst (v := 1) C dL_law_362 (by decide) ?_
            refine r_iadd C dL_law_363 (fun v303 e304 => ?_)
            have v303' := iadd_ok e304 (by omega) (by omega)
            refine r_sldj (u101.toNatClampNeg + 1) C hX hbl hbz (by omega) (by omega) dL_law_364 ?_
            refine r_aload_n 0 C dL_law_365 rfl ?_
            refine r_iload_n 3 C dL_law_366 rfl ?_
            refine r_iconst (v := 2) C dL_law_367 (by decide) ?_
            refine r_iadd C dL_law_368 (fun v305 e306 => ?_)
            have v305' := iadd_ok e306 (by omega) (by omega)
            refine r_sldj (u101.toNatClampNeg + 2) C hX hbl hbz (by omega) (by omega) dL_law_369 ?_
            refine r_aload_n 0 C dL_law_370 rfl ?_
            refine r_iload_n 3 C dL_law_371 rfl ?_
            refine r_iconst (v := 3) C dL_law_372 (by decide) ?_
            refine r_iadd C dL_law_373 (fun v307 e308 => ?_)
            have v307' := iadd_ok e308 (by omega) (by omega)
            refine r_sldj (u101.toNatClampNeg + 3) C hX hbl hbz (by omega) (by omega) dL_law_374 ?_
            refine r_aload_n 0 C dL_law_375 rfl ?_
            refine r_iload_n 3 C dL_law_376 rfl ?_
            refine r_iconst (v := 4) C dL_law_377 (by decide) ?_
            refine r_iadd C dL_law_378 (fun v309 e310 => ?_)
            have v309' := iadd_ok e310 (by omega) (by omega)
            refine r_sldj (u101.toNatClampNeg + 4) C hX hbl hbz (by omega) (by omega) dL_law_379 ?_
            refine callVI C cwL_47_V (ctX10_far_0 _ _ w104 (sS sC h105) o106.1 (xf (u101.toNatClampNeg + 1)) (xf (u101.toNatClampNeg + 2)) (xf (u101.toNatClampNeg + 3)) (xf (u101.toNatClampNeg + 4)) ) (by decide) (kS sC h105 kc_0) rfl rfl rfl (Nat.le_of_ble_eq_true rfl) (by decide) dL_law_380 (fun r313 w312 y311 => ?_)
            show V x 145 11604 w312 383 [(0, .ref b), (1, .ref (gz (xG x) + 0)), (2, .ref (gz (xG x) + 114)), (3, .int u101)] [.int r313]
            obtain ⟨h314, o315⟩ := y311
            have h316 := Ch.tr h105 h314 (by decide) (by decide)
            have o317 := OkM.ch o106.2 h314 (by decide) (by decide)
            refine r_pop C dL_law_383 rfl ?_
            refine r_aload_n 2 C dL_law_384 rfl ?_
            refine r_aload_n 0 C dL_law_385 rfl ?_
            refine r_iload_n 3 C dL_law_386 rfl ?_
            refine r_iconst (v := 1) C dL_law_387 (by decide) ?_
            refine r_iadd C dL_law_388 (fun v318 e319 => ?_)
            have v318' := iadd_ok e319 (by omega) (by omega)
            refine r_sldj (u101.toNatClampNeg + 1) C hX hbl hbz (by omega) (by omega) dL_law_389 ?_
            refine r_aload_n 0 C dL_law_390 rfl ?_
            refine r_iload_n 3 C dL_law_391 rfl ?_
            refine r_iconst (v := 2) C dL_law_392 (by decide) ?_
            refine r_iadd C dL_law_393 (fun v320 e321 => ?_)
            have v320' := iadd_ok e321 (by omega) (by omega)
            refine r_sldj (u101.toNatClampNeg + 2) C hX hbl hbz (by omega) (by omega) dL_law_394 ?_
            refine r_aload_n 0 C dL_law_395 rfl ?_
            refine r_iload_n 3 C dL_law_396 rfl ?_
            refine r_iconst (v := 3) C dL_law_397 (by decide) ?_
            refine r_iadd C dL_law_398 (fun v322 e323 => ?_)
            have v322' := iadd_ok e323 (by omega) (by omega)
            refine r_sldj (u101.toNatClampNeg + 3) C hX hbl hbz (by omega) (by omega) dL_law_399 ?_
            refine r_aload_n 0 C dL_law_400 rfl ?_
            refine r_iload_n 3 C dL_law_401 rfl ?_
            refine r_iconst (v := 4) C dL_law_402 (by decide) ?_
            refine r_iadd C dL_law_403 (fun v324 e325 => ?_)
            have v324' := iadd_ok e325 (by omega) (by omega)
            refine r_sldj (u101.toNatClampNeg + 4) C hX hbl hbz (by omega) (by omega) dL_law_404 ?_
            have b326 := Inv.get o106.2.1 rt_114_0 (j := 0) (by decide) (by decide)
            have b327 := Inv.get o106.2.1 rt_114_1 (j := 1) (by decide) (by decide)
            refine callVI C cwL_51_V (ctX11_far _ _ w312 (sS sM h316) o317 (wI w104 114 0) (h314.I (by decide) (by decide) rfl) (by omega) (wI w104 114 1) (h314.I (by decide) (by decide) rfl) (by omega) (xf (u101.toNatClampNeg + 1)) (xf (u101.toNatClampNeg + 2)) (xf (u101.toNatClampNeg + 3)) (xf (u101.toNatClampNeg + 4)) ) (by decide) (kS sM h316 kc_114) rfl rfl rfl (Nat.le_of_ble_eq_true rfl) (by decide) dL_law_405 (fun r330 w329 y328 => ?_)
            show V x 145 11604 w329 408 [(0, .ref b), (1, .ref (gz (xG x) + 0)), (2, .ref (gz (xG x) + 114)), (3, .int u101)] [.int r330]
            obtain ⟨h331, o332⟩ := y328
            have h333 := Ch.tr h316 h331 (by decide) (by decide)
            have o334 := Inv.ch o315 h331 (by decide)
            refine r_pop C dL_law_408 rfl ?_
            refine r_goto 929 C dL_law_409 (by decide) ?_
            obtain ⟨i335, e336⟩ : ∃ z : Int32, u101 + Int32.ofInt 5 = z := ⟨_, rfl⟩
            have i335' := iinc_ok e336 (by decide) (by omega) (by omega)
            refine r_iinc [(3, .int i335), (0, .ref b), (1, .ref (gz (xG x) + 0)), (2, .ref (gz (xG x) + 114))] 3 C dL_law_929 rfl e336 (by decide) rfl ?_
            refine r_goto 18 C dL_law_932 (by decide) ?_
            refine r_lv [1, 2, 3, 0] rfl ?_
            exact ih110 i335 w329 h333 ⟨o334, o332⟩ (by omega) (by rw [(h331.I (by decide) (by decide) (h314.I (by decide) (by decide) rfl)), (h331.I (by decide) (by decide) (h314.I (by decide) (by decide) rfl))] <;> omega) (by omega)
          · refine r_tabIn 412 C dL_law_32 (by omega) (by omega) (by rw [c117]; rfl) (by decide) ?_
            refine r_aload_n 1 C dL_law_412 rfl ?_
            refine r_aload_n 0 C dL_law_413 rfl ?_
            refine r_iload_n 3 C dL_law_414 rfl ?_
            refine r_iconst (v := 1) C dL_law_415 (by decide) ?_
            refine r_iadd C dL_law_416 (fun v337 e338 => ?_)
            have v337' := iadd_ok e338 (by omega) (by omega)
            refine r_sldj (u101.toNatClampNeg + 1) C hX hbl hbz (by omega) (by omega) dL_law_417 ?_
            refine r_aload_n 0 C dL_law_418 rfl ?_
            refine r_iload_n 3 C dL_law_419 rfl ?_
            refine r_iconst (v := 2) C dL_law_420 (by decide) ?_
            refine r_iadd C dL_law_421 (fun v339 e340 => ?_)
            have v339' := iadd_ok e340 (by omega) (by omega)
            refine r_sldj (u101.toNatClampNeg + 2) C hX hbl hbz (by omega) (by omega) dL_law_422 ?_
            refine callVI C cwL_52_V (ctX10_minute_0 _ _ w104 (sS sC h105) o106.1 (xf (u101.toNatClampNeg + 1)) (xf (u101.toNatClampNeg + 2)) ) (by decide) (kS sC h105 kc_0) rfl rfl rfl (Nat.le_of_ble_eq_true rfl) (by decide) dL_law_423 (fun r343 w342 y341 => ?_)
            show V x 145 11604 w342 426 [(0, .ref b), (1, .ref (gz (xG x) + 0)), (2, .ref (gz (xG x) + 114)), (3, .int u101)] [.int r343]
            obtain ⟨h344, o345⟩ := y341
            have h346 := Ch.tr h105 h344 (by decide) (by decide)
            have o347 := OkM.ch o106.2 h344 (by decide) (by decide)
            refine r_pop C dL_law_426 rfl ?_
            refine r_aload_n 2 C dL_law_427 rfl ?_
            refine r_aload_n 0 C dL_law_428 rfl ?_
            refine r_iload_n 3 C dL_law_429 rfl ?_
            refine r_iconst (v := 1) C dL_law_430 (by decide) ?_
            refine r_iadd C dL_law_431 (fun v348 e349 => ?_)
            have v348' := iadd_ok e349 (by omega) (by omega)
            refine r_sldj (u101.toNatClampNeg + 1) C hX hbl hbz (by omega) (by omega) dL_law_432 ?_
            refine r_aload_n 0 C dL_law_433 rfl ?_
            refine r_iload_n 3 C dL_law_434 rfl ?_
            refine r_iconst (v := 2) C dL_law_435 (by decide) ?_
            refine r_iadd C dL_law_436 (fun v350 e351 => ?_)
            have v350' := iadd_ok e351 (by omega) (by omega)
            refine r_sldj (u101.toNatClampNeg + 2) C hX hbl hbz (by omega) (by omega) dL_law_437 ?_
            have b352 := Inv.get o106.2.1 rt_114_0 (j := 0) (by decide) (by decide)
            have b353 := Inv.get o106.2.1 rt_114_1 (j := 1) (by decide) (by decide)
            refine callVI C cwL_55_V (ctX11_minute _ _ w342 (sS sM h346) o347 (wI w104 114 0) (h344.I (by decide) (by decide) rfl) (by omega) (wI w104 114 1) (h344.I (by decide) (by decide) rfl) (by omega) (xf (u101.toNatClampNeg + 1)) (xf (u101.toNatClampNeg + 2)) ) (by decide) (kS sM h346 kc_114) rfl rfl rfl (Nat.le_of_ble_eq_true rfl) (by decide) dL_law_438 (fun r356 w355 y354 => ?_)
            show V x 145 11604 w355 441 [(0, .ref b), (1, .ref (gz (xG x) + 0)), (2, .ref (gz (xG x) + 114)), (3, .int u101)] [.int r356]
            obtain ⟨h357, o358⟩ := y354
            have h359 := Ch.tr h346 h357 (by decide) (by decide)
            have o360 := Inv.ch o345 h357 (by decide)
            refine r_pop C dL_law_441 rfl ?_
            refine r_goto 929 C dL_law_442 (by decide) ?_
            obtain ⟨i361, e362⟩ : ∃ z : Int32, u101 + Int32.ofInt 5 = z := ⟨_, rfl⟩
            have i361' := iinc_ok e362 (by decide) (by omega) (by omega)
            refine r_iinc [(3, .int i361), (0, .ref b), (1, .ref (gz (xG x) + 0)), (2, .ref (gz (xG x) + 114))] 3 C dL_law_929 rfl e362 (by decide) rfl ?_
            refine r_goto 18 C dL_law_932 (by decide) ?_
            refine r_lv [1, 2, 3, 0] rfl ?_
            exact ih110 i361 w355 h359 ⟨o360, o358⟩ (by omega) (by rw [(h357.I (by decide) (by decide) (h344.I (by decide) (by decide) rfl)), (h357.I (by decide) (by decide) (h344.I (by decide) (by decide) rfl))] <;> omega) (by omega)
          · refine r_tabIn 445 C dL_law_32 (by omega) (by omega) (by rw [c117]; rfl) (by decide) ?_
            refine r_aload_n 1 C dL_law_445 rfl ?_
            refine r_aload_n 0 C dL_law_446 rfl ?_
            refine r_iload_n 3 C dL_law_447 rfl ?_
            refine r_iconst (v := 1) C dL_law_448 (by decide) ?_
            refine r_iadd C dL_law_449 (fun v363 e364 => ?_)
            have v363' := iadd_ok e364 (by omega) (by omega)
            refine r_sldj (u101.toNatClampNeg + 1) C hX hbl hbz (by omega) (by omega) dL_law_450 ?_
            refine r_aload_n 0 C dL_law_451 rfl ?_
            refine r_iload_n 3 C dL_law_452 rfl ?_
            refine r_iconst (v := 2) C dL_law_453 (by decide) ?_
            refine r_iadd C dL_law_454 (fun v365 e366 => ?_)
            have v365' := iadd_ok e366 (by omega) (by omega)
            refine r_sldj (u101.toNatClampNeg + 2) C hX hbl hbz (by omega) (by omega) dL_law_455 ?_
            refine r_aload_n 0 C dL_law_456 rfl ?_
            refine r_iload_n 3 C dL_law_457 rfl ?_
            refine r_iconst (v := 3) C dL_law_458 (by decide) ?_
            refine r_iadd C dL_law_459 (fun v367 e368 => ?_)
            have v367' := iadd_ok e368 (by omega) (by omega)
            refine r_sldj (u101.toNatClampNeg + 3) C hX hbl hbz (by omega) (by omega) dL_law_460 ?_
            refine r_if_eq 468 C dL_law_461 (by decide) (fun c369 => ?_) (fun c369 => ?_)
            · have c369' := i_eq c369
              refine r_iconst (v := 0) C dL_law_468 (by decide) ?_
              refine callVI C cwL_56_V (ctX10_wall_0 _ _ w104 (sS sC h105) o106.1 (xf (u101.toNatClampNeg + 1)) (xf (u101.toNatClampNeg + 2)) 0 (by omega)) (by decide) (kS sC h105 kc_0) rfl rfl rfl (Nat.le_of_ble_eq_true rfl) (by decide) dL_law_469 (fun r372 w371 y370 => ?_)
              show V x 145 11604 w371 472 [(0, .ref b), (1, .ref (gz (xG x) + 0)), (2, .ref (gz (xG x) + 114)), (3, .int u101)] [.int r372]
              obtain ⟨h373, o374⟩ := y370
              have h375 := Ch.tr h105 h373 (by decide) (by decide)
              have o376 := OkM.ch o106.2 h373 (by decide) (by decide)
              refine r_pop C dL_law_472 rfl ?_
              refine r_aload_n 2 C dL_law_473 rfl ?_
              refine r_aload_n 0 C dL_law_474 rfl ?_
              refine r_iload_n 3 C dL_law_475 rfl ?_
              refine r_iconst (v := 1) C dL_law_476 (by decide) ?_
              refine r_iadd C dL_law_477 (fun v377 e378 => ?_)
              have v377' := iadd_ok e378 (by omega) (by omega)
              refine r_sldj (u101.toNatClampNeg + 1) C hX hbl hbz (by omega) (by omega) dL_law_478 ?_
              refine r_aload_n 0 C dL_law_479 rfl ?_
              refine r_iload_n 3 C dL_law_480 rfl ?_
              refine r_iconst (v := 2) C dL_law_481 (by decide) ?_
              refine r_iadd C dL_law_482 (fun v379 e380 => ?_)
              have v379' := iadd_ok e380 (by omega) (by omega)
              refine r_sldj (u101.toNatClampNeg + 2) C hX hbl hbz (by omega) (by omega) dL_law_483 ?_
              refine r_aload_n 0 C dL_law_484 rfl ?_
              refine r_iload_n 3 C dL_law_485 rfl ?_
              refine r_iconst (v := 3) C dL_law_486 (by decide) ?_
              refine r_iadd C dL_law_487 (fun v381 e382 => ?_)
              have v381' := iadd_ok e382 (by omega) (by omega)
              refine r_sldj (u101.toNatClampNeg + 3) C hX hbl hbz (by omega) (by omega) dL_law_488 ?_
              refine r_if_eq 496 C dL_law_489 (by decide) (fun c383 => ?_) (fun c383 => ?_)
              · have c383' := i_eq c383
                refine r_iconst (v := 0) C dL_law_496 (by decide) ?_
                have b384 := Inv.get o106.2.1 rt_114_0 (j := 0) (by decide) (by decide)
                have b385 := Inv.get o106.2.1 rt_114_1 (j := 1) (by decide) (by decide)
                refine callVI C cwL_60_V (ctX11_wall _ _ w371 (sS sM h375) o376 (wI w104 114 0) (h373.I (by decide) (by decide) rfl) (by omega) (wI w104 114 1) (h373.I (by decide) (by decide) rfl) (by omega) (xf (u101.toNatClampNeg + 1)) (xf (u101.toNatClampNeg + 2)) 0 (by omega)) (by decide) (kS sM h375 kc_114) rfl rfl rfl (Nat.le_of_ble_eq_true rfl) (by decide) dL_law_497 (fun r388 w387 y386 => ?_)
                show V x 145 11604 w387 500 [(0, .ref b), (1, .ref (gz (xG x) + 0)), (2, .ref (gz (xG x) + 114)), (3, .int u101)] [.int r388]
                obtain ⟨h389, o390⟩ := y386
                have h391 := Ch.tr h375 h389 (by decide) (by decide)
                have o392 := Inv.ch o374 h389 (by decide)
                refine r_pop C dL_law_500 rfl ?_
                refine r_goto 929 C dL_law_501 (by decide) ?_
                obtain ⟨i393, e394⟩ : ∃ z : Int32, u101 + Int32.ofInt 5 = z := ⟨_, rfl⟩
                have i393' := iinc_ok e394 (by decide) (by omega) (by omega)
                refine r_iinc [(3, .int i393), (0, .ref b), (1, .ref (gz (xG x) + 0)), (2, .ref (gz (xG x) + 114))] 3 C dL_law_929 rfl e394 (by decide) rfl ?_
                refine r_goto 18 C dL_law_932 (by decide) ?_
                refine r_lv [1, 2, 3, 0] rfl ?_
                exact ih110 i393 w387 h391 ⟨o392, o390⟩ (by omega) (by rw [(h389.I (by decide) (by decide) (h373.I (by decide) (by decide) rfl)), (h389.I (by decide) (by decide) (h373.I (by decide) (by decide) rfl))] <;> omega) (by omega)
              · have c383' := i_ne c383
                refine r_iconst (v := 1) C dL_law_492 (by decide) ?_
                refine r_goto 497 C dL_law_493 (by decide) ?_
                have b395 := Inv.get o106.2.1 rt_114_0 (j := 0) (by decide) (by decide)
                have b396 := Inv.get o106.2.1 rt_114_1 (j := 1) (by decide) (by decide)
                refine callVI C cwL_60_V (ctX11_wall _ _ w371 (sS sM h375) o376 (wI w104 114 0) (h373.I (by decide) (by decide) rfl) (by omega) (wI w104 114 1) (h373.I (by decide) (by decide) rfl) (by omega) (xf (u101.toNatClampNeg + 1)) (xf (u101.toNatClampNeg + 2)) 1 (by omega)) (by decide) (kS sM h375 kc_114) rfl rfl rfl (Nat.le_of_ble_eq_true rfl) (by decide) dL_law_497 (fun r399 w398 y397 => ?_)
                show V x 145 11604 w398 500 [(0, .ref b), (1, .ref (gz (xG x) + 0)), (2, .ref (gz (xG x) + 114)), (3, .int u101)] [.int r399]
                obtain ⟨h400, o401⟩ := y397
                have h402 := Ch.tr h375 h400 (by decide) (by decide)
                have o403 := Inv.ch o374 h400 (by decide)
                refine r_pop C dL_law_500 rfl ?_
                refine r_goto 929 C dL_law_501 (by decide) ?_
                obtain ⟨i404, e405⟩ : ∃ z : Int32, u101 + Int32.ofInt 5 = z := ⟨_, rfl⟩
                have i404' := iinc_ok e405 (by decide) (by omega) (by omega)
                refine r_iinc [(3, .int i404), (0, .ref b), (1, .ref (gz (xG x) + 0)), (2, .ref (gz (xG x) + 114))] 3 C dL_law_929 rfl e405 (by decide) rfl ?_
                refine r_goto 18 C dL_law_932 (by decide) ?_
                refine r_lv [1, 2, 3, 0] rfl ?_
                exact ih110 i404 w398 h402 ⟨o403, o401⟩ (by omega) (by rw [(h400.I (by decide) (by decide) (h373.I (by decide) (by decide) rfl)), (h400.I (by decide) (by decide) (h373.I (by decide) (by decide) rfl))] <;> omega) (by omega)
            · have c369' := i_ne c369
              refine r_iconst (v := 1) C dL_law_464 (by decide) ?_
              refine r_goto 469 C dL_law_465 (by decide) ?_
              refine callVI C cwL_56_V (ctX10_wall_0 _ _ w104 (sS sC h105) o106.1 (xf (u101.toNatClampNeg + 1)) (xf (u101.toNatClampNeg + 2)) 1 (by omega)) (by decide) (kS sC h105 kc_0) rfl rfl rfl (Nat.le_of_ble_eq_true rfl) (by decide) dL_law_469 (fun r408 w407 y406 => ?_)
              show V x 145 11604 w407 472 [(0, .ref b), (1, .ref (gz (xG x) + 0)), (2, .ref (gz (xG x) + 114)), (3, .int u101)] [.int r408]
              obtain ⟨h409, o410⟩ := y406
              have h411 := Ch.tr h105 h409 (by decide) (by decide)
              have o412 := OkM.ch o106.2 h409 (by decide) (by decide)
              refine r_pop C dL_law_472 rfl ?_
              refine r_aload_n 2 C dL_law_473 rfl ?_
              refine r_aload_n 0 C dL_law_474 rfl ?_
              refine r_iload_n 3 C dL_law_475 rfl ?_
              refine r_iconst (v := 1) C dL_law_476 (by decide) ?_
              refine r_iadd C dL_law_477 (fun v413 e414 => ?_)
              have v413' := iadd_ok e414 (by omega) (by omega)
              refine r_sldj (u101.toNatClampNeg + 1) C hX hbl hbz (by omega) (by omega) dL_law_478 ?_
              refine r_aload_n 0 C dL_law_479 rfl ?_
              refine r_iload_n 3 C dL_law_480 rfl ?_
              refine r_iconst (v := 2) C dL_law_481 (by decide) ?_
              refine r_iadd C dL_law_482 (fun v415 e416 => ?_)
              have v415' := iadd_ok e416 (by omega) (by omega)
              refine r_sldj (u101.toNatClampNeg + 2) C hX hbl hbz (by omega) (by omega) dL_law_483 ?_
              refine r_aload_n 0 C dL_law_484 rfl ?_
              refine r_iload_n 3 C dL_law_485 rfl ?_
              refine r_iconst (v := 3) C dL_law_486 (by decide) ?_
              refine r_iadd C dL_law_487 (fun v417 e418 => ?_)
              have v417' := iadd_ok e418 (by omega) (by omega)
              refine r_sldj (u101.toNatClampNeg + 3) C hX hbl hbz (by omega) (by omega) dL_law_488 ?_
              refine r_if_eq 496 C dL_law_489 (by decide) (fun c419 => ?_) (fun c419 => ?_)
              · have c419' := i_eq c419
                refine r_iconst (v := 0) C dL_law_496 (by decide) ?_
                have b420 := Inv.get o106.2.1 rt_114_0 (j := 0) (by decide) (by decide)
                have b421 := Inv.get o106.2.1 rt_114_1 (j := 1) (by decide) (by decide)
                refine callVI C cwL_60_V (ctX11_wall _ _ w407 (sS sM h411) o412 (wI w104 114 0) (h409.I (by decide) (by decide) rfl) (by omega) (wI w104 114 1) (h409.I (by decide) (by decide) rfl) (by omega) (xf (u101.toNatClampNeg + 1)) (xf (u101.toNatClampNeg + 2)) 0 (by omega)) (by decide) (kS sM h411 kc_114) rfl rfl rfl (Nat.le_of_ble_eq_true rfl) (by decide) dL_law_497 (fun r424 w423 y422 => ?_)
                show V x 145 11604 w423 500 [(0, .ref b), (1, .ref (gz (xG x) + 0)), (2, .ref (gz (xG x) + 114)), (3, .int u101)] [.int r424]
                obtain ⟨h425, o426⟩ := y422
                have h427 := Ch.tr h411 h425 (by decide) (by decide)
                have o428 := Inv.ch o410 h425 (by decide)
                refine r_pop C dL_law_500 rfl ?_
                refine r_goto 929 C dL_law_501 (by decide) ?_
                obtain ⟨i429, e430⟩ : ∃ z : Int32, u101 + Int32.ofInt 5 = z := ⟨_, rfl⟩
                have i429' := iinc_ok e430 (by decide) (by omega) (by omega)
                refine r_iinc [(3, .int i429), (0, .ref b), (1, .ref (gz (xG x) + 0)), (2, .ref (gz (xG x) + 114))] 3 C dL_law_929 rfl e430 (by decide) rfl ?_
                refine r_goto 18 C dL_law_932 (by decide) ?_
                refine r_lv [1, 2, 3, 0] rfl ?_
                exact ih110 i429 w423 h427 ⟨o428, o426⟩ (by omega) (by rw [(h425.I (by decide) (by decide) (h409.I (by decide) (by decide) rfl)), (h425.I (by decide) (by decide) (h409.I (by decide) (by decide) rfl))] <;> omega) (by omega)
              · have c419' := i_ne c419
                refine r_iconst (v := 1) C dL_law_492 (by decide) ?_
                refine r_goto 497 C dL_law_493 (by decide) ?_
                have b431 := Inv.get o106.2.1 rt_114_0 (j := 0) (by decide) (by decide)
                have b432 := Inv.get o106.2.1 rt_114_1 (j := 1) (by decide) (by decide)
                refine callVI C cwL_60_V (ctX11_wall _ _ w407 (sS sM h411) o412 (wI w104 114 0) (h409.I (by decide) (by decide) rfl) (by omega) (wI w104 114 1) (h409.I (by decide) (by decide) rfl) (by omega) (xf (u101.toNatClampNeg + 1)) (xf (u101.toNatClampNeg + 2)) 1 (by omega)) (by decide) (kS sM h411 kc_114) rfl rfl rfl (Nat.le_of_ble_eq_true rfl) (by decide) dL_law_497 (fun r435 w434 y433 => ?_)
                show V x 145 11604 w434 500 [(0, .ref b), (1, .ref (gz (xG x) + 0)), (2, .ref (gz (xG x) + 114)), (3, .int u101)] [.int r435]
                obtain ⟨h436, o437⟩ := y433
                have h438 := Ch.tr h411 h436 (by decide) (by decide)
                have o439 := Inv.ch o410 h436 (by decide)
                refine r_pop C dL_law_500 rfl ?_
                refine r_goto 929 C dL_law_501 (by decide) ?_
                obtain ⟨i440, e441⟩ : ∃ z : Int32, u101 + Int32.ofInt 5 = z := ⟨_, rfl⟩
                have i440' := iinc_ok e441 (by decide) (by omega) (by omega)
                refine r_iinc [(3, .int i440), (0, .ref b), (1, .ref (gz (xG x) + 0)), (2, .ref (gz (xG x) + 114))] 3 C dL_law_929 rfl e441 (by decide) rfl ?_
                refine r_goto 18 C dL_law_932 (by decide) ?_
                refine r_lv [1, 2, 3, 0] rfl ?_
                exact ih110 i440 w434 h438 ⟨o439, o437⟩ (by omega) (by rw [(h436.I (by decide) (by decide) (h409.I (by decide) (by decide) rfl)), (h436.I (by decide) (by decide) (h409.I (by decide) (by decide) rfl))] <;> omega) (by omega)
          · refine r_tabIn 504 C dL_law_32 (by omega) (by omega) (by rw [c117]; rfl) (by decide) ?_
            refine r_aload_n 1 C dL_law_504 rfl ?_
            refine r_aload_n 0 C dL_law_505 rfl ?_
            refine r_iload_n 3 C dL_law_506 rfl ?_
            refine r_iconst (v := 1) C dL_law_507 (by decide) ?_
            refine r_iadd C dL_law_508 (fun v442 e443 => ?_)
            have v442' := iadd_ok e443 (by omega) (by omega)
            refine r_sldj (u101.toNatClampNeg + 1) C hX hbl hbz (by omega) (by omega) dL_law_509 ?_
            refine callVI C cwL_61_V (ctX10_drift_0 _ _ w104 (sS sC h105) o106.1 (xf (u101.toNatClampNeg + 1)) ) (by decide) (kS sC h105 kc_0) rfl rfl rfl (Nat.le_of_ble_eq_true rfl) (by decide) dL_law_510 (fun r446 w445 y444 => ?_)
            show V x 145 11604 w445 513 [(0, .ref b), (1, .ref (gz (xG x) + 0)), (2, .ref (gz (xG x) + 114)), (3, .int u101)] [.int r446]
            obtain ⟨h447, o448⟩ := y444
            have h449 := Ch.tr h105 h447 (by decide) (by decide)
            have o450 := OkM.ch o106.2 h447 (by decide) (by decide)
            refine r_pop C dL_law_513 rfl ?_
            refine r_aload_n 2 C dL_law_514 rfl ?_
            refine r_aload_n 0 C dL_law_515 rfl ?_
            refine r_iload_n 3 C dL_law_516 rfl ?_
            refine r_iconst (v := 1) C dL_law_517 (by decide) ?_
            refine r_iadd C dL_law_518 (fun v451 e452 => ?_)
            have v451' := iadd_ok e452 (by omega) (by omega)
            refine r_sldj (u101.toNatClampNeg + 1) C hX hbl hbz (by omega) (by omega) dL_law_519 ?_
            have b453 := Inv.get o106.2.1 rt_114_0 (j := 0) (by decide) (by decide)
            have b454 := Inv.get o106.2.1 rt_114_1 (j := 1) (by decide) (by decide)
            refine callVI C cwL_64_V (ctX11_drift _ _ w445 (sS sM h449) o450 (wI w104 114 0) (h447.I (by decide) (by decide) rfl) (by omega) (wI w104 114 1) (h447.I (by decide) (by decide) rfl) (by omega) (xf (u101.toNatClampNeg + 1)) ) (by decide) (kS sM h449 kc_114) rfl rfl rfl (Nat.le_of_ble_eq_true rfl) (by decide) dL_law_520 (fun r457 w456 y455 => ?_)
            show V x 145 11604 w456 523 [(0, .ref b), (1, .ref (gz (xG x) + 0)), (2, .ref (gz (xG x) + 114)), (3, .int u101)] [.int r457]
            obtain ⟨h458, o459⟩ := y455
            have h460 := Ch.tr h449 h458 (by decide) (by decide)
            have o461 := Inv.ch o448 h458 (by decide)
            refine r_pop C dL_law_523 rfl ?_
            refine r_goto 929 C dL_law_524 (by decide) ?_
            obtain ⟨i462, e463⟩ : ∃ z : Int32, u101 + Int32.ofInt 5 = z := ⟨_, rfl⟩
            have i462' := iinc_ok e463 (by decide) (by omega) (by omega)
            refine r_iinc [(3, .int i462), (0, .ref b), (1, .ref (gz (xG x) + 0)), (2, .ref (gz (xG x) + 114))] 3 C dL_law_929 rfl e463 (by decide) rfl ?_
            refine r_goto 18 C dL_law_932 (by decide) ?_
            refine r_lv [1, 2, 3, 0] rfl ?_
            exact ih110 i462 w456 h460 ⟨o461, o459⟩ (by omega) (by rw [(h458.I (by decide) (by decide) (h447.I (by decide) (by decide) rfl)), (h458.I (by decide) (by decide) (h447.I (by decide) (by decide) rfl))] <;> omega) (by omega)
          · refine r_tabIn 527 C dL_law_32 (by omega) (by omega) (by rw [c117]; rfl) (by decide) ?_
            refine r_aload_n 1 C dL_law_527 rfl ?_
            refine r_aload_n 0 C dL_law_528 rfl ?_
            refine r_iload_n 3 C dL_law_529 rfl ?_
            refine r_iconst (v := 1) C dL_law_530 (by decide) ?_
            refine r_iadd C dL_law_531 (fun v464 e465 => ?_)
            have v464' := iadd_ok e465 (by omega) (by omega)
            refine r_sldj (u101.toNatClampNeg + 1) C hX hbl hbz (by omega) (by omega) dL_law_532 ?_
            refine r_aload_n 0 C dL_law_533 rfl ?_
            refine r_iload_n 3 C dL_law_534 rfl ?_
            refine r_iconst (v := 2) C dL_law_535 (by decide) ?_
            refine r_iadd C dL_law_536 (fun v466 e467 => ?_)
            have v466' := iadd_ok e467 (by omega) (by omega)
            refine r_sldj (u101.toNatClampNeg + 2) C hX hbl hbz (by omega) (by omega) dL_law_537 ?_
            refine callVI C cwL_65_V (ctX10_plan_0 _ _ w104 (sS sC h105) o106.1 (xf (u101.toNatClampNeg + 1)) (xf (u101.toNatClampNeg + 2)) ) (by decide) (kS sC h105 kc_0) rfl rfl rfl (Nat.le_of_ble_eq_true rfl) (by decide) dL_law_538 (fun r470 w469 y468 => ?_)
            show V x 145 11604 w469 541 [(0, .ref b), (1, .ref (gz (xG x) + 0)), (2, .ref (gz (xG x) + 114)), (3, .int u101)] [.int r470]
            obtain ⟨h471, o472⟩ := y468
            have h473 := Ch.tr h105 h471 (by decide) (by decide)
            have o474 := OkM.ch o106.2 h471 (by decide) (by decide)
            refine r_pop C dL_law_541 rfl ?_
            refine r_aload_n 2 C dL_law_542 rfl ?_
            refine r_aload_n 0 C dL_law_543 rfl ?_
            refine r_iload_n 3 C dL_law_544 rfl ?_
            refine r_iconst (v := 1) C dL_law_545 (by decide) ?_
            refine r_iadd C dL_law_546 (fun v475 e476 => ?_)
            have v475' := iadd_ok e476 (by omega) (by omega)
            refine r_sldj (u101.toNatClampNeg + 1) C hX hbl hbz (by omega) (by omega) dL_law_547 ?_
            refine r_aload_n 0 C dL_law_548 rfl ?_
            refine r_iload_n 3 C dL_law_549 rfl ?_
            refine r_iconst (v := 2) C dL_law_550 (by decide) ?_
            refine r_iadd C dL_law_551 (fun v477 e478 => ?_)
            have v477' := iadd_ok e478 (by omega) (by omega)
            refine r_sldj (u101.toNatClampNeg + 2) C hX hbl hbz (by omega) (by omega) dL_law_552 ?_
            refine callVI C cwL_68_V (ctX11_plan _ _ w469 (sS sM h473) o474 (xf (u101.toNatClampNeg + 1)) (xf (u101.toNatClampNeg + 2)) ) (by decide) (kS sM h473 kc_114) rfl rfl rfl (Nat.le_of_ble_eq_true rfl) (by decide) dL_law_553 (fun r481 w480 y479 => ?_)
            show V x 145 11604 w480 556 [(0, .ref b), (1, .ref (gz (xG x) + 0)), (2, .ref (gz (xG x) + 114)), (3, .int u101)] [.int r481]
            obtain ⟨h482, o483⟩ := y479
            have h484 := Ch.tr h473 h482 (by decide) (by decide)
            have o485 := Inv.ch o472 h482 (by decide)
            refine r_pop C dL_law_556 rfl ?_
            refine r_goto 929 C dL_law_557 (by decide) ?_
            obtain ⟨i486, e487⟩ : ∃ z : Int32, u101 + Int32.ofInt 5 = z := ⟨_, rfl⟩
            have i486' := iinc_ok e487 (by decide) (by omega) (by omega)
            refine r_iinc [(3, .int i486), (0, .ref b), (1, .ref (gz (xG x) + 0)), (2, .ref (gz (xG x) + 114))] 3 C dL_law_929 rfl e487 (by decide) rfl ?_
            refine r_goto 18 C dL_law_932 (by decide) ?_
            refine r_lv [1, 2, 3, 0] rfl ?_
            exact ih110 i486 w480 h484 ⟨o485, o483⟩ (by omega) (by rw [(h482.I (by decide) (by decide) (h471.I (by decide) (by decide) rfl)), (h482.I (by decide) (by decide) (h471.I (by decide) (by decide) rfl))] <;> omega) (by omega)
          · refine r_tabIn 560 C dL_law_32 (by omega) (by omega) (by rw [c117]; rfl) (by decide) ?_
            refine r_aload_n 1 C dL_law_560 rfl ?_
            refine callVI C cwL_69_V (ctX10_drop_0 _ _ w104 (sS sC h105) o106.1  ) (by decide) (kS sC h105 kc_0) rfl rfl rfl (Nat.le_of_ble_eq_true rfl) (by decide) dL_law_561 (fun r490 w489 y488 => ?_)
            show V x 145 11604 w489 564 [(0, .ref b), (1, .ref (gz (xG x) + 0)), (2, .ref (gz (xG x) + 114)), (3, .int u101)] [.int r490]
            obtain ⟨h491, o492⟩ := y488
            have h493 := Ch.tr h105 h491 (by decide) (by decide)
            have o494 := OkM.ch o106.2 h491 (by decide) (by decide)
            refine r_pop C dL_law_564 rfl ?_
            refine r_aload_n 2 C dL_law_565 rfl ?_
            refine callVI C cwL_72_V (ctX11_drop _ _ w489 (sS sM h493) o494  ) (by decide) (kS sM h493 kc_114) rfl rfl rfl (Nat.le_of_ble_eq_true rfl) (by decide) dL_law_566 (fun r497 w496 y495 => ?_)
            show V x 145 11604 w496 569 [(0, .ref b), (1, .ref (gz (xG x) + 0)), (2, .ref (gz (xG x) + 114)), (3, .int u101)] [.int r497]
            obtain ⟨h498, o499⟩ := y495
            have h500 := Ch.tr h493 h498 (by decide) (by decide)
            have o501 := Inv.ch o492 h498 (by decide)
            refine r_pop C dL_law_569 rfl ?_
            refine r_goto 929 C dL_law_570 (by decide) ?_
            obtain ⟨i502, e503⟩ : ∃ z : Int32, u101 + Int32.ofInt 5 = z := ⟨_, rfl⟩
            have i502' := iinc_ok e503 (by decide) (by omega) (by omega)
            refine r_iinc [(3, .int i502), (0, .ref b), (1, .ref (gz (xG x) + 0)), (2, .ref (gz (xG x) + 114))] 3 C dL_law_929 rfl e503 (by decide) rfl ?_
            refine r_goto 18 C dL_law_932 (by decide) ?_
            refine r_lv [1, 2, 3, 0] rfl ?_
            exact ih110 i502 w496 h500 ⟨o501, o499⟩ (by omega) (by rw [(h498.I (by decide) (by decide) (h491.I (by decide) (by decide) rfl)), (h498.I (by decide) (by decide) (h491.I (by decide) (by decide) rfl))] <;> omega) (by omega)
          · refine r_tabIn 573 C dL_law_32 (by omega) (by omega) (by rw [c117]; rfl) (by decide) ?_
            refine r_aload_n 1 C dL_law_573 rfl ?_
            refine callVI C cwL_73_V (ctX10_judge_0 _ _ w104 (sS sC h105) o106.1  ) (by decide) (kS sC h105 kc_0) rfl rfl rfl (Nat.le_of_ble_eq_true rfl) (by decide) dL_law_574 (fun r506 w505 y504 => ?_)
            show V x 145 11604 w505 577 [(0, .ref b), (1, .ref (gz (xG x) + 0)), (2, .ref (gz (xG x) + 114)), (3, .int u101)] [.int r506]
            obtain ⟨h507, o508⟩ := y504
            have h509 := Ch.tr h105 h507 (by decide) (by decide)
            have o510 := OkM.ch o106.2 h507 (by decide) (by decide)
            refine r_pop C dL_law_577 rfl ?_
            refine r_aload_n 2 C dL_law_578 rfl ?_
            refine callVI C cwL_76_V (ctX11_judge _ _ w505 (sS sM h509) o510  ) (by decide) (kS sM h509 kc_114) rfl rfl rfl (Nat.le_of_ble_eq_true rfl) (by decide) dL_law_579 (fun r513 w512 y511 => ?_)
            show V x 145 11604 w512 582 [(0, .ref b), (1, .ref (gz (xG x) + 0)), (2, .ref (gz (xG x) + 114)), (3, .int u101)] [.int r513]
            obtain ⟨h514, o515⟩ := y511
            have h516 := Ch.tr h509 h514 (by decide) (by decide)
            have o517 := Inv.ch o508 h514 (by decide)
            refine r_pop C dL_law_582 rfl ?_
            refine r_goto 929 C dL_law_583 (by decide) ?_
            obtain ⟨i518, e519⟩ : ∃ z : Int32, u101 + Int32.ofInt 5 = z := ⟨_, rfl⟩
            have i518' := iinc_ok e519 (by decide) (by omega) (by omega)
            refine r_iinc [(3, .int i518), (0, .ref b), (1, .ref (gz (xG x) + 0)), (2, .ref (gz (xG x) + 114))] 3 C dL_law_929 rfl e519 (by decide) rfl ?_
            refine r_goto 18 C dL_law_932 (by decide) ?_
            refine r_lv [1, 2, 3, 0] rfl ?_
            exact ih110 i518 w512 h516 ⟨o517, o515⟩ (by omega) (by rw [(h514.I (by decide) (by decide) (h507.I (by decide) (by decide) rfl)), (h514.I (by decide) (by decide) (h507.I (by decide) (by decide) rfl))] <;> omega) (by omega)
          · refine r_tabIn 586 C dL_law_32 (by omega) (by omega) (by rw [c117]; rfl) (by decide) ?_
            refine r_aload_n 1 C dL_law_586 rfl ?_
            refine r_aload_n 0 C dL_law_587 rfl ?_
            refine r_iload_n 3 C dL_law_588 rfl ?_
            refine r_iconst (v := 1) C dL_law_589 (by decide) ?_
            refine r_iadd C dL_law_590 (fun v520 e521 => ?_)
            have v520' := iadd_ok e521 (by omega) (by omega)
            refine r_sldj (u101.toNatClampNeg + 1) C hX hbl hbz (by omega) (by omega) dL_law_591 ?_
            refine r_aload_n 0 C dL_law_592 rfl ?_
            refine r_iload_n 3 C dL_law_593 rfl ?_
            refine r_iconst (v := 2) C dL_law_594 (by decide) ?_
            refine r_iadd C dL_law_595 (fun v522 e523 => ?_)
            have v522' := iadd_ok e523 (by omega) (by omega)
            refine r_sldj (u101.toNatClampNeg + 2) C hX hbl hbz (by omega) (by omega) dL_law_596 ?_
            refine callVI C cwL_77_V (ctX10_tried_0 _ _ w104 (sS sC h105) o106.1 (xf (u101.toNatClampNeg + 1)) (xf (u101.toNatClampNeg + 2)) ) (by decide) (kS sC h105 kc_0) rfl rfl rfl (Nat.le_of_ble_eq_true rfl) (by decide) dL_law_597 (fun r526 w525 y524 => ?_)
            show V x 145 11604 w525 600 [(0, .ref b), (1, .ref (gz (xG x) + 0)), (2, .ref (gz (xG x) + 114)), (3, .int u101)] [.int r526]
            obtain ⟨h527, o528⟩ := y524
            have h529 := Ch.tr h105 h527 (by decide) (by decide)
            have o530 := OkM.ch o106.2 h527 (by decide) (by decide)
            refine r_pop C dL_law_600 rfl ?_
            refine r_aload_n 2 C dL_law_601 rfl ?_
            refine r_aload_n 0 C dL_law_602 rfl ?_
            refine r_iload_n 3 C dL_law_603 rfl ?_
            refine r_iconst (v := 1) C dL_law_604 (by decide) ?_
            refine r_iadd C dL_law_605 (fun v531 e532 => ?_)
            have v531' := iadd_ok e532 (by omega) (by omega)
            refine r_sldj (u101.toNatClampNeg + 1) C hX hbl hbz (by omega) (by omega) dL_law_606 ?_
            refine r_aload_n 0 C dL_law_607 rfl ?_
            refine r_iload_n 3 C dL_law_608 rfl ?_
            refine r_iconst (v := 2) C dL_law_609 (by decide) ?_
            refine r_iadd C dL_law_610 (fun v533 e534 => ?_)
            have v533' := iadd_ok e534 (by omega) (by omega)
            refine r_sldj (u101.toNatClampNeg + 2) C hX hbl hbz (by omega) (by omega) dL_law_611 ?_
            refine callVI C cwL_80_V (ctX11_tried _ _ w525 (sS sM h529) o530 (xf (u101.toNatClampNeg + 1)) (xf (u101.toNatClampNeg + 2)) ) (by decide) (kS sM h529 kc_114) rfl rfl rfl (Nat.le_of_ble_eq_true rfl) (by decide) dL_law_612 (fun r537 w536 y535 => ?_)
            show V x 145 11604 w536 615 [(0, .ref b), (1, .ref (gz (xG x) + 0)), (2, .ref (gz (xG x) + 114)), (3, .int u101)] [.int r537]
            obtain ⟨h538, o539⟩ := y535
            have h540 := Ch.tr h529 h538 (by decide) (by decide)
            have o541 := Inv.ch o528 h538 (by decide)
            refine r_pop C dL_law_615 rfl ?_
            refine r_goto 929 C dL_law_616 (by decide) ?_
            obtain ⟨i542, e543⟩ : ∃ z : Int32, u101 + Int32.ofInt 5 = z := ⟨_, rfl⟩
            have i542' := iinc_ok e543 (by decide) (by omega) (by omega)
            refine r_iinc [(3, .int i542), (0, .ref b), (1, .ref (gz (xG x) + 0)), (2, .ref (gz (xG x) + 114))] 3 C dL_law_929 rfl e543 (by decide) rfl ?_
            refine r_goto 18 C dL_law_932 (by decide) ?_
            refine r_lv [1, 2, 3, 0] rfl ?_
            exact ih110 i542 w536 h540 ⟨o541, o539⟩ (by omega) (by rw [(h538.I (by decide) (by decide) (h527.I (by decide) (by decide) rfl)), (h538.I (by decide) (by decide) (h527.I (by decide) (by decide) rfl))] <;> omega) (by omega)
          · refine r_tabIn 619 C dL_law_32 (by omega) (by omega) (by rw [c117]; rfl) (by decide) ?_
            refine r_aload_n 1 C dL_law_619 rfl ?_
            refine r_aload_n 0 C dL_law_620 rfl ?_
            refine r_iload_n 3 C dL_law_621 rfl ?_
            refine r_iconst (v := 1) C dL_law_622 (by decide) ?_
            refine r_iadd C dL_law_623 (fun v544 e545 => ?_)
            have v544' := iadd_ok e545 (by omega) (by omega)
            refine r_sldj (u101.toNatClampNeg + 1) C hX hbl hbz (by omega) (by omega) dL_law_624 ?_
            refine r_aload_n 0 C dL_law_625 rfl ?_
            refine r_iload_n 3 C dL_law_626 rfl ?_
            refine r_iconst (v := 2) C dL_law_627 (by decide) ?_
            refine r_iadd C dL_law_628 (fun v546 e547 => ?_)
            have v546' := iadd_ok e547 (by omega) (by omega)
            refine r_sldj (u101.toNatClampNeg + 2) C hX hbl hbz (by omega) (by omega) dL_law_629 ?_
            refine callVI C cwL_81_V (ctX10_where_0 _ _ w104 (sS sC h105) o106.1 (xf (u101.toNatClampNeg + 1)) (xf (u101.toNatClampNeg + 2)) ) (by decide) (kS sC h105 kc_0) rfl rfl rfl (Nat.le_of_ble_eq_true rfl) (by decide) dL_law_630 (fun r550 w549 y548 => ?_)
            show V x 145 11604 w549 633 [(0, .ref b), (1, .ref (gz (xG x) + 0)), (2, .ref (gz (xG x) + 114)), (3, .int u101)] [.int r550]
            obtain ⟨h551, o552⟩ := y548
            have h553 := Ch.tr h105 h551 (by decide) (by decide)
            have o554 := OkM.ch o106.2 h551 (by decide) (by decide)
            refine r_pop C dL_law_633 rfl ?_
            refine r_aload_n 2 C dL_law_634 rfl ?_
            refine r_aload_n 0 C dL_law_635 rfl ?_
            refine r_iload_n 3 C dL_law_636 rfl ?_
            refine r_iconst (v := 1) C dL_law_637 (by decide) ?_
            refine r_iadd C dL_law_638 (fun v555 e556 => ?_)
            have v555' := iadd_ok e556 (by omega) (by omega)
            refine r_sldj (u101.toNatClampNeg + 1) C hX hbl hbz (by omega) (by omega) dL_law_639 ?_
            refine r_aload_n 0 C dL_law_640 rfl ?_
            refine r_iload_n 3 C dL_law_641 rfl ?_
            refine r_iconst (v := 2) C dL_law_642 (by decide) ?_
            refine r_iadd C dL_law_643 (fun v557 e558 => ?_)
            have v557' := iadd_ok e558 (by omega) (by omega)
            refine r_sldj (u101.toNatClampNeg + 2) C hX hbl hbz (by omega) (by omega) dL_law_644 ?_
            refine callVI C cwL_84_V (ctX11_where _ _ w549 (sS sM h553) o554 (xf (u101.toNatClampNeg + 1)) (xf (u101.toNatClampNeg + 2)) ) (by decide) (kS sM h553 kc_114) rfl rfl rfl (Nat.le_of_ble_eq_true rfl) (by decide) dL_law_645 (fun r561 w560 y559 => ?_)
            show V x 145 11604 w560 648 [(0, .ref b), (1, .ref (gz (xG x) + 0)), (2, .ref (gz (xG x) + 114)), (3, .int u101)] [.int r561]
            obtain ⟨h562, o563⟩ := y559
            have h564 := Ch.tr h553 h562 (by decide) (by decide)
            have o565 := Inv.ch o552 h562 (by decide)
            refine r_pop C dL_law_648 rfl ?_
            refine r_goto 929 C dL_law_649 (by decide) ?_
            obtain ⟨i566, e567⟩ : ∃ z : Int32, u101 + Int32.ofInt 5 = z := ⟨_, rfl⟩
            have i566' := iinc_ok e567 (by decide) (by omega) (by omega)
            refine r_iinc [(3, .int i566), (0, .ref b), (1, .ref (gz (xG x) + 0)), (2, .ref (gz (xG x) + 114))] 3 C dL_law_929 rfl e567 (by decide) rfl ?_
            refine r_goto 18 C dL_law_932 (by decide) ?_
            refine r_lv [1, 2, 3, 0] rfl ?_
            exact ih110 i566 w560 h564 ⟨o565, o563⟩ (by omega) (by rw [(h562.I (by decide) (by decide) (h551.I (by decide) (by decide) rfl)), (h562.I (by decide) (by decide) (h551.I (by decide) (by decide) rfl))] <;> omega) (by omega)
          · refine r_tabIn 652 C dL_law_32 (by omega) (by omega) (by rw [c117]; rfl) (by decide) ?_
            refine r_aload_n 1 C dL_law_652 rfl ?_
            refine r_aload_n 0 C dL_law_653 rfl ?_
            refine r_iload_n 3 C dL_law_654 rfl ?_
            refine r_iconst (v := 1) C dL_law_655 (by decide) ?_
            refine r_iadd C dL_law_656 (fun v568 e569 => ?_)
            have v568' := iadd_ok e569 (by omega) (by omega)
            refine r_sldj (u101.toNatClampNeg + 1) C hX hbl hbz (by omega) (by omega) dL_law_657 ?_
            refine r_aload_n 0 C dL_law_658 rfl ?_
            refine r_iload_n 3 C dL_law_659 rfl ?_
            refine r_iconst (v := 2) C dL_law_660 (by decide) ?_
            refine r_iadd C dL_law_661 (fun v570 e571 => ?_)
            have v570' := iadd_ok e571 (by omega) (by omega)
            refine r_sldj (u101.toNatClampNeg + 2) C hX hbl hbz (by omega) (by omega) dL_law_662 ?_
            refine r_aload_n 0 C dL_law_663 rfl ?_
            refine r_iload_n 3 C dL_law_664 rfl ?_
            refine r_iconst (v := 3) C dL_law_665 (by decide) ?_
            refine r_iadd C dL_law_666 (fun v572 e573 => ?_)
            have v572' := iadd_ok e573 (by omega) (by omega)
            refine r_sldj (u101.toNatClampNeg + 3) C hX hbl hbz (by omega) (by omega) dL_law_667 ?_
            refine callVI C cwL_85_V (ctX10_soonest_0 _ _ w104 (sS sC h105) o106.1 (xf (u101.toNatClampNeg + 1)) (xf (u101.toNatClampNeg + 2)) (xf (u101.toNatClampNeg + 3)) ) (by decide) (kS sC h105 kc_0) rfl rfl rfl (Nat.le_of_ble_eq_true rfl) (by decide) dL_law_668 (fun r576 w575 y574 => ?_)
            show V x 145 11604 w575 671 [(0, .ref b), (1, .ref (gz (xG x) + 0)), (2, .ref (gz (xG x) + 114)), (3, .int u101)] [.int r576]
            obtain ⟨h577, o578⟩ := y574
            have h579 := Ch.tr h105 h577 (by decide) (by decide)
            have o580 := OkM.ch o106.2 h577 (by decide) (by decide)
            refine r_pop C dL_law_671 rfl ?_
            refine r_aload_n 2 C dL_law_672 rfl ?_
            refine r_aload_n 0 C dL_law_673 rfl ?_
            refine r_iload_n 3 C dL_law_674 rfl ?_
            refine r_iconst (v := 1) C dL_law_675 (by decide) ?_
            refine r_iadd C dL_law_676 (fun v581 e582 => ?_)
            have v581' := iadd_ok e582 (by omega) (by omega)
            refine r_sldj (u101.toNatClampNeg + 1) C hX hbl hbz (by omega) (by omega) dL_law_677 ?_
            refine r_aload_n 0 C dL_law_678 rfl ?_
            refine r_iload_n 3 C dL_law_679 rfl ?_
            refine r_iconst (v := 2) C dL_law_680 (by decide) ?_
            refine r_iadd C dL_law_681 (fun v583 e584 => ?_)
            have v583' := iadd_ok e584 (by omega) (by omega)
            refine r_sldj (u101.toNatClampNeg + 2) C hX hbl hbz (by omega) (by omega) dL_law_682 ?_
            refine r_aload_n 0 C dL_law_683 rfl ?_
            refine r_iload_n 3 C dL_law_684 rfl ?_
            refine r_iconst (v := 3) C dL_law_685 (by decide) ?_
            refine r_iadd C dL_law_686 (fun v585 e586 => ?_)
            have v585' := iadd_ok e586 (by omega) (by omega)
            refine r_sldj (u101.toNatClampNeg + 3) C hX hbl hbz (by omega) (by omega) dL_law_687 ?_
            refine callVI C cwL_89_V (ctX11_soonest _ _ w575 (sS sM h579) o580 (xf (u101.toNatClampNeg + 1)) (xf (u101.toNatClampNeg + 2)) (xf (u101.toNatClampNeg + 3)) ) (by decide) (kS sM h579 kc_114) rfl rfl rfl (Nat.le_of_ble_eq_true rfl) (by decide) dL_law_688 (fun r589 w588 y587 => ?_)
            show V x 145 11604 w588 691 [(0, .ref b), (1, .ref (gz (xG x) + 0)), (2, .ref (gz (xG x) + 114)), (3, .int u101)] [.int r589]
            obtain ⟨h590, o591⟩ := y587
            have h592 := Ch.tr h579 h590 (by decide) (by decide)
            have o593 := Inv.ch o578 h590 (by decide)
            refine r_pop C dL_law_691 rfl ?_
            refine r_goto 929 C dL_law_692 (by decide) ?_
            obtain ⟨i594, e595⟩ : ∃ z : Int32, u101 + Int32.ofInt 5 = z := ⟨_, rfl⟩
            have i594' := iinc_ok e595 (by decide) (by omega) (by omega)
            refine r_iinc [(3, .int i594), (0, .ref b), (1, .ref (gz (xG x) + 0)), (2, .ref (gz (xG x) + 114))] 3 C dL_law_929 rfl e595 (by decide) rfl ?_
            refine r_goto 18 C dL_law_932 (by decide) ?_
            refine r_lv [1, 2, 3, 0] rfl ?_
            exact ih110 i594 w588 h592 ⟨o593, o591⟩ (by omega) (by rw [(h590.I (by decide) (by decide) (h577.I (by decide) (by decide) rfl)), (h590.I (by decide) (by decide) (h577.I (by decide) (by decide) rfl))] <;> omega) (by omega)
          · refine r_tabIn 695 C dL_law_32 (by omega) (by omega) (by rw [c117]; rfl) (by decide) ?_
            refine r_aload_n 1 C dL_law_695 rfl ?_
            refine r_aload_n 0 C dL_law_696 rfl ?_
            refine r_iload_n 3 C dL_law_697 rfl ?_
            refine r_iconst (v := 1) C dL_law_698 (by decide) ?_
            refine r_iadd C dL_law_699 (fun v596 e597 => ?_)
            have v596' := iadd_ok e597 (by omega) (by omega)
            refine r_sldj (u101.toNatClampNeg + 1) C hX hbl hbz (by omega) (by omega) dL_law_700 ?_
            refine r_aload_n 0 C dL_law_701 rfl ?_
            refine r_iload_n 3 C dL_law_702 rfl ?_
            refine r_iconst (v := 2) C dL_law_703 (by decide) ?_
            refine r_iadd C dL_law_704 (fun v598 e599 => ?_)
            have v598' := iadd_ok e599 (by omega) (by omega)
            refine r_sldj (u101.toNatClampNeg + 2) C hX hbl hbz (by omega) (by omega) dL_law_705 ?_
            refine callVI C cwL_90_V (ctX10_bestWall_0 _ _ w104 (sS sC h105) o106.1 (xf (u101.toNatClampNeg + 1)) (xf (u101.toNatClampNeg + 2)) ) (by decide) (kS sC h105 kc_0) rfl rfl rfl (Nat.le_of_ble_eq_true rfl) (by decide) dL_law_706 (fun r602 w601 y600 => ?_)
            show V x 145 11604 w601 709 [(0, .ref b), (1, .ref (gz (xG x) + 0)), (2, .ref (gz (xG x) + 114)), (3, .int u101)] [.int r602]
            obtain ⟨h603, o604⟩ := y600
            have h605 := Ch.tr h105 h603 (by decide) (by decide)
            have o606 := OkM.ch o106.2 h603 (by decide) (by decide)
            refine r_pop C dL_law_709 rfl ?_
            refine r_aload_n 2 C dL_law_710 rfl ?_
            refine r_aload_n 0 C dL_law_711 rfl ?_
            refine r_iload_n 3 C dL_law_712 rfl ?_
            refine r_iconst (v := 1) C dL_law_713 (by decide) ?_
            refine r_iadd C dL_law_714 (fun v607 e608 => ?_)
            have v607' := iadd_ok e608 (by omega) (by omega)
            refine r_sldj (u101.toNatClampNeg + 1) C hX hbl hbz (by omega) (by omega) dL_law_715 ?_
            refine r_aload_n 0 C dL_law_716 rfl ?_
            refine r_iload_n 3 C dL_law_717 rfl ?_
            refine r_iconst (v := 2) C dL_law_718 (by decide) ?_
            refine r_iadd C dL_law_719 (fun v609 e610 => ?_)
            have v609' := iadd_ok e610 (by omega) (by omega)
            refine r_sldj (u101.toNatClampNeg + 2) C hX hbl hbz (by omega) (by omega) dL_law_720 ?_
            have b611 := Inv.get o106.2.1 rt_114_0 (j := 0) (by decide) (by decide)
            have b612 := Inv.get o106.2.1 rt_114_1 (j := 1) (by decide) (by decide)
            refine callVI C cwL_93_V (ctX11_bestWall _ _ w601 (sS sM h605) o606 (wI w104 114 0) (h603.I (by decide) (by decide) rfl) (by omega) (wI w104 114 1) (h603.I (by decide) (by decide) rfl) (by omega) (xf (u101.toNatClampNeg + 1)) (xf (u101.toNatClampNeg + 2)) ) (by decide) (kS sM h605 kc_114) rfl rfl rfl (Nat.le_of_ble_eq_true rfl) (by decide) dL_law_721 (fun r615 w614 y613 => ?_)
            show V x 145 11604 w614 724 [(0, .ref b), (1, .ref (gz (xG x) + 0)), (2, .ref (gz (xG x) + 114)), (3, .int u101)] [.int r615]
            obtain ⟨h616, o617⟩ := y613
            have h618 := Ch.tr h605 h616 (by decide) (by decide)
            have o619 := Inv.ch o604 h616 (by decide)
            refine r_pop C dL_law_724 rfl ?_
            refine r_goto 929 C dL_law_725 (by decide) ?_
            obtain ⟨i620, e621⟩ : ∃ z : Int32, u101 + Int32.ofInt 5 = z := ⟨_, rfl⟩
            have i620' := iinc_ok e621 (by decide) (by omega) (by omega)
            refine r_iinc [(3, .int i620), (0, .ref b), (1, .ref (gz (xG x) + 0)), (2, .ref (gz (xG x) + 114))] 3 C dL_law_929 rfl e621 (by decide) rfl ?_
            refine r_goto 18 C dL_law_932 (by decide) ?_
            refine r_lv [1, 2, 3, 0] rfl ?_
            exact ih110 i620 w614 h618 ⟨o619, o617⟩ (by omega) (by rw [(h616.I (by decide) (by decide) (h603.I (by decide) (by decide) rfl)), (h616.I (by decide) (by decide) (h603.I (by decide) (by decide) rfl))] <;> omega) (by omega)
          · refine r_tabIn 728 C dL_law_32 (by omega) (by omega) (by rw [c117]; rfl) (by decide) ?_
            refine r_aload_n 1 C dL_law_728 rfl ?_
            refine r_aload_n 0 C dL_law_729 rfl ?_
            refine r_iload_n 3 C dL_law_730 rfl ?_
            refine r_iconst (v := 1) C dL_law_731 (by decide) ?_
            refine r_iadd C dL_law_732 (fun v622 e623 => ?_)
            have v622' := iadd_ok e623 (by omega) (by omega)
            refine r_sldj (u101.toNatClampNeg + 1) C hX hbl hbz (by omega) (by omega) dL_law_733 ?_
            refine callVI C cwL_94_V (ctX10_wax_0 _ _ w104 (sS sC h105) o106.1 (xf (u101.toNatClampNeg + 1)) ) (by decide) (kS sC h105 kc_0) rfl rfl rfl (Nat.le_of_ble_eq_true rfl) (by decide) dL_law_734 (fun r626 w625 y624 => ?_)
            show V x 145 11604 w625 737 [(0, .ref b), (1, .ref (gz (xG x) + 0)), (2, .ref (gz (xG x) + 114)), (3, .int u101)] [.int r626]
            obtain ⟨h627, o628⟩ := y624
            have h629 := Ch.tr h105 h627 (by decide) (by decide)
            have o630 := OkM.ch o106.2 h627 (by decide) (by decide)
            refine r_pop C dL_law_737 rfl ?_
            refine r_aload_n 2 C dL_law_738 rfl ?_
            refine r_aload_n 0 C dL_law_739 rfl ?_
            refine r_iload_n 3 C dL_law_740 rfl ?_
            refine r_iconst (v := 1) C dL_law_741 (by decide) ?_
            refine r_iadd C dL_law_742 (fun v631 e632 => ?_)
            have v631' := iadd_ok e632 (by omega) (by omega)
            refine r_sldj (u101.toNatClampNeg + 1) C hX hbl hbz (by omega) (by omega) dL_law_743 ?_
            refine callVI C cwL_97_V (ctX11_wax _ _ w625 (sS sM h629) o630 (xf (u101.toNatClampNeg + 1)) ) (by decide) (kS sM h629 kc_114) rfl rfl rfl (Nat.le_of_ble_eq_true rfl) (by decide) dL_law_744 (fun r635 w634 y633 => ?_)
            show V x 145 11604 w634 747 [(0, .ref b), (1, .ref (gz (xG x) + 0)), (2, .ref (gz (xG x) + 114)), (3, .int u101)] [.int r635]
            obtain ⟨h636, o637⟩ := y633
            have h638 := Ch.tr h629 h636 (by decide) (by decide)
            have o639 := Inv.ch o628 h636 (by decide)
            refine r_pop C dL_law_747 rfl ?_
            refine r_goto 929 C dL_law_748 (by decide) ?_
            obtain ⟨i640, e641⟩ : ∃ z : Int32, u101 + Int32.ofInt 5 = z := ⟨_, rfl⟩
            have i640' := iinc_ok e641 (by decide) (by omega) (by omega)
            refine r_iinc [(3, .int i640), (0, .ref b), (1, .ref (gz (xG x) + 0)), (2, .ref (gz (xG x) + 114))] 3 C dL_law_929 rfl e641 (by decide) rfl ?_
            refine r_goto 18 C dL_law_932 (by decide) ?_
            refine r_lv [1, 2, 3, 0] rfl ?_
            exact ih110 i640 w634 h638 ⟨o639, o637⟩ (by omega) (by rw [(h636.I (by decide) (by decide) (h627.I (by decide) (by decide) rfl)), (h636.I (by decide) (by decide) (h627.I (by decide) (by decide) rfl))] <;> omega) (by omega)
          · refine r_tabIn 751 C dL_law_32 (by omega) (by omega) (by rw [c117]; rfl) (by decide) ?_
            refine r_aload_n 1 C dL_law_751 rfl ?_
            refine r_aload_n 0 C dL_law_752 rfl ?_
            refine r_iload_n 3 C dL_law_753 rfl ?_
            refine r_iconst (v := 1) C dL_law_754 (by decide) ?_
            refine r_iadd C dL_law_755 (fun v642 e643 => ?_)
            have v642' := iadd_ok e643 (by omega) (by omega)
            refine r_sldj (u101.toNatClampNeg + 1) C hX hbl hbz (by omega) (by omega) dL_law_756 ?_
            refine r_aload_n 0 C dL_law_757 rfl ?_
            refine r_iload_n 3 C dL_law_758 rfl ?_
            refine r_iconst (v := 2) C dL_law_759 (by decide) ?_
            refine r_iadd C dL_law_760 (fun v644 e645 => ?_)
            have v644' := iadd_ok e645 (by omega) (by omega)
            refine r_sldj (u101.toNatClampNeg + 2) C hX hbl hbz (by omega) (by omega) dL_law_761 ?_
            refine r_aload_n 0 C dL_law_762 rfl ?_
            refine r_iload_n 3 C dL_law_763 rfl ?_
            refine r_iconst (v := 3) C dL_law_764 (by decide) ?_
            refine r_iadd C dL_law_765 (fun v646 e647 => ?_)
            have v646' := iadd_ok e647 (by omega) (by omega)
            refine r_sldj (u101.toNatClampNeg + 3) C hX hbl hbz (by omega) (by omega) dL_law_766 ?_
            refine r_aload_n 0 C dL_law_767 rfl ?_
            refine r_iload_n 3 C dL_law_768 rfl ?_
            refine r_iconst (v := 4) C dL_law_769 (by decide) ?_
            refine r_iadd C dL_law_770 (fun v648 e649 => ?_)
            have v648' := iadd_ok e649 (by omega) (by omega)
            refine r_sldj (u101.toNatClampNeg + 4) C hX hbl hbz (by omega) (by omega) dL_law_771 ?_
            refine callVI C cwL_98_V (ctX10_see_0 _ _ w104 (sS sC h105) o106.1 (xf (u101.toNatClampNeg + 1)) (xf (u101.toNatClampNeg + 2)) (xf (u101.toNatClampNeg + 3)) (xf (u101.toNatClampNeg + 4)) ) (by decide) (kS sC h105 kc_0) rfl rfl rfl (Nat.le_of_ble_eq_true rfl) (by decide) dL_law_772 (fun r652 w651 y650 => ?_)
            show V x 145 11604 w651 775 [(0, .ref b), (1, .ref (gz (xG x) + 0)), (2, .ref (gz (xG x) + 114)), (3, .int u101)] [.int r652]
            obtain ⟨h653, o654⟩ := y650
            have h655 := Ch.tr h105 h653 (by decide) (by decide)
            have o656 := OkM.ch o106.2 h653 (by decide) (by decide)
            refine r_pop C dL_law_775 rfl ?_
            refine r_aload_n 2 C dL_law_776 rfl ?_
            refine r_aload_n 0 C dL_law_777 rfl ?_
            refine r_iload_n 3 C dL_law_778 rfl ?_
            refine r_iconst (v := 1) C dL_law_779 (by decide) ?_
            refine r_iadd C dL_law_780 (fun v657 e658 => ?_)
            have v657' := iadd_ok e658 (by omega) (by omega)
            refine r_sldj (u101.toNatClampNeg + 1) C hX hbl hbz (by omega) (by omega) dL_law_781 ?_
            refine r_aload_n 0 C dL_law_782 rfl ?_
            refine r_iload_n 3 C dL_law_783 rfl ?_
            refine r_iconst (v := 2) C dL_law_784 (by decide) ?_
            refine r_iadd C dL_law_785 (fun v659 e660 => ?_)
            have v659' := iadd_ok e660 (by omega) (by omega)
            refine r_sldj (u101.toNatClampNeg + 2) C hX hbl hbz (by omega) (by omega) dL_law_786 ?_
            refine r_aload_n 0 C dL_law_787 rfl ?_
            refine r_iload_n 3 C dL_law_788 rfl ?_
            refine r_iconst (v := 3) C dL_law_789 (by decide) ?_
            refine r_iadd C dL_law_790 (fun v661 e662 => ?_)
            have v661' := iadd_ok e662 (by omega) (by omega)
            refine r_sldj (u101.toNatClampNeg + 3) C hX hbl hbz (by omega) (by omega) dL_law_791 ?_
            refine r_aload_n 0 C dL_law_792 rfl ?_
            refine r_iload_n 3 C dL_law_793 rfl ?_
            refine r_iconst (v := 4) C dL_law_794 (by decide) ?_
            refine r_iadd C dL_law_795 (fun v663 e664 => ?_)
            have v663' := iadd_ok e664 (by omega) (by omega)
            refine r_sldj (u101.toNatClampNeg + 4) C hX hbl hbz (by omega) (by omega) dL_law_796 ?_
            have b665 := Inv.get o106.2.1 rt_114_0 (j := 0) (by decide) (by decide)
            have b666 := Inv.get o106.2.1 rt_114_1 (j := 1) (by decide) (by decide)
            refine callVI C cwL_101_V (ctX11_see _ _ w651 (sS sM h655) o656 (wI w104 114 0) (h653.I (by decide) (by decide) rfl) (by omega) (wI w104 114 1) (h653.I (by decide) (by decide) rfl) (by omega) (xf (u101.toNatClampNeg + 1)) (xf (u101.toNatClampNeg + 2)) (xf (u101.toNatClampNeg + 3)) (xf (u101.toNatClampNeg + 4)) ) (by decide) (kS sM h655 kc_114) rfl rfl rfl (Nat.le_of_ble_eq_true rfl) (by decide) dL_law_797 (fun r669 w668 y667 => ?_)
            show V x 145 11604 w668 800 [(0, .ref b), (1, .ref (gz (xG x) + 0)), (2, .ref (gz (xG x) + 114)), (3, .int u101)] [.int r669]
            obtain ⟨h670, o671⟩ := y667
            have h672 := Ch.tr h655 h670 (by decide) (by decide)
            have o673 := Inv.ch o654 h670 (by decide)
            refine r_pop C dL_law_800 rfl ?_
            refine r_goto 929 C dL_law_801 (by decide) ?_
            obtain ⟨i674, e675⟩ : ∃ z : Int32, u101 + Int32.ofInt 5 = z := ⟨_, rfl⟩
            have i674' := iinc_ok e675 (by decide) (by omega) (by omega)
            refine r_iinc [(3, .int i674), (0, .ref b), (1, .ref (gz (xG x) + 0)), (2, .ref (gz (xG x) + 114))] 3 C dL_law_929 rfl e675 (by decide) rfl ?_
            refine r_goto 18 C dL_law_932 (by decide) ?_
            refine r_lv [1, 2, 3, 0] rfl ?_
            exact ih110 i674 w668 h672 ⟨o673, o671⟩ (by omega) (by rw [(h670.I (by decide) (by decide) (h653.I (by decide) (by decide) rfl)), (h670.I (by decide) (by decide) (h653.I (by decide) (by decide) rfl))] <;> omega) (by omega)
          · refine r_tabIn 804 C dL_law_32 (by omega) (by omega) (by rw [c117]; rfl) (by decide) ?_
            refine r_aload_n 1 C dL_law_804 rfl ?_
            refine r_aload_n 0 C dL_law_805 rfl ?_
            refine r_iload_n 3 C dL_law_806 rfl ?_
            refine r_iconst (v := 1) C dL_law_807 (by decide) ?_
            refine r_iadd C dL_law_808 (fun v676 e677 => ?_)
            have v676' := iadd_ok e677 (by omega) (by omega)
            refine r_sldj (u101.toNatClampNeg + 1) C hX hbl hbz (by omega) (by omega) dL_law_809 ?_
            refine r_aload_n 0 C dL_law_810 rfl ?_
            refine r_iload_n 3 C dL_law_811 rfl ?_
            refine r_iconst (v := 2) C dL_law_812 (by decide) ?_
            refine r_iadd C dL_law_813 (fun v678 e679 => ?_)
            have v678' := iadd_ok e679 (by omega) (by omega)
            refine r_sldj (u101.toNatClampNeg + 2) C hX hbl hbz (by omega) (by omega) dL_law_814 ?_
            refine r_aload_n 0 C dL_law_815 rfl ?_
            refine r_iload_n 3 C dL_law_816 rfl ?_
            refine r_iconst (v := 3) C dL_law_817 (by decide) ?_
            refine r_iadd C dL_law_818 (fun v680 e681 => ?_)
            have v680' := iadd_ok e681 (by omega) (by omega)
            refine r_sldj (u101.toNatClampNeg + 3) C hX hbl hbz (by omega) (by omega) dL_law_819 ?_
            refine callVI C cwL_102_V (ctX10_walks_0 _ _ w104 (sS sC h105) o106.1 (xf (u101.toNatClampNeg + 1)) (xf (u101.toNatClampNeg + 2)) (xf (u101.toNatClampNeg + 3)) ) (by decide) (kS sC h105 kc_0) rfl rfl rfl (Nat.le_of_ble_eq_true rfl) (by decide) dL_law_820 (fun r684 w683 y682 => ?_)
            show V x 145 11604 w683 823 [(0, .ref b), (1, .ref (gz (xG x) + 0)), (2, .ref (gz (xG x) + 114)), (3, .int u101)] [.int r684]
            obtain ⟨h685, o686⟩ := y682
            have h687 := Ch.tr h105 h685 (by decide) (by decide)
            have o688 := OkM.ch o106.2 h685 (by decide) (by decide)
            refine r_pop C dL_law_823 rfl ?_
            refine r_aload_n 2 C dL_law_824 rfl ?_
            refine r_aload_n 0 C dL_law_825 rfl ?_
            refine r_iload_n 3 C dL_law_826 rfl ?_
            refine r_iconst (v := 1) C dL_law_827 (by decide) ?_
            refine r_iadd C dL_law_828 (fun v689 e690 => ?_)
            have v689' := iadd_ok e690 (by omega) (by omega)
            refine r_sldj (u101.toNatClampNeg + 1) C hX hbl hbz (by omega) (by omega) dL_law_829 ?_
            refine r_aload_n 0 C dL_law_830 rfl ?_
            refine r_iload_n 3 C dL_law_831 rfl ?_
            refine r_iconst (v := 2) C dL_law_832 (by decide) ?_
            refine r_iadd C dL_law_833 (fun v691 e692 => ?_)
            have v691' := iadd_ok e692 (by omega) (by omega)
            refine r_sldj (u101.toNatClampNeg + 2) C hX hbl hbz (by omega) (by omega) dL_law_834 ?_
            refine r_aload_n 0 C dL_law_835 rfl ?_
            refine r_iload_n 3 C dL_law_836 rfl ?_
            refine r_iconst (v := 3) C dL_law_837 (by decide) ?_
            refine r_iadd C dL_law_838 (fun v693 e694 => ?_)
            have v693' := iadd_ok e694 (by omega) (by omega)
            refine r_sldj (u101.toNatClampNeg + 3) C hX hbl hbz (by omega) (by omega) dL_law_839 ?_
            refine callVI C cwL_105_V (ctX11_walks _ _ w683 (sS sM h687) o688 (xf (u101.toNatClampNeg + 1)) (xf (u101.toNatClampNeg + 2)) (xf (u101.toNatClampNeg + 3)) ) (by decide) (kS sM h687 kc_114) rfl rfl rfl (Nat.le_of_ble_eq_true rfl) (by decide) dL_law_840 (fun r697 w696 y695 => ?_)
            show V x 145 11604 w696 843 [(0, .ref b), (1, .ref (gz (xG x) + 0)), (2, .ref (gz (xG x) + 114)), (3, .int u101)] [.int r697]
            obtain ⟨h698, o699⟩ := y695
            have h700 := Ch.tr h687 h698 (by decide) (by decide)
            have o701 := Inv.ch o686 h698 (by decide)
            refine r_pop C dL_law_843 rfl ?_
            refine r_goto 929 C dL_law_844 (by decide) ?_
            obtain ⟨i702, e703⟩ : ∃ z : Int32, u101 + Int32.ofInt 5 = z := ⟨_, rfl⟩
            have i702' := iinc_ok e703 (by decide) (by omega) (by omega)
            refine r_iinc [(3, .int i702), (0, .ref b), (1, .ref (gz (xG x) + 0)), (2, .ref (gz (xG x) + 114))] 3 C dL_law_929 rfl e703 (by decide) rfl ?_
            refine r_goto 18 C dL_law_932 (by decide) ?_
            refine r_lv [1, 2, 3, 0] rfl ?_
            exact ih110 i702 w696 h700 ⟨o701, o699⟩ (by omega) (by rw [(h698.I (by decide) (by decide) (h685.I (by decide) (by decide) rfl)), (h698.I (by decide) (by decide) (h685.I (by decide) (by decide) rfl))] <;> omega) (by omega)
          · refine r_tabIn 847 C dL_law_32 (by omega) (by omega) (by rw [c117]; rfl) (by decide) ?_
            refine r_aload_n 1 C dL_law_847 rfl ?_
            refine callVI C cwL_106_V (ctX10_tear_0 _ _ w104 (sS sC h105) o106.1  ) (by decide) (kS sC h105 kc_0) rfl rfl rfl (Nat.le_of_ble_eq_true rfl) (by decide) dL_law_848 (fun r706 w705 y704 => ?_)
            show V x 145 11604 w705 851 [(0, .ref b), (1, .ref (gz (xG x) + 0)), (2, .ref (gz (xG x) + 114)), (3, .int u101)] [.int r706]
            obtain ⟨h707, o708⟩ := y704
            have h709 := Ch.tr h105 h707 (by decide) (by decide)
            have o710 := OkM.ch o106.2 h707 (by decide) (by decide)
            refine r_pop C dL_law_851 rfl ?_
            refine r_aload_n 2 C dL_law_852 rfl ?_
            refine callVI C cwL_109_V (ctX11_tear _ _ w705 (sS sM h709) o710  ) (by decide) (kS sM h709 kc_114) rfl rfl rfl (Nat.le_of_ble_eq_true rfl) (by decide) dL_law_853 (fun r713 w712 y711 => ?_)
            show V x 145 11604 w712 856 [(0, .ref b), (1, .ref (gz (xG x) + 0)), (2, .ref (gz (xG x) + 114)), (3, .int u101)] [.int r713]
            obtain ⟨h714, o715⟩ := y711
            have h716 := Ch.tr h709 h714 (by decide) (by decide)
            have o717 := Inv.ch o708 h714 (by decide)
            refine r_pop C dL_law_856 rfl ?_
            refine r_goto 929 C dL_law_857 (by decide) ?_
            obtain ⟨i718, e719⟩ : ∃ z : Int32, u101 + Int32.ofInt 5 = z := ⟨_, rfl⟩
            have i718' := iinc_ok e719 (by decide) (by omega) (by omega)
            refine r_iinc [(3, .int i718), (0, .ref b), (1, .ref (gz (xG x) + 0)), (2, .ref (gz (xG x) + 114))] 3 C dL_law_929 rfl e719 (by decide) rfl ?_
            refine r_goto 18 C dL_law_932 (by decide) ?_
            refine r_lv [1, 2, 3, 0] rfl ?_
            exact ih110 i718 w712 h716 ⟨o717, o715⟩ (by omega) (by rw [(h714.I (by decide) (by decide) (h707.I (by decide) (by decide) rfl)), (h714.I (by decide) (by decide) (h707.I (by decide) (by decide) rfl))] <;> omega) (by omega)
          · refine r_tabIn 860 C dL_law_32 (by omega) (by omega) (by rw [c117]; rfl) (by decide) ?_
            refine r_aload_n 1 C dL_law_860 rfl ?_
            refine r_aload_n 0 C dL_law_861 rfl ?_
            refine r_iload_n 3 C dL_law_862 rfl ?_
            refine r_iconst (v := 1) C dL_law_863 (by decide) ?_
            refine r_iadd C dL_law_864 (fun v720 e721 => ?_)
            have v720' := iadd_ok e721 (by omega) (by omega)
            refine r_sldj (u101.toNatClampNeg + 1) C hX hbl hbz (by omega) (by omega) dL_law_865 ?_
            refine callVI C cwL_110_V (ctX10_seed_0 _ _ w104 (sS sC h105) o106.1 (xf (u101.toNatClampNeg + 1)) ) (by decide) (kS sC h105 kc_0) rfl rfl rfl (Nat.le_of_ble_eq_true rfl) (by decide) dL_law_866 (fun r724 w723 y722 => ?_)
            show V x 145 11604 w723 869 [(0, .ref b), (1, .ref (gz (xG x) + 0)), (2, .ref (gz (xG x) + 114)), (3, .int u101)] [.int r724]
            obtain ⟨h725, o726⟩ := y722
            have h727 := Ch.tr h105 h725 (by decide) (by decide)
            have o728 := OkM.ch o106.2 h725 (by decide) (by decide)
            refine r_pop C dL_law_869 rfl ?_
            refine r_aload_n 2 C dL_law_870 rfl ?_
            refine r_aload_n 0 C dL_law_871 rfl ?_
            refine r_iload_n 3 C dL_law_872 rfl ?_
            refine r_iconst (v := 1) C dL_law_873 (by decide) ?_
            refine r_iadd C dL_law_874 (fun v729 e730 => ?_)
            have v729' := iadd_ok e730 (by omega) (by omega)
            refine r_sldj (u101.toNatClampNeg + 1) C hX hbl hbz (by omega) (by omega) dL_law_875 ?_
            refine callVI C cwL_113_V (ctX11_seed _ _ w723 (sS sM h727) o728 (xf (u101.toNatClampNeg + 1)) ) (by decide) (kS sM h727 kc_114) rfl rfl rfl (Nat.le_of_ble_eq_true rfl) (by decide) dL_law_876 (fun r733 w732 y731 => ?_)
            show V x 145 11604 w732 879 [(0, .ref b), (1, .ref (gz (xG x) + 0)), (2, .ref (gz (xG x) + 114)), (3, .int u101)] [.int r733]
            obtain ⟨h734, o735⟩ := y731
            have h736 := Ch.tr h727 h734 (by decide) (by decide)
            have o737 := Inv.ch o726 h734 (by decide)
            refine r_pop C dL_law_879 rfl ?_
            refine r_goto 929 C dL_law_880 (by decide) ?_
            obtain ⟨i738, e739⟩ : ∃ z : Int32, u101 + Int32.ofInt 5 = z := ⟨_, rfl⟩
            have i738' := iinc_ok e739 (by decide) (by omega) (by omega)
            refine r_iinc [(3, .int i738), (0, .ref b), (1, .ref (gz (xG x) + 0)), (2, .ref (gz (xG x) + 114))] 3 C dL_law_929 rfl e739 (by decide) rfl ?_
            refine r_goto 18 C dL_law_932 (by decide) ?_
            refine r_lv [1, 2, 3, 0] rfl ?_
            exact ih110 i738 w732 h736 ⟨o737, o735⟩ (by omega) (by rw [(h734.I (by decide) (by decide) (h725.I (by decide) (by decide) rfl)), (h734.I (by decide) (by decide) (h725.I (by decide) (by decide) rfl))] <;> omega) (by omega)
          · refine r_tabIn 883 C dL_law_32 (by omega) (by omega) (by rw [c117]; rfl) (by decide) ?_
            refine r_aload_n 1 C dL_law_883 rfl ?_
            refine r_aload_n 0 C dL_law_884 rfl ?_
            refine r_iload_n 3 C dL_law_885 rfl ?_
            refine r_iconst (v := 1) C dL_law_886 (by decide) ?_
            refine r_iadd C dL_law_887 (fun v740 e741 => ?_)
            have v740' := iadd_ok e741 (by omega) (by omega)
            refine r_sldj (u101.toNatClampNeg + 1) C hX hbl hbz (by omega) (by omega) dL_law_888 ?_
            refine callVI C cwL_114_V (ctX10_keep_0 _ _ w104 (sS sC h105) o106.1 (xf (u101.toNatClampNeg + 1)) ) (by decide) (kS sC h105 kc_0) rfl rfl rfl (Nat.le_of_ble_eq_true rfl) (by decide) dL_law_889 (fun r744 w743 y742 => ?_)
            show V x 145 11604 w743 892 [(0, .ref b), (1, .ref (gz (xG x) + 0)), (2, .ref (gz (xG x) + 114)), (3, .int u101)] [.int r744]
            obtain ⟨h745, o746, g747⟩ := y742
            have h748 := Ch.tr h105 h745 (by decide) (by decide)
            have o749 := OkM.ch o106.2 h745 (by decide) (by decide)
            refine r_pop C dL_law_892 rfl ?_
            refine r_aload_n 2 C dL_law_893 rfl ?_
            refine r_aload_n 0 C dL_law_894 rfl ?_
            refine r_iload_n 3 C dL_law_895 rfl ?_
            refine r_iconst (v := 1) C dL_law_896 (by decide) ?_
            refine r_iadd C dL_law_897 (fun v750 e751 => ?_)
            have v750' := iadd_ok e751 (by omega) (by omega)
            refine r_sldj (u101.toNatClampNeg + 1) C hX hbl hbz (by omega) (by omega) dL_law_898 ?_
            refine callVI C cwL_117_V (ctX11_keep _ _ w743 (sS sM h748) o749 (xf (u101.toNatClampNeg + 1)) ) (by decide) (kS sM h748 kc_114) rfl rfl rfl (Nat.le_of_ble_eq_true rfl) (by decide) dL_law_899 (fun r754 w753 y752 => ?_)
            show V x 145 11604 w753 902 [(0, .ref b), (1, .ref (gz (xG x) + 0)), (2, .ref (gz (xG x) + 114)), (3, .int u101)] [.int r754]
            obtain ⟨h755, o756, g757⟩ := y752
            have h758 := Ch.tr h748 h755 (by decide) (by decide)
            have o759 := Inv.ch o746 h755 (by decide)
            refine r_pop C dL_law_902 rfl ?_
            refine r_goto 929 C dL_law_903 (by decide) ?_
            obtain ⟨i760, e761⟩ : ∃ z : Int32, u101 + Int32.ofInt 5 = z := ⟨_, rfl⟩
            have i760' := iinc_ok e761 (by decide) (by omega) (by omega)
            refine r_iinc [(3, .int i760), (0, .ref b), (1, .ref (gz (xG x) + 0)), (2, .ref (gz (xG x) + 114))] 3 C dL_law_929 rfl e761 (by decide) rfl ?_
            refine r_goto 18 C dL_law_932 (by decide) ?_
            refine r_lv [1, 2, 3, 0] rfl ?_
            exact ih110 i760 w753 h758 ⟨o759, o756⟩ (by omega) (by rw [(h755.I (by decide) (by decide) (h745.I (by decide) (by decide) rfl)), (h755.I (by decide) (by decide) (h745.I (by decide) (by decide) rfl))] <;> omega) (by omega)
          · refine r_tabIn 906 C dL_law_32 (by omega) (by omega) (by rw [c117]; rfl) (by decide) ?_
            refine r_aload_n 1 C dL_law_906 rfl ?_
            refine r_aload_n 0 C dL_law_907 rfl ?_
            refine r_iload_n 3 C dL_law_908 rfl ?_
            refine r_iconst (v := 1) C dL_law_909 (by decide) ?_
            refine r_iadd C dL_law_910 (fun v762 e763 => ?_)
            have v762' := iadd_ok e763 (by omega) (by omega)
            refine r_sldj (u101.toNatClampNeg + 1) C hX hbl hbz (by omega) (by omega) dL_law_911 ?_
            refine callVI C cwL_118_V (ctX10_goBack_0 _ _ w104 (sS sC h105) o106.1 (xf (u101.toNatClampNeg + 1)) ) (by decide) (kS sC h105 kc_0) rfl rfl rfl (Nat.le_of_ble_eq_true rfl) (by decide) dL_law_912 (fun r766 w765 y764 => ?_)
            show V x 145 11604 w765 915 [(0, .ref b), (1, .ref (gz (xG x) + 0)), (2, .ref (gz (xG x) + 114)), (3, .int u101)] [.int r766]
            obtain ⟨h767, o768⟩ := y764
            have h769 := Ch.tr h105 h767 (by decide) (by decide)
            have o770 := OkM.ch o106.2 h767 (by decide) (by decide)
            refine r_pop C dL_law_915 rfl ?_
            refine r_aload_n 2 C dL_law_916 rfl ?_
            refine r_aload_n 0 C dL_law_917 rfl ?_
            refine r_iload_n 3 C dL_law_918 rfl ?_
            refine r_iconst (v := 1) C dL_law_919 (by decide) ?_
            refine r_iadd C dL_law_920 (fun v771 e772 => ?_)
            have v771' := iadd_ok e772 (by omega) (by omega)
            refine r_sldj (u101.toNatClampNeg + 1) C hX hbl hbz (by omega) (by omega) dL_law_921 ?_
            refine callVI C cwL_121_V (ctX11_goBack _ _ w765 (sS sM h769) o770 (xf (u101.toNatClampNeg + 1)) ) (by decide) (kS sM h769 kc_114) rfl rfl rfl (Nat.le_of_ble_eq_true rfl) (by decide) dL_law_922 (fun r775 w774 y773 => ?_)
            show V x 145 11604 w774 925 [(0, .ref b), (1, .ref (gz (xG x) + 0)), (2, .ref (gz (xG x) + 114)), (3, .int u101)] [.int r775]
            obtain ⟨h776, o777⟩ := y773
            have h778 := Ch.tr h769 h776 (by decide) (by decide)
            have o779 := Inv.ch o768 h776 (by decide)
            refine r_pop C dL_law_925 rfl ?_
            refine r_goto 929 C dL_law_926 (by decide) ?_
            obtain ⟨i780, e781⟩ : ∃ z : Int32, u101 + Int32.ofInt 5 = z := ⟨_, rfl⟩
            have i780' := iinc_ok e781 (by decide) (by omega) (by omega)
            refine r_iinc [(3, .int i780), (0, .ref b), (1, .ref (gz (xG x) + 0)), (2, .ref (gz (xG x) + 114))] 3 C dL_law_929 rfl e781 (by decide) rfl ?_
            refine r_goto 18 C dL_law_932 (by decide) ?_
            refine r_lv [1, 2, 3, 0] rfl ?_
            exact ih110 i780 w774 h778 ⟨o779, o777⟩ (by omega) (by rw [(h776.I (by decide) (by decide) (h767.I (by decide) (by decide) rfl)), (h776.I (by decide) (by decide) (h767.I (by decide) (by decide) rfl))] <;> omega) (by omega)
  refine r_iconst (v := 0) C dL_law_16 (by decide) ?_
  refine r_istore_n [(3, .int 0), (2, .ref (gz (xG x) + 114)), (1, .ref (gz (xG x) + 0)), (0, .ref b)] C dL_law_17 (by decide) rfl ?_
  refine r_lv [3, 2, 1, 0] rfl ?_
  exact LP102 4294967296 0 w3 h0 ⟨oC3, oM3⟩ (by omega) (by rw [g1, g2] <;> omega) (by omega)
