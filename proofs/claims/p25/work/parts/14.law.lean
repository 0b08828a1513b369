def VM : Wv := nX11 (addK WC112 (11, .inl fX11)) 114 115
theorem strC_M : Str KC XC VM := ⟨by decide +kernel, by decide +kernel⟩
theorem strM_M : Str KM XM VM := ⟨by decide +kernel, by decide +kernel⟩
theorem okM_M : OkM VM := ⟨Inv.dec (by decide +kernel), by unfold Rel; decide +kernel⟩
set_option maxHeartbeats 4000000 in
set_option maxRecDepth 100000 in
theorem law_walk (x : Ct) (b Ls : Nat) (xf : Nat → Int32) (C : Cx x cL_law 4 RL room_1) (hX : va_X b Ls xf (xs x) (xs x).heap) (hbl : b < (xs x).heap.size) (hbz : b < gz (xG x)) (hL : Ls ≤ 320) (hret : ∀ (cells slots : Nat) (w : Wv) (pc : Nat) (lv : List (Nat × Value)), decode cL_law pc = .ok (.ireturn, 1) → cells ≤ 600000 → slots ≤ 7302250 → V x cells slots w pc lv [.int 1]) : V x 0 0 w00 0 [(0, .ref b)] [] := by
  obtain ⟨n0, hn0⟩ : ∃ z : Int32, z = Int32.ofNat Ls := ⟨_, rfl⟩
  have n0' : n0.toInt = (Ls : Int) := by rw [hn0]; exact nI_toInt (by omega)
  have q0 : (0 : Int32).toInt = 0 := by decide
  have q1 : (1 : Int32).toInt = 1 := by decide
  have q2 : (2 : Int32).toInt = 2 := by decide
  have q3 : (3 : Int32).toInt = 3 := by decide
  have q4 : (4 : Int32).toInt = 4 := by decide
  have q5 : (5 : Int32).toInt = 5 := by decide
  have q31 : (31 : Int32).toInt = 31 := by decide
  have q32 : (32 : Int32).toInt = 32 := by decide
  have ql4294967295 : (4294967295 : Int64).toInt = 4294967295 := by decide
  refine r_new (ci := 10) C rfl inX10 tyX10 tyX10_ok mw1_18 mw1_19 mw1_1 fX10 dfX10 (by decide) (by decide) dL_law_0 (fun w0 e0 => ?_)
  rw [show (wK w00).length = 0 from rfl]
  subst e0; show V x 1 15 WC0 3 [(0, .ref b)] [.ref (gz (xG x) + 0)]
  refine r_dup C dL_law_3 rfl ?_
  refine callIV C cwL_9_I (cnX10_0 _ _) (by decide) rfl rfl (Nat.le_of_ble_eq_true rfl) (by decide) dL_law_4 (fun w1 y1 => ?_)
  show V x 114 8864 w1 7 [(0, .ref b)] [.ref (gz (xG x) + 0)]
  obtain ⟨h1, oC1⟩ := y1
  refine r_astore_n [(1, .ref (gz (xG x) + 0)), (0, .ref b)] C dL_law_7 (by decide) rfl ?_
  have l1 : (wK w1).length = 114 := by rw [h1.1]; decide +kernel
  refine r_new (ci := 11) C rfl inX11 tyX11 tyX11_ok mw5_50 mw5_51 mw1_13 fX11 dfX11 (by decide) (by decide) dL_law_8 (fun w2 e2 => ?_)
  rw [l1]
  show V x 115 8922 w2 11 [(1, .ref (gz (xG x) + 0)), (0, .ref b)] [.ref (gz (xG x) + 114)]
  refine r_dup C dL_law_11 rfl ?_
  have l2 : (wK w2).length = 115 := len_add e2 l1
  have k2 : (wK w2)[114]? = some (11, .inl fX11) := by subst e2; show (wK w1 ++ [_])[114]? = _; rw [List.getElem?_append_right (by rw [l1]; exact Nat.le_refl _), l1]; rfl
  refine callIV C cwL_12_I (cnX11 _ _ w2 114 115 k2 l2) (by decide) rfl rfl (Nat.le_of_ble_eq_true rfl) (by decide) dL_law_12 (fun w3 e3 => ?_)
  show V x 145 11604 w3 15 [(1, .ref (gz (xG x) + 0)), (0, .ref b)] [.ref (gz (xG x) + 114)]
  have h3 : Ch [22, 23, 24, 26, 29, 30, 31, 33, 36, 37] [(21, 0), (21, 2), (21, 3), (28, 0), (28, 2), (28, 3), (35, 0), (35, 1), (44, 0), (47, 0), (55, 7), (104, 0), (109, 0)] VM w3 := by subst e3; subst e2; exact ((((((((((((((((((((((((((((((((((((((((((((((((((((((((((((((((h1.cAdd).cAdd).cX).cAdd).cX).cAdd).cX).cAdd).cX).cAdd).cX).cAdd).cX).cAdd).cX).cI).cI).cAdd).cX).cAdd).cX).cAdd).cX).cAdd).cX).cI).cAdd).cX).cAdd).cX).cAdd).cX).cAdd).cX).cAdd).cX).cAdd).cX).cAdd).cX).cAdd).cX).cAdd).cX).cAdd).cX).cAdd).cX).cAdd).cX).cAdd).cX).cAdd).cX).cAdd).cX).cAdd).cX).cAdd).cX).cAdd).cX).cAdd).cX).cI
  have lo : Lo 114 w1 w3 := by subst e3; subst e2; exact (((((((((((((((((((((((((((((((((((((((((((((((((((((((((((((((((Lo.rf (N := 114) (L := 114) l1 (Nat.le_refl _)).cAdd).cAdd).cX).cAdd).cX).cAdd).cX).cAdd).cX).cAdd).cX).cAdd).cX).cAdd).cX).cI (by decide)).cI (by decide)).cAdd).cX).cAdd).cX).cAdd).cX).cAdd).cX).cI (by decide)).cAdd).cX).cAdd).cX).cAdd).cX).cAdd).cX).cAdd).cX).cAdd).cX).cAdd).cX).cAdd).cX).cAdd).cX).cAdd).cX).cAdd).cX).cAdd).cX).cAdd).cX).cAdd).cX).cAdd).cX).cAdd).cX).cAdd).cX).cAdd).cX).cAdd).cX).cI (by decide)
  have sC := sS strC_M h3
  have sM := sS strM_M h3
  have oC3 : Inv RC w3 := Inv.lo oC1 lo (by decide)
  have oM3 : OkM w3 := OkM.ch okM_M h3 (by decide) (by decide)
  have g1 : wI w3 1 0 = 0 := (lo.2 1 (by decide) 0).trans (h1.I (by decide) (by decide) (by decide +kernel))
  have g2 : wI w3 114 20 = 0 := h3.I (by decide) (by decide) (by decide +kernel)
  clear h1 oC1 l1 l2 k2 lo e3
  have h0 : Ch [2, 4, 5, 6, 7, 8, 9, 10, 11, 13, 14, 15, 16, 17, 18, 19, 20, 22, 23, 24, 25, 26, 27, 29, 30, 31, 32, 33, 34, 36, 37, 39, 40, 42, 43, 45, 46, 48, 49, 50, 52, 53, 54, 57, 58, 60, 61, 63, 64, 66, 67, 69, 70, 72, 73, 75, 76, 78, 79, 82, 83, 84, 86, 87, 89, 90, 92, 93, 95, 96, 98, 99, 101, 102, 105, 107, 108, 110, 112, 113, 115, 116, 117, 118, 119, 120, 121, 122, 123, 124, 125, 126, 127, 128, 129, 130, 131, 132, 133, 134, 135, 136, 137, 138, 139, 140, 141, 142, 143, 144] [(0, 14), (1, 0), (1, 1), (1, 2), (1, 4), (1, 5), (3, 0), (3, 1), (3, 2), (3, 3), (3, 4), (3, 5), (3, 6), (3, 7), (3, 8), (12, 0), (12, 1), (12, 2), (12, 3), (12, 4), (12, 5), (12, 6), (12, 7), (12, 8), (21, 0), (21, 2), (21, 3), (28, 0), (28, 2), (28, 3), (35, 0), (35, 1), (38, 0), (38, 1), (41, 0), (41, 1), (44, 0), (47, 0), (55, 0), (55, 7), (55, 8), (55, 9), (59, 0), (59, 1), (62, 0), (62, 1), (65, 0), (65, 1), (68, 0), (68, 1), (71, 0), (71, 1), (74, 0), (74, 1), (77, 0), (77, 1), (80, 0), (80, 8), (80, 9), (80, 10), (80, 11), (85, 0), (85, 1), (88, 0), (88, 1), (91, 0), (91, 1), (94, 0), (94, 1), (97, 0), (97, 1), (100, 0), (100, 1), (104, 0), (104, 1), (106, 0), (106, 1), (109, 0), (109, 1), (111, 0), (111, 1), (114, 0), (114, 1), (114, 3), (114, 8), (114, 11), (114, 12), (114, 13), (114, 17), (114, 18), (114, 20), (114, 21), (114, 22), (114, 23), (114, 24), (114, 25), (114, 26), (114, 27), (114, 28), (114, 30), (114, 31), (114, 37), (114, 40), (114, 41), (114, 42), (114, 43), (114, 45), (114, 49), (114, 52)] w3 w3 := Ch.rf
  refine r_astore_n [(2, .ref (gz (xG x) + 114)), (1, .ref (gz (xG x) + 0)), (0, .ref b)] C dL_law_15 (by decide) rfl ?_
  have LP102 : ∀ (f103 : Nat) (u101 : Int32) (w104 : Wv), Ch [2, 4, 5, 6, 7, 8, 9, 10, 11, 13, 14, 15, 16, 17, 18, 19, 20, 22, 23, 24, 25, 26, 27, 29, 30, 31, 32, 33, 34, 36, 37, 39, 40, 42, 43, 45, 46, 48, 49, 50, 52, 53, 54, 57, 58, 60, 61, 63, 64, 66, 67, 69, 70, 72, 73, 75, 76, 78, 79, 82, 83, 84, 86, 87, 89, 90, 92, 93, 95, 96, 98, 99, 101, 102, 105, 107, 108, 110, 112, 113, 115, 116, 117, 118, 119, 120, 121, 122, 123, 124, 125, 126, 127, 128, 129, 130, 131, 132, 133, 134, 135, 136, 137, 138, 139, 140, 141, 142, 143, 144] [(0, 14), (1, 0), (1, 1), (1, 2), (1, 4), (1, 5), (3, 0), (3, 1), (3, 2), (3, 3), (3, 4), (3, 5), (3, 6), (3, 7), (3, 8), (12, 0), (12, 1), (12, 2), (12, 3), (12, 4), (12, 5), (12, 6), (12, 7), (12, 8), (21, 0), (21, 2), (21, 3), (28, 0), (28, 2), (28, 3), (35, 0), (35, 1), (38, 0), (38, 1), (41, 0), (41, 1), (44, 0), (47, 0), (55, 0), (55, 7), (55, 8), (55, 9), (59, 0), (59, 1), (62, 0), (62, 1), (65, 0), (65, 1), (68, 0), (68, 1), (71, 0), (71, 1), (74, 0), (74, 1), (77, 0), (77, 1), (80, 0), (80, 8), (80, 9), (80, 10), (80, 11), (85, 0), (85, 1), (88, 0), (88, 1), (91, 0), (91, 1), (94, 0), (94, 1), (97, 0), (97, 1), (100, 0), (100, 1), (104, 0), (104, 1), (106, 0), (106, 1), (109, 0), (109, 1), (111, 0), (111, 1), (114, 0), (114, 1), (114, 3), (114, 8), (114, 11), (114, 12), (114, 13), (114, 17), (114, 18), (114, 20), (114, 21), (114, 22), (114, 23), (114, 24), (114, 25), (114, 26), (114, 27), (114, 28), (114, 30), (114, 31), (114, 37), (114, 40), (114, 41), (114, 42), (114, 43), (114, 45), (114, 49), (114, 52)] w3 w104 → (Inv RC w104 ∧ OkM w104) → (0 ≤ u101.toInt ∧ u101.toInt ≤ 325) → ((wI w104 1 0).toInt = (wI w104 114 20).toInt) → 325 - u101.toInt < f103 → V x 145 11604 w104 18 [(0, .ref b), (1, .ref (gz (xG x) + 0)), (2, .ref (gz (xG x) + 114)), (3, .int u101)] [] := by
    intro f103
    induction f103 with
    | zero => intro u101 w104 h105 o106 z107 z108 z109; exfalso; omega
    | succ f103 ih110 =>
      intro u101 w104 h105 o106 z107 z108 z109
      refine r_iload_n 3 C dL_law_18 rfl ?_
      have k111 := clampN (i := u101) (by omega)
      refine r_aload_n 0 C dL_law_19 rfl ?_
      refine r_slen C hX hbl hbz dL_law_20 ?_
      rw [← hn0]
      refine r_iconst (v := 5) C dL_law_21 (by decide) ?_
      refine r_isub C dL_law_22 (fun v112 e113 => ?_)
      have v112' := isub_ok e113 (by omega) (by omega)
      refine r_icmp_gt 935 C dL_law_23 (by decide) (fun c114 => ?_) (fun c114 => ?_)
      · have c114' := i_lt c114
        refine r_iconst (v := 1) C dL_law_935 (by decide) ?_
        exact hret _ _ _ _ _ dL_law_936 (by decide) (by decide)
      · have c114' := i_nlt c114
        refine r_aload_n 0 C dL_law_26 rfl ?_
        refine r_iload_n 3 C dL_law_27 rfl ?_
        refine r_sldj (u101.toNatClampNeg + 0) C hX hbl hbz (by omega) (by omega) dL_law_28 ?_
        refine r_bipush (v := 31) C dL_law_29 (by decide) ?_
        refine r_iand C dL_law_31 (fun v115 e116 => ?_)
        have v115' := iand_ok e116 5 (by decide) (by decide)
        by_cases c117 : (v115 : Int32).toInt < 0 ∨ 24 < (v115 : Int32).toInt
        · refine r_tabOut 929 C dL_law_32 c117 (by decide) ?_
          obtain ⟨i118, e119⟩ : ∃ z : Int32, u101 + Int32.ofInt 5 = z := ⟨_, rfl⟩
          have i118' := iinc_ok e119 (by decide) (by omega) (by omega)
          refine r_iinc [(3, .int i118), (0, .ref b), (1, .ref (gz (xG x) + 0)), (2, .ref (gz (xG x) + 114))] 3 C dL_law_929 rfl e119 (by decide) rfl ?_
          refine r_goto 18 C dL_law_932 (by decide) ?_
          refine r_lv [1, 2, 3, 0] rfl ?_
          exact ih110 i118 w104 h105 ⟨o106.1, o106.2⟩ (by omega) (by omega) (by omega)
        · rcases (show (v115 : Int32).toInt = 0 ∨ (v115 : Int32).toInt = 1 ∨ (v115 : Int32).toInt = 2 ∨ (v115 : Int32).toInt = 3 ∨ (v115 : Int32).toInt = 4 ∨ (v115 : Int32).toInt = 5 ∨ (v115 : Int32).toInt = 6 ∨ (v115 : Int32).toInt = 7 ∨ (v115 : Int32).toInt = 8 ∨ (v115 : Int32).toInt = 9 ∨ (v115 : Int32).toInt = 10 ∨ (v115 : Int32).toInt = 11 ∨ (v115 : Int32).toInt = 12 ∨ (v115 : Int32).toInt = 13 ∨ (v115 : Int32).toInt = 14 ∨ (v115 : Int32).toInt = 15 ∨ (v115 : Int32).toInt = 16 ∨ (v115 : Int32).toInt = 17 ∨ (v115 : Int32).toInt = 18 ∨ (v115 : Int32).toInt = 19 ∨ (v115 : Int32).toInt = 20 ∨ (v115 : Int32).toInt = 21 ∨ (v115 : Int32).toInt = 22 ∨ (v115 : Int32).toInt = 23 ∨ (v115 : Int32).toInt = 24 by omega) with c117 | c117 | c117 | c117 | c117 | c117 | c117 | c117 | c117 | c117 | c117 | c117 | c117 | c117 | c117 | c117 | c117 | c117 | c117 | c117 | c117 | c117 | c117 | c117 | c117
          · refine r_tabIn 148 C dL_law_32 (by omega) (by omega) (by rw [c117]; rfl) (by decide) ?_
            refine r_aload_n 1 C dL_law_148 rfl ?_
            refine r_aload_n 0 C dL_law_149 rfl ?_
            refine r_iload_n 3 C dL_law_150 rfl ?_
            refine r_iconst (v := 1) C dL_law_151 (by decide) ?_
            refine r_iadd C dL_law_152 (fun v120 e121 => ?_)
            have v120' := iadd_ok e121 (by omega) (by omega)
            refine r_sldj (u101.toNatClampNeg + 1) C hX hbl hbz (by omega) (by omega) dL_law_153 ?_
            refine r_aload_n 0 C dL_law_154 rfl ?_
            refine r_iload_n 3 C dL_law_155 rfl ?_
            refine r_iconst (v := 2) C dL_law_156 (by decide) ?_
            refine r_iadd C dL_law_157 (fun v122 e123 => ?_)
            have v122' := iadd_ok e123 (by omega) (by omega)
            refine r_sldj (u101.toNatClampNeg + 2) C hX hbl hbz (by omega) (by omega) dL_law_158 ?_
            refine r_i2l C dL_law_159 (fun v124 e125 => ?_)
            have v124' := i2l_ok e125
            refine r_bipush (v := 32) C dL_law_160 (by decide) ?_
            refine r_lshl C dL_law_162 (fun v126 e127 => ?_)
            refine r_aload_n 0 C dL_law_163 rfl ?_
            refine r_iload_n 3 C dL_law_164 rfl ?_
            refine r_iconst (v := 3) C dL_law_165 (by decide) ?_
            refine r_iadd C dL_law_166 (fun v128 e129 => ?_)
            have v128' := iadd_ok e129 (by omega) (by omega)
            refine r_sldj (u101.toNatClampNeg + 3) C hX hbl hbz (by omega) (by omega) dL_law_167 ?_
            refine r_i2l C dL_law_168 (fun v130 e131 => ?_)
            have v130' := i2l_ok e131
            refine r_ldc2 C mw7_66 dL_law_169 ?_
            refine r_land C dL_law_172 (fun v132 e133 => ?_)
            refine r_lor C dL_law_173 (fun v134 e135 => ?_)
            have b136 := Inv.get o106.1 rt_1_0 (j := 0) (by decide) (by decide)
            refine callVI C cwL_15_V (ctX10_feed_0 _ _ w104 (sS sC h105) o106.1 (wI w104 1 0) rfl (by omega) (xf (u101.toNatClampNeg + 1)) v134 ) (by decide) (kS sC h105 kc_0) rfl rfl rfl (Nat.le_of_ble_eq_true rfl) (by decide) dL_law_174 (fun r139 w138 y137 => ?_)
            show V x 145 11604 w138 177 [(0, .ref b), (1, .ref (gz (xG x) + 0)), (2, .ref (gz (xG x) + 114)), (3, .int u101)] [.int r139]
            obtain ⟨h140, o141, f142, g143⟩ := y137
            have h144 := Ch.tr h105 h140 (by decide) (by decide)
            have o145 := OkM.ch o106.2 h140 (by decide) (by decide)
            refine r_pop C dL_law_177 rfl ?_
            refine r_aload_n 2 C dL_law_178 rfl ?_
            refine r_aload_n 0 C dL_law_179 rfl ?_
            refine r_iload_n 3 C dL_law_180 rfl ?_
            refine r_iconst (v := 1) C dL_law_181 (by decide) ?_
            refine r_iadd C dL_law_182 (fun v146 e147 => ?_)
            have v146' := iadd_ok e147 (by omega) (by omega)
            refine r_sldj (u101.toNatClampNeg + 1) C hX hbl hbz (by omega) (by omega) dL_law_183 ?_
            refine r_aload_n 0 C dL_law_184 rfl ?_
            refine r_iload_n 3 C dL_law_185 rfl ?_
            refine r_iconst (v := 2) C dL_law_186 (by decide) ?_
            refine r_iadd C dL_law_187 (fun v148 e149 => ?_)
            have v148' := iadd_ok e149 (by omega) (by omega)
            refine r_sldj (u101.toNatClampNeg + 2) C hX hbl hbz (by omega) (by omega) dL_law_188 ?_
            refine r_i2l C dL_law_189 (fun v150 e151 => ?_)
            have v150' := i2l_ok e151
            refine r_bipush (v := 32) C dL_law_190 (by decide) ?_
            refine r_lshl C dL_law_192 (fun v152 e153 => ?_)
            refine r_aload_n 0 C dL_law_193 rfl ?_
            refine r_iload_n 3 C dL_law_194 rfl ?_
            refine r_iconst (v := 3) C dL_law_195 (by decide) ?_
            refine r_iadd C dL_law_196 (fun v154 e155 => ?_)
            have v154' := iadd_ok e155 (by omega) (by omega)
            refine r_sldj (u101.toNatClampNeg + 3) C hX hbl hbz (by omega) (by omega) dL_law_197 ?_
            refine r_i2l C dL_law_198 (fun v156 e157 => ?_)
            have v156' := i2l_ok e157
            refine r_ldc2 C mw7_66 dL_law_199 ?_
            refine r_land C dL_law_202 (fun v158 e159 => ?_)
            refine r_lor C dL_law_203 (fun v160 e161 => ?_)
            have b162 := Inv.get o106.2.1 rt_114_20 (j := 20) (by decide) (by decide)
            refine callVI C cwL_19_V (ctX11_feed _ _ w138 (sS sM h144) o145 (wI w104 114 20) (h140.I (by decide) (by decide) rfl) (by omega) (xf (u101.toNatClampNeg + 1)) v160 ) (by decide) (kS sM h144 kc_114) rfl rfl rfl (Nat.le_of_ble_eq_true rfl) (by decide) dL_law_204 (fun r165 w164 y163 => ?_)
            show V x 145 11604 w164 207 [(0, .ref b), (1, .ref (gz (xG x) + 0)), (2, .ref (gz (xG x) + 114)), (3, .int u101)] [.int r165]
            obtain ⟨h166, o167, f168, g169⟩ := y163
            have h170 := Ch.tr h144 h166 (by decide) (by decide)
            have o171 := Inv.ch o141 h166 (by decide)
            refine r_pop C dL_law_207 rfl ?_
            refine r_goto 929 C dL_law_208 (by decide) ?_
            obtain ⟨i172, e173⟩ : ∃ z : Int32, u101 + Int32.ofInt 5 = z := ⟨_, rfl⟩
            have i172' := iinc_ok e173 (by decide) (by omega) (by omega)
            refine r_iinc [(3, .int i172), (0, .ref b), (1, .ref (gz (xG x) + 0)), (2, .ref (gz (xG x) + 114))] 3 C dL_law_929 rfl e173 (by decide) rfl ?_
            refine r_goto 18 C dL_law_932 (by decide) ?_
            refine r_lv [1, 2, 3, 0] rfl ?_
            exact ih110 i172 w164 h170 ⟨o171, o167⟩ (by omega) (by rw [(h166.I (by decide) (by decide) rfl)] <;> omega) (by omega)
          · refine r_tabIn 211 C dL_law_32 (by omega) (by omega) (by rw [c117]; rfl) (by decide) ?_
            refine r_aload_n 1 C dL_law_211 rfl ?_
            refine callVI C cwL_20_V (ctX10_town_0 _ _ w104 (sS sC h105) o106.1  ) (by decide) (kS sC h105 kc_0) rfl rfl rfl (Nat.le_of_ble_eq_true rfl) (by decide) dL_law_212 (fun r176 w175 y174 => ?_)
            show V x 145 11604 w175 215 [(0, .ref b), (1, .ref (gz (xG x) + 0)), (2, .ref (gz (xG x) + 114)), (3, .int u101)] [.int r176]
            obtain ⟨h177, o178, f179⟩ := y174
            have h180 := Ch.tr h105 h177 (by decide) (by decide)
            have o181 := OkM.ch o106.2 h177 (by decide) (by decide)
            refine r_pop C dL_law_215 rfl ?_
            refine r_aload_n 2 C dL_law_216 rfl ?_
            refine callVI C cwL_24_V (ctX11_town _ _ w175 (sS sM h180) o181  ) (by decide) (kS sM h180 kc_114) rfl rfl rfl (Nat.le_of_ble_eq_true rfl) (by decide) dL_law_217 (fun r184 w183 y182 => ?_)
            show V x 145 11604 w183 220 [(0, .ref b), (1, .ref (gz (xG x) + 0)), (2, .ref (gz (xG x) + 114)), (3, .int u101)] [.int r184]
            obtain ⟨h185, o186, f187⟩ := y182
            have h188 := Ch.tr h180 h185 (by decide) (by decide)
            have o189 := Inv.ch o178 h185 (by decide)
            refine r_pop C dL_law_220 rfl ?_
            refine r_goto 929 C dL_law_221 (by decide) ?_
            obtain ⟨i190, e191⟩ : ∃ z : Int32, u101 + Int32.ofInt 5 = z := ⟨_, rfl⟩
            have i190' := iinc_ok e191 (by decide) (by omega) (by omega)
            refine r_iinc [(3, .int i190), (0, .ref b), (1, .ref (gz (xG x) + 0)), (2, .ref (gz (xG x) + 114))] 3 C dL_law_929 rfl e191 (by decide) rfl ?_
            refine r_goto 18 C dL_law_932 (by decide) ?_
            refine r_lv [1, 2, 3, 0] rfl ?_
            exact ih110 i190 w183 h188 ⟨o189, o186⟩ (by omega) (by rw [(h185.I (by decide) (by decide) f179), f187] <;> omega) (by omega)
          · refine r_tabIn 224 C dL_law_32 (by omega) (by omega) (by rw [c117]; rfl) (by decide) ?_
            refine r_aload_n 1 C dL_law_224 rfl ?_
            refine callVI C cwL_25_V (ctX10_fault_0 _ _ w104 (sS sC h105) o106.1  ) (by decide) (kS sC h105 kc_0) rfl rfl rfl (Nat.le_of_ble_eq_true rfl) (by decide) dL_law_225 (fun r194 w193 y192 => ?_)
            show V x 145 11604 w193 228 [(0, .ref b), (1, .ref (gz (xG x) + 0)), (2, .ref (gz (xG x) + 114)), (3, .int u101)] [.int r194]
            obtain ⟨h195, o196⟩ := y192
            have h197 := Ch.tr h105 h195 (by decide) (by decide)
            have o198 := OkM.ch o106.2 h195 (by decide) (by decide)
            refine r_pop C dL_law_228 rfl ?_
            refine r_aload_n 2 C dL_law_229 rfl ?_
            refine callVI C cwL_28_V (ctX11_fault _ _ w193 (sS sM h197) o198  ) (by decide) (kS sM h197 kc_114) rfl rfl rfl (Nat.le_of_ble_eq_true rfl) (by decide) dL_law_230 (fun r201 w200 y199 => ?_)
            show V x 145 11604 w200 233 [(0, .ref b), (1, .ref (gz (xG x) + 0)), (2, .ref (gz (xG x) + 114)), (3, .int u101)] [.int r201]
            obtain ⟨h202, o203⟩ := y199
            have h204 := Ch.tr h197 h202 (by decide) (by decide)
            have o205 := Inv.ch o196 h202 (by decide)
            refine r_pop C dL_law_233 rfl ?_
            refine r_goto 929 C dL_law_234 (by decide) ?_
            obtain ⟨i206, e207⟩ : ∃ z : Int32, u101 + Int32.ofInt 5 = z := ⟨_, rfl⟩
            have i206' := iinc_ok e207 (by decide) (by omega) (by omega)
            refine r_iinc [(3, .int i206), (0, .ref b), (1, .ref (gz (xG x) + 0)), (2, .ref (gz (xG x) + 114))] 3 C dL_law_929 rfl e207 (by decide) rfl ?_
            refine r_goto 18 C dL_law_932 (by decide) ?_
            refine r_lv [1, 2, 3, 0] rfl ?_
            exact ih110 i206 w200 h204 ⟨o205, o203⟩ (by omega) (by rw [(h202.I (by decide) (by decide) (h195.I (by decide) (by decide) rfl)), (h202.I (by decide) (by decide) (h195.I (by decide) (by decide) rfl))] <;> omega) (by omega)
          · refine r_tabIn 237 C dL_law_32 (by omega) (by omega) (by rw [c117]; rfl) (by decide) ?_
            refine r_aload_n 1 C dL_law_237 rfl ?_
            refine r_aload_n 0 C dL_law_238 rfl ?_
            refine r_iload_n 3 C dL_law_239 rfl ?_
            refine r_iconst (v := 1) C dL_law_240 (by decide) ?_
            refine r_iadd C dL_law_241 (fun v208 e209 => ?_)
            have v208' := iadd_ok e209 (by omega) (by omega)
            refine r_sldj (u101.toNatClampNeg + 1) C hX hbl hbz (by omega) (by omega) dL_law_242 ?_
            refine callVI C cwL_29_V (ctX10_told_0 _ _ w104 (sS sC h105) o106.1 (xf (u101.toNatClampNeg + 1)) ) (by decide) (kS sC h105 kc_0) rfl rfl rfl (Nat.le_of_ble_eq_true rfl) (by decide) dL_law_243 (fun r212 w211 y210 => ?_)
            show V x 145 11604 w211 246 [(0, .ref b), (1, .ref (gz (xG x) + 0)), (2, .ref (gz (xG x) + 114)), (3, .int u101)] [.int r212]
            obtain ⟨h213, o214⟩ := y210
            have h215 := Ch.tr h105 h213 (by decide) (by decide)
            have o216 := OkM.ch o106.2 h213 (by decide) (by decide)
            refine r_pop C dL_law_246 rfl ?_
            refine r_aload_n 2 C dL_law_247 rfl ?_
            refine r_aload_n 0 C dL_law_248 rfl ?_
            refine r_iload_n 3 C dL_law_249 rfl ?_
            refine r_iconst (v := 1) C dL_law_250 (by decide) ?_
            refine r_iadd C dL_law_251 (fun v217 e218 => ?_)
            have v217' := iadd_ok e218 (by omega) (by omega)
            refine r_sldj (u101.toNatClampNeg + 1) C hX hbl hbz (by omega) (by omega) dL_law_252 ?_
            refine callVI C cwL_33_V (ctX11_told _ _ w211 (sS sM h215) o216 (xf (u101.toNatClampNeg + 1)) ) (by decide) (kS sM h215 kc_114) rfl rfl rfl (Nat.le_of_ble_eq_true rfl) (by decide) dL_law_253 (fun r221 w220 y219 => ?_)
            show V x 145 11604 w220 256 [(0, .ref b), (1, .ref (gz (xG x) + 0)), (2, .ref (gz (xG x) + 114)), (3, .int u101)] [.int r221]
            obtain ⟨h222, o223⟩ := y219
            have h224 := Ch.tr h215 h222 (by decide) (by decide)
            have o225 := Inv.ch o214 h222 (by decide)
            refine r_pop C dL_law_256 rfl ?_
            refine r_goto 929 C dL_law_257 (by decide) ?_
            obtain ⟨i226, e227⟩ : ∃ z : Int32, u101 + Int32.ofInt 5 = z := ⟨_, rfl⟩
            have i226' := iinc_ok e227 (by decide) (by omega) (by omega)
            refine r_iinc [(3, .int i226), (0, .ref b), (1, .ref (gz (xG x) + 0)), (2, .ref (gz (xG x) + 114))] 3 C dL_law_929 rfl e227 (by decide) rfl ?_
            refine r_goto 18 C dL_law_932 (by decide) ?_
            refine r_lv [1, 2, 3, 0] rfl ?_
            exact ih110 i226 w220 h224 ⟨o225, o223⟩ (by omega) (by rw [(h222.I (by decide) (by decide) (h213.I (by decide) (by decide) rfl)), (h222.I (by decide) (by decide) (h213.I (by decide) (by decide) rfl))] <;> omega) (by omega)
          · refine r_tabIn 260 C dL_law_32 (by omega) (by omega) (by rw [c117]; rfl) (by decide) ?_
            refine r_aload_n 1 C dL_law_260 rfl ?_
            refine r_aload_n 0 C dL_law_261 rfl ?_
            refine r_iload_n 3 C dL_law_262 rfl ?_
            refine r_iconst (v := 1) C dL_law_263 (by decide) ?_
            refine r_iadd C dL_law_264 (fun v228 e229 => ?_)
            have v228' := iadd_ok e229 (by omega) (by omega)
            refine r_sldj (u101.toNatClampNeg + 1) C hX hbl hbz (by omega) (by omega) dL_law_265 ?_
            refine r_aload_n 0 C dL_law_266 rfl ?_
            refine r_iload_n 3 C dL_law_267 rfl ?_
            refine r_iconst (v := 2) C dL_law_268 (by decide) ?_
            refine r_iadd C dL_law_269 (fun v230 e231 => ?_)
            have v230' := iadd_ok e231 (by omega) (by omega)
            refine r_sldj (u101.toNatClampNeg + 2) C hX hbl hbz (by omega) (by omega) dL_law_270 ?_
            refine callVI C cwL_34_V (ctX10_cell_0 _ _ w104 (sS sC h105) o106.1 (xf (u101.toNatClampNeg + 1)) (xf (u101.toNatClampNeg + 2)) ) (by decide) (kS sC h105 kc_0) rfl rfl rfl (Nat.le_of_ble_eq_true rfl) (by decide) dL_law_271 (fun r234 w233 y232 => ?_)
            show V x 145 11604 w233 274 [(0, .ref b), (1, .ref (gz (xG x) + 0)), (2, .ref (gz (xG x) + 114)), (3, .int u101)] [.int r234]
            obtain ⟨h235, o236⟩ := y232
            have h237 := Ch.tr h105 h235 (by decide) (by decide)
            have o238 := OkM.ch o106.2 h235 (by decide) (by decide)
            refine r_pop C dL_law_274 rfl ?_
            refine r_aload_n 2 C dL_law_275 rfl ?_
            refine r_aload_n 0 C dL_law_276 rfl ?_
            refine r_iload_n 3 C dL_law_277 rfl ?_
            refine r_iconst (v := 1) C dL_law_278 (by decide) ?_
            refine r_iadd C dL_law_279 (fun v239 e240 => ?_)
            have v239' := iadd_ok e240 (by omega) (by omega)
            refine r_sldj (u101.toNatClampNeg + 1) C hX hbl hbz (by omega) (by omega) dL_law_280 ?_
            refine r_aload_n 0 C dL_law_281 rfl ?_
            refine r_iload_n 3 C dL_law_282 rfl ?_
            refine r_iconst (v := 2) C dL_law_283 (by decide) ?_
            refine r_iadd C dL_law_284 (fun v241 e242 => ?_)
            have v241' := iadd_ok e242 (by omega) (by omega)
            refine r_sldj (u101.toNatClampNeg + 2) C hX hbl hbz (by omega) (by omega) dL_law_285 ?_
            have b243 := Inv.get o106.2.1 rt_114_0 (j := 0) (by decide) (by decide)
            have b244 := Inv.get o106.2.1 rt_114_1 (j := 1) (by decide) (by decide)
            refine callVI C cwL_38_V (ctX11_cell _ _ w233 (sS sM h237) o238 (wI w104 114 0) (h235.I (by decide) (by decide) rfl) (by omega) (wI w104 114 1) (h235.I (by decide) (by decide) rfl) (by omega) (xf (u101.toNatClampNeg + 1)) (xf (u101.toNatClampNeg + 2)) ) (by decide) (kS sM h237 kc_114) rfl rfl rfl (Nat.le_of_ble_eq_true rfl) (by decide) dL_law_286 (fun r247 w246 y245 => ?_)
            show V x 145 11604 w246 289 [(0, .ref b), (1, .ref (gz (xG x) + 0)), (2, .ref (gz (xG x) + 114)), (3, .int u101)] [.int r247]
            obtain ⟨h248, o249⟩ := y245
            have h250 := Ch.tr h237 h248 (by decide) (by decide)
            have o251 := Inv.ch o236 h248 (by decide)
            refine r_pop C dL_law_289 rfl ?_
            refine r_goto 929 C dL_law_290 (by decide) ?_
            obtain ⟨i252, e253⟩ : ∃ z : Int32, u101 + Int32.ofInt 5 = z := ⟨_, rfl⟩
            have i252' := iinc_ok e253 (by decide) (by omega) (by omega)
            refine r_iinc [(3, .int i252), (0, .ref b), (1, .ref (gz (xG x) + 0)), (2, .ref (gz (xG x) + 114))] 3 C dL_law_929 rfl e253 (by decide) rfl ?_
            refine r_goto 18 C dL_law_932 (by decide) ?_
            refine r_lv [1, 2, 3, 0] rfl ?_
            exact ih110 i252 w246 h250 ⟨o251, o249⟩ (by omega) (by rw [(h248.I (by decide) (by decide) (h235.I (by decide) (by decide) rfl)), (h248.I (by decide) (by decide) (h235.I (by decide) (by decide) rfl))] <;> omega) (by omega)
          · refine r_tabIn 293 C dL_law_32 (by omega) (by omega) (by rw [c117]; rfl) (by decide) ?_
            refine r_aload_n 1 C dL_law_293 rfl ?_
            refine r_aload_n 0 C dL_law_294 rfl ?_
            refine r_iload_n 3 C dL_law_295 rfl ?_
            refine r_iconst (v := 1) C dL_law_296 (by decide) ?_
            refine r_iadd C dL_law_297 (fun v254 e255 => ?_)
            have v254' := iadd_ok e255 (by omega) (by omega)
            refine r_sldj (u101.toNatClampNeg + 1) C hX hbl hbz (by omega) (by omega) dL_law_298 ?_
            refine r_aload_n 0 C dL_law_299 rfl ?_
            refine r_iload_n 3 C dL_law_300 rfl ?_
            refine r_iconst (v := 2) C dL_law_301 (by decide) ?_
            refine r_iadd C dL_law_302 (fun v256 e257 => ?_)
            have v256' := iadd_ok e257 (by omega) (by omega)
            refine r_sldj (u101.toNatClampNeg + 2) C hX hbl hbz (by omega) (by omega) dL_law_303 ?_
            refine callVI C cwL_39_V (ctX10_crowd_0 _ _ w104 (sS sC h105) o106.1 (xf (u101.toNatClampNeg + 1)) (xf (u101.toNatClampNeg + 2)) ) (by decide) (kS sC h105 kc_0) rfl rfl rfl (Nat.le_of_ble_eq_true rfl) (by decide) dL_law_304 (fun r260 w259 y258 => ?_)
            show V x 145 11604 w259 307 [(0, .ref b), (1, .ref (gz (xG x) + 0)), (2, .ref (gz (xG x) + 114)), (3, .int u101)] [.int r260]
            obtain ⟨h261, o262⟩ := y258
            have h263 := Ch.tr h105 h261 (by decide) (by decide)
            have o264 := OkM.ch o106.2 h261 (by decide) (by decide)
            refine r_pop C dL_law_307 rfl ?_
            refine r_aload_n 2 C dL_law_308 rfl ?_
            refine r_aload_n 0 C dL_law_309 rfl ?_
            refine r_iload_n 3 C dL_law_310 rfl ?_
            refine r_iconst (v := 1) C dL_law_311 (by decide) ?_
            refine r_iadd C dL_law_312 (fun v265 e266 => ?_)
            have v265' := iadd_ok e266 (by omega) (by omega)
            refine r_sldj (u101.toNatClampNeg + 1) C hX hbl hbz (by omega) (by omega) dL_law_313 ?_
            refine r_aload_n 0 C dL_law_314 rfl ?_
            refine r_iload_n 3 C dL_law_315 rfl ?_
            refine r_iconst (v := 2) C dL_law_316 (by decide) ?_
            refine r_iadd C dL_law_317 (fun v267 e268 => ?_)
            have v267' := iadd_ok e268 (by omega) (by omega)
            refine r_sldj (u101.toNatClampNeg + 2) C hX hbl hbz (by omega) (by omega) dL_law_318 ?_
            refine callVI C cwL_42_V (ctX11_crowd _ _ w259 (sS sM h263) o264 (xf (u101.toNatClampNeg + 1)) (xf (u101.toNatClampNeg + 2)) ) (by decide) (kS sM h263 kc_114) rfl rfl rfl (Nat.le_of_ble_eq_true rfl) (by decide) dL_law_319 (fun r271 w270 y269 => ?_)
            show V x 145 11604 w270 322 [(0, .ref b), (1, .ref (gz (xG x) + 0)), (2, .ref (gz (xG x) + 114)), (3, .int u101)] [.int r271]
            obtain ⟨h272, o273⟩ := y269
            have h274 := Ch.tr h263 h272 (by decide) (by decide)
            have o275 := Inv.ch o262 h272 (by decide)
            refine r_pop C dL_law_322 rfl ?_
            refine r_goto 929 C dL_law_323 (by decide) ?_
            obtain ⟨i276, e277⟩ : ∃ z : Int32, u101 + Int32.ofInt 5 = z := ⟨_, rfl⟩
            have i276' := iinc_ok e277 (by decide) (by omega) (by omega)
            refine r_iinc [(3, .int i276), (0, .ref b), (1, .ref (gz (xG x) + 0)), (2, .ref (gz (xG x) + 114))] 3 C dL_law_929 rfl e277 (by decide) rfl ?_
            refine r_goto 18 C dL_law_932 (by decide) ?_
            refine r_lv [1, 2, 3, 0] rfl ?_
            exact ih110 i276 w270 h274 ⟨o275, o273⟩ (by omega) (by rw [(h272.I (by decide) (by decide) (h261.I (by decide) (by decide) rfl)), (h272.I (by decide) (by decide) (h261.I (by decide) (by decide) rfl))] <;> omega) (by omega)
          · refine r_tabIn 326 C dL_law_32 (by omega) (by omega) (by rw [c117]; rfl) (by decide) ?_
            refine r_aload_n 1 C dL_law_326 rfl ?_
            refine r_aload_n 0 C dL_law_327 rfl ?_
            refine r_iload_n 3 C dL_law_328 rfl ?_
            refine r_iconst (v := 1) C dL_law_329 (by decide) ?_
            refine r_iadd C dL_law_330 (fun v278 e279 => ?_)
            have v278' := iadd_ok e279 (by omega) (by omega)
            refine r_sldj (u101.toNatClampNeg + 1) C hX hbl hbz (by omega) (by omega) dL_law_331 ?_
            refine r_aload_n 0 C dL_law_332 rfl ?_
            refine r_iload_n 3 C dL_law_333 rfl ?_
            refine r_iconst (v := 2) C dL_law_334 (by decide) ?_
            refine r_iadd C dL_law_335 (fun v280 e281 => ?_)
            have v280' := iadd_ok e281 (by omega) (by omega)
            refine r_sldj (u101.toNatClampNeg + 2) C hX hbl hbz (by omega) (by omega) dL_law_336 ?_
            refine callVI C cwL_43_V (ctX10_tune_0 _ _ w104 (sS sC h105) o106.1 (xf (u101.toNatClampNeg + 1)) (xf (u101.toNatClampNeg + 2)) ) (by decide) (kS sC h105 kc_0) rfl rfl rfl (Nat.le_of_ble_eq_true rfl) (by decide) dL_law_337 (fun r284 w283 y282 => ?_)
            show V x 145 11604 w283 340 [(0, .ref b), (1, .ref (gz (xG x) + 0)), (2, .ref (gz (xG x) + 114)), (3, .int u101)] [.int r284]
            obtain ⟨h285, o286⟩ := y282
            have h287 := Ch.tr h105 h285 (by decide) (by decide)
            have o288 := OkM.ch o106.2 h285 (by decide) (by decide)
            refine r_pop C dL_law_340 rfl ?_
            refine r_aload_n 2 C dL_law_341 rfl ?_
            refine r_aload_n 0 C dL_law_342 rfl ?_
            refine r_iload_n 3 C dL_law_343 rfl ?_
            refine r_iconst (v := 1) C dL_law_344 (by decide) ?_
            refine r_iadd C dL_law_345 (fun v289 e290 => ?_)
            have v289' := iadd_ok e290 (by omega) (by omega)
            refine r_sldj (u101.toNatClampNeg + 1) C hX hbl hbz (by omega) (by omega) dL_law_346 ?_
            refine r_aload_n 0 C dL_law_347 rfl ?_
            refine r_iload_n 3 C dL_law_348 rfl ?_
            refine r_iconst (v := 2) C dL_law_349 (by decide) ?_
            refine r_iadd C dL_law_350 (fun v291 e292 => ?_)
            have v291' := iadd_ok e292 (by omega) (by omega)
            refine r_sldj (u101.toNatClampNeg + 2) C hX hbl hbz (by omega) (by omega) dL_law_351 ?_
            refine callVI C cwL_46_V (ctX11_tune _ _ w283 (sS sM h287) o288 (xf (u101.toNatClampNeg + 1)) (xf (u101.toNatClampNeg + 2)) ) (by decide) (kS sM h287 kc_114) rfl rfl rfl (Nat.le_of_ble_eq_true rfl) (by decide) dL_law_352 (fun r295 w294 y293 => ?_)
            show V x 145 11604 w294 355 [(0, .ref b), (1, .ref (gz (xG x) + 0)), (2, .ref (gz (xG x) + 114)), (3, .int u101)] [.int r295]
            obtain ⟨h296, o297⟩ := y293
            have h298 := Ch.tr h287 h296 (by decide) (by decide)
            have o299 := Inv.ch o286 h296 (by decide)
            refine r_pop C dL_law_355 rfl ?_
            refine r_goto 929 C dL_law_356 (by decide) ?_
            obtain ⟨i300, e301⟩ : ∃ z : Int32, u101 + Int32.ofInt 5 = z := ⟨_, rfl⟩
            have i300' := iinc_ok e301 (by decide) (by omega) (by omega)
            refine r_iinc [(3, .int i300), (0, .ref b), (1, .ref (gz (xG x) + 0)), (2, .ref (gz (xG x) + 114))] 3 C dL_law_929 rfl e301 (by decide) rfl ?_
            refine r_goto 18 C dL_law_932 (by decide) ?_
            refine r_lv [1, 2, 3, 0] rfl ?_
            exact ih110 i300 w294 h298 ⟨o299, o297⟩ (by omega) (by rw [(h296.I (by decide) (by decide) (h285.I (by decide) (by decide) rfl)), (h296.I (by decide) (by decide) (h285.I (by decide) (by decide) rfl))] <;> omega) (by omega)
          · refine r_tabIn 359 C dL_law_32 (by omega) (by omega) (by rw [c117]; rfl) (by decide) ?_
            refine r_aload_n 1 C dL_law_359 rfl ?_
            refine r_aload_n 0 C dL_law_360 rfl ?_
            refine r_iload_n 3 C dL_law_361 rfl ?_
            refine r_iconst (v := 1) C dL_law_362 (by decide) ?_
            refine r_iadd C dL_law_363 (fun v302 e303 => ?_)
            have v302' := iadd_ok e303 (by omega) (by omega)
            refine r_sldj (u101.toNatClampNeg + 1) C hX hbl hbz (by omega) (by omega) dL_law_364 ?_
            refine r_aload_n 0 C dL_law_365 rfl ?_
            refine r_iload_n 3 C dL_law_366 rfl ?_
            refine r_iconst (v := 2) C dL_law_367 (by decide) ?_
            refine r_iadd C dL_law_368 (fun v304 e305 => ?_)
            have v304' := iadd_ok e305 (by omega) (by omega)
            refine r_sldj (u101.toNatClampNeg + 2) C hX hbl hbz (by omega) (by omega) dL_law_369 ?_
            refine r_aload_n 0 C dL_law_370 rfl ?_
            refine r_iload_n 3 C dL_law_371 rfl ?_
            refine r_iconst (v := 3) C dL_law_372 (by decide) ?_
            refine r_iadd C dL_law_373 (fun v306 e307 => ?_)
            have v306' := iadd_ok e307 (by omega) (by omega)
            refine r_sldj (u101.toNatClampNeg + 3) C hX hbl hbz (by omega) (by omega) dL_law_374 ?_
            refine r_aload_n 0 C dL_law_375 rfl ?_
            refine r_iload_n 3 C dL_law_376 rfl ?_
            refine r_iconst (v := 4) C dL_law_377 (by decide) ?_
            refine r_iadd C dL_law_378 (fun v308 e309 => ?_)
            have v308' := iadd_ok e309 (by omega) (by omega)
            refine r_sldj (u101.toNatClampNeg + 4) C hX hbl hbz (by omega) (by omega) dL_law_379 ?_
            refine callVI C cwL_47_V (ctX10_far_0 _ _ w104 (sS sC h105) o106.1 (xf (u101.toNatClampNeg + 1)) (xf (u101.toNatClampNeg + 2)) (xf (u101.toNatClampNeg + 3)) (xf (u101.toNatClampNeg + 4)) ) (by decide) (kS sC h105 kc_0) rfl rfl rfl (Nat.le_of_ble_eq_true rfl) (by decide) dL_law_380 (fun r312 w311 y310 => ?_)
            show V x 145 11604 w311 383 [(0, .ref b), (1, .ref (gz (xG x) + 0)), (2, .ref (gz (xG x) + 114)), (3, .int u101)] [.int r312]
            obtain ⟨h313, o314⟩ := y310
            have h315 := Ch.tr h105 h313 (by decide) (by decide)
            have o316 := OkM.ch o106.2 h313 (by decide) (by decide)
            refine r_pop C dL_law_383 rfl ?_
            refine r_aload_n 2 C dL_law_384 rfl ?_
            refine r_aload_n 0 C dL_law_385 rfl ?_
            refine r_iload_n 3 C dL_law_386 rfl ?_
            refine r_iconst (v := 1) C dL_law_387 (by decide) ?_
            refine r_iadd C dL_law_388 (fun v317 e318 => ?_)
            have v317' := iadd_ok e318 (by omega) (by omega)
            refine r_sldj (u101.toNatClampNeg + 1) C hX hbl hbz (by omega) (by omega) dL_law_389 ?_
            refine r_aload_n 0 C dL_law_390 rfl ?_
            refine r_iload_n 3 C dL_law_391 rfl ?_
            refine r_iconst (v := 2) C dL_law_392 (by decide) ?_
            refine r_iadd C dL_law_393 (fun v319 e320 => ?_)
            have v319' := iadd_ok e320 (by omega) (by omega)
            refine r_sldj (u101.toNatClampNeg + 2) C hX hbl hbz (by omega) (by omega) dL_law_394 ?_
            refine r_aload_n 0 C dL_law_395 rfl ?_
            refine r_iload_n 3 C dL_law_396 rfl ?_
            refine r_iconst (v := 3) C dL_law_397 (by decide) ?_
            refine r_iadd C dL_law_398 (fun v321 e322 => ?_)
            have v321' := iadd_ok e322 (by omega) (by omega)
            refine r_sldj (u101.toNatClampNeg + 3) C hX hbl hbz (by omega) (by omega) dL_law_399 ?_
            refine r_aload_n 0 C dL_law_400 rfl ?_
            refine r_iload_n 3 C dL_law_401 rfl ?_
            refine r_iconst (v := 4) C dL_law_402 (by decide) ?_
            refine r_iadd C dL_law_403 (fun v323 e324 => ?_)
            have v323' := iadd_ok e324 (by omega) (by omega)
            refine r_sldj (u101.toNatClampNeg + 4) C hX hbl hbz (by omega) (by omega) dL_law_404 ?_
            have b325 := Inv.get o106.2.1 rt_114_0 (j := 0) (by decide) (by decide)
            have b326 := Inv.get o106.2.1 rt_114_1 (j := 1) (by decide) (by decide)
            refine callVI C cwL_51_V (ctX11_far _ _ w311 (sS sM h315) o316 (wI w104 114 0) (h313.I (by decide) (by decide) rfl) (by omega) (wI w104 114 1) (h313.I (by decide) (by decide) rfl) (by omega) (xf (u101.toNatClampNeg + 1)) (xf (u101.toNatClampNeg + 2)) (xf (u101.toNatClampNeg + 3)) (xf (u101.toNatClampNeg + 4)) ) (by decide) (kS sM h315 kc_114) rfl rfl rfl (Nat.le_of_ble_eq_true rfl) (by decide) dL_law_405 (fun r329 w328 y327 => ?_)
            show V x 145 11604 w328 408 [(0, .ref b), (1, .ref (gz (xG x) + 0)), (2, .ref (gz (xG x) + 114)), (3, .int u101)] [.int r329]
            obtain ⟨h330, o331⟩ := y327
            have h332 := Ch.tr h315 h330 (by decide) (by decide)
            have o333 := Inv.ch o314 h330 (by decide)
            refine r_pop C dL_law_408 rfl ?_
            refine r_goto 929 C dL_law_409 (by decide) ?_
            obtain ⟨i334, e335⟩ : ∃ z : Int32, u101 + Int32.ofInt 5 = z := ⟨_, rfl⟩
            have i334' := iinc_ok e335 (by decide) (by omega) (by omega)
            refine r_iinc [(3, .int i334), (0, .ref b), (1, .ref (gz (xG x) + 0)), (2, .ref (gz (xG x) + 114))] 3 C dL_law_929 rfl e335 (by decide) rfl ?_
            refine r_goto 18 C dL_law_932 (by decide) ?_
            refine r_lv [1, 2, 3, 0] rfl ?_
            exact ih110 i334 w328 h332 ⟨o333, o331⟩ (by omega) (by rw [(h330.I (by decide) (by decide) (h313.I (by decide) (by decide) rfl)), (h330.I (by decide) (by decide) (h313.I (by decide) (by decide) rfl))] <;> omega) (by omega)
          · refine r_tabIn 412 C dL_law_32 (by omega) (by omega) (by rw [c117]; rfl) (by decide) ?_
            refine r_aload_n 1 C dL_law_412 rfl ?_
            refine r_aload_n 0 C dL_law_413 rfl ?_
            refine r_iload_n 3 C dL_law_414 rfl ?_
            refine r_iconst (v := 1) C dL_law_415 (by decide) ?_
            refine r_iadd C dL_law_416 (fun v336 e337 => ?_)
            have v336' := iadd_ok e337 (by omega) (by omega)
            refine r_sldj (u101.toNatClampNeg + 1) C hX hbl hbz (by omega) (by omega) dL_law_417 ?_
            refine r_aload_n 0 C dL_law_418 rfl ?_
            refine r_iload_n 3 C dL_law_419 rfl ?_
            refine r_iconst (v := 2) C dL_law_420 (by decide) ?_
            refine r_iadd C dL_law_421 (fun v338 e339 => ?_)
            have v338' := iadd_ok e339 (by omega) (by omega)
            refine r_sldj (u101.toNatClampNeg + 2) C hX hbl hbz (by omega) (by omega) dL_law_422 ?_
            refine callVI C cwL_52_V (ctX10_minute_0 _ _ w104 (sS sC h105) o106.1 (xf (u101.toNatClampNeg + 1)) (xf (u101.toNatClampNeg + 2)) ) (by decide) (kS sC h105 kc_0) rfl rfl rfl (Nat.le_of_ble_eq_true rfl) (by decide) dL_law_423 (fun r342 w341 y340 => ?_)
            show V x 145 11604 w341 426 [(0, .ref b), (1, .ref (gz (xG x) + 0)), (2, .ref (gz (xG x) + 114)), (3, .int u101)] [.int r342]
            obtain ⟨h343, o344⟩ := y340
            have h345 := Ch.tr h105 h343 (by decide) (by decide)
            have o346 := OkM.ch o106.2 h343 (by decide) (by decide)
            refine r_pop C dL_law_426 rfl ?_
            refine r_aload_n 2 C dL_law_427 rfl ?_
            refine r_aload_n 0 C dL_law_428 rfl ?_
            refine r_iload_n 3 C dL_law_429 rfl ?_
            refine r_iconst (v := 1) C dL_law_430 (by decide) ?_
            refine r_iadd C dL_law_431 (fun v347 e348 => ?_)
            have v347' := iadd_ok e348 (by omega) (by omega)
            refine r_sldj (u101.toNatClampNeg + 1) C hX hbl hbz (by omega) (by omega) dL_law_432 ?_
            refine r_aload_n 0 C dL_law_433 rfl ?_
            refine r_iload_n 3 C dL_law_434 rfl ?_
            refine r_iconst (v := 2) C dL_law_435 (by decide) ?_
            refine r_iadd C dL_law_436 (fun v349 e350 => ?_)
            have v349' := iadd_ok e350 (by omega) (by omega)
            refine r_sldj (u101.toNatClampNeg + 2) C hX hbl hbz (by omega) (by omega) dL_law_437 ?_
            have b351 := Inv.get o106.2.1 rt_114_0 (j := 0) (by decide) (by decide)
            have b352 := Inv.get o106.2.1 rt_114_1 (j := 1) (by decide) (by decide)
            refine callVI C cwL_55_V (ctX11_minute _ _ w341 (sS sM h345) o346 (wI w104 114 0) (h343.I (by decide) (by decide) rfl) (by omega) (wI w104 114 1) (h343.I (by decide) (by decide) rfl) (by omega) (xf (u101.toNatClampNeg + 1)) (xf (u101.toNatClampNeg + 2)) ) (by decide) (kS sM h345 kc_114) rfl rfl rfl (Nat.le_of_ble_eq_true rfl) (by decide) dL_law_438 (fun r355 w354 y353 => ?_)
            show V x 145 11604 w354 441 [(0, .ref b), (1, .ref (gz (xG x) + 0)), (2, .ref (gz (xG x) + 114)), (3, .int u101)] [.int r355]
            obtain ⟨h356, o357⟩ := y353
            have h358 := Ch.tr h345 h356 (by decide) (by decide)
            have o359 := Inv.ch o344 h356 (by decide)
            refine r_pop C dL_law_441 rfl ?_
            refine r_goto 929 C dL_law_442 (by decide) ?_
            obtain ⟨i360, e361⟩ : ∃ z : Int32, u101 + Int32.ofInt 5 = z := ⟨_, rfl⟩
            have i360' := iinc_ok e361 (by decide) (by omega) (by omega)
            refine r_iinc [(3, .int i360), (0, .ref b), (1, .ref (gz (xG x) + 0)), (2, .ref (gz (xG x) + 114))] 3 C dL_law_929 rfl e361 (by decide) rfl ?_
            refine r_goto 18 C dL_law_932 (by decide) ?_
            refine r_lv [1, 2, 3, 0] rfl ?_
            exact ih110 i360 w354 h358 ⟨o359, o357⟩ (by omega) (by rw [(h356.I (by decide) (by decide) (h343.I (by decide) (by decide) rfl)), (h356.I (by decide) (by decide) (h343.I (by decide) (by decide) rfl))] <;> omega) (by omega)
          · refine r_tabIn 445 C dL_law_32 (by omega) (by omega) (by rw [c117]; rfl) (by decide) ?_
            refine r_aload_n 1 C dL_law_445 rfl ?_
            refine r_aload_n 0 C dL_law_446 rfl ?_
            refine r_iload_n 3 C dL_law_447 rfl ?_
            refine r_iconst (v := 1) C dL_law_448 (by decide) ?_
            refine r_iadd C dL_law_449 (fun v362 e363 => ?_)
            have v362' := iadd_ok e363 (by omega) (by omega)
            refine r_sldj (u101.toNatClampNeg + 1) C hX hbl hbz (by omega) (by omega) dL_law_450 ?_
            refine r_aload_n 0 C dL_law_451 rfl ?_
            refine r_iload_n 3 C dL_law_452 rfl ?_
            refine r_iconst (v := 2) C dL_law_453 (by decide) ?_
            refine r_iadd C dL_law_454 (fun v364 e365 => ?_)
            have v364' := iadd_ok e365 (by omega) (by omega)
            refine r_sldj (u101.toNatClampNeg + 2) C hX hbl hbz (by omega) (by omega) dL_law_455 ?_
            refine r_aload_n 0 C dL_law_456 rfl ?_
            refine r_iload_n 3 C dL_law_457 rfl ?_
            refine r_iconst (v := 3) C dL_law_458 (by decide) ?_
            refine r_iadd C dL_law_459 (fun v366 e367 => ?_)
            have v366' := iadd_ok e367 (by omega) (by omega)
            refine r_sldj (u101.toNatClampNeg + 3) C hX hbl hbz (by omega) (by omega) dL_law_460 ?_
            refine r_if_eq 468 C dL_law_461 (by decide) (fun c368 => ?_) (fun c368 => ?_)
            · have c368' := i_eq c368
              refine r_iconst (v := 0) C dL_law_468 (by decide) ?_
              refine callVI C cwL_56_V (ctX10_wall_0 _ _ w104 (sS sC h105) o106.1 (xf (u101.toNatClampNeg + 1)) (xf (u101.toNatClampNeg + 2)) 0 (by omega)) (by decide) (kS sC h105 kc_0) rfl rfl rfl (Nat.le_of_ble_eq_true rfl) (by decide) dL_law_469 (fun r371 w370 y369 => ?_)
              show V x 145 11604 w370 472 [(0, .ref b), (1, .ref (gz (xG x) + 0)), (2, .ref (gz (xG x) + 114)), (3, .int u101)] [.int r371]
              obtain ⟨h372, o373⟩ := y369
              have h374 := Ch.tr h105 h372 (by decide) (by decide)
              have o375 := OkM.ch o106.2 h372 (by decide) (by decide)
              refine r_pop C dL_law_472 rfl ?_
              refine r_aload_n 2 C dL_law_473 rfl ?_
              refine r_aload_n 0 C dL_law_474 rfl ?_
              refine r_iload_n 3 C dL_law_475 rfl ?_
              refine r_iconst (v := 1) C dL_law_476 (by decide) ?_
              refine r_iadd C dL_law_477 (fun v376 e377 => ?_)
              have v376' := iadd_ok e377 (by omega) (by omega)
              refine r_sldj (u101.toNatClampNeg + 1) C hX hbl hbz (by omega) (by omega) dL_law_478 ?_
              refine r_aload_n 0 C dL_law_479 rfl ?_
              refine r_iload_n 3 C dL_law_480 rfl ?_
              refine r_iconst (v := 2) C dL_law_481 (by decide) ?_
              refine r_iadd C dL_law_482 (fun v378 e379 => ?_)
              have v378' := iadd_ok e379 (by omega) (by omega)
              refine r_sldj (u101.toNatClampNeg + 2) C hX hbl hbz (by omega) (by omega) dL_law_483 ?_
              refine r_aload_n 0 C dL_law_484 rfl ?_
              refine r_iload_n 3 C dL_law_485 rfl ?_
              refine r_iconst (v := 3) C dL_law_486 (by decide) ?_
              refine r_iadd C dL_law_487 (fun v380 e381 => ?_)
              have v380' := iadd_ok e381 (by omega) (by omega)
              refine r_sldj (u101.toNatClampNeg + 3) C hX hbl hbz (by omega) (by omega) dL_law_488 ?_
              refine r_if_eq 496 C dL_law_489 (by decide) (fun c382 => ?_) (fun c382 => ?_)
              · have c382' := i_eq c382
                refine r_iconst (v := 0) C dL_law_496 (by decide) ?_
                have b383 := Inv.get o106.2.1 rt_114_0 (j := 0) (by decide) (by decide)
                have b384 := Inv.get o106.2.1 rt_114_1 (j := 1) (by decide) (by decide)
                refine callVI C cwL_60_V (ctX11_wall _ _ w370 (sS sM h374) o375 (wI w104 114 0) (h372.I (by decide) (by decide) rfl) (by omega) (wI w104 114 1) (h372.I (by decide) (by decide) rfl) (by omega) (xf (u101.toNatClampNeg + 1)) (xf (u101.toNatClampNeg + 2)) 0 (by omega)) (by decide) (kS sM h374 kc_114) rfl rfl rfl (Nat.le_of_ble_eq_true rfl) (by decide) dL_law_497 (fun r387 w386 y385 => ?_)
                show V x 145 11604 w386 500 [(0, .ref b), (1, .ref (gz (xG x) + 0)), (2, .ref (gz (xG x) + 114)), (3, .int u101)] [.int r387]
                obtain ⟨h388, o389⟩ := y385
                have h390 := Ch.tr h374 h388 (by decide) (by decide)
                have o391 := Inv.ch o373 h388 (by decide)
                refine r_pop C dL_law_500 rfl ?_
                refine r_goto 929 C dL_law_501 (by decide) ?_
                obtain ⟨i392, e393⟩ : ∃ z : Int32, u101 + Int32.ofInt 5 = z := ⟨_, rfl⟩
                have i392' := iinc_ok e393 (by decide) (by omega) (by omega)
                refine r_iinc [(3, .int i392), (0, .ref b), (1, .ref (gz (xG x) + 0)), (2, .ref (gz (xG x) + 114))] 3 C dL_law_929 rfl e393 (by decide) rfl ?_
                refine r_goto 18 C dL_law_932 (by decide) ?_
                refine r_lv [1, 2, 3, 0] rfl ?_
                exact ih110 i392 w386 h390 ⟨o391, o389⟩ (by omega) (by rw [(h388.I (by decide) (by decide) (h372.I (by decide) (by decide) rfl)), (h388.I (by decide) (by decide) (h372.I (by decide) (by decide) rfl))] <;> omega) (by omega)
              · have c382' := i_ne c382
                refine r_iconst (v := 1) C dL_law_492 (by decide) ?_
                refine r_goto 497 C dL_law_493 (by decide) ?_
                have b394 := Inv.get o106.2.1 rt_114_0 (j := 0) (by decide) (by decide)
                have b395 := Inv.get o106.2.1 rt_114_1 (j := 1) (by decide) (by decide)
                refine callVI C cwL_60_V (ctX11_wall _ _ w370 (sS sM h374) o375 (wI w104 114 0) (h372.I (by decide) (by decide) rfl) (by omega) (wI w104 114 1) (h372.I (by decide) (by decide) rfl) (by omega) (xf (u101.toNatClampNeg + 1)) (xf (u101.toNatClampNeg + 2)) 1 (by omega)) (by decide) (kS sM h374 kc_114) rfl rfl rfl (Nat.le_of_ble_eq_true rfl) (by decide) dL_law_497 (fun r398 w397 y396 => ?_)
                show V x 145 11604 w397 500 [(0, .ref b), (1, .ref (gz (xG x) + 0)), (2, .ref (gz (xG x) + 114)), (3, .int u101)] [.int r398]
                obtain ⟨h399, o400⟩ := y396
                have h401 := Ch.tr h374 h399 (by decide) (by decide)
                have o402 := Inv.ch o373 h399 (by decide)
                refine r_pop C dL_law_500 rfl ?_
                refine r_goto 929 C dL_law_501 (by decide) ?_
                obtain ⟨i403, e404⟩ : ∃ z : Int32, u101 + Int32.ofInt 5 = z := ⟨_, rfl⟩
                have i403' := iinc_ok e404 (by decide) (by omega) (by omega)
                refine r_iinc [(3, .int i403), (0, .ref b), (1, .ref (gz (xG x) + 0)), (2, .ref (gz (xG x) + 114))] 3 C dL_law_929 rfl e404 (by decide) rfl ?_
                refine r_goto 18 C dL_law_932 (by decide) ?_
                refine r_lv [1, 2, 3, 0] rfl ?_
                exact ih110 i403 w397 h401 ⟨o402, o400⟩ (by omega) (by rw [(h399.I (by decide) (by decide) (h372.I (by decide) (by decide) rfl)), (h399.I (by decide) (by decide) (h372.I (by decide) (by decide) rfl))] <;> omega) (by omega)
            · have c368' := i_ne c368
              refine r_iconst (v := 1) C dL_law_464 (by decide) ?_
              refine r_goto 469 C dL_law_465 (by decide) ?_
              refine callVI C cwL_56_V (ctX10_wall_0 _ _ w104 (sS sC h105) o106.1 (xf (u101.toNatClampNeg + 1)) (xf (u101.toNatClampNeg + 2)) 1 (by omega)) (by decide) (kS sC h105 kc_0) rfl rfl rfl (Nat.le_of_ble_eq_true rfl) (by decide) dL_law_469 (fun r407 w406 y405 => ?_)
              show V x 145 11604 w406 472 [(0, .ref b), (1, .ref (gz (xG x) + 0)), (2, .ref (gz (xG x) + 114)), (3, .int u101)] [.int r407]
              obtain ⟨h408, o409⟩ := y405
              have h410 := Ch.tr h105 h408 (by decide) (by decide)
              have o411 := OkM.ch o106.2 h408 (by decide) (by decide)
              refine r_pop C dL_law_472 rfl ?_
              refine r_aload_n 2 C dL_law_473 rfl ?_
              refine r_aload_n 0 C dL_law_474 rfl ?_
              refine r_iload_n 3 C dL_law_475 rfl ?_
              refine r_iconst (v := 1) C dL_law_476 (by decide) ?_
              refine r_iadd C dL_law_477 (fun v412 e413 => ?_)
              have v412' := iadd_ok e413 (by omega) (by omega)
              refine r_sldj (u101.toNatClampNeg + 1) C hX hbl hbz (by omega) (by omega) dL_law_478 ?_
              refine r_aload_n 0 C dL_law_479 rfl ?_
              refine r_iload_n 3 C dL_law_480 rfl ?_
              refine r_iconst (v := 2) C dL_law_481 (by decide) ?_
              refine r_iadd C dL_law_482 (fun v414 e415 => ?_)
              have v414' := iadd_ok e415 (by omega) (by omega)
              refine r_sldj (u101.toNatClampNeg + 2) C hX hbl hbz (by omega) (by omega) dL_law_483 ?_
              refine r_aload_n 0 C dL_law_484 rfl ?_
              refine r_iload_n 3 C dL_law_485 rfl ?_
              refine r_iconst (v := 3) C dL_law_486 (by decide) ?_
              refine r_iadd C dL_law_487 (fun v416 e417 => ?_)
              have v416' := iadd_ok e417 (by omega) (by omega)
              refine r_sldj (u101.toNatClampNeg + 3) C hX hbl hbz (by omega) (by omega) dL_law_488 ?_
              refine r_if_eq 496 C dL_law_489 (by decide) (fun c418 => ?_) (fun c418 => ?_)
              · have c418' := i_eq c418
                refine r_iconst (v := 0) C dL_law_496 (by decide) ?_
                have b419 := Inv.get o106.2.1 rt_114_0 (j := 0) (by decide) (by decide)
                have b420 := Inv.get o106.2.1 rt_114_1 (j := 1) (by decide) (by decide)
                refine callVI C cwL_60_V (ctX11_wall _ _ w406 (sS sM h410) o411 (wI w104 114 0) (h408.I (by decide) (by decide) rfl) (by omega) (wI w104 114 1) (h408.I (by decide) (by decide) rfl) (by omega) (xf (u101.toNatClampNeg + 1)) (xf (u101.toNatClampNeg + 2)) 0 (by omega)) (by decide) (kS sM h410 kc_114) rfl rfl rfl (Nat.le_of_ble_eq_true rfl) (by decide) dL_law_497 (fun r423 w422 y421 => ?_)
                show V x 145 11604 w422 500 [(0, .ref b), (1, .ref (gz (xG x) + 0)), (2, .ref (gz (xG x) + 114)), (3, .int u101)] [.int r423]
                obtain ⟨h424, o425⟩ := y421
                have h426 := Ch.tr h410 h424 (by decide) (by decide)
                have o427 := Inv.ch o409 h424 (by decide)
                refine r_pop C dL_law_500 rfl ?_
                refine r_goto 929 C dL_law_501 (by decide) ?_
                obtain ⟨i428, e429⟩ : ∃ z : Int32, u101 + Int32.ofInt 5 = z := ⟨_, rfl⟩
                have i428' := iinc_ok e429 (by decide) (by omega) (by omega)
                refine r_iinc [(3, .int i428), (0, .ref b), (1, .ref (gz (xG x) + 0)), (2, .ref (gz (xG x) + 114))] 3 C dL_law_929 rfl e429 (by decide) rfl ?_
                refine r_goto 18 C dL_law_932 (by decide) ?_
                refine r_lv [1, 2, 3, 0] rfl ?_
                exact ih110 i428 w422 h426 ⟨o427, o425⟩ (by omega) (by rw [(h424.I (by decide) (by decide) (h408.I (by decide) (by decide) rfl)), (h424.I (by decide) (by decide) (h408.I (by decide) (by decide) rfl))] <;> omega) (by omega)
              · have c418' := i_ne c418
                refine r_iconst (v := 1) C dL_law_492 (by decide) ?_
                refine r_goto 497 C dL_law_493 (by decide) ?_
                have b430 := Inv.get o106.2.1 rt_114_0 (j := 0) (by decide) (by decide)
                have b431 := Inv.get o106.2.1 rt_114_1 (j := 1) (by decide) (by decide)
                refine callVI C cwL_60_V (ctX11_wall _ _ w406 (sS sM h410) o411 (wI w104 114 0) (h408.I (by decide) (by decide) rfl) (by omega) (wI w104 114 1) (h408.I (by decide) (by decide) rfl) (by omega) (xf (u101.toNatClampNeg + 1)) (xf (u101.toNatClampNeg + 2)) 1 (by omega)) (by decide) (kS sM h410 kc_114) rfl rfl rfl (Nat.le_of_ble_eq_true rfl) (by decide) dL_law_497 (fun r434 w433 y432 => ?_)
                show V x 145 11604 w433 500 [(0, .ref b), (1, .ref (gz (xG x) + 0)), (2, .ref (gz (xG x) + 114)), (3, .int u101)] [.int r434]
                obtain ⟨h435, o436⟩ := y432
                have h437 := Ch.tr h410 h435 (by decide) (by decide)
                have o438 := Inv.ch o409 h435 (by decide)
                refine r_pop C dL_law_500 rfl ?_
                refine r_goto 929 C dL_law_501 (by decide) ?_
                obtain ⟨i439, e440⟩ : ∃ z : Int32, u101 + Int32.ofInt 5 = z := ⟨_, rfl⟩
                have i439' := iinc_ok e440 (by decide) (by omega) (by omega)
                refine r_iinc [(3, .int i439), (0, .ref b), (1, .ref (gz (xG x) + 0)), (2, .ref (gz (xG x) + 114))] 3 C dL_law_929 rfl e440 (by decide) rfl ?_
                refine r_goto 18 C dL_law_932 (by decide) ?_
                refine r_lv [1, 2, 3, 0] rfl ?_
                exact ih110 i439 w433 h437 ⟨o438, o436⟩ (by omega) (by rw [(h435.I (by decide) (by decide) (h408.I (by decide) (by decide) rfl)), (h435.I (by decide) (by decide) (h408.I (by decide) (by decide) rfl))] <;> omega) (by omega)
          · refine r_tabIn 504 C dL_law_32 (by omega) (by omega) (by rw [c117]; rfl) (by decide) ?_
            refine r_aload_n 1 C dL_law_504 rfl ?_
            refine r_aload_n 0 C dL_law_505 rfl ?_
            refine r_iload_n 3 C dL_law_506 rfl ?_
            refine r_iconst (v := 1) C dL_law_507 (by decide) ?_
            refine r_iadd C dL_law_508 (fun v441 e442 => ?_)
            have v441' := iadd_ok e442 (by omega) (by omega)
            refine r_sldj (u101.toNatClampNeg + 1) C hX hbl hbz (by omega) (by omega) dL_law_509 ?_
            refine callVI C cwL_61_V (ctX10_drift_0 _ _ w104 (sS sC h105) o106.1 (xf (u101.toNatClampNeg + 1)) ) (by decide) (kS sC h105 kc_0) rfl rfl rfl (Nat.le_of_ble_eq_true rfl) (by decide) dL_law_510 (fun r445 w444 y443 => ?_)
            show V x 145 11604 w444 513 [(0, .ref b), (1, .ref (gz (xG x) + 0)), (2, .ref (gz (xG x) + 114)), (3, .int u101)] [.int r445]
            obtain ⟨h446, o447⟩ := y443
            have h448 := Ch.tr h105 h446 (by decide) (by decide)
            have o449 := OkM.ch o106.2 h446 (by decide) (by decide)
            refine r_pop C dL_law_513 rfl ?_
            refine r_aload_n 2 C dL_law_514 rfl ?_
            refine r_aload_n 0 C dL_law_515 rfl ?_
            refine r_iload_n 3 C dL_law_516 rfl ?_
            refine r_iconst (v := 1) C dL_law_517 (by decide) ?_
            refine r_iadd C dL_law_518 (fun v450 e451 => ?_)
            have v450' := iadd_ok e451 (by omega) (by omega)
            refine r_sldj (u101.toNatClampNeg + 1) C hX hbl hbz (by omega) (by omega) dL_law_519 ?_
            have b452 := Inv.get o106.2.1 rt_114_0 (j := 0) (by decide) (by decide)
            have b453 := Inv.get o106.2.1 rt_114_1 (j := 1) (by decide) (by decide)
            refine callVI C cwL_64_V (ctX11_drift _ _ w444 (sS sM h448) o449 (wI w104 114 0) (h446.I (by decide) (by decide) rfl) (by omega) (wI w104 114 1) (h446.I (by decide) (by decide) rfl) (by omega) (xf (u101.toNatClampNeg + 1)) ) (by decide) (kS sM h448 kc_114) rfl rfl rfl (Nat.le_of_ble_eq_true rfl) (by decide) dL_law_520 (fun r456 w455 y454 => ?_)
            show V x 145 11604 w455 523 [(0, .ref b), (1, .ref (gz (xG x) + 0)), (2, .ref (gz (xG x) + 114)), (3, .int u101)] [.int r456]
            obtain ⟨h457, o458⟩ := y454
            have h459 := Ch.tr h448 h457 (by decide) (by decide)
            have o460 := Inv.ch o447 h457 (by decide)
            refine r_pop C dL_law_523 rfl ?_
            refine r_goto 929 C dL_law_524 (by decide) ?_
            obtain ⟨i461, e462⟩ : ∃ z : Int32, u101 + Int32.ofInt 5 = z := ⟨_, rfl⟩
            have i461' := iinc_ok e462 (by decide) (by omega) (by omega)
            refine r_iinc [(3, .int i461), (0, .ref b), (1, .ref (gz (xG x) + 0)), (2, .ref (gz (xG x) + 114))] 3 C dL_law_929 rfl e462 (by decide) rfl ?_
            refine r_goto 18 C dL_law_932 (by decide) ?_
            refine r_lv [1, 2, 3, 0] rfl ?_
            exact ih110 i461 w455 h459 ⟨o460, o458⟩ (by omega) (by rw [(h457.I (by decide) (by decide) (h446.I (by decide) (by decide) rfl)), (h457.I (by decide) (by decide) (h446.I (by decide) (by decide) rfl))] <;> omega) (by omega)
          · refine r_tabIn 527 C dL_law_32 (by omega) (by omega) (by rw [c117]; rfl) (by decide) ?_
            refine r_aload_n 1 C dL_law_527 rfl ?_
            refine r_aload_n 0 C dL_law_528 rfl ?_
            refine r_iload_n 3 C dL_law_529 rfl ?_
            refine r_iconst (v := 1) C dL_law_530 (by decide) ?_
            refine r_iadd C dL_law_531 (fun v463 e464 => ?_)
            have v463' := iadd_ok e464 (by omega) (by omega)
            refine r_sldj (u101.toNatClampNeg + 1) C hX hbl hbz (by omega) (by omega) dL_law_532 ?_
            refine r_aload_n 0 C dL_law_533 rfl ?_
            refine r_iload_n 3 C dL_law_534 rfl ?_
            refine r_iconst (v := 2) C dL_law_535 (by decide) ?_
            refine r_iadd C dL_law_536 (fun v465 e466 => ?_)
            have v465' := iadd_ok e466 (by omega) (by omega)
            refine r_sldj (u101.toNatClampNeg + 2) C hX hbl hbz (by omega) (by omega) dL_law_537 ?_
            refine callVI C cwL_65_V (ctX10_plan_0 _ _ w104 (sS sC h105) o106.1 (xf (u101.toNatClampNeg + 1)) (xf (u101.toNatClampNeg + 2)) ) (by decide) (kS sC h105 kc_0) rfl rfl rfl (Nat.le_of_ble_eq_true rfl) (by decide) dL_law_538 (fun r469 w468 y467 => ?_)
            show V x 145 11604 w468 541 [(0, .ref b), (1, .ref (gz (xG x) + 0)), (2, .ref (gz (xG x) + 114)), (3, .int u101)] [.int r469]
            obtain ⟨h470, o471⟩ := y467
            have h472 := Ch.tr h105 h470 (by decide) (by decide)
            have o473 := OkM.ch o106.2 h470 (by decide) (by decide)
            refine r_pop C dL_law_541 rfl ?_
            refine r_aload_n 2 C dL_law_542 rfl ?_
            refine r_aload_n 0 C dL_law_543 rfl ?_
            refine r_iload_n 3 C dL_law_544 rfl ?_
            refine r_iconst (v := 1) C dL_law_545 (by decide) ?_
            refine r_iadd C dL_law_546 (fun v474 e475 => ?_)
            have v474' := iadd_ok e475 (by omega) (by omega)
            refine r_sldj (u101.toNatClampNeg + 1) C hX hbl hbz (by omega) (by omega) dL_law_547 ?_
            refine r_aload_n 0 C dL_law_548 rfl ?_
            refine r_iload_n 3 C dL_law_549 rfl ?_
            refine r_iconst (v := 2) C dL_law_550 (by decide) ?_
            refine r_iadd C dL_law_551 (fun v476 e477 => ?_)
            have v476' := iadd_ok e477 (by omega) (by omega)
            refine r_sldj (u101.toNatClampNeg + 2) C hX hbl hbz (by omega) (by omega) dL_law_552 ?_
            refine callVI C cwL_68_V (ctX11_plan _ _ w468 (sS sM h472) o473 (xf (u101.toNatClampNeg + 1)) (xf (u101.toNatClampNeg + 2)) ) (by decide) (kS sM h472 kc_114) rfl rfl rfl (Nat.le_of_ble_eq_true rfl) (by decide) dL_law_553 (fun r480 w479 y478 => ?_)
            show V x 145 11604 w479 556 [(0, .ref b), (1, .ref (gz (xG x) + 0)), (2, .ref (gz (xG x) + 114)), (3, .int u101)] [.int r480]
            obtain ⟨h481, o482⟩ := y478
            have h483 := Ch.tr h472 h481 (by decide) (by decide)
            have o484 := Inv.ch o471 h481 (by decide)
            refine r_pop C dL_law_556 rfl ?_
            refine r_goto 929 C dL_law_557 (by decide) ?_
            obtain ⟨i485, e486⟩ : ∃ z : Int32, u101 + Int32.ofInt 5 = z := ⟨_, rfl⟩
            have i485' := iinc_ok e486 (by decide) (by omega) (by omega)
            refine r_iinc [(3, .int i485), (0, .ref b), (1, .ref (gz (xG x) + 0)), (2, .ref (gz (xG x) + 114))] 3 C dL_law_929 rfl e486 (by decide) rfl ?_
            refine r_goto 18 C dL_law_932 (by decide) ?_
            refine r_lv [1, 2, 3, 0] rfl ?_
            exact ih110 i485 w479 h483 ⟨o484, o482⟩ (by omega) (by rw [(h481.I (by decide) (by decide) (h470.I (by decide) (by decide) rfl)), (h481.I (by decide) (by decide) (h470.I (by decide) (by decide) rfl))] <;> omega) (by omega)
          · refine r_tabIn 560 C dL_law_32 (by omega) (by omega) (by rw [c117]; rfl) (by decide) ?_
            refine r_aload_n 1 C dL_law_560 rfl ?_
            refine callVI C cwL_69_V (ctX10_drop_0 _ _ w104 (sS sC h105) o106.1  ) (by decide) (kS sC h105 kc_0) rfl rfl rfl (Nat.le_of_ble_eq_true rfl) (by decide) dL_law_561 (fun r489 w488 y487 => ?_)
            show V x 145 11604 w488 564 [(0, .ref b), (1, .ref (gz (xG x) + 0)), (2, .ref (gz (xG x) + 114)), (3, .int u101)] [.int r489]
            obtain ⟨h490, o491⟩ := y487
            have h492 := Ch.tr h105 h490 (by decide) (by decide)
            have o493 := OkM.ch o106.2 h490 (by decide) (by decide)
            refine r_pop C dL_law_564 rfl ?_
            refine r_aload_n 2 C dL_law_565 rfl ?_
            refine callVI C cwL_72_V (ctX11_drop _ _ w488 (sS sM h492) o493  ) (by decide) (kS sM h492 kc_114) rfl rfl rfl (Nat.le_of_ble_eq_true rfl) (by decide) dL_law_566 (fun r496 w495 y494 => ?_)
            show V x 145 11604 w495 569 [(0, .ref b), (1, .ref (gz (xG x) + 0)), (2, .ref (gz (xG x) + 114)), (3, .int u101)] [.int r496]
            obtain ⟨h497, o498⟩ := y494
            have h499 := Ch.tr h492 h497 (by decide) (by decide)
            have o500 := Inv.ch o491 h497 (by decide)
            refine r_pop C dL_law_569 rfl ?_
            refine r_goto 929 C dL_law_570 (by decide) ?_
            obtain ⟨i501, e502⟩ : ∃ z : Int32, u101 + Int32.ofInt 5 = z := ⟨_, rfl⟩
            have i501' := iinc_ok e502 (by decide) (by omega) (by omega)
            refine r_iinc [(3, .int i501), (0, .ref b), (1, .ref (gz (xG x) + 0)), (2, .ref (gz (xG x) + 114))] 3 C dL_law_929 rfl e502 (by decide) rfl ?_
            refine r_goto 18 C dL_law_932 (by decide) ?_
            refine r_lv [1, 2, 3, 0] rfl ?_
            exact ih110 i501 w495 h499 ⟨o500, o498⟩ (by omega) (by rw [(h497.I (by decide) (by decide) (h490.I (by decide) (by decide) rfl)), (h497.I (by decide) (by decide) (h490.I (by decide) (by decide) rfl))] <;> omega) (by omega)
          · refine r_tabIn 573 C dL_law_32 (by omega) (by omega) (by rw [c117]; rfl) (by decide) ?_
            refine r_aload_n 1 C dL_law_573 rfl ?_
            refine callVI C cwL_73_V (ctX10_judge_0 _ _ w104 (sS sC h105) o106.1  ) (by decide) (kS sC h105 kc_0) rfl rfl rfl (Nat.le_of_ble_eq_true rfl) (by decide) dL_law_574 (fun r505 w504 y503 => ?_)
            show V x 145 11604 w504 577 [(0, .ref b), (1, .ref (gz (xG x) + 0)), (2, .ref (gz (xG x) + 114)), (3, .int u101)] [.int r505]
            obtain ⟨h506, o507⟩ := y503
            have h508 := Ch.tr h105 h506 (by decide) (by decide)
            have o509 := OkM.ch o106.2 h506 (by decide) (by decide)
            refine r_pop C dL_law_577 rfl ?_
            refine r_aload_n 2 C dL_law_578 rfl ?_
            refine callVI C cwL_76_V (ctX11_judge _ _ w504 (sS sM h508) o509  ) (by decide) (kS sM h508 kc_114) rfl rfl rfl (Nat.le_of_ble_eq_true rfl) (by decide) dL_law_579 (fun r512 w511 y510 => ?_)
            show V x 145 11604 w511 582 [(0, .ref b), (1, .ref (gz (xG x) + 0)), (2, .ref (gz (xG x) + 114)), (3, .int u101)] [.int r512]
            obtain ⟨h513, o514⟩ := y510
            have h515 := Ch.tr h508 h513 (by decide) (by decide)
            have o516 := Inv.ch o507 h513 (by decide)
            refine r_pop C dL_law_582 rfl ?_
            refine r_goto 929 C dL_law_583 (by decide) ?_
            obtain ⟨i517, e518⟩ : ∃ z : Int32, u101 + Int32.ofInt 5 = z := ⟨_, rfl⟩
            have i517' := iinc_ok e518 (by decide) (by omega) (by omega)
            refine r_iinc [(3, .int i517), (0, .ref b), (1, .ref (gz (xG x) + 0)), (2, .ref (gz (xG x) + 114))] 3 C dL_law_929 rfl e518 (by decide) rfl ?_
            refine r_goto 18 C dL_law_932 (by decide) ?_
            refine r_lv [1, 2, 3, 0] rfl ?_
            exact ih110 i517 w511 h515 ⟨o516, o514⟩ (by omega) (by rw [(h513.I (by decide) (by decide) (h506.I (by decide) (by decide) rfl)), (h513.I (by decide) (by decide) (h506.I (by decide) (by decide) rfl))] <;> omega) (by omega)
          · refine r_tabIn 586 C dL_law_32 (by omega) (by omega) (by rw [c117]; rfl) (by decide) ?_
            refine r_aload_n 1 C dL_law_586 rfl ?_
            refine r_aload_n 0 C dL_law_587 rfl ?_
            refine r_iload_n 3 C dL_law_588 rfl ?_
            refine r_iconst (v := 1) C dL_law_589 (by decide) ?_
            refine r_iadd C dL_law_590 (fun v519 e520 => ?_)
            have v519' := iadd_ok e520 (by omega) (by omega)
            refine r_sldj (u101.toNatClampNeg + 1) C hX hbl hbz (by omega) (by omega) dL_law_591 ?_
            refine r_aload_n 0 C dL_law_592 rfl ?_
            refine r_iload_n 3 C dL_law_593 rfl ?_
            refine r_iconst (v := 2) C dL_law_594 (by decide) ?_
            refine r_iadd C dL_law_595 (fun v521 e522 => ?_)
            have v521' := iadd_ok e522 (by omega) (by omega)
            refine r_sldj (u101.toNatClampNeg + 2) C hX hbl hbz (by omega) (by omega) dL_law_596 ?_
            refine callVI C cwL_77_V (ctX10_tried_0 _ _ w104 (sS sC h105) o106.1 (xf (u101.toNatClampNeg + 1)) (xf (u101.toNatClampNeg + 2)) ) (by decide) (kS sC h105 kc_0) rfl rfl rfl (Nat.le_of_ble_eq_true rfl) (by decide) dL_law_597 (fun r525 w524 y523 => ?_)
            show V x 145 11604 w524 600 [(0, .ref b), (1, .ref (gz (xG x) + 0)), (2, .ref (gz (xG x) + 114)), (3, .int u101)] [.int r525]
            obtain ⟨h526, o527⟩ := y523
            have h528 := Ch.tr h105 h526 (by decide) (by decide)
            have o529 := OkM.ch o106.2 h526 (by decide) (by decide)
            refine r_pop C dL_law_600 rfl ?_
            refine r_aload_n 2 C dL_law_601 rfl ?_
            refine r_aload_n 0 C dL_law_602 rfl ?_
            refine r_iload_n 3 C dL_law_603 rfl ?_
            refine r_iconst (v := 1) C dL_law_604 (by decide) ?_
            refine r_iadd C dL_law_605 (fun v530 e531 => ?_)
            have v530' := iadd_ok e531 (by omega) (by omega)
            refine r_sldj (u101.toNatClampNeg + 1) C hX hbl hbz (by omega) (by omega) dL_law_606 ?_
            refine r_aload_n 0 C dL_law_607 rfl ?_
            refine r_iload_n 3 C dL_law_608 rfl ?_
            refine r_iconst (v := 2) C dL_law_609 (by decide) ?_
            refine r_iadd C dL_law_610 (fun v532 e533 => ?_)
            have v532' := iadd_ok e533 (by omega) (by omega)
            refine r_sldj (u101.toNatClampNeg + 2) C hX hbl hbz (by omega) (by omega) dL_law_611 ?_
            refine callVI C cwL_80_V (ctX11_tried _ _ w524 (sS sM h528) o529 (xf (u101.toNatClampNeg + 1)) (xf (u101.toNatClampNeg + 2)) ) (by decide) (kS sM h528 kc_114) rfl rfl rfl (Nat.le_of_ble_eq_true rfl) (by decide) dL_law_612 (fun r536 w535 y534 => ?_)
            show V x 145 11604 w535 615 [(0, .ref b), (1, .ref (gz (xG x) + 0)), (2, .ref (gz (xG x) + 114)), (3, .int u101)] [.int r536]
            obtain ⟨h537, o538⟩ := y534
            have h539 := Ch.tr h528 h537 (by decide) (by decide)
            have o540 := Inv.ch o527 h537 (by decide)
            refine r_pop C dL_law_615 rfl ?_
            refine r_goto 929 C dL_law_616 (by decide) ?_
            obtain ⟨i541, e542⟩ : ∃ z : Int32, u101 + Int32.ofInt 5 = z := ⟨_, rfl⟩
            have i541' := iinc_ok e542 (by decide) (by omega) (by omega)
            refine r_iinc [(3, .int i541), (0, .ref b), (1, .ref (gz (xG x) + 0)), (2, .ref (gz (xG x) + 114))] 3 C dL_law_929 rfl e542 (by decide) rfl ?_
            refine r_goto 18 C dL_law_932 (by decide) ?_
            refine r_lv [1, 2, 3, 0] rfl ?_
            exact ih110 i541 w535 h539 ⟨o540, o538⟩ (by omega) (by rw [(h537.I (by decide) (by decide) (h526.I (by decide) (by decide) rfl)), (h537.I (by decide) (by decide) (h526.I (by decide) (by decide) rfl))] <;> omega) (by omega)
          · refine r_tabIn 619 C dL_law_32 (by omega) (by omega) (by rw [c117]; rfl) (by decide) ?_
            refine r_aload_n 1 C dL_law_619 rfl ?_
            refine r_aload_n 0 C dL_law_620 rfl ?_
            refine r_iload_n 3 C dL_law_621 rfl ?_
            refine r_iconst (v := 1) C dL_law_622 (by decide) ?_
            refine r_iadd C dL_law_623 (fun v543 e544 => ?_)
            have v543' := iadd_ok e544 (by omega) (by omega)
            refine r_sldj (u101.toNatClampNeg + 1) C hX hbl hbz (by omega) (by omega) dL_law_624 ?_
            refine r_aload_n 0 C dL_law_625 rfl ?_
            refine r_iload_n 3 C dL_law_626 rfl ?_
            refine r_iconst (v := 2) C dL_law_627 (by decide) ?_
            refine r_iadd C dL_law_628 (fun v545 e546 => ?_)
            have v545' := iadd_ok e546 (by omega) (by omega)
            refine r_sldj (u101.toNatClampNeg + 2) C hX hbl hbz (by omega) (by omega) dL_law_629 ?_
            refine callVI C cwL_81_V (ctX10_where_0 _ _ w104 (sS sC h105) o106.1 (xf (u101.toNatClampNeg + 1)) (xf (u101.toNatClampNeg + 2)) ) (by decide) (kS sC h105 kc_0) rfl rfl rfl (Nat.le_of_ble_eq_true rfl) (by decide) dL_law_630 (fun r549 w548 y547 => ?_)
            show V x 145 11604 w548 633 [(0, .ref b), (1, .ref (gz (xG x) + 0)), (2, .ref (gz (xG x) + 114)), (3, .int u101)] [.int r549]
            obtain ⟨h550, o551⟩ := y547
            have h552 := Ch.tr h105 h550 (by decide) (by decide)
            have o553 := OkM.ch o106.2 h550 (by decide) (by decide)
            refine r_pop C dL_law_633 rfl ?_
            refine r_aload_n 2 C dL_law_634 rfl ?_
            refine r_aload_n 0 C dL_law_635 rfl ?_
            refine r_iload_n 3 C dL_law_636 rfl ?_
            refine r_iconst (v := 1) C dL_law_637 (by decide) ?_
            refine r_iadd C dL_law_638 (fun v554 e555 => ?_)
            have v554' := iadd_ok e555 (by omega) (by omega)
            refine r_sldj (u101.toNatClampNeg + 1) C hX hbl hbz (by omega) (by omega) dL_law_639 ?_
            refine r_aload_n 0 C dL_law_640 rfl ?_
            refine r_iload_n 3 C dL_law_641 rfl ?_
            refine r_iconst (v := 2) C dL_law_642 (by decide) ?_
            refine r_iadd C dL_law_643 (fun v556 e557 => ?_)
            have v556' := iadd_ok e557 (by omega) (by omega)
            refine r_sldj (u101.toNatClampNeg + 2) C hX hbl hbz (by omega) (by omega) dL_law_644 ?_
            refine callVI C cwL_84_V (ctX11_where _ _ w548 (sS sM h552) o553 (xf (u101.toNatClampNeg + 1)) (xf (u101.toNatClampNeg + 2)) ) (by decide) (kS sM h552 kc_114) rfl rfl rfl (Nat.le_of_ble_eq_true rfl) (by decide) dL_law_645 (fun r560 w559 y558 => ?_)
            show V x 145 11604 w559 648 [(0, .ref b), (1, .ref (gz (xG x) + 0)), (2, .ref (gz (xG x) + 114)), (3, .int u101)] [.int r560]
            obtain ⟨h561, o562⟩ := y558
            have h563 := Ch.tr h552 h561 (by decide) (by decide)
            have o564 := Inv.ch o551 h561 (by decide)
            refine r_pop C dL_law_648 rfl ?_
            refine r_goto 929 C dL_law_649 (by decide) ?_
            obtain ⟨i565, e566⟩ : ∃ z : Int32, u101 + Int32.ofInt 5 = z := ⟨_, rfl⟩
            have i565' := iinc_ok e566 (by decide) (by omega) (by omega)
            refine r_iinc [(3, .int i565), (0, .ref b), (1, .ref (gz (xG x) + 0)), (2, .ref (gz (xG x) + 114))] 3 C dL_law_929 rfl e566 (by decide) rfl ?_
            refine r_goto 18 C dL_law_932 (by decide) ?_
            refine r_lv [1, 2, 3, 0] rfl ?_
            exact ih110 i565 w559 h563 ⟨o564, o562⟩ (by omega) (by rw [(h561.I (by decide) (by decide) (h550.I (by decide) (by decide) rfl)), (h561.I (by decide) (by decide) (h550.I (by decide) (by decide) rfl))] <;> omega) (by omega)
          · refine r_tabIn 652 C dL_law_32 (by omega) (by omega) (by rw [c117]; rfl) (by decide) ?_
            refine r_aload_n 1 C dL_law_652 rfl ?_
            refine r_aload_n 0 C dL_law_653 rfl ?_
            refine r_iload_n 3 C dL_law_654 rfl ?_
            refine r_iconst (v := 1) C dL_law_655 (by decide) ?_
            refine r_iadd C dL_law_656 (fun v567 e568 => ?_)
            have v567' := iadd_ok e568 (by omega) (by omega)
            refine r_sldj (u101.toNatClampNeg + 1) C hX hbl hbz (by omega) (by omega) dL_law_657 ?_
            refine r_aload_n 0 C dL_law_658 rfl ?_
            refine r_iload_n 3 C dL_law_659 rfl ?_
            refine r_iconst (v := 2) C dL_law_660 (by decide) ?_
            refine r_iadd C dL_law_661 (fun v569 e570 => ?_)
            have v569' := iadd_ok e570 (by omega) (by omega)
            refine r_sldj (u101.toNatClampNeg + 2) C hX hbl hbz (by omega) (by omega) dL_law_662 ?_
            refine r_aload_n 0 C dL_law_663 rfl ?_
            refine r_iload_n 3 C dL_law_664 rfl ?_
            refine r_iconst (v := 3) C dL_law_665 (by decide) ?_
            refine r_iadd C dL_law_666 (fun v571 e572 => ?_)
            have v571' := iadd_ok e572 (by omega) (by omega)
            refine r_sldj (u101.toNatClampNeg + 3) C hX hbl hbz (by omega) (by omega) dL_law_667 ?_
            refine callVI C cwL_85_V (ctX10_soonest_0 _ _ w104 (sS sC h105) o106.1 (xf (u101.toNatClampNeg + 1)) (xf (u101.toNatClampNeg + 2)) (xf (u101.toNatClampNeg + 3)) ) (by decide) (kS sC h105 kc_0) rfl rfl rfl (Nat.le_of_ble_eq_true rfl) (by decide) dL_law_668 (fun r575 w574 y573 => ?_)
            show V x 145 11604 w574 671 [(0, .ref b), (1, .ref (gz (xG x) + 0)), (2, .ref (gz (xG x) + 114)), (3, .int u101)] [.int r575]
            obtain ⟨h576, o577⟩ := y573
            have h578 := Ch.tr h105 h576 (by decide) (by decide)
            have o579 := OkM.ch o106.2 h576 (by decide) (by decide)
            refine r_pop C dL_law_671 rfl ?_
            refine r_aload_n 2 C dL_law_672 rfl ?_
            refine r_aload_n 0 C dL_law_673 rfl ?_
            refine r_iload_n 3 C dL_law_674 rfl ?_
            refine r_iconst (v := 1) C dL_law_675 (by decide) ?_
            refine r_iadd C dL_law_676 (fun v580 e581 => ?_)
            have v580' := iadd_ok e581 (by omega) (by omega)
            refine r_sldj (u101.toNatClampNeg + 1) C hX hbl hbz (by omega) (by omega) dL_law_677 ?_
            refine r_aload_n 0 C dL_law_678 rfl ?_
            refine r_iload_n 3 C dL_law_679 rfl ?_
            refine r_iconst (v := 2) C dL_law_680 (by decide) ?_
            refine r_iadd C dL_law_681 (fun v582 e583 => ?_)
            have v582' := iadd_ok e583 (by omega) (by omega)
            refine r_sldj (u101.toNatClampNeg + 2) C hX hbl hbz (by omega) (by omega) dL_law_682 ?_
            refine r_aload_n 0 C dL_law_683 rfl ?_
            refine r_iload_n 3 C dL_law_684 rfl ?_
            refine r_iconst (v := 3) C dL_law_685 (by decide) ?_
            refine r_iadd C dL_law_686 (fun v584 e585 => ?_)
            have v584' := iadd_ok e585 (by omega) (by omega)
            refine r_sldj (u101.toNatClampNeg + 3) C hX hbl hbz (by omega) (by omega) dL_law_687 ?_
            refine callVI C cwL_89_V (ctX11_soonest _ _ w574 (sS sM h578) o579 (xf (u101.toNatClampNeg + 1)) (xf (u101.toNatClampNeg + 2)) (xf (u101.toNatClampNeg + 3)) ) (by decide) (kS sM h578 kc_114) rfl rfl rfl (Nat.le_of_ble_eq_true rfl) (by decide) dL_law_688 (fun r588 w587 y586 => ?_)
            show V x 145 11604 w587 691 [(0, .ref b), (1, .ref (gz (xG x) + 0)), (2, .ref (gz (xG x) + 114)), (3, .int u101)] [.int r588]
            obtain ⟨h589, o590⟩ := y586
            have h591 := Ch.tr h578 h589 (by decide) (by decide)
            have o592 := Inv.ch o577 h589 (by decide)
            refine r_pop C dL_law_691 rfl ?_
            refine r_goto 929 C dL_law_692 (by decide) ?_
            obtain ⟨i593, e594⟩ : ∃ z : Int32, u101 + Int32.ofInt 5 = z := ⟨_, rfl⟩
            have i593' := iinc_ok e594 (by decide) (by omega) (by omega)
            refine r_iinc [(3, .int i593), (0, .ref b), (1, .ref (gz (xG x) + 0)), (2, .ref (gz (xG x) + 114))] 3 C dL_law_929 rfl e594 (by decide) rfl ?_
            refine r_goto 18 C dL_law_932 (by decide) ?_
            refine r_lv [1, 2, 3, 0] rfl ?_
            exact ih110 i593 w587 h591 ⟨o592, o590⟩ (by omega) (by rw [(h589.I (by decide) (by decide) (h576.I (by decide) (by decide) rfl)), (h589.I (by decide) (by decide) (h576.I (by decide) (by decide) rfl))] <;> omega) (by omega)
          · refine r_tabIn 695 C dL_law_32 (by omega) (by omega) (by rw [c117]; rfl) (by decide) ?_
            refine r_aload_n 1 C dL_law_695 rfl ?_
            refine r_aload_n 0 C dL_law_696 rfl ?_
            refine r_iload_n 3 C dL_law_697 rfl ?_
            refine r_iconst (v := 1) C dL_law_698 (by decide) ?_
            refine r_iadd C dL_law_699 (fun v595 e596 => ?_)
            have v595' := iadd_ok e596 (by omega) (by omega)
            refine r_sldj (u101.toNatClampNeg + 1) C hX hbl hbz (by omega) (by omega) dL_law_700 ?_
            refine r_aload_n 0 C dL_law_701 rfl ?_
            refine r_iload_n 3 C dL_law_702 rfl ?_
            refine r_iconst (v := 2) C dL_law_703 (by decide) ?_
            refine r_iadd C dL_law_704 (fun v597 e598 => ?_)
            have v597' := iadd_ok e598 (by omega) (by omega)
            refine r_sldj (u101.toNatClampNeg + 2) C hX hbl hbz (by omega) (by omega) dL_law_705 ?_
            refine callVI C cwL_90_V (ctX10_bestWall_0 _ _ w104 (sS sC h105) o106.1 (xf (u101.toNatClampNeg + 1)) (xf (u101.toNatClampNeg + 2)) ) (by decide) (kS sC h105 kc_0) rfl rfl rfl (Nat.le_of_ble_eq_true rfl) (by decide) dL_law_706 (fun r601 w600 y599 => ?_)
            show V x 145 11604 w600 709 [(0, .ref b), (1, .ref (gz (xG x) + 0)), (2, .ref (gz (xG x) + 114)), (3, .int u101)] [.int r601]
            obtain ⟨h602, o603⟩ := y599
            have h604 := Ch.tr h105 h602 (by decide) (by decide)
            have o605 := OkM.ch o106.2 h602 (by decide) (by decide)
            refine r_pop C dL_law_709 rfl ?_
            refine r_aload_n 2 C dL_law_710 rfl ?_
            refine r_aload_n 0 C dL_law_711 rfl ?_
            refine r_iload_n 3 C dL_law_712 rfl ?_
            refine r_iconst (v := 1) C dL_law_713 (by decide) ?_
            refine r_iadd C dL_law_714 (fun v606 e607 => ?_)
            have v606' := iadd_ok e607 (by omega) (by omega)
            refine r_sldj (u101.toNatClampNeg + 1) C hX hbl hbz (by omega) (by omega) dL_law_715 ?_
            refine r_aload_n 0 C dL_law_716 rfl ?_
            refine r_iload_n 3 C dL_law_717 rfl ?_
            refine r_iconst (v := 2) C dL_law_718 (by decide) ?_
            refine r_iadd C dL_law_719 (fun v608 e609 => ?_)
            have v608' := iadd_ok e609 (by omega) (by omega)
            refine r_sldj (u101.toNatClampNeg + 2) C hX hbl hbz (by omega) (by omega) dL_law_720 ?_
            have b610 := Inv.get o106.2.1 rt_114_0 (j := 0) (by decide) (by decide)
            have b611 := Inv.get o106.2.1 rt_114_1 (j := 1) (by decide) (by decide)
            refine callVI C cwL_93_V (ctX11_bestWall _ _ w600 (sS sM h604) o605 (wI w104 114 0) (h602.I (by decide) (by decide) rfl) (by omega) (wI w104 114 1) (h602.I (by decide) (by decide) rfl) (by omega) (xf (u101.toNatClampNeg + 1)) (xf (u101.toNatClampNeg + 2)) ) (by decide) (kS sM h604 kc_114) rfl rfl rfl (Nat.le_of_ble_eq_true rfl) (by decide) dL_law_721 (fun r614 w613 y612 => ?_)
            show V x 145 11604 w613 724 [(0, .ref b), (1, .ref (gz (xG x) + 0)), (2, .ref (gz (xG x) + 114)), (3, .int u101)] [.int r614]
            obtain ⟨h615, o616⟩ := y612
            have h617 := Ch.tr h604 h615 (by decide) (by decide)
            have o618 := Inv.ch o603 h615 (by decide)
            refine r_pop C dL_law_724 rfl ?_
            refine r_goto 929 C dL_law_725 (by decide) ?_
            obtain ⟨i619, e620⟩ : ∃ z : Int32, u101 + Int32.ofInt 5 = z := ⟨_, rfl⟩
            have i619' := iinc_ok e620 (by decide) (by omega) (by omega)
            refine r_iinc [(3, .int i619), (0, .ref b), (1, .ref (gz (xG x) + 0)), (2, .ref (gz (xG x) + 114))] 3 C dL_law_929 rfl e620 (by decide) rfl ?_
            refine r_goto 18 C dL_law_932 (by decide) ?_
            refine r_lv [1, 2, 3, 0] rfl ?_
            exact ih110 i619 w613 h617 ⟨o618, o616⟩ (by omega) (by rw [(h615.I (by decide) (by decide) (h602.I (by decide) (by decide) rfl)), (h615.I (by decide) (by decide) (h602.I (by decide) (by decide) rfl))] <;> omega) (by omega)
          · refine r_tabIn 728 C dL_law_32 (by omega) (by omega) (by rw [c117]; rfl) (by decide) ?_
            refine r_aload_n 1 C dL_law_728 rfl ?_
            refine r_aload_n 0 C dL_law_729 rfl ?_
            refine r_iload_n 3 C dL_law_730 rfl ?_
            refine r_iconst (v := 1) C dL_law_731 (by decide) ?_
            refine r_iadd C dL_law_732 (fun v621 e622 => ?_)
            have v621' := iadd_ok e622 (by omega) (by omega)
            refine r_sldj (u101.toNatClampNeg + 1) C hX hbl hbz (by omega) (by omega) dL_law_733 ?_
            refine callVI C cwL_94_V (ctX10_wax_0 _ _ w104 (sS sC h105) o106.1 (xf (u101.toNatClampNeg + 1)) ) (by decide) (kS sC h105 kc_0) rfl rfl rfl (Nat.le_of_ble_eq_true rfl) (by decide) dL_law_734 (fun r625 w624 y623 => ?_)
            show V x 145 11604 w624 737 [(0, .ref b), (1, .ref (gz (xG x) + 0)), (2, .ref (gz (xG x) + 114)), (3, .int u101)] [.int r625]
            obtain ⟨h626, o627⟩ := y623
            have h628 := Ch.tr h105 h626 (by decide) (by decide)
            have o629 := OkM.ch o106.2 h626 (by decide) (by decide)
            refine r_pop C dL_law_737 rfl ?_
            refine r_aload_n 2 C dL_law_738 rfl ?_
            refine r_aload_n 0 C dL_law_739 rfl ?_
            refine r_iload_n 3 C dL_law_740 rfl ?_
            refine r_iconst (v := 1) C dL_law_741 (by decide) ?_
            refine r_iadd C dL_law_742 (fun v630 e631 => ?_)
            have v630' := iadd_ok e631 (by omega) (by omega)
            refine r_sldj (u101.toNatClampNeg + 1) C hX hbl hbz (by omega) (by omega) dL_law_743 ?_
            refine callVI C cwL_97_V (ctX11_wax _ _ w624 (sS sM h628) o629 (xf (u101.toNatClampNeg + 1)) ) (by decide) (kS sM h628 kc_114) rfl rfl rfl (Nat.le_of_ble_eq_true rfl) (by decide) dL_law_744 (fun r634 w633 y632 => ?_)
            show V x 145 11604 w633 747 [(0, .ref b), (1, .ref (gz (xG x) + 0)), (2, .ref (gz (xG x) + 114)), (3, .int u101)] [.int r634]
            obtain ⟨h635, o636⟩ := y632
            have h637 := Ch.tr h628 h635 (by decide) (by decide)
            have o638 := Inv.ch o627 h635 (by decide)
            refine r_pop C dL_law_747 rfl ?_
            refine r_goto 929 C dL_law_748 (by decide) ?_
            obtain ⟨i639, e640⟩ : ∃ z : Int32, u101 + Int32.ofInt 5 = z := ⟨_, rfl⟩
            have i639' := iinc_ok e640 (by decide) (by omega) (by omega)
            refine r_iinc [(3, .int i639), (0, .ref b), (1, .ref (gz (xG x) + 0)), (2, .ref (gz (xG x) + 114))] 3 C dL_law_929 rfl e640 (by decide) rfl ?_
            refine r_goto 18 C dL_law_932 (by decide) ?_
            refine r_lv [1, 2, 3, 0] rfl ?_
            exact ih110 i639 w633 h637 ⟨o638, o636⟩ (by omega) (by rw [(h635.I (by decide) (by decide) (h626.I (by decide) (by decide) rfl)), (h635.I (by decide) (by decide) (h626.I (by decide) (by decide) rfl))] <;> omega) (by omega)
          · refine r_tabIn 751 C dL_law_32 (by omega) (by omega) (by rw [c117]; rfl) (by decide) ?_
            refine r_aload_n 1 C dL_law_751 rfl ?_
            refine r_aload_n 0 C dL_law_752 rfl ?_
            refine r_iload_n 3 C dL_law_753 rfl ?_
            refine r_iconst (v := 1) C dL_law_754 (by decide) ?_
            refine r_iadd C dL_law_755 (fun v641 e642 => ?_)
            have v641' := iadd_ok e642 (by omega) (by omega)
            refine r_sldj (u101.toNatClampNeg + 1) C hX hbl hbz (by omega) (by omega) dL_law_756 ?_
            refine r_aload_n 0 C dL_law_757 rfl ?_
            refine r_iload_n 3 C dL_law_758 rfl ?_
            refine r_iconst (v := 2) C dL_law_759 (by decide) ?_
            refine r_iadd C dL_law_760 (fun v643 e644 => ?_)
            have v643' := iadd_ok e644 (by omega) (by omega)
            refine r_sldj (u101.toNatClampNeg + 2) C hX hbl hbz (by omega) (by omega) dL_law_761 ?_
            refine r_aload_n 0 C dL_law_762 rfl ?_
            refine r_iload_n 3 C dL_law_763 rfl ?_
            refine r_iconst (v := 3) C dL_law_764 (by decide) ?_
            refine r_iadd C dL_law_765 (fun v645 e646 => ?_)
            have v645' := iadd_ok e646 (by omega) (by omega)
            refine r_sldj (u101.toNatClampNeg + 3) C hX hbl hbz (by omega) (by omega) dL_law_766 ?_
            refine r_aload_n 0 C dL_law_767 rfl ?_
            refine r_iload_n 3 C dL_law_768 rfl ?_
            refine r_iconst (v := 4) C dL_law_769 (by decide) ?_
            refine r_iadd C dL_law_770 (fun v647 e648 => ?_)
            have v647' := iadd_ok e648 (by omega) (by omega)
            refine r_sldj (u101.toNatClampNeg + 4) C hX hbl hbz (by omega) (by omega) dL_law_771 ?_
            refine callVI C cwL_98_V (ctX10_see_0 _ _ w104 (sS sC h105) o106.1 (xf (u101.toNatClampNeg + 1)) (xf (u101.toNatClampNeg + 2)) (xf (u101.toNatClampNeg + 3)) (xf (u101.toNatClampNeg + 4)) ) (by decide) (kS sC h105 kc_0) rfl rfl rfl (Nat.le_of_ble_eq_true rfl) (by decide) dL_law_772 (fun r651 w650 y649 => ?_)
            show V x 145 11604 w650 775 [(0, .ref b), (1, .ref (gz (xG x) + 0)), (2, .ref (gz (xG x) + 114)), (3, .int u101)] [.int r651]
            obtain ⟨h652, o653⟩ := y649
            have h654 := Ch.tr h105 h652 (by decide) (by decide)
            have o655 := OkM.ch o106.2 h652 (by decide) (by decide)
            refine r_pop C dL_law_775 rfl ?_
            refine r_aload_n 2 C dL_law_776 rfl ?_
            refine r_aload_n 0 C dL_law_777 rfl ?_
            refine r_iload_n 3 C dL_law_778 rfl ?_
            refine r_iconst (v := 1) C dL_law_779 (by decide) ?_
            refine r_iadd C dL_law_780 (fun v656 e657 => ?_)
            have v656' := iadd_ok e657 (by omega) (by omega)
            refine r_sldj (u101.toNatClampNeg + 1) C hX hbl hbz (by omega) (by omega) dL_law_781 ?_
            refine r_aload_n 0 C dL_law_782 rfl ?_
            refine r_iload_n 3 C dL_law_783 rfl ?_
            refine r_iconst (v := 2) C dL_law_784 (by decide) ?_
            refine r_iadd C dL_law_785 (fun v658 e659 => ?_)
            have v658' := iadd_ok e659 (by omega) (by omega)
            refine r_sldj (u101.toNatClampNeg + 2) C hX hbl hbz (by omega) (by omega) dL_law_786 ?_
            refine r_aload_n 0 C dL_law_787 rfl ?_
            refine r_iload_n 3 C dL_law_788 rfl ?_
            refine r_iconst (v := 3) C dL_law_789 (by decide) ?_
            refine r_iadd C dL_law_790 (fun v660 e661 => ?_)
            have v660' := iadd_ok e661 (by omega) (by omega)
            refine r_sldj (u101.toNatClampNeg + 3) C hX hbl hbz (by omega) (by omega) dL_law_791 ?_
            refine r_aload_n 0 C dL_law_792 rfl ?_
            refine r_iload_n 3 C dL_law_793 rfl ?_
            refine r_iconst (v := 4) C dL_law_794 (by decide) ?_
            refine r_iadd C dL_law_795 (fun v662 e663 => ?_)
            have v662' := iadd_ok e663 (by omega) (by omega)
            refine r_sldj (u101.toNatClampNeg + 4) C hX hbl hbz (by omega) (by omega) dL_law_796 ?_
            have b664 := Inv.get o106.2.1 rt_114_0 (j := 0) (by decide) (by decide)
            have b665 := Inv.get o106.2.1 rt_114_1 (j := 1) (by decide) (by decide)
            refine callVI C cwL_101_V (ctX11_see _ _ w650 (sS sM h654) o655 (wI w104 114 0) (h652.I (by decide) (by decide) rfl) (by omega) (wI w104 114 1) (h652.I (by decide) (by decide) rfl) (by omega) (xf (u101.toNatClampNeg + 1)) (xf (u101.toNatClampNeg + 2)) (xf (u101.toNatClampNeg + 3)) (xf (u101.toNatClampNeg + 4)) ) (by decide) (kS sM h654 kc_114) rfl rfl rfl (Nat.le_of_ble_eq_true rfl) (by decide) dL_law_797 (fun r668 w667 y666 => ?_)
            show V x 145 11604 w667 800 [(0, .ref b), (1, .ref (gz (xG x) + 0)), (2, .ref (gz (xG x) + 114)), (3, .int u101)] [.int r668]
            obtain ⟨h669, o670⟩ := y666
            have h671 := Ch.tr h654 h669 (by decide) (by decide)
            have o672 := Inv.ch o653 h669 (by decide)
            refine r_pop C dL_law_800 rfl ?_
            refine r_goto 929 C dL_law_801 (by decide) ?_
            obtain ⟨i673, e674⟩ : ∃ z : Int32, u101 + Int32.ofInt 5 = z := ⟨_, rfl⟩
            have i673' := iinc_ok e674 (by decide) (by omega) (by omega)
            refine r_iinc [(3, .int i673), (0, .ref b), (1, .ref (gz (xG x) + 0)), (2, .ref (gz (xG x) + 114))] 3 C dL_law_929 rfl e674 (by decide) rfl ?_
            refine r_goto 18 C dL_law_932 (by decide) ?_
            refine r_lv [1, 2, 3, 0] rfl ?_
            exact ih110 i673 w667 h671 ⟨o672, o670⟩ (by omega) (by rw [(h669.I (by decide) (by decide) (h652.I (by decide) (by decide) rfl)), (h669.I (by decide) (by decide) (h652.I (by decide) (by decide) rfl))] <;> omega) (by omega)
          · refine r_tabIn 804 C dL_law_32 (by omega) (by omega) (by rw [c117]; rfl) (by decide) ?_
            refine r_aload_n 1 C dL_law_804 rfl ?_
            refine r_aload_n 0 C dL_law_805 rfl ?_
            refine r_iload_n 3 C dL_law_806 rfl ?_
            refine r_iconst (v := 1) C dL_law_807 (by decide) ?_
            refine r_iadd C dL_law_808 (fun v675 e676 => ?_)
            have v675' := iadd_ok e676 (by omega) (by omega)
            refine r_sldj (u101.toNatClampNeg + 1) C hX hbl hbz (by omega) (by omega) dL_law_809 ?_
            refine r_aload_n 0 C dL_law_810 rfl ?_
            refine r_iload_n 3 C dL_law_811 rfl ?_
            refine r_iconst (v := 2) C dL_law_812 (by decide) ?_
            refine r_iadd C dL_law_813 (fun v677 e678 => ?_)
            have v677' := iadd_ok e678 (by omega) (by omega)
            refine r_sldj (u101.toNatClampNeg + 2) C hX hbl hbz (by omega) (by omega) dL_law_814 ?_
            refine r_aload_n 0 C dL_law_815 rfl ?_
            refine r_iload_n 3 C dL_law_816 rfl ?_
            refine r_iconst (v := 3) C dL_law_817 (by decide) ?_
            refine r_iadd C dL_law_818 (fun v679 e680 => ?_)
            have v679' := iadd_ok e680 (by omega) (by omega)
            refine r_sldj (u101.toNatClampNeg + 3) C hX hbl hbz (by omega) (by omega) dL_law_819 ?_
            refine callVI C cwL_102_V (ctX10_walks_0 _ _ w104 (sS sC h105) o106.1 (xf (u101.toNatClampNeg + 1)) (xf (u101.toNatClampNeg + 2)) (xf (u101.toNatClampNeg + 3)) ) (by decide) (kS sC h105 kc_0) rfl rfl rfl (Nat.le_of_ble_eq_true rfl) (by decide) dL_law_820 (fun r683 w682 y681 => ?_)
            show V x 145 11604 w682 823 [(0, .ref b), (1, .ref (gz (xG x) + 0)), (2, .ref (gz (xG x) + 114)), (3, .int u101)] [.int r683]
            obtain ⟨h684, o685⟩ := y681
            have h686 := Ch.tr h105 h684 (by decide) (by decide)
            have o687 := OkM.ch o106.2 h684 (by decide) (by decide)
            refine r_pop C dL_law_823 rfl ?_
            refine r_aload_n 2 C dL_law_824 rfl ?_
            refine r_aload_n 0 C dL_law_825 rfl ?_
            refine r_iload_n 3 C dL_law_826 rfl ?_
            refine r_iconst (v := 1) C dL_law_827 (by decide) ?_
            refine r_iadd C dL_law_828 (fun v688 e689 => ?_)
            have v688' := iadd_ok e689 (by omega) (by omega)
            refine r_sldj (u101.toNatClampNeg + 1) C hX hbl hbz (by omega) (by omega) dL_law_829 ?_
            refine r_aload_n 0 C dL_law_830 rfl ?_
            refine r_iload_n 3 C dL_law_831 rfl ?_
            refine r_iconst (v := 2) C dL_law_832 (by decide) ?_
            refine r_iadd C dL_law_833 (fun v690 e691 => ?_)
            have v690' := iadd_ok e691 (by omega) (by omega)
            refine r_sldj (u101.toNatClampNeg + 2) C hX hbl hbz (by omega) (by omega) dL_law_834 ?_
            refine r_aload_n 0 C dL_law_835 rfl ?_
            refine r_iload_n 3 C dL_law_836 rfl ?_
            refine r_iconst (v := 3) C dL_law_837 (by decide) ?_
            refine r_iadd C dL_law_838 (fun v692 e693 => ?_)
            have v692' := iadd_ok e693 (by omega) (by omega)
            refine r_sldj (u101.toNatClampNeg + 3) C hX hbl hbz (by omega) (by omega) dL_law_839 ?_
            refine callVI C cwL_105_V (ctX11_walks _ _ w682 (sS sM h686) o687 (xf (u101.toNatClampNeg + 1)) (xf (u101.toNatClampNeg + 2)) (xf (u101.toNatClampNeg + 3)) ) (by decide) (kS sM h686 kc_114) rfl rfl rfl (Nat.le_of_ble_eq_true rfl) (by decide) dL_law_840 (fun r696 w695 y694 => ?_)
            show V x 145 11604 w695 843 [(0, .ref b), (1, .ref (gz (xG x) + 0)), (2, .ref (gz (xG x) + 114)), (3, .int u101)] [.int r696]
            obtain ⟨h697, o698⟩ := y694
            have h699 := Ch.tr h686 h697 (by decide) (by decide)
            have o700 := Inv.ch o685 h697 (by decide)
            refine r_pop C dL_law_843 rfl ?_
            refine r_goto 929 C dL_law_844 (by decide) ?_
            obtain ⟨i701, e702⟩ : ∃ z : Int32, u101 + Int32.ofInt 5 = z := ⟨_, rfl⟩
            have i701' := iinc_ok e702 (by decide) (by omega) (by omega)
            refine r_iinc [(3, .int i701), (0, .ref b), (1, .ref (gz (xG x) + 0)), (2, .ref (gz (xG x) + 114))] 3 C dL_law_929 rfl e702 (by decide) rfl ?_
            refine r_goto 18 C dL_law_932 (by decide) ?_
            refine r_lv [1, 2, 3, 0] rfl ?_
            exact ih110 i701 w695 h699 ⟨o700, o698⟩ (by omega) (by rw [(h697.I (by decide) (by decide) (h684.I (by decide) (by decide) rfl)), (h697.I (by decide) (by decide) (h684.I (by decide) (by decide) rfl))] <;> omega) (by omega)
          · refine r_tabIn 847 C dL_law_32 (by omega) (by omega) (by rw [c117]; rfl) (by decide) ?_
            refine r_aload_n 1 C dL_law_847 rfl ?_
            refine callVI C cwL_106_V (ctX10_tear_0 _ _ w104 (sS sC h105) o106.1  ) (by decide) (kS sC h105 kc_0) rfl rfl rfl (Nat.le_of_ble_eq_true rfl) (by decide) dL_law_848 (fun r705 w704 y703 => ?_)
            show V x 145 11604 w704 851 [(0, .ref b), (1, .ref (gz (xG x) + 0)), (2, .ref (gz (xG x) + 114)), (3, .int u101)] [.int r705]
            obtain ⟨h706, o707⟩ := y703
            have h708 := Ch.tr h105 h706 (by decide) (by decide)
            have o709 := OkM.ch o106.2 h706 (by decide) (by decide)
            refine r_pop C dL_law_851 rfl ?_
            refine r_aload_n 2 C dL_law_852 rfl ?_
            refine callVI C cwL_109_V (ctX11_tear _ _ w704 (sS sM h708) o709  ) (by decide) (kS sM h708 kc_114) rfl rfl rfl (Nat.le_of_ble_eq_true rfl) (by decide) dL_law_853 (fun r712 w711 y710 => ?_)
            show V x 145 11604 w711 856 [(0, .ref b), (1, .ref (gz (xG x) + 0)), (2, .ref (gz (xG x) + 114)), (3, .int u101)] [.int r712]
            obtain ⟨h713, o714⟩ := y710
            have h715 := Ch.tr h708 h713 (by decide) (by decide)
            have o716 := Inv.ch o707 h713 (by decide)
            refine r_pop C dL_law_856 rfl ?_
            refine r_goto 929 C dL_law_857 (by decide) ?_
            obtain ⟨i717, e718⟩ : ∃ z : Int32, u101 + Int32.ofInt 5 = z := ⟨_, rfl⟩
            have i717' := iinc_ok e718 (by decide) (by omega) (by omega)
            refine r_iinc [(3, .int i717), (0, .ref b), (1, .ref (gz (xG x) + 0)), (2, .ref (gz (xG x) + 114))] 3 C dL_law_929 rfl e718 (by decide) rfl ?_
            refine r_goto 18 C dL_law_932 (by decide) ?_
            refine r_lv [1, 2, 3, 0] rfl ?_
            exact ih110 i717 w711 h715 ⟨o716, o714⟩ (by omega) (by rw [(h713.I (by decide) (by decide) (h706.I (by decide) (by decide) rfl)), (h713.I (by decide) (by decide) (h706.I (by decide) (by decide) rfl))] <;> omega) (by omega)
          · refine r_tabIn 860 C dL_law_32 (by omega) (by omega) (by rw [c117]; rfl) (by decide) ?_
            refine r_aload_n 1 C dL_law_860 rfl ?_
            refine r_aload_n 0 C dL_law_861 rfl ?_
            refine r_iload_n 3 C dL_law_862 rfl ?_
            refine r_iconst (v := 1) C dL_law_863 (by decide) ?_
            refine r_iadd C dL_law_864 (fun v719 e720 => ?_)
            have v719' := iadd_ok e720 (by omega) (by omega)
            refine r_sldj (u101.toNatClampNeg + 1) C hX hbl hbz (by omega) (by omega) dL_law_865 ?_
            refine callVI C cwL_110_V (ctX10_seed_0 _ _ w104 (sS sC h105) o106.1 (xf (u101.toNatClampNeg + 1)) ) (by decide) (kS sC h105 kc_0) rfl rfl rfl (Nat.le_of_ble_eq_true rfl) (by decide) dL_law_866 (fun r723 w722 y721 => ?_)
            show V x 145 11604 w722 869 [(0, .ref b), (1, .ref (gz (xG x) + 0)), (2, .ref (gz (xG x) + 114)), (3, .int u101)] [.int r723]
            obtain ⟨h724, o725⟩ := y721
            have h726 := Ch.tr h105 h724 (by decide) (by decide)
            have o727 := OkM.ch o106.2 h724 (by decide) (by decide)
            refine r_pop C dL_law_869 rfl ?_
            refine r_aload_n 2 C dL_law_870 rfl ?_
            refine r_aload_n 0 C dL_law_871 rfl ?_
            refine r_iload_n 3 C dL_law_872 rfl ?_
            refine r_iconst (v := 1) C dL_law_873 (by decide) ?_
            refine r_iadd C dL_law_874 (fun v728 e729 => ?_)
            have v728' := iadd_ok e729 (by omega) (by omega)
            refine r_sldj (u101.toNatClampNeg + 1) C hX hbl hbz (by omega) (by omega) dL_law_875 ?_
            refine callVI C cwL_113_V (ctX11_seed _ _ w722 (sS sM h726) o727 (xf (u101.toNatClampNeg + 1)) ) (by decide) (kS sM h726 kc_114) rfl rfl rfl (Nat.le_of_ble_eq_true rfl) (by decide) dL_law_876 (fun r732 w731 y730 => ?_)
            show V x 145 11604 w731 879 [(0, .ref b), (1, .ref (gz (xG x) + 0)), (2, .ref (gz (xG x) + 114)), (3, .int u101)] [.int r732]
            obtain ⟨h733, o734⟩ := y730
            have h735 := Ch.tr h726 h733 (by decide) (by decide)
            have o736 := Inv.ch o725 h733 (by decide)
            refine r_pop C dL_law_879 rfl ?_
            refine r_goto 929 C dL_law_880 (by decide) ?_
            obtain ⟨i737, e738⟩ : ∃ z : Int32, u101 + Int32.ofInt 5 = z := ⟨_, rfl⟩
            have i737' := iinc_ok e738 (by decide) (by omega) (by omega)
            refine r_iinc [(3, .int i737), (0, .ref b), (1, .ref (gz (xG x) + 0)), (2, .ref (gz (xG x) + 114))] 3 C dL_law_929 rfl e738 (by decide) rfl ?_
            refine r_goto 18 C dL_law_932 (by decide) ?_
            refine r_lv [1, 2, 3, 0] rfl ?_
            exact ih110 i737 w731 h735 ⟨o736, o734⟩ (by omega) (by rw [(h733.I (by decide) (by decide) (h724.I (by decide) (by decide) rfl)), (h733.I (by decide) (by decide) (h724.I (by decide) (by decide) rfl))] <;> omega) (by omega)
          · refine r_tabIn 883 C dL_law_32 (by omega) (by omega) (by rw [c117]; rfl) (by decide) ?_
            refine r_aload_n 1 C dL_law_883 rfl ?_
            refine r_aload_n 0 C dL_law_884 rfl ?_
            refine r_iload_n 3 C dL_law_885 rfl ?_
            refine r_iconst (v := 1) C dL_law_886 (by decide) ?_
            refine r_iadd C dL_law_887 (fun v739 e740 => ?_)
            have v739' := iadd_ok e740 (by omega) (by omega)
            refine r_sldj (u101.toNatClampNeg + 1) C hX hbl hbz (by omega) (by omega) dL_law_888 ?_
            refine callVI C cwL_114_V (ctX10_keep_0 _ _ w104 (sS sC h105) o106.1 (xf (u101.toNatClampNeg + 1)) ) (by decide) (kS sC h105 kc_0) rfl rfl rfl (Nat.le_of_ble_eq_true rfl) (by decide) dL_law_889 (fun r743 w742 y741 => ?_)
            show V x 145 11604 w742 892 [(0, .ref b), (1, .ref (gz (xG x) + 0)), (2, .ref (gz (xG x) + 114)), (3, .int u101)] [.int r743]
            obtain ⟨h744, o745, g746⟩ := y741
            have h747 := Ch.tr h105 h744 (by decide) (by decide)
            have o748 := OkM.ch o106.2 h744 (by decide) (by decide)
            refine r_aload_n 2 C dL_law_892 rfl ?_
            refine r_aload_n 0 C dL_law_893 rfl ?_
            refine r_iload_n 3 C dL_law_894 rfl ?_
            refine r_iconst (v := 1) C dL_law_895 (by decide) ?_
            refine r_iadd C dL_law_896 (fun v749 e750 => ?_)
            have v749' := iadd_ok e750 (by omega) (by omega)
            refine r_sldj (u101.toNatClampNeg + 1) C hX hbl hbz (by omega) (by omega) dL_law_897 ?_
            refine callVI C cwL_117_V (ctX11_keep _ _ w742 (sS sM h747) o748 (xf (u101.toNatClampNeg + 1)) ) (by decide) (kS sM h747 kc_114) rfl rfl rfl (Nat.le_of_ble_eq_true rfl) (by decide) dL_law_898 (fun r753 w752 y751 => ?_)
            show V x 145 11604 w752 901 [(0, .ref b), (1, .ref (gz (xG x) + 0)), (2, .ref (gz (xG x) + 114)), (3, .int u101)] [.int r753, .int r743]
            obtain ⟨h754, o755, g756⟩ := y751
            have h757 := Ch.tr h747 h754 (by decide) (by decide)
            have o758 := Inv.ch o745 h754 (by decide)
            refine r_icmp_eq 929 C dL_law_901 (by decide) (fun c759 => ?_) (fun c759 => ?_)
            · have c759' := i_eq c759
              obtain ⟨i760, e761⟩ : ∃ z : Int32, u101 + Int32.ofInt 5 = z := ⟨_, rfl⟩
              have i760' := iinc_ok e761 (by decide) (by omega) (by omega)
              refine r_iinc [(3, .int i760), (0, .ref b), (1, .ref (gz (xG x) + 0)), (2, .ref (gz (xG x) + 114))] 3 C dL_law_929 rfl e761 (by decide) rfl ?_
              refine r_goto 18 C dL_law_932 (by decide) ?_
              refine r_lv [1, 2, 3, 0] rfl ?_
              exact ih110 i760 w752 h757 ⟨o758, o755⟩ (by omega) (by rw [(h754.I (by decide) (by decide) (h744.I (by decide) (by decide) rfl)), (h754.I (by decide) (by decide) (h744.I (by decide) (by decide) rfl))] <;> omega) (by omega)
            · have c759' := i_ne c759
              exfalso; omega
          · refine r_tabIn 906 C dL_law_32 (by omega) (by omega) (by rw [c117]; rfl) (by decide) ?_
            refine r_aload_n 1 C dL_law_906 rfl ?_
            refine r_aload_n 0 C dL_law_907 rfl ?_
            refine r_iload_n 3 C dL_law_908 rfl ?_
            refine r_iconst (v := 1) C dL_law_909 (by decide) ?_
            refine r_iadd C dL_law_910 (fun v762 e763 => ?_)
            have v762' := iadd_ok e763 (by omega) (by omega)
            refine r_sldj (u101.toNatClampNeg + 1) C hX hbl hbz (by omega) (by omega) dL_law_911 ?_
            refine callVI C cwL_118_V (ctX10_goBack_0 _ _ w104 (sS sC h105) o106.1 (xf (u101.toNatClampNeg + 1)) ) (by decide) (kS sC h105 kc_0) rfl rfl rfl (Nat.le_of_ble_eq_true rfl) (by decide) dL_law_912 (fun r766 w765 y764 => ?_)
            show V x 145 11604 w765 915 [(0, .ref b), (1, .ref (gz (xG x) + 0)), (2, .ref (gz (xG x) + 114)), (3, .int u101)] [.int r766]
            obtain ⟨h767, o768⟩ := y764
            have h769 := Ch.tr h105 h767 (by decide) (by decide)
            have o770 := OkM.ch o106.2 h767 (by decide) (by decide)
            refine r_pop C dL_law_915 rfl ?_
            refine r_aload_n 2 C dL_law_916 rfl ?_
            refine r_aload_n 0 C dL_law_917 rfl ?_
            refine r_iload_n 3 C dL_law_918 rfl ?_
            refine r_iconst (v := 1) C dL_law_919 (by decide) ?_
            refine r_iadd C dL_law_920 (fun v771 e772 => ?_)
            have v771' := iadd_ok e772 (by omega) (by omega)
            refine r_sldj (u101.toNatClampNeg + 1) C hX hbl hbz (by omega) (by omega) dL_law_921 ?_
            refine callVI C cwL_121_V (ctX11_goBack _ _ w765 (sS sM h769) o770 (xf (u101.toNatClampNeg + 1)) ) (by decide) (kS sM h769 kc_114) rfl rfl rfl (Nat.le_of_ble_eq_true rfl) (by decide) dL_law_922 (fun r775 w774 y773 => ?_)
            show V x 145 11604 w774 925 [(0, .ref b), (1, .ref (gz (xG x) + 0)), (2, .ref (gz (xG x) + 114)), (3, .int u101)] [.int r775]
            obtain ⟨h776, o777⟩ := y773
            have h778 := Ch.tr h769 h776 (by decide) (by decide)
            have o779 := Inv.ch o768 h776 (by decide)
            refine r_pop C dL_law_925 rfl ?_
            refine r_goto 929 C dL_law_926 (by decide) ?_
            obtain ⟨i780, e781⟩ : ∃ z : Int32, u101 + Int32.ofInt 5 = z := ⟨_, rfl⟩
            have i780' := iinc_ok e781 (by decide) (by omega) (by omega)
            refine r_iinc [(3, .int i780), (0, .ref b), (1, .ref (gz (xG x) + 0)), (2, .ref (gz (xG x) + 114))] 3 C dL_law_929 rfl e781 (by decide) rfl ?_
            refine r_goto 18 C dL_law_932 (by decide) ?_
            refine r_lv [1, 2, 3, 0] rfl ?_
            exact ih110 i780 w774 h778 ⟨o779, o777⟩ (by omega) (by rw [(h776.I (by decide) (by decide) (h767.I (by decide) (by decide) rfl)), (h776.I (by decide) (by decide) (h767.I (by decide) (by decide) rfl))] <;> omega) (by omega)
  refine r_iconst (v := 0) C dL_law_16 (by decide) ?_
  refine r_istore_n [(3, .int 0), (2, .ref (gz (xG x) + 114)), (1, .ref (gz (xG x) + 0)), (0, .ref b)] C dL_law_17 (by decide) rfl ?_
  refine r_lv [3, 2, 1, 0] rfl ?_
  exact LP102 4294967296 0 w3 h0 ⟨oC3, oM3⟩ (by omega) (by rw [g1, g2] <;> omega) (by omega)
