set_option maxHeartbeats 4000000 in
set_option maxRecDepth 100000 in
theorem ctX11_findFar (l : Launch) (G : Gt) (w : Wv) (sM : Str KM XM w) (o0 : OkM w) (W : Int32) (pW : wI w 114 0 = W) (bW : 0 ≤ W.toInt ∧ W.toInt ≤ 9) (D : Int32) (pD : wI w 114 1 = D) (bD : 0 ≤ D.toInt ∧ D.toInt ≤ 9)  : CtV l G yX11_findFar cX11_findFar 2 ({ frames := 4, cells := 0, slots := 0, locals := 96 } : Room) [.ref (gz G + 114)] w (fun w' => Ch [134] [] w w' ∧ OkM w') := by
  refine enterV (by decide) (Nat.le_of_ble_eq_true rfl) ?_
  intro x el eG C hnm hret
  subst el; subst eG
  show V x 0 0 w 0 [(0, .ref (gz (xG x) + 114))] []
  have h0 : Ch [134] [] w w := Ch.rf
  have q0 : (0 : Int32).toInt = 0 := by decide
  obtain ⟨rA, rB, rC, rD⟩ := (o0.2 : Rel w)
  (try simp only [pW] at rA); (try simp only [pW] at rB); (try simp only [pW] at rC); (try simp only [pW] at rD)
  (try simp only [pD] at rA); (try simp only [pD] at rB); (try simp only [pD] at rC); (try simp only [pD] at rD)
  have LP2 : ∀ (f3 : Nat) (u1 : Int32) (w4 : Wv), Ch [134] [] w w4 → OkM w4 → (0 ≤ u1.toInt ∧ u1.toInt ≤ 2147483647) → 2147483647 - u1.toInt < f3 → V x 0 0 w4 2 [(0, .ref (gz (xG x) + 114)), (1, .int u1)] [] := by
    intro f3
    induction f3 with
    | zero => intro u1 w4 h5 o6 z7 z8; exfalso; omega
    | succ f3 ih9 =>
      intro u1 w4 h5 o6 z7 z8
      refine r_iload_n 1 C dX11_findFar_2 rfl ?_
      refine r_aload_n 0 C dX11_findFar_3 rfl ?_
      refine gfX11_111 (v := W) C (kS sM h5 kc_114) (h5.I (by decide) (by decide) pW) dX11_findFar_4 ?_
      refine r_aload_n 0 C dX11_findFar_7 rfl ?_
      refine gfX11_118 (v := D) C (kS sM h5 kc_114) (h5.I (by decide) (by decide) pD) dX11_findFar_8 ?_
      refine r_imul C dX11_findFar_11 (fun v10 e11 => ?_)
      have v10' := imul_rng e11 (A := 9) (B := 9) (by omega) (by omega) (by decide)
      have k13 := i_rng u1
      refine r_icmp_ge 26 C dX11_findFar_12 (by decide) (fun c12 => ?_) (fun c12 => ?_)
      · have c12' := i_le c12
        exact hret _ _ _ dX11_findFar_26 ⟨h5, o6⟩
      · have c12' := i_nle c12
        refine r_aload_n 0 C dX11_findFar_15 rfl ?_
        refine r_iload_n 1 C dX11_findFar_16 rfl ?_
        refine callVV C cwX11_281_V (ctX11_findFarTo _ _ w4 (sS sM h5) o6 W (h5.I (by decide) (by decide) pW) (by omega) D (h5.I (by decide) (by decide) pD) (by omega) u1 (by omega)) (by decide) (kS sM h5 kc_114) rfl rfl rfl (Nat.le_of_ble_eq_true rfl) (by decide) dX11_findFar_17 (fun w15 y14 => ?_)
        show V x 0 0 w15 20 [(0, .ref (gz (xG x) + 114)), (1, .int u1)] []
        obtain ⟨h17, o18⟩ := y14
        have h19 := Ch.tr h5 h17 (by decide) (by decide)
        obtain ⟨i20, e21⟩ : ∃ z : Int32, u1 + Int32.ofInt 1 = z := ⟨_, rfl⟩
        have i20' := iinc_ok e21 (by decide) (by omega) (by omega)
        refine r_iinc [(1, .int i20), (0, .ref (gz (xG x) + 114))] 1 C dX11_findFar_20 rfl e21 (by decide) rfl ?_
        refine r_goto 2 C dX11_findFar_23 (by decide) ?_
        refine r_lv [1, 0] rfl ?_
        exact ih9 i20 w15 h19 o18 (by omega) (by omega)
  refine r_iconst (v := 0) C dX11_findFar_0 (by decide) ?_
  refine r_istore_n [(1, .int 0), (0, .ref (gz (xG x) + 114))] C dX11_findFar_1 (by decide) rfl ?_
  refine r_lv [1, 0] rfl ?_
  exact LP2 4294967296 0 w h0 o0 (by omega) (by omega)
set_option maxHeartbeats 4000000 in
set_option maxRecDepth 100000 in
theorem ctX11_town (l : Launch) (G : Gt) (w : Wv) (sM : Str KM XM w) (o0 : OkM w)  : CtI l G yX11_town cX11_town 3 .int ({ frames := 5, cells := 0, slots := 0, locals := 118 } : Room) [.ref (gz G + 114)] w (fun r w' => Ch [115, 116, 117, 118, 119, 120, 121, 122, 123, 124, 126, 127, 128, 129, 130, 131, 132, 133, 134, 144] [(114, 0), (114, 1), (114, 3), (114, 8), (114, 11), (114, 12), (114, 13), (114, 17), (114, 20), (114, 21), (114, 22), (114, 23), (114, 24), (114, 25), (114, 26), (114, 27), (114, 28), (114, 30), (114, 31), (114, 37), (114, 40), (114, 41), (114, 42), (114, 43), (114, 49), (114, 52)] w w' ∧ OkM w' ∧ wI w' 114 20 = 0) := by
  refine enterI (by decide) (Nat.le_of_ble_eq_true rfl) ?_
  intro x el eG C hret
  subst el; subst eG
  show V x 0 0 w 0 [(0, .ref (gz (xG x) + 114))] []
  have h0 : Ch [115, 116, 117, 118, 119, 120, 121, 122, 123, 124, 126, 127, 128, 129, 130, 131, 132, 133, 134, 144] [(114, 0), (114, 1), (114, 3), (114, 8), (114, 11), (114, 12), (114, 13), (114, 17), (114, 20), (114, 21), (114, 22), (114, 23), (114, 24), (114, 25), (114, 26), (114, 27), (114, 28), (114, 30), (114, 31), (114, 37), (114, 40), (114, 41), (114, 42), (114, 43), (114, 49), (114, 52)] w w := Ch.rf
  have qm10 : ((-10) : Int32).toInt = (-10) := by decide
  have qm1 : ((-1) : Int32).toInt = (-1) := by decide
  have q0 : (0 : Int32).toInt = 0 := by decide
  have q1 : (1 : Int32).toInt = 1 := by decide
  have q3 : (3 : Int32).toInt = 3 := by decide
  have q6 : (6 : Int32).toInt = 6 := by decide
  have q42 : (42 : Int32).toInt = 42 := by decide
  obtain ⟨rA, rB, rC, rD⟩ := (o0.2 : Rel w)
  have LP17 : ∀ (f18 : Nat) (u16 : Int32) (w19 : Wv), Ch [115, 116, 117, 118, 119, 120, 121, 122, 123, 124, 126, 127, 128, 129, 130, 131, 132, 133, 134, 144] [(114, 0), (114, 1), (114, 3), (114, 8), (114, 11), (114, 12), (114, 13), (114, 17), (114, 20), (114, 21), (114, 22), (114, 23), (114, 24), (114, 25), (114, 26), (114, 27), (114, 28), (114, 30), (114, 31), (114, 37), (114, 40), (114, 41), (114, 42), (114, 43), (114, 49), (114, 52)] w w19 → OkM w19 → (0 ≤ u16.toInt ∧ u16.toInt ≤ 4) → ((u16.toInt = 0 → (wI w19 114 22).toInt ≤ 500)) → 501 - (wI w19 114 22).toInt < f18 → V x 0 0 w19 16 [(0, .ref (gz (xG x) + 114)), (1, .int u16)] [] := by
    intro f18
    induction f18 with
    | zero => intro u16 w19 h20 o21 z22 z23 z24; have b0 := Inv.get o21.1 rt_114_22 (j := 22) (by decide) (by decide); exfalso; omega
    | succ f18 ih25 =>
      intro u16 w19 h20 o21 z22 z23 z24
      have JN29 : ∀ (u28 : Int32) (w30 : Wv), Ch [115, 116, 117, 118, 119, 120, 121, 122, 123, 124, 126, 127, 128, 129, 130, 131, 132, 133, 134, 144] [(114, 0), (114, 1), (114, 3), (114, 8), (114, 11), (114, 12), (114, 13), (114, 17), (114, 20), (114, 21), (114, 22), (114, 23), (114, 24), (114, 25), (114, 26), (114, 27), (114, 28), (114, 30), (114, 31), (114, 37), (114, 40), (114, 41), (114, 42), (114, 43), (114, 49), (114, 52)] w w30 → OkM w30 → (0 ≤ u28.toInt ∧ u28.toInt ≤ 4) → V x 0 0 w30 35 [(0, .ref (gz (xG x) + 114)), (1, .int u28)] [] := by
        intro u28 w30 h31 o32 z33
        obtain ⟨R34a, R34b, R34c, R34d⟩ := (o32.2 : Rel w30)
        have LP74 : ∀ (f75 : Nat) (u73 : Int32) (w76 : Wv), Ch [115, 116, 117, 118, 119, 120, 121, 122, 123, 124, 126, 127, 128, 129, 130, 131, 132, 133, 134, 144] [(114, 0), (114, 1), (114, 3), (114, 8), (114, 11), (114, 12), (114, 13), (114, 17), (114, 20), (114, 21), (114, 22), (114, 23), (114, 24), (114, 25), (114, 26), (114, 27), (114, 28), (114, 30), (114, 31), (114, 37), (114, 40), (114, 41), (114, 42), (114, 43), (114, 49), (114, 52)] w w76 → OkM w76 → (0 ≤ u73.toInt ∧ u73.toInt ≤ 2147483647) → ((wI w76 114 20).toInt = 0) → 2147483647 - u73.toInt < f75 → V x 0 0 w76 121 [(0, .ref (gz (xG x) + 114)), (2, .int u73)] [] := by
          intro f75
          induction f75 with
          | zero => intro u73 w76 h77 o78 z79 z80 z81; exfalso; omega
          | succ f75 ih82 =>
            intro u73 w76 h77 o78 z79 z80 z81
            have LP87 : ∀ (f88 : Nat) (u86 : Int32) (w89 : Wv), Ch [115, 116, 117, 118, 119, 120, 121, 122, 123, 124, 126, 127, 128, 129, 130, 131, 132, 133, 134, 144] [(114, 0), (114, 1), (114, 3), (114, 8), (114, 11), (114, 12), (114, 13), (114, 17), (114, 20), (114, 21), (114, 22), (114, 23), (114, 24), (114, 25), (114, 26), (114, 27), (114, 28), (114, 30), (114, 31), (114, 37), (114, 40), (114, 41), (114, 42), (114, 43), (114, 49), (114, 52)] w w89 → OkM w89 → (0 ≤ u86.toInt ∧ u86.toInt ≤ 2147483647) → ((wI w89 114 20).toInt = 0) → 2147483647 - u86.toInt < f88 → V x 0 0 w89 147 [(0, .ref (gz (xG x) + 114)), (2, .int u86)] [] := by
              intro f88
              induction f88 with
              | zero => intro u86 w89 h90 o91 z92 z93 z94; exfalso; omega
              | succ f88 ih95 =>
                intro u86 w89 h90 o91 z92 z93 z94
                have LP100 : ∀ (f101 : Nat) (u99 : Int32) (w102 : Wv), Ch [115, 116, 117, 118, 119, 120, 121, 122, 123, 124, 126, 127, 128, 129, 130, 131, 132, 133, 134, 144] [(114, 0), (114, 1), (114, 3), (114, 8), (114, 11), (114, 12), (114, 13), (114, 17), (114, 20), (114, 21), (114, 22), (114, 23), (114, 24), (114, 25), (114, 26), (114, 27), (114, 28), (114, 30), (114, 31), (114, 37), (114, 40), (114, 41), (114, 42), (114, 43), (114, 49), (114, 52)] w w102 → OkM w102 → (0 ≤ u99.toInt ∧ u99.toInt ≤ 2147483647) → ((wI w102 114 20).toInt = 0) → 2147483647 - u99.toInt < f101 → V x 0 0 w102 235 [(0, .ref (gz (xG x) + 114)), (2, .int u99)] [] := by
                  intro f101
                  induction f101 with
                  | zero => intro u99 w102 h103 o104 z105 z106 z107; exfalso; omega
                  | succ f101 ih108 =>
                    intro u99 w102 h103 o104 z105 z106 z107
                    obtain ⟨R109a, R109b, R109c, R109d⟩ := (o104.2 : Rel w102)
                    refine r_iload_n 1 C dX11_town_235 rfl ?_
                    refine r_iconst (v := 3) C dX11_town_236 (by decide) ?_
                    have k111 := i_rng u99
                    refine r_icmp_ge 270 C dX11_town_237 (by decide) (fun c110 => ?_) (fun c110 => ?_)
                    · have c110' := i_le c110
                      refine r_aload_n 0 C dX11_town_270 rfl ?_
                      refine r_aload_n 0 C dX11_town_271 rfl ?_
                      refine gfX11_188 (v := (wI w102 114 40)) C (kS sM h103 kc_114) rfl dX11_town_272 ?_
                      have b112 := Inv.get o104.1 rt_114_40 (j := 40) (by decide) (by decide)
                      refine r_if_ge 285 C dX11_town_275 (by decide) (fun c113 => ?_) (fun c113 => ?_)
                      · have c113' := i_le c113
                        refine r_aload_n 0 C dX11_town_285 rfl ?_
                        refine gfX11_188 (v := (wI w102 114 40)) C (kS sM h103 kc_114) rfl dX11_town_286 ?_
                        refine pfX11_259 C (kS sM h103 kc_114) dX11_town_289 (fun w114 e115 => ?_)
                        have h116 := Ch.putF h103 e115 (by decide)
                        have o117 : OkM w114 := ⟨Inv.put o104.1 e115 0 41 (by omega) (by decide), Rel.putF o104.2 e115 (by decide)⟩
                        refine r_aload_n 0 C dX11_town_292 rfl ?_
                        refine r_iconst (v := 0) C dX11_town_293 (by decide) ?_
                        refine pfX11_262 C (kS sM h116 kc_114) dX11_town_294 (fun w118 e119 => ?_)
                        have h120 := Ch.putF h116 e119 (by decide)
                        have o121 : OkM w118 := ⟨Inv.putk o117.1 e119 (by decide), Rel.putF o117.2 e119 (by decide)⟩
                        refine r_aload_n 0 C dX11_town_297 rfl ?_
                        refine r_iconst (v := 0) C dX11_town_298 (by decide) ?_
                        refine pfX11_265 C (kS sM h120 kc_114) dX11_town_299 (fun w122 e123 => ?_)
                        have h124 := Ch.putF h120 e123 (by decide)
                        have o125 : OkM w122 := ⟨Inv.put o121.1 e123 0 30 (by omega) (by decide), Rel.putF o121.2 e123 (by decide)⟩
                        refine r_aload_n 0 C dX11_town_302 rfl ?_
                        refine r_iconst (v := 0) C dX11_town_303 (by decide) ?_
                        refine pfX11_268 C (kS sM h124 kc_114) dX11_town_304 (fun w126 e127 => ?_)
                        have h128 := Ch.putF h124 e127 (by decide)
                        have o129 : OkM w126 := ⟨Inv.put o125.1 e127 0 10 (by omega) (by decide), Rel.putF o125.2 e127 (by decide)⟩
                        refine r_aload_n 0 C dX11_town_307 rfl ?_
                        refine gfX11_107 144 C (kS sM h128 kc_114) (xS sM h128 xc_114_57) dX11_town_308 ?_
                        refine r_iconst (v := 0) C dX11_town_311 (by decide) ?_
                        refine r_iconst (v := 0) C dX11_town_312 (by decide) ?_
                        refine r_zast C (kS sM h128 kc_144) (vin (by omega) (by omega)) (nar_z (z_of (by omega))) dX11_town_313 (fun w130 e131 => ?_)
                        have h132 := Ch.putS h128 e131 (by decide)
                        have o133 : OkM w130 := ⟨Inv.put0 o129.1 e131 (by decide), Rel.putS o129.2 e131 (by decide)⟩
                        refine r_aload_n 0 C dX11_town_314 rfl ?_
                        refine gfX11_107 144 C (kS sM h132 kc_114) (xS sM h132 xc_114_57) dX11_town_315 ?_
                        refine r_iconst (v := 1) C dX11_town_318 (by decide) ?_
                        refine r_iconst (v := 0) C dX11_town_319 (by decide) ?_
                        refine r_zast C (kS sM h132 kc_144) (vin (by omega) (by omega)) (nar_z (z_of (by omega))) dX11_town_320 (fun w134 e135 => ?_)
                        have h136 := Ch.putS h132 e135 (by decide)
                        have o137 : OkM w134 := ⟨Inv.put0 o133.1 e135 (by decide), Rel.putS o133.2 e135 (by decide)⟩
                        refine r_aload_n 0 C dX11_town_321 rfl ?_
                        have b138 := Inv.get o104.1 rt_114_0 (j := 0) (by decide) (by decide)
                        have b139 := Inv.get o104.1 rt_114_1 (j := 1) (by decide) (by decide)
                        refine callVV C cwX11_271_V (ctX11_findFar _ _ w134 (sS sM h136) o137 (wI w102 114 0) (g_nn e135 (by decide) (g_nn e131 (by decide) (g_nk e127 (by decide) (g_nk e123 (by decide) (g_nk e119 (by decide) (g_nk e115 (by decide) rfl)))))) (by omega) (wI w102 114 1) (g_nn e135 (by decide) (g_nn e131 (by decide) (g_nk e127 (by decide) (g_nk e123 (by decide) (g_nk e119 (by decide) (g_nk e115 (by decide) rfl)))))) (by omega)  ) (by decide) (kS sM h136 kc_114) rfl rfl rfl (Nat.le_of_ble_eq_true rfl) (by decide) dX11_town_322 (fun w141 y140 => ?_)
                        show V x 0 0 w141 325 [(0, .ref (gz (xG x) + 114)), (2, .int u99)] []
                        obtain ⟨h143, o144⟩ := y140
                        have h145 := Ch.tr h136 h143 (by decide) (by decide)
                        refine r_aload_n 0 C dX11_town_325 rfl ?_
                        refine gfX11_111 (v := (wI w102 114 0)) C (kS sM h145 kc_114) (h143.I (by decide) (by decide) (g_nn e135 (by decide) (g_nn e131 (by decide) (g_nk e127 (by decide) (g_nk e123 (by decide) (g_nk e119 (by decide) (g_nk e115 (by decide) rfl))))))) dX11_town_326 ?_
                        refine r_aload_n 0 C dX11_town_329 rfl ?_
                        refine gfX11_118 (v := (wI w102 114 1)) C (kS sM h145 kc_114) (h143.I (by decide) (by decide) (g_nn e135 (by decide) (g_nn e131 (by decide) (g_nk e127 (by decide) (g_nk e123 (by decide) (g_nk e119 (by decide) (g_nk e115 (by decide) rfl))))))) dX11_town_330 ?_
                        refine r_imul C dX11_town_333 (fun v146 e147 => ?_)
                        have v146' := imul_rng e147 (A := 9) (B := 9) (by omega) (by omega) (by decide)
                        exact hret _ _ _ _ dX11_town_334 rfl ⟨h145, o144, (by rw [(h143.I (by decide) (by decide) (g_nn e135 (by decide) (g_nn e131 (by decide) (g_nk e127 (by decide) (g_nk e123 (by decide) (g_nk e119 (by decide) (g_nk e115 (by decide) rfl)))))))]; exact i_of (by omega))⟩
                      · have c113' := i_nle c113
                        refine r_aload_n 0 C dX11_town_278 rfl ?_
                        have b148 := Inv.get o104.1 rt_114_0 (j := 0) (by decide) (by decide)
                        have b149 := Inv.get o104.1 rt_114_1 (j := 1) (by decide) (by decide)
                        refine callVI C cwX11_256_V (ctX11_firstFree _ _ w102 (sS sM h103) o104 (wI w102 114 0) rfl (by omega) (wI w102 114 1) rfl (by omega)  ) (by decide) (kS sM h103 kc_114) rfl rfl rfl (Nat.le_of_ble_eq_true rfl) (by decide) dX11_town_279 (fun r152 w151 y150 => ?_)
                        show V x 0 0 w151 282 [(0, .ref (gz (xG x) + 114)), (2, .int u99)] [.int r152, .ref (gz (xG x) + 114)]
                        obtain ⟨h153, o154, g155⟩ := y150
                        have h156 := Ch.tr h103 h153 (by decide) (by decide)
                        refine r_goto 289 C dX11_town_282 (by decide) ?_
                        refine pfX11_259 C (kS sM h156 kc_114) dX11_town_289 (fun w157 e158 => ?_)
                        have h159 := Ch.putF h156 e158 (by decide)
                        have o160 : OkM w157 := ⟨Inv.put o154.1 e158 0 41 (by omega) (by decide), Rel.putF o154.2 e158 (by decide)⟩
                        refine r_aload_n 0 C dX11_town_292 rfl ?_
                        refine r_iconst (v := 0) C dX11_town_293 (by decide) ?_
                        refine pfX11_262 C (kS sM h159 kc_114) dX11_town_294 (fun w161 e162 => ?_)
                        have h163 := Ch.putF h159 e162 (by decide)
                        have o164 : OkM w161 := ⟨Inv.putk o160.1 e162 (by decide), Rel.putF o160.2 e162 (by decide)⟩
                        refine r_aload_n 0 C dX11_town_297 rfl ?_
                        refine r_iconst (v := 0) C dX11_town_298 (by decide) ?_
                        refine pfX11_265 C (kS sM h163 kc_114) dX11_town_299 (fun w165 e166 => ?_)
                        have h167 := Ch.putF h163 e166 (by decide)
                        have o168 : OkM w165 := ⟨Inv.put o164.1 e166 0 30 (by omega) (by decide), Rel.putF o164.2 e166 (by decide)⟩
                        refine r_aload_n 0 C dX11_town_302 rfl ?_
                        refine r_iconst (v := 0) C dX11_town_303 (by decide) ?_
                        refine pfX11_268 C (kS sM h167 kc_114) dX11_town_304 (fun w169 e170 => ?_)
                        have h171 := Ch.putF h167 e170 (by decide)
                        have o172 : OkM w169 := ⟨Inv.put o168.1 e170 0 10 (by omega) (by decide), Rel.putF o168.2 e170 (by decide)⟩
                        refine r_aload_n 0 C dX11_town_307 rfl ?_
                        refine gfX11_107 144 C (kS sM h171 kc_114) (xS sM h171 xc_114_57) dX11_town_308 ?_
                        refine r_iconst (v := 0) C dX11_town_311 (by decide) ?_
                        refine r_iconst (v := 0) C dX11_town_312 (by decide) ?_
                        refine r_zast C (kS sM h171 kc_144) (vin (by omega) (by omega)) (nar_z (z_of (by omega))) dX11_town_313 (fun w173 e174 => ?_)
                        have h175 := Ch.putS h171 e174 (by decide)
                        have o176 : OkM w173 := ⟨Inv.put0 o172.1 e174 (by decide), Rel.putS o172.2 e174 (by decide)⟩
                        refine r_aload_n 0 C dX11_town_314 rfl ?_
                        refine gfX11_107 144 C (kS sM h175 kc_114) (xS sM h175 xc_114_57) dX11_town_315 ?_
                        refine r_iconst (v := 1) C dX11_town_318 (by decide) ?_
                        refine r_iconst (v := 0) C dX11_town_319 (by decide) ?_
                        refine r_zast C (kS sM h175 kc_144) (vin (by omega) (by omega)) (nar_z (z_of (by omega))) dX11_town_320 (fun w177 e178 => ?_)
                        have h179 := Ch.putS h175 e178 (by decide)
                        have o180 : OkM w177 := ⟨Inv.put0 o176.1 e178 (by decide), Rel.putS o176.2 e178 (by decide)⟩
                        refine r_aload_n 0 C dX11_town_321 rfl ?_
                        refine callVV C cwX11_271_V (ctX11_findFar _ _ w177 (sS sM h179) o180 (wI w102 114 0) (g_nn e178 (by decide) (g_nn e174 (by decide) (g_nk e170 (by decide) (g_nk e166 (by decide) (g_nk e162 (by decide) (g_nk e158 (by decide) (h153.I (by decide) (by decide) rfl))))))) (by omega) (wI w102 114 1) (g_nn e178 (by decide) (g_nn e174 (by decide) (g_nk e170 (by decide) (g_nk e166 (by decide) (g_nk e162 (by decide) (g_nk e158 (by decide) (h153.I (by decide) (by decide) rfl))))))) (by omega)  ) (by decide) (kS sM h179 kc_114) rfl rfl rfl (Nat.le_of_ble_eq_true rfl) (by decide) dX11_town_322 (fun w182 y181 => ?_)
                        show V x 0 0 w182 325 [(0, .ref (gz (xG x) + 114)), (2, .int u99)] []
                        obtain ⟨h184, o185⟩ := y181
                        have h186 := Ch.tr h179 h184 (by decide) (by decide)
                        refine r_aload_n 0 C dX11_town_325 rfl ?_
                        refine gfX11_111 (v := (wI w102 114 0)) C (kS sM h186 kc_114) (h184.I (by decide) (by decide) (g_nn e178 (by decide) (g_nn e174 (by decide) (g_nk e170 (by decide) (g_nk e166 (by decide) (g_nk e162 (by decide) (g_nk e158 (by decide) (h153.I (by decide) (by decide) rfl)))))))) dX11_town_326 ?_
                        refine r_aload_n 0 C dX11_town_329 rfl ?_
                        refine gfX11_118 (v := (wI w102 114 1)) C (kS sM h186 kc_114) (h184.I (by decide) (by decide) (g_nn e178 (by decide) (g_nn e174 (by decide) (g_nk e170 (by decide) (g_nk e166 (by decide) (g_nk e162 (by decide) (g_nk e158 (by decide) (h153.I (by decide) (by decide) rfl)))))))) dX11_town_330 ?_
                        refine r_imul C dX11_town_333 (fun v187 e188 => ?_)
                        have v187' := imul_rng e188 (A := 9) (B := 9) (by omega) (by omega) (by decide)
                        exact hret _ _ _ _ dX11_town_334 rfl ⟨h186, o185, (by rw [(h184.I (by decide) (by decide) (g_nn e178 (by decide) (g_nn e174 (by decide) (g_nk e170 (by decide) (g_nk e166 (by decide) (g_nk e162 (by decide) (g_nk e158 (by decide) (h153.I (by decide) (by decide) rfl))))))))]; exact i_of (by omega))⟩
                    · have c110' := i_nle c110
                      refine r_aload_n 0 C dX11_town_240 rfl ?_
                      refine gfX11_25 120 C (kS sM h103 kc_114) (xS sM h103 xc_114_9) dX11_town_241 ?_
                      refine r_iload_n 1 C dX11_town_244 rfl ?_
                      refine r_aload_n 0 C dX11_town_245 rfl ?_
                      refine gfX11_71 132 C (kS sM h103 kc_114) (xS sM h103 xc_114_38) dX11_town_246 ?_
                      refine r_iload_n 1 C dX11_town_249 rfl ?_
                      refine r_iald C (kS sM h103 kc_132) (vin (by omega) (by omega)) dX11_town_250 ?_
                      generalize (wI w102 132 (u99).toNatClampNeg) = v189
                      refine r_iast C (kS sM h103 kc_120) (vin (by omega) (by omega)) dX11_town_251 (fun w190 e191 => ?_)
                      have h192 := Ch.putS h103 e191 (by decide)
                      have o193 : OkM w190 := ⟨Inv.put0 o104.1 e191 (by decide), Rel.putS o104.2 e191 (by decide)⟩
                      refine r_aload_n 0 C dX11_town_252 rfl ?_
                      refine gfX11_28 121 C (kS sM h192 kc_114) (xS sM h192 xc_114_10) dX11_town_253 ?_
                      refine r_iload_n 1 C dX11_town_256 rfl ?_
                      refine r_aload_n 0 C dX11_town_257 rfl ?_
                      refine gfX11_74 133 C (kS sM h192 kc_114) (xS sM h192 xc_114_39) dX11_town_258 ?_
                      refine r_iload_n 1 C dX11_town_261 rfl ?_
                      refine r_iald C (kS sM h192 kc_133) (vin (by omega) (by omega)) dX11_town_262 ?_
                      generalize (wI w190 133 (u99).toNatClampNeg) = v194
                      refine r_iast C (kS sM h192 kc_121) (vin (by omega) (by omega)) dX11_town_263 (fun w195 e196 => ?_)
                      have h197 := Ch.putS h192 e196 (by decide)
                      have o198 : OkM w195 := ⟨Inv.put0 o193.1 e196 (by decide), Rel.putS o193.2 e196 (by decide)⟩
                      obtain ⟨i199, e200⟩ : ∃ z : Int32, u99 + Int32.ofInt 1 = z := ⟨_, rfl⟩
                      have i199' := iinc_ok e200 (by decide) (by omega) (by omega)
                      refine r_iinc [(2, .int i199), (0, .ref (gz (xG x) + 114))] 1 C dX11_town_264 rfl e200 (by decide) rfl ?_
                      refine r_goto 235 C dX11_town_267 (by decide) ?_
                      refine r_lv [1, 0] rfl ?_
                      exact ih108 i199 w195 h197 o198 (by omega) (by rw [(g_nn e196 (by decide) (g_nn e191 (by decide) rfl))]; omega) (by omega)
                obtain ⟨R96a, R96b, R96c, R96d⟩ := (o91.2 : Rel w89)
                refine r_iload_n 1 C dX11_town_147 rfl ?_
                refine r_bipush (v := 6) C dX11_town_148 (by decide) ?_
                have k98 := i_rng u86
                refine r_icmp_ge 233 C dX11_town_150 (by decide) (fun c97 => ?_) (fun c97 => ?_)
                · have c97' := i_le c97
                  refine r_iconst (v := 0) C dX11_town_233 (by decide) ?_
                  refine r_istore_n [(2, .int 0), (0, .ref (gz (xG x) + 114))] C dX11_town_234 (by decide) rfl ?_
                  refine r_lv [1, 0] rfl ?_
                  exact LP100 4294967296 0 w89 h90 o91 (by omega) (by omega) (by omega)
                · have c97' := i_nle c97
                  refine r_aload_n 0 C dX11_town_153 rfl ?_
                  refine gfX11_13 116 C (kS sM h90 kc_114) (xS sM h90 xc_114_4) dX11_town_154 ?_
                  refine r_iload_n 1 C dX11_town_157 rfl ?_
                  refine r_aload_n 0 C dX11_town_158 rfl ?_
                  refine gfX11_56 127 C (kS sM h90 kc_114) (xS sM h90 xc_114_32) dX11_town_159 ?_
                  refine r_iload_n 1 C dX11_town_162 rfl ?_
                  refine r_iald C (kS sM h90 kc_127) (vin (by omega) (by omega)) dX11_town_163 ?_
                  generalize (wI w89 127 (u86).toNatClampNeg) = v201
                  refine r_iast C (kS sM h90 kc_116) (vin (by omega) (by omega)) dX11_town_164 (fun w202 e203 => ?_)
                  have h204 := Ch.putS h90 e203 (by decide)
                  have o205 : OkM w202 := ⟨Inv.put0 o91.1 e203 (by decide), Rel.putS o91.2 e203 (by decide)⟩
                  refine r_aload_n 0 C dX11_town_165 rfl ?_
                  refine gfX11_16 117 C (kS sM h204 kc_114) (xS sM h204 xc_114_5) dX11_town_166 ?_
                  refine r_iload_n 1 C dX11_town_169 rfl ?_
                  refine r_aload_n 0 C dX11_town_170 rfl ?_
                  refine gfX11_62 129 C (kS sM h204 kc_114) (xS sM h204 xc_114_34) dX11_town_171 ?_
                  refine r_iload_n 1 C dX11_town_174 rfl ?_
                  refine r_iald C (kS sM h204 kc_129) (vin (by omega) (by omega)) dX11_town_175 ?_
                  generalize (wI w202 129 (u86).toNatClampNeg) = v206
                  refine r_iast C (kS sM h204 kc_117) (vin (by omega) (by omega)) dX11_town_176 (fun w207 e208 => ?_)
                  have h209 := Ch.putS h204 e208 (by decide)
                  have o210 : OkM w207 := ⟨Inv.put0 o205.1 e208 (by decide), Rel.putS o205.2 e208 (by decide)⟩
                  refine r_aload_n 0 C dX11_town_177 rfl ?_
                  refine gfX11_19 118 C (kS sM h209 kc_114) (xS sM h209 xc_114_6) dX11_town_178 ?_
                  refine r_iload_n 1 C dX11_town_181 rfl ?_
                  refine r_aload_n 0 C dX11_town_182 rfl ?_
                  refine gfX11_65 130 C (kS sM h209 kc_114) (xS sM h209 xc_114_35) dX11_town_183 ?_
                  refine r_iload_n 1 C dX11_town_186 rfl ?_
                  refine r_iald C (kS sM h209 kc_130) (vin (by omega) (by omega)) dX11_town_187 ?_
                  generalize (wI w207 130 (u86).toNatClampNeg) = v211
                  refine r_iast C (kS sM h209 kc_118) (vin (by omega) (by omega)) dX11_town_188 (fun w212 e213 => ?_)
                  have h214 := Ch.putS h209 e213 (by decide)
                  have o215 : OkM w212 := ⟨Inv.put0 o210.1 e213 (by decide), Rel.putS o210.2 e213 (by decide)⟩
                  refine r_aload_n 0 C dX11_town_189 rfl ?_
                  refine gfX11_22 119 C (kS sM h214 kc_114) (xS sM h214 xc_114_7) dX11_town_190 ?_
                  refine r_iload_n 1 C dX11_town_193 rfl ?_
                  refine r_aload_n 0 C dX11_town_194 rfl ?_
                  refine gfX11_68 131 C (kS sM h214 kc_114) (xS sM h214 xc_114_36) dX11_town_195 ?_
                  refine r_iload_n 1 C dX11_town_198 rfl ?_
                  refine r_iald C (kS sM h214 kc_131) (vin (by omega) (by omega)) dX11_town_199 ?_
                  generalize (wI w212 131 (u86).toNatClampNeg) = v216
                  refine r_iast C (kS sM h214 kc_119) (vin (by omega) (by omega)) dX11_town_200 (fun w217 e218 => ?_)
                  have h219 := Ch.putS h214 e218 (by decide)
                  have o220 : OkM w217 := ⟨Inv.put0 o215.1 e218 (by decide), Rel.putS o215.2 e218 (by decide)⟩
                  refine r_aload_n 0 C dX11_town_201 rfl ?_
                  refine gfX11_38 122 C (kS sM h219 kc_114) (xS sM h219 xc_114_14) dX11_town_202 ?_
                  refine r_iload_n 1 C dX11_town_205 rfl ?_
                  refine r_aload_n 0 C dX11_town_206 rfl ?_
                  refine gfX11_59 128 C (kS sM h219 kc_114) (xS sM h219 xc_114_33) dX11_town_207 ?_
                  refine r_iload_n 1 C dX11_town_210 rfl ?_
                  refine r_iald C (kS sM h219 kc_128) (vin (by omega) (by omega)) dX11_town_211 ?_
                  have b222 := Inv.geta o220.1 rt_128_0 (i := u86) (by omega) (by omega) (by omega)
                  generalize (wI w217 128 (u86).toNatClampNeg) = v221 at b222 ⊢
                  refine r_iast C (kS sM h219 kc_122) (vin (by omega) (by omega)) dX11_town_212 (fun w223 e224 => ?_)
                  have h225 := Ch.putS h219 e224 (by decide)
                  have o226 : OkM w223 := ⟨Inv.putR o220.1 e224 0 5 (by omega) (by omega) 0 41 (by omega) (by decide), Rel.putS o220.2 e224 (by decide)⟩
                  refine r_aload_n 0 C dX11_town_213 rfl ?_
                  refine gfX11_41 123 C (kS sM h225 kc_114) (xS sM h225 xc_114_15) dX11_town_214 ?_
                  refine r_iload_n 1 C dX11_town_217 rfl ?_
                  refine r_iconst (v := (-1)) C dX11_town_218 (by decide) ?_
                  refine r_iast C (kS sM h225 kc_123) (vin (by omega) (by omega)) dX11_town_219 (fun w227 e228 => ?_)
                  have h229 := Ch.putS h225 e228 (by decide)
                  have o230 : OkM w227 := ⟨Inv.putR o226.1 e228 0 5 (by omega) (by omega) (-1) 41 (by omega) (by decide), Rel.putS o226.2 e228 (by decide)⟩
                  refine r_aload_n 0 C dX11_town_220 rfl ?_
                  refine gfX11_44 124 C (kS sM h229 kc_114) (xS sM h229 xc_114_16) dX11_town_221 ?_
                  refine r_iload_n 1 C dX11_town_224 rfl ?_
                  refine r_iconst (v := 0) C dX11_town_225 (by decide) ?_
                  refine r_iast C (kS sM h229 kc_124) (vin (by omega) (by omega)) dX11_town_226 (fun w231 e232 => ?_)
                  have h233 := Ch.putS h229 e232 (by decide)
                  have o234 : OkM w231 := ⟨Inv.put0 o230.1 e232 (by decide), Rel.putS o230.2 e232 (by decide)⟩
                  obtain ⟨i235, e236⟩ : ∃ z : Int32, u86 + Int32.ofInt 1 = z := ⟨_, rfl⟩
                  have i235' := iinc_ok e236 (by decide) (by omega) (by omega)
                  refine r_iinc [(2, .int i235), (0, .ref (gz (xG x) + 114))] 1 C dX11_town_227 rfl e236 (by decide) rfl ?_
                  refine r_goto 147 C dX11_town_230 (by decide) ?_
                  refine r_lv [1, 0] rfl ?_
                  exact ih95 i235 w231 h233 o234 (by omega) (by rw [(g_nn e232 (by decide) (g_nn e228 (by decide) (g_nn e224 (by decide) (g_nn e218 (by decide) (g_nn e213 (by decide) (g_nn e208 (by decide) (g_nn e203 (by decide) rfl)))))))]; omega) (by omega)
            obtain ⟨R83a, R83b, R83c, R83d⟩ := (o78.2 : Rel w76)
            refine r_iload_n 1 C dX11_town_121 rfl ?_
            refine r_bipush (v := 42) C dX11_town_122 (by decide) ?_
            have k85 := i_rng u73
            refine r_icmp_ge 145 C dX11_town_124 (by decide) (fun c84 => ?_) (fun c84 => ?_)
            · have c84' := i_le c84
              refine r_iconst (v := 0) C dX11_town_145 (by decide) ?_
              refine r_istore_n [(2, .int 0), (0, .ref (gz (xG x) + 114))] C dX11_town_146 (by decide) rfl ?_
              refine r_lv [1, 0] rfl ?_
              exact LP87 4294967296 0 w76 h77 o78 (by omega) (by omega) (by omega)
            · have c84' := i_nle c84
              refine r_aload_n 0 C dX11_town_127 rfl ?_
              refine gfX11_7 115 C (kS sM h77 kc_114) (xS sM h77 xc_114_2) dX11_town_128 ?_
              refine r_iload_n 1 C dX11_town_131 rfl ?_
              refine r_aload_n 0 C dX11_town_132 rfl ?_
              refine gfX11_53 126 C (kS sM h77 kc_114) (xS sM h77 xc_114_29) dX11_town_133 ?_
              refine r_iload_n 1 C dX11_town_136 rfl ?_
              refine r_iald C (kS sM h77 kc_126) (vin (by omega) (by omega)) dX11_town_137 ?_
              generalize (wI w76 126 (u73).toNatClampNeg) = v237
              refine r_iast C (kS sM h77 kc_115) (vin (by omega) (by omega)) dX11_town_138 (fun w238 e239 => ?_)
              have h240 := Ch.putS h77 e239 (by decide)
              have o241 : OkM w238 := ⟨Inv.put0 o78.1 e239 (by decide), Rel.putS o78.2 e239 (by decide)⟩
              obtain ⟨i242, e243⟩ : ∃ z : Int32, u73 + Int32.ofInt 1 = z := ⟨_, rfl⟩
              have i242' := iinc_ok e243 (by decide) (by omega) (by omega)
              refine r_iinc [(2, .int i242), (0, .ref (gz (xG x) + 114))] 1 C dX11_town_139 rfl e243 (by decide) rfl ?_
              refine r_goto 121 C dX11_town_142 (by decide) ?_
              refine r_lv [1, 0] rfl ?_
              exact ih82 i242 w238 h240 o241 (by omega) (by rw [(g_nn e239 (by decide) rfl)]; omega) (by omega)
        refine r_aload_n 0 C dX11_town_35 rfl ?_
        refine r_iconst (v := 0) C dX11_town_36 (by decide) ?_
        refine pfX11_130 C (kS sM h31 kc_114) dX11_town_37 (fun w35 e36 => ?_)
        have h37 := Ch.putF h31 e36 (by decide)
        have o38 : OkM w35 := ⟨Inv.put o32.1 e36 0 500 (by omega) (by decide), Rel.putF o32.2 e36 (by decide)⟩
        refine r_iload_n 1 C dX11_town_40 rfl ?_
        refine r_if_le 49 C dX11_town_41 (by decide) (fun c39 => ?_) (fun c39 => ?_)
        · have c39' := i_le c39
          refine r_aload_n 0 C dX11_town_49 rfl ?_
          refine r_aload_n 0 C dX11_town_50 rfl ?_
          refine gfX11_179 (v := (wI w30 114 27)) C (kS sM h37 kc_114) (g_nk e36 (by decide) rfl) dX11_town_51 ?_
          have b40 := Inv.get o32.1 rt_114_27 (j := 27) (by decide) (by decide)
          refine pfX11_111 C (kS sM h37 kc_114) dX11_town_54 (fun w41 e42 => ?_)
          have h43 := Ch.putF h37 e42 (by decide)
          have o44 := Inv.put o38.1 e42 0 9 (by omega) (by decide)
          refine r_aload_n 0 C dX11_town_57 rfl ?_
          refine r_aload_n 0 C dX11_town_58 rfl ?_
          refine gfX11_182 (v := (wI w30 114 28)) C (kS sM h43 kc_114) (g_nk e42 (by decide) (g_nk e36 (by decide) rfl)) dX11_town_59 ?_
          have b45 := Inv.get o32.1 rt_114_28 (j := 28) (by decide) (by decide)
          refine pfX11_118 C (kS sM h43 kc_114) dX11_town_62 (fun w46 e47 => ?_)
          have h48 := Ch.putF h43 e47 (by decide)
          have o49 := Inv.put o44 e47 0 9 (by omega) (by decide)
          refine r_aload_n 0 C dX11_town_65 rfl ?_
          refine r_aload_n 0 C dX11_town_66 rfl ?_
          refine gfX11_191 (v := (wI w30 114 31)) C (kS sM h48 kc_114) (g_nk e47 (by decide) (g_nk e42 (by decide) (g_nk e36 (by decide) rfl))) dX11_town_67 ?_
          have b50 := Inv.get o32.1 rt_114_31 (j := 31) (by decide) (by decide)
          refine pfX11_121 C (kS sM h48 kc_114) dX11_town_70 (fun w51 e52 => ?_)
          have h53 := Ch.putF h48 e52 (by decide)
          have o54 := Inv.put o49 e52 0 6 (by omega) (by decide)
          have o55 : OkM w51 := ⟨o54, Rel.of (g_nk e52 (by decide) (g_nk e47 (by decide) (g_eq e42))) (g_nk e52 (by decide) (g_eq e47)) (g_nk e52 (by decide) (g_nk e47 (by decide) (g_nk e42 (by decide) (g_nk e36 (by decide) rfl)))) (g_nk e52 (by decide) (g_nk e47 (by decide) (g_nk e42 (by decide) (g_nk e36 (by decide) rfl)))) (g_eq e52) (g_nk e52 (by decide) (g_nk e47 (by decide) (g_nk e42 (by decide) (g_nk e36 (by decide) rfl)))) (by first | omega | (simp only [q0]; omega)) (by first | omega | (simp only [q0]; omega)) (by first | omega | (simp only [q0]; omega)) (by first | omega | (simp only [q0]; omega))⟩
          refine r_aload_n 0 C dX11_town_73 rfl ?_
          refine r_aload_n 0 C dX11_town_74 rfl ?_
          refine gfX11_208 (v := (wI w30 114 37)) C (kS sM h53 kc_114) (g_nk e52 (by decide) (g_nk e47 (by decide) (g_nk e42 (by decide) (g_nk e36 (by decide) rfl)))) dX11_town_75 ?_
          have b56 := Inv.get o32.1 rt_114_37 (j := 37) (by decide) (by decide)
          refine pfX11_124 C (kS sM h53 kc_114) dX11_town_78 (fun w57 e58 => ?_)
          have h59 := Ch.putF h53 e58 (by decide)
          have o60 : OkM w57 := ⟨Inv.put o55.1 e58 0 3 (by omega) (by decide), Rel.putF o55.2 e58 (by decide)⟩
          refine r_aload_n 0 C dX11_town_81 rfl ?_
          refine r_aload_n 0 C dX11_town_82 rfl ?_
          refine gfX11_211 (v := (wI w30 114 41)) C (kS sM h59 kc_114) (g_nk e58 (by decide) (g_nk e52 (by decide) (g_nk e47 (by decide) (g_nk e42 (by decide) (g_nk e36 (by decide) rfl))))) dX11_town_83 ?_
          refine r_if_ge 93 C dX11_town_86 (by decide) (fun c61 => ?_) (fun c61 => ?_)
          · have c61' := i_le c61
            refine r_aload_n 0 C dX11_town_93 rfl ?_
            refine gfX11_211 (v := (wI w30 114 41)) C (kS sM h59 kc_114) (g_nk e58 (by decide) (g_nk e52 (by decide) (g_nk e47 (by decide) (g_nk e42 (by decide) (g_nk e36 (by decide) rfl))))) dX11_town_94 ?_
            refine pfX11_31 C (kS sM h59 kc_114) dX11_town_97 (fun w62 e63 => ?_)
            have h64 := Ch.putF h59 e63 (by decide)
            have k66 := i_rng (wI w30 114 41)
            have o65 : OkM w62 := ⟨Inv.putk o60.1 e63 (by decide), Rel.putF o60.2 e63 (by decide)⟩
            refine r_aload_n 0 C dX11_town_100 rfl ?_
            refine r_aload_n 0 C dX11_town_101 rfl ?_
            refine gfX11_211 (v := (wI w30 114 41)) C (kS sM h64 kc_114) (g_nk e63 (by decide) (g_nk e58 (by decide) (g_nk e52 (by decide) (g_nk e47 (by decide) (g_nk e42 (by decide) (g_nk e36 (by decide) rfl)))))) dX11_town_102 ?_
            refine r_if_ge 112 C dX11_town_105 (by decide) (fun c67 => ?_) (fun c67 => ?_)
            · have c67' := i_le c67
              refine r_aload_n 0 C dX11_town_112 rfl ?_
              refine gfX11_214 (v := (wI w30 114 42)) C (kS sM h64 kc_114) (g_nk e63 (by decide) (g_nk e58 (by decide) (g_nk e52 (by decide) (g_nk e47 (by decide) (g_nk e42 (by decide) (g_nk e36 (by decide) rfl)))))) dX11_town_113 ?_
              refine pfX11_35 C (kS sM h64 kc_114) dX11_town_116 (fun w68 e69 => ?_)
              have h70 := Ch.putF h64 e69 (by decide)
              have k72 := i_rng (wI w30 114 42)
              have o71 : OkM w68 := ⟨Inv.putk o65.1 e69 (by decide), Rel.putF o65.2 e69 (by decide)⟩
              refine r_iconst (v := 0) C dX11_town_119 (by decide) ?_
              refine r_istore_n [(2, .int 0), (0, .ref (gz (xG x) + 114)), (1, .int u28)] C dX11_town_120 (by decide) rfl ?_
              refine r_lv [1, 0] rfl ?_
              exact LP74 4294967296 0 w68 h70 o71 (by omega) (by rw [(g_nk e69 (by decide) (g_nk e63 (by decide) (g_nk e58 (by decide) (g_nk e52 (by decide) (g_nk e47 (by decide) (g_nk e42 (by decide) (g_eq e36)))))))]; omega) (by omega)
            · have c67' := i_nle c67
              refine r_iconst (v := 1) C dX11_town_108 (by decide) ?_
              refine r_goto 116 C dX11_town_109 (by decide) ?_
              refine pfX11_35 C (kS sM h64 kc_114) dX11_town_116 (fun w244 e245 => ?_)
              have h246 := Ch.putF h64 e245 (by decide)
              have o247 : OkM w244 := ⟨Inv.putk o65.1 e245 (by decide), Rel.putF o65.2 e245 (by decide)⟩
              refine r_iconst (v := 0) C dX11_town_119 (by decide) ?_
              refine r_istore_n [(2, .int 0), (0, .ref (gz (xG x) + 114)), (1, .int u28)] C dX11_town_120 (by decide) rfl ?_
              refine r_lv [1, 0] rfl ?_
              exact LP74 4294967296 0 w244 h246 o247 (by omega) (by rw [(g_nk e245 (by decide) (g_nk e63 (by decide) (g_nk e58 (by decide) (g_nk e52 (by decide) (g_nk e47 (by decide) (g_nk e42 (by decide) (g_eq e36)))))))]; omega) (by omega)
          · have c61' := i_nle c61
            refine r_iconst (v := 1) C dX11_town_89 (by decide) ?_
            refine r_goto 97 C dX11_town_90 (by decide) ?_
            refine pfX11_31 C (kS sM h59 kc_114) dX11_town_97 (fun w248 e249 => ?_)
            have h250 := Ch.putF h59 e249 (by decide)
            have o251 : OkM w248 := ⟨Inv.putk o60.1 e249 (by decide), Rel.putF o60.2 e249 (by decide)⟩
            refine r_aload_n 0 C dX11_town_100 rfl ?_
            refine r_aload_n 0 C dX11_town_101 rfl ?_
            refine gfX11_211 (v := (wI w30 114 41)) C (kS sM h250 kc_114) (g_nk e249 (by decide) (g_nk e58 (by decide) (g_nk e52 (by decide) (g_nk e47 (by decide) (g_nk e42 (by decide) (g_nk e36 (by decide) rfl)))))) dX11_town_102 ?_
            refine r_if_ge 112 C dX11_town_105 (by decide) (fun c252 => ?_) (fun c252 => ?_)
            · have c252' := i_le c252
              refine r_aload_n 0 C dX11_town_112 rfl ?_
              refine gfX11_214 (v := (wI w30 114 42)) C (kS sM h250 kc_114) (g_nk e249 (by decide) (g_nk e58 (by decide) (g_nk e52 (by decide) (g_nk e47 (by decide) (g_nk e42 (by decide) (g_nk e36 (by decide) rfl)))))) dX11_town_113 ?_
              refine pfX11_35 C (kS sM h250 kc_114) dX11_town_116 (fun w253 e254 => ?_)
              have h255 := Ch.putF h250 e254 (by decide)
              have k257 := i_rng (wI w30 114 42)
              have o256 : OkM w253 := ⟨Inv.putk o251.1 e254 (by decide), Rel.putF o251.2 e254 (by decide)⟩
              refine r_iconst (v := 0) C dX11_town_119 (by decide) ?_
              refine r_istore_n [(2, .int 0), (0, .ref (gz (xG x) + 114)), (1, .int u28)] C dX11_town_120 (by decide) rfl ?_
              refine r_lv [1, 0] rfl ?_
              exact LP74 4294967296 0 w253 h255 o256 (by omega) (by rw [(g_nk e254 (by decide) (g_nk e249 (by decide) (g_nk e58 (by decide) (g_nk e52 (by decide) (g_nk e47 (by decide) (g_nk e42 (by decide) (g_eq e36)))))))]; omega) (by omega)
            · have c252' := i_nle c252
              refine r_iconst (v := 1) C dX11_town_108 (by decide) ?_
              refine r_goto 116 C dX11_town_109 (by decide) ?_
              refine pfX11_35 C (kS sM h250 kc_114) dX11_town_116 (fun w258 e259 => ?_)
              have h260 := Ch.putF h250 e259 (by decide)
              have o261 : OkM w258 := ⟨Inv.putk o251.1 e259 (by decide), Rel.putF o251.2 e259 (by decide)⟩
              refine r_iconst (v := 0) C dX11_town_119 (by decide) ?_
              refine r_istore_n [(2, .int 0), (0, .ref (gz (xG x) + 114)), (1, .int u28)] C dX11_town_120 (by decide) rfl ?_
              refine r_lv [1, 0] rfl ?_
              exact LP74 4294967296 0 w258 h260 o261 (by omega) (by rw [(g_nk e259 (by decide) (g_nk e249 (by decide) (g_nk e58 (by decide) (g_nk e52 (by decide) (g_nk e47 (by decide) (g_nk e42 (by decide) (g_eq e36)))))))]; omega) (by omega)
        · have c39' := i_nle c39
          refine r_bipush (v := (-10)) C dX11_town_44 (by decide) ?_
          refine r_iload_n 1 C dX11_town_46 rfl ?_
          refine r_isub C dX11_town_47 (fun v262 e263 => ?_)
          have v262' := isub_ok e263 (by omega) (by omega)
          exact hret _ _ _ _ dX11_town_48 rfl ⟨h37, o38, (g_eq e36)⟩
      obtain ⟨R26a, R26b, R26c, R26d⟩ := (o21.2 : Rel w19)
      refine r_iload_n 1 C dX11_town_16 rfl ?_
      refine r_if_ne 35 C dX11_town_17 (by decide) (fun c27 => ?_) (fun c27 => ?_)
      · have c27' := i_ne c27
        refine r_lv [0, 1] rfl ?_
        exact JN29 u16 w19 h20 o21 (by omega)
      · have c27' := i_eq c27
        refine r_aload_n 0 C dX11_town_20 rfl ?_
        have b264 := Inv.get o21.1 rt_114_22 (j := 22) (by decide) (by decide)
        have b265 := Inv.get o21.1 rt_114_20 (j := 20) (by decide) (by decide)
        refine callVI C cwX11_139_V (ctX11_here _ _ w19 (sS sM h20) o21 (wI w19 114 22) rfl (by omega) (wI w19 114 20) rfl (by omega)  ) (by decide) (kS sM h20 kc_114) rfl rfl rfl (Nat.le_of_ble_eq_true rfl) (by decide) dX11_town_21 (fun r268 w267 y266 => ?_)
        show V x 0 0 w267 24 [(0, .ref (gz (xG x) + 114)), (1, .int u16)] [.int r268]
        obtain ⟨h269, o270, f271⟩ := y266
        have h272 := Ch.tr h20 h269 (by decide) (by decide)
        refine r_if_lt 35 C dX11_town_24 (by decide) (fun c273 => ?_) (fun c273 => ?_)
        · have c273' := i_lt c273
          refine r_lv [0, 1] rfl ?_
          exact JN29 u16 w267 h272 o270 (by omega)
        · have c273' := i_nlt c273
          refine r_aload_n 0 C dX11_town_27 rfl ?_
          have b274 := Inv.get o270.1 rt_114_22 (j := 22) (by decide) (by decide)
          refine callVI C cwX11_253_V (ctX11_takeClause _ _ w267 (sS sM h272) o270 (wI w267 114 22) rfl (by omega) (wI w19 114 20) (h269.I (by decide) (by decide) rfl) (by omega)  ) (by decide) (kS sM h272 kc_114) rfl rfl rfl (Nat.le_of_ble_eq_true rfl) (by decide) dX11_town_28 (fun r277 w276 y275 => ?_)
          show V x 0 0 w276 31 [(0, .ref (gz (xG x) + 114)), (1, .int u16)] [.int r277]
          obtain ⟨h278, o279, f280, g281⟩ := y275
          have h282 := Ch.tr h272 h278 (by decide) (by decide)
          obtain ⟨R283a, R283b, R283c, R283d⟩ := (o279.2 : Rel w276)
          refine r_istore_n [(1, .int r277), (0, .ref (gz (xG x) + 114))] C dX11_town_31 (by decide) rfl ?_
          refine r_goto 16 C dX11_town_32 (by decide) ?_
          by_cases c284 : r277.toInt = 0
          · have c284' := c284
            refine r_lv [1, 0] rfl ?_
            have b285 := Inv.get o279.1 rt_114_22 (j := 22) (by decide) (by decide)
            exact ih25 r277 w276 h282 o279 (by omega) (by omega) (by omega)
          · have c284' := c284
            refine r_iload_n 0 C dX11_town_16 rfl ?_
            refine r_if_ne 35 C dX11_town_17 (by decide) (fun c286 => ?_) (fun c286 => ?_)
            · have c286' := i_ne c286
              refine r_lv [1, 0] rfl ?_
              exact JN29 r277 w276 h282 o279 (by omega)
            · have c286' := i_eq c286
              exfalso; omega
  refine r_aload_n 0 C dX11_town_0 rfl ?_
  refine r_iconst (v := (-1)) C dX11_town_1 (by decide) ?_
  refine pfX11_50 C (kS sM h0 kc_114) dX11_town_2 (fun w1 e2 => ?_)
  have h3 := Ch.putF h0 e2 (by decide)
  have o4 : OkM w1 := ⟨Inv.putk o0.1 e2 (by decide), Rel.putF o0.2 e2 (by decide)⟩
  refine r_aload_n 0 C dX11_town_5 rfl ?_
  refine r_iconst (v := 0) C dX11_town_6 (by decide) ?_
  refine pfX11_136 C (kS sM h3 kc_114) dX11_town_7 (fun w5 e6 => ?_)
  have h7 := Ch.putF h3 e6 (by decide)
  have o8 : OkM w5 := ⟨Inv.put o4.1 e6 0 501 (by omega) (by decide), Rel.putF o4.2 e6 (by decide)⟩
  refine r_aload_n 0 C dX11_town_10 rfl ?_
  refine callVV C cwX11_250_V (ctX11_clear _ _ w5 (sS sM h7) o8  ) (by decide) (kS sM h7 kc_114) rfl rfl rfl (Nat.le_of_ble_eq_true rfl) (by decide) dX11_town_11 (fun w10 y9 => ?_)
  show V x 0 0 w10 14 [(0, .ref (gz (xG x) + 114))] []
  obtain ⟨h12, o13⟩ := y9
  have h14 := Ch.tr h7 h12 (by decide) (by decide)
  obtain ⟨R15a, R15b, R15c, R15d⟩ := (o13.2 : Rel w10)
  refine r_iconst (v := 0) C dX11_town_14 (by decide) ?_
  refine r_istore_n [(1, .int 0), (0, .ref (gz (xG x) + 114))] C dX11_town_15 (by decide) rfl ?_
  refine r_lv [1, 0] rfl ?_
  exact LP17 4294967296 0 w10 h14 o13 (by omega) (by rw [(h12.I (by decide) (by decide) (g_eq e6))]; omega) (by rw [(h12.I (by decide) (by decide) (g_eq e6))]; omega)
set_option maxHeartbeats 4000000 in
set_option maxRecDepth 100000 in
theorem ctX11_fault (l : Launch) (G : Gt) (w : Wv) (sM : Str KM XM w) (o0 : OkM w)  : CtI l G yX11_fault cX11_fault 1 .int ({ frames := 0, cells := 0, slots := 0, locals := 0 } : Room) [.ref (gz G + 114)] w (fun r w' => Ch [] [] w w' ∧ OkM w') := by
  refine enterI (by decide) (Nat.le_of_ble_eq_true rfl) ?_
  intro x el eG C hret
  subst el; subst eG
  show V x 0 0 w 0 [(0, .ref (gz (xG x) + 114))] []
  have h0 : Ch [] [] w w := Ch.rf
  obtain ⟨rA, rB, rC, rD⟩ := (o0.2 : Rel w)
  refine r_aload_n 0 C dX11_fault_0 rfl ?_
  refine gfX11_50 (v := (wI w 114 21)) C (kS sM h0 kc_114) rfl dX11_fault_1 ?_
  exact hret _ _ _ _ dX11_fault_4 rfl ⟨h0, o0⟩
set_option maxHeartbeats 4000000 in
set_option maxRecDepth 100000 in
theorem ctX11_far (l : Launch) (G : Gt) (w : Wv) (sM : Str KM XM w) (o0 : OkM w) (W : Int32) (pW : wI w 114 0 = W) (bW : 0 ≤ W.toInt ∧ W.toInt ≤ 9) (D : Int32) (pD : wI w 114 1 = D) (bD : 0 ≤ D.toInt ∧ D.toInt ≤ 9) (a1 : Int32) (a2 : Int32) (a3 : Int32) (a4 : Int32) : CtI l G yX11_far cX11_far 6 .int ({ frames := 2, cells := 0, slots := 0, locals := 47 } : Room) [.ref (gz G + 114), .int a1, .int a2, .int a3, .int a4] w (fun r w' => Ch [] [] w w' ∧ OkM w') := by
  refine enterI (by decide) (Nat.le_of_ble_eq_true rfl) ?_
  intro x el eG C hret
  subst el; subst eG
  show V x 0 0 w 0 [(0, .ref (gz (xG x) + 114)), (1, .int a1), (2, .int a2), (3, .int a3), (4, .int a4)] []
  have h0 : Ch [] [] w w := Ch.rf
  have qm1000000001 : ((-1000000001) : Int32).toInt = (-1000000001) := by decide
  have qm1 : ((-1) : Int32).toInt = (-1) := by decide
  have q0 : (0 : Int32).toInt = 0 := by decide
  have q42 : (42 : Int32).toInt = 42 := by decide
  have q1000 : (1000 : Int32).toInt = 1000 := by decide
  obtain ⟨rA, rB, rC, rD⟩ := (o0.2 : Rel w)
  (try simp only [pW] at rA); (try simp only [pW] at rB); (try simp only [pW] at rC); (try simp only [pW] at rD)
  (try simp only [pD] at rA); (try simp only [pD] at rB); (try simp only [pD] at rC); (try simp only [pD] at rD)
  refine r_aload_n 0 C dX11_far_0 rfl ?_
  refine r_iload_n 1 C dX11_far_1 rfl ?_
  refine r_iload_n 2 C dX11_far_2 rfl ?_
  refine callVI C cwX11_274_V (ctX11_isCell _ _ w (sS sM h0) o0 W pW (by omega) D pD (by omega) a1 a2 ) (by decide) (kS sM h0 kc_114) rfl rfl rfl (Nat.le_of_ble_eq_true rfl) (by decide) dX11_far_3 (fun r3 w2 y1 => ?_)
  show V x 0 0 w2 6 [(0, .ref (gz (xG x) + 114)), (1, .int a1), (2, .int a2), (3, .int a3), (4, .int a4)] [.int r3]
  obtain ⟨h4, o5, g6⟩ := y1
  have h7 := Ch.tr h0 h4 (by decide) (by decide)
  refine r_if_eq 19 C dX11_far_6 (by decide) (fun c8 => ?_) (fun c8 => ?_)
  · have c8' := i_eq c8
    refine r_ldcw C mw6_112 dX11_far_19 ?_
    exact hret _ _ _ _ dX11_far_22 rfl ⟨h7, o5⟩
  · have c8' := i_ne c8
    refine r_aload_n 0 C dX11_far_9 rfl ?_
    refine r_iload_n 3 C dX11_far_10 rfl ?_
    refine r_iload 4 C dX11_far_11 rfl ?_
    refine callVI C cwX11_274_V (ctX11_isCell _ _ w2 (sS sM h7) o5 W (h4.I (by decide) (by decide) pW) (by omega) D (h4.I (by decide) (by decide) pD) (by omega) a3 a4 ) (by decide) (kS sM h7 kc_114) rfl rfl rfl (Nat.le_of_ble_eq_true rfl) (by decide) dX11_far_13 (fun r11 w10 y9 => ?_)
    show V x 0 0 w10 16 [(0, .ref (gz (xG x) + 114)), (1, .int a1), (2, .int a2), (3, .int a3), (4, .int a4)] [.int r11]
    obtain ⟨h12, o13, g14⟩ := y9
    have h15 := Ch.tr h7 h12 (by decide) (by decide)
    refine r_if_ne 23 C dX11_far_16 (by decide) (fun c16 => ?_) (fun c16 => ?_)
    · have c16' := i_ne c16
      have k17 := cell_rng (W := (W : Int32).toInt) (D := (D : Int32).toInt) (y := (a4 : Int32).toInt) (x := (a3 : Int32).toInt) (by omega) (by omega) (by omega)
      have k18 := cell_rng (W := (W : Int32).toInt) (D := (D : Int32).toInt) (y := (a2 : Int32).toInt) (x := (a1 : Int32).toInt) (by omega) (by omega) (by omega)
      refine r_aload_n 0 C dX11_far_23 rfl ?_
      refine gfX11_77 134 C (kS sM h15 kc_114) (xS sM h15 xc_114_44) dX11_far_24 ?_
      refine r_bipush (v := 42) C dX11_far_27 (by decide) ?_
      refine r_aload_n 0 C dX11_far_29 rfl ?_
      refine gfX11_111 (v := W) C (kS sM h15 kc_114) (h12.I (by decide) (by decide) (h4.I (by decide) (by decide) pW)) dX11_far_30 ?_
      refine r_iload 4 C dX11_far_33 rfl ?_
      refine r_imul C dX11_far_35 (fun v19 e20 => ?_)
      have v19' := imul_rng e20 (A := 9) (B := 8) (by omega) (by omega) (by decide)
      refine r_iload_n 3 C dX11_far_36 rfl ?_
      refine r_iadd C dX11_far_37 (fun v21 e22 => ?_)
      have v21' := iadd_ok e22 (by omega) (by omega)
      refine r_imul C dX11_far_38 (fun v23 e24 => ?_)
      have k25 : (42 : Int32).toInt = 42 := by omega
      have v23' := imul_ok e24 (by rw [k25]; omega) (by rw [k25]; omega)
      rw [k25] at v23'
      refine r_aload_n 0 C dX11_far_39 rfl ?_
      refine gfX11_111 (v := W) C (kS sM h15 kc_114) (h12.I (by decide) (by decide) (h4.I (by decide) (by decide) pW)) dX11_far_40 ?_
      refine r_iload_n 2 C dX11_far_43 rfl ?_
      refine r_imul C dX11_far_44 (fun v26 e27 => ?_)
      have v26' := imul_rng e27 (A := 9) (B := 8) (by omega) (by omega) (by decide)
      refine r_iadd C dX11_far_45 (fun v28 e29 => ?_)
      have v28' := iadd_ok e29 (by omega) (by omega)
      refine r_iload_n 1 C dX11_far_46 rfl ?_
      refine r_iadd C dX11_far_47 (fun v30 e31 => ?_)
      have v30' := iadd_ok e31 (by omega) (by omega)
      refine r_iald C (kS sM h15 kc_134) (vin (by omega) (by omega)) dX11_far_48 ?_
      generalize (wI w10 134 (v30).toNatClampNeg) = v32
      refine r_istore [(5, .int v32), (0, .ref (gz (xG x) + 114)), (1, .int a1), (2, .int a2), (3, .int a3), (4, .int a4)] C dX11_far_49 (by decide) rfl ?_
      refine r_iload 0 C dX11_far_51 rfl ?_
      refine r_sipush (v := 1000) C dX11_far_53 (by decide) ?_
      refine r_icmp_ne 63 C dX11_far_56 (by decide) (fun c33 => ?_) (fun c33 => ?_)
      · have c33' := i_ne c33
        refine r_iload 0 C dX11_far_63 rfl ?_
        exact hret _ _ _ _ dX11_far_65 rfl ⟨h15, o13⟩
      · have c33' := i_eq c33
        refine r_iconst (v := (-1)) C dX11_far_59 (by decide) ?_
        refine r_goto 65 C dX11_far_60 (by decide) ?_
        exact hret _ _ _ _ dX11_far_65 rfl ⟨h15, o13⟩
    · have c16' := i_eq c16
      refine r_ldcw C mw6_112 dX11_far_19 ?_
      exact hret _ _ _ _ dX11_far_22 rfl ⟨h15, o13⟩
set_option maxHeartbeats 4000000 in
set_option maxRecDepth 100000 in
theorem ctX11_cell (l : Launch) (G : Gt) (w : Wv) (sM : Str KM XM w) (o0 : OkM w) (W : Int32) (pW : wI w 114 0 = W) (bW : 0 ≤ W.toInt ∧ W.toInt ≤ 9) (D : Int32) (pD : wI w 114 1 = D) (bD : 0 ≤ D.toInt ∧ D.toInt ≤ 9) (a1 : Int32) (a2 : Int32) : CtI l G yX11_cell cX11_cell 3 .int ({ frames := 2, cells := 0, slots := 0, locals := 47 } : Room) [.ref (gz G + 114), .int a1, .int a2] w (fun r w' => Ch [] [] w w' ∧ OkM w') := by
  refine enterI (by decide) (Nat.le_of_ble_eq_true rfl) ?_
  intro x el eG C hret
  subst el; subst eG
  show V x 0 0 w 0 [(0, .ref (gz (xG x) + 114)), (1, .int a1), (2, .int a2)] []
  have h0 : Ch [] [] w w := Ch.rf
  have qm1000000001 : ((-1000000001) : Int32).toInt = (-1000000001) := by decide
  have q0 : (0 : Int32).toInt = 0 := by decide
  obtain ⟨rA, rB, rC, rD⟩ := (o0.2 : Rel w)
  (try simp only [pW] at rA); (try simp only [pW] at rB); (try simp only [pW] at rC); (try simp only [pW] at rD)
  (try simp only [pD] at rA); (try simp only [pD] at rB); (try simp only [pD] at rC); (try simp only [pD] at rD)
  refine r_aload_n 0 C dX11_cell_0 rfl ?_
  refine r_iload_n 1 C dX11_cell_1 rfl ?_
  refine r_iload_n 2 C dX11_cell_2 rfl ?_
  refine callVI C cwX11_274_V (ctX11_isCell _ _ w (sS sM h0) o0 W pW (by omega) D pD (by omega) a1 a2 ) (by decide) (kS sM h0 kc_114) rfl rfl rfl (Nat.le_of_ble_eq_true rfl) (by decide) dX11_cell_3 (fun r3 w2 y1 => ?_)
  show V x 0 0 w2 6 [(0, .ref (gz (xG x) + 114)), (1, .int a1), (2, .int a2)] [.int r3]
  obtain ⟨h4, o5, g6⟩ := y1
  have h7 := Ch.tr h0 h4 (by decide) (by decide)
  refine r_if_eq 25 C dX11_cell_6 (by decide) (fun c8 => ?_) (fun c8 => ?_)
  · have c8' := i_eq c8
    refine r_ldcw C mw6_112 dX11_cell_25 ?_
    exact hret _ _ _ _ dX11_cell_28 rfl ⟨h7, o5⟩
  · have c8' := i_ne c8
    refine r_aload_n 0 C dX11_cell_9 rfl ?_
    refine gfX11_7 115 C (kS sM h7 kc_114) (xS sM h7 xc_114_2) dX11_cell_10 ?_
    have k9 := cell_rng (W := (W : Int32).toInt) (D := (D : Int32).toInt) (y := (a2 : Int32).toInt) (x := (a1 : Int32).toInt) (by omega) (by omega) (by omega)
    refine r_aload_n 0 C dX11_cell_13 rfl ?_
    refine gfX11_111 (v := W) C (kS sM h7 kc_114) (h4.I (by decide) (by decide) pW) dX11_cell_14 ?_
    refine r_iload_n 2 C dX11_cell_17 rfl ?_
    refine r_imul C dX11_cell_18 (fun v10 e11 => ?_)
    have v10' := imul_rng e11 (A := 9) (B := 8) (by omega) (by omega) (by decide)
    refine r_iload_n 1 C dX11_cell_19 rfl ?_
    refine r_iadd C dX11_cell_20 (fun v12 e13 => ?_)
    have v12' := iadd_ok e13 (by omega) (by omega)
    refine r_iald C (kS sM h7 kc_115) (vin (by omega) (by omega)) dX11_cell_21 ?_
    generalize (wI w2 115 (v12).toNatClampNeg) = v14
    refine r_goto 28 C dX11_cell_22 (by decide) ?_
    exact hret _ _ _ _ dX11_cell_28 rfl ⟨h7, o5⟩
set_option maxHeartbeats 4000000 in
set_option maxRecDepth 100000 in
theorem ctX11_followers (l : Launch) (G : Gt) (w : Wv) (sM : Str KM XM w) (o0 : OkM w) (a1 : Int32) (b1 : 0 ≤ a1.toInt ∧ a1.toInt ≤ 5) : CtI l G yX11_followers cX11_followers 2 .int ({ frames := 0, cells := 0, slots := 0, locals := 0 } : Room) [.ref (gz G + 114), .int a1] w (fun r w' => Ch [] [] w w' ∧ OkM w') := by
  refine enterI (by decide) (Nat.le_of_ble_eq_true rfl) ?_
  intro x el eG C hret
  subst el; subst eG
  show V x 0 0 w 0 [(0, .ref (gz (xG x) + 114)), (1, .int a1)] []
  have h0 : Ch [] [] w w := Ch.rf
  obtain ⟨rA, rB, rC, rD⟩ := (o0.2 : Rel w)
  refine r_aload_n 0 C dX11_followers_0 rfl ?_
  refine gfX11_16 117 C (kS sM h0 kc_114) (xS sM h0 xc_114_5) dX11_followers_1 ?_
  refine r_iload_n 1 C dX11_followers_4 rfl ?_
  refine r_iald C (kS sM h0 kc_117) (vin (by omega) (by omega)) dX11_followers_5 ?_
  generalize (wI w 117 (a1).toNatClampNeg) = v1
  refine r_aload_n 0 C dX11_followers_6 rfl ?_
  refine gfX11_22 119 C (kS sM h0 kc_114) (xS sM h0 xc_114_7) dX11_followers_7 ?_
  refine r_iload_n 1 C dX11_followers_10 rfl ?_
  refine r_iald C (kS sM h0 kc_119) (vin (by omega) (by omega)) dX11_followers_11 ?_
  generalize (wI w 119 (a1).toNatClampNeg) = v2
  refine r_isub C dX11_followers_12 (fun v3 e4 => ?_)
  exact hret _ _ _ _ dX11_followers_13 rfl ⟨h0, o0⟩
set_option maxHeartbeats 4000000 in
set_option maxRecDepth 100000 in
theorem ctX11_isHere (l : Launch) (G : Gt) (w : Wv) (sM : Str KM XM w) (o0 : OkM w) (a1 : Int32) (b1 : 0 ≤ a1.toInt ∧ a1.toInt ≤ 5) : CtI l G yX11_isHere cX11_isHere 2 .boolean ({ frames := 1, cells := 0, slots := 0, locals := 21 } : Room) [.ref (gz G + 114), .int a1] w (fun r w' => Ch [] [] w w' ∧ OkM w' ∧ ((0 ≤ r.toInt ∧ r.toInt ≤ 1))) := by
  refine enterI (by decide) (Nat.le_of_ble_eq_true rfl) ?_
  intro x el eG C hret
  subst el; subst eG
  show V x 0 0 w 0 [(0, .ref (gz (xG x) + 114)), (1, .int a1)] []
  have h0 : Ch [] [] w w := Ch.rf
  have q0 : (0 : Int32).toInt = 0 := by decide
  have q1 : (1 : Int32).toInt = 1 := by decide
  obtain ⟨rA, rB, rC, rD⟩ := (o0.2 : Rel w)
  refine r_aload_n 0 C dX11_isHere_0 rfl ?_
  refine r_iload_n 1 C dX11_isHere_1 rfl ?_
  refine callVI C cwX11_286_V (ctX11_followers _ _ w (sS sM h0) o0 a1 (by omega)) (by decide) (kS sM h0 kc_114) rfl rfl rfl (Nat.le_of_ble_eq_true rfl) (by decide) dX11_isHere_2 (fun r3 w2 y1 => ?_)
  show V x 0 0 w2 5 [(0, .ref (gz (xG x) + 114)), (1, .int a1)] [.int r3]
  obtain ⟨h4, o5⟩ := y1
  have h6 := Ch.tr h0 h4 (by decide) (by decide)
  refine r_if_le 21 C dX11_isHere_5 (by decide) (fun c7 => ?_) (fun c7 => ?_)
  · have c7' := i_le c7
    refine r_iconst (v := 0) C dX11_isHere_21 (by decide) ?_
    exact hret _ _ _ _ dX11_isHere_22 (nar_z (z_of (by omega))) ⟨h6, o5, by omega⟩
  · have c7' := i_nle c7
    refine r_aload_n 0 C dX11_isHere_8 rfl ?_
    refine gfX11_44 124 C (kS sM h6 kc_114) (xS sM h6 xc_114_16) dX11_isHere_9 ?_
    refine r_iload_n 1 C dX11_isHere_12 rfl ?_
    refine r_iald C (kS sM h6 kc_124) (vin (by omega) (by omega)) dX11_isHere_13 ?_
    generalize (wI w2 124 (a1).toNatClampNeg) = v8
    refine r_if_ne 21 C dX11_isHere_14 (by decide) (fun c9 => ?_) (fun c9 => ?_)
    · have c9' := i_ne c9
      refine r_iconst (v := 0) C dX11_isHere_21 (by decide) ?_
      exact hret _ _ _ _ dX11_isHere_22 (nar_z (z_of (by omega))) ⟨h6, o5, by omega⟩
    · have c9' := i_eq c9
      refine r_iconst (v := 1) C dX11_isHere_17 (by decide) ?_
      refine r_goto 22 C dX11_isHere_18 (by decide) ?_
      exact hret _ _ _ _ dX11_isHere_22 (nar_z (z_of (by omega))) ⟨h6, o5, by omega⟩
set_option maxHeartbeats 4000000 in
set_option maxRecDepth 100000 in
theorem ctX11_headsBy (l : Launch) (G : Gt) (w : Wv) (sM : Str KM XM w) (o0 : OkM w) (a1 : Int32) (a2 : Int32) : CtI l G yX11_headsBy cX11_headsBy 5 .int ({ frames := 1, cells := 0, slots := 0, locals := 21 } : Room) [.ref (gz G + 114), .int a1, .int a2] w (fun r w' => Ch [] [] w w' ∧ OkM w') := by
  refine enterI (by decide) (Nat.le_of_ble_eq_true rfl) ?_
  intro x el eG C hret
  subst el; subst eG
  show V x 0 0 w 0 [(0, .ref (gz (xG x) + 114)), (1, .int a1), (2, .int a2)] []
  have h0 : Ch [] [] w w := Ch.rf
  have qm1 : ((-1) : Int32).toInt = (-1) := by decide
  have q0 : (0 : Int32).toInt = 0 := by decide
  obtain ⟨rA, rB, rC, rD⟩ := (o0.2 : Rel w)
  have LP3 : ∀ (f4 : Nat) (u1 : Int32) (u2 : Int32) (w5 : Wv), Ch [] [] w w5 → OkM w5 → (0 ≤ u2.toInt ∧ u2.toInt ≤ 2147483647) → 2147483647 - u2.toInt < f4 → V x 0 0 w5 5 [(0, .ref (gz (xG x) + 114)), (1, .int a1), (2, .int a2), (3, .int u1), (4, .int u2)] [] := by
    intro f4
    induction f4 with
    | zero => intro u1 u2 w5 h6 o7 z8 z9; exfalso; omega
    | succ f4 ih10 =>
      intro u1 u2 w5 h6 o7 z8 z9
      refine r_iload 4 C dX11_headsBy_5 rfl ?_
      refine r_aload_n 0 C dX11_headsBy_7 rfl ?_
      refine gfX11_121 (v := (wI w 114 3)) C (kS sM h6 kc_114) (h6.I (by decide) (by decide) rfl) dX11_headsBy_8 ?_
      have b11 := Inv.get o0.1 rt_114_3 (j := 3) (by decide) (by decide)
      have k13 := i_rng u2
      refine r_icmp_ge 60 C dX11_headsBy_11 (by decide) (fun c12 => ?_) (fun c12 => ?_)
      · have c12' := i_le c12
        refine r_iload_n 3 C dX11_headsBy_60 rfl ?_
        exact hret _ _ _ _ dX11_headsBy_61 rfl ⟨h6, o7⟩
      · have c12' := i_nle c12
        refine r_iload_n 3 C dX11_headsBy_14 rfl ?_
        refine r_iload_n 1 C dX11_headsBy_15 rfl ?_
        refine r_iconst (v := (-1)) C dX11_headsBy_16 (by decide) ?_
        refine r_icmp_eq 31 C dX11_headsBy_17 (by decide) (fun c14 => ?_) (fun c14 => ?_)
        · have c14' := i_eq c14
          refine r_aload_n 0 C dX11_headsBy_31 rfl ?_
          refine gfX11_44 124 C (kS sM h6 kc_114) (xS sM h6 xc_114_16) dX11_headsBy_32 ?_
          refine r_iload 4 C dX11_headsBy_35 rfl ?_
          refine r_iald C (kS sM h6 kc_124) (vin (by omega) (by omega)) dX11_headsBy_37 ?_
          generalize (wI w5 124 (u2).toNatClampNeg) = v15
          refine r_iload_n 2 C dX11_headsBy_38 rfl ?_
          refine r_icmp_ne 51 C dX11_headsBy_39 (by decide) (fun c16 => ?_) (fun c16 => ?_)
          · have c16' := i_ne c16
            refine r_iconst (v := 0) C dX11_headsBy_51 (by decide) ?_
            refine r_iadd C dX11_headsBy_52 (fun v17 e18 => ?_)
            have k19 := i_rng u1
            have v17' := iadd_ok e18 (by omega) (by omega)
            refine r_istore_n [(3, .int v17), (0, .ref (gz (xG x) + 114)), (1, .int a1), (2, .int a2), (4, .int u2)] C dX11_headsBy_53 (by decide) rfl ?_
            obtain ⟨i20, e21⟩ : ∃ z : Int32, u2 + Int32.ofInt 1 = z := ⟨_, rfl⟩
            have i20' := iinc_ok e21 (by decide) (by omega) (by omega)
            refine r_iinc [(4, .int i20), (3, .int v17), (0, .ref (gz (xG x) + 114)), (1, .int a1), (2, .int a2)] 4 C dX11_headsBy_54 rfl e21 (by decide) rfl ?_
            refine r_goto 5 C dX11_headsBy_57 (by decide) ?_
            refine r_lv [2, 3, 4, 1, 0] rfl ?_
            exact ih10 v17 i20 w5 h6 o7 (by omega) (by omega)
          · have c16' := i_eq c16
            refine r_aload_n 0 C dX11_headsBy_42 rfl ?_
            refine r_iload 4 C dX11_headsBy_43 rfl ?_
            refine callVI C cwX11_286_V (ctX11_followers _ _ w5 (sS sM h6) o7 u2 (by omega)) (by decide) (kS sM h6 kc_114) rfl rfl rfl (Nat.le_of_ble_eq_true rfl) (by decide) dX11_headsBy_45 (fun r24 w23 y22 => ?_)
            show V x 0 0 w23 48 [(0, .ref (gz (xG x) + 114)), (1, .int a1), (2, .int a2), (3, .int u1), (4, .int u2)] [.int r24, .int u1]
            obtain ⟨h25, o26⟩ := y22
            have h27 := Ch.tr h6 h25 (by decide) (by decide)
            refine r_goto 52 C dX11_headsBy_48 (by decide) ?_
            refine r_iadd C dX11_headsBy_52 (fun v28 e29 => ?_)
            refine r_istore_n [(3, .int v28), (0, .ref (gz (xG x) + 114)), (1, .int a1), (2, .int a2), (4, .int u2)] C dX11_headsBy_53 (by decide) rfl ?_
            obtain ⟨i30, e31⟩ : ∃ z : Int32, u2 + Int32.ofInt 1 = z := ⟨_, rfl⟩
            have i30' := iinc_ok e31 (by decide) (by omega) (by omega)
            refine r_iinc [(4, .int i30), (3, .int v28), (0, .ref (gz (xG x) + 114)), (1, .int a1), (2, .int a2)] 4 C dX11_headsBy_54 rfl e31 (by decide) rfl ?_
            refine r_goto 5 C dX11_headsBy_57 (by decide) ?_
            refine r_lv [2, 3, 4, 1, 0] rfl ?_
            exact ih10 v28 i30 w23 h27 o26 (by omega) (by omega)
        · have c14' := i_ne c14
          refine r_aload_n 0 C dX11_headsBy_20 rfl ?_
          refine gfX11_13 116 C (kS sM h6 kc_114) (xS sM h6 xc_114_4) dX11_headsBy_21 ?_
          refine r_iload 4 C dX11_headsBy_24 rfl ?_
          refine r_iald C (kS sM h6 kc_116) (vin (by omega) (by omega)) dX11_headsBy_26 ?_
          generalize (wI w5 116 (u2).toNatClampNeg) = v32
          refine r_iload_n 1 C dX11_headsBy_27 rfl ?_
          refine r_icmp_ne 51 C dX11_headsBy_28 (by decide) (fun c33 => ?_) (fun c33 => ?_)
          · have c33' := i_ne c33
            refine r_iconst (v := 0) C dX11_headsBy_51 (by decide) ?_
            refine r_iadd C dX11_headsBy_52 (fun v34 e35 => ?_)
            have k36 := i_rng u1
            have v34' := iadd_ok e35 (by omega) (by omega)
            refine r_istore_n [(3, .int v34), (0, .ref (gz (xG x) + 114)), (1, .int a1), (2, .int a2), (4, .int u2)] C dX11_headsBy_53 (by decide) rfl ?_
            obtain ⟨i37, e38⟩ : ∃ z : Int32, u2 + Int32.ofInt 1 = z := ⟨_, rfl⟩
            have i37' := iinc_ok e38 (by decide) (by omega) (by omega)
            refine r_iinc [(4, .int i37), (3, .int v34), (0, .ref (gz (xG x) + 114)), (1, .int a1), (2, .int a2)] 4 C dX11_headsBy_54 rfl e38 (by decide) rfl ?_
            refine r_goto 5 C dX11_headsBy_57 (by decide) ?_
            refine r_lv [2, 3, 4, 1, 0] rfl ?_
            exact ih10 v34 i37 w5 h6 o7 (by omega) (by omega)
          · have c33' := i_eq c33
            refine r_aload_n 0 C dX11_headsBy_31 rfl ?_
            refine gfX11_44 124 C (kS sM h6 kc_114) (xS sM h6 xc_114_16) dX11_headsBy_32 ?_
            refine r_iload 4 C dX11_headsBy_35 rfl ?_
            refine r_iald C (kS sM h6 kc_124) (vin (by omega) (by omega)) dX11_headsBy_37 ?_
            generalize (wI w5 124 (u2).toNatClampNeg) = v39
            refine r_iload_n 2 C dX11_headsBy_38 rfl ?_
            refine r_icmp_ne 51 C dX11_headsBy_39 (by decide) (fun c40 => ?_) (fun c40 => ?_)
            · have c40' := i_ne c40
              refine r_iconst (v := 0) C dX11_headsBy_51 (by decide) ?_
              refine r_iadd C dX11_headsBy_52 (fun v41 e42 => ?_)
              have k43 := i_rng u1
              have v41' := iadd_ok e42 (by omega) (by omega)
              refine r_istore_n [(3, .int v41), (0, .ref (gz (xG x) + 114)), (1, .int a1), (2, .int a2), (4, .int u2)] C dX11_headsBy_53 (by decide) rfl ?_
              obtain ⟨i44, e45⟩ : ∃ z : Int32, u2 + Int32.ofInt 1 = z := ⟨_, rfl⟩
              have i44' := iinc_ok e45 (by decide) (by omega) (by omega)
              refine r_iinc [(4, .int i44), (3, .int v41), (0, .ref (gz (xG x) + 114)), (1, .int a1), (2, .int a2)] 4 C dX11_headsBy_54 rfl e45 (by decide) rfl ?_
              refine r_goto 5 C dX11_headsBy_57 (by decide) ?_
              refine r_lv [2, 3, 4, 1, 0] rfl ?_
              exact ih10 v41 i44 w5 h6 o7 (by omega) (by omega)
            · have c40' := i_eq c40
              refine r_aload_n 0 C dX11_headsBy_42 rfl ?_
              refine r_iload 4 C dX11_headsBy_43 rfl ?_
              refine callVI C cwX11_286_V (ctX11_followers _ _ w5 (sS sM h6) o7 u2 (by omega)) (by decide) (kS sM h6 kc_114) rfl rfl rfl (Nat.le_of_ble_eq_true rfl) (by decide) dX11_headsBy_45 (fun r48 w47 y46 => ?_)
              show V x 0 0 w47 48 [(0, .ref (gz (xG x) + 114)), (1, .int a1), (2, .int a2), (3, .int u1), (4, .int u2)] [.int r48, .int u1]
              obtain ⟨h49, o50⟩ := y46
              have h51 := Ch.tr h6 h49 (by decide) (by decide)
              refine r_goto 52 C dX11_headsBy_48 (by decide) ?_
              refine r_iadd C dX11_headsBy_52 (fun v52 e53 => ?_)
              refine r_istore_n [(3, .int v52), (0, .ref (gz (xG x) + 114)), (1, .int a1), (2, .int a2), (4, .int u2)] C dX11_headsBy_53 (by decide) rfl ?_
              obtain ⟨i54, e55⟩ : ∃ z : Int32, u2 + Int32.ofInt 1 = z := ⟨_, rfl⟩
              have i54' := iinc_ok e55 (by decide) (by omega) (by omega)
              refine r_iinc [(4, .int i54), (3, .int v52), (0, .ref (gz (xG x) + 114)), (1, .int a1), (2, .int a2)] 4 C dX11_headsBy_54 rfl e55 (by decide) rfl ?_
              refine r_goto 5 C dX11_headsBy_57 (by decide) ?_
              refine r_lv [2, 3, 4, 1, 0] rfl ?_
              exact ih10 v52 i54 w47 h51 o50 (by omega) (by omega)
  refine r_iconst (v := 0) C dX11_headsBy_0 (by decide) ?_
  refine r_istore_n [(3, .int 0), (0, .ref (gz (xG x) + 114)), (1, .int a1), (2, .int a2)] C dX11_headsBy_1 (by decide) rfl ?_
  refine r_iconst (v := 0) C dX11_headsBy_2 (by decide) ?_
  refine r_istore [(4, .int 0), (3, .int 0), (0, .ref (gz (xG x) + 114)), (1, .int a1), (2, .int a2)] C dX11_headsBy_3 (by decide) rfl ?_
  refine r_lv [2, 3, 4, 1, 0] rfl ?_
  exact LP3 4294967296 0 0 w h0 o0 (by omega) (by omega)
set_option maxHeartbeats 4000000 in
set_option maxRecDepth 100000 in
theorem ctX11_allHeads (l : Launch) (G : Gt) (w : Wv) (sM : Str KM XM w) (o0 : OkM w)  : CtI l G yX11_allHeads cX11_allHeads 3 .int ({ frames := 0, cells := 0, slots := 0, locals := 0 } : Room) [.ref (gz G + 114)] w (fun r w' => Ch [] [] w w' ∧ OkM w') := by
  refine enterI (by decide) (Nat.le_of_ble_eq_true rfl) ?_
  intro x el eG C hret
  subst el; subst eG
  show V x 0 0 w 0 [(0, .ref (gz (xG x) + 114))] []
  have h0 : Ch [] [] w w := Ch.rf
  have q0 : (0 : Int32).toInt = 0 := by decide
  obtain ⟨rA, rB, rC, rD⟩ := (o0.2 : Rel w)
  have LP3 : ∀ (f4 : Nat) (u1 : Int32) (u2 : Int32) (w5 : Wv), Ch [] [] w w5 → OkM w5 → (0 ≤ u2.toInt ∧ u2.toInt ≤ 2147483647) → 2147483647 - u2.toInt < f4 → V x 0 0 w5 4 [(0, .ref (gz (xG x) + 114)), (1, .int u1), (2, .int u2)] [] := by
    intro f4
    induction f4 with
    | zero => intro u1 u2 w5 h6 o7 z8 z9; exfalso; omega
    | succ f4 ih10 =>
      intro u1 u2 w5 h6 o7 z8 z9
      refine r_iload_n 2 C dX11_allHeads_4 rfl ?_
      refine r_aload_n 0 C dX11_allHeads_5 rfl ?_
      refine gfX11_121 (v := (wI w 114 3)) C (kS sM h6 kc_114) (h6.I (by decide) (by decide) rfl) dX11_allHeads_6 ?_
      have b11 := Inv.get o0.1 rt_114_3 (j := 3) (by decide) (by decide)
      have k13 := i_rng u2
      refine r_icmp_ge 27 C dX11_allHeads_9 (by decide) (fun c12 => ?_) (fun c12 => ?_)
      · have c12' := i_le c12
        refine r_iload_n 1 C dX11_allHeads_27 rfl ?_
        exact hret _ _ _ _ dX11_allHeads_28 rfl ⟨h6, o7⟩
      · have c12' := i_nle c12
        refine r_iload_n 1 C dX11_allHeads_12 rfl ?_
        refine r_aload_n 0 C dX11_allHeads_13 rfl ?_
        refine gfX11_16 117 C (kS sM h6 kc_114) (xS sM h6 xc_114_5) dX11_allHeads_14 ?_
        refine r_iload_n 2 C dX11_allHeads_17 rfl ?_
        refine r_iald C (kS sM h6 kc_117) (vin (by omega) (by omega)) dX11_allHeads_18 ?_
        generalize (wI w5 117 (u2).toNatClampNeg) = v14
        refine r_iadd C dX11_allHeads_19 (fun v15 e16 => ?_)
        refine r_istore_n [(1, .int v15), (0, .ref (gz (xG x) + 114)), (2, .int u2)] C dX11_allHeads_20 (by decide) rfl ?_
        obtain ⟨i17, e18⟩ : ∃ z : Int32, u2 + Int32.ofInt 1 = z := ⟨_, rfl⟩
        have i17' := iinc_ok e18 (by decide) (by omega) (by omega)
        refine r_iinc [(2, .int i17), (1, .int v15), (0, .ref (gz (xG x) + 114))] 2 C dX11_allHeads_21 rfl e18 (by decide) rfl ?_
        refine r_goto 4 C dX11_allHeads_24 (by decide) ?_
        refine r_lv [2, 1, 0] rfl ?_
        exact ih10 v15 i17 w5 h6 o7 (by omega) (by omega)
  refine r_iconst (v := 0) C dX11_allHeads_0 (by decide) ?_
  refine r_istore_n [(1, .int 0), (0, .ref (gz (xG x) + 114))] C dX11_allHeads_1 (by decide) rfl ?_
  refine r_iconst (v := 0) C dX11_allHeads_2 (by decide) ?_
  refine r_istore_n [(2, .int 0), (1, .int 0), (0, .ref (gz (xG x) + 114))] C dX11_allHeads_3 (by decide) rfl ?_
  refine r_lv [2, 1, 0] rfl ?_
  exact LP3 4294967296 0 0 w h0 o0 (by omega) (by omega)
set_option maxHeartbeats 4000000 in
set_option maxRecDepth 100000 in
theorem ctX11_worth (l : Launch) (G : Gt) (w : Wv) (sM : Str KM XM w) (o0 : OkM w)  : CtI l G yX11_worth cX11_worth 1 .int ({ frames := 2, cells := 0, slots := 0, locals := 45 } : Room) [.ref (gz G + 114)] w (fun r w' => Ch [] [] w w' ∧ OkM w') := by
  refine enterI (by decide) (Nat.le_of_ble_eq_true rfl) ?_
  intro x el eG C hret
  subst el; subst eG
  show V x 0 0 w 0 [(0, .ref (gz (xG x) + 114))] []
  have h0 : Ch [] [] w w := Ch.rf
  have qm1 : ((-1) : Int32).toInt = (-1) := by decide
  have q1 : (1 : Int32).toInt = 1 := by decide
  have q2 : (2 : Int32).toInt = 2 := by decide
  obtain ⟨rA, rB, rC, rD⟩ := (o0.2 : Rel w)
  refine r_aload_n 0 C dX11_worth_0 rfl ?_
  refine gfX11_31 (v := (wI w 114 11)) C (kS sM h0 kc_114) rfl dX11_worth_1 ?_
  refine r_aload_n 0 C dX11_worth_4 rfl ?_
  refine r_iconst (v := (-1)) C dX11_worth_5 (by decide) ?_
  refine r_iconst (v := 1) C dX11_worth_6 (by decide) ?_
  refine callVI C cwX11_289_V (ctX11_headsBy _ _ w (sS sM h0) o0 (-1) 1 ) (by decide) (kS sM h0 kc_114) rfl rfl rfl (Nat.le_of_ble_eq_true rfl) (by decide) dX11_worth_7 (fun r3 w2 y1 => ?_)
  show V x 0 0 w2 10 [(0, .ref (gz (xG x) + 114))] [.int r3, .int (wI w 114 11)]
  obtain ⟨h4, o5⟩ := y1
  have h6 := Ch.tr h0 h4 (by decide) (by decide)
  refine r_imul C dX11_worth_10 (fun v7 e8 => ?_)
  refine r_aload_n 0 C dX11_worth_11 rfl ?_
  refine gfX11_35 (v := (wI w 114 12)) C (kS sM h6 kc_114) (h4.I (by decide) (by decide) rfl) dX11_worth_12 ?_
  refine r_aload_n 0 C dX11_worth_15 rfl ?_
  refine r_iconst (v := (-1)) C dX11_worth_16 (by decide) ?_
  refine r_iconst (v := 2) C dX11_worth_17 (by decide) ?_
  refine callVI C cwX11_289_V (ctX11_headsBy _ _ w2 (sS sM h6) o5 (-1) 2 ) (by decide) (kS sM h6 kc_114) rfl rfl rfl (Nat.le_of_ble_eq_true rfl) (by decide) dX11_worth_18 (fun r11 w10 y9 => ?_)
  show V x 0 0 w10 21 [(0, .ref (gz (xG x) + 114))] [.int r11, .int (wI w 114 12), .int v7]
  obtain ⟨h12, o13⟩ := y9
  have h14 := Ch.tr h6 h12 (by decide) (by decide)
  refine r_imul C dX11_worth_21 (fun v15 e16 => ?_)
  refine r_isub C dX11_worth_22 (fun v17 e18 => ?_)
  exact hret _ _ _ _ dX11_worth_23 rfl ⟨h14, o13⟩
set_option maxHeartbeats 4000000 in
set_option maxRecDepth 100000 in
theorem ctX11_told (l : Launch) (G : Gt) (w : Wv) (sM : Str KM XM w) (o0 : OkM w) (a1 : Int32) : CtI l G yX11_told cX11_told 2 .int ({ frames := 3, cells := 0, slots := 0, locals := 65 } : Room) [.ref (gz G + 114), .int a1] w (fun r w' => Ch [] [] w w' ∧ OkM w') := by
  refine enterI (by decide) (Nat.le_of_ble_eq_true rfl) ?_
  intro x el eG C hret
  subst el; subst eG
  show V x 0 0 w 0 [(0, .ref (gz (xG x) + 114)), (1, .int a1)] []
  have h0 : Ch [] [] w w := Ch.rf
  have qm1000000002 : ((-1000000002) : Int32).toInt = (-1000000002) := by decide
  have qm1 : ((-1) : Int32).toInt = (-1) := by decide
  have q0 : (0 : Int32).toInt = 0 := by decide
  have q1 : (1 : Int32).toInt = 1 := by decide
  have q2 : (2 : Int32).toInt = 2 := by decide
  obtain ⟨rA, rB, rC, rD⟩ := (o0.2 : Rel w)
  refine r_iload_n 1 C dX11_told_0 rfl ?_
  by_cases c1 : (a1 : Int32).toInt < 0 ∨ 12 < (a1 : Int32).toInt
  · refine r_tabOut 166 C dX11_told_1 c1 (by decide) ?_
    refine r_ldc C mw5_239 dX11_told_166 ?_
    exact hret _ _ _ _ dX11_told_168 rfl ⟨h0, o0⟩
  · rcases (show (a1 : Int32).toInt = 0 ∨ (a1 : Int32).toInt = 1 ∨ (a1 : Int32).toInt = 2 ∨ (a1 : Int32).toInt = 3 ∨ (a1 : Int32).toInt = 4 ∨ (a1 : Int32).toInt = 5 ∨ (a1 : Int32).toInt = 6 ∨ (a1 : Int32).toInt = 7 ∨ (a1 : Int32).toInt = 8 ∨ (a1 : Int32).toInt = 9 ∨ (a1 : Int32).toInt = 10 ∨ (a1 : Int32).toInt = 11 ∨ (a1 : Int32).toInt = 12 by omega) with c1 | c1 | c1 | c1 | c1 | c1 | c1 | c1 | c1 | c1 | c1 | c1 | c1
    · refine r_tabIn 68 C dX11_told_1 (by omega) (by omega) (by rw [c1]; rfl) (by decide) ?_
      refine r_aload_n 0 C dX11_told_68 rfl ?_
      refine gfX11_111 (v := (wI w 114 0)) C (kS sM h0 kc_114) rfl dX11_told_69 ?_
      have b2 := Inv.get o0.1 rt_114_0 (j := 0) (by decide) (by decide)
      exact hret _ _ _ _ dX11_told_72 rfl ⟨h0, o0⟩
    · refine r_tabIn 73 C dX11_told_1 (by omega) (by omega) (by rw [c1]; rfl) (by decide) ?_
      refine r_aload_n 0 C dX11_told_73 rfl ?_
      refine gfX11_118 (v := (wI w 114 1)) C (kS sM h0 kc_114) rfl dX11_told_74 ?_
      have b3 := Inv.get o0.1 rt_114_1 (j := 1) (by decide) (by decide)
      exact hret _ _ _ _ dX11_told_77 rfl ⟨h0, o0⟩
    · refine r_tabIn 78 C dX11_told_1 (by omega) (by omega) (by rw [c1]; rfl) (by decide) ?_
      refine r_aload_n 0 C dX11_told_78 rfl ?_
      refine gfX11_121 (v := (wI w 114 3)) C (kS sM h0 kc_114) rfl dX11_told_79 ?_
      have b4 := Inv.get o0.1 rt_114_3 (j := 3) (by decide) (by decide)
      exact hret _ _ _ _ dX11_told_82 rfl ⟨h0, o0⟩
    · refine r_tabIn 83 C dX11_told_1 (by omega) (by omega) (by rw [c1]; rfl) (by decide) ?_
      refine r_aload_n 0 C dX11_told_83 rfl ?_
      refine gfX11_124 (v := (wI w 114 8)) C (kS sM h0 kc_114) rfl dX11_told_84 ?_
      have b5 := Inv.get o0.1 rt_114_8 (j := 8) (by decide) (by decide)
      exact hret _ _ _ _ dX11_told_87 rfl ⟨h0, o0⟩
    · refine r_tabIn 88 C dX11_told_1 (by omega) (by omega) (by rw [c1]; rfl) (by decide) ?_
      refine r_aload_n 0 C dX11_told_88 rfl ?_
      refine gfX11_130 (v := (wI w 114 20)) C (kS sM h0 kc_114) rfl dX11_told_89 ?_
      have b6 := Inv.get o0.1 rt_114_20 (j := 20) (by decide) (by decide)
      exact hret _ _ _ _ dX11_told_92 rfl ⟨h0, o0⟩
    · refine r_tabIn 93 C dX11_told_1 (by omega) (by omega) (by rw [c1]; rfl) (by decide) ?_
      refine r_aload_n 0 C dX11_told_93 rfl ?_
      refine gfX11_262 (v := (wI w 114 17)) C (kS sM h0 kc_114) rfl dX11_told_94 ?_
      exact hret _ _ _ _ dX11_told_97 rfl ⟨h0, o0⟩
    · refine r_tabIn 98 C dX11_told_1 (by omega) (by omega) (by rw [c1]; rfl) (by decide) ?_
      refine r_aload_n 0 C dX11_told_98 rfl ?_
      refine gfX11_111 (v := (wI w 114 0)) C (kS sM h0 kc_114) rfl dX11_told_99 ?_
      have b7 := Inv.get o0.1 rt_114_0 (j := 0) (by decide) (by decide)
      refine r_if_ne 109 C dX11_told_102 (by decide) (fun c8 => ?_) (fun c8 => ?_)
      · have c8' := i_ne c8
        refine r_aload_n 0 C dX11_told_109 rfl ?_
        refine r_aload_n 0 C dX11_told_110 rfl ?_
        refine gfX11_259 (v := (wI w 114 13)) C (kS sM h0 kc_114) rfl dX11_told_111 ?_
        have b9 := Inv.get o0.1 rt_114_13 (j := 13) (by decide) (by decide)
        refine callVI C cwX11_292_V (ctX11_told10 _ _ w (sS sM h0) o0 (wI w 114 0) rfl (by omega) (wI w 114 13) (by omega)) (by decide) (kS sM h0 kc_114) rfl rfl rfl (Nat.le_of_ble_eq_true rfl) (by decide) dX11_told_114 (fun r12 w11 y10 => ?_)
        show V x 0 0 w11 117 [(0, .ref (gz (xG x) + 114)), (1, .int a1)] [.int r12]
        obtain ⟨h13, o14⟩ := y10
        have h15 := Ch.tr h0 h13 (by decide) (by decide)
        exact hret _ _ _ _ dX11_told_117 rfl ⟨h15, o14⟩
      · have c8' := i_eq c8
        refine r_iconst (v := 0) C dX11_told_105 (by decide) ?_
        refine r_goto 117 C dX11_told_106 (by decide) ?_
        exact hret _ _ _ _ dX11_told_117 rfl ⟨h0, o0⟩
    · refine r_tabIn 118 C dX11_told_1 (by omega) (by omega) (by rw [c1]; rfl) (by decide) ?_
      refine r_aload_n 0 C dX11_told_118 rfl ?_
      refine r_iconst (v := (-1)) C dX11_told_119 (by decide) ?_
      refine r_iconst (v := 1) C dX11_told_120 (by decide) ?_
      refine callVI C cwX11_289_V (ctX11_headsBy _ _ w (sS sM h0) o0 (-1) 1 ) (by decide) (kS sM h0 kc_114) rfl rfl rfl (Nat.le_of_ble_eq_true rfl) (by decide) dX11_told_121 (fun r18 w17 y16 => ?_)
      show V x 0 0 w17 124 [(0, .ref (gz (xG x) + 114)), (1, .int a1)] [.int r18]
      obtain ⟨h19, o20⟩ := y16
      have h21 := Ch.tr h0 h19 (by decide) (by decide)
      exact hret _ _ _ _ dX11_told_124 rfl ⟨h21, o20⟩
    · refine r_tabIn 125 C dX11_told_1 (by omega) (by omega) (by rw [c1]; rfl) (by decide) ?_
      refine r_aload_n 0 C dX11_told_125 rfl ?_
      refine r_iconst (v := (-1)) C dX11_told_126 (by decide) ?_
      refine r_iconst (v := 2) C dX11_told_127 (by decide) ?_
      refine callVI C cwX11_289_V (ctX11_headsBy _ _ w (sS sM h0) o0 (-1) 2 ) (by decide) (kS sM h0 kc_114) rfl rfl rfl (Nat.le_of_ble_eq_true rfl) (by decide) dX11_told_128 (fun r24 w23 y22 => ?_)
      show V x 0 0 w23 131 [(0, .ref (gz (xG x) + 114)), (1, .int a1)] [.int r24]
      obtain ⟨h25, o26⟩ := y22
      have h27 := Ch.tr h0 h25 (by decide) (by decide)
      exact hret _ _ _ _ dX11_told_131 rfl ⟨h27, o26⟩
    · refine r_tabIn 132 C dX11_told_1 (by omega) (by omega) (by rw [c1]; rfl) (by decide) ?_
      refine r_aload_n 0 C dX11_told_132 rfl ?_
      refine callVI C cwX11_295_V (ctX11_allHeads _ _ w (sS sM h0) o0  ) (by decide) (kS sM h0 kc_114) rfl rfl rfl (Nat.le_of_ble_eq_true rfl) (by decide) dX11_told_133 (fun r30 w29 y28 => ?_)
      show V x 0 0 w29 136 [(0, .ref (gz (xG x) + 114)), (1, .int a1)] [.int r30]
      obtain ⟨h31, o32⟩ := y28
      have h33 := Ch.tr h0 h31 (by decide) (by decide)
      refine r_aload_n 0 C dX11_told_136 rfl ?_
      refine r_iconst (v := (-1)) C dX11_told_137 (by decide) ?_
      refine r_iconst (v := 1) C dX11_told_138 (by decide) ?_
      refine callVI C cwX11_289_V (ctX11_headsBy _ _ w29 (sS sM h33) o32 (-1) 1 ) (by decide) (kS sM h33 kc_114) rfl rfl rfl (Nat.le_of_ble_eq_true rfl) (by decide) dX11_told_139 (fun r36 w35 y34 => ?_)
      show V x 0 0 w35 142 [(0, .ref (gz (xG x) + 114)), (1, .int a1)] [.int r36, .int r30]
      obtain ⟨h37, o38⟩ := y34
      have h39 := Ch.tr h33 h37 (by decide) (by decide)
      refine r_isub C dX11_told_142 (fun v40 e41 => ?_)
      refine r_aload_n 0 C dX11_told_143 rfl ?_
      refine r_iconst (v := (-1)) C dX11_told_144 (by decide) ?_
      refine r_iconst (v := 2) C dX11_told_145 (by decide) ?_
      refine callVI C cwX11_289_V (ctX11_headsBy _ _ w35 (sS sM h39) o38 (-1) 2 ) (by decide) (kS sM h39 kc_114) rfl rfl rfl (Nat.le_of_ble_eq_true rfl) (by decide) dX11_told_146 (fun r44 w43 y42 => ?_)
      show V x 0 0 w43 149 [(0, .ref (gz (xG x) + 114)), (1, .int a1)] [.int r44, .int v40]
      obtain ⟨h45, o46⟩ := y42
      have h47 := Ch.tr h39 h45 (by decide) (by decide)
      refine r_isub C dX11_told_149 (fun v48 e49 => ?_)
      exact hret _ _ _ _ dX11_told_150 rfl ⟨h47, o46⟩
    · refine r_tabIn 151 C dX11_told_1 (by omega) (by omega) (by rw [c1]; rfl) (by decide) ?_
      refine r_aload_n 0 C dX11_told_151 rfl ?_
      refine callVI C cwX11_298_V (ctX11_worth _ _ w (sS sM h0) o0  ) (by decide) (kS sM h0 kc_114) rfl rfl rfl (Nat.le_of_ble_eq_true rfl) (by decide) dX11_told_152 (fun r52 w51 y50 => ?_)
      show V x 0 0 w51 155 [(0, .ref (gz (xG x) + 114)), (1, .int a1)] [.int r52]
      obtain ⟨h53, o54⟩ := y50
      have h55 := Ch.tr h0 h53 (by decide) (by decide)
      exact hret _ _ _ _ dX11_told_155 rfl ⟨h55, o54⟩
    · refine r_tabIn 156 C dX11_told_1 (by omega) (by omega) (by rw [c1]; rfl) (by decide) ?_
      refine r_aload_n 0 C dX11_told_156 rfl ?_
      refine gfX11_265 (v := (wI w 114 49)) C (kS sM h0 kc_114) rfl dX11_told_157 ?_
      have b56 := Inv.get o0.1 rt_114_49 (j := 49) (by decide) (by decide)
      exact hret _ _ _ _ dX11_told_160 rfl ⟨h0, o0⟩
    · refine r_tabIn 161 C dX11_told_1 (by omega) (by omega) (by rw [c1]; rfl) (by decide) ?_
      refine r_aload_n 0 C dX11_told_161 rfl ?_
      refine gfX11_268 (v := (wI w 114 52)) C (kS sM h0 kc_114) rfl dX11_told_162 ?_
      have b57 := Inv.get o0.1 rt_114_52 (j := 52) (by decide) (by decide)
      exact hret _ _ _ _ dX11_told_165 rfl ⟨h0, o0⟩
set_option maxHeartbeats 4000000 in
set_option maxRecDepth 100000 in
theorem ctX11_hears (l : Launch) (G : Gt) (w : Wv) (sM : Str KM XM w) (o0 : OkM w) (a1 : Int32) (a2 : Int32) (b1 : 0 ≤ a1.toInt ∧ a1.toInt ≤ 5) (b2 : 0 ≤ a2.toInt ∧ a2.toInt ≤ 2) : CtI l G yX11_hears cX11_hears 3 .boolean ({ frames := 2, cells := 0, slots := 0, locals := 42 } : Room) [.ref (gz G + 114), .int a1, .int a2] w (fun r w' => Ch [] [] w w' ∧ OkM w' ∧ ((0 ≤ r.toInt ∧ r.toInt ≤ 1))) := by
  refine enterI (by decide) (Nat.le_of_ble_eq_true rfl) ?_
  intro x el eG C hret
  subst el; subst eG
  show V x 0 0 w 0 [(0, .ref (gz (xG x) + 114)), (1, .int a1), (2, .int a2)] []
  have h0 : Ch [] [] w w := Ch.rf
  have q0 : (0 : Int32).toInt = 0 := by decide
  have q1 : (1 : Int32).toInt = 1 := by decide
  have q42 : (42 : Int32).toInt = 42 := by decide
  obtain ⟨rA, rB, rC, rD⟩ := (o0.2 : Rel w)
  refine r_aload_n 0 C dX11_hears_0 rfl ?_
  refine r_iload_n 1 C dX11_hears_1 rfl ?_
  refine callVI C cwX11_304_V (ctX11_isHere _ _ w (sS sM h0) o0 a1 (by omega)) (by decide) (kS sM h0 kc_114) rfl rfl rfl (Nat.le_of_ble_eq_true rfl) (by decide) dX11_hears_2 (fun r3 w2 y1 => ?_)
  show V x 0 0 w2 5 [(0, .ref (gz (xG x) + 114)), (1, .int a1), (2, .int a2)] [.int r3]
  obtain ⟨h4, o5, g6⟩ := y1
  have h7 := Ch.tr h0 h4 (by decide) (by decide)
  refine r_if_eq 58 C dX11_hears_5 (by decide) (fun c8 => ?_) (fun c8 => ?_)
  · have c8' := i_eq c8
    refine r_iconst (v := 0) C dX11_hears_58 (by decide) ?_
    exact hret _ _ _ _ dX11_hears_59 (nar_z (z_of (by omega))) ⟨h7, o5, by omega⟩
  · have c8' := i_ne c8
    refine r_aload_n 0 C dX11_hears_8 rfl ?_
    refine gfX11_25 120 C (kS sM h7 kc_114) (xS sM h7 xc_114_9) dX11_hears_9 ?_
    refine r_iload_n 2 C dX11_hears_12 rfl ?_
    refine r_iald C (kS sM h7 kc_120) (vin (by omega) (by omega)) dX11_hears_13 ?_
    generalize (wI w2 120 (a2).toNatClampNeg) = v9
    refine r_aload_n 0 C dX11_hears_14 rfl ?_
    refine gfX11_13 116 C (kS sM h7 kc_114) (xS sM h7 xc_114_4) dX11_hears_15 ?_
    refine r_iload_n 1 C dX11_hears_18 rfl ?_
    refine r_iald C (kS sM h7 kc_116) (vin (by omega) (by omega)) dX11_hears_19 ?_
    generalize (wI w2 116 (a1).toNatClampNeg) = v10
    refine callSI C cwX11_307_S (ctX11_has _ _ w2 v9 v10 ) (by decide) rfl rfl (Nat.le_of_ble_eq_true rfl) (by decide) dX11_hears_20 (fun r13 w12 y11 => ?_)
    obtain ⟨y11, g14⟩ := y11
    obtain rfl := y11.symm
    show V x 0 0 w2 23 [(0, .ref (gz (xG x) + 114)), (1, .int a1), (2, .int a2)] [.int r13]
    refine r_if_eq 58 C dX11_hears_23 (by decide) (fun c15 => ?_) (fun c15 => ?_)
    · have c15' := i_eq c15
      refine r_iconst (v := 0) C dX11_hears_58 (by decide) ?_
      exact hret _ _ _ _ dX11_hears_59 (nar_z (z_of (by omega))) ⟨h7, o5, by omega⟩
    · have c15' := i_ne c15
      refine r_aload_n 0 C dX11_hears_26 rfl ?_
      refine gfX11_77 134 C (kS sM h7 kc_114) (xS sM h7 xc_114_44) dX11_hears_27 ?_
      refine r_bipush (v := 42) C dX11_hears_30 (by decide) ?_
      refine r_aload_n 0 C dX11_hears_32 rfl ?_
      refine gfX11_259 (v := (wI w 114 13)) C (kS sM h7 kc_114) (h4.I (by decide) (by decide) rfl) dX11_hears_33 ?_
      have b16 := Inv.get o0.1 rt_114_13 (j := 13) (by decide) (by decide)
      refine r_imul C dX11_hears_36 (fun v17 e18 => ?_)
      have k19 : (42 : Int32).toInt = 42 := by omega
      have v17' := imul_ok e18 (by rw [k19]; omega) (by rw [k19]; omega)
      rw [k19] at v17'
      refine r_aload_n 0 C dX11_hears_37 rfl ?_
      refine gfX11_38 122 C (kS sM h7 kc_114) (xS sM h7 xc_114_14) dX11_hears_38 ?_
      refine r_iload_n 1 C dX11_hears_41 rfl ?_
      refine r_iald C (kS sM h7 kc_122) (vin (by omega) (by omega)) dX11_hears_42 ?_
      have b21 := Inv.geta o5.1 rt_122_0 (i := a1) (by omega) (by omega) (by omega)
      generalize (wI w2 122 (a1).toNatClampNeg) = v20 at b21 ⊢
      refine r_iadd C dX11_hears_43 (fun v22 e23 => ?_)
      have v22' := iadd_ok e23 (by omega) (by omega)
      refine r_iald C (kS sM h7 kc_134) (vin (by omega) (by omega)) dX11_hears_44 ?_
      generalize (wI w2 134 (v22).toNatClampNeg) = v24
      refine r_aload_n 0 C dX11_hears_45 rfl ?_
      refine gfX11_28 121 C (kS sM h7 kc_114) (xS sM h7 xc_114_10) dX11_hears_46 ?_
      refine r_iload_n 2 C dX11_hears_49 rfl ?_
      refine r_iald C (kS sM h7 kc_121) (vin (by omega) (by omega)) dX11_hears_50 ?_
      generalize (wI w2 121 (a2).toNatClampNeg) = v25
      have k27 := i_rng v24
      have k28 := i_rng v25
      refine r_icmp_gt 58 C dX11_hears_51 (by decide) (fun c26 => ?_) (fun c26 => ?_)
      · have c26' := i_lt c26
        refine r_iconst (v := 0) C dX11_hears_58 (by decide) ?_
        exact hret _ _ _ _ dX11_hears_59 (nar_z (z_of (by omega))) ⟨h7, o5, by omega⟩
      · have c26' := i_nlt c26
        refine r_iconst (v := 1) C dX11_hears_54 (by decide) ?_
        refine r_goto 59 C dX11_hears_55 (by decide) ?_
        exact hret _ _ _ _ dX11_hears_59 (nar_z (z_of (by omega))) ⟨h7, o5, by omega⟩
set_option maxHeartbeats 4000000 in
set_option maxRecDepth 100000 in
theorem ctX11_crowd (l : Launch) (G : Gt) (w : Wv) (sM : Str KM XM w) (o0 : OkM w) (a1 : Int32) (a2 : Int32) : CtI l G yX11_crowd cX11_crowd 3 .int ({ frames := 2, cells := 0, slots := 0, locals := 46 } : Room) [.ref (gz G + 114), .int a1, .int a2] w (fun r w' => Ch [] [] w w' ∧ OkM w') := by
  refine enterI (by decide) (Nat.le_of_ble_eq_true rfl) ?_
  intro x el eG C hret
  subst el; subst eG
  show V x 0 0 w 0 [(0, .ref (gz (xG x) + 114)), (1, .int a1), (2, .int a2)] []
  have h0 : Ch [] [] w w := Ch.rf
  have qm1000000002 : ((-1000000002) : Int32).toInt = (-1000000002) := by decide
  have qm1000000001 : ((-1000000001) : Int32).toInt = (-1000000001) := by decide
  have qm1 : ((-1) : Int32).toInt = (-1) := by decide
  have q0 : (0 : Int32).toInt = 0 := by decide
  obtain ⟨rA, rB, rC, rD⟩ := (o0.2 : Rel w)
  refine r_aload_n 0 C dX11_crowd_0 rfl ?_
  refine r_iload_n 1 C dX11_crowd_1 rfl ?_
  have b1 := Inv.get o0.1 rt_114_3 (j := 3) (by decide) (by decide)
  refine callVI C cwX11_301_V (ctX11_isCrowd _ _ w (sS sM h0) o0 (wI w 114 3) rfl (by omega) a1 ) (by decide) (kS sM h0 kc_114) rfl rfl rfl (Nat.le_of_ble_eq_true rfl) (by decide) dX11_crowd_2 (fun r4 w3 y2 => ?_)
  show V x 0 0 w3 5 [(0, .ref (gz (xG x) + 114)), (1, .int a1), (2, .int a2)] [.int r4]
  obtain ⟨h5, o6, g7⟩ := y2
  have h8 := Ch.tr h0 h5 (by decide) (by decide)
  refine r_if_ne 12 C dX11_crowd_5 (by decide) (fun c9 => ?_) (fun c9 => ?_)
  · have c9' := i_ne c9
    refine r_iload_n 2 C dX11_crowd_12 rfl ?_
    by_cases c10 : (a2 : Int32).toInt < 0 ∨ 6 < (a2 : Int32).toInt
    · refine r_tabOut 126 C dX11_crowd_13 c10 (by decide) ?_
      refine r_ldc C mw5_239 dX11_crowd_126 ?_
      exact hret _ _ _ _ dX11_crowd_128 rfl ⟨h8, o6⟩
    · rcases (show (a2 : Int32).toInt = 0 ∨ (a2 : Int32).toInt = 1 ∨ (a2 : Int32).toInt = 2 ∨ (a2 : Int32).toInt = 3 ∨ (a2 : Int32).toInt = 4 ∨ (a2 : Int32).toInt = 5 ∨ (a2 : Int32).toInt = 6 by omega) with c10 | c10 | c10 | c10 | c10 | c10 | c10
      · refine r_tabIn 56 C dX11_crowd_13 (by omega) (by omega) (by rw [c10]; rfl) (by decide) ?_
        refine r_aload_n 0 C dX11_crowd_56 rfl ?_
        refine gfX11_13 116 C (kS sM h8 kc_114) (xS sM h8 xc_114_4) dX11_crowd_57 ?_
        refine r_iload_n 1 C dX11_crowd_60 rfl ?_
        refine r_iald C (kS sM h8 kc_116) (vin (by omega) (by omega)) dX11_crowd_61 ?_
        generalize (wI w3 116 (a1).toNatClampNeg) = v11
        exact hret _ _ _ _ dX11_crowd_62 rfl ⟨h8, o6⟩
      · refine r_tabIn 63 C dX11_crowd_13 (by omega) (by omega) (by rw [c10]; rfl) (by decide) ?_
        refine r_aload_n 0 C dX11_crowd_63 rfl ?_
        refine gfX11_16 117 C (kS sM h8 kc_114) (xS sM h8 xc_114_5) dX11_crowd_64 ?_
        refine r_iload_n 1 C dX11_crowd_67 rfl ?_
        refine r_iald C (kS sM h8 kc_117) (vin (by omega) (by omega)) dX11_crowd_68 ?_
        generalize (wI w3 117 (a1).toNatClampNeg) = v12
        exact hret _ _ _ _ dX11_crowd_69 rfl ⟨h8, o6⟩
      · refine r_tabIn 70 C dX11_crowd_13 (by omega) (by omega) (by rw [c10]; rfl) (by decide) ?_
        refine r_aload_n 0 C dX11_crowd_70 rfl ?_
        refine gfX11_19 118 C (kS sM h8 kc_114) (xS sM h8 xc_114_6) dX11_crowd_71 ?_
        refine r_iload_n 1 C dX11_crowd_74 rfl ?_
        refine r_iald C (kS sM h8 kc_118) (vin (by omega) (by omega)) dX11_crowd_75 ?_
        generalize (wI w3 118 (a1).toNatClampNeg) = v13
        exact hret _ _ _ _ dX11_crowd_76 rfl ⟨h8, o6⟩
      · refine r_tabIn 77 C dX11_crowd_13 (by omega) (by omega) (by rw [c10]; rfl) (by decide) ?_
        refine r_aload_n 0 C dX11_crowd_77 rfl ?_
        refine gfX11_22 119 C (kS sM h8 kc_114) (xS sM h8 xc_114_7) dX11_crowd_78 ?_
        refine r_iload_n 1 C dX11_crowd_81 rfl ?_
        refine r_iald C (kS sM h8 kc_119) (vin (by omega) (by omega)) dX11_crowd_82 ?_
        generalize (wI w3 119 (a1).toNatClampNeg) = v14
        exact hret _ _ _ _ dX11_crowd_83 rfl ⟨h8, o6⟩
      · refine r_tabIn 84 C dX11_crowd_13 (by omega) (by omega) (by rw [c10]; rfl) (by decide) ?_
        refine r_aload_n 0 C dX11_crowd_84 rfl ?_
        refine r_aload_n 0 C dX11_crowd_85 rfl ?_
        refine gfX11_38 122 C (kS sM h8 kc_114) (xS sM h8 xc_114_14) dX11_crowd_86 ?_
        refine r_iload_n 1 C dX11_crowd_89 rfl ?_
        refine r_iald C (kS sM h8 kc_122) (vin (by omega) (by omega)) dX11_crowd_90 ?_
        have b16 := Inv.geta o6.1 rt_122_0 (i := a1) (by omega) (by omega) (by omega)
        generalize (wI w3 122 (a1).toNatClampNeg) = v15 at b16 ⊢
        have b17 := Inv.get o0.1 rt_114_0 (j := 0) (by decide) (by decide)
        refine callVI C cwX11_292_V (ctX11_told10 _ _ w3 (sS sM h8) o6 (wI w 114 0) (h5.I (by decide) (by decide) rfl) (by omega) v15 (by omega)) (by decide) (kS sM h8 kc_114) rfl rfl rfl (Nat.le_of_ble_eq_true rfl) (by decide) dX11_crowd_91 (fun r20 w19 y18 => ?_)
        show V x 0 0 w19 94 [(0, .ref (gz (xG x) + 114)), (1, .int a1), (2, .int a2)] [.int r20]
        obtain ⟨h21, o22⟩ := y18
        have h23 := Ch.tr h8 h21 (by decide) (by decide)
        exact hret _ _ _ _ dX11_crowd_94 rfl ⟨h23, o22⟩
      · refine r_tabIn 95 C dX11_crowd_13 (by omega) (by omega) (by rw [c10]; rfl) (by decide) ?_
        refine r_aload_n 0 C dX11_crowd_95 rfl ?_
        refine gfX11_41 123 C (kS sM h8 kc_114) (xS sM h8 xc_114_15) dX11_crowd_96 ?_
        refine r_iload_n 1 C dX11_crowd_99 rfl ?_
        refine r_iald C (kS sM h8 kc_123) (vin (by omega) (by omega)) dX11_crowd_100 ?_
        rw [show wI w3 123 (a1).toNatClampNeg = (wI w 123 (a1).toNatClampNeg) from (h5.A (by decide) (by decide) rfl)]
        have b25 := Inv.geta o0.1 rt_123_0 (i := a1) (by omega) (by omega) (by omega)
        refine r_if_ge 108 C dX11_crowd_101 (by decide) (fun c26 => ?_) (fun c26 => ?_)
        · have c26' := i_le c26
          refine r_aload_n 0 C dX11_crowd_108 rfl ?_
          refine r_aload_n 0 C dX11_crowd_109 rfl ?_
          refine gfX11_41 123 C (kS sM h8 kc_114) (xS sM h8 xc_114_15) dX11_crowd_110 ?_
          refine r_iload_n 1 C dX11_crowd_113 rfl ?_
          refine r_iald C (kS sM h8 kc_123) (vin (by omega) (by omega)) dX11_crowd_114 ?_
          rw [show wI w3 123 (a1).toNatClampNeg = (wI w 123 (a1).toNatClampNeg) from (h5.A (by decide) (by decide) rfl)]
          have b28 := Inv.geta o0.1 rt_123_0 (i := a1) (by omega) (by omega) (by omega)
          have b29 := Inv.get o0.1 rt_114_0 (j := 0) (by decide) (by decide)
          refine callVI C cwX11_292_V (ctX11_told10 _ _ w3 (sS sM h8) o6 (wI w 114 0) (h5.I (by decide) (by decide) rfl) (by omega) (wI w 123 (a1).toNatClampNeg) (by omega)) (by decide) (kS sM h8 kc_114) rfl rfl rfl (Nat.le_of_ble_eq_true rfl) (by decide) dX11_crowd_115 (fun r32 w31 y30 => ?_)
          show V x 0 0 w31 118 [(0, .ref (gz (xG x) + 114)), (1, .int a1), (2, .int a2)] [.int r32]
          obtain ⟨h33, o34⟩ := y30
          have h35 := Ch.tr h8 h33 (by decide) (by decide)
          exact hret _ _ _ _ dX11_crowd_118 rfl ⟨h35, o34⟩
        · have c26' := i_nle c26
          refine r_iconst (v := (-1)) C dX11_crowd_104 (by decide) ?_
          refine r_goto 118 C dX11_crowd_105 (by decide) ?_
          exact hret _ _ _ _ dX11_crowd_118 rfl ⟨h8, o6⟩
      · refine r_tabIn 119 C dX11_crowd_13 (by omega) (by omega) (by rw [c10]; rfl) (by decide) ?_
        refine r_aload_n 0 C dX11_crowd_119 rfl ?_
        refine gfX11_44 124 C (kS sM h8 kc_114) (xS sM h8 xc_114_16) dX11_crowd_120 ?_
        refine r_iload_n 1 C dX11_crowd_123 rfl ?_
        refine r_iald C (kS sM h8 kc_124) (vin (by omega) (by omega)) dX11_crowd_124 ?_
        generalize (wI w3 124 (a1).toNatClampNeg) = v36
        exact hret _ _ _ _ dX11_crowd_125 rfl ⟨h8, o6⟩
  · have c9' := i_eq c9
    refine r_ldcw C mw6_112 dX11_crowd_8 ?_
    exact hret _ _ _ _ dX11_crowd_11 rfl ⟨h8, o6⟩
set_option maxHeartbeats 4000000 in
set_option maxRecDepth 100000 in
theorem ctX11_tune (l : Launch) (G : Gt) (w : Wv) (sM : Str KM XM w) (o0 : OkM w) (a1 : Int32) (a2 : Int32) : CtI l G yX11_tune cX11_tune 5 .int ({ frames := 3, cells := 0, slots := 0, locals := 64 } : Room) [.ref (gz G + 114), .int a1, .int a2] w (fun r w' => Ch [] [] w w' ∧ OkM w') := by
  refine enterI (by decide) (Nat.le_of_ble_eq_true rfl) ?_
  intro x el eG C hret
  subst el; subst eG
  show V x 0 0 w 0 [(0, .ref (gz (xG x) + 114)), (1, .int a1), (2, .int a2)] []
  have h0 : Ch [] [] w w := Ch.rf
  have qm1000000002 : ((-1000000002) : Int32).toInt = (-1000000002) := by decide
  have qm1000000001 : ((-1000000001) : Int32).toInt = (-1000000001) := by decide
  have q0 : (0 : Int32).toInt = 0 := by decide
  have q1 : (1 : Int32).toInt = 1 := by decide
  have q2 : (2 : Int32).toInt = 2 := by decide
  obtain ⟨rA, rB, rC, rD⟩ := (o0.2 : Rel w)
  have LP17 : ∀ (f18 : Nat) (u15 : Int32) (u16 : Int32) (w19 : Wv), Ch [] [] w w19 → OkM w19 → (0 ≤ u16.toInt ∧ u16.toInt ≤ 2147483647) → (0 ≤ a1.toInt ∧ a1.toInt ≤ 2) → (2 ≤ a2.toInt ∧ a2.toInt ≤ 2) → 2147483647 - u16.toInt < f18 → V x 0 0 w19 22 [(0, .ref (gz (xG x) + 114)), (1, .int a1), (2, .int a2), (3, .int u15), (4, .int u16)] [] := by
    intro f18
    induction f18 with
    | zero => intro u15 u16 w19 h20 o21 z22 z23 z24 z25; exfalso; omega
    | succ f18 ih26 =>
      intro u15 u16 w19 h20 o21 z22 z23 z24 z25
      refine r_iload 4 C dX11_tune_22 rfl ?_
      refine r_aload_n 0 C dX11_tune_24 rfl ?_
      refine gfX11_121 (v := (wI w 114 3)) C (kS sM h20 kc_114) (h20.I (by decide) (by decide) rfl) dX11_tune_25 ?_
      have b27 := Inv.get o0.1 rt_114_3 (j := 3) (by decide) (by decide)
      have k29 := i_rng u16
      refine r_icmp_ge 58 C dX11_tune_28 (by decide) (fun c28 => ?_) (fun c28 => ?_)
      · have c28' := i_le c28
        refine r_iload_n 3 C dX11_tune_58 rfl ?_
        exact hret _ _ _ _ dX11_tune_59 rfl ⟨h20, o21⟩
      · have c28' := i_nle c28
        refine r_iload_n 3 C dX11_tune_31 rfl ?_
        refine r_aload_n 0 C dX11_tune_32 rfl ?_
        refine r_iload 4 C dX11_tune_33 rfl ?_
        refine r_iload_n 1 C dX11_tune_35 rfl ?_
        refine callVI C cwX11_313_V (ctX11_hears _ _ w19 (sS sM h20) o21 u16 a1 (by omega) (by omega)) (by decide) (kS sM h20 kc_114) rfl rfl rfl (Nat.le_of_ble_eq_true rfl) (by decide) dX11_tune_36 (fun r32 w31 y30 => ?_)
        show V x 0 0 w31 39 [(0, .ref (gz (xG x) + 114)), (1, .int a1), (2, .int a2), (3, .int u15), (4, .int u16)] [.int r32, .int u15]
        obtain ⟨h33, o34, g35⟩ := y30
        have h36 := Ch.tr h20 h33 (by decide) (by decide)
        refine r_if_eq 49 C dX11_tune_39 (by decide) (fun c37 => ?_) (fun c37 => ?_)
        · have c37' := i_eq c37
          refine r_iconst (v := 0) C dX11_tune_49 (by decide) ?_
          refine r_ior C dX11_tune_50 (fun v38 e39 => ?_)
          refine r_istore_n [(3, .int v38), (0, .ref (gz (xG x) + 114)), (1, .int a1), (2, .int a2), (4, .int u16)] C dX11_tune_51 (by decide) rfl ?_
          obtain ⟨i40, e41⟩ : ∃ z : Int32, u16 + Int32.ofInt 1 = z := ⟨_, rfl⟩
          have i40' := iinc_ok e41 (by decide) (by omega) (by omega)
          refine r_iinc [(4, .int i40), (3, .int v38), (0, .ref (gz (xG x) + 114)), (1, .int a1), (2, .int a2)] 4 C dX11_tune_52 rfl e41 (by decide) rfl ?_
          refine r_goto 22 C dX11_tune_55 (by decide) ?_
          refine r_lv [2, 3, 4, 1, 0] rfl ?_
          exact ih26 v38 i40 w31 h36 o34 (by omega) (by omega) (by omega) (by omega)
        · have c37' := i_ne c37
          refine r_iconst (v := 1) C dX11_tune_42 (by decide) ?_
          refine r_iload 4 C dX11_tune_43 rfl ?_
          refine r_ishl C dX11_tune_45 (fun v42 e43 => ?_)
          refine r_goto 50 C dX11_tune_46 (by decide) ?_
          refine r_ior C dX11_tune_50 (fun v44 e45 => ?_)
          refine r_istore_n [(3, .int v44), (0, .ref (gz (xG x) + 114)), (1, .int a1), (2, .int a2), (4, .int u16)] C dX11_tune_51 (by decide) rfl ?_
          obtain ⟨i46, e47⟩ : ∃ z : Int32, u16 + Int32.ofInt 1 = z := ⟨_, rfl⟩
          have i46' := iinc_ok e47 (by decide) (by omega) (by omega)
          refine r_iinc [(4, .int i46), (3, .int v44), (0, .ref (gz (xG x) + 114)), (1, .int a1), (2, .int a2)] 4 C dX11_tune_52 rfl e47 (by decide) rfl ?_
          refine r_goto 22 C dX11_tune_55 (by decide) ?_
          refine r_lv [2, 3, 4, 1, 0] rfl ?_
          exact ih26 v44 i46 w31 h36 o34 (by omega) (by omega) (by omega) (by omega)
  refine r_aload_n 0 C dX11_tune_0 rfl ?_
  refine r_iload_n 1 C dX11_tune_1 rfl ?_
  have b1 := Inv.get o0.1 rt_114_8 (j := 8) (by decide) (by decide)
  refine callVI C cwX11_310_V (ctX11_isTune _ _ w (sS sM h0) o0 (wI w 114 8) rfl (by omega) a1 ) (by decide) (kS sM h0 kc_114) rfl rfl rfl (Nat.le_of_ble_eq_true rfl) (by decide) dX11_tune_2 (fun r4 w3 y2 => ?_)
  show V x 0 0 w3 5 [(0, .ref (gz (xG x) + 114)), (1, .int a1), (2, .int a2)] [.int r4]
  obtain ⟨h5, o6, g7⟩ := y2
  have h8 := Ch.tr h0 h5 (by decide) (by decide)
  refine r_if_ne 12 C dX11_tune_5 (by decide) (fun c9 => ?_) (fun c9 => ?_)
  · have c9' := i_ne c9
    refine r_iload_n 2 C dX11_tune_12 rfl ?_
    refine r_iconst (v := 2) C dX11_tune_13 (by decide) ?_
    refine r_icmp_ne 60 C dX11_tune_14 (by decide) (fun c10 => ?_) (fun c10 => ?_)
    · have c10' := i_ne c10
      refine r_iload_n 2 C dX11_tune_60 rfl ?_
      refine r_if_ne 73 C dX11_tune_61 (by decide) (fun c11 => ?_) (fun c11 => ?_)
      · have c11' := i_ne c11
        refine r_iload_n 2 C dX11_tune_73 rfl ?_
        refine r_iconst (v := 1) C dX11_tune_74 (by decide) ?_
        refine r_icmp_ne 87 C dX11_tune_75 (by decide) (fun c12 => ?_) (fun c12 => ?_)
        · have c12' := i_ne c12
          refine r_ldc C mw5_239 dX11_tune_87 ?_
          exact hret _ _ _ _ dX11_tune_89 rfl ⟨h8, o6⟩
        · have c12' := i_eq c12
          refine r_aload_n 0 C dX11_tune_78 rfl ?_
          refine gfX11_28 121 C (kS sM h8 kc_114) (xS sM h8 xc_114_10) dX11_tune_79 ?_
          refine r_iload_n 1 C dX11_tune_82 rfl ?_
          refine r_iald C (kS sM h8 kc_121) (vin (by omega) (by omega)) dX11_tune_83 ?_
          generalize (wI w3 121 (a1).toNatClampNeg) = v13
          refine r_goto 89 C dX11_tune_84 (by decide) ?_
          exact hret _ _ _ _ dX11_tune_89 rfl ⟨h8, o6⟩
      · have c11' := i_eq c11
        refine r_aload_n 0 C dX11_tune_64 rfl ?_
        refine gfX11_25 120 C (kS sM h8 kc_114) (xS sM h8 xc_114_9) dX11_tune_65 ?_
        refine r_iload_n 1 C dX11_tune_68 rfl ?_
        refine r_iald C (kS sM h8 kc_120) (vin (by omega) (by omega)) dX11_tune_69 ?_
        generalize (wI w3 120 (a1).toNatClampNeg) = v14
        refine r_goto 89 C dX11_tune_70 (by decide) ?_
        exact hret _ _ _ _ dX11_tune_89 rfl ⟨h8, o6⟩
    · have c10' := i_eq c10
      refine r_iconst (v := 0) C dX11_tune_17 (by decide) ?_
      refine r_istore_n [(3, .int 0), (0, .ref (gz (xG x) + 114)), (1, .int a1), (2, .int a2)] C dX11_tune_18 (by decide) rfl ?_
      refine r_iconst (v := 0) C dX11_tune_19 (by decide) ?_
      refine r_istore [(4, .int 0), (3, .int 0), (0, .ref (gz (xG x) + 114)), (1, .int a1), (2, .int a2)] C dX11_tune_20 (by decide) rfl ?_
      refine r_lv [2, 3, 4, 1, 0] rfl ?_
      exact LP17 4294967296 0 0 w3 h8 o6 (by omega) (by omega) (by omega) (by omega)
  · have c9' := i_eq c9
    refine r_ldcw C mw6_112 dX11_tune_8 ?_
    exact hret _ _ _ _ dX11_tune_11 rfl ⟨h8, o6⟩
set_option maxHeartbeats 4000000 in
set_option maxRecDepth 100000 in
theorem ctX11_stepTo (l : Launch) (G : Gt) (w : Wv) (sM : Str KM XM w) (o0 : OkM w) (W : Int32) (pW : wI w 114 0 = W) (bW : 0 ≤ W.toInt ∧ W.toInt ≤ 9) (D : Int32) (pD : wI w 114 1 = D) (bD : 0 ≤ D.toInt ∧ D.toInt ≤ 9) (a1 : Int32) : CtI l G yX11_stepTo cX11_stepTo 3 .int ({ frames := 3, cells := 0, slots := 0, locals := 71 } : Room) [.ref (gz G + 114), .int a1] w (fun r w' => Ch [] [] w w' ∧ OkM w' ∧ (-1 ≤ r.toInt ∧ r.toInt ≤ 41 ∧ (0 ≤ r.toInt → 0 < W.toInt))) := by
  refine enterI (by decide) (Nat.le_of_ble_eq_true rfl) ?_
  intro x el eG C hret
  subst el; subst eG
  show V x 0 0 w 0 [(0, .ref (gz (xG x) + 114)), (1, .int a1)] []
  have h0 : Ch [] [] w w := Ch.rf
  have qm1 : ((-1) : Int32).toInt = (-1) := by decide
  have q0 : (0 : Int32).toInt = 0 := by decide
  have q1 : (1 : Int32).toInt = 1 := by decide
  have q2 : (2 : Int32).toInt = 2 := by decide
  obtain ⟨rA, rB, rC, rD⟩ := (o0.2 : Rel w)
  (try simp only [pW] at rA); (try simp only [pW] at rB); (try simp only [pW] at rC); (try simp only [pW] at rD)
  (try simp only [pD] at rA); (try simp only [pD] at rB); (try simp only [pD] at rC); (try simp only [pD] at rD)
  refine r_aload_n 0 C dX11_stepTo_0 rfl ?_
  refine gfX11_111 (v := W) C (kS sM h0 kc_114) pW dX11_stepTo_1 ?_
  refine r_if_ne 11 C dX11_stepTo_4 (by decide) (fun c1 => ?_) (fun c1 => ?_)
  · have c1' := i_ne c1
    refine r_iload_n 1 C dX11_stepTo_11 rfl ?_
    refine r_if_ne 22 C dX11_stepTo_12 (by decide) (fun c2 => ?_) (fun c2 => ?_)
    · have c2' := i_ne c2
      refine r_aload_n 0 C dX11_stepTo_22 rfl ?_
      refine r_aload_n 0 C dX11_stepTo_23 rfl ?_
      refine gfX11_259 (v := (wI w 114 13)) C (kS sM h0 kc_114) rfl dX11_stepTo_24 ?_
      have b3 := Inv.get o0.1 rt_114_13 (j := 13) (by decide) (by decide)
      refine r_iload_n 1 C dX11_stepTo_27 rfl ?_
      refine callVI C cwX11_278_V (ctX11_beside _ _ w (sS sM h0) o0 W pW (by omega) D pD (by omega) (wI w 114 13) a1 (by omega)) (by decide) (kS sM h0 kc_114) rfl rfl rfl (Nat.le_of_ble_eq_true rfl) (by decide) dX11_stepTo_28 (fun r6 w5 y4 => ?_)
      show V x 0 0 w5 31 [(0, .ref (gz (xG x) + 114)), (1, .int a1)] [.int r6]
      obtain ⟨h7, o8, g9⟩ := y4
      have h10 := Ch.tr h0 h7 (by decide) (by decide)
      refine r_istore_n [(2, .int r6), (0, .ref (gz (xG x) + 114)), (1, .int a1)] C dX11_stepTo_31 (by decide) rfl ?_
      refine r_iload_n 0 C dX11_stepTo_32 rfl ?_
      refine r_if_lt 60 C dX11_stepTo_33 (by decide) (fun c11 => ?_) (fun c11 => ?_)
      · have c11' := i_lt c11
        refine r_iconst (v := (-1)) C dX11_stepTo_60 (by decide) ?_
        refine r_goto 65 C dX11_stepTo_61 (by decide) ?_
        exact hret _ _ _ _ dX11_stepTo_65 rfl ⟨h10, o8, by omega⟩
      · have c11' := i_nlt c11
        refine r_iload_n 2 C dX11_stepTo_36 rfl ?_
        refine r_if_le 64 C dX11_stepTo_37 (by decide) (fun c12 => ?_) (fun c12 => ?_)
        · have c12' := i_le c12
          refine r_iload_n 0 C dX11_stepTo_64 rfl ?_
          exact hret _ _ _ _ dX11_stepTo_65 rfl ⟨h10, o8, by omega⟩
        · have c12' := i_nle c12
          refine r_aload_n 1 C dX11_stepTo_40 rfl ?_
          refine gfX11_7 115 C (kS sM h10 kc_114) (xS sM h10 xc_114_2) dX11_stepTo_41 ?_
          refine r_iload_n 0 C dX11_stepTo_44 rfl ?_
          refine r_iald C (kS sM h10 kc_115) (vin (by omega) (by omega)) dX11_stepTo_45 ?_
          generalize (wI w5 115 (r6).toNatClampNeg) = v13
          refine r_iconst (v := 1) C dX11_stepTo_46 (by decide) ?_
          refine r_icmp_eq 60 C dX11_stepTo_47 (by decide) (fun c14 => ?_) (fun c14 => ?_)
          · have c14' := i_eq c14
            refine r_iconst (v := (-1)) C dX11_stepTo_60 (by decide) ?_
            refine r_goto 65 C dX11_stepTo_61 (by decide) ?_
            exact hret _ _ _ _ dX11_stepTo_65 rfl ⟨h10, o8, by omega⟩
          · have c14' := i_ne c14
            refine r_aload_n 1 C dX11_stepTo_50 rfl ?_
            refine gfX11_7 115 C (kS sM h10 kc_114) (xS sM h10 xc_114_2) dX11_stepTo_51 ?_
            refine r_iload_n 0 C dX11_stepTo_54 rfl ?_
            refine r_iald C (kS sM h10 kc_115) (vin (by omega) (by omega)) dX11_stepTo_55 ?_
            generalize (wI w5 115 (r6).toNatClampNeg) = v15
            refine r_iconst (v := 2) C dX11_stepTo_56 (by decide) ?_
            refine r_icmp_ne 64 C dX11_stepTo_57 (by decide) (fun c16 => ?_) (fun c16 => ?_)
            · have c16' := i_ne c16
              refine r_iload_n 0 C dX11_stepTo_64 rfl ?_
              exact hret _ _ _ _ dX11_stepTo_65 rfl ⟨h10, o8, by omega⟩
            · have c16' := i_eq c16
              refine r_iconst (v := (-1)) C dX11_stepTo_60 (by decide) ?_
              refine r_goto 65 C dX11_stepTo_61 (by decide) ?_
              exact hret _ _ _ _ dX11_stepTo_65 rfl ⟨h10, o8, by omega⟩
    · have c2' := i_eq c2
      refine r_aload_n 0 C dX11_stepTo_15 rfl ?_
      refine gfX11_259 (v := (wI w 114 13)) C (kS sM h0 kc_114) rfl dX11_stepTo_16 ?_
      have b17 := Inv.get o0.1 rt_114_13 (j := 13) (by decide) (by decide)
      refine r_goto 31 C dX11_stepTo_19 (by decide) ?_
      refine r_istore_n [(2, .int (wI w 114 13)), (0, .ref (gz (xG x) + 114)), (1, .int a1)] C dX11_stepTo_31 (by decide) rfl ?_
      refine r_iload_n 0 C dX11_stepTo_32 rfl ?_
      refine r_if_lt 60 C dX11_stepTo_33 (by decide) (fun c18 => ?_) (fun c18 => ?_)
      · have c18' := i_lt c18
        exfalso; omega
      · have c18' := i_nlt c18
        refine r_iload_n 2 C dX11_stepTo_36 rfl ?_
        refine r_if_le 64 C dX11_stepTo_37 (by decide) (fun c19 => ?_) (fun c19 => ?_)
        · have c19' := i_le c19
          refine r_iload_n 0 C dX11_stepTo_64 rfl ?_
          exact hret _ _ _ _ dX11_stepTo_65 rfl ⟨h0, o0, by omega⟩
        · have c19' := i_nle c19
          exfalso; omega
  · have c1' := i_eq c1
    refine r_iconst (v := (-1)) C dX11_stepTo_7 (by decide) ?_
    refine r_goto 31 C dX11_stepTo_8 (by decide) ?_
    refine r_istore_n [(2, .int (-1)), (0, .ref (gz (xG x) + 114)), (1, .int a1)] C dX11_stepTo_31 (by decide) rfl ?_
    refine r_iload_n 0 C dX11_stepTo_32 rfl ?_
    refine r_if_lt 60 C dX11_stepTo_33 (by decide) (fun c20 => ?_) (fun c20 => ?_)
    · have c20' := i_lt c20
      refine r_iconst (v := (-1)) C dX11_stepTo_60 (by decide) ?_
      refine r_goto 65 C dX11_stepTo_61 (by decide) ?_
      exact hret _ _ _ _ dX11_stepTo_65 rfl ⟨h0, o0, by omega⟩
    · have c20' := i_nlt c20
      exfalso; omega
set_option maxHeartbeats 4000000 in
set_option maxRecDepth 100000 in
theorem ctX11_stepOn (l : Launch) (G : Gt) (w : Wv) (sM : Str KM XM w) (o0 : OkM w) (W : Int32) (pW : wI w 114 0 = W) (bW : 1 ≤ W.toInt ∧ W.toInt ≤ 9) (D : Int32) (pD : wI w 114 1 = D) (bD : 0 ≤ D.toInt ∧ D.toInt ≤ 9) (a1 : Int32) (b1 : 0 ≤ a1.toInt ∧ a1.toInt ≤ 5) (hg : 0 ≤ (wI w 123 (a1).toNatClampNeg).toInt) : CtV l G yX11_stepOn cX11_stepOn 4 ({ frames := 3, cells := 0, slots := 0, locals := 71 } : Room) [.ref (gz G + 114), .int a1] w (fun w' => Ch [122, 124] [] w w' ∧ OkM w') := by
  refine enterV (by decide) (Nat.le_of_ble_eq_true rfl) ?_
  intro x el eG C hnm hret
  subst el; subst eG
  show V x 0 0 w 0 [(0, .ref (gz (xG x) + 114)), (1, .int a1)] []
  have h0 : Ch [122, 124] [] w w := Ch.rf
  have q0 : (0 : Int32).toInt = 0 := by decide
  have q1 : (1 : Int32).toInt = 1 := by decide
  have q2 : (2 : Int32).toInt = 2 := by decide
  have q3 : (3 : Int32).toInt = 3 := by decide
  have q5 : (5 : Int32).toInt = 5 := by decide
  have q42 : (42 : Int32).toInt = 42 := by decide
  obtain ⟨rA, rB, rC, rD⟩ := (o0.2 : Rel w)
  (try simp only [pW] at rA); (try simp only [pW] at rB); (try simp only [pW] at rC); (try simp only [pW] at rD)
  (try simp only [pD] at rA); (try simp only [pD] at rB); (try simp only [pD] at rC); (try simp only [pD] at rD)
  have LP2 : ∀ (f3 : Nat) (u1 : Int32) (w4 : Wv), Ch [122, 124] [] w w4 → OkM w4 → (0 ≤ u1.toInt ∧ u1.toInt ≤ 2147483647) → 2147483647 - u1.toInt < f3 → V x 0 0 w4 2 [(0, .ref (gz (xG x) + 114)), (1, .int a1), (2, .int u1)] [] := by
    intro f3
    induction f3 with
    | zero => intro u1 w4 h5 o6 z7 z8; exfalso; omega
    | succ f3 ih9 =>
      intro u1 w4 h5 o6 z7 z8
      refine r_iload_n 2 C dX11_stepOn_2 rfl ?_
      refine r_iconst (v := 5) C dX11_stepOn_3 (by decide) ?_
      have k11 := i_rng u1
      refine r_icmp_ge 114 C dX11_stepOn_4 (by decide) (fun c10 => ?_) (fun c10 => ?_)
      · have c10' := i_le c10
        exact hret _ _ _ dX11_stepOn_114 ⟨h5, o6⟩
      · have c10' := i_nle c10
        refine r_aload_n 0 C dX11_stepOn_7 rfl ?_
        refine r_aload_n 0 C dX11_stepOn_8 rfl ?_
        refine gfX11_38 122 C (kS sM h5 kc_114) (xS sM h5 xc_114_14) dX11_stepOn_9 ?_
        refine r_iload_n 1 C dX11_stepOn_12 rfl ?_
        refine r_iald C (kS sM h5 kc_122) (vin (by omega) (by omega)) dX11_stepOn_13 ?_
        have b13 := Inv.geta o6.1 rt_122_0 (i := a1) (by omega) (by omega) (by omega)
        refine r_iload_n 2 C dX11_stepOn_14 rfl ?_
        refine callVI C cwX11_278_V (ctX11_beside _ _ w4 (sS sM h5) o6 W (h5.I (by decide) (by decide) pW) (by omega) D (h5.I (by decide) (by decide) pD) (by omega) (wI w4 122 (a1).toNatClampNeg) u1 (by omega)) (by decide) (kS sM h5 kc_114) rfl rfl rfl (Nat.le_of_ble_eq_true rfl) (by decide) dX11_stepOn_15 (fun r16 w15 y14 => ?_)
        show V x 0 0 w15 18 [(0, .ref (gz (xG x) + 114)), (1, .int a1), (2, .int u1)] [.int r16]
        obtain ⟨h17, o18, g19⟩ := y14
        have h20 := Ch.tr h5 h17 (by decide) (by decide)
        refine r_istore_n [(3, .int r16), (0, .ref (gz (xG x) + 114)), (1, .int a1), (2, .int u1)] C dX11_stepOn_18 (by decide) rfl ?_
        refine r_iload_n 0 C dX11_stepOn_19 rfl ?_
        refine r_if_lt 108 C dX11_stepOn_20 (by decide) (fun c21 => ?_) (fun c21 => ?_)
        · have c21' := i_lt c21
          obtain ⟨i22, e23⟩ : ∃ z : Int32, u1 + Int32.ofInt 1 = z := ⟨_, rfl⟩
          have i22' := iinc_ok e23 (by decide) (by omega) (by omega)
          refine r_iinc [(2, .int i22), (3, .int r16), (0, .ref (gz (xG x) + 114)), (1, .int a1)] 3 C dX11_stepOn_108 rfl e23 (by decide) rfl ?_
          refine r_goto 2 C dX11_stepOn_111 (by decide) ?_
          refine r_lv [2, 3, 0] rfl ?_
          exact ih9 i22 w15 h20 o18 (by omega) (by omega)
        · have c21' := i_nlt c21
          refine r_aload_n 1 C dX11_stepOn_23 rfl ?_
          refine gfX11_77 134 C (kS sM h20 kc_114) (xS sM h20 xc_114_44) dX11_stepOn_24 ?_
          refine r_bipush (v := 42) C dX11_stepOn_27 (by decide) ?_
          refine r_aload_n 1 C dX11_stepOn_29 rfl ?_
          refine gfX11_41 123 C (kS sM h20 kc_114) (xS sM h20 xc_114_15) dX11_stepOn_30 ?_
          refine r_iload_n 2 C dX11_stepOn_33 rfl ?_
          refine r_iald C (kS sM h20 kc_123) (vin (by omega) (by omega)) dX11_stepOn_34 ?_
          rw [show wI w15 123 (a1).toNatClampNeg = (wI w 123 (a1).toNatClampNeg) from (h17.A (by decide) (by decide) (h5.A (by decide) (by decide) rfl))]
          have b25 := Inv.geta o0.1 rt_123_0 (i := a1) (by omega) (by omega) (by omega)
          refine r_imul C dX11_stepOn_35 (fun v26 e27 => ?_)
          have k28 : (42 : Int32).toInt = 42 := by omega
          have v26' := imul_ok e27 (by rw [k28]; omega) (by rw [k28]; omega)
          rw [k28] at v26'
          refine r_iload_n 0 C dX11_stepOn_36 rfl ?_
          refine r_iadd C dX11_stepOn_37 (fun v29 e30 => ?_)
          have v29' := iadd_ok e30 (by omega) (by omega)
          refine r_iald C (kS sM h20 kc_134) (vin (by omega) (by omega)) dX11_stepOn_38 ?_
          generalize (wI w15 134 (v29).toNatClampNeg) = v31
          refine r_aload_n 1 C dX11_stepOn_39 rfl ?_
          refine gfX11_77 134 C (kS sM h20 kc_114) (xS sM h20 xc_114_44) dX11_stepOn_40 ?_
          refine r_bipush (v := 42) C dX11_stepOn_43 (by decide) ?_
          refine r_aload_n 1 C dX11_stepOn_45 rfl ?_
          refine gfX11_41 123 C (kS sM h20 kc_114) (xS sM h20 xc_114_15) dX11_stepOn_46 ?_
          refine r_iload_n 2 C dX11_stepOn_49 rfl ?_
          refine r_iald C (kS sM h20 kc_123) (vin (by omega) (by omega)) dX11_stepOn_50 ?_
          rw [show wI w15 123 (a1).toNatClampNeg = (wI w 123 (a1).toNatClampNeg) from (h17.A (by decide) (by decide) (h5.A (by decide) (by decide) rfl))]
          have b33 := Inv.geta o0.1 rt_123_0 (i := a1) (by omega) (by omega) (by omega)
          refine r_imul C dX11_stepOn_51 (fun v34 e35 => ?_)
          have k36 : (42 : Int32).toInt = 42 := by omega
          have v34' := imul_ok e35 (by rw [k36]; omega) (by rw [k36]; omega)
          rw [k36] at v34'
          refine r_aload_n 1 C dX11_stepOn_52 rfl ?_
          refine gfX11_38 122 C (kS sM h20 kc_114) (xS sM h20 xc_114_14) dX11_stepOn_53 ?_
          refine r_iload_n 2 C dX11_stepOn_56 rfl ?_
          refine r_iald C (kS sM h20 kc_122) (vin (by omega) (by omega)) dX11_stepOn_57 ?_
          rw [show wI w15 122 (a1).toNatClampNeg = (wI w4 122 (a1).toNatClampNeg) from (h17.A (by decide) (by decide) rfl)]
          have b38 := Inv.geta o6.1 rt_122_0 (i := a1) (by omega) (by omega) (by omega)
          refine r_iadd C dX11_stepOn_58 (fun v39 e40 => ?_)
          have v39' := iadd_ok e40 (by omega) (by omega)
          refine r_iald C (kS sM h20 kc_134) (vin (by omega) (by omega)) dX11_stepOn_59 ?_
          generalize (wI w15 134 (v39).toNatClampNeg) = v41
          refine r_iconst (v := 1) C dX11_stepOn_60 (by decide) ?_
          refine r_isub C dX11_stepOn_61 (fun v42 e43 => ?_)
          refine r_icmp_ne 108 C dX11_stepOn_62 (by decide) (fun c44 => ?_) (fun c44 => ?_)
          · have c44' := i_ne c44
            obtain ⟨i45, e46⟩ : ∃ z : Int32, u1 + Int32.ofInt 1 = z := ⟨_, rfl⟩
            have i45' := iinc_ok e46 (by decide) (by omega) (by omega)
            refine r_iinc [(2, .int i45), (3, .int r16), (0, .ref (gz (xG x) + 114)), (1, .int a1)] 3 C dX11_stepOn_108 rfl e46 (by decide) rfl ?_
            refine r_goto 2 C dX11_stepOn_111 (by decide) ?_
            refine r_lv [2, 3, 0] rfl ?_
            exact ih9 i45 w15 h20 o18 (by omega) (by omega)
          · have c44' := i_eq c44
            refine r_aload_n 1 C dX11_stepOn_65 rfl ?_
            refine gfX11_38 122 C (kS sM h20 kc_114) (xS sM h20 xc_114_14) dX11_stepOn_66 ?_
            refine r_iload_n 2 C dX11_stepOn_69 rfl ?_
            refine r_iload_n 0 C dX11_stepOn_70 rfl ?_
            refine r_iast C (kS sM h20 kc_122) (vin (by omega) (by omega)) dX11_stepOn_71 (fun w47 e48 => ?_)
            have h49 := Ch.putS h20 e48 (by decide)
            have o50 : OkM w47 := ⟨Inv.putR o18.1 e48 0 5 (by omega) (by omega) 0 41 (by omega) (by decide), Rel.putS o18.2 e48 (by decide)⟩
            refine r_aload_n 1 C dX11_stepOn_72 rfl ?_
            refine gfX11_44 124 C (kS sM h49 kc_114) (xS sM h49 xc_114_16) dX11_stepOn_73 ?_
            refine r_iload_n 2 C dX11_stepOn_76 rfl ?_
            refine r_aload_n 1 C dX11_stepOn_77 rfl ?_
            refine gfX11_7 115 C (kS sM h49 kc_114) (xS sM h49 xc_114_2) dX11_stepOn_78 ?_
            refine r_iload_n 0 C dX11_stepOn_81 rfl ?_
            refine r_iald C (kS sM h49 kc_115) (vin (by omega) (by omega)) dX11_stepOn_82 ?_
            generalize (wI w47 115 (r16).toNatClampNeg) = v51
            refine r_iconst (v := 2) C dX11_stepOn_83 (by decide) ?_
            refine r_icmp_ne 91 C dX11_stepOn_84 (by decide) (fun c52 => ?_) (fun c52 => ?_)
            · have c52' := i_ne c52
              refine r_aload_n 1 C dX11_stepOn_91 rfl ?_
              refine gfX11_7 115 C (kS sM h49 kc_114) (xS sM h49 xc_114_2) dX11_stepOn_92 ?_
              refine r_iload_n 0 C dX11_stepOn_95 rfl ?_
              refine r_iald C (kS sM h49 kc_115) (vin (by omega) (by omega)) dX11_stepOn_96 ?_
              generalize (wI w47 115 (r16).toNatClampNeg) = v53
              refine r_iconst (v := 3) C dX11_stepOn_97 (by decide) ?_
              refine r_icmp_ne 105 C dX11_stepOn_98 (by decide) (fun c54 => ?_) (fun c54 => ?_)
              · have c54' := i_ne c54
                refine r_iconst (v := 0) C dX11_stepOn_105 (by decide) ?_
                refine r_iast C (kS sM h49 kc_124) (vin (by omega) (by omega)) dX11_stepOn_106 (fun w55 e56 => ?_)
                have h57 := Ch.putS h49 e56 (by decide)
                have o58 : OkM w55 := ⟨Inv.put0 o50.1 e56 (by decide), Rel.putS o50.2 e56 (by decide)⟩
                exact hret _ _ _ dX11_stepOn_107 ⟨h57, o58⟩
              · have c54' := i_eq c54
                refine r_iconst (v := 1) C dX11_stepOn_101 (by decide) ?_
                refine r_goto 106 C dX11_stepOn_102 (by decide) ?_
                refine r_iast C (kS sM h49 kc_124) (vin (by omega) (by omega)) dX11_stepOn_106 (fun w59 e60 => ?_)
                have h61 := Ch.putS h49 e60 (by decide)
                have o62 : OkM w59 := ⟨Inv.put0 o50.1 e60 (by decide), Rel.putS o50.2 e60 (by decide)⟩
                exact hret _ _ _ dX11_stepOn_107 ⟨h61, o62⟩
            · have c52' := i_eq c52
              refine r_iconst (v := 2) C dX11_stepOn_87 (by decide) ?_
              refine r_goto 106 C dX11_stepOn_88 (by decide) ?_
              refine r_iast C (kS sM h49 kc_124) (vin (by omega) (by omega)) dX11_stepOn_106 (fun w63 e64 => ?_)
              have h65 := Ch.putS h49 e64 (by decide)
              have o66 : OkM w63 := ⟨Inv.put0 o50.1 e64 (by decide), Rel.putS o50.2 e64 (by decide)⟩
              exact hret _ _ _ dX11_stepOn_107 ⟨h65, o66⟩
  refine r_iconst (v := 1) C dX11_stepOn_0 (by decide) ?_
  refine r_istore_n [(2, .int 1), (0, .ref (gz (xG x) + 114)), (1, .int a1)] C dX11_stepOn_1 (by decide) rfl ?_
  refine r_lv [1, 2, 0] rfl ?_
  exact LP2 4294967296 1 w h0 o0 (by omega) (by omega)
set_option maxHeartbeats 4000000 in
set_option maxRecDepth 100000 in
theorem ctX11_walkOn (l : Launch) (G : Gt) (w : Wv) (sM : Str KM XM w) (o0 : OkM w) (W : Int32) (pW : wI w 114 0 = W) (bW : 1 ≤ W.toInt ∧ W.toInt ≤ 9) (D : Int32) (pD : wI w 114 1 = D) (bD : 0 ≤ D.toInt ∧ D.toInt ≤ 9) (a1 : Int32) (b1 : 0 ≤ a1.toInt ∧ a1.toInt ≤ 5) (hg : 0 ≤ (wI w 123 (a1).toNatClampNeg).toInt) : CtV l G yX11_walkOn cX11_walkOn 3 ({ frames := 4, cells := 0, slots := 0, locals := 94 } : Room) [.ref (gz G + 114), .int a1] w (fun w' => Ch [122, 123, 124] [] w w' ∧ OkM w') := by
  refine enterV (by decide) (Nat.le_of_ble_eq_true rfl) ?_
  intro x el eG C hnm hret
  subst el; subst eG
  show V x 0 0 w 0 [(0, .ref (gz (xG x) + 114)), (1, .int a1)] []
  have h0 : Ch [122, 123, 124] [] w w := Ch.rf
  have qm1 : ((-1) : Int32).toInt = (-1) := by decide
  have q0 : (0 : Int32).toInt = 0 := by decide
  have q42 : (42 : Int32).toInt = 42 := by decide
  have q1000 : (1000 : Int32).toInt = 1000 := by decide
  obtain ⟨rA, rB, rC, rD⟩ := (o0.2 : Rel w)
  (try simp only [pW] at rA); (try simp only [pW] at rB); (try simp only [pW] at rC); (try simp only [pW] at rD)
  (try simp only [pD] at rA); (try simp only [pD] at rB); (try simp only [pD] at rC); (try simp only [pD] at rD)
  have LP2 : ∀ (f3 : Nat) (u1 : Int32) (w4 : Wv), Ch [122, 123, 124] [] w w4 → OkM w4 → (0 ≤ u1.toInt ∧ u1.toInt ≤ 2147483647) → (0 ≤ (wI w4 123 (a1).toNatClampNeg).toInt) → 2147483647 - u1.toInt < f3 → V x 0 0 w4 2 [(0, .ref (gz (xG x) + 114)), (1, .int a1), (2, .int u1)] [] := by
    intro f3
    induction f3 with
    | zero => intro u1 w4 h5 o6 z7 z8 z9; exfalso; omega
    | succ f3 ih10 =>
      intro u1 w4 h5 o6 z7 z8 z9
      refine r_iload_n 2 C dX11_walkOn_2 rfl ?_
      refine r_aload_n 0 C dX11_walkOn_3 rfl ?_
      refine gfX11_19 118 C (kS sM h5 kc_114) (xS sM h5 xc_114_6) dX11_walkOn_4 ?_
      refine r_iload_n 1 C dX11_walkOn_7 rfl ?_
      refine r_iald C (kS sM h5 kc_118) (vin (by omega) (by omega)) dX11_walkOn_8 ?_
      generalize (wI w4 118 (a1).toNatClampNeg) = v11
      have k13 := i_rng u1
      have k14 := i_rng v11
      refine r_icmp_ge 74 C dX11_walkOn_9 (by decide) (fun c12 => ?_) (fun c12 => ?_)
      · have c12' := i_le c12
        refine r_aload_n 0 C dX11_walkOn_74 rfl ?_
        refine gfX11_41 123 C (kS sM h5 kc_114) (xS sM h5 xc_114_15) dX11_walkOn_75 ?_
        refine r_iload_n 1 C dX11_walkOn_78 rfl ?_
        refine r_aload_n 0 C dX11_walkOn_79 rfl ?_
        refine gfX11_44 124 C (kS sM h5 kc_114) (xS sM h5 xc_114_16) dX11_walkOn_80 ?_
        refine r_iload_n 1 C dX11_walkOn_83 rfl ?_
        refine r_iald C (kS sM h5 kc_124) (vin (by omega) (by omega)) dX11_walkOn_84 ?_
        generalize (wI w4 124 (a1).toNatClampNeg) = v15
        refine r_if_gt 103 C dX11_walkOn_85 (by decide) (fun c16 => ?_) (fun c16 => ?_)
        · have c16' := i_lt c16
          refine r_iconst (v := (-1)) C dX11_walkOn_103 (by decide) ?_
          refine r_goto 113 C dX11_walkOn_104 (by decide) ?_
          refine r_iast C (kS sM h5 kc_123) (vin (by omega) (by omega)) dX11_walkOn_113 (fun w17 e18 => ?_)
          have h19 := Ch.putS h5 e18 (by decide)
          have o20 : OkM w17 := ⟨Inv.putR o6.1 e18 0 5 (by omega) (by omega) (-1) 41 (by omega) (by decide), Rel.putS o6.2 e18 (by decide)⟩
          exact hret _ _ _ dX11_walkOn_114 ⟨h19, o20⟩
        · have c16' := i_nlt c16
          refine r_aload_n 0 C dX11_walkOn_88 rfl ?_
          refine gfX11_38 122 C (kS sM h5 kc_114) (xS sM h5 xc_114_14) dX11_walkOn_89 ?_
          refine r_iload_n 1 C dX11_walkOn_92 rfl ?_
          refine r_iald C (kS sM h5 kc_122) (vin (by omega) (by omega)) dX11_walkOn_93 ?_
          have b22 := Inv.geta o6.1 rt_122_0 (i := a1) (by omega) (by omega) (by omega)
          refine r_aload_n 0 C dX11_walkOn_94 rfl ?_
          refine gfX11_41 123 C (kS sM h5 kc_114) (xS sM h5 xc_114_15) dX11_walkOn_95 ?_
          refine r_iload_n 1 C dX11_walkOn_98 rfl ?_
          refine r_iald C (kS sM h5 kc_123) (vin (by omega) (by omega)) dX11_walkOn_99 ?_
          have b24 := Inv.geta o6.1 rt_123_0 (i := a1) (by omega) (by omega) (by omega)
          refine r_icmp_ne 107 C dX11_walkOn_100 (by decide) (fun c25 => ?_) (fun c25 => ?_)
          · have c25' := i_ne c25
            refine r_aload_n 0 C dX11_walkOn_107 rfl ?_
            refine gfX11_41 123 C (kS sM h5 kc_114) (xS sM h5 xc_114_15) dX11_walkOn_108 ?_
            refine r_iload_n 1 C dX11_walkOn_111 rfl ?_
            refine r_iald C (kS sM h5 kc_123) (vin (by omega) (by omega)) dX11_walkOn_112 ?_
            have b27 := Inv.geta o6.1 rt_123_0 (i := a1) (by omega) (by omega) (by omega)
            refine r_iast C (kS sM h5 kc_123) (vin (by omega) (by omega)) dX11_walkOn_113 (fun w28 e29 => ?_)
            have h30 := Ch.putS h5 e29 (by decide)
            have o31 : OkM w28 := ⟨Inv.putR o6.1 e29 0 5 (by omega) (by omega) (-1) 41 (by omega) (by decide), Rel.putS o6.2 e29 (by decide)⟩
            exact hret _ _ _ dX11_walkOn_114 ⟨h30, o31⟩
          · have c25' := i_eq c25
            refine r_iconst (v := (-1)) C dX11_walkOn_103 (by decide) ?_
            refine r_goto 113 C dX11_walkOn_104 (by decide) ?_
            refine r_iast C (kS sM h5 kc_123) (vin (by omega) (by omega)) dX11_walkOn_113 (fun w32 e33 => ?_)
            have h34 := Ch.putS h5 e33 (by decide)
            have o35 : OkM w32 := ⟨Inv.putR o6.1 e33 0 5 (by omega) (by omega) (-1) 41 (by omega) (by decide), Rel.putS o6.2 e33 (by decide)⟩
            exact hret _ _ _ dX11_walkOn_114 ⟨h34, o35⟩
      · have c12' := i_nle c12
        refine r_aload_n 0 C dX11_walkOn_12 rfl ?_
        refine gfX11_44 124 C (kS sM h5 kc_114) (xS sM h5 xc_114_16) dX11_walkOn_13 ?_
        refine r_iload_n 1 C dX11_walkOn_16 rfl ?_
        refine r_iald C (kS sM h5 kc_124) (vin (by omega) (by omega)) dX11_walkOn_17 ?_
        generalize (wI w4 124 (a1).toNatClampNeg) = v36
        refine r_if_ne 74 C dX11_walkOn_18 (by decide) (fun c37 => ?_) (fun c37 => ?_)
        · have c37' := i_ne c37
          refine r_aload_n 0 C dX11_walkOn_74 rfl ?_
          refine gfX11_41 123 C (kS sM h5 kc_114) (xS sM h5 xc_114_15) dX11_walkOn_75 ?_
          refine r_iload_n 1 C dX11_walkOn_78 rfl ?_
          refine r_aload_n 0 C dX11_walkOn_79 rfl ?_
          refine gfX11_44 124 C (kS sM h5 kc_114) (xS sM h5 xc_114_16) dX11_walkOn_80 ?_
          refine r_iload_n 1 C dX11_walkOn_83 rfl ?_
          refine r_iald C (kS sM h5 kc_124) (vin (by omega) (by omega)) dX11_walkOn_84 ?_
          generalize (wI w4 124 (a1).toNatClampNeg) = v38
          refine r_if_gt 103 C dX11_walkOn_85 (by decide) (fun c39 => ?_) (fun c39 => ?_)
          · have c39' := i_lt c39
            refine r_iconst (v := (-1)) C dX11_walkOn_103 (by decide) ?_
            refine r_goto 113 C dX11_walkOn_104 (by decide) ?_
            refine r_iast C (kS sM h5 kc_123) (vin (by omega) (by omega)) dX11_walkOn_113 (fun w40 e41 => ?_)
            have h42 := Ch.putS h5 e41 (by decide)
            have o43 : OkM w40 := ⟨Inv.putR o6.1 e41 0 5 (by omega) (by omega) (-1) 41 (by omega) (by decide), Rel.putS o6.2 e41 (by decide)⟩
            exact hret _ _ _ dX11_walkOn_114 ⟨h42, o43⟩
          · have c39' := i_nlt c39
            refine r_aload_n 0 C dX11_walkOn_88 rfl ?_
            refine gfX11_38 122 C (kS sM h5 kc_114) (xS sM h5 xc_114_14) dX11_walkOn_89 ?_
            refine r_iload_n 1 C dX11_walkOn_92 rfl ?_
            refine r_iald C (kS sM h5 kc_122) (vin (by omega) (by omega)) dX11_walkOn_93 ?_
            have b45 := Inv.geta o6.1 rt_122_0 (i := a1) (by omega) (by omega) (by omega)
            refine r_aload_n 0 C dX11_walkOn_94 rfl ?_
            refine gfX11_41 123 C (kS sM h5 kc_114) (xS sM h5 xc_114_15) dX11_walkOn_95 ?_
            refine r_iload_n 1 C dX11_walkOn_98 rfl ?_
            refine r_iald C (kS sM h5 kc_123) (vin (by omega) (by omega)) dX11_walkOn_99 ?_
            have b47 := Inv.geta o6.1 rt_123_0 (i := a1) (by omega) (by omega) (by omega)
            refine r_icmp_ne 107 C dX11_walkOn_100 (by decide) (fun c48 => ?_) (fun c48 => ?_)
            · have c48' := i_ne c48
              refine r_aload_n 0 C dX11_walkOn_107 rfl ?_
              refine gfX11_41 123 C (kS sM h5 kc_114) (xS sM h5 xc_114_15) dX11_walkOn_108 ?_
              refine r_iload_n 1 C dX11_walkOn_111 rfl ?_
              refine r_iald C (kS sM h5 kc_123) (vin (by omega) (by omega)) dX11_walkOn_112 ?_
              have b50 := Inv.geta o6.1 rt_123_0 (i := a1) (by omega) (by omega) (by omega)
              refine r_iast C (kS sM h5 kc_123) (vin (by omega) (by omega)) dX11_walkOn_113 (fun w51 e52 => ?_)
              have h53 := Ch.putS h5 e52 (by decide)
              have o54 : OkM w51 := ⟨Inv.putR o6.1 e52 0 5 (by omega) (by omega) (-1) 41 (by omega) (by decide), Rel.putS o6.2 e52 (by decide)⟩
              exact hret _ _ _ dX11_walkOn_114 ⟨h53, o54⟩
            · have c48' := i_eq c48
              refine r_iconst (v := (-1)) C dX11_walkOn_103 (by decide) ?_
              refine r_goto 113 C dX11_walkOn_104 (by decide) ?_
              refine r_iast C (kS sM h5 kc_123) (vin (by omega) (by omega)) dX11_walkOn_113 (fun w55 e56 => ?_)
              have h57 := Ch.putS h5 e56 (by decide)
              have o58 : OkM w55 := ⟨Inv.putR o6.1 e56 0 5 (by omega) (by omega) (-1) 41 (by omega) (by decide), Rel.putS o6.2 e56 (by decide)⟩
              exact hret _ _ _ dX11_walkOn_114 ⟨h57, o58⟩
        · have c37' := i_eq c37
          refine r_aload_n 0 C dX11_walkOn_21 rfl ?_
          refine gfX11_38 122 C (kS sM h5 kc_114) (xS sM h5 xc_114_14) dX11_walkOn_22 ?_
          refine r_iload_n 1 C dX11_walkOn_25 rfl ?_
          refine r_iald C (kS sM h5 kc_122) (vin (by omega) (by omega)) dX11_walkOn_26 ?_
          have b60 := Inv.geta o6.1 rt_122_0 (i := a1) (by omega) (by omega) (by omega)
          refine r_aload_n 0 C dX11_walkOn_27 rfl ?_
          refine gfX11_41 123 C (kS sM h5 kc_114) (xS sM h5 xc_114_15) dX11_walkOn_28 ?_
          refine r_iload_n 1 C dX11_walkOn_31 rfl ?_
          refine r_iald C (kS sM h5 kc_123) (vin (by omega) (by omega)) dX11_walkOn_32 ?_
          have b62 := Inv.geta o6.1 rt_123_0 (i := a1) (by omega) (by omega) (by omega)
          refine r_icmp_eq 74 C dX11_walkOn_33 (by decide) (fun c63 => ?_) (fun c63 => ?_)
          · have c63' := i_eq c63
            refine r_aload_n 0 C dX11_walkOn_74 rfl ?_
            refine gfX11_41 123 C (kS sM h5 kc_114) (xS sM h5 xc_114_15) dX11_walkOn_75 ?_
            refine r_iload_n 1 C dX11_walkOn_78 rfl ?_
            refine r_aload_n 0 C dX11_walkOn_79 rfl ?_
            refine gfX11_44 124 C (kS sM h5 kc_114) (xS sM h5 xc_114_16) dX11_walkOn_80 ?_
            refine r_iload_n 1 C dX11_walkOn_83 rfl ?_
            refine r_iald C (kS sM h5 kc_124) (vin (by omega) (by omega)) dX11_walkOn_84 ?_
            generalize (wI w4 124 (a1).toNatClampNeg) = v64
            refine r_if_gt 103 C dX11_walkOn_85 (by decide) (fun c65 => ?_) (fun c65 => ?_)
            · have c65' := i_lt c65
              refine r_iconst (v := (-1)) C dX11_walkOn_103 (by decide) ?_
              refine r_goto 113 C dX11_walkOn_104 (by decide) ?_
              refine r_iast C (kS sM h5 kc_123) (vin (by omega) (by omega)) dX11_walkOn_113 (fun w66 e67 => ?_)
              have h68 := Ch.putS h5 e67 (by decide)
              have o69 : OkM w66 := ⟨Inv.putR o6.1 e67 0 5 (by omega) (by omega) (-1) 41 (by omega) (by decide), Rel.putS o6.2 e67 (by decide)⟩
              exact hret _ _ _ dX11_walkOn_114 ⟨h68, o69⟩
            · have c65' := i_nlt c65
              refine r_aload_n 0 C dX11_walkOn_88 rfl ?_
              refine gfX11_38 122 C (kS sM h5 kc_114) (xS sM h5 xc_114_14) dX11_walkOn_89 ?_
              refine r_iload_n 1 C dX11_walkOn_92 rfl ?_
              refine r_iald C (kS sM h5 kc_122) (vin (by omega) (by omega)) dX11_walkOn_93 ?_
              have b71 := Inv.geta o6.1 rt_122_0 (i := a1) (by omega) (by omega) (by omega)
              refine r_aload_n 0 C dX11_walkOn_94 rfl ?_
              refine gfX11_41 123 C (kS sM h5 kc_114) (xS sM h5 xc_114_15) dX11_walkOn_95 ?_
              refine r_iload_n 1 C dX11_walkOn_98 rfl ?_
              refine r_iald C (kS sM h5 kc_123) (vin (by omega) (by omega)) dX11_walkOn_99 ?_
              have b73 := Inv.geta o6.1 rt_123_0 (i := a1) (by omega) (by omega) (by omega)
              refine r_icmp_ne 107 C dX11_walkOn_100 (by decide) (fun c74 => ?_) (fun c74 => ?_)
              · have c74' := i_ne c74
                refine r_aload_n 0 C dX11_walkOn_107 rfl ?_
                refine gfX11_41 123 C (kS sM h5 kc_114) (xS sM h5 xc_114_15) dX11_walkOn_108 ?_
                refine r_iload_n 1 C dX11_walkOn_111 rfl ?_
                refine r_iald C (kS sM h5 kc_123) (vin (by omega) (by omega)) dX11_walkOn_112 ?_
                have b76 := Inv.geta o6.1 rt_123_0 (i := a1) (by omega) (by omega) (by omega)
                refine r_iast C (kS sM h5 kc_123) (vin (by omega) (by omega)) dX11_walkOn_113 (fun w77 e78 => ?_)
                have h79 := Ch.putS h5 e78 (by decide)
                have o80 : OkM w77 := ⟨Inv.putR o6.1 e78 0 5 (by omega) (by omega) (-1) 41 (by omega) (by decide), Rel.putS o6.2 e78 (by decide)⟩
                exact hret _ _ _ dX11_walkOn_114 ⟨h79, o80⟩
              · have c74' := i_eq c74
                refine r_iconst (v := (-1)) C dX11_walkOn_103 (by decide) ?_
                refine r_goto 113 C dX11_walkOn_104 (by decide) ?_
                refine r_iast C (kS sM h5 kc_123) (vin (by omega) (by omega)) dX11_walkOn_113 (fun w81 e82 => ?_)
                have h83 := Ch.putS h5 e82 (by decide)
                have o84 : OkM w81 := ⟨Inv.putR o6.1 e82 0 5 (by omega) (by omega) (-1) 41 (by omega) (by decide), Rel.putS o6.2 e82 (by decide)⟩
                exact hret _ _ _ dX11_walkOn_114 ⟨h83, o84⟩
          · have c63' := i_ne c63
            refine r_aload_n 0 C dX11_walkOn_36 rfl ?_
            refine gfX11_77 134 C (kS sM h5 kc_114) (xS sM h5 xc_114_44) dX11_walkOn_37 ?_
            refine r_bipush (v := 42) C dX11_walkOn_40 (by decide) ?_
            refine r_aload_n 0 C dX11_walkOn_42 rfl ?_
            refine gfX11_41 123 C (kS sM h5 kc_114) (xS sM h5 xc_114_15) dX11_walkOn_43 ?_
            refine r_iload_n 1 C dX11_walkOn_46 rfl ?_
            refine r_iald C (kS sM h5 kc_123) (vin (by omega) (by omega)) dX11_walkOn_47 ?_
            have b86 := Inv.geta o6.1 rt_123_0 (i := a1) (by omega) (by omega) (by omega)
            refine r_imul C dX11_walkOn_48 (fun v87 e88 => ?_)
            have k89 : (42 : Int32).toInt = 42 := by omega
            have v87' := imul_ok e88 (by rw [k89]; omega) (by rw [k89]; omega)
            rw [k89] at v87'
            refine r_aload_n 0 C dX11_walkOn_49 rfl ?_
            refine gfX11_38 122 C (kS sM h5 kc_114) (xS sM h5 xc_114_14) dX11_walkOn_50 ?_
            refine r_iload_n 1 C dX11_walkOn_53 rfl ?_
            refine r_iald C (kS sM h5 kc_122) (vin (by omega) (by omega)) dX11_walkOn_54 ?_
            have b91 := Inv.geta o6.1 rt_122_0 (i := a1) (by omega) (by omega) (by omega)
            refine r_iadd C dX11_walkOn_55 (fun v92 e93 => ?_)
            have v92' := iadd_ok e93 (by omega) (by omega)
            refine r_iald C (kS sM h5 kc_134) (vin (by omega) (by omega)) dX11_walkOn_56 ?_
            generalize (wI w4 134 (v92).toNatClampNeg) = v94
            refine r_sipush (v := 1000) C dX11_walkOn_57 (by decide) ?_
            have k96 := i_rng v94
            refine r_icmp_ge 74 C dX11_walkOn_60 (by decide) (fun c95 => ?_) (fun c95 => ?_)
            · have c95' := i_le c95
              refine r_aload_n 0 C dX11_walkOn_74 rfl ?_
              refine gfX11_41 123 C (kS sM h5 kc_114) (xS sM h5 xc_114_15) dX11_walkOn_75 ?_
              refine r_iload_n 1 C dX11_walkOn_78 rfl ?_
              refine r_aload_n 0 C dX11_walkOn_79 rfl ?_
              refine gfX11_44 124 C (kS sM h5 kc_114) (xS sM h5 xc_114_16) dX11_walkOn_80 ?_
              refine r_iload_n 1 C dX11_walkOn_83 rfl ?_
              refine r_iald C (kS sM h5 kc_124) (vin (by omega) (by omega)) dX11_walkOn_84 ?_
              generalize (wI w4 124 (a1).toNatClampNeg) = v97
              refine r_if_gt 103 C dX11_walkOn_85 (by decide) (fun c98 => ?_) (fun c98 => ?_)
              · have c98' := i_lt c98
                refine r_iconst (v := (-1)) C dX11_walkOn_103 (by decide) ?_
                refine r_goto 113 C dX11_walkOn_104 (by decide) ?_
                refine r_iast C (kS sM h5 kc_123) (vin (by omega) (by omega)) dX11_walkOn_113 (fun w99 e100 => ?_)
                have h101 := Ch.putS h5 e100 (by decide)
                have o102 : OkM w99 := ⟨Inv.putR o6.1 e100 0 5 (by omega) (by omega) (-1) 41 (by omega) (by decide), Rel.putS o6.2 e100 (by decide)⟩
                exact hret _ _ _ dX11_walkOn_114 ⟨h101, o102⟩
              · have c98' := i_nlt c98
                refine r_aload_n 0 C dX11_walkOn_88 rfl ?_
                refine gfX11_38 122 C (kS sM h5 kc_114) (xS sM h5 xc_114_14) dX11_walkOn_89 ?_
                refine r_iload_n 1 C dX11_walkOn_92 rfl ?_
                refine r_iald C (kS sM h5 kc_122) (vin (by omega) (by omega)) dX11_walkOn_93 ?_
                have b104 := Inv.geta o6.1 rt_122_0 (i := a1) (by omega) (by omega) (by omega)
                refine r_aload_n 0 C dX11_walkOn_94 rfl ?_
                refine gfX11_41 123 C (kS sM h5 kc_114) (xS sM h5 xc_114_15) dX11_walkOn_95 ?_
                refine r_iload_n 1 C dX11_walkOn_98 rfl ?_
                refine r_iald C (kS sM h5 kc_123) (vin (by omega) (by omega)) dX11_walkOn_99 ?_
                have b106 := Inv.geta o6.1 rt_123_0 (i := a1) (by omega) (by omega) (by omega)
                refine r_icmp_ne 107 C dX11_walkOn_100 (by decide) (fun c107 => ?_) (fun c107 => ?_)
                · have c107' := i_ne c107
                  refine r_aload_n 0 C dX11_walkOn_107 rfl ?_
                  refine gfX11_41 123 C (kS sM h5 kc_114) (xS sM h5 xc_114_15) dX11_walkOn_108 ?_
                  refine r_iload_n 1 C dX11_walkOn_111 rfl ?_
                  refine r_iald C (kS sM h5 kc_123) (vin (by omega) (by omega)) dX11_walkOn_112 ?_
                  have b109 := Inv.geta o6.1 rt_123_0 (i := a1) (by omega) (by omega) (by omega)
                  refine r_iast C (kS sM h5 kc_123) (vin (by omega) (by omega)) dX11_walkOn_113 (fun w110 e111 => ?_)
                  have h112 := Ch.putS h5 e111 (by decide)
                  have o113 : OkM w110 := ⟨Inv.putR o6.1 e111 0 5 (by omega) (by omega) (-1) 41 (by omega) (by decide), Rel.putS o6.2 e111 (by decide)⟩
                  exact hret _ _ _ dX11_walkOn_114 ⟨h112, o113⟩
                · have c107' := i_eq c107
                  refine r_iconst (v := (-1)) C dX11_walkOn_103 (by decide) ?_
                  refine r_goto 113 C dX11_walkOn_104 (by decide) ?_
                  refine r_iast C (kS sM h5 kc_123) (vin (by omega) (by omega)) dX11_walkOn_113 (fun w114 e115 => ?_)
                  have h116 := Ch.putS h5 e115 (by decide)
                  have o117 : OkM w114 := ⟨Inv.putR o6.1 e115 0 5 (by omega) (by omega) (-1) 41 (by omega) (by decide), Rel.putS o6.2 e115 (by decide)⟩
                  exact hret _ _ _ dX11_walkOn_114 ⟨h116, o117⟩
            · have c95' := i_nle c95
              refine r_aload_n 0 C dX11_walkOn_63 rfl ?_
              refine r_iload_n 1 C dX11_walkOn_64 rfl ?_
              refine callVV C cwX11_316_V (ctX11_stepOn _ _ w4 (sS sM h5) o6 W (h5.I (by decide) (by decide) pW) (by omega) D (h5.I (by decide) (by decide) pD) (by omega) a1 (by omega) (by omega)) (by decide) (kS sM h5 kc_114) rfl rfl rfl (Nat.le_of_ble_eq_true rfl) (by decide) dX11_walkOn_65 (fun w119 y118 => ?_)
              show V x 0 0 w119 68 [(0, .ref (gz (xG x) + 114)), (1, .int a1), (2, .int u1)] []
              obtain ⟨h121, o122⟩ := y118
              have h123 := Ch.tr h5 h121 (by decide) (by decide)
              obtain ⟨i124, e125⟩ : ∃ z : Int32, u1 + Int32.ofInt 1 = z := ⟨_, rfl⟩
              have i124' := iinc_ok e125 (by decide) (by omega) (by omega)
              refine r_iinc [(2, .int i124), (0, .ref (gz (xG x) + 114)), (1, .int a1)] 2 C dX11_walkOn_68 rfl e125 (by decide) rfl ?_
              refine r_goto 2 C dX11_walkOn_71 (by decide) ?_
              refine r_lv [1, 2, 0] rfl ?_
              exact ih10 i124 w119 h123 o122 (by omega) (by rw [(h121.A (by decide) (by decide) rfl)]; omega) (by omega)
  refine r_iconst (v := 0) C dX11_walkOn_0 (by decide) ?_
  refine r_istore_n [(2, .int 0), (0, .ref (gz (xG x) + 114)), (1, .int a1)] C dX11_walkOn_1 (by decide) rfl ?_
  refine r_lv [1, 2, 0] rfl ?_
  exact LP2 4294967296 0 w h0 o0 (by omega) (by omega) (by omega)
set_option maxHeartbeats 4000000 in
set_option maxRecDepth 100000 in
theorem ctX11_minuteBy (l : Launch) (G : Gt) (w : Wv) (sM : Str KM XM w) (o0 : OkM w) (W : Int32) (pW : wI w 114 0 = W) (bW : 0 ≤ W.toInt ∧ W.toInt ≤ 9) (D : Int32) (pD : wI w 114 1 = D) (bD : 0 ≤ D.toInt ∧ D.toInt ≤ 9) (a1 : Int32) (a2 : Int32) (b2 : (-1) ≤ a2.toInt ∧ a2.toInt ≤ 2) : CtI l G yX11_minuteBy cX11_minuteBy 5 .boolean ({ frames := 5, cells := 0, slots := 0, locals := 116 } : Room) [.ref (gz G + 114), .int a1, .int a2] w (fun r w' => Ch [122, 123, 124] [(114, 13)] w w' ∧ OkM w' ∧ ((0 ≤ r.toInt ∧ r.toInt ≤ 1) ∧ (r.toInt = 1 → 0 < W.toInt))) := by
  refine enterI (by decide) (Nat.le_of_ble_eq_true rfl) ?_
  intro x el eG C hret
  subst el; subst eG
  show V x 0 0 w 0 [(0, .ref (gz (xG x) + 114)), (1, .int a1), (2, .int a2)] []
  have h0 : Ch [122, 123, 124] [(114, 13)] w w := Ch.rf
  have qm1 : ((-1) : Int32).toInt = (-1) := by decide
  have q0 : (0 : Int32).toInt = 0 := by decide
  have q1 : (1 : Int32).toInt = 1 := by decide
  obtain ⟨rA, rB, rC, rD⟩ := (o0.2 : Rel w)
  (try simp only [pW] at rA); (try simp only [pW] at rB); (try simp only [pW] at rC); (try simp only [pW] at rD)
  (try simp only [pD] at rA); (try simp only [pD] at rB); (try simp only [pD] at rC); (try simp only [pD] at rD)
  have LP15 : ∀ (f16 : Nat) (u13 : Int32) (u14 : Int32) (w17 : Wv), Ch [122, 123, 124] [(114, 13)] w w17 → OkM w17 → (0 ≤ u13.toInt ∧ u13.toInt ≤ 41) → (0 ≤ u14.toInt ∧ u14.toInt ≤ 2147483647) → (0 < W.toInt) → 2147483647 - u14.toInt < f16 → V x 0 0 w17 20 [(0, .ref (gz (xG x) + 114)), (1, .int a1), (2, .int a2), (3, .int u13), (4, .int u14)] [] := by
    intro f16
    induction f16 with
    | zero => intro u13 u14 w17 h18 o19 z20 z21 z22 z23; exfalso; omega
    | succ f16 ih24 =>
      intro u13 u14 w17 h18 o19 z20 z21 z22 z23
      have LP29 : ∀ (f30 : Nat) (u28 : Int32) (w31 : Wv), Ch [122, 123, 124] [(114, 13)] w w31 → OkM w31 → (0 ≤ u28.toInt ∧ u28.toInt ≤ 2147483647) → (0 < W.toInt) → 2147483647 - u28.toInt < f30 → V x 0 0 w31 74 [(0, .ref (gz (xG x) + 114)), (1, .int a1), (2, .int a2), (3, .int u13), (4, .int u28)] [] := by
        intro f30
        induction f30 with
        | zero => intro u28 w31 h32 o33 z34 z35 z36; exfalso; omega
        | succ f30 ih37 =>
          intro u28 w31 h32 o33 z34 z35 z36
          refine r_iload 4 C dX11_minuteBy_74 rfl ?_
          refine r_aload_n 0 C dX11_minuteBy_76 rfl ?_
          refine gfX11_121 (v := (wI w 114 3)) C (kS sM h32 kc_114) (h32.I (by decide) (by decide) rfl) dX11_minuteBy_77 ?_
          have b38 := Inv.get o0.1 rt_114_3 (j := 3) (by decide) (by decide)
          have k40 := i_rng u28
          refine r_icmp_ge 106 C dX11_minuteBy_80 (by decide) (fun c39 => ?_) (fun c39 => ?_)
          · have c39' := i_le c39
            refine r_iconst (v := 1) C dX11_minuteBy_106 (by decide) ?_
            exact hret _ _ _ _ dX11_minuteBy_107 (nar_z (z_of (by omega))) ⟨h32, o33, by omega⟩
          · have c39' := i_nle c39
            refine r_aload_n 0 C dX11_minuteBy_83 rfl ?_
            refine gfX11_41 123 C (kS sM h32 kc_114) (xS sM h32 xc_114_15) dX11_minuteBy_84 ?_
            refine r_iload 4 C dX11_minuteBy_87 rfl ?_
            refine r_iald C (kS sM h32 kc_123) (vin (by omega) (by omega)) dX11_minuteBy_89 ?_
            have b42 := Inv.geta o33.1 rt_123_0 (i := u28) (by omega) (by omega) (by omega)
            refine r_iconst (v := (-1)) C dX11_minuteBy_90 (by decide) ?_
            refine r_icmp_eq 100 C dX11_minuteBy_91 (by decide) (fun c43 => ?_) (fun c43 => ?_)
            · have c43' := i_eq c43
              obtain ⟨i44, e45⟩ : ∃ z : Int32, u28 + Int32.ofInt 1 = z := ⟨_, rfl⟩
              have i44' := iinc_ok e45 (by decide) (by omega) (by omega)
              refine r_iinc [(4, .int i44), (0, .ref (gz (xG x) + 114)), (1, .int a1), (2, .int a2), (3, .int u13)] 4 C dX11_minuteBy_100 rfl e45 (by decide) rfl ?_
              refine r_goto 74 C dX11_minuteBy_103 (by decide) ?_
              refine r_lv [1, 2, 3, 4, 0] rfl ?_
              exact ih37 i44 w31 h32 o33 (by omega) (by omega) (by omega)
            · have c43' := i_ne c43
              refine r_aload_n 0 C dX11_minuteBy_94 rfl ?_
              refine r_iload 4 C dX11_minuteBy_95 rfl ?_
              refine callVV C cwX11_322_V (ctX11_walkOn _ _ w31 (sS sM h32) o33 W (h32.I (by decide) (by decide) pW) (by omega) D (h32.I (by decide) (by decide) pD) (by omega) u28 (by omega) (by omega)) (by decide) (kS sM h32 kc_114) rfl rfl rfl (Nat.le_of_ble_eq_true rfl) (by decide) dX11_minuteBy_97 (fun w47 y46 => ?_)
              show V x 0 0 w47 100 [(0, .ref (gz (xG x) + 114)), (1, .int a1), (2, .int a2), (3, .int u13), (4, .int u28)] []
              obtain ⟨h49, o50⟩ := y46
              have h51 := Ch.tr h32 h49 (by decide) (by decide)
              obtain ⟨i52, e53⟩ : ∃ z : Int32, u28 + Int32.ofInt 1 = z := ⟨_, rfl⟩
              have i52' := iinc_ok e53 (by decide) (by omega) (by omega)
              refine r_iinc [(4, .int i52), (0, .ref (gz (xG x) + 114)), (1, .int a1), (2, .int a2), (3, .int u13)] 4 C dX11_minuteBy_100 rfl e53 (by decide) rfl ?_
              refine r_goto 74 C dX11_minuteBy_103 (by decide) ?_
              refine r_lv [1, 2, 3, 4, 0] rfl ?_
              exact ih37 i52 w47 h51 o50 (by omega) (by omega) (by omega)
      refine r_iload 4 C dX11_minuteBy_20 rfl ?_
      refine r_aload_n 0 C dX11_minuteBy_22 rfl ?_
      refine gfX11_121 (v := (wI w 114 3)) C (kS sM h18 kc_114) (h18.I (by decide) (by decide) rfl) dX11_minuteBy_23 ?_
      have b25 := Inv.get o0.1 rt_114_3 (j := 3) (by decide) (by decide)
      have k27 := i_rng u14
      refine r_icmp_ge 71 C dX11_minuteBy_26 (by decide) (fun c26 => ?_) (fun c26 => ?_)
      · have c26' := i_le c26
        refine r_iconst (v := 0) C dX11_minuteBy_71 (by decide) ?_
        refine r_istore [(4, .int 0), (0, .ref (gz (xG x) + 114)), (1, .int a1), (2, .int a2), (3, .int u13)] C dX11_minuteBy_72 (by decide) rfl ?_
        refine r_lv [1, 2, 3, 4, 0] rfl ?_
        exact LP29 4294967296 0 w17 h18 o19 (by omega) (by omega) (by omega)
      · have c26' := i_nle c26
        refine r_iload_n 2 C dX11_minuteBy_29 rfl ?_
        refine r_iconst (v := (-1)) C dX11_minuteBy_30 (by decide) ?_
        refine r_icmp_eq 71 C dX11_minuteBy_31 (by decide) (fun c54 => ?_) (fun c54 => ?_)
        · have c54' := i_eq c54
          refine r_iconst (v := 0) C dX11_minuteBy_71 (by decide) ?_
          refine r_istore [(4, .int 0), (0, .ref (gz (xG x) + 114)), (1, .int a1), (2, .int a2), (3, .int u13)] C dX11_minuteBy_72 (by decide) rfl ?_
          refine r_lv [1, 2, 3, 4, 0] rfl ?_
          exact LP29 4294967296 0 w17 h18 o19 (by omega) (by omega) (by omega)
        · have c54' := i_ne c54
          refine r_aload_n 0 C dX11_minuteBy_34 rfl ?_
          refine gfX11_41 123 C (kS sM h18 kc_114) (xS sM h18 xc_114_15) dX11_minuteBy_35 ?_
          refine r_iload 4 C dX11_minuteBy_38 rfl ?_
          refine r_aload_n 0 C dX11_minuteBy_40 rfl ?_
          refine r_iload 4 C dX11_minuteBy_41 rfl ?_
          refine r_iload_n 2 C dX11_minuteBy_43 rfl ?_
          refine callVI C cwX11_313_V (ctX11_hears _ _ w17 (sS sM h18) o19 u14 a2 (by omega) (by omega)) (by decide) (kS sM h18 kc_114) rfl rfl rfl (Nat.le_of_ble_eq_true rfl) (by decide) dX11_minuteBy_44 (fun r57 w56 y55 => ?_)
          show V x 0 0 w56 47 [(0, .ref (gz (xG x) + 114)), (1, .int a1), (2, .int a2), (3, .int u13), (4, .int u14)] [.int r57, .int u14, .ref (gz (xG x) + 123)]
          obtain ⟨h58, o59, g60⟩ := y55
          have h61 := Ch.tr h18 h58 (by decide) (by decide)
          refine r_if_eq 57 C dX11_minuteBy_47 (by decide) (fun c62 => ?_) (fun c62 => ?_)
          · have c62' := i_eq c62
            refine r_aload_n 0 C dX11_minuteBy_57 rfl ?_
            refine gfX11_41 123 C (kS sM h61 kc_114) (xS sM h61 xc_114_15) dX11_minuteBy_58 ?_
            refine r_iload 4 C dX11_minuteBy_61 rfl ?_
            refine r_iald C (kS sM h61 kc_123) (vin (by omega) (by omega)) dX11_minuteBy_63 ?_
            rw [show wI w56 123 (u14).toNatClampNeg = (wI w17 123 (u14).toNatClampNeg) from (h58.A (by decide) (by decide) rfl)]
            have b64 := Inv.geta o19.1 rt_123_0 (i := u14) (by omega) (by omega) (by omega)
            refine r_iast C (kS sM h61 kc_123) (vin (by omega) (by omega)) dX11_minuteBy_64 (fun w65 e66 => ?_)
            have h67 := Ch.putS h61 e66 (by decide)
            have o68 : OkM w65 := ⟨Inv.putR o59.1 e66 0 5 (by omega) (by omega) (-1) 41 (by omega) (by decide), Rel.putS o59.2 e66 (by decide)⟩
            obtain ⟨i69, e70⟩ : ∃ z : Int32, u14 + Int32.ofInt 1 = z := ⟨_, rfl⟩
            have i69' := iinc_ok e70 (by decide) (by omega) (by omega)
            refine r_iinc [(4, .int i69), (0, .ref (gz (xG x) + 114)), (1, .int a1), (2, .int a2), (3, .int u13)] 4 C dX11_minuteBy_65 rfl e70 (by decide) rfl ?_
            refine r_goto 20 C dX11_minuteBy_68 (by decide) ?_
            refine r_lv [1, 2, 3, 4, 0] rfl ?_
            exact ih24 u13 i69 w65 h67 o68 (by omega) (by omega) (by omega) (by omega)
          · have c62' := i_ne c62
            refine r_aload_n 0 C dX11_minuteBy_50 rfl ?_
            refine gfX11_259 (v := (wI w17 114 13)) C (kS sM h61 kc_114) (h58.I (by decide) (by decide) rfl) dX11_minuteBy_51 ?_
            have b71 := Inv.get o19.1 rt_114_13 (j := 13) (by decide) (by decide)
            refine r_goto 64 C dX11_minuteBy_54 (by decide) ?_
            refine r_iast C (kS sM h61 kc_123) (vin (by omega) (by omega)) dX11_minuteBy_64 (fun w72 e73 => ?_)
            have h74 := Ch.putS h61 e73 (by decide)
            have o75 : OkM w72 := ⟨Inv.putR o59.1 e73 0 5 (by omega) (by omega) (-1) 41 (by omega) (by decide), Rel.putS o59.2 e73 (by decide)⟩
            obtain ⟨i76, e77⟩ : ∃ z : Int32, u14 + Int32.ofInt 1 = z := ⟨_, rfl⟩
            have i76' := iinc_ok e77 (by decide) (by omega) (by omega)
            refine r_iinc [(4, .int i76), (0, .ref (gz (xG x) + 114)), (1, .int a1), (2, .int a2), (3, .int u13)] 4 C dX11_minuteBy_65 rfl e77 (by decide) rfl ?_
            refine r_goto 20 C dX11_minuteBy_68 (by decide) ?_
            refine r_lv [1, 2, 3, 4, 0] rfl ?_
            exact ih24 u13 i76 w72 h74 o75 (by omega) (by omega) (by omega) (by omega)
  refine r_aload_n 0 C dX11_minuteBy_0 rfl ?_
  refine r_iload_n 1 C dX11_minuteBy_1 rfl ?_
  refine callVI C cwX11_319_V (ctX11_stepTo _ _ w (sS sM h0) o0 W pW (by omega) D pD (by omega) a1 ) (by decide) (kS sM h0 kc_114) rfl rfl rfl (Nat.le_of_ble_eq_true rfl) (by decide) dX11_minuteBy_2 (fun r3 w2 y1 => ?_)
  show V x 0 0 w2 5 [(0, .ref (gz (xG x) + 114)), (1, .int a1), (2, .int a2)] [.int r3]
  obtain ⟨h4, o5, g6⟩ := y1
  have h7 := Ch.tr h0 h4 (by decide) (by decide)
  refine r_istore_n [(3, .int r3), (0, .ref (gz (xG x) + 114)), (1, .int a1), (2, .int a2)] C dX11_minuteBy_5 (by decide) rfl ?_
  refine r_iload_n 0 C dX11_minuteBy_6 rfl ?_
  refine r_if_ge 12 C dX11_minuteBy_7 (by decide) (fun c8 => ?_) (fun c8 => ?_)
  · have c8' := i_le c8
    refine r_aload_n 1 C dX11_minuteBy_12 rfl ?_
    refine r_iload_n 0 C dX11_minuteBy_13 rfl ?_
    refine pfX11_259 C (kS sM h7 kc_114) dX11_minuteBy_14 (fun w9 e10 => ?_)
    have h11 := Ch.putF h7 e10 (by decide)
    have o12 : OkM w9 := ⟨Inv.put o5.1 e10 0 41 (by omega) (by decide), Rel.putF o5.2 e10 (by decide)⟩
    refine r_iconst (v := 0) C dX11_minuteBy_17 (by decide) ?_
    refine r_istore [(4, .int 0), (3, .int r3), (0, .ref (gz (xG x) + 114)), (1, .int a1), (2, .int a2)] C dX11_minuteBy_18 (by decide) rfl ?_
    refine r_lv [2, 3, 4, 1, 0] rfl ?_
    exact LP15 4294967296 r3 0 w9 h11 o12 (by omega) (by omega) (by omega) (by omega)
  · have c8' := i_nle c8
    refine r_iconst (v := 0) C dX11_minuteBy_10 (by decide) ?_
    exact hret _ _ _ _ dX11_minuteBy_11 (nar_z (z_of (by omega))) ⟨h7, o5, by omega⟩
set_option maxHeartbeats 4000000 in
set_option maxRecDepth 100000 in
theorem ctX11_minute (l : Launch) (G : Gt) (w : Wv) (sM : Str KM XM w) (o0 : OkM w) (W : Int32) (pW : wI w 114 0 = W) (bW : 0 ≤ W.toInt ∧ W.toInt ≤ 9) (D : Int32) (pD : wI w 114 1 = D) (bD : 0 ≤ D.toInt ∧ D.toInt ≤ 9) (a1 : Int32) (a2 : Int32) : CtI l G yX11_minute cX11_minute 3 .int ({ frames := 6, cells := 0, slots := 0, locals := 140 } : Room) [.ref (gz G + 114), .int a1, .int a2] w (fun r w' => Ch [122, 123, 124] [(114, 13), (114, 17)] w w' ∧ OkM w') := by
  refine enterI (by decide) (Nat.le_of_ble_eq_true rfl) ?_
  intro x el eG C hret
  subst el; subst eG
  show V x 0 0 w 0 [(0, .ref (gz (xG x) + 114)), (1, .int a1), (2, .int a2)] []
  have h0 : Ch [122, 123, 124] [(114, 13), (114, 17)] w w := Ch.rf
  have qm1000000003 : ((-1000000003) : Int32).toInt = (-1000000003) := by decide
  have qm1000000002 : ((-1000000002) : Int32).toInt = (-1000000002) := by decide
  have qm1000000001 : ((-1000000001) : Int32).toInt = (-1000000001) := by decide
  have qm1 : ((-1) : Int32).toInt = (-1) := by decide
  have q0 : (0 : Int32).toInt = 0 := by decide
  have q1 : (1 : Int32).toInt = 1 := by decide
  have ql0 : (0 : Int64).toInt = 0 := by decide
  have ql4 : (4 : Int64).toInt = 4 := by decide
  obtain ⟨rA, rB, rC, rD⟩ := (o0.2 : Rel w)
  (try simp only [pW] at rA); (try simp only [pW] at rB); (try simp only [pW] at rC); (try simp only [pW] at rD)
  (try simp only [pD] at rA); (try simp only [pD] at rB); (try simp only [pD] at rC); (try simp only [pD] at rD)
  refine r_iload_n 2 C dX11_minute_0 rfl ?_
  refine r_iconst (v := (-1)) C dX11_minute_1 (by decide) ?_
  refine r_icmp_eq 17 C dX11_minute_2 (by decide) (fun c1 => ?_) (fun c1 => ?_)
  · have c1' := i_eq c1
    refine r_iload_n 1 C dX11_minute_17 rfl ?_
    refine r_i2l C dX11_minute_18 (fun v2 e3 => ?_)
    have v2' := i2l_ok e3
    refine r_lconst (v := 0) C dX11_minute_19 (by decide) ?_
    refine r_ldc2 C mw6_172 dX11_minute_20 ?_
    refine callSI C cwX11_114_S (ctX11_in _ _ w v2 0 4 ) (by decide) rfl rfl (Nat.le_of_ble_eq_true rfl) (by decide) dX11_minute_23 (fun r6 w5 y4 => ?_)
    obtain ⟨y4, g7⟩ := y4
    obtain rfl := y4.symm
    show V x 0 0 w 26 [(0, .ref (gz (xG x) + 114)), (1, .int a1), (2, .int a2)] [.int r6]
    refine r_if_ne 32 C dX11_minute_26 (by decide) (fun c8 => ?_) (fun c8 => ?_)
    · have c8' := i_ne c8
      refine r_aload_n 0 C dX11_minute_32 rfl ?_
      refine r_iload_n 1 C dX11_minute_33 rfl ?_
      refine r_iload_n 2 C dX11_minute_34 rfl ?_
      refine callVI C cwX11_327_V (ctX11_minuteBy _ _ w (sS sM h0) o0 W pW (by omega) D pD (by omega) a1 a2 (by omega)) (by decide) (kS sM h0 kc_114) rfl rfl rfl (Nat.le_of_ble_eq_true rfl) (by decide) dX11_minute_35 (fun r11 w10 y9 => ?_)
      show V x 0 0 w10 38 [(0, .ref (gz (xG x) + 114)), (1, .int a1), (2, .int a2)] [.int r11]
      obtain ⟨h12, o13, g14⟩ := y9
      have h15 := Ch.tr h0 h12 (by decide) (by decide)
      refine r_if_ne 45 C dX11_minute_38 (by decide) (fun c16 => ?_) (fun c16 => ?_)
      · have c16' := i_ne c16
        refine r_aload_n 0 C dX11_minute_45 rfl ?_
        refine r_dup C dX11_minute_46 rfl ?_
        refine gfX11_262 (v := (wI w 114 17)) C (kS sM h15 kc_114) (h12.I (by decide) (by decide) rfl) dX11_minute_47 ?_
        refine r_iconst (v := 1) C dX11_minute_50 (by decide) ?_
        refine r_iadd C dX11_minute_51 (fun v17 e18 => ?_)
        refine pfX11_262 C (kS sM h15 kc_114) dX11_minute_52 (fun w19 e20 => ?_)
        have h21 := Ch.putF h15 e20 (by decide)
        have k23 := i_rng v17
        have o22 : OkM w19 := ⟨Inv.putk o13.1 e20 (by decide), Rel.putF o13.2 e20 (by decide)⟩
        refine r_aload_n 0 C dX11_minute_55 rfl ?_
        refine r_aload_n 0 C dX11_minute_56 rfl ?_
        refine gfX11_259 (v := (wI w10 114 13)) C (kS sM h21 kc_114) (g_nk e20 (by decide) rfl) dX11_minute_57 ?_
        have b24 := Inv.get o13.1 rt_114_13 (j := 13) (by decide) (by decide)
        refine callVI C cwX11_292_V (ctX11_told10 _ _ w19 (sS sM h21) o22 W (g_nk e20 (by decide) (h12.I (by decide) (by decide) pW)) (by omega) (wI w10 114 13) (by omega)) (by decide) (kS sM h21 kc_114) rfl rfl rfl (Nat.le_of_ble_eq_true rfl) (by decide) dX11_minute_60 (fun r27 w26 y25 => ?_)
        show V x 0 0 w26 63 [(0, .ref (gz (xG x) + 114)), (1, .int a1), (2, .int a2)] [.int r27]
        obtain ⟨h28, o29⟩ := y25
        have h30 := Ch.tr h21 h28 (by decide) (by decide)
        exact hret _ _ _ _ dX11_minute_63 rfl ⟨h30, o29⟩
      · have c16' := i_eq c16
        refine r_ldcw C mw6_189 dX11_minute_41 ?_
        exact hret _ _ _ _ dX11_minute_44 rfl ⟨h15, o13⟩
    · have c8' := i_eq c8
      refine r_ldc C mw5_239 dX11_minute_29 ?_
      exact hret _ _ _ _ dX11_minute_31 rfl ⟨h0, o0⟩
  · have c1' := i_ne c1
    refine r_aload_n 0 C dX11_minute_5 rfl ?_
    refine r_iload_n 2 C dX11_minute_6 rfl ?_
    have b31 := Inv.get o0.1 rt_114_8 (j := 8) (by decide) (by decide)
    refine callVI C cwX11_310_V (ctX11_isTune _ _ w (sS sM h0) o0 (wI w 114 8) rfl (by omega) a2 ) (by decide) (kS sM h0 kc_114) rfl rfl rfl (Nat.le_of_ble_eq_true rfl) (by decide) dX11_minute_7 (fun r34 w33 y32 => ?_)
    show V x 0 0 w33 10 [(0, .ref (gz (xG x) + 114)), (1, .int a1), (2, .int a2)] [.int r34]
    obtain ⟨h35, o36, g37⟩ := y32
    have h38 := Ch.tr h0 h35 (by decide) (by decide)
    refine r_if_ne 17 C dX11_minute_10 (by decide) (fun c39 => ?_) (fun c39 => ?_)
    · have c39' := i_ne c39
      refine r_iload_n 1 C dX11_minute_17 rfl ?_
      refine r_i2l C dX11_minute_18 (fun v40 e41 => ?_)
      have v40' := i2l_ok e41
      refine r_lconst (v := 0) C dX11_minute_19 (by decide) ?_
      refine r_ldc2 C mw6_172 dX11_minute_20 ?_
      refine callSI C cwX11_114_S (ctX11_in _ _ w33 v40 0 4 ) (by decide) rfl rfl (Nat.le_of_ble_eq_true rfl) (by decide) dX11_minute_23 (fun r44 w43 y42 => ?_)
      obtain ⟨y42, g45⟩ := y42
      obtain rfl := y42.symm
      show V x 0 0 w33 26 [(0, .ref (gz (xG x) + 114)), (1, .int a1), (2, .int a2)] [.int r44]
      refine r_if_ne 32 C dX11_minute_26 (by decide) (fun c46 => ?_) (fun c46 => ?_)
      · have c46' := i_ne c46
        refine r_aload_n 0 C dX11_minute_32 rfl ?_
        refine r_iload_n 1 C dX11_minute_33 rfl ?_
        refine r_iload_n 2 C dX11_minute_34 rfl ?_
        refine callVI C cwX11_327_V (ctX11_minuteBy _ _ w33 (sS sM h38) o36 W (h35.I (by decide) (by decide) pW) (by omega) D (h35.I (by decide) (by decide) pD) (by omega) a1 a2 (by omega)) (by decide) (kS sM h38 kc_114) rfl rfl rfl (Nat.le_of_ble_eq_true rfl) (by decide) dX11_minute_35 (fun r49 w48 y47 => ?_)
        show V x 0 0 w48 38 [(0, .ref (gz (xG x) + 114)), (1, .int a1), (2, .int a2)] [.int r49]
        obtain ⟨h50, o51, g52⟩ := y47
        have h53 := Ch.tr h38 h50 (by decide) (by decide)
        refine r_if_ne 45 C dX11_minute_38 (by decide) (fun c54 => ?_) (fun c54 => ?_)
        · have c54' := i_ne c54
          refine r_aload_n 0 C dX11_minute_45 rfl ?_
          refine r_dup C dX11_minute_46 rfl ?_
          refine gfX11_262 (v := (wI w 114 17)) C (kS sM h53 kc_114) (h50.I (by decide) (by decide) (h35.I (by decide) (by decide) rfl)) dX11_minute_47 ?_
          refine r_iconst (v := 1) C dX11_minute_50 (by decide) ?_
          refine r_iadd C dX11_minute_51 (fun v55 e56 => ?_)
          refine pfX11_262 C (kS sM h53 kc_114) dX11_minute_52 (fun w57 e58 => ?_)
          have h59 := Ch.putF h53 e58 (by decide)
          have k61 := i_rng v55
          have o60 : OkM w57 := ⟨Inv.putk o51.1 e58 (by decide), Rel.putF o51.2 e58 (by decide)⟩
          refine r_aload_n 0 C dX11_minute_55 rfl ?_
          refine r_aload_n 0 C dX11_minute_56 rfl ?_
          refine gfX11_259 (v := (wI w48 114 13)) C (kS sM h59 kc_114) (g_nk e58 (by decide) rfl) dX11_minute_57 ?_
          have b62 := Inv.get o51.1 rt_114_13 (j := 13) (by decide) (by decide)
          refine callVI C cwX11_292_V (ctX11_told10 _ _ w57 (sS sM h59) o60 W (g_nk e58 (by decide) (h50.I (by decide) (by decide) (h35.I (by decide) (by decide) pW))) (by omega) (wI w48 114 13) (by omega)) (by decide) (kS sM h59 kc_114) rfl rfl rfl (Nat.le_of_ble_eq_true rfl) (by decide) dX11_minute_60 (fun r65 w64 y63 => ?_)
          show V x 0 0 w64 63 [(0, .ref (gz (xG x) + 114)), (1, .int a1), (2, .int a2)] [.int r65]
          obtain ⟨h66, o67⟩ := y63
          have h68 := Ch.tr h59 h66 (by decide) (by decide)
          exact hret _ _ _ _ dX11_minute_63 rfl ⟨h68, o67⟩
        · have c54' := i_eq c54
          refine r_ldcw C mw6_189 dX11_minute_41 ?_
          exact hret _ _ _ _ dX11_minute_44 rfl ⟨h53, o51⟩
      · have c46' := i_eq c46
        refine r_ldc C mw5_239 dX11_minute_29 ?_
        exact hret _ _ _ _ dX11_minute_31 rfl ⟨h38, o36⟩
    · have c39' := i_eq c39
      refine r_ldcw C mw6_112 dX11_minute_13 ?_
      exact hret _ _ _ _ dX11_minute_16 rfl ⟨h38, o36⟩
set_option maxHeartbeats 4000000 in
set_option maxRecDepth 100000 in
theorem ctX11_isSomebody (l : Launch) (G : Gt) (w : Wv) (sM : Str KM XM w) (o0 : OkM w) (a1 : Int32) : CtI l G yX11_isSomebody cX11_isSomebody 4 .boolean ({ frames := 2, cells := 0, slots := 0, locals := 42 } : Room) [.ref (gz G + 114), .int a1] w (fun r w' => Ch [] [] w w' ∧ OkM w' ∧ ((0 ≤ r.toInt ∧ r.toInt ≤ 1))) := by
  refine enterI (by decide) (Nat.le_of_ble_eq_true rfl) ?_
  intro x el eG C hret
  subst el; subst eG
  show V x 0 0 w 0 [(0, .ref (gz (xG x) + 114)), (1, .int a1)] []
  have h0 : Ch [] [] w w := Ch.rf
  have q0 : (0 : Int32).toInt = 0 := by decide
  have q1 : (1 : Int32).toInt = 1 := by decide
  obtain ⟨rA, rB, rC, rD⟩ := (o0.2 : Rel w)
  have LP5 : ∀ (f6 : Nat) (u3 : Int32) (u4 : Int32) (w7 : Wv), Ch [] [] w w7 → OkM w7 → (0 ≤ u3.toInt ∧ u3.toInt ≤ 1) → (0 ≤ u4.toInt ∧ u4.toInt ≤ 2147483647) → 2147483647 - u4.toInt < f6 → V x 0 0 w7 16 [(0, .ref (gz (xG x) + 114)), (1, .int a1), (2, .int u3), (3, .int u4)] [] := by
    intro f6
    induction f6 with
    | zero => intro u3 u4 w7 h8 o9 z10 z11 z12; exfalso; omega
    | succ f6 ih13 =>
      intro u3 u4 w7 h8 o9 z10 z11 z12
      refine r_iload_n 3 C dX11_isSomebody_16 rfl ?_
      refine r_aload_n 0 C dX11_isSomebody_17 rfl ?_
      refine gfX11_121 (v := (wI w 114 3)) C (kS sM h8 kc_114) (h8.I (by decide) (by decide) rfl) dX11_isSomebody_18 ?_
      have b14 := Inv.get o0.1 rt_114_3 (j := 3) (by decide) (by decide)
      have k16 := i_rng u4
      refine r_icmp_ge 58 C dX11_isSomebody_21 (by decide) (fun c15 => ?_) (fun c15 => ?_)
      · have c15' := i_le c15
        refine r_iload_n 2 C dX11_isSomebody_58 rfl ?_
        exact hret _ _ _ _ dX11_isSomebody_59 (nar_z (z_of (by omega))) ⟨h8, o9, by omega⟩
      · have c15' := i_nle c15
        refine r_iload_n 2 C dX11_isSomebody_24 rfl ?_
        refine r_if_ne 46 C dX11_isSomebody_25 (by decide) (fun c17 => ?_) (fun c17 => ?_)
        · have c17' := i_ne c17
          refine r_iconst (v := 1) C dX11_isSomebody_46 (by decide) ?_
          refine r_goto 51 C dX11_isSomebody_47 (by decide) ?_
          refine r_istore_n [(2, .int 1), (0, .ref (gz (xG x) + 114)), (1, .int a1), (3, .int u4)] C dX11_isSomebody_51 (by decide) rfl ?_
          obtain ⟨i18, e19⟩ : ∃ z : Int32, u4 + Int32.ofInt 1 = z := ⟨_, rfl⟩
          have i18' := iinc_ok e19 (by decide) (by omega) (by omega)
          refine r_iinc [(3, .int i18), (2, .int 1), (0, .ref (gz (xG x) + 114)), (1, .int a1)] 3 C dX11_isSomebody_52 rfl e19 (by decide) rfl ?_
          refine r_goto 16 C dX11_isSomebody_55 (by decide) ?_
          refine r_lv [2, 3, 1, 0] rfl ?_
          exact ih13 1 i18 w7 h8 o9 (by omega) (by omega) (by omega)
        · have c17' := i_eq c17
          refine r_aload_n 0 C dX11_isSomebody_28 rfl ?_
          refine r_iload_n 3 C dX11_isSomebody_29 rfl ?_
          refine callVI C cwX11_304_V (ctX11_isHere _ _ w7 (sS sM h8) o9 u4 (by omega)) (by decide) (kS sM h8 kc_114) rfl rfl rfl (Nat.le_of_ble_eq_true rfl) (by decide) dX11_isSomebody_30 (fun r22 w21 y20 => ?_)
          show V x 0 0 w21 33 [(0, .ref (gz (xG x) + 114)), (1, .int a1), (2, .int u3), (3, .int u4)] [.int r22]
          obtain ⟨h23, o24, g25⟩ := y20
          have h26 := Ch.tr h8 h23 (by decide) (by decide)
          refine r_if_eq 50 C dX11_isSomebody_33 (by decide) (fun c27 => ?_) (fun c27 => ?_)
          · have c27' := i_eq c27
            refine r_iconst (v := 0) C dX11_isSomebody_50 (by decide) ?_
            refine r_istore_n [(2, .int 0), (0, .ref (gz (xG x) + 114)), (1, .int a1), (3, .int u4)] C dX11_isSomebody_51 (by decide) rfl ?_
            obtain ⟨i28, e29⟩ : ∃ z : Int32, u4 + Int32.ofInt 1 = z := ⟨_, rfl⟩
            have i28' := iinc_ok e29 (by decide) (by omega) (by omega)
            refine r_iinc [(3, .int i28), (2, .int 0), (0, .ref (gz (xG x) + 114)), (1, .int a1)] 3 C dX11_isSomebody_52 rfl e29 (by decide) rfl ?_
            refine r_goto 16 C dX11_isSomebody_55 (by decide) ?_
            refine r_lv [2, 3, 1, 0] rfl ?_
            exact ih13 0 i28 w21 h26 o24 (by omega) (by omega) (by omega)
          · have c27' := i_ne c27
            refine r_aload_n 0 C dX11_isSomebody_36 rfl ?_
            refine gfX11_38 122 C (kS sM h26 kc_114) (xS sM h26 xc_114_14) dX11_isSomebody_37 ?_
            refine r_iload_n 3 C dX11_isSomebody_40 rfl ?_
            refine r_iald C (kS sM h26 kc_122) (vin (by omega) (by omega)) dX11_isSomebody_41 ?_
            have b31 := Inv.geta o24.1 rt_122_0 (i := u4) (by omega) (by omega) (by omega)
            generalize (wI w21 122 (u4).toNatClampNeg) = v30 at b31 ⊢
            refine r_iload_n 1 C dX11_isSomebody_42 rfl ?_
            refine r_icmp_ne 50 C dX11_isSomebody_43 (by decide) (fun c32 => ?_) (fun c32 => ?_)
            · have c32' := i_ne c32
              refine r_iconst (v := 0) C dX11_isSomebody_50 (by decide) ?_
              refine r_istore_n [(2, .int 0), (0, .ref (gz (xG x) + 114)), (1, .int a1), (3, .int u4)] C dX11_isSomebody_51 (by decide) rfl ?_
              obtain ⟨i33, e34⟩ : ∃ z : Int32, u4 + Int32.ofInt 1 = z := ⟨_, rfl⟩
              have i33' := iinc_ok e34 (by decide) (by omega) (by omega)
              refine r_iinc [(3, .int i33), (2, .int 0), (0, .ref (gz (xG x) + 114)), (1, .int a1)] 3 C dX11_isSomebody_52 rfl e34 (by decide) rfl ?_
              refine r_goto 16 C dX11_isSomebody_55 (by decide) ?_
              refine r_lv [2, 3, 1, 0] rfl ?_
              exact ih13 0 i33 w21 h26 o24 (by omega) (by omega) (by omega)
            · have c32' := i_eq c32
              refine r_iconst (v := 1) C dX11_isSomebody_46 (by decide) ?_
              refine r_goto 51 C dX11_isSomebody_47 (by decide) ?_
              refine r_istore_n [(2, .int 1), (0, .ref (gz (xG x) + 114)), (1, .int a1), (3, .int u4)] C dX11_isSomebody_51 (by decide) rfl ?_
              obtain ⟨i35, e36⟩ : ∃ z : Int32, u4 + Int32.ofInt 1 = z := ⟨_, rfl⟩
              have i35' := iinc_ok e36 (by decide) (by omega) (by omega)
              refine r_iinc [(3, .int i35), (2, .int 1), (0, .ref (gz (xG x) + 114)), (1, .int a1)] 3 C dX11_isSomebody_52 rfl e36 (by decide) rfl ?_
              refine r_goto 16 C dX11_isSomebody_55 (by decide) ?_
              refine r_lv [2, 3, 1, 0] rfl ?_
              exact ih13 1 i35 w21 h26 o24 (by omega) (by omega) (by omega)
  refine r_aload_n 0 C dX11_isSomebody_0 rfl ?_
  refine gfX11_259 (v := (wI w 114 13)) C (kS sM h0 kc_114) rfl dX11_isSomebody_1 ?_
  have b1 := Inv.get o0.1 rt_114_13 (j := 13) (by decide) (by decide)
  refine r_iload_n 1 C dX11_isSomebody_4 rfl ?_
  refine r_icmp_ne 12 C dX11_isSomebody_5 (by decide) (fun c2 => ?_) (fun c2 => ?_)
  · have c2' := i_ne c2
    refine r_iconst (v := 0) C dX11_isSomebody_12 (by decide) ?_
    refine r_istore_n [(2, .int 0), (0, .ref (gz (xG x) + 114)), (1, .int a1)] C dX11_isSomebody_13 (by decide) rfl ?_
    refine r_iconst (v := 0) C dX11_isSomebody_14 (by decide) ?_
    refine r_istore_n [(3, .int 0), (2, .int 0), (0, .ref (gz (xG x) + 114)), (1, .int a1)] C dX11_isSomebody_15 (by decide) rfl ?_
    refine r_lv [2, 3, 1, 0] rfl ?_
    exact LP5 4294967296 0 0 w h0 o0 (by omega) (by omega) (by omega)
  · have c2' := i_eq c2
    refine r_iconst (v := 1) C dX11_isSomebody_8 (by decide) ?_
    refine r_goto 13 C dX11_isSomebody_9 (by decide) ?_
    refine r_istore_n [(2, .int 1), (0, .ref (gz (xG x) + 114)), (1, .int a1)] C dX11_isSomebody_13 (by decide) rfl ?_
    refine r_iconst (v := 0) C dX11_isSomebody_14 (by decide) ?_
    refine r_istore_n [(3, .int 0), (2, .int 1), (0, .ref (gz (xG x) + 114)), (1, .int a1)] C dX11_isSomebody_15 (by decide) rfl ?_
    refine r_lv [2, 3, 1, 0] rfl ?_
    exact LP5 4294967296 1 0 w h0 o0 (by omega) (by omega) (by omega)
set_option maxHeartbeats 4000000 in
set_option maxRecDepth 100000 in
theorem ctX11_wall (l : Launch) (G : Gt) (w : Wv) (sM : Str KM XM w) (o0 : OkM w) (W : Int32) (pW : wI w 114 0 = W) (bW : 0 ≤ W.toInt ∧ W.toInt ≤ 9) (D : Int32) (pD : wI w 114 1 = D) (bD : 0 ≤ D.toInt ∧ D.toInt ≤ 9) (a1 : Int32) (a2 : Int32) (a3 : Int32) (b3 : 0 ≤ a3.toInt ∧ a3.toInt ≤ 1) : CtI l G yX11_wall cX11_wall 6 .int ({ frames := 5, cells := 0, slots := 0, locals := 117 } : Room) [.ref (gz G + 114), .int a1, .int a2, .int a3] w (fun r w' => Ch [115, 134] [] w w' ∧ OkM w') := by
  refine enterI (by decide) (Nat.le_of_ble_eq_true rfl) ?_
  intro x el eG C hret
  subst el; subst eG
  show V x 0 0 w 0 [(0, .ref (gz (xG x) + 114)), (1, .int a1), (2, .int a2), (3, .int a3)] []
  have h0 : Ch [115, 134] [] w w := Ch.rf
  have qm1000000003 : ((-1000000003) : Int32).toInt = (-1000000003) := by decide
  have qm1000000001 : ((-1000000001) : Int32).toInt = (-1000000001) := by decide
  have q0 : (0 : Int32).toInt = 0 := by decide
  have q1 : (1 : Int32).toInt = 1 := by decide
  obtain ⟨rA, rB, rC, rD⟩ := (o0.2 : Rel w)
  (try simp only [pW] at rA); (try simp only [pW] at rB); (try simp only [pW] at rC); (try simp only [pW] at rD)
  (try simp only [pD] at rA); (try simp only [pD] at rB); (try simp only [pD] at rC); (try simp only [pD] at rD)
  refine r_aload_n 0 C dX11_wall_0 rfl ?_
  refine r_iload_n 1 C dX11_wall_1 rfl ?_
  refine r_iload_n 2 C dX11_wall_2 rfl ?_
  refine callVI C cwX11_274_V (ctX11_isCell _ _ w (sS sM h0) o0 W pW (by omega) D pD (by omega) a1 a2 ) (by decide) (kS sM h0 kc_114) rfl rfl rfl (Nat.le_of_ble_eq_true rfl) (by decide) dX11_wall_3 (fun r3 w2 y1 => ?_)
  show V x 0 0 w2 6 [(0, .ref (gz (xG x) + 114)), (1, .int a1), (2, .int a2), (3, .int a3)] [.int r3]
  obtain ⟨h4, o5, g6⟩ := y1
  have h7 := Ch.tr h0 h4 (by decide) (by decide)
  refine r_if_ne 13 C dX11_wall_6 (by decide) (fun c8 => ?_) (fun c8 => ?_)
  · have c8' := i_ne c8
    have k9 := cell_rng (W := (W : Int32).toInt) (D := (D : Int32).toInt) (y := (a2 : Int32).toInt) (x := (a1 : Int32).toInt) (by omega) (by omega) (by omega)
    refine r_aload_n 0 C dX11_wall_13 rfl ?_
    refine gfX11_111 (v := W) C (kS sM h7 kc_114) (h4.I (by decide) (by decide) pW) dX11_wall_14 ?_
    refine r_iload_n 2 C dX11_wall_17 rfl ?_
    refine r_imul C dX11_wall_18 (fun v10 e11 => ?_)
    have v10' := imul_rng e11 (A := 9) (B := 8) (by omega) (by omega) (by decide)
    refine r_iload_n 1 C dX11_wall_19 rfl ?_
    refine r_iadd C dX11_wall_20 (fun v12 e13 => ?_)
    have v12' := iadd_ok e13 (by omega) (by omega)
    refine r_istore [(4, .int v12), (0, .ref (gz (xG x) + 114)), (1, .int a1), (2, .int a2), (3, .int a3)] C dX11_wall_21 (by decide) rfl ?_
    refine r_aload_n 1 C dX11_wall_23 rfl ?_
    refine gfX11_7 115 C (kS sM h7 kc_114) (xS sM h7 xc_114_2) dX11_wall_24 ?_
    refine r_iload 0 C dX11_wall_27 rfl ?_
    refine r_iald C (kS sM h7 kc_115) (vin (by omega) (by omega)) dX11_wall_29 ?_
    generalize (wI w2 115 (v12).toNatClampNeg) = v14
    refine r_iconst (v := 1) C dX11_wall_30 (by decide) ?_
    have k16 := i_rng v14
    refine r_icmp_gt 43 C dX11_wall_31 (by decide) (fun c15 => ?_) (fun c15 => ?_)
    · have c15' := i_lt c15
      refine r_ldcw C mw6_189 dX11_wall_43 ?_
      exact hret _ _ _ _ dX11_wall_46 rfl ⟨h7, o5⟩
    · have c15' := i_nlt c15
      refine r_aload_n 1 C dX11_wall_34 rfl ?_
      refine r_iload 0 C dX11_wall_35 rfl ?_
      refine callVI C cwX11_331_V (ctX11_isSomebody _ _ w2 (sS sM h7) o5 v12 ) (by decide) (kS sM h7 kc_114) rfl rfl rfl (Nat.le_of_ble_eq_true rfl) (by decide) dX11_wall_37 (fun r19 w18 y17 => ?_)
      show V x 0 0 w18 40 [(4, .int v12), (0, .ref (gz (xG x) + 114)), (1, .int a1), (2, .int a2), (3, .int a3)] [.int r19]
      obtain ⟨h20, o21, g22⟩ := y17
      have h23 := Ch.tr h7 h20 (by decide) (by decide)
      refine r_if_eq 47 C dX11_wall_40 (by decide) (fun c24 => ?_) (fun c24 => ?_)
      · have c24' := i_eq c24
        refine r_aload_n 1 C dX11_wall_47 rfl ?_
        refine gfX11_7 115 C (kS sM h23 kc_114) (xS sM h23 xc_114_2) dX11_wall_48 ?_
        refine r_iload 0 C dX11_wall_51 rfl ?_
        refine r_iald C (kS sM h23 kc_115) (vin (by omega) (by omega)) dX11_wall_53 ?_
        generalize (wI w18 115 (v12).toNatClampNeg) = v25
        refine r_istore [(5, .int v25), (4, .int v12), (0, .ref (gz (xG x) + 114)), (1, .int a1), (2, .int a2), (3, .int a3)] C dX11_wall_54 (by decide) rfl ?_
        refine r_aload_n 2 C dX11_wall_56 rfl ?_
        refine gfX11_7 115 C (kS sM h23 kc_114) (xS sM h23 xc_114_2) dX11_wall_57 ?_
        refine r_iload 1 C dX11_wall_60 rfl ?_
        refine r_iload_n 5 C dX11_wall_62 rfl ?_
        refine r_if_eq 70 C dX11_wall_63 (by decide) (fun c26 => ?_) (fun c26 => ?_)
        · have c26' := i_eq c26
          refine r_iconst (v := 0) C dX11_wall_70 (by decide) ?_
          refine r_iast C (kS sM h23 kc_115) (vin (by omega) (by omega)) dX11_wall_71 (fun w27 e28 => ?_)
          have h29 := Ch.putS h23 e28 (by decide)
          have o30 : OkM w27 := ⟨Inv.put0 o21.1 e28 (by decide), Rel.putS o21.2 e28 (by decide)⟩
          refine r_aload_n 2 C dX11_wall_72 rfl ?_
          refine callVV C cwX11_271_V (ctX11_findFar _ _ w27 (sS sM h29) o30 W (g_nn e28 (by decide) (h20.I (by decide) (by decide) (h4.I (by decide) (by decide) pW))) (by omega) D (g_nn e28 (by decide) (h20.I (by decide) (by decide) (h4.I (by decide) (by decide) pD))) (by omega)  ) (by decide) (kS sM h29 kc_114) rfl rfl rfl (Nat.le_of_ble_eq_true rfl) (by decide) dX11_wall_73 (fun w32 y31 => ?_)
          show V x 0 0 w32 76 [(5, .int v25), (4, .int v12), (0, .ref (gz (xG x) + 114)), (1, .int a1), (2, .int a2), (3, .int a3)] []
          obtain ⟨h34, o35⟩ := y31
          have h36 := Ch.tr h29 h34 (by decide) (by decide)
          refine r_iload 0 C dX11_wall_76 rfl ?_
          exact hret _ _ _ _ dX11_wall_78 rfl ⟨h36, o35⟩
        · have c26' := i_ne c26
          refine r_iconst (v := 1) C dX11_wall_66 (by decide) ?_
          refine r_goto 71 C dX11_wall_67 (by decide) ?_
          refine r_iast C (kS sM h23 kc_115) (vin (by omega) (by omega)) dX11_wall_71 (fun w37 e38 => ?_)
          have h39 := Ch.putS h23 e38 (by decide)
          have o40 : OkM w37 := ⟨Inv.put0 o21.1 e38 (by decide), Rel.putS o21.2 e38 (by decide)⟩
          refine r_aload_n 2 C dX11_wall_72 rfl ?_
          refine callVV C cwX11_271_V (ctX11_findFar _ _ w37 (sS sM h39) o40 W (g_nn e38 (by decide) (h20.I (by decide) (by decide) (h4.I (by decide) (by decide) pW))) (by omega) D (g_nn e38 (by decide) (h20.I (by decide) (by decide) (h4.I (by decide) (by decide) pD))) (by omega)  ) (by decide) (kS sM h39 kc_114) rfl rfl rfl (Nat.le_of_ble_eq_true rfl) (by decide) dX11_wall_73 (fun w42 y41 => ?_)
          show V x 0 0 w42 76 [(5, .int v25), (4, .int v12), (0, .ref (gz (xG x) + 114)), (1, .int a1), (2, .int a2), (3, .int a3)] []
          obtain ⟨h44, o45⟩ := y41
          have h46 := Ch.tr h39 h44 (by decide) (by decide)
          refine r_iload 0 C dX11_wall_76 rfl ?_
          exact hret _ _ _ _ dX11_wall_78 rfl ⟨h46, o45⟩
      · have c24' := i_ne c24
        refine r_ldcw C mw6_189 dX11_wall_43 ?_
        exact hret _ _ _ _ dX11_wall_46 rfl ⟨h23, o21⟩
  · have c8' := i_eq c8
    refine r_ldcw C mw6_112 dX11_wall_9 ?_
    exact hret _ _ _ _ dX11_wall_12 rfl ⟨h7, o5⟩
set_option maxHeartbeats 4000000 in
set_option maxRecDepth 100000 in
theorem ctX11_draw (l : Launch) (G : Gt) (w : Wv) (sM : Str KM XM w) (o0 : OkM w) (a1 : Int32) (b1 : 1 ≤ a1.toInt ∧ a1.toInt ≤ 5) : CtI l G yX11_draw cX11_draw 2 .int ({ frames := 0, cells := 0, slots := 0, locals := 0 } : Room) [.ref (gz G + 114), .int a1] w (fun r w' => Ch [] [(114, 18)] w w' ∧ OkM w' ∧ (0 ≤ r.toInt ∧ r.toInt < a1.toInt)) := by
  refine enterI (by decide) (Nat.le_of_ble_eq_true rfl) ?_
  intro x el eG C hret
  subst el; subst eG
  show V x 0 0 w 0 [(0, .ref (gz (xG x) + 114)), (1, .int a1)] []
  have h0 : Ch [] [(114, 18)] w w := Ch.rf
  have q0 : (0 : Int32).toInt = 0 := by decide
  have q65536 : (65536 : Int32).toInt = 65536 := by decide
  have ql12345 : (12345 : Int64).toInt = 12345 := by decide
  have ql1103515245 : (1103515245 : Int64).toInt = 1103515245 := by decide
  have ql2147483648 : (2147483648 : Int64).toInt = 2147483648 := by decide
  obtain ⟨rA, rB, rC, rD⟩ := (o0.2 : Rel w)
  refine r_aload_n 0 C dX11_draw_0 rfl ?_
  refine r_aload_n 0 C dX11_draw_1 rfl ?_
  refine gfX11_334 (v := (wI w 114 18)) C (kS sM h0 kc_114) rfl dX11_draw_2 ?_
  have b1 := Inv.get o0.1 rt_114_18 (j := 18) (by decide) (by decide)
  refine r_i2l C dX11_draw_5 (fun v2 e3 => ?_)
  have v2' := i2l_ok e3
  refine r_ldc2 C mw6_207 dX11_draw_6 ?_
  refine r_lmul C dX11_draw_9 (fun v4 e5 => ?_)
  refine r_ldc2 C mw6_208 dX11_draw_10 ?_
  refine r_ladd C dX11_draw_13 (fun v6 e7 => ?_)
  refine r_ldc2 C mw6_209 dX11_draw_14 ?_
  refine r_lrem C dX11_draw_17 (by decide) (fun v8 e9 => ?_)
  refine r_l2i C dX11_draw_18 (fun v10 e11 => ?_)
  have v10' := draw_ok e3 e5 e7 e9 e11 (by omega)
  have k12 := i_rng v10
  refine pfX11_334 C (kS sM h0 kc_114) dX11_draw_19 (fun w13 e14 => ?_)
  have h15 := Ch.putF h0 e14 (by decide)
  have k17 := i_rng v10
  have o16 : OkM w13 := ⟨Inv.put o0.1 e14 0 2147483647 (by omega) (by decide), Rel.putF o0.2 e14 (by decide)⟩
  refine r_aload_n 0 C dX11_draw_22 rfl ?_
  refine gfX11_334 (v := v10) C (kS sM h15 kc_114) (g_eq e14) dX11_draw_23 ?_
  refine r_ldcw C mw6_210 dX11_draw_26 ?_
  refine r_idiv C dX11_draw_29 (fun q => by have q := i_eq q; omega) (fun v18 e19 => ?_)
  have v18' := idiv_rng e19 (by omega) (by omega)
  refine r_iload_n 1 C dX11_draw_30 rfl ?_
  refine r_irem C dX11_draw_31 (fun q => by have q := i_eq q; omega) (fun v20 e21 => ?_)
  have v20' := irem_rng e21 (by omega) (by omega)
  exact hret _ _ _ _ dX11_draw_32 rfl ⟨h15, o16, by omega⟩
set_option maxHeartbeats 4000000 in
set_option maxRecDepth 100000 in
theorem ctX11_save (l : Launch) (G : Gt) (w : Wv) (sM : Str KM XM w) (o0 : OkM w)  : CtV l G yX11_save cX11_save 2 ({ frames := 0, cells := 0, slots := 0, locals := 0 } : Room) [.ref (gz G + 114)] w (fun w' => Ch [135, 136, 137] [(114, 45)] w w' ∧ OkM w') := by
  refine enterV (by decide) (Nat.le_of_ble_eq_true rfl) ?_
  intro x el eG C hnm hret
  subst el; subst eG
  show V x 0 0 w 0 [(0, .ref (gz (xG x) + 114))] []
  have h0 : Ch [135, 136, 137] [(114, 45)] w w := Ch.rf
  have q0 : (0 : Int32).toInt = 0 := by decide
  obtain ⟨rA, rB, rC, rD⟩ := (o0.2 : Rel w)
  have LP7 : ∀ (f8 : Nat) (u6 : Int32) (w9 : Wv), Ch [135, 136, 137] [(114, 45)] w w9 → OkM w9 → (0 ≤ u6.toInt ∧ u6.toInt ≤ 2147483647) → 2147483647 - u6.toInt < f8 → V x 0 0 w9 10 [(0, .ref (gz (xG x) + 114)), (1, .int u6)] [] := by
    intro f8
    induction f8 with
    | zero => intro u6 w9 h10 o11 z12 z13; exfalso; omega
    | succ f8 ih14 =>
      intro u6 w9 h10 o11 z12 z13
      refine r_iload_n 1 C dX11_save_10 rfl ?_
      refine r_aload_n 0 C dX11_save_11 rfl ?_
      refine gfX11_121 (v := (wI w 114 3)) C (kS sM h10 kc_114) (h10.I (by decide) (by decide) rfl) dX11_save_12 ?_
      have b15 := Inv.get o0.1 rt_114_3 (j := 3) (by decide) (by decide)
      have k17 := i_rng u6
      refine r_icmp_ge 60 C dX11_save_15 (by decide) (fun c16 => ?_) (fun c16 => ?_)
      · have c16' := i_le c16
        exact hret _ _ _ dX11_save_60 ⟨h10, o11⟩
      · have c16' := i_nle c16
        refine r_aload_n 0 C dX11_save_18 rfl ?_
        refine gfX11_80 135 C (kS sM h10 kc_114) (xS sM h10 xc_114_46) dX11_save_19 ?_
        refine r_iload_n 1 C dX11_save_22 rfl ?_
        refine r_aload_n 0 C dX11_save_23 rfl ?_
        refine gfX11_38 122 C (kS sM h10 kc_114) (xS sM h10 xc_114_14) dX11_save_24 ?_
        refine r_iload_n 1 C dX11_save_27 rfl ?_
        refine r_iald C (kS sM h10 kc_122) (vin (by omega) (by omega)) dX11_save_28 ?_
        have b19 := Inv.geta o11.1 rt_122_0 (i := u6) (by omega) (by omega) (by omega)
        generalize (wI w9 122 (u6).toNatClampNeg) = v18 at b19 ⊢
        refine r_iast C (kS sM h10 kc_135) (vin (by omega) (by omega)) dX11_save_29 (fun w20 e21 => ?_)
        have h22 := Ch.putS h10 e21 (by decide)
        have o23 : OkM w20 := ⟨Inv.putR o11.1 e21 0 5 (by omega) (by omega) 0 41 (by omega) (by decide), Rel.putS o11.2 e21 (by decide)⟩
        refine r_aload_n 0 C dX11_save_30 rfl ?_
        refine gfX11_83 136 C (kS sM h22 kc_114) (xS sM h22 xc_114_47) dX11_save_31 ?_
        refine r_iload_n 1 C dX11_save_34 rfl ?_
        refine r_aload_n 0 C dX11_save_35 rfl ?_
        refine gfX11_41 123 C (kS sM h22 kc_114) (xS sM h22 xc_114_15) dX11_save_36 ?_
        refine r_iload_n 1 C dX11_save_39 rfl ?_
        refine r_iald C (kS sM h22 kc_123) (vin (by omega) (by omega)) dX11_save_40 ?_
        have b25 := Inv.geta o23.1 rt_123_0 (i := u6) (by omega) (by omega) (by omega)
        generalize (wI w20 123 (u6).toNatClampNeg) = v24 at b25 ⊢
        refine r_iast C (kS sM h22 kc_136) (vin (by omega) (by omega)) dX11_save_41 (fun w26 e27 => ?_)
        have h28 := Ch.putS h22 e27 (by decide)
        have o29 : OkM w26 := ⟨Inv.putR o23.1 e27 0 5 (by omega) (by omega) (-1) 41 (by omega) (by decide), Rel.putS o23.2 e27 (by decide)⟩
        refine r_aload_n 0 C dX11_save_42 rfl ?_
        refine gfX11_86 137 C (kS sM h28 kc_114) (xS sM h28 xc_114_48) dX11_save_43 ?_
        refine r_iload_n 1 C dX11_save_46 rfl ?_
        refine r_aload_n 0 C dX11_save_47 rfl ?_
        refine gfX11_44 124 C (kS sM h28 kc_114) (xS sM h28 xc_114_16) dX11_save_48 ?_
        refine r_iload_n 1 C dX11_save_51 rfl ?_
        refine r_iald C (kS sM h28 kc_124) (vin (by omega) (by omega)) dX11_save_52 ?_
        generalize (wI w26 124 (u6).toNatClampNeg) = v30
        refine r_iast C (kS sM h28 kc_137) (vin (by omega) (by omega)) dX11_save_53 (fun w31 e32 => ?_)
        have h33 := Ch.putS h28 e32 (by decide)
        have o34 : OkM w31 := ⟨Inv.put0 o29.1 e32 (by decide), Rel.putS o29.2 e32 (by decide)⟩
        obtain ⟨i35, e36⟩ : ∃ z : Int32, u6 + Int32.ofInt 1 = z := ⟨_, rfl⟩
        have i35' := iinc_ok e36 (by decide) (by omega) (by omega)
        refine r_iinc [(1, .int i35), (0, .ref (gz (xG x) + 114))] 1 C dX11_save_54 rfl e36 (by decide) rfl ?_
        refine r_goto 10 C dX11_save_57 (by decide) ?_
        refine r_lv [1, 0] rfl ?_
        exact ih14 i35 w31 h33 o34 (by omega) (by omega)
  refine r_aload_n 0 C dX11_save_0 rfl ?_
  refine r_aload_n 0 C dX11_save_1 rfl ?_
  refine gfX11_259 (v := (wI w 114 13)) C (kS sM h0 kc_114) rfl dX11_save_2 ?_
  have b1 := Inv.get o0.1 rt_114_13 (j := 13) (by decide) (by decide)
  refine pfX11_352 C (kS sM h0 kc_114) dX11_save_5 (fun w2 e3 => ?_)
  have h4 := Ch.putF h0 e3 (by decide)
  have o5 : OkM w2 := ⟨Inv.put o0.1 e3 0 41 (by omega) (by decide), Rel.putF o0.2 e3 (by decide)⟩
  refine r_iconst (v := 0) C dX11_save_8 (by decide) ?_
  refine r_istore_n [(1, .int 0), (0, .ref (gz (xG x) + 114))] C dX11_save_9 (by decide) rfl ?_
  refine r_lv [1, 0] rfl ?_
  exact LP7 4294967296 0 w2 h4 o5 (by omega) (by omega)
set_option maxHeartbeats 4000000 in
set_option maxRecDepth 100000 in
theorem ctX11_putBack (l : Launch) (G : Gt) (w : Wv) (sM : Str KM XM w) (o0 : OkM w)  : CtV l G yX11_putBack cX11_putBack 2 ({ frames := 0, cells := 0, slots := 0, locals := 0 } : Room) [.ref (gz G + 114)] w (fun w' => Ch [122, 123, 124] [(114, 13)] w w' ∧ OkM w') := by
  refine enterV (by decide) (Nat.le_of_ble_eq_true rfl) ?_
  intro x el eG C hnm hret
  subst el; subst eG
  show V x 0 0 w 0 [(0, .ref (gz (xG x) + 114))] []
  have h0 : Ch [122, 123, 124] [(114, 13)] w w := Ch.rf
  have q0 : (0 : Int32).toInt = 0 := by decide
  obtain ⟨rA, rB, rC, rD⟩ := (o0.2 : Rel w)
  have LP7 : ∀ (f8 : Nat) (u6 : Int32) (w9 : Wv), Ch [122, 123, 124] [(114, 13)] w w9 → OkM w9 → (0 ≤ u6.toInt ∧ u6.toInt ≤ 2147483647) → 2147483647 - u6.toInt < f8 → V x 0 0 w9 10 [(0, .ref (gz (xG x) + 114)), (1, .int u6)] [] := by
    intro f8
    induction f8 with
    | zero => intro u6 w9 h10 o11 z12 z13; exfalso; omega
    | succ f8 ih14 =>
      intro u6 w9 h10 o11 z12 z13
      refine r_iload_n 1 C dX11_putBack_10 rfl ?_
      refine r_aload_n 0 C dX11_putBack_11 rfl ?_
      refine gfX11_121 (v := (wI w 114 3)) C (kS sM h10 kc_114) (h10.I (by decide) (by decide) rfl) dX11_putBack_12 ?_
      have b15 := Inv.get o0.1 rt_114_3 (j := 3) (by decide) (by decide)
      have k17 := i_rng u6
      refine r_icmp_ge 60 C dX11_putBack_15 (by decide) (fun c16 => ?_) (fun c16 => ?_)
      · have c16' := i_le c16
        exact hret _ _ _ dX11_putBack_60 ⟨h10, o11⟩
      · have c16' := i_nle c16
        refine r_aload_n 0 C dX11_putBack_18 rfl ?_
        refine gfX11_38 122 C (kS sM h10 kc_114) (xS sM h10 xc_114_14) dX11_putBack_19 ?_
        refine r_iload_n 1 C dX11_putBack_22 rfl ?_
        refine r_aload_n 0 C dX11_putBack_23 rfl ?_
        refine gfX11_80 135 C (kS sM h10 kc_114) (xS sM h10 xc_114_46) dX11_putBack_24 ?_
        refine r_iload_n 1 C dX11_putBack_27 rfl ?_
        refine r_iald C (kS sM h10 kc_135) (vin (by omega) (by omega)) dX11_putBack_28 ?_
        have b19 := Inv.geta o11.1 rt_135_0 (i := u6) (by omega) (by omega) (by omega)
        generalize (wI w9 135 (u6).toNatClampNeg) = v18 at b19 ⊢
        refine r_iast C (kS sM h10 kc_122) (vin (by omega) (by omega)) dX11_putBack_29 (fun w20 e21 => ?_)
        have h22 := Ch.putS h10 e21 (by decide)
        have o23 : OkM w20 := ⟨Inv.putR o11.1 e21 0 5 (by omega) (by omega) 0 41 (by omega) (by decide), Rel.putS o11.2 e21 (by decide)⟩
        refine r_aload_n 0 C dX11_putBack_30 rfl ?_
        refine gfX11_41 123 C (kS sM h22 kc_114) (xS sM h22 xc_114_15) dX11_putBack_31 ?_
        refine r_iload_n 1 C dX11_putBack_34 rfl ?_
        refine r_aload_n 0 C dX11_putBack_35 rfl ?_
        refine gfX11_83 136 C (kS sM h22 kc_114) (xS sM h22 xc_114_47) dX11_putBack_36 ?_
        refine r_iload_n 1 C dX11_putBack_39 rfl ?_
        refine r_iald C (kS sM h22 kc_136) (vin (by omega) (by omega)) dX11_putBack_40 ?_
        have b25 := Inv.geta o23.1 rt_136_0 (i := u6) (by omega) (by omega) (by omega)
        generalize (wI w20 136 (u6).toNatClampNeg) = v24 at b25 ⊢
        refine r_iast C (kS sM h22 kc_123) (vin (by omega) (by omega)) dX11_putBack_41 (fun w26 e27 => ?_)
        have h28 := Ch.putS h22 e27 (by decide)
        have o29 : OkM w26 := ⟨Inv.putR o23.1 e27 0 5 (by omega) (by omega) (-1) 41 (by omega) (by decide), Rel.putS o23.2 e27 (by decide)⟩
        refine r_aload_n 0 C dX11_putBack_42 rfl ?_
        refine gfX11_44 124 C (kS sM h28 kc_114) (xS sM h28 xc_114_16) dX11_putBack_43 ?_
        refine r_iload_n 1 C dX11_putBack_46 rfl ?_
        refine r_aload_n 0 C dX11_putBack_47 rfl ?_
        refine gfX11_86 137 C (kS sM h28 kc_114) (xS sM h28 xc_114_48) dX11_putBack_48 ?_
        refine r_iload_n 1 C dX11_putBack_51 rfl ?_
        refine r_iald C (kS sM h28 kc_137) (vin (by omega) (by omega)) dX11_putBack_52 ?_
        generalize (wI w26 137 (u6).toNatClampNeg) = v30
        refine r_iast C (kS sM h28 kc_124) (vin (by omega) (by omega)) dX11_putBack_53 (fun w31 e32 => ?_)
        have h33 := Ch.putS h28 e32 (by decide)
        have o34 : OkM w31 := ⟨Inv.put0 o29.1 e32 (by decide), Rel.putS o29.2 e32 (by decide)⟩
        obtain ⟨i35, e36⟩ : ∃ z : Int32, u6 + Int32.ofInt 1 = z := ⟨_, rfl⟩
        have i35' := iinc_ok e36 (by decide) (by omega) (by omega)
        refine r_iinc [(1, .int i35), (0, .ref (gz (xG x) + 114))] 1 C dX11_putBack_54 rfl e36 (by decide) rfl ?_
        refine r_goto 10 C dX11_putBack_57 (by decide) ?_
        refine r_lv [1, 0] rfl ?_
        exact ih14 i35 w31 h33 o34 (by omega) (by omega)
  refine r_aload_n 0 C dX11_putBack_0 rfl ?_
  refine r_aload_n 0 C dX11_putBack_1 rfl ?_
  refine gfX11_352 (v := (wI w 114 45)) C (kS sM h0 kc_114) rfl dX11_putBack_2 ?_
  have b1 := Inv.get o0.1 rt_114_45 (j := 45) (by decide) (by decide)
  refine pfX11_259 C (kS sM h0 kc_114) dX11_putBack_5 (fun w2 e3 => ?_)
  have h4 := Ch.putF h0 e3 (by decide)
  have o5 : OkM w2 := ⟨Inv.put o0.1 e3 0 41 (by omega) (by decide), Rel.putF o0.2 e3 (by decide)⟩
  refine r_iconst (v := 0) C dX11_putBack_8 (by decide) ?_
  refine r_istore_n [(1, .int 0), (0, .ref (gz (xG x) + 114))] C dX11_putBack_9 (by decide) rfl ?_
  refine r_lv [1, 0] rfl ?_
  exact LP7 4294967296 0 w2 h4 o5 (by omega) (by omega)
set_option maxHeartbeats 4000000 in
set_option maxRecDepth 100000 in
theorem ctX11_follow (l : Launch) (G : Gt) (w : Wv) (sM : Str KM XM w) (o0 : OkM w) (W : Int32) (pW : wI w 114 0 = W) (bW : 0 ≤ W.toInt ∧ W.toInt ≤ 9) (D : Int32) (pD : wI w 114 1 = D) (bD : 0 ≤ D.toInt ∧ D.toInt ≤ 9) (a1 : Int32) : CtI l G yX11_follow cX11_follow 3 .int ({ frames := 6, cells := 0, slots := 0, locals := 140 } : Room) [.ref (gz G + 114), .int a1] w (fun r w' => Ch [122, 123, 124] [(114, 13)] w w' ∧ OkM w') := by
  refine enterI (by decide) (Nat.le_of_ble_eq_true rfl) ?_
  intro x el eG C hret
  subst el; subst eG
  show V x 0 0 w 0 [(0, .ref (gz (xG x) + 114)), (1, .int a1)] []
  have h0 : Ch [122, 123, 124] [(114, 13)] w w := Ch.rf
  have q0 : (0 : Int32).toInt = 0 := by decide
  obtain ⟨rA, rB, rC, rD⟩ := (o0.2 : Rel w)
  (try simp only [pW] at rA); (try simp only [pW] at rB); (try simp only [pW] at rC); (try simp only [pW] at rD)
  (try simp only [pD] at rA); (try simp only [pD] at rB); (try simp only [pD] at rC); (try simp only [pD] at rD)
  have LP2 : ∀ (f3 : Nat) (u1 : Int32) (w4 : Wv), Ch [122, 123, 124] [(114, 13)] w w4 → OkM w4 → (0 ≤ u1.toInt ∧ u1.toInt ≤ 2147483647) → 2147483647 - u1.toInt < f3 → V x 0 0 w4 2 [(0, .ref (gz (xG x) + 114)), (1, .int a1), (2, .int u1)] [] := by
    intro f3
    induction f3 with
    | zero => intro u1 w4 h5 o6 z7 z8; exfalso; omega
    | succ f3 ih9 =>
      intro u1 w4 h5 o6 z7 z8
      refine r_iload_n 2 C dX11_follow_2 rfl ?_
      refine r_iload_n 1 C dX11_follow_3 rfl ?_
      have k11 := i_rng u1
      have k12 := i_rng a1
      refine r_icmp_ge 40 C dX11_follow_4 (by decide) (fun c10 => ?_) (fun c10 => ?_)
      · have c10' := i_le c10
        refine r_iload_n 2 C dX11_follow_40 rfl ?_
        exact hret _ _ _ _ dX11_follow_41 rfl ⟨h5, o6⟩
      · have c10' := i_nle c10
        refine r_iload_n 2 C dX11_follow_7 rfl ?_
        refine r_aload_n 0 C dX11_follow_8 rfl ?_
        refine gfX11_265 (v := (wI w 114 49)) C (kS sM h5 kc_114) (h5.I (by decide) (by decide) rfl) dX11_follow_9 ?_
        have b13 := Inv.get o0.1 rt_114_49 (j := 49) (by decide) (by decide)
        refine r_icmp_ge 40 C dX11_follow_12 (by decide) (fun c14 => ?_) (fun c14 => ?_)
        · have c14' := i_le c14
          refine r_iload_n 2 C dX11_follow_40 rfl ?_
          exact hret _ _ _ _ dX11_follow_41 rfl ⟨h5, o6⟩
        · have c14' := i_nle c14
          refine r_aload_n 0 C dX11_follow_15 rfl ?_
          refine r_aload_n 0 C dX11_follow_16 rfl ?_
          refine gfX11_89 138 C (kS sM h5 kc_114) (xS sM h5 xc_114_50) dX11_follow_17 ?_
          refine r_iload_n 2 C dX11_follow_20 rfl ?_
          refine r_iald C (kS sM h5 kc_138) (vin (by omega) (by omega)) dX11_follow_21 ?_
          generalize (wI w4 138 (u1).toNatClampNeg) = v15
          refine r_aload_n 0 C dX11_follow_22 rfl ?_
          refine gfX11_92 139 C (kS sM h5 kc_114) (xS sM h5 xc_114_51) dX11_follow_23 ?_
          refine r_iload_n 2 C dX11_follow_26 rfl ?_
          refine r_iald C (kS sM h5 kc_139) (vin (by omega) (by omega)) dX11_follow_27 ?_
          have b17 := Inv.geta o6.1 rt_139_0 (i := u1) (by omega) (by omega) (by omega)
          generalize (wI w4 139 (u1).toNatClampNeg) = v16 at b17 ⊢
          refine callVI C cwX11_327_V (ctX11_minuteBy _ _ w4 (sS sM h5) o6 W (h5.I (by decide) (by decide) pW) (by omega) D (h5.I (by decide) (by decide) pD) (by omega) v15 v16 (by omega)) (by decide) (kS sM h5 kc_114) rfl rfl rfl (Nat.le_of_ble_eq_true rfl) (by decide) dX11_follow_28 (fun r20 w19 y18 => ?_)
          show V x 0 0 w19 31 [(0, .ref (gz (xG x) + 114)), (1, .int a1), (2, .int u1)] [.int r20]
          obtain ⟨h21, o22, g23⟩ := y18
          have h24 := Ch.tr h5 h21 (by decide) (by decide)
          refine r_if_eq 40 C dX11_follow_31 (by decide) (fun c25 => ?_) (fun c25 => ?_)
          · have c25' := i_eq c25
            refine r_iload_n 2 C dX11_follow_40 rfl ?_
            exact hret _ _ _ _ dX11_follow_41 rfl ⟨h24, o22⟩
          · have c25' := i_ne c25
            obtain ⟨i26, e27⟩ : ∃ z : Int32, u1 + Int32.ofInt 1 = z := ⟨_, rfl⟩
            have i26' := iinc_ok e27 (by decide) (by omega) (by omega)
            refine r_iinc [(2, .int i26), (0, .ref (gz (xG x) + 114)), (1, .int a1)] 2 C dX11_follow_34 rfl e27 (by decide) rfl ?_
            refine r_goto 2 C dX11_follow_37 (by decide) ?_
            refine r_lv [1, 2, 0] rfl ?_
            exact ih9 i26 w19 h24 o22 (by omega) (by omega)
  refine r_iconst (v := 0) C dX11_follow_0 (by decide) ?_
  refine r_istore_n [(2, .int 0), (0, .ref (gz (xG x) + 114)), (1, .int a1)] C dX11_follow_1 (by decide) rfl ?_
  refine r_lv [1, 2, 0] rfl ?_
  exact LP2 4294967296 0 w h0 o0 (by omega) (by omega)
set_option maxHeartbeats 4000000 in
set_option maxRecDepth 100000 in
theorem ctX11_drift (l : Launch) (G : Gt) (w : Wv) (sM : Str KM XM w) (o0 : OkM w) (W : Int32) (pW : wI w 114 0 = W) (bW : 0 ≤ W.toInt ∧ W.toInt ≤ 9) (D : Int32) (pD : wI w 114 1 = D) (bD : 0 ≤ D.toInt ∧ D.toInt ≤ 9) (a1 : Int32) : CtI l G yX11_drift cX11_drift 6 .int ({ frames := 6, cells := 0, slots := 0, locals := 140 } : Room) [.ref (gz G + 114), .int a1] w (fun r w' => Ch [122, 123, 124] [(114, 13), (114, 17), (114, 18)] w w' ∧ OkM w') := by
  refine enterI (by decide) (Nat.le_of_ble_eq_true rfl) ?_
  intro x el eG C hret
  subst el; subst eG
  show V x 0 0 w 0 [(0, .ref (gz (xG x) + 114)), (1, .int a1)] []
  have h0 : Ch [122, 123, 124] [(114, 13), (114, 17), (114, 18)] w w := Ch.rf
  have qm1000000003 : ((-1000000003) : Int32).toInt = (-1000000003) := by decide
  have qm1000000002 : ((-1000000002) : Int32).toInt = (-1000000002) := by decide
  have qm1 : ((-1) : Int32).toInt = (-1) := by decide
  have q0 : (0 : Int32).toInt = 0 := by decide
  have q1 : (1 : Int32).toInt = 1 := by decide
  have q5 : (5 : Int32).toInt = 5 := by decide
  have q9 : (9 : Int32).toInt = 9 := by decide
  have ql1 : (1 : Int64).toInt = 1 := by decide
  have ql99 : (99 : Int64).toInt = 99 := by decide
  obtain ⟨rA, rB, rC, rD⟩ := (o0.2 : Rel w)
  (try simp only [pW] at rA); (try simp only [pW] at rB); (try simp only [pW] at rC); (try simp only [pW] at rD)
  (try simp only [pD] at rA); (try simp only [pD] at rB); (try simp only [pD] at rC); (try simp only [pD] at rD)
  have LP10 : ∀ (f11 : Nat) (u9 : Int32) (w12 : Wv), Ch [122, 123, 124] [(114, 13), (114, 17), (114, 18)] w w12 → OkM w12 → (0 ≤ u9.toInt ∧ u9.toInt ≤ 2147483647) → (1 ≤ a1.toInt ∧ a1.toInt ≤ 99) → (0 < W.toInt) → 2147483647 - u9.toInt < f11 → V x 0 0 w12 28 [(0, .ref (gz (xG x) + 114)), (1, .int a1), (2, .int u9)] [] := by
    intro f11
    induction f11 with
    | zero => intro u9 w12 h13 o14 z15 z16 z17 z18; exfalso; omega
    | succ f11 ih19 =>
      intro u9 w12 h13 o14 z15 z16 z17 z18
      refine r_iload_n 2 C dX11_drift_28 rfl ?_
      refine r_iload_n 1 C dX11_drift_29 rfl ?_
      have k21 := i_rng u9
      refine r_icmp_ge 101 C dX11_drift_30 (by decide) (fun c20 => ?_) (fun c20 => ?_)
      · have c20' := i_le c20
        refine r_aload_n 0 C dX11_drift_101 rfl ?_
        refine r_bipush (v := 9) C dX11_drift_102 (by decide) ?_
        refine callVI C cwX11_349_V (ctX11_told _ _ w12 (sS sM h13) o14 9 ) (by decide) (kS sM h13 kc_114) rfl rfl rfl (Nat.le_of_ble_eq_true rfl) (by decide) dX11_drift_104 (fun r24 w23 y22 => ?_)
        show V x 0 0 w23 107 [(0, .ref (gz (xG x) + 114)), (1, .int a1), (2, .int u9)] [.int r24]
        obtain ⟨h25, o26⟩ := y22
        have h27 := Ch.tr h13 h25 (by decide) (by decide)
        exact hret _ _ _ _ dX11_drift_107 rfl ⟨h27, o26⟩
      · have c20' := i_nle c20
        refine r_aload_n 0 C dX11_drift_33 rfl ?_
        refine r_iconst (v := 5) C dX11_drift_34 (by decide) ?_
        refine callVI C cwX11_346_V (ctX11_draw _ _ w12 (sS sM h13) o14 5 (by omega)) (by decide) (kS sM h13 kc_114) rfl rfl rfl (Nat.le_of_ble_eq_true rfl) (by decide) dX11_drift_35 (fun r30 w29 y28 => ?_)
        show V x 0 0 w29 38 [(0, .ref (gz (xG x) + 114)), (1, .int a1), (2, .int u9)] [.int r30]
        obtain ⟨h31, o32, g33⟩ := y28
        have h34 := Ch.tr h13 h31 (by decide) (by decide)
        refine r_istore_n [(3, .int r30), (0, .ref (gz (xG x) + 114)), (1, .int a1), (2, .int u9)] C dX11_drift_38 (by decide) rfl ?_
        refine r_aload_n 1 C dX11_drift_39 rfl ?_
        refine r_aload_n 1 C dX11_drift_40 rfl ?_
        refine gfX11_124 (v := (wI w 114 8)) C (kS sM h34 kc_114) (h31.I (by decide) (by decide) (h13.I (by decide) (by decide) rfl)) dX11_drift_41 ?_
        have b35 := Inv.get o0.1 rt_114_8 (j := 8) (by decide) (by decide)
        refine r_iconst (v := 1) C dX11_drift_44 (by decide) ?_
        refine r_iadd C dX11_drift_45 (fun v36 e37 => ?_)
        have v36' := iadd_ok e37 (by omega) (by omega)
        refine callVI C cwX11_346_V (ctX11_draw _ _ w29 (sS sM h34) o32 v36 (by omega)) (by decide) (kS sM h34 kc_114) rfl rfl rfl (Nat.le_of_ble_eq_true rfl) (by decide) dX11_drift_46 (fun r40 w39 y38 => ?_)
        show V x 0 0 w39 49 [(3, .int r30), (0, .ref (gz (xG x) + 114)), (1, .int a1), (2, .int u9)] [.int r40]
        obtain ⟨h41, o42, g43⟩ := y38
        have h44 := Ch.tr h34 h41 (by decide) (by decide)
        refine r_istore [(4, .int r40), (3, .int r30), (0, .ref (gz (xG x) + 114)), (1, .int a1), (2, .int u9)] C dX11_drift_49 (by decide) rfl ?_
        refine r_aload_n 2 C dX11_drift_51 rfl ?_
        refine r_aload_n 2 C dX11_drift_52 rfl ?_
        refine r_iload_n 1 C dX11_drift_53 rfl ?_
        refine callVI C cwX11_319_V (ctX11_stepTo _ _ w39 (sS sM h44) o42 W (h41.I (by decide) (by decide) (h31.I (by decide) (by decide) (h13.I (by decide) (by decide) pW))) (by omega) D (h41.I (by decide) (by decide) (h31.I (by decide) (by decide) (h13.I (by decide) (by decide) pD))) (by omega) r30 ) (by decide) (kS sM h44 kc_114) rfl rfl rfl (Nat.le_of_ble_eq_true rfl) (by decide) dX11_drift_54 (fun r47 w46 y45 => ?_)
        show V x 0 0 w46 57 [(4, .int r40), (3, .int r30), (0, .ref (gz (xG x) + 114)), (1, .int a1), (2, .int u9)] [.int r47, .ref (gz (xG x) + 114)]
        obtain ⟨h48, o49, g50⟩ := y45
        have h51 := Ch.tr h44 h48 (by decide) (by decide)
        refine r_if_ge 64 C dX11_drift_57 (by decide) (fun c52 => ?_) (fun c52 => ?_)
        · have c52' := i_le c52
          refine r_iload_n 1 C dX11_drift_64 rfl ?_
          refine r_iload 0 C dX11_drift_65 rfl ?_
          refine r_aload_n 2 C dX11_drift_67 rfl ?_
          refine gfX11_124 (v := (wI w 114 8)) C (kS sM h51 kc_114) (h48.I (by decide) (by decide) (h41.I (by decide) (by decide) (h31.I (by decide) (by decide) (h13.I (by decide) (by decide) rfl)))) dX11_drift_68 ?_
          refine r_icmp_ne 78 C dX11_drift_71 (by decide) (fun c53 => ?_) (fun c53 => ?_)
          · have c53' := i_ne c53
            refine r_iload 0 C dX11_drift_78 rfl ?_
            refine callVI C cwX11_327_V (ctX11_minuteBy _ _ w46 (sS sM h51) o49 W (h48.I (by decide) (by decide) (h41.I (by decide) (by decide) (h31.I (by decide) (by decide) (h13.I (by decide) (by decide) pW)))) (by omega) D (h48.I (by decide) (by decide) (h41.I (by decide) (by decide) (h31.I (by decide) (by decide) (h13.I (by decide) (by decide) pD)))) (by omega) r30 r40 (by omega)) (by decide) (kS sM h51 kc_114) rfl rfl rfl (Nat.le_of_ble_eq_true rfl) (by decide) dX11_drift_80 (fun r56 w55 y54 => ?_)
            show V x 0 0 w55 83 [(4, .int r40), (3, .int r30), (0, .ref (gz (xG x) + 114)), (1, .int a1), (2, .int u9)] [.int r56]
            obtain ⟨h57, o58, g59⟩ := y54
            have h60 := Ch.tr h51 h57 (by decide) (by decide)
            refine r_istore [(5, .int r56), (4, .int r40), (3, .int r30), (0, .ref (gz (xG x) + 114)), (1, .int a1), (2, .int u9)] C dX11_drift_83 (by decide) rfl ?_
            refine r_aload_n 3 C dX11_drift_85 rfl ?_
            refine r_dup C dX11_drift_86 rfl ?_
            refine gfX11_262 (v := (wI w12 114 17)) C (kS sM h60 kc_114) (h57.I (by decide) (by decide) (h48.I (by decide) (by decide) (h41.I (by decide) (by decide) (h31.I (by decide) (by decide) rfl)))) dX11_drift_87 ?_
            refine r_iconst (v := 1) C dX11_drift_90 (by decide) ?_
            refine r_iadd C dX11_drift_91 (fun v61 e62 => ?_)
            refine pfX11_262 C (kS sM h60 kc_114) dX11_drift_92 (fun w63 e64 => ?_)
            have h65 := Ch.putF h60 e64 (by decide)
            have k67 := i_rng v61
            have o66 : OkM w63 := ⟨Inv.putk o58.1 e64 (by decide), Rel.putF o58.2 e64 (by decide)⟩
            obtain ⟨i68, e69⟩ : ∃ z : Int32, u9 + Int32.ofInt 1 = z := ⟨_, rfl⟩
            have i68' := iinc_ok e69 (by decide) (by omega) (by omega)
            refine r_iinc [(2, .int i68), (5, .int r56), (4, .int r40), (3, .int r30), (0, .ref (gz (xG x) + 114)), (1, .int a1)] 5 C dX11_drift_95 rfl e69 (by decide) rfl ?_
            refine r_goto 28 C dX11_drift_98 (by decide) ?_
            refine r_lv [4, 5, 0] rfl ?_
            exact ih19 i68 w63 h65 o66 (by omega) (by omega) (by omega) (by omega)
          · have c53' := i_eq c53
            refine r_iconst (v := (-1)) C dX11_drift_74 (by decide) ?_
            refine r_goto 80 C dX11_drift_75 (by decide) ?_
            refine callVI C cwX11_327_V (ctX11_minuteBy _ _ w46 (sS sM h51) o49 W (h48.I (by decide) (by decide) (h41.I (by decide) (by decide) (h31.I (by decide) (by decide) (h13.I (by decide) (by decide) pW)))) (by omega) D (h48.I (by decide) (by decide) (h41.I (by decide) (by decide) (h31.I (by decide) (by decide) (h13.I (by decide) (by decide) pD)))) (by omega) r30 (-1) (by omega)) (by decide) (kS sM h51 kc_114) rfl rfl rfl (Nat.le_of_ble_eq_true rfl) (by decide) dX11_drift_80 (fun r72 w71 y70 => ?_)
            show V x 0 0 w71 83 [(4, .int r40), (3, .int r30), (0, .ref (gz (xG x) + 114)), (1, .int a1), (2, .int u9)] [.int r72]
            obtain ⟨h73, o74, g75⟩ := y70
            have h76 := Ch.tr h51 h73 (by decide) (by decide)
            refine r_istore [(5, .int r72), (4, .int r40), (3, .int r30), (0, .ref (gz (xG x) + 114)), (1, .int a1), (2, .int u9)] C dX11_drift_83 (by decide) rfl ?_
            refine r_aload_n 3 C dX11_drift_85 rfl ?_
            refine r_dup C dX11_drift_86 rfl ?_
            refine gfX11_262 (v := (wI w12 114 17)) C (kS sM h76 kc_114) (h73.I (by decide) (by decide) (h48.I (by decide) (by decide) (h41.I (by decide) (by decide) (h31.I (by decide) (by decide) rfl)))) dX11_drift_87 ?_
            refine r_iconst (v := 1) C dX11_drift_90 (by decide) ?_
            refine r_iadd C dX11_drift_91 (fun v77 e78 => ?_)
            refine pfX11_262 C (kS sM h76 kc_114) dX11_drift_92 (fun w79 e80 => ?_)
            have h81 := Ch.putF h76 e80 (by decide)
            have k83 := i_rng v77
            have o82 : OkM w79 := ⟨Inv.putk o74.1 e80 (by decide), Rel.putF o74.2 e80 (by decide)⟩
            obtain ⟨i84, e85⟩ : ∃ z : Int32, u9 + Int32.ofInt 1 = z := ⟨_, rfl⟩
            have i84' := iinc_ok e85 (by decide) (by omega) (by omega)
            refine r_iinc [(2, .int i84), (5, .int r72), (4, .int r40), (3, .int r30), (0, .ref (gz (xG x) + 114)), (1, .int a1)] 5 C dX11_drift_95 rfl e85 (by decide) rfl ?_
            refine r_goto 28 C dX11_drift_98 (by decide) ?_
            refine r_lv [4, 5, 0] rfl ?_
            exact ih19 i84 w79 h81 o82 (by omega) (by omega) (by omega) (by omega)
        · have c52' := i_nle c52
          refine r_iconst (v := 0) C dX11_drift_60 (by decide) ?_
          refine r_goto 65 C dX11_drift_61 (by decide) ?_
          refine r_iload 0 C dX11_drift_65 rfl ?_
          refine r_aload_n 2 C dX11_drift_67 rfl ?_
          refine gfX11_124 (v := (wI w 114 8)) C (kS sM h51 kc_114) (h48.I (by decide) (by decide) (h41.I (by decide) (by decide) (h31.I (by decide) (by decide) (h13.I (by decide) (by decide) rfl)))) dX11_drift_68 ?_
          refine r_icmp_ne 78 C dX11_drift_71 (by decide) (fun c86 => ?_) (fun c86 => ?_)
          · have c86' := i_ne c86
            refine r_iload 0 C dX11_drift_78 rfl ?_
            refine callVI C cwX11_327_V (ctX11_minuteBy _ _ w46 (sS sM h51) o49 W (h48.I (by decide) (by decide) (h41.I (by decide) (by decide) (h31.I (by decide) (by decide) (h13.I (by decide) (by decide) pW)))) (by omega) D (h48.I (by decide) (by decide) (h41.I (by decide) (by decide) (h31.I (by decide) (by decide) (h13.I (by decide) (by decide) pD)))) (by omega) 0 r40 (by omega)) (by decide) (kS sM h51 kc_114) rfl rfl rfl (Nat.le_of_ble_eq_true rfl) (by decide) dX11_drift_80 (fun r89 w88 y87 => ?_)
            show V x 0 0 w88 83 [(4, .int r40), (3, .int r30), (0, .ref (gz (xG x) + 114)), (1, .int a1), (2, .int u9)] [.int r89]
            obtain ⟨h90, o91, g92⟩ := y87
            have h93 := Ch.tr h51 h90 (by decide) (by decide)
            refine r_istore [(5, .int r89), (4, .int r40), (3, .int r30), (0, .ref (gz (xG x) + 114)), (1, .int a1), (2, .int u9)] C dX11_drift_83 (by decide) rfl ?_
            refine r_aload_n 3 C dX11_drift_85 rfl ?_
            refine r_dup C dX11_drift_86 rfl ?_
            refine gfX11_262 (v := (wI w12 114 17)) C (kS sM h93 kc_114) (h90.I (by decide) (by decide) (h48.I (by decide) (by decide) (h41.I (by decide) (by decide) (h31.I (by decide) (by decide) rfl)))) dX11_drift_87 ?_
            refine r_iconst (v := 1) C dX11_drift_90 (by decide) ?_
            refine r_iadd C dX11_drift_91 (fun v94 e95 => ?_)
            refine pfX11_262 C (kS sM h93 kc_114) dX11_drift_92 (fun w96 e97 => ?_)
            have h98 := Ch.putF h93 e97 (by decide)
            have k100 := i_rng v94
            have o99 : OkM w96 := ⟨Inv.putk o91.1 e97 (by decide), Rel.putF o91.2 e97 (by decide)⟩
            obtain ⟨i101, e102⟩ : ∃ z : Int32, u9 + Int32.ofInt 1 = z := ⟨_, rfl⟩
            have i101' := iinc_ok e102 (by decide) (by omega) (by omega)
            refine r_iinc [(2, .int i101), (5, .int r89), (4, .int r40), (3, .int r30), (0, .ref (gz (xG x) + 114)), (1, .int a1)] 5 C dX11_drift_95 rfl e102 (by decide) rfl ?_
            refine r_goto 28 C dX11_drift_98 (by decide) ?_
            refine r_lv [4, 5, 0] rfl ?_
            exact ih19 i101 w96 h98 o99 (by omega) (by omega) (by omega) (by omega)
          · have c86' := i_eq c86
            refine r_iconst (v := (-1)) C dX11_drift_74 (by decide) ?_
            refine r_goto 80 C dX11_drift_75 (by decide) ?_
            refine callVI C cwX11_327_V (ctX11_minuteBy _ _ w46 (sS sM h51) o49 W (h48.I (by decide) (by decide) (h41.I (by decide) (by decide) (h31.I (by decide) (by decide) (h13.I (by decide) (by decide) pW)))) (by omega) D (h48.I (by decide) (by decide) (h41.I (by decide) (by decide) (h31.I (by decide) (by decide) (h13.I (by decide) (by decide) pD)))) (by omega) 0 (-1) (by omega)) (by decide) (kS sM h51 kc_114) rfl rfl rfl (Nat.le_of_ble_eq_true rfl) (by decide) dX11_drift_80 (fun r105 w104 y103 => ?_)
            show V x 0 0 w104 83 [(4, .int r40), (3, .int r30), (0, .ref (gz (xG x) + 114)), (1, .int a1), (2, .int u9)] [.int r105]
            obtain ⟨h106, o107, g108⟩ := y103
            have h109 := Ch.tr h51 h106 (by decide) (by decide)
            refine r_istore [(5, .int r105), (4, .int r40), (3, .int r30), (0, .ref (gz (xG x) + 114)), (1, .int a1), (2, .int u9)] C dX11_drift_83 (by decide) rfl ?_
            refine r_aload_n 3 C dX11_drift_85 rfl ?_
            refine r_dup C dX11_drift_86 rfl ?_
            refine gfX11_262 (v := (wI w12 114 17)) C (kS sM h109 kc_114) (h106.I (by decide) (by decide) (h48.I (by decide) (by decide) (h41.I (by decide) (by decide) (h31.I (by decide) (by decide) rfl)))) dX11_drift_87 ?_
            refine r_iconst (v := 1) C dX11_drift_90 (by decide) ?_
            refine r_iadd C dX11_drift_91 (fun v110 e111 => ?_)
            refine pfX11_262 C (kS sM h109 kc_114) dX11_drift_92 (fun w112 e113 => ?_)
            have h114 := Ch.putF h109 e113 (by decide)
            have k116 := i_rng v110
            have o115 : OkM w112 := ⟨Inv.putk o107.1 e113 (by decide), Rel.putF o107.2 e113 (by decide)⟩
            obtain ⟨i117, e118⟩ : ∃ z : Int32, u9 + Int32.ofInt 1 = z := ⟨_, rfl⟩
            have i117' := iinc_ok e118 (by decide) (by omega) (by omega)
            refine r_iinc [(2, .int i117), (5, .int r105), (4, .int r40), (3, .int r30), (0, .ref (gz (xG x) + 114)), (1, .int a1)] 5 C dX11_drift_95 rfl e118 (by decide) rfl ?_
            refine r_goto 28 C dX11_drift_98 (by decide) ?_
            refine r_lv [4, 5, 0] rfl ?_
            exact ih19 i117 w112 h114 o115 (by omega) (by omega) (by omega) (by omega)
  refine r_iload_n 1 C dX11_drift_0 rfl ?_
  refine r_i2l C dX11_drift_1 (fun v1 e2 => ?_)
  have v1' := i2l_ok e2
  refine r_lconst (v := 1) C dX11_drift_2 (by decide) ?_
  refine r_ldc2 C mw6_202 dX11_drift_3 ?_
  refine callSI C cwX11_114_S (ctX11_in _ _ w v1 1 99 ) (by decide) rfl rfl (Nat.le_of_ble_eq_true rfl) (by decide) dX11_drift_6 (fun r5 w4 y3 => ?_)
  obtain ⟨y3, g6⟩ := y3
  obtain rfl := y3.symm
  show V x 0 0 w 9 [(0, .ref (gz (xG x) + 114)), (1, .int a1)] [.int r5]
  refine r_if_ne 15 C dX11_drift_9 (by decide) (fun c7 => ?_) (fun c7 => ?_)
  · have c7' := i_ne c7
    refine r_aload_n 0 C dX11_drift_15 rfl ?_
    refine gfX11_111 (v := W) C (kS sM h0 kc_114) pW dX11_drift_16 ?_
    refine r_if_ne 26 C dX11_drift_19 (by decide) (fun c8 => ?_) (fun c8 => ?_)
    · have c8' := i_ne c8
      refine r_iconst (v := 0) C dX11_drift_26 (by decide) ?_
      refine r_istore_n [(2, .int 0), (0, .ref (gz (xG x) + 114)), (1, .int a1)] C dX11_drift_27 (by decide) rfl ?_
      refine r_lv [1, 2, 0] rfl ?_
      exact LP10 4294967296 0 w h0 o0 (by omega) (by omega) (by omega) (by omega)
    · have c8' := i_eq c8
      refine r_ldcw C mw6_189 dX11_drift_22 ?_
      exact hret _ _ _ _ dX11_drift_25 rfl ⟨h0, o0⟩
  · have c7' := i_eq c7
    refine r_ldc C mw5_239 dX11_drift_12 ?_
    exact hret _ _ _ _ dX11_drift_14 rfl ⟨h0, o0⟩
set_option maxHeartbeats 4000000 in
set_option maxRecDepth 100000 in
theorem ctX11_plan (l : Launch) (G : Gt) (w : Wv) (sM : Str KM XM w) (o0 : OkM w) (a1 : Int32) (a2 : Int32) : CtI l G yX11_plan cX11_plan 3 .int ({ frames := 2, cells := 0, slots := 0, locals := 46 } : Room) [.ref (gz G + 114), .int a1, .int a2] w (fun r w' => Ch [138, 139] [(114, 49)] w w' ∧ OkM w') := by
  refine enterI (by decide) (Nat.le_of_ble_eq_true rfl) ?_
  intro x el eG C hret
  subst el; subst eG
  show V x 0 0 w 0 [(0, .ref (gz (xG x) + 114)), (1, .int a1), (2, .int a2)] []
  have h0 : Ch [138, 139] [(114, 49)] w w := Ch.rf
  have qm1000000004 : ((-1000000004) : Int32).toInt = (-1000000004) := by decide
  have qm1000000002 : ((-1000000002) : Int32).toInt = (-1000000002) := by decide
  have qm1000000001 : ((-1000000001) : Int32).toInt = (-1000000001) := by decide
  have qm1 : ((-1) : Int32).toInt = (-1) := by decide
  have q0 : (0 : Int32).toInt = 0 := by decide
  have q1 : (1 : Int32).toInt = 1 := by decide
  have q30 : (30 : Int32).toInt = 30 := by decide
  have ql0 : (0 : Int64).toInt = 0 := by decide
  have ql4 : (4 : Int64).toInt = 4 := by decide
  obtain ⟨rA, rB, rC, rD⟩ := (o0.2 : Rel w)
  refine r_iload_n 2 C dX11_plan_0 rfl ?_
  refine r_iconst (v := (-1)) C dX11_plan_1 (by decide) ?_
  refine r_icmp_eq 17 C dX11_plan_2 (by decide) (fun c1 => ?_) (fun c1 => ?_)
  · have c1' := i_eq c1
    refine r_iload_n 1 C dX11_plan_17 rfl ?_
    refine r_i2l C dX11_plan_18 (fun v2 e3 => ?_)
    have v2' := i2l_ok e3
    refine r_lconst (v := 0) C dX11_plan_19 (by decide) ?_
    refine r_ldc2 C mw6_172 dX11_plan_20 ?_
    refine callSI C cwX11_114_S (ctX11_in _ _ w v2 0 4 ) (by decide) rfl rfl (Nat.le_of_ble_eq_true rfl) (by decide) dX11_plan_23 (fun r6 w5 y4 => ?_)
    obtain ⟨y4, g7⟩ := y4
    obtain rfl := y4.symm
    show V x 0 0 w 26 [(0, .ref (gz (xG x) + 114)), (1, .int a1), (2, .int a2)] [.int r6]
    refine r_if_ne 32 C dX11_plan_26 (by decide) (fun c8 => ?_) (fun c8 => ?_)
    · have c8' := i_ne c8
      refine r_aload_n 0 C dX11_plan_32 rfl ?_
      refine gfX11_265 (v := (wI w 114 49)) C (kS sM h0 kc_114) rfl dX11_plan_33 ?_
      have b9 := Inv.get o0.1 rt_114_49 (j := 49) (by decide) (by decide)
      refine r_bipush (v := 30) C dX11_plan_36 (by decide) ?_
      refine r_icmp_ne 44 C dX11_plan_38 (by decide) (fun c10 => ?_) (fun c10 => ?_)
      · have c10' := i_ne c10
        refine r_aload_n 0 C dX11_plan_44 rfl ?_
        refine gfX11_89 138 C (kS sM h0 kc_114) (xS sM h0 xc_114_50) dX11_plan_45 ?_
        refine r_aload_n 0 C dX11_plan_48 rfl ?_
        refine gfX11_265 (v := (wI w 114 49)) C (kS sM h0 kc_114) rfl dX11_plan_49 ?_
        refine r_iload_n 1 C dX11_plan_52 rfl ?_
        refine r_iast C (kS sM h0 kc_138) (vin (by omega) (by omega)) dX11_plan_53 (fun w11 e12 => ?_)
        have h13 := Ch.putS h0 e12 (by decide)
        have o14 : OkM w11 := ⟨Inv.put0 o0.1 e12 (by decide), Rel.putS o0.2 e12 (by decide)⟩
        refine r_aload_n 0 C dX11_plan_54 rfl ?_
        refine gfX11_92 139 C (kS sM h13 kc_114) (xS sM h13 xc_114_51) dX11_plan_55 ?_
        refine r_aload_n 0 C dX11_plan_58 rfl ?_
        refine gfX11_265 (v := (wI w 114 49)) C (kS sM h13 kc_114) (g_nn e12 (by decide) rfl) dX11_plan_59 ?_
        refine r_iload_n 2 C dX11_plan_62 rfl ?_
        refine r_iast C (kS sM h13 kc_139) (vin (by omega) (by omega)) dX11_plan_63 (fun w15 e16 => ?_)
        have h17 := Ch.putS h13 e16 (by decide)
        have o18 : OkM w15 := ⟨Inv.putR o14.1 e16 0 29 (by omega) (by omega) (-1) 2 (by omega) (by decide), Rel.putS o14.2 e16 (by decide)⟩
        refine r_aload_n 0 C dX11_plan_64 rfl ?_
        refine r_dup C dX11_plan_65 rfl ?_
        refine gfX11_265 (v := (wI w 114 49)) C (kS sM h17 kc_114) (g_nn e16 (by decide) (g_nn e12 (by decide) rfl)) dX11_plan_66 ?_
        refine r_iconst (v := 1) C dX11_plan_69 (by decide) ?_
        refine r_iadd C dX11_plan_70 (fun v19 e20 => ?_)
        have v19' := iadd_ok e20 (by omega) (by omega)
        refine pfX11_265 C (kS sM h17 kc_114) dX11_plan_71 (fun w21 e22 => ?_)
        have h23 := Ch.putF h17 e22 (by decide)
        have o24 : OkM w21 := ⟨Inv.put o18.1 e22 0 30 (by omega) (by decide), Rel.putF o18.2 e22 (by decide)⟩
        refine r_aload_n 0 C dX11_plan_74 rfl ?_
        refine gfX11_265 (v := v19) C (kS sM h23 kc_114) (g_eq e22) dX11_plan_75 ?_
        exact hret _ _ _ _ dX11_plan_78 rfl ⟨h23, o24⟩
      · have c10' := i_eq c10
        refine r_ldc C mw6_0 dX11_plan_41 ?_
        exact hret _ _ _ _ dX11_plan_43 rfl ⟨h0, o0⟩
    · have c8' := i_eq c8
      refine r_ldc C mw5_239 dX11_plan_29 ?_
      exact hret _ _ _ _ dX11_plan_31 rfl ⟨h0, o0⟩
  · have c1' := i_ne c1
    refine r_aload_n 0 C dX11_plan_5 rfl ?_
    refine r_iload_n 2 C dX11_plan_6 rfl ?_
    have b25 := Inv.get o0.1 rt_114_8 (j := 8) (by decide) (by decide)
    refine callVI C cwX11_310_V (ctX11_isTune _ _ w (sS sM h0) o0 (wI w 114 8) rfl (by omega) a2 ) (by decide) (kS sM h0 kc_114) rfl rfl rfl (Nat.le_of_ble_eq_true rfl) (by decide) dX11_plan_7 (fun r28 w27 y26 => ?_)
    show V x 0 0 w27 10 [(0, .ref (gz (xG x) + 114)), (1, .int a1), (2, .int a2)] [.int r28]
    obtain ⟨h29, o30, g31⟩ := y26
    have h32 := Ch.tr h0 h29 (by decide) (by decide)
    refine r_if_ne 17 C dX11_plan_10 (by decide) (fun c33 => ?_) (fun c33 => ?_)
    · have c33' := i_ne c33
      refine r_iload_n 1 C dX11_plan_17 rfl ?_
      refine r_i2l C dX11_plan_18 (fun v34 e35 => ?_)
      have v34' := i2l_ok e35
      refine r_lconst (v := 0) C dX11_plan_19 (by decide) ?_
      refine r_ldc2 C mw6_172 dX11_plan_20 ?_
      refine callSI C cwX11_114_S (ctX11_in _ _ w27 v34 0 4 ) (by decide) rfl rfl (Nat.le_of_ble_eq_true rfl) (by decide) dX11_plan_23 (fun r38 w37 y36 => ?_)
      obtain ⟨y36, g39⟩ := y36
      obtain rfl := y36.symm
      show V x 0 0 w27 26 [(0, .ref (gz (xG x) + 114)), (1, .int a1), (2, .int a2)] [.int r38]
      refine r_if_ne 32 C dX11_plan_26 (by decide) (fun c40 => ?_) (fun c40 => ?_)
      · have c40' := i_ne c40
        refine r_aload_n 0 C dX11_plan_32 rfl ?_
        refine gfX11_265 (v := (wI w 114 49)) C (kS sM h32 kc_114) (h29.I (by decide) (by decide) rfl) dX11_plan_33 ?_
        have b41 := Inv.get o0.1 rt_114_49 (j := 49) (by decide) (by decide)
        refine r_bipush (v := 30) C dX11_plan_36 (by decide) ?_
        refine r_icmp_ne 44 C dX11_plan_38 (by decide) (fun c42 => ?_) (fun c42 => ?_)
        · have c42' := i_ne c42
          refine r_aload_n 0 C dX11_plan_44 rfl ?_
          refine gfX11_89 138 C (kS sM h32 kc_114) (xS sM h32 xc_114_50) dX11_plan_45 ?_
          refine r_aload_n 0 C dX11_plan_48 rfl ?_
          refine gfX11_265 (v := (wI w 114 49)) C (kS sM h32 kc_114) (h29.I (by decide) (by decide) rfl) dX11_plan_49 ?_
          refine r_iload_n 1 C dX11_plan_52 rfl ?_
          refine r_iast C (kS sM h32 kc_138) (vin (by omega) (by omega)) dX11_plan_53 (fun w43 e44 => ?_)
          have h45 := Ch.putS h32 e44 (by decide)
          have o46 : OkM w43 := ⟨Inv.put0 o30.1 e44 (by decide), Rel.putS o30.2 e44 (by decide)⟩
          refine r_aload_n 0 C dX11_plan_54 rfl ?_
          refine gfX11_92 139 C (kS sM h45 kc_114) (xS sM h45 xc_114_51) dX11_plan_55 ?_
          refine r_aload_n 0 C dX11_plan_58 rfl ?_
          refine gfX11_265 (v := (wI w 114 49)) C (kS sM h45 kc_114) (g_nn e44 (by decide) (h29.I (by decide) (by decide) rfl)) dX11_plan_59 ?_
          refine r_iload_n 2 C dX11_plan_62 rfl ?_
          refine r_iast C (kS sM h45 kc_139) (vin (by omega) (by omega)) dX11_plan_63 (fun w47 e48 => ?_)
          have h49 := Ch.putS h45 e48 (by decide)
          have o50 : OkM w47 := ⟨Inv.putR o46.1 e48 0 29 (by omega) (by omega) (-1) 2 (by omega) (by decide), Rel.putS o46.2 e48 (by decide)⟩
          refine r_aload_n 0 C dX11_plan_64 rfl ?_
          refine r_dup C dX11_plan_65 rfl ?_
          refine gfX11_265 (v := (wI w 114 49)) C (kS sM h49 kc_114) (g_nn e48 (by decide) (g_nn e44 (by decide) (h29.I (by decide) (by decide) rfl))) dX11_plan_66 ?_
          refine r_iconst (v := 1) C dX11_plan_69 (by decide) ?_
          refine r_iadd C dX11_plan_70 (fun v51 e52 => ?_)
          have v51' := iadd_ok e52 (by omega) (by omega)
          refine pfX11_265 C (kS sM h49 kc_114) dX11_plan_71 (fun w53 e54 => ?_)
          have h55 := Ch.putF h49 e54 (by decide)
          have o56 : OkM w53 := ⟨Inv.put o50.1 e54 0 30 (by omega) (by decide), Rel.putF o50.2 e54 (by decide)⟩
          refine r_aload_n 0 C dX11_plan_74 rfl ?_
          refine gfX11_265 (v := v51) C (kS sM h55 kc_114) (g_eq e54) dX11_plan_75 ?_
          exact hret _ _ _ _ dX11_plan_78 rfl ⟨h55, o56⟩
        · have c42' := i_eq c42
          refine r_ldc C mw6_0 dX11_plan_41 ?_
          exact hret _ _ _ _ dX11_plan_43 rfl ⟨h32, o30⟩
      · have c40' := i_eq c40
        refine r_ldc C mw5_239 dX11_plan_29 ?_
        exact hret _ _ _ _ dX11_plan_31 rfl ⟨h32, o30⟩
    · have c33' := i_eq c33
      refine r_ldcw C mw6_112 dX11_plan_13 ?_
      exact hret _ _ _ _ dX11_plan_16 rfl ⟨h32, o30⟩
set_option maxHeartbeats 4000000 in
set_option maxRecDepth 100000 in
theorem ctX11_drop (l : Launch) (G : Gt) (w : Wv) (sM : Str KM XM w) (o0 : OkM w)  : CtI l G yX11_drop cX11_drop 2 .int ({ frames := 0, cells := 0, slots := 0, locals := 0 } : Room) [.ref (gz G + 114)] w (fun r w' => Ch [] [(114, 49)] w w' ∧ OkM w') := by
  refine enterI (by decide) (Nat.le_of_ble_eq_true rfl) ?_
  intro x el eG C hret
  subst el; subst eG
  show V x 0 0 w 0 [(0, .ref (gz (xG x) + 114))] []
  have h0 : Ch [] [(114, 49)] w w := Ch.rf
  have q0 : (0 : Int32).toInt = 0 := by decide
  obtain ⟨rA, rB, rC, rD⟩ := (o0.2 : Rel w)
  refine r_aload_n 0 C dX11_drop_0 rfl ?_
  refine gfX11_265 (v := (wI w 114 49)) C (kS sM h0 kc_114) rfl dX11_drop_1 ?_
  have b1 := Inv.get o0.1 rt_114_49 (j := 49) (by decide) (by decide)
  refine r_istore_n [(1, .int (wI w 114 49)), (0, .ref (gz (xG x) + 114))] C dX11_drop_4 (by decide) rfl ?_
  refine r_aload_n 1 C dX11_drop_5 rfl ?_
  refine r_iconst (v := 0) C dX11_drop_6 (by decide) ?_
  refine pfX11_265 C (kS sM h0 kc_114) dX11_drop_7 (fun w2 e3 => ?_)
  have h4 := Ch.putF h0 e3 (by decide)
  have o5 : OkM w2 := ⟨Inv.put o0.1 e3 0 30 (by omega) (by decide), Rel.putF o0.2 e3 (by decide)⟩
  refine r_iload_n 0 C dX11_drop_10 rfl ?_
  exact hret _ _ _ _ dX11_drop_11 rfl ⟨h4, o5⟩
set_option maxHeartbeats 4000000 in
set_option maxRecDepth 100000 in
theorem ctX11_judge (l : Launch) (G : Gt) (w : Wv) (sM : Str KM XM w) (o0 : OkM w)  : CtI l G yX11_judge cX11_judge 2 .int ({ frames := 7, cells := 0, slots := 0, locals := 162 } : Room) [.ref (gz G + 114)] w (fun r w' => Ch [122, 123, 124, 135, 136, 137] [(114, 13), (114, 45)] w w' ∧ OkM w') := by
  refine enterI (by decide) (Nat.le_of_ble_eq_true rfl) ?_
  intro x el eG C hret
  subst el; subst eG
  show V x 0 0 w 0 [(0, .ref (gz (xG x) + 114))] []
  have h0 : Ch [122, 123, 124, 135, 136, 137] [(114, 13), (114, 45)] w w := Ch.rf
  have qm1 : ((-1) : Int32).toInt = (-1) := by decide
  have q30 : (30 : Int32).toInt = 30 := by decide
  obtain ⟨rA, rB, rC, rD⟩ := (o0.2 : Rel w)
  refine r_aload_n 0 C dX11_judge_0 rfl ?_
  refine callVV C cwX11_355_V (ctX11_save _ _ w (sS sM h0) o0  ) (by decide) (kS sM h0 kc_114) rfl rfl rfl (Nat.le_of_ble_eq_true rfl) (by decide) dX11_judge_1 (fun w2 y1 => ?_)
  show V x 0 0 w2 4 [(0, .ref (gz (xG x) + 114))] []
  obtain ⟨h4, o5⟩ := y1
  have h6 := Ch.tr h0 h4 (by decide) (by decide)
  refine r_aload_n 0 C dX11_judge_4 rfl ?_
  refine r_bipush (v := 30) C dX11_judge_5 (by decide) ?_
  have b7 := Inv.get o0.1 rt_114_0 (j := 0) (by decide) (by decide)
  have b8 := Inv.get o0.1 rt_114_1 (j := 1) (by decide) (by decide)
  refine callVI C cwX11_358_V (ctX11_follow _ _ w2 (sS sM h6) o5 (wI w 114 0) (h4.I (by decide) (by decide) rfl) (by omega) (wI w 114 1) (h4.I (by decide) (by decide) rfl) (by omega) 30 ) (by decide) (kS sM h6 kc_114) rfl rfl rfl (Nat.le_of_ble_eq_true rfl) (by decide) dX11_judge_7 (fun r11 w10 y9 => ?_)
  show V x 0 0 w10 10 [(0, .ref (gz (xG x) + 114))] [.int r11]
  obtain ⟨h12, o13⟩ := y9
  have h14 := Ch.tr h6 h12 (by decide) (by decide)
  refine r_istore_n [(1, .int r11), (0, .ref (gz (xG x) + 114))] C dX11_judge_10 (by decide) rfl ?_
  refine r_aload_n 1 C dX11_judge_11 rfl ?_
  refine callVV C cwX11_361_V (ctX11_putBack _ _ w10 (sS sM h14) o13  ) (by decide) (kS sM h14 kc_114) rfl rfl rfl (Nat.le_of_ble_eq_true rfl) (by decide) dX11_judge_12 (fun w16 y15 => ?_)
  show V x 0 0 w16 15 [(1, .int r11), (0, .ref (gz (xG x) + 114))] []
  obtain ⟨h18, o19⟩ := y15
  have h20 := Ch.tr h14 h18 (by decide) (by decide)
  refine r_iload_n 0 C dX11_judge_15 rfl ?_
  refine r_aload_n 1 C dX11_judge_16 rfl ?_
  refine gfX11_265 (v := (wI w 114 49)) C (kS sM h20 kc_114) (h18.I (by decide) (by decide) (h12.I (by decide) (by decide) (h4.I (by decide) (by decide) rfl))) dX11_judge_17 ?_
  have b21 := Inv.get o0.1 rt_114_49 (j := 49) (by decide) (by decide)
  refine r_icmp_ne 27 C dX11_judge_20 (by decide) (fun c22 => ?_) (fun c22 => ?_)
  · have c22' := i_ne c22
    refine r_iload_n 0 C dX11_judge_27 rfl ?_
    exact hret _ _ _ _ dX11_judge_28 rfl ⟨h20, o19⟩
  · have c22' := i_eq c22
    refine r_iconst (v := (-1)) C dX11_judge_23 (by decide) ?_
    refine r_goto 28 C dX11_judge_24 (by decide) ?_
    exact hret _ _ _ _ dX11_judge_28 rfl ⟨h20, o19⟩
set_option maxHeartbeats 4000000 in
set_option maxRecDepth 100000 in
theorem ctX11_tried (l : Launch) (G : Gt) (w : Wv) (sM : Str KM XM w) (o0 : OkM w) (a1 : Int32) (a2 : Int32) : CtI l G yX11_tried cX11_tried 5 .int ({ frames := 7, cells := 0, slots := 0, locals := 162 } : Room) [.ref (gz G + 114), .int a1, .int a2] w (fun r w' => Ch [122, 123, 124, 135, 136, 137] [(114, 13), (114, 45)] w w' ∧ OkM w') := by
  refine enterI (by decide) (Nat.le_of_ble_eq_true rfl) ?_
  intro x el eG C hret
  subst el; subst eG
  show V x 0 0 w 0 [(0, .ref (gz (xG x) + 114)), (1, .int a1), (2, .int a2)] []
  have h0 : Ch [122, 123, 124, 135, 136, 137] [(114, 13), (114, 45)] w w := Ch.rf
  have qm1000000002 : ((-1000000002) : Int32).toInt = (-1000000002) := by decide
  have qm1000000001 : ((-1000000001) : Int32).toInt = (-1000000001) := by decide
  have qm1 : ((-1) : Int32).toInt = (-1) := by decide
  have q0 : (0 : Int32).toInt = 0 := by decide
  have q1 : (1 : Int32).toInt = 1 := by decide
  have q30 : (30 : Int32).toInt = 30 := by decide
  have qlm1 : ((-1) : Int64).toInt = (-1) := by decide
  have ql0 : (0 : Int64).toInt = 0 := by decide
  have ql1 : (1 : Int64).toInt = 1 := by decide
  have ql2 : (2 : Int64).toInt = 2 := by decide
  obtain ⟨rA, rB, rC, rD⟩ := (o0.2 : Rel w)
  refine r_iload_n 1 C dX11_tried_0 rfl ?_
  refine r_i2l C dX11_tried_1 (fun v1 e2 => ?_)
  have v1' := i2l_ok e2
  refine r_ldc2 C mw7_0 dX11_tried_2 ?_
  refine r_ldc2 C mw7_1 dX11_tried_5 ?_
  refine callSI C cwX11_114_S (ctX11_in _ _ w v1 (-1) 2 ) (by decide) rfl rfl (Nat.le_of_ble_eq_true rfl) (by decide) dX11_tried_8 (fun r5 w4 y3 => ?_)
  obtain ⟨y3, g6⟩ := y3
  obtain rfl := y3.symm
  show V x 0 0 w 11 [(0, .ref (gz (xG x) + 114)), (1, .int a1), (2, .int a2)] [.int r5]
  refine r_if_ne 18 C dX11_tried_11 (by decide) (fun c7 => ?_) (fun c7 => ?_)
  · have c7' := i_ne c7
    refine r_iload_n 1 C dX11_tried_18 rfl ?_
    refine r_iconst (v := (-1)) C dX11_tried_19 (by decide) ?_
    refine r_icmp_eq 36 C dX11_tried_20 (by decide) (fun c8 => ?_) (fun c8 => ?_)
    · have c8' := i_eq c8
      refine r_aload_n 0 C dX11_tried_36 rfl ?_
      refine callVV C cwX11_355_V (ctX11_save _ _ w (sS sM h0) o0  ) (by decide) (kS sM h0 kc_114) rfl rfl rfl (Nat.le_of_ble_eq_true rfl) (by decide) dX11_tried_37 (fun w10 y9 => ?_)
      show V x 0 0 w10 40 [(0, .ref (gz (xG x) + 114)), (1, .int a1), (2, .int a2)] []
      obtain ⟨h12, o13⟩ := y9
      have h14 := Ch.tr h0 h12 (by decide) (by decide)
      refine r_aload_n 0 C dX11_tried_40 rfl ?_
      refine r_bipush (v := 30) C dX11_tried_41 (by decide) ?_
      have b15 := Inv.get o0.1 rt_114_0 (j := 0) (by decide) (by decide)
      have b16 := Inv.get o0.1 rt_114_1 (j := 1) (by decide) (by decide)
      refine callVI C cwX11_358_V (ctX11_follow _ _ w10 (sS sM h14) o13 (wI w 114 0) (h12.I (by decide) (by decide) rfl) (by omega) (wI w 114 1) (h12.I (by decide) (by decide) rfl) (by omega) 30 ) (by decide) (kS sM h14 kc_114) rfl rfl rfl (Nat.le_of_ble_eq_true rfl) (by decide) dX11_tried_43 (fun r19 w18 y17 => ?_)
      show V x 0 0 w18 46 [(0, .ref (gz (xG x) + 114)), (1, .int a1), (2, .int a2)] [.int r19]
      obtain ⟨h20, o21⟩ := y17
      have h22 := Ch.tr h14 h20 (by decide) (by decide)
      refine r_istore_n [(3, .int r19), (0, .ref (gz (xG x) + 114)), (1, .int a1), (2, .int a2)] C dX11_tried_46 (by decide) rfl ?_
      refine r_iload_n 2 C dX11_tried_47 rfl ?_
      refine r_iconst (v := (-1)) C dX11_tried_48 (by decide) ?_
      refine r_icmp_ne 59 C dX11_tried_49 (by decide) (fun c23 => ?_) (fun c23 => ?_)
      · have c23' := i_ne c23
        exfalso; omega
      · have c23' := i_eq c23
        refine r_aload_n 1 C dX11_tried_52 rfl ?_
        refine callVI C cwX11_298_V (ctX11_worth _ _ w18 (sS sM h22) o21  ) (by decide) (kS sM h22 kc_114) rfl rfl rfl (Nat.le_of_ble_eq_true rfl) (by decide) dX11_tried_53 (fun r26 w25 y24 => ?_)
        show V x 0 0 w25 56 [(3, .int r19), (0, .ref (gz (xG x) + 114)), (1, .int a1), (2, .int a2)] [.int r26]
        obtain ⟨h27, o28⟩ := y24
        have h29 := Ch.tr h22 h27 (by decide) (by decide)
        refine r_goto 67 C dX11_tried_56 (by decide) ?_
        refine r_istore [(4, .int r26), (3, .int r19), (0, .ref (gz (xG x) + 114)), (1, .int a1), (2, .int a2)] C dX11_tried_67 (by decide) rfl ?_
        refine r_aload_n 2 C dX11_tried_69 rfl ?_
        refine callVV C cwX11_361_V (ctX11_putBack _ _ w25 (sS sM h29) o28  ) (by decide) (kS sM h29 kc_114) rfl rfl rfl (Nat.le_of_ble_eq_true rfl) (by decide) dX11_tried_70 (fun w31 y30 => ?_)
        show V x 0 0 w31 73 [(4, .int r26), (3, .int r19), (0, .ref (gz (xG x) + 114)), (1, .int a1), (2, .int a2)] []
        obtain ⟨h33, o34⟩ := y30
        have h35 := Ch.tr h29 h33 (by decide) (by decide)
        refine r_iload 0 C dX11_tried_73 rfl ?_
        exact hret _ _ _ _ dX11_tried_75 rfl ⟨h35, o34⟩
    · have c8' := i_ne c8
      refine r_iload_n 2 C dX11_tried_23 rfl ?_
      refine r_i2l C dX11_tried_24 (fun v36 e37 => ?_)
      have v36' := i2l_ok e37
      refine r_lconst (v := 0) C dX11_tried_25 (by decide) ?_
      refine r_lconst (v := 1) C dX11_tried_26 (by decide) ?_
      refine callSI C cwX11_114_S (ctX11_in _ _ w v36 0 1 ) (by decide) rfl rfl (Nat.le_of_ble_eq_true rfl) (by decide) dX11_tried_27 (fun r40 w39 y38 => ?_)
      obtain ⟨y38, g41⟩ := y38
      obtain rfl := y38.symm
      show V x 0 0 w 30 [(0, .ref (gz (xG x) + 114)), (1, .int a1), (2, .int a2)] [.int r40]
      refine r_if_ne 36 C dX11_tried_30 (by decide) (fun c42 => ?_) (fun c42 => ?_)
      · have c42' := i_ne c42
        refine r_aload_n 0 C dX11_tried_36 rfl ?_
        refine callVV C cwX11_355_V (ctX11_save _ _ w (sS sM h0) o0  ) (by decide) (kS sM h0 kc_114) rfl rfl rfl (Nat.le_of_ble_eq_true rfl) (by decide) dX11_tried_37 (fun w44 y43 => ?_)
        show V x 0 0 w44 40 [(0, .ref (gz (xG x) + 114)), (1, .int a1), (2, .int a2)] []
        obtain ⟨h46, o47⟩ := y43
        have h48 := Ch.tr h0 h46 (by decide) (by decide)
        refine r_aload_n 0 C dX11_tried_40 rfl ?_
        refine r_bipush (v := 30) C dX11_tried_41 (by decide) ?_
        have b49 := Inv.get o0.1 rt_114_0 (j := 0) (by decide) (by decide)
        have b50 := Inv.get o0.1 rt_114_1 (j := 1) (by decide) (by decide)
        refine callVI C cwX11_358_V (ctX11_follow _ _ w44 (sS sM h48) o47 (wI w 114 0) (h46.I (by decide) (by decide) rfl) (by omega) (wI w 114 1) (h46.I (by decide) (by decide) rfl) (by omega) 30 ) (by decide) (kS sM h48 kc_114) rfl rfl rfl (Nat.le_of_ble_eq_true rfl) (by decide) dX11_tried_43 (fun r53 w52 y51 => ?_)
        show V x 0 0 w52 46 [(0, .ref (gz (xG x) + 114)), (1, .int a1), (2, .int a2)] [.int r53]
        obtain ⟨h54, o55⟩ := y51
        have h56 := Ch.tr h48 h54 (by decide) (by decide)
        refine r_istore_n [(3, .int r53), (0, .ref (gz (xG x) + 114)), (1, .int a1), (2, .int a2)] C dX11_tried_46 (by decide) rfl ?_
        refine r_iload_n 2 C dX11_tried_47 rfl ?_
        refine r_iconst (v := (-1)) C dX11_tried_48 (by decide) ?_
        refine r_icmp_ne 59 C dX11_tried_49 (by decide) (fun c57 => ?_) (fun c57 => ?_)
        · have c57' := i_ne c57
          refine r_aload_n 1 C dX11_tried_59 rfl ?_
          refine r_iload_n 2 C dX11_tried_60 rfl ?_
          refine r_iload_n 3 C dX11_tried_61 rfl ?_
          refine r_iconst (v := 1) C dX11_tried_62 (by decide) ?_
          refine r_iadd C dX11_tried_63 (fun v58 e59 => ?_)
          have v58' := iadd_ok e59 (by omega) (by omega)
          refine callVI C cwX11_289_V (ctX11_headsBy _ _ w52 (sS sM h56) o55 a1 v58 ) (by decide) (kS sM h56 kc_114) rfl rfl rfl (Nat.le_of_ble_eq_true rfl) (by decide) dX11_tried_64 (fun r62 w61 y60 => ?_)
          show V x 0 0 w61 67 [(3, .int r53), (0, .ref (gz (xG x) + 114)), (1, .int a1), (2, .int a2)] [.int r62]
          obtain ⟨h63, o64⟩ := y60
          have h65 := Ch.tr h56 h63 (by decide) (by decide)
          refine r_istore [(4, .int r62), (3, .int r53), (0, .ref (gz (xG x) + 114)), (1, .int a1), (2, .int a2)] C dX11_tried_67 (by decide) rfl ?_
          refine r_aload_n 2 C dX11_tried_69 rfl ?_
          refine callVV C cwX11_361_V (ctX11_putBack _ _ w61 (sS sM h65) o64  ) (by decide) (kS sM h65 kc_114) rfl rfl rfl (Nat.le_of_ble_eq_true rfl) (by decide) dX11_tried_70 (fun w67 y66 => ?_)
          show V x 0 0 w67 73 [(4, .int r62), (3, .int r53), (0, .ref (gz (xG x) + 114)), (1, .int a1), (2, .int a2)] []
          obtain ⟨h69, o70⟩ := y66
          have h71 := Ch.tr h65 h69 (by decide) (by decide)
          refine r_iload 0 C dX11_tried_73 rfl ?_
          exact hret _ _ _ _ dX11_tried_75 rfl ⟨h71, o70⟩
        · have c57' := i_eq c57
          exfalso; omega
      · have c42' := i_eq c42
        refine r_ldc C mw5_239 dX11_tried_33 ?_
        exact hret _ _ _ _ dX11_tried_35 rfl ⟨h0, o0⟩
  · have c7' := i_eq c7
    refine r_ldcw C mw6_112 dX11_tried_14 ?_
    exact hret _ _ _ _ dX11_tried_17 rfl ⟨h0, o0⟩
