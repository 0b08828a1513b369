set_option maxHeartbeats 4000000 in
set_option maxRecDepth 100000 in
theorem ctX11_findFar (l : Launch) (G : Gt) (w : Wv) (sM : Str KM XM w) (o0 : OkM w) (W : Int32) (pW : wI w 114 0 = W) (bW : 0 ≤ W.toInt ∧ W.toInt ≤ 9) (D : Int32) (pD : wI w 114 1 = D) (bD : 0 ≤ D.toInt ∧ D.toInt ≤ 9)  : CtV l G yX11_findFar cX11_findFar 2 ({ frames := 4, cells := 0, slots := 0, locals := 96 } : Room) [.ref (gz G + 114)] w (fun w' => Ch [134] [] w w' ∧ OkM w') := by
  refine enterV (by decide) (Nat.le_of_ble_eq_true rfl) ?_
  intro x el eG C hnm hret
  subst el; subst eG
  show V x 0 0 w 0 [(0, .ref (gz (xG x) + 114))] []
  have h0 : Ch [134] [] w w := Ch.rf
  have q0 : (0 : Int32).toInt = 0 := by decide
  obtain ⟨rA, rB, rC, rD⟩ := (o0.2 : Rel w)
  (try simp only [pW] at rA); (try simp only [pW] at rB); (try simp only [pW] at rC); (try simp only [pW] at rD)
  (try simp only [pD] at rA); (try simp only [pD] at rB); (try simp only [pD] at rC); (try simp only [pD] at rD)
  have LP2 : ∀ (f3 : Nat) (u1 : Int32) (w4 : Wv), Ch [134] [] w w4 → OkM w4 → (0 ≤ u1.toInt ∧ u1.toInt ≤ 2147483647) → 2147483647 - u1.toInt < f3 → V x 0 0 w4 2 [(0, .ref (gz (xG x) + 114)), (1, .int u1)] [] := by
    intro f3
    induction f3 with
    | zero => intro u1 w4 h5 o6 z7 z8; exfalso; omega
    | succ f3 ih9 =>
      intro u1 w4 h5 o6 z7 z8
      refine r_iload_n 1 C dX11_findFar_2 rfl ?_
      refine r_aload_n 0 C dX11_findFar_3 rfl ?_
      refine gfX11_111 (v := W) C (kS sM h5 kc_114) (h5.I (by decide) (by decide) pW) dX11_findFar_4 ?_
      refine r_aload_n 0 C dX11_findFar_7 rfl ?_
      refine gfX11_118 (v := D) C (kS sM h5 kc_114) (h5.I (by decide) (by decide) pD) dX11_findFar_8 ?_
      refine r_imul C dX11_findFar_11 (fun v10 e11 => ?_)
      have v10' := imul_rng e11 (A := 9) (B := 9) (by omega) (by omega) (by decide)
      refine r_icmp_ge 26 C dX11_findFar_12 (by decide) (fun c12 => ?_) (fun c12 => ?_)
      · have c12' := i_le c12
        exact hret _ _ _ dX11_findFar_26 ⟨h5, o6⟩
      · have c12' := i_nle c12
        refine r_aload_n 0 C dX11_findFar_15 rfl ?_
        refine r_iload_n 1 C dX11_findFar_16 rfl ?_
        refine callVV C cwX11_281_V (ctX11_findFarTo _ _ w4 (sS sM h5) o6 W (h5.I (by decide) (by decide) pW) (by omega) D (h5.I (by decide) (by decide) pD) (by omega) u1 (by omega)) (by decide) (kS sM h5 kc_114) rfl rfl rfl (Nat.le_of_ble_eq_true rfl) (by decide) dX11_findFar_17 (fun w14 y13 => ?_)
        show V x 0 0 w14 20 [(0, .ref (gz (xG x) + 114)), (1, .int u1)] []
        obtain ⟨h16, o17⟩ := y13
        have h18 := Ch.tr h5 h16 (by decide) (by decide)
        obtain ⟨i19, e20⟩ : ∃ z : Int32, u1 + Int32.ofInt 1 = z := ⟨_, rfl⟩
        have i19' := iinc_ok e20 (by decide) (by omega) (by omega)
        refine r_iinc [(1, .int i19), (0, .ref (gz (xG x) + 114))] 1 C dX11_findFar_20 rfl e20 (by decide) rfl ?_
        refine r_goto 2 C dX11_findFar_23 (by decide) ?_
        refine r_lv [1, 0] rfl ?_
        exact ih9 i19 w14 h18 o17 (by omega) (by omega)
  refine r_iconst (v := 0) C dX11_findFar_0 (by decide) ?_
  refine r_istore_n [(1, .int 0), (0, .ref (gz (xG x) + 114))] C dX11_findFar_1 (by decide) rfl ?_
  refine r_lv [1, 0] rfl ?_
  exact LP2 4294967296 0 w h0 o0 (by omega) (by omega)
set_option maxHeartbeats 4000000 in
set_option maxRecDepth 100000 in
theorem ctX11_town (l : Launch) (G : Gt) (w : Wv) (sM : Str KM XM w) (o0 : OkM w)  : CtI l G yX11_town cX11_town 3 .int ({ frames := 5, cells := 0, slots := 0, locals := 118 } : Room) [.ref (gz G + 114)] w (fun r w' => Ch [115, 116, 117, 118, 119, 120, 121, 122, 123, 124, 126, 127, 128, 129, 130, 131, 132, 133, 134, 144] [(114, 0), (114, 1), (114, 3), (114, 8), (114, 11), (114, 12), (114, 13), (114, 17), (114, 20), (114, 21), (114, 22), (114, 23), (114, 24), (114, 25), (114, 26), (114, 27), (114, 28), (114, 30), (114, 31), (114, 37), (114, 40), (114, 41), (114, 42), (114, 43), (114, 49), (114, 52)] w w' ∧ OkM w' ∧ wI w' 114 20 = 0) := by
  refine enterI (by decide) (Nat.le_of_ble_eq_true rfl) ?_
  intro x el eG C hret
  subst el; subst eG
  show V x 0 0 w 0 [(0, .ref (gz (xG x) + 114))] []
  have h0 : Ch [115, 116, 117, 118, 119, 120, 121, 122, 123, 124, 126, 127, 128, 129, 130, 131, 132, 133, 134, 144] [(114, 0), (114, 1), (114, 3), (114, 8), (114, 11), (114, 12), (114, 13), (114, 17), (114, 20), (114, 21), (114, 22), (114, 23), (114, 24), (114, 25), (114, 26), (114, 27), (114, 28), (114, 30), (114, 31), (114, 37), (114, 40), (114, 41), (114, 42), (114, 43), (114, 49), (114, 52)] w w := Ch.rf
  have qm10 : ((-10) : Int32).toInt = (-10) := by decide
  have qm1 : ((-1) : Int32).toInt = (-1) := by decide
  have q0 : (0 : Int32).toInt = 0 := by decide
  have q1 : (1 : Int32).toInt = 1 := by decide
  have q3 : (3 : Int32).toInt = 3 := by decide
  have q6 : (6 : Int32).toInt = 6 := by decide
  have q42 : (42 : Int32).toInt = 42 := by decide
  obtain ⟨rA, rB, rC, rD⟩ := (o0.2 : Rel w)
  have LP17 : ∀ (f18 : Nat) (u16 : Int32) (w19 : Wv), Ch [115, 116, 117, 118, 119, 120, 121, 122, 123, 124, 126, 127, 128, 129, 130, 131, 132, 133, 134, 144] [(114, 0), (114, 1), (114, 3), (114, 8), (114, 11), (114, 12), (114, 13), (114, 17), (114, 20), (114, 21), (114, 22), (114, 23), (114, 24), (114, 25), (114, 26), (114, 27), (114, 28), (114, 30), (114, 31), (114, 37), (114, 40), (114, 41), (114, 42), (114, 43), (114, 49), (114, 52)] w w19 → OkM w19 → (0 ≤ u16.toInt ∧ u16.toInt ≤ 4) → ((u16.toInt = 0 → (wI w19 114 22).toInt ≤ 500)) → 501 - (wI w19 114 22).toInt < f18 → V x 0 0 w19 16 [(0, .ref (gz (xG x) + 114)), (1, .int u16)] [] := by
    intro f18
    induction f18 with
    | zero => intro u16 w19 h20 o21 z22 z23 z24; have b0 := Inv.get o21.1 rt_114_22 (j := 22) (by decide) (by decide); exfalso; omega
    | succ f18 ih25 =>
      intro u16 w19 h20 o21 z22 z23 z24
      have JN29 : ∀ (u28 : Int32) (w30 : Wv), Ch [115, 116, 117, 118, 119, 120, 121, 122, 123, 124, 126, 127, 128, 129, 130, 131, 132, 133, 134, 144] [(114, 0), (114, 1), (114, 3), (114, 8), (114, 11), (114, 12), (114, 13), (114, 17), (114, 20), (114, 21), (114, 22), (114, 23), (114, 24), (114, 25), (114, 26), (114, 27), (114, 28), (114, 30), (114, 31), (114, 37), (114, 40), (114, 41), (114, 42), (114, 43), (114, 49), (114, 52)] w w30 → OkM w30 → (0 ≤ u28.toInt ∧ u28.toInt ≤ 4) → V x 0 0 w30 35 [(0, .ref (gz (xG x) + 114)), (1, .int u28)] [] := by
        intro u28 w30 h31 o32 z33
        obtain ⟨R34a, R34b, R34c, R34d⟩ := (o32.2 : Rel w30)
        have LP72 : ∀ (f73 : Nat) (u71 : Int32) (w74 : Wv), Ch [115, 116, 117, 118, 119, 120, 121, 122, 123, 124, 126, 127, 128, 129, 130, 131, 132, 133, 134, 144] [(114, 0), (114, 1), (114, 3), (114, 8), (114, 11), (114, 12), (114, 13), (114, 17), (114, 20), (114, 21), (114, 22), (114, 23), (114, 24), (114, 25), (114, 26), (114, 27), (114, 28), (114, 30), (114, 31), (114, 37), (114, 40), (114, 41), (114, 42), (114, 43), (114, 49), (114, 52)] w w74 → OkM w74 → (0 ≤ u71.toInt ∧ u71.toInt ≤ 2147483647) → ((wI w74 114 20).toInt = 0) → 2147483647 - u71.toInt < f73 → V x 0 0 w74 121 [(0, .ref (gz (xG x) + 114)), (2, .int u71)] [] := by
          intro f73
          induction f73 with
          | zero => intro u71 w74 h75 o76 z77 z78 z79; exfalso; omega
          | succ f73 ih80 =>
            intro u71 w74 h75 o76 z77 z78 z79
            have LP84 : ∀ (f85 : Nat) (u83 : Int32) (w86 : Wv), Ch [115, 116, 117, 118, 119, 120, 121, 122, 123, 124, 126, 127, 128, 129, 130, 131, 132, 133, 134, 144] [(114, 0), (114, 1), (114, 3), (114, 8), (114, 11), (114, 12), (114, 13), (114, 17), (114, 20), (114, 21), (114, 22), (114, 23), (114, 24), (114, 25), (114, 26), (114, 27), (114, 28), (114, 30), (114, 31), (114, 37), (114, 40), (114, 41), (114, 42), (114, 43), (114, 49), (114, 52)] w w86 → OkM w86 → (0 ≤ u83.toInt ∧ u83.toInt ≤ 2147483647) → ((wI w86 114 20).toInt = 0) → 2147483647 - u83.toInt < f85 → V x 0 0 w86 147 [(0, .ref (gz (xG x) + 114)), (2, .int u83)] [] := by
              intro f85
              induction f85 with
              | zero => intro u83 w86 h87 o88 z89 z90 z91; exfalso; omega
              | succ f85 ih92 =>
                intro u83 w86 h87 o88 z89 z90 z91
                have LP96 : ∀ (f97 : Nat) (u95 : Int32) (w98 : Wv), Ch [115, 116, 117, 118, 119, 120, 121, 122, 123, 124, 126, 127, 128, 129, 130, 131, 132, 133, 134, 144] [(114, 0), (114, 1), (114, 3), (114, 8), (114, 11), (114, 12), (114, 13), (114, 17), (114, 20), (114, 21), (114, 22), (114, 23), (114, 24), (114, 25), (114, 26), (114, 27), (114, 28), (114, 30), (114, 31), (114, 37), (114, 40), (114, 41), (114, 42), (114, 43), (114, 49), (114, 52)] w w98 → OkM w98 → (0 ≤ u95.toInt ∧ u95.toInt ≤ 2147483647) → ((wI w98 114 20).toInt = 0) → 2147483647 - u95.toInt < f97 → V x 0 0 w98 235 [(0, .ref (gz (xG x) + 114)), (2, .int u95)] [] := by
                  intro f97
                  induction f97 with
                  | zero => intro u95 w98 h99 o100 z101 z102 z103; exfalso; omega
                  | succ f97 ih104 =>
                    intro u95 w98 h99 o100 z101 z102 z103
                    obtain ⟨R105a, R105b, R105c, R105d⟩ := (o100.2 : Rel w98)
                    refine r_iload_n 1 C dX11_town_235 rfl ?_
                    refine r_iconst (v := 3) C dX11_town_236 (by decide) ?_
                    refine r_icmp_ge 270 C dX11_town_237 (by decide) (fun c106 => ?_) (fun c106 => ?_)
                    · have c106' := i_le c106
                      refine r_aload_n 0 C dX11_town_270 rfl ?_
                      refine r_aload_n 0 C dX11_town_271 rfl ?_
                      refine gfX11_188 (v := (wI w98 114 40)) C (kS sM h99 kc_114) rfl dX11_town_272 ?_
                      have b107 := Inv.get o100.1 rt_114_40 (j := 40) (by decide) (by decide)
                      refine r_if_ge 285 C dX11_town_275 (by decide) (fun c108 => ?_) (fun c108 => ?_)
                      · have c108' := i_le c108
                        refine r_aload_n 0 C dX11_town_285 rfl ?_
                        refine gfX11_188 (v := (wI w98 114 40)) C (kS sM h99 kc_114) rfl dX11_town_286 ?_
                        refine pfX11_259 C (kS sM h99 kc_114) dX11_town_289 (fun w109 e110 => ?_)
                        have h111 := Ch.putF h99 e110 (by decide)
                        have o112 : OkM w109 := ⟨Inv.put o100.1 e110 0 41 (by omega) (by decide), Rel.putF o100.2 e110 (by decide)⟩
                        refine r_aload_n 0 C dX11_town_292 rfl ?_
                        refine r_iconst (v := 0) C dX11_town_293 (by decide) ?_
                        refine pfX11_262 C (kS sM h111 kc_114) dX11_town_294 (fun w113 e114 => ?_)
                        have h115 := Ch.putF h111 e114 (by decide)
                        have o116 : OkM w113 := ⟨Inv.putk o112.1 e114 (by decide), Rel.putF o112.2 e114 (by decide)⟩
                        refine r_aload_n 0 C dX11_town_297 rfl ?_
                        refine r_iconst (v := 0) C dX11_town_298 (by decide) ?_
                        refine pfX11_265 C (kS sM h115 kc_114) dX11_town_299 (fun w117 e118 => ?_)
                        have h119 := Ch.putF h115 e118 (by decide)
                        have o120 : OkM w117 := ⟨Inv.put o116.1 e118 0 30 (by omega) (by decide), Rel.putF o116.2 e118 (by decide)⟩
                        refine r_aload_n 0 C dX11_town_302 rfl ?_
                        refine r_iconst (v := 0) C dX11_town_303 (by decide) ?_
                        refine pfX11_268 C (kS sM h119 kc_114) dX11_town_304 (fun w121 e122 => ?_)
                        have h123 := Ch.putF h119 e122 (by decide)
                        have o124 : OkM w121 := ⟨Inv.put o120.1 e122 0 10 (by omega) (by decide), Rel.putF o120.2 e122 (by decide)⟩
                        refine r_aload_n 0 C dX11_town_307 rfl ?_
                        refine gfX11_107 144 C (kS sM h123 kc_114) (xS sM h123 xc_114_57) dX11_town_308 ?_
                        refine r_iconst (v := 0) C dX11_town_311 (by decide) ?_
                        refine r_iconst (v := 0) C dX11_town_312 (by decide) ?_
                        refine r_zast C (kS sM h123 kc_144) (vin (by omega) (by omega)) (nar_z (z_of (by omega))) dX11_town_313 (fun w125 e126 => ?_)
                        have h127 := Ch.putS h123 e126 (by decide)
                        have o128 : OkM w125 := ⟨Inv.put0 o124.1 e126 (by decide), Rel.putS o124.2 e126 (by decide)⟩
                        refine r_aload_n 0 C dX11_town_314 rfl ?_
                        refine gfX11_107 144 C (kS sM h127 kc_114) (xS sM h127 xc_114_57) dX11_town_315 ?_
                        refine r_iconst (v := 1) C dX11_town_318 (by decide) ?_
                        refine r_iconst (v := 0) C dX11_town_319 (by decide) ?_
                        refine r_zast C (kS sM h127 kc_144) (vin (by omega) (by omega)) (nar_z (z_of (by omega))) dX11_town_320 (fun w129 e130 => ?_)
                        have h131 := Ch.putS h127 e130 (by decide)
                        have o132 : OkM w129 := ⟨Inv.put0 o128.1 e130 (by decide), Rel.putS o128.2 e130 (by decide)⟩
                        refine r_aload_n 0 C dX11_town_321 rfl ?_
                        have b133 := Inv.get o100.1 rt_114_0 (j := 0) (by decide) (by decide)
                        have b134 := Inv.get o100.1 rt_114_1 (j := 1) (by decide) (by decide)
                        refine callVV C cwX11_271_V (ctX11_findFar _ _ w129 (sS sM h131) o132 (wI w98 114 0) (g_nn e130 (by decide) (g_nn e126 (by decide) (g_nk e122 (by decide) (g_nk e118 (by decide) (g_nk e114 (by decide) (g_nk e110 (by decide) rfl)))))) (by omega) (wI w98 114 1) (g_nn e130 (by decide) (g_nn e126 (by decide) (g_nk e122 (by decide) (g_nk e118 (by decide) (g_nk e114 (by decide) (g_nk e110 (by decide) rfl)))))) (by omega)  ) (by decide) (kS sM h131 kc_114) rfl rfl rfl (Nat.le_of_ble_eq_true rfl) (by decide) dX11_town_322 (fun w136 y135 => ?_)
                        show V x 0 0 w136 325 [(0, .ref (gz (xG x) + 114)), (2, .int u95)] []
                        obtain ⟨h138, o139⟩ := y135
                        have h140 := Ch.tr h131 h138 (by decide) (by decide)
                        refine r_aload_n 0 C dX11_town_325 rfl ?_
                        refine gfX11_111 (v := (wI w98 114 0)) C (kS sM h140 kc_114) (h138.I (by decide) (by decide) (g_nn e130 (by decide) (g_nn e126 (by decide) (g_nk e122 (by decide) (g_nk e118 (by decide) (g_nk e114 (by decide) (g_nk e110 (by decide) rfl))))))) dX11_town_326 ?_
                        refine r_aload_n 0 C dX11_town_329 rfl ?_
                        refine gfX11_118 (v := (wI w98 114 1)) C (kS sM h140 kc_114) (h138.I (by decide) (by decide) (g_nn e130 (by decide) (g_nn e126 (by decide) (g_nk e122 (by decide) (g_nk e118 (by decide) (g_nk e114 (by decide) (g_nk e110 (by decide) rfl))))))) dX11_town_330 ?_
                        refine r_imul C dX11_town_333 (fun v141 e142 => ?_)
                        have v141' := imul_rng e142 (A := 9) (B := 9) (by omega) (by omega) (by decide)
                        exact hret _ _ _ _ dX11_town_334 rfl ⟨h140, o139, (by rw [(h138.I (by decide) (by decide) (g_nn e130 (by decide) (g_nn e126 (by decide) (g_nk e122 (by decide) (g_nk e118 (by decide) (g_nk e114 (by decide) (g_nk e110 (by decide) rfl)))))))]; exact i_of (by omega))⟩
                      · have c108' := i_nle c108
                        refine r_aload_n 0 C dX11_town_278 rfl ?_
                        have b143 := Inv.get o100.1 rt_114_0 (j := 0) (by decide) (by decide)
                        have b144 := Inv.get o100.1 rt_114_1 (j := 1) (by decide) (by decide)
                        refine callVI C cwX11_256_V (ctX11_firstFree _ _ w98 (sS sM h99) o100 (wI w98 114 0) rfl (by omega) (wI w98 114 1) rfl (by omega)  ) (by decide) (kS sM h99 kc_114) rfl rfl rfl (Nat.le_of_ble_eq_true rfl) (by decide) dX11_town_279 (fun r147 w146 y145 => ?_)
                        show V x 0 0 w146 282 [(0, .ref (gz (xG x) + 114)), (2, .int u95)] [.int r147, .ref (gz (xG x) + 114)]
                        obtain ⟨h148, o149, g150⟩ := y145
                        have h151 := Ch.tr h99 h148 (by decide) (by decide)
                        refine r_goto 289 C dX11_town_282 (by decide) ?_
                        refine pfX11_259 C (kS sM h151 kc_114) dX11_town_289 (fun w152 e153 => ?_)
                        have h154 := Ch.putF h151 e153 (by decide)
                        have o155 : OkM w152 := ⟨Inv.put o149.1 e153 0 41 (by omega) (by decide), Rel.putF o149.2 e153 (by decide)⟩
                        refine r_aload_n 0 C dX11_town_292 rfl ?_
                        refine r_iconst (v := 0) C dX11_town_293 (by decide) ?_
                        refine pfX11_262 C (kS sM h154 kc_114) dX11_town_294 (fun w156 e157 => ?_)
                        have h158 := Ch.putF h154 e157 (by decide)
                        have o159 : OkM w156 := ⟨Inv.putk o155.1 e157 (by decide), Rel.putF o155.2 e157 (by decide)⟩
                        refine r_aload_n 0 C dX11_town_297 rfl ?_
                        refine r_iconst (v := 0) C dX11_town_298 (by decide) ?_
                        refine pfX11_265 C (kS sM h158 kc_114) dX11_town_299 (fun w160 e161 => ?_)
                        have h162 := Ch.putF h158 e161 (by decide)
                        have o163 : OkM w160 := ⟨Inv.put o159.1 e161 0 30 (by omega) (by decide), Rel.putF o159.2 e161 (by decide)⟩
                        refine r_aload_n 0 C dX11_town_302 rfl ?_
                        refine r_iconst (v := 0) C dX11_town_303 (by decide) ?_
                        refine pfX11_268 C (kS sM h162 kc_114) dX11_town_304 (fun w164 e165 => ?_)
                        have h166 := Ch.putF h162 e165 (by decide)
                        have o167 : OkM w164 := ⟨Inv.put o163.1 e165 0 10 (by omega) (by decide), Rel.putF o163.2 e165 (by decide)⟩
                        refine r_aload_n 0 C dX11_town_307 rfl ?_
                        refine gfX11_107 144 C (kS sM h166 kc_114) (xS sM h166 xc_114_57) dX11_town_308 ?_
                        refine r_iconst (v := 0) C dX11_town_311 (by decide) ?_
                        refine r_iconst (v := 0) C dX11_town_312 (by decide) ?_
                        refine r_zast C (kS sM h166 kc_144) (vin (by omega) (by omega)) (nar_z (z_of (by omega))) dX11_town_313 (fun w168 e169 => ?_)
                        have h170 := Ch.putS h166 e169 (by decide)
                        have o171 : OkM w168 := ⟨Inv.put0 o167.1 e169 (by decide), Rel.putS o167.2 e169 (by decide)⟩
                        refine r_aload_n 0 C dX11_town_314 rfl ?_
                        refine gfX11_107 144 C (kS sM h170 kc_114) (xS sM h170 xc_114_57) dX11_town_315 ?_
                        refine r_iconst (v := 1) C dX11_town_318 (by decide) ?_
                        refine r_iconst (v := 0) C dX11_town_319 (by decide) ?_
                        refine r_zast C (kS sM h170 kc_144) (vin (by omega) (by omega)) (nar_z (z_of (by omega))) dX11_town_320 (fun w172 e173 => ?_)
                        have h174 := Ch.putS h170 e173 (by decide)
                        have o175 : OkM w172 := ⟨Inv.put0 o171.1 e173 (by decide), Rel.putS o171.2 e173 (by decide)⟩
                        refine r_aload_n 0 C dX11_town_321 rfl ?_
                        refine callVV C cwX11_271_V (ctX11_findFar _ _ w172 (sS sM h174) o175 (wI w98 114 0) (g_nn e173 (by decide) (g_nn e169 (by decide) (g_nk e165 (by decide) (g_nk e161 (by decide) (g_nk e157 (by decide) (g_nk e153 (by decide) (h148.I (by decide) (by decide) rfl))))))) (by omega) (wI w98 114 1) (g_nn e173 (by decide) (g_nn e169 (by decide) (g_nk e165 (by decide) (g_nk e161 (by decide) (g_nk e157 (by decide) (g_nk e153 (by decide) (h148.I (by decide) (by decide) rfl))))))) (by omega)  ) (by decide) (kS sM h174 kc_114) rfl rfl rfl (Nat.le_of_ble_eq_true rfl) (by decide) dX11_town_322 (fun w177 y176 => ?_)
                        show V x 0 0 w177 325 [(0, .ref (gz (xG x) + 114)), (2, .int u95)] []
                        obtain ⟨h179, o180⟩ := y176
                        have h181 := Ch.tr h174 h179 (by decide) (by decide)
                        refine r_aload_n 0 C dX11_town_325 rfl ?_
                        refine gfX11_111 (v := (wI w98 114 0)) C (kS sM h181 kc_114) (h179.I (by decide) (by decide) (g_nn e173 (by decide) (g_nn e169 (by decide) (g_nk e165 (by decide) (g_nk e161 (by decide) (g_nk e157 (by decide) (g_nk e153 (by decide) (h148.I (by decide) (by decide) rfl)))))))) dX11_town_326 ?_
                        refine r_aload_n 0 C dX11_town_329 rfl ?_
                        refine gfX11_118 (v := (wI w98 114 1)) C (kS sM h181 kc_114) (h179.I (by decide) (by decide) (g_nn e173 (by decide) (g_nn e169 (by decide) (g_nk e165 (by decide) (g_nk e161 (by decide) (g_nk e157 (by decide) (g_nk e153 (by decide) (h148.I (by decide) (by decide) rfl)))))))) dX11_town_330 ?_
                        refine r_imul C dX11_town_333 (fun v182 e183 => ?_)
                        have v182' := imul_rng e183 (A := 9) (B := 9) (by omega) (by omega) (by decide)
                        exact hret _ _ _ _ dX11_town_334 rfl ⟨h181, o180, (by rw [(h179.I (by decide) (by decide) (g_nn e173 (by decide) (g_nn e169 (by decide) (g_nk e165 (by decide) (g_nk e161 (by decide) (g_nk e157 (by decide) (g_nk e153 (by decide) (h148.I (by decide) (by decide) rfl))))))))]; exact i_of (by omega))⟩
                    · have c106' := i_nle c106
                      refine r_aload_n 0 C dX11_town_240 rfl ?_
                      refine gfX11_25 120 C (kS sM h99 kc_114) (xS sM h99 xc_114_9) dX11_town_241 ?_
                      refine r_iload_n 1 C dX11_town_244 rfl ?_
                      refine r_aload_n 0 C dX11_town_245 rfl ?_
                      refine gfX11_71 132 C (kS sM h99 kc_114) (xS sM h99 xc_114_38) dX11_town_246 ?_
                      refine r_iload_n 1 C dX11_town_249 rfl ?_
                      refine r_iald C (kS sM h99 kc_132) (vin (by omega) (by omega)) dX11_town_250 ?_
                      generalize (wI w98 132 (u95).toNatClampNeg) = v184
                      refine r_iast C (kS sM h99 kc_120) (vin (by omega) (by omega)) dX11_town_251 (fun w185 e186 => ?_)
                      have h187 := Ch.putS h99 e186 (by decide)
                      have o188 : OkM w185 := ⟨Inv.put0 o100.1 e186 (by decide), Rel.putS o100.2 e186 (by decide)⟩
                      refine r_aload_n 0 C dX11_town_252 rfl ?_
                      refine gfX11_28 121 C (kS sM h187 kc_114) (xS sM h187 xc_114_10) dX11_town_253 ?_
                      refine r_iload_n 1 C dX11_town_256 rfl ?_
                      refine r_aload_n 0 C dX11_town_257 rfl ?_
                      refine gfX11_74 133 C (kS sM h187 kc_114) (xS sM h187 xc_114_39) dX11_town_258 ?_
                      refine r_iload_n 1 C dX11_town_261 rfl ?_
                      refine r_iald C (kS sM h187 kc_133) (vin (by omega) (by omega)) dX11_town_262 ?_
                      generalize (wI w185 133 (u95).toNatClampNeg) = v189
                      refine r_iast C (kS sM h187 kc_121) (vin (by omega) (by omega)) dX11_town_263 (fun w190 e191 => ?_)
                      have h192 := Ch.putS h187 e191 (by decide)
                      have o193 : OkM w190 := ⟨Inv.put0 o188.1 e191 (by decide), Rel.putS o188.2 e191 (by decide)⟩
                      obtain ⟨i194, e195⟩ : ∃ z : Int32, u95 + Int32.ofInt 1 = z := ⟨_, rfl⟩
                      have i194' := iinc_ok e195 (by decide) (by omega) (by omega)
                      refine r_iinc [(2, .int i194), (0, .ref (gz (xG x) + 114))] 1 C dX11_town_264 rfl e195 (by decide) rfl ?_
                      refine r_goto 235 C dX11_town_267 (by decide) ?_
                      refine r_lv [1, 0] rfl ?_
                      exact ih104 i194 w190 h192 o193 (by omega) (by rw [(g_nn e191 (by decide) (g_nn e186 (by decide) rfl))]; omega) (by omega)
                obtain ⟨R93a, R93b, R93c, R93d⟩ := (o88.2 : Rel w86)
                refine r_iload_n 1 C dX11_town_147 rfl ?_
                refine r_bipush (v := 6) C dX11_town_148 (by decide) ?_
                refine r_icmp_ge 233 C dX11_town_150 (by decide) (fun c94 => ?_) (fun c94 => ?_)
                · have c94' := i_le c94
                  refine r_iconst (v := 0) C dX11_town_233 (by decide) ?_
                  refine r_istore_n [(2, .int 0), (0, .ref (gz (xG x) + 114))] C dX11_town_234 (by decide) rfl ?_
                  refine r_lv [1, 0] rfl ?_
                  exact LP96 4294967296 0 w86 h87 o88 (by omega) (by omega) (by omega)
                · have c94' := i_nle c94
                  refine r_aload_n 0 C dX11_town_153 rfl ?_
                  refine gfX11_13 116 C (kS sM h87 kc_114) (xS sM h87 xc_114_4) dX11_town_154 ?_
                  refine r_iload_n 1 C dX11_town_157 rfl ?_
                  refine r_aload_n 0 C dX11_town_158 rfl ?_
                  refine gfX11_56 127 C (kS sM h87 kc_114) (xS sM h87 xc_114_32) dX11_town_159 ?_
                  refine r_iload_n 1 C dX11_town_162 rfl ?_
                  refine r_iald C (kS sM h87 kc_127) (vin (by omega) (by omega)) dX11_town_163 ?_
                  generalize (wI w86 127 (u83).toNatClampNeg) = v196
                  refine r_iast C (kS sM h87 kc_116) (vin (by omega) (by omega)) dX11_town_164 (fun w197 e198 => ?_)
                  have h199 := Ch.putS h87 e198 (by decide)
                  have o200 : OkM w197 := ⟨Inv.put0 o88.1 e198 (by decide), Rel.putS o88.2 e198 (by decide)⟩
                  refine r_aload_n 0 C dX11_town_165 rfl ?_
                  refine gfX11_16 117 C (kS sM h199 kc_114) (xS sM h199 xc_114_5) dX11_town_166 ?_
                  refine r_iload_n 1 C dX11_town_169 rfl ?_
                  refine r_aload_n 0 C dX11_town_170 rfl ?_
                  refine gfX11_62 129 C (kS sM h199 kc_114) (xS sM h199 xc_114_34) dX11_town_171 ?_
                  refine r_iload_n 1 C dX11_town_174 rfl ?_
                  refine r_iald C (kS sM h199 kc_129) (vin (by omega) (by omega)) dX11_town_175 ?_
                  generalize (wI w197 129 (u83).toNatClampNeg) = v201
                  refine r_iast C (kS sM h199 kc_117) (vin (by omega) (by omega)) dX11_town_176 (fun w202 e203 => ?_)
                  have h204 := Ch.putS h199 e203 (by decide)
                  have o205 : OkM w202 := ⟨Inv.put0 o200.1 e203 (by decide), Rel.putS o200.2 e203 (by decide)⟩
                  refine r_aload_n 0 C dX11_town_177 rfl ?_
                  refine gfX11_19 118 C (kS sM h204 kc_114) (xS sM h204 xc_114_6) dX11_town_178 ?_
                  refine r_iload_n 1 C dX11_town_181 rfl ?_
                  refine r_aload_n 0 C dX11_town_182 rfl ?_
                  refine gfX11_65 130 C (kS sM h204 kc_114) (xS sM h204 xc_114_35) dX11_town_183 ?_
                  refine r_iload_n 1 C dX11_town_186 rfl ?_
                  refine r_iald C (kS sM h204 kc_130) (vin (by omega) (by omega)) dX11_town_187 ?_
                  generalize (wI w202 130 (u83).toNatClampNeg) = v206
                  refine r_iast C (kS sM h204 kc_118) (vin (by omega) (by omega)) dX11_town_188 (fun w207 e208 => ?_)
                  have h209 := Ch.putS h204 e208 (by decide)
                  have o210 : OkM w207 := ⟨Inv.put0 o205.1 e208 (by decide), Rel.putS o205.2 e208 (by decide)⟩
                  refine r_aload_n 0 C dX11_town_189 rfl ?_
                  refine gfX11_22 119 C (kS sM h209 kc_114) (xS sM h209 xc_114_7) dX11_town_190 ?_
                  refine r_iload_n 1 C dX11_town_193 rfl ?_
                  refine r_aload_n 0 C dX11_town_194 rfl ?_
                  refine gfX11_68 131 C (kS sM h209 kc_114) (xS sM h209 xc_114_36) dX11_town_195 ?_
                  refine r_iload_n 1 C dX11_town_198 rfl ?_
                  refine r_iald C (kS sM h209 kc_131) (vin (by omega) (by omega)) dX11_town_199 ?_
                  generalize (wI w207 131 (u83).toNatClampNeg) = v211
                  refine r_iast C (kS sM h209 kc_119) (vin (by omega) (by omega)) dX11_town_200 (fun w212 e213 => ?_)
                  have h214 := Ch.putS h209 e213 (by decide)
                  have o215 : OkM w212 := ⟨Inv.put0 o210.1 e213 (by decide), Rel.putS o210.2 e213 (by decide)⟩
                  refine r_aload_n 0 C dX11_town_201 rfl ?_
                  refine gfX11_38 122 C (kS sM h214 kc_114) (xS sM h214 xc_114_14) dX11_town_202 ?_
                  refine r_iload_n 1 C dX11_town_205 rfl ?_
                  refine r_aload_n 0 C dX11_town_206 rfl ?_
                  refine gfX11_59 128 C (kS sM h214 kc_114) (xS sM h214 xc_114_33) dX11_town_207 ?_
                  refine r_iload_n 1 C dX11_town_210 rfl ?_
                  refine r_iald C (kS sM h214 kc_128) (vin (by omega) (by omega)) dX11_town_211 ?_
                  have b217 := Inv.geta o215.1 rt_128_0 (i := u83) (by omega) (by omega) (by omega)
                  generalize (wI w212 128 (u83).toNatClampNeg) = v216 at b217 ⊢
                  refine r_iast C (kS sM h214 kc_122) (vin (by omega) (by omega)) dX11_town_212 (fun w218 e219 => ?_)
                  have h220 := Ch.putS h214 e219 (by decide)
                  have o221 : OkM w218 := ⟨Inv.putR o215.1 e219 0 5 (by omega) (by omega) 0 41 (by omega) (by decide), Rel.putS o215.2 e219 (by decide)⟩
                  refine r_aload_n 0 C dX11_town_213 rfl ?_
                  refine gfX11_41 123 C (kS sM h220 kc_114) (xS sM h220 xc_114_15) dX11_town_214 ?_
                  refine r_iload_n 1 C dX11_town_217 rfl ?_
                  refine r_iconst (v := (-1)) C dX11_town_218 (by decide) ?_
                  refine r_iast C (kS sM h220 kc_123) (vin (by omega) (by omega)) dX11_town_219 (fun w222 e223 => ?_)
                  have h224 := Ch.putS h220 e223 (by decide)
                  have o225 : OkM w222 := ⟨Inv.putR o221.1 e223 0 5 (by omega) (by omega) (-1) 41 (by omega) (by decide), Rel.putS o221.2 e223 (by decide)⟩
                  refine r_aload_n 0 C dX11_town_220 rfl ?_
                  refine gfX11_44 124 C (kS sM h224 kc_114) (xS sM h224 xc_114_16) dX11_town_221 ?_
                  refine r_iload_n 1 C dX11_town_224 rfl ?_
                  refine r_iconst (v := 0) C dX11_town_225 (by decide) ?_
                  refine r_iast C (kS sM h224 kc_124) (vin (by omega) (by omega)) dX11_town_226 (fun w226 e227 => ?_)
                  have h228 := Ch.putS h224 e227 (by decide)
                  have o229 : OkM w226 := ⟨Inv.put0 o225.1 e227 (by decide), Rel.putS o225.2 e227 (by decide)⟩
                  obtain ⟨i230, e231⟩ : ∃ z : Int32, u83 + Int32.ofInt 1 = z := ⟨_, rfl⟩
                  have i230' := iinc_ok e231 (by decide) (by omega) (by omega)
                  refine r_iinc [(2, .int i230), (0, .ref (gz (xG x) + 114))] 1 C dX11_town_227 rfl e231 (by decide) rfl ?_
                  refine r_goto 147 C dX11_town_230 (by decide) ?_
                  refine r_lv [1, 0] rfl ?_
                  exact ih92 i230 w226 h228 o229 (by omega) (by rw [(g_nn e227 (by decide) (g_nn e223 (by decide) (g_nn e219 (by decide) (g_nn e213 (by decide) (g_nn e208 (by decide) (g_nn e203 (by decide) (g_nn e198 (by decide) rfl)))))))]; omega) (by omega)
            obtain ⟨R81a, R81b, R81c, R81d⟩ := (o76.2 : Rel w74)
            refine r_iload_n 1 C dX11_town_121 rfl ?_
            refine r_bipush (v := 42) C dX11_town_122 (by decide) ?_
            refine r_icmp_ge 145 C dX11_town_124 (by decide) (fun c82 => ?_) (fun c82 => ?_)
            · have c82' := i_le c82
              refine r_iconst (v := 0) C dX11_town_145 (by decide) ?_
              refine r_istore_n [(2, .int 0), (0, .ref (gz (xG x) + 114))] C dX11_town_146 (by decide) rfl ?_
              refine r_lv [1, 0] rfl ?_
              exact LP84 4294967296 0 w74 h75 o76 (by omega) (by omega) (by omega)
            · have c82' := i_nle c82
              refine r_aload_n 0 C dX11_town_127 rfl ?_
              refine gfX11_7 115 C (kS sM h75 kc_114) (xS sM h75 xc_114_2) dX11_town_128 ?_
              refine r_iload_n 1 C dX11_town_131 rfl ?_
              refine r_aload_n 0 C dX11_town_132 rfl ?_
              refine gfX11_53 126 C (kS sM h75 kc_114) (xS sM h75 xc_114_29) dX11_town_133 ?_
              refine r_iload_n 1 C dX11_town_136 rfl ?_
              refine r_iald C (kS sM h75 kc_126) (vin (by omega) (by omega)) dX11_town_137 ?_
              generalize (wI w74 126 (u71).toNatClampNeg) = v232
              refine r_iast C (kS sM h75 kc_115) (vin (by omega) (by omega)) dX11_town_138 (fun w233 e234 => ?_)
              have h235 := Ch.putS h75 e234 (by decide)
              have o236 : OkM w233 := ⟨Inv.put0 o76.1 e234 (by decide), Rel.putS o76.2 e234 (by decide)⟩
              obtain ⟨i237, e238⟩ : ∃ z : Int32, u71 + Int32.ofInt 1 = z := ⟨_, rfl⟩
              have i237' := iinc_ok e238 (by decide) (by omega) (by omega)
              refine r_iinc [(2, .int i237), (0, .ref (gz (xG x) + 114))] 1 C dX11_town_139 rfl e238 (by decide) rfl ?_
              refine r_goto 121 C dX11_town_142 (by decide) ?_
              refine r_lv [1, 0] rfl ?_
              exact ih80 i237 w233 h235 o236 (by omega) (by rw [(g_nn e234 (by decide) rfl)]; omega) (by omega)
        refine r_aload_n 0 C dX11_town_35 rfl ?_
        refine r_iconst (v := 0) C dX11_town_36 (by decide) ?_
        refine pfX11_130 C (kS sM h31 kc_114) dX11_town_37 (fun w35 e36 => ?_)
        have h37 := Ch.putF h31 e36 (by decide)
        have o38 : OkM w35 := ⟨Inv.put o32.1 e36 0 500 (by omega) (by decide), Rel.putF o32.2 e36 (by decide)⟩
        refine r_iload_n 1 C dX11_town_40 rfl ?_
        refine r_if_le 49 C dX11_town_41 (by decide) (fun c39 => ?_) (fun c39 => ?_)
        · have c39' := i_le c39
          refine r_aload_n 0 C dX11_town_49 rfl ?_
          refine r_aload_n 0 C dX11_town_50 rfl ?_
          refine gfX11_179 (v := (wI w30 114 27)) C (kS sM h37 kc_114) (g_nk e36 (by decide) rfl) dX11_town_51 ?_
          have b40 := Inv.get o32.1 rt_114_27 (j := 27) (by decide) (by decide)
          refine pfX11_111 C (kS sM h37 kc_114) dX11_town_54 (fun w41 e42 => ?_)
          have h43 := Ch.putF h37 e42 (by decide)
          have o44 := Inv.put o38.1 e42 0 9 (by omega) (by decide)
          refine r_aload_n 0 C dX11_town_57 rfl ?_
          refine r_aload_n 0 C dX11_town_58 rfl ?_
          refine gfX11_182 (v := (wI w30 114 28)) C (kS sM h43 kc_114) (g_nk e42 (by decide) (g_nk e36 (by decide) rfl)) dX11_town_59 ?_
          have b45 := Inv.get o32.1 rt_114_28 (j := 28) (by decide) (by decide)
          refine pfX11_118 C (kS sM h43 kc_114) dX11_town_62 (fun w46 e47 => ?_)
          have h48 := Ch.putF h43 e47 (by decide)
          have o49 := Inv.put o44 e47 0 9 (by omega) (by decide)
          refine r_aload_n 0 C dX11_town_65 rfl ?_
          refine r_aload_n 0 C dX11_town_66 rfl ?_
          refine gfX11_191 (v := (wI w30 114 31)) C (kS sM h48 kc_114) (g_nk e47 (by decide) (g_nk e42 (by decide) (g_nk e36 (by decide) rfl))) dX11_town_67 ?_
          have b50 := Inv.get o32.1 rt_114_31 (j := 31) (by decide) (by decide)
          refine pfX11_121 C (kS sM h48 kc_114) dX11_town_70 (fun w51 e52 => ?_)
          have h53 := Ch.putF h48 e52 (by decide)
          have o54 := Inv.put o49 e52 0 6 (by omega) (by decide)
          have o55 : OkM w51 := ⟨o54, Rel.of (g_nk e52 (by decide) (g_nk e47 (by decide) (g_eq e42))) (g_nk e52 (by decide) (g_eq e47)) (g_nk e52 (by decide) (g_nk e47 (by decide) (g_nk e42 (by decide) (g_nk e36 (by decide) rfl)))) (g_nk e52 (by decide) (g_nk e47 (by decide) (g_nk e42 (by decide) (g_nk e36 (by decide) rfl)))) (g_eq e52) (g_nk e52 (by decide) (g_nk e47 (by decide) (g_nk e42 (by decide) (g_nk e36 (by decide) rfl)))) (by first | omega | (simp only [q0]; omega)) (by first | omega | (simp only [q0]; omega)) (by first | omega | (simp only [q0]; omega)) (by first | omega | (simp only [q0]; omega))⟩
          refine r_aload_n 0 C dX11_town_73 rfl ?_
          refine r_aload_n 0 C dX11_town_74 rfl ?_
          refine gfX11_208 (v := (wI w30 114 37)) C (kS sM h53 kc_114) (g_nk e52 (by decide) (g_nk e47 (by decide) (g_nk e42 (by decide) (g_nk e36 (by decide) rfl)))) dX11_town_75 ?_
          have b56 := Inv.get o32.1 rt_114_37 (j := 37) (by decide) (by decide)
          refine pfX11_124 C (kS sM h53 kc_114) dX11_town_78 (fun w57 e58 => ?_)
          have h59 := Ch.putF h53 e58 (by decide)
          have o60 : OkM w57 := ⟨Inv.put o55.1 e58 0 3 (by omega) (by decide), Rel.putF o55.2 e58 (by decide)⟩
          refine r_aload_n 0 C dX11_town_81 rfl ?_
          refine r_aload_n 0 C dX11_town_82 rfl ?_
          refine gfX11_211 (v := (wI w30 114 41)) C (kS sM h59 kc_114) (g_nk e58 (by decide) (g_nk e52 (by decide) (g_nk e47 (by decide) (g_nk e42 (by decide) (g_nk e36 (by decide) rfl))))) dX11_town_83 ?_
          refine r_if_ge 93 C dX11_town_86 (by decide) (fun c61 => ?_) (fun c61 => ?_)
          · have c61' := i_le c61
            refine r_aload_n 0 C dX11_town_93 rfl ?_
            refine gfX11_211 (v := (wI w30 114 41)) C (kS sM h59 kc_114) (g_nk e58 (by decide) (g_nk e52 (by decide) (g_nk e47 (by decide) (g_nk e42 (by decide) (g_nk e36 (by decide) rfl))))) dX11_town_94 ?_
            refine pfX11_31 C (kS sM h59 kc_114) dX11_town_97 (fun w62 e63 => ?_)
            have h64 := Ch.putF h59 e63 (by decide)
            have o65 : OkM w62 := ⟨Inv.putk o60.1 e63 (by decide), Rel.putF o60.2 e63 (by decide)⟩
            refine r_aload_n 0 C dX11_town_100 rfl ?_
            refine r_aload_n 0 C dX11_town_101 rfl ?_
            refine gfX11_211 (v := (wI w30 114 41)) C (kS sM h64 kc_114) (g_nk e63 (by decide) (g_nk e58 (by decide) (g_nk e52 (by decide) (g_nk e47 (by decide) (g_nk e42 (by decide) (g_nk e36 (by decide) rfl)))))) dX11_town_102 ?_
            refine r_if_ge 112 C dX11_town_105 (by decide) (fun c66 => ?_) (fun c66 => ?_)
            · have c66' := i_le c66
              refine r_aload_n 0 C dX11_town_112 rfl ?_
              refine gfX11_214 (v := (wI w30 114 42)) C (kS sM h64 kc_114) (g_nk e63 (by decide) (g_nk e58 (by decide) (g_nk e52 (by decide) (g_nk e47 (by decide) (g_nk e42 (by decide) (g_nk e36 (by decide) rfl)))))) dX11_town_113 ?_
              refine pfX11_35 C (kS sM h64 kc_114) dX11_town_116 (fun w67 e68 => ?_)
              have h69 := Ch.putF h64 e68 (by decide)
              have o70 : OkM w67 := ⟨Inv.putk o65.1 e68 (by decide), Rel.putF o65.2 e68 (by decide)⟩
              refine r_iconst (v := 0) C dX11_town_119 (by decide) ?_
              refine r_istore_n [(2, .int 0), (0, .ref (gz (xG x) + 114)), (1, .int u28)] C dX11_town_120 (by decide) rfl ?_
              refine r_lv [1, 0] rfl ?_
              exact LP72 4294967296 0 w67 h69 o70 (by omega) (by rw [(g_nk e68 (by decide) (g_nk e63 (by decide) (g_nk e58 (by decide) (g_nk e52 (by decide) (g_nk e47 (by decide) (g_nk e42 (by decide) (g_eq e36)))))))]; omega) (by omega)
            · have c66' := i_nle c66
              refine r_iconst (v := 1) C dX11_town_108 (by decide) ?_
              refine r_goto 116 C dX11_town_109 (by decide) ?_
              refine pfX11_35 C (kS sM h64 kc_114) dX11_town_116 (fun w239 e240 => ?_)
              have h241 := Ch.putF h64 e240 (by decide)
              have o242 : OkM w239 := ⟨Inv.putk o65.1 e240 (by decide), Rel.putF o65.2 e240 (by decide)⟩
              refine r_iconst (v := 0) C dX11_town_119 (by decide) ?_
              refine r_istore_n [(2, .int 0), (0, .ref (gz (xG x) + 114)), (1, .int u28)] C dX11_town_120 (by decide) rfl ?_
              refine r_lv [1, 0] rfl ?_
              exact LP72 4294967296 0 w239 h241 o242 (by omega) (by rw [(g_nk e240 (by decide) (g_nk e63 (by decide) (g_nk e58 (by decide) (g_nk e52 (by decide) (g_nk e47 (by decide) (g_nk e42 (by decide) (g_eq e36)))))))]; omega) (by omega)
          · have c61' := i_nle c61
            refine r_iconst (v := 1) C dX11_town_89 (by decide) ?_
            refine r_goto 97 C dX11_town_90 (by decide) ?_
            refine pfX11_31 C (kS sM h59 kc_114) dX11_town_97 (fun w243 e244 => ?_)
            have h245 := Ch.putF h59 e244 (by decide)
            have o246 : OkM w243 := ⟨Inv.putk o60.1 e244 (by decide), Rel.putF o60.2 e244 (by decide)⟩
            refine r_aload_n 0 C dX11_town_100 rfl ?_
            refine r_aload_n 0 C dX11_town_101 rfl ?_
            refine gfX11_211 (v := (wI w30 114 41)) C (kS sM h245 kc_114) (g_nk e244 (by decide) (g_nk e58 (by decide) (g_nk e52 (by decide) (g_nk e47 (by decide) (g_nk e42 (by decide) (g_nk e36 (by decide) rfl)))))) dX11_town_102 ?_
            refine r_if_ge 112 C dX11_town_105 (by decide) (fun c247 => ?_) (fun c247 => ?_)
            · have c247' := i_le c247
              refine r_aload_n 0 C dX11_town_112 rfl ?_
              refine gfX11_214 (v := (wI w30 114 42)) C (kS sM h245 kc_114) (g_nk e244 (by decide) (g_nk e58 (by decide) (g_nk e52 (by decide) (g_nk e47 (by decide) (g_nk e42 (by decide) (g_nk e36 (by decide) rfl)))))) dX11_town_113 ?_
              refine pfX11_35 C (kS sM h245 kc_114) dX11_town_116 (fun w248 e249 => ?_)
              have h250 := Ch.putF h245 e249 (by decide)
              have o251 : OkM w248 := ⟨Inv.putk o246.1 e249 (by decide), Rel.putF o246.2 e249 (by decide)⟩
              refine r_iconst (v := 0) C dX11_town_119 (by decide) ?_
              refine r_istore_n [(2, .int 0), (0, .ref (gz (xG x) + 114)), (1, .int u28)] C dX11_town_120 (by decide) rfl ?_
              refine r_lv [1, 0] rfl ?_
              exact LP72 4294967296 0 w248 h250 o251 (by omega) (by rw [(g_nk e249 (by decide) (g_nk e244 (by decide) (g_nk e58 (by decide) (g_nk e52 (by decide) (g_nk e47 (by decide) (g_nk e42 (by decide) (g_eq e36)))))))]; omega) (by omega)
            · have c247' := i_nle c247
              refine r_iconst (v := 1) C dX11_town_108 (by decide) ?_
              refine r_goto 116 C dX11_town_109 (by decide) ?_
              refine pfX11_35 C (kS sM h245 kc_114) dX11_town_116 (fun w252 e253 => ?_)
              have h254 := Ch.putF h245 e253 (by decide)
              have o255 : OkM w252 := ⟨Inv.putk o246.1 e253 (by decide), Rel.putF o246.2 e253 (by decide)⟩
              refine r_iconst (v := 0) C dX11_town_119 (by decide) ?_
              refine r_istore_n [(2, .int 0), (0, .ref (gz (xG x) + 114)), (1, .int u28)] C dX11_town_120 (by decide) rfl ?_
              refine r_lv [1, 0] rfl ?_
              exact LP72 4294967296 0 w252 h254 o255 (by omega) (by rw [(g_nk e253 (by decide) (g_nk e244 (by decide) (g_nk e58 (by decide) (g_nk e52 (by decide) (g_nk e47 (by decide) (g_nk e42 (by decide) (g_eq e36)))))))]; omega) (by omega)
        · have c39' := i_nle c39
          refine r_bipush (v := (-10)) C dX11_town_44 (by decide) ?_
          refine r_iload_n 1 C dX11_town_46 rfl ?_
          refine r_isub C dX11_town_47 (fun v256 e257 => ?_)
          have v256' := isub_ok e257 (by omega) (by omega)
          exact hret _ _ _ _ dX11_town_48 rfl ⟨h37, o38, (g_eq e36)⟩
      obtain ⟨R26a, R26b, R26c, R26d⟩ := (o21.2 : Rel w19)
      refine r_iload_n 1 C dX11_town_16 rfl ?_
      refine r_if_ne 35 C dX11_town_17 (by decide) (fun c27 => ?_) (fun c27 => ?_)
      · have c27' := i_ne c27
        refine r_lv [0, 1] rfl ?_
        exact JN29 u16 w19 h20 o21 (by omega)
      · have c27' := i_eq c27
        refine r_aload_n 0 C dX11_town_20 rfl ?_
        have b258 := Inv.get o21.1 rt_114_22 (j := 22) (by decide) (by decide)
        have b259 := Inv.get o21.1 rt_114_20 (j := 20) (by decide) (by decide)
        refine callVI C cwX11_139_V (ctX11_here _ _ w19 (sS sM h20) o21 (wI w19 114 22) rfl (by omega) (wI w19 114 20) rfl (by omega)  ) (by decide) (kS sM h20 kc_114) rfl rfl rfl (Nat.le_of_ble_eq_true rfl) (by decide) dX11_town_21 (fun r262 w261 y260 => ?_)
        show V x 0 0 w261 24 [(0, .ref (gz (xG x) + 114)), (1, .int u16)] [.int r262]
        obtain ⟨h263, o264, f265⟩ := y260
        have h266 := Ch.tr h20 h263 (by decide) (by decide)
        refine r_if_lt 35 C dX11_town_24 (by decide) (fun c267 => ?_) (fun c267 => ?_)
        · have c267' := i_lt c267
          refine r_lv [0, 1] rfl ?_
          exact JN29 u16 w261 h266 o264 (by omega)
        · have c267' := i_nlt c267
          refine r_aload_n 0 C dX11_town_27 rfl ?_
          have b268 := Inv.get o264.1 rt_114_22 (j := 22) (by decide) (by decide)
          refine callVI C cwX11_253_V (ctX11_takeClause _ _ w261 (sS sM h266) o264 (wI w261 114 22) rfl (by omega) (wI w19 114 20) (h263.I (by decide) (by decide) rfl) (by omega)  ) (by decide) (kS sM h266 kc_114) rfl rfl rfl (Nat.le_of_ble_eq_true rfl) (by decide) dX11_town_28 (fun r271 w270 y269 => ?_)
          show V x 0 0 w270 31 [(0, .ref (gz (xG x) + 114)), (1, .int u16)] [.int r271]
          obtain ⟨h272, o273, f274, g275⟩ := y269
          have h276 := Ch.tr h266 h272 (by decide) (by decide)
          obtain ⟨R277a, R277b, R277c, R277d⟩ := (o273.2 : Rel w270)
          refine r_istore_n [(1, .int r271), (0, .ref (gz (xG x) + 114))] C dX11_town_31 (by decide) rfl ?_
          refine r_goto 16 C dX11_town_32 (by decide) ?_
          by_cases c278 : r271.toInt = 0
          · have c278' := c278
            refine r_lv [1, 0] rfl ?_
            have b279 := Inv.get o273.1 rt_114_22 (j := 22) (by decide) (by decide)
            exact ih25 r271 w270 h276 o273 (by omega) (by omega) (by omega)
          · have c278' := c278
            refine r_iload_n 0 C dX11_town_16 rfl ?_
            refine r_if_ne 35 C dX11_town_17 (by decide) (fun c280 => ?_) (fun c280 => ?_)
            · have c280' := i_ne c280
              refine r_lv [1, 0] rfl ?_
              exact JN29 r271 w270 h276 o273 (by omega)
            · have c280' := i_eq c280
              exfalso; omega
  refine r_aload_n 0 C dX11_town_0 rfl ?_
  refine r_iconst (v := (-1)) C dX11_town_1 (by decide) ?_
  refine pfX11_50 C (kS sM h0 kc_114) dX11_town_2 (fun w1 e2 => ?_)
  have h3 := Ch.putF h0 e2 (by decide)
  have o4 : OkM w1 := ⟨Inv.putk o0.1 e2 (by decide), Rel.putF o0.2 e2 (by decide)⟩
  refine r_aload_n 0 C dX11_town_5 rfl ?_
  refine r_iconst (v := 0) C dX11_town_6 (by decide) ?_
  refine pfX11_136 C (kS sM h3 kc_114) dX11_town_7 (fun w5 e6 => ?_)
  have h7 := Ch.putF h3 e6 (by decide)
  have o8 : OkM w5 := ⟨Inv.put o4.1 e6 0 501 (by omega) (by decide), Rel.putF o4.2 e6 (by decide)⟩
  refine r_aload_n 0 C dX11_town_10 rfl ?_
  refine callVV C cwX11_250_V (ctX11_clear _ _ w5 (sS sM h7) o8  ) (by decide) (kS sM h7 kc_114) rfl rfl rfl (Nat.le_of_ble_eq_true rfl) (by decide) dX11_town_11 (fun w10 y9 => ?_)
  show V x 0 0 w10 14 [(0, .ref (gz (xG x) + 114))] []
  obtain ⟨h12, o13⟩ := y9
  have h14 := Ch.tr h7 h12 (by decide) (by decide)
  obtain ⟨R15a, R15b, R15c, R15d⟩ := (o13.2 : Rel w10)
  refine r_iconst (v := 0) C dX11_town_14 (by decide) ?_
  refine r_istore_n [(1, .int 0), (0, .ref (gz (xG x) + 114))] C dX11_town_15 (by decide) rfl ?_
  refine r_lv [1, 0] rfl ?_
  exact LP17 4294967296 0 w10 h14 o13 (by omega) (by rw [(h12.I (by decide) (by decide) (g_eq e6))]; omega) (by rw [(h12.I (by decide) (by decide) (g_eq e6))]; omega)
set_option maxHeartbeats 4000000 in
set_option maxRecDepth 100000 in
theorem ctX11_fault (l : Launch) (G : Gt) (w : Wv) (sM : Str KM XM w) (o0 : OkM w)  : CtI l G yX11_fault cX11_fault 1 .int ({ frames := 0, cells := 0, slots := 0, locals := 0 } : Room) [.ref (gz G + 114)] w (fun r w' => Ch [] [] w w' ∧ OkM w') := by
  refine enterI (by decide) (Nat.le_of_ble_eq_true rfl) ?_
  intro x el eG C hret
  subst el; subst eG
  show V x 0 0 w 0 [(0, .ref (gz (xG x) + 114))] []
  have h0 : Ch [] [] w w := Ch.rf
  obtain ⟨rA, rB, rC, rD⟩ := (o0.2 : Rel w)
  refine r_aload_n 0 C dX11_fault_0 rfl ?_
  refine gfX11_50 (v := (wI w 114 21)) C (kS sM h0 kc_114) rfl dX11_fault_1 ?_
  exact hret _ _ _ _ dX11_fault_4 rfl ⟨h0, o0⟩
set_option maxHeartbeats 4000000 in
set_option maxRecDepth 100000 in
theorem ctX11_far (l : Launch) (G : Gt) (w : Wv) (sM : Str KM XM w) (o0 : OkM w) (W : Int32) (pW : wI w 114 0 = W) (bW : 0 ≤ W.toInt ∧ W.toInt ≤ 9) (D : Int32) (pD : wI w 114 1 = D) (bD : 0 ≤ D.toInt ∧ D.toInt ≤ 9) (a1 : Int32) (a2 : Int32) (a3 : Int32) (a4 : Int32) : CtI l G yX11_far cX11_far 6 .int ({ frames := 2, cells := 0, slots := 0, locals := 47 } : Room) [.ref (gz G + 114), .int a1, .int a2, .int a3, .int a4] w (fun r w' => Ch [] [] w w' ∧ OkM w') := by
  refine enterI (by decide) (Nat.le_of_ble_eq_true rfl) ?_
  intro x el eG C hret
  subst el; subst eG
  show V x 0 0 w 0 [(0, .ref (gz (xG x) + 114)), (1, .int a1), (2, .int a2), (3, .int a3), (4, .int a4)] []
  have h0 : Ch [] [] w w := Ch.rf
  have qm1000000001 : ((-1000000001) : Int32).toInt = (-1000000001) := by decide
  have qm1 : ((-1) : Int32).toInt = (-1) := by decide
  have q0 : (0 : Int32).toInt = 0 := by decide
  have q42 : (42 : Int32).toInt = 42 := by decide
  have q1000 : (1000 : Int32).toInt = 1000 := by decide
  obtain ⟨rA, rB, rC, rD⟩ := (o0.2 : Rel w)
  (try simp only [pW] at rA); (try simp only [pW] at rB); (try simp only [pW] at rC); (try simp only [pW] at rD)
  (try simp only [pD] at rA); (try simp only [pD] at rB); (try simp only [pD] at rC); (try simp only [pD] at rD)
  refine r_aload_n 0 C dX11_far_0 rfl ?_
  refine r_iload_n 1 C dX11_far_1 rfl ?_
  refine r_iload_n 2 C dX11_far_2 rfl ?_
  refine callVI C cwX11_274_V (ctX11_isCell _ _ w (sS sM h0) o0 W pW (by omega) D pD (by omega) a1 a2 ) (by decide) (kS sM h0 kc_114) rfl rfl rfl (Nat.le_of_ble_eq_true rfl) (by decide) dX11_far_3 (fun r3 w2 y1 => ?_)
  show V x 0 0 w2 6 [(0, .ref (gz (xG x) + 114)), (1, .int a1), (2, .int a2), (3, .int a3), (4, .int a4)] [.int r3]
  obtain ⟨h4, o5, g6⟩ := y1
  have h7 := Ch.tr h0 h4 (by decide) (by decide)
  refine r_if_eq 19 C dX11_far_6 (by decide) (fun c8 => ?_) (fun c8 => ?_)
  · have c8' := i_eq c8
    refine r_ldcw C mw6_112 dX11_far_19 ?_
    exact hret _ _ _ _ dX11_far_22 rfl ⟨h7, o5⟩
  · have c8' := i_ne c8
    refine r_aload_n 0 C dX11_far_9 rfl ?_
    refine r_iload_n 3 C dX11_far_10 rfl ?_
    refine r_iload 4 C dX11_far_11 rfl ?_
    refine callVI C cwX11_274_V (ctX11_isCell _ _ w2 (sS sM h7) o5 W (h4.I (by decide) (by decide) pW) (by omega) D (h4.I (by decide) (by decide) pD) (by omega) a3 a4 ) (by decide) (kS sM h7 kc_114) rfl rfl rfl (Nat.le_of_ble_eq_true rfl) (by decide) dX11_far_13 (fun r11 w10 y9 => ?_)
    show V x 0 0 w10 16 [(0, .ref (gz (xG x) + 114)), (1, .int a1), (2, .int a2), (3, .int a3), (4, .int a4)] [.int r11]
    obtain ⟨h12, o13, g14⟩ := y9
    have h15 := Ch.tr h7 h12 (by decide) (by decide)
    refine r_if_ne 23 C dX11_far_16 (by decide) (fun c16 => ?_) (fun c16 => ?_)
    · have c16' := i_ne c16
      have k17 := cell_rng (W := (W : Int32).toInt) (D := (D : Int32).toInt) (y := (a4 : Int32).toInt) (x := (a3 : Int32).toInt) (by omega) (by omega) (by omega)
      have k18 := cell_rng (W := (W : Int32).toInt) (D := (D : Int32).toInt) (y := (a2 : Int32).toInt) (x := (a1 : Int32).toInt) (by omega) (by omega) (by omega)
      refine r_aload_n 0 C dX11_far_23 rfl ?_
      refine gfX11_77 134 C (kS sM h15 kc_114) (xS sM h15 xc_114_44) dX11_far_24 ?_
      refine r_bipush (v := 42) C dX11_far_27 (by decide) ?_
      refine r_aload_n 0 C dX11_far_29 rfl ?_
      refine gfX11_111 (v := W) C (kS sM h15 kc_114) (h12.I (by decide) (by decide) (h4.I (by decide) (by decide) pW)) dX11_far_30 ?_
      refine r_iload 4 C dX11_far_33 rfl ?_
      refine r_imul C dX11_far_35 (fun v19 e20 => ?_)
      have v19' := imul_rng e20 (A := 9) (B := 8) (by omega) (by omega) (by decide)
      refine r_iload_n 3 C dX11_far_36 rfl ?_
      refine r_iadd C dX11_far_37 (fun v21 e22 => ?_)
      have v21' := iadd_ok e22 (by omega) (by omega)
      refine r_imul C dX11_far_38 (fun v23 e24 => ?_)
      have k25 : (42 : Int32).toInt = 42 := by omega
      have v23' := imul_ok e24 (by rw [k25]; omega) (by rw [k25]; omega)
      rw [k25] at v23'
      refine r_aload_n 0 C dX11_far_39 rfl ?_
      refine gfX11_111 (v := W) C (kS sM h15 kc_114) (h12.I (by decide) (by decide) (h4.I (by decide) (by decide) pW)) dX11_far_40 ?_
      refine r_iload_n 2 C dX11_far_43 rfl ?_
      refine r_imul C dX11_far_44 (fun v26 e27 => ?_)
      have v26' := imul_rng e27 (A := 9) (B := 8) (by omega) (by omega) (by decide)
      refine r_iadd C dX11_far_45 (fun v28 e29 => ?_)
      have v28' := iadd_ok e29 (by omega) (by omega)
      refine r_iload_n 1 C dX11_far_46 rfl ?_
      refine r_iadd C dX11_far_47 (fun v30 e31 => ?_)
      have v30' := iadd_ok e31 (by omega) (by omega)
      refine r_iald C (kS sM h15 kc_134) (vin (by omega) (by omega)) dX11_far_48 ?_
      generalize (wI w10 134 (v30).toNatClampNeg) = v32
      refine r_istore [(5, .int v32), (0, .ref (gz (xG x) + 114)), (1, .int a1), (2, .int a2), (3, .int a3), (4, .int a4)] C dX11_far_49 (by decide) rfl ?_
      refine r_iload 0 C dX11_far_51 rfl ?_
      refine r_sipush (v := 1000) C dX11_far_53 (by decide) ?_
      refine r_icmp_ne 63 C dX11_far_56 (by decide) (fun c33 => ?_) (fun c33 => ?_)
      · have c33' := i_ne c33
        refine r_iload 0 C dX11_far_63 rfl ?_
        exact hret _ _ _ _ dX11_far_65 rfl ⟨h15, o13⟩
      · have c33' := i_eq c33
        refine r_iconst (v := (-1)) C dX11_far_59 (by decide) ?_
        refine r_goto 65 C dX11_far_60 (by decide) ?_
        exact hret _ _ _ _ dX11_far_65 rfl ⟨h15, o13⟩
    · have c16' := i_eq c16
      refine r_ldcw C mw6_112 dX11_far_19 ?_
      exact hret _ _ _ _ dX11_far_22 rfl ⟨h15, o13⟩
set_option maxHeartbeats 4000000 in
set_option maxRecDepth 100000 in
theorem ctX11_cell (l : Launch) (G : Gt) (w : Wv) (sM : Str KM XM w) (o0 : OkM w) (W : Int32) (pW : wI w 114 0 = W) (bW : 0 ≤ W.toInt ∧ W.toInt ≤ 9) (D : Int32) (pD : wI w 114 1 = D) (bD : 0 ≤ D.toInt ∧ D.toInt ≤ 9) (a1 : Int32) (a2 : Int32) : CtI l G yX11_cell cX11_cell 3 .int ({ frames := 2, cells := 0, slots := 0, locals := 47 } : Room) [.ref (gz G + 114), .int a1, .int a2] w (fun r w' => Ch [] [] w w' ∧ OkM w') := by
  refine enterI (by decide) (Nat.le_of_ble_eq_true rfl) ?_
  intro x el eG C hret
  subst el; subst eG
  show V x 0 0 w 0 [(0, .ref (gz (xG x) + 114)), (1, .int a1), (2, .int a2)] []
  have h0 : Ch [] [] w w := Ch.rf
  have qm1000000001 : ((-1000000001) : Int32).toInt = (-1000000001) := by decide
  have q0 : (0 : Int32).toInt = 0 := by decide
  obtain ⟨rA, rB, rC, rD⟩ := (o0.2 : Rel w)
  (try simp only [pW] at rA); (try simp only [pW] at rB); (try simp only [pW] at rC); (try simp only [pW] at rD)
  (try simp only [pD] at rA); (try simp only [pD] at rB); (try simp only [pD] at rC); (try simp only [pD] at rD)
  refine r_aload_n 0 C dX11_cell_0 rfl ?_
  refine r_iload_n 1 C dX11_cell_1 rfl ?_
  refine r_iload_n 2 C dX11_cell_2 rfl ?_
  refine callVI C cwX11_274_V (ctX11_isCell _ _ w (sS sM h0) o0 W pW (by omega) D pD (by omega) a1 a2 ) (by decide) (kS sM h0 kc_114) rfl rfl rfl (Nat.le_of_ble_eq_true rfl) (by decide) dX11_cell_3 (fun r3 w2 y1 => ?_)
  show V x 0 0 w2 6 [(0, .ref (gz (xG x) + 114)), (1, .int a1), (2, .int a2)] [.int r3]
  obtain ⟨h4, o5, g6⟩ := y1
  have h7 := Ch.tr h0 h4 (by decide) (by decide)
  refine r_if_eq 25 C dX11_cell_6 (by decide) (fun c8 => ?_) (fun c8 => ?_)
  · have c8' := i_eq c8
    refine r_ldcw C mw6_112 dX11_cell_25 ?_
    exact hret _ _ _ _ dX11_cell_28 rfl ⟨h7, o5⟩
  · have c8' := i_ne c8
    refine r_aload_n 0 C dX11_cell_9 rfl ?_
    refine gfX11_7 115 C (kS sM h7 kc_114) (xS sM h7 xc_114_2) dX11_cell_10 ?_
    have k9 := cell_rng (W := (W : Int32).toInt) (D := (D : Int32).toInt) (y := (a2 : Int32).toInt) (x := (a1 : Int32).toInt) (by omega) (by omega) (by omega)
    refine r_aload_n 0 C dX11_cell_13 rfl ?_
    refine gfX11_111 (v := W) C (kS sM h7 kc_114) (h4.I (by decide) (by decide) pW) dX11_cell_14 ?_
    refine r_iload_n 2 C dX11_cell_17 rfl ?_
    refine r_imul C dX11_cell_18 (fun v10 e11 => ?_)
    have v10' := imul_rng e11 (A := 9) (B := 8) (by omega) (by omega) (by decide)
    refine r_iload_n 1 C dX11_cell_19 rfl ?_
    refine r_iadd C dX11_cell_20 (fun v12 e13 => ?_)
    have v12' := iadd_ok e13 (by omega) (by omega)
    refine r_iald C (kS sM h7 kc_115) (vin (by omega) (by omega)) dX11_cell_21 ?_
    generalize (wI w2 115 (v12).toNatClampNeg) = v14
    refine r_goto 28 C dX11_cell_22 (by decide) ?_
    exact hret _ _ _ _ dX11_cell_28 rfl ⟨h7, o5⟩
set_option maxHeartbeats 4000000 in
set_option maxRecDepth 100000 in
theorem ctX11_followers (l : Launch) (G : Gt) (w : Wv) (sM : Str KM XM w) (o0 : OkM w) (a1 : Int32) (b1 : 0 ≤ a1.toInt ∧ a1.toInt ≤ 5) : CtI l G yX11_followers cX11_followers 2 .int ({ frames := 0, cells := 0, slots := 0, locals := 0 } : Room) [.ref (gz G + 114), .int a1] w (fun r w' => Ch [] [] w w' ∧ OkM w') := by
  refine enterI (by decide) (Nat.le_of_ble_eq_true rfl) ?_
  intro x el eG C hret
  subst el; subst eG
  show V x 0 0 w 0 [(0, .ref (gz (xG x) + 114)), (1, .int a1)] []
  have h0 : Ch [] [] w w := Ch.rf
  obtain ⟨rA, rB, rC, rD⟩ := (o0.2 : Rel w)
  refine r_aload_n 0 C dX11_followers_0 rfl ?_
  refine gfX11_16 117 C (kS sM h0 kc_114) (xS sM h0 xc_114_5) dX11_followers_1 ?_
  refine r_iload_n 1 C dX11_followers_4 rfl ?_
  refine r_iald C (kS sM h0 kc_117) (vin (by omega) (by omega)) dX11_followers_5 ?_
  generalize (wI w 117 (a1).toNatClampNeg) = v1
  refine r_aload_n 0 C dX11_followers_6 rfl ?_
  refine gfX11_22 119 C (kS sM h0 kc_114) (xS sM h0 xc_114_7) dX11_followers_7 ?_
  refine r_iload_n 1 C dX11_followers_10 rfl ?_
  refine r_iald C (kS sM h0 kc_119) (vin (by omega) (by omega)) dX11_followers_11 ?_
  generalize (wI w 119 (a1).toNatClampNeg) = v2
  refine r_isub C dX11_followers_12 (fun v3 e4 => ?_)
  exact hret _ _ _ _ dX11_followers_13 rfl ⟨h0, o0⟩
set_option maxHeartbeats 4000000 in
set_option maxRecDepth 100000 in
theorem ctX11_isHere (l : Launch) (G : Gt) (w : Wv) (sM : Str KM XM w) (o0 : OkM w) (a1 : Int32) (b1 : 0 ≤ a1.toInt ∧ a1.toInt ≤ 5) : CtI l G yX11_isHere cX11_isHere 2 .boolean ({ frames := 1, cells := 0, slots := 0, locals := 21 } : Room) [.ref (gz G + 114), .int a1] w (fun r w' => Ch [] [] w w' ∧ OkM w') := by
  refine enterI (by decide) (Nat.le_of_ble_eq_true rfl) ?_
  intro x el eG C hret
  subst el; subst eG
  show V x 0 0 w 0 [(0, .ref (gz (xG x) + 114)), (1, .int a1)] []
  have h0 : Ch [] [] w w := Ch.rf
  have q0 : (0 : Int32).toInt = 0 := by decide
  have q1 : (1 : Int32).toInt = 1 := by decide
  obtain ⟨rA, rB, rC, rD⟩ := (o0.2 : Rel w)
  refine r_aload_n 0 C dX11_isHere_0 rfl ?_
  refine r_iload_n 1 C dX11_isHere_1 rfl ?_
  refine callVI C cwX11_286_V (ctX11_followers _ _ w (sS sM h0) o0 a1 (by omega)) (by decide) (kS sM h0 kc_114) rfl rfl rfl (Nat.le_of_ble_eq_true rfl) (by decide) dX11_isHere_2 (fun r3 w2 y1 => ?_)
  show V x 0 0 w2 5 [(0, .ref (gz (xG x) + 114)), (1, .int a1)] [.int r3]
  obtain ⟨h4, o5⟩ := y1
  have h6 := Ch.tr h0 h4 (by decide) (by decide)
  refine r_if_le 21 C dX11_isHere_5 (by decide) (fun c7 => ?_) (fun c7 => ?_)
  · have c7' := i_le c7
    refine r_iconst (v := 0) C dX11_isHere_21 (by decide) ?_
    exact hret _ _ _ _ dX11_isHere_22 (nar_z (z_of (by omega))) ⟨h6, o5⟩
  · have c7' := i_nle c7
    refine r_aload_n 0 C dX11_isHere_8 rfl ?_
    refine gfX11_44 124 C (kS sM h6 kc_114) (xS sM h6 xc_114_16) dX11_isHere_9 ?_
    refine r_iload_n 1 C dX11_isHere_12 rfl ?_
    refine r_iald C (kS sM h6 kc_124) (vin (by omega) (by omega)) dX11_isHere_13 ?_
    generalize (wI w2 124 (a1).toNatClampNeg) = v8
    refine r_if_ne 21 C dX11_isHere_14 (by decide) (fun c9 => ?_) (fun c9 => ?_)
    · have c9' := i_ne c9
      refine r_iconst (v := 0) C dX11_isHere_21 (by decide) ?_
      exact hret _ _ _ _ dX11_isHere_22 (nar_z (z_of (by omega))) ⟨h6, o5⟩
    · have c9' := i_eq c9
      refine r_iconst (v := 1) C dX11_isHere_17 (by decide) ?_
      refine r_goto 22 C dX11_isHere_18 (by decide) ?_
      exact hret _ _ _ _ dX11_isHere_22 (nar_z (z_of (by omega))) ⟨h6, o5⟩
set_option maxHeartbeats 4000000 in
set_option maxRecDepth 100000 in
theorem ctX11_headsBy (l : Launch) (G : Gt) (w : Wv) (sM : Str KM XM w) (o0 : OkM w) (a1 : Int32) (a2 : Int32) : CtI l G yX11_headsBy cX11_headsBy 5 .int ({ frames := 1, cells := 0, slots := 0, locals := 21 } : Room) [.ref (gz G + 114), .int a1, .int a2] w (fun r w' => Ch [] [] w w' ∧ OkM w') := by
  refine enterI (by decide) (Nat.le_of_ble_eq_true rfl) ?_
  intro x el eG C hret
  subst el; subst eG
  show V x 0 0 w 0 [(0, .ref (gz (xG x) + 114)), (1, .int a1), (2, .int a2)] []
  have h0 : Ch [] [] w w := Ch.rf
  have qm1 : ((-1) : Int32).toInt = (-1) := by decide
  have q0 : (0 : Int32).toInt = 0 := by decide
  obtain ⟨rA, rB, rC, rD⟩ := (o0.2 : Rel w)
  have LP3 : ∀ (f4 : Nat) (u1 : Int32) (u2 : Int32) (w5 : Wv), Ch [] [] w w5 → OkM w5 → (0 ≤ u2.toInt ∧ u2.toInt ≤ 2147483647) → 2147483647 - u2.toInt < f4 → V x 0 0 w5 5 [(0, .ref (gz (xG x) + 114)), (1, .int a1), (2, .int a2), (3, .int u1), (4, .int u2)] [] := by
    intro f4
    induction f4 with
    | zero => intro u1 u2 w5 h6 o7 z8 z9; exfalso; omega
    | succ f4 ih10 =>
      intro u1 u2 w5 h6 o7 z8 z9
      refine r_iload 4 C dX11_headsBy_5 rfl ?_
      refine r_aload_n 0 C dX11_headsBy_7 rfl ?_
      refine gfX11_121 (v := (wI w 114 3)) C (kS sM h6 kc_114) (h6.I (by decide) (by decide) rfl) dX11_headsBy_8 ?_
      have b11 := Inv.get o0.1 rt_114_3 (j := 3) (by decide) (by decide)
      refine r_icmp_ge 60 C dX11_headsBy_11 (by decide) (fun c12 => ?_) (fun c12 => ?_)
      · have c12' := i_le c12
        refine r_iload_n 3 C dX11_headsBy_60 rfl ?_
        exact hret _ _ _ _ dX11_headsBy_61 rfl ⟨h6, o7⟩
      · have c12' := i_nle c12
        refine r_iload_n 3 C dX11_headsBy_14 rfl ?_
        refine r_iload_n 1 C dX11_headsBy_15 rfl ?_
        refine r_iconst (v := (-1)) C dX11_headsBy_16 (by decide) ?_
        refine r_icmp_eq 31 C dX11_headsBy_17 (by decide) (fun c13 => ?_) (fun c13 => ?_)
        · have c13' := i_eq c13
          refine r_aload_n 0 C dX11_headsBy_31 rfl ?_
          refine gfX11_44 124 C (kS sM h6 kc_114) (xS sM h6 xc_114_16) dX11_headsBy_32 ?_
          refine r_iload 4 C dX11_headsBy_35 rfl ?_
          refine r_iald C (kS sM h6 kc_124) (vin (by omega) (by omega)) dX11_headsBy_37 ?_
          generalize (wI w5 124 (u2).toNatClampNeg) = v14
          refine r_iload_n 2 C dX11_headsBy_38 rfl ?_
          refine r_icmp_ne 51 C dX11_headsBy_39 (by decide) (fun c15 => ?_) (fun c15 => ?_)
          · have c15' := i_ne c15
            refine r_iconst (v := 0) C dX11_headsBy_51 (by decide) ?_
            refine r_iadd C dX11_headsBy_52 (fun v16 e17 => ?_)
            have v16' := iadd_ok e17 (by omega) (by omega)
            refine r_istore_n [(3, .int v16), (0, .ref (gz (xG x) + 114)), (1, .int a1), (2, .int a2), (4, .int u2)] C dX11_headsBy_53 (by decide) rfl ?_
            obtain ⟨i18, e19⟩ : ∃ z : Int32, u2 + Int32.ofInt 1 = z := ⟨_, rfl⟩
            have i18' := iinc_ok e19 (by decide) (by omega) (by omega)
            refine r_iinc [(4, .int i18), (3, .int v16), (0, .ref (gz (xG x) + 114)), (1, .int a1), (2, .int a2)] 4 C dX11_headsBy_54 rfl e19 (by decide) rfl ?_
            refine r_goto 5 C dX11_headsBy_57 (by decide) ?_
            refine r_lv [2, 3, 4, 1, 0] rfl ?_
            exact ih10 v16 i18 w5 h6 o7 (by omega) (by omega)
          · have c15' := i_eq c15
            refine r_aload_n 0 C dX11_headsBy_42 rfl ?_
            refine r_iload 4 C dX11_headsBy_43 rfl ?_
            refine callVI C cwX11_286_V (ctX11_followers _ _ w5 (sS sM h6) o7 u2 (by omega)) (by decide) (kS sM h6 kc_114) rfl rfl rfl (Nat.le_of_ble_eq_true rfl) (by decide) dX11_headsBy_45 (fun r22 w21 y20 => ?_)
            show V x 0 0 w21 48 [(0, .ref (gz (xG x) + 114)), (1, .int a1), (2, .int a2), (3, .int u1), (4, .int u2)] [.int r22, .int u1]
            obtain ⟨h23, o24⟩ := y20
            have h25 := Ch.tr h6 h23 (by decide) (by decide)
            refine r_goto 52 C dX11_headsBy_48 (by decide) ?_
            refine r_iadd C dX11_headsBy_52 (fun v26 e27 => ?_)
            refine r_istore_n [(3, .int v26), (0, .ref (gz (xG x) + 114)), (1, .int a1), (2, .int a2), (4, .int u2)] C dX11_headsBy_53 (by decide) rfl ?_
            obtain ⟨i28, e29⟩ : ∃ z : Int32, u2 + Int32.ofInt 1 = z := ⟨_, rfl⟩
            have i28' := iinc_ok e29 (by decide) (by omega) (by omega)
            refine r_iinc [(4, .int i28), (3, .int v26), (0, .ref (gz (xG x) + 114)), (1, .int a1), (2, .int a2)] 4 C dX11_headsBy_54 rfl e29 (by decide) rfl ?_
            refine r_goto 5 C dX11_headsBy_57 (by decide) ?_
            refine r_lv [2, 3, 4, 1, 0] rfl ?_
            exact ih10 v26 i28 w21 h25 o24 (by omega) (by omega)
        · have c13' := i_ne c13
          refine r_aload_n 0 C dX11_headsBy_20 rfl ?_
          refine gfX11_13 116 C (kS sM h6 kc_114) (xS sM h6 xc_114_4) dX11_headsBy_21 ?_
          refine r_iload 4 C dX11_headsBy_24 rfl ?_
          refine r_iald C (kS sM h6 kc_116) (vin (by omega) (by omega)) dX11_headsBy_26 ?_
          generalize (wI w5 116 (u2).toNatClampNeg) = v30
          refine r_iload_n 1 C dX11_headsBy_27 rfl ?_
          refine r_icmp_ne 51 C dX11_headsBy_28 (by decide) (fun c31 => ?_) (fun c31 => ?_)
          · have c31' := i_ne c31
            refine r_iconst (v := 0) C dX11_headsBy_51 (by decide) ?_
            refine r_iadd C dX11_headsBy_52 (fun v32 e33 => ?_)
            have v32' := iadd_ok e33 (by omega) (by omega)
            refine r_istore_n [(3, .int v32), (0, .ref (gz (xG x) + 114)), (1, .int a1), (2, .int a2), (4, .int u2)] C dX11_headsBy_53 (by decide) rfl ?_
            obtain ⟨i34, e35⟩ : ∃ z : Int32, u2 + Int32.ofInt 1 = z := ⟨_, rfl⟩
            have i34' := iinc_ok e35 (by decide) (by omega) (by omega)
            refine r_iinc [(4, .int i34), (3, .int v32), (0, .ref (gz (xG x) + 114)), (1, .int a1), (2, .int a2)] 4 C dX11_headsBy_54 rfl e35 (by decide) rfl ?_
            refine r_goto 5 C dX11_headsBy_57 (by decide) ?_
            refine r_lv [2, 3, 4, 1, 0] rfl ?_
            exact ih10 v32 i34 w5 h6 o7 (by omega) (by omega)
          · have c31' := i_eq c31
            refine r_aload_n 0 C dX11_headsBy_31 rfl ?_
            refine gfX11_44 124 C (kS sM h6 kc_114) (xS sM h6 xc_114_16) dX11_headsBy_32 ?_
            refine r_iload 4 C dX11_headsBy_35 rfl ?_
            refine r_iald C (kS sM h6 kc_124) (vin (by omega) (by omega)) dX11_headsBy_37 ?_
            generalize (wI w5 124 (u2).toNatClampNeg) = v36
            refine r_iload_n 2 C dX11_headsBy_38 rfl ?_
            refine r_icmp_ne 51 C dX11_headsBy_39 (by decide) (fun c37 => ?_) (fun c37 => ?_)
            · have c37' := i_ne c37
              refine r_iconst (v := 0) C dX11_headsBy_51 (by decide) ?_
              refine r_iadd C dX11_headsBy_52 (fun v38 e39 => ?_)
              have v38' := iadd_ok e39 (by omega) (by omega)
              refine r_istore_n [(3, .int v38), (0, .ref (gz (xG x) + 114)), (1, .int a1), (2, .int a2), (4, .int u2)] C dX11_headsBy_53 (by decide) rfl ?_
              obtain ⟨i40, e41⟩ : ∃ z : Int32, u2 + Int32.ofInt 1 = z := ⟨_, rfl⟩
              have i40' := iinc_ok e41 (by decide) (by omega) (by omega)
              refine r_iinc [(4, .int i40), (3, .int v38), (0, .ref (gz (xG x) + 114)), (1, .int a1), (2, .int a2)] 4 C dX11_headsBy_54 rfl e41 (by decide) rfl ?_
              refine r_goto 5 C dX11_headsBy_57 (by decide) ?_
              refine r_lv [2, 3, 4, 1, 0] rfl ?_
              exact ih10 v38 i40 w5 h6 o7 (by omega) (by omega)
            · have c37' := i_eq c37
              refine r_aload_n 0 C dX11_headsBy_42 rfl ?_
              refine r_iload 4 C dX11_headsBy_43 rfl ?_
              refine callVI C cwX11_286_V (ctX11_followers _ _ w5 (sS sM h6) o7 u2 (by omega)) (by decide) (kS sM h6 kc_114) rfl rfl rfl (Nat.le_of_ble_eq_true rfl) (by decide) dX11_headsBy_45 (fun r44 w43 y42 => ?_)
              show V x 0 0 w43 48 [(0, .ref (gz (xG x) + 114)), (1, .int a1), (2, .int a2), (3, .int u1), (4, .int u2)] [.int r44, .int u1]
              obtain ⟨h45, o46⟩ := y42
              have h47 := Ch.tr h6 h45 (by decide) (by decide)
              refine r_goto 52 C dX11_headsBy_48 (by decide) ?_
              refine r_iadd C dX11_headsBy_52 (fun v48 e49 => ?_)
              refine r_istore_n [(3, .int v48), (0, .ref (gz (xG x) + 114)), (1, .int a1), (2, .int a2), (4, .int u2)] C dX11_headsBy_53 (by decide) rfl ?_
              obtain ⟨i50, e51⟩ : ∃ z : Int32, u2 + Int32.ofInt 1 = z := ⟨_, rfl⟩
              have i50' := iinc_ok e51 (by decide) (by omega) (by omega)
              refine r_iinc [(4, .int i50), (3, .int v48), (0, .ref (gz (xG x) + 114)), (1, .int a1), (2, .int a2)] 4 C dX11_headsBy_54 rfl e51 (by decide) rfl ?_
              refine r_goto 5 C dX11_headsBy_57 (by decide) ?_
              refine r_lv [2, 3, 4, 1, 0] rfl ?_
              exact ih10 v48 i50 w43 h47 o46 (by omega) (by omega)
  refine r_iconst (v := 0) C dX11_headsBy_0 (by decide) ?_
  refine r_istore_n [(3, .int 0), (0, .ref (gz (xG x) + 114)), (1, .int a1), (2, .int a2)] C dX11_headsBy_1 (by decide) rfl ?_
  refine r_iconst (v := 0) C dX11_headsBy_2 (by decide) ?_
  refine r_istore [(4, .int 0), (3, .int 0), (0, .ref (gz (xG x) + 114)), (1, .int a1), (2, .int a2)] C dX11_headsBy_3 (by decide) rfl ?_
  refine r_lv [2, 3, 4, 1, 0] rfl ?_
  exact LP3 4294967296 0 0 w h0 o0 (by omega) (by omega)
set_option maxHeartbeats 4000000 in
set_option maxRecDepth 100000 in
theorem ctX11_allHeads (l : Launch) (G : Gt) (w : Wv) (sM : Str KM XM w) (o0 : OkM w)  : CtI l G yX11_allHeads cX11_allHeads 3 .int ({ frames := 0, cells := 0, slots := 0, locals := 0 } : Room) [.ref (gz G + 114)] w (fun r w' => Ch [] [] w w' ∧ OkM w') := by
  refine enterI (by decide) (Nat.le_of_ble_eq_true rfl) ?_
  intro x el eG C hret
  subst el; subst eG
  show V x 0 0 w 0 [(0, .ref (gz (xG x) + 114))] []
  have h0 : Ch [] [] w w := Ch.rf
  have q0 : (0 : Int32).toInt = 0 := by decide
  obtain ⟨rA, rB, rC, rD⟩ := (o0.2 : Rel w)
  have LP3 : ∀ (f4 : Nat) (u1 : Int32) (u2 : Int32) (w5 : Wv), Ch [] [] w w5 → OkM w5 → (0 ≤ u2.toInt ∧ u2.toInt ≤ 2147483647) → 2147483647 - u2.toInt < f4 → V x 0 0 w5 4 [(0, .ref (gz (xG x) + 114)), (1, .int u1), (2, .int u2)] [] := by
    intro f4
    induction f4 with
    | zero => intro u1 u2 w5 h6 o7 z8 z9; exfalso; omega
    | succ f4 ih10 =>
      intro u1 u2 w5 h6 o7 z8 z9
      refine r_iload_n 2 C dX11_allHeads_4 rfl ?_
      refine r_aload_n 0 C dX11_allHeads_5 rfl ?_
      refine gfX11_121 (v := (wI w 114 3)) C (kS sM h6 kc_114) (h6.I (by decide) (by decide) rfl) dX11_allHeads_6 ?_
      have b11 := Inv.get o0.1 rt_114_3 (j := 3) (by decide) (by decide)
      refine r_icmp_ge 27 C dX11_allHeads_9 (by decide) (fun c12 => ?_) (fun c12 => ?_)
      · have c12' := i_le c12
        refine r_iload_n 1 C dX11_allHeads_27 rfl ?_
        exact hret _ _ _ _ dX11_allHeads_28 rfl ⟨h6, o7⟩
      · have c12' := i_nle c12
        refine r_iload_n 1 C dX11_allHeads_12 rfl ?_
        refine r_aload_n 0 C dX11_allHeads_13 rfl ?_
        refine gfX11_16 117 C (kS sM h6 kc_114) (xS sM h6 xc_114_5) dX11_allHeads_14 ?_
        refine r_iload_n 2 C dX11_allHeads_17 rfl ?_
        refine r_iald C (kS sM h6 kc_117) (vin (by omega) (by omega)) dX11_allHeads_18 ?_
        generalize (wI w5 117 (u2).toNatClampNeg) = v13
        refine r_iadd C dX11_allHeads_19 (fun v14 e15 => ?_)
        refine r_istore_n [(1, .int v14), (0, .ref (gz (xG x) + 114)), (2, .int u2)] C dX11_allHeads_20 (by decide) rfl ?_
        obtain ⟨i16, e17⟩ : ∃ z : Int32, u2 + Int32.ofInt 1 = z := ⟨_, rfl⟩
        have i16' := iinc_ok e17 (by decide) (by omega) (by omega)
        refine r_iinc [(2, .int i16), (1, .int v14), (0, .ref (gz (xG x) + 114))] 2 C dX11_allHeads_21 rfl e17 (by decide) rfl ?_
        refine r_goto 4 C dX11_allHeads_24 (by decide) ?_
        refine r_lv [2, 1, 0] rfl ?_
        exact ih10 v14 i16 w5 h6 o7 (by omega) (by omega)
  refine r_iconst (v := 0) C dX11_allHeads_0 (by decide) ?_
  refine r_istore_n [(1, .int 0), (0, .ref (gz (xG x) + 114))] C dX11_allHeads_1 (by decide) rfl ?_
  refine r_iconst (v := 0) C dX11_allHeads_2 (by decide) ?_
  refine r_istore_n [(2, .int 0), (1, .int 0), (0, .ref (gz (xG x) + 114))] C dX11_allHeads_3 (by decide) rfl ?_
  refine r_lv [2, 1, 0] rfl ?_
  exact LP3 4294967296 0 0 w h0 o0 (by omega) (by omega)
set_option maxHeartbeats 4000000 in
set_option maxRecDepth 100000 in
theorem ctX11_worth (l : Launch) (G : Gt) (w : Wv) (sM : Str KM XM w) (o0 : OkM w)  : CtI l G yX11_worth cX11_worth 1 .int ({ frames := 2, cells := 0, slots := 0, locals := 45 } : Room) [.ref (gz G + 114)] w (fun r w' => Ch [] [] w w' ∧ OkM w') := by
  refine enterI (by decide) (Nat.le_of_ble_eq_true rfl) ?_
  intro x el eG C hret
  subst el; subst eG
  show V x 0 0 w 0 [(0, .ref (gz (xG x) + 114))] []
  have h0 : Ch [] [] w w := Ch.rf
  have qm1 : ((-1) : Int32).toInt = (-1) := by decide
  have q1 : (1 : Int32).toInt = 1 := by decide
  have q2 : (2 : Int32).toInt = 2 := by decide
  obtain ⟨rA, rB, rC, rD⟩ := (o0.2 : Rel w)
  refine r_aload_n 0 C dX11_worth_0 rfl ?_
  refine gfX11_31 (v := (wI w 114 11)) C (kS sM h0 kc_114) rfl dX11_worth_1 ?_
  refine r_aload_n 0 C dX11_worth_4 rfl ?_
  refine r_iconst (v := (-1)) C dX11_worth_5 (by decide) ?_
  refine r_iconst (v := 1) C dX11_worth_6 (by decide) ?_
  refine callVI C cwX11_289_V (ctX11_headsBy _ _ w (sS sM h0) o0 (-1) 1 ) (by decide) (kS sM h0 kc_114) rfl rfl rfl (Nat.le_of_ble_eq_true rfl) (by decide) dX11_worth_7 (fun r3 w2 y1 => ?_)
  show V x 0 0 w2 10 [(0, .ref (gz (xG x) + 114))] [.int r3, .int (wI w 114 11)]
  obtain ⟨h4, o5⟩ := y1
  have h6 := Ch.tr h0 h4 (by decide) (by decide)
  refine r_imul C dX11_worth_10 (fun v7 e8 => ?_)
  refine r_aload_n 0 C dX11_worth_11 rfl ?_
  refine gfX11_35 (v := (wI w 114 12)) C (kS sM h6 kc_114) (h4.I (by decide) (by decide) rfl) dX11_worth_12 ?_
  refine r_aload_n 0 C dX11_worth_15 rfl ?_
  refine r_iconst (v := (-1)) C dX11_worth_16 (by decide) ?_
  refine r_iconst (v := 2) C dX11_worth_17 (by decide) ?_
  refine callVI C cwX11_289_V (ctX11_headsBy _ _ w2 (sS sM h6) o5 (-1) 2 ) (by decide) (kS sM h6 kc_114) rfl rfl rfl (Nat.le_of_ble_eq_true rfl) (by decide) dX11_worth_18 (fun r11 w10 y9 => ?_)
  show V x 0 0 w10 21 [(0, .ref (gz (xG x) + 114))] [.int r11, .int (wI w 114 12), .int v7]
  obtain ⟨h12, o13⟩ := y9
  have h14 := Ch.tr h6 h12 (by decide) (by decide)
  refine r_imul C dX11_worth_21 (fun v15 e16 => ?_)
  refine r_isub C dX11_worth_22 (fun v17 e18 => ?_)
  exact hret _ _ _ _ dX11_worth_23 rfl ⟨h14, o13⟩
set_option maxHeartbeats 4000000 in
set_option maxRecDepth 100000 in
theorem ctX11_told (l : Launch) (G : Gt) (w : Wv) (sM : Str KM XM w) (o0 : OkM w) (a1 : Int32) : CtI l G yX11_told cX11_told 2 .int ({ frames := 3, cells := 0, slots := 0, locals := 65 } : Room) [.ref (gz G + 114), .int a1] w (fun r w' => Ch [] [] w w' ∧ OkM w') := by
  refine enterI (by decide) (Nat.le_of_ble_eq_true rfl) ?_
  intro x el eG C hret
  subst el; subst eG
  show V x 0 0 w 0 [(0, .ref (gz (xG x) + 114)), (1, .int a1)] []
  have h0 : Ch [] [] w w := Ch.rf
  have qm1000000002 : ((-1000000002) : Int32).toInt = (-1000000002) := by decide
  have qm1 : ((-1) : Int32).toInt = (-1) := by decide
  have q0 : (0 : Int32).toInt = 0 := by decide
  have q1 : (1 : Int32).toInt = 1 := by decide
  have q2 : (2 : Int32).toInt = 2 := by decide
  obtain ⟨rA, rB, rC, rD⟩ := (o0.2 : Rel w)
  refine r_iload_n 1 C dX11_told_0 rfl ?_
  by_cases c1 : (a1 : Int32).toInt < 0 ∨ 12 < (a1 : Int32).toInt
  · refine r_tabOut 166 C dX11_told_1 c1 (by decide) ?_
    refine r_ldc C mw5_239 dX11_told_166 ?_
    exact hret _ _ _ _ dX11_told_168 rfl ⟨h0, o0⟩
  · rcases (show (a1 : Int32).toInt = 0 ∨ (a1 : Int32).toInt = 1 ∨ (a1 : Int32).toInt = 2 ∨ (a1 : Int32).toInt = 3 ∨ (a1 : Int32).toInt = 4 ∨ (a1 : Int32).toInt = 5 ∨ (a1 : Int32).toInt = 6 ∨ (a1 : Int32).toInt = 7 ∨ (a1 : Int32).toInt = 8 ∨ (a1 : Int32).toInt = 9 ∨ (a1 : Int32).toInt = 10 ∨ (a1 : Int32).toInt = 11 ∨ (a1 : Int32).toInt = 12 by omega) with c1 | c1 | c1 | c1 | c1 | c1 | c1 | c1 | c1 | c1 | c1 | c1 | c1
    · refine r_tabIn 68 C dX11_told_1 (by omega) (by omega) (by rw [c1]; rfl) (by decide) ?_
      refine r_aload_n 0 C dX11_told_68 rfl ?_
      refine gfX11_111 (v := (wI w 114 0)) C (kS sM h0 kc_114) rfl dX11_told_69 ?_
      have b2 := Inv.get o0.1 rt_114_0 (j := 0) (by decide) (by decide)
      exact hret _ _ _ _ dX11_told_72 rfl ⟨h0, o0⟩
    · refine r_tabIn 73 C dX11_told_1 (by omega) (by omega) (by rw [c1]; rfl) (by decide) ?_
      refine r_aload_n 0 C dX11_told_73 rfl ?_
      refine gfX11_118 (v := (wI w 114 1)) C (kS sM h0 kc_114) rfl dX11_told_74 ?_
      have b3 := Inv.get o0.1 rt_114_1 (j := 1) (by decide) (by decide)
      exact hret _ _ _ _ dX11_told_77 rfl ⟨h0, o0⟩
    · refine r_tabIn 78 C dX11_told_1 (by omega) (by omega) (by rw [c1]; rfl) (by decide) ?_
      refine r_aload_n 0 C dX11_told_78 rfl ?_
      refine gfX11_121 (v := (wI w 114 3)) C (kS sM h0 kc_114) rfl dX11_told_79 ?_
      have b4 := Inv.get o0.1 rt_114_3 (j := 3) (by decide) (by decide)
      exact hret _ _ _ _ dX11_told_82 rfl ⟨h0, o0⟩
    · refine r_tabIn 83 C dX11_told_1 (by omega) (by omega) (by rw [c1]; rfl) (by decide) ?_
      refine r_aload_n 0 C dX11_told_83 rfl ?_
      refine gfX11_124 (v := (wI w 114 8)) C (kS sM h0 kc_114) rfl dX11_told_84 ?_
      have b5 := Inv.get o0.1 rt_114_8 (j := 8) (by decide) (by decide)
      exact hret _ _ _ _ dX11_told_87 rfl ⟨h0, o0⟩
    · refine r_tabIn 88 C dX11_told_1 (by omega) (by omega) (by rw [c1]; rfl) (by decide) ?_
      refine r_aload_n 0 C dX11_told_88 rfl ?_
      refine gfX11_130 (v := (wI w 114 20)) C (kS sM h0 kc_114) rfl dX11_told_89 ?_
      have b6 := Inv.get o0.1 rt_114_20 (j := 20) (by decide) (by decide)
      exact hret _ _ _ _ dX11_told_92 rfl ⟨h0, o0⟩
    · refine r_tabIn 93 C dX11_told_1 (by omega) (by omega) (by rw [c1]; rfl) (by decide) ?_
      refine r_aload_n 0 C dX11_told_93 rfl ?_
      refine gfX11_262 (v := (wI w 114 17)) C (kS sM h0 kc_114) rfl dX11_told_94 ?_
      exact hret _ _ _ _ dX11_told_97 rfl ⟨h0, o0⟩
    · refine r_tabIn 98 C dX11_told_1 (by omega) (by omega) (by rw [c1]; rfl) (by decide) ?_
      refine r_aload_n 0 C dX11_told_98 rfl ?_
      refine gfX11_111 (v := (wI w 114 0)) C (kS sM h0 kc_114) rfl dX11_told_99 ?_
      have b7 := Inv.get o0.1 rt_114_0 (j := 0) (by decide) (by decide)
      refine r_if_ne 109 C dX11_told_102 (by decide) (fun c8 => ?_) (fun c8 => ?_)
      · have c8' := i_ne c8
        refine r_aload_n 0 C dX11_told_109 rfl ?_
        refine r_aload_n 0 C dX11_told_110 rfl ?_
        refine gfX11_259 (v := (wI w 114 13)) C (kS sM h0 kc_114) rfl dX11_told_111 ?_
        have b9 := Inv.get o0.1 rt_114_13 (j := 13) (by decide) (by decide)
        refine callVI C cwX11_292_V (ctX11_told10 _ _ w (sS sM h0) o0 (wI w 114 0) rfl (by omega) (wI w 114 13) (by omega)) (by decide) (kS sM h0 kc_114) rfl rfl rfl (Nat.le_of_ble_eq_true rfl) (by decide) dX11_told_114 (fun r12 w11 y10 => ?_)
        show V x 0 0 w11 117 [(0, .ref (gz (xG x) + 114)), (1, .int a1)] [.int r12]
        obtain ⟨h13, o14⟩ := y10
        have h15 := Ch.tr h0 h13 (by decide) (by decide)
        exact hret _ _ _ _ dX11_told_117 rfl ⟨h15, o14⟩
      · have c8' := i_eq c8
        refine r_iconst (v := 0) C dX11_told_105 (by decide) ?_
        refine r_goto 117 C dX11_told_106 (by decide) ?_
        exact hret _ _ _ _ dX11_told_117 rfl ⟨h0, o0⟩
    · refine r_tabIn 118 C dX11_told_1 (by omega) (by omega) (by rw [c1]; rfl) (by decide) ?_
      refine r_aload_n 0 C dX11_told_118 rfl ?_
      refine r_iconst (v := (-1)) C dX11_told_119 (by decide) ?_
      refine r_iconst (v := 1) C dX11_told_120 (by decide) ?_
      refine callVI C cwX11_289_V (ctX11_headsBy _ _ w (sS sM h0) o0 (-1) 1 ) (by decide) (kS sM h0 kc_114) rfl rfl rfl (Nat.le_of_ble_eq_true rfl) (by decide) dX11_told_121 (fun r18 w17 y16 => ?_)
      show V x 0 0 w17 124 [(0, .ref (gz (xG x) + 114)), (1, .int a1)] [.int r18]
      obtain ⟨h19, o20⟩ := y16
      have h21 := Ch.tr h0 h19 (by decide) (by decide)
      exact hret _ _ _ _ dX11_told_124 rfl ⟨h21, o20⟩
    · refine r_tabIn 125 C dX11_told_1 (by omega) (by omega) (by rw [c1]; rfl) (by decide) ?_
      refine r_aload_n 0 C dX11_told_125 rfl ?_
      refine r_iconst (v := (-1)) C dX11_told_126 (by decide) ?_
      refine r_iconst (v := 2) C dX11_told_127 (by decide) ?_
      refine callVI C cwX11_289_V (ctX11_headsBy _ _ w (sS sM h0) o0 (-1) 2 ) (by decide) (kS sM h0 kc_114) rfl rfl rfl (Nat.le_of_ble_eq_true rfl) (by decide) dX11_told_128 (fun r24 w23 y22 => ?_)
      show V x 0 0 w23 131 [(0, .ref (gz (xG x) + 114)), (1, .int a1)] [.int r24]
      obtain ⟨h25, o26⟩ := y22
      have h27 := Ch.tr h0 h25 (by decide) (by decide)
      exact hret _ _ _ _ dX11_told_131 rfl ⟨h27, o26⟩
    · refine r_tabIn 132 C dX11_told_1 (by omega) (by omega) (by rw [c1]; rfl) (by decide) ?_
      refine r_aload_n 0 C dX11_told_132 rfl ?_
      refine callVI C cwX11_295_V (ctX11_allHeads _ _ w (sS sM h0) o0  ) (by decide) (kS sM h0 kc_114) rfl rfl rfl (Nat.le_of_ble_eq_true rfl) (by decide) dX11_told_133 (fun r30 w29 y28 => ?_)
      show V x 0 0 w29 136 [(0, .ref (gz (xG x) + 114)), (1, .int a1)] [.int r30]
      obtain ⟨h31, o32⟩ := y28
      have h33 := Ch.tr h0 h31 (by decide) (by decide)
      refine r_aload_n 0 C dX11_told_136 rfl ?_
      refine r_iconst (v := (-1)) C dX11_told_137 (by decide) ?_
      refine r_iconst (v := 1) C dX11_told_138 (by decide) ?_
      refine callVI C cwX11_289_V (ctX11_headsBy _ _ w29 (sS sM h33) o32 (-1) 1 ) (by decide) (kS sM h33 kc_114) rfl rfl rfl (Nat.le_of_ble_eq_true rfl) (by decide) dX11_told_139 (fun r36 w35 y34 => ?_)
      show V x 0 0 w35 142 [(0, .ref (gz (xG x) + 114)), (1, .int a1)] [.int r36, .int r30]
      obtain ⟨h37, o38⟩ := y34
      have h39 := Ch.tr h33 h37 (by decide) (by decide)
      refine r_isub C dX11_told_142 (fun v40 e41 => ?_)
      refine r_aload_n 0 C dX11_told_143 rfl ?_
      refine r_iconst (v := (-1)) C dX11_told_144 (by decide) ?_
      refine r_iconst (v := 2) C dX11_told_145 (by decide) ?_
      refine callVI C cwX11_289_V (ctX11_headsBy _ _ w35 (sS sM h39) o38 (-1) 2 ) (by decide) (kS sM h39 kc_114) rfl rfl rfl (Nat.le_of_ble_eq_true rfl) (by decide) dX11_told_146 (fun r44 w43 y42 => ?_)
      show V x 0 0 w43 149 [(0, .ref (gz (xG x) + 114)), (1, .int a1)] [.int r44, .int v40]
      obtain ⟨h45, o46⟩ := y42
      have h47 := Ch.tr h39 h45 (by decide) (by decide)
      refine r_isub C dX11_told_149 (fun v48 e49 => ?_)
      exact hret _ _ _ _ dX11_told_150 rfl ⟨h47, o46⟩
    · refine r_tabIn 151 C dX11_told_1 (by omega) (by omega) (by rw [c1]; rfl) (by decide) ?_
      refine r_aload_n 0 C dX11_told_151 rfl ?_
      refine callVI C cwX11_298_V (ctX11_worth _ _ w (sS sM h0) o0  ) (by decide) (kS sM h0 kc_114) rfl rfl rfl (Nat.le_of_ble_eq_true rfl) (by decide) dX11_told_152 (fun r52 w51 y50 => ?_)
      show V x 0 0 w51 155 [(0, .ref (gz (xG x) + 114)), (1, .int a1)] [.int r52]
      obtain ⟨h53, o54⟩ := y50
      have h55 := Ch.tr h0 h53 (by decide) (by decide)
      exact hret _ _ _ _ dX11_told_155 rfl ⟨h55, o54⟩
    · refine r_tabIn 156 C dX11_told_1 (by omega) (by omega) (by rw [c1]; rfl) (by decide) ?_
      refine r_aload_n 0 C dX11_told_156 rfl ?_
      refine gfX11_265 (v := (wI w 114 49)) C (kS sM h0 kc_114) rfl dX11_told_157 ?_
      have b56 := Inv.get o0.1 rt_114_49 (j := 49) (by decide) (by decide)
      exact hret _ _ _ _ dX11_told_160 rfl ⟨h0, o0⟩
    · refine r_tabIn 161 C dX11_told_1 (by omega) (by omega) (by rw [c1]; rfl) (by decide) ?_
      refine r_aload_n 0 C dX11_told_161 rfl ?_
      refine gfX11_268 (v := (wI w 114 52)) C (kS sM h0 kc_114) rfl dX11_told_162 ?_
      have b57 := Inv.get o0.1 rt_114_52 (j := 52) (by decide) (by decide)
      exact hret _ _ _ _ dX11_told_165 rfl ⟨h0, o0⟩
set_option maxHeartbeats 4000000 in
set_option maxRecDepth 100000 in
theorem ctX11_hears (l : Launch) (G : Gt) (w : Wv) (sM : Str KM XM w) (o0 : OkM w) (a1 : Int32) (a2 : Int32) (b1 : 0 ≤ a1.toInt ∧ a1.toInt ≤ 5) (b2 : 0 ≤ a2.toInt ∧ a2.toInt ≤ 2) : CtI l G yX11_hears cX11_hears 3 .boolean ({ frames := 2, cells := 0, slots := 0, locals := 42 } : Room) [.ref (gz G + 114), .int a1, .int a2] w (fun r w' => Ch [] [] w w' ∧ OkM w') := by
  refine enterI (by decide) (Nat.le_of_ble_eq_true rfl) ?_
  intro x el eG C hret
  subst el; subst eG
  show V x 0 0 w 0 [(0, .ref (gz (xG x) + 114)), (1, .int a1), (2, .int a2)] []
  have h0 : Ch [] [] w w := Ch.rf
  have q0 : (0 : Int32).toInt = 0 := by decide
  have q1 : (1 : Int32).toInt = 1 := by decide
  have q42 : (42 : Int32).toInt = 42 := by decide
  obtain ⟨rA, rB, rC, rD⟩ := (o0.2 : Rel w)
  refine r_aload_n 0 C dX11_hears_0 rfl ?_
  refine r_iload_n 1 C dX11_hears_1 rfl ?_
  refine callVI C cwX11_304_V (ctX11_isHere _ _ w (sS sM h0) o0 a1 (by omega)) (by decide) (kS sM h0 kc_114) rfl rfl rfl (Nat.le_of_ble_eq_true rfl) (by decide) dX11_hears_2 (fun r3 w2 y1 => ?_)
  show V x 0 0 w2 5 [(0, .ref (gz (xG x) + 114)), (1, .int a1), (2, .int a2)] [.int r3]
  obtain ⟨h4, o5⟩ := y1
  have h6 := Ch.tr h0 h4 (by decide) (by decide)
  refine r_if_eq 58 C dX11_hears_5 (by decide) (fun c7 => ?_) (fun c7 => ?_)
  · have c7' := i_eq c7
    refine r_iconst (v := 0) C dX11_hears_58 (by decide) ?_
    exact hret _ _ _ _ dX11_hears_59 (nar_z (z_of (by omega))) ⟨h6, o5⟩
  · have c7' := i_ne c7
    refine r_aload_n 0 C dX11_hears_8 rfl ?_
    refine gfX11_25 120 C (kS sM h6 kc_114) (xS sM h6 xc_114_9) dX11_hears_9 ?_
    refine r_iload_n 2 C dX11_hears_12 rfl ?_
    refine r_iald C (kS sM h6 kc_120) (vin (by omega) (by omega)) dX11_hears_13 ?_
    generalize (wI w2 120 (a2).toNatClampNeg) = v8
    refine r_aload_n 0 C dX11_hears_14 rfl ?_
    refine gfX11_13 116 C (kS sM h6 kc_114) (xS sM h6 xc_114_4) dX11_hears_15 ?_
    refine r_iload_n 1 C dX11_hears_18 rfl ?_
    refine r_iald C (kS sM h6 kc_116) (vin (by omega) (by omega)) dX11_hears_19 ?_
    generalize (wI w2 116 (a1).toNatClampNeg) = v9
    refine callSI C cwX11_307_S (ctX11_has _ _ w2 v8 v9 ) (by decide) rfl rfl (Nat.le_of_ble_eq_true rfl) (by decide) dX11_hears_20 (fun r12 w11 y10 => ?_)
    subst y10
    show V x 0 0 w2 23 [(0, .ref (gz (xG x) + 114)), (1, .int a1), (2, .int a2)] [.int r12]
    refine r_if_eq 58 C dX11_hears_23 (by decide) (fun c14 => ?_) (fun c14 => ?_)
    · have c14' := i_eq c14
      refine r_iconst (v := 0) C dX11_hears_58 (by decide) ?_
      exact hret _ _ _ _ dX11_hears_59 (nar_z (z_of (by omega))) ⟨h6, o5⟩
    · have c14' := i_ne c14
      refine r_aload_n 0 C dX11_hears_26 rfl ?_
      refine gfX11_77 134 C (kS sM h6 kc_114) (xS sM h6 xc_114_44) dX11_hears_27 ?_
      refine r_bipush (v := 42) C dX11_hears_30 (by decide) ?_
      refine r_aload_n 0 C dX11_hears_32 rfl ?_
      refine gfX11_259 (v := (wI w 114 13)) C (kS sM h6 kc_114) (h4.I (by decide) (by decide) rfl) dX11_hears_33 ?_
      have b15 := Inv.get o0.1 rt_114_13 (j := 13) (by decide) (by decide)
      refine r_imul C dX11_hears_36 (fun v16 e17 => ?_)
      have k18 : (42 : Int32).toInt = 42 := by omega
      have v16' := imul_ok e17 (by rw [k18]; omega) (by rw [k18]; omega)
      rw [k18] at v16'
      refine r_aload_n 0 C dX11_hears_37 rfl ?_
      refine gfX11_38 122 C (kS sM h6 kc_114) (xS sM h6 xc_114_14) dX11_hears_38 ?_
      refine r_iload_n 1 C dX11_hears_41 rfl ?_
      refine r_iald C (kS sM h6 kc_122) (vin (by omega) (by omega)) dX11_hears_42 ?_
      have b20 := Inv.geta o5.1 rt_122_0 (i := a1) (by omega) (by omega) (by omega)
      generalize (wI w2 122 (a1).toNatClampNeg) = v19 at b20 ⊢
      refine r_iadd C dX11_hears_43 (fun v21 e22 => ?_)
      have v21' := iadd_ok e22 (by omega) (by omega)
      refine r_iald C (kS sM h6 kc_134) (vin (by omega) (by omega)) dX11_hears_44 ?_
      generalize (wI w2 134 (v21).toNatClampNeg) = v23
      refine r_aload_n 0 C dX11_hears_45 rfl ?_
      refine gfX11_28 121 C (kS sM h6 kc_114) (xS sM h6 xc_114_10) dX11_hears_46 ?_
      refine r_iload_n 2 C dX11_hears_49 rfl ?_
      refine r_iald C (kS sM h6 kc_121) (vin (by omega) (by omega)) dX11_hears_50 ?_
      generalize (wI w2 121 (a2).toNatClampNeg) = v24
      refine r_icmp_gt 58 C dX11_hears_51 (by decide) (fun c25 => ?_) (fun c25 => ?_)
      · have c25' := i_lt c25
        refine r_iconst (v := 0) C dX11_hears_58 (by decide) ?_
        exact hret _ _ _ _ dX11_hears_59 (nar_z (z_of (by omega))) ⟨h6, o5⟩
      · have c25' := i_nlt c25
        refine r_iconst (v := 1) C dX11_hears_54 (by decide) ?_
        refine r_goto 59 C dX11_hears_55 (by decide) ?_
        exact hret _ _ _ _ dX11_hears_59 (nar_z (z_of (by omega))) ⟨h6, o5⟩
set_option maxHeartbeats 4000000 in
set_option maxRecDepth 100000 in
theorem ctX11_crowd (l : Launch) (G : Gt) (w : Wv) (sM : Str KM XM w) (o0 : OkM w) (a1 : Int32) (a2 : Int32) : CtI l G yX11_crowd cX11_crowd 3 .int ({ frames := 2, cells := 0, slots := 0, locals := 46 } : Room) [.ref (gz G + 114), .int a1, .int a2] w (fun r w' => Ch [] [] w w' ∧ OkM w') := by
  refine enterI (by decide) (Nat.le_of_ble_eq_true rfl) ?_
  intro x el eG C hret
  subst el; subst eG
  show V x 0 0 w 0 [(0, .ref (gz (xG x) + 114)), (1, .int a1), (2, .int a2)] []
  have h0 : Ch [] [] w w := Ch.rf
  have qm1000000002 : ((-1000000002) : Int32).toInt = (-1000000002) := by decide
  have qm1000000001 : ((-1000000001) : Int32).toInt = (-1000000001) := by decide
  have qm1 : ((-1) : Int32).toInt = (-1) := by decide
  have q0 : (0 : Int32).toInt = 0 := by decide
  obtain ⟨rA, rB, rC, rD⟩ := (o0.2 : Rel w)
  refine r_aload_n 0 C dX11_crowd_0 rfl ?_
  refine r_iload_n 1 C dX11_crowd_1 rfl ?_
  have b1 := Inv.get o0.1 rt_114_3 (j := 3) (by decide) (by decide)
  refine callVI C cwX11_301_V (ctX11_isCrowd _ _ w (sS sM h0) o0 (wI w 114 3) rfl (by omega) a1 ) (by decide) (kS sM h0 kc_114) rfl rfl rfl (Nat.le_of_ble_eq_true rfl) (by decide) dX11_crowd_2 (fun r4 w3 y2 => ?_)
  show V x 0 0 w3 5 [(0, .ref (gz (xG x) + 114)), (1, .int a1), (2, .int a2)] [.int r4]
  obtain ⟨h5, o6, g7⟩ := y2
  have h8 := Ch.tr h0 h5 (by decide) (by decide)
  refine r_if_ne 12 C dX11_crowd_5 (by decide) (fun c9 => ?_) (fun c9 => ?_)
  · have c9' := i_ne c9
    refine r_iload_n 2 C dX11_crowd_12 rfl ?_
    by_cases c10 : (a2 : Int32).toInt < 0 ∨ 6 < (a2 : Int32).toInt
    · refine r_tabOut 126 C dX11_crowd_13 c10 (by decide) ?_
      refine r_ldc C mw5_239 dX11_crowd_126 ?_
      exact hret _ _ _ _ dX11_crowd_128 rfl ⟨h8, o6⟩
    · rcases (show (a2 : Int32).toInt = 0 ∨ (a2 : Int32).toInt = 1 ∨ (a2 : Int32).toInt = 2 ∨ (a2 : Int32).toInt = 3 ∨ (a2 : Int32).toInt = 4 ∨ (a2 : Int32).toInt = 5 ∨ (a2 : Int32).toInt = 6 by omega) with c10 | c10 | c10 | c10 | c10 | c10 | c10
      · refine r_tabIn 56 C dX11_crowd_13 (by omega) (by omega) (by rw [c10]; rfl) (by decide) ?_
        refine r_aload_n 0 C dX11_crowd_56 rfl ?_
        refine gfX11_13 116 C (kS sM h8 kc_114) (xS sM h8 xc_114_4) dX11_crowd_57 ?_
        refine r_iload_n 1 C dX11_crowd_60 rfl ?_
        refine r_iald C (kS sM h8 kc_116) (vin (by omega) (by omega)) dX11_crowd_61 ?_
        generalize (wI w3 116 (a1).toNatClampNeg) = v11
        exact hret _ _ _ _ dX11_crowd_62 rfl ⟨h8, o6⟩
      · refine r_tabIn 63 C dX11_crowd_13 (by omega) (by omega) (by rw [c10]; rfl) (by decide) ?_
        refine r_aload_n 0 C dX11_crowd_63 rfl ?_
        refine gfX11_16 117 C (kS sM h8 kc_114) (xS sM h8 xc_114_5) dX11_crowd_64 ?_
        refine r_iload_n 1 C dX11_crowd_67 rfl ?_
        refine r_iald C (kS sM h8 kc_117) (vin (by omega) (by omega)) dX11_crowd_68 ?_
        generalize (wI w3 117 (a1).toNatClampNeg) = v12
        exact hret _ _ _ _ dX11_crowd_69 rfl ⟨h8, o6⟩
      · refine r_tabIn 70 C dX11_crowd_13 (by omega) (by omega) (by rw [c10]; rfl) (by decide) ?_
        refine r_aload_n 0 C dX11_crowd_70 rfl ?_
        refine gfX11_19 118 C (kS sM h8 kc_114) (xS sM h8 xc_114_6) dX11_crowd_71 ?_
        refine r_iload_n 1 C dX11_crowd_74 rfl ?_
        refine r_iald C (kS sM h8 kc_118) (vin (by omega) (by omega)) dX11_crowd_75 ?_
        generalize (wI w3 118 (a1).toNatClampNeg) = v13
        exact hret _ _ _ _ dX11_crowd_76 rfl ⟨h8, o6⟩
      · refine r_tabIn 77 C dX11_crowd_13 (by omega) (by omega) (by rw [c10]; rfl) (by decide) ?_
        refine r_aload_n 0 C dX11_crowd_77 rfl ?_
        refine gfX11_22 119 C (kS sM h8 kc_114) (xS sM h8 xc_114_7) dX11_crowd_78 ?_
        refine r_iload_n 1 C dX11_crowd_81 rfl ?_
        refine r_iald C (kS sM h8 kc_119) (vin (by omega) (by omega)) dX11_crowd_82 ?_
        generalize (wI w3 119 (a1).toNatClampNeg) = v14
        exact hret _ _ _ _ dX11_crowd_83 rfl ⟨h8, o6⟩
      · refine r_tabIn 84 C dX11_crowd_13 (by omega) (by omega) (by rw [c10]; rfl) (by decide) ?_
        refine r_aload_n 0 C dX11_crowd_84 rfl ?_
        refine r_aload_n 0 C dX11_crowd_85 rfl ?_
        refine gfX11_38 122 C (kS sM h8 kc_114) (xS sM h8 xc_114_14) dX11_crowd_86 ?_
        refine r_iload_n 1 C dX11_crowd_89 rfl ?_
        refine r_iald C (kS sM h8 kc_122) (vin (by omega) (by omega)) dX11_crowd_90 ?_
        have b16 := Inv.geta o6.1 rt_122_0 (i := a1) (by omega) (by omega) (by omega)
        generalize (wI w3 122 (a1).toNatClampNeg) = v15 at b16 ⊢
        have b17 := Inv.get o0.1 rt_114_0 (j := 0) (by decide) (by decide)
        refine callVI C cwX11_292_V (ctX11_told10 _ _ w3 (sS sM h8) o6 (wI w 114 0) (h5.I (by decide) (by decide) rfl) (by omega) v15 (by omega)) (by decide) (kS sM h8 kc_114) rfl rfl rfl (Nat.le_of_ble_eq_true rfl) (by decide) dX11_crowd_91 (fun r20 w19 y18 => ?_)
        show V x 0 0 w19 94 [(0, .ref (gz (xG x) + 114)), (1, .int a1), (2, .int a2)] [.int r20]
        obtain ⟨h21, o22⟩ := y18
        have h23 := Ch.tr h8 h21 (by decide) (by decide)
        exact hret _ _ _ _ dX11_crowd_94 rfl ⟨h23, o22⟩
      · refine r_tabIn 95 C dX11_crowd_13 (by omega) (by omega) (by rw [c10]; rfl) (by decide) ?_
        refine r_aload_n 0 C dX11_crowd_95 rfl ?_
        refine gfX11_41 123 C (kS sM h8 kc_114) (xS sM h8 xc_114_15) dX11_crowd_96 ?_
        refine r_iload_n 1 C dX11_crowd_99 rfl ?_
        refine r_iald C (kS sM h8 kc_123) (vin (by omega) (by omega)) dX11_crowd_100 ?_
        rw [show wI w3 123 (a1).toNatClampNeg = (wI w 123 (a1).toNatClampNeg) from (h5.A (by decide) (by decide) rfl)]
        have b25 := Inv.geta o0.1 rt_123_0 (i := a1) (by omega) (by omega) (by omega)
        refine r_if_ge 108 C dX11_crowd_101 (by decide) (fun c26 => ?_) (fun c26 => ?_)
        · have c26' := i_le c26
          refine r_aload_n 0 C dX11_crowd_108 rfl ?_
          refine r_aload_n 0 C dX11_crowd_109 rfl ?_
          refine gfX11_41 123 C (kS sM h8 kc_114) (xS sM h8 xc_114_15) dX11_crowd_110 ?_
          refine r_iload_n 1 C dX11_crowd_113 rfl ?_
          refine r_iald C (kS sM h8 kc_123) (vin (by omega) (by omega)) dX11_crowd_114 ?_
          rw [show wI w3 123 (a1).toNatClampNeg = (wI w 123 (a1).toNatClampNeg) from (h5.A (by decide) (by decide) rfl)]
          have b28 := Inv.geta o0.1 rt_123_0 (i := a1) (by omega) (by omega) (by omega)
          have b29 := Inv.get o0.1 rt_114_0 (j := 0) (by decide) (by decide)
          refine callVI C cwX11_292_V (ctX11_told10 _ _ w3 (sS sM h8) o6 (wI w 114 0) (h5.I (by decide) (by decide) rfl) (by omega) (wI w 123 (a1).toNatClampNeg) (by omega)) (by decide) (kS sM h8 kc_114) rfl rfl rfl (Nat.le_of_ble_eq_true rfl) (by decide) dX11_crowd_115 (fun r32 w31 y30 => ?_)
          show V x 0 0 w31 118 [(0, .ref (gz (xG x) + 114)), (1, .int a1), (2, .int a2)] [.int r32]
          obtain ⟨h33, o34⟩ := y30
          have h35 := Ch.tr h8 h33 (by decide) (by decide)
          exact hret _ _ _ _ dX11_crowd_118 rfl ⟨h35, o34⟩
        · have c26' := i_nle c26
          refine r_iconst (v := (-1)) C dX11_crowd_104 (by decide) ?_
          refine r_goto 118 C dX11_crowd_105 (by decide) ?_
          exact hret _ _ _ _ dX11_crowd_118 rfl ⟨h8, o6⟩
      · refine r_tabIn 119 C dX11_crowd_13 (by omega) (by omega) (by rw [c10]; rfl) (by decide) ?_
        refine r_aload_n 0 C dX11_crowd_119 rfl ?_
        refine gfX11_44 124 C (kS sM h8 kc_114) (xS sM h8 xc_114_16) dX11_crowd_120 ?_
        refine r_iload_n 1 C dX11_crowd_123 rfl ?_
        refine r_iald C (kS sM h8 kc_124) (vin (by omega) (by omega)) dX11_crowd_124 ?_
        generalize (wI w3 124 (a1).toNatClampNeg) = v36
        exact hret _ _ _ _ dX11_crowd_125 rfl ⟨h8, o6⟩
  · have c9' := i_eq c9
    refine r_ldcw C mw6_112 dX11_crowd_8 ?_
    exact hret _ _ _ _ dX11_crowd_11 rfl ⟨h8, o6⟩
set_option maxHeartbeats 4000000 in
set_option maxRecDepth 100000 in
theorem ctX11_tune (l : Launch) (G : Gt) (w : Wv) (sM : Str KM XM w) (o0 : OkM w) (a1 : Int32) (a2 : Int32) : CtI l G yX11_tune cX11_tune 5 .int ({ frames := 3, cells := 0, slots := 0, locals := 64 } : Room) [.ref (gz G + 114), .int a1, .int a2] w (fun r w' => Ch [] [] w w' ∧ OkM w') := by
  refine enterI (by decide) (Nat.le_of_ble_eq_true rfl) ?_
  intro x el eG C hret
  subst el; subst eG
  show V x 0 0 w 0 [(0, .ref (gz (xG x) + 114)), (1, .int a1), (2, .int a2)] []
  have h0 : Ch [] [] w w := Ch.rf
  have qm1000000002 : ((-1000000002) : Int32).toInt = (-1000000002) := by decide
  have qm1000000001 : ((-1000000001) : Int32).toInt = (-1000000001) := by decide
  have q0 : (0 : Int32).toInt = 0 := by decide
  have q1 : (1 : Int32).toInt = 1 := by decide
  have q2 : (2 : Int32).toInt = 2 := by decide
  obtain ⟨rA, rB, rC, rD⟩ := (o0.2 : Rel w)
  have LP17 : ∀ (f18 : Nat) (u15 : Int32) (u16 : Int32) (w19 : Wv), Ch [] [] w w19 → OkM w19 → (0 ≤ u16.toInt ∧ u16.toInt ≤ 2147483647) → (0 ≤ a1.toInt ∧ a1.toInt ≤ 2) → (2 ≤ a2.toInt ∧ a2.toInt ≤ 2) → 2147483647 - u16.toInt < f18 → V x 0 0 w19 22 [(0, .ref (gz (xG x) + 114)), (1, .int a1), (2, .int a2), (3, .int u15), (4, .int u16)] [] := by
    intro f18
    induction f18 with
    | zero => intro u15 u16 w19 h20 o21 z22 z23 z24 z25; exfalso; omega
    | succ f18 ih26 =>
      intro u15 u16 w19 h20 o21 z22 z23 z24 z25
      refine r_iload 4 C dX11_tune_22 rfl ?_
      refine r_aload_n 0 C dX11_tune_24 rfl ?_
      refine gfX11_121 (v := (wI w 114 3)) C (kS sM h20 kc_114) (h20.I (by decide) (by decide) rfl) dX11_tune_25 ?_
      have b27 := Inv.get o0.1 rt_114_3 (j := 3) (by decide) (by decide)
      refine r_icmp_ge 58 C dX11_tune_28 (by decide) (fun c28 => ?_) (fun c28 => ?_)
      · have c28' := i_le c28
        refine r_iload_n 3 C dX11_tune_58 rfl ?_
        exact hret _ _ _ _ dX11_tune_59 rfl ⟨h20, o21⟩
      · have c28' := i_nle c28
        refine r_iload_n 3 C dX11_tune_31 rfl ?_
        refine r_aload_n 0 C dX11_tune_32 rfl ?_
        refine r_iload 4 C dX11_tune_33 rfl ?_
        refine r_iload_n 1 C dX11_tune_35 rfl ?_
        refine callVI C cwX11_313_V (ctX11_hears _ _ w19 (sS sM h20) o21 u16 a1 (by omega) (by omega)) (by decide) (kS sM h20 kc_114) rfl rfl rfl (Nat.le_of_ble_eq_true rfl) (by decide) dX11_tune_36 (fun r31 w30 y29 => ?_)
        show V x 0 0 w30 39 [(0, .ref (gz (xG x) + 114)), (1, .int a1), (2, .int a2), (3, .int u15), (4, .int u16)] [.int r31, .int u15]
        obtain ⟨h32, o33⟩ := y29
        have h34 := Ch.tr h20 h32 (by decide) (by decide)
        refine r_if_eq 49 C dX11_tune_39 (by decide) (fun c35 => ?_) (fun c35 => ?_)
        · have c35' := i_eq c35
          refine r_iconst (v := 0) C dX11_tune_49 (by decide) ?_
          refine r_ior C dX11_tune_50 (fun v36 e37 => ?_)
          refine r_istore_n [(3, .int v36), (0, .ref (gz (xG x) + 114)), (1, .int a1), (2, .int a2), (4, .int u16)] C dX11_tune_51 (by decide) rfl ?_
          obtain ⟨i38, e39⟩ : ∃ z : Int32, u16 + Int32.ofInt 1 = z := ⟨_, rfl⟩
          have i38' := iinc_ok e39 (by decide) (by omega) (by omega)
          refine r_iinc [(4, .int i38), (3, .int v36), (0, .ref (gz (xG x) + 114)), (1, .int a1), (2, .int a2)] 4 C dX11_tune_52 rfl e39 (by decide) rfl ?_
          refine r_goto 22 C dX11_tune_55 (by decide) ?_
          refine r_lv [2, 3, 4, 1, 0] rfl ?_
          exact ih26 v36 i38 w30 h34 o33 (by omega) (by omega) (by omega) (by omega)
        · have c35' := i_ne c35
          refine r_iconst (v := 1) C dX11_tune_42 (by decide) ?_
          refine r_iload 4 C dX11_tune_43 rfl ?_
          refine r_ishl C dX11_tune_45 (fun v40 e41 => ?_)
          refine r_goto 50 C dX11_tune_46 (by decide) ?_
          refine r_ior C dX11_tune_50 (fun v42 e43 => ?_)
          refine r_istore_n [(3, .int v42), (0, .ref (gz (xG x) + 114)), (1, .int a1), (2, .int a2), (4, .int u16)] C dX11_tune_51 (by decide) rfl ?_
          obtain ⟨i44, e45⟩ : ∃ z : Int32, u16 + Int32.ofInt 1 = z := ⟨_, rfl⟩
          have i44' := iinc_ok e45 (by decide) (by omega) (by omega)
          refine r_iinc [(4, .int i44), (3, .int v42), (0, .ref (gz (xG x) + 114)), (1, .int a1), (2, .int a2)] 4 C dX11_tune_52 rfl e45 (by decide) rfl ?_
          refine r_goto 22 C dX11_tune_55 (by decide) ?_
          refine r_lv [2, 3, 4, 1, 0] rfl ?_
          exact ih26 v42 i44 w30 h34 o33 (by omega) (by omega) (by omega) (by omega)
  refine r_aload_n 0 C dX11_tune_0 rfl ?_
  refine r_iload_n 1 C dX11_tune_1 rfl ?_
  have b1 := Inv.get o0.1 rt_114_8 (j := 8) (by decide) (by decide)
  refine callVI C cwX11_310_V (ctX11_isTune _ _ w (sS sM h0) o0 (wI w 114 8) rfl (by omega) a1 ) (by decide) (kS sM h0 kc_114) rfl rfl rfl (Nat.le_of_ble_eq_true rfl) (by decide) dX11_tune_2 (fun r4 w3 y2 => ?_)
  show V x 0 0 w3 5 [(0, .ref (gz (xG x) + 114)), (1, .int a1), (2, .int a2)] [.int r4]
  obtain ⟨h5, o6, g7⟩ := y2
  have h8 := Ch.tr h0 h5 (by decide) (by decide)
  refine r_if_ne 12 C dX11_tune_5 (by decide) (fun c9 => ?_) (fun c9 => ?_)
  · have c9' := i_ne c9
    refine r_iload_n 2 C dX11_tune_12 rfl ?_
    refine r_iconst (v := 2) C dX11_tune_13 (by decide) ?_
    refine r_icmp_ne 60 C dX11_tune_14 (by decide) (fun c10 => ?_) (fun c10 => ?_)
    · have c10' := i_ne c10
      refine r_iload_n 2 C dX11_tune_60 rfl ?_
      refine r_if_ne 73 C dX11_tune_61 (by decide) (fun c11 => ?_) (fun c11 => ?_)
      · have c11' := i_ne c11
        refine r_iload_n 2 C dX11_tune_73 rfl ?_
        refine r_iconst (v := 1) C dX11_tune_74 (by decide) ?_
        refine r_icmp_ne 87 C dX11_tune_75 (by decide) (fun c12 => ?_) (fun c12 => ?_)
        · have c12' := i_ne c12
          refine r_ldc C mw5_239 dX11_tune_87 ?_
          exact hret _ _ _ _ dX11_tune_89 rfl ⟨h8, o6⟩
        · have c12' := i_eq c12
          refine r_aload_n 0 C dX11_tune_78 rfl ?_
          refine gfX11_28 121 C (kS sM h8 kc_114) (xS sM h8 xc_114_10) dX11_tune_79 ?_
          refine r_iload_n 1 C dX11_tune_82 rfl ?_
          refine r_iald C (kS sM h8 kc_121) (vin (by omega) (by omega)) dX11_tune_83 ?_
          generalize (wI w3 121 (a1).toNatClampNeg) = v13
          refine r_goto 89 C dX11_tune_84 (by decide) ?_
          exact hret _ _ _ _ dX11_tune_89 rfl ⟨h8, o6⟩
      · have c11' := i_eq c11
        refine r_aload_n 0 C dX11_tune_64 rfl ?_
        refine gfX11_25 120 C (kS sM h8 kc_114) (xS sM h8 xc_114_9) dX11_tune_65 ?_
        refine r_iload_n 1 C dX11_tune_68 rfl ?_
        refine r_iald C (kS sM h8 kc_120) (vin (by omega) (by omega)) dX11_tune_69 ?_
        generalize (wI w3 120 (a1).toNatClampNeg) = v14
        refine r_goto 89 C dX11_tune_70 (by decide) ?_
        exact hret _ _ _ _ dX11_tune_89 rfl ⟨h8, o6⟩
    · have c10' := i_eq c10
      refine r_iconst (v := 0) C dX11_tune_17 (by decide) ?_
      refine r_istore_n [(3, .int 0), (0, .ref (gz (xG x) + 114)), (1, .int a1), (2, .int a2)] C dX11_tune_18 (by decide) rfl ?_
      refine r_iconst (v := 0) C dX11_tune_19 (by decide) ?_
      refine r_istore [(4, .int 0), (3, .int 0), (0, .ref (gz (xG x) + 114)), (1, .int a1), (2, .int a2)] C dX11_tune_20 (by decide) rfl ?_
      refine r_lv [2, 3, 4, 1, 0] rfl ?_
      exact LP17 4294967296 0 0 w3 h8 o6 (by omega) (by omega) (by omega) (by omega)
  · have c9' := i_eq c9
    refine r_ldcw C mw6_112 dX11_tune_8 ?_
    exact hret _ _ _ _ dX11_tune_11 rfl ⟨h8, o6⟩
set_option maxHeartbeats 4000000 in
set_option maxRecDepth 100000 in
theorem ctX11_stepTo (l : Launch) (G : Gt) (w : Wv) (sM : Str KM XM w) (o0 : OkM w) (W : Int32) (pW : wI w 114 0 = W) (bW : 0 ≤ W.toInt ∧ W.toInt ≤ 9) (D : Int32) (pD : wI w 114 1 = D) (bD : 0 ≤ D.toInt ∧ D.toInt ≤ 9) (a1 : Int32) : CtI l G yX11_stepTo cX11_stepTo 3 .int ({ frames := 3, cells := 0, slots := 0, locals := 71 } : Room) [.ref (gz G + 114), .int a1] w (fun r w' => Ch [] [] w w' ∧ OkM w' ∧ (-1 ≤ r.toInt ∧ r.toInt ≤ 41 ∧ (0 ≤ r.toInt → 0 < W.toInt))) := by
  refine enterI (by decide) (Nat.le_of_ble_eq_true rfl) ?_
  intro x el eG C hret
  subst el; subst eG
  show V x 0 0 w 0 [(0, .ref (gz (xG x) + 114)), (1, .int a1)] []
  have h0 : Ch [] [] w w := Ch.rf
  have qm1 : ((-1) : Int32).toInt = (-1) := by decide
  have q0 : (0 : Int32).toInt = 0 := by decide
  have q1 : (1 : Int32).toInt = 1 := by decide
  have q2 : (2 : Int32).toInt = 2 := by decide
  obtain ⟨rA, rB, rC, rD⟩ := (o0.2 : Rel w)
  (try simp only [pW] at rA); (try simp only [pW] at rB); (try simp only [pW] at rC); (try simp only [pW] at rD)
  (try simp only [pD] at rA); (try simp only [pD] at rB); (try simp only [pD] at rC); (try simp only [pD] at rD)
  refine r_aload_n 0 C dX11_stepTo_0 rfl ?_
  refine gfX11_111 (v := W) C (kS sM h0 kc_114) pW dX11_stepTo_1 ?_
  refine r_if_ne 11 C dX11_stepTo_4 (by decide) (fun c1 => ?_) (fun c1 => ?_)
  · have c1' := i_ne c1
    refine r_iload_n 1 C dX11_stepTo_11 rfl ?_
    refine r_if_ne 22 C dX11_stepTo_12 (by decide) (fun c2 => ?_) (fun c2 => ?_)
    · have c2' := i_ne c2
      refine r_aload_n 0 C dX11_stepTo_22 rfl ?_
      refine r_aload_n 0 C dX11_stepTo_23 rfl ?_
      refine gfX11_259 (v := (wI w 114 13)) C (kS sM h0 kc_114) rfl dX11_stepTo_24 ?_
      have b3 := Inv.get o0.1 rt_114_13 (j := 13) (by decide) (by decide)
      refine r_iload_n 1 C dX11_stepTo_27 rfl ?_
      refine callVI C cwX11_278_V (ctX11_beside _ _ w (sS sM h0) o0 W pW (by omega) D pD (by omega) (wI w 114 13) a1 (by omega)) (by decide) (kS sM h0 kc_114) rfl rfl rfl (Nat.le_of_ble_eq_true rfl) (by decide) dX11_stepTo_28 (fun r6 w5 y4 => ?_)
      show V x 0 0 w5 31 [(0, .ref (gz (xG x) + 114)), (1, .int a1)] [.int r6]
      obtain ⟨h7, o8, g9⟩ := y4
      have h10 := Ch.tr h0 h7 (by decide) (by decide)
      refine r_istore_n [(2, .int r6), (0, .ref (gz (xG x) + 114)), (1, .int a1)] C dX11_stepTo_31 (by decide) rfl ?_
      refine r_iload_n 0 C dX11_stepTo_32 rfl ?_
      refine r_if_lt 60 C dX11_stepTo_33 (by decide) (fun c11 => ?_) (fun c11 => ?_)
      · have c11' := i_lt c11
        refine r_iconst (v := (-1)) C dX11_stepTo_60 (by decide) ?_
        refine r_goto 65 C dX11_stepTo_61 (by decide) ?_
        exact hret _ _ _ _ dX11_stepTo_65 rfl ⟨h10, o8, by omega⟩
      · have c11' := i_nlt c11
        refine r_iload_n 2 C dX11_stepTo_36 rfl ?_
        refine r_if_le 64 C dX11_stepTo_37 (by decide) (fun c12 => ?_) (fun c12 => ?_)
        · have c12' := i_le c12
          refine r_iload_n 0 C dX11_stepTo_64 rfl ?_
          exact hret _ _ _ _ dX11_stepTo_65 rfl ⟨h10, o8, by omega⟩
        · have c12' := i_nle c12
          refine r_aload_n 1 C dX11_stepTo_40 rfl ?_
          refine gfX11_7 115 C (kS sM h10 kc_114) (xS sM h10 xc_114_2) dX11_stepTo_41 ?_
          refine r_iload_n 0 C dX11_stepTo_44 rfl ?_
          refine r_iald C (kS sM h10 kc_115) (vin (by omega) (by omega)) dX11_stepTo_45 ?_
          generalize (wI w5 115 (r6).toNatClampNeg) = v13
          refine r_iconst (v := 1) C dX11_stepTo_46 (by decide) ?_
          refine r_icmp_eq 60 C dX11_stepTo_47 (by decide) (fun c14 => ?_) (fun c14 => ?_)
          · have c14' := i_eq c14
            refine r_iconst (v := (-1)) C dX11_stepTo_60 (by decide) ?_
            refine r_goto 65 C dX11_stepTo_61 (by decide) ?_
            exact hret _ _ _ _ dX11_stepTo_65 rfl ⟨h10, o8, by omega⟩
          · have c14' := i_ne c14
            refine r_aload_n 1 C dX11_stepTo_50 rfl ?_
            refine gfX11_7 115 C (kS sM h10 kc_114) (xS sM h10 xc_114_2) dX11_stepTo_51 ?_
            refine r_iload_n 0 C dX11_stepTo_54 rfl ?_
            refine r_iald C (kS sM h10 kc_115) (vin (by omega) (by omega)) dX11_stepTo_55 ?_
            generalize (wI w5 115 (r6).toNatClampNeg) = v15
            refine r_iconst (v := 2) C dX11_stepTo_56 (by decide) ?_
            refine r_icmp_ne 64 C dX11_stepTo_57 (by decide) (fun c16 => ?_) (fun c16 => ?_)
            · have c16' := i_ne c16
              refine r_iload_n 0 C dX11_stepTo_64 rfl ?_
              exact hret _ _ _ _ dX11_stepTo_65 rfl ⟨h10, o8, by omega⟩
            · have c16' := i_eq c16
              refine r_iconst (v := (-1)) C dX11_stepTo_60 (by decide) ?_
              refine r_goto 65 C dX11_stepTo_61 (by decide) ?_
              exact hret _ _ _ _ dX11_stepTo_65 rfl ⟨h10, o8, by omega⟩
    · have c2' := i_eq c2
      refine r_aload_n 0 C dX11_stepTo_15 rfl ?_
      refine gfX11_259 (v := (wI w 114 13)) C (kS sM h0 kc_114) rfl dX11_stepTo_16 ?_
      have b17 := Inv.get o0.1 rt_114_13 (j := 13) (by decide) (by decide)
      refine r_goto 31 C dX11_stepTo_19 (by decide) ?_
      refine r_istore_n [(2, .int (wI w 114 13)), (0, .ref (gz (xG x) + 114)), (1, .int a1)] C dX11_stepTo_31 (by decide) rfl ?_
      refine r_iload_n 0 C dX11_stepTo_32 rfl ?_
      refine r_if_lt 60 C dX11_stepTo_33 (by decide) (fun c18 => ?_) (fun c18 => ?_)
      · have c18' := i_lt c18
        exfalso; omega
      · have c18' := i_nlt c18
        refine r_iload_n 2 C dX11_stepTo_36 rfl ?_
        refine r_if_le 64 C dX11_stepTo_37 (by decide) (fun c19 => ?_) (fun c19 => ?_)
        · have c19' := i_le c19
          refine r_iload_n 0 C dX11_stepTo_64 rfl ?_
          exact hret _ _ _ _ dX11_stepTo_65 rfl ⟨h0, o0, by omega⟩
        · have c19' := i_nle c19
          exfalso; omega
  · have c1' := i_eq c1
    refine r_iconst (v := (-1)) C dX11_stepTo_7 (by decide) ?_
    refine r_goto 31 C dX11_stepTo_8 (by decide) ?_
    refine r_istore_n [(2, .int (-1)), (0, .ref (gz (xG x) + 114)), (1, .int a1)] C dX11_stepTo_31 (by decide) rfl ?_
    refine r_iload_n 0 C dX11_stepTo_32 rfl ?_
    refine r_if_lt 60 C dX11_stepTo_33 (by decide) (fun c20 => ?_) (fun c20 => ?_)
    · have c20' := i_lt c20
      refine r_iconst (v := (-1)) C dX11_stepTo_60 (by decide) ?_
      refine r_goto 65 C dX11_stepTo_61 (by decide) ?_
      exact hret _ _ _ _ dX11_stepTo_65 rfl ⟨h0, o0, by omega⟩
    · have c20' := i_nlt c20
      exfalso; omega
set_option maxHeartbeats 4000000 in
set_option maxRecDepth 100000 in
theorem ctX11_stepOn (l : Launch) (G : Gt) (w : Wv) (sM : Str KM XM w) (o0 : OkM w) (W : Int32) (pW : wI w 114 0 = W) (bW : 1 ≤ W.toInt ∧ W.toInt ≤ 9) (D : Int32) (pD : wI w 114 1 = D) (bD : 0 ≤ D.toInt ∧ D.toInt ≤ 9) (a1 : Int32) (b1 : 0 ≤ a1.toInt ∧ a1.toInt ≤ 5) (hg : 0 ≤ (wI w 123 (a1).toNatClampNeg).toInt) : CtV l G yX11_stepOn cX11_stepOn 4 ({ frames := 3, cells := 0, slots := 0, locals := 71 } : Room) [.ref (gz G + 114), .int a1] w (fun w' => Ch [122, 124] [] w w' ∧ OkM w') := by
  refine enterV (by decide) (Nat.le_of_ble_eq_true rfl) ?_
  intro x el eG C hnm hret
  subst el; subst eG
  show V x 0 0 w 0 [(0, .ref (gz (xG x) + 114)), (1, .int a1)] []
  have h0 : Ch [122, 124] [] w w := Ch.rf
  have q0 : (0 : Int32).toInt = 0 := by decide
  have q1 : (1 : Int32).toInt = 1 := by decide
  have q2 : (2 : Int32).toInt = 2 := by decide
  have q3 : (3 : Int32).toInt = 3 := by decide
  have q5 : (5 : Int32).toInt = 5 := by decide
  have q42 : (42 : Int32).toInt = 42 := by decide
  obtain ⟨rA, rB, rC, rD⟩ := (o0.2 : Rel w)
  (try simp only [pW] at rA); (try simp only [pW] at rB); (try simp only [pW] at rC); (try simp only [pW] at rD)
  (try simp only [pD] at rA); (try simp only [pD] at rB); (try simp only [pD] at rC); (try simp only [pD] at rD)
  have LP2 : ∀ (f3 : Nat) (u1 : Int32) (w4 : Wv), Ch [122, 124] [] w w4 → OkM w4 → (0 ≤ u1.toInt ∧ u1.toInt ≤ 2147483647) → 2147483647 - u1.toInt < f3 → V x 0 0 w4 2 [(0, .ref (gz (xG x) + 114)), (1, .int a1), (2, .int u1)] [] := by
    intro f3
    induction f3 with
    | zero => intro u1 w4 h5 o6 z7 z8; exfalso; omega
    | succ f3 ih9 =>
      intro u1 w4 h5 o6 z7 z8
      refine r_iload_n 2 C dX11_stepOn_2 rfl ?_
      refine r_iconst (v := 5) C dX11_stepOn_3 (by decide) ?_
      refine r_icmp_ge 114 C dX11_stepOn_4 (by decide) (fun c10 => ?_) (fun c10 => ?_)
      · have c10' := i_le c10
        exact hret _ _ _ dX11_stepOn_114 ⟨h5, o6⟩
      · have c10' := i_nle c10
        refine r_aload_n 0 C dX11_stepOn_7 rfl ?_
        refine r_aload_n 0 C dX11_stepOn_8 rfl ?_
        refine gfX11_38 122 C (kS sM h5 kc_114) (xS sM h5 xc_114_14) dX11_stepOn_9 ?_
        refine r_iload_n 1 C dX11_stepOn_12 rfl ?_
        refine r_iald C (kS sM h5 kc_122) (vin (by omega) (by omega)) dX11_stepOn_13 ?_
        have b12 := Inv.geta o6.1 rt_122_0 (i := a1) (by omega) (by omega) (by omega)
        refine r_iload_n 2 C dX11_stepOn_14 rfl ?_
        refine callVI C cwX11_278_V (ctX11_beside _ _ w4 (sS sM h5) o6 W (h5.I (by decide) (by decide) pW) (by omega) D (h5.I (by decide) (by decide) pD) (by omega) (wI w4 122 (a1).toNatClampNeg) u1 (by omega)) (by decide) (kS sM h5 kc_114) rfl rfl rfl (Nat.le_of_ble_eq_true rfl) (by decide) dX11_stepOn_15 (fun r15 w14 y13 => ?_)
        show V x 0 0 w14 18 [(0, .ref (gz (xG x) + 114)), (1, .int a1), (2, .int u1)] [.int r15]
        obtain ⟨h16, o17, g18⟩ := y13
        have h19 := Ch.tr h5 h16 (by decide) (by decide)
        refine r_istore_n [(3, .int r15), (0, .ref (gz (xG x) + 114)), (1, .int a1), (2, .int u1)] C dX11_stepOn_18 (by decide) rfl ?_
        refine r_iload_n 0 C dX11_stepOn_19 rfl ?_
        refine r_if_lt 108 C dX11_stepOn_20 (by decide) (fun c20 => ?_) (fun c20 => ?_)
        · have c20' := i_lt c20
          obtain ⟨i21, e22⟩ : ∃ z : Int32, u1 + Int32.ofInt 1 = z := ⟨_, rfl⟩
          have i21' := iinc_ok e22 (by decide) (by omega) (by omega)
          refine r_iinc [(2, .int i21), (3, .int r15), (0, .ref (gz (xG x) + 114)), (1, .int a1)] 3 C dX11_stepOn_108 rfl e22 (by decide) rfl ?_
          refine r_goto 2 C dX11_stepOn_111 (by decide) ?_
          refine r_lv [2, 3, 0] rfl ?_
          exact ih9 i21 w14 h19 o17 (by omega) (by omega)
        · have c20' := i_nlt c20
          refine r_aload_n 1 C dX11_stepOn_23 rfl ?_
          refine gfX11_77 134 C (kS sM h19 kc_114) (xS sM h19 xc_114_44) dX11_stepOn_24 ?_
          refine r_bipush (v := 42) C dX11_stepOn_27 (by decide) ?_
          refine r_aload_n 1 C dX11_stepOn_29 rfl ?_
          refine gfX11_41 123 C (kS sM h19 kc_114) (xS sM h19 xc_114_15) dX11_stepOn_30 ?_
          refine r_iload_n 2 C dX11_stepOn_33 rfl ?_
          refine r_iald C (kS sM h19 kc_123) (vin (by omega) (by omega)) dX11_stepOn_34 ?_
          rw [show wI w14 123 (a1).toNatClampNeg = (wI w 123 (a1).toNatClampNeg) from (h16.A (by decide) (by decide) (h5.A (by decide) (by decide) rfl))]
          have b24 := Inv.geta o0.1 rt_123_0 (i := a1) (by omega) (by omega) (by omega)
          refine r_imul C dX11_stepOn_35 (fun v25 e26 => ?_)
          have k27 : (42 : Int32).toInt = 42 := by omega
          have v25' := imul_ok e26 (by rw [k27]; omega) (by rw [k27]; omega)
          rw [k27] at v25'
          refine r_iload_n 0 C dX11_stepOn_36 rfl ?_
          refine r_iadd C dX11_stepOn_37 (fun v28 e29 => ?_)
          have v28' := iadd_ok e29 (by omega) (by omega)
          refine r_iald C (kS sM h19 kc_134) (vin (by omega) (by omega)) dX11_stepOn_38 ?_
          generalize (wI w14 134 (v28).toNatClampNeg) = v30
          refine r_aload_n 1 C dX11_stepOn_39 rfl ?_
          refine gfX11_77 134 C (kS sM h19 kc_114) (xS sM h19 xc_114_44) dX11_stepOn_40 ?_
          refine r_bipush (v := 42) C dX11_stepOn_43 (by decide) ?_
          refine r_aload_n 1 C dX11_stepOn_45 rfl ?_
          refine gfX11_41 123 C (kS sM h19 kc_114) (xS sM h19 xc_114_15) dX11_stepOn_46 ?_
          refine r_iload_n 2 C dX11_stepOn_49 rfl ?_
          refine r_iald C (kS sM h19 kc_123) (vin (by omega) (by omega)) dX11_stepOn_50 ?_
          rw [show wI w14 123 (a1).toNatClampNeg = (wI w 123 (a1).toNatClampNeg) from (h16.A (by decide) (by decide) (h5.A (by decide) (by decide) rfl))]
          have b32 := Inv.geta o0.1 rt_123_0 (i := a1) (by omega) (by omega) (by omega)
          refine r_imul C dX11_stepOn_51 (fun v33 e34 => ?_)
          have k35 : (42 : Int32).toInt = 42 := by omega
          have v33' := imul_ok e34 (by rw [k35]; omega) (by rw [k35]; omega)
          rw [k35] at v33'
          refine r_aload_n 1 C dX11_stepOn_52 rfl ?_
          refine gfX11_38 122 C (kS sM h19 kc_114) (xS sM h19 xc_114_14) dX11_stepOn_53 ?_
          refine r_iload_n 2 C dX11_stepOn_56 rfl ?_
          refine r_iald C (kS sM h19 kc_122) (vin (by omega) (by omega)) dX11_stepOn_57 ?_
          rw [show wI w14 122 (a1).toNatClampNeg = (wI w4 122 (a1).toNatClampNeg) from (h16.A (by decide) (by decide) rfl)]
          have b37 := Inv.geta o6.1 rt_122_0 (i := a1) (by omega) (by omega) (by omega)
          refine r_iadd C dX11_stepOn_58 (fun v38 e39 => ?_)
          have v38' := iadd_ok e39 (by omega) (by omega)
          refine r_iald C (kS sM h19 kc_134) (vin (by omega) (by omega)) dX11_stepOn_59 ?_
          generalize (wI w14 134 (v38).toNatClampNeg) = v40
          refine r_iconst (v := 1) C dX11_stepOn_60 (by decide) ?_
          refine r_isub C dX11_stepOn_61 (fun v41 e42 => ?_)
          refine r_icmp_ne 108 C dX11_stepOn_62 (by decide) (fun c43 => ?_) (fun c43 => ?_)
          · have c43' := i_ne c43
            obtain ⟨i44, e45⟩ : ∃ z : Int32, u1 + Int32.ofInt 1 = z := ⟨_, rfl⟩
            have i44' := iinc_ok e45 (by decide) (by omega) (by omega)
            refine r_iinc [(2, .int i44), (3, .int r15), (0, .ref (gz (xG x) + 114)), (1, .int a1)] 3 C dX11_stepOn_108 rfl e45 (by decide) rfl ?_
            refine r_goto 2 C dX11_stepOn_111 (by decide) ?_
            refine r_lv [2, 3, 0] rfl ?_
            exact ih9 i44 w14 h19 o17 (by omega) (by omega)
          · have c43' := i_eq c43
            refine r_aload_n 1 C dX11_stepOn_65 rfl ?_
            refine gfX11_38 122 C (kS sM h19 kc_114) (xS sM h19 xc_114_14) dX11_stepOn_66 ?_
            refine r_iload_n 2 C dX11_stepOn_69 rfl ?_
            refine r_iload_n 0 C dX11_stepOn_70 rfl ?_
            refine r_iast C (kS sM h19 kc_122) (vin (by omega) (by omega)) dX11_stepOn_71 (fun w46 e47 => ?_)
            have h48 := Ch.putS h19 e47 (by decide)
            have o49 : OkM w46 := ⟨Inv.putR o17.1 e47 0 5 (by omega) (by omega) 0 41 (by omega) (by decide), Rel.putS o17.2 e47 (by decide)⟩
            refine r_aload_n 1 C dX11_stepOn_72 rfl ?_
            refine gfX11_44 124 C (kS sM h48 kc_114) (xS sM h48 xc_114_16) dX11_stepOn_73 ?_
            refine r_iload_n 2 C dX11_stepOn_76 rfl ?_
            refine r_aload_n 1 C dX11_stepOn_77 rfl ?_
            refine gfX11_7 115 C (kS sM h48 kc_114) (xS sM h48 xc_114_2) dX11_stepOn_78 ?_
            refine r_iload_n 0 C dX11_stepOn_81 rfl ?_
            refine r_iald C (kS sM h48 kc_115) (vin (by omega) (by omega)) dX11_stepOn_82 ?_
            generalize (wI w46 115 (r15).toNatClampNeg) = v50
            refine r_iconst (v := 2) C dX11_stepOn_83 (by decide) ?_
            refine r_icmp_ne 91 C dX11_stepOn_84 (by decide) (fun c51 => ?_) (fun c51 => ?_)
            · have c51' := i_ne c51
              refine r_aload_n 1 C dX11_stepOn_91 rfl ?_
              refine gfX11_7 115 C (kS sM h48 kc_114) (xS sM h48 xc_114_2) dX11_stepOn_92 ?_
              refine r_iload_n 0 C dX11_stepOn_95 rfl ?_
              refine r_iald C (kS sM h48 kc_115) (vin (by omega) (by omega)) dX11_stepOn_96 ?_
              generalize (wI w46 115 (r15).toNatClampNeg) = v52
              refine r_iconst (v := 3) C dX11_stepOn_97 (by decide) ?_
              refine r_icmp_ne 105 C dX11_stepOn_98 (by decide) (fun c53 => ?_) (fun c53 => ?_)
              · have c53' := i_ne c53
                refine r_iconst (v := 0) C dX11_stepOn_105 (by decide) ?_
                refine r_iast C (kS sM h48 kc_124) (vin (by omega) (by omega)) dX11_stepOn_106 (fun w54 e55 => ?_)
                have h56 := Ch.putS h48 e55 (by decide)
                have o57 : OkM w54 := ⟨Inv.put0 o49.1 e55 (by decide), Rel.putS o49.2 e55 (by decide)⟩
                exact hret _ _ _ dX11_stepOn_107 ⟨h56, o57⟩
              · have c53' := i_eq c53
                refine r_iconst (v := 1) C dX11_stepOn_101 (by decide) ?_
                refine r_goto 106 C dX11_stepOn_102 (by decide) ?_
                refine r_iast C (kS sM h48 kc_124) (vin (by omega) (by omega)) dX11_stepOn_106 (fun w58 e59 => ?_)
                have h60 := Ch.putS h48 e59 (by decide)
                have o61 : OkM w58 := ⟨Inv.put0 o49.1 e59 (by decide), Rel.putS o49.2 e59 (by decide)⟩
                exact hret _ _ _ dX11_stepOn_107 ⟨h60, o61⟩
            · have c51' := i_eq c51
              refine r_iconst (v := 2) C dX11_stepOn_87 (by decide) ?_
              refine r_goto 106 C dX11_stepOn_88 (by decide) ?_
              refine r_iast C (kS sM h48 kc_124) (vin (by omega) (by omega)) dX11_stepOn_106 (fun w62 e63 => ?_)
              have h64 := Ch.putS h48 e63 (by decide)
              have o65 : OkM w62 := ⟨Inv.put0 o49.1 e63 (by decide), Rel.putS o49.2 e63 (by decide)⟩
              exact hret _ _ _ dX11_stepOn_107 ⟨h64, o65⟩
  refine r_iconst (v := 1) C dX11_stepOn_0 (by decide) ?_
  refine r_istore_n [(2, .int 1), (0, .ref (gz (xG x) + 114)), (1, .int a1)] C dX11_stepOn_1 (by decide) rfl ?_
  refine r_lv [1, 2, 0] rfl ?_
  exact LP2 4294967296 1 w h0 o0 (by omega) (by omega)
set_option maxHeartbeats 4000000 in
set_option maxRecDepth 100000 in
theorem ctX11_walkOn (l : Launch) (G : Gt) (w : Wv) (sM : Str KM XM w) (o0 : OkM w) (W : Int32) (pW : wI w 114 0 = W) (bW : 1 ≤ W.toInt ∧ W.toInt ≤ 9) (D : Int32) (pD : wI w 114 1 = D) (bD : 0 ≤ D.toInt ∧ D.toInt ≤ 9) (a1 : Int32) (b1 : 0 ≤ a1.toInt ∧ a1.toInt ≤ 5) (hg : 0 ≤ (wI w 123 (a1).toNatClampNeg).toInt) : CtV l G yX11_walkOn cX11_walkOn 3 ({ frames := 4, cells := 0, slots := 0, locals := 94 } : Room) [.ref (gz G + 114), .int a1] w (fun w' => Ch [122, 123, 124] [] w w' ∧ OkM w') := by
  refine enterV (by decide) (Nat.le_of_ble_eq_true rfl) ?_
  intro x el eG C hnm hret
  subst el; subst eG
  show V x 0 0 w 0 [(0, .ref (gz (xG x) + 114)), (1, .int a1)] []
  have h0 : Ch [122, 123, 124] [] w w := Ch.rf
  have qm1 : ((-1) : Int32).toInt = (-1) := by decide
  have q0 : (0 : Int32).toInt = 0 := by decide
  have q42 : (42 : Int32).toInt = 42 := by decide
  have q1000 : (1000 : Int32).toInt = 1000 := by decide
  obtain ⟨rA, rB, rC, rD⟩ := (o0.2 : Rel w)
  (try simp only [pW] at rA); (try simp only [pW] at rB); (try simp only [pW] at rC); (try simp only [pW] at rD)
  (try simp only [pD] at rA); (try simp only [pD] at rB); (try simp only [pD] at rC); (try simp only [pD] at rD)
  have LP2 : ∀ (f3 : Nat) (u1 : Int32) (w4 : Wv), Ch [122, 123, 124] [] w w4 → OkM w4 → (0 ≤ u1.toInt ∧ u1.toInt ≤ 2147483647) → (0 ≤ (wI w4 123 (a1).toNatClampNeg).toInt) → 2147483647 - u1.toInt < f3 → V x 0 0 w4 2 [(0, .ref (gz (xG x) + 114)), (1, .int a1), (2, .int u1)] [] := by
    intro f3
    induction f3 with
    | zero => intro u1 w4 h5 o6 z7 z8 z9; exfalso; omega
    | succ f3 ih10 =>
      intro u1 w4 h5 o6 z7 z8 z9
      refine r_iload_n 2 C dX11_walkOn_2 rfl ?_
      refine r_aload_n 0 C dX11_walkOn_3 rfl ?_
      refine gfX11_19 118 C (kS sM h5 kc_114) (xS sM h5 xc_114_6) dX11_walkOn_4 ?_
      refine r_iload_n 1 C dX11_walkOn_7 rfl ?_
      refine r_iald C (kS sM h5 kc_118) (vin (by omega) (by omega)) dX11_walkOn_8 ?_
      generalize (wI w4 118 (a1).toNatClampNeg) = v11
      refine r_icmp_ge 74 C dX11_walkOn_9 (by decide) (fun c12 => ?_) (fun c12 => ?_)
      · have c12' := i_le c12
        refine r_aload_n 0 C dX11_walkOn_74 rfl ?_
        refine gfX11_41 123 C (kS sM h5 kc_114) (xS sM h5 xc_114_15) dX11_walkOn_75 ?_
        refine r_iload_n 1 C dX11_walkOn_78 rfl ?_
        refine r_aload_n 0 C dX11_walkOn_79 rfl ?_
        refine gfX11_44 124 C (kS sM h5 kc_114) (xS sM h5 xc_114_16) dX11_walkOn_80 ?_
        refine r_iload_n 1 C dX11_walkOn_83 rfl ?_
        refine r_iald C (kS sM h5 kc_124) (vin (by omega) (by omega)) dX11_walkOn_84 ?_
        generalize (wI w4 124 (a1).toNatClampNeg) = v13
        refine r_if_gt 103 C dX11_walkOn_85 (by decide) (fun c14 => ?_) (fun c14 => ?_)
        · have c14' := i_lt c14
          refine r_iconst (v := (-1)) C dX11_walkOn_103 (by decide) ?_
          refine r_goto 113 C dX11_walkOn_104 (by decide) ?_
          refine r_iast C (kS sM h5 kc_123) (vin (by omega) (by omega)) dX11_walkOn_113 (fun w15 e16 => ?_)
          have h17 := Ch.putS h5 e16 (by decide)
          have o18 : OkM w15 := ⟨Inv.putR o6.1 e16 0 5 (by omega) (by omega) (-1) 41 (by omega) (by decide), Rel.putS o6.2 e16 (by decide)⟩
          exact hret _ _ _ dX11_walkOn_114 ⟨h17, o18⟩
        · have c14' := i_nlt c14
          refine r_aload_n 0 C dX11_walkOn_88 rfl ?_
          refine gfX11_38 122 C (kS sM h5 kc_114) (xS sM h5 xc_114_14) dX11_walkOn_89 ?_
          refine r_iload_n 1 C dX11_walkOn_92 rfl ?_
          refine r_iald C (kS sM h5 kc_122) (vin (by omega) (by omega)) dX11_walkOn_93 ?_
          have b20 := Inv.geta o6.1 rt_122_0 (i := a1) (by omega) (by omega) (by omega)
          refine r_aload_n 0 C dX11_walkOn_94 rfl ?_
          refine gfX11_41 123 C (kS sM h5 kc_114) (xS sM h5 xc_114_15) dX11_walkOn_95 ?_
          refine r_iload_n 1 C dX11_walkOn_98 rfl ?_
          refine r_iald C (kS sM h5 kc_123) (vin (by omega) (by omega)) dX11_walkOn_99 ?_
          have b22 := Inv.geta o6.1 rt_123_0 (i := a1) (by omega) (by omega) (by omega)
          refine r_icmp_ne 107 C dX11_walkOn_100 (by decide) (fun c23 => ?_) (fun c23 => ?_)
          · have c23' := i_ne c23
            refine r_aload_n 0 C dX11_walkOn_107 rfl ?_
            refine gfX11_41 123 C (kS sM h5 kc_114) (xS sM h5 xc_114_15) dX11_walkOn_108 ?_
            refine r_iload_n 1 C dX11_walkOn_111 rfl ?_
            refine r_iald C (kS sM h5 kc_123) (vin (by omega) (by omega)) dX11_walkOn_112 ?_
            have b25 := Inv.geta o6.1 rt_123_0 (i := a1) (by omega) (by omega) (by omega)
            refine r_iast C (kS sM h5 kc_123) (vin (by omega) (by omega)) dX11_walkOn_113 (fun w26 e27 => ?_)
            have h28 := Ch.putS h5 e27 (by decide)
            have o29 : OkM w26 := ⟨Inv.putR o6.1 e27 0 5 (by omega) (by omega) (-1) 41 (by omega) (by decide), Rel.putS o6.2 e27 (by decide)⟩
            exact hret _ _ _ dX11_walkOn_114 ⟨h28, o29⟩
          · have c23' := i_eq c23
            refine r_iconst (v := (-1)) C dX11_walkOn_103 (by decide) ?_
            refine r_goto 113 C dX11_walkOn_104 (by decide) ?_
            refine r_iast C (kS sM h5 kc_123) (vin (by omega) (by omega)) dX11_walkOn_113 (fun w30 e31 => ?_)
            have h32 := Ch.putS h5 e31 (by decide)
            have o33 : OkM w30 := ⟨Inv.putR o6.1 e31 0 5 (by omega) (by omega) (-1) 41 (by omega) (by decide), Rel.putS o6.2 e31 (by decide)⟩
            exact hret _ _ _ dX11_walkOn_114 ⟨h32, o33⟩
      · have c12' := i_nle c12
        refine r_aload_n 0 C dX11_walkOn_12 rfl ?_
        refine gfX11_44 124 C (kS sM h5 kc_114) (xS sM h5 xc_114_16) dX11_walkOn_13 ?_
        refine r_iload_n 1 C dX11_walkOn_16 rfl ?_
        refine r_iald C (kS sM h5 kc_124) (vin (by omega) (by omega)) dX11_walkOn_17 ?_
        generalize (wI w4 124 (a1).toNatClampNeg) = v34
        refine r_if_ne 74 C dX11_walkOn_18 (by decide) (fun c35 => ?_) (fun c35 => ?_)
        · have c35' := i_ne c35
          refine r_aload_n 0 C dX11_walkOn_74 rfl ?_
          refine gfX11_41 123 C (kS sM h5 kc_114) (xS sM h5 xc_114_15) dX11_walkOn_75 ?_
          refine r_iload_n 1 C dX11_walkOn_78 rfl ?_
          refine r_aload_n 0 C dX11_walkOn_79 rfl ?_
          refine gfX11_44 124 C (kS sM h5 kc_114) (xS sM h5 xc_114_16) dX11_walkOn_80 ?_
          refine r_iload_n 1 C dX11_walkOn_83 rfl ?_
          refine r_iald C (kS sM h5 kc_124) (vin (by omega) (by omega)) dX11_walkOn_84 ?_
          generalize (wI w4 124 (a1).toNatClampNeg) = v36
          refine r_if_gt 103 C dX11_walkOn_85 (by decide) (fun c37 => ?_) (fun c37 => ?_)
          · have c37' := i_lt c37
            refine r_iconst (v := (-1)) C dX11_walkOn_103 (by decide) ?_
            refine r_goto 113 C dX11_walkOn_104 (by decide) ?_
            refine r_iast C (kS sM h5 kc_123) (vin (by omega) (by omega)) dX11_walkOn_113 (fun w38 e39 => ?_)
            have h40 := Ch.putS h5 e39 (by decide)
            have o41 : OkM w38 := ⟨Inv.putR o6.1 e39 0 5 (by omega) (by omega) (-1) 41 (by omega) (by decide), Rel.putS o6.2 e39 (by decide)⟩
            exact hret _ _ _ dX11_walkOn_114 ⟨h40, o41⟩
          · have c37' := i_nlt c37
            refine r_aload_n 0 C dX11_walkOn_88 rfl ?_
            refine gfX11_38 122 C (kS sM h5 kc_114) (xS sM h5 xc_114_14) dX11_walkOn_89 ?_
            refine r_iload_n 1 C dX11_walkOn_92 rfl ?_
            refine r_iald C (kS sM h5 kc_122) (vin (by omega) (by omega)) dX11_walkOn_93 ?_
            have b43 := Inv.geta o6.1 rt_122_0 (i := a1) (by omega) (by omega) (by omega)
            refine r_aload_n 0 C dX11_walkOn_94 rfl ?_
            refine gfX11_41 123 C (kS sM h5 kc_114) (xS sM h5 xc_114_15) dX11_walkOn_95 ?_
            refine r_iload_n 1 C dX11_walkOn_98 rfl ?_
            refine r_iald C (kS sM h5 kc_123) (vin (by omega) (by omega)) dX11_walkOn_99 ?_
            have b45 := Inv.geta o6.1 rt_123_0 (i := a1) (by omega) (by omega) (by omega)
            refine r_icmp_ne 107 C dX11_walkOn_100 (by decide) (fun c46 => ?_) (fun c46 => ?_)
            · have c46' := i_ne c46
              refine r_aload_n 0 C dX11_walkOn_107 rfl ?_
              refine gfX11_41 123 C (kS sM h5 kc_114) (xS sM h5 xc_114_15) dX11_walkOn_108 ?_
              refine r_iload_n 1 C dX11_walkOn_111 rfl ?_
              refine r_iald C (kS sM h5 kc_123) (vin (by omega) (by omega)) dX11_walkOn_112 ?_
              have b48 := Inv.geta o6.1 rt_123_0 (i := a1) (by omega) (by omega) (by omega)
              refine r_iast C (kS sM h5 kc_123) (vin (by omega) (by omega)) dX11_walkOn_113 (fun w49 e50 => ?_)
              have h51 := Ch.putS h5 e50 (by decide)
              have o52 : OkM w49 := ⟨Inv.putR o6.1 e50 0 5 (by omega) (by omega) (-1) 41 (by omega) (by decide), Rel.putS o6.2 e50 (by decide)⟩
              exact hret _ _ _ dX11_walkOn_114 ⟨h51, o52⟩
            · have c46' := i_eq c46
              refine r_iconst (v := (-1)) C dX11_walkOn_103 (by decide) ?_
              refine r_goto 113 C dX11_walkOn_104 (by decide) ?_
              refine r_iast C (kS sM h5 kc_123) (vin (by omega) (by omega)) dX11_walkOn_113 (fun w53 e54 => ?_)
              have h55 := Ch.putS h5 e54 (by decide)
              have o56 : OkM w53 := ⟨Inv.putR o6.1 e54 0 5 (by omega) (by omega) (-1) 41 (by omega) (by decide), Rel.putS o6.2 e54 (by decide)⟩
              exact hret _ _ _ dX11_walkOn_114 ⟨h55, o56⟩
        · have c35' := i_eq c35
          refine r_aload_n 0 C dX11_walkOn_21 rfl ?_
          refine gfX11_38 122 C (kS sM h5 kc_114) (xS sM h5 xc_114_14) dX11_walkOn_22 ?_
          refine r_iload_n 1 C dX11_walkOn_25 rfl ?_
          refine r_iald C (kS sM h5 kc_122) (vin (by omega) (by omega)) dX11_walkOn_26 ?_
          have b58 := Inv.geta o6.1 rt_122_0 (i := a1) (by omega) (by omega) (by omega)
          refine r_aload_n 0 C dX11_walkOn_27 rfl ?_
          refine gfX11_41 123 C (kS sM h5 kc_114) (xS sM h5 xc_114_15) dX11_walkOn_28 ?_
          refine r_iload_n 1 C dX11_walkOn_31 rfl ?_
          refine r_iald C (kS sM h5 kc_123) (vin (by omega) (by omega)) dX11_walkOn_32 ?_
          have b60 := Inv.geta o6.1 rt_123_0 (i := a1) (by omega) (by omega) (by omega)
          refine r_icmp_eq 74 C dX11_walkOn_33 (by decide) (fun c61 => ?_) (fun c61 => ?_)
          · have c61' := i_eq c61
            refine r_aload_n 0 C dX11_walkOn_74 rfl ?_
            refine gfX11_41 123 C (kS sM h5 kc_114) (xS sM h5 xc_114_15) dX11_walkOn_75 ?_
            refine r_iload_n 1 C dX11_walkOn_78 rfl ?_
            refine r_aload_n 0 C dX11_walkOn_79 rfl ?_
            refine gfX11_44 124 C (kS sM h5 kc_114) (xS sM h5 xc_114_16) dX11_walkOn_80 ?_
            refine r_iload_n 1 C dX11_walkOn_83 rfl ?_
            refine r_iald C (kS sM h5 kc_124) (vin (by omega) (by omega)) dX11_walkOn_84 ?_
            generalize (wI w4 124 (a1).toNatClampNeg) = v62
            refine r_if_gt 103 C dX11_walkOn_85 (by decide) (fun c63 => ?_) (fun c63 => ?_)
            · have c63' := i_lt c63
              refine r_iconst (v := (-1)) C dX11_walkOn_103 (by decide) ?_
              refine r_goto 113 C dX11_walkOn_104 (by decide) ?_
              refine r_iast C (kS sM h5 kc_123) (vin (by omega) (by omega)) dX11_walkOn_113 (fun w64 e65 => ?_)
              have h66 := Ch.putS h5 e65 (by decide)
              have o67 : OkM w64 := ⟨Inv.putR o6.1 e65 0 5 (by omega) (by omega) (-1) 41 (by omega) (by decide), Rel.putS o6.2 e65 (by decide)⟩
              exact hret _ _ _ dX11_walkOn_114 ⟨h66, o67⟩
            · have c63' := i_nlt c63
              refine r_aload_n 0 C dX11_walkOn_88 rfl ?_
              refine gfX11_38 122 C (kS sM h5 kc_114) (xS sM h5 xc_114_14) dX11_walkOn_89 ?_
              refine r_iload_n 1 C dX11_walkOn_92 rfl ?_
              refine r_iald C (kS sM h5 kc_122) (vin (by omega) (by omega)) dX11_walkOn_93 ?_
              have b69 := Inv.geta o6.1 rt_122_0 (i := a1) (by omega) (by omega) (by omega)
              refine r_aload_n 0 C dX11_walkOn_94 rfl ?_
              refine gfX11_41 123 C (kS sM h5 kc_114) (xS sM h5 xc_114_15) dX11_walkOn_95 ?_
              refine r_iload_n 1 C dX11_walkOn_98 rfl ?_
              refine r_iald C (kS sM h5 kc_123) (vin (by omega) (by omega)) dX11_walkOn_99 ?_
              have b71 := Inv.geta o6.1 rt_123_0 (i := a1) (by omega) (by omega) (by omega)
              refine r_icmp_ne 107 C dX11_walkOn_100 (by decide) (fun c72 => ?_) (fun c72 => ?_)
              · have c72' := i_ne c72
                refine r_aload_n 0 C dX11_walkOn_107 rfl ?_
                refine gfX11_41 123 C (kS sM h5 kc_114) (xS sM h5 xc_114_15) dX11_walkOn_108 ?_
                refine r_iload_n 1 C dX11_walkOn_111 rfl ?_
                refine r_iald C (kS sM h5 kc_123) (vin (by omega) (by omega)) dX11_walkOn_112 ?_
                have b74 := Inv.geta o6.1 rt_123_0 (i := a1) (by omega) (by omega) (by omega)
                refine r_iast C (kS sM h5 kc_123) (vin (by omega) (by omega)) dX11_walkOn_113 (fun w75 e76 => ?_)
                have h77 := Ch.putS h5 e76 (by decide)
                have o78 : OkM w75 := ⟨Inv.putR o6.1 e76 0 5 (by omega) (by omega) (-1) 41 (by omega) (by decide), Rel.putS o6.2 e76 (by decide)⟩
                exact hret _ _ _ dX11_walkOn_114 ⟨h77, o78⟩
              · have c72' := i_eq c72
                refine r_iconst (v := (-1)) C dX11_walkOn_103 (by decide) ?_
                refine r_goto 113 C dX11_walkOn_104 (by decide) ?_
                refine r_iast C (kS sM h5 kc_123) (vin (by omega) (by omega)) dX11_walkOn_113 (fun w79 e80 => ?_)
                have h81 := Ch.putS h5 e80 (by decide)
                have o82 : OkM w79 := ⟨Inv.putR o6.1 e80 0 5 (by omega) (by omega) (-1) 41 (by omega) (by decide), Rel.putS o6.2 e80 (by decide)⟩
                exact hret _ _ _ dX11_walkOn_114 ⟨h81, o82⟩
          · have c61' := i_ne c61
            refine r_aload_n 0 C dX11_walkOn_36 rfl ?_
            refine gfX11_77 134 C (kS sM h5 kc_114) (xS sM h5 xc_114_44) dX11_walkOn_37 ?_
            refine r_bipush (v := 42) C dX11_walkOn_40 (by decide) ?_
            refine r_aload_n 0 C dX11_walkOn_42 rfl ?_
            refine gfX11_41 123 C (kS sM h5 kc_114) (xS sM h5 xc_114_15) dX11_walkOn_43 ?_
            refine r_iload_n 1 C dX11_walkOn_46 rfl ?_
            refine r_iald C (kS sM h5 kc_123) (vin (by omega) (by omega)) dX11_walkOn_47 ?_
            have b84 := Inv.geta o6.1 rt_123_0 (i := a1) (by omega) (by omega) (by omega)
            refine r_imul C dX11_walkOn_48 (fun v85 e86 => ?_)
            have k87 : (42 : Int32).toInt = 42 := by omega
            have v85' := imul_ok e86 (by rw [k87]; omega) (by rw [k87]; omega)
            rw [k87] at v85'
            refine r_aload_n 0 C dX11_walkOn_49 rfl ?_
            refine gfX11_38 122 C (kS sM h5 kc_114) (xS sM h5 xc_114_14) dX11_walkOn_50 ?_
            refine r_iload_n 1 C dX11_walkOn_53 rfl ?_
            refine r_iald C (kS sM h5 kc_122) (vin (by omega) (by omega)) dX11_walkOn_54 ?_
            have b89 := Inv.geta o6.1 rt_122_0 (i := a1) (by omega) (by omega) (by omega)
            refine r_iadd C dX11_walkOn_55 (fun v90 e91 => ?_)
            have v90' := iadd_ok e91 (by omega) (by omega)
            refine r_iald C (kS sM h5 kc_134) (vin (by omega) (by omega)) dX11_walkOn_56 ?_
            generalize (wI w4 134 (v90).toNatClampNeg) = v92
            refine r_sipush (v := 1000) C dX11_walkOn_57 (by decide) ?_
            refine r_icmp_ge 74 C dX11_walkOn_60 (by decide) (fun c93 => ?_) (fun c93 => ?_)
            · have c93' := i_le c93
              refine r_aload_n 0 C dX11_walkOn_74 rfl ?_
              refine gfX11_41 123 C (kS sM h5 kc_114) (xS sM h5 xc_114_15) dX11_walkOn_75 ?_
              refine r_iload_n 1 C dX11_walkOn_78 rfl ?_
              refine r_aload_n 0 C dX11_walkOn_79 rfl ?_
              refine gfX11_44 124 C (kS sM h5 kc_114) (xS sM h5 xc_114_16) dX11_walkOn_80 ?_
              refine r_iload_n 1 C dX11_walkOn_83 rfl ?_
              refine r_iald C (kS sM h5 kc_124) (vin (by omega) (by omega)) dX11_walkOn_84 ?_
              generalize (wI w4 124 (a1).toNatClampNeg) = v94
              refine r_if_gt 103 C dX11_walkOn_85 (by decide) (fun c95 => ?_) (fun c95 => ?_)
              · have c95' := i_lt c95
                refine r_iconst (v := (-1)) C dX11_walkOn_103 (by decide) ?_
                refine r_goto 113 C dX11_walkOn_104 (by decide) ?_
                refine r_iast C (kS sM h5 kc_123) (vin (by omega) (by omega)) dX11_walkOn_113 (fun w96 e97 => ?_)
                have h98 := Ch.putS h5 e97 (by decide)
                have o99 : OkM w96 := ⟨Inv.putR o6.1 e97 0 5 (by omega) (by omega) (-1) 41 (by omega) (by decide), Rel.putS o6.2 e97 (by decide)⟩
                exact hret _ _ _ dX11_walkOn_114 ⟨h98, o99⟩
              · have c95' := i_nlt c95
                refine r_aload_n 0 C dX11_walkOn_88 rfl ?_
                refine gfX11_38 122 C (kS sM h5 kc_114) (xS sM h5 xc_114_14) dX11_walkOn_89 ?_
                refine r_iload_n 1 C dX11_walkOn_92 rfl ?_
                refine r_iald C (kS sM h5 kc_122) (vin (by omega) (by omega)) dX11_walkOn_93 ?_
                have b101 := Inv.geta o6.1 rt_122_0 (i := a1) (by omega) (by omega) (by omega)
                refine r_aload_n 0 C dX11_walkOn_94 rfl ?_
                refine gfX11_41 123 C (kS sM h5 kc_114) (xS sM h5 xc_114_15) dX11_walkOn_95 ?_
                refine r_iload_n 1 C dX11_walkOn_98 rfl ?_
                refine r_iald C (kS sM h5 kc_123) (vin (by omega) (by omega)) dX11_walkOn_99 ?_
                have b103 := Inv.geta o6.1 rt_123_0 (i := a1) (by omega) (by omega) (by omega)
                refine r_icmp_ne 107 C dX11_walkOn_100 (by decide) (fun c104 => ?_) (fun c104 => ?_)
                · have c104' := i_ne c104
                  refine r_aload_n 0 C dX11_walkOn_107 rfl ?_
                  refine gfX11_41 123 C (kS sM h5 kc_114) (xS sM h5 xc_114_15) dX11_walkOn_108 ?_
                  refine r_iload_n 1 C dX11_walkOn_111 rfl ?_
                  refine r_iald C (kS sM h5 kc_123) (vin (by omega) (by omega)) dX11_walkOn_112 ?_
                  have b106 := Inv.geta o6.1 rt_123_0 (i := a1) (by omega) (by omega) (by omega)
                  refine r_iast C (kS sM h5 kc_123) (vin (by omega) (by omega)) dX11_walkOn_113 (fun w107 e108 => ?_)
                  have h109 := Ch.putS h5 e108 (by decide)
                  have o110 : OkM w107 := ⟨Inv.putR o6.1 e108 0 5 (by omega) (by omega) (-1) 41 (by omega) (by decide), Rel.putS o6.2 e108 (by decide)⟩
                  exact hret _ _ _ dX11_walkOn_114 ⟨h109, o110⟩
                · have c104' := i_eq c104
                  refine r_iconst (v := (-1)) C dX11_walkOn_103 (by decide) ?_
                  refine r_goto 113 C dX11_walkOn_104 (by decide) ?_
                  refine r_iast C (kS sM h5 kc_123) (vin (by omega) (by omega)) dX11_walkOn_113 (fun w111 e112 => ?_)
                  have h113 := Ch.putS h5 e112 (by decide)
                  have o114 : OkM w111 := ⟨Inv.putR o6.1 e112 0 5 (by omega) (by omega) (-1) 41 (by omega) (by decide), Rel.putS o6.2 e112 (by decide)⟩
                  exact hret _ _ _ dX11_walkOn_114 ⟨h113, o114⟩
            · have c93' := i_nle c93
              refine r_aload_n 0 C dX11_walkOn_63 rfl ?_
              refine r_iload_n 1 C dX11_walkOn_64 rfl ?_
              refine callVV C cwX11_316_V (ctX11_stepOn _ _ w4 (sS sM h5) o6 W (h5.I (by decide) (by decide) pW) (by omega) D (h5.I (by decide) (by decide) pD) (by omega) a1 (by omega) (by omega)) (by decide) (kS sM h5 kc_114) rfl rfl rfl (Nat.le_of_ble_eq_true rfl) (by decide) dX11_walkOn_65 (fun w116 y115 => ?_)
              show V x 0 0 w116 68 [(0, .ref (gz (xG x) + 114)), (1, .int a1), (2, .int u1)] []
              obtain ⟨h118, o119⟩ := y115
              have h120 := Ch.tr h5 h118 (by decide) (by decide)
              obtain ⟨i121, e122⟩ : ∃ z : Int32, u1 + Int32.ofInt 1 = z := ⟨_, rfl⟩
              have i121' := iinc_ok e122 (by decide) (by omega) (by omega)
              refine r_iinc [(2, .int i121), (0, .ref (gz (xG x) + 114)), (1, .int a1)] 2 C dX11_walkOn_68 rfl e122 (by decide) rfl ?_
              refine r_goto 2 C dX11_walkOn_71 (by decide) ?_
              refine r_lv [1, 2, 0] rfl ?_
              exact ih10 i121 w116 h120 o119 (by omega) (by rw [(h118.A (by decide) (by decide) rfl)]; omega) (by omega)
  refine r_iconst (v := 0) C dX11_walkOn_0 (by decide) ?_
  refine r_istore_n [(2, .int 0), (0, .ref (gz (xG x) + 114)), (1, .int a1)] C dX11_walkOn_1 (by decide) rfl ?_
  refine r_lv [1, 2, 0] rfl ?_
  exact LP2 4294967296 0 w h0 o0 (by omega) (by omega) (by omega)
set_option maxHeartbeats 4000000 in
set_option maxRecDepth 100000 in
theorem ctX11_minuteBy (l : Launch) (G : Gt) (w : Wv) (sM : Str KM XM w) (o0 : OkM w) (W : Int32) (pW : wI w 114 0 = W) (bW : 0 ≤ W.toInt ∧ W.toInt ≤ 9) (D : Int32) (pD : wI w 114 1 = D) (bD : 0 ≤ D.toInt ∧ D.toInt ≤ 9) (a1 : Int32) (a2 : Int32) (b2 : (-1) ≤ a2.toInt ∧ a2.toInt ≤ 2) : CtI l G yX11_minuteBy cX11_minuteBy 5 .boolean ({ frames := 5, cells := 0, slots := 0, locals := 116 } : Room) [.ref (gz G + 114), .int a1, .int a2] w (fun r w' => Ch [122, 123, 124] [(114, 13)] w w' ∧ OkM w' ∧ (r.toInt = 1 → 0 < W.toInt)) := by
  refine enterI (by decide) (Nat.le_of_ble_eq_true rfl) ?_
  intro x el eG C hret
  subst el; subst eG
  show V x 0 0 w 0 [(0, .ref (gz (xG x) + 114)), (1, .int a1), (2, .int a2)] []
  have h0 : Ch [122, 123, 124] [(114, 13)] w w := Ch.rf
  have qm1 : ((-1) : Int32).toInt = (-1) := by decide
  have q0 : (0 : Int32).toInt = 0 := by decide
  have q1 : (1 : Int32).toInt = 1 := by decide
  obtain ⟨rA, rB, rC, rD⟩ := (o0.2 : Rel w)
  (try simp only [pW] at rA); (try simp only [pW] at rB); (try simp only [pW] at rC); (try simp only [pW] at rD)
  (try simp only [pD] at rA); (try simp only [pD] at rB); (try simp only [pD] at rC); (try simp only [pD] at rD)
  have LP15 : ∀ (f16 : Nat) (u13 : Int32) (u14 : Int32) (w17 : Wv), Ch [122, 123, 124] [(114, 13)] w w17 → OkM w17 → (0 ≤ u13.toInt ∧ u13.toInt ≤ 41) → (0 ≤ u14.toInt ∧ u14.toInt ≤ 2147483647) → (0 < W.toInt) → 2147483647 - u14.toInt < f16 → V x 0 0 w17 20 [(0, .ref (gz (xG x) + 114)), (1, .int a1), (2, .int a2), (3, .int u13), (4, .int u14)] [] := by
    intro f16
    induction f16 with
    | zero => intro u13 u14 w17 h18 o19 z20 z21 z22 z23; exfalso; omega
    | succ f16 ih24 =>
      intro u13 u14 w17 h18 o19 z20 z21 z22 z23
      have LP29 : ∀ (f30 : Nat) (u27 : Int32) (u28 : Int32) (w31 : Wv), Ch [122, 123, 124] [(114, 13)] w w31 → OkM w31 → (0 ≤ u27.toInt ∧ u27.toInt ≤ 41) → (0 ≤ u28.toInt ∧ u28.toInt ≤ 2147483647) → (0 < W.toInt) → 2147483647 - u28.toInt < f30 → V x 0 0 w31 74 [(0, .ref (gz (xG x) + 114)), (1, .int a1), (2, .int a2), (3, .int u27), (4, .int u28)] [] := by
        intro f30
        induction f30 with
        | zero => intro u27 u28 w31 h32 o33 z34 z35 z36 z37; exfalso; omega
        | succ f30 ih38 =>
          intro u27 u28 w31 h32 o33 z34 z35 z36 z37
          refine r_iload 4 C dX11_minuteBy_74 rfl ?_
          refine r_aload_n 0 C dX11_minuteBy_76 rfl ?_
          refine gfX11_121 (v := (wI w 114 3)) C (kS sM h32 kc_114) (h32.I (by decide) (by decide) rfl) dX11_minuteBy_77 ?_
          have b39 := Inv.get o0.1 rt_114_3 (j := 3) (by decide) (by decide)
          refine r_icmp_ge 106 C dX11_minuteBy_80 (by decide) (fun c40 => ?_) (fun c40 => ?_)
          · have c40' := i_le c40
            refine r_iconst (v := 1) C dX11_minuteBy_106 (by decide) ?_
            exact hret _ _ _ _ dX11_minuteBy_107 (nar_z (z_of (by omega))) ⟨h32, o33, by omega⟩
          · have c40' := i_nle c40
            refine r_aload_n 0 C dX11_minuteBy_83 rfl ?_
            refine gfX11_41 123 C (kS sM h32 kc_114) (xS sM h32 xc_114_15) dX11_minuteBy_84 ?_
            refine r_iload 4 C dX11_minuteBy_87 rfl ?_
            refine r_iald C (kS sM h32 kc_123) (vin (by omega) (by omega)) dX11_minuteBy_89 ?_
            have b42 := Inv.geta o33.1 rt_123_0 (i := u28) (by omega) (by omega) (by omega)
            refine r_iconst (v := (-1)) C dX11_minuteBy_90 (by decide) ?_
            refine r_icmp_eq 100 C dX11_minuteBy_91 (by decide) (fun c43 => ?_) (fun c43 => ?_)
            · have c43' := i_eq c43
              obtain ⟨i44, e45⟩ : ∃ z : Int32, u28 + Int32.ofInt 1 = z := ⟨_, rfl⟩
              have i44' := iinc_ok e45 (by decide) (by omega) (by omega)
              refine r_iinc [(4, .int i44), (0, .ref (gz (xG x) + 114)), (1, .int a1), (2, .int a2), (3, .int u27)] 4 C dX11_minuteBy_100 rfl e45 (by decide) rfl ?_
              refine r_goto 74 C dX11_minuteBy_103 (by decide) ?_
              refine r_lv [1, 2, 3, 4, 0] rfl ?_
              exact ih38 u27 i44 w31 h32 o33 (by omega) (by omega) (by omega) (by omega)
            · have c43' := i_ne c43
              refine r_aload_n 0 C dX11_minuteBy_94 rfl ?_
              refine r_iload 4 C dX11_minuteBy_95 rfl ?_
              refine callVV C cwX11_322_V (ctX11_walkOn _ _ w31 (sS sM h32) o33 W (h32.I (by decide) (by decide) pW) (by omega) D (h32.I (by decide) (by decide) pD) (by omega) u28 (by omega) (by omega)) (by decide) (kS sM h32 kc_114) rfl rfl rfl (Nat.le_of_ble_eq_true rfl) (by decide) dX11_minuteBy_97 (fun w47 y46 => ?_)
              show V x 0 0 w47 100 [(0, .ref (gz (xG x) + 114)), (1, .int a1), (2, .int a2), (3, .int u27), (4, .int u28)] []
              obtain ⟨h49, o50⟩ := y46
              have h51 := Ch.tr h32 h49 (by decide) (by decide)
              obtain ⟨i52, e53⟩ : ∃ z : Int32, u28 + Int32.ofInt 1 = z := ⟨_, rfl⟩
              have i52' := iinc_ok e53 (by decide) (by omega) (by omega)
              refine r_iinc [(4, .int i52), (0, .ref (gz (xG x) + 114)), (1, .int a1), (2, .int a2), (3, .int u27)] 4 C dX11_minuteBy_100 rfl e53 (by decide) rfl ?_
              refine r_goto 74 C dX11_minuteBy_103 (by decide) ?_
              refine r_lv [1, 2, 3, 4, 0] rfl ?_
              exact ih38 u27 i52 w47 h51 o50 (by omega) (by omega) (by omega) (by omega)
      refine r_iload 4 C dX11_minuteBy_20 rfl ?_
      refine r_aload_n 0 C dX11_minuteBy_22 rfl ?_
      refine gfX11_121 (v := (wI w 114 3)) C (kS sM h18 kc_114) (h18.I (by decide) (by decide) rfl) dX11_minuteBy_23 ?_
      have b25 := Inv.get o0.1 rt_114_3 (j := 3) (by decide) (by decide)
      refine r_icmp_ge 71 C dX11_minuteBy_26 (by decide) (fun c26 => ?_) (fun c26 => ?_)
      · have c26' := i_le c26
        refine r_iconst (v := 0) C dX11_minuteBy_71 (by decide) ?_
        refine r_istore [(4, .int 0), (0, .ref (gz (xG x) + 114)), (1, .int a1), (2, .int a2), (3, .int u13)] C dX11_minuteBy_72 (by decide) rfl ?_
        refine r_lv [1, 2, 3, 4, 0] rfl ?_
        exact LP29 4294967296 u13 0 w17 h18 o19 (by omega) (by omega) (by omega) (by omega)
      · have c26' := i_nle c26
        refine r_iload_n 2 C dX11_minuteBy_29 rfl ?_
        refine r_iconst (v := (-1)) C dX11_minuteBy_30 (by decide) ?_
        refine r_icmp_eq 71 C dX11_minuteBy_31 (by decide) (fun c54 => ?_) (fun c54 => ?_)
        · have c54' := i_eq c54
          refine r_iconst (v := 0) C dX11_minuteBy_71 (by decide) ?_
          refine r_istore [(4, .int 0), (0, .ref (gz (xG x) + 114)), (1, .int a1), (2, .int a2), (3, .int u13)] C dX11_minuteBy_72 (by decide) rfl ?_
          refine r_lv [1, 2, 3, 4, 0] rfl ?_
          exact LP29 4294967296 u13 0 w17 h18 o19 (by omega) (by omega) (by omega) (by omega)
        · have c54' := i_ne c54
          refine r_aload_n 0 C dX11_minuteBy_34 rfl ?_
          refine gfX11_41 123 C (kS sM h18 kc_114) (xS sM h18 xc_114_15) dX11_minuteBy_35 ?_
          refine r_iload 4 C dX11_minuteBy_38 rfl ?_
          refine r_aload_n 0 C dX11_minuteBy_40 rfl ?_
          refine r_iload 4 C dX11_minuteBy_41 rfl ?_
          refine r_iload_n 2 C dX11_minuteBy_43 rfl ?_
          refine callVI C cwX11_313_V (ctX11_hears _ _ w17 (sS sM h18) o19 u14 a2 (by omega) (by omega)) (by decide) (kS sM h18 kc_114) rfl rfl rfl (Nat.le_of_ble_eq_true rfl) (by decide) dX11_minuteBy_44 (fun r57 w56 y55 => ?_)
          show V x 0 0 w56 47 [(0, .ref (gz (xG x) + 114)), (1, .int a1), (2, .int a2), (3, .int u13), (4, .int u14)] [.int r57, .int u14, .ref (gz (xG x) + 123)]
          obtain ⟨h58, o59⟩ := y55
          have h60 := Ch.tr h18 h58 (by decide) (by decide)
          refine r_if_eq 57 C dX11_minuteBy_47 (by decide) (fun c61 => ?_) (fun c61 => ?_)
          · have c61' := i_eq c61
            refine r_aload_n 0 C dX11_minuteBy_57 rfl ?_
            refine gfX11_41 123 C (kS sM h60 kc_114) (xS sM h60 xc_114_15) dX11_minuteBy_58 ?_
            refine r_iload 4 C dX11_minuteBy_61 rfl ?_
            refine r_iald C (kS sM h60 kc_123) (vin (by omega) (by omega)) dX11_minuteBy_63 ?_
            rw [show wI w56 123 (u14).toNatClampNeg = (wI w17 123 (u14).toNatClampNeg) from (h58.A (by decide) (by decide) rfl)]
            have b63 := Inv.geta o19.1 rt_123_0 (i := u14) (by omega) (by omega) (by omega)
            refine r_iast C (kS sM h60 kc_123) (vin (by omega) (by omega)) dX11_minuteBy_64 (fun w64 e65 => ?_)
            have h66 := Ch.putS h60 e65 (by decide)
            have o67 : OkM w64 := ⟨Inv.putR o59.1 e65 0 5 (by omega) (by omega) (-1) 41 (by omega) (by decide), Rel.putS o59.2 e65 (by decide)⟩
            obtain ⟨i68, e69⟩ : ∃ z : Int32, u14 + Int32.ofInt 1 = z := ⟨_, rfl⟩
            have i68' := iinc_ok e69 (by decide) (by omega) (by omega)
            refine r_iinc [(4, .int i68), (0, .ref (gz (xG x) + 114)), (1, .int a1), (2, .int a2), (3, .int u13)] 4 C dX11_minuteBy_65 rfl e69 (by decide) rfl ?_
            refine r_goto 20 C dX11_minuteBy_68 (by decide) ?_
            refine r_lv [1, 2, 3, 4, 0] rfl ?_
            exact ih24 u13 i68 w64 h66 o67 (by omega) (by omega) (by omega) (by omega)
          · have c61' := i_ne c61
            refine r_aload_n 0 C dX11_minuteBy_50 rfl ?_
            refine gfX11_259 (v := (wI w17 114 13)) C (kS sM h60 kc_114) (h58.I (by decide) (by decide) rfl) dX11_minuteBy_51 ?_
            have b70 := Inv.get o19.1 rt_114_13 (j := 13) (by decide) (by decide)
            refine r_goto 64 C dX11_minuteBy_54 (by decide) ?_
            refine r_iast C (kS sM h60 kc_123) (vin (by omega) (by omega)) dX11_minuteBy_64 (fun w71 e72 => ?_)
            have h73 := Ch.putS h60 e72 (by decide)
            have o74 : OkM w71 := ⟨Inv.putR o59.1 e72 0 5 (by omega) (by omega) (-1) 41 (by omega) (by decide), Rel.putS o59.2 e72 (by decide)⟩
            obtain ⟨i75, e76⟩ : ∃ z : Int32, u14 + Int32.ofInt 1 = z := ⟨_, rfl⟩
            have i75' := iinc_ok e76 (by decide) (by omega) (by omega)
            refine r_iinc [(4, .int i75), (0, .ref (gz (xG x) + 114)), (1, .int a1), (2, .int a2), (3, .int u13)] 4 C dX11_minuteBy_65 rfl e76 (by decide) rfl ?_
            refine r_goto 20 C dX11_minuteBy_68 (by decide) ?_
            refine r_lv [1, 2, 3, 4, 0] rfl ?_
            exact ih24 u13 i75 w71 h73 o74 (by omega) (by omega) (by omega) (by omega)
  refine r_aload_n 0 C dX11_minuteBy_0 rfl ?_
  refine r_iload_n 1 C dX11_minuteBy_1 rfl ?_
  refine callVI C cwX11_319_V (ctX11_stepTo _ _ w (sS sM h0) o0 W pW (by omega) D pD (by omega) a1 ) (by decide) (kS sM h0 kc_114) rfl rfl rfl (Nat.le_of_ble_eq_true rfl) (by decide) dX11_minuteBy_2 (fun r3 w2 y1 => ?_)
  show V x 0 0 w2 5 [(0, .ref (gz (xG x) + 114)), (1, .int a1), (2, .int a2)] [.int r3]
  obtain ⟨h4, o5, g6⟩ := y1
  have h7 := Ch.tr h0 h4 (by decide) (by decide)
  refine r_istore_n [(3, .int r3), (0, .ref (gz (xG x) + 114)), (1, .int a1), (2, .int a2)] C dX11_minuteBy_5 (by decide) rfl ?_
  refine r_iload_n 0 C dX11_minuteBy_6 rfl ?_
  refine r_if_ge 12 C dX11_minuteBy_7 (by decide) (fun c8 => ?_) (fun c8 => ?_)
  · have c8' := i_le c8
    refine r_aload_n 1 C dX11_minuteBy_12 rfl ?_
    refine r_iload_n 0 C dX11_minuteBy_13 rfl ?_
    refine pfX11_259 C (kS sM h7 kc_114) dX11_minuteBy_14 (fun w9 e10 => ?_)
    have h11 := Ch.putF h7 e10 (by decide)
    have o12 : OkM w9 := ⟨Inv.put o5.1 e10 0 41 (by omega) (by decide), Rel.putF o5.2 e10 (by decide)⟩
    refine r_iconst (v := 0) C dX11_minuteBy_17 (by decide) ?_
    refine r_istore [(4, .int 0), (3, .int r3), (0, .ref (gz (xG x) + 114)), (1, .int a1), (2, .int a2)] C dX11_minuteBy_18 (by decide) rfl ?_
    refine r_lv [2, 3, 4, 1, 0] rfl ?_
    exact LP15 4294967296 r3 0 w9 h11 o12 (by omega) (by omega) (by omega) (by omega)
  · have c8' := i_nle c8
    refine r_iconst (v := 0) C dX11_minuteBy_10 (by decide) ?_
    exact hret _ _ _ _ dX11_minuteBy_11 (nar_z (z_of (by omega))) ⟨h7, o5, by omega⟩
set_option maxHeartbeats 4000000 in
set_option maxRecDepth 100000 in
theorem ctX11_minute (l : Launch) (G : Gt) (w : Wv) (sM : Str KM XM w) (o0 : OkM w) (W : Int32) (pW : wI w 114 0 = W) (bW : 0 ≤ W.toInt ∧ W.toInt ≤ 9) (D : Int32) (pD : wI w 114 1 = D) (bD : 0 ≤ D.toInt ∧ D.toInt ≤ 9) (a1 : Int32) (a2 : Int32) : CtI l G yX11_minute cX11_minute 3 .int ({ frames := 6, cells := 0, slots := 0, locals := 140 } : Room) [.ref (gz G + 114), .int a1, .int a2] w (fun r w' => Ch [122, 123, 124] [(114, 13), (114, 17)] w w' ∧ OkM w') := by
  refine enterI (by decide) (Nat.le_of_ble_eq_true rfl) ?_
  intro x el eG C hret
  subst el; subst eG
  show V x 0 0 w 0 [(0, .ref (gz (xG x) + 114)), (1, .int a1), (2, .int a2)] []
  have h0 : Ch [122, 123, 124] [(114, 13), (114, 17)] w w := Ch.rf
  have qm1000000003 : ((-1000000003) : Int32).toInt = (-1000000003) := by decide
  have qm1000000002 : ((-1000000002) : Int32).toInt = (-1000000002) := by decide
  have qm1000000001 : ((-1000000001) : Int32).toInt = (-1000000001) := by decide
  have qm1 : ((-1) : Int32).toInt = (-1) := by decide
  have q0 : (0 : Int32).toInt = 0 := by decide
  have q1 : (1 : Int32).toInt = 1 := by decide
  have ql0 : (0 : Int64).toInt = 0 := by decide
  have ql4 : (4 : Int64).toInt = 4 := by decide
  obtain ⟨rA, rB, rC, rD⟩ := (o0.2 : Rel w)
  (try simp only [pW] at rA); (try simp only [pW] at rB); (try simp only [pW] at rC); (try simp only [pW] at rD)
  (try simp only [pD] at rA); (try simp only [pD] at rB); (try simp only [pD] at rC); (try simp only [pD] at rD)
  refine r_iload_n 2 C dX11_minute_0 rfl ?_
  refine r_iconst (v := (-1)) C dX11_minute_1 (by decide) ?_
  refine r_icmp_eq 17 C dX11_minute_2 (by decide) (fun c1 => ?_) (fun c1 => ?_)
  · have c1' := i_eq c1
    refine r_iload_n 1 C dX11_minute_17 rfl ?_
    refine r_i2l C dX11_minute_18 (fun v2 e3 => ?_)
    have v2' := i2l_ok e3
    refine r_lconst (v := 0) C dX11_minute_19 (by decide) ?_
    refine r_ldc2 C mw6_172 dX11_minute_20 ?_
    refine callSI C cwX11_114_S (ctX11_in _ _ w v2 0 4 ) (by decide) rfl rfl (Nat.le_of_ble_eq_true rfl) (by decide) dX11_minute_23 (fun r6 w5 y4 => ?_)
    obtain ⟨rfl, g7⟩ := y4
    show V x 0 0 w 26 [(0, .ref (gz (xG x) + 114)), (1, .int a1), (2, .int a2)] [.int r6]
    refine r_if_ne 32 C dX11_minute_26 (by decide) (fun c8 => ?_) (fun c8 => ?_)
    · have c8' := i_ne c8
      refine r_aload_n 0 C dX11_minute_32 rfl ?_
      refine r_iload_n 1 C dX11_minute_33 rfl ?_
      refine r_iload_n 2 C dX11_minute_34 rfl ?_
      refine callVI C cwX11_327_V (ctX11_minuteBy _ _ w (sS sM h0) o0 W pW (by omega) D pD (by omega) a1 a2 (by omega)) (by decide) (kS sM h0 kc_114) rfl rfl rfl (Nat.le_of_ble_eq_true rfl) (by decide) dX11_minute_35 (fun r11 w10 y9 => ?_)
      show V x 0 0 w10 38 [(0, .ref (gz (xG x) + 114)), (1, .int a1), (2, .int a2)] [.int r11]
      obtain ⟨h12, o13, g14⟩ := y9
      have h15 := Ch.tr h0 h12 (by decide) (by decide)
      refine r_if_ne 45 C dX11_minute_38 (by decide) (fun c16 => ?_) (fun c16 => ?_)
      · have c16' := i_ne c16
        refine r_aload_n 0 C dX11_minute_45 rfl ?_
        refine r_dup C dX11_minute_46 rfl ?_
        refine gfX11_262 (v := (wI w 114 17)) C (kS sM h15 kc_114) (h12.I (by decide) (by decide) rfl) dX11_minute_47 ?_
        refine r_iconst (v := 1) C dX11_minute_50 (by decide) ?_
        refine r_iadd C dX11_minute_51 (fun v17 e18 => ?_)
        refine pfX11_262 C (kS sM h15 kc_114) dX11_minute_52 (fun w19 e20 => ?_)
        have h21 := Ch.putF h15 e20 (by decide)
        have o22 : OkM w19 := ⟨Inv.putk o13.1 e20 (by decide), Rel.putF o13.2 e20 (by decide)⟩
        refine r_aload_n 0 C dX11_minute_55 rfl ?_
        refine r_aload_n 0 C dX11_minute_56 rfl ?_
        refine gfX11_259 (v := (wI w10 114 13)) C (kS sM h21 kc_114) (g_nk e20 (by decide) rfl) dX11_minute_57 ?_
        have b23 := Inv.get o13.1 rt_114_13 (j := 13) (by decide) (by decide)
        refine callVI C cwX11_292_V (ctX11_told10 _ _ w19 (sS sM h21) o22 W (g_nk e20 (by decide) (h12.I (by decide) (by decide) pW)) (by omega) (wI w10 114 13) (by omega)) (by decide) (kS sM h21 kc_114) rfl rfl rfl (Nat.le_of_ble_eq_true rfl) (by decide) dX11_minute_60 (fun r26 w25 y24 => ?_)
        show V x 0 0 w25 63 [(0, .ref (gz (xG x) + 114)), (1, .int a1), (2, .int a2)] [.int r26]
        obtain ⟨h27, o28⟩ := y24
        have h29 := Ch.tr h21 h27 (by decide) (by decide)
        exact hret _ _ _ _ dX11_minute_63 rfl ⟨h29, o28⟩
      · have c16' := i_eq c16
        refine r_ldcw C mw6_189 dX11_minute_41 ?_
        exact hret _ _ _ _ dX11_minute_44 rfl ⟨h15, o13⟩
    · have c8' := i_eq c8
      refine r_ldc C mw5_239 dX11_minute_29 ?_
      exact hret _ _ _ _ dX11_minute_31 rfl ⟨h0, o0⟩
  · have c1' := i_ne c1
    refine r_aload_n 0 C dX11_minute_5 rfl ?_
    refine r_iload_n 2 C dX11_minute_6 rfl ?_
    have b30 := Inv.get o0.1 rt_114_8 (j := 8) (by decide) (by decide)
    refine callVI C cwX11_310_V (ctX11_isTune _ _ w (sS sM h0) o0 (wI w 114 8) rfl (by omega) a2 ) (by decide) (kS sM h0 kc_114) rfl rfl rfl (Nat.le_of_ble_eq_true rfl) (by decide) dX11_minute_7 (fun r33 w32 y31 => ?_)
    show V x 0 0 w32 10 [(0, .ref (gz (xG x) + 114)), (1, .int a1), (2, .int a2)] [.int r33]
    obtain ⟨h34, o35, g36⟩ := y31
    have h37 := Ch.tr h0 h34 (by decide) (by decide)
    refine r_if_ne 17 C dX11_minute_10 (by decide) (fun c38 => ?_) (fun c38 => ?_)
    · have c38' := i_ne c38
      refine r_iload_n 1 C dX11_minute_17 rfl ?_
      refine r_i2l C dX11_minute_18 (fun v39 e40 => ?_)
      have v39' := i2l_ok e40
      refine r_lconst (v := 0) C dX11_minute_19 (by decide) ?_
      refine r_ldc2 C mw6_172 dX11_minute_20 ?_
      refine callSI C cwX11_114_S (ctX11_in _ _ w32 v39 0 4 ) (by decide) rfl rfl (Nat.le_of_ble_eq_true rfl) (by decide) dX11_minute_23 (fun r43 w42 y41 => ?_)
      obtain ⟨rfl, g44⟩ := y41
      show V x 0 0 w32 26 [(0, .ref (gz (xG x) + 114)), (1, .int a1), (2, .int a2)] [.int r43]
      refine r_if_ne 32 C dX11_minute_26 (by decide) (fun c45 => ?_) (fun c45 => ?_)
      · have c45' := i_ne c45
        refine r_aload_n 0 C dX11_minute_32 rfl ?_
        refine r_iload_n 1 C dX11_minute_33 rfl ?_
        refine r_iload_n 2 C dX11_minute_34 rfl ?_
        refine callVI C cwX11_327_V (ctX11_minuteBy _ _ w32 (sS sM h37) o35 W (h34.I (by decide) (by decide) pW) (by omega) D (h34.I (by decide) (by decide) pD) (by omega) a1 a2 (by omega)) (by decide) (kS sM h37 kc_114) rfl rfl rfl (Nat.le_of_ble_eq_true rfl) (by decide) dX11_minute_35 (fun r48 w47 y46 => ?_)
        show V x 0 0 w47 38 [(0, .ref (gz (xG x) + 114)), (1, .int a1), (2, .int a2)] [.int r48]
        obtain ⟨h49, o50, g51⟩ := y46
        have h52 := Ch.tr h37 h49 (by decide) (by decide)
        refine r_if_ne 45 C dX11_minute_38 (by decide) (fun c53 => ?_) (fun c53 => ?_)
        · have c53' := i_ne c53
          refine r_aload_n 0 C dX11_minute_45 rfl ?_
          refine r_dup C dX11_minute_46 rfl ?_
          refine gfX11_262 (v := (wI w 114 17)) C (kS sM h52 kc_114) (h49.I (by decide) (by decide) (h34.I (by decide) (by decide) rfl)) dX11_minute_47 ?_
          refine r_iconst (v := 1) C dX11_minute_50 (by decide) ?_
          refine r_iadd C dX11_minute_51 (fun v54 e55 => ?_)
          refine pfX11_262 C (kS sM h52 kc_114) dX11_minute_52 (fun w56 e57 => ?_)
          have h58 := Ch.putF h52 e57 (by decide)
          have o59 : OkM w56 := ⟨Inv.putk o50.1 e57 (by decide), Rel.putF o50.2 e57 (by decide)⟩
          refine r_aload_n 0 C dX11_minute_55 rfl ?_
          refine r_aload_n 0 C dX11_minute_56 rfl ?_
          refine gfX11_259 (v := (wI w47 114 13)) C (kS sM h58 kc_114) (g_nk e57 (by decide) rfl) dX11_minute_57 ?_
          have b60 := Inv.get o50.1 rt_114_13 (j := 13) (by decide) (by decide)
          refine callVI C cwX11_292_V (ctX11_told10 _ _ w56 (sS sM h58) o59 W (g_nk e57 (by decide) (h49.I (by decide) (by decide) (h34.I (by decide) (by decide) pW))) (by omega) (wI w47 114 13) (by omega)) (by decide) (kS sM h58 kc_114) rfl rfl rfl (Nat.le_of_ble_eq_true rfl) (by decide) dX11_minute_60 (fun r63 w62 y61 => ?_)
          show V x 0 0 w62 63 [(0, .ref (gz (xG x) + 114)), (1, .int a1), (2, .int a2)] [.int r63]
          obtain ⟨h64, o65⟩ := y61
          have h66 := Ch.tr h58 h64 (by decide) (by decide)
          exact hret _ _ _ _ dX11_minute_63 rfl ⟨h66, o65⟩
        · have c53' := i_eq c53
          refine r_ldcw C mw6_189 dX11_minute_41 ?_
          exact hret _ _ _ _ dX11_minute_44 rfl ⟨h52, o50⟩
      · have c45' := i_eq c45
        refine r_ldc C mw5_239 dX11_minute_29 ?_
        exact hret _ _ _ _ dX11_minute_31 rfl ⟨h37, o35⟩
    · have c38' := i_eq c38
      refine r_ldcw C mw6_112 dX11_minute_13 ?_
      exact hret _ _ _ _ dX11_minute_16 rfl ⟨h37, o35⟩
set_option maxHeartbeats 4000000 in
set_option maxRecDepth 100000 in
theorem ctX11_isSomebody (l : Launch) (G : Gt) (w : Wv) (sM : Str KM XM w) (o0 : OkM w) (a1 : Int32) : CtI l G yX11_isSomebody cX11_isSomebody 4 .boolean ({ frames := 2, cells := 0, slots := 0, locals := 42 } : Room) [.ref (gz G + 114), .int a1] w (fun r w' => Ch [] [] w w' ∧ OkM w') := by
  refine enterI (by decide) (Nat.le_of_ble_eq_true rfl) ?_
  intro x el eG C hret
  subst el; subst eG
  show V x 0 0 w 0 [(0, .ref (gz (xG x) + 114)), (1, .int a1)] []
  have h0 : Ch [] [] w w := Ch.rf
  have q0 : (0 : Int32).toInt = 0 := by decide
  have q1 : (1 : Int32).toInt = 1 := by decide
  obtain ⟨rA, rB, rC, rD⟩ := (o0.2 : Rel w)
  have LP5 : ∀ (f6 : Nat) (u3 : Int32) (u4 : Int32) (w7 : Wv), Ch [] [] w w7 → OkM w7 → (0 ≤ u4.toInt ∧ u4.toInt ≤ 2147483647) → 2147483647 - u4.toInt < f6 → V x 0 0 w7 16 [(0, .ref (gz (xG x) + 114)), (1, .int a1), (2, .int u3), (3, .int u4)] [] := by
    intro f6
    induction f6 with
    | zero => intro u3 u4 w7 h8 o9 z10 z11; exfalso; omega
    | succ f6 ih12 =>
      intro u3 u4 w7 h8 o9 z10 z11
      refine r_iload_n 3 C dX11_isSomebody_16 rfl ?_
      refine r_aload_n 0 C dX11_isSomebody_17 rfl ?_
      refine gfX11_121 (v := (wI w 114 3)) C (kS sM h8 kc_114) (h8.I (by decide) (by decide) rfl) dX11_isSomebody_18 ?_
      have b13 := Inv.get o0.1 rt_114_3 (j := 3) (by decide) (by decide)
      refine r_icmp_ge 58 C dX11_isSomebody_21 (by decide) (fun c14 => ?_) (fun c14 => ?_)
      · have c14' := i_le c14
        refine r_iload_n 2 C dX11_isSomebody_58 rfl ?_
        exact hret _ _ _ _ dX11_isSomebody_59 (nar_z (z_of (by omega))) ⟨h8, o9⟩
      · have c14' := i_nle c14
        refine r_iload_n 2 C dX11_isSomebody_24 rfl ?_
        refine r_if_ne 46 C dX11_isSomebody_25 (by decide) (fun c15 => ?_) (fun c15 => ?_)
        · have c15' := i_ne c15
          refine r_iconst (v := 1) C dX11_isSomebody_46 (by decide) ?_
          refine r_goto 51 C dX11_isSomebody_47 (by decide) ?_
          refine r_istore_n [(2, .int 1), (0, .ref (gz (xG x) + 114)), (1, .int a1), (3, .int u4)] C dX11_isSomebody_51 (by decide) rfl ?_
          obtain ⟨i16, e17⟩ : ∃ z : Int32, u4 + Int32.ofInt 1 = z := ⟨_, rfl⟩
          have i16' := iinc_ok e17 (by decide) (by omega) (by omega)
          refine r_iinc [(3, .int i16), (2, .int 1), (0, .ref (gz (xG x) + 114)), (1, .int a1)] 3 C dX11_isSomebody_52 rfl e17 (by decide) rfl ?_
          refine r_goto 16 C dX11_isSomebody_55 (by decide) ?_
          refine r_lv [2, 3, 1, 0] rfl ?_
          exact ih12 1 i16 w7 h8 o9 (by omega) (by omega)
        · have c15' := i_eq c15
          refine r_aload_n 0 C dX11_isSomebody_28 rfl ?_
          refine r_iload_n 3 C dX11_isSomebody_29 rfl ?_
          refine callVI C cwX11_304_V (ctX11_isHere _ _ w7 (sS sM h8) o9 u4 (by omega)) (by decide) (kS sM h8 kc_114) rfl rfl rfl (Nat.le_of_ble_eq_true rfl) (by decide) dX11_isSomebody_30 (fun r20 w19 y18 => ?_)
          show V x 0 0 w19 33 [(0, .ref (gz (xG x) + 114)), (1, .int a1), (2, .int u3), (3, .int u4)] [.int r20]
          obtain ⟨h21, o22⟩ := y18
          have h23 := Ch.tr h8 h21 (by decide) (by decide)
          refine r_if_eq 50 C dX11_isSomebody_33 (by decide) (fun c24 => ?_) (fun c24 => ?_)
          · have c24' := i_eq c24
            refine r_iconst (v := 0) C dX11_isSomebody_50 (by decide) ?_
            refine r_istore_n [(2, .int 0), (0, .ref (gz (xG x) + 114)), (1, .int a1), (3, .int u4)] C dX11_isSomebody_51 (by decide) rfl ?_
            obtain ⟨i25, e26⟩ : ∃ z : Int32, u4 + Int32.ofInt 1 = z := ⟨_, rfl⟩
            have i25' := iinc_ok e26 (by decide) (by omega) (by omega)
            refine r_iinc [(3, .int i25), (2, .int 0), (0, .ref (gz (xG x) + 114)), (1, .int a1)] 3 C dX11_isSomebody_52 rfl e26 (by decide) rfl ?_
            refine r_goto 16 C dX11_isSomebody_55 (by decide) ?_
            refine r_lv [2, 3, 1, 0] rfl ?_
            exact ih12 0 i25 w19 h23 o22 (by omega) (by omega)
          · have c24' := i_ne c24
            refine r_aload_n 0 C dX11_isSomebody_36 rfl ?_
            refine gfX11_38 122 C (kS sM h23 kc_114) (xS sM h23 xc_114_14) dX11_isSomebody_37 ?_
            refine r_iload_n 3 C dX11_isSomebody_40 rfl ?_
            refine r_iald C (kS sM h23 kc_122) (vin (by omega) (by omega)) dX11_isSomebody_41 ?_
            have b28 := Inv.geta o22.1 rt_122_0 (i := u4) (by omega) (by omega) (by omega)
            generalize (wI w19 122 (u4).toNatClampNeg) = v27 at b28 ⊢
            refine r_iload_n 1 C dX11_isSomebody_42 rfl ?_
            refine r_icmp_ne 50 C dX11_isSomebody_43 (by decide) (fun c29 => ?_) (fun c29 => ?_)
            · have c29' := i_ne c29
              refine r_iconst (v := 0) C dX11_isSomebody_50 (by decide) ?_
              refine r_istore_n [(2, .int 0), (0, .ref (gz (xG x) + 114)), (1, .int a1), (3, .int u4)] C dX11_isSomebody_51 (by decide) rfl ?_
              obtain ⟨i30, e31⟩ : ∃ z : Int32, u4 + Int32.ofInt 1 = z := ⟨_, rfl⟩
              have i30' := iinc_ok e31 (by decide) (by omega) (by omega)
              refine r_iinc [(3, .int i30), (2, .int 0), (0, .ref (gz (xG x) + 114)), (1, .int a1)] 3 C dX11_isSomebody_52 rfl e31 (by decide) rfl ?_
              refine r_goto 16 C dX11_isSomebody_55 (by decide) ?_
              refine r_lv [2, 3, 1, 0] rfl ?_
              exact ih12 0 i30 w19 h23 o22 (by omega) (by omega)
            · have c29' := i_eq c29
              refine r_iconst (v := 1) C dX11_isSomebody_46 (by decide) ?_
              refine r_goto 51 C dX11_isSomebody_47 (by decide) ?_
              refine r_istore_n [(2, .int 1), (0, .ref (gz (xG x) + 114)), (1, .int a1), (3, .int u4)] C dX11_isSomebody_51 (by decide) rfl ?_
              obtain ⟨i32, e33⟩ : ∃ z : Int32, u4 + Int32.ofInt 1 = z := ⟨_, rfl⟩
              have i32' := iinc_ok e33 (by decide) (by omega) (by omega)
              refine r_iinc [(3, .int i32), (2, .int 1), (0, .ref (gz (xG x) + 114)), (1, .int a1)] 3 C dX11_isSomebody_52 rfl e33 (by decide) rfl ?_
              refine r_goto 16 C dX11_isSomebody_55 (by decide) ?_
              refine r_lv [2, 3, 1, 0] rfl ?_
              exact ih12 1 i32 w19 h23 o22 (by omega) (by omega)
  refine r_aload_n 0 C dX11_isSomebody_0 rfl ?_
  refine gfX11_259 (v := (wI w 114 13)) C (kS sM h0 kc_114) rfl dX11_isSomebody_1 ?_
  have b1 := Inv.get o0.1 rt_114_13 (j := 13) (by decide) (by decide)
  refine r_iload_n 1 C dX11_isSomebody_4 rfl ?_
  refine r_icmp_ne 12 C dX11_isSomebody_5 (by decide) (fun c2 => ?_) (fun c2 => ?_)
  · have c2' := i_ne c2
    refine r_iconst (v := 0) C dX11_isSomebody_12 (by decide) ?_
    refine r_istore_n [(2, .int 0), (0, .ref (gz (xG x) + 114)), (1, .int a1)] C dX11_isSomebody_13 (by decide) rfl ?_
    refine r_iconst (v := 0) C dX11_isSomebody_14 (by decide) ?_
    refine r_istore_n [(3, .int 0), (2, .int 0), (0, .ref (gz (xG x) + 114)), (1, .int a1)] C dX11_isSomebody_15 (by decide) rfl ?_
    refine r_lv [2, 3, 1, 0] rfl ?_
    exact LP5 4294967296 0 0 w h0 o0 (by omega) (by omega)
  · have c2' := i_eq c2
    refine r_iconst (v := 1) C dX11_isSomebody_8 (by decide) ?_
    refine r_goto 13 C dX11_isSomebody_9 (by decide) ?_
    refine r_istore_n [(2, .int 1), (0, .ref (gz (xG x) + 114)), (1, .int a1)] C dX11_isSomebody_13 (by decide) rfl ?_
    refine r_iconst (v := 0) C dX11_isSomebody_14 (by decide) ?_
    refine r_istore_n [(3, .int 0), (2, .int 1), (0, .ref (gz (xG x) + 114)), (1, .int a1)] C dX11_isSomebody_15 (by decide) rfl ?_
    refine r_lv [2, 3, 1, 0] rfl ?_
    exact LP5 4294967296 1 0 w h0 o0 (by omega) (by omega)
set_option maxHeartbeats 4000000 in
set_option maxRecDepth 100000 in
theorem ctX11_wall (l : Launch) (G : Gt) (w : Wv) (sM : Str KM XM w) (o0 : OkM w) (W : Int32) (pW : wI w 114 0 = W) (bW : 0 ≤ W.toInt ∧ W.toInt ≤ 9) (D : Int32) (pD : wI w 114 1 = D) (bD : 0 ≤ D.toInt ∧ D.toInt ≤ 9) (a1 : Int32) (a2 : Int32) (a3 : Int32) (b3 : 0 ≤ a3.toInt ∧ a3.toInt ≤ 1) : CtI l G yX11_wall cX11_wall 6 .int ({ frames := 5, cells := 0, slots := 0, locals := 117 } : Room) [.ref (gz G + 114), .int a1, .int a2, .int a3] w (fun r w' => Ch [115, 134] [] w w' ∧ OkM w') := by
  refine enterI (by decide) (Nat.le_of_ble_eq_true rfl) ?_
  intro x el eG C hret
  subst el; subst eG
  show V x 0 0 w 0 [(0, .ref (gz (xG x) + 114)), (1, .int a1), (2, .int a2), (3, .int a3)] []
  have h0 : Ch [115, 134] [] w w := Ch.rf
  have qm1000000003 : ((-1000000003) : Int32).toInt = (-1000000003) := by decide
  have qm1000000001 : ((-1000000001) : Int32).toInt = (-1000000001) := by decide
  have q0 : (0 : Int32).toInt = 0 := by decide
  have q1 : (1 : Int32).toInt = 1 := by decide
  obtain ⟨rA, rB, rC, rD⟩ := (o0.2 : Rel w)
  (try simp only [pW] at rA); (try simp only [pW] at rB); (try simp only [pW] at rC); (try simp only [pW] at rD)
  (try simp only [pD] at rA); (try simp only [pD] at rB); (try simp only [pD] at rC); (try simp only [pD] at rD)
  refine r_aload_n 0 C dX11_wall_0 rfl ?_
  refine r_iload_n 1 C dX11_wall_1 rfl ?_
  refine r_iload_n 2 C dX11_wall_2 rfl ?_
  refine callVI C cwX11_274_V (ctX11_isCell _ _ w (sS sM h0) o0 W pW (by omega) D pD (by omega) a1 a2 ) (by decide) (kS sM h0 kc_114) rfl rfl rfl (Nat.le_of_ble_eq_true rfl) (by decide) dX11_wall_3 (fun r3 w2 y1 => ?_)
  show V x 0 0 w2 6 [(0, .ref (gz (xG x) + 114)), (1, .int a1), (2, .int a2), (3, .int a3)] [.int r3]
  obtain ⟨h4, o5, g6⟩ := y1
  have h7 := Ch.tr h0 h4 (by decide) (by decide)
  refine r_if_ne 13 C dX11_wall_6 (by decide) (fun c8 => ?_) (fun c8 => ?_)
  · have c8' := i_ne c8
    have k9 := cell_rng (W := (W : Int32).toInt) (D := (D : Int32).toInt) (y := (a2 : Int32).toInt) (x := (a1 : Int32).toInt) (by omega) (by omega) (by omega)
    refine r_aload_n 0 C dX11_wall_13 rfl ?_
    refine gfX11_111 (v := W) C (kS sM h7 kc_114) (h4.I (by decide) (by decide) pW) dX11_wall_14 ?_
    refine r_iload_n 2 C dX11_wall_17 rfl ?_
    refine r_imul C dX11_wall_18 (fun v10 e11 => ?_)
    have v10' := imul_rng e11 (A := 9) (B := 8) (by omega) (by omega) (by decide)
    refine r_iload_n 1 C dX11_wall_19 rfl ?_
    refine r_iadd C dX11_wall_20 (fun v12 e13 => ?_)
    have v12' := iadd_ok e13 (by omega) (by omega)
    refine r_istore [(4, .int v12), (0, .ref (gz (xG x) + 114)), (1, .int a1), (2, .int a2), (3, .int a3)] C dX11_wall_21 (by decide) rfl ?_
    refine r_aload_n 1 C dX11_wall_23 rfl ?_
    refine gfX11_7 115 C (kS sM h7 kc_114) (xS sM h7 xc_114_2) dX11_wall_24 ?_
    refine r_iload 0 C dX11_wall_27 rfl ?_
    refine r_iald C (kS sM h7 kc_115) (vin (by omega) (by omega)) dX11_wall_29 ?_
    generalize (wI w2 115 (v12).toNatClampNeg) = v14
    refine r_iconst (v := 1) C dX11_wall_30 (by decide) ?_
    refine r_icmp_gt 43 C dX11_wall_31 (by decide) (fun c15 => ?_) (fun c15 => ?_)
    · have c15' := i_lt c15
      refine r_ldcw C mw6_189 dX11_wall_43 ?_
      exact hret _ _ _ _ dX11_wall_46 rfl ⟨h7, o5⟩
    · have c15' := i_nlt c15
      refine r_aload_n 1 C dX11_wall_34 rfl ?_
      refine r_iload 0 C dX11_wall_35 rfl ?_
      refine callVI C cwX11_331_V (ctX11_isSomebody _ _ w2 (sS sM h7) o5 v12 ) (by decide) (kS sM h7 kc_114) rfl rfl rfl (Nat.le_of_ble_eq_true rfl) (by decide) dX11_wall_37 (fun r18 w17 y16 => ?_)
      show V x 0 0 w17 40 [(4, .int v12), (0, .ref (gz (xG x) + 114)), (1, .int a1), (2, .int a2), (3, .int a3)] [.int r18]
      obtain ⟨h19, o20⟩ := y16
      have h21 := Ch.tr h7 h19 (by decide) (by decide)
      refine r_if_eq 47 C dX11_wall_40 (by decide) (fun c22 => ?_) (fun c22 => ?_)
      · have c22' := i_eq c22
        refine r_aload_n 1 C dX11_wall_47 rfl ?_
        refine gfX11_7 115 C (kS sM h21 kc_114) (xS sM h21 xc_114_2) dX11_wall_48 ?_
        refine r_iload 0 C dX11_wall_51 rfl ?_
        refine r_iald C (kS sM h21 kc_115) (vin (by omega) (by omega)) dX11_wall_53 ?_
        generalize (wI w17 115 (v12).toNatClampNeg) = v23
        refine r_istore [(5, .int v23), (4, .int v12), (0, .ref (gz (xG x) + 114)), (1, .int a1), (2, .int a2), (3, .int a3)] C dX11_wall_54 (by decide) rfl ?_
        refine r_aload_n 2 C dX11_wall_56 rfl ?_
        refine gfX11_7 115 C (kS sM h21 kc_114) (xS sM h21 xc_114_2) dX11_wall_57 ?_
        refine r_iload 1 C dX11_wall_60 rfl ?_
        refine r_iload_n 5 C dX11_wall_62 rfl ?_
        refine r_if_eq 70 C dX11_wall_63 (by decide) (fun c24 => ?_) (fun c24 => ?_)
        · have c24' := i_eq c24
          refine r_iconst (v := 0) C dX11_wall_70 (by decide) ?_
          refine r_iast C (kS sM h21 kc_115) (vin (by omega) (by omega)) dX11_wall_71 (fun w25 e26 => ?_)
          have h27 := Ch.putS h21 e26 (by decide)
          have o28 : OkM w25 := ⟨Inv.put0 o20.1 e26 (by decide), Rel.putS o20.2 e26 (by decide)⟩
          refine r_aload_n 2 C dX11_wall_72 rfl ?_
          refine callVV C cwX11_271_V (ctX11_findFar _ _ w25 (sS sM h27) o28 W (g_nn e26 (by decide) (h19.I (by decide) (by decide) (h4.I (by decide) (by decide) pW))) (by omega) D (g_nn e26 (by decide) (h19.I (by decide) (by decide) (h4.I (by decide) (by decide) pD))) (by omega)  ) (by decide) (kS sM h27 kc_114) rfl rfl rfl (Nat.le_of_ble_eq_true rfl) (by decide) dX11_wall_73 (fun w30 y29 => ?_)
          show V x 0 0 w30 76 [(5, .int v23), (4, .int v12), (0, .ref (gz (xG x) + 114)), (1, .int a1), (2, .int a2), (3, .int a3)] []
          obtain ⟨h32, o33⟩ := y29
          have h34 := Ch.tr h27 h32 (by decide) (by decide)
          refine r_iload 0 C dX11_wall_76 rfl ?_
          exact hret _ _ _ _ dX11_wall_78 rfl ⟨h34, o33⟩
        · have c24' := i_ne c24
          refine r_iconst (v := 1) C dX11_wall_66 (by decide) ?_
          refine r_goto 71 C dX11_wall_67 (by decide) ?_
          refine r_iast C (kS sM h21 kc_115) (vin (by omega) (by omega)) dX11_wall_71 (fun w35 e36 => ?_)
          have h37 := Ch.putS h21 e36 (by decide)
          have o38 : OkM w35 := ⟨Inv.put0 o20.1 e36 (by decide), Rel.putS o20.2 e36 (by decide)⟩
          refine r_aload_n 2 C dX11_wall_72 rfl ?_
          refine callVV C cwX11_271_V (ctX11_findFar _ _ w35 (sS sM h37) o38 W (g_nn e36 (by decide) (h19.I (by decide) (by decide) (h4.I (by decide) (by decide) pW))) (by omega) D (g_nn e36 (by decide) (h19.I (by decide) (by decide) (h4.I (by decide) (by decide) pD))) (by omega)  ) (by decide) (kS sM h37 kc_114) rfl rfl rfl (Nat.le_of_ble_eq_true rfl) (by decide) dX11_wall_73 (fun w40 y39 => ?_)
          show V x 0 0 w40 76 [(5, .int v23), (4, .int v12), (0, .ref (gz (xG x) + 114)), (1, .int a1), (2, .int a2), (3, .int a3)] []
          obtain ⟨h42, o43⟩ := y39
          have h44 := Ch.tr h37 h42 (by decide) (by decide)
          refine r_iload 0 C dX11_wall_76 rfl ?_
          exact hret _ _ _ _ dX11_wall_78 rfl ⟨h44, o43⟩
      · have c22' := i_ne c22
        refine r_ldcw C mw6_189 dX11_wall_43 ?_
        exact hret _ _ _ _ dX11_wall_46 rfl ⟨h21, o20⟩
  · have c8' := i_eq c8
    refine r_ldcw C mw6_112 dX11_wall_9 ?_
    exact hret _ _ _ _ dX11_wall_12 rfl ⟨h7, o5⟩
set_option maxHeartbeats 4000000 in
set_option maxRecDepth 100000 in
theorem ctX11_draw (l : Launch) (G : Gt) (w : Wv) (sM : Str KM XM w) (o0 : OkM w) (a1 : Int32) (b1 : 1 ≤ a1.toInt ∧ a1.toInt ≤ 5) : CtI l G yX11_draw cX11_draw 2 .int ({ frames := 0, cells := 0, slots := 0, locals := 0 } : Room) [.ref (gz G + 114), .int a1] w (fun r w' => Ch [] [(114, 18)] w w' ∧ OkM w' ∧ (0 ≤ r.toInt ∧ r.toInt < a1.toInt)) := by
  refine enterI (by decide) (Nat.le_of_ble_eq_true rfl) ?_
  intro x el eG C hret
  subst el; subst eG
  show V x 0 0 w 0 [(0, .ref (gz (xG x) + 114)), (1, .int a1)] []
  have h0 : Ch [] [(114, 18)] w w := Ch.rf
  have q65536 : (65536 : Int32).toInt = 65536 := by decide
  have ql12345 : (12345 : Int64).toInt = 12345 := by decide
  have ql1103515245 : (1103515245 : Int64).toInt = 1103515245 := by decide
  have ql2147483648 : (2147483648 : Int64).toInt = 2147483648 := by decide
  obtain ⟨rA, rB, rC, rD⟩ := (o0.2 : Rel w)
  refine r_aload_n 0 C dX11_draw_0 rfl ?_
  refine r_aload_n 0 C dX11_draw_1 rfl ?_
  refine gfX11_334 (v := (wI w 114 18)) C (kS sM h0 kc_114) rfl dX11_draw_2 ?_
  have b1 := Inv.get o0.1 rt_114_18 (j := 18) (by decide) (by decide)
  refine r_i2l C dX11_draw_5 (fun v2 e3 => ?_)
  have v2' := i2l_ok e3
  refine r_ldc2 C mw6_207 dX11_draw_6 ?_
  refine r_lmul C dX11_draw_9 (fun v4 e5 => ?_)
  refine r_ldc2 C mw6_208 dX11_draw_10 ?_
  refine r_ladd C dX11_draw_13 (fun v6 e7 => ?_)
  refine r_ldc2 C mw6_209 dX11_draw_14 ?_
  refine r_lrem C dX11_draw_17 (by decide) (fun v8 e9 => ?_)
  refine r_l2i C dX11_draw_18 (fun v10 e11 => ?_)
  have v10' := draw_ok e3 e5 e7 e9 e11 (by omega)
  refine pfX11_334 C (kS sM h0 kc_114) dX11_draw_19 (fun w12 e13 => ?_)
  have h14 := Ch.putF h0 e13 (by decide)
  have o15 : OkM w12 := ⟨Inv.put o0.1 e13 0 2147483647 (by omega) (by decide), Rel.putF o0.2 e13 (by decide)⟩
  refine r_aload_n 0 C dX11_draw_22 rfl ?_
  refine gfX11_334 (v := v10) C (kS sM h14 kc_114) (g_eq e13) dX11_draw_23 ?_
  refine r_ldcw C mw6_210 dX11_draw_26 ?_
  refine r_idiv C dX11_draw_29 (fun q => by have q := i_eq q; omega) (fun v16 e17 => ?_)
  have v16' := idiv_rng e17 (by omega) (by omega)
  refine r_iload_n 1 C dX11_draw_30 rfl ?_
  refine r_irem C dX11_draw_31 (fun q => by have q := i_eq q; omega) (fun v18 e19 => ?_)
  have v18' := irem_rng e19 (by omega) (by omega)
  exact hret _ _ _ _ dX11_draw_32 rfl ⟨h14, o15, by omega⟩
set_option maxHeartbeats 4000000 in
set_option maxRecDepth 100000 in
theorem ctX11_save (l : Launch) (G : Gt) (w : Wv) (sM : Str KM XM w) (o0 : OkM w)  : CtV l G yX11_save cX11_save 2 ({ frames := 0, cells := 0, slots := 0, locals := 0 } : Room) [.ref (gz G + 114)] w (fun w' => Ch [135, 136, 137] [(114, 45)] w w' ∧ OkM w') := by
  refine enterV (by decide) (Nat.le_of_ble_eq_true rfl) ?_
  intro x el eG C hnm hret
  subst el; subst eG
  show V x 0 0 w 0 [(0, .ref (gz (xG x) + 114))] []
  have h0 : Ch [135, 136, 137] [(114, 45)] w w := Ch.rf
  have q0 : (0 : Int32).toInt = 0 := by decide
  obtain ⟨rA, rB, rC, rD⟩ := (o0.2 : Rel w)
  have LP7 : ∀ (f8 : Nat) (u6 : Int32) (w9 : Wv), Ch [135, 136, 137] [(114, 45)] w w9 → OkM w9 → (0 ≤ u6.toInt ∧ u6.toInt ≤ 2147483647) → 2147483647 - u6.toInt < f8 → V x 0 0 w9 10 [(0, .ref (gz (xG x) + 114)), (1, .int u6)] [] := by
    intro f8
    induction f8 with
    | zero => intro u6 w9 h10 o11 z12 z13; exfalso; omega
    | succ f8 ih14 =>
      intro u6 w9 h10 o11 z12 z13
      refine r_iload_n 1 C dX11_save_10 rfl ?_
      refine r_aload_n 0 C dX11_save_11 rfl ?_
      refine gfX11_121 (v := (wI w 114 3)) C (kS sM h10 kc_114) (h10.I (by decide) (by decide) rfl) dX11_save_12 ?_
      have b15 := Inv.get o0.1 rt_114_3 (j := 3) (by decide) (by decide)
      refine r_icmp_ge 60 C dX11_save_15 (by decide) (fun c16 => ?_) (fun c16 => ?_)
      · have c16' := i_le c16
        exact hret _ _ _ dX11_save_60 ⟨h10, o11⟩
      · have c16' := i_nle c16
        refine r_aload_n 0 C dX11_save_18 rfl ?_
        refine gfX11_80 135 C (kS sM h10 kc_114) (xS sM h10 xc_114_46) dX11_save_19 ?_
        refine r_iload_n 1 C dX11_save_22 rfl ?_
        refine r_aload_n 0 C dX11_save_23 rfl ?_
        refine gfX11_38 122 C (kS sM h10 kc_114) (xS sM h10 xc_114_14) dX11_save_24 ?_
        refine r_iload_n 1 C dX11_save_27 rfl ?_
        refine r_iald C (kS sM h10 kc_122) (vin (by omega) (by omega)) dX11_save_28 ?_
        have b18 := Inv.geta o11.1 rt_122_0 (i := u6) (by omega) (by omega) (by omega)
        generalize (wI w9 122 (u6).toNatClampNeg) = v17 at b18 ⊢
        refine r_iast C (kS sM h10 kc_135) (vin (by omega) (by omega)) dX11_save_29 (fun w19 e20 => ?_)
        have h21 := Ch.putS h10 e20 (by decide)
        have o22 : OkM w19 := ⟨Inv.putR o11.1 e20 0 5 (by omega) (by omega) 0 41 (by omega) (by decide), Rel.putS o11.2 e20 (by decide)⟩
        refine r_aload_n 0 C dX11_save_30 rfl ?_
        refine gfX11_83 136 C (kS sM h21 kc_114) (xS sM h21 xc_114_47) dX11_save_31 ?_
        refine r_iload_n 1 C dX11_save_34 rfl ?_
        refine r_aload_n 0 C dX11_save_35 rfl ?_
        refine gfX11_41 123 C (kS sM h21 kc_114) (xS sM h21 xc_114_15) dX11_save_36 ?_
        refine r_iload_n 1 C dX11_save_39 rfl ?_
        refine r_iald C (kS sM h21 kc_123) (vin (by omega) (by omega)) dX11_save_40 ?_
        have b24 := Inv.geta o22.1 rt_123_0 (i := u6) (by omega) (by omega) (by omega)
        generalize (wI w19 123 (u6).toNatClampNeg) = v23 at b24 ⊢
        refine r_iast C (kS sM h21 kc_136) (vin (by omega) (by omega)) dX11_save_41 (fun w25 e26 => ?_)
        have h27 := Ch.putS h21 e26 (by decide)
        have o28 : OkM w25 := ⟨Inv.putR o22.1 e26 0 5 (by omega) (by omega) (-1) 41 (by omega) (by decide), Rel.putS o22.2 e26 (by decide)⟩
        refine r_aload_n 0 C dX11_save_42 rfl ?_
        refine gfX11_86 137 C (kS sM h27 kc_114) (xS sM h27 xc_114_48) dX11_save_43 ?_
        refine r_iload_n 1 C dX11_save_46 rfl ?_
        refine r_aload_n 0 C dX11_save_47 rfl ?_
        refine gfX11_44 124 C (kS sM h27 kc_114) (xS sM h27 xc_114_16) dX11_save_48 ?_
        refine r_iload_n 1 C dX11_save_51 rfl ?_
        refine r_iald C (kS sM h27 kc_124) (vin (by omega) (by omega)) dX11_save_52 ?_
        generalize (wI w25 124 (u6).toNatClampNeg) = v29
        refine r_iast C (kS sM h27 kc_137) (vin (by omega) (by omega)) dX11_save_53 (fun w30 e31 => ?_)
        have h32 := Ch.putS h27 e31 (by decide)
        have o33 : OkM w30 := ⟨Inv.put0 o28.1 e31 (by decide), Rel.putS o28.2 e31 (by decide)⟩
        obtain ⟨i34, e35⟩ : ∃ z : Int32, u6 + Int32.ofInt 1 = z := ⟨_, rfl⟩
        have i34' := iinc_ok e35 (by decide) (by omega) (by omega)
        refine r_iinc [(1, .int i34), (0, .ref (gz (xG x) + 114))] 1 C dX11_save_54 rfl e35 (by decide) rfl ?_
        refine r_goto 10 C dX11_save_57 (by decide) ?_
        refine r_lv [1, 0] rfl ?_
        exact ih14 i34 w30 h32 o33 (by omega) (by omega)
  refine r_aload_n 0 C dX11_save_0 rfl ?_
  refine r_aload_n 0 C dX11_save_1 rfl ?_
  refine gfX11_259 (v := (wI w 114 13)) C (kS sM h0 kc_114) rfl dX11_save_2 ?_
  have b1 := Inv.get o0.1 rt_114_13 (j := 13) (by decide) (by decide)
  refine pfX11_352 C (kS sM h0 kc_114) dX11_save_5 (fun w2 e3 => ?_)
  have h4 := Ch.putF h0 e3 (by decide)
  have o5 : OkM w2 := ⟨Inv.put o0.1 e3 0 41 (by omega) (by decide), Rel.putF o0.2 e3 (by decide)⟩
  refine r_iconst (v := 0) C dX11_save_8 (by decide) ?_
  refine r_istore_n [(1, .int 0), (0, .ref (gz (xG x) + 114))] C dX11_save_9 (by decide) rfl ?_
  refine r_lv [1, 0] rfl ?_
  exact LP7 4294967296 0 w2 h4 o5 (by omega) (by omega)
set_option maxHeartbeats 4000000 in
set_option maxRecDepth 100000 in
theorem ctX11_putBack (l : Launch) (G : Gt) (w : Wv) (sM : Str KM XM w) (o0 : OkM w)  : CtV l G yX11_putBack cX11_putBack 2 ({ frames := 0, cells := 0, slots := 0, locals := 0 } : Room) [.ref (gz G + 114)] w (fun w' => Ch [122, 123, 124] [(114, 13)] w w' ∧ OkM w') := by
  refine enterV (by decide) (Nat.le_of_ble_eq_true rfl) ?_
  intro x el eG C hnm hret
  subst el; subst eG
  show V x 0 0 w 0 [(0, .ref (gz (xG x) + 114))] []
  have h0 : Ch [122, 123, 124] [(114, 13)] w w := Ch.rf
  have q0 : (0 : Int32).toInt = 0 := by decide
  obtain ⟨rA, rB, rC, rD⟩ := (o0.2 : Rel w)
  have LP7 : ∀ (f8 : Nat) (u6 : Int32) (w9 : Wv), Ch [122, 123, 124] [(114, 13)] w w9 → OkM w9 → (0 ≤ u6.toInt ∧ u6.toInt ≤ 2147483647) → 2147483647 - u6.toInt < f8 → V x 0 0 w9 10 [(0, .ref (gz (xG x) + 114)), (1, .int u6)] [] := by
    intro f8
    induction f8 with
    | zero => intro u6 w9 h10 o11 z12 z13; exfalso; omega
    | succ f8 ih14 =>
      intro u6 w9 h10 o11 z12 z13
      refine r_iload_n 1 C dX11_putBack_10 rfl ?_
      refine r_aload_n 0 C dX11_putBack_11 rfl ?_
      refine gfX11_121 (v := (wI w 114 3)) C (kS sM h10 kc_114) (h10.I (by decide) (by decide) rfl) dX11_putBack_12 ?_
      have b15 := Inv.get o0.1 rt_114_3 (j := 3) (by decide) (by decide)
      refine r_icmp_ge 60 C dX11_putBack_15 (by decide) (fun c16 => ?_) (fun c16 => ?_)
      · have c16' := i_le c16
        exact hret _ _ _ dX11_putBack_60 ⟨h10, o11⟩
      · have c16' := i_nle c16
        refine r_aload_n 0 C dX11_putBack_18 rfl ?_
        refine gfX11_38 122 C (kS sM h10 kc_114) (xS sM h10 xc_114_14) dX11_putBack_19 ?_
        refine r_iload_n 1 C dX11_putBack_22 rfl ?_
        refine r_aload_n 0 C dX11_putBack_23 rfl ?_
        refine gfX11_80 135 C (kS sM h10 kc_114) (xS sM h10 xc_114_46) dX11_putBack_24 ?_
        refine r_iload_n 1 C dX11_putBack_27 rfl ?_
        refine r_iald C (kS sM h10 kc_135) (vin (by omega) (by omega)) dX11_putBack_28 ?_
        have b18 := Inv.geta o11.1 rt_135_0 (i := u6) (by omega) (by omega) (by omega)
        generalize (wI w9 135 (u6).toNatClampNeg) = v17 at b18 ⊢
        refine r_iast C (kS sM h10 kc_122) (vin (by omega) (by omega)) dX11_putBack_29 (fun w19 e20 => ?_)
        have h21 := Ch.putS h10 e20 (by decide)
        have o22 : OkM w19 := ⟨Inv.putR o11.1 e20 0 5 (by omega) (by omega) 0 41 (by omega) (by decide), Rel.putS o11.2 e20 (by decide)⟩
        refine r_aload_n 0 C dX11_putBack_30 rfl ?_
        refine gfX11_41 123 C (kS sM h21 kc_114) (xS sM h21 xc_114_15) dX11_putBack_31 ?_
        refine r_iload_n 1 C dX11_putBack_34 rfl ?_
        refine r_aload_n 0 C dX11_putBack_35 rfl ?_
        refine gfX11_83 136 C (kS sM h21 kc_114) (xS sM h21 xc_114_47) dX11_putBack_36 ?_
        refine r_iload_n 1 C dX11_putBack_39 rfl ?_
        refine r_iald C (kS sM h21 kc_136) (vin (by omega) (by omega)) dX11_putBack_40 ?_
        have b24 := Inv.geta o22.1 rt_136_0 (i := u6) (by omega) (by omega) (by omega)
        generalize (wI w19 136 (u6).toNatClampNeg) = v23 at b24 ⊢
        refine r_iast C (kS sM h21 kc_123) (vin (by omega) (by omega)) dX11_putBack_41 (fun w25 e26 => ?_)
        have h27 := Ch.putS h21 e26 (by decide)
        have o28 : OkM w25 := ⟨Inv.putR o22.1 e26 0 5 (by omega) (by omega) (-1) 41 (by omega) (by decide), Rel.putS o22.2 e26 (by decide)⟩
        refine r_aload_n 0 C dX11_putBack_42 rfl ?_
        refine gfX11_44 124 C (kS sM h27 kc_114) (xS sM h27 xc_114_16) dX11_putBack_43 ?_
        refine r_iload_n 1 C dX11_putBack_46 rfl ?_
        refine r_aload_n 0 C dX11_putBack_47 rfl ?_
        refine gfX11_86 137 C (kS sM h27 kc_114) (xS sM h27 xc_114_48) dX11_putBack_48 ?_
        refine r_iload_n 1 C dX11_putBack_51 rfl ?_
        refine r_iald C (kS sM h27 kc_137) (vin (by omega) (by omega)) dX11_putBack_52 ?_
        generalize (wI w25 137 (u6).toNatClampNeg) = v29
        refine r_iast C (kS sM h27 kc_124) (vin (by omega) (by omega)) dX11_putBack_53 (fun w30 e31 => ?_)
        have h32 := Ch.putS h27 e31 (by decide)
        have o33 : OkM w30 := ⟨Inv.put0 o28.1 e31 (by decide), Rel.putS o28.2 e31 (by decide)⟩
        obtain ⟨i34, e35⟩ : ∃ z : Int32, u6 + Int32.ofInt 1 = z := ⟨_, rfl⟩
        have i34' := iinc_ok e35 (by decide) (by omega) (by omega)
        refine r_iinc [(1, .int i34), (0, .ref (gz (xG x) + 114))] 1 C dX11_putBack_54 rfl e35 (by decide) rfl ?_
        refine r_goto 10 C dX11_putBack_57 (by decide) ?_
        refine r_lv [1, 0] rfl ?_
        exact ih14 i34 w30 h32 o33 (by omega) (by omega)
  refine r_aload_n 0 C dX11_putBack_0 rfl ?_
  refine r_aload_n 0 C dX11_putBack_1 rfl ?_
  refine gfX11_352 (v := (wI w 114 45)) C (kS sM h0 kc_114) rfl dX11_putBack_2 ?_
  have b1 := Inv.get o0.1 rt_114_45 (j := 45) (by decide) (by decide)
  refine pfX11_259 C (kS sM h0 kc_114) dX11_putBack_5 (fun w2 e3 => ?_)
  have h4 := Ch.putF h0 e3 (by decide)
  have o5 : OkM w2 := ⟨Inv.put o0.1 e3 0 41 (by omega) (by decide), Rel.putF o0.2 e3 (by decide)⟩
  refine r_iconst (v := 0) C dX11_putBack_8 (by decide) ?_
  refine r_istore_n [(1, .int 0), (0, .ref (gz (xG x) + 114))] C dX11_putBack_9 (by decide) rfl ?_
  refine r_lv [1, 0] rfl ?_
  exact LP7 4294967296 0 w2 h4 o5 (by omega) (by omega)
set_option maxHeartbeats 4000000 in
set_option maxRecDepth 100000 in
theorem ctX11_follow (l : Launch) (G : Gt) (w : Wv) (sM : Str KM XM w) (o0 : OkM w) (W : Int32) (pW : wI w 114 0 = W) (bW : 0 ≤ W.toInt ∧ W.toInt ≤ 9) (D : Int32) (pD : wI w 114 1 = D) (bD : 0 ≤ D.toInt ∧ D.toInt ≤ 9) (a1 : Int32) : CtI l G yX11_follow cX11_follow 3 .int ({ frames := 6, cells := 0, slots := 0, locals := 140 } : Room) [.ref (gz G + 114), .int a1] w (fun r w' => Ch [122, 123, 124] [(114, 13)] w w' ∧ OkM w') := by
  refine enterI (by decide) (Nat.le_of_ble_eq_true rfl) ?_
  intro x el eG C hret
  subst el; subst eG
  show V x 0 0 w 0 [(0, .ref (gz (xG x) + 114)), (1, .int a1)] []
  have h0 : Ch [122, 123, 124] [(114, 13)] w w := Ch.rf
  have q0 : (0 : Int32).toInt = 0 := by decide
  obtain ⟨rA, rB, rC, rD⟩ := (o0.2 : Rel w)
  (try simp only [pW] at rA); (try simp only [pW] at rB); (try simp only [pW] at rC); (try simp only [pW] at rD)
  (try simp only [pD] at rA); (try simp only [pD] at rB); (try simp only [pD] at rC); (try simp only [pD] at rD)
  have LP2 : ∀ (f3 : Nat) (u1 : Int32) (w4 : Wv), Ch [122, 123, 124] [(114, 13)] w w4 → OkM w4 → (0 ≤ u1.toInt ∧ u1.toInt ≤ 2147483647) → 2147483647 - u1.toInt < f3 → V x 0 0 w4 2 [(0, .ref (gz (xG x) + 114)), (1, .int a1), (2, .int u1)] [] := by
    intro f3
    induction f3 with
    | zero => intro u1 w4 h5 o6 z7 z8; exfalso; omega
    | succ f3 ih9 =>
      intro u1 w4 h5 o6 z7 z8
      refine r_iload_n 2 C dX11_follow_2 rfl ?_
      refine r_iload_n 1 C dX11_follow_3 rfl ?_
      refine r_icmp_ge 40 C dX11_follow_4 (by decide) (fun c10 => ?_) (fun c10 => ?_)
      · have c10' := i_le c10
        refine r_iload_n 2 C dX11_follow_40 rfl ?_
        exact hret _ _ _ _ dX11_follow_41 rfl ⟨h5, o6⟩
      · have c10' := i_nle c10
        refine r_iload_n 2 C dX11_follow_7 rfl ?_
        refine r_aload_n 0 C dX11_follow_8 rfl ?_
        refine gfX11_265 (v := (wI w 114 49)) C (kS sM h5 kc_114) (h5.I (by decide) (by decide) rfl) dX11_follow_9 ?_
        have b11 := Inv.get o0.1 rt_114_49 (j := 49) (by decide) (by decide)
        refine r_icmp_ge 40 C dX11_follow_12 (by decide) (fun c12 => ?_) (fun c12 => ?_)
        · have c12' := i_le c12
          refine r_iload_n 2 C dX11_follow_40 rfl ?_
          exact hret _ _ _ _ dX11_follow_41 rfl ⟨h5, o6⟩
        · have c12' := i_nle c12
          refine r_aload_n 0 C dX11_follow_15 rfl ?_
          refine r_aload_n 0 C dX11_follow_16 rfl ?_
          refine gfX11_89 138 C (kS sM h5 kc_114) (xS sM h5 xc_114_50) dX11_follow_17 ?_
          refine r_iload_n 2 C dX11_follow_20 rfl ?_
          refine r_iald C (kS sM h5 kc_138) (vin (by omega) (by omega)) dX11_follow_21 ?_
          generalize (wI w4 138 (u1).toNatClampNeg) = v13
          refine r_aload_n 0 C dX11_follow_22 rfl ?_
          refine gfX11_92 139 C (kS sM h5 kc_114) (xS sM h5 xc_114_51) dX11_follow_23 ?_
          refine r_iload_n 2 C dX11_follow_26 rfl ?_
          refine r_iald C (kS sM h5 kc_139) (vin (by omega) (by omega)) dX11_follow_27 ?_
          have b15 := Inv.geta o6.1 rt_139_0 (i := u1) (by omega) (by omega) (by omega)
          generalize (wI w4 139 (u1).toNatClampNeg) = v14 at b15 ⊢
          refine callVI C cwX11_327_V (ctX11_minuteBy _ _ w4 (sS sM h5) o6 W (h5.I (by decide) (by decide) pW) (by omega) D (h5.I (by decide) (by decide) pD) (by omega) v13 v14 (by omega)) (by decide) (kS sM h5 kc_114) rfl rfl rfl (Nat.le_of_ble_eq_true rfl) (by decide) dX11_follow_28 (fun r18 w17 y16 => ?_)
          show V x 0 0 w17 31 [(0, .ref (gz (xG x) + 114)), (1, .int a1), (2, .int u1)] [.int r18]
          obtain ⟨h19, o20, g21⟩ := y16
          have h22 := Ch.tr h5 h19 (by decide) (by decide)
          refine r_if_eq 40 C dX11_follow_31 (by decide) (fun c23 => ?_) (fun c23 => ?_)
          · have c23' := i_eq c23
            refine r_iload_n 2 C dX11_follow_40 rfl ?_
            exact hret _ _ _ _ dX11_follow_41 rfl ⟨h22, o20⟩
          · have c23' := i_ne c23
            obtain ⟨i24, e25⟩ : ∃ z : Int32, u1 + Int32.ofInt 1 = z := ⟨_, rfl⟩
            have i24' := iinc_ok e25 (by decide) (by omega) (by omega)
            refine r_iinc [(2, .int i24), (0, .ref (gz (xG x) + 114)), (1, .int a1)] 2 C dX11_follow_34 rfl e25 (by decide) rfl ?_
            refine r_goto 2 C dX11_follow_37 (by decide) ?_
            refine r_lv [1, 2, 0] rfl ?_
            exact ih9 i24 w17 h22 o20 (by omega) (by omega)
  refine r_iconst (v := 0) C dX11_follow_0 (by decide) ?_
  refine r_istore_n [(2, .int 0), (0, .ref (gz (xG x) + 114)), (1, .int a1)] C dX11_follow_1 (by decide) rfl ?_
  refine r_lv [1, 2, 0] rfl ?_
  exact LP2 4294967296 0 w h0 o0 (by omega) (by omega)
set_option maxHeartbeats 4000000 in
set_option maxRecDepth 100000 in
theorem ctX11_drift (l : Launch) (G : Gt) (w : Wv) (sM : Str KM XM w) (o0 : OkM w) (W : Int32) (pW : wI w 114 0 = W) (bW : 0 ≤ W.toInt ∧ W.toInt ≤ 9) (D : Int32) (pD : wI w 114 1 = D) (bD : 0 ≤ D.toInt ∧ D.toInt ≤ 9) (a1 : Int32) : CtI l G yX11_drift cX11_drift 6 .int ({ frames := 6, cells := 0, slots := 0, locals := 140 } : Room) [.ref (gz G + 114), .int a1] w (fun r w' => Ch [122, 123, 124] [(114, 13), (114, 17), (114, 18)] w w' ∧ OkM w') := by
  refine enterI (by decide) (Nat.le_of_ble_eq_true rfl) ?_
  intro x el eG C hret
  subst el; subst eG
  show V x 0 0 w 0 [(0, .ref (gz (xG x) + 114)), (1, .int a1)] []
  have h0 : Ch [122, 123, 124] [(114, 13), (114, 17), (114, 18)] w w := Ch.rf
  have qm1000000003 : ((-1000000003) : Int32).toInt = (-1000000003) := by decide
  have qm1000000002 : ((-1000000002) : Int32).toInt = (-1000000002) := by decide
  have qm1 : ((-1) : Int32).toInt = (-1) := by decide
  have q0 : (0 : Int32).toInt = 0 := by decide
  have q1 : (1 : Int32).toInt = 1 := by decide
  have q5 : (5 : Int32).toInt = 5 := by decide
  have q9 : (9 : Int32).toInt = 9 := by decide
  have ql1 : (1 : Int64).toInt = 1 := by decide
  have ql99 : (99 : Int64).toInt = 99 := by decide
  obtain ⟨rA, rB, rC, rD⟩ := (o0.2 : Rel w)
  (try simp only [pW] at rA); (try simp only [pW] at rB); (try simp only [pW] at rC); (try simp only [pW] at rD)
  (try simp only [pD] at rA); (try simp only [pD] at rB); (try simp only [pD] at rC); (try simp only [pD] at rD)
  have LP10 : ∀ (f11 : Nat) (u9 : Int32) (w12 : Wv), Ch [122, 123, 124] [(114, 13), (114, 17), (114, 18)] w w12 → OkM w12 → (0 ≤ u9.toInt ∧ u9.toInt ≤ 2147483647) → (1 ≤ a1.toInt ∧ a1.toInt ≤ 99) → (0 < W.toInt) → 2147483647 - u9.toInt < f11 → V x 0 0 w12 28 [(0, .ref (gz (xG x) + 114)), (1, .int a1), (2, .int u9)] [] := by
    intro f11
    induction f11 with
    | zero => intro u9 w12 h13 o14 z15 z16 z17 z18; exfalso; omega
    | succ f11 ih19 =>
      intro u9 w12 h13 o14 z15 z16 z17 z18
      refine r_iload_n 2 C dX11_drift_28 rfl ?_
      refine r_iload_n 1 C dX11_drift_29 rfl ?_
      refine r_icmp_ge 101 C dX11_drift_30 (by decide) (fun c20 => ?_) (fun c20 => ?_)
      · have c20' := i_le c20
        refine r_aload_n 0 C dX11_drift_101 rfl ?_
        refine r_bipush (v := 9) C dX11_drift_102 (by decide) ?_
        refine callVI C cwX11_349_V (ctX11_told _ _ w12 (sS sM h13) o14 9 ) (by decide) (kS sM h13 kc_114) rfl rfl rfl (Nat.le_of_ble_eq_true rfl) (by decide) dX11_drift_104 (fun r23 w22 y21 => ?_)
        show V x 0 0 w22 107 [(0, .ref (gz (xG x) + 114)), (1, .int a1), (2, .int u9)] [.int r23]
        obtain ⟨h24, o25⟩ := y21
        have h26 := Ch.tr h13 h24 (by decide) (by decide)
        exact hret _ _ _ _ dX11_drift_107 rfl ⟨h26, o25⟩
      · have c20' := i_nle c20
        refine r_aload_n 0 C dX11_drift_33 rfl ?_
        refine r_iconst (v := 5) C dX11_drift_34 (by decide) ?_
        refine callVI C cwX11_346_V (ctX11_draw _ _ w12 (sS sM h13) o14 5 (by omega)) (by decide) (kS sM h13 kc_114) rfl rfl rfl (Nat.le_of_ble_eq_true rfl) (by decide) dX11_drift_35 (fun r29 w28 y27 => ?_)
        show V x 0 0 w28 38 [(0, .ref (gz (xG x) + 114)), (1, .int a1), (2, .int u9)] [.int r29]
        obtain ⟨h30, o31, g32⟩ := y27
        have h33 := Ch.tr h13 h30 (by decide) (by decide)
        refine r_istore_n [(3, .int r29), (0, .ref (gz (xG x) + 114)), (1, .int a1), (2, .int u9)] C dX11_drift_38 (by decide) rfl ?_
        refine r_aload_n 1 C dX11_drift_39 rfl ?_
        refine r_aload_n 1 C dX11_drift_40 rfl ?_
        refine gfX11_124 (v := (wI w 114 8)) C (kS sM h33 kc_114) (h30.I (by decide) (by decide) (h13.I (by decide) (by decide) rfl)) dX11_drift_41 ?_
        have b34 := Inv.get o0.1 rt_114_8 (j := 8) (by decide) (by decide)
        refine r_iconst (v := 1) C dX11_drift_44 (by decide) ?_
        refine r_iadd C dX11_drift_45 (fun v35 e36 => ?_)
        have v35' := iadd_ok e36 (by omega) (by omega)
        refine callVI C cwX11_346_V (ctX11_draw _ _ w28 (sS sM h33) o31 v35 (by omega)) (by decide) (kS sM h33 kc_114) rfl rfl rfl (Nat.le_of_ble_eq_true rfl) (by decide) dX11_drift_46 (fun r39 w38 y37 => ?_)
        show V x 0 0 w38 49 [(3, .int r29), (0, .ref (gz (xG x) + 114)), (1, .int a1), (2, .int u9)] [.int r39]
        obtain ⟨h40, o41, g42⟩ := y37
        have h43 := Ch.tr h33 h40 (by decide) (by decide)
        refine r_istore [(4, .int r39), (3, .int r29), (0, .ref (gz (xG x) + 114)), (1, .int a1), (2, .int u9)] C dX11_drift_49 (by decide) rfl ?_
        refine r_aload_n 2 C dX11_drift_51 rfl ?_
        refine r_aload_n 2 C dX11_drift_52 rfl ?_
        refine r_iload_n 1 C dX11_drift_53 rfl ?_
        refine callVI C cwX11_319_V (ctX11_stepTo _ _ w38 (sS sM h43) o41 W (h40.I (by decide) (by decide) (h30.I (by decide) (by decide) (h13.I (by decide) (by decide) pW))) (by omega) D (h40.I (by decide) (by decide) (h30.I (by decide) (by decide) (h13.I (by decide) (by decide) pD))) (by omega) r29 ) (by decide) (kS sM h43 kc_114) rfl rfl rfl (Nat.le_of_ble_eq_true rfl) (by decide) dX11_drift_54 (fun r46 w45 y44 => ?_)
        show V x 0 0 w45 57 [(4, .int r39), (3, .int r29), (0, .ref (gz (xG x) + 114)), (1, .int a1), (2, .int u9)] [.int r46, .ref (gz (xG x) + 114)]
        obtain ⟨h47, o48, g49⟩ := y44
        have h50 := Ch.tr h43 h47 (by decide) (by decide)
        refine r_if_ge 64 C dX11_drift_57 (by decide) (fun c51 => ?_) (fun c51 => ?_)
        · have c51' := i_le c51
          refine r_iload_n 1 C dX11_drift_64 rfl ?_
          refine r_iload 0 C dX11_drift_65 rfl ?_
          refine r_aload_n 2 C dX11_drift_67 rfl ?_
          refine gfX11_124 (v := (wI w 114 8)) C (kS sM h50 kc_114) (h47.I (by decide) (by decide) (h40.I (by decide) (by decide) (h30.I (by decide) (by decide) (h13.I (by decide) (by decide) rfl)))) dX11_drift_68 ?_
          refine r_icmp_ne 78 C dX11_drift_71 (by decide) (fun c52 => ?_) (fun c52 => ?_)
          · have c52' := i_ne c52
            refine r_iload 0 C dX11_drift_78 rfl ?_
            refine callVI C cwX11_327_V (ctX11_minuteBy _ _ w45 (sS sM h50) o48 W (h47.I (by decide) (by decide) (h40.I (by decide) (by decide) (h30.I (by decide) (by decide) (h13.I (by decide) (by decide) pW)))) (by omega) D (h47.I (by decide) (by decide) (h40.I (by decide) (by decide) (h30.I (by decide) (by decide) (h13.I (by decide) (by decide) pD)))) (by omega) r29 r39 (by omega)) (by decide) (kS sM h50 kc_114) rfl rfl rfl (Nat.le_of_ble_eq_true rfl) (by decide) dX11_drift_80 (fun r55 w54 y53 => ?_)
            show V x 0 0 w54 83 [(4, .int r39), (3, .int r29), (0, .ref (gz (xG x) + 114)), (1, .int a1), (2, .int u9)] [.int r55]
            obtain ⟨h56, o57, g58⟩ := y53
            have h59 := Ch.tr h50 h56 (by decide) (by decide)
            refine r_istore [(5, .int r55), (4, .int r39), (3, .int r29), (0, .ref (gz (xG x) + 114)), (1, .int a1), (2, .int u9)] C dX11_drift_83 (by decide) rfl ?_
            refine r_aload_n 3 C dX11_drift_85 rfl ?_
            refine r_dup C dX11_drift_86 rfl ?_
            refine gfX11_262 (v := (wI w12 114 17)) C (kS sM h59 kc_114) (h56.I (by decide) (by decide) (h47.I (by decide) (by decide) (h40.I (by decide) (by decide) (h30.I (by decide) (by decide) rfl)))) dX11_drift_87 ?_
            refine r_iconst (v := 1) C dX11_drift_90 (by decide) ?_
            refine r_iadd C dX11_drift_91 (fun v60 e61 => ?_)
            refine pfX11_262 C (kS sM h59 kc_114) dX11_drift_92 (fun w62 e63 => ?_)
            have h64 := Ch.putF h59 e63 (by decide)
            have o65 : OkM w62 := ⟨Inv.putk o57.1 e63 (by decide), Rel.putF o57.2 e63 (by decide)⟩
            obtain ⟨i66, e67⟩ : ∃ z : Int32, u9 + Int32.ofInt 1 = z := ⟨_, rfl⟩
            have i66' := iinc_ok e67 (by decide) (by omega) (by omega)
            refine r_iinc [(2, .int i66), (5, .int r55), (4, .int r39), (3, .int r29), (0, .ref (gz (xG x) + 114)), (1, .int a1)] 5 C dX11_drift_95 rfl e67 (by decide) rfl ?_
            refine r_goto 28 C dX11_drift_98 (by decide) ?_
            refine r_lv [4, 5, 0] rfl ?_
            exact ih19 i66 w62 h64 o65 (by omega) (by omega) (by omega) (by omega)
          · have c52' := i_eq c52
            refine r_iconst (v := (-1)) C dX11_drift_74 (by decide) ?_
            refine r_goto 80 C dX11_drift_75 (by decide) ?_
            refine callVI C cwX11_327_V (ctX11_minuteBy _ _ w45 (sS sM h50) o48 W (h47.I (by decide) (by decide) (h40.I (by decide) (by decide) (h30.I (by decide) (by decide) (h13.I (by decide) (by decide) pW)))) (by omega) D (h47.I (by decide) (by decide) (h40.I (by decide) (by decide) (h30.I (by decide) (by decide) (h13.I (by decide) (by decide) pD)))) (by omega) r29 (-1) (by omega)) (by decide) (kS sM h50 kc_114) rfl rfl rfl (Nat.le_of_ble_eq_true rfl) (by decide) dX11_drift_80 (fun r70 w69 y68 => ?_)
            show V x 0 0 w69 83 [(4, .int r39), (3, .int r29), (0, .ref (gz (xG x) + 114)), (1, .int a1), (2, .int u9)] [.int r70]
            obtain ⟨h71, o72, g73⟩ := y68
            have h74 := Ch.tr h50 h71 (by decide) (by decide)
            refine r_istore [(5, .int r70), (4, .int r39), (3, .int r29), (0, .ref (gz (xG x) + 114)), (1, .int a1), (2, .int u9)] C dX11_drift_83 (by decide) rfl ?_
            refine r_aload_n 3 C dX11_drift_85 rfl ?_
            refine r_dup C dX11_drift_86 rfl ?_
            refine gfX11_262 (v := (wI w12 114 17)) C (kS sM h74 kc_114) (h71.I (by decide) (by decide) (h47.I (by decide) (by decide) (h40.I (by decide) (by decide) (h30.I (by decide) (by decide) rfl)))) dX11_drift_87 ?_
            refine r_iconst (v := 1) C dX11_drift_90 (by decide) ?_
            refine r_iadd C dX11_drift_91 (fun v75 e76 => ?_)
            refine pfX11_262 C (kS sM h74 kc_114) dX11_drift_92 (fun w77 e78 => ?_)
            have h79 := Ch.putF h74 e78 (by decide)
            have o80 : OkM w77 := ⟨Inv.putk o72.1 e78 (by decide), Rel.putF o72.2 e78 (by decide)⟩
            obtain ⟨i81, e82⟩ : ∃ z : Int32, u9 + Int32.ofInt 1 = z := ⟨_, rfl⟩
            have i81' := iinc_ok e82 (by decide) (by omega) (by omega)
            refine r_iinc [(2, .int i81), (5, .int r70), (4, .int r39), (3, .int r29), (0, .ref (gz (xG x) + 114)), (1, .int a1)] 5 C dX11_drift_95 rfl e82 (by decide) rfl ?_
            refine r_goto 28 C dX11_drift_98 (by decide) ?_
            refine r_lv [4, 5, 0] rfl ?_
            exact ih19 i81 w77 h79 o80 (by omega) (by omega) (by omega) (by omega)
        · have c51' := i_nle c51
          refine r_iconst (v := 0) C dX11_drift_60 (by decide) ?_
          refine r_goto 65 C dX11_drift_61 (by decide) ?_
          refine r_iload 0 C dX11_drift_65 rfl ?_
          refine r_aload_n 2 C dX11_drift_67 rfl ?_
          refine gfX11_124 (v := (wI w 114 8)) C (kS sM h50 kc_114) (h47.I (by decide) (by decide) (h40.I (by decide) (by decide) (h30.I (by decide) (by decide) (h13.I (by decide) (by decide) rfl)))) dX11_drift_68 ?_
          refine r_icmp_ne 78 C dX11_drift_71 (by decide) (fun c83 => ?_) (fun c83 => ?_)
          · have c83' := i_ne c83
            refine r_iload 0 C dX11_drift_78 rfl ?_
            refine callVI C cwX11_327_V (ctX11_minuteBy _ _ w45 (sS sM h50) o48 W (h47.I (by decide) (by decide) (h40.I (by decide) (by decide) (h30.I (by decide) (by decide) (h13.I (by decide) (by decide) pW)))) (by omega) D (h47.I (by decide) (by decide) (h40.I (by decide) (by decide) (h30.I (by decide) (by decide) (h13.I (by decide) (by decide) pD)))) (by omega) 0 r39 (by omega)) (by decide) (kS sM h50 kc_114) rfl rfl rfl (Nat.le_of_ble_eq_true rfl) (by decide) dX11_drift_80 (fun r86 w85 y84 => ?_)
            show V x 0 0 w85 83 [(4, .int r39), (3, .int r29), (0, .ref (gz (xG x) + 114)), (1, .int a1), (2, .int u9)] [.int r86]
            obtain ⟨h87, o88, g89⟩ := y84
            have h90 := Ch.tr h50 h87 (by decide) (by decide)
            refine r_istore [(5, .int r86), (4, .int r39), (3, .int r29), (0, .ref (gz (xG x) + 114)), (1, .int a1), (2, .int u9)] C dX11_drift_83 (by decide) rfl ?_
            refine r_aload_n 3 C dX11_drift_85 rfl ?_
            refine r_dup C dX11_drift_86 rfl ?_
            refine gfX11_262 (v := (wI w12 114 17)) C (kS sM h90 kc_114) (h87.I (by decide) (by decide) (h47.I (by decide) (by decide) (h40.I (by decide) (by decide) (h30.I (by decide) (by decide) rfl)))) dX11_drift_87 ?_
            refine r_iconst (v := 1) C dX11_drift_90 (by decide) ?_
            refine r_iadd C dX11_drift_91 (fun v91 e92 => ?_)
            refine pfX11_262 C (kS sM h90 kc_114) dX11_drift_92 (fun w93 e94 => ?_)
            have h95 := Ch.putF h90 e94 (by decide)
            have o96 : OkM w93 := ⟨Inv.putk o88.1 e94 (by decide), Rel.putF o88.2 e94 (by decide)⟩
            obtain ⟨i97, e98⟩ : ∃ z : Int32, u9 + Int32.ofInt 1 = z := ⟨_, rfl⟩
            have i97' := iinc_ok e98 (by decide) (by omega) (by omega)
            refine r_iinc [(2, .int i97), (5, .int r86), (4, .int r39), (3, .int r29), (0, .ref (gz (xG x) + 114)), (1, .int a1)] 5 C dX11_drift_95 rfl e98 (by decide) rfl ?_
            refine r_goto 28 C dX11_drift_98 (by decide) ?_
            refine r_lv [4, 5, 0] rfl ?_
            exact ih19 i97 w93 h95 o96 (by omega) (by omega) (by omega) (by omega)
          · have c83' := i_eq c83
            refine r_iconst (v := (-1)) C dX11_drift_74 (by decide) ?_
            refine r_goto 80 C dX11_drift_75 (by decide) ?_
            refine callVI C cwX11_327_V (ctX11_minuteBy _ _ w45 (sS sM h50) o48 W (h47.I (by decide) (by decide) (h40.I (by decide) (by decide) (h30.I (by decide) (by decide) (h13.I (by decide) (by decide) pW)))) (by omega) D (h47.I (by decide) (by decide) (h40.I (by decide) (by decide) (h30.I (by decide) (by decide) (h13.I (by decide) (by decide) pD)))) (by omega) 0 (-1) (by omega)) (by decide) (kS sM h50 kc_114) rfl rfl rfl (Nat.le_of_ble_eq_true rfl) (by decide) dX11_drift_80 (fun r101 w100 y99 => ?_)
            show V x 0 0 w100 83 [(4, .int r39), (3, .int r29), (0, .ref (gz (xG x) + 114)), (1, .int a1), (2, .int u9)] [.int r101]
            obtain ⟨h102, o103, g104⟩ := y99
            have h105 := Ch.tr h50 h102 (by decide) (by decide)
            refine r_istore [(5, .int r101), (4, .int r39), (3, .int r29), (0, .ref (gz (xG x) + 114)), (1, .int a1), (2, .int u9)] C dX11_drift_83 (by decide) rfl ?_
            refine r_aload_n 3 C dX11_drift_85 rfl ?_
            refine r_dup C dX11_drift_86 rfl ?_
            refine gfX11_262 (v := (wI w12 114 17)) C (kS sM h105 kc_114) (h102.I (by decide) (by decide) (h47.I (by decide) (by decide) (h40.I (by decide) (by decide) (h30.I (by decide) (by decide) rfl)))) dX11_drift_87 ?_
            refine r_iconst (v := 1) C dX11_drift_90 (by decide) ?_
            refine r_iadd C dX11_drift_91 (fun v106 e107 => ?_)
            refine pfX11_262 C (kS sM h105 kc_114) dX11_drift_92 (fun w108 e109 => ?_)
            have h110 := Ch.putF h105 e109 (by decide)
            have o111 : OkM w108 := ⟨Inv.putk o103.1 e109 (by decide), Rel.putF o103.2 e109 (by decide)⟩
            obtain ⟨i112, e113⟩ : ∃ z : Int32, u9 + Int32.ofInt 1 = z := ⟨_, rfl⟩
            have i112' := iinc_ok e113 (by decide) (by omega) (by omega)
            refine r_iinc [(2, .int i112), (5, .int r101), (4, .int r39), (3, .int r29), (0, .ref (gz (xG x) + 114)), (1, .int a1)] 5 C dX11_drift_95 rfl e113 (by decide) rfl ?_
            refine r_goto 28 C dX11_drift_98 (by decide) ?_
            refine r_lv [4, 5, 0] rfl ?_
            exact ih19 i112 w108 h110 o111 (by omega) (by omega) (by omega) (by omega)
  refine r_iload_n 1 C dX11_drift_0 rfl ?_
  refine r_i2l C dX11_drift_1 (fun v1 e2 => ?_)
  have v1' := i2l_ok e2
  refine r_lconst (v := 1) C dX11_drift_2 (by decide) ?_
  refine r_ldc2 C mw6_202 dX11_drift_3 ?_
  refine callSI C cwX11_114_S (ctX11_in _ _ w v1 1 99 ) (by decide) rfl rfl (Nat.le_of_ble_eq_true rfl) (by decide) dX11_drift_6 (fun r5 w4 y3 => ?_)
  obtain ⟨rfl, g6⟩ := y3
  show V x 0 0 w 9 [(0, .ref (gz (xG x) + 114)), (1, .int a1)] [.int r5]
  refine r_if_ne 15 C dX11_drift_9 (by decide) (fun c7 => ?_) (fun c7 => ?_)
  · have c7' := i_ne c7
    refine r_aload_n 0 C dX11_drift_15 rfl ?_
    refine gfX11_111 (v := W) C (kS sM h0 kc_114) pW dX11_drift_16 ?_
    refine r_if_ne 26 C dX11_drift_19 (by decide) (fun c8 => ?_) (fun c8 => ?_)
    · have c8' := i_ne c8
      refine r_iconst (v := 0) C dX11_drift_26 (by decide) ?_
      refine r_istore_n [(2, .int 0), (0, .ref (gz (xG x) + 114)), (1, .int a1)] C dX11_drift_27 (by decide) rfl ?_
      refine r_lv [1, 2, 0] rfl ?_
      exact LP10 4294967296 0 w h0 o0 (by omega) (by omega) (by omega) (by omega)
    · have c8' := i_eq c8
      refine r_ldcw C mw6_189 dX11_drift_22 ?_
      exact hret _ _ _ _ dX11_drift_25 rfl ⟨h0, o0⟩
  · have c7' := i_eq c7
    refine r_ldc C mw5_239 dX11_drift_12 ?_
    exact hret _ _ _ _ dX11_drift_14 rfl ⟨h0, o0⟩
set_option maxHeartbeats 4000000 in
set_option maxRecDepth 100000 in
theorem ctX11_plan (l : Launch) (G : Gt) (w : Wv) (sM : Str KM XM w) (o0 : OkM w) (a1 : Int32) (a2 : Int32) : CtI l G yX11_plan cX11_plan 3 .int ({ frames := 2, cells := 0, slots := 0, locals := 46 } : Room) [.ref (gz G + 114), .int a1, .int a2] w (fun r w' => Ch [138, 139] [(114, 49)] w w' ∧ OkM w') := by
  refine enterI (by decide) (Nat.le_of_ble_eq_true rfl) ?_
  intro x el eG C hret
  subst el; subst eG
  show V x 0 0 w 0 [(0, .ref (gz (xG x) + 114)), (1, .int a1), (2, .int a2)] []
  have h0 : Ch [138, 139] [(114, 49)] w w := Ch.rf
  have qm1000000004 : ((-1000000004) : Int32).toInt = (-1000000004) := by decide
  have qm1000000002 : ((-1000000002) : Int32).toInt = (-1000000002) := by decide
  have qm1000000001 : ((-1000000001) : Int32).toInt = (-1000000001) := by decide
  have qm1 : ((-1) : Int32).toInt = (-1) := by decide
  have q0 : (0 : Int32).toInt = 0 := by decide
  have q1 : (1 : Int32).toInt = 1 := by decide
  have q30 : (30 : Int32).toInt = 30 := by decide
  have ql0 : (0 : Int64).toInt = 0 := by decide
  have ql4 : (4 : Int64).toInt = 4 := by decide
  obtain ⟨rA, rB, rC, rD⟩ := (o0.2 : Rel w)
  refine r_iload_n 2 C dX11_plan_0 rfl ?_
  refine r_iconst (v := (-1)) C dX11_plan_1 (by decide) ?_
  refine r_icmp_eq 17 C dX11_plan_2 (by decide) (fun c1 => ?_) (fun c1 => ?_)
  · have c1' := i_eq c1
    refine r_iload_n 1 C dX11_plan_17 rfl ?_
    refine r_i2l C dX11_plan_18 (fun v2 e3 => ?_)
    have v2' := i2l_ok e3
    refine r_lconst (v := 0) C dX11_plan_19 (by decide) ?_
    refine r_ldc2 C mw6_172 dX11_plan_20 ?_
    refine callSI C cwX11_114_S (ctX11_in _ _ w v2 0 4 ) (by decide) rfl rfl (Nat.le_of_ble_eq_true rfl) (by decide) dX11_plan_23 (fun r6 w5 y4 => ?_)
    obtain ⟨rfl, g7⟩ := y4
    show V x 0 0 w 26 [(0, .ref (gz (xG x) + 114)), (1, .int a1), (2, .int a2)] [.int r6]
    refine r_if_ne 32 C dX11_plan_26 (by decide) (fun c8 => ?_) (fun c8 => ?_)
    · have c8' := i_ne c8
      refine r_aload_n 0 C dX11_plan_32 rfl ?_
      refine gfX11_265 (v := (wI w 114 49)) C (kS sM h0 kc_114) rfl dX11_plan_33 ?_
      have b9 := Inv.get o0.1 rt_114_49 (j := 49) (by decide) (by decide)
      refine r_bipush (v := 30) C dX11_plan_36 (by decide) ?_
      refine r_icmp_ne 44 C dX11_plan_38 (by decide) (fun c10 => ?_) (fun c10 => ?_)
      · have c10' := i_ne c10
        refine r_aload_n 0 C dX11_plan_44 rfl ?_
        refine gfX11_89 138 C (kS sM h0 kc_114) (xS sM h0 xc_114_50) dX11_plan_45 ?_
        refine r_aload_n 0 C dX11_plan_48 rfl ?_
        refine gfX11_265 (v := (wI w 114 49)) C (kS sM h0 kc_114) rfl dX11_plan_49 ?_
        refine r_iload_n 1 C dX11_plan_52 rfl ?_
        refine r_iast C (kS sM h0 kc_138) (vin (by omega) (by omega)) dX11_plan_53 (fun w11 e12 => ?_)
        have h13 := Ch.putS h0 e12 (by decide)
        have o14 : OkM w11 := ⟨Inv.put0 o0.1 e12 (by decide), Rel.putS o0.2 e12 (by decide)⟩
        refine r_aload_n 0 C dX11_plan_54 rfl ?_
        refine gfX11_92 139 C (kS sM h13 kc_114) (xS sM h13 xc_114_51) dX11_plan_55 ?_
        refine r_aload_n 0 C dX11_plan_58 rfl ?_
        refine gfX11_265 (v := (wI w 114 49)) C (kS sM h13 kc_114) (g_nn e12 (by decide) rfl) dX11_plan_59 ?_
        refine r_iload_n 2 C dX11_plan_62 rfl ?_
        refine r_iast C (kS sM h13 kc_139) (vin (by omega) (by omega)) dX11_plan_63 (fun w15 e16 => ?_)
        have h17 := Ch.putS h13 e16 (by decide)
        have o18 : OkM w15 := ⟨Inv.putR o14.1 e16 0 29 (by omega) (by omega) (-1) 2 (by omega) (by decide), Rel.putS o14.2 e16 (by decide)⟩
        refine r_aload_n 0 C dX11_plan_64 rfl ?_
        refine r_dup C dX11_plan_65 rfl ?_
        refine gfX11_265 (v := (wI w 114 49)) C (kS sM h17 kc_114) (g_nn e16 (by decide) (g_nn e12 (by decide) rfl)) dX11_plan_66 ?_
        refine r_iconst (v := 1) C dX11_plan_69 (by decide) ?_
        refine r_iadd C dX11_plan_70 (fun v19 e20 => ?_)
        have v19' := iadd_ok e20 (by omega) (by omega)
        refine pfX11_265 C (kS sM h17 kc_114) dX11_plan_71 (fun w21 e22 => ?_)
        have h23 := Ch.putF h17 e22 (by decide)
        have o24 : OkM w21 := ⟨Inv.put o18.1 e22 0 30 (by omega) (by decide), Rel.putF o18.2 e22 (by decide)⟩
        refine r_aload_n 0 C dX11_plan_74 rfl ?_
        refine gfX11_265 (v := v19) C (kS sM h23 kc_114) (g_eq e22) dX11_plan_75 ?_
        exact hret _ _ _ _ dX11_plan_78 rfl ⟨h23, o24⟩
      · have c10' := i_eq c10
        refine r_ldc C mw6_0 dX11_plan_41 ?_
        exact hret _ _ _ _ dX11_plan_43 rfl ⟨h0, o0⟩
    · have c8' := i_eq c8
      refine r_ldc C mw5_239 dX11_plan_29 ?_
      exact hret _ _ _ _ dX11_plan_31 rfl ⟨h0, o0⟩
  · have c1' := i_ne c1
    refine r_aload_n 0 C dX11_plan_5 rfl ?_
    refine r_iload_n 2 C dX11_plan_6 rfl ?_
    have b25 := Inv.get o0.1 rt_114_8 (j := 8) (by decide) (by decide)
    refine callVI C cwX11_310_V (ctX11_isTune _ _ w (sS sM h0) o0 (wI w 114 8) rfl (by omega) a2 ) (by decide) (kS sM h0 kc_114) rfl rfl rfl (Nat.le_of_ble_eq_true rfl) (by decide) dX11_plan_7 (fun r28 w27 y26 => ?_)
    show V x 0 0 w27 10 [(0, .ref (gz (xG x) + 114)), (1, .int a1), (2, .int a2)] [.int r28]
    obtain ⟨h29, o30, g31⟩ := y26
    have h32 := Ch.tr h0 h29 (by decide) (by decide)
    refine r_if_ne 17 C dX11_plan_10 (by decide) (fun c33 => ?_) (fun c33 => ?_)
    · have c33' := i_ne c33
      refine r_iload_n 1 C dX11_plan_17 rfl ?_
      refine r_i2l C dX11_plan_18 (fun v34 e35 => ?_)
      have v34' := i2l_ok e35
      refine r_lconst (v := 0) C dX11_plan_19 (by decide) ?_
      refine r_ldc2 C mw6_172 dX11_plan_20 ?_
      refine callSI C cwX11_114_S (ctX11_in _ _ w27 v34 0 4 ) (by decide) rfl rfl (Nat.le_of_ble_eq_true rfl) (by decide) dX11_plan_23 (fun r38 w37 y36 => ?_)
      obtain ⟨rfl, g39⟩ := y36
      show V x 0 0 w27 26 [(0, .ref (gz (xG x) + 114)), (1, .int a1), (2, .int a2)] [.int r38]
      refine r_if_ne 32 C dX11_plan_26 (by decide) (fun c40 => ?_) (fun c40 => ?_)
      · have c40' := i_ne c40
        refine r_aload_n 0 C dX11_plan_32 rfl ?_
        refine gfX11_265 (v := (wI w 114 49)) C (kS sM h32 kc_114) (h29.I (by decide) (by decide) rfl) dX11_plan_33 ?_
        have b41 := Inv.get o0.1 rt_114_49 (j := 49) (by decide) (by decide)
        refine r_bipush (v := 30) C dX11_plan_36 (by decide) ?_
        refine r_icmp_ne 44 C dX11_plan_38 (by decide) (fun c42 => ?_) (fun c42 => ?_)
        · have c42' := i_ne c42
          refine r_aload_n 0 C dX11_plan_44 rfl ?_
          refine gfX11_89 138 C (kS sM h32 kc_114) (xS sM h32 xc_114_50) dX11_plan_45 ?_
          refine r_aload_n 0 C dX11_plan_48 rfl ?_
          refine gfX11_265 (v := (wI w 114 49)) C (kS sM h32 kc_114) (h29.I (by decide) (by decide) rfl) dX11_plan_49 ?_
          refine r_iload_n 1 C dX11_plan_52 rfl ?_
          refine r_iast C (kS sM h32 kc_138) (vin (by omega) (by omega)) dX11_plan_53 (fun w43 e44 => ?_)
          have h45 := Ch.putS h32 e44 (by decide)
          have o46 : OkM w43 := ⟨Inv.put0 o30.1 e44 (by decide), Rel.putS o30.2 e44 (by decide)⟩
          refine r_aload_n 0 C dX11_plan_54 rfl ?_
          refine gfX11_92 139 C (kS sM h45 kc_114) (xS sM h45 xc_114_51) dX11_plan_55 ?_
          refine r_aload_n 0 C dX11_plan_58 rfl ?_
          refine gfX11_265 (v := (wI w 114 49)) C (kS sM h45 kc_114) (g_nn e44 (by decide) (h29.I (by decide) (by decide) rfl)) dX11_plan_59 ?_
          refine r_iload_n 2 C dX11_plan_62 rfl ?_
          refine r_iast C (kS sM h45 kc_139) (vin (by omega) (by omega)) dX11_plan_63 (fun w47 e48 => ?_)
          have h49 := Ch.putS h45 e48 (by decide)
          have o50 : OkM w47 := ⟨Inv.putR o46.1 e48 0 29 (by omega) (by omega) (-1) 2 (by omega) (by decide), Rel.putS o46.2 e48 (by decide)⟩
          refine r_aload_n 0 C dX11_plan_64 rfl ?_
          refine r_dup C dX11_plan_65 rfl ?_
          refine gfX11_265 (v := (wI w 114 49)) C (kS sM h49 kc_114) (g_nn e48 (by decide) (g_nn e44 (by decide) (h29.I (by decide) (by decide) rfl))) dX11_plan_66 ?_
          refine r_iconst (v := 1) C dX11_plan_69 (by decide) ?_
          refine r_iadd C dX11_plan_70 (fun v51 e52 => ?_)
          have v51' := iadd_ok e52 (by omega) (by omega)
          refine pfX11_265 C (kS sM h49 kc_114) dX11_plan_71 (fun w53 e54 => ?_)
          have h55 := Ch.putF h49 e54 (by decide)
          have o56 : OkM w53 := ⟨Inv.put o50.1 e54 0 30 (by omega) (by decide), Rel.putF o50.2 e54 (by decide)⟩
          refine r_aload_n 0 C dX11_plan_74 rfl ?_
          refine gfX11_265 (v := v51) C (kS sM h55 kc_114) (g_eq e54) dX11_plan_75 ?_
          exact hret _ _ _ _ dX11_plan_78 rfl ⟨h55, o56⟩
        · have c42' := i_eq c42
          refine r_ldc C mw6_0 dX11_plan_41 ?_
          exact hret _ _ _ _ dX11_plan_43 rfl ⟨h32, o30⟩
      · have c40' := i_eq c40
        refine r_ldc C mw5_239 dX11_plan_29 ?_
        exact hret _ _ _ _ dX11_plan_31 rfl ⟨h32, o30⟩
    · have c33' := i_eq c33
      refine r_ldcw C mw6_112 dX11_plan_13 ?_
      exact hret _ _ _ _ dX11_plan_16 rfl ⟨h32, o30⟩
set_option maxHeartbeats 4000000 in
set_option maxRecDepth 100000 in
theorem ctX11_drop (l : Launch) (G : Gt) (w : Wv) (sM : Str KM XM w) (o0 : OkM w)  : CtI l G yX11_drop cX11_drop 2 .int ({ frames := 0, cells := 0, slots := 0, locals := 0 } : Room) [.ref (gz G + 114)] w (fun r w' => Ch [] [(114, 49)] w w' ∧ OkM w') := by
  refine enterI (by decide) (Nat.le_of_ble_eq_true rfl) ?_
  intro x el eG C hret
  subst el; subst eG
  show V x 0 0 w 0 [(0, .ref (gz (xG x) + 114))] []
  have h0 : Ch [] [(114, 49)] w w := Ch.rf
  have q0 : (0 : Int32).toInt = 0 := by decide
  obtain ⟨rA, rB, rC, rD⟩ := (o0.2 : Rel w)
  refine r_aload_n 0 C dX11_drop_0 rfl ?_
  refine gfX11_265 (v := (wI w 114 49)) C (kS sM h0 kc_114) rfl dX11_drop_1 ?_
  have b1 := Inv.get o0.1 rt_114_49 (j := 49) (by decide) (by decide)
  refine r_istore_n [(1, .int (wI w 114 49)), (0, .ref (gz (xG x) + 114))] C dX11_drop_4 (by decide) rfl ?_
  refine r_aload_n 1 C dX11_drop_5 rfl ?_
  refine r_iconst (v := 0) C dX11_drop_6 (by decide) ?_
  refine pfX11_265 C (kS sM h0 kc_114) dX11_drop_7 (fun w2 e3 => ?_)
  have h4 := Ch.putF h0 e3 (by decide)
  have o5 : OkM w2 := ⟨Inv.put o0.1 e3 0 30 (by omega) (by decide), Rel.putF o0.2 e3 (by decide)⟩
  refine r_iload_n 0 C dX11_drop_10 rfl ?_
  exact hret _ _ _ _ dX11_drop_11 rfl ⟨h4, o5⟩
set_option maxHeartbeats 4000000 in
set_option maxRecDepth 100000 in
theorem ctX11_judge (l : Launch) (G : Gt) (w : Wv) (sM : Str KM XM w) (o0 : OkM w)  : CtI l G yX11_judge cX11_judge 2 .int ({ frames := 7, cells := 0, slots := 0, locals := 162 } : Room) [.ref (gz G + 114)] w (fun r w' => Ch [122, 123, 124, 135, 136, 137] [(114, 13), (114, 45)] w w' ∧ OkM w') := by
  refine enterI (by decide) (Nat.le_of_ble_eq_true rfl) ?_
  intro x el eG C hret
  subst el; subst eG
  show V x 0 0 w 0 [(0, .ref (gz (xG x) + 114))] []
  have h0 : Ch [122, 123, 124, 135, 136, 137] [(114, 13), (114, 45)] w w := Ch.rf
  have qm1 : ((-1) : Int32).toInt = (-1) := by decide
  have q30 : (30 : Int32).toInt = 30 := by decide
  obtain ⟨rA, rB, rC, rD⟩ := (o0.2 : Rel w)
  refine r_aload_n 0 C dX11_judge_0 rfl ?_
  refine callVV C cwX11_355_V (ctX11_save _ _ w (sS sM h0) o0  ) (by decide) (kS sM h0 kc_114) rfl rfl rfl (Nat.le_of_ble_eq_true rfl) (by decide) dX11_judge_1 (fun w2 y1 => ?_)
  show V x 0 0 w2 4 [(0, .ref (gz (xG x) + 114))] []
  obtain ⟨h4, o5⟩ := y1
  have h6 := Ch.tr h0 h4 (by decide) (by decide)
  refine r_aload_n 0 C dX11_judge_4 rfl ?_
  refine r_bipush (v := 30) C dX11_judge_5 (by decide) ?_
  have b7 := Inv.get o0.1 rt_114_0 (j := 0) (by decide) (by decide)
  have b8 := Inv.get o0.1 rt_114_1 (j := 1) (by decide) (by decide)
  refine callVI C cwX11_358_V (ctX11_follow _ _ w2 (sS sM h6) o5 (wI w 114 0) (h4.I (by decide) (by decide) rfl) (by omega) (wI w 114 1) (h4.I (by decide) (by decide) rfl) (by omega) 30 ) (by decide) (kS sM h6 kc_114) rfl rfl rfl (Nat.le_of_ble_eq_true rfl) (by decide) dX11_judge_7 (fun r11 w10 y9 => ?_)
  show V x 0 0 w10 10 [(0, .ref (gz (xG x) + 114))] [.int r11]
  obtain ⟨h12, o13⟩ := y9
  have h14 := Ch.tr h6 h12 (by decide) (by decide)
  refine r_istore_n [(1, .int r11), (0, .ref (gz (xG x) + 114))] C dX11_judge_10 (by decide) rfl ?_
  refine r_aload_n 1 C dX11_judge_11 rfl ?_
  refine callVV C cwX11_361_V (ctX11_putBack _ _ w10 (sS sM h14) o13  ) (by decide) (kS sM h14 kc_114) rfl rfl rfl (Nat.le_of_ble_eq_true rfl) (by decide) dX11_judge_12 (fun w16 y15 => ?_)
  show V x 0 0 w16 15 [(1, .int r11), (0, .ref (gz (xG x) + 114))] []
  obtain ⟨h18, o19⟩ := y15
  have h20 := Ch.tr h14 h18 (by decide) (by decide)
  refine r_iload_n 0 C dX11_judge_15 rfl ?_
  refine r_aload_n 1 C dX11_judge_16 rfl ?_
  refine gfX11_265 (v := (wI w 114 49)) C (kS sM h20 kc_114) (h18.I (by decide) (by decide) (h12.I (by decide) (by decide) (h4.I (by decide) (by decide) rfl))) dX11_judge_17 ?_
  have b21 := Inv.get o0.1 rt_114_49 (j := 49) (by decide) (by decide)
  refine r_icmp_ne 27 C dX11_judge_20 (by decide) (fun c22 => ?_) (fun c22 => ?_)
  · have c22' := i_ne c22
    refine r_iload_n 0 C dX11_judge_27 rfl ?_
    exact hret _ _ _ _ dX11_judge_28 rfl ⟨h20, o19⟩
  · have c22' := i_eq c22
    refine r_iconst (v := (-1)) C dX11_judge_23 (by decide) ?_
    refine r_goto 28 C dX11_judge_24 (by decide) ?_
    exact hret _ _ _ _ dX11_judge_28 rfl ⟨h20, o19⟩
set_option maxHeartbeats 4000000 in
set_option maxRecDepth 100000 in
theorem ctX11_tried (l : Launch) (G : Gt) (w : Wv) (sM : Str KM XM w) (o0 : OkM w) (a1 : Int32) (a2 : Int32) : CtI l G yX11_tried cX11_tried 5 .int ({ frames := 7, cells := 0, slots := 0, locals := 162 } : Room) [.ref (gz G + 114), .int a1, .int a2] w (fun r w' => Ch [122, 123, 124, 135, 136, 137] [(114, 13), (114, 45)] w w' ∧ OkM w') := by
  refine enterI (by decide) (Nat.le_of_ble_eq_true rfl) ?_
  intro x el eG C hret
  subst el; subst eG
  show V x 0 0 w 0 [(0, .ref (gz (xG x) + 114)), (1, .int a1), (2, .int a2)] []
  have h0 : Ch [122, 123, 124, 135, 136, 137] [(114, 13), (114, 45)] w w := Ch.rf
  have qm1000000002 : ((-1000000002) : Int32).toInt = (-1000000002) := by decide
  have qm1000000001 : ((-1000000001) : Int32).toInt = (-1000000001) := by decide
  have qm1 : ((-1) : Int32).toInt = (-1) := by decide
  have q0 : (0 : Int32).toInt = 0 := by decide
  have q1 : (1 : Int32).toInt = 1 := by decide
  have q30 : (30 : Int32).toInt = 30 := by decide
  have qlm1 : ((-1) : Int64).toInt = (-1) := by decide
  have ql0 : (0 : Int64).toInt = 0 := by decide
  have ql1 : (1 : Int64).toInt = 1 := by decide
  have ql2 : (2 : Int64).toInt = 2 := by decide
  obtain ⟨rA, rB, rC, rD⟩ := (o0.2 : Rel w)
  refine r_iload_n 1 C dX11_tried_0 rfl ?_
  refine r_i2l C dX11_tried_1 (fun v1 e2 => ?_)
  have v1' := i2l_ok e2
  refine r_ldc2 C mw7_0 dX11_tried_2 ?_
  refine r_ldc2 C mw7_1 dX11_tried_5 ?_
  refine callSI C cwX11_114_S (ctX11_in _ _ w v1 (-1) 2 ) (by decide) rfl rfl (Nat.le_of_ble_eq_true rfl) (by decide) dX11_tried_8 (fun r5 w4 y3 => ?_)
  obtain ⟨rfl, g6⟩ := y3
  show V x 0 0 w 11 [(0, .ref (gz (xG x) + 114)), (1, .int a1), (2, .int a2)] [.int r5]
  refine r_if_ne 18 C dX11_tried_11 (by decide) (fun c7 => ?_) (fun c7 => ?_)
  · have c7' := i_ne c7
    refine r_iload_n 1 C dX11_tried_18 rfl ?_
    refine r_iconst (v := (-1)) C dX11_tried_19 (by decide) ?_
    refine r_icmp_eq 36 C dX11_tried_20 (by decide) (fun c8 => ?_) (fun c8 => ?_)
    · have c8' := i_eq c8
      refine r_aload_n 0 C dX11_tried_36 rfl ?_
      refine callVV C cwX11_355_V (ctX11_save _ _ w (sS sM h0) o0  ) (by decide) (kS sM h0 kc_114) rfl rfl rfl (Nat.le_of_ble_eq_true rfl) (by decide) dX11_tried_37 (fun w10 y9 => ?_)
      show V x 0 0 w10 40 [(0, .ref (gz (xG x) + 114)), (1, .int a1), (2, .int a2)] []
      obtain ⟨h12, o13⟩ := y9
      have h14 := Ch.tr h0 h12 (by decide) (by decide)
      refine r_aload_n 0 C dX11_tried_40 rfl ?_
      refine r_bipush (v := 30) C dX11_tried_41 (by decide) ?_
      have b15 := Inv.get o0.1 rt_114_0 (j := 0) (by decide) (by decide)
      have b16 := Inv.get o0.1 rt_114_1 (j := 1) (by decide) (by decide)
      refine callVI C cwX11_358_V (ctX11_follow _ _ w10 (sS sM h14) o13 (wI w 114 0) (h12.I (by decide) (by decide) rfl) (by omega) (wI w 114 1) (h12.I (by decide) (by decide) rfl) (by omega) 30 ) (by decide) (kS sM h14 kc_114) rfl rfl rfl (Nat.le_of_ble_eq_true rfl) (by decide) dX11_tried_43 (fun r19 w18 y17 => ?_)
      show V x 0 0 w18 46 [(0, .ref (gz (xG x) + 114)), (1, .int a1), (2, .int a2)] [.int r19]
      obtain ⟨h20, o21⟩ := y17
      have h22 := Ch.tr h14 h20 (by decide) (by decide)
      refine r_istore_n [(3, .int r19), (0, .ref (gz (xG x) + 114)), (1, .int a1), (2, .int a2)] C dX11_tried_46 (by decide) rfl ?_
      refine r_iload_n 2 C dX11_tried_47 rfl ?_
      refine r_iconst (v := (-1)) C dX11_tried_48 (by decide) ?_
      refine r_icmp_ne 59 C dX11_tried_49 (by decide) (fun c23 => ?_) (fun c23 => ?_)
      · have c23' := i_ne c23
        exfalso; omega
      · have c23' := i_eq c23
        refine r_aload_n 1 C dX11_tried_52 rfl ?_
        refine callVI C cwX11_298_V (ctX11_worth _ _ w18 (sS sM h22) o21  ) (by decide) (kS sM h22 kc_114) rfl rfl rfl (Nat.le_of_ble_eq_true rfl) (by decide) dX11_tried_53 (fun r26 w25 y24 => ?_)
        show V x 0 0 w25 56 [(3, .int r19), (0, .ref (gz (xG x) + 114)), (1, .int a1), (2, .int a2)] [.int r26]
        obtain ⟨h27, o28⟩ := y24
        have h29 := Ch.tr h22 h27 (by decide) (by decide)
        refine r_goto 67 C dX11_tried_56 (by decide) ?_
        refine r_istore [(4, .int r26), (3, .int r19), (0, .ref (gz (xG x) + 114)), (1, .int a1), (2, .int a2)] C dX11_tried_67 (by decide) rfl ?_
        refine r_aload_n 2 C dX11_tried_69 rfl ?_
        refine callVV C cwX11_361_V (ctX11_putBack _ _ w25 (sS sM h29) o28  ) (by decide) (kS sM h29 kc_114) rfl rfl rfl (Nat.le_of_ble_eq_true rfl) (by decide) dX11_tried_70 (fun w31 y30 => ?_)
        show V x 0 0 w31 73 [(4, .int r26), (3, .int r19), (0, .ref (gz (xG x) + 114)), (1, .int a1), (2, .int a2)] []
        obtain ⟨h33, o34⟩ := y30
        have h35 := Ch.tr h29 h33 (by decide) (by decide)
        refine r_iload 0 C dX11_tried_73 rfl ?_
        exact hret _ _ _ _ dX11_tried_75 rfl ⟨h35, o34⟩
    · have c8' := i_ne c8
      refine r_iload_n 2 C dX11_tried_23 rfl ?_
      refine r_i2l C dX11_tried_24 (fun v36 e37 => ?_)
      have v36' := i2l_ok e37
      refine r_lconst (v := 0) C dX11_tried_25 (by decide) ?_
      refine r_lconst (v := 1) C dX11_tried_26 (by decide) ?_
      refine callSI C cwX11_114_S (ctX11_in _ _ w v36 0 1 ) (by decide) rfl rfl (Nat.le_of_ble_eq_true rfl) (by decide) dX11_tried_27 (fun r40 w39 y38 => ?_)
      obtain ⟨rfl, g41⟩ := y38
      show V x 0 0 w 30 [(0, .ref (gz (xG x) + 114)), (1, .int a1), (2, .int a2)] [.int r40]
      refine r_if_ne 36 C dX11_tried_30 (by decide) (fun c42 => ?_) (fun c42 => ?_)
      · have c42' := i_ne c42
        refine r_aload_n 0 C dX11_tried_36 rfl ?_
        refine callVV C cwX11_355_V (ctX11_save _ _ w (sS sM h0) o0  ) (by decide) (kS sM h0 kc_114) rfl rfl rfl (Nat.le_of_ble_eq_true rfl) (by decide) dX11_tried_37 (fun w44 y43 => ?_)
        show V x 0 0 w44 40 [(0, .ref (gz (xG x) + 114)), (1, .int a1), (2, .int a2)] []
        obtain ⟨h46, o47⟩ := y43
        have h48 := Ch.tr h0 h46 (by decide) (by decide)
        refine r_aload_n 0 C dX11_tried_40 rfl ?_
        refine r_bipush (v := 30) C dX11_tried_41 (by decide) ?_
        have b49 := Inv.get o0.1 rt_114_0 (j := 0) (by decide) (by decide)
        have b50 := Inv.get o0.1 rt_114_1 (j := 1) (by decide) (by decide)
        refine callVI C cwX11_358_V (ctX11_follow _ _ w44 (sS sM h48) o47 (wI w 114 0) (h46.I (by decide) (by decide) rfl) (by omega) (wI w 114 1) (h46.I (by decide) (by decide) rfl) (by omega) 30 ) (by decide) (kS sM h48 kc_114) rfl rfl rfl (Nat.le_of_ble_eq_true rfl) (by decide) dX11_tried_43 (fun r53 w52 y51 => ?_)
        show V x 0 0 w52 46 [(0, .ref (gz (xG x) + 114)), (1, .int a1), (2, .int a2)] [.int r53]
        obtain ⟨h54, o55⟩ := y51
        have h56 := Ch.tr h48 h54 (by decide) (by decide)
        refine r_istore_n [(3, .int r53), (0, .ref (gz (xG x) + 114)), (1, .int a1), (2, .int a2)] C dX11_tried_46 (by decide) rfl ?_
        refine r_iload_n 2 C dX11_tried_47 rfl ?_
        refine r_iconst (v := (-1)) C dX11_tried_48 (by decide) ?_
        refine r_icmp_ne 59 C dX11_tried_49 (by decide) (fun c57 => ?_) (fun c57 => ?_)
        · have c57' := i_ne c57
          refine r_aload_n 1 C dX11_tried_59 rfl ?_
          refine r_iload_n 2 C dX11_tried_60 rfl ?_
          refine r_iload_n 3 C dX11_tried_61 rfl ?_
          refine r_iconst (v := 1) C dX11_tried_62 (by decide) ?_
          refine r_iadd C dX11_tried_63 (fun v58 e59 => ?_)
          have v58' := iadd_ok e59 (by omega) (by omega)
          refine callVI C cwX11_289_V (ctX11_headsBy _ _ w52 (sS sM h56) o55 a1 v58 ) (by decide) (kS sM h56 kc_114) rfl rfl rfl (Nat.le_of_ble_eq_true rfl) (by decide) dX11_tried_64 (fun r62 w61 y60 => ?_)
          show V x 0 0 w61 67 [(3, .int r53), (0, .ref (gz (xG x) + 114)), (1, .int a1), (2, .int a2)] [.int r62]
          obtain ⟨h63, o64⟩ := y60
          have h65 := Ch.tr h56 h63 (by decide) (by decide)
          refine r_istore [(4, .int r62), (3, .int r53), (0, .ref (gz (xG x) + 114)), (1, .int a1), (2, .int a2)] C dX11_tried_67 (by decide) rfl ?_
          refine r_aload_n 2 C dX11_tried_69 rfl ?_
          refine callVV C cwX11_361_V (ctX11_putBack _ _ w61 (sS sM h65) o64  ) (by decide) (kS sM h65 kc_114) rfl rfl rfl (Nat.le_of_ble_eq_true rfl) (by decide) dX11_tried_70 (fun w67 y66 => ?_)
          show V x 0 0 w67 73 [(4, .int r62), (3, .int r53), (0, .ref (gz (xG x) + 114)), (1, .int a1), (2, .int a2)] []
          obtain ⟨h69, o70⟩ := y66
          have h71 := Ch.tr h65 h69 (by decide) (by decide)
          refine r_iload 0 C dX11_tried_73 rfl ?_
          exact hret _ _ _ _ dX11_tried_75 rfl ⟨h71, o70⟩
        · have c57' := i_eq c57
          exfalso; omega
      · have c42' := i_eq c42
        refine r_ldc C mw5_239 dX11_tried_33 ?_
        exact hret _ _ _ _ dX11_tried_35 rfl ⟨h0, o0⟩
  · have c7' := i_eq c7
    refine r_ldcw C mw6_112 dX11_tried_14 ?_
    exact hret _ _ _ _ dX11_tried_17 rfl ⟨h0, o0⟩
