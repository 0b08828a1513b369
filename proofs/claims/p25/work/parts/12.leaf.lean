def nX5 (w : Wv) (n L : Nat) : Wv := setX (addK (setI (w) n 2 (-1)) (1503, .inr (0, 500, 0))) n 3 (some (L))
set_option maxHeartbeats 4000000 in
set_option maxRecDepth 100000 in
theorem cnX5 (l : Launch) (G : Gt) (w : Wv) (n L : Nat) (hn : (wK w)[n]? = some (5, .inl fX5)) (hL : (wK w).length = L) : CtV l G yX5_init cX5_init 1 ({ frames := 1, cells := 1, slots := 500, locals := 20 } : Room) [.ref (gz G + n)] w (fun w' => w' = nX5 w n L) := by
  refine enterV (by decide) (Nat.le_of_ble_eq_true rfl) ?_
  intro x el eG C hnm hret
  subst el; subst eG
  show V x 0 0 w 0 [(0, .ref (gz (xG x) + n))] []
  refine r_aload_n 0 C dX5_init_0 rfl ?_
  refine r_objInit C mw1_31 mw1_24 mw1_25 (by decide) (Nat.le_of_ble_eq_true rfl) dX5_init_1 ?_
  refine r_aload_n 0 C dX5_init_4 rfl ?_
  refine r_iconst (v := (-1)) C dX5_init_5 (by decide) ?_
  refine pfX5_9 C hn dX5_init_6 (fun w1 e1 => ?_)
  have l1 := len_setI e1 hL
  have k1 := k_setI e1 hn
  refine r_aload_n 0 C dX5_init_9 rfl ?_
  refine r_sipush (v := 500) C dX5_init_10 (by decide) ?_
  refine r_newI (len := 500) 1503 C ac_int (by decide) (by decide) (by decide) (by decide) (by decide) dX5_init_13 (fun w2 e2 => ?_)
  rw [l1]
  have l2 : (wK w2).length = L + 1 := by rw [len_add e2 l1]
  have k2 := k_add e2 k1
  refine pfX5_15 C hnm k2 dX5_init_15 (fun w3 e3 => ?_)
  have l3 := len_setX e3 l2
  have k3 := k_setX e3 k2
  exact hret _ _ _ dX5_init_18 (by subst e1 e2 e3; rfl)
def nX9 (w : Wv) (n L : Nat) : Wv := setX (addK (setX (addK (setX (addK (setX (addK (setX (addK (setX (addK (setX (addK (setX (addK (w) (1909, .inr (0, 42, 0))) n 9 (some (L))) (1910, .inr (0, 6, 0))) n 10 (some (L + 1))) (1911, .inr (0, 6, 0))) n 11 (some (L + 2))) (1912, .inr (0, 6, 0))) n 12 (some (L + 3))) (1913, .inr (0, 6, 0))) n 13 (some (L + 4))) (1914, .inr (0, 6, 0))) n 14 (some (L + 5))) (1915, .inr (0, 3, 0))) n 15 (some (L + 6))) (1916, .inr (0, 3, 0))) n 16 (some (L + 7))
set_option maxHeartbeats 4000000 in
set_option maxRecDepth 100000 in
theorem cnX9 (l : Launch) (G : Gt) (w : Wv) (n L : Nat) (hn : (wK w)[n]? = some (9, .inl fX9)) (hL : (wK w).length = L) : CtV l G yX9_init cX9_init 1 ({ frames := 1, cells := 8, slots := 78, locals := 20 } : Room) [.ref (gz G + n)] w (fun w' => w' = nX9 w n L) := by
  refine enterV (by decide) (Nat.le_of_ble_eq_true rfl) ?_
  intro x el eG C hnm hret
  subst el; subst eG
  show V x 0 0 w 0 [(0, .ref (gz (xG x) + n))] []
  refine r_aload_n 0 C dX9_init_0 rfl ?_
  refine r_objInit C mw1_60 mw1_24 mw1_25 (by decide) (Nat.le_of_ble_eq_true rfl) dX9_init_1 ?_
  refine r_aload_n 0 C dX9_init_4 rfl ?_
  refine r_bipush (v := 42) C dX9_init_5 (by decide) ?_
  refine r_newI (len := 42) 1909 C ac_int (by decide) (by decide) (by decide) (by decide) (by decide) dX9_init_7 (fun w1 e1 => ?_)
  rw [hL]
  have l1 : (wK w1).length = L + 1 := by rw [len_add e1 hL]
  have k1 := k_add e1 hn
  refine pfX9_9 C hnm k1 dX9_init_9 (fun w2 e2 => ?_)
  have l2 := len_setX e2 l1
  have k2 := k_setX e2 k1
  refine r_aload_n 0 C dX9_init_12 rfl ?_
  refine r_bipush (v := 6) C dX9_init_13 (by decide) ?_
  refine r_newI (len := 6) 1910 C ac_int (by decide) (by decide) (by decide) (by decide) (by decide) dX9_init_15 (fun w3 e3 => ?_)
  rw [l2]
  have l3 : (wK w3).length = L + 2 := by rw [len_add e3 l2]
  have k3 := k_add e3 k2
  refine pfX9_15 C hnm k3 dX9_init_17 (fun w4 e4 => ?_)
  have l4 := len_setX e4 l3
  have k4 := k_setX e4 k3
  refine r_aload_n 0 C dX9_init_20 rfl ?_
  refine r_bipush (v := 6) C dX9_init_21 (by decide) ?_
  refine r_newI (len := 6) 1911 C ac_int (by decide) (by decide) (by decide) (by decide) (by decide) dX9_init_23 (fun w5 e5 => ?_)
  rw [l4]
  have l5 : (wK w5).length = L + 3 := by rw [len_add e5 l4]
  have k5 := k_add e5 k4
  refine pfX9_18 C hnm k5 dX9_init_25 (fun w6 e6 => ?_)
  have l6 := len_setX e6 l5
  have k6 := k_setX e6 k5
  refine r_aload_n 0 C dX9_init_28 rfl ?_
  refine r_bipush (v := 6) C dX9_init_29 (by decide) ?_
  refine r_newI (len := 6) 1912 C ac_int (by decide) (by decide) (by decide) (by decide) (by decide) dX9_init_31 (fun w7 e7 => ?_)
  rw [l6]
  have l7 : (wK w7).length = L + 4 := by rw [len_add e7 l6]
  have k7 := k_add e7 k6
  refine pfX9_21 C hnm k7 dX9_init_33 (fun w8 e8 => ?_)
  have l8 := len_setX e8 l7
  have k8 := k_setX e8 k7
  refine r_aload_n 0 C dX9_init_36 rfl ?_
  refine r_bipush (v := 6) C dX9_init_37 (by decide) ?_
  refine r_newI (len := 6) 1913 C ac_int (by decide) (by decide) (by decide) (by decide) (by decide) dX9_init_39 (fun w9 e9 => ?_)
  rw [l8]
  have l9 : (wK w9).length = L + 5 := by rw [len_add e9 l8]
  have k9 := k_add e9 k8
  refine pfX9_24 C hnm k9 dX9_init_41 (fun w10 e10 => ?_)
  have l10 := len_setX e10 l9
  have k10 := k_setX e10 k9
  refine r_aload_n 0 C dX9_init_44 rfl ?_
  refine r_bipush (v := 6) C dX9_init_45 (by decide) ?_
  refine r_newI (len := 6) 1914 C ac_int (by decide) (by decide) (by decide) (by decide) (by decide) dX9_init_47 (fun w11 e11 => ?_)
  rw [l10]
  have l11 : (wK w11).length = L + 6 := by rw [len_add e11 l10]
  have k11 := k_add e11 k10
  refine pfX9_27 C hnm k11 dX9_init_49 (fun w12 e12 => ?_)
  have l12 := len_setX e12 l11
  have k12 := k_setX e12 k11
  refine r_aload_n 0 C dX9_init_52 rfl ?_
  refine r_iconst (v := 3) C dX9_init_53 (by decide) ?_
  refine r_newI (len := 3) 1915 C ac_int (by decide) (by decide) (by decide) (by decide) (by decide) dX9_init_54 (fun w13 e13 => ?_)
  rw [l12]
  have l13 : (wK w13).length = L + 7 := by rw [len_add e13 l12]
  have k13 := k_add e13 k12
  refine pfX9_30 C hnm k13 dX9_init_56 (fun w14 e14 => ?_)
  have l14 := len_setX e14 l13
  have k14 := k_setX e14 k13
  refine r_aload_n 0 C dX9_init_59 rfl ?_
  refine r_iconst (v := 3) C dX9_init_60 (by decide) ?_
  refine r_newI (len := 3) 1916 C ac_int (by decide) (by decide) (by decide) (by decide) (by decide) dX9_init_61 (fun w15 e15 => ?_)
  rw [l14]
  have l15 : (wK w15).length = L + 8 := by rw [len_add e15 l14]
  have k15 := k_add e15 k14
  refine pfX9_33 C hnm k15 dX9_init_63 (fun w16 e16 => ?_)
  have l16 := len_setX e16 l15
  have k16 := k_setX e16 k15
  exact hret _ _ _ dX9_init_66 (by subst e1 e2 e3 e4 e5 e6 e7 e8 e9 e10 e11 e12 e13 e14 e15 e16; rfl)
def nX1 (w : Wv) (n L : Nat) : Wv := setX (addK (setX (addK (setX (addK (setX (addK (setX (addK (setX (addK (w) (1101, .inr (0, 42, 0))) n 1 (some (L))) (1104, .inr (0, 42, 0))) n 4 (some (L + 1))) (1105, .inr (0, 168, 0))) n 5 (some (L + 2))) (1106, .inr (0, 1764, 0))) n 6 (some (L + 3))) (1107, .inr (1, 42, 0))) n 7 (some (L + 4))) (1108, .inr (0, 42, 0))) n 8 (some (L + 5))
set_option maxHeartbeats 4000000 in
set_option maxRecDepth 100000 in
theorem cnX1 (l : Launch) (G : Gt) (w : Wv) (n L : Nat) (hn : (wK w)[n]? = some (1, .inl fX1)) (hL : (wK w).length = L) : CtV l G yX1_init cX1_init 1 ({ frames := 1, cells := 6, slots := 2100, locals := 20 } : Room) [.ref (gz G + n)] w (fun w' => w' = nX1 w n L) := by
  refine enterV (by decide) (Nat.le_of_ble_eq_true rfl) ?_
  intro x el eG C hnm hret
  subst el; subst eG
  show V x 0 0 w 0 [(0, .ref (gz (xG x) + n))] []
  refine r_aload_n 0 C dX1_init_0 rfl ?_
  refine r_objInit C mw1_153 mw1_24 mw1_25 (by decide) (Nat.le_of_ble_eq_true rfl) dX1_init_1 ?_
  refine r_aload_n 0 C dX1_init_4 rfl ?_
  refine r_bipush (v := 42) C dX1_init_5 (by decide) ?_
  refine r_newI (len := 42) 1101 C ac_int (by decide) (by decide) (by decide) (by decide) (by decide) dX1_init_7 (fun w1 e1 => ?_)
  rw [hL]
  have l1 : (wK w1).length = L + 1 := by rw [len_add e1 hL]
  have k1 := k_add e1 hn
  refine pfX1_9 C hnm k1 dX1_init_9 (fun w2 e2 => ?_)
  have l2 := len_setX e2 l1
  have k2 := k_setX e2 k1
  refine r_aload_n 0 C dX1_init_12 rfl ?_
  refine r_bipush (v := 42) C dX1_init_13 (by decide) ?_
  refine r_newI (len := 42) 1104 C ac_int (by decide) (by decide) (by decide) (by decide) (by decide) dX1_init_15 (fun w3 e3 => ?_)
  rw [l2]
  have l3 : (wK w3).length = L + 2 := by rw [len_add e3 l2]
  have k3 := k_add e3 k2
  refine pfX1_15 C hnm k3 dX1_init_17 (fun w4 e4 => ?_)
  have l4 := len_setX e4 l3
  have k4 := k_setX e4 k3
  refine r_aload_n 0 C dX1_init_20 rfl ?_
  refine r_sipush (v := 168) C dX1_init_21 (by decide) ?_
  refine r_newI (len := 168) 1105 C ac_int (by decide) (by decide) (by decide) (by decide) (by decide) dX1_init_24 (fun w5 e5 => ?_)
  rw [l4]
  have l5 : (wK w5).length = L + 3 := by rw [len_add e5 l4]
  have k5 := k_add e5 k4
  refine pfX1_18 C hnm k5 dX1_init_26 (fun w6 e6 => ?_)
  have l6 := len_setX e6 l5
  have k6 := k_setX e6 k5
  refine r_aload_n 0 C dX1_init_29 rfl ?_
  refine r_sipush (v := 1764) C dX1_init_30 (by decide) ?_
  refine r_newI (len := 1764) 1106 C ac_int (by decide) (by decide) (by decide) (by decide) (by decide) dX1_init_33 (fun w7 e7 => ?_)
  rw [l6]
  have l7 : (wK w7).length = L + 4 := by rw [len_add e7 l6]
  have k7 := k_add e7 k6
  refine pfX1_21 C hnm k7 dX1_init_35 (fun w8 e8 => ?_)
  have l8 := len_setX e8 l7
  have k8 := k_setX e8 k7
  refine r_aload_n 0 C dX1_init_38 rfl ?_
  refine r_bipush (v := 42) C dX1_init_39 (by decide) ?_
  refine r_newZ (len := 42) 1107 C ac_boolean (by decide) (by decide) (by decide) (by decide) (by decide) dX1_init_41 (fun w9 e9 => ?_)
  rw [l8]
  have l9 : (wK w9).length = L + 5 := by rw [len_add e9 l8]
  have k9 := k_add e9 k8
  refine pfX1_24 C hnm k9 dX1_init_43 (fun w10 e10 => ?_)
  have l10 := len_setX e10 l9
  have k10 := k_setX e10 k9
  refine r_aload_n 0 C dX1_init_46 rfl ?_
  refine r_bipush (v := 42) C dX1_init_47 (by decide) ?_
  refine r_newI (len := 42) 1108 C ac_int (by decide) (by decide) (by decide) (by decide) (by decide) dX1_init_49 (fun w11 e11 => ?_)
  rw [l10]
  have l11 : (wK w11).length = L + 6 := by rw [len_add e11 l10]
  have k11 := k_add e11 k10
  refine pfX1_28 C hnm k11 dX1_init_51 (fun w12 e12 => ?_)
  have l12 := len_setX e12 l11
  have k12 := k_setX e12 k11
  exact hret _ _ _ dX1_init_54 (by subst e1 e2 e3 e4 e5 e6 e7 e8 e9 e10 e11 e12; rfl)
def nX6 (w : Wv) (n L : Nat) (t : Nat) (g : Nat) : Wv := setX (setX (setX (addK (setX (addK (w) (1602, .inr (0, 6, 0))) n 2 (some (L))) (1603, .inr (0, 6, 0))) n 3 (some (L + 1))) n 4 (some (t))) n 5 (some (g))
set_option maxHeartbeats 4000000 in
set_option maxRecDepth 100000 in
theorem cnX6 (l : Launch) (G : Gt) (w : Wv) (n L : Nat) (t : Nat) (g : Nat) (hn : (wK w)[n]? = some (6, .inl fX6)) (hL : (wK w).length = L) : CtV l G yX6_init cX6_init 3 ({ frames := 1, cells := 2, slots := 12, locals := 20 } : Room) [.ref (gz G + n), .ref (gz G + t), .ref (gz G + g)] w (fun w' => w' = nX6 w n L t g) := by
  refine enterV (by decide) (Nat.le_of_ble_eq_true rfl) ?_
  intro x el eG C hnm hret
  subst el; subst eG
  show V x 0 0 w 0 [(0, .ref (gz (xG x) + n)), (1, .ref (gz (xG x) + t)), (2, .ref (gz (xG x) + g))] []
  refine r_aload_n 0 C dX6_init_0 rfl ?_
  refine r_objInit C mw1_193 mw1_24 mw1_25 (by decide) (Nat.le_of_ble_eq_true rfl) dX6_init_1 ?_
  refine r_aload_n 0 C dX6_init_4 rfl ?_
  refine r_bipush (v := 6) C dX6_init_5 (by decide) ?_
  refine r_newI (len := 6) 1602 C ac_int (by decide) (by decide) (by decide) (by decide) (by decide) dX6_init_7 (fun w1 e1 => ?_)
  rw [hL]
  have l1 : (wK w1).length = L + 1 := by rw [len_add e1 hL]
  have k1 := k_add e1 hn
  refine pfX6_9 C hnm k1 dX6_init_9 (fun w2 e2 => ?_)
  have l2 := len_setX e2 l1
  have k2 := k_setX e2 k1
  refine r_aload_n 0 C dX6_init_12 rfl ?_
  refine r_bipush (v := 6) C dX6_init_13 (by decide) ?_
  refine r_newI (len := 6) 1603 C ac_int (by decide) (by decide) (by decide) (by decide) (by decide) dX6_init_15 (fun w3 e3 => ?_)
  rw [l2]
  have l3 : (wK w3).length = L + 2 := by rw [len_add e3 l2]
  have k3 := k_add e3 k2
  refine pfX6_15 C hnm k3 dX6_init_17 (fun w4 e4 => ?_)
  have l4 := len_setX e4 l3
  have k4 := k_setX e4 k3
  refine r_aload_n 0 C dX6_init_20 rfl ?_
  refine r_aload_n 1 C dX6_init_21 rfl ?_
  refine pfX6_18 C hnm k4 dX6_init_22 (fun w5 e5 => ?_)
  have l5 := len_setX e5 l4
  have k5 := k_setX e5 k4
  refine r_aload_n 0 C dX6_init_25 rfl ?_
  refine r_aload_n 2 C dX6_init_26 rfl ?_
  refine pfX6_22 C hnm k5 dX6_init_27 (fun w6 e6 => ?_)
  have l6 := len_setX e6 l5
  have k6 := k_setX e6 k5
  exact hret _ _ _ dX6_init_30 (by subst e1 e2 e3 e4 e5 e6; rfl)
def nX4 (w : Wv) (n L : Nat) : Wv := setX (addK (setX (addK (w) (1401, .inr (0, 30, 0))) n 1 (some (L))) (1402, .inr (0, 30, 0))) n 2 (some (L + 1))
set_option maxHeartbeats 4000000 in
set_option maxRecDepth 100000 in
theorem cnX4 (l : Launch) (G : Gt) (w : Wv) (n L : Nat) (hn : (wK w)[n]? = some (4, .inl fX4)) (hL : (wK w).length = L) : CtV l G yX4_init cX4_init 1 ({ frames := 1, cells := 2, slots := 60, locals := 20 } : Room) [.ref (gz G + n)] w (fun w' => w' = nX4 w n L) := by
  refine enterV (by decide) (Nat.le_of_ble_eq_true rfl) ?_
  intro x el eG C hnm hret
  subst el; subst eG
  show V x 0 0 w 0 [(0, .ref (gz (xG x) + n))] []
  refine r_aload_n 0 C dX4_init_0 rfl ?_
  refine r_objInit C mw1_225 mw1_24 mw1_25 (by decide) (Nat.le_of_ble_eq_true rfl) dX4_init_1 ?_
  refine r_aload_n 0 C dX4_init_4 rfl ?_
  refine r_bipush (v := 30) C dX4_init_5 (by decide) ?_
  refine r_newI (len := 30) 1401 C ac_int (by decide) (by decide) (by decide) (by decide) (by decide) dX4_init_7 (fun w1 e1 => ?_)
  rw [hL]
  have l1 : (wK w1).length = L + 1 := by rw [len_add e1 hL]
  have k1 := k_add e1 hn
  refine pfX4_9 C hnm k1 dX4_init_9 (fun w2 e2 => ?_)
  have l2 := len_setX e2 l1
  have k2 := k_setX e2 k1
  refine r_aload_n 0 C dX4_init_12 rfl ?_
  refine r_bipush (v := 30) C dX4_init_13 (by decide) ?_
  refine r_newI (len := 30) 1402 C ac_int (by decide) (by decide) (by decide) (by decide) (by decide) dX4_init_15 (fun w3 e3 => ?_)
  rw [l2]
  have l3 : (wK w3).length = L + 2 := by rw [len_add e3 l2]
  have k3 := k_add e3 k2
  refine pfX4_15 C hnm k3 dX4_init_17 (fun w4 e4 => ?_)
  have l4 := len_setX e4 l3
  have k4 := k_setX e4 k3
  exact hret _ _ _ dX4_init_20 (by subst e1 e2 e3 e4; rfl)
def nX7 (w : Wv) (n L : Nat) : Wv := setX (addK (setX (addK (setX (addK (w) (1701, .inr (0, 10, 0))) n 1 (some (L))) (1702, .inr (0, 10, 0))) n 2 (some (L + 1))) (1703, .inr (0, 10, 0))) n 3 (some (L + 2))
set_option maxHeartbeats 4000000 in
set_option maxRecDepth 100000 in
theorem cnX7 (l : Launch) (G : Gt) (w : Wv) (n L : Nat) (hn : (wK w)[n]? = some (7, .inl fX7)) (hL : (wK w).length = L) : CtV l G yX7_init cX7_init 1 ({ frames := 1, cells := 3, slots := 30, locals := 20 } : Room) [.ref (gz G + n)] w (fun w' => w' = nX7 w n L) := by
  refine enterV (by decide) (Nat.le_of_ble_eq_true rfl) ?_
  intro x el eG C hnm hret
  subst el; subst eG
  show V x 0 0 w 0 [(0, .ref (gz (xG x) + n))] []
  refine r_aload_n 0 C dX7_init_0 rfl ?_
  refine r_objInit C mw2_2 mw1_24 mw1_25 (by decide) (Nat.le_of_ble_eq_true rfl) dX7_init_1 ?_
  refine r_aload_n 0 C dX7_init_4 rfl ?_
  refine r_bipush (v := 10) C dX7_init_5 (by decide) ?_
  refine r_newI (len := 10) 1701 C ac_int (by decide) (by decide) (by decide) (by decide) (by decide) dX7_init_7 (fun w1 e1 => ?_)
  rw [hL]
  have l1 : (wK w1).length = L + 1 := by rw [len_add e1 hL]
  have k1 := k_add e1 hn
  refine pfX7_9 C hnm k1 dX7_init_9 (fun w2 e2 => ?_)
  have l2 := len_setX e2 l1
  have k2 := k_setX e2 k1
  refine r_aload_n 0 C dX7_init_12 rfl ?_
  refine r_bipush (v := 10) C dX7_init_13 (by decide) ?_
  refine r_newI (len := 10) 1702 C ac_int (by decide) (by decide) (by decide) (by decide) (by decide) dX7_init_15 (fun w3 e3 => ?_)
  rw [l2]
  have l3 : (wK w3).length = L + 2 := by rw [len_add e3 l2]
  have k3 := k_add e3 k2
  refine pfX7_15 C hnm k3 dX7_init_17 (fun w4 e4 => ?_)
  have l4 := len_setX e4 l3
  have k4 := k_setX e4 k3
  refine r_aload_n 0 C dX7_init_20 rfl ?_
  refine r_bipush (v := 10) C dX7_init_21 (by decide) ?_
  refine r_newI (len := 10) 1703 C ac_int (by decide) (by decide) (by decide) (by decide) (by decide) dX7_init_23 (fun w5 e5 => ?_)
  rw [l4]
  have l5 : (wK w5).length = L + 3 := by rw [len_add e5 l4]
  have k5 := k_add e5 k4
  refine pfX7_18 C hnm k5 dX7_init_25 (fun w6 e6 => ?_)
  have l6 := len_setX e6 l5
  have k6 := k_setX e6 k5
  exact hret _ _ _ dX7_init_28 (by subst e1 e2 e3 e4 e5 e6; rfl)
def nX3 (w : Wv) (n L : Nat) : Wv := setX (addK (setX (addK (setX (addK (w) (1300, .inr (2, 1024, 1))) n 0 (some (L))) (1301, .inr (2, 1024, 1))) n 1 (some (L + 1))) (1302, .inr (0, 1024, 0))) n 2 (some (L + 2))
set_option maxHeartbeats 4000000 in
set_option maxRecDepth 100000 in
theorem cnX3 (l : Launch) (G : Gt) (w : Wv) (n L : Nat) (hn : (wK w)[n]? = some (3, .inl fX3)) (hL : (wK w).length = L) : CtV l G yX3_init cX3_init 1 ({ frames := 1, cells := 3, slots := 3072, locals := 20 } : Room) [.ref (gz G + n)] w (fun w' => w' = nX3 w n L) := by
  refine enterV (by decide) (Nat.le_of_ble_eq_true rfl) ?_
  intro x el eG C hnm hret
  subst el; subst eG
  show V x 0 0 w 0 [(0, .ref (gz (xG x) + n))] []
  refine r_aload_n 0 C dX3_init_0 rfl ?_
  refine r_objInit C mw2_22 mw1_24 mw1_25 (by decide) (Nat.le_of_ble_eq_true rfl) dX3_init_1 ?_
  refine r_aload_n 0 C dX3_init_4 rfl ?_
  refine r_sipush (v := 1024) C dX3_init_5 (by decide) ?_
  refine r_newL (len := 1024) 1300 C ac_long (by decide) (by decide) (by decide) (by decide) (by decide) dX3_init_8 (fun w1 e1 => ?_)
  rw [hL]
  have l1 : (wK w1).length = L + 1 := by rw [len_add e1 hL]
  have k1 := k_add e1 hn
  refine pfX3_11 C hnm k1 dX3_init_10 (fun w2 e2 => ?_)
  have l2 := len_setX e2 l1
  have k2 := k_setX e2 k1
  refine r_aload_n 0 C dX3_init_13 rfl ?_
  refine r_sipush (v := 1024) C dX3_init_14 (by decide) ?_
  refine r_newL (len := 1024) 1301 C ac_long (by decide) (by decide) (by decide) (by decide) (by decide) dX3_init_17 (fun w3 e3 => ?_)
  rw [l2]
  have l3 : (wK w3).length = L + 2 := by rw [len_add e3 l2]
  have k3 := k_add e3 k2
  refine pfX3_15 C hnm k3 dX3_init_19 (fun w4 e4 => ?_)
  have l4 := len_setX e4 l3
  have k4 := k_setX e4 k3
  refine r_aload_n 0 C dX3_init_22 rfl ?_
  refine r_sipush (v := 1024) C dX3_init_23 (by decide) ?_
  refine r_newI (len := 1024) 1302 C ac_int (by decide) (by decide) (by decide) (by decide) (by decide) dX3_init_26 (fun w5 e5 => ?_)
  rw [l4]
  have l5 : (wK w5).length = L + 3 := by rw [len_add e5 l4]
  have k5 := k_add e5 k4
  refine pfX3_18 C hnm k5 dX3_init_28 (fun w6 e6 => ?_)
  have l6 := len_setX e6 l5
  have k6 := k_setX e6 k5
  exact hret _ _ _ dX3_init_31 (by subst e1 e2 e3 e4 e5 e6; rfl)
def nX11 (w : Wv) (n L : Nat) : Wv := setI (setX (addK (setX (addK (setX (addK (setX (addK (setX (addK (setX (addK (setX (addK (setX (addK (setX (addK (setX (addK (setX (addK (setX (addK (setX (addK (setX (addK (setX (addK (setX (addK (setX (addK (setX (addK (setX (addK (setI (setX (addK (setX (addK (setX (addK (setX (addK (setI (setI (setX (addK (setX (addK (setX (addK (setX (addK (setX (addK (setX (addK (setX (addK (w) (2102, .inr (0, 42, 0))) n 2 (some (L))) (2104, .inr (0, 6, 0))) n 4 (some (L + 1))) (2105, .inr (0, 6, 0))) n 5 (some (L + 2))) (2106, .inr (0, 6, 0))) n 6 (some (L + 3))) (2107, .inr (0, 6, 0))) n 7 (some (L + 4))) (2109, .inr (0, 3, 0))) n 9 (some (L + 5))) (2110, .inr (0, 3, 0))) n 10 (some (L + 6))) n 11 1) n 12 1) (2114, .inr (0, 6, 0))) n 14 (some (L + 7))) (2115, .inr (0, 6, 0))) n 15 (some (L + 8))) (2116, .inr (0, 6, 0))) n 16 (some (L + 9))) (2119, .inr (0, 500, 0))) n 19 (some (L + 10))) n 21 (-1)) (2129, .inr (0, 42, 0))) n 29 (some (L + 11))) (2132, .inr (0, 6, 0))) n 32 (some (L + 12))) (2133, .inr (0, 6, 0))) n 33 (some (L + 13))) (2134, .inr (0, 6, 0))) n 34 (some (L + 14))) (2135, .inr (0, 6, 0))) n 35 (some (L + 15))) (2136, .inr (0, 6, 0))) n 36 (some (L + 16))) (2138, .inr (0, 3, 0))) n 38 (some (L + 17))) (2139, .inr (0, 3, 0))) n 39 (some (L + 18))) (2144, .inr (0, 1764, 0))) n 44 (some (L + 19))) (2146, .inr (0, 6, 0))) n 46 (some (L + 20))) (2147, .inr (0, 6, 0))) n 47 (some (L + 21))) (2148, .inr (0, 6, 0))) n 48 (some (L + 22))) (2150, .inr (0, 30, 0))) n 50 (some (L + 23))) (2151, .inr (0, 30, 0))) n 51 (some (L + 24))) (2153, .inr (0, 10, 0))) n 53 (some (L + 25))) (2154, .inr (0, 10, 0))) n 54 (some (L + 26))) (2155, .inr (0, 10, 0))) n 55 (some (L + 27))) (2156, .inr (0, 140, 0))) n 56 (some (L + 28))) (2157, .inr (1, 2, 0))) n 57 (some (L + 29))) n 0 0
set_option maxHeartbeats 4000000 in
set_option maxRecDepth 100000 in
theorem cnX11 (l : Launch) (G : Gt) (w : Wv) (n L : Nat) (hn : (wK w)[n]? = some (11, .inl fX11)) (hL : (wK w).length = L) : CtV l G yX11_init cX11_init 1 ({ frames := 1, cells := 30, slots := 2682, locals := 20 } : Room) [.ref (gz G + n)] w (fun w' => w' = nX11 w n L) := by
  refine enterV (by decide) (Nat.le_of_ble_eq_true rfl) ?_
  intro x el eG C hnm hret
  subst el; subst eG
  show V x 0 0 w 0 [(0, .ref (gz (xG x) + n))] []
  refine r_aload_n 0 C dX11_init_0 rfl ?_
  refine r_objInit C mw5_55 mw1_24 mw1_25 (by decide) (Nat.le_of_ble_eq_true rfl) dX11_init_1 ?_
  refine r_aload_n 0 C dX11_init_4 rfl ?_
  refine r_bipush (v := 42) C dX11_init_5 (by decide) ?_
  refine r_newI (len := 42) 2102 C ac_int (by decide) (by decide) (by decide) (by decide) (by decide) dX11_init_7 (fun w1 e1 => ?_)
  rw [hL]
  have l1 : (wK w1).length = L + 1 := by rw [len_add e1 hL]
  have k1 := k_add e1 hn
  refine pfX11_7 C hnm k1 dX11_init_9 (fun w2 e2 => ?_)
  have l2 := len_setX e2 l1
  have k2 := k_setX e2 k1
  refine r_aload_n 0 C dX11_init_12 rfl ?_
  refine r_bipush (v := 6) C dX11_init_13 (by decide) ?_
  refine r_newI (len := 6) 2104 C ac_int (by decide) (by decide) (by decide) (by decide) (by decide) dX11_init_15 (fun w3 e3 => ?_)
  rw [l2]
  have l3 : (wK w3).length = L + 2 := by rw [len_add e3 l2]
  have k3 := k_add e3 k2
  refine pfX11_13 C hnm k3 dX11_init_17 (fun w4 e4 => ?_)
  have l4 := len_setX e4 l3
  have k4 := k_setX e4 k3
  refine r_aload_n 0 C dX11_init_20 rfl ?_
  refine r_bipush (v := 6) C dX11_init_21 (by decide) ?_
  refine r_newI (len := 6) 2105 C ac_int (by decide) (by decide) (by decide) (by decide) (by decide) dX11_init_23 (fun w5 e5 => ?_)
  rw [l4]
  have l5 : (wK w5).length = L + 3 := by rw [len_add e5 l4]
  have k5 := k_add e5 k4
  refine pfX11_16 C hnm k5 dX11_init_25 (fun w6 e6 => ?_)
  have l6 := len_setX e6 l5
  have k6 := k_setX e6 k5
  refine r_aload_n 0 C dX11_init_28 rfl ?_
  refine r_bipush (v := 6) C dX11_init_29 (by decide) ?_
  refine r_newI (len := 6) 2106 C ac_int (by decide) (by decide) (by decide) (by decide) (by decide) dX11_init_31 (fun w7 e7 => ?_)
  rw [l6]
  have l7 : (wK w7).length = L + 4 := by rw [len_add e7 l6]
  have k7 := k_add e7 k6
  refine pfX11_19 C hnm k7 dX11_init_33 (fun w8 e8 => ?_)
  have l8 := len_setX e8 l7
  have k8 := k_setX e8 k7
  refine r_aload_n 0 C dX11_init_36 rfl ?_
  refine r_bipush (v := 6) C dX11_init_37 (by decide) ?_
  refine r_newI (len := 6) 2107 C ac_int (by decide) (by decide) (by decide) (by decide) (by decide) dX11_init_39 (fun w9 e9 => ?_)
  rw [l8]
  have l9 : (wK w9).length = L + 5 := by rw [len_add e9 l8]
  have k9 := k_add e9 k8
  refine pfX11_22 C hnm k9 dX11_init_41 (fun w10 e10 => ?_)
  have l10 := len_setX e10 l9
  have k10 := k_setX e10 k9
  refine r_aload_n 0 C dX11_init_44 rfl ?_
  refine r_iconst (v := 3) C dX11_init_45 (by decide) ?_
  refine r_newI (len := 3) 2109 C ac_int (by decide) (by decide) (by decide) (by decide) (by decide) dX11_init_46 (fun w11 e11 => ?_)
  rw [l10]
  have l11 : (wK w11).length = L + 6 := by rw [len_add e11 l10]
  have k11 := k_add e11 k10
  refine pfX11_25 C hnm k11 dX11_init_48 (fun w12 e12 => ?_)
  have l12 := len_setX e12 l11
  have k12 := k_setX e12 k11
  refine r_aload_n 0 C dX11_init_51 rfl ?_
  refine r_iconst (v := 3) C dX11_init_52 (by decide) ?_
  refine r_newI (len := 3) 2110 C ac_int (by decide) (by decide) (by decide) (by decide) (by decide) dX11_init_53 (fun w13 e13 => ?_)
  rw [l12]
  have l13 : (wK w13).length = L + 7 := by rw [len_add e13 l12]
  have k13 := k_add e13 k12
  refine pfX11_28 C hnm k13 dX11_init_55 (fun w14 e14 => ?_)
  have l14 := len_setX e14 l13
  have k14 := k_setX e14 k13
  refine r_aload_n 0 C dX11_init_58 rfl ?_
  refine r_iconst (v := 1) C dX11_init_59 (by decide) ?_
  refine pfX11_31 C k14 dX11_init_60 (fun w15 e15 => ?_)
  have l15 := len_setI e15 l14
  have k15 := k_setI e15 k14
  refine r_aload_n 0 C dX11_init_63 rfl ?_
  refine r_iconst (v := 1) C dX11_init_64 (by decide) ?_
  refine pfX11_35 C k15 dX11_init_65 (fun w16 e16 => ?_)
  have l16 := len_setI e16 l15
  have k16 := k_setI e16 k15
  refine r_aload_n 0 C dX11_init_68 rfl ?_
  refine r_bipush (v := 6) C dX11_init_69 (by decide) ?_
  refine r_newI (len := 6) 2114 C ac_int (by decide) (by decide) (by decide) (by decide) (by decide) dX11_init_71 (fun w17 e17 => ?_)
  rw [l16]
  have l17 : (wK w17).length = L + 8 := by rw [len_add e17 l16]
  have k17 := k_add e17 k16
  refine pfX11_38 C hnm k17 dX11_init_73 (fun w18 e18 => ?_)
  have l18 := len_setX e18 l17
  have k18 := k_setX e18 k17
  refine r_aload_n 0 C dX11_init_76 rfl ?_
  refine r_bipush (v := 6) C dX11_init_77 (by decide) ?_
  refine r_newI (len := 6) 2115 C ac_int (by decide) (by decide) (by decide) (by decide) (by decide) dX11_init_79 (fun w19 e19 => ?_)
  rw [l18]
  have l19 : (wK w19).length = L + 9 := by rw [len_add e19 l18]
  have k19 := k_add e19 k18
  refine pfX11_41 C hnm k19 dX11_init_81 (fun w20 e20 => ?_)
  have l20 := len_setX e20 l19
  have k20 := k_setX e20 k19
  refine r_aload_n 0 C dX11_init_84 rfl ?_
  refine r_bipush (v := 6) C dX11_init_85 (by decide) ?_
  refine r_newI (len := 6) 2116 C ac_int (by decide) (by decide) (by decide) (by decide) (by decide) dX11_init_87 (fun w21 e21 => ?_)
  rw [l20]
  have l21 : (wK w21).length = L + 10 := by rw [len_add e21 l20]
  have k21 := k_add e21 k20
  refine pfX11_44 C hnm k21 dX11_init_89 (fun w22 e22 => ?_)
  have l22 := len_setX e22 l21
  have k22 := k_setX e22 k21
  refine r_aload_n 0 C dX11_init_92 rfl ?_
  refine r_sipush (v := 500) C dX11_init_93 (by decide) ?_
  refine r_newI (len := 500) 2119 C ac_int (by decide) (by decide) (by decide) (by decide) (by decide) dX11_init_96 (fun w23 e23 => ?_)
  rw [l22]
  have l23 : (wK w23).length = L + 11 := by rw [len_add e23 l22]
  have k23 := k_add e23 k22
  refine pfX11_47 C hnm k23 dX11_init_98 (fun w24 e24 => ?_)
  have l24 := len_setX e24 l23
  have k24 := k_setX e24 k23
  refine r_aload_n 0 C dX11_init_101 rfl ?_
  refine r_iconst (v := (-1)) C dX11_init_102 (by decide) ?_
  refine pfX11_50 C k24 dX11_init_103 (fun w25 e25 => ?_)
  have l25 := len_setI e25 l24
  have k25 := k_setI e25 k24
  refine r_aload_n 0 C dX11_init_106 rfl ?_
  refine r_bipush (v := 42) C dX11_init_107 (by decide) ?_
  refine r_newI (len := 42) 2129 C ac_int (by decide) (by decide) (by decide) (by decide) (by decide) dX11_init_109 (fun w26 e26 => ?_)
  rw [l25]
  have l26 : (wK w26).length = L + 12 := by rw [len_add e26 l25]
  have k26 := k_add e26 k25
  refine pfX11_53 C hnm k26 dX11_init_111 (fun w27 e27 => ?_)
  have l27 := len_setX e27 l26
  have k27 := k_setX e27 k26
  refine r_aload_n 0 C dX11_init_114 rfl ?_
  refine r_bipush (v := 6) C dX11_init_115 (by decide) ?_
  refine r_newI (len := 6) 2132 C ac_int (by decide) (by decide) (by decide) (by decide) (by decide) dX11_init_117 (fun w28 e28 => ?_)
  rw [l27]
  have l28 : (wK w28).length = L + 13 := by rw [len_add e28 l27]
  have k28 := k_add e28 k27
  refine pfX11_56 C hnm k28 dX11_init_119 (fun w29 e29 => ?_)
  have l29 := len_setX e29 l28
  have k29 := k_setX e29 k28
  refine r_aload_n 0 C dX11_init_122 rfl ?_
  refine r_bipush (v := 6) C dX11_init_123 (by decide) ?_
  refine r_newI (len := 6) 2133 C ac_int (by decide) (by decide) (by decide) (by decide) (by decide) dX11_init_125 (fun w30 e30 => ?_)
  rw [l29]
  have l30 : (wK w30).length = L + 14 := by rw [len_add e30 l29]
  have k30 := k_add e30 k29
  refine pfX11_59 C hnm k30 dX11_init_127 (fun w31 e31 => ?_)
  have l31 := len_setX e31 l30
  have k31 := k_setX e31 k30
  refine r_aload_n 0 C dX11_init_130 rfl ?_
  refine r_bipush (v := 6) C dX11_init_131 (by decide) ?_
  refine r_newI (len := 6) 2134 C ac_int (by decide) (by decide) (by decide) (by decide) (by decide) dX11_init_133 (fun w32 e32 => ?_)
  rw [l31]
  have l32 : (wK w32).length = L + 15 := by rw [len_add e32 l31]
  have k32 := k_add e32 k31
  refine pfX11_62 C hnm k32 dX11_init_135 (fun w33 e33 => ?_)
  have l33 := len_setX e33 l32
  have k33 := k_setX e33 k32
  refine r_aload_n 0 C dX11_init_138 rfl ?_
  refine r_bipush (v := 6) C dX11_init_139 (by decide) ?_
  refine r_newI (len := 6) 2135 C ac_int (by decide) (by decide) (by decide) (by decide) (by decide) dX11_init_141 (fun w34 e34 => ?_)
  rw [l33]
  have l34 : (wK w34).length = L + 16 := by rw [len_add e34 l33]
  have k34 := k_add e34 k33
  refine pfX11_65 C hnm k34 dX11_init_143 (fun w35 e35 => ?_)
  have l35 := len_setX e35 l34
  have k35 := k_setX e35 k34
  refine r_aload_n 0 C dX11_init_146 rfl ?_
  refine r_bipush (v := 6) C dX11_init_147 (by decide) ?_
  refine r_newI (len := 6) 2136 C ac_int (by decide) (by decide) (by decide) (by decide) (by decide) dX11_init_149 (fun w36 e36 => ?_)
  rw [l35]
  have l36 : (wK w36).length = L + 17 := by rw [len_add e36 l35]
  have k36 := k_add e36 k35
  refine pfX11_68 C hnm k36 dX11_init_151 (fun w37 e37 => ?_)
  have l37 := len_setX e37 l36
  have k37 := k_setX e37 k36
  refine r_aload_n 0 C dX11_init_154 rfl ?_
  refine r_iconst (v := 3) C dX11_init_155 (by decide) ?_
  refine r_newI (len := 3) 2138 C ac_int (by decide) (by decide) (by decide) (by decide) (by decide) dX11_init_156 (fun w38 e38 => ?_)
  rw [l37]
  have l38 : (wK w38).length = L + 18 := by rw [len_add e38 l37]
  have k38 := k_add e38 k37
  refine pfX11_71 C hnm k38 dX11_init_158 (fun w39 e39 => ?_)
  have l39 := len_setX e39 l38
  have k39 := k_setX e39 k38
  refine r_aload_n 0 C dX11_init_161 rfl ?_
  refine r_iconst (v := 3) C dX11_init_162 (by decide) ?_
  refine r_newI (len := 3) 2139 C ac_int (by decide) (by decide) (by decide) (by decide) (by decide) dX11_init_163 (fun w40 e40 => ?_)
  rw [l39]
  have l40 : (wK w40).length = L + 19 := by rw [len_add e40 l39]
  have k40 := k_add e40 k39
  refine pfX11_74 C hnm k40 dX11_init_165 (fun w41 e41 => ?_)
  have l41 := len_setX e41 l40
  have k41 := k_setX e41 k40
  refine r_aload_n 0 C dX11_init_168 rfl ?_
  refine r_sipush (v := 1764) C dX11_init_169 (by decide) ?_
  refine r_newI (len := 1764) 2144 C ac_int (by decide) (by decide) (by decide) (by decide) (by decide) dX11_init_172 (fun w42 e42 => ?_)
  rw [l41]
  have l42 : (wK w42).length = L + 20 := by rw [len_add e42 l41]
  have k42 := k_add e42 k41
  refine pfX11_77 C hnm k42 dX11_init_174 (fun w43 e43 => ?_)
  have l43 := len_setX e43 l42
  have k43 := k_setX e43 k42
  refine r_aload_n 0 C dX11_init_177 rfl ?_
  refine r_bipush (v := 6) C dX11_init_178 (by decide) ?_
  refine r_newI (len := 6) 2146 C ac_int (by decide) (by decide) (by decide) (by decide) (by decide) dX11_init_180 (fun w44 e44 => ?_)
  rw [l43]
  have l44 : (wK w44).length = L + 21 := by rw [len_add e44 l43]
  have k44 := k_add e44 k43
  refine pfX11_80 C hnm k44 dX11_init_182 (fun w45 e45 => ?_)
  have l45 := len_setX e45 l44
  have k45 := k_setX e45 k44
  refine r_aload_n 0 C dX11_init_185 rfl ?_
  refine r_bipush (v := 6) C dX11_init_186 (by decide) ?_
  refine r_newI (len := 6) 2147 C ac_int (by decide) (by decide) (by decide) (by decide) (by decide) dX11_init_188 (fun w46 e46 => ?_)
  rw [l45]
  have l46 : (wK w46).length = L + 22 := by rw [len_add e46 l45]
  have k46 := k_add e46 k45
  refine pfX11_83 C hnm k46 dX11_init_190 (fun w47 e47 => ?_)
  have l47 := len_setX e47 l46
  have k47 := k_setX e47 k46
  refine r_aload_n 0 C dX11_init_193 rfl ?_
  refine r_bipush (v := 6) C dX11_init_194 (by decide) ?_
  refine r_newI (len := 6) 2148 C ac_int (by decide) (by decide) (by decide) (by decide) (by decide) dX11_init_196 (fun w48 e48 => ?_)
  rw [l47]
  have l48 : (wK w48).length = L + 23 := by rw [len_add e48 l47]
  have k48 := k_add e48 k47
  refine pfX11_86 C hnm k48 dX11_init_198 (fun w49 e49 => ?_)
  have l49 := len_setX e49 l48
  have k49 := k_setX e49 k48
  refine r_aload_n 0 C dX11_init_201 rfl ?_
  refine r_bipush (v := 30) C dX11_init_202 (by decide) ?_
  refine r_newI (len := 30) 2150 C ac_int (by decide) (by decide) (by decide) (by decide) (by decide) dX11_init_204 (fun w50 e50 => ?_)
  rw [l49]
  have l50 : (wK w50).length = L + 24 := by rw [len_add e50 l49]
  have k50 := k_add e50 k49
  refine pfX11_89 C hnm k50 dX11_init_206 (fun w51 e51 => ?_)
  have l51 := len_setX e51 l50
  have k51 := k_setX e51 k50
  refine r_aload_n 0 C dX11_init_209 rfl ?_
  refine r_bipush (v := 30) C dX11_init_210 (by decide) ?_
  refine r_newI (len := 30) 2151 C ac_int (by decide) (by decide) (by decide) (by decide) (by decide) dX11_init_212 (fun w52 e52 => ?_)
  rw [l51]
  have l52 : (wK w52).length = L + 25 := by rw [len_add e52 l51]
  have k52 := k_add e52 k51
  refine pfX11_92 C hnm k52 dX11_init_214 (fun w53 e53 => ?_)
  have l53 := len_setX e53 l52
  have k53 := k_setX e53 k52
  refine r_aload_n 0 C dX11_init_217 rfl ?_
  refine r_bipush (v := 10) C dX11_init_218 (by decide) ?_
  refine r_newI (len := 10) 2153 C ac_int (by decide) (by decide) (by decide) (by decide) (by decide) dX11_init_220 (fun w54 e54 => ?_)
  rw [l53]
  have l54 : (wK w54).length = L + 26 := by rw [len_add e54 l53]
  have k54 := k_add e54 k53
  refine pfX11_95 C hnm k54 dX11_init_222 (fun w55 e55 => ?_)
  have l55 := len_setX e55 l54
  have k55 := k_setX e55 k54
  refine r_aload_n 0 C dX11_init_225 rfl ?_
  refine r_bipush (v := 10) C dX11_init_226 (by decide) ?_
  refine r_newI (len := 10) 2154 C ac_int (by decide) (by decide) (by decide) (by decide) (by decide) dX11_init_228 (fun w56 e56 => ?_)
  rw [l55]
  have l56 : (wK w56).length = L + 27 := by rw [len_add e56 l55]
  have k56 := k_add e56 k55
  refine pfX11_98 C hnm k56 dX11_init_230 (fun w57 e57 => ?_)
  have l57 := len_setX e57 l56
  have k57 := k_setX e57 k56
  refine r_aload_n 0 C dX11_init_233 rfl ?_
  refine r_bipush (v := 10) C dX11_init_234 (by decide) ?_
  refine r_newI (len := 10) 2155 C ac_int (by decide) (by decide) (by decide) (by decide) (by decide) dX11_init_236 (fun w58 e58 => ?_)
  rw [l57]
  have l58 : (wK w58).length = L + 28 := by rw [len_add e58 l57]
  have k58 := k_add e58 k57
  refine pfX11_101 C hnm k58 dX11_init_238 (fun w59 e59 => ?_)
  have l59 := len_setX e59 l58
  have k59 := k_setX e59 k58
  refine r_aload_n 0 C dX11_init_241 rfl ?_
  refine r_sipush (v := 140) C dX11_init_242 (by decide) ?_
  refine r_newI (len := 140) 2156 C ac_int (by decide) (by decide) (by decide) (by decide) (by decide) dX11_init_245 (fun w60 e60 => ?_)
  rw [l59]
  have l60 : (wK w60).length = L + 29 := by rw [len_add e60 l59]
  have k60 := k_add e60 k59
  refine pfX11_104 C hnm k60 dX11_init_247 (fun w61 e61 => ?_)
  have l61 := len_setX e61 l60
  have k61 := k_setX e61 k60
  refine r_aload_n 0 C dX11_init_250 rfl ?_
  refine r_iconst (v := 2) C dX11_init_251 (by decide) ?_
  refine r_newZ (len := 2) 2157 C ac_boolean (by decide) (by decide) (by decide) (by decide) (by decide) dX11_init_252 (fun w62 e62 => ?_)
  rw [l61]
  have l62 : (wK w62).length = L + 30 := by rw [len_add e62 l61]
  have k62 := k_add e62 k61
  refine pfX11_107 C hnm k62 dX11_init_254 (fun w63 e63 => ?_)
  have l63 := len_setX e63 l62
  have k63 := k_setX e63 k62
  refine r_aload_n 0 C dX11_init_257 rfl ?_
  refine r_iconst (v := 0) C dX11_init_258 (by decide) ?_
  refine pfX11_111 C k63 dX11_init_259 (fun w64 e64 => ?_)
  have l64 := len_setI e64 l63
  have k64 := k_setI e64 k63
  exact hret _ _ _ dX11_init_262 (by subst e1 e2 e3 e4 e5 e6 e7 e8 e9 e10 e11 e12 e13 e14 e15 e16 e17 e18 e19 e20 e21 e22 e23 e24 e25 e26 e27 e28 e29 e30 e31 e32 e33 e34 e35 e36 e37 e38 e39 e40 e41 e42 e43 e44 e45 e46 e47 e48 e49 e50 e51 e52 e53 e54 e55 e56 e57 e58 e59 e60 e61 e62 e63 e64; rfl)
theorem dfX0 : ∀ j, j < 12 → (fX0[j]?).map dfv = some (defaultValue (tyX0 j)) := by
  intro j hj
  match j, hj with
  | 0, _ => rfl
  | 1, _ => rfl
  | 2, _ => rfl
  | 3, _ => rfl
  | 4, _ => rfl
  | 5, _ => rfl
  | 6, _ => rfl
  | 7, _ => rfl
  | 8, _ => rfl
  | 9, _ => rfl
  | 10, _ => rfl
  | 11, _ => rfl
  | j + 12, hj => omega
theorem dfX1 : ∀ j, j < 9 → (fX1[j]?).map dfv = some (defaultValue (tyX1 j)) := by
  intro j hj
  match j, hj with
  | 0, _ => rfl
  | 1, _ => rfl
  | 2, _ => rfl
  | 3, _ => rfl
  | 4, _ => rfl
  | 5, _ => rfl
  | 6, _ => rfl
  | 7, _ => rfl
  | 8, _ => rfl
  | j + 9, hj => omega
theorem dfX2 : ∀ j, j < 4 → (fX2[j]?).map dfv = some (defaultValue (tyX2 j)) := by
  intro j hj
  match j, hj with
  | 0, _ => rfl
  | 1, _ => rfl
  | 2, _ => rfl
  | 3, _ => rfl
  | j + 4, hj => omega
theorem dfX3 : ∀ j, j < 3 → (fX3[j]?).map dfv = some (defaultValue (tyX3 j)) := by
  intro j hj
  match j, hj with
  | 0, _ => rfl
  | 1, _ => rfl
  | 2, _ => rfl
  | j + 3, hj => omega
theorem dfX4 : ∀ j, j < 3 → (fX4[j]?).map dfv = some (defaultValue (tyX4 j)) := by
  intro j hj
  match j, hj with
  | 0, _ => rfl
  | 1, _ => rfl
  | 2, _ => rfl
  | j + 3, hj => omega
theorem dfX5 : ∀ j, j < 6 → (fX5[j]?).map dfv = some (defaultValue (tyX5 j)) := by
  intro j hj
  match j, hj with
  | 0, _ => rfl
  | 1, _ => rfl
  | 2, _ => rfl
  | 3, _ => rfl
  | 4, _ => rfl
  | 5, _ => rfl
  | j + 6, hj => omega
theorem dfX6 : ∀ j, j < 6 → (fX6[j]?).map dfv = some (defaultValue (tyX6 j)) := by
  intro j hj
  match j, hj with
  | 0, _ => rfl
  | 1, _ => rfl
  | 2, _ => rfl
  | 3, _ => rfl
  | 4, _ => rfl
  | 5, _ => rfl
  | j + 6, hj => omega
theorem dfX7 : ∀ j, j < 4 → (fX7[j]?).map dfv = some (defaultValue (tyX7 j)) := by
  intro j hj
  match j, hj with
  | 0, _ => rfl
  | 1, _ => rfl
  | 2, _ => rfl
  | 3, _ => rfl
  | j + 4, hj => omega
theorem dfX8 : ∀ j, j < 10 → (fX8[j]?).map dfv = some (defaultValue (tyX8 j)) := by
  intro j hj
  match j, hj with
  | 0, _ => rfl
  | 1, _ => rfl
  | 2, _ => rfl
  | 3, _ => rfl
  | 4, _ => rfl
  | 5, _ => rfl
  | 6, _ => rfl
  | 7, _ => rfl
  | 8, _ => rfl
  | 9, _ => rfl
  | j + 10, hj => omega
theorem dfX9 : ∀ j, j < 17 → (fX9[j]?).map dfv = some (defaultValue (tyX9 j)) := by
  intro j hj
  match j, hj with
  | 0, _ => rfl
  | 1, _ => rfl
  | 2, _ => rfl
  | 3, _ => rfl
  | 4, _ => rfl
  | 5, _ => rfl
  | 6, _ => rfl
  | 7, _ => rfl
  | 8, _ => rfl
  | 9, _ => rfl
  | 10, _ => rfl
  | 11, _ => rfl
  | 12, _ => rfl
  | 13, _ => rfl
  | 14, _ => rfl
  | 15, _ => rfl
  | 16, _ => rfl
  | j + 17, hj => omega
theorem dfX10 : ∀ j, j < 15 → (fX10[j]?).map dfv = some (defaultValue (tyX10 j)) := by
  intro j hj
  match j, hj with
  | 0, _ => rfl
  | 1, _ => rfl
  | 2, _ => rfl
  | 3, _ => rfl
  | 4, _ => rfl
  | 5, _ => rfl
  | 6, _ => rfl
  | 7, _ => rfl
  | 8, _ => rfl
  | 9, _ => rfl
  | 10, _ => rfl
  | 11, _ => rfl
  | 12, _ => rfl
  | 13, _ => rfl
  | 14, _ => rfl
  | j + 15, hj => omega
theorem dfX11 : ∀ j, j < 58 → (fX11[j]?).map dfv = some (defaultValue (tyX11 j)) := by
  intro j hj
  match j, hj with
  | 0, _ => rfl
  | 1, _ => rfl
  | 2, _ => rfl
  | 3, _ => rfl
  | 4, _ => rfl
  | 5, _ => rfl
  | 6, _ => rfl
  | 7, _ => rfl
  | 8, _ => rfl
  | 9, _ => rfl
  | 10, _ => rfl
  | 11, _ => rfl
  | 12, _ => rfl
  | 13, _ => rfl
  | 14, _ => rfl
  | 15, _ => rfl
  | 16, _ => rfl
  | 17, _ => rfl
  | 18, _ => rfl
  | 19, _ => rfl
  | 20, _ => rfl
  | 21, _ => rfl
  | 22, _ => rfl
  | 23, _ => rfl
  | 24, _ => rfl
  | 25, _ => rfl
  | 26, _ => rfl
  | 27, _ => rfl
  | 28, _ => rfl
  | 29, _ => rfl
  | 30, _ => rfl
  | 31, _ => rfl
  | 32, _ => rfl
  | 33, _ => rfl
  | 34, _ => rfl
  | 35, _ => rfl
  | 36, _ => rfl
  | 37, _ => rfl
  | 38, _ => rfl
  | 39, _ => rfl
  | 40, _ => rfl
  | 41, _ => rfl
  | 42, _ => rfl
  | 43, _ => rfl
  | 44, _ => rfl
  | 45, _ => rfl
  | 46, _ => rfl
  | 47, _ => rfl
  | 48, _ => rfl
  | 49, _ => rfl
  | 50, _ => rfl
  | 51, _ => rfl
  | 52, _ => rfl
  | 53, _ => rfl
  | 54, _ => rfl
  | 55, _ => rfl
  | 56, _ => rfl
  | 57, _ => rfl
  | j + 58, hj => omega
