theorem mw3_29 : Cond.fieldLink RJ0 38 "java/lang/String" "COMPACT_STRINGS" "Z" ∈ TT := tt_3 (List.mem_of_getElem? (i := 29) (by decide +kernel)) (by decide +kernel)
theorem mw7_68 : Cond.fieldLink RJ0 15 "java/lang/String" "coder" "B" ∈ TT := tt_7 (List.mem_of_getElem? (i := 68) (by decide +kernel)) (by decide +kernel)
theorem mw7_67 : Cond.fieldLink RJ0 9 "java/lang/String" "value" "[B" ∈ TT := tt_7 (List.mem_of_getElem? (i := 67) (by decide +kernel)) (by decide +kernel)
theorem mw3_45 : Cond.fieldLink RJ0 1053 "jdk/internal/util/Preconditions" "SIOOBE_FORMATTER" "Ljava/util/function/BiFunction;" ∈ TT := tt_3 (List.mem_of_getElem? (i := 45) (by decide +kernel)) (by decide +kernel)
theorem mw3_25 : Cond.methodLink RJ0 335 yJ0_coder_7d493 ∈ TT := tt_3 (List.mem_of_getElem? (i := 25) (by decide +kernel)) (by decide +kernel)
theorem mw3_26 : Cond.instanceMethod yJ0_coder_7d493 ∈ TT := tt_3 (List.mem_of_getElem? (i := 26) (by decide +kernel)) (by decide +kernel)
theorem mw3_27 : Cond.selects RJ0 yJ0_coder_7d493 yJ0_coder_7d493 ∈ TT := tt_3 (List.mem_of_getElem? (i := 27) (by decide +kernel)) (by decide +kernel)
theorem mw1_14 : Cond.initialized RJ0 ∈ TT := tt_1 (List.mem_of_getElem? (i := 14) (by decide +kernel)) (by decide +kernel)
theorem mw3_28 : Cond.code yJ0_coder_7d493 cJ0_coder_7d493 1 (some .byte) ∈ TT := tt_3 (List.mem_of_getElem? (i := 28) rfl) rfl
theorem cwJ0_335_V : CwV RJ0 335 RJ0 yJ0_coder_7d493 cJ0_coder_7d493 1 (some .byte) 0 := ⟨mw3_25, mw3_26, mw3_27, mw1_14, mw3_28, ⟨by decide, by decide, by decide⟩⟩
theorem mw3_47 : Cond.methodLink RJ0 1059 yJ3_checkIndex_8e157 ∈ TT := tt_3 (List.mem_of_getElem? (i := 47) (by decide +kernel)) (by decide +kernel)
theorem mw3_48 : Cond.static yJ3_checkIndex_8e157 ∈ TT := tt_3 (List.mem_of_getElem? (i := 48) (by decide +kernel)) (by decide +kernel)
theorem mw1_16 : Cond.initialized RJ3 ∈ TT := tt_1 (List.mem_of_getElem? (i := 16) (by decide +kernel)) (by decide +kernel)
theorem mw3_49 : Cond.code yJ3_checkIndex_8e157 cJ3_checkIndex_8e157 3 (some .int) ∈ TT := tt_3 (List.mem_of_getElem? (i := 49) rfl) rfl
theorem cwJ0_1059_S : CwS RJ0 1059 yJ3_checkIndex_8e157 cJ3_checkIndex_8e157 3 (some .int) 3 := ⟨mw3_47, mw3_48, mw1_16, mw3_49, ⟨by decide, by decide, by decide⟩⟩
theorem mw3_42 : Cond.methodLink RJ1 9 yJ0_checkIndex_df160 ∈ TT := tt_3 (List.mem_of_getElem? (i := 42) (by decide +kernel)) (by decide +kernel)
theorem mw3_43 : Cond.static yJ0_checkIndex_df160 ∈ TT := tt_3 (List.mem_of_getElem? (i := 43) (by decide +kernel)) (by decide +kernel)
theorem mw3_44 : Cond.code yJ0_checkIndex_df160 cJ0_checkIndex_df160 2 none ∈ TT := tt_3 (List.mem_of_getElem? (i := 44) rfl) rfl
theorem cwJ1_9_S : CwS RJ1 9 yJ0_checkIndex_df160 cJ0_checkIndex_df160 2 none 2 := ⟨mw3_42, mw3_43, mw1_14, mw3_44, ⟨by decide, by decide, by decide⟩⟩
theorem mw3_35 : Cond.methodLink RJ0 492 yJ0_isLatin1_aae02 ∈ TT := tt_3 (List.mem_of_getElem? (i := 35) (by decide +kernel)) (by decide +kernel)
theorem mw3_36 : Cond.instanceMethod yJ0_isLatin1_aae02 ∈ TT := tt_3 (List.mem_of_getElem? (i := 36) (by decide +kernel)) (by decide +kernel)
theorem mw3_37 : Cond.selects RJ0 yJ0_isLatin1_aae02 yJ0_isLatin1_aae02 ∈ TT := tt_3 (List.mem_of_getElem? (i := 37) (by decide +kernel)) (by decide +kernel)
theorem mw3_38 : Cond.code yJ0_isLatin1_aae02 cJ0_isLatin1_aae02 1 (some .boolean) ∈ TT := tt_3 (List.mem_of_getElem? (i := 38) rfl) rfl
theorem cwJ0_492_V : CwV RJ0 492 RJ0 yJ0_isLatin1_aae02 cJ0_isLatin1_aae02 1 (some .boolean) 0 := ⟨mw3_35, mw3_36, mw3_37, mw1_14, mw3_38, ⟨by decide, by decide, by decide⟩⟩
theorem mw3_39 : Cond.methodLink RJ0 495 yJ1_charAt_3b067 ∈ TT := tt_3 (List.mem_of_getElem? (i := 39) (by decide +kernel)) (by decide +kernel)
theorem mw3_40 : Cond.static yJ1_charAt_3b067 ∈ TT := tt_3 (List.mem_of_getElem? (i := 40) (by decide +kernel)) (by decide +kernel)
theorem mw1_15 : Cond.initialized RJ1 ∈ TT := tt_1 (List.mem_of_getElem? (i := 15) (by decide +kernel)) (by decide +kernel)
theorem mw3_41 : Cond.code yJ1_charAt_3b067 cJ1_charAt_3b067 2 (some .char) ∈ TT := tt_3 (List.mem_of_getElem? (i := 41) rfl) rfl
theorem cwJ0_495_S : CwS RJ0 495 yJ1_charAt_3b067 cJ1_charAt_3b067 2 (some .char) 2 := ⟨mw3_39, mw3_40, mw1_15, mw3_41, ⟨by decide, by decide, by decide⟩⟩
theorem mw3_21 : Cond.methodLink RX5 160 yJ0_length_8abf5 ∈ TT := tt_3 (List.mem_of_getElem? (i := 21) (by decide +kernel)) (by decide +kernel)
theorem mw3_22 : Cond.instanceMethod yJ0_length_8abf5 ∈ TT := tt_3 (List.mem_of_getElem? (i := 22) (by decide +kernel)) (by decide +kernel)
theorem mw3_23 : Cond.selects RJ0 yJ0_length_8abf5 yJ0_length_8abf5 ∈ TT := tt_3 (List.mem_of_getElem? (i := 23) (by decide +kernel)) (by decide +kernel)
theorem mw3_24 : Cond.code yJ0_length_8abf5 cJ0_length_8abf5 1 (some .int) ∈ TT := tt_3 (List.mem_of_getElem? (i := 24) rfl) rfl
theorem cwX5_160_V : CwV RX5 160 RJ0 yJ0_length_8abf5 cJ0_length_8abf5 1 (some .int) 0 := ⟨mw3_21, mw3_22, mw3_23, mw1_14, mw3_24, ⟨by decide, by decide, by decide⟩⟩
theorem mw3_31 : Cond.methodLink RX5 164 yJ0_charAt_5068e ∈ TT := tt_3 (List.mem_of_getElem? (i := 31) (by decide +kernel)) (by decide +kernel)
theorem mw3_32 : Cond.instanceMethod yJ0_charAt_5068e ∈ TT := tt_3 (List.mem_of_getElem? (i := 32) (by decide +kernel)) (by decide +kernel)
theorem mw3_33 : Cond.selects RJ0 yJ0_charAt_5068e yJ0_charAt_5068e ∈ TT := tt_3 (List.mem_of_getElem? (i := 33) (by decide +kernel)) (by decide +kernel)
theorem mw3_34 : Cond.code yJ0_charAt_5068e cJ0_charAt_5068e 2 (some .char) ∈ TT := tt_3 (List.mem_of_getElem? (i := 34) rfl) rfl
theorem cwX5_164_V : CwV RX5 164 RJ0 yJ0_charAt_5068e cJ0_charAt_5068e 2 (some .char) 1 := ⟨mw3_31, mw3_32, mw3_33, mw1_14, mw3_34, ⟨by decide, by decide, by decide⟩⟩
section SFMT
variable {x : Ct} {cc : ByteArray} {nL cells slots pc idx : Nat} {own : String} {rm : Room} {w : Wv} {lv : List (Nat × Value)} {st : List Value}
theorem r_sfmt (C : Cx x cc nL own rm) (hlink : Cond.fieldLink own idx "jdk/internal/util/Preconditions" "SIOOBE_FORMATTER" "Ljava/util/function/BiFunction;" ∈ TT) (d : decode cc pc = .ok (.getstatic idx, 3)) (k0 : V x cells slots w (pc + 3) lv (.null :: st)) (k1 : ∀ t : Nat, V x cells slots w (pc + 3) lv (.ref t :: st)) : V x cells slots w pc lv st := by
  intro H locs ls hW hS hl
  rcases C.tks.2.2.2 with hZ | ⟨t, hZ⟩
  · exact va_gets C.hx C.hb hZ hS C.hown (C.hts _ hlink) (fun _ h => h) d (k0 H locs ls hW hS hl)
  · exact va_gets C.hx C.hb hZ hS C.hown (C.hts _ hlink) (fun _ h => h) d (k1 t H locs ls hW hS hl)
end SFMT
theorem ct_coder (l : Launch) (G : Gt) (w : Wv) (i : Nat) (hi : i < 8) : CtI l G yJ0_coder_7d493 cJ0_coder_7d493 1 .byte ({ frames := 0, cells := 0, slots := 0, locals := 0 } : Room) [.ref (gK G i)] w (fun r w' => w' = w ∧ r = 0) := by
  refine enterI (by decide) (Nat.le_of_ble_eq_true rfl) ?_
  intro x el eG C hret
  subst el; subst eG
  show V x 0 0 w 0 [(0, .ref (gK (xG x) i))] []
  refine r_scompact C mw3_29 dJ0_coder_7d493_0 ?_
  refine r_if_eq 13 C dJ0_coder_7d493_3 (by decide) (fun c => absurd c (by decide)) (fun _ => ?_)
  refine r_aload_n 0 C dJ0_coder_7d493_6 rfl ?_
  refine r_sgetC hi C mw7_68 dJ0_coder_7d493_7 ?_
  refine r_goto 14 C dJ0_coder_7d493_10 (by decide) ?_
  exact hret _ _ _ _ dJ0_coder_7d493_14 rfl ⟨rfl, rfl⟩
theorem ct_len (l : Launch) (G : Gt) (w : Wv) (i : Nat) (hi : i < 8) : CtI l G yJ0_length_8abf5 cJ0_length_8abf5 1 .int ({ frames := 1, cells := 0, slots := 0, locals := 20 } : Room) [.ref (gK G i)] w (fun r w' => w' = w ∧ r.toInt = (sLen.getD i 0 : Nat)) := by
  refine enterI (by decide) (Nat.le_of_ble_eq_true rfl) ?_
  intro x el eG C hret
  subst el; subst eG
  show V x 0 0 w 0 [(0, .ref (gK (xG x) i))] []
  refine r_aload_n 0 C dJ0_length_8abf5_0 rfl ?_
  refine r_sgetV hi C mw7_67 dJ0_length_8abf5_1 ?_
  refine r_slen8 hi C dJ0_length_8abf5_4 ?_
  refine r_aload_n 0 C dJ0_length_8abf5_5 rfl ?_
  refine callKI hi C cwJ0_335_V (ct_coder _ _ w i hi) (by decide) rfl rfl (Nat.le_of_ble_eq_true rfl) (by decide) dJ0_length_8abf5_6 (fun r w' y => ?_)
  obtain ⟨rfl, rfl⟩ := y
  refine r_ishr C dJ0_length_8abf5_9 (fun v e => ?_)
  have hl : sLen.getD i 0 < 2 ^ 31 := by
    have h8 : ∀ i, i < 8 → sLen.getD i 0 < 2 ^ 31 := by decide
    exact h8 i hi
  have hv : v = nI (sLen.getD i 0) := by
    rw [e, pk_shrN hl _ 0 (by decide), Nat.pow_zero, Nat.div_one]
  exact hret _ _ _ _ dJ0_length_8abf5_10 rfl ⟨rfl, by rw [hv]; exact nI_toInt hl⟩
theorem ct_latin (l : Launch) (G : Gt) (w : Wv) (i : Nat) (hi : i < 8) : CtI l G yJ0_isLatin1_aae02 cJ0_isLatin1_aae02 1 .boolean ({ frames := 0, cells := 0, slots := 0, locals := 0 } : Room) [.ref (gK G i)] w (fun r w' => w' = w ∧ r = 1) := by
  refine enterI (by decide) (Nat.le_of_ble_eq_true rfl) ?_
  intro x el eG C hret
  subst el; subst eG
  show V x 0 0 w 0 [(0, .ref (gK (xG x) i))] []
  refine r_scompact C mw3_29 dJ0_isLatin1_aae02_0 ?_
  refine r_if_eq 17 C dJ0_isLatin1_aae02_3 (by decide) (fun c => absurd c (by decide)) (fun _ => ?_)
  refine r_aload_n 0 C dJ0_isLatin1_aae02_6 rfl ?_
  refine r_sgetC hi C mw7_68 dJ0_isLatin1_aae02_7 ?_
  refine r_if_ne 17 C dJ0_isLatin1_aae02_10 (by decide) (fun c => absurd rfl c) (fun _ => ?_)
  refine r_iconst (v := 1) C dJ0_isLatin1_aae02_13 (by decide) ?_
  refine r_goto 18 C dJ0_isLatin1_aae02_14 (by decide) ?_
  exact hret _ _ _ _ dJ0_isLatin1_aae02_18 rfl ⟨rfl, rfl⟩
theorem ct_pcheck (l : Launch) (G : Gt) (w : Wv) (v3 : Value) (h3 : v3 = .null ∨ ∃ t, v3 = .ref t) (j n : Int32) (h1 : 0 ≤ j.toInt) (h2 : j.toInt < n.toInt) : CtI l G yJ3_checkIndex_8e157 cJ3_checkIndex_8e157 3 .int ({ frames := 0, cells := 0, slots := 0, locals := 0 } : Room) [.int j, .int n, v3] w (fun r w' => w' = w) := by
  refine enterI (by decide) (by rcases h3 with rfl | ⟨t, rfl⟩ <;> exact Nat.le_of_ble_eq_true rfl) ?_
  intro x el eG C hret
  subst el; subst eG
  show V x 0 0 w 0 [(0, .int j), (1, .int n), (2, v3)] []
  have q0 : (0 : Int32).toInt = 0 := by decide
  refine r_iload_n 0 C dJ3_checkIndex_8e157_0 rfl ?_
  refine r_if_lt 9 C dJ3_checkIndex_8e157_1 (by decide) (fun c => ?_) (fun _ => ?_)
  · have c := i_lt c; exfalso; omega
  refine r_iload_n 0 C dJ3_checkIndex_8e157_4 rfl ?_
  refine r_iload_n 1 C dJ3_checkIndex_8e157_5 rfl ?_
  refine r_icmp_lt 16 C dJ3_checkIndex_8e157_6 (by decide) (fun _ => ?_) (fun c => ?_)
  · refine r_iload_n 0 C dJ3_checkIndex_8e157_16 rfl ?_
    exact hret _ _ _ _ dJ3_checkIndex_8e157_17 rfl rfl
  · have c := i_nlt c; exfalso; omega
theorem ct_scheck (l : Launch) (G : Gt) (w : Wv) (j n : Int32) (h1 : 0 ≤ j.toInt) (h2 : j.toInt < n.toInt) : CtV l G yJ0_checkIndex_df160 cJ0_checkIndex_df160 2 ({ frames := 1, cells := 0, slots := 0, locals := 22 } : Room) [.int j, .int n] w (fun w' => w' = w) := by
  refine enterV (by decide) (Nat.le_of_ble_eq_true rfl) ?_
  intro x el eG C hnm hret
  subst el; subst eG
  show V x 0 0 w 0 [(0, .int j), (1, .int n)] []
  refine r_iload_n 0 C dJ0_checkIndex_df160_0 rfl ?_
  refine r_iload_n 1 C dJ0_checkIndex_df160_1 rfl ?_
  refine r_sfmt C mw3_45 dJ0_checkIndex_df160_2 ?_ (fun t => ?_)
  · refine callSI C cwJ0_1059_S (ct_pcheck _ _ w .null (Or.inl rfl) j n h1 h2) (by decide) rfl rfl (Nat.le_of_ble_eq_true rfl) (by decide) dJ0_checkIndex_df160_5 (fun r w' y => ?_)
    subst y
    refine r_pop C dJ0_checkIndex_df160_8 rfl ?_
    exact hret _ _ _ dJ0_checkIndex_df160_9 rfl
  · refine callSI C cwJ0_1059_S (ct_pcheck _ _ w (.ref t) (Or.inr ⟨t, rfl⟩) j n h1 h2) (by decide) rfl rfl (Nat.le_of_ble_eq_true rfl) (by decide) dJ0_checkIndex_df160_5 (fun r w' y => ?_)
    subst y
    refine r_pop C dJ0_checkIndex_df160_8 rfl ?_
    exact hret _ _ _ dJ0_checkIndex_df160_9 rfl
theorem ct_l1chr (l : Launch) (G : Gt) (w : Wv) (i : Nat) (hi : i < 8) (j : Int32) (hj : vp_in j (sLen.getD i 0)) : CtI l G yJ1_charAt_3b067 cJ1_charAt_3b067 2 .char ({ frames := 2, cells := 0, slots := 0, locals := 43 } : Room) [.ref (gV G i), .int j] w (fun r w' => w' = w ∧ narrow .char (.int r) = .int r) := by
  refine enterI (by decide) (Nat.le_of_ble_eq_true rfl) ?_
  intro x el eG C hret
  subst el; subst eG
  show V x 0 0 w 0 [(0, .ref (gV (xG x) i)), (1, .int j)] []
  have hl : sLen.getD i 0 < 2 ^ 31 := by
    have h8 : ∀ i, i < 8 → sLen.getD i 0 < 2 ^ 31 := by decide
    exact h8 i hi
  obtain ⟨h1, h2⟩ := vp_in_iff.mp hj
  refine r_iload_n 1 C dJ1_charAt_3b067_0 rfl ?_
  refine r_aload_n 0 C dJ1_charAt_3b067_1 rfl ?_
  refine r_slen8 hi C dJ1_charAt_3b067_2 ?_
  refine callSV0 C cwJ1_9_S (ct_scheck _ _ w j (nI (sLen.getD i 0)) h1 (by rw [nI_toInt hl]; exact h2)) (by decide) rfl rfl (Nat.le_of_ble_eq_true rfl) (by decide) dJ1_charAt_3b067_3 (fun w' y => ?_)
  subst y
  refine r_aload_n 0 C dJ1_charAt_3b067_6 rfl ?_
  refine r_iload_n 1 C dJ1_charAt_3b067_7 rfl ?_
  refine r_sbald hi C hj dJ1_charAt_3b067_8 (fun v => ?_)
  refine r_sipush (v := 255) C dJ1_charAt_3b067_9 (by decide) ?_
  refine r_iand C dJ1_charAt_3b067_12 (fun v2 e2 => ?_)
  refine r_i2c C dJ1_charAt_3b067_13 (fun v3 e3 => ?_)
  have hn : narrow .char (.int v3) = .int v3 := by rw [e3]; exact pk_nc _
  exact hret _ _ _ _ dJ1_charAt_3b067_14 hn ⟨rfl, hn⟩
theorem ct_chr (l : Launch) (G : Gt) (w : Wv) (i : Nat) (j : Int32) (hi : i < 8) (hj : vp_in j (sLen.getD i 0)) : CtI l G yJ0_charAt_5068e cJ0_charAt_5068e 2 .char ({ frames := 3, cells := 0, slots := 0, locals := 64 } : Room) [.ref (gK G i), .int j] w (fun r w' => w' = w ∧ True) := by
  refine enterI (by decide) (Nat.le_of_ble_eq_true rfl) ?_
  intro x el eG C hret
  subst el; subst eG
  show V x 0 0 w 0 [(0, .ref (gK (xG x) i)), (1, .int j)] []
  refine r_aload_n 0 C dJ0_charAt_5068e_0 rfl ?_
  refine callKI hi C cwJ0_492_V (ct_latin _ _ w i hi) (by decide) rfl rfl (Nat.le_of_ble_eq_true rfl) (by decide) dJ0_charAt_5068e_1 (fun r w' y => ?_)
  obtain ⟨rfl, rfl⟩ := y
  refine r_if_eq 16 C dJ0_charAt_5068e_4 (by decide) (fun c => absurd c (by decide)) (fun _ => ?_)
  refine r_aload_n 0 C dJ0_charAt_5068e_7 rfl ?_
  refine r_sgetV hi C mw7_67 dJ0_charAt_5068e_8 ?_
  refine r_iload_n 1 C dJ0_charAt_5068e_11 rfl ?_
  refine callSI C cwJ0_495_S (ct_l1chr _ _ w' i hi j hj) (by decide) rfl rfl (Nat.le_of_ble_eq_true rfl) (by decide) dJ0_charAt_5068e_12 (fun r w'' y => ?_)
  obtain ⟨rfl, hn⟩ := y
  exact hret _ _ _ _ dJ0_charAt_5068e_15 hn ⟨rfl, trivial⟩
