section NUMS
variable {a b v : Int32}
theorem i_lt (h : a < b) : a.toInt < b.toInt := Int32.lt_iff_toInt_lt.mp h
theorem i_le (h : a ≤ b) : a.toInt ≤ b.toInt := Int32.le_iff_toInt_le.mp h
theorem i_nlt (h : ¬ a < b) : b.toInt ≤ a.toInt := by rw [Int32.lt_iff_toInt_lt] at h; omega
theorem i_nle (h : ¬ a ≤ b) : b.toInt < a.toInt := by rw [Int32.le_iff_toInt_le] at h; omega
theorem i_eq (h : a = b) : a.toInt = b.toInt := by rw [h]
theorem i_ne (h : ¬ a = b) : ¬ a.toInt = b.toInt := fun e => h (Int32.toInt_inj.mp e)
theorem i_of (h : a.toInt = b.toInt) : a = b := Int32.toInt_inj.mp h
theorem i_rng (a : Int32) : -2147483648 ≤ a.toInt ∧ a.toInt ≤ 2147483647 := by have h1 := Int32.toInt_lt a; have h2 := Int32.le_toInt a; omega
theorem bm {z : Int} (h1 : -2147483648 ≤ z) (h2 : z ≤ 2147483647) : z.bmod 4294967296 = z := by
  rw [Int.bmod_eq_of_le] <;> omega
theorem iadd_ok (e : v = a + b) (h1 : -2147483648 ≤ a.toInt + b.toInt) (h2 : a.toInt + b.toInt ≤ 2147483647) : v.toInt = a.toInt + b.toInt := by
  rw [e, Int32.toInt_add]; exact bm h1 h2
theorem isub_ok (e : v = a - b) (h1 : -2147483648 ≤ a.toInt - b.toInt) (h2 : a.toInt - b.toInt ≤ 2147483647) : v.toInt = a.toInt - b.toInt := by
  rw [e, Int32.toInt_sub]; exact bm h1 h2
theorem imul_ok (e : v = a * b) (h1 : -2147483648 ≤ a.toInt * b.toInt) (h2 : a.toInt * b.toInt ≤ 2147483647) : v.toInt = a.toInt * b.toInt := by
  rw [e, Int32.toInt_mul]; exact bm h1 h2
theorem iinc_ok {n : Int} (e : a + Int32.ofInt n = v) (hn : (Int32.ofInt n).toInt = n) (h1 : -2147483648 ≤ a.toInt + n) (h2 : a.toInt + n ≤ 2147483647) : v.toInt = a.toInt + n := by
  rw [← e, Int32.toInt_add, hn]; exact bm h1 h2
theorem vin {n : Nat} (h1 : 0 ≤ a.toInt) (h2 : a.toInt < n) : vp_in a n := vp_in_iff.mpr ⟨h1, h2⟩
theorem imax_ok (e : v = (if a < b then b else a)) : (v.toInt = a.toInt ∧ b.toInt ≤ a.toInt) ∨ (v.toInt = b.toInt ∧ a.toInt < b.toInt) := by
  by_cases h : a < b
  · rw [if_pos h] at e; exact Or.inr ⟨by rw [e], i_lt h⟩
  · rw [if_neg h] at e; exact Or.inl ⟨by rw [e], i_nlt h⟩
theorem imin_ok (e : v = (if b < a then b else a)) : (v.toInt = a.toInt ∧ a.toInt ≤ b.toInt) ∨ (v.toInt = b.toInt ∧ b.toInt < a.toInt) := by
  by_cases h : b < a
  · rw [if_pos h] at e; exact Or.inr ⟨by rw [e], i_lt h⟩
  · rw [if_neg h] at e; exact Or.inl ⟨by rw [e], i_nlt h⟩
theorem i2l_ok {z : Int64} (e : z = a.toInt64) : z.toInt = a.toInt := by rw [e]; exact Int32.toInt_toInt64 a
end NUMS
section NUML
variable {a b v : Int64}
theorem l_lt (h : a < b) : a.toInt < b.toInt := Int64.lt_iff_toInt_lt.mp h
theorem l_of (h : a.toInt = b.toInt) : a = b := Int64.toInt_inj.mp h
theorem lcmp_ok {r : Int32} (e : r = lg_cmp a b) : (r.toInt = 1 ∧ b.toInt < a.toInt) ∨ (r.toInt = 0 ∧ a.toInt = b.toInt) ∨ (r.toInt = -1 ∧ a.toInt < b.toInt) := by
  unfold lg_cmp at e
  by_cases h : b < a
  · rw [if_pos h] at e; exact Or.inl ⟨by rw [e]; decide, l_lt h⟩
  · rw [if_neg h] at e
    by_cases h2 : a = b
    · rw [if_pos h2] at e; exact Or.inr (Or.inl ⟨by rw [e]; decide, by rw [h2]⟩)
    · rw [if_neg h2] at e
      refine Or.inr (Or.inr ⟨by rw [e]; decide, ?_⟩)
      rw [Int64.lt_iff_toInt_lt] at h
      have h3 : ¬ a.toInt = b.toInt := fun q => h2 (l_of q)
      omega
end NUML
/-! worlds that differ in some arrays (S) and some fields (F) alone -/
section CHS
variable {w w1 w2 w0 : Wv} {S S' : List Nat} {F F' : List (Nat × Nat)} {n k a b : Nat} {v u : Int32}
def Ch (S : List Nat) (F : List (Nat × Nat)) (w w' : Wv) : Prop := wK w' = wK w ∧ wX w' = wX w ∧ ∀ a, a ∉ S → ∀ b, (a, b) ∉ F → wI w' a b = wI w a b ∧ wL w' a b = wL w a b
theorem Ch.rf : Ch S F w w := ⟨rfl, rfl, fun _ _ _ _ => ⟨rfl, rfl⟩⟩
theorem Ch.putS (h : Ch S F w0 w) (e : w1 = setI w n k v) (hn : n ∈ S) : Ch S F w0 w1 := by
  subst e
  refine ⟨h.1, h.2.1, fun a ha b hb => ⟨?_, (h.2.2 a ha b hb).2⟩⟩
  rw [show wI (setI w n k v) a b = wI w a b from up2_nn (fun q => ha (q ▸ hn))]
  exact (h.2.2 a ha b hb).1
theorem Ch.putF (h : Ch S F w0 w) (e : w1 = setI w n k v) (hn : (n, k) ∈ F) : Ch S F w0 w1 := by
  subst e
  refine ⟨h.1, h.2.1, fun a ha b hb => ⟨?_, (h.2.2 a ha b hb).2⟩⟩
  have hne : wI (setI w n k v) a b = wI w a b := by
    by_cases h1 : a = n
    · by_cases h2 : b = k
      · exact absurd (h1 ▸ h2 ▸ hn) hb
      · exact up2_nk h2
    · exact up2_nn h1
  rw [hne]
  exact (h.2.2 a ha b hb).1
theorem Ch.putSL {v : Int64} (h : Ch S F w0 w) (e : w1 = setL w n k v) (hn : n ∈ S) : Ch S F w0 w1 := by
  subst e
  refine ⟨h.1, h.2.1, fun a ha b hb => ⟨(h.2.2 a ha b hb).1, ?_⟩⟩
  rw [show wL (setL w n k v) a b = wL w a b from up2_nn (fun q => ha (q ▸ hn))]
  exact (h.2.2 a ha b hb).2
theorem Ch.putFL {v : Int64} (h : Ch S F w0 w) (e : w1 = setL w n k v) (hn : (n, k) ∈ F) : Ch S F w0 w1 := by
  subst e
  refine ⟨h.1, h.2.1, fun a ha b hb => ⟨(h.2.2 a ha b hb).1, ?_⟩⟩
  have hne : wL (setL w n k v) a b = wL w a b := by
    by_cases h1 : a = n
    · by_cases h2 : b = k
      · exact absurd (h1 ▸ h2 ▸ hn) hb
      · exact up2_nk h2
    · exact up2_nn h1
  rw [hne]
  exact (h.2.2 a ha b hb).2
theorem Ch.tr (h : Ch S F w0 w) (h1 : Ch S' F' w w1) (hs : ∀ a ∈ S', a ∈ S) (hf : ∀ a ∈ F', a ∈ F) : Ch S F w0 w1 :=
  ⟨h1.1.trans h.1, h1.2.1.trans h.2.1, fun a ha b hb => ⟨((h1.2.2 a (fun q => ha (hs a q)) b (fun q => hb (hf _ q))).1).trans (h.2.2 a ha b hb).1, ((h1.2.2 a (fun q => ha (hs a q)) b (fun q => hb (hf _ q))).2).trans (h.2.2 a ha b hb).2⟩⟩
theorem Ch.I (h : Ch S F w w1) (ha : a ∉ S) (hb : (a, b) ∉ F) (r : wI w a b = u) : wI w1 a b = u := ((h.2.2 a ha b hb).1).trans r
theorem Ch.L {u : Int64} (h : Ch S F w w1) (ha : a ∉ S) (hb : (a, b) ∉ F) (r : wL w a b = u) : wL w1 a b = u := ((h.2.2 a ha b hb).2).trans r
/-- an array that isn't changed, and no field of its number is: any place -/
theorem Ch.A (h : Ch S F w w1) (ha : a ∉ S) (hb : (F.all fun e => e.1 != a) = true) (r : wI w a b = u) : wI w1 a b = u := by
  refine h.I ha (fun q => ?_) r
  have := List.all_eq_true.mp hb _ q
  simp at this
theorem g_eq (e : w1 = setI w n k v) : wI w1 n k = v := by subst e; exact up2_eq
theorem g_nk (e : w1 = setI w n k v) (h : b ≠ k) (r : wI w a b = u) : wI w1 a b = u := by subst e; exact (up2_nk h).trans r
theorem g_nn (e : w1 = setI w n k v) (h : a ≠ n) (r : wI w a b = u) : wI w1 a b = u := by subst e; exact (up2_nn h).trans r
theorem g_L {v : Int64} (e : w1 = setL w n k v) (r : wI w a b = u) : wI w1 a b = u := by subst e; exact r
theorem gl_eq {v : Int64} (e : w1 = setL w n k v) : wL w1 n k = v := by subst e; exact up2_eq
theorem gl_I {u : Int64} (e : w1 = setI w n k v) (r : wL w a b = u) : wL w1 a b = u := by subst e; exact r
end CHS
/-! ranges -/
section RANGES
abbrev Rg : Type := Nat × Nat × Nat × Int × Int
variable {T : List Rg} {w w1 : Wv} {n k from_ to_ : Nat} {v i : Int32} {lo hi : Int}
def Inv (T : List Rg) (w : Wv) : Prop := ∀ e ∈ T, ∀ j, e.2.1 ≤ j → j < e.2.2.1 → e.2.2.2.1 ≤ (wI w e.1 j).toInt ∧ (wI w e.1 j).toInt ≤ e.2.2.2.2
theorem Inv.get {j : Nat} (h : Inv T w) (hm : (n, from_, to_, lo, hi) ∈ T) (h1 : from_ ≤ j) (h2 : j < to_) : lo ≤ (wI w n j).toInt ∧ (wI w n j).toInt ≤ hi := h _ hm j h1 h2
theorem clampN (h0 : 0 ≤ i.toInt) : (i.toNatClampNeg : Int) = i.toInt := by show ((i.toInt.toNat : Nat) : Int) = _; omega
theorem Inv.geta (h : Inv T w) (hm : (n, from_, to_, lo, hi) ∈ T) (h0 : 0 ≤ i.toInt) (h1 : (from_ : Int) ≤ i.toInt) (h2 : i.toInt < to_) : lo ≤ (wI w n i.toNatClampNeg).toInt ∧ (wI w n i.toNatClampNeg).toInt ≤ hi := by
  have := clampN h0
  exact h _ hm _ (show from_ ≤ i.toNatClampNeg by omega) (show i.toNatClampNeg < to_ by omega)
theorem Inv.put (h : Inv T w) (e : w1 = setI w n k v) (lo hi : Int) (hb : lo ≤ v.toInt ∧ v.toInt ≤ hi) (hc : (T.all fun e => e.1 != n || decide (k < e.2.1) || decide (e.2.2.1 ≤ k) || (decide (e.2.2.2.1 ≤ lo) && decide (hi ≤ e.2.2.2.2))) = true) : Inv T w1 := by
  subst e
  intro e he j h1 h2
  by_cases ha : e.1 = n
  · by_cases hk : j = k
    · have hc := List.all_eq_true.mp hc e he
      simp only [Bool.or_eq_true, Bool.and_eq_true, bne_iff_ne, decide_eq_true_eq] at hc
      rw [ha, hk, show wI (setI w n k v) n k = v from up2_eq]
      rcases hc with ((hc | hc) | hc) | hc
      · exact absurd ha hc
      · omega
      · omega
      · omega
    · rw [show wI (setI w n k v) e.1 j = wI w e.1 j from up2_nk hk]; exact h e he j h1 h2
  · rw [show wI (setI w n k v) e.1 j = wI w e.1 j from up2_nn ha]; exact h e he j h1 h2
theorem Inv.putk (h : Inv T w) (e : w1 = setI w n k v) (hc : (T.all fun e => e.1 != n || decide (k < e.2.1) || decide (e.2.2.1 ≤ k)) = true) : Inv T w1 := by
  refine h.put e v.toInt v.toInt ⟨Int.le_refl _, Int.le_refl _⟩ (List.all_eq_true.mpr fun x hx => ?_)
  have := List.all_eq_true.mp hc x hx
  rw [this]; rfl
/-- a place of an array: between jl and jh -/
theorem Inv.putR (h : Inv T w) (e : w1 = setI w n i.toNatClampNeg v) (jl jh : Nat) (h0 : (jl : Int) ≤ i.toInt) (h1 : i.toInt ≤ jh) (lo hi : Int) (hb : lo ≤ v.toInt ∧ v.toInt ≤ hi) (hc : (T.all fun e => e.1 != n || decide (jh < e.2.1) || decide (e.2.2.1 ≤ jl) || (decide (e.2.2.2.1 ≤ lo) && decide (hi ≤ e.2.2.2.2))) = true) : Inv T w1 := by
  have hcl := clampN (i := i) (by omega)
  refine h.put e lo hi hb (List.all_eq_true.mpr fun x hx => ?_)
  have := List.all_eq_true.mp hc x hx
  simp only [Bool.or_eq_true, Bool.and_eq_true, bne_iff_ne, decide_eq_true_eq] at this ⊢
  rcases this with ((q | q) | q) | q
  · exact Or.inl (Or.inl (Or.inl q))
  · exact Or.inl (Or.inl (Or.inr (by omega)))
  · exact Or.inl (Or.inr (by omega))
  · exact Or.inr q
theorem Inv.put0 (h : Inv T w) (e : w1 = setI w n k v) (hc : (T.all fun e => e.1 != n) = true) : Inv T w1 := by
  refine h.putk e (List.all_eq_true.mpr fun x hx => ?_)
  have := List.all_eq_true.mp hc x hx
  rw [this]; rfl
theorem Inv.putL {v : Int64} (h : Inv T w) (e : w1 = setL w n k v) : Inv T w1 := by subst e; exact h
theorem Inv.ch {S : List Nat} {F : List (Nat × Nat)} (h : Inv T w) (hc : Ch S F w w1) (hs : (T.all fun e => S.all (fun a => a != e.1) && F.all (fun a => a.1 != e.1)) = true) : Inv T w1 := by
  intro e he j h1 h2
  have hx := List.all_eq_true.mp hs e he
  rw [Bool.and_eq_true] at hx
  rw [hc.A (a := e.1) (fun q => by have := List.all_eq_true.mp hx.1 _ q; simp at this) (List.all_eq_true.mpr fun a ha => by have := List.all_eq_true.mp hx.2 a ha; exact this) rfl]
  exact h e he j h1 h2
end RANGES
section NUMS2
variable {a b v : Int32}
theorem imul_rng {A B : Int} (e : v = a * b) (ha : 0 ≤ a.toInt ∧ a.toInt ≤ A) (hb : 0 ≤ b.toInt ∧ b.toInt ≤ B) (hAB : A * B ≤ 2147483647) : v.toInt = a.toInt * b.toInt ∧ 0 ≤ v.toInt ∧ v.toInt ≤ A * B := by
  have h1 : 0 ≤ a.toInt * b.toInt := Int.mul_nonneg ha.1 hb.1
  have h2 : a.toInt * b.toInt ≤ A * B := Int.mul_le_mul ha.2 hb.2 hb.1 (Int.le_trans ha.1 ha.2)
  have h3 := imul_ok e (by omega) (by omega)
  exact ⟨h3, by omega, by omega⟩
theorem iand_ok {m : Int32} (e : v = a &&& m) (k : Nat) (hm : m.toBitVec.toNat = 2 ^ k - 1) (hk : k ≤ 30) : 0 ≤ v.toInt ∧ v.toInt < 2 ^ k := by
  have h := pk_andIn a k hm hk
  rw [← e, vp_in_iff] at h
  have h2 : ((2 ^ k : Nat) : Int) = (2 : Int) ^ k := by norm_cast
  rw [h2] at h
  exact h
theorem idiv_rng (e : v = a / b) (ha : 0 ≤ a.toInt) (hb : 0 < b.toInt) : 0 ≤ v.toInt ∧ v.toInt ≤ a.toInt := by
  obtain ⟨x, hx, rfl⟩ := nI_of (x := a) (fun q => by have := i_lt q; rw [show (0 : Int32).toInt = 0 from by decide] at this; omega)
  obtain ⟨y, hy, rfl⟩ := nI_of (x := b) (fun q => by have := i_lt q; rw [show (0 : Int32).toInt = 0 from by decide] at this; omega)
  rw [nI_toInt hx] at ha ⊢
  rw [nI_toInt hy] at hb
  have hd := Nat.div_le_self x y
  rw [e, pk_div hx (by omega) hy]
  generalize x / y = z at hd
  rw [nI_toInt (by omega)]
  omega
theorem irem_rng (e : v = a - a / b * b) (ha : 0 ≤ a.toInt) (hb : 0 < b.toInt) : 0 ≤ v.toInt ∧ v.toInt < b.toInt := by
  obtain ⟨x, hx, rfl⟩ := nI_of (x := a) (fun q => by have := i_lt q; rw [show (0 : Int32).toInt = 0 from by decide] at this; omega)
  obtain ⟨y, hy, rfl⟩ := nI_of (x := b) (fun q => by have := i_lt q; rw [show (0 : Int32).toInt = 0 from by decide] at this; omega)
  rw [nI_toInt hy] at hb ⊢
  have hy0 : 0 < y := by omega
  have hlt := Nat.mod_lt x hy0
  rw [e, pk_rem hx hy0 hy, nI_toInt (by omega)]
  omega
theorem cell_rng {W D y x : Int} (h : W * D ≤ 42) (hx : 0 ≤ x ∧ x < W) (hy : 0 ≤ y ∧ y < D) : 0 ≤ W * y ∧ 0 ≤ W * y + x ∧ W * y + x ≤ 41 := by
  have h1 : 0 ≤ W * y := Int.mul_nonneg (by omega) hy.1
  have h2 : W * y ≤ W * (D - 1) := Int.mul_le_mul_of_nonneg_left (by omega) (by omega)
  have h3 : W * (D - 1) = W * D - W := by rw [Int.mul_sub, Int.mul_one]
  omega
theorem prod_pos {W D c : Int} (hW : 0 ≤ W) (hc : 0 ≤ c) (h : c < W * D) : 0 < W := by
  rcases Int.lt_or_eq_of_le hW with q | q
  · exact q
  · rw [← q, Int.zero_mul] at h; omega
end NUMS2
theorem nar_z {v : Int32} (h : v = 0 ∨ v = 1) : narrow .boolean (.int v) = .int v := by rcases h with rfl | rfl <;> rfl
theorem fit_z {v : Int32} (h : v = 0 ∨ v = 1) : fits .boolean (.int v) = true := by rcases h with rfl | rfl <;> rfl
theorem z_of {v : Int32} (h : v.toInt = 0 ∨ v.toInt = 1) : v = 0 ∨ v = 1 := h.elim (fun q => Or.inl (i_of q)) (fun q => Or.inr (i_of q))
