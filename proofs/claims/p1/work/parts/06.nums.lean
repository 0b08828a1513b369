section NUMS
variable {a b v : Int32}
theorem i_lt (h : a < b) : a.toInt < b.toInt := Int32.lt_iff_toInt_lt.mp h
theorem i_le (h : a ≤ b) : a.toInt ≤ b.toInt := Int32.le_iff_toInt_le.mp h
theorem i_nlt (h : ¬ a < b) : b.toInt ≤ a.toInt := by rw [Int32.lt_iff_toInt_lt] at h; omega
theorem i_nle (h : ¬ a ≤ b) : b.toInt < a.toInt := by rw [Int32.le_iff_toInt_le] at h; omega
theorem i_eq (h : a = b) : a.toInt = b.toInt := by rw [h]
theorem i_ne (h : ¬ a = b) : ¬ a.toInt = b.toInt := fun e => h (Int32.toInt_inj.mp e)
theorem i_of (h : a.toInt = b.toInt) : a = b := Int32.toInt_inj.mp h
theorem i_rng (a : Int32) : -2147483648 ≤ a.toInt ∧ a.toInt ≤ 2147483647 := by have h1 := Int32.toInt_lt a; have h2 := Int32.le_toInt a; omega
theorem bm {z : Int} (h1 : -2147483648 ≤ z) (h2 : z ≤ 2147483647) : z.bmod 4294967296 = z := by
  rw [Int.bmod_eq_of_le] <;> omega
theorem iadd_ok (e : v = a + b) (h1 : -2147483648 ≤ a.toInt + b.toInt) (h2 : a.toInt + b.toInt ≤ 2147483647) : v.toInt = a.toInt + b.toInt := by
  rw [e, Int32.toInt_add]; exact bm h1 h2
theorem isub_ok (e : v = a - b) (h1 : -2147483648 ≤ a.toInt - b.toInt) (h2 : a.toInt - b.toInt ≤ 2147483647) : v.toInt = a.toInt - b.toInt := by
  rw [e, Int32.toInt_sub]; exact bm h1 h2
theorem imul_ok (e : v = a * b) (h1 : -2147483648 ≤ a.toInt * b.toInt) (h2 : a.toInt * b.toInt ≤ 2147483647) : v.toInt = a.toInt * b.toInt := by
  rw [e, Int32.toInt_mul]; exact bm h1 h2
theorem iinc_ok {n : Int} (e : a + Int32.ofInt n = v) (hn : (Int32.ofInt n).toInt = n) (h1 : -2147483648 ≤ a.toInt + n) (h2 : a.toInt + n ≤ 2147483647) : v.toInt = a.toInt + n := by
  rw [← e, Int32.toInt_add, hn]; exact bm h1 h2
theorem vin {n : Nat} (h1 : 0 ≤ a.toInt) (h2 : a.toInt < n) : vp_in a n := vp_in_iff.mpr ⟨h1, h2⟩
theorem imax_ok (e : v = (if a < b then b else a)) : (v.toInt = a.toInt ∧ b.toInt ≤ a.toInt) ∨ (v.toInt = b.toInt ∧ a.toInt < b.toInt) := by
  by_cases h : a < b
  · rw [if_pos h] at e; exact Or.inr ⟨by rw [e], i_lt h⟩
  · rw [if_neg h] at e; exact Or.inl ⟨by rw [e], i_nlt h⟩
theorem imin_ok (e : v = (if b < a then b else a)) : (v.toInt = a.toInt ∧ a.toInt ≤ b.toInt) ∨ (v.toInt = b.toInt ∧ b.toInt < a.toInt) := by
  by_cases h : b < a
  · rw [if_pos h] at e; exact Or.inr ⟨by rw [e], i_lt h⟩
  · rw [if_neg h] at e; exact Or.inl ⟨by rw [e], i_nlt h⟩
theorem i2l_ok {z : Int64} (e : z = a.toInt64) : z.toInt = a.toInt := by rw [e]; exact Int32.toInt_toInt64 a
end NUMS
section NUML
variable {a b v : Int64}
theorem l_lt (h : a < b) : a.toInt < b.toInt := Int64.lt_iff_toInt_lt.mp h
theorem l_of (h : a.toInt = b.toInt) : a = b := Int64.toInt_inj.mp h
theorem lcmp_ok {r : Int32} (e : r = lg_cmp a b) : (r.toInt = 1 ∧ b.toInt < a.toInt) ∨ (r.toInt = 0 ∧ a.toInt = b.toInt) ∨ (r.toInt = -1 ∧ a.toInt < b.toInt) := by
  unfold lg_cmp at e
  by_cases h : b < a
  · rw [if_pos h] at e; exact Or.inl ⟨by rw [e]; decide, l_lt h⟩
  · rw [if_neg h] at e
    by_cases h2 : a = b
    · rw [if_pos h2] at e; exact Or.inr (Or.inl ⟨by rw [e]; decide, by rw [h2]⟩)
    · rw [if_neg h2] at e
      refine Or.inr (Or.inr ⟨by rw [e]; decide, ?_⟩)
      rw [Int64.lt_iff_toInt_lt] at h
      have h3 : ¬ a.toInt = b.toInt := fun q => h2 (l_of q)
      omega
end NUML
/-! worlds that differ in some cells alone -/
section CHS
variable {w w1 w2 w0 : Wv} {S S' : List Nat} {n k a b : Nat} {v u : Int32}
def Ch (S : List Nat) (w w' : Wv) : Prop := wK w' = wK w ∧ wX w' = wX w ∧ ∀ a, a ∉ S → (∀ b, wI w' a b = wI w a b) ∧ (∀ b, wL w' a b = wL w a b)
theorem Ch.rf : Ch S w w := ⟨rfl, rfl, fun _ _ => ⟨fun _ => rfl, fun _ => rfl⟩⟩
theorem Ch.put (h : Ch S w0 w) (e : w1 = setI w n k v) (hn : n ∈ S) : Ch S w0 w1 := by
  subst e
  refine ⟨h.1, h.2.1, fun a ha => ⟨fun b => ?_, (h.2.2 a ha).2⟩⟩
  rw [show wI (setI w n k v) a b = wI w a b from up2_nn (fun q => ha (q ▸ hn))]
  exact (h.2.2 a ha).1 b
theorem Ch.putL {v : Int64} (h : Ch S w0 w) (e : w1 = setL w n k v) (hn : n ∈ S) : Ch S w0 w1 := by
  subst e
  refine ⟨h.1, h.2.1, fun a ha => ⟨(h.2.2 a ha).1, fun b => ?_⟩⟩
  rw [show wL (setL w n k v) a b = wL w a b from up2_nn (fun q => ha (q ▸ hn))]
  exact (h.2.2 a ha).2 b
theorem Ch.tr (h : Ch S w0 w) (h1 : Ch S' w w1) (hs : ∀ a ∈ S', a ∈ S) : Ch S w0 w1 :=
  ⟨h1.1.trans h.1, h1.2.1.trans h.2.1, fun a ha => ⟨fun b => ((h1.2.2 a (fun q => ha (hs a q))).1 b).trans ((h.2.2 a ha).1 b), fun b => ((h1.2.2 a (fun q => ha (hs a q))).2 b).trans ((h.2.2 a ha).2 b)⟩⟩
theorem Ch.I (h : Ch S w w1) (ha : a ∉ S) (r : wI w a b = u) : wI w1 a b = u := ((h.2.2 a ha).1 b).trans r
theorem Ch.L {u : Int64} (h : Ch S w w1) (ha : a ∉ S) (r : wL w a b = u) : wL w1 a b = u := ((h.2.2 a ha).2 b).trans r
theorem g_eq (e : w1 = setI w n k v) : wI w1 n k = v := by subst e; exact up2_eq
theorem g_nk (e : w1 = setI w n k v) (h : b ≠ k) (r : wI w a b = u) : wI w1 a b = u := by subst e; exact (up2_nk h).trans r
theorem g_nn (e : w1 = setI w n k v) (h : a ≠ n) (r : wI w a b = u) : wI w1 a b = u := by subst e; exact (up2_nn h).trans r
theorem g_L {v : Int64} (e : w1 = setL w n k v) (r : wI w a b = u) : wI w1 a b = u := by subst e; exact r
theorem gl_eq {v : Int64} (e : w1 = setL w n k v) : wL w1 n k = v := by subst e; exact up2_eq
theorem gl_I {u : Int64} (e : w1 = setI w n k v) (r : wL w a b = u) : wL w1 a b = u := by subst e; exact r
end CHS
theorem nar_z {v : Int32} (h : v = 0 ∨ v = 1) : narrow .boolean (.int v) = .int v := by rcases h with rfl | rfl <;> rfl
theorem fit_z {v : Int32} (h : v = 0 ∨ v = 1) : fits .boolean (.int v) = true := by rcases h with rfl | rfl <;> rfl
theorem z_of {v : Int32} (h : v.toInt = 0 ∨ v.toInt = 1) : v = 0 ∨ v = 1 := h.elim (fun q => Or.inl (i_of q)) (fun q => Or.inr (i_of q))
