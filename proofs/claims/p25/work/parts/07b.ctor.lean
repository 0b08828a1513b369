section CTOR
variable {w w1 w2 v v1 : Wv} {n k L N a b q : Nat} {kd kd' : Kd} {S : List Nat} {F : List (Nat × Nat)}
theorem len_add (e : w1 = addK w kd) (h : (wK w).length = L) : (wK w1).length = L + 1 := by
  subst e; show (wK w ++ [kd]).length = _; rw [List.length_append, h]; rfl
theorem len_setX {r : Option Nat} (e : w1 = setX w n k r) (h : (wK w).length = L) : (wK w1).length = L := by subst e; exact h
theorem len_setI {r : Int32} (e : w1 = setI w n k r) (h : (wK w).length = L) : (wK w1).length = L := by subst e; exact h
theorem k_add (e : w1 = addK w kd) (h : (wK w)[a]? = some kd') : (wK w1)[a]? = some kd' := by
  subst e; show (wK w ++ [kd])[a]? = _
  rw [List.getElem?_append_left (List.getElem?_eq_some_iff.mp h).1]; exact h
theorem k_setX {r : Option Nat} (e : w1 = setX w n k r) (h : (wK w)[a]? = some kd') : (wK w1)[a]? = some kd' := by subst e; exact h
theorem k_setI {r : Int32} (e : w1 = setI w n k r) (h : (wK w)[a]? = some kd') : (wK w1)[a]? = some kd' := by subst e; exact h
-- worlds that differ in some cells alone stay so
theorem Ch.cAdd (h : Ch S F v w) : Ch S F (addK v kd) (addK w kd) := by
  obtain ⟨h1, h2, h3⟩ := h
  refine ⟨by show wK w ++ [kd] = wK v ++ [kd]; rw [h1], ?_, fun a ha b hb => ⟨?_, ?_⟩⟩
  · show (fun a b => if a = (wK w).length then none else wX w a b) = (fun a b => if a = (wK v).length then none else wX v a b)
    rw [h1, h2]
  · show (if a = (wK w).length then 0 else wI w a b) = (if a = (wK v).length then 0 else wI v a b)
    rw [h1, (h3 a ha b hb).1]
  · show (if a = (wK w).length then 0 else wL w a b) = (if a = (wK v).length then 0 else wL v a b)
    rw [h1, (h3 a ha b hb).2]
theorem Ch.cX {r : Option Nat} (h : Ch S F v w) : Ch S F (setX v n k r) (setX w n k r) := by
  obtain ⟨h1, h2, h3⟩ := h
  exact ⟨h1, by show up2 (wX w) n k r = up2 (wX v) n k r; rw [h2], h3⟩
theorem Ch.cI {r : Int32} (h : Ch S F v w) : Ch S F (setI v n k r) (setI w n k r) := by
  obtain ⟨h1, h2, h3⟩ := h
  refine ⟨h1, h2, fun a ha b hb => ⟨?_, (h3 a ha b hb).2⟩⟩
  show up2 (wI w) n k r a b = up2 (wI v) n k r a b
  simp only [up2, (h3 a ha b hb).1]
/-- below N nothing is new -/
def Lo (N : Nat) (w w' : Wv) : Prop := N ≤ (wK w').length ∧ ∀ a, a < N → ∀ b, wI w' a b = wI w a b
theorem Lo.rf (h : (wK w).length = L) (hL : N ≤ L) : Lo N w w := ⟨by rw [h]; exact hL, fun _ _ _ => rfl⟩
theorem Lo.cAdd (h : Lo N w w1) : Lo N w (addK w1 kd) := by
  refine ⟨?_, fun a ha b => ?_⟩
  · show N ≤ (wK w1 ++ [kd]).length
    rw [List.length_append]; exact Nat.le_trans h.1 (Nat.le_add_right _ _)
  · rw [← h.2 a ha b]; exact (addK_lo (fun e => by have := h.1; omega)).1 b
theorem Lo.cX {r : Option Nat} (h : Lo N w w1) : Lo N w (setX w1 n k r) := h
theorem Lo.cI {r : Int32} (h : Lo N w w1) (hn : N ≤ n) : Lo N w (setI w1 n k r) := ⟨h.1, fun a ha b => by rw [← h.2 a ha b]; exact up2_nn (by omega)⟩
end CTOR
def w00 : Wv := ([], fun _ _ => 0, fun _ _ => 0, fun _ _ => none)
section LAWROWS
variable {x : Ct} {cc : ByteArray} {nL cells slots pc : Nat} {own : String} {rm : Room} {w : Wv} {lv : List (Nat × Value)} {st : List Value} {bb Ls : Nat} {xf : Nat → Int32}
theorem r_sld {i : Int32} (C : Cx x cc nL own rm) (hX : va_X bb Ls xf (xs x) (xs x).heap) (hbl : bb < (xs x).heap.size) (hbz : bb < gz (xG x)) (hi : vp_in i Ls) (d : decode cc pc = .ok (.iaload, 1)) (k : ∀ v : Int32, V x cells slots w (pc + 1) lv (.int v :: st)) : V x cells slots w pc lv (.int i :: .ref bb :: st) :=
  fun H locs ls hW hS hl => va_sld C.hx C.hb hX hbl (A := Az (xG x)) (Nat.not_le.mpr hbz) hS hi d (k _ H locs ls hW hS hl)
theorem r_sldj {i : Int32} (j : Nat) (C : Cx x cc nL own rm) (hX : va_X bb Ls xf (xs x) (xs x).heap) (hbl : bb < (xs x).heap.size) (hbz : bb < gz (xG x)) (hj : i.toInt = j) (hi : j < Ls) (d : decode cc pc = .ok (.iaload, 1)) (k : V x cells slots w (pc + 1) lv (.int (xf j) :: st)) : V x cells slots w pc lv (.int i :: .ref bb :: st) := by
  intro H locs ls hW hS hl
  have e : i.toNatClampNeg = j := by show i.toInt.toNat = j; omega
  refine va_sld C.hx C.hb hX hbl (A := Az (xG x)) (Nat.not_le.mpr hbz) hS (vp_in_iff.mpr (by omega)) d ?_
  rw [e]
  exact k H locs ls hW hS hl
theorem r_slen (C : Cx x cc nL own rm) (hX : va_X bb Ls xf (xs x) (xs x).heap) (hbl : bb < (xs x).heap.size) (hbz : bb < gz (xG x)) (d : decode cc pc = .ok (.arraylength, 1)) (k : V x cells slots w (pc + 1) lv (.int (Int32.ofNat Ls) :: st)) : V x cells slots w pc lv (.ref bb :: st) :=
  fun H locs ls hW hS hl => va_slen C.hx C.hb hX hbl (A := Az (xG x)) (Nat.not_le.mpr hbz) hS d (k H locs ls hW hS hl)
theorem r_saload {i bb : Nat} (j : Nat) (C : Cx x cc nL own rm) {k : Fin 4} (d : decode cc pc = .ok (.aload_n k, 1)) (hj : lv[j]? = some ((k : Nat), .ref bb)) (kk : V x cells slots w (pc + 1) lv (.ref bb :: st)) : V x cells slots w pc lv st := r_aload_n j C d hj kk
end LAWROWS
