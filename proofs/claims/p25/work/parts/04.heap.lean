section HEAPROWS
variable {x : Ct} {cc : ByteArray} {nL cells slots pc : Nat} {own : String} {rm : Room} {w w' : Wv} {lv lv' : List (Nat × Value)} {st : List Value}
variable {n ci k t idx N len tag : Nat} {fts : List Nat} {Cn : String} {T : u_T}
theorem r_getG (C : Cx x cc nL own rm) (hn : (wK w)[n]? = some (ci, .inl fts)) (hc : vwCl[ci]? = some (Cn, T, N)) (hin : ∀ u ∈ u_ws Cn T N, u ∈ TT) (hk : k < N) (hlink : Cond.fieldLink own idx (T k).1 (T k).2.1 (T k).2.2.1 ∈ TT) (ht : fts[k]? = some t) {v : Value} (hv : fv (xG x) w n k t = v) (d : decode cc pc = .ok (.getfield idx, 3))
    (kk : V x cells slots w (pc + 3) lv (v :: st)) : V x cells slots w pc lv (.ref (gz (xG x) + n) :: st) := by
  intro H locs ls hW hS hl
  refine va_get (tys := tyo (xG x)) C.hx C.hb C.hts hin C.hown C.tk.1 hW.1 n (wso_get hn) hc k hk (C.hts _ hlink) (fun _ h => h) (v := v) ?_ d (kk H locs ls hW hS hl)
  rw [fvs_get, ht, ← hv]; simp
theorem r_getI (C : Cx x cc nL own rm) (hn : (wK w)[n]? = some (ci, .inl fts)) (hc : vwCl[ci]? = some (Cn, T, N)) (hin : ∀ u ∈ u_ws Cn T N, u ∈ TT) (hk : k < N) (hlink : Cond.fieldLink own idx (T k).1 (T k).2.1 (T k).2.2.1 ∈ TT) (ht : fts[k]? = some 0) (d : decode cc pc = .ok (.getfield idx, 3))
    (kk : V x cells slots w (pc + 3) lv (.int (wI w n k) :: st)) : V x cells slots w pc lv (.ref (gz (xG x) + n) :: st) := r_getG C hn hc hin hk hlink ht rfl d kk
theorem r_getL (C : Cx x cc nL own rm) (hn : (wK w)[n]? = some (ci, .inl fts)) (hc : vwCl[ci]? = some (Cn, T, N)) (hin : ∀ u ∈ u_ws Cn T N, u ∈ TT) (hk : k < N) (hlink : Cond.fieldLink own idx (T k).1 (T k).2.1 (T k).2.2.1 ∈ TT) (ht : fts[k]? = some 1) (d : decode cc pc = .ok (.getfield idx, 3))
    (kk : V x cells slots w (pc + 3) lv (.long (wL w n k) :: st)) : V x cells slots w pc lv (.ref (gz (xG x) + n) :: st) := r_getG C hn hc hin hk hlink ht rfl d kk
theorem r_getX {q : Nat} (C : Cx x cc nL own rm) (hn : (wK w)[n]? = some (ci, .inl fts)) (hc : vwCl[ci]? = some (Cn, T, N)) (hin : ∀ u ∈ u_ws Cn T N, u ∈ TT) (hk : k < N) (hlink : Cond.fieldLink own idx (T k).1 (T k).2.1 (T k).2.2.1 ∈ TT) (ht : fts[k]? = some 2) (hX : wX w n k = some q) (d : decode cc pc = .ok (.getfield idx, 3))
    (kk : V x cells slots w (pc + 3) lv (.ref (gz (xG x) + q) :: st)) : V x cells slots w pc lv (.ref (gz (xG x) + n) :: st) := r_getG C hn hc hin hk hlink ht (by simp [fv, adr, hX, va_rf]) d kk
/-- a store into a field that isn't final -/
theorem r_putG (C : Cx x cc nL own rm) (hn : (wK w)[n]? = some (ci, .inl fts)) (hc : vwCl[ci]? = some (Cn, T, N)) (hin : ∀ u ∈ u_ws Cn T N, u ∈ TT) (tyf : Nat → FieldType) (hty : ∀ k, k < N → parseFieldDescriptor (T k).2.2.1 = some (tyf k)) (hnm : ∀ a, a < N → ∀ b, b < N → a ≠ b → (T a).2.1 ≠ (T b).2.1) (hk : k < N) (hlink : Cond.fieldLink own idx (T k).1 (T k).2.1 (T k).2.2.1 ∈ TT) (ht : fts[k]? = some t) (hfin : (T k).2.2.2 = false) {v : Value} (hnar : narrow (tyf k) v = v) (hfit : fits (tyf k) v = true)
    (hK : wK w' = wK w) (hoff : ∀ a, a ≠ n → (∀ b, wI w' a b = wI w a b) ∧ (∀ b, wL w' a b = wL w a b) ∧ (∀ b, wX w' a b = wX w a b)) (hv : fv (xG x) w' n k t = v) (ho : ∀ j u, fts[j]? = some u → j ≠ k → fv (xG x) w n j u = fv (xG x) w' n j u) (d : decode cc pc = .ok (.putfield idx, 3))
    (kk : V x cells slots w' (pc + 3) lv st) : V x cells slots w pc lv (v :: .ref (gz (xG x) + n) :: st) := by
  intro H locs ls hW hS hl
  have he := wso_get (G := xG x) hn
  have hap := va_apart (own := own) C.hts hin tyf hty hnm C.tk.1 hc
  have hat := hW.1 n _ he
  obtain ⟨r, h1, cell, q1, q2, q3, q4⟩ := hat
  have hr : r = (Cn, T, N) := Option.some.inj (h1.symm.trans hc)
  subst hr
  obtain ⟨hSl, hfc, kC, hkC, hkind⟩ := C.tk.1.1 ci _ hc
  obtain ⟨cf, kf, fi, f, hi, hsl⟩ := hSl k hk
  have hlay := C.hts _ (hin _ (u_in_lay hk))
  unfold u_lay at hlay
  rw [if_neg (by rw [hfin]; decide)] at hlay
  have hst := (u_facts hfc hkC (u_lays C.hts hin hk) hi).1
  have h6 := u_store hfc hkC hkind hlay hi (hty k hk) hnar hfit
  refine W.putK C.hx C.hb (f := f) ⟨C.hown, C.hts _ hlink, ⟨_, _, _, hi⟩, hst⟩ (by rw [q2]; exact h6) q1 q3 (by rw [hsl]; exact k2_hasslot (q4 k hk)) rfl rfl d fun H' e1 e2 e3 => ?_
  rw [hsl] at e1 ⊢
  have hl2 : k < (fvs (xG x) w n 0 fts).length := by rw [fvs_len]; exact (List.getElem?_eq_some_iff.mp ht).1
  have hP := hW.1.set (e := .inr (ci, (fvs (xG x) w n 0 fts).set k v)) wso_D he ⟨_, hc, t_OB.to (V := updV (vp_V (fvs (xG x) w n 0 fts)) k v) ⟨_, e1, q2, q3, t_set q4 hap hk v⟩ (fun j _ => vp_updV_set hl2 v j)⟩ e3
  rw [wso_set hn hK hoff (show _ = ent (xG x) w' n (ci, .inl fts) from congrArg (fun z => Sum.inr (ci, z)) (fvs_set ht hv ho))] at hP
  exact kk H' _ ls ⟨hP, by rw [e2, hK]; exact hW.2⟩ (hS.put e2 e3 (wso_D.2 n _ he)) hl
/-- a store into a final field, in a constructor -/
theorem r_putFG (C : Cx x cc nL own rm) (hin2 : (xM x).name = "<init>") (hn : (wK w)[n]? = some (ci, .inl fts)) (hc : vwCl[ci]? = some (Cn, T, N)) (hin : ∀ u ∈ u_ws Cn T N, u ∈ TT) (tyf : Nat → FieldType) (hty : ∀ k, k < N → parseFieldDescriptor (T k).2.2.1 = some (tyf k)) (hnm : ∀ a, a < N → ∀ b, b < N → a ≠ b → (T a).2.1 ≠ (T b).2.1) (hk : k < N) (hlink : Cond.fieldLink own idx (T k).1 (T k).2.1 (T k).2.2.1 ∈ TT) (ht : fts[k]? = some t) (hfin : (T k).2.2.2 = true) (hdecl : (T k).1 = own) {v : Value} (hnar : narrow (tyf k) v = v) (hfit : fits (tyf k) v = true)
    (hK : wK w' = wK w) (hoff : ∀ a, a ≠ n → (∀ b, wI w' a b = wI w a b) ∧ (∀ b, wL w' a b = wL w a b) ∧ (∀ b, wX w' a b = wX w a b)) (hv : fv (xG x) w' n k t = v) (ho : ∀ j u, fts[j]? = some u → j ≠ k → fv (xG x) w n j u = fv (xG x) w' n j u) (d : decode cc pc = .ok (.putfield idx, 3))
    (kk : V x cells slots w' (pc + 3) lv st) : V x cells slots w pc lv (v :: .ref (gz (xG x) + n) :: st) := by
  intro H locs ls hW hS hl
  have he := wso_get (G := xG x) hn
  have hap := va_apart (own := own) C.hts hin tyf hty hnm C.tk.1 hc
  have hat := hW.1 n _ he
  obtain ⟨r, h1, cell, q1, q2, q3, q4⟩ := hat
  have hr : r = (Cn, T, N) := Option.some.inj (h1.symm.trans hc)
  subst hr
  obtain ⟨hSl, hfc, kC, hkC, hkind⟩ := C.tk.1.1 ci _ hc
  obtain ⟨cf, kf, fi, f, hi, hsl⟩ := hSl k hk
  have hlay := C.hts _ (hin _ (u_in_lay hk))
  unfold u_lay at hlay
  rw [if_pos hfin] at hlay
  have hst := (u_facts hfc hkC (u_lays C.hts hin hk) hi).1
  have hcf : (xm x).cls = cf := by
    obtain ⟨_, _, c', _, _, _, -, -, hf', -, -, -, hown2, -⟩ := Cond.laysFinal_spec hlay
    have e1 : c' = cf := by have := hi.symm.trans hf'; simp at this; exact this.1.symm
    rw [hdecl] at hown2
    rw [← e1]; exact Option.some.inj (C.hown.symm.trans hown2)
  have h6 := u_fits hfc hkC hkind (Or.inr hlay) hi (hty k hk) hnar hfit
  refine W.putFinK C.hx C.hb C.hown (C.hts _ hlink) hi hst hcf hin2 (by rw [q2]; exact h6) q1 q3 (by rw [hsl]; exact k2_hasslot (q4 k hk)) rfl rfl d fun H' e1 e2 e3 => ?_
  rw [hsl] at e1 ⊢
  have hl2 : k < (fvs (xG x) w n 0 fts).length := by rw [fvs_len]; exact (List.getElem?_eq_some_iff.mp ht).1
  have hP := hW.1.set (e := .inr (ci, (fvs (xG x) w n 0 fts).set k v)) wso_D he ⟨_, hc, t_OB.to (V := updV (vp_V (fvs (xG x) w n 0 fts)) k v) ⟨_, e1, q2, q3, t_set q4 hap hk v⟩ (fun j _ => vp_updV_set hl2 v j)⟩ e3
  rw [wso_set hn hK hoff (show _ = ent (xG x) w' n (ci, .inl fts) from congrArg (fun z => Sum.inr (ci, z)) (fvs_set ht hv ho))] at hP
  exact kk H' _ ls ⟨hP, by rw [e2, hK]; exact hW.2⟩ (hS.put e2 e3 (wso_D.2 n _ he)) hl
theorem fv_setI_o {G : Gt} {v : Int32} (j u : Nat) (h : j ≠ k) : fv G w n j u = fv G (setI w n k v) n j u := by simp only [fv, setI, wI, wL, wX, up2_nk h]
theorem fv_setL_o {G : Gt} {v : Int64} (j u : Nat) (h : j ≠ k) : fv G w n j u = fv G (setL w n k v) n j u := by simp only [fv, setL, wI, wL, wX, up2_nk h]
theorem fv_setX_o {G : Gt} {v : Option Nat} (j u : Nat) (h : j ≠ k) : fv G w n j u = fv G (setX w n k v) n j u := by simp only [fv, setX, wI, wL, wX, up2_nk h]
theorem r_putI {v : Int32} (C : Cx x cc nL own rm) (hn : (wK w)[n]? = some (ci, .inl fts)) (hc : vwCl[ci]? = some (Cn, T, N)) (hin : ∀ u ∈ u_ws Cn T N, u ∈ TT) (tyf : Nat → FieldType) (hty : ∀ k, k < N → parseFieldDescriptor (T k).2.2.1 = some (tyf k)) (hnm : ∀ a, a < N → ∀ b, b < N → a ≠ b → (T a).2.1 ≠ (T b).2.1) (hk : k < N) (hlink : Cond.fieldLink own idx (T k).1 (T k).2.1 (T k).2.2.1 ∈ TT) (ht : fts[k]? = some 0) (hfin : (T k).2.2.2 = false) (hnar : narrow (tyf k) (.int v) = .int v) (hfit : fits (tyf k) (.int v) = true) (d : decode cc pc = .ok (.putfield idx, 3))
    (kk : ∀ w', w' = setI w n k v → V x cells slots w' (pc + 3) lv st) : V x cells slots w pc lv (.int v :: .ref (gz (xG x) + n) :: st) :=
  r_putG (w' := setI w n k v) C hn hc hin tyf hty hnm hk hlink ht hfin hnar hfit rfl setI_off (by show Value.int _ = _; rw [show wI (setI w n k v) n k = v from up2_eq]) (fun j u _ h => fv_setI_o j u h) d (kk _ rfl)
theorem r_putL {v : Int64} (C : Cx x cc nL own rm) (hn : (wK w)[n]? = some (ci, .inl fts)) (hc : vwCl[ci]? = some (Cn, T, N)) (hin : ∀ u ∈ u_ws Cn T N, u ∈ TT) (tyf : Nat → FieldType) (hty : ∀ k, k < N → parseFieldDescriptor (T k).2.2.1 = some (tyf k)) (hnm : ∀ a, a < N → ∀ b, b < N → a ≠ b → (T a).2.1 ≠ (T b).2.1) (hk : k < N) (hlink : Cond.fieldLink own idx (T k).1 (T k).2.1 (T k).2.2.1 ∈ TT) (ht : fts[k]? = some 1) (hfin : (T k).2.2.2 = false) (hnar : narrow (tyf k) (.long v) = .long v) (hfit : fits (tyf k) (.long v) = true) (d : decode cc pc = .ok (.putfield idx, 3))
    (kk : ∀ w', w' = setL w n k v → V x cells slots w' (pc + 3) lv st) : V x cells slots w pc lv (.long v :: .ref (gz (xG x) + n) :: st) :=
  r_putG (w' := setL w n k v) C hn hc hin tyf hty hnm hk hlink ht hfin hnar hfit rfl setL_off (by show Value.long _ = _; rw [show wL (setL w n k v) n k = v from up2_eq]) (fun j u _ h => fv_setL_o j u h) d (kk _ rfl)
theorem r_putX {q : Nat} (C : Cx x cc nL own rm) (hin2 : (xM x).name = "<init>") (hn : (wK w)[n]? = some (ci, .inl fts)) (hc : vwCl[ci]? = some (Cn, T, N)) (hin : ∀ u ∈ u_ws Cn T N, u ∈ TT) (tyf : Nat → FieldType) (hty : ∀ k, k < N → parseFieldDescriptor (T k).2.2.1 = some (tyf k)) (hnm : ∀ a, a < N → ∀ b, b < N → a ≠ b → (T a).2.1 ≠ (T b).2.1) (hk : k < N) (hlink : Cond.fieldLink own idx (T k).1 (T k).2.1 (T k).2.2.1 ∈ TT) (ht : fts[k]? = some 2) (hfin : (T k).2.2.2 = true) (hdecl : (T k).1 = own) (hnar : narrow (tyf k) (.ref (gz (xG x) + q)) = .ref (gz (xG x) + q)) (hfit : fits (tyf k) (.ref (gz (xG x) + q)) = true) (d : decode cc pc = .ok (.putfield idx, 3))
    (kk : ∀ w', w' = setX w n k (some q) → V x cells slots w' (pc + 3) lv st) : V x cells slots w pc lv (.ref (gz (xG x) + q) :: .ref (gz (xG x) + n) :: st) :=
  r_putFG (w' := setX w n k (some q)) C hin2 hn hc hin tyf hty hnm hk hlink ht hfin hdecl hnar hfit rfl setX_off (by show va_rf (adr _ _) = _; rw [show wX (setX w n k (some q)) n k = some q from up2_eq]; rfl) (fun j u _ h => fv_setX_o j u h) d (kk _ rfl)
-- arrays
theorem r_iald {i : Int32} (C : Cx x cc nL own rm) (hn : (wK w)[n]? = some (tag, .inr (0, len, 0))) (hi : vp_in i len) (d : decode cc pc = .ok (.iaload, 1)) (kk : V x cells slots w (pc + 1) lv (.int (wI w n i.toNatClampNeg) :: st)) : V x cells slots w pc lv (.int i :: .ref (gz (xG x) + n) :: st) :=
  fun H locs ls hW hS hl => va_iald (cA := gT (xG x) 0) (n := len) (f := wI w n) C.hx C.hb C.tk.1 hW.1 n 0 (wso_get hn) rfl hi d (kk H locs ls hW hS hl)
theorem r_zald {i : Int32} (C : Cx x cc nL own rm) (hn : (wK w)[n]? = some (tag, .inr (1, len, 0))) (hi : vp_in i len) (d : decode cc pc = .ok (.baload, 1)) (kk : V x cells slots w (pc + 1) lv (.int (wI w n i.toNatClampNeg) :: st)) : V x cells slots w pc lv (.int i :: .ref (gz (xG x) + n) :: st) :=
  fun H locs ls hW hS hl => va_zald (cA := gT (xG x) 1) (n := len) (f := wI w n) C.hx C.hb C.tk.1 hW.1 n 1 (wso_get hn) rfl hi d (kk H locs ls hW hS hl)
theorem r_lald {i : Int32} (C : Cx x cc nL own rm) (hn : (wK w)[n]? = some (tag, .inr (2, len, 1))) (hi : vp_in i len) (d : decode cc pc = .ok (.laload, 1)) (kk : V x cells slots w (pc + 1) lv (.long (wL w n i.toNatClampNeg) :: st)) : V x cells slots w pc lv (.int i :: .ref (gz (xG x) + n) :: st) :=
  fun H locs ls hW hS hl => va_lald (cA := gT (xG x) 2) (n := len) (f := wL w n) C.hx C.hb C.tk.1 hW.1 n 2 (wso_get hn) rfl hi d (kk H locs ls hW hS hl)
theorem r_aald {i : Int32} {q : Nat} (ty : Nat) {cn : String} (hty : (tyo (xG x))[ty]? = some (gT (xG x) ty, .object cn)) (C : Cx x cc nL own rm) (hn : (wK w)[n]? = some (tag, .inr (ty, len, 2))) (hi : vp_in i len) (hX : wX w n i.toNatClampNeg = some q) (d : decode cc pc = .ok (.aaload, 1)) (kk : V x cells slots w (pc + 1) lv (.ref (gz (xG x) + q) :: st)) : V x cells slots w pc lv (.int i :: .ref (gz (xG x) + n) :: st) := by
  intro H locs ls hW hS hl
  refine va_aldq (cA := gT (xG x) ty) (n := len) (f := fun j => adr (xG x) (wX w n j)) C.hx C.hb C.tk.1 hW.1 n ty (wso_get hn) hty hi d ?_
  have e : va_rf (adr (xG x) (wX w n i.toNatClampNeg)) = .ref (gz (xG x) + q) := by rw [hX]; rfl
  rw [e]
  exact kk H locs ls hW hS hl
theorem r_alen (ty et : Nat) {aty : FieldType} (hty : (tyo (xG x))[ty]? = some (gT (xG x) ty, aty)) (C : Cx x cc nL own rm) (hn : (wK w)[n]? = some (tag, .inr (ty, len, et))) {v : Int32} (hv : Int32.ofNat len = v) (d : decode cc pc = .ok (.arraylength, 1)) (kk : V x cells slots w (pc + 1) lv (.int v :: st)) : V x cells slots w pc lv (.ref (gz (xG x) + n) :: st) :=
  fun H locs ls hW hS hl => va_alen C.hx C.hb C.tk.1 hW.1 n ty (wso_get hn) hty hv d (kk H locs ls hW hS hl)
theorem aset {H H1 : Heap} {locs : List Loc} {j : Nat} (hW : Wd (xG x) w H) (hS : va_S (Az (xG x)) (xs x).heap H locs) {sh : Nat × Nat × Nat} (hn : (wK w)[n]? = some (tag, .inr sh)) (hK : wK w' = wK w) (hoff : ∀ a, a ≠ n → (∀ b, wI w' a b = wI w a b) ∧ (∀ b, wL w' a b = wL w a b) ∧ (∀ b, wX w' a b = wX w a b)) (e : H1[gz (xG x) + n]? = some (vp_cell (gT (xG x) sh.1) (sh.2.1, acn (xG x) w' n sh.2.2))) (z : H1.size = H.size) (oq : ∀ q : Nat, q ≠ gz (xG x) + n → H1[q]? = H[q]?) : Wd (xG x) w' H1 ∧ va_S (Az (xG x)) (xs x).heap H1 (locs ++ [⟨gz (xG x) + n, j⟩]) := by
  have he := wso_get (G := xG x) hn
  have hP := hW.1.set (e := .inl (gT (xG x) sh.1, (sh.2.1, acn (xG x) w' n sh.2.2))) wso_D he e oq
  rw [wso_set (e := .inl (gT (xG x) sh.1, (sh.2.1, acn (xG x) w' n sh.2.2))) hn hK hoff rfl] at hP
  exact ⟨⟨hP, by rw [z, hK]; exact hW.2⟩, hS.put z oq (wso_D.2 n _ he)⟩
theorem up2_row {α : Type} {f : Nat → Nat → α} {j : Nat} {v : α} : up2 f n j v n = fun b => if b = j then v else f n b := by funext b; simp [up2]
theorem r_iast {i v : Int32} (C : Cx x cc nL own rm) (hn : (wK w)[n]? = some (tag, .inr (0, len, 0))) (hi : vp_in i len) (d : decode cc pc = .ok (.iastore, 1)) (kk : ∀ w', w' = setI w n i.toNatClampNeg v → V x cells slots w' (pc + 1) lv st) : V x cells slots w pc lv (.int v :: .int i :: .ref (gz (xG x) + n) :: st) := by
  intro H locs ls hW hS hl
  refine W.iast C.hx C.hb (hW.1 n _ (wso_get hn)) ((C.tk.1.2 0 _ rfl).1 len (fun j => .int (wI w n j))) (fun q => by cases q) (by show ¬ (i < 0 ∨ (arrV _ _ _).slots.size ≤ _); rw [arrV_size]; exact hi) rfl rfl d fun H1 e z oq => ?_
  obtain ⟨a, b⟩ := aset (w' := setI w n i.toNatClampNeg v) (j := i.toNatClampNeg) hW hS hn rfl setI_off (by
    rw [e]
    show some ((arrV (gT (xG x) 0) len (fun j => .int (wI w n j))).setSlot i.toNatClampNeg (.int v)) = some (arrV (gT (xG x) 0) len (fun j => .int (wI (setI w n i.toNatClampNeg v) n j)))
    rw [arrV_store]
    congr 2
    funext q
    show updV _ _ _ q = Value.int (up2 (wI w) n _ _ n q)
    by_cases hq : q = i.toNatClampNeg
    · subst hq; simp [updV, up2]
    · simp [updV, up2, hq]) z oq
  exact kk _ rfl H1 _ ls a b hl
theorem r_zast {i v : Int32} (C : Cx x cc nL own rm) (hn : (wK w)[n]? = some (tag, .inr (1, len, 0))) (hi : vp_in i len) (hv : narrow .boolean (.int v) = .int v) (d : decode cc pc = .ok (.bastore, 1)) (kk : ∀ w', w' = setI w n i.toNatClampNeg v → V x cells slots w' (pc + 1) lv st) : V x cells slots w pc lv (.int v :: .int i :: .ref (gz (xG x) + n) :: st) := by
  intro H locs ls hW hS hl
  refine W.zast C.hx C.hb (hW.1 n _ (wso_get hn)) ((C.tk.1.2 1 _ rfl).1 len (fun j => .int (wI w n j))) (fun q => by cases q) (by show ¬ (i < 0 ∨ (arrV _ _ _).slots.size ≤ _); rw [arrV_size]; exact hi) rfl rfl d fun H1 e z oq => ?_
  obtain ⟨a, b⟩ := aset (w' := setI w n i.toNatClampNeg v) (j := i.toNatClampNeg) hW hS hn rfl setI_off (by
    rw [e, hv]
    show some ((arrV (gT (xG x) 1) len (fun j => .int (wI w n j))).setSlot i.toNatClampNeg (.int v)) = some (arrV (gT (xG x) 1) len (fun j => .int (wI (setI w n i.toNatClampNeg v) n j)))
    rw [arrV_store]
    congr 2
    funext q
    show updV _ _ _ q = Value.int (up2 (wI w) n _ _ n q)
    by_cases hq : q = i.toNatClampNeg
    · subst hq; simp [updV, up2]
    · simp [updV, up2, hq]) z oq
  exact kk _ rfl H1 _ ls a b hl
theorem r_last {i : Int32} {v : Int64} (C : Cx x cc nL own rm) (hn : (wK w)[n]? = some (tag, .inr (2, len, 1))) (hi : vp_in i len) (d : decode cc pc = .ok (.lastore, 1)) (kk : ∀ w', w' = setL w n i.toNatClampNeg v → V x cells slots w' (pc + 1) lv st) : V x cells slots w pc lv (.long v :: .int i :: .ref (gz (xG x) + n) :: st) := by
  intro H locs ls hW hS hl
  refine W.last C.hx C.hb (hW.1 n _ (wso_get hn)) ((C.tk.1.2 2 _ rfl).1 len (fun j => .long (wL w n j))) (fun q => by cases q) (by show ¬ (i < 0 ∨ (arrV _ _ _).slots.size ≤ _); rw [arrV_size]; exact hi) rfl rfl d fun H1 e z oq => ?_
  obtain ⟨a, b⟩ := aset (w' := setL w n i.toNatClampNeg v) (j := i.toNatClampNeg) hW hS hn rfl setL_off (by
    rw [e]
    show some ((arrV (gT (xG x) 2) len (fun j => .long (wL w n j))).setSlot i.toNatClampNeg (.long v)) = some (arrV (gT (xG x) 2) len (fun j => .long (wL (setL w n i.toNatClampNeg v) n j)))
    rw [arrV_store]
    congr 2
    funext q
    show updV _ _ _ q = Value.long (up2 (wL w) n _ _ n q)
    by_cases hq : q = i.toNatClampNeg
    · subst hq; simp [updV, up2]
    · simp [updV, up2, hq]) z oq
  exact kk _ rfl H1 _ ls a b hl
end HEAPROWS
