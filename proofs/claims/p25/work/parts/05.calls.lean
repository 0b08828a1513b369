section NEWROWS
variable {x : Ct} {cc : ByteArray} {nL cells slots pc : Nat} {own : String} {rm : Room} {w w' : Wv} {lv lv' : List (Nat × Value)} {st : List Value}
variable {n ci k t idx N len tag : Nat} {fts : List Nat} {Cn : String} {T : u_T}
def dfv (t : Nat) : Value := if t = 0 then .int 0 else if t = 1 then .long 0 else .null
theorem addK_lo {kd : Kd} {a : Nat} (h : a ≠ (wK w).length) : (∀ b, wI (addK w kd) a b = wI w a b) ∧ (∀ b, wL (addK w kd) a b = wL w a b) ∧ (∀ b, wX (addK w kd) a b = wX w a b) := ⟨fun _ => if_neg h, fun _ => if_neg h, fun _ => if_neg h⟩
theorem addK_I0 {kd : Kd} {b : Nat} : wI (addK w kd) (wK w).length b = 0 := if_pos rfl
theorem addK_L0 {kd : Kd} {b : Nat} : wL (addK w kd) (wK w).length b = 0 := if_pos rfl
theorem addK_X0 {kd : Kd} {b : Nat} : wX (addK w kd) (wK w).length b = none := if_pos rfl
theorem wso_add {G : Gt} {kd : Kd} : wso G (addK w kd) = wso G w ++ [(gz G + (wK w).length, ent G (addK w kd) (wK w).length kd)] := by
  refine ws_ext fun k => ?_
  have hlen : (wso G w).length = (wK w).length := by rw [wso, wsF_len]
  have hk : wK (addK w kd) = wK w ++ [kd] := rfl
  rw [wso, wsF_get, hk]
  rcases Nat.lt_trichotomy k (wK w).length with h | h | h
  · rw [List.getElem?_append_left h, List.getElem?_append_left (by rw [hlen]; exact h), wso, wsF_get]
    cases hq : (wK w)[k]? with
    | none => rfl
    | some kq =>
      simp only [Option.map_some, Nat.zero_add]
      obtain ⟨a1, a2, a3⟩ := addK_lo (w := w) (kd := kd) (a := k) (by omega)
      rw [ent_ne (n := (wK w).length) (by omega) a1 a2 a3]
  · subst h
    rw [List.getElem?_append_right (Nat.le_refl _), List.getElem?_append_right (by rw [hlen]; exact Nat.le_refl _), hlen]
    simp
  · rw [List.getElem?_append_right (by omega), List.getElem?_append_right (by rw [hlen]; omega), hlen]
    have h1 : k - (wK w).length = (k - (wK w).length - 1) + 1 := by omega
    rw [h1]; simp
theorem add_world {H H1 : Heap} {locs : List Loc} {kd : Kd} (hW : Wd (xG x) w H) (hS : va_S (Az (xG x)) (xs x).heap H locs) (hz : gz (xG x) ≤ (xs x).heap.size) (he : va_at (gD (xG x)) vwCl (gz (xG x) + (wK w).length, ent (xG x) (addK w kd) (wK w).length kd) H1) (z : H1.size = H.size + 1) (o1 : ∀ q, q < H.size → H1[q]? = H[q]?) : Wd (xG x) (addK w kd) H1 ∧ va_S (Az (xG x)) (xs x).heap H1 locs := by
  have hk : ∀ (k : Nat) (q : Nat × va_E), (wso (xG x) w)[k]? = some q → H1[q.1]? = H[q.1]? := fun k q hq => o1 q.1 ((hW.1 k q hq).lt)
  refine ⟨⟨?_, ?_⟩, Nat.le_trans hS.1 (by omega), fun q h1 h2 => (o1 q (Nat.lt_of_lt_of_le h1 hS.1)).trans (hS.2.1 q h1 h2), hS.2.2⟩
  · rw [wso_add]
    refine (hW.1.kept hk).app (fun k q hq => ?_)
    have hz : k < 1 := (List.getElem?_eq_some_iff.mp hq).1
    rw [show k = 0 by omega] at hq
    cases hq
    exact he
  · rw [z, hW.2]
    show _ = gz (xG x) + (wK w ++ [kd]).length
    rw [List.length_append]; simp only [List.length_cons, List.length_nil]; omega
theorem r_new (C : Cx x cc nL own rm) (hc : vwCl[ci]? = some (Cn, T, N)) (hin : ∀ u ∈ u_ws Cn T N, u ∈ TT) (tyf : Nat → FieldType) (hty : ∀ k, k < N → parseFieldDescriptor (T k).2.2.1 = some (tyf k)) (hcl : Cond.classLink own idx Cn ∈ TT) (hinst : Cond.instantiable Cn N ∈ TT) (hini : Cond.initialized Cn ∈ TT) (fts : List Nat) (hdef : ∀ j, j < N → (fts[j]?).map dfv = some (defaultValue (tyf j))) (hcells : cells + 1 ≤ rm.cells) (hslots : slots + N ≤ rm.slots) (d : decode cc pc = .ok (.new idx, 3))
    (kk : ∀ w', w' = addK w (ci, .inl fts) → V x (cells + 1) (slots + N) w' (pc + 3) lv (.ref (gz (xG x) + (wK w).length) :: st)) : V x cells slots w pc lv st := by
  intro H locs ls hW hS hl
  have hKn := C.tk.1.1 ci _ hc
  refine W.newcK C.hx C.hb C.hown (C.hts _ hcl) (C.hts _ hinst) (C.hts _ hini) rfl d (by rw [C.hR]; exact hcells) (by rw [C.hR]; exact hslots) hKn.2.1 hW.2 fun H1 kC hkC e1 z1 o1 => ?_
  obtain ⟨a, b⟩ := add_world (kd := (ci, .inl fts)) hW hS C.hz ⟨_, hc, (u_born tyf C.hts hin hKn hkC e1 hty).to (fun j hj => by
    have h1 := hdef j hj
    show _ = vp_V (fvs (xG x) _ _ 0 fts) j
    rw [vp_V, List.getD_eq_getElem?_getD, fvs_get]
    cases ht : fts[j]? with
    | none => rw [ht] at h1; cases h1
    | some t =>
      rw [ht] at h1
      have h2 : dfv t = defaultValue (tyf j) := Option.some.inj h1
      rw [← h2]
      simp only [fv, dfv, Nat.zero_add, addK_I0, addK_L0, addK_X0]; rfl)⟩ (by rw [z1, hW.2]) (by rw [hW.2]; exact o1)
  exact kk _ rfl H1 locs ls a b hl
theorem find_inj {s : State} {nm : String} {a b : ClassId} (h1 : s.vm.findClass nm = some a) (h2 : s.vm.findClass nm = some b) : a = b := Option.some.inj (h1.symm.trans h2)
theorem r_newa (ty et tag : Nat) {atype : ArrayType} {n : Int32} (C : Cx x cc nL own rm) (harr : Cond.arrayClass (newarray.typeOf atype) ∈ TT) (hcls : ∀ cA : ClassId, (xs x).vm.findClass ("[" ++ (newarray.typeOf atype).toString) = some cA → cA = gT (xG x) ty) (hcell : ∀ cA : ClassId, arrV cA len (fun _ => defaultValue (newarray.typeOf atype)) = vp_cell cA (len, acn (xG x) (addK w (tag, .inr (ty, len, et))) (wK w).length et)) (hn : ¬ n < 0) (hN : n.toNatClampNeg = len) (hbytes : len * componentBytes (newarray.typeOf atype) ≤ 536870912) (hcells : cells + 1 ≤ rm.cells) (hslots : slots + len ≤ rm.slots) (d : decode cc pc = .ok (.newarray atype, 2))
    (kk : ∀ w', w' = addK w (tag, .inr (ty, len, et)) → V x (cells + 1) (slots + len) w' (pc + 2) lv (.ref (gz (xG x) + (wK w).length) :: st)) : V x cells slots w pc lv (.int n :: st) := by
  intro H locs ls hW hS hl
  refine va_newaK C.hx C.hb (C.hts _ harr) rfl d rfl hn hN hbytes (by rw [C.hR]; exact hcells) (by rw [C.hR]; exact hslots) hW.2 fun H1 cA e1 z1 o1 hAr hNm => ?_
  have hcA := hcls cA hNm
  subst hcA
  obtain ⟨a, b⟩ := add_world (kd := (tag, .inr (ty, len, et))) hW hS C.hz (by
    show H1[_]? = some (vp_cell _ _)
    rw [e1, hcell]) (by rw [z1, hW.2]) (by rw [hW.2]; exact o1)
  exact kk _ rfl H1 locs ls a b hl
theorem r_newI {n : Int32} (tag : Nat) (C : Cx x cc nL own rm) (harr : Cond.arrayClass (newarray.typeOf .int) ∈ TT) (hn : ¬ n < 0) (hN : n.toNatClampNeg = len) (hbytes : len * componentBytes (newarray.typeOf .int) ≤ 536870912) (hcells : cells + 1 ≤ rm.cells) (hslots : slots + len ≤ rm.slots) (d : decode cc pc = .ok (.newarray .int, 2))
    (kk : ∀ w', w' = addK w (tag, .inr (0, len, 0)) → V x (cells + 1) (slots + len) w' (pc + 2) lv (.ref (gz (xG x) + (wK w).length) :: st)) : V x cells slots w pc lv (.int n :: st) :=
  r_newa 0 0 tag C harr (fun cA h => find_inj h (C.tk.1.2 0 _ rfl).2) (fun cA => by
    show arrV cA len (fun _ => Value.int 0) = arrV cA len (fun j => .int (wI (addK w (tag, .inr (0, len, 0))) (wK w).length j))
    congr 1; funext j; rw [addK_I0]) hn hN hbytes hcells hslots d kk
theorem r_newZ {n : Int32} (tag : Nat) (C : Cx x cc nL own rm) (harr : Cond.arrayClass (newarray.typeOf .boolean) ∈ TT) (hn : ¬ n < 0) (hN : n.toNatClampNeg = len) (hbytes : len * componentBytes (newarray.typeOf .boolean) ≤ 536870912) (hcells : cells + 1 ≤ rm.cells) (hslots : slots + len ≤ rm.slots) (d : decode cc pc = .ok (.newarray .boolean, 2))
    (kk : ∀ w', w' = addK w (tag, .inr (1, len, 0)) → V x (cells + 1) (slots + len) w' (pc + 2) lv (.ref (gz (xG x) + (wK w).length) :: st)) : V x cells slots w pc lv (.int n :: st) :=
  r_newa 1 0 tag C harr (fun cA h => find_inj h (C.tk.1.2 1 _ rfl).2) (fun cA => by
    show arrV cA len (fun _ => Value.int 0) = arrV cA len (fun j => .int (wI (addK w (tag, .inr (1, len, 0))) (wK w).length j))
    congr 1; funext j; rw [addK_I0]) hn hN hbytes hcells hslots d kk
theorem r_newL {n : Int32} (tag : Nat) (C : Cx x cc nL own rm) (harr : Cond.arrayClass (newarray.typeOf .long) ∈ TT) (hn : ¬ n < 0) (hN : n.toNatClampNeg = len) (hbytes : len * componentBytes (newarray.typeOf .long) ≤ 536870912) (hcells : cells + 1 ≤ rm.cells) (hslots : slots + len ≤ rm.slots) (d : decode cc pc = .ok (.newarray .long, 2))
    (kk : ∀ w', w' = addK w (tag, .inr (2, len, 1)) → V x (cells + 1) (slots + len) w' (pc + 2) lv (.ref (gz (xG x) + (wK w).length) :: st)) : V x cells slots w pc lv (.int n :: st) :=
  r_newa 2 1 tag C harr (fun cA h => find_inj h (C.tk.1.2 2 _ rfl).2) (fun cA => by
    show arrV cA len (fun _ => Value.long 0) = arrV cA len (fun j => .long (wL (addK w (tag, .inr (2, len, 1))) (wK w).length j))
    congr 1; funext j; rw [addK_L0]) hn hN hbytes hcells hslots d kk
theorem r_newQ (ty tag : Nat) {cn : String} {n : Int32} (C : Cx x cc nL own rm) (hty : (tyo (xG x))[ty]? = some (gT (xG x) ty, .object cn)) (hao : va_AO cn (xs x)) (hcl : Cond.classLink own idx cn ∈ TT) (hn : ¬ n < 0) (hN : n.toNatClampNeg = len) (hbytes : len * 4 ≤ 536870912) (hcells : cells + 1 ≤ rm.cells) (hslots : slots + len ≤ rm.slots) (d : decode cc pc = .ok (.anewarray idx, 3))
    (kk : ∀ w', w' = addK w (tag, .inr (ty, len, 2)) → V x (cells + 1) (slots + len) w' (pc + 3) lv (.ref (gz (xG x) + (wK w).length) :: st)) : V x cells slots w pc lv (.int n :: st) := by
  intro H locs ls hW hS hl
  subst hN
  refine W.anew C.hx C.hb C.hown (C.hts _ hcl) (va_AO.use hao) rfl d rfl hn hbytes (by rw [C.hR]; exact hcells) (by rw [C.hR]; exact hslots) fun cA kA comp f1 f2 f3 f4 => ?_
  obtain ⟨kA', comp', -, -, -, g4⟩ := (C.tk.1.2 ty _ hty).2
  have hcA := find_inj f1 g4
  subst hcA
  obtain ⟨a, b⟩ := add_world (kd := (tag, .inr (ty, n.toNatClampNeg, 2))) (H1 := H.push ({ cls := gT (xG x) ty, slots := Array.replicate n.toNatClampNeg .null, vm := .none } : Cell)) hW hS C.hz (by
    show (H.push _)[gz (xG x) + (wK w).length]? = some (vp_cell _ _)
    rw [← hW.2, Array.getElem?_push_size, arrV_new]
    show some (arrV _ _ _) = some (arrV _ _ (fun j => va_rf (adr (xG x) (wX (addK w _) (wK w).length j))))
    congr 2; funext j; rw [addK_X0]; rfl) (by rw [Array.size_push]) (fun q hq => by rw [Array.getElem?_push, if_neg (Nat.ne_of_lt hq)])
  have := kk _ rfl _ locs ls a b hl
  rw [← hW.2] at this
  exact this
theorem r_aast {i : Int32} {q : Nat} (ty : Nat) {cn : String} {fts : List Nat} (C : Cx x cc nL own rm) (hty : (tyo (xG x))[ty]? = some (gT (xG x) ty, .object cn)) (hn : (wK w)[n]? = some (tag, .inr (ty, len, 2))) (hq : (wK w)[q]? = some (ci, .inl fts)) (hc : vwCl[ci]? = some (cn, T, N)) (hi : vp_in i len) (d : decode cc pc = .ok (.aastore, 1))
    (kk : ∀ w', w' = setX w n i.toNatClampNeg (some q) → V x cells slots w' (pc + 1) lv st) : V x cells slots w pc lv (.ref (gz (xG x) + q) :: .int i :: .ref (gz (xG x) + n) :: st) := by
  intro H locs ls hW hS hl
  have hlt : i.toNatClampNeg < len := Nat.not_le.mp fun z => hi (Or.inr z)
  have h0 : ¬ i < 0 := fun z => hi (Or.inl z)
  obtain ⟨r', hr', cellV, g1, g2, g3, -⟩ := hW.1 q _ (wso_get hq)
  have hcls := (C.tk.1.1 ci _ hc).2
  obtain ⟨kA, comp, k1, k2, k3, -⟩ := (C.tk.1.2 ty _ hty).2
  have hcomp : comp = (gD (xG x)).1 ci := Option.some.inj (k3.symm.trans hcls.1)
  subst hcomp
  obtain ⟨kC, hkC, -⟩ := hcls.2
  have hcell : H[gz (xG x) + n]? = some (arrV (gT (xG x) ty) len (fun j => va_rf (adr (xG x) (wX w n j)))) := hW.1 n _ (wso_get hn)
  refine W.aast C.hx C.hb hcell (fun q h => by cases h) (fun h => by cases h) k1 k2 rfl hkC ⟨h0, by rw [arrV_size]; exact hlt⟩ g1 (fun q h => by rw [g3] at h; cases h) (by rw [g2]; exact hkC) (by rw [g2]; exact va_assign hcls) rfl rfl d fun H1 e z oq => ?_
  obtain ⟨a, b⟩ := aset (w' := setX w n i.toNatClampNeg (some q)) (j := i.toNatClampNeg) hW hS hn rfl setX_off (by
    rw [e]
    show some ((arrV (gT (xG x) ty) len (fun j => va_rf (adr (xG x) (wX w n j)))).setSlot i.toNatClampNeg (.ref (gz (xG x) + q))) = some (arrV (gT (xG x) ty) len (fun j => va_rf (adr (xG x) (wX (setX w n i.toNatClampNeg (some q)) n j))))
    rw [arrV_store]
    congr 2
    funext j
    show updV _ _ _ j = va_rf (adr (xG x) (up2 (wX w) n _ _ n j))
    by_cases hj : j = i.toNatClampNeg
    · subst hj; simp [updV, up2, adr, va_rf]
    · simp [updV, up2, hj]) z oq
  exact kk _ rfl H1 _ ls a b hl
theorem r_objInit {a : Nat} (C : Cx x cc nL own rm) (hlink : Cond.methodLink own idx Lib.objectInit ∈ TT) (hinst : Cond.instanceMethod Lib.objectInit ∈ TT) (hcode : Cond.code Lib.objectInit ⟨#[0xb1]⟩ 1 none ∈ TT) (hfr : 1 ≤ rm.frames) (hlo : (st.map fun v => v.category).sum + 12 ≤ rm.locals) (d : decode cc pc = .ok (.invokespecial idx, 3)) (kk : V x cells slots w (pc + 3) lv st) : V x cells slots w pc lv (.ref a :: st) :=
  fun H locs ls hW hS hl => W.objInit C.hx C.hb C.hown (C.hts _ hlink) (C.hts _ hinst) (C.hts _ hcode) rfl (by rw [C.hml]; exact hl.1.trans C.hn) rfl d (by rw [C.hR]; exact hfr) (by rw [C.hR]; show 2 * 0 + _ + 12 ≤ _; omega) (kk H locs ls hW hS hl)
theorem r_mmax {a b : Int32} (C : Cx x cc nL own rm) (hlink : Cond.methodLink own idx Lib.Math.max.name ∈ TT) (hstat : Cond.static Lib.Math.max.name ∈ TT) (hini : Cond.initialized "java/lang/Math" ∈ TT) (hcode : Cond.code Lib.Math.max.name Lib.Math.max.code 2 (some .int) ∈ TT) (hfr : 1 ≤ rm.frames) (hlo : (st.map fun v => v.category).sum + 13 ≤ rm.locals) (hc : cells ≤ rm.cells) (hs : slots ≤ rm.slots) (d : decode cc pc = .ok (.invokestatic idx, 3)) (kk : ∀ v : Int32, v = (if a < b then b else a) → V x cells slots w (pc + 3) lv (.int v :: st)) : V x cells slots w pc lv (.int b :: .int a :: st) :=
  fun H locs ls hW hS hl => va_mmax C.hx C.hb (by rw [C.hml]; exact (hl.1.trans C.hn).symm) C.hown (C.hts _ hlink) (C.hts _ hstat) (C.hts _ hini) (C.hts _ hcode) (by rw [C.hR]; exact hfr) (by rw [C.hR]; exact hlo) (by rw [C.hR]; exact hc) (by rw [C.hR]; exact hs) d (kk _ rfl H locs ls hW hS hl)
theorem r_mmin {a b : Int32} (C : Cx x cc nL own rm) (hlink : Cond.methodLink own idx Lib.Math.min.name ∈ TT) (hstat : Cond.static Lib.Math.min.name ∈ TT) (hini : Cond.initialized "java/lang/Math" ∈ TT) (hcode : Cond.code Lib.Math.min.name Lib.Math.min.code 2 (some .int) ∈ TT) (hfr : 1 ≤ rm.frames) (hlo : (st.map fun v => v.category).sum + 13 ≤ rm.locals) (hc : cells ≤ rm.cells) (hs : slots ≤ rm.slots) (d : decode cc pc = .ok (.invokestatic idx, 3)) (kk : ∀ v : Int32, v = (if b < a then b else a) → V x cells slots w (pc + 3) lv (.int v :: st)) : V x cells slots w pc lv (.int b :: .int a :: st) :=
  fun H locs ls hW hS hl => va_mmin C.hx C.hb (by rw [C.hml]; exact (hl.1.trans C.hn).symm) C.hown (C.hts _ hlink) (C.hts _ hstat) (C.hts _ hini) (C.hts _ hcode) (by rw [C.hR]; exact hfr) (by rw [C.hR]; exact hlo) (by rw [C.hR]; exact hc) (by rw [C.hR]; exact hs) d (kk _ rfl H locs ls hW hS hl)
end NEWROWS
/-! contracts -/
abbrev wo (y : MethodName) (cc : ByteArray) (n : Nat) (ret : Option FieldType) : List Cond := Cond.code y cc n ret :: TT
theorem gd {y : MethodName} {cc : ByteArray} {n : Nat} {ret : Option FieldType} (h : Cond.code y cc n ret ∈ TT) : GoodIn TT (wo y cc n ret) := fun u hu => (List.mem_cons.mp hu).elim (fun e => by subst e; exact tt_good _ h) (fun e => tt_good _ e)
def Pre (G : Gt) (av : List Value) (w : Wv) : Array Value → State → Prop := va_Pc av (fun U => Wd G w U.heap ∧ Tk G U)
def Pst (G : Gt) : Wv → State → Prop := fun w' t => Wd G w' t.heap
def CtI (l : Launch) (G : Gt) (y : MethodName) (cc : ByteArray) (n : Nat) (ty : FieldType) (rm : Room) (av : List Value) (w : Wv) (post : Int32 → Wv → Prop) : Prop := Met l y (wo y cc n (some ty)) rm (Pre G av w) (va_Qi post (Pst G) (Az G)) rm.cells rm.slots (Az G)
def CtL (l : Launch) (G : Gt) (y : MethodName) (cc : ByteArray) (n : Nat) (rm : Room) (av : List Value) (w : Wv) (post : Int64 → Wv → Prop) : Prop := Met l y (wo y cc n (some .long)) rm (Pre G av w) (va_Ql post (Pst G) (Az G)) rm.cells rm.slots (Az G)
def CtV (l : Launch) (G : Gt) (y : MethodName) (cc : ByteArray) (n : Nat) (rm : Room) (av : List Value) (w : Wv) (post : Wv → Prop) : Prop := Met l y (wo y cc n none) rm (Pre G av w) (va_Qv post (Pst G) (Az G)) rm.cells rm.slots (Az G)
theorem Pre.blind {G : Gt} {av : List Value} {w : Wv} : FrameBlind (Pre G av w) := fun a U g mk q => by
  obtain ⟨q0, qP, qK⟩ := q
  exact ⟨q0, qP, Tk.same (u := U) (U := U.calling g mk a) qK rfl rfl⟩
section ENTER
variable {l : Launch} {G : Gt} {y : MethodName} {cc : ByteArray} {n : Nat} {rm : Room} {av : List Value} {w : Wv}
theorem enterI {ty : FieldType} {post : Int32 → Wv → Prop} (hy : plainName y.cls = true) (hlen : (lg_sl av).length ≤ n) (body : ∀ x : Ct, xl x = l → xG x = G → Cx x cc n y.cls rm → (∀ (v : Int32) (w' : Wv) (pc : Nat) (lv : List (Nat × Value)), decode cc pc = .ok (.ireturn, 1) → narrow ty (.int v) = .int v → post v w' → V x rm.cells rm.slots w' pc lv [.int v]) → V x 0 0 w 0 (lv_args 0 av) []) : CtI l G y cc n ty rm av w post := by
  refine Met.ofW (cc := cc) (maxL := n) (ret := some ty) hy rfl ?_
  intro p e s m args below meth c s₁ B hml hv
  obtain ⟨rfl, hWd, hTk⟩ := hv
  have hts := atoms_spec (ws := wo y cc n (some ty)) B.pre
  rw [lg_entry_eq]
  refine body (p, l, e, rm, s, m, av.toArray, below, meth, c, G, n, MQ below (va_Qi post (Pst G) (Az G)) av.toArray s rm.cells rm.slots (Az G)) rfl rfl ⟨B.exec, B.bytes, hml, findClass_of_methodNamed B.named, fun u hu => hts u (List.mem_cons_of_mem _ hu), hTk, by rw [hWd.2]; exact Nat.le_add_right _ _, rfl, rfl⟩ ?_ s.heap [] _ hWd va_S.rf (lv_entry av hlen)
  intro v w' pc lv d hn hp H locs ls hW hS hl
  exact W.zret B.exec B.bytes B.returns hn (fun t ht hWm => ⟨⟨v, w', rfl, hp, by rw [Pst, ht]; exact hW⟩, hS.F ht⟩) hS.2.2 d
theorem enterL {post : Int64 → Wv → Prop} (hy : plainName y.cls = true) (hlen : (lg_sl av).length ≤ n) (body : ∀ x : Ct, xl x = l → xG x = G → Cx x cc n y.cls rm → (∀ (v : Int64) (w' : Wv) (pc : Nat) (lv : List (Nat × Value)), decode cc pc = .ok (.lreturn, 1) → post v w' → V x rm.cells rm.slots w' pc lv [.long v]) → V x 0 0 w 0 (lv_args 0 av) []) : CtL l G y cc n rm av w post := by
  refine Met.ofW (cc := cc) (maxL := n) (ret := some .long) hy rfl ?_
  intro p e s m args below meth c s₁ B hml hv
  obtain ⟨rfl, hWd, hTk⟩ := hv
  have hts := atoms_spec (ws := wo y cc n (some .long)) B.pre
  rw [lg_entry_eq]
  refine body (p, l, e, rm, s, m, av.toArray, below, meth, c, G, n, MQ below (va_Ql post (Pst G) (Az G)) av.toArray s rm.cells rm.slots (Az G)) rfl rfl ⟨B.exec, B.bytes, hml, findClass_of_methodNamed B.named, fun u hu => hts u (List.mem_cons_of_mem _ hu), hTk, by rw [hWd.2]; exact Nat.le_add_right _ _, rfl, rfl⟩ ?_ s.heap [] _ hWd va_S.rf (lv_entry av hlen)
  intro v w' pc lv d hp H locs ls hW hS hl
  exact W.lret B.exec B.bytes B.returns (fun t ht hWm => ⟨⟨v, w', rfl, hp, by rw [Pst, ht]; exact hW⟩, hS.F ht⟩) hS.2.2 d
theorem enterV {post : Wv → Prop} (hy : plainName y.cls = true) (hlen : (lg_sl av).length ≤ n) (body : ∀ x : Ct, xl x = l → xG x = G → Cx x cc n y.cls rm → (xM x).name = y.name → (∀ (w' : Wv) (pc : Nat) (lv : List (Nat × Value)), decode cc pc = .ok (.return_, 1) → post w' → V x rm.cells rm.slots w' pc lv []) → V x 0 0 w 0 (lv_args 0 av) []) : CtV l G y cc n rm av w post := by
  refine Met.ofW (cc := cc) (maxL := n) (ret := none) hy rfl ?_
  intro p e s m args below meth c s₁ B hml hv
  obtain ⟨rfl, hWd, hTk⟩ := hv
  have hts := atoms_spec (ws := wo y cc n none) B.pre
  rw [lg_entry_eq]
  refine body (p, l, e, rm, s, m, av.toArray, below, meth, c, G, n, MQ below (va_Qv post (Pst G) (Az G)) av.toArray s rm.cells rm.slots (Az G)) rfl rfl ⟨B.exec, B.bytes, hml, findClass_of_methodNamed B.named, fun u hu => hts u (List.mem_cons_of_mem _ hu), hTk, by rw [hWd.2]; exact Nat.le_add_right _ _, rfl, rfl⟩ (name_of_methodNamed B.named B.method).1 ?_ s.heap [] _ hWd va_S.rf (lv_entry av hlen)
  intro w' pc lv d hp H locs ls hW hS hl
  exact W.vret B.exec B.bytes B.returns (fun t ht hWm => ⟨⟨w', rfl, hp, by rw [Pst, ht]; exact hW⟩, hS.F ht⟩) hS.2.2 d
end ENTER
section CALLS
variable {x : Ct} {cc cb : ByteArray} {nL nb np cells slots pc n ci idx N : Nat} {own Cn : String} {rm rc : Room} {w : Wv} {lv : List (Nat × Value)} {st stk As : List Value} {y : MethodName} {fts : List Nat} {T : u_T}
abbrev dok (y : MethodName) (np : Nat) : Prop := y.cls ≠ "java/lang/invoke/MethodHandle" ∧ y.cls ≠ "java/lang/invoke/VarHandle" ∧ (parseMethodDescriptor y.desc).map (fun d => d.parameters.length) = some np
abbrev rok (rc rm : Room) (nb : Nat) : Prop := rc.frames + 1 ≤ rm.frames ∧ 8 + (nb + 11) + rc.locals ≤ rm.locals
/-- the words of a call -/
def CwV (own : String) (idx : Nat) (Cn : String) (y : MethodName) (cb : ByteArray) (nb : Nat) (ret : Option FieldType) (np : Nat) : Prop := Cond.methodLink own idx y ∈ TT ∧ Cond.instanceMethod y ∈ TT ∧ Cond.selects Cn y y ∈ TT ∧ Cond.initialized y.cls ∈ TT ∧ Cond.code y cb nb ret ∈ TT ∧ dok y np
def CwS (own : String) (idx : Nat) (y : MethodName) (cb : ByteArray) (nb : Nat) (ret : Option FieldType) (np : Nat) : Prop := Cond.methodLink own idx y ∈ TT ∧ Cond.static y ∈ TT ∧ Cond.initialized y.cls ∈ TT ∧ Cond.code y cb nb ret ∈ TT ∧ dok y np
def CwI (own : String) (idx : Nat) (y : MethodName) (cb : ByteArray) (nb : Nat) (np : Nat) : Prop := Cond.methodLink own idx y ∈ TT ∧ Cond.instanceMethod y ∈ TT ∧ Cond.initialized y.cls ∈ TT ∧ Cond.code y cb nb none ∈ TT ∧ dok y np ∧ y.name = "<init>"
theorem callVI {ty : FieldType} {post : Int32 → Wv → Prop} (C : Cx x cc nL own rm) (cw : CwV own idx Cn y cb nb (some ty) np) (hM : CtI (xl x) (xG x) y cb nb ty rc (.ref (gz (xG x) + n) :: As) w post) (hR : rok rc rm nb) (hn : (wK w)[n]? = some (ci, .inl fts)) (hc : vwCl[ci]? = some (Cn, T, N)) (hst : stk = As.reverse ++ .ref (gz (xG x) + n) :: st) (hA : As.length = np) (hro : (st.map fun v => v.category).sum ≤ 8) (hf : cells + rc.cells ≤ rm.cells ∧ slots + rc.slots ≤ rm.slots) (d : decode cc pc = .ok (.invokevirtual idx, 3))
    (kk : ∀ (r : Int32) (w' : Wv), post r w' → V x (cells + rc.cells) (slots + rc.slots) w' (pc + 3) lv (.int r :: st)) : V x cells slots w pc lv stk := by
  intro H locs ls hW hS hl
  obtain ⟨c1, c2, c3, c4, c5, c6⟩ := cw
  refine va_calli (va_runV (As := As) (rest := st) ⟨C.hx, C.hb, C.hml, C.hown, C.hts⟩ hM ⟨callB_of np C.hts (gd c5) rfl rfl rfl (C.hts _ c4) (C.hts _ c1) c6 (by rw [C.hR]; exact hR), C.hts _ c2, C.hts _ c3⟩ ⟨Pre.blind, va_recv C.tk.1 hW.1 hc (wso_get hn), fun U hU hWm => ⟨rfl, by rw [hU]; exact hW, C.tk.at hWm (by rw [hU]; exact hS.2.1)⟩⟩ rfl hA (hl.1.trans C.hn) hst (lv_room hro) d (by rw [C.hR]; exact hf)) hS (fun q _ h => h) (fun q h => h) (fun r u t H1 locs1 ht hvm hp hB hz1 hk1 hS1 => kk r u hp H1 locs1 ls (by rw [← ht]; exact hB) hS1 hl)
theorem callVL {post : Int64 → Wv → Prop} (C : Cx x cc nL own rm) (cw : CwV own idx Cn y cb nb (some .long) np) (hM : CtL (xl x) (xG x) y cb nb rc (.ref (gz (xG x) + n) :: As) w post) (hR : rok rc rm nb) (hn : (wK w)[n]? = some (ci, .inl fts)) (hc : vwCl[ci]? = some (Cn, T, N)) (hst : stk = As.reverse ++ .ref (gz (xG x) + n) :: st) (hA : As.length = np) (hro : (st.map fun v => v.category).sum ≤ 8) (hf : cells + rc.cells ≤ rm.cells ∧ slots + rc.slots ≤ rm.slots) (d : decode cc pc = .ok (.invokevirtual idx, 3))
    (kk : ∀ (r : Int64) (w' : Wv), post r w' → V x (cells + rc.cells) (slots + rc.slots) w' (pc + 3) lv (.long r :: st)) : V x cells slots w pc lv stk := by
  intro H locs ls hW hS hl
  obtain ⟨c1, c2, c3, c4, c5, c6⟩ := cw
  refine va_calll (va_runV (As := As) (rest := st) ⟨C.hx, C.hb, C.hml, C.hown, C.hts⟩ hM ⟨callB_of np C.hts (gd c5) rfl rfl rfl (C.hts _ c4) (C.hts _ c1) c6 (by rw [C.hR]; exact hR), C.hts _ c2, C.hts _ c3⟩ ⟨Pre.blind, va_recv C.tk.1 hW.1 hc (wso_get hn), fun U hU hWm => ⟨rfl, by rw [hU]; exact hW, C.tk.at hWm (by rw [hU]; exact hS.2.1)⟩⟩ rfl hA (hl.1.trans C.hn) hst (lv_room hro) d (by rw [C.hR]; exact hf)) hS (fun q _ h => h) (fun q h => h) (fun r u t H1 locs1 ht hvm hp hB hz1 hk1 hS1 => kk r u hp H1 locs1 ls (by rw [← ht]; exact hB) hS1 hl)
theorem callVV {post : Wv → Prop} (C : Cx x cc nL own rm) (cw : CwV own idx Cn y cb nb none np) (hM : CtV (xl x) (xG x) y cb nb rc (.ref (gz (xG x) + n) :: As) w post) (hR : rok rc rm nb) (hn : (wK w)[n]? = some (ci, .inl fts)) (hc : vwCl[ci]? = some (Cn, T, N)) (hst : stk = As.reverse ++ .ref (gz (xG x) + n) :: st) (hA : As.length = np) (hro : (st.map fun v => v.category).sum ≤ 8) (hf : cells + rc.cells ≤ rm.cells ∧ slots + rc.slots ≤ rm.slots) (d : decode cc pc = .ok (.invokevirtual idx, 3))
    (kk : ∀ (w' : Wv), post w' → V x (cells + rc.cells) (slots + rc.slots) w' (pc + 3) lv st) : V x cells slots w pc lv stk := by
  intro H locs ls hW hS hl
  obtain ⟨c1, c2, c3, c4, c5, c6⟩ := cw
  refine va_callv (va_runV (As := As) (rest := st) ⟨C.hx, C.hb, C.hml, C.hown, C.hts⟩ hM ⟨callB_of np C.hts (gd c5) rfl rfl rfl (C.hts _ c4) (C.hts _ c1) c6 (by rw [C.hR]; exact hR), C.hts _ c2, C.hts _ c3⟩ ⟨Pre.blind, va_recv C.tk.1 hW.1 hc (wso_get hn), fun U hU hWm => ⟨rfl, by rw [hU]; exact hW, C.tk.at hWm (by rw [hU]; exact hS.2.1)⟩⟩ rfl hA (hl.1.trans C.hn) hst (lv_room hro) d (by rw [C.hR]; exact hf)) hS (fun q _ h => h) (fun q h => h) (fun u t H1 locs1 ht hvm hp hB hz1 hk1 hS1 => kk u hp H1 locs1 ls (by rw [← ht]; exact hB) hS1 hl)
theorem callIV {post : Wv → Prop} {b : Nat} (C : Cx x cc nL own rm) (cw : CwI own idx y cb nb np) (hM : CtV (xl x) (xG x) y cb nb rc (.ref b :: As) w post) (hR : rok rc rm nb) (hst : stk = As.reverse ++ .ref b :: st) (hA : As.length = np) (hro : (st.map fun v => v.category).sum ≤ 8) (hf : cells + rc.cells ≤ rm.cells ∧ slots + rc.slots ≤ rm.slots) (d : decode cc pc = .ok (.invokespecial idx, 3))
    (kk : ∀ (w' : Wv), post w' → V x (cells + rc.cells) (slots + rc.slots) w' (pc + 3) lv st) : V x cells slots w pc lv stk := by
  intro H locs ls hW hS hl
  obtain ⟨c1, c2, c4, c5, c6, c7⟩ := cw
  refine va_callv (va_runI (As := As) (rest := st) ⟨C.hx, C.hb, C.hml, C.hown, C.hts⟩ hM ⟨callB_of np C.hts (gd c5) rfl rfl rfl (C.hts _ c4) (C.hts _ c1) c6 (by rw [C.hR]; exact hR), c7, C.hts _ c2⟩ ⟨Pre.blind, fun U hU hWm => ⟨rfl, by rw [hU]; exact hW, C.tk.at hWm (by rw [hU]; exact hS.2.1)⟩⟩ rfl hA (hl.1.trans C.hn) hst (lv_room hro) d (by rw [C.hR]; exact hf)) hS (fun q _ h => h) (fun q h => h) (fun u t H1 locs1 ht hvm hp hB hz1 hk1 hS1 => kk u hp H1 locs1 ls (by rw [← ht]; exact hB) hS1 hl)
theorem callSI {ty : FieldType} {post : Int32 → Wv → Prop} (C : Cx x cc nL own rm) (cw : CwS own idx y cb nb (some ty) np) (hM : CtI (xl x) (xG x) y cb nb ty rc As w post) (hR : rok rc rm nb) (hst : stk = As.reverse ++ st) (hA : As.length = np) (hro : (st.map fun v => v.category).sum ≤ 8) (hf : cells + rc.cells ≤ rm.cells ∧ slots + rc.slots ≤ rm.slots) (d : decode cc pc = .ok (.invokestatic idx, 3))
    (kk : ∀ (r : Int32) (w' : Wv), post r w' → V x (cells + rc.cells) (slots + rc.slots) w' (pc + 3) lv (.int r :: st)) : V x cells slots w pc lv stk := by
  intro H locs ls hW hS hl
  obtain ⟨c1, c2, c4, c5, c6⟩ := cw
  refine va_calli (va_runS (As := As) (rest := st) ⟨C.hx, C.hb, C.hml, C.hown, C.hts⟩ hM ⟨callB_of np C.hts (gd c5) rfl rfl rfl (C.hts _ c4) (C.hts _ c1) c6 (by rw [C.hR]; exact hR), C.hts _ c2⟩ ⟨Pre.blind, fun U hU hWm => ⟨rfl, by rw [hU]; exact hW, C.tk.at hWm (by rw [hU]; exact hS.2.1)⟩⟩ rfl hA (hl.1.trans C.hn) hst (lv_room hro) d (by rw [C.hR]; exact hf)) hS (fun q _ h => h) (fun q h => h) (fun r u t H1 locs1 ht hvm hp hB hz1 hk1 hS1 => kk r u hp H1 locs1 ls (by rw [← ht]; exact hB) hS1 hl)
theorem callSL {post : Int64 → Wv → Prop} (C : Cx x cc nL own rm) (cw : CwS own idx y cb nb (some .long) np) (hM : CtL (xl x) (xG x) y cb nb rc As w post) (hR : rok rc rm nb) (hst : stk = As.reverse ++ st) (hA : As.length = np) (hro : (st.map fun v => v.category).sum ≤ 8) (hf : cells + rc.cells ≤ rm.cells ∧ slots + rc.slots ≤ rm.slots) (d : decode cc pc = .ok (.invokestatic idx, 3))
    (kk : ∀ (r : Int64) (w' : Wv), post r w' → V x (cells + rc.cells) (slots + rc.slots) w' (pc + 3) lv (.long r :: st)) : V x cells slots w pc lv stk := by
  intro H locs ls hW hS hl
  obtain ⟨c1, c2, c4, c5, c6⟩ := cw
  refine va_calll (va_runS (As := As) (rest := st) ⟨C.hx, C.hb, C.hml, C.hown, C.hts⟩ hM ⟨callB_of np C.hts (gd c5) rfl rfl rfl (C.hts _ c4) (C.hts _ c1) c6 (by rw [C.hR]; exact hR), C.hts _ c2⟩ ⟨Pre.blind, fun U hU hWm => ⟨rfl, by rw [hU]; exact hW, C.tk.at hWm (by rw [hU]; exact hS.2.1)⟩⟩ rfl hA (hl.1.trans C.hn) hst (lv_room hro) d (by rw [C.hR]; exact hf)) hS (fun q _ h => h) (fun q h => h) (fun r u t H1 locs1 ht hvm hp hB hz1 hk1 hS1 => kk r u hp H1 locs1 ls (by rw [← ht]; exact hB) hS1 hl)
end CALLS
/-! String constants -/
section STRINGS
variable {x : Ct} {cc cb : ByteArray} {nL nb np cells slots pc idx i : Nat} {own : String} {rm rc : Room} {w : Wv} {lv lv' : List (Nat × Value)} {st stk As : List Value} {y : MethodName}
theorem Cx.tks (C : Cx x cc nL own rm) : TkS (xG x) (xs x) (xs x).heap := C.tk.2.2.2
theorem r_ldcS (i : Nat) (hi : i < 8) (C : Cx x cc nL "HeardTunes$Reader" rm) (hx : sIdx.getD i 0 = idx) (d : decode cc pc = .ok (.ldc idx, 2)) (k : V x cells slots w (pc + 2) lv (.ref (gK (xG x) i) :: st)) : V x cells slots w pc lv st := by
  intro H locs ls hW hS hl
  have h := C.tks.2.1 i hi
  rw [hx] at h
  exact va_ldcS C.hx C.hb C.hown h d (k H locs ls hW hS hl)
theorem r_sgetV (hi : i < 8) (C : Cx x cc nL own rm) (hlink : Cond.fieldLink own idx "java/lang/String" "value" "[B" ∈ TT) (d : decode cc pc = .ok (.getfield idx, 3)) (k : V x cells slots w (pc + 3) lv (.ref (gV (xG x) i) :: st)) : V x cells slots w pc lv (.ref (gK (xG x) i) :: st) :=
  fun H locs ls hW hS hl => vk_getf C.hx C.hb (C.tks.1.1 i hi).2.2.1 hS C.hown (C.hts _ hlink) (fun _ h => h) d (k H locs ls hW hS hl)
theorem r_sgetC (hi : i < 8) (C : Cx x cc nL own rm) (hlink : Cond.fieldLink own idx "java/lang/String" "coder" "B" ∈ TT) (d : decode cc pc = .ok (.getfield idx, 3)) (k : V x cells slots w (pc + 3) lv (.int 0 :: st)) : V x cells slots w pc lv (.ref (gK (xG x) i) :: st) :=
  fun H locs ls hW hS hl => vk_getf C.hx C.hb (C.tks.1.1 i hi).2.1 hS C.hown (C.hts _ hlink) (fun _ h => h) d (k H locs ls hW hS hl)
theorem r_scompact (C : Cx x cc nL own rm) (hlink : Cond.fieldLink own idx "java/lang/String" "COMPACT_STRINGS" "Z" ∈ TT) (d : decode cc pc = .ok (.getstatic idx, 3)) (k : V x cells slots w (pc + 3) lv (.int 1 :: st)) : V x cells slots w pc lv st :=
  fun H locs ls hW hS hl => va_gets C.hx C.hb C.tks.2.2.1 hS C.hown (C.hts _ hlink) (fun _ h => h) d (k H locs ls hW hS hl)
theorem r_slen8 (hi : i < 8) (C : Cx x cc nL own rm) (d : decode cc pc = .ok (.arraylength, 1)) (k : V x cells slots w (pc + 1) lv (.int (nI (sLen.getD i 0)) :: st)) : V x cells slots w pc lv (.ref (gV (xG x) i) :: st) :=
  fun H locs ls hW hS hl => va_tlen C.hx C.hb (C.tks.1.1 i hi).2.2.2 hS rfl d (k H locs ls hW hS hl)
theorem r_sbald (hi : i < 8) {j : Int32} (C : Cx x cc nL own rm) (hj : vp_in j (sLen.getD i 0)) (d : decode cc pc = .ok (.baload, 1)) (k : ∀ v : Int32, V x cells slots w (pc + 1) lv (.int v :: st)) : V x cells slots w pc lv (.int j :: .ref (gV (xG x) i) :: st) :=
  fun H locs ls hW hS hl => va_tb C.hx C.hb (C.tks.1.1 i hi).2.2.2 hS hj rfl d (k _ H locs ls hW hS hl)
theorem r_i2c {a : Int32} (C : Cx x cc nL own rm) (d : decode cc pc = .ok (.i2c, 1)) (k : ∀ v : Int32, v = (a.toUInt32 % 65536).toInt32 → V x cells slots w (pc + 1) lv (.int v :: st)) : V x cells slots w pc lv (.int a :: st) :=
  fun H locs ls hW hS hl => lv_i2c C.hx C.hb d rfl (k _ rfl H locs ls hW hS hl)
/-- a call of a String constant's method -/
theorem callKI {ty : FieldType} {post : Int32 → Wv → Prop} (hi : i < 8) (C : Cx x cc nL own rm) (cw : CwV own idx "java/lang/String" y cb nb (some ty) np) (hM : CtI (xl x) (xG x) y cb nb ty rc (.ref (gK (xG x) i) :: As) w post) (hR : rok rc rm nb) (hst : stk = As.reverse ++ .ref (gK (xG x) i) :: st) (hA : As.length = np) (hro : (st.map fun v => v.category).sum ≤ 8) (hf : cells + rc.cells ≤ rm.cells ∧ slots + rc.slots ≤ rm.slots) (d : decode cc pc = .ok (.invokevirtual idx, 3))
    (kk : ∀ (r : Int32) (w' : Wv), post r w' → V x (cells + rc.cells) (slots + rc.slots) w' (pc + 3) lv (.int r :: st)) : V x cells slots w pc lv stk := by
  intro H locs ls hW hS hl
  obtain ⟨c1, c2, c3, c4, c5, c6⟩ := cw
  refine va_calli (va_runV (As := As) (rest := st) ⟨C.hx, C.hb, C.hml, C.hown, C.hts⟩ hM ⟨callB_of np C.hts (gd c5) rfl rfl rfl (C.hts _ c4) (C.hts _ c1) c6 (by rw [C.hR]; exact hR), C.hts _ c2, C.hts _ c3⟩ ⟨Pre.blind, vk_recv C.tks.1 hi hS, fun U hU hWm => ⟨rfl, by rw [hU]; exact hW, C.tk.at hWm (by rw [hU]; exact hS.2.1)⟩⟩ rfl hA (hl.1.trans C.hn) hst (lv_room hro) d (by rw [C.hR]; exact hf)) hS (fun q _ h => h) (fun q h => h) (fun r u t H1 locs1 ht hvm hp hB hz1 hk1 hS1 => kk r u hp H1 locs1 ls (by rw [← ht]; exact hB) hS1 hl)
theorem callSV0 {post : Wv → Prop} (C : Cx x cc nL own rm) (cw : CwS own idx y cb nb none np) (hM : CtV (xl x) (xG x) y cb nb rc As w post) (hR : rok rc rm nb) (hst : stk = As.reverse ++ st) (hA : As.length = np) (hro : (st.map fun v => v.category).sum ≤ 8) (hf : cells + rc.cells ≤ rm.cells ∧ slots + rc.slots ≤ rm.slots) (d : decode cc pc = .ok (.invokestatic idx, 3))
    (kk : ∀ (w' : Wv), post w' → V x (cells + rc.cells) (slots + rc.slots) w' (pc + 3) lv st) : V x cells slots w pc lv stk := by
  intro H locs ls hW hS hl
  obtain ⟨c1, c2, c4, c5, c6⟩ := cw
  refine va_callv (va_runS (As := As) (rest := st) ⟨C.hx, C.hb, C.hml, C.hown, C.hts⟩ hM ⟨callB_of np C.hts (gd c5) rfl rfl rfl (C.hts _ c4) (C.hts _ c1) c6 (by rw [C.hR]; exact hR), C.hts _ c2⟩ ⟨Pre.blind, fun U hU hWm => ⟨rfl, by rw [hU]; exact hW, C.tk.at hWm (by rw [hU]; exact hS.2.1)⟩⟩ rfl hA (hl.1.trans C.hn) hst (lv_room hro) d (by rw [C.hR]; exact hf)) hS (fun q _ h => h) (fun q h => h) (fun u t H1 locs1 ht hvm hp hB hz1 hk1 hS1 => kk u hp H1 locs1 ls (by rw [← ht]; exact hB) hS1 hl)
end STRINGS
