/-! THE FRAME: a world is a list of kinds of cells (cell n lies at z + n), with what the cells hold as functions of cell and place; the judgement V hides the heap -/
theorem tp_sel {q : MethodName × Nat} (h : q ∈ lw_privs) (g : goodWord (Cond.selects q.1.cls q.1 q.1) = true) : Cond.selects q.1.cls q.1 q.1 ∈ TT := List.mem_filter.mpr ⟨List.mem_append_left _ (List.mem_map.mpr ⟨q, h, rfl⟩), g⟩
abbrev Kd : Type := Nat × (List Nat ⊕ (Nat × Nat × Nat))
abbrev Wv : Type := List Kd × (Nat → Nat → Int32) × (Nat → Nat → Int64) × (Nat → Nat → Option Nat)
abbrev Gt : Type := Nat × va_G × (Nat → ClassId) × (Nat → Nat) × (Nat → Nat)
abbrev wK (w : Wv) : List Kd := w.1
abbrev wI (w : Wv) : Nat → Nat → Int32 := w.2.1
abbrev wL (w : Wv) : Nat → Nat → Int64 := w.2.2.1
abbrev wX (w : Wv) : Nat → Nat → Option Nat := w.2.2.2
abbrev gz (G : Gt) : Nat := G.1
abbrev gD (G : Gt) : va_G := G.2.1
abbrev gT (G : Gt) : Nat → ClassId := G.2.2.1
/-- where the String constants and their bytes lie -/
abbrev gK (G : Gt) : Nat → Nat := G.2.2.2.1
abbrev gV (G : Gt) : Nat → Nat := G.2.2.2.2
def up2 {α : Type} (f : Nat → Nat → α) (n k : Nat) (v : α) : Nat → Nat → α := fun a b => if a = n then (if b = k then v else f a b) else f a b
def setI (w : Wv) (n k : Nat) (v : Int32) : Wv := (wK w, up2 (wI w) n k v, wL w, wX w)
def setL (w : Wv) (n k : Nat) (v : Int64) : Wv := (wK w, wI w, up2 (wL w) n k v, wX w)
def setX (w : Wv) (n k : Nat) (v : Option Nat) : Wv := (wK w, wI w, wL w, up2 (wX w) n k v)
/-- a new cell -/
def addK (w : Wv) (kd : Kd) : Wv := (wK w ++ [kd], fun a b => if a = (wK w).length then 0 else wI w a b, fun a b => if a = (wK w).length then 0 else wL w a b, fun a b => if a = (wK w).length then none else wX w a b)
theorem up2_eq {α : Type} {f : Nat → Nat → α} {n k : Nat} {v : α} : up2 f n k v n k = v := by simp [up2]
theorem up2_nn {α : Type} {f : Nat → Nat → α} {n k a b : Nat} {v : α} (h : a ≠ n) : up2 f n k v a b = f a b := by simp [up2, h]
theorem up2_nk {α : Type} {f : Nat → Nat → α} {n k a b : Nat} {v : α} (h : b ≠ k) : up2 f n k v a b = f a b := by
  by_cases ha : a = n <;> simp [up2, ha, h]
def adr (G : Gt) (r : Option Nat) : Option Nat := r.map (fun n => gz G + n)
def fv (G : Gt) (w : Wv) (n k t : Nat) : Value := if t = 0 then .int (wI w n k) else if t = 1 then .long (wL w n k) else va_rf (adr G (wX w n k))
def fvs (G : Gt) (w : Wv) (n : Nat) : Nat → List Nat → List Value
  | _, [] => []
  | k, t :: ts => fv G w n k t :: fvs G w n (k + 1) ts
def acn (G : Gt) (w : Wv) (n et : Nat) : (Nat → Int32) ⊕ (Nat → Int64) ⊕ (Nat → UInt32) ⊕ (Nat → UInt64) ⊕ (Nat → Option Nat) := if et = 0 then .inl (wI w n) else if et = 1 then .inr (.inl (wL w n)) else .inr (.inr (.inr (.inr (fun j => adr G (wX w n j)))))
def ent (G : Gt) (w : Wv) (n : Nat) (kd : Kd) : va_E := match kd.2 with
  | .inl fts => .inr (kd.1, fvs G w n 0 fts)
  | .inr a => .inl (gT G a.1, (a.2.1, acn G w n a.2.2))
def wsF (G : Gt) (w : Wv) : Nat → List Kd → va_W
  | _, [] => []
  | n, kd :: ks => (gz G + n, ent G w n kd) :: wsF G w (n + 1) ks
def wso (G : Gt) (w : Wv) : va_W := wsF G w 0 (wK w)
def tyo (G : Gt) : List (ClassId × FieldType) := [(gT G 0, .int), (gT G 1, .boolean), (gT G 2, .long), (gT G 3, .object "HeardTunes$Scene"), (gT G 4, .object "HeardTunes$Image")]
def Wd (G : Gt) (w : Wv) (H : Heap) : Prop := va_P (gD G) vwCl (wso G w) H ∧ H.size = gz G + (wK w).length
def Az (G : Gt) : Nat → Prop := fun q => gz G ≤ q
-- the eight words of the text's sentences
def sTxt : List String := ["town", "wall", "water", "gate", "crowd", "tune", "piper", "pay"]
def sByt : List (List Int32) := [[116, 111, 119, 110], [119, 97, 108, 108], [119, 97, 116, 101, 114], [103, 97, 116, 101], [99, 114, 111, 119, 100], [116, 117, 110, 101], [112, 105, 112, 101, 114], [112, 97, 121]]
def sLen : List Nat := [4, 4, 5, 4, 5, 4, 5, 3]
def sIdx : List Nat := [141, 147, 149, 151, 153, 155, 157, 158]
def TkS (G : Gt) (U : State) (H : Heap) : Prop := vk_S 8 sLen sByt (gK G) (gV G) (Az G) U H ∧ (∀ i, i < 8 → vk_R "HeardTunes$Reader" (sIdx.getD i 0) (sTxt.getD i "") (gK G i) U) ∧ va_Z "java/lang/String" "COMPACT_STRINGS" "Z" (.int 1) (Az G) U H ∧ va_Zq "jdk/internal/util/Preconditions" "SIOOBE_FORMATTER" "Ljava/util/function/BiFunction;" (Az G) U H
def Tk (G : Gt) (U : State) : Prop := va_K (gD G) vwCl (tyo G) U ∧ va_AO "HeardTunes$Scene" U ∧ va_AO "HeardTunes$Image" U ∧ TkS G U U.heap
theorem TkS.at {G : Gt} {u U : State} {H : Heap} (h : TkS G u u.heap) (hW : u.WarmedH U.vm) (hq : ∀ a : Nat, a < u.heap.size → ¬ Az G a → H[a]? = u.heap[a]?) : TkS G U H := ⟨(h.1.kept hq).moved hW.alike, fun i hi => (h.2.1 i hi).warm hW, (h.2.2.1.kept hq).moved hW.alike, (h.2.2.2.kept hq).moved hW.alike⟩
theorem Tk.at {G : Gt} {u U : State} (h : Tk G u) (hW : u.WarmedH U.vm) (hq : ∀ a : Nat, a < u.heap.size → ¬ Az G a → U.heap[a]? = u.heap[a]?) : Tk G U := ⟨va_K.moved hW.alike h.1, h.2.1.moved hW.alike, h.2.2.1.moved hW.alike, h.2.2.2.at hW hq⟩
theorem Tk.same {G : Gt} {u U : State} (h : Tk G u) (hv : U.vm = u.vm) (hh : U.heap = u.heap) : Tk G U := by
  have ha : u.vm.Alike U.vm := by rw [hv]; exact Vm.Alike.refl _
  refine ⟨va_K.moved ha h.1, h.2.1.moved ha, h.2.2.1.moved ha, ?_⟩
  rw [hh]
  exact ⟨h.2.2.2.1.moved ha, fun i hi => (h.2.2.2.2.1 i hi).same hv, h.2.2.2.2.2.1.moved ha, h.2.2.2.2.2.2.moved ha⟩
-- reading the list
theorem wsF_get {G : Gt} {w : Wv} (ks : List Kd) : ∀ (a n : Nat), (wsF G w a ks)[n]? = (ks[n]?).map (fun kd => (gz G + (a + n), ent G w (a + n) kd)) := by
  induction ks with
  | nil => intro a n; simp [wsF]
  | cons k ks ih =>
    intro a n
    cases n with
    | zero => simp [wsF]
    | succ n =>
      simp only [wsF, List.getElem?_cons_succ]
      rw [ih (a + 1) n, show a + 1 + n = a + (n + 1) by omega]
theorem wso_get {G : Gt} {w : Wv} {n : Nat} {kd : Kd} (h : (wK w)[n]? = some kd) : (wso G w)[n]? = some (gz G + n, ent G w n kd) := by
  rw [wso, wsF_get, h]; simp
theorem wsF_len {G : Gt} {w : Wv} (ks : List Kd) : ∀ (a : Nat), (wsF G w a ks).length = ks.length := by
  induction ks with
  | nil => intro a; rfl
  | cons k ks ih => intro a; simp [wsF, ih]
theorem fvs_get {G : Gt} {w : Wv} {n : Nat} (ts : List Nat) : ∀ (a k : Nat), (fvs G w n a ts)[k]? = (ts[k]?).map (fun t => fv G w n (a + k) t) := by
  induction ts with
  | nil => intro a k; simp [fvs]
  | cons t ts ih =>
    intro a k
    cases k with
    | zero => simp [fvs]
    | succ k =>
      simp only [fvs, List.getElem?_cons_succ]
      rw [ih (a + 1) k, show a + 1 + k = a + (k + 1) by omega]
theorem fvs_len {G : Gt} {w : Wv} {n : Nat} (ts : List Nat) : ∀ (a : Nat), (fvs G w n a ts).length = ts.length := by
  induction ts with
  | nil => intro a; rfl
  | cons t ts ih => intro a; simp [fvs, ih]
theorem wso_D {G : Gt} {w : Wv} : va_D (Az G) (wso G w) := by
  have at' : ∀ (k : Nat) (q : Nat × va_E), (wso G w)[k]? = some q → q.1 = gz G + k := by
    intro k q h
    rw [wso, wsF_get] at h
    cases hk : (wK w)[k]? with
    | none => rw [hk] at h; simp at h
    | some kd => rw [hk] at h; simp at h; rw [← h]
  refine ⟨fun i j p q hi hj e => ?_, fun k q hk => ?_⟩
  · have h1 := at' i p hi; have h2 := at' j q hj; omega
  · show gz G ≤ q.1
    rw [at' k q hk]; exact Nat.le_add_right _ _
theorem ws_ext {a b : va_W} (h : ∀ k : Nat, a[k]? = b[k]?) : a = b := List.ext_getElem? h
-- what a store does to the list
theorem fvs_ext {G : Gt} {w w' : Wv} {n : Nat} {ts : List Nat} (h : ∀ k t, ts[k]? = some t → fv G w n k t = fv G w' n k t) : fvs G w n 0 ts = fvs G w' n 0 ts := by
  refine List.ext_getElem? fun k => ?_
  rw [fvs_get, fvs_get]
  cases hk : ts[k]? with
  | none => rfl
  | some t => simp only [Option.map_some, Nat.zero_add]; rw [h k t hk]
theorem ent_ne {G : Gt} {w w' : Wv} {n a : Nat} {kd : Kd} (ha : a ≠ n) (h1 : ∀ b, wI w' a b = wI w a b) (h2 : ∀ b, wL w' a b = wL w a b) (h3 : ∀ b, wX w' a b = wX w a b) : ent G w' a kd = ent G w a kd := by
  obtain ⟨tag, sh⟩ := kd
  cases sh with
  | inl fts => simp only [ent]; rw [fvs_ext (w := w') (w' := w) (fun k t _ => by simp only [fv, h1, h2, h3])]
  | inr x =>
    simp only [ent, acn]
    rw [show wI w' a = wI w a from funext h1, show wL w' a = wL w a from funext h2, show wX w' a = wX w a from funext h3]
theorem wso_set {G : Gt} {w w' : Wv} {n : Nat} {kd : Kd} (hk : (wK w)[n]? = some kd) (hK : wK w' = wK w) (h1 : ∀ a, a ≠ n → (∀ b, wI w' a b = wI w a b) ∧ (∀ b, wL w' a b = wL w a b) ∧ (∀ b, wX w' a b = wX w a b)) {e : va_E} (he : e = ent G w' n kd) : (wso G w).set n (gz G + n, e) = wso G w' := by
  refine ws_ext fun k => ?_
  have hlen : n < (wso G w).length := (List.getElem?_eq_some_iff.mp (wso_get (G := G) hk)).1
  by_cases hkn : k = n
  · subst hkn
    rw [List.getElem?_set_self hlen, wso_get (w := w') (kd := kd) (by rw [hK]; exact hk), he]
  · rw [List.getElem?_set_ne (fun h => hkn h.symm), wso, wso, wsF_get, wsF_get, hK]
    cases hq : (wK w)[k]? with
    | none => rfl
    | some kq =>
      simp only [Option.map_some, Nat.zero_add]
      obtain ⟨a1, a2, a3⟩ := h1 k hkn
      rw [ent_ne hkn a1 a2 a3]
theorem setI_off {w : Wv} {n k : Nat} {v : Int32} (a : Nat) (h : a ≠ n) : (∀ b, wI (setI w n k v) a b = wI w a b) ∧ (∀ b, wL (setI w n k v) a b = wL w a b) ∧ (∀ b, wX (setI w n k v) a b = wX w a b) := ⟨fun _ => up2_nn h, fun _ => rfl, fun _ => rfl⟩
theorem setL_off {w : Wv} {n k : Nat} {v : Int64} (a : Nat) (h : a ≠ n) : (∀ b, wI (setL w n k v) a b = wI w a b) ∧ (∀ b, wL (setL w n k v) a b = wL w a b) ∧ (∀ b, wX (setL w n k v) a b = wX w a b) := ⟨fun _ => rfl, fun _ => up2_nn h, fun _ => rfl⟩
theorem setX_off {w : Wv} {n k : Nat} {v : Option Nat} (a : Nat) (h : a ≠ n) : (∀ b, wI (setX w n k v) a b = wI w a b) ∧ (∀ b, wL (setX w n k v) a b = wL w a b) ∧ (∀ b, wX (setX w n k v) a b = wX w a b) := ⟨fun _ => rfl, fun _ => rfl, fun _ => up2_nn h⟩
theorem fvs_set {G : Gt} {w w' : Wv} {n k t : Nat} {ts : List Nat} {v : Value} (ht : ts[k]? = some t) (hv : fv G w' n k t = v) (ho : ∀ j u, ts[j]? = some u → j ≠ k → fv G w n j u = fv G w' n j u) : (fvs G w n 0 ts).set k v = fvs G w' n 0 ts := by
  refine List.ext_getElem? fun j => ?_
  have hlen : k < (fvs G w n 0 ts).length := by rw [fvs_len]; exact (List.getElem?_eq_some_iff.mp ht).1
  by_cases hj : j = k
  · subst hj
    rw [List.getElem?_set_self hlen, fvs_get, ht]; simp [hv]
  · rw [List.getElem?_set_ne (fun h => hj h.symm), fvs_get, fvs_get]
    cases hu : ts[j]? with
    | none => rfl
    | some u => simp only [Option.map_some, Nat.zero_add]; rw [ho j u hu hj]
-- the fixed things of a walk
abbrev Ct : Type := Program × Launch × Env × Room × State × MethodId × Array Value × List Frame × Method × Code × Gt × Nat × (State → Prop)
abbrev xl (x : Ct) : Launch := x.2.1
abbrev xR (x : Ct) : Room := x.2.2.2.1
abbrev xs (x : Ct) : State := x.2.2.2.2.1
abbrev xm (x : Ct) : MethodId := x.2.2.2.2.2.1
abbrev xa (x : Ct) : Array Value := x.2.2.2.2.2.2.1
abbrev xM (x : Ct) : Method := x.2.2.2.2.2.2.2.2.1
abbrev xc (x : Ct) : Code := x.2.2.2.2.2.2.2.2.2.1
abbrev xG (x : Ct) : Gt := x.2.2.2.2.2.2.2.2.2.2.1
abbrev xn (x : Ct) : Nat := x.2.2.2.2.2.2.2.2.2.2.2.1
abbrev xQ (x : Ct) : State → Prop := x.2.2.2.2.2.2.2.2.2.2.2.2
def Wx (x : Ct) (H : Heap) (locs : List Loc) (cells slots : Nat) (g : JFrame) : Prop := W x.1 (xl x) x.2.2.1 (xR x) (xs x) (xm x) (xa x) x.2.2.2.2.2.2.2.1 (xM x) (xc x) H locs cells slots (xQ x) g
def V (x : Ct) (cells slots : Nat) (w : Wv) (pc : Nat) (lv : List (Nat × Value)) (st : List Value) : Prop :=
  ∀ (H : Heap) (locs : List Loc) (ls : Array Slot), Wd (xG x) w H → va_S (Az (xG x)) (xs x).heap H locs → lv_has ls (xn x) lv → Wx x H locs cells slots (F0 (xm x) pc ls st)
def Cx (x : Ct) (cc : ByteArray) (nL : Nat) (own : String) (rm : Room) : Prop :=
  x.1.tables.exec = Jvm.exec ∧ (xc x).code = cc ∧ (xc x).maxLocals = nL ∧ (xs x).vm.findClass own = some (xm x).cls ∧ (∀ u ∈ TT, u.before (xa x) (xs x) = true) ∧ Tk (xG x) (xs x) ∧ gz (xG x) ≤ (xs x).heap.size ∧ xR x = rm ∧ xn x = nL
