/-! THE WORLD OF A WALK: cells at addresses 0, 1, 2 .. of a world's own; ints and references apart; all else by number. -/
abbrev Sh : Type := Nat × Nat
abbrev MI : Type := Nat → Nat → Int32
abbrev MR : Type := Nat → Nat → Option Nat
abbrev Mt : Type := MethodName × ByteArray × Nat × Option FieldType
abbrev QT : Type := Option Value → List Sh → MI → MR → Prop
/-- where the world's cells lie, the classes of its arrays (int, LadderKind, Sheet, Text), the texts' cells, the formatter, the tables' numbers, the offset of new cells -/
abbrev WE : Type := (Nat → Nat) × (Nat → ClassId) × (UInt32 → Nat) × Value × va_G × Nat
abbrev hole : Value := .double 0
def cls : List vw_C := [(RX0, TX0, 0), (RX1, TX1, 0), (RX2, TX2, 0), (RX3, TX3, 0), (RX4, TX4, 0), (RX5, TX5, 14), (RX6, TX6, 0), (RX7, TX7, 3), (RX8, TX8, 3), (RX9, TX9, 20), (RX10, TX10, 4), (RX11, TX11, 14), (RX12, TX12, 34)]
def fty (c : Nat) : Nat → FieldType := match c with
  | 5 => tyX5 | 7 => tyX7 | 8 => tyX8 | 9 => tyX9 | 10 => tyX10 | 11 => tyX11 | 12 => tyX12 | _ => tyX0
def rfd (c k : Nat) : Bool := match fty c k with
  | .object _ => true
  | .array _ => true
  | _ => false
def vv (E : WE) : Value → Value
  | .ref a => .ref (E.1 a)
  | .float u => .ref (E.2.2.1 u)
  | .retAddr _ => E.2.2.2.1
  | v => v
def fld (E : WE) (mi : MI) (mr : MR) (a c n : Nat) : List Value := (List.range n).map (fun i => if rfd c i = true then va_rf ((mr a i).map E.1) else .int (mi a i))
def cellE (E : WE) (mi : MI) (mr : MR) (a : Nat) (x : Sh) : va_E := match x.1 with
  | 0 => .inl (E.2.1 0, x.2, .inl (mi a))
  | 1 => .inl (E.2.1 1, x.2, .inr (.inr (.inr (.inr (fun i => (mr a i).map E.1)))))
  | 2 => .inl (E.2.1 2, x.2, .inr (.inr (.inr (.inr (fun i => (mr a i).map E.1)))))
  | 3 => .inl (E.2.1 3, x.2, .inr (.inr (.inr (.inr (fun i => (mr a i).map E.1)))))
  | c + 4 => .inr (c, fld E mi mr a c x.2)
def wld (E : WE) (sh : List Sh) (mi : MI) (mr : MR) : va_W := (List.range sh.length).map (fun k => (E.1 k, cellE E mi mr k (sh.getD k (0, 0))))
def rng (E : WE) : Nat → Prop := fun q => ∃ k, q = E.1 k
def tys (E : WE) : List (ClassId × FieldType) := [(E.2.1 0, .int), (E.2.1 1, .object RX4), (E.2.1 2, .object RX7), (E.2.1 3, .object RX8)]
def upI (mi : MI) (a k : Nat) (v : Int32) : MI := fun x => if x = a then upd (mi a) k v else mi x
def upR (mr : MR) (a k : Nat) (v : Option Nat) : MR := fun x => if x = a then va_up (mr a) k v else mr x
def zI (mi : MI) (a : Nat) : MI := fun x => if x = a then (fun _ => 0) else mi x
def zR (mr : MR) (a : Nat) : MR := fun x => if x = a then (fun _ => none) else mr x
def gk : Cond → Bool
  | .arrayClass _ => true
  | .methodLinkNest .. => true
  | .castable .. => true
  | w => w.onTables && w.keeps
def GG (U : State) : Prop := ∀ w ∈ lw_tbl, gk w = true → w.before #[] U = true
/-- the String constants: entries of Reader's pool, their texts -/
def ssI : List (Nat × String) := [(81, "lean"), (83, "move"), (85, "toll"), (87, "hp"), (89, "sld"), (91, "mn")]
def ssL : List Nat := [4, 4, 4, 2, 3, 2]
def ssB : List (List Int32) := [[108, 101, 97, 110], [109, 111, 118, 101], [116, 111, 108, 108], [104, 112], [115, 108, 100], [109, 110]]
def TT (E : WE) (U : State) : Prop := va_K E.2.2.2.2.1 cls (tys E) U ∧ GG U ∧ (∀ i, i < 6 → vk_R RX5 (ssI.getD i (0, "")).1 (ssI.getD i (0, "")).2 (E.2.2.1 (UInt32.ofNat (2 * i))) U) ∧ (va_AO RX4 U ∧ va_AO RX7 U ∧ va_AO RX8 U) ∧ (E.2.2.2.1 = .null ∨ ∃ t, E.2.2.2.1 = .ref t)
def GR (E : WE) (U : State) (H : Heap) : Prop := vk_S 6 ssL ssB (fun i => E.2.2.1 (UInt32.ofNat (2 * i))) (fun i => E.2.2.1 (UInt32.ofNat (2 * i + 1))) (rng E) U H ∧ va_Z "java/lang/String" "COMPACT_STRINGS" "Z" (.int 1) (rng E) U H ∧ va_Z "jdk/internal/util/Preconditions" "SIOOBE_FORMATTER" "Ljava/util/function/BiFunction;" E.2.2.2.1 (rng E) U H
def PH (E : WE) (n : Nat) : Prop := (∀ i j, E.1 i = E.1 j → i = j) ∧ ∀ k, n ≤ k → E.1 k = E.2.2.2.2.2 + k
def room (d mc ms : Nat) : Room := { frames := d + 1, cells := mc, slots := ms, locals := 64 * (d + 1) }
def Qc_ (E : WE) (Q : QT) : Array Value → State → Outcome → State → Prop := fun _ st o t => (∃ (v : Option Value) (sh : List Sh) (mi : MI) (mr : MR), o = .returned (v.map (vv E)) ∧ Q v sh mi mr ∧ t.heap.size = E.2.2.2.2.2 + sh.length ∧ va_P E.2.2.2.2.1 cls (wld E sh mi mr) t.heap) ∧ va_F (rng E) st t
def Pc_ (E : WE) (as : List Value) (sh : List Sh) (mi : MI) (mr : MR) : Array Value → State → Prop := va_Pc (as.map (vv E)) (fun U => TT E U ∧ GR E U U.heap ∧ U.heap.size = E.2.2.2.2.2 + sh.length ∧ va_P E.2.2.2.2.1 cls (wld E sh mi mr) U.heap)
/-- A CONTRACT: with so many calls deep left, the method μ with these arguments in this world returns, making at most mc cells of ms slots, with Q of answer and world -/
def CP (d : Nat) (μ : Mt) (as : List Value) (sh : List Sh) (mi : MI) (mr : MR) (mc ms : Nat) (Q : QT) : Prop :=
  ∀ (l : Launch) (E : WE), PH E sh.length → Met l μ.1 [Cond.code μ.1 μ.2.1 μ.2.2.1 μ.2.2.2] (room d mc ms) (Pc_ E as sh mi mr) (Qc_ E Q) mc ms (rng E)
def hasL (V : Value → Value) (ls : Array Slot) (nL : Nat) (L : List Value) : Prop := ls.size = nL ∧ lv_wf ls ∧ ∀ (k : Nat) (v : Value), L[k]? = some v → v ≠ hole → ls[k]? = some (.val (V v))
def Cx (μ : Mt) (p : Program) (s : State) (m : MethodId) (meth : Method) (c : Code) : Prop := p.tables.exec = Jvm.exec ∧ c.code = μ.2.1 ∧ meth.sig.returnType = μ.2.2.2 ∧ c.maxLocals = μ.2.2.1 ∧ s.vm.findClass μ.1.cls = some m.cls ∧ meth.locks = false ∧ meth.name = μ.1.name
/-- THE WALK inside a method: at pc, with locals L, stack S, this world, cb cells of sb slots still to be made at the most -/
def WP (d : Nat) (μ : Mt) (pc : Nat) (L S : List Value) (sh : List Sh) (mi : MI) (mr : MR) (cb sb : Nat) (Q : QT) : Prop :=
  ∀ (l : Launch) (E : WE) (p : Program) (e : Env) (s : State) (m : MethodId) (args : Array Value) (below : List Frame) (meth : Method) (c : Code) (H : Heap) (locs : List Loc) (cells slots mc ms : Nat) (ls : Array Slot),
    Cx μ p s m meth c → TT E s → GR E s s.heap → PH E sh.length → va_S (rng E) s.heap H locs → (∀ q, s.heap.size ≤ q → rng E q) → H.size = E.2.2.2.2.2 + sh.length → va_P E.2.2.2.2.1 cls (wld E sh mi mr) H → hasL (vv E) ls μ.2.2.1 L → cells + cb ≤ mc → slots + sb ≤ ms →
    W p l e (room d mc ms) s m args below meth c H locs cells slots (MQ below (Qc_ E Q) args s mc ms (rng E)) (F0 m pc ls (S.map (vv E)))
/-! ## the world's cells -/
theorem wld_len (E : WE) (sh : List Sh) (mi : MI) (mr : MR) : (wld E sh mi mr).length = sh.length := by simp [wld]
theorem wld_at {E : WE} {sh : List Sh} {mi : MI} {mr : MR} {k : Nat} {x : Sh} (h : sh[k]? = some x) : (wld E sh mi mr)[k]? = some (E.1 k, cellE E mi mr k x) := by
  have hk : k < sh.length := (List.getElem?_eq_some_iff.mp h).1
  unfold wld
  rw [List.getElem?_map, List.getElem?_range hk]
  simp [List.getD, h]
theorem wld_get {E : WE} {sh : List Sh} {mi : MI} {mr : MR} {k : Nat} {q : Nat × va_E} (h : (wld E sh mi mr)[k]? = some q) : ∃ x, sh[k]? = some x ∧ q = (E.1 k, cellE E mi mr k x) := by
  have hk : k < sh.length := by
    have := (List.getElem?_eq_some_iff.mp h).1
    rwa [wld_len] at this
  have hx : sh[k]? = some sh[k] := List.getElem?_eq_getElem hk
  rw [wld_at hx] at h
  exact ⟨_, hx, (Option.some.inj h).symm⟩
theorem wld_D {E : WE} {sh : List Sh} {mi : MI} {mr : MR} {n : Nat} (hφ : PH E n) : va_D (rng E) (wld E sh mi mr) := by
  refine ⟨fun i j p q hi hj hpq => ?_, fun k q hk => ?_⟩
  · obtain ⟨x, -, rfl⟩ := wld_get hi
    obtain ⟨y, -, rfl⟩ := wld_get hj
    exact hφ.1 i j hpq
  · obtain ⟨x, -, rfl⟩ := wld_get hk
    exact ⟨k, rfl⟩
theorem cellE_congr {E : WE} {mi mi' : MI} {mr mr' : MR} {a : Nat} {x : Sh} (h1 : mi' a = mi a) (h2 : mr' a = mr a) : cellE E mi' mr' a x = cellE E mi mr a x := by
  obtain ⟨t, n⟩ := x
  match t with
  | 0 => simp [cellE, h1]
  | 1 => simp [cellE, h2]
  | 2 => simp [cellE, h2]
  | 3 => simp [cellE, h2]
  | c + 4 => simp [cellE, fld, h1, h2]
theorem wld_set {E : WE} {sh : List Sh} {mi mi' : MI} {mr mr' : MR} {a : Nat} {x : Sh} (h : sh[a]? = some x) (h1 : ∀ j, j ≠ a → mi' j = mi j) (h2 : ∀ j, j ≠ a → mr' j = mr j) : wld E sh mi' mr' = (wld E sh mi mr).set a (E.1 a, cellE E mi' mr' a x) := by
  apply List.ext_getElem?
  intro k
  by_cases hk : k = a
  · subst hk
    have hlt : k < (wld E sh mi mr).length := by rw [wld_len]; exact (List.getElem?_eq_some_iff.mp h).1
    rw [wld_at h, List.getElem?_set_self hlt]
  · rw [List.getElem?_set_ne (Ne.symm hk)]
    cases hx : sh[k]? with
    | none =>
      have hle : sh.length ≤ k := by simpa using hx
      rw [List.getElem?_eq_none (by rw [wld_len]; exact hle), List.getElem?_eq_none (by rw [wld_len]; exact hle)]
    | some y => rw [wld_at hx, wld_at hx, cellE_congr (h1 k hk) (h2 k hk)]
theorem wld_push {E : WE} {sh : List Sh} {mi mi' : MI} {mr mr' : MR} {x : Sh} (h1 : ∀ j, j ≠ sh.length → mi' j = mi j) (h2 : ∀ j, j ≠ sh.length → mr' j = mr j) : wld E (sh ++ [x]) mi' mr' = wld E sh mi mr ++ [(E.1 sh.length, cellE E mi' mr' sh.length x)] := by
  apply List.ext_getElem?
  intro k
  rcases Nat.lt_trichotomy k sh.length with hk | hk | hk
  · have hx : sh[k]? = some sh[k] := List.getElem?_eq_getElem hk
    have hx' : (sh ++ [x])[k]? = some sh[k] := by rw [List.getElem?_append_left hk]; exact hx
    rw [wld_at hx', List.getElem?_append_left (by rw [wld_len]; exact hk), wld_at hx, cellE_congr (h1 k (by omega)) (h2 k (by omega))]
  · subst hk
    have hx' : (sh ++ [x])[sh.length]? = some x := by simp
    rw [wld_at hx', List.getElem?_append_right (by rw [wld_len]; exact Nat.le_refl _), wld_len]
    simp
  · rw [List.getElem?_eq_none (by rw [wld_len]; simp; omega), List.getElem?_eq_none (by simp [wld_len]; omega)]
theorem fld_at {E : WE} {mi : MI} {mr : MR} {a c n k : Nat} (hk : k < n) : (fld E mi mr a c n)[k]? = some (if rfd c k = true then va_rf ((mr a k).map E.1) else .int (mi a k)) := by
  unfold fld
  rw [List.getElem?_map, List.getElem?_range hk]
  rfl
theorem fld_len (E : WE) (mi : MI) (mr : MR) (a c n : Nat) : (fld E mi mr a c n).length = n := by simp [fld]
theorem upI_self (mi : MI) (a k : Nat) (v : Int32) : upI mi a k v a = upd (mi a) k v := by simp [upI]
theorem upI_ne {mi : MI} {a k j : Nat} {v : Int32} (h : j ≠ a) : upI mi a k v j = mi j := by simp [upI, h]
theorem upR_self (mr : MR) (a k : Nat) (v : Option Nat) : upR mr a k v a = va_up (mr a) k v := by simp [upR]
theorem upR_ne {mr : MR} {a k j : Nat} {v : Option Nat} (h : j ≠ a) : upR mr a k v j = mr j := by simp [upR, h]
theorem fld_upI {E : WE} {mi : MI} {mr : MR} {a c n k : Nat} {v : Int32} (hk : k < n) (hr : rfd c k = false) : fld E (upI mi a k v) mr a c n = (fld E mi mr a c n).set k (.int v) := by
  apply List.ext_getElem?
  intro j
  by_cases hj : j < n
  · by_cases hjk : j = k
    · subst hjk
      rw [List.getElem?_set_self (by rw [fld_len]; exact hj), fld_at hj, hr]
      simp [upI, upd]
    · rw [List.getElem?_set_ne (Ne.symm hjk), fld_at hj, fld_at hj]
      simp [upI, upd, hjk]
  · rw [List.getElem?_eq_none (by rw [fld_len]; omega), List.getElem?_eq_none (by rw [List.length_set, fld_len]; omega)]
theorem fld_upR {E : WE} {mi : MI} {mr : MR} {a c n k : Nat} {v : Option Nat} (hk : k < n) (hr : rfd c k = true) : fld E mi (upR mr a k v) a c n = (fld E mi mr a c n).set k (va_rf (v.map E.1)) := by
  apply List.ext_getElem?
  intro j
  by_cases hj : j < n
  · by_cases hjk : j = k
    · subst hjk
      rw [List.getElem?_set_self (by rw [fld_len]; exact hj), fld_at hj, hr]
      simp [upR, va_up]
    · rw [List.getElem?_set_ne (Ne.symm hjk), fld_at hj, fld_at hj]
      simp [upR, va_up, hjk]
  · rw [List.getElem?_eq_none (by rw [fld_len]; omega), List.getElem?_eq_none (by rw [List.length_set, fld_len]; omega)]
/-! ## the tables' words -/
theorem gk_moved {w : Cond} (hk : gk w = true) {a a' : Array Value} {s U : State} (hW : s.WarmedH U.vm) (h : w.before a s = true) : w.before a' U = true := by
  cases w with
  | arrayClass ty => exact word_at hW (Or.inr ⟨ty, rfl⟩) h
  | methodLinkNest x i y z => exact va_Nw.use rfl (va_Nw.warmM hW (va_Nw.of rfl h))
  | castable x y =>
    refine va_Nw.use rfl (va_tabs (c := .castable x y) rfl (u := s.setVm U.vm) rfl (A := a) ?_)
    rw [Cond.castable_setVm hW.alike]
    exact h
  | _ => exact word_at hW (Or.inl hk) h
theorem GG.use {s : State} (h : GG s) {w : Cond} (hw : w ∈ lw_tbl) (hk : gk w = true) {a : Array Value} : w.before a s = true := gk_moved hk (State.WarmedH.refl s) (h w hw hk)
theorem TT.warm {E : WE} {s U : State} (hW : s.WarmedH U.vm) (h : TT E s) : TT E U := by
  obtain ⟨h1, h2, h3, ⟨h4, h5, h6⟩, h7⟩ := h
  exact ⟨va_K.moved hW.alike h1, fun w hw hk => gk_moved hk hW (h2 w hw hk), fun i hi => (h3 i hi).warm hW, ⟨h4.moved hW.alike, h5.moved hW.alike, h6.moved hW.alike⟩, h7⟩
theorem GR.moved {E : WE} {u U : State} {H : Heap} (hvm : u.vm.Alike U.vm) (h : GR E u H) : GR E U H := ⟨h.1.moved hvm, h.2.1.moved hvm, h.2.2.moved hvm⟩
theorem GR.kept {E : WE} {U : State} {H H1 : Heap} (h : GR E U H) (hq : ∀ a : Nat, a < H.size → ¬ rng E a → H1[a]? = H[a]?) : GR E U H1 := ⟨h.1.kept hq, h.2.1.kept hq, h.2.2.kept hq⟩
theorem Pc_blind {E : WE} {as : List Value} {sh : List Sh} {mi : MI} {mr : MR} : FrameBlind (Pc_ E as sh mi mr) := by
  intro a U g mk ⟨h1, h2, h3, h4, h5⟩
  exact ⟨h1, h2.warm (U := U.calling g mk a) (State.WarmedH.refl U), GR.moved (u := U) (U := U.calling g mk a) (Vm.Alike.refl U.vm) h3, h4, h5⟩
theorem vv_cat {E : WE} {U : State} (hT : TT E U) {v : Value} (h : (match v with | .long _ => false | .double _ => false | _ => true) = true) : (vv E v).category = 1 := by
  cases v with
  | retAddr n =>
    rcases hT.2.2.2.2 with h | ⟨t, h⟩
    · simp [vv, h, Value.category]
    · simp [vv, h, Value.category]
  | long x => simp at h
  | double x => simp at h
  | _ => rfl
