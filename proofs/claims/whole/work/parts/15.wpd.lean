def spr : Value → List Value
  | .long x => [.long x, hole]
  | v => [v]
def spread (as : List Value) : List Value := as.flatMap spr
def entL (as : List Value) (n : Nat) : List Value := spread as ++ List.replicate (n - (spread as).length) hole
def okArg : Value → Bool
  | .double _ => false
  | _ => true
theorem spr_cases {E : WE} {U : State} (hT : TT E U) {a : Value} (h : okArg a = true) : (∃ x, a = .long x) ∨ (spr a = [a] ∧ ¬ (vv E a).category = 2) := by
  cases a with
  | long x => exact Or.inl ⟨x, rfl⟩
  | retAddr n => exact Or.inr ⟨rfl, by rw [vv_cat hT (v := .retAddr n) rfl]; decide⟩
  | double x => simp [okArg] at h
  | int x => exact Or.inr ⟨rfl, by rw [vv_cat hT (v := .int x) rfl]; decide⟩
  | null => exact Or.inr ⟨rfl, by rw [vv_cat hT (v := .null) rfl]; decide⟩
  | ref x => exact Or.inr ⟨rfl, by rw [vv_cat hT (v := .ref x) rfl]; decide⟩
  | float x => exact Or.inr ⟨rfl, by rw [vv_cat hT (v := .float x) rfl]; decide⟩
theorem spread_cons (a : Value) (as : List Value) : spread (a :: as) = spr a ++ spread as := rfl
theorem spread_args {E : WE} {U : State} (hT : TT E U) : ∀ (as : List Value) (i k : Nat) (v : Value), as.all okArg = true → (spread as)[k]? = some v → v ≠ hole → (i + k, vv E v) ∈ lv_args i (as.map (vv E)) := by
  intro as
  induction as with
  | nil => intro i k v _ h _; simp [spread] at h
  | cons a as ih =>
    intro i k v hok h hv
    have hok2 : okArg a = true ∧ as.all okArg = true := by simpa using hok
    rw [spread_cons] at h
    show _ ∈ (i, vv E a) :: lv_args (if (vv E a).category = 2 then i + 2 else i + 1) (as.map (vv E))
    rcases spr_cases hT hok2.1 with ⟨x, rfl⟩ | ⟨h1, h2⟩
    · have hc : (vv E (.long x)).category = 2 := rfl
      rw [if_pos hc]
      rcases Nat.lt_or_ge k 2 with hk | hk
      · rcases Nat.lt_or_ge k 1 with hk1 | hk1
        · have : k = 0 := by omega
          subst this
          cases h
          exact List.mem_cons_self
        · have : k = 1 := by omega
          subst this
          cases h
          exact absurd rfl hv
      · obtain ⟨j, rfl⟩ : ∃ j, k = j + 2 := ⟨k - 2, by omega⟩
        have h3 : (spread as)[j]? = some v := h
        have := ih (i + 2) j v hok2.2 h3 hv
        rw [show i + (j + 2) = i + 2 + j by omega]
        exact List.mem_cons_of_mem _ this
    · rw [if_neg h2]
      rw [h1] at h
      rcases Nat.lt_or_ge k 1 with hk1 | hk1
      · have : k = 0 := by omega
        subst this
        cases h
        exact List.mem_cons_self
      · obtain ⟨j, rfl⟩ : ∃ j, k = j + 1 := ⟨k - 1, by omega⟩
        have h3 : (spread as)[j]? = some v := h
        have := ih (i + 1) j v hok2.2 h3 hv
        rw [show i + (j + 1) = i + 1 + j by omega]
        exact List.mem_cons_of_mem _ this
theorem sl_len {E : WE} {U : State} (hT : TT E U) : ∀ (as : List Value), as.all okArg = true → (lg_sl (as.map (vv E))).length = (spread as).length := by
  intro as
  induction as with
  | nil => intro _; rfl
  | cons a as ih =>
    intro h
    have h2 : okArg a = true ∧ as.all okArg = true := by simpa using h
    have ih := ih h2.2
    have e1 : lg_sl ((a :: as).map (vv E)) = (if (vv E a).category = 2 then [.val (vv E a), .second] else [.val (vv E a)]) ++ lg_sl (as.map (vv E)) := rfl
    rw [e1, spread_cons, List.length_append, List.length_append, ih]
    congr 1
    rcases spr_cases hT h2.1 with ⟨x, rfl⟩ | ⟨h1, h3⟩
    · rfl
    · rw [if_neg h3, h1]
      rfl
theorem hasL_entry {E : WE} {U : State} (hT : TT E U) {as L : List Value} {n : Nat} (hok : as.all okArg = true) (hL : entL as n = L) (hle : (spread as).length ≤ n) : hasL (vv E) ((lg_sl (as.map (vv E)) ++ List.replicate (n - (lg_sl (as.map (vv E))).length) Slot.unset).toArray) n L := by
  have h := lv_entry (as.map (vv E)) (n := n) (by rw [sl_len hT as hok]; exact hle)
  refine ⟨h.1, h.2.1, fun k v hk hv => ?_⟩
  subst hL
  unfold entL at hk
  by_cases hlt : k < (spread as).length
  · rw [List.getElem?_append_left hlt] at hk
    have h2 := h.2.2 _ (spread_args hT as 0 k v hok hk hv)
    simpa using h2
  · rw [List.getElem?_append_right (by omega)] at hk
    have := List.eq_of_mem_replicate (List.mem_of_getElem? hk)
    exact absurd this hv
/-- a contract out of the walk from its entry -/
theorem CP.of {d : Nat} {μ : Mt} {as L : List Value} {sh : List Sh} {mi : MI} {mr : MR} {mc ms : Nat} {Q : QT} (hy : plainName μ.1.cls = true) (hok : as.all okArg = true) (hL : entL as μ.2.2.1 = L) (hle : (spread as).length ≤ μ.2.2.1) (h : WP d μ 0 L [] sh mi mr mc ms Q) : CP d μ as sh mi mr mc ms Q := by
  intro l E hφ
  refine Met.ofW (cc := μ.2.1) (maxL := μ.2.2.1) (ret := μ.2.2.2) hy rfl ?_
  intro p e s m args below meth c s₁ B hml hv
  obtain ⟨rfl, hT, hG, hz, hP⟩ := hv
  rw [lg_entry_eq]
  have hA : ∀ q, s.heap.size ≤ q → rng E q := fun q hq => ⟨q - E.2.2.2.2.2, by rw [hφ.2 _ (by omega)]; omega⟩
  exact h l E p e s m _ below meth c s.heap [] 0 0 mc ms _ ⟨B.exec, B.bytes, B.returns, hml, findClass_of_methodNamed B.named, B.notSynchronized, (name_of_methodNamed B.named B.method).1⟩ hT hG hφ va_S.rf hA hz hP (hasL_entry hT hok hL hle) (by omega) (by omega)
theorem CP.mono {d : Nat} {μ : Mt} {as : List Value} {sh : List Sh} {mi : MI} {mr : MR} {mc ms : Nat} {Q Q' : QT} (h : CP d μ as sh mi mr mc ms Q) (hq : ∀ v sh' mi' mr', Q v sh' mi' mr' → Q' v sh' mi' mr') : CP d μ as sh mi mr mc ms Q' := by
  intro l E hφ p e h1 h2 h3 s m args below h4 h5 h6 h7
  obtain ⟨n, o, a, b, c, ⟨⟨v, sh', mi', mr', q1, q2, q3⟩, q4⟩, hL⟩ := h l E hφ p e h1 h2 h3 s m args below h4 h5 h6 h7
  exact ⟨n, o, a, b, c, ⟨⟨v, sh', mi', mr', q1, hq v sh' mi' mr' q2, q3⟩, q4⟩, hL⟩
/-- behind a call -/
theorem call_go {p : Program} {l : Launch} {e : Env} {R : Room} {s : State} {m : MethodId} {args : Array Value} {below : List Frame} {meth : Method} {c : Code} {H : Heap} {locs : List Loc} {cells slots mc ms pc : Nat} {ls : Array Slot} {st0 rest : List Value} {E : WE} {Q' : QT} {a : Array Value} {QQ : State → Prop} {n0 : Nat} (hz : H.size = E.2.2.2.2.2 + n0)
    (hr : va_Run p l e R s m args below meth c H locs cells slots mc ms (F0 m pc ls st0) rest (Qc_ E Q' a) (rng E)) (hS : va_S (rng E) s.heap H locs)
    (kk : ∀ (v : Option Value) (sh' : List Sh) (mi' : MI) (mr' : MR) (H1 : Heap) (locs1 : List Loc), Q' v sh' mi' mr' → n0 ≤ sh'.length → H1.size = E.2.2.2.2.2 + sh'.length → va_P E.2.2.2.2.1 cls (wld E sh' mi' mr') H1 → va_S (rng E) s.heap H1 locs1 → W p l e R s m args below meth c H1 locs1 (cells + mc) (slots + ms) QQ (F0 m (pc + 3) ls ((v.map (vv E)).toList ++ rest))) :
    W p l e R s m args below meth c H locs cells slots QQ (F0 m pc ls st0) := by
  intro T hT X
  obtain ⟨v, st₀, t, T', L, h0, X', hL, e1, e2, ⟨⟨v', sh', mi', mr', hv, hq, hsz, hP⟩, hzz, hk⟩, st⟩ := hr T hT X
  cases hv
  rw [h0] at hzz hk
  obtain ⟨t2, a1, b1⟩ := kk v' sh' mi' mr' T'.heap (locs ++ L) hq (by rw [hsz] at hzz; omega) (by rw [e1]; exact hsz) (by rw [e1]; exact hP)
    ⟨Nat.le_trans hS.1 (by rw [e1]; exact hzz), fun q h1 h2 => by rw [e1, hk q (Nat.lt_of_lt_of_le h1 hS.1) h2]; exact hS.2.1 q h1 h2, fun q hq => by
      rcases List.mem_append.mp hq with h | h
      · exact hS.2.2 q h
      · exact hL q h⟩ T' rfl X'
  exact ⟨t2, st t2 a1, b1⟩
def c12 : Value → Nat
  | .long _ => 2
  | .double _ => 2
  | _ => 1
theorem c12_le {E : WE} {U : State} (hT : TT E U) (S : List Value) (h : (S.map c12).sum ≤ 8) : ((S.map (vv E)).map fun v => v.category).sum ≤ 8 := by
  have key : ∀ S : List Value, ((S.map (vv E)).map fun v => v.category).sum ≤ (S.map c12).sum := by
    intro S
    induction S with
    | nil => exact Nat.le_refl _
    | cons v S ih =>
      simp only [List.map_cons, List.sum_cons]
      have : (vv E v).category ≤ c12 v := by
        cases v with
        | retAddr n => rw [vv_cat hT (v := .retAddr n) rfl]; exact Nat.le_refl _
        | _ => simp [vv, c12, Value.category]
      omega
  exact Nat.le_trans (key S) h
/-- what the tables say of a method that is called -/
def MW (μ : Mt) (n : Nat) : Prop := Cond.code μ.1 μ.2.1 μ.2.2.1 μ.2.2.2 ∈ lw_tbl ∧ Cond.initialized μ.1.cls ∈ lw_tbl ∧ (μ.1.cls ≠ "java/lang/invoke/MethodHandle" ∧ μ.1.cls ≠ "java/lang/invoke/VarHandle") ∧ (parseMethodDescriptor μ.1.desc).map (fun d => d.parameters.length) = some n ∧ μ.2.2.1 ≤ 40
theorem room_ok {d mc ms mc' ms' x : Nat} (h : x ≤ 40) : (room d mc' ms').frames + 1 ≤ (room (d + 1) mc ms).frames ∧ 8 + (x + 11) + (room d mc' ms').locals ≤ (room (d + 1) mc ms).locals := by
  refine ⟨Nat.le_refl _, ?_⟩
  show 8 + (x + 11) + 64 * (d + 1) ≤ 64 * (d + 1 + 1)
  omega
theorem mw_par {μ : Mt} {n : Nat} (h : MW μ n) : ∀ sig, parseMethodDescriptor μ.1.desc = some sig → n = sig.parameters.length := by
  intro sig hs
  have h2 := h.2.2.2.1
  rw [hs] at h2
  exact (Option.some.inj h2).symm
theorem mw_ws {μ : Mt} {n : Nat} (h : MW μ n) {E : WE} {s : State} (hT : TT E s) : ∀ w ∈ [Cond.code μ.1 μ.2.1 μ.2.2.1 μ.2.2.2], ∀ (a' : Array Value) (U : State), s.WarmedH U.vm → w.before a' U = true := by
  intro w hw a' U hW
  rw [List.mem_singleton.mp hw]
  exact gk_moved rfl hW (hT.2.1 _ h.1 rfl)
theorem mw_B {μ : Mt} {n : Nat} (h : MW μ n) {E : WE} {s : State} (hT : TT E s) {d mc ms mc' ms' idx : Nat} {own : String} {args : Array Value} (hl : Cond.methodLink own idx μ.1 ∈ lw_tbl) : CallB (room (d + 1) mc ms) s args own idx μ.1 μ.2.1 μ.2.2.1 μ.2.2.2 [Cond.code μ.1 μ.2.1 μ.2.2.1 μ.2.2.2] (room d mc' ms') mc' ms' n :=
  ⟨rfl, rfl, (room_ok h.2.2.2.2).1, (room_ok h.2.2.2.2).2, mw_ws h hT, List.mem_cons_self, hT.2.1.use h.1 rfl, hT.2.1.use h.2.1 rfl, h.2.2.1, mw_par h, hT.2.1.use hl rfl⟩
theorem mw_N {μ : Mt} {n : Nat} (h : MW μ n) {E : WE} {s : State} (hT : TT E s) {d mc ms mc' ms' idx : Nat} {own host : String} {args : Array Value} (hl : Cond.methodLinkNest own idx μ.1 host ∈ lw_tbl) : va_CN (room (d + 1) mc ms) s args own idx μ.1 host μ.2.1 μ.2.2.1 μ.2.2.2 [Cond.code μ.1 μ.2.1 μ.2.2.1 μ.2.2.2] (room d mc' ms') mc' ms' n :=
  ⟨⟨rfl, rfl, (room_ok h.2.2.2.2).1, (room_ok h.2.2.2.2).2, mw_ws h hT, List.mem_cons_self⟩, hT.2.1.use h.1 rfl, hT.2.1.use h.2.1 rfl, h.2.2.1, mw_par h, hT.2.1.use hl rfl⟩
theorem pre_S {E : WE} {as : List Value} {sh : List Sh} {mi : MI} {mr : MR} {s : State} {H : Heap} {locs : List Loc} (hT : TT E s) (hG : GR E s s.heap) (hS : va_S (rng E) s.heap H locs) (hz : H.size = E.2.2.2.2.2 + sh.length) (hP : va_P E.2.2.2.2.1 cls (wld E sh mi mr) H) : PreS s H (Pc_ E as sh mi mr) (as.map (vv E)) :=
  ⟨Pc_blind, fun U hU hW => ⟨rfl, hT.warm hW, by rw [hU]; exact (hG.kept hS.2.1).moved hW.alike, by rw [hU]; exact hz, by rw [hU]; exact hP⟩⟩
theorem pre_V {E : WE} {as : List Value} {sh : List Sh} {mi : MI} {mr : MR} {s : State} {H : Heap} {locs : List Loc} {a c n : Nat} {q : vw_C} (hT : TT E s) (hG : GR E s s.heap) (hS : va_S (rng E) s.heap H locs) (hz : H.size = E.2.2.2.2.2 + sh.length) (hP : va_P E.2.2.2.2.1 cls (wld E sh mi mr) H) (h : sh[a]? = some (c + 4, n)) (hq : cls[c]? = some q) : PreV s H q.1 (E.1 a) (Pc_ E (.ref a :: as) sh mi mr) (as.map (vv E)) :=
  ⟨Pc_blind, va_recv hT.1 hP hq (wld_at h), fun U hU hW => ⟨rfl, hT.warm hW, by rw [hU]; exact (hG.kept hS.2.1).moved hW.alike, by rw [hU]; exact hz, by rw [hU]; exact hP⟩⟩
theorem st_app (E : WE) (as S : List Value) : ((as.reverse ++ S).map (vv E)) = (as.map (vv E)).reverse ++ S.map (vv E) := by simp
theorem cu_of {μ : Mt} {n : Nat} (h : MW μ n) {E : WE} {s : State} (hT : TT E s) {d mc ms mc' ms' idx : Nat} {own C : String} {args : Array Value} {x : MethodName} (hxd : x.desc = μ.1.desc) (hno : x.cls ≠ "java/lang/invoke/MethodHandle" ∧ x.cls ≠ "java/lang/invoke/VarHandle") (hl : Cond.methodLink own idx x ∈ lw_tbl) (hsm : Cond.sameMethod x.cls x.cls x.name x.desc ∈ lw_tbl) {b0 : ByteArray} {m0 : Nat} {r0 : Option FieldType} (h0 : Cond.code x b0 m0 r0 ∈ lw_tbl) (hix : Cond.instanceMethod x ∈ lw_tbl) (hse : Cond.selects C x μ.1 ∈ lw_tbl) (hi2 : Cond.instanceMethod μ.1 ∈ lw_tbl) : va_CU (room (d + 1) mc ms) s args own C x.cls idx x μ.1 μ.2.1 μ.2.2.1 μ.2.2.2 [Cond.code μ.1 μ.2.1 μ.2.2.1 μ.2.2.2] (room d mc' ms') mc' ms' n := by
  refine ⟨⟨rfl, rfl, (room_ok h.2.2.2.2).1, (room_ok h.2.2.2.2).2, mw_ws h hT, List.mem_cons_self⟩, hT.2.1.use h.1 rfl, hT.2.1.use h.2.1 rfl, hno, ?_, hT.2.1.use hl rfl, hT.2.1.use hsm rfl, ?_, hT.2.1.use hse rfl, hT.2.1.use hi2 rfl⟩
  · rw [hxd]
    exact mw_par h
  · obtain ⟨mk, methM, hnamed, hmethM, hstM, habM⟩ := Cond.instanceMethod_spec (hT.2.1.use hix rfl (a := args))
    obtain ⟨methM', cM, hmethM', -, -, -, -, -, -, hsigM⟩ := Cond.code_spec hnamed (hT.2.1.use h0 rfl (a := args))
    cases hmethM.symm.trans hmethM'
    exact ⟨mk, methM, hnamed, hmethM, hstM, hsigM⟩
theorem r_static {d : Nat} {μ μ2 : Mt} {pc : Nat} {L S as : List Value} {sh : List Sh} {mi : MI} {mr : MR} {cb sb mc2 ms2 idx n : Nat} {Q Q2 : QT} (hd : decode μ.2.1 pc = .ok (.invokestatic idx, 3)) (hn : as.length = n) (hl2 : Cond.methodLink μ.1.cls idx μ2.1 ∈ lw_tbl) (hst : Cond.static μ2.1 ∈ lw_tbl) (hcp : CP d μ2 as sh mi mr mc2 ms2 Q2) (hmw : MW μ2 n) (hS8 : (S.map c12).sum ≤ 8) (k : ∀ (v : Option Value) (sh2 : List Sh) (mi2 : MI) (mr2 : MR), Q2 v sh2 mi2 mr2 → WP (d + 1) μ (pc + 3) L (v.toList ++ S) sh2 mi2 mr2 cb sb Q) : WP (d + 1) μ pc L (as.reverse ++ S) sh mi mr (cb + mc2) (sb + ms2) Q := by
  intro l E p e s m args below meth c H locs cells slots mc ms ls hC hT hG hφ hS hA hz hP hl hc hs
  have hC0 := hC
  obtain ⟨hx, hb, hr, hml, hown, hlk, hnm⟩ := hC
  refine call_go hz (va_runS (As := as.map (vv E)) (rest := S.map (vv E)) (Ts := []) ⟨hx, hb, hml, hown, fun w hw => absurd hw List.not_mem_nil⟩ (hcp l E hφ) ⟨mw_B hmw hT hl2, hT.2.1.use hst rfl⟩ (pre_S hT hG hS hz hP) rfl (by rw [List.length_map]; exact hn) hl.1 (st_app E as S) (lv_room (c12_le hT S hS8)) hd ⟨by show cells + mc2 ≤ mc; omega, by show slots + ms2 ≤ ms; omega⟩) hS (fun v sh2 mi2 mr2 H1 locs1 hq hn2 hz2 hP2 hS2 => ?_)
  have kk := k v sh2 mi2 mr2 hq l E p e s m args below meth c H1 locs1 (cells + mc2) (slots + ms2) mc ms ls hC0 hT hG (hφ.mono hn2) hS2 hA hz2 hP2 hl (by omega) (by omega)
  rw [List.map_append] at kk
  cases v <;> exact kk
theorem r_staticN {d : Nat} {μ μ2 : Mt} {pc : Nat} {L S as : List Value} {sh : List Sh} {mi : MI} {mr : MR} {cb sb mc2 ms2 idx n : Nat} {Q Q2 : QT} (hd : decode μ.2.1 pc = .ok (.invokestatic idx, 3)) {host : String} (hn : as.length = n) (hl2 : Cond.methodLinkNest μ.1.cls idx μ2.1 host ∈ lw_tbl) (hst : Cond.static μ2.1 ∈ lw_tbl) (hcp : CP d μ2 as sh mi mr mc2 ms2 Q2) (hmw : MW μ2 n) (hS8 : (S.map c12).sum ≤ 8) (k : ∀ (v : Option Value) (sh2 : List Sh) (mi2 : MI) (mr2 : MR), Q2 v sh2 mi2 mr2 → WP (d + 1) μ (pc + 3) L (v.toList ++ S) sh2 mi2 mr2 cb sb Q) : WP (d + 1) μ pc L (as.reverse ++ S) sh mi mr (cb + mc2) (sb + ms2) Q := by
  intro l E p e s m args below meth c H locs cells slots mc ms ls hC hT hG hφ hS hA hz hP hl hc hs
  have hC0 := hC
  obtain ⟨hx, hb, hr, hml, hown, hlk, hnm⟩ := hC
  refine call_go hz (va_runSN (As := as.map (vv E)) (rest := S.map (vv E)) (Ts := []) ⟨hx, hb, hml, hown, fun w hw => absurd hw List.not_mem_nil⟩ (hcp l E hφ) ⟨mw_N hmw hT hl2, hT.2.1.use hst rfl, trivial⟩ (pre_S hT hG hS hz hP) rfl (by rw [List.length_map]; exact hn) hl.1 (st_app E as S) (lv_room (c12_le hT S hS8)) hd ⟨by show cells + mc2 ≤ mc; omega, by show slots + ms2 ≤ ms; omega⟩) hS (fun v sh2 mi2 mr2 H1 locs1 hq hn2 hz2 hP2 hS2 => ?_)
  have kk := k v sh2 mi2 mr2 hq l E p e s m args below meth c H1 locs1 (cells + mc2) (slots + ms2) mc ms ls hC0 hT hG (hφ.mono hn2) hS2 hA hz2 hP2 hl (by omega) (by omega)
  rw [List.map_append] at kk
  cases v <;> exact kk
theorem r_virt {d : Nat} {μ μ2 : Mt} {pc : Nat} {L S as : List Value} {sh : List Sh} {mi : MI} {mr : MR} {cb sb mc2 ms2 idx n : Nat} {Q Q2 : QT} (hd : decode μ.2.1 pc = .ok (.invokevirtual idx, 3)) {a c0 n0 : Nat} {q0 : vw_C} (hn : as.length = n) (h : sh[a]? = some (c0 + 4, n0)) (hq : cls[c0]? = some q0) (hl2 : Cond.methodLink μ.1.cls idx μ2.1 ∈ lw_tbl) (hi2 : Cond.instanceMethod μ2.1 ∈ lw_tbl) (hse : Cond.selects q0.1 μ2.1 μ2.1 ∈ lw_tbl) (hcp : CP d μ2 (.ref a :: as) sh mi mr mc2 ms2 Q2) (hmw : MW μ2 n) (hS8 : (S.map c12).sum ≤ 8) (k : ∀ (v : Option Value) (sh2 : List Sh) (mi2 : MI) (mr2 : MR), Q2 v sh2 mi2 mr2 → WP (d + 1) μ (pc + 3) L (v.toList ++ S) sh2 mi2 mr2 cb sb Q) : WP (d + 1) μ pc L (as.reverse ++ .ref a :: S) sh mi mr (cb + mc2) (sb + ms2) Q := by
  intro l E p e s m args below meth c H locs cells slots mc ms ls hC hT hG hφ hS hA hz hP hl hc hs
  have hC0 := hC
  obtain ⟨hx, hb, hr, hml, hown, hlk, hnm⟩ := hC
  refine call_go hz (va_runV (As := as.map (vv E)) (rest := S.map (vv E)) (Ts := []) ⟨hx, hb, hml, hown, fun w hw => absurd hw List.not_mem_nil⟩ (hcp l E hφ) ⟨mw_B hmw hT hl2, hT.2.1.use hi2 rfl, hT.2.1.use hse rfl⟩ (pre_V hT hG hS hz hP h hq) rfl (by rw [List.length_map]; exact hn) hl.1 ((st_app E as (.ref a :: S)).trans rfl) (lv_room (c12_le hT S hS8)) hd ⟨by show cells + mc2 ≤ mc; omega, by show slots + ms2 ≤ ms; omega⟩) hS (fun v sh2 mi2 mr2 H1 locs1 hq hn2 hz2 hP2 hS2 => ?_)
  have kk := k v sh2 mi2 mr2 hq l E p e s m args below meth c H1 locs1 (cells + mc2) (slots + ms2) mc ms ls hC0 hT hG (hφ.mono hn2) hS2 hA hz2 hP2 hl (by omega) (by omega)
  rw [List.map_append] at kk
  cases v <;> exact kk
theorem r_virtU {d : Nat} {μ μ2 : Mt} {pc : Nat} {L S as : List Value} {sh : List Sh} {mi : MI} {mr : MR} {cb sb mc2 ms2 idx n : Nat} {Q Q2 : QT} (hd : decode μ.2.1 pc = .ok (.invokevirtual idx, 3)) {a c0 n0 : Nat} {q0 : vw_C} (hn : as.length = n) (h : sh[a]? = some (c0 + 4, n0)) (hq : cls[c0]? = some q0) {x : MethodName} (hxd : x.desc = μ2.1.desc) (hno : x.cls ≠ "java/lang/invoke/MethodHandle" ∧ x.cls ≠ "java/lang/invoke/VarHandle") (hl2 : Cond.methodLink μ.1.cls idx x ∈ lw_tbl) (hsm : Cond.sameMethod x.cls x.cls x.name x.desc ∈ lw_tbl) {b0 : ByteArray} {m0 : Nat} {r0 : Option FieldType} (h0 : Cond.code x b0 m0 r0 ∈ lw_tbl) (hix : Cond.instanceMethod x ∈ lw_tbl) (hse : Cond.selects q0.1 x μ2.1 ∈ lw_tbl) (hi2 : Cond.instanceMethod μ2.1 ∈ lw_tbl) (hcp : CP d μ2 (.ref a :: as) sh mi mr mc2 ms2 Q2) (hmw : MW μ2 n) (hS8 : (S.map c12).sum ≤ 8) (k : ∀ (v : Option Value) (sh2 : List Sh) (mi2 : MI) (mr2 : MR), Q2 v sh2 mi2 mr2 → WP (d + 1) μ (pc + 3) L (v.toList ++ S) sh2 mi2 mr2 cb sb Q) : WP (d + 1) μ pc L (as.reverse ++ .ref a :: S) sh mi mr (cb + mc2) (sb + ms2) Q := by
  intro l E p e s m args below meth c H locs cells slots mc ms ls hC hT hG hφ hS hA hz hP hl hc hs
  have hC0 := hC
  obtain ⟨hx, hb, hr, hml, hown, hlk, hnm⟩ := hC
  refine call_go hz (va_runU (As := as.map (vv E)) (rest := S.map (vv E)) (Ts := []) ⟨hx, hb, hml, hown, fun w hw => absurd hw List.not_mem_nil⟩ (hcp l E hφ) (cu_of hmw hT hxd hno hl2 hsm h0 hix hse hi2) (pre_V hT hG hS hz hP h hq) rfl (by rw [List.length_map]; exact hn) hl.1 ((st_app E as (.ref a :: S)).trans rfl) (lv_room (c12_le hT S hS8)) hd ⟨by show cells + mc2 ≤ mc; omega, by show slots + ms2 ≤ ms; omega⟩) hS (fun v sh2 mi2 mr2 H1 locs1 hq hn2 hz2 hP2 hS2 => ?_)
  have kk := k v sh2 mi2 mr2 hq l E p e s m args below meth c H1 locs1 (cells + mc2) (slots + ms2) mc ms ls hC0 hT hG (hφ.mono hn2) hS2 hA hz2 hP2 hl (by omega) (by omega)
  rw [List.map_append] at kk
  cases v <;> exact kk
theorem r_init {d : Nat} {μ μ2 : Mt} {pc : Nat} {L S as : List Value} {sh : List Sh} {mi : MI} {mr : MR} {cb sb mc2 ms2 idx n : Nat} {Q Q2 : QT} (hd : decode μ.2.1 pc = .ok (.invokespecial idx, 3)) {a : Nat} (hn : as.length = n) (hnm2 : μ2.1.name = "<init>") (hrt : μ2.2.2.2 = none) (hl2 : Cond.methodLink μ.1.cls idx μ2.1 ∈ lw_tbl) (hi2 : Cond.instanceMethod μ2.1 ∈ lw_tbl) (hcp : CP d μ2 (.ref a :: as) sh mi mr mc2 ms2 Q2) (hmw : MW μ2 n) (hS8 : (S.map c12).sum ≤ 8) (k : ∀ (v : Option Value) (sh2 : List Sh) (mi2 : MI) (mr2 : MR), Q2 v sh2 mi2 mr2 → WP (d + 1) μ (pc + 3) L (v.toList ++ S) sh2 mi2 mr2 cb sb Q) : WP (d + 1) μ pc L (as.reverse ++ .ref a :: S) sh mi mr (cb + mc2) (sb + ms2) Q := by
  intro l E p e s m args below meth c H locs cells slots mc ms ls hC hT hG hφ hS hA hz hP hl hc hs
  obtain ⟨y2, b2, mx2, rt2⟩ := μ2; obtain rfl : rt2 = none := hrt
  have hC0 := hC
  obtain ⟨hx, hb, hr, hml, hown, hlk, hnm⟩ := hC
  refine call_go hz (va_runI (As := as.map (vv E)) (rest := S.map (vv E)) (Ts := []) ⟨hx, hb, hml, hown, fun w hw => absurd hw List.not_mem_nil⟩ (hcp l E hφ) ⟨mw_B hmw hT hl2, hnm2, hT.2.1.use hi2 rfl⟩ (pre_S (as := .ref a :: as) hT hG hS hz hP) rfl (by rw [List.length_map]; exact hn) hl.1 ((st_app E as (.ref a :: S)).trans rfl) (lv_room (c12_le hT S hS8)) hd ⟨by show cells + mc2 ≤ mc; omega, by show slots + ms2 ≤ ms; omega⟩) hS (fun v sh2 mi2 mr2 H1 locs1 hq hn2 hz2 hP2 hS2 => ?_)
  have kk := k v sh2 mi2 mr2 hq l E p e s m args below meth c H1 locs1 (cells + mc2) (slots + ms2) mc ms ls hC0 hT hG (hφ.mono hn2) hS2 hA hz2 hP2 hl (by omega) (by omega)
  rw [List.map_append] at kk
  cases v <;> exact kk
theorem r_initN {d : Nat} {μ μ2 : Mt} {pc : Nat} {L S as : List Value} {sh : List Sh} {mi : MI} {mr : MR} {cb sb mc2 ms2 idx n : Nat} {Q Q2 : QT} (hd : decode μ.2.1 pc = .ok (.invokespecial idx, 3)) {a : Nat} {host : String} (hn : as.length = n) (hnm2 : μ2.1.name = "<init>") (hrt : μ2.2.2.2 = none) (hl2 : Cond.methodLinkNest μ.1.cls idx μ2.1 host ∈ lw_tbl) (hi2 : Cond.instanceMethod μ2.1 ∈ lw_tbl) (hcp : CP d μ2 (.ref a :: as) sh mi mr mc2 ms2 Q2) (hmw : MW μ2 n) (hS8 : (S.map c12).sum ≤ 8) (k : ∀ (v : Option Value) (sh2 : List Sh) (mi2 : MI) (mr2 : MR), Q2 v sh2 mi2 mr2 → WP (d + 1) μ (pc + 3) L (v.toList ++ S) sh2 mi2 mr2 cb sb Q) : WP (d + 1) μ pc L (as.reverse ++ .ref a :: S) sh mi mr (cb + mc2) (sb + ms2) Q := by
  intro l E p e s m args below meth c H locs cells slots mc ms ls hC hT hG hφ hS hA hz hP hl hc hs
  obtain ⟨y2, b2, mx2, rt2⟩ := μ2; obtain rfl : rt2 = none := hrt
  have hC0 := hC
  obtain ⟨hx, hb, hr, hml, hown, hlk, hnm⟩ := hC
  refine call_go hz (va_runIN (As := as.map (vv E)) (rest := S.map (vv E)) (Ts := []) ⟨hx, hb, hml, hown, fun w hw => absurd hw List.not_mem_nil⟩ (hcp l E hφ) ⟨mw_N hmw hT hl2, hnm2, hT.2.1.use hi2 rfl⟩ (pre_S (as := .ref a :: as) hT hG hS hz hP) rfl (by rw [List.length_map]; exact hn) hl.1 ((st_app E as (.ref a :: S)).trans rfl) (lv_room (c12_le hT S hS8)) hd ⟨by show cells + mc2 ≤ mc; omega, by show slots + ms2 ≤ ms; omega⟩) hS (fun v sh2 mi2 mr2 H1 locs1 hq hn2 hz2 hP2 hS2 => ?_)
  have kk := k v sh2 mi2 mr2 hq l E p e s m args below meth c H1 locs1 (cells + mc2) (slots + ms2) mc ms ls hC0 hT hG (hφ.mono hn2) hS2 hA hz2 hP2 hl (by omega) (by omega)
  rw [List.map_append] at kk
  cases v <;> exact kk
theorem r_super {d : Nat} {μ μ2 : Mt} {pc : Nat} {L S as : List Value} {sh : List Sh} {mi : MI} {mr : MR} {cb sb mc2 ms2 idx n : Nat} {Q Q2 : QT} (hd : decode μ.2.1 pc = .ok (.invokespecial idx, 3)) {a c0 n0 : Nat} {q0 : vw_C} (hn : as.length = n) (h : sh[a]? = some (c0 + 4, n0)) (hq : cls[c0]? = some q0) (hnm2 : μ2.1.name ≠ "<init>") (hl2 : Cond.methodLink μ.1.cls idx μ2.1 ∈ lw_tbl) (hsm : Cond.sameMethod μ2.1.cls μ2.1.cls μ2.1.name μ2.1.desc ∈ lw_tbl) (hsu : Cond.superclass μ.1.cls μ2.1.cls ∈ lw_tbl) (hi2 : Cond.instanceMethod μ2.1 ∈ lw_tbl) (hcp : CP d μ2 (.ref a :: as) sh mi mr mc2 ms2 Q2) (hmw : MW μ2 n) (hS8 : (S.map c12).sum ≤ 8) (k : ∀ (v : Option Value) (sh2 : List Sh) (mi2 : MI) (mr2 : MR), Q2 v sh2 mi2 mr2 → WP (d + 1) μ (pc + 3) L (v.toList ++ S) sh2 mi2 mr2 cb sb Q) : WP (d + 1) μ pc L (as.reverse ++ .ref a :: S) sh mi mr (cb + mc2) (sb + ms2) Q := by
  intro l E p e s m args below meth c H locs cells slots mc ms ls hC hT hG hφ hS hA hz hP hl hc hs
  have hC0 := hC
  obtain ⟨hx, hb, hr, hml, hown, hlk, hnm⟩ := hC
  refine call_go hz (va_runSU (As := as.map (vv E)) (rest := S.map (vv E)) (Ts := []) (hT.1.1 c0 q0 hq).2 ⟨hx, hb, hml, hown, fun w hw => absurd hw List.not_mem_nil⟩ (hcp l E hφ) ⟨⟨rfl, rfl, (room_ok hmw.2.2.2.2).1, (room_ok hmw.2.2.2.2).2, mw_ws hmw hT, List.mem_cons_self⟩, hT.2.1.use hl2 rfl, hT.2.1.use hsm rfl, hT.2.1.use hsu rfl, hT.2.1.use hi2 rfl, hT.2.1.use hmw.2.1 rfl, hT.2.1.use hmw.1 rfl, hnm2, mw_par hmw⟩ (pre_V hT hG hS hz hP h hq) rfl (by rw [List.length_map]; exact hn) hl.1 ((st_app E as (.ref a :: S)).trans rfl) (lv_room (c12_le hT S hS8)) hd ⟨by show cells + mc2 ≤ mc; omega, by show slots + ms2 ≤ ms; omega⟩) hS (fun v sh2 mi2 mr2 H1 locs1 hq hn2 hz2 hP2 hS2 => ?_)
  have kk := k v sh2 mi2 mr2 hq l E p e s m args below meth c H1 locs1 (cells + mc2) (slots + ms2) mc ms ls hC0 hT hG (hφ.mono hn2) hS2 hA hz2 hP2 hl (by omega) (by omega)
  rw [List.map_append] at kk
  cases v <;> exact kk
theorem r_virtS {d : Nat} {μ μ2 : Mt} {pc : Nat} {L S as : List Value} {sh : List Sh} {mi : MI} {mr : MR} {cb sb mc2 ms2 idx n : Nat} {Q Q2 : QT} (hd : decode μ.2.1 pc = .ok (.invokevirtual idx, 3)) {i : Nat} (hn : as.length = n) (hi : i < 6) (hl2 : Cond.methodLink μ.1.cls idx μ2.1 ∈ lw_tbl) (hi2 : Cond.instanceMethod μ2.1 ∈ lw_tbl) (hse : Cond.selects "java/lang/String" μ2.1 μ2.1 ∈ lw_tbl) (hcp : CP d μ2 (.float (UInt32.ofNat (2 * i)) :: as) sh mi mr mc2 ms2 Q2) (hmw : MW μ2 n) (hS8 : (S.map c12).sum ≤ 8) (k : ∀ (v : Option Value) (sh2 : List Sh) (mi2 : MI) (mr2 : MR), Q2 v sh2 mi2 mr2 → WP (d + 1) μ (pc + 3) L (v.toList ++ S) sh2 mi2 mr2 cb sb Q) : WP (d + 1) μ pc L (as.reverse ++ .float (UInt32.ofNat (2 * i)) :: S) sh mi mr (cb + mc2) (sb + ms2) Q := by
  intro l E p e s m args below meth c H locs cells slots mc ms ls hC hT hG hφ hS hA hz hP hl hc hs
  have hC0 := hC
  obtain ⟨hx, hb, hr, hml, hown, hlk, hnm⟩ := hC
  refine call_go hz (va_runV (C := "java/lang/String") (b := E.2.2.1 (UInt32.ofNat (2 * i))) (As := as.map (vv E)) (rest := S.map (vv E)) (Ts := []) ⟨hx, hb, hml, hown, fun w hw => absurd hw List.not_mem_nil⟩ (hcp l E hφ) ⟨mw_B hmw hT hl2, hT.2.1.use hi2 rfl, hT.2.1.use hse rfl⟩ ⟨Pc_blind, vk_recv hG.1 hi hS, (pre_S (as := .float (UInt32.ofNat (2 * i)) :: as) hT hG hS hz hP).2⟩ rfl (by rw [List.length_map]; exact hn) hl.1 ((st_app E as (.float (UInt32.ofNat (2 * i)) :: S)).trans rfl) (lv_room (c12_le hT S hS8)) hd ⟨by show cells + mc2 ≤ mc; omega, by show slots + ms2 ≤ ms; omega⟩) hS (fun v sh2 mi2 mr2 H1 locs1 hq hn2 hz2 hP2 hS2 => ?_)
  have kk := k v sh2 mi2 mr2 hq l E p e s m args below meth c H1 locs1 (cells + mc2) (slots + ms2) mc ms ls hC0 hT hG (hφ.mono hn2) hS2 hA hz2 hP2 hl (by omega) (by omega)
  rw [List.map_append] at kk
  cases v <;> exact kk
theorem r_obj {d : Nat} {μ : Mt} {pc : Nat} {L S : List Value} {sh : List Sh} {mi : MI} {mr : MR} {cb sb : Nat} {Q : QT} {idx a : Nat} (hd : decode μ.2.1 pc = .ok (.invokespecial idx, 3)) (hl2 : Cond.methodLink μ.1.cls idx objectInit ∈ lw_tbl) (hi2 : Cond.instanceMethod objectInit ∈ lw_tbl) (hc2 : Cond.code objectInit ⟨#[0xb1]⟩ 1 none ∈ lw_tbl) (hS8 : (S.map c12).sum ≤ 8) (k : WP d μ (pc + 3) L (S) sh mi mr cb sb Q) : WP d μ (pc) L (.ref a :: S) sh mi mr cb sb Q := by
  intro l E p e s m args below meth c H locs cells slots mc ms ls hC hT hG hφ hS hA hz hP hl hc hs
  have hC0 := hC
  obtain ⟨hx, hb, hr, hml, hown, hlk, hnm⟩ := hC
  refine W.objInit hx hb hown (hT.2.1.use hl2 rfl) (hT.2.1.use hi2 rfl) (hT.2.1.use hc2 rfl) rfl (hl.1.trans hml.symm) rfl hd (by show 1 ≤ d + 1; omega) ?_ (k l E p e s m args below meth c H locs cells slots mc ms ls hC0 hT hG hφ hS hA hz hP hl hc hs)
  have := lv_room (m := m) (pc := pc) (ls := ls) (rest := S.map (vv E)) (c12_le hT S hS8)
  show 2 * (F0 m pc ls ((Value.ref a :: S).map (vv E))).monitorRoom + _ + 12 ≤ 64 * (d + 1)
  have e : (F0 m pc ls ((Value.ref a :: S).map (vv E))).monitorRoom = (F0 m pc ls (S.map (vv E))).monitorRoom := rfl
  rw [e]
  omega
