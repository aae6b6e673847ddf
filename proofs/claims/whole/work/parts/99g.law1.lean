/-! THE LAW: calls from its own frame -/
section
variable {p : Program} {l : Launch} {e : Env} {s : State} {m : MethodId} {args : Array Value} {below : List Frame} {meth : Method} {c : Code} {H : Heap} {locs : List Loc} {cells slots pc : Nat} {ls : Array Slot} {A : Nat → Prop} {QQ : State → Prop}
theorem call_law {R : Room} {mc ms : Nat} {st0 rest : List Value} {E : WE} {Q' : QT} {a : Array Value} {n0 : Nat} (hAE : ∀ q, rng E q → A q) (hz : H.size = E.2.2.2.2.2 + n0)
    (hr : va_Run p l e R s m args below meth c H locs cells slots mc ms (F0 m pc ls st0) rest (Qc_ E Q' a) (rng E)) (hS : va_S A s.heap H locs)
    (kk : ∀ (v : Option Value) (sh' : List Sh) (mi' : MI) (mr' : MR) (H1 : Heap) (locs1 : List Loc), Q' v sh' mi' mr' → n0 ≤ sh'.length → H1.size = E.2.2.2.2.2 + sh'.length → va_P E.2.2.2.2.1 cls (wld E sh' mi' mr') H1 → va_S A s.heap H1 locs1 → (∀ q : Nat, q < H.size → ¬ rng E q → H1[q]? = H[q]?) → W p l e R s m args below meth c H1 locs1 (cells + mc) (slots + ms) QQ (F0 m (pc + 3) ls ((v.map (vv E)).toList ++ rest))) :
    W p l e R s m args below meth c H locs cells slots QQ (F0 m pc ls st0) := by
  intro T hT X
  obtain ⟨v, st₀, t, T', L, h0, X', hL, e1, e2, ⟨⟨v', sh', mi', mr', hv, hq, hsz, hP⟩, hzz, hk⟩, st⟩ := hr T hT X
  cases hv
  rw [h0] at hzz hk
  obtain ⟨t2, a1, b1⟩ := kk v' sh' mi' mr' T'.heap (locs ++ L) hq (by rw [hsz] at hzz; omega) (by rw [e1]; exact hsz) (by rw [e1]; exact hP)
    ⟨Nat.le_trans hS.1 (by rw [e1]; exact hzz), fun q h1 h2 => by rw [e1, hk q (Nat.lt_of_lt_of_le h1 hS.1) (fun z => h2 (hAE q z))]; exact hS.2.1 q h1 h2, fun q hq => by
      rcases List.mem_append.mp hq with h | h
      · exact hS.2.2 q h
      · exact hAE _ (hL q h)⟩ (fun q h1 h2 => by rw [e1]; exact hk q h1 h2) T' rfl X'
  exact ⟨t2, st t2 a1, b1⟩
theorem mw_L {μ : Mt} {n : Nat} (h : MW μ n) {E : WE} (hT : TT E s) {mc' ms' idx : Nat} {own : String} (hl : Cond.methodLink own idx μ.1 ∈ lw_tbl) : CallB room_1 s args own idx μ.1 μ.2.1 μ.2.2.1 μ.2.2.2 [Cond.code μ.1 μ.2.1 μ.2.2.1 μ.2.2.2] (room 1200 mc' ms') mc' ms' n :=
  ⟨rfl, rfl, by show 1201 + 1 ≤ 2048; omega, by have := h.2.2.2.2; show 8 + (μ.2.2.1 + 11) + 64 * 1201 ≤ 84000; omega, mw_ws h hT, List.mem_cons_self, hT.2.1.use h.1 rfl, hT.2.1.use h.2.1 rfl, h.2.2.1, mw_par h, hT.2.1.use hl rfl⟩
/-- a virtual call of the law -/
theorem lawV {E : WE} {μ2 : Mt} {S as : List Value} {sh : List Sh} {mi : MI} {mr : MR} {mc2 ms2 idx n : Nat} {Q2 : QT} (hx : p.tables.exec = Jvm.exec) (hb : c.code = code) (hml : c.maxLocals = 4) (hown : s.vm.findClass RL = some m.cls) (hT : TT E s) (hG : GR E s s.heap) (hφ : PH E sh.length) (hS : va_S A s.heap H locs) (hAE : ∀ q, rng E q → A q) (hA0 : ∀ q, q < s.heap.size → ¬ A q) (hz : H.size = E.2.2.2.2.2 + sh.length) (hP : va_P E.2.2.2.2.1 cls (wld E sh mi mr) H) (hls : ls.size = 4)
    (hd : decode code pc = .ok (.invokevirtual idx, 3)) {a c0 n0 : Nat} {q0 : vw_C} (hn : as.length = n) (h : sh[a]? = some (c0 + 4, n0)) (hq : cls[c0]? = some q0) (hl2 : Cond.methodLink RL idx μ2.1 ∈ lw_tbl) (hi2 : Cond.instanceMethod μ2.1 ∈ lw_tbl) (hse : Cond.selects q0.1 μ2.1 μ2.1 ∈ lw_tbl) (hcp : CP 1200 μ2 (.ref a :: as) sh mi mr mc2 ms2 Q2) (hmw : MW μ2 n) (hS8 : (S.map c12).sum ≤ 8) (hc : cells + mc2 ≤ 600000) (hs : slots + ms2 ≤ 7302250)
    (k : ∀ (v : Option Value) (sh2 : List Sh) (mi2 : MI) (mr2 : MR) (H1 : Heap) (locs1 : List Loc), Q2 v sh2 mi2 mr2 → sh.length ≤ sh2.length → H1.size = E.2.2.2.2.2 + sh2.length → va_P E.2.2.2.2.1 cls (wld E sh2 mi2 mr2) H1 → va_S A s.heap H1 locs1 → (∀ q : Nat, q < H.size → ¬ rng E q → H1[q]? = H[q]?) → W p l e room_1 s m args below meth c H1 locs1 (cells + mc2) (slots + ms2) QQ (F0 m (pc + 3) ls ((v.map (vv E)).toList ++ S.map (vv E)))) :
    W p l e room_1 s m args below meth c H locs cells slots QQ (F0 m pc ls ((as.reverse ++ .ref a :: S).map (vv E))) := by
  have hS' : va_S (rng E) s.heap H [] := ⟨hS.1, fun q h1 h2 => hS.2.1 q h1 (hA0 q h1), fun q h => by cases h⟩
  exact call_law hAE hz (va_runV (As := as.map (vv E)) (rest := S.map (vv E)) (Ts := []) ⟨hx, hb, hml, hown, fun w hw => absurd hw List.not_mem_nil⟩ (hcp l E hφ) ⟨mw_L hmw hT hl2, hT.2.1.use hi2 rfl, hT.2.1.use hse rfl⟩ (pre_V hT hG hS' hz hP h hq) rfl (by rw [List.length_map]; exact hn) hls ((st_app E as (.ref a :: S)).trans rfl) (lv_room (c12_le hT S hS8)) hd ⟨hc, hs⟩) hS k
end
/-- the law's two worlds: cells of the class at a0 .. a0 + 75, of the model at a0 + 76 .. a0 + 94, new ones behind -/
def phC (a0 k : Nat) : Nat := if k < 76 then a0 + k else a0 + 19 + k
def phM (a0 h k : Nat) : Nat := if k < 19 then a0 + 76 + k else h - 19 + k
abbrev LG : Type := (Nat → ClassId) × (UInt32 → Nat) × Value × va_G
def EC (g : LG) (a0 : Nat) : WE := (phC a0, g.1, g.2.1, g.2.2.1, g.2.2.2, a0 + 19)
def EM (g : LG) (a0 h : Nat) : WE := (phM a0 h, g.1, g.2.1, g.2.2.1, g.2.2.2, h - 19)
theorem ph_C {g : LG} {a0 n : Nat} (h : 76 ≤ n) : PH (EC g a0) n := by
  refine ⟨fun i j e => ?_, fun k hk => ?_⟩
  · have e : phC a0 i = phC a0 j := e
    unfold phC at e
    split at e <;> split at e <;> omega
  · show phC a0 k = a0 + 19 + k
    unfold phC
    rw [if_neg (by omega)]
theorem ph_M {g : LG} {a0 h : Nat} (hh : a0 + 95 ≤ h) : PH (EM g a0 h) 19 := by
  refine ⟨fun i j e => ?_, fun k hk => ?_⟩
  · have e : phM a0 h i = phM a0 h j := e
    unfold phM at e
    split at e <;> split at e <;> omega
  · show phM a0 h k = h - 19 + k
    unfold phM
    rw [if_neg (by omega)]
theorem rng_C {g : LG} {a0 q : Nat} (h : rng (EC g a0) q) : a0 ≤ q ∧ ¬ (a0 + 76 ≤ q ∧ q < a0 + 95) := by
  obtain ⟨k, rfl⟩ := h
  show a0 ≤ phC a0 k ∧ ¬ (a0 + 76 ≤ phC a0 k ∧ phC a0 k < a0 + 95)
  unfold phC
  split <;> omega
theorem rng_M {g : LG} {a0 h q : Nat} (hh : a0 + 95 ≤ h) (hq : rng (EM g a0 h) q) : a0 ≤ q ∧ (a0 + 76 ≤ q ∧ q < a0 + 95 ∨ h ≤ q) := by
  obtain ⟨k, rfl⟩ := hq
  show a0 ≤ phM a0 h k ∧ (a0 + 76 ≤ phM a0 h k ∧ phM a0 h k < a0 + 95 ∨ h ≤ phM a0 h k)
  unfold phM
  split <;> omega
