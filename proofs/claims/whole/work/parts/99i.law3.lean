/-! THE LAW: a call of each -/
/-- what the start gives of classes, strings, statics -/
def LGr (g : LG) (s : State) : Prop := TT (EC g 0) s ∧ (vk_S 6 ssL ssB (fun i => g.2.1 (UInt32.ofNat (2 * i))) (fun i => g.2.1 (UInt32.ofNat (2 * i + 1))) (fun q => s.heap.size ≤ q) s s.heap ∧ va_Z "java/lang/String" "COMPACT_STRINGS" "Z" (.int 1) (fun q => s.heap.size ≤ q) s s.heap ∧ va_Z "jdk/internal/util/Preconditions" "SIOOBE_FORMATTER" "Ljava/util/function/BiFunction;" g.2.2.1 (fun q => s.heap.size ≤ q) s s.heap)
theorem LGr.c {g : LG} {s : State} (h : LGr g s) {a0 : Nat} (ha : s.heap.size ≤ a0) : TT (EC g a0) s ∧ GR (EC g a0) s s.heap := by
  have hn : ∀ q, rng (EC g a0) q → (fun q => s.heap.size ≤ q) q := fun q hq => by have := (rng_C hq).1; show _ ≤ _; omega
  exact ⟨h.1, h.2.1.narrow hn, h.2.2.1.narrow hn, h.2.2.2.narrow hn⟩
theorem LGr.m {g : LG} {s : State} (h : LGr g s) {a0 k : Nat} (ha : s.heap.size ≤ a0) (hk : a0 + 95 ≤ k) : TT (EM g a0 k) s ∧ GR (EM g a0 k) s s.heap := by
  have hn : ∀ q, rng (EM g a0 k) q → (fun q => s.heap.size ≤ q) q := fun q hq => by have := (rng_M hk hq).1; show _ ≤ _; omega
  exact ⟨h.1, h.2.1.narrow hn, h.2.2.1.narrow hn, h.2.2.2.narrow hn⟩
section
variable {p : Program} {l : Launch} {e : Env} {s : State} {m : MethodId} {args : Array Value} {below : List Frame} {meth : Method} {c : Code} {H : Heap} {locs : List Loc} {cells slots pc : Nat} {ls : Array Slot} {QQ : State → Prop} {g : LG} {sh : List Sh} {mi : MI} {mr : MR} {M : MI} {Mr : MR} {S as st0 : List Value} {idx n : Nat} {r : Int32}
theorem lawC {yc : Mt} {mc ms : Nat} {Rc : List Sh → MI → MR → Prop} (hx : p.tables.exec = Jvm.exec) (hb : c.code = code) (hml : c.maxLocals = 4) (hown : s.vm.findClass RL = some m.cls) (hg : LGr g s) (h : LSt g s.heap.size H sh mi mr M Mr) (hF : SHC sh) (hS : va_S (fun q => s.heap.size ≤ q) s.heap H locs) (hls : ls.size = 4) (hcp : CP 1200 yc (.ref 0 :: as) sh mi mr mc ms (SQ r Rc)) (hd : decode code pc = .ok (.invokevirtual idx, 3)) (hn : as.length = n) (hl2 : Cond.methodLink RL idx yc.1 ∈ lw_tbl) (hi2 : Cond.instanceMethod yc.1 ∈ lw_tbl) (hse : Cond.selects RX11 yc.1 yc.1 ∈ lw_tbl) (hmw : MW yc n) (hc : cells + mc ≤ 600000) (hs : slots + ms ≤ 7302250) (hst : st0 = (as.reverse ++ .ref 0 :: S).map (vv (EC g s.heap.size))) (hS8 : (S.map c12).sum ≤ 8)
    (k : ∀ (sh2 : List Sh) (mi2 : MI) (mr2 : MR) (H1 : Heap) (locs1 : List Loc), Rc sh2 mi2 mr2 → LSt g s.heap.size H1 sh2 mi2 mr2 M Mr → va_S (fun q => s.heap.size ≤ q) s.heap H1 locs1 → W p l e room_1 s m args below meth c H1 locs1 (cells + mc) (slots + ms) QQ (F0 m (pc + 3) ls (.int r :: S.map (vv (EC g s.heap.size))))) :
    W p l e room_1 s m args below meth c H locs cells slots QQ (F0 m pc ls st0) := by
  subst hst
  obtain ⟨hT, hG⟩ := hg.c (Nat.le_refl _)
  refine lawV (E := EC g s.heap.size) (a := 0) (c0 := 11) (q0 := (RX11, TX11, 14)) (n0 := 14) hx hb hml hown hT hG (ph_C h.1) hS (fun q hq => (rng_C hq).1) (fun q hq z => absurd z (Nat.not_le.mpr hq)) h.2.1 h.2.2.1 hls hd hn (hF 0 _ rfl) rfl hl2 hi2 hse hcp hmw hS8 hc hs (fun v sh2 mi2 mr2 H1 locs1 hq hn2 hz2 hP2 hS2 hk => ?_)
  obtain ⟨rfl, hq⟩ := hq
  exact k sh2 mi2 mr2 H1 locs1 hq (h.c hn2 hz2 hP2 hk) hS2
theorem lawM {ym : Mt} {Rm : MI → Prop} (hx : p.tables.exec = Jvm.exec) (hb : c.code = code) (hml : c.maxLocals = 4) (hown : s.vm.findClass RL = some m.cls) (hg : LGr g s) (h : LSt g s.heap.size H sh mi mr M Mr) (hS : va_S (fun q => s.heap.size ≤ q) s.heap H locs) (hls : ls.size = 4) (hcp : CP 1200 ym (.ref 0 :: as) shM M Mr 0 0 (SQ r (fun sh2 M2 Mr2 => sh2 = shM ∧ Mr2 = Mr ∧ Rm M2))) (hd : decode code pc = .ok (.invokevirtual idx, 3)) (hn : as.length = n) (hl2 : Cond.methodLink RL idx ym.1 ∈ lw_tbl) (hi2 : Cond.instanceMethod ym.1 ∈ lw_tbl) (hse : Cond.selects RX12 ym.1 ym.1 ∈ lw_tbl) (hmw : MW ym n) (hc : cells ≤ 600000) (hs : slots ≤ 7302250) (hst : st0 = (as.reverse ++ .ref 0 :: S).map (vv (EM g s.heap.size H.size))) (hS8 : (S.map c12).sum ≤ 8)
    (k : ∀ (M2 : MI) (H1 : Heap) (locs1 : List Loc), Rm M2 → LSt g s.heap.size H1 sh mi mr M2 Mr → va_S (fun q => s.heap.size ≤ q) s.heap H1 locs1 → W p l e room_1 s m args below meth c H1 locs1 cells slots QQ (F0 m (pc + 3) ls (.int r :: S.map (vv (EM g s.heap.size H.size))))) :
    W p l e room_1 s m args below meth c H locs cells slots QQ (F0 m pc ls st0) := by
  subst hst
  have hh : s.heap.size + 95 ≤ H.size := by have := h.2.1; have := h.1; omega
  obtain ⟨hT, hG⟩ := hg.m (Nat.le_refl _) hh
  refine lawV (E := EM g s.heap.size H.size) (a := 0) (c0 := 12) (q0 := (RX12, TX12, 34)) (n0 := 34) (sh := shM) hx hb hml hown hT hG (ph_M hh) hS (fun q hq => (rng_M hh hq).1) (fun q hq z => absurd z (Nat.not_le.mpr hq)) (by show H.size = H.size - 19 + 19; omega) h.2.2.2.1 hls hd hn rfl rfl hl2 hi2 hse hcp hmw hS8 hc hs (fun v sh2 mi2 mr2 H1 locs1 hq hn2 hz2 hP2 hS2 hk => ?_)
  obtain ⟨rfl, rfl, rfl, hq⟩ := hq
  exact k mi2 H1 locs1 hq (h.m hz2 hP2 hk) hS2
end
