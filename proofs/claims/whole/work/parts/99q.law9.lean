/-! THE LAW: its start, two objects made -/
def ES (g : LG) (a0 : Nat) : WE := (fun k => a0 + k, g.1, g.2.1, g.2.2.1, g.2.2.2, a0)
theorem ph_S {g : LG} {a0 n : Nat} : PH (ES g a0) n := ⟨fun i j e => by have e : a0 + i = a0 + j := e; omega, fun _ _ => rfl⟩
theorem rng_S {g : LG} {a0 q : Nat} (h : rng (ES g a0) q) : a0 ≤ q := by
  obtain ⟨k, rfl⟩ := h
  show a0 ≤ a0 + k
  omega
theorem LGr.s {g : LG} {s : State} (h : LGr g s) {a0 : Nat} (ha : s.heap.size ≤ a0) : TT (ES g a0) s ∧ GR (ES g a0) s s.heap := by
  have hn : ∀ q, rng (ES g a0) q → (fun q => s.heap.size ≤ q) q := fun q hq => by have := rng_S hq; show _ ≤ _; omega
  exact ⟨h.1, h.2.1.narrow hn, h.2.2.1.narrow hn, h.2.2.2.narrow hn⟩
theorem wld_to {E E' : WE} {N : Nat} {sh : List Sh} {mi : MI} {mr : MR} (h2 : E'.2.1 = E.2.1) (h1 : ∀ k, k < N → E'.1 k = E.1 k) (hr : ∀ a i b, mr a i = some b → b < N) (hn : sh.length ≤ N) : wld E' sh mi mr = wld E sh mi mr := by
  have e : ∀ a i, (mr a i).map E'.1 = (mr a i).map E.1 := fun a i => by
    cases h : mr a i with
    | none => rfl
    | some b =>
      show some _ = some _
      rw [h1 b (hr a i b h)]
  unfold wld
  refine List.map_congr_left (fun k hk => ?_)
  have hk : k < sh.length := List.mem_range.mp hk
  show (E'.1 k, cellE E' mi mr k (sh.getD k (0, 0))) = (E.1 k, cellE E mi mr k (sh.getD k (0, 0)))
  rw [h1 k (by omega)]
  congr 1
  generalize sh.getD k (0, 0) = x
  obtain ⟨t, n⟩ := x
  match t with
  | 0 => simp [cellE, h2]
  | 1 => simp [cellE, h2, e]
  | 2 => simp [cellE, h2, e]
  | 3 => simp [cellE, h2, e]
  | c + 4 => simp [cellE, fld, e]
theorem wld_M2 {E E' : WE} {M : MI} {Mr : MR} (hM : MB Mr) (h2 : E'.2.1 = E.2.1) (e1 : ∀ k, k < 19 → E'.1 k = E.1 k) : wld E' shM M Mr = wld E shM M Mr := by
  have e2 : ∀ i, i < 34 → rfd 12 i = true → (Mr 0 i).map E'.1 = (Mr 0 i).map E.1 := fun i hi hr => by
    have hb : ∃ b, mtab i = some b ∧ b < 19 := (by decide : ∀ i, i < 34 → rfd 12 i = true → ∃ b, mtab i = some b ∧ b < 19) i hi hr
    obtain ⟨b, h1, h2'⟩ := hb
    rw [hM i b h1]
    show some _ = some _
    rw [e1 b h2']
  unfold wld
  refine List.map_congr_left (fun k hk => ?_)
  have hk : k < 19 := List.mem_range.mp hk
  show (E'.1 k, cellE E' M Mr k (shM.getD k (0, 0))) = (E.1 k, cellE E M Mr k (shM.getD k (0, 0)))
  rw [e1 k hk]
  congr 1
  by_cases h0 : k = 0
  · subst h0
    show (Sum.inr (12, fld E' M Mr 0 12 34) : va_E) = Sum.inr (12, fld E M Mr 0 12 34)
    unfold fld
    congr 2
    refine List.map_congr_left (fun i hi => ?_)
    have hi : i < 34 := List.mem_range.mp hi
    by_cases hr : rfd 12 i = true
    · rw [if_pos hr, if_pos hr, e2 i hi hr]
    · rw [if_neg hr, if_neg hr]
  · have hs : ∀ k, k < 19 → k ≠ 0 → (shM.getD k (0, 0)).1 = 0 := by decide
    have := hs k hk h0
    unfold cellE
    rw [this, h2]
section
variable {p : Program} {l : Launch} {e : Env} {s : State} {m : MethodId} {args : Array Value} {below : List Frame} {meth : Method} {c : Code} {H : Heap} {locs : List Loc} {cells slots pc : Nat} {ls : Array Slot} {A : Nat → Prop} {QQ : State → Prop}
/-- a new object of the law -/
theorem lawN {E : WE} {idx c0 : Nat} {q0 : vw_C} {rest : List Value} (hx : p.tables.exec = Jvm.exec) (hb : c.code = code) (hown : s.vm.findClass RL = some m.cls) (hT : TT E s) (hd : decode code pc = .ok (.new idx, 3)) (hq : cls[c0]? = some q0) (h1 : Cond.classLink RL idx q0.1 ∈ lw_tbl) (h2 : Cond.instantiable q0.1 q0.2.2 ∈ lw_tbl) (h3 : Cond.initialized q0.1 ∈ lw_tbl) (hc : cells + 1 ≤ 600000) (hs : slots + q0.2.2 ≤ 7302250) (hE : E.1 0 = H.size) (hS : va_S A s.heap H locs)
    (k : ∀ H1 : Heap, H1.size = H.size + 1 → (∀ q : Nat, q < H.size → H1[q]? = H[q]?) → va_P E.2.2.2.2.1 cls (wld E [(c0 + 4, q0.2.2)] (fun _ => Z0) (fun _ => N0)) H1 → va_S A s.heap H1 locs → W p l e room_1 s m args below meth c H1 locs (cells + 1) (slots + q0.2.2) QQ (F0 m (pc + 3) ls (.ref (E.1 0) :: rest))) :
    W p l e room_1 s m args below meth c H locs cells slots QQ (F0 m pc ls rest) := by
  obtain ⟨C, T, N⟩ := q0
  have hKn := hT.1.1 c0 _ hq
  have hts : ∀ w ∈ u_ws C T N, w.before args s = true := fun w hw => hT.2.1.use (cls_ws c0 _ hq w hw).1 (cls_ws c0 _ hq w hw).2
  have hty := (cls_ty c0 _ hq).1
  refine W.newcK hx hb hown (hT.2.1.use h1 rfl) (hT.2.1.use h2 rfl) (hT.2.1.use h3 rfl) rfl hd hc hs hKn.2.1 rfl fun H1 kC hkC e1 z1 o1 => ?_
  have kk := k H1 z1 o1 ?_ (fin_S hS rfl z1 o1)
  · rw [hE] at kk
    exact kk
  · intro i q hi
    obtain ⟨hi2, rfl⟩ := wld_in hi
    have hi0 : i = 0 := by have hi2 : i < 1 := hi2; omega
    subst hi0
    show va_at E.2.2.2.2.1 cls (E.1 0, .inr (c0, fld E (fun _ => Z0) (fun _ => N0) 0 c0 N)) H1
    refine ⟨_, hq, ?_⟩
    show t_OB (E.1 0) _ _ _ H1 _
    rw [hE]
    refine (u_born (fty c0) hts (fun w hw => hw) hKn hkC e1 hty).to ?_
    intro j hj
    show defaultValue (fty c0 j) = (fld E (fun _ => Z0) (fun _ => N0) 0 c0 N).getD j .null
    rw [List.getD_eq_getElem?_getD, fld_at hj]
    exact dflt_ok hq hj
end
set_option maxHeartbeats 4000000 in
theorem law_start {p : Program} {l : Launch} {e : Env} {s : State} {m : MethodId} {args : Array Value} {below : List Frame} {meth : Method} {c : Code} {QQ : State → Prop} {g : LG} {b L : Nat} {xs : Nat → Int32} (hx : p.tables.exec = Jvm.exec) (hb : c.code = code) (hml : c.maxLocals = 4) (hown : s.vm.findClass RL = some m.cls) (hg : LGr g s) (hX : va_X b L xs s s.heap) (hbl : b < s.heap.size) (hL : L ≤ 3072) (hret : ∀ (H : Heap) (ls : Array Slot), W p l e room_1 s m args below meth c H [] 600000 7302250 QQ (F0 m 1630 ls [.int 1])) {ls : Array Slot} (hl : lv_has ls 4 [(0, .ref b)]) : W p l e room_1 s m args below meth c s.heap [] 0 0 QQ (F0 m 0 ls []) := by
  obtain ⟨hT0, hG0⟩ := hg.s (a0 := s.heap.size) (Nat.le_refl _)
  obtain ⟨hT1, hG1⟩ := hg.s (a0 := s.heap.size + 76) (by omega)
  have hS0 : va_S (fun q => s.heap.size ≤ q) s.heap s.heap [] := va_S.rf
  have hA0 : ∀ q, q < s.heap.size → ¬ (fun q => s.heap.size ≤ q) q := fun q hq z => absurd z (Nat.not_le.mpr hq)
  refine lawN (E := ES g s.heap.size) (c0 := 11) (q0 := (RX11, TX11, 14)) hx hb hown hT0 dL_law_0 rfl klL_7 iaX11 inX11 (Nat.le_of_ble_eq_true rfl) (Nat.le_of_ble_eq_true rfl) rfl hS0 (fun H1 z1 o1 hP1 hS1 => ?_)
  refine lv_dup hx hb dL_law_3 rfl ?_
  refine lawI (E := ES g s.heap.size) (y2 := yX11_init) (S := [.ref 0]) (as := []) (a := 0) (n := 0) (sh := [(15, 14)]) (mi := fun _ => Z0) (mr := fun _ => N0) hx hb hml hown hT0 hG0 ph_S hS1 (fun q hq => rng_S hq) hA0 z1 hP1 hl.1 dL_law_4 rfl rfl lkL_9 imX11_init (k_init (d := 1197)) mwX11_init (Nat.le_of_ble_eq_true rfl) (Nat.le_of_ble_eq_true rfl) (Nat.le_of_ble_eq_true rfl) (fun v sh2 mi2 mr2 H2 locs2 hq hn hz2 hP2 hS2 hk2 => ?_)
  obtain ⟨rfl, rfl, rfl, hCB, hT9, hRB⟩ := hq
  have hz2 : H2.size = s.heap.size + 76 := hz2
  show W p l e room_1 s m args below meth c H2 locs2 _ _ QQ (F0 m 7 ls [.ref s.heap.size])
  refine lv_astore_n (i := 1) (x := s.heap.size) (lv' := [(1, .ref s.heap.size), (0, .ref b)]) hx hb dL_law_7 rfl hl (by decide) rfl (fun ls hl => ?_)
  refine lawN (E := ES g (s.heap.size + 76)) (c0 := 12) (q0 := (RX12, TX12, 34)) hx hb hown hT1 dL_law_8 rfl klL_10 iaX12 inX12 (Nat.le_of_ble_eq_true rfl) (Nat.le_of_ble_eq_true rfl) hz2.symm hS2 (fun H3 z3 o3 hP3 hS3 => ?_)
  refine lv_dup hx hb dL_law_11 rfl ?_
  refine lawI (E := ES g (s.heap.size + 76)) (y2 := yX12_init) (S := [.ref 0]) (as := []) (a := 0) (n := 0) (sh := [(16, 34)]) (mi := fun _ => Z0) (mr := fun _ => N0) hx hb hml hown hT1 hG1 ph_S hS3 (fun q hq => Nat.le_trans (Nat.le_add_right _ _) (rng_S hq)) hA0 (by rw [z3, hz2]; rfl) hP3 hl.1 dL_law_12 rfl rfl lkL_12 imX12_init (c_init (d := 1200)) mwX12_init (Nat.le_of_ble_eq_true rfl) (Nat.le_of_ble_eq_true rfl) (Nat.le_of_ble_eq_true rfl) (fun v sh4 mi4 mr4 H4 locs4 hq hn hz4 hP4 hS4 hk4 => ?_)
  obtain ⟨rfl, rfl, rfl, hMB⟩ := hq
  have hz4 : H4.size = s.heap.size + 76 + 19 := hz4
  show W p l e room_1 s m args below meth c H4 locs4 _ _ QQ (F0 m 15 ls [.ref (s.heap.size + 76)])
  refine lv_astore_n (i := 2) (x := s.heap.size + 76) (lv' := [(2, .ref (s.heap.size + 76)), (1, .ref s.heap.size), (0, .ref b)]) hx hb dL_law_15 rfl hl (by decide) rfl (fun ls hl => ?_)
  refine lv_iconst (v := 0) hx hb dL_law_16 (by decide) ?_
  refine lv_istore_n (i := 3) (x := 0) (lv' := [(3, .int 0), (2, .ref (s.heap.size + 76)), (1, .ref s.heap.size), (0, .ref b)]) hx hb dL_law_17 rfl hl (by decide) rfl (fun ls hl => ?_)
  refine law_loop hx hb hml hown hg hX hbl hL hret 513 0 shC iniI mr2 (mM0 4) H4 locs4 _ _ ls (by omega) (by omega) (rel_ini hCB hMB hT9) ⟨by decide, by rw [hz4]; show _ = s.heap.size + 19 + 76; omega, ?_, ?_, hMB⟩ hS4 (Nat.le_of_ble_eq_true rfl) (Nat.le_of_ble_eq_true rfl) (lv_sub hl [3, 2, 1, 0] rfl)
  · rw [wld_to (E' := EC g s.heap.size) (E := ES g s.heap.size) (N := 76) (sh := shC) rfl (fun k hk => if_pos hk) hRB (by decide)]
    refine hP2.kept (fun k q hq => ?_)
    obtain ⟨hk, rfl⟩ := wld_in hq
    have hk : k < 76 := hk
    show H4[s.heap.size + k]? = H2[s.heap.size + k]?
    rw [hk4 (s.heap.size + k) (by omega) (fun z => by have := rng_S z; omega)]
    exact o3 _ (by omega)
  · rw [wld_M2 (E' := EM g s.heap.size H4.size) (E := ES g (s.heap.size + 76)) hMB rfl (fun k hk => if_pos hk)]
    exact hP4
