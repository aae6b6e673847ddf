/-! more rows: System.arraycopy of ints, super.m() of an inherited method, rows by wrapping -/
def cpI (mi : MI) (a0 a1 sp dp n : Nat) : MI := fun x => if x = a1 then va_cpy (mi a0) (mi a1) sp dp n else mi x
theorem cpI_ne {mi : MI} {a0 a1 sp dp n j : Nat} (h : j ≠ a1) : cpI mi a0 a1 sp dp n j = mi j := by simp [cpI, h]
theorem cpI_self (mi : MI) (a0 a1 sp dp n : Nat) : cpI mi a0 a1 sp dp n a1 = va_cpy (mi a0) (mi a1) sp dp n := by simp [cpI]
theorem va_cpy_in {f g : Nat → Int32} {sp dp n j : Nat} (h : dp ≤ j ∧ j < dp + n) : va_cpy f g sp dp n j = f (sp + (j - dp)) := by
  unfold va_cpy
  rw [if_pos h]
theorem va_cpy_out {f g : Nat → Int32} {sp dp n j : Nat} (h : ¬ (dp ≤ j ∧ j < dp + n)) : va_cpy f g sp dp n j = g j := by
  unfold va_cpy
  rw [if_neg h]
theorem in_sys : Cond.initialized "java/lang/System" ∈ lw_tbl := List.mem_of_getElem? (i := 98) (by decide +kernel)
theorem r_copy {d : Nat} {μ : Mt} {pc : Nat} {L S : List Value} {sh : List Sh} {mi : MI} {mr : MR} {cb sb : Nat} {Q : QT} {idx a0 a1 n0 n1 sp dp n : Nat} {isp idp ine : Int32} (hd : decode μ.2.1 pc = .ok (.invokestatic idx, 3)) (hl2 : Cond.methodLink μ.1.cls idx arraycopyName ∈ lw_tbl) (h0 : sh[a0]? = some (0, n0)) (h1 : sh[a1]? = some (0, n1)) (e1 : isp = nI sp) (e2 : idp = nI dp) (e3 : ine = nI n) (h4 : sp + n ≤ n0) (h5 : dp + n ≤ n1) (b0 : n0 < 100000) (b1 : n1 < 100000) (hS8 : (S.map c12).sum ≤ 8) (k : WP d μ (pc + 3) L S sh (cpI mi a0 a1 sp dp n) mr cb sb Q) : WP d μ pc L (.int ine :: .int idp :: .ref a1 :: .int isp :: .ref a0 :: S) sh mi mr cb sb Q := by
  intro l E p e s m args below meth c H locs cells slots mc ms ls hC hT hG hφ hS hA hz hP hl hc hs
  have hC0 := hC
  obtain ⟨hx, hb, hr, hml, hown, hlk, hnm⟩ := hC
  subst e1 e2 e3
  have c1 : (nI sp).toNatClampNeg = sp := nI_clamp (by omega)
  have c2 : (nI dp).toNatClampNeg = dp := nI_clamp (by omega)
  have c3 : (nI n).toNatClampNeg = n := nI_clamp (by omega)
  intro T hT' X
  have q0 : H[E.1 a0]? = some (vp_cell (E.2.1 0) (n0, .inl (mi a0))) := hP a0 _ (wld_at h0)
  have q1 : H[E.1 a1]? = some (vp_cell (E.2.1 0) (n1, .inl (mi a1))) := hP a1 _ (wld_at h1)
  obtain ⟨-, k0, hk0, cm0, hkk0⟩ := (hT.1.2 0 _ rfl).1 n0 (fun j => .int (mi a0 j))
  obtain ⟨-, k1, hk1, cm1, hkk1⟩ := (hT.1.2 0 _ rfl).1 n1 (fun j => .int (mi a1 j))
  have hw := c12_le hT S hS8
  obtain ⟨vm', X', step⟩ := X.arraycopy hx hown (hT.2.1.use hl2 rfl) (hT.2.1.use nt_copy rfl) (hT.2.1.use st_copy rfl) (hT.2.1.use in_sys rfl) (src := E.1 a0) (dst := E.1 a1) (cs := vp_cell (E.2.1 0) (n0, .inl (mi a0))) (cd := vp_cell (E.2.1 0) (n1, .inl (mi a1))) (srcPos := nI sp) (destPos := nI dp) (n := nI n) (by rw [hT']; exact q0) (by rw [hT']; exact q1)
    (fun _ h => by cases h) (fun _ h => by cases h) (fun h => by cases h) (fun h => by cases h) hk0 hk1 hkk0 hkk1 rfl (nI_pos (by omega)) (nI_pos (by omega)) (nI_pos (by omega))
    (by rw [nI_toInt (by omega), nI_toInt (by omega)]; show ¬ _ > ((arrV (E.2.1 0) n0 (fun j => .int (mi a0 j))).slots.size : Int); rw [arrV_size]; omega)
    (by rw [nI_toInt (by omega), nI_toInt (by omega)]; show ¬ _ > ((arrV (E.2.1 0) n1 (fun j => .int (mi a1 j))).slots.size : Int); rw [arrV_size]; omega)
    (fun vm1 _ i hi => by
      have e : (vp_cell (E.2.1 0) (n0, .inl (mi a0))).slots.getD ((nI sp).toNatClampNeg + i) .null = .int (mi a0 ((nI sp).toNatClampNeg + i)) := by
        show (arrV (E.2.1 0) n0 (fun j => .int (mi a0 j))).slots.getD _ _ = _
        rw [c3] at hi
        rw [Array.getD_eq_getD_getElem?, arrV_read _ _ (by omega)]
        rfl
      rw [e]
      exact ⟨rfl, trivial⟩)
    (g := F0 m pc ls ((Value.int (nI n) :: .int (nI dp) :: .ref a1 :: .int (nI sp) :: .ref a0 :: S).map (vv E))) rfl (by rw [hml]; exact hl.1) (rest := S.map (vv E)) rfl (by rw [hb]; exact hd) (by show 1 ≤ d + 1; omega)
    (by
      have e9 : nativeFrameWords "java/lang/System" "arraycopy" 5 ≤ 40 := by decide
      show 2 * 0 + _ + _ ≤ 64 * (d + 1)
      omega)
  have ec : copied (vp_cell (E.2.1 0) (n0, .inl (mi a0))) (vp_cell (E.2.1 0) (n1, .inl (mi a1))) (nI sp) (nI dp) (nI n) = vp_cell (E.2.1 0) (n1, .inl (cpI mi a0 a1 sp dp n a1)) := by
    rw [cpI_self]
    have := va_copied (fun z => Value.int z) (E.2.1 0) (E.2.1 0) (n0 := n0) (n1 := n1) (sp := sp) (dp := dp) (n := n) (mi a0) (mi a1) h4
    show (arrV (E.2.1 0) n1 (fun j => .int (mi a1 j))).storeRun (nI dp).toNatClampNeg ((arrV (E.2.1 0) n0 (fun j => .int (mi a0 j))).stretch (nI sp).toNatClampNeg (nI n).toNatClampNeg) = _
    rw [c1, c2, c3]
    exact this
  rw [ec] at X' step
  have hlt : E.1 a1 < T.heap.size := by rw [hT']; exact (Array.getElem?_eq_some_iff.mp q1).1
  obtain ⟨H1, hH1⟩ : ∃ H1, ((T.setVm vm').setCell (E.1 a1) (vp_cell (E.2.1 0) (n1, .inl (cpI mi a0 a1 sp dp n a1)))).heap = H1 := ⟨_, rfl⟩
  have z1 : H1.size = H.size := by rw [← hH1, size_setCell, ← hT']; rfl
  have v1 : H1[E.1 a1]? = some (vp_cell (E.2.1 0) (n1, .inl (cpI mi a0 a1 sp dp n a1))) := by rw [← hH1]; exact heapAt_setCell_self _ hlt
  have o1 : ∀ q, q ≠ E.1 a1 → H1[q]? = H[q]? := fun q hq => by rw [← hH1, heapAt_setCell_ne _ (Ne.symm hq), ← hT']; rfl
  obtain ⟨t, r1, r2⟩ := k l E p e s m args below meth c H1 _ cells slots mc ms ls hC0 hT hG hφ ⟨by rw [z1]; exact hS.1, fun q g1 g2 => by rw [o1 q (fun e => g2 ⟨a1, e⟩)]; exact hS.2.1 q g1 g2, fun q hq => by
      rcases List.mem_append.mp hq with h | h
      · exact hS.2.2 q h
      · obtain ⟨z, -, hz⟩ := List.mem_map.mp h
        rw [← hz]
        exact ⟨a1, rfl⟩⟩ hA (z1.trans hz) (fin_set h1 hφ hP o1 v1 (fun j hj => cpI_ne hj) (fun j hj => rfl)) hl hc hs _ hH1 X'
  exact ⟨t, step t r1, r2⟩
theorem su_sub {vm : Vm} {ps mk : ClassId} {kx : Class} (h1 : vm.classes[ps]? = some kx) (h2 : kx.super = some mk) : vm.isSubclass ps mk = true := by
  unfold Vm.isSubclass
  have hz : 0 < vm.classes.size := Nat.lt_of_le_of_lt (Nat.zero_le _) (Array.getElem?_eq_some_iff.mp h1).1
  obtain ⟨q, hq⟩ : ∃ q, vm.classes.size = q + 1 := ⟨vm.classes.size - 1, by omega⟩
  rw [hq]
  by_cases e : ps = mk
  · subst e
    simp [Vm.isSubclassAux]
  · simp [Vm.isSubclassAux, h1, h2, e]

section
variable {p : Program} {l : Launch} {e : Env} {R : Room} {s : State} {m : MethodId} {args : Array Value} {below : List Frame} {meth : Method} {c : Code}
/-- super.m(..) where the superclass has m from its own superclass -/
theorem su_call {T : State} {locs : List Loc} {cells slots : Nat} (X : Stand p l e R s m args below meth c T locs cells slots) (hexec : p.tables.exec = Jvm.exec) {own : String} {index : Nat} {x y : MethodName} {bytes : ByteArray} {maxL : Nat} {ret : Option FieldType}
    (hown : s.vm.findClass own = some m.cls) (hlink : (Cond.methodLink own index x).before args s = true) (hsame : (Cond.sameMethod x.cls y.cls x.name x.desc).before args s = true) (hxy : x.name = y.name ∧ x.desc = y.desc) (hsup : (Cond.superclass own x.cls).before args s = true) (hsup2 : (Cond.superclass x.cls y.cls).before args s = true)
    (hinst : (Cond.instanceMethod y).before args s = true) (hcode : (Cond.code y bytes maxL ret).before args s = true) (hno : x.name ≠ "<init>")
    {W : Nat} {Pre : Pt → Array Value → Prop} {Post : Pt → Array Value → Option Value → Pt → Prop} (hK : Back l R p e below s args y 3 W Pre Post)
    {b : Addr} {cellB : Cell} {kB : Class} (hcell : T.heap[b]? = some cellB) (hobj : cellB.vm.isStatics = false) (hkB : s.vm.classes[cellB.cls]? = some kB)
    {g : JFrame} (hg : g.method = m) (hsize : g.locals.size = c.maxLocals) {argsL rest : List Value} (hlen : ∀ sig, parseMethodDescriptor y.desc = some sig → argsL.length = sig.parameters.length)
    (hstack : g.stack = argsL.reverse ++ .ref b :: rest) (hW : 2 * g.monitorRoom + (rest.map fun v => v.category).sum ≤ W) (hdg : decode c.code g.pc = .ok (.invokespecial index, 3))
    (hpre : ∀ vm₁, s.WarmedH vm₁ → Pre ⟨T.setVm vm₁, locs, cells, slots⟩ (Value.ref b :: argsL).toArray) :
    ∃ (v : Option Value) (vm₁ : Vm) (B : Pt), s.WarmedH vm₁ ∧ Stand p l e R s m args below meth c B.U B.locs B.cells B.slots ∧ Post ⟨T.setVm vm₁, locs, cells, slots⟩ (Value.ref b :: argsL).toArray v B ∧
      ∀ target, Steps p.tables e below (B.U.setTop { g with pc := g.pc + 3, stack := v.toList ++ rest }) target → Steps p.tables e below (T.setTop g) target := by
  obtain ⟨mk, methM, hnamed, hmethM, hstM, habM⟩ := Cond.instanceMethod_spec hinst
  obtain ⟨methM', cM, hmethM', -, -, -, -, -, -, hsigM⟩ := Cond.code_spec hnamed hcode
  cases hmethM.symm.trans hmethM'
  obtain ⟨ps, dk, kp, hps, hdk, hkp, hsuper, -, -, hnid⟩ := Cond.superclass_spec hown hsup
  obtain ⟨p2, k2, kp2, hps2, hk2, hkp2, hsuper2, -, -, -⟩ := Cond.superclass_spec hps hsup2
  have hn : s.methodNamed? ⟨y.cls, x.name, x.desc⟩ = some mk := by rw [hxy.1, hxy.2]; exact hnamed
  have hpm : p2 = mk.cls := Option.some.inj (hps2.symm.trans (findClass_of_methodNamed hnamed))
  have hsub : s.vm.isSubclass ps mk.cls = true := su_sub hk2 (by rw [← hpm]; exact hsuper2)
  obtain ⟨vm₁, X₁, hstep₁⟩ := X.invokespecialUp hexec hown hlink hsame hn hmethM hstM habM hno hdk hnid hps hsuper hsub (a := b) (cell := cellB) hcell
    (fun z h => by rw [h] at hobj; cases hobj) hkB (g := g) hg (argsL := argsL) (rest := rest) (hlen _ hsigM) hstack hdg
  obtain ⟨v, B, X', hpost, hsteps⟩ := hK m meth c ⟨T.setVm vm₁, locs, cells, slots⟩ { g with stack := rest } (.invokespecial index) mk (Value.ref b :: argsL).toArray X₁ hg hsize hdg hW (X₁.named hnamed) (hpre vm₁ X₁.warmed)
  exact ⟨v, vm₁, B, X₁.warmed, X', hpost, fun target h => hstep₁ _ (by rw [doInvoke_state]; exact hsteps.trans h)⟩
end
theorem r_superU {d : Nat} {μ μ2 : Mt} {pc : Nat} {L S as : List Value} {sh : List Sh} {mi : MI} {mr : MR} {cb sb mc2 ms2 idx n : Nat} {Q Q2 : QT} (hd : decode μ.2.1 pc = .ok (.invokespecial idx, 3)) {a c0 n0 : Nat} {q0 : vw_C} (hn : as.length = n) (h : sh[a]? = some (c0 + 4, n0)) (hq : cls[c0]? = some q0) {x : MethodName} (hnm2 : x.name ≠ "<init>") (hxy : x.name = μ2.1.name ∧ x.desc = μ2.1.desc) (hl2 : Cond.methodLink μ.1.cls idx x ∈ lw_tbl) (hsm : Cond.sameMethod x.cls μ2.1.cls x.name x.desc ∈ lw_tbl) (hsu : Cond.superclass μ.1.cls x.cls ∈ lw_tbl) (hsu2 : Cond.superclass x.cls μ2.1.cls ∈ lw_tbl) (hi2 : Cond.instanceMethod μ2.1 ∈ lw_tbl) (hcp : CP d μ2 (.ref a :: as) sh mi mr mc2 ms2 Q2) (hmw : MW μ2 n) (hS8 : (S.map c12).sum ≤ 8) (k : ∀ (v : Option Value) (sh2 : List Sh) (mi2 : MI) (mr2 : MR), Q2 v sh2 mi2 mr2 → WP (d + 1) μ (pc + 3) L (v.toList ++ S) sh2 mi2 mr2 cb sb Q) : WP (d + 1) μ pc L (as.reverse ++ .ref a :: S) sh mi mr (cb + mc2) (sb + ms2) Q := by
  intro l E p e s m args below meth c H locs cells slots mc ms ls hC hT hG hφ hS hA hz hP hl hc hs
  have hC0 := hC
  obtain ⟨hx, hb, hr, hml, hown, hlk, hnm⟩ := hC
  have hrun : va_Run p l e (room (d + 1) mc ms) s m args below meth c H locs cells slots mc2 ms2 (F0 m pc ls ((as.reverse ++ .ref a :: S).map (vv E))) (S.map (vv E)) (Qc_ E Q2 (Value.ref (E.1 a) :: as.map (vv E)).toArray) (rng E) := by
    have hp := pre_V (as := as) hT hG hS hz hP h hq
    have hK : Back l (room (d + 1) mc ms) p e below s args μ2.1 3 8 (PreOf (room (d + 1) mc ms) mc2 ms2 (Pc_ E (.ref a :: as) sh mi mr)) (PostOf (Qc_ E Q2) mc2 ms2 (rng E)) := back_of (bytes := μ2.2.1) (maxL := μ2.2.2.1) (ret := μ2.2.2.2) (hcp l E hφ) hp.1 rfl rfl (room_ok hmw.2.2.2.2).1 (room_ok hmw.2.2.2.2).2 (mw_ws hmw hT) List.mem_cons_self (fun a' U hW => gk_moved rfl hW (hT.2.1 _ hmw.2.1 rfl))
    obtain ⟨-, ⟨cellB, hcB, hoB, hclB⟩, hPc⟩ := hp
    obtain ⟨hfc, kB, hkB, -⟩ := (hT.1.1 c0 q0 hq).2
    have hcc := Option.some.inj (hfc.symm.trans hclB)
    rw [hcc] at hkB
    intro T hT' X
    obtain ⟨v, vm₁, ⟨U', l2, c2, s2⟩, hW₁, X', ⟨g', mk, t, L, e1, e2, hq, h1, hL, h2, h3⟩, st⟩ := su_call X hx (bytes := μ2.2.1) (maxL := μ2.2.2.1) (ret := μ2.2.2.2) hown (hT.2.1.use hl2 rfl) (hT.2.1.use hsm rfl) hxy (hT.2.1.use hsu rfl) (hT.2.1.use hsu2 rfl) (hT.2.1.use hi2 rfl) (hT.2.1.use hmw.1 rfl) hnm2 hK (by rw [hT']; exact hcB) hoB hkB (g := F0 m pc ls ((as.reverse ++ .ref a :: S).map (vv E))) rfl (hl.1.trans hml.symm) (argsL := as.map (vv E)) (rest := S.map (vv E)) (fun sig h => by rw [List.length_map]; exact hn.trans (mw_par hmw sig h)) ((st_app E as (.ref a :: S)).trans rfl) (lv_room (c12_le hT S hS8)) (by rw [hb]; exact hd)
      (fun vm₁ hW₁ => ⟨by show cells + mc2 ≤ mc; omega, by show slots + ms2 ≤ ms; omega, hPc (T.setVm vm₁) hT' hW₁⟩)
    dsimp only [Pt.U, Pt.locs, Pt.cells, Pt.slots] at X' e1 e2 h1 h2 h3 st
    subst h1; subst h2; subst h3
    exact ⟨v, (T.setVm vm₁).calling g' mk (Value.ref (E.1 a) :: as.map (vv E)).toArray, t, U', L, hT', X', hL, e1, e2, hq, st⟩
  refine call_go hz hrun hS (fun v sh2 mi2 mr2 H1 locs1 hq hn2 hz2 hP2 hS2 => ?_)
  have kk := k v sh2 mi2 mr2 hq l E p e s m args below meth c H1 locs1 (cells + mc2) (slots + ms2) mc ms ls hC0 hT hG (hφ.mono hn2) hS2 hA hz2 hP2 hl (by omega) (by omega)
  rw [List.map_append] at kk
  cases v <;> exact kk

def mxI (a b : Int32) : Int32 := if a < b then b else a
def mnI (a b : Int32) : Int32 := if b < a then b else a
def abI (a : Int32) : Int32 := if 0 ≤ a then a else 0 - a
theorem r_mmax {d : Nat} {μ : Mt} {pc : Nat} {L S : List Value} {sh : List Sh} {mi : MI} {mr : MR} {cb sb : Nat} {Q : QT} {idx : Nat} {x y : Int32} (hd : decode μ.2.1 pc = .ok (.invokestatic idx, 3)) (hl2 : Cond.methodLink μ.1.cls idx yJ9_max_7cf53 ∈ lw_tbl) (hS8 : (S.map c12).sum ≤ 8) (k : WP d μ (pc + 3) L (.int (mxI x y) :: S) sh mi mr cb sb Q) : WP d μ pc L (.int y :: .int x :: S) sh mi mr cb sb Q := by
  intro l E p e s m args below meth c H locs cells slots mc ms ls hC hT hG hφ hS hA hz hP hl hc hs
  have hC0 := hC
  obtain ⟨hx, hb, hr, hml, hown, hlk, hnm⟩ := hC
  have hw := c12_le hT S hS8
  exact va_mmax hx hb (hml.trans hl.1.symm) hown (hT.2.1.use hl2 rfl) (hT.2.1.use stJ9_max_7cf53 rfl) (hT.2.1.use mwJ9_max_7cf53.2.1 rfl) (hT.2.1.use mwJ9_max_7cf53.1 rfl) (by show 1 ≤ d + 1; omega) (by show _ ≤ 64 * (d + 1); omega) (by show cells ≤ mc; omega) (by show slots ≤ ms; omega) hd (k l E p e s m args below meth c H locs cells slots mc ms ls hC0 hT hG hφ hS hA hz hP hl hc hs)
theorem r_mmin {d : Nat} {μ : Mt} {pc : Nat} {L S : List Value} {sh : List Sh} {mi : MI} {mr : MR} {cb sb : Nat} {Q : QT} {idx : Nat} {x y : Int32} (hd : decode μ.2.1 pc = .ok (.invokestatic idx, 3)) (hl2 : Cond.methodLink μ.1.cls idx yJ9_min_7cf53 ∈ lw_tbl) (hS8 : (S.map c12).sum ≤ 8) (k : WP d μ (pc + 3) L (.int (mnI x y) :: S) sh mi mr cb sb Q) : WP d μ pc L (.int y :: .int x :: S) sh mi mr cb sb Q := by
  intro l E p e s m args below meth c H locs cells slots mc ms ls hC hT hG hφ hS hA hz hP hl hc hs
  have hC0 := hC
  obtain ⟨hx, hb, hr, hml, hown, hlk, hnm⟩ := hC
  have hw := c12_le hT S hS8
  exact va_mmin hx hb (hml.trans hl.1.symm) hown (hT.2.1.use hl2 rfl) (hT.2.1.use stJ9_min_7cf53 rfl) (hT.2.1.use mwJ9_min_7cf53.2.1 rfl) (hT.2.1.use mwJ9_min_7cf53.1 rfl) (by show 1 ≤ d + 1; omega) (by show _ ≤ 64 * (d + 1); omega) (by show cells ≤ mc; omega) (by show slots ≤ ms; omega) hd (k l E p e s m args below meth c H locs cells slots mc ms ls hC0 hT hG hφ hS hA hz hP hl hc hs)
theorem r_mabs {d : Nat} {μ : Mt} {pc : Nat} {L S : List Value} {sh : List Sh} {mi : MI} {mr : MR} {cb sb : Nat} {Q : QT} {idx : Nat} {x : Int32} (hd : decode μ.2.1 pc = .ok (.invokestatic idx, 3)) (hl2 : Cond.methodLink μ.1.cls idx yJ9_abs_0f7a4 ∈ lw_tbl) (hS8 : (S.map c12).sum ≤ 8) (k : WP d μ (pc + 3) L (.int (abI x) :: S) sh mi mr cb sb Q) : WP d μ pc L (.int x :: S) sh mi mr cb sb Q := by
  intro l E p e s m args below meth c H locs cells slots mc ms ls hC hT hG hφ hS hA hz hP hl hc hs
  have hC0 := hC
  obtain ⟨hx, hb, hr, hml, hown, hlk, hnm⟩ := hC
  have hw := c12_le hT S hS8
  exact va_mabs hx hb (hml.trans hl.1.symm) hown (hT.2.1.use hl2 rfl) (hT.2.1.use stJ9_abs_0f7a4 rfl) (hT.2.1.use mwJ9_abs_0f7a4.2.1 rfl) (hT.2.1.use mwJ9_abs_0f7a4.1 rfl) (by show 1 ≤ d + 1; omega) (by show _ ≤ 64 * (d + 1); omega) (by show cells ≤ mc; omega) (by show slots ≤ ms; omega) hd (k l E p e s m args below meth c H locs cells slots mc ms ls hC0 hT hG hφ hS hA hz hP hl hc hs)
