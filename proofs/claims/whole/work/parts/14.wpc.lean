theorem cls_ws : ∀ (c : Nat) (q : vw_C), cls[c]? = some q → ∀ w ∈ u_ws q.1 q.2.1 q.2.2, w ∈ lw_tbl ∧ gk w = true := by
  have h0 : ∀ w ∈ u_ws RX5 TX5 14, w ∈ lw_tbl ∧ gk w = true := by decide +kernel
  have h1 : ∀ w ∈ u_ws RX7 TX7 3, w ∈ lw_tbl ∧ gk w = true := by decide +kernel
  have h2 : ∀ w ∈ u_ws RX8 TX8 3, w ∈ lw_tbl ∧ gk w = true := by decide +kernel
  have h3 : ∀ w ∈ u_ws RX9 TX9 20, w ∈ lw_tbl ∧ gk w = true := by decide +kernel
  have h4 : ∀ w ∈ u_ws RX10 TX10 4, w ∈ lw_tbl ∧ gk w = true := by decide +kernel
  have h5 : ∀ w ∈ u_ws RX11 TX11 14, w ∈ lw_tbl ∧ gk w = true := by decide +kernel
  have h6 : ∀ w ∈ u_ws RX12 TX12 34, w ∈ lw_tbl ∧ gk w = true := by decide +kernel
  intro c q hq
  match c, hq with
  | 0, hq => cases hq; exact fun w hw => absurd hw List.not_mem_nil
  | 1, hq => cases hq; exact fun w hw => absurd hw List.not_mem_nil
  | 2, hq => cases hq; exact fun w hw => absurd hw List.not_mem_nil
  | 3, hq => cases hq; exact fun w hw => absurd hw List.not_mem_nil
  | 4, hq => cases hq; exact fun w hw => absurd hw List.not_mem_nil
  | 5, hq => cases hq; exact h0
  | 6, hq => cases hq; exact fun w hw => absurd hw List.not_mem_nil
  | 7, hq => cases hq; exact h1
  | 8, hq => cases hq; exact h2
  | 9, hq => cases hq; exact h3
  | 10, hq => cases hq; exact h4
  | 11, hq => cases hq; exact h5
  | 12, hq => cases hq; exact h6
  | c + 13, hq => simp [cls] at hq
theorem cls_ty : ∀ (c : Nat) (q : vw_C), cls[c]? = some q → (∀ k, k < q.2.2 → parseFieldDescriptor (q.2.1 k).2.2.1 = some (fty c k)) ∧ (∀ a, a < q.2.2 → ∀ b, b < q.2.2 → a ≠ b → (q.2.1 a).2.1 ≠ (q.2.1 b).2.1) := by
  intro c q hq
  match c, hq with
  | 0, hq => cases hq; exact ⟨tyX0_ok, nmX0⟩
  | 1, hq => cases hq; exact ⟨tyX1_ok, nmX1⟩
  | 2, hq => cases hq; exact ⟨tyX2_ok, nmX2⟩
  | 3, hq => cases hq; exact ⟨tyX3_ok, nmX3⟩
  | 4, hq => cases hq; exact ⟨tyX4_ok, nmX4⟩
  | 5, hq => cases hq; exact ⟨tyX5_ok, nmX5⟩
  | 6, hq => cases hq; exact ⟨tyX6_ok, nmX6⟩
  | 7, hq => cases hq; exact ⟨tyX7_ok, nmX7⟩
  | 8, hq => cases hq; exact ⟨tyX8_ok, nmX8⟩
  | 9, hq => cases hq; exact ⟨tyX9_ok, nmX9⟩
  | 10, hq => cases hq; exact ⟨tyX10_ok, nmX10⟩
  | 11, hq => cases hq; exact ⟨tyX11_ok, nmX11⟩
  | 12, hq => cases hq; exact ⟨tyX12_ok, nmX12⟩
  | c + 13, hq => simp [cls] at hq
/-- the pool's entry idx of the class own is the field k of the class number c -/
def FP (own : String) (idx c k : Nat) : Prop := ∃ q : vw_C, cls[c]? = some q ∧ k < q.2.2 ∧ Cond.fieldLink own idx (q.2.1 k).1 (q.2.1 k).2.1 (q.2.1 k).2.2.1 ∈ lw_tbl
/-- .. and the method called nm may write it -/
def FW (own nm : String) (idx c k : Nat) : Prop := ∃ q : vw_C, cls[c]? = some q ∧ k < q.2.2 ∧ Cond.fieldLink own idx (q.2.1 k).1 (q.2.1 k).2.1 (q.2.1 k).2.2.1 ∈ lw_tbl ∧ ((q.2.1 k).2.2.2 = false ∨ ((q.2.1 k).2.2.2 = true ∧ nm = "<init>" ∧ (q.2.1 k).1 = own))
theorem fin_set {E : WE} {sh : List Sh} {mi mi' : MI} {mr mr' : MR} {a n : Nat} {x : Sh} {H H1 : Heap} (h : sh[a]? = some x) (hφ : PH E n) (hP : va_P E.2.2.2.2.1 cls (wld E sh mi mr) H) (oq : ∀ q : Nat, q ≠ E.1 a → H1[q]? = H[q]?) (he : va_at E.2.2.2.2.1 cls (E.1 a, cellE E mi' mr' a x) H1) (h1 : ∀ j, j ≠ a → mi' j = mi j) (h2 : ∀ j, j ≠ a → mr' j = mr j) : va_P E.2.2.2.2.1 cls (wld E sh mi' mr') H1 := by
  rw [wld_set h h1 h2]
  exact hP.set (wld_D hφ) (wld_at h) he oq
theorem fin_push {E : WE} {sh : List Sh} {mi mi' : MI} {mr mr' : MR} {x : Sh} {H H1 : Heap} (hP : va_P E.2.2.2.2.1 cls (wld E sh mi mr) H) (o1 : ∀ q : Nat, q < H.size → H1[q]? = H[q]?) (he : va_at E.2.2.2.2.1 cls (E.1 sh.length, cellE E mi' mr' sh.length x) H1) (h1 : ∀ j, j ≠ sh.length → mi' j = mi j) (h2 : ∀ j, j ≠ sh.length → mr' j = mr j) : va_P E.2.2.2.2.1 cls (wld E (sh ++ [x]) mi' mr') H1 := by
  rw [wld_push h1 h2]
  refine (hP.kept (fun k q hq => o1 q.1 ((hP k q hq).lt))).app (fun k q hq => ?_)
  have hz : k < 1 := (List.getElem?_eq_some_iff.mp hq).1
  rw [show k = 0 by omega] at hq
  cases hq
  exact he
theorem fin_S {A : Nat → Prop} {H0 H H1 : Heap} {locs : List Loc} {h : Nat} (hS : va_S A H0 H locs) (hh : H.size = h) (z1 : H1.size = h + 1) (o1 : ∀ q : Nat, q < h → H1[q]? = H[q]?) : va_S A H0 H1 locs :=
  ⟨Nat.le_trans hS.1 (by omega), fun x h1 h2 => (o1 x (by rw [← hh]; exact Nat.lt_of_lt_of_le h1 hS.1)).trans (hS.2.1 x h1 h2), hS.2.2⟩
theorem PH.mono {E : WE} {n n' : Nat} (h : PH E n) (hn : n ≤ n') : PH E n' := ⟨h.1, fun k hk => h.2 k (Nat.le_trans hn hk)⟩
theorem zI_ne {mi : MI} {a j : Nat} (h : j ≠ a) : zI mi a j = mi j := by simp [zI, h]
theorem zR_ne {mr : MR} {a j : Nat} (h : j ≠ a) : zR mr a j = mr j := by simp [zR, h]
theorem zI_self (mi : MI) (a : Nat) : zI mi a a = fun _ => 0 := by simp [zI]
theorem zR_self (mr : MR) (a : Nat) : zR mr a a = fun _ => none := by simp [zR]
theorem r_getI {d : Nat} {μ : Mt} {pc : Nat} {L S : List Value} {sh : List Sh} {mi : MI} {mr : MR} {cb sb : Nat} {Q : QT} {idx c0 k0 n a : Nat} (hd : decode μ.2.1 pc = .ok (.getfield idx, 3)) (hf : FP μ.1.cls idx c0 k0) (hrf : rfd c0 k0 = false) (h : sh[a]? = some (c0 + 4, n)) (hk : k0 < n) (k : WP d μ (pc + 3) L (.int (mi a k0) :: S) sh mi mr cb sb Q) : WP d μ (pc) L (.ref a :: S) sh mi mr cb sb Q := by
  intro l E p e s m args below meth c H locs cells slots mc ms ls hC hT hG hφ hS hA hz hP hl hc hs
  have hC0 := hC
  obtain ⟨hx, hb, hr, hml, hown, hlk, hnm⟩ := hC
  obtain ⟨⟨C, T, N⟩, h1, h2, h3⟩ := hf
  exact va_get (T := T) (N := N) (ci := c0) (Ts := u_ws C T N) hx hb (fun w hw => hT.2.1.use (cls_ws c0 _ h1 w hw).1 (cls_ws c0 _ h1 w hw).2) (fun w hw => hw) hown hT.1 hP a (wld_at h) h1 k0 h2 (hT.2.1.use h3 rfl) (fun _ h9 => h9) (v := .int (mi a k0)) (by rw [fld_at hk, if_neg (by rw [hrf]; decide)]) hd (k l E p e s m args below meth c H locs cells slots mc ms ls hC0 hT hG hφ hS hA hz hP hl hc hs)
theorem r_getR {d : Nat} {μ : Mt} {pc : Nat} {L S : List Value} {sh : List Sh} {mi : MI} {mr : MR} {cb sb : Nat} {Q : QT} {idx c0 k0 n a b : Nat} (hd : decode μ.2.1 pc = .ok (.getfield idx, 3)) (hf : FP μ.1.cls idx c0 k0) (hrf : rfd c0 k0 = true) (h : sh[a]? = some (c0 + 4, n)) (hk : k0 < n) (hm : mr a k0 = some b) (k : WP d μ (pc + 3) L (.ref b :: S) sh mi mr cb sb Q) : WP d μ (pc) L (.ref a :: S) sh mi mr cb sb Q := by
  intro l E p e s m args below meth c H locs cells slots mc ms ls hC hT hG hφ hS hA hz hP hl hc hs
  have hC0 := hC
  obtain ⟨hx, hb, hr, hml, hown, hlk, hnm⟩ := hC
  obtain ⟨⟨C, T, N⟩, h1, h2, h3⟩ := hf
  exact va_get (T := T) (N := N) (ci := c0) (Ts := u_ws C T N) hx hb (fun w hw => hT.2.1.use (cls_ws c0 _ h1 w hw).1 (cls_ws c0 _ h1 w hw).2) (fun w hw => hw) hown hT.1 hP a (wld_at h) h1 k0 h2 (hT.2.1.use h3 rfl) (fun _ h9 => h9) (v := .ref (E.1 b)) (by rw [fld_at hk, if_pos hrf, hm]; rfl) hd (k l E p e s m args below meth c H locs cells slots mc ms ls hC0 hT hG hφ hS hA hz hP hl hc hs)
theorem put_gen {d : Nat} {μ : Mt} {pc : Nat} {L S : List Value} {sh : List Sh} {mi : MI} {mr : MR} {cb sb : Nat} {Q : QT} {mi2 : MI} {mr2 : MR} {idx c0 k0 n a : Nat} {w : Value} (hd : decode μ.2.1 pc = .ok (.putfield idx, 3)) (hf : FW μ.1.cls μ.1.name idx c0 k0) (h : sh[a]? = some (c0 + 4, n)) (hk : k0 < n) (hn : ∀ E : WE, narrow (fty c0 k0) (vv E w) = vv E w) (hfit : ∀ E : WE, fits (fty c0 k0) (vv E w) = true) (hfld : ∀ E : WE, fld E mi2 mr2 a c0 n = (fld E mi mr a c0 n).set k0 (vv E w)) (h8 : ∀ j, j ≠ a → mi2 j = mi j) (h9 : ∀ j, j ≠ a → mr2 j = mr j) (k : WP d μ (pc + 3) L (S) sh mi2 mr2 cb sb Q) : WP d μ (pc) L (w :: .ref a :: S) sh mi mr cb sb Q := by
  intro l E p e s m args below meth c H locs cells slots mc ms ls hC hT hG hφ hS hA hz hP hl hc hs
  have hC0 := hC
  obtain ⟨hx, hb, hr, hml, hown, hlk, hnm⟩ := hC
  obtain ⟨⟨C, T, N⟩, h1, h2, h3, hfin⟩ := hf
  obtain ⟨hty, hnm2⟩ := cls_ty c0 _ h1
  have hts : ∀ w ∈ u_ws C T N, w.before args s = true := fun w hw => hT.2.1.use (cls_ws c0 _ h1 w hw).1 (cls_ws c0 _ h1 w hw).2
  have hap := va_apart (own := μ.1.cls) (T := T) (N := N) (Ts := u_ws C T N) hts (fun w hw => hw) (fty c0) hty hnm2 hT.1 h1
  have he := wld_at (E := E) (mi := mi) (mr := mr) h
  obtain ⟨r, e1, cell, q1, q2, q3, q4⟩ := hP a _ he
  have hr9 : r = (C, T, N) := Option.some.inj (e1.symm.trans h1)
  subst hr9
  obtain ⟨hSl, hfc, kC, hkC, hkind⟩ := hT.1.1 c0 _ h1
  obtain ⟨cf, kf, fi, f, hi, hsl⟩ := hSl k0 h2
  have hlay := hts _ (u_in_lay (C := C) (T := T) h2)
  have hst := (u_facts hfc hkC (u_lays hts (fun w hw => hw) h2) hi).1
  have hlk2 := hT.2.1.use h3 rfl (a := args)
  have go : ∀ H' : Heap, H'[E.1 a]? = some (cell.setSlot f.slot (vv E w)) → H'.size = H.size → (∀ q, q ≠ E.1 a → H'[q]? = H[q]?) → W p l e (room d mc ms) s m args below meth c H' (locs ++ [⟨E.1 a, f.slot⟩]) cells slots (MQ below (Qc_ E Q) args s mc ms (rng E)) (F0 m (pc + 3) ls (S.map (vv E))) := by
    intro H' e1 e2 e3
    rw [hsl] at e1 ⊢
    refine k l E p e s m args below meth c H' _ cells slots mc ms ls hC0 hT hG hφ (hS.put e2 e3 ⟨a, rfl⟩) hA (e2.trans hz) (fin_set h hφ hP e3 ?_ h8 h9) hl hc hs
    show va_at E.2.2.2.2.1 cls (E.1 a, .inr (c0, fld E mi2 mr2 a c0 n)) H'
    rw [hfld E]
    exact ⟨_, h1, t_OB.to (V := updV (vp_V (fld E mi mr a c0 n)) k0 (vv E w)) ⟨_, e1, q2, q3, t_set q4 hap h2 (vv E w)⟩ (fun j _ => vp_updV_set (by rw [fld_len]; exact hk) (vv E w) j)⟩
  rcases hfin with hfin | ⟨hfin, hin, hdecl⟩
  · unfold u_lay at hlay
    rw [if_neg (by rw [hfin]; decide)] at hlay
    have h6 := u_store hfc hkC hkind hlay hi (hty k0 h2) (hn E) (hfit E)
    exact W.putK hx hb (f := f) ⟨hown, hlk2, ⟨_, _, _, hi⟩, hst⟩ (by rw [q2]; exact h6) q1 q3 (by rw [hsl]; exact k2_hasslot (q4 k0 h2)) rfl rfl hd go
  · unfold u_lay at hlay
    rw [if_pos hfin] at hlay
    have hcf : m.cls = cf := by
      obtain ⟨_, _, c', _, _, _, -, -, hf', -, -, -, hown2, -⟩ := Cond.laysFinal_spec hlay
      have e1 : c' = cf := by have := hi.symm.trans hf'; simp at this; exact this.1.symm
      have hdecl : (T k0).1 = μ.1.cls := hdecl
      rw [hdecl] at hown2
      rw [← e1]; exact Option.some.inj (hown.symm.trans hown2)
    have h6 := u_fits hfc hkC hkind (Or.inr hlay) hi (hty k0 h2) (hn E) (hfit E)
    exact W.putFinK hx hb hown hlk2 hi hst hcf (hnm.trans hin) (by rw [q2]; exact h6) q1 q3 (by rw [hsl]; exact k2_hasslot (q4 k0 h2)) rfl rfl hd go
theorem r_putI {d : Nat} {μ : Mt} {pc : Nat} {L S : List Value} {sh : List Sh} {mi : MI} {mr : MR} {cb sb : Nat} {Q : QT} {idx c0 k0 n a : Nat} {x : Int32} (hd : decode μ.2.1 pc = .ok (.putfield idx, 3)) (hf : FW μ.1.cls μ.1.name idx c0 k0) (h : sh[a]? = some (c0 + 4, n)) (hk : k0 < n) (ht : fty c0 k0 = .int) (k : WP d μ (pc + 3) L (S) sh (upI mi a k0 x) mr cb sb Q) : WP d μ (pc) L (.int x :: .ref a :: S) sh mi mr cb sb Q :=
  put_gen hd hf h hk (fun E => by rw [ht]; rfl) (fun E => by rw [ht]; rfl) (fun E => fld_upI hk (by simp [rfd, ht])) (fun j hj => upI_ne hj) (fun j hj => rfl) k
theorem r_putZ {d : Nat} {μ : Mt} {pc : Nat} {L S : List Value} {sh : List Sh} {mi : MI} {mr : MR} {cb sb : Nat} {Q : QT} {idx c0 k0 n a : Nat} {x : Int32} (hd : decode μ.2.1 pc = .ok (.putfield idx, 3)) (hf : FW μ.1.cls μ.1.name idx c0 k0) (h : sh[a]? = some (c0 + 4, n)) (hk : k0 < n) (ht : fty c0 k0 = .boolean) (hx : narrow .boolean (.int x) = .int x) (hx2 : fits .boolean (.int x) = true) (k : WP d μ (pc + 3) L (S) sh (upI mi a k0 x) mr cb sb Q) : WP d μ (pc) L (.int x :: .ref a :: S) sh mi mr cb sb Q :=
  put_gen hd hf h hk (fun E => by rw [ht]; exact hx) (fun E => by rw [ht]; exact hx2) (fun E => fld_upI hk (by simp [rfd, ht])) (fun j hj => upI_ne hj) (fun j hj => rfl) k
theorem rfd_nar {c k b : Nat} (h : rfd c k = true) (E : WE) : narrow (fty c k) (vv E (.ref b)) = vv E (.ref b) := by
  unfold rfd at h
  cases hf : fty c k <;> simp [hf] at h <;> rfl
theorem rfd_fit {c k b : Nat} (h : rfd c k = true) (E : WE) : fits (fty c k) (vv E (.ref b)) = true := by
  unfold rfd at h
  cases hf : fty c k <;> simp [hf] at h <;> rfl
theorem r_putR {d : Nat} {μ : Mt} {pc : Nat} {L S : List Value} {sh : List Sh} {mi : MI} {mr : MR} {cb sb : Nat} {Q : QT} {idx c0 k0 n a b : Nat} (hd : decode μ.2.1 pc = .ok (.putfield idx, 3)) (hf : FW μ.1.cls μ.1.name idx c0 k0) (h : sh[a]? = some (c0 + 4, n)) (hk : k0 < n) (ht : rfd c0 k0 = true) (k : WP d μ (pc + 3) L (S) sh mi (upR mr a k0 (some b)) cb sb Q) : WP d μ (pc) L (.ref b :: .ref a :: S) sh mi mr cb sb Q :=
  put_gen hd hf h hk (fun E => rfd_nar ht E) (fun E => rfd_fit ht E) (fun E => (fld_upR hk ht).trans rfl) (fun j hj => rfl) (fun j hj => upR_ne hj) k
theorem r_ialoadI {d : Nat} {μ : Mt} {pc : Nat} {L S : List Value} {sh : List Sh} {mi : MI} {mr : MR} {cb sb : Nat} {Q : QT} {n a : Nat} {i : Int32} (hd : decode μ.2.1 pc = .ok (.iaload, 1)) (h : sh[a]? = some (0, n)) (hi : vp_in i n) (k : WP d μ (pc + 1) L (.int (mi a i.toNatClampNeg) :: S) sh mi mr cb sb Q) : WP d μ (pc) L (.int i :: .ref a :: S) sh mi mr cb sb Q := by
  intro l E p e s m args below meth c H locs cells slots mc ms ls hC hT hG hφ hS hA hz hP hl hc hs
  have hC0 := hC
  obtain ⟨hx, hb, hr, hml, hown, hlk, hnm⟩ := hC
  exact va_iald hx hb hT.1 hP a 0 (wld_at h) rfl hi hd (k l E p e s m args below meth c H locs cells slots mc ms ls hC0 hT hG hφ hS hA hz hP hl hc hs)
theorem r_iaload {d : Nat} {μ : Mt} {pc : Nat} {L S : List Value} {sh : List Sh} {mi : MI} {mr : MR} {cb sb : Nat} {Q : QT} {n a j : Nat} {i : Int32} (hd : decode μ.2.1 pc = .ok (.iaload, 1)) (h : sh[a]? = some (0, n)) (hi : i = nI j) (hj : j < n) (hn : n < 2147483648) (k : WP d μ (pc + 1) L (.int (mi a j) :: S) sh mi mr cb sb Q) : WP d μ (pc) L (.int i :: .ref a :: S) sh mi mr cb sb Q :=
  r_ialoadI hd h (by rw [hi]; exact vp_in_nI hj hn) (by rw [hi, nI_clamp (Nat.lt_trans hj hn)]; exact k)
theorem r_iastoreI {d : Nat} {μ : Mt} {pc : Nat} {L S : List Value} {sh : List Sh} {mi : MI} {mr : MR} {cb sb : Nat} {Q : QT} {n a : Nat} {i x : Int32} (hd : decode μ.2.1 pc = .ok (.iastore, 1)) (h : sh[a]? = some (0, n)) (hi : vp_in i n) (k : WP d μ (pc + 1) L (S) sh (upI mi a i.toNatClampNeg x) mr cb sb Q) : WP d μ (pc) L (.int x :: .int i :: .ref a :: S) sh mi mr cb sb Q := by
  intro l E p e s m args below meth c H locs cells slots mc ms ls hC hT hG hφ hS hA hz hP hl hc hs
  have hC0 := hC
  obtain ⟨hx, hb, hr, hml, hown, hlk, hnm⟩ := hC
  have hc1 : H[E.1 a]? = some (vp_cell (E.2.1 0) (n, .inl (mi a))) := hP a _ (wld_at h)
  refine W.iast hx hb hc1 ((hT.1.2 0 _ rfl).1 n (fun j => .int (mi a j))) (fun q => by cases q) (by show ¬ (i < 0 ∨ (arrV _ _ _).slots.size ≤ _); rw [arrV_size]; exact hi) rfl rfl hd fun H1 e1 z oq => ?_
  refine k l E p e s m args below meth c H1 _ cells slots mc ms ls hC0 hT hG hφ (hS.put z oq ⟨a, rfl⟩) hA (z.trans hz) (fin_set h hφ hP oq ?_ (fun j hj => upI_ne hj) (fun j hj => rfl)) hl hc hs
  show H1[E.1 a]? = some (vp_cell (E.2.1 0) (n, .inl (upI mi a i.toNatClampNeg x a)))
  rw [e1, upI_self, vp_cell_i, vp_cell_i, arrV_store]
  congr 2
  funext q
  by_cases hq : q = i.toNatClampNeg
  · subst hq
    simp [updV, upd]
  · simp [updV, upd, hq]
theorem r_iastore {d : Nat} {μ : Mt} {pc : Nat} {L S : List Value} {sh : List Sh} {mi : MI} {mr : MR} {cb sb : Nat} {Q : QT} {n a j : Nat} {i x : Int32} (hd : decode μ.2.1 pc = .ok (.iastore, 1)) (h : sh[a]? = some (0, n)) (hi : i = nI j) (hj : j < n) (hn : n < 2147483648) (k : WP d μ (pc + 1) L (S) sh (upI mi a j x) mr cb sb Q) : WP d μ (pc) L (.int x :: .int i :: .ref a :: S) sh mi mr cb sb Q :=
  r_iastoreI hd h (by rw [hi]; exact vp_in_nI hj hn) (by rw [hi, nI_clamp (Nat.lt_trans hj hn)]; exact k)
theorem r_aaload {d : Nat} {μ : Mt} {pc : Nat} {L S : List Value} {sh : List Sh} {mi : MI} {mr : MR} {cb sb : Nat} {Q : QT} {t n a j b : Nat} {i : Int32} (hd : decode μ.2.1 pc = .ok (.aaload, 1)) (ht : t < 3) (h : sh[a]? = some (t + 1, n)) (hi : i = nI j) (hj : j < n) (hn : n < 2147483648) (hm : mr a j = some b) (k : WP d μ (pc + 1) L (.ref b :: S) sh mi mr cb sb Q) : WP d μ (pc) L (.int i :: .ref a :: S) sh mi mr cb sb Q := by
  intro l E p e s m args below meth c H locs cells slots mc ms ls hC hT hG hφ hS hA hz hP hl hc hs
  have hC0 := hC
  obtain ⟨hx, hb, hr, hml, hown, hlk, hnm⟩ := hC
  have hin : vp_in i n := by rw [hi]; exact vp_in_nI hj hn
  have hcl : i.toNatClampNeg = j := by rw [hi, nI_clamp (Nat.lt_trans hj hn)]
  have kk : W p l e (room d mc ms) s m args below meth c H locs cells slots (MQ below (Qc_ E Q) args s mc ms (rng E)) (F0 m (pc + 1) ls (va_rf ((fun i => (mr a i).map E.1) i.toNatClampNeg) :: S.map (vv E))) := by
    rw [hcl]
    show W p l e (room d mc ms) s m args below meth c H locs cells slots (MQ below (Qc_ E Q) args s mc ms (rng E)) (F0 m (pc + 1) ls (va_rf ((mr a j).map E.1) :: S.map (vv E)))
    rw [hm]
    exact (k l E p e s m args below meth c H locs cells slots mc ms ls hC0 hT hG hφ hS hA hz hP hl hc hs)
  match t, ht, h with
  | 0, _, h => exact va_aldq hx hb hT.1 hP a 1 (wld_at h) rfl hin hd kk
  | 1, _, h => exact va_aldq hx hb hT.1 hP a 2 (wld_at h) rfl hin hd kk
  | 2, _, h => exact va_aldq hx hb hT.1 hP a 3 (wld_at h) rfl hin hd kk
theorem r_aaloadN {d : Nat} {μ : Mt} {pc : Nat} {L S : List Value} {sh : List Sh} {mi : MI} {mr : MR} {cb sb : Nat} {Q : QT} {t n a j : Nat} {i : Int32} (hd : decode μ.2.1 pc = .ok (.aaload, 1)) (ht : t < 3) (h : sh[a]? = some (t + 1, n)) (hi : i = nI j) (hj : j < n) (hn : n < 2147483648) (hm : mr a j = none) (k : WP d μ (pc + 1) L (.null :: S) sh mi mr cb sb Q) : WP d μ (pc) L (.int i :: .ref a :: S) sh mi mr cb sb Q := by
  intro l E p e s m args below meth c H locs cells slots mc ms ls hC hT hG hφ hS hA hz hP hl hc hs
  have hC0 := hC
  obtain ⟨hx, hb, hr, hml, hown, hlk, hnm⟩ := hC
  have hin : vp_in i n := by rw [hi]; exact vp_in_nI hj hn
  have hcl : i.toNatClampNeg = j := by rw [hi, nI_clamp (Nat.lt_trans hj hn)]
  have kk : W p l e (room d mc ms) s m args below meth c H locs cells slots (MQ below (Qc_ E Q) args s mc ms (rng E)) (F0 m (pc + 1) ls (va_rf ((fun i => (mr a i).map E.1) i.toNatClampNeg) :: S.map (vv E))) := by
    rw [hcl]
    show W p l e (room d mc ms) s m args below meth c H locs cells slots (MQ below (Qc_ E Q) args s mc ms (rng E)) (F0 m (pc + 1) ls (va_rf ((mr a j).map E.1) :: S.map (vv E)))
    rw [hm]
    exact (k l E p e s m args below meth c H locs cells slots mc ms ls hC0 hT hG hφ hS hA hz hP hl hc hs)
  match t, ht, h with
  | 0, _, h => exact va_aldq hx hb hT.1 hP a 1 (wld_at h) rfl hin hd kk
  | 1, _, h => exact va_aldq hx hb hT.1 hP a 2 (wld_at h) rfl hin hd kk
  | 2, _, h => exact va_aldq hx hb hT.1 hP a 3 (wld_at h) rfl hin hd kk
theorem r_alen {d : Nat} {μ : Mt} {pc : Nat} {L S : List Value} {sh : List Sh} {mi : MI} {mr : MR} {cb sb : Nat} {Q : QT} {t n a : Nat} (hd : decode μ.2.1 pc = .ok (.arraylength, 1)) (ht : t < 4) (h : sh[a]? = some (t, n)) (k : WP d μ (pc + 1) L (.int (nI n) :: S) sh mi mr cb sb Q) : WP d μ (pc) L (.ref a :: S) sh mi mr cb sb Q := by
  intro l E p e s m args below meth c H locs cells slots mc ms ls hC hT hG hφ hS hA hz hP hl hc hs
  have hC0 := hC
  obtain ⟨hx, hb, hr, hml, hown, hlk, hnm⟩ := hC
  have kk := k l E p e s m args below meth c H locs cells slots mc ms ls hC0 hT hG hφ hS hA hz hP hl hc hs
  match t, ht, h with
  | 0, _, h => exact va_alen hx hb hT.1 hP a 0 (wld_at h) rfl rfl hd kk
  | 1, _, h => exact va_alen hx hb hT.1 hP a 1 (wld_at h) rfl rfl hd kk
  | 2, _, h => exact va_alen hx hb hT.1 hP a 2 (wld_at h) rfl rfl hd kk
  | 3, _, h => exact va_alen hx hb hT.1 hP a 3 (wld_at h) rfl rfl hd kk
theorem r_aastore {d : Nat} {μ : Mt} {pc : Nat} {L S : List Value} {sh : List Sh} {mi : MI} {mr : MR} {cb sb : Nat} {Q : QT} {t n a j b c0 n0 : Nat} {i : Int32} {q0 : vw_C} (hd : decode μ.2.1 pc = .ok (.aastore, 1)) (ht : t < 3) (h : sh[a]? = some (t + 1, n)) (hi : i = nI j) (hj : j < n) (hn : n < 2147483648) (hv : sh[b]? = some (c0 + 4, n0)) (hq : cls[c0]? = some q0) (hca : q0.1 = [RX4, RX7, RX8].getD t "" ∨ Cond.castable q0.1 ([RX4, RX7, RX8].getD t "") ∈ lw_tbl) (k : WP d μ (pc + 1) L (S) sh mi (upR mr a j (some b)) cb sb Q) : WP d μ (pc) L (.ref b :: .int i :: .ref a :: S) sh mi mr cb sb Q := by
  intro l E p e s m args below meth c H locs cells slots mc ms ls hC hT hG hφ hS hA hz hP hl hc hs
  have hC0 := hC
  obtain ⟨hx, hb, hr, hml, hown, hlk, hnm⟩ := hC
  have h0 : ¬ i < 0 := by rw [hi]; exact nI_pos (Nat.lt_trans hj hn)
  have hcl : i.toNatClampNeg = j := by rw [hi, nI_clamp (Nat.lt_trans hj hn)]
  obtain ⟨q1, hq1, cellV, g1, g2, g3, -⟩ := hP b _ (wld_at hv)
  have hcls := (hT.1.1 c0 q0 hq).2
  obtain ⟨kC, hkC, -⟩ := hcls.2
  have key : ∀ (tt : Nat) (X : String), tt = t + 1 → (tys E)[tt]? = some (E.2.1 tt, .object X) → (q0.1 = X ∨ Cond.castable q0.1 X ∈ lw_tbl) → (∀ mr', cellE E mi mr' a (tt, n) = .inl (E.2.1 tt, n, .inr (.inr (.inr (.inr (fun i => (mr' a i).map E.1)))))) → W p l e (room d mc ms) s m args below meth c H locs cells slots (MQ below (Qc_ E Q) args s mc ms (rng E)) (F0 m pc ls ((Value.ref b :: .int i :: .ref a :: S).map (vv E))) := by
    intro tt X htt h1 h2 h3
    subst htt
    have hc1 : H[E.1 a]? = some (vp_cell (E.2.1 (t + 1)) (n, .inr (.inr (.inr (.inr (fun i => (mr a i).map E.1)))))) := by
      have h4 := hP a _ (wld_at h)
      rw [h3] at h4
      exact h4
    obtain ⟨kA, comp, k1, k2, k3, -⟩ := (hT.1.2 (t + 1) _ h1).2
    obtain ⟨kE, hkE, -⟩ := Vm.findClass_spec k3
    have hasg : s.vm.assignable (E.2.2.2.2.1.1 c0) comp = true := by
      rcases h2 with h2 | h2
      · have : E.2.2.2.2.1.1 c0 = comp := by
          have e1 := hcls.1
          rw [h2] at e1
          exact Option.some.inj (e1.symm.trans k3)
        rw [this]
        exact va_asg _ _
      · obtain ⟨c9, t1, f1, f2, f3⟩ := Cond.castable_spec (hT.2.1.use h2 rfl (a := args))
        cases hcls.1.symm.trans f1
        cases k3.symm.trans f2
        exact f3
    refine W.aast hx hb hc1 (fun q h => by cases h) (fun h => by cases h) k1 k2 rfl hkE ⟨h0, by show _ < (arrV _ _ _).slots.size; rw [arrV_size, hcl]; exact hj⟩ g1 (fun q h => by rw [g3] at h; cases h) (by rw [g2]; exact hkC) (by rw [g2]; exact hasg) rfl rfl hd fun H1 e1 z oq => ?_
    refine k l E p e s m args below meth c H1 _ cells slots mc ms ls hC0 hT hG hφ (hS.put z oq ⟨a, rfl⟩) hA (z.trans hz) (fin_set h hφ hP oq ?_ (fun j hj => rfl) (fun j hj => upR_ne hj)) hl hc hs
    rw [h3]
    show H1[E.1 a]? = some (vp_cell (E.2.1 (t + 1)) (n, .inr (.inr (.inr (.inr (fun i => (upR mr a j (some b) a i).map E.1))))))
    rw [e1, upR_self, hcl, vp_cell_q, vp_cell_q, arrV_store]
    congr 2
    funext q
    by_cases hq : q = j
    · subst hq
      simp [updV, va_up, va_rf]
    · simp [updV, va_up, hq]
  match t, ht, h, hca, key with
  | 0, _, h, hca, key => exact key 1 RX4 rfl rfl hca (fun _ => rfl)
  | 1, _, h, hca, key => exact key 2 RX7 rfl rfl hca (fun _ => rfl)
  | 2, _, h, hca, key => exact key 3 RX8 rfl rfl hca (fun _ => rfl)
def okFty : FieldType → Bool
  | .int => true
  | .boolean => true
  | .object _ => true
  | .array _ => true
  | _ => false
theorem fty_ok : ∀ (c : Nat) (q : vw_C), cls[c]? = some q → ∀ j, j < q.2.2 → okFty (fty c j) = true := by
  have h0 : ∀ j, j < 14 → okFty (fty 5 j) = true := by decide
  have h1 : ∀ j, j < 3 → okFty (fty 7 j) = true := by decide
  have h2 : ∀ j, j < 3 → okFty (fty 8 j) = true := by decide
  have h3 : ∀ j, j < 20 → okFty (fty 9 j) = true := by decide
  have h4 : ∀ j, j < 4 → okFty (fty 10 j) = true := by decide
  have h5 : ∀ j, j < 14 → okFty (fty 11 j) = true := by decide
  have h6 : ∀ j, j < 34 → okFty (fty 12 j) = true := by decide
  intro c q hq
  match c, hq with
  | 0, hq => cases hq; exact fun j hj => absurd hj (Nat.not_lt_zero j)
  | 1, hq => cases hq; exact fun j hj => absurd hj (Nat.not_lt_zero j)
  | 2, hq => cases hq; exact fun j hj => absurd hj (Nat.not_lt_zero j)
  | 3, hq => cases hq; exact fun j hj => absurd hj (Nat.not_lt_zero j)
  | 4, hq => cases hq; exact fun j hj => absurd hj (Nat.not_lt_zero j)
  | 5, hq => cases hq; exact h0
  | 6, hq => cases hq; exact fun j hj => absurd hj (Nat.not_lt_zero j)
  | 7, hq => cases hq; exact h1
  | 8, hq => cases hq; exact h2
  | 9, hq => cases hq; exact h3
  | 10, hq => cases hq; exact h4
  | 11, hq => cases hq; exact h5
  | 12, hq => cases hq; exact h6
  | c + 13, hq => simp [cls] at hq
theorem dflt_ok {c j : Nat} {q : vw_C} {E : WE} (hq : cls[c]? = some q) (hj : j < q.2.2) : defaultValue (fty c j) = (some (if rfd c j = true then va_rf (((fun _ => none : Nat → Option Nat) j).map E.1) else Value.int ((fun _ => 0 : Nat → Int32) j))).getD .null := by
  have h := fty_ok c q hq j hj
  unfold rfd
  cases hf : fty c j <;> simp [hf, okFty] at h <;> rfl
theorem r_new {d : Nat} {μ : Mt} {pc : Nat} {L S : List Value} {sh : List Sh} {mi : MI} {mr : MR} {cb sb : Nat} {Q : QT} {idx c0 : Nat} {q0 : vw_C} (hd : decode μ.2.1 pc = .ok (.new idx, 3)) (hq : cls[c0]? = some q0) (h1 : Cond.classLink μ.1.cls idx q0.1 ∈ lw_tbl) (h2 : Cond.instantiable q0.1 q0.2.2 ∈ lw_tbl) (h3 : Cond.initialized q0.1 ∈ lw_tbl) (k : WP d μ (pc + 3) L (.ref sh.length :: S) (sh ++ [(c0 + 4, q0.2.2)]) (zI mi sh.length) (zR mr sh.length) cb sb Q) : WP d μ (pc) L (S) sh mi mr (cb + 1) (sb + q0.2.2) Q := by
  intro l E p e s m args below meth c H locs cells slots mc ms ls hC hT hG hφ hS hA hz hP hl hc hs
  have hC0 := hC
  obtain ⟨hx, hb, hr, hml, hown, hlk, hnm⟩ := hC
  obtain ⟨C, T, N⟩ := q0
  have hKn := hT.1.1 c0 _ hq
  have hts : ∀ w ∈ u_ws C T N, w.before args s = true := fun w hw => hT.2.1.use (cls_ws c0 _ hq w hw).1 (cls_ws c0 _ hq w hw).2
  have hN : E.1 sh.length = H.size := by rw [hφ.2 _ (Nat.le_refl _), hz]
  have hty := (cls_ty c0 _ hq).1
  refine W.newcK hx hb hown (hT.2.1.use h1 rfl) (hT.2.1.use h2 rfl) (hT.2.1.use h3 rfl) rfl hd (by show cells + 1 ≤ mc; omega) (by show slots + N ≤ ms; have : slots + (sb + N) ≤ ms := hs; omega) hKn.2.1 rfl fun H1 kC hkC e1 z1 o1 => ?_
  have kk := k l E p e s m args below meth c H1 locs (cells + 1) (slots + N) mc ms ls hC0 hT hG (hφ.mono (by simp)) (fin_S hS rfl z1 o1) hA (by rw [z1, hz]; simp; omega) (fin_push (x := (c0 + 4, N)) hP o1 ?_ (fun j hj => zI_ne hj) (fun j hj => zR_ne hj)) hl (by omega) (by have : slots + (sb + N) ≤ ms := hs; omega)
  · rw [← hN]
    exact kk
  · show va_at E.2.2.2.2.1 cls (E.1 sh.length, .inr (c0, fld E (zI mi sh.length) (zR mr sh.length) sh.length c0 N)) H1
    refine ⟨_, hq, ?_⟩
    show t_OB (E.1 sh.length) _ _ _ H1 _
    rw [hN]
    refine (u_born (fty c0) hts (fun w hw => hw) hKn hkC e1 hty).to ?_
    intro j hj
    show defaultValue (fty c0 j) = (fld E (zI mi sh.length) (zR mr sh.length) sh.length c0 N).getD j .null
    rw [List.getD_eq_getElem?_getD, fld_at hj, zI_self, zR_self]
    exact dflt_ok hq hj
theorem r_newi {d : Nat} {μ : Mt} {pc : Nat} {L S : List Value} {sh : List Sh} {mi : MI} {mr : MR} {cb sb : Nat} {Q : QT} {N : Nat} {n : Int32} (hd : decode μ.2.1 pc = .ok (.newarray .int, 2)) (hw : Cond.arrayClass .int ∈ lw_tbl) (hn : n = nI N) (hN : N < 100000) (k : WP d μ (pc + 2) L (.ref sh.length :: S) (sh ++ [(0, N)]) (zI mi sh.length) (zR mr sh.length) cb sb Q) : WP d μ (pc) L (.int n :: S) sh mi mr (cb + 1) (sb + N) Q := by
  intro l E p e s m args below meth c H locs cells slots mc ms ls hC hT hG hφ hS hA hz hP hl hc hs
  have hC0 := hC
  obtain ⟨hx, hb, hr, hml, hown, hlk, hnm⟩ := hC
  have hN9 : E.1 sh.length = H.size := by rw [hφ.2 _ (Nat.le_refl _), hz]
  refine va_newaK (atype := .int) (N := N) hx hb (hT.2.1.use hw rfl) rfl hd rfl (by rw [hn]; exact nI_pos (by omega)) (by rw [hn]; exact nI_clamp (by omega)) (by show N * 4 ≤ 536870912; omega) (by show cells + 1 ≤ mc; omega) (by show slots + N ≤ ms; omega) rfl fun H1 cA e1 z1 o1 hAr hNm => ?_
  have hcA : cA = E.2.1 0 := by
    have h9 : s.vm.findClass ("[" ++ FieldType.int.toString) = some (E.2.1 0) := (hT.1.2 0 _ rfl).2
    exact Option.some.inj (hNm.symm.trans h9)
  subst hcA
  have kk := k l E p e s m args below meth c H1 locs (cells + 1) (slots + N) mc ms ls hC0 hT hG (hφ.mono (by simp)) (fin_S hS rfl z1 o1) hA (by rw [z1, hz]; simp; omega) (fin_push (x := (0, N)) hP o1 ?_ (fun j hj => zI_ne hj) (fun j hj => zR_ne hj)) hl (by omega) (by omega)
  · rw [← hN9]
    exact kk
  · show H1[E.1 sh.length]? = some (vp_cell (E.2.1 0) (N, .inl (zI mi sh.length sh.length)))
    rw [hN9, zI_self]
    exact e1
theorem r_newq {d : Nat} {μ : Mt} {pc : Nat} {L S : List Value} {sh : List Sh} {mi : MI} {mr : MR} {cb sb : Nat} {Q : QT} {t N idx : Nat} {n : Int32} (hd : decode μ.2.1 pc = .ok (.anewarray idx, 3)) (ht : t < 3) (hw : Cond.classLink μ.1.cls idx ([RX4, RX7, RX8].getD t "") ∈ lw_tbl) (hn : n = nI N) (hN : N < 100000) (k : WP d μ (pc + 3) L (.ref sh.length :: S) (sh ++ [(t + 1, N)]) (zI mi sh.length) (zR mr sh.length) cb sb Q) : WP d μ (pc) L (.int n :: S) sh mi mr (cb + 1) (sb + N) Q := by
  intro l E p e s m args below meth c H locs cells slots mc ms ls hC hT hG hφ hS hA hz hP hl hc hs
  have hC0 := hC
  obtain ⟨hx, hb, hr, hml, hown, hlk, hnm⟩ := hC
  have hN9 : E.1 sh.length = H.size := by rw [hφ.2 _ (Nat.le_refl _), hz]
  have key : ∀ (tt : Nat) (X : String), tt = t + 1 → (tys E)[tt]? = some (E.2.1 tt, .object X) → Cond.classLink μ.1.cls idx X ∈ lw_tbl → va_AO X s → (∀ mi' mr' a, cellE E mi' mr' a (tt, N) = .inl (E.2.1 tt, N, .inr (.inr (.inr (.inr (fun i => (mr' a i).map E.1)))))) → W p l e (room d mc ms) s m args below meth c H locs cells slots (MQ below (Qc_ E Q) args s mc ms (rng E)) (F0 m pc ls ((Value.int n :: S).map (vv E))) := by
    intro tt X htt h1 h2 hao h3
    subst htt
    have hcl : n.toNatClampNeg = N := by rw [hn]; exact nI_clamp (by omega)
    refine W.anew hx hb hown (hT.2.1.use h2 rfl) (va_AO.use hao) rfl hd rfl (by rw [hn]; exact nI_pos (by omega)) (by rw [hcl]; omega) (by show cells + 1 ≤ mc; omega) (by rw [hcl]; show slots + N ≤ ms; omega) fun cA kA comp f1 f2 f3 f4 => ?_
    rw [hcl]
    generalize hH1 : H.push ({ cls := cA, slots := Array.replicate N .null, vm := .none } : Cell) = H1
    have z1 : H1.size = H.size + 1 := by rw [← hH1, Array.size_push]
    have e1 : H1[H.size]? = some (arrV cA N (fun _ => .null)) := by rw [← hH1, Array.getElem?_push_size, ← arrV_new]
    have o1 : ∀ q : Nat, q < H.size → H1[q]? = H[q]? := fun q hq => by rw [← hH1, Array.getElem?_push, if_neg (Nat.ne_of_lt hq)]
    have hcA : cA = E.2.1 (t + 1) := by
      obtain ⟨_, _, _, _, _, h9⟩ := (hT.1.2 (t + 1) _ h1).2
      exact Option.some.inj (f1.symm.trans h9)
    subst hcA
    have kk := k l E p e s m args below meth c H1 locs (cells + 1) (slots + N) mc ms ls hC0 hT hG (hφ.mono (by simp)) (fin_S hS rfl z1 o1) hA (by rw [z1, hz]; simp; omega) (fin_push (x := (t + 1, N)) hP o1 ?_ (fun j hj => zI_ne hj) (fun j hj => zR_ne hj)) hl (by omega) (by omega)
    · rw [← hN9]
      exact kk
    · rw [h3, zR_self]
      show H1[E.1 sh.length]? = some (vp_cell (E.2.1 (t + 1)) (N, .inr (.inr (.inr (.inr (fun i => (none : Option Nat).map E.1))))))
      rw [hN9]
      exact e1
  match t, ht, hw, key with
  | 0, _, hw, key => exact key 1 RX4 rfl rfl hw hT.2.2.2.1.1 (fun _ _ _ => rfl)
  | 1, _, hw, key => exact key 2 RX7 rfl rfl hw hT.2.2.2.1.2.1 (fun _ _ _ => rfl)
  | 2, _, hw, key => exact key 3 RX8 rfl rfl hw hT.2.2.2.1.2.2 (fun _ _ _ => rfl)
theorem r_sval {d : Nat} {μ : Mt} {pc : Nat} {L S : List Value} {sh : List Sh} {mi : MI} {mr : MR} {cb sb : Nat} {Q : QT} {idx i : Nat} (hd : decode μ.2.1 pc = .ok (.getfield idx, 3)) (hi : i < 6) (hw : Cond.fieldLink μ.1.cls idx "java/lang/String" "value" "[B" ∈ lw_tbl) (k : WP d μ (pc + 3) L (.float (UInt32.ofNat (2 * i + 1)) :: S) sh mi mr cb sb Q) : WP d μ (pc) L (.float (UInt32.ofNat (2 * i)) :: S) sh mi mr cb sb Q := by
  intro l E p e s m args below meth c H locs cells slots mc ms ls hC hT hG hφ hS hA hz hP hl hc hs
  have hC0 := hC
  obtain ⟨hx, hb, hr, hml, hown, hlk, hnm⟩ := hC
  exact vk_getf hx hb (hG.1.1 i hi).2.2.1 hS hown (hT.2.1.use hw rfl) (fun _ h => h) hd (k l E p e s m args below meth c H locs cells slots mc ms ls hC0 hT hG hφ hS hA hz hP hl hc hs)
theorem r_scod {d : Nat} {μ : Mt} {pc : Nat} {L S : List Value} {sh : List Sh} {mi : MI} {mr : MR} {cb sb : Nat} {Q : QT} {idx i : Nat} (hd : decode μ.2.1 pc = .ok (.getfield idx, 3)) (hi : i < 6) (hw : Cond.fieldLink μ.1.cls idx "java/lang/String" "coder" "B" ∈ lw_tbl) (k : WP d μ (pc + 3) L (.int 0 :: S) sh mi mr cb sb Q) : WP d μ (pc) L (.float (UInt32.ofNat (2 * i)) :: S) sh mi mr cb sb Q := by
  intro l E p e s m args below meth c H locs cells slots mc ms ls hC hT hG hφ hS hA hz hP hl hc hs
  have hC0 := hC
  obtain ⟨hx, hb, hr, hml, hown, hlk, hnm⟩ := hC
  exact vk_getf hx hb (hG.1.1 i hi).2.1 hS hown (hT.2.1.use hw rfl) (fun _ h => h) hd (k l E p e s m args below meth c H locs cells slots mc ms ls hC0 hT hG hφ hS hA hz hP hl hc hs)
theorem r_slen {d : Nat} {μ : Mt} {pc : Nat} {L S : List Value} {sh : List Sh} {mi : MI} {mr : MR} {cb sb : Nat} {Q : QT} {i : Nat} (hd : decode μ.2.1 pc = .ok (.arraylength, 1)) (hi : i < 6) (k : WP d μ (pc + 1) L (.int (nI (ssL.getD i 0)) :: S) sh mi mr cb sb Q) : WP d μ (pc) L (.float (UInt32.ofNat (2 * i + 1)) :: S) sh mi mr cb sb Q := by
  intro l E p e s m args below meth c H locs cells slots mc ms ls hC hT hG hφ hS hA hz hP hl hc hs
  have hC0 := hC
  obtain ⟨hx, hb, hr, hml, hown, hlk, hnm⟩ := hC
  exact va_tlen hx hb (hG.1.1 i hi).2.2.2 hS rfl hd (k l E p e s m args below meth c H locs cells slots mc ms ls hC0 hT hG hφ hS hA hz hP hl hc hs)
theorem r_sbyt {d : Nat} {μ : Mt} {pc : Nat} {L S : List Value} {sh : List Sh} {mi : MI} {mr : MR} {cb sb : Nat} {Q : QT} {i : Nat} {x : Int32} (hd : decode μ.2.1 pc = .ok (.baload, 1)) (hi : i < 6) (hvx : vp_in x (ssL.getD i 0)) (k : WP d μ (pc + 1) L (.int ((ssB.getD i []).getD x.toNatClampNeg 0) :: S) sh mi mr cb sb Q) : WP d μ (pc) L (.int x :: .float (UInt32.ofNat (2 * i + 1)) :: S) sh mi mr cb sb Q := by
  intro l E p e s m args below meth c H locs cells slots mc ms ls hC hT hG hφ hS hA hz hP hl hc hs
  have hC0 := hC
  obtain ⟨hx, hb, hr, hml, hown, hlk, hnm⟩ := hC
  exact va_tb hx hb (hG.1.1 i hi).2.2.2 hS hvx rfl hd (k l E p e s m args below meth c H locs cells slots mc ms ls hC0 hT hG hφ hS hA hz hP hl hc hs)
theorem r_gsC {d : Nat} {μ : Mt} {pc : Nat} {L S : List Value} {sh : List Sh} {mi : MI} {mr : MR} {cb sb : Nat} {Q : QT} {idx : Nat} (hd : decode μ.2.1 pc = .ok (.getstatic idx, 3)) (hw : Cond.fieldLink μ.1.cls idx "java/lang/String" "COMPACT_STRINGS" "Z" ∈ lw_tbl) (k : WP d μ (pc + 3) L (.int 1 :: S) sh mi mr cb sb Q) : WP d μ (pc) L (S) sh mi mr cb sb Q := by
  intro l E p e s m args below meth c H locs cells slots mc ms ls hC hT hG hφ hS hA hz hP hl hc hs
  have hC0 := hC
  obtain ⟨hx, hb, hr, hml, hown, hlk, hnm⟩ := hC
  exact va_gets hx hb hG.2.1 hS hown (hT.2.1.use hw rfl) (fun _ h => h) hd (k l E p e s m args below meth c H locs cells slots mc ms ls hC0 hT hG hφ hS hA hz hP hl hc hs)
theorem r_gsF {d : Nat} {μ : Mt} {pc : Nat} {L S : List Value} {sh : List Sh} {mi : MI} {mr : MR} {cb sb : Nat} {Q : QT} {idx : Nat} (hd : decode μ.2.1 pc = .ok (.getstatic idx, 3)) (hw : Cond.fieldLink μ.1.cls idx "jdk/internal/util/Preconditions" "SIOOBE_FORMATTER" "Ljava/util/function/BiFunction;" ∈ lw_tbl) (k : WP d μ (pc + 3) L (.retAddr 0 :: S) sh mi mr cb sb Q) : WP d μ (pc) L (S) sh mi mr cb sb Q := by
  intro l E p e s m args below meth c H locs cells slots mc ms ls hC hT hG hφ hS hA hz hP hl hc hs
  have hC0 := hC
  obtain ⟨hx, hb, hr, hml, hown, hlk, hnm⟩ := hC
  exact va_gets hx hb hG.2.2 hS hown (hT.2.1.use hw rfl) (fun _ h => h) hd (k l E p e s m args below meth c H locs cells slots mc ms ls hC0 hT hG hφ hS hA hz hP hl hc hs)
theorem r_iret {d : Nat} {μ : Mt} {pc : Nat} {L : List Value} {sh : List Sh} {mi : MI} {mr : MR} {cb sb : Nat} {Q : QT} {v : Int32} {ty : FieldType} (hd : decode μ.2.1 pc = .ok (.ireturn, 1)) (ht : μ.2.2.2 = some ty) (hn : narrow ty (.int v) = .int v) (hq : Q (some (.int v)) sh mi mr) : WP d μ (pc) L ([.int v]) sh mi mr cb sb Q := by
  intro l E p e s m args below meth c H locs cells slots mc ms ls hC hT hG hφ hS hA hz hP hl hc hs
  have hC0 := hC
  obtain ⟨hx, hb, hr, hml, hown, hlk, hnm⟩ := hC
  exact W.widen (k := mc) (n := ms) (by omega) (by omega) (W.zret hx hb (hr.trans ht) hn (fun t ht hW => ⟨⟨some (.int v), sh, mi, mr, rfl, hq, by rw [ht]; exact hz, by rw [ht]; exact hP⟩, hS.F ht⟩) hS.2.2 hd)
theorem r_vret {d : Nat} {μ : Mt} {pc : Nat} {L : List Value} {sh : List Sh} {mi : MI} {mr : MR} {cb sb : Nat} {Q : QT} (hd : decode μ.2.1 pc = .ok (.return_, 1)) (ht : μ.2.2.2 = none) (hq : Q none sh mi mr) : WP d μ (pc) L ([]) sh mi mr cb sb Q := by
  intro l E p e s m args below meth c H locs cells slots mc ms ls hC hT hG hφ hS hA hz hP hl hc hs
  have hC0 := hC
  obtain ⟨hx, hb, hr, hml, hown, hlk, hnm⟩ := hC
  exact W.widen (k := mc) (n := ms) (by omega) (by omega) (W.vret hx hb (hr.trans ht) (fun t ht hW => ⟨⟨none, sh, mi, mr, rfl, hq, by rw [ht]; exact hz, by rw [ht]; exact hP⟩, hS.F ht⟩) hS.2.2 hd)
theorem r_aret {d : Nat} {μ : Mt} {pc : Nat} {L : List Value} {sh : List Sh} {mi : MI} {mr : MR} {cb sb : Nat} {Q : QT} {v : Value} {ty : FieldType} (hd : decode μ.2.1 pc = .ok (.areturn, 1)) (ht : μ.2.2.2 = some ty) (hty : (∃ n, ty = .object n) ∨ ∃ t, ty = .array t) (hv : isR v = true) (hq : Q (some v) sh mi mr) : WP d μ (pc) L ([v]) sh mi mr cb sb Q := by
  intro l E p e s m args below meth c H locs cells slots mc ms ls hC hT hG hφ hS hA hz hP hl hc hs
  have hC0 := hC
  obtain ⟨hx, hb, hr, hml, hown, hlk, hnm⟩ := hC
  refine W.widen (k := mc) (n := ms) (by omega) (by omega) (W.aret (v := vv E v) hx hb (hr.trans ht) hty ?_ (fun t ht hW => ⟨⟨some v, sh, mi, mr, rfl, hq, by rw [ht]; exact hz, by rw [ht]; exact hP⟩, hS.F ht⟩) hS.2.2 hd)
  cases v with
  | ref x => exact Or.inr ⟨_, rfl⟩
  | null => exact Or.inl rfl
  | float u => exact Or.inr ⟨_, rfl⟩
  | retAddr r => exact hT.2.2.2.2
  | _ => simp [isR] at hv
