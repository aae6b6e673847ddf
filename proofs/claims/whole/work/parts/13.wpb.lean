def isR : Value → Bool
  | .ref _ => true
  | .null => true
  | .float _ => true
  | .retAddr _ => true
  | _ => false
def c1 : Value → Bool
  | .long _ => false
  | .double _ => false
  | _ => true
def catL : Value → Bool
  | .long _ => false
  | .double b => b == 0
  | _ => true
def pr (V : Value → Value) (L : List Value) : List (Nat × Value) := (List.range L.length).filterMap (fun k => match L[k]? with
  | some v => if v = hole then none else some (k, V v)
  | none => none)
theorem pr_mem (V : Value → Value) {L : List Value} {k : Nat} {v : Value} (h : L[k]? = some v) (hv : v ≠ hole) : (k, V v) ∈ pr V L := by
  unfold pr
  refine List.mem_filterMap.mpr ⟨k, List.mem_range.mpr (List.getElem?_eq_some_iff.mp h).1, ?_⟩
  simp only [h]
  rw [if_neg hv]
theorem pr_of {V : Value → Value} {L : List Value} {q : Nat × Value} (h : q ∈ pr V L) : ∃ v, L[q.1]? = some v ∧ v ≠ hole ∧ q.2 = V v := by
  unfold pr at h
  obtain ⟨k, -, hk⟩ := List.mem_filterMap.mp h
  cases hv : L[k]? with
  | none => simp [hv] at hk
  | some v =>
    simp only [hv] at hk
    by_cases hh : v = hole
    · rw [if_pos hh] at hk; cases hk
    · rw [if_neg hh] at hk
      cases hk
      exact ⟨v, hv, hh, rfl⟩
theorem hasL_pr {V : Value → Value} {ls : Array Slot} {nL : Nat} {L : List Value} (h : hasL V ls nL L) : lv_has ls nL (pr V L) := by
  refine ⟨h.1, h.2.1, fun q hq => ?_⟩
  obtain ⟨v, h1, h2, h3⟩ := pr_of hq
  rw [h3]
  exact h.2.2 q.1 v h1 h2
theorem hasL_set {E : WE} {U : State} (hT : TT E U) {ls ls2 : Array Slot} {nL : Nat} {L : List Value} {i : Nat} {w x : Value} (h : hasL (vv E) ls nL L) (hcat : L.all catL = true) (hn : i < L.length) (hx : vv E w = x)
    (h2 : lv_has ls2 nL ((i, x) :: (pr (vv E) L).filter (fun q => !(q.1 == i) && !(q.1 + 1 == i && q.2.category == 2)))) : hasL (vv E) ls2 nL (L.set i w) := by
  refine ⟨h2.1, h2.2.1, fun k v hk hv => ?_⟩
  by_cases hki : k = i
  · subst hki
    rw [List.getElem?_set_self hn] at hk
    cases hk
    rw [hx]
    exact h2.2.2 (k, x) List.mem_cons_self
  · rw [List.getElem?_set_ne (Ne.symm hki)] at hk
    refine h2.2.2 (k, vv E v) (List.mem_cons_of_mem _ (List.mem_filter.mpr ⟨pr_mem (vv E) hk hv, ?_⟩))
    have hc := List.all_eq_true.mp hcat v (List.mem_of_getElem? hk)
    have h1 : (vv E v).category = 1 := by
      refine vv_cat hT ?_
      cases v with
      | long y => simp [catL] at hc
      | double y =>
        exfalso
        simp [catL] at hc
        exact hv (by rw [hc])
      | _ => rfl
    simp [hki, h1]
theorem r_iconst {d : Nat} {μ : Mt} {pc : Nat} {L S : List Value} {sh : List Sh} {mi : MI} {mr : MR} {cb sb : Nat} {Q : QT} {n : Int} {v : Int32} (hd : decode μ.2.1 pc = .ok (.iconst n, 1)) (hv : Int32.ofInt n = v) (k : WP d μ (pc + 1) L (.int v :: S) sh mi mr cb sb Q) : WP d μ (pc) L (S) sh mi mr cb sb Q := by
  intro l E p e s m args below meth c H locs cells slots mc ms ls hC hT hG hφ hS hA hz hP hl hc hs
  have hC0 := hC
  obtain ⟨hx, hb, hr, hml, hown, hlk, hnm⟩ := hC
  exact lv_iconst hx hb hd hv (k l E p e s m args below meth c H locs cells slots mc ms ls hC0 hT hG hφ hS hA hz hP hl hc hs)
theorem r_bipush {d : Nat} {μ : Mt} {pc : Nat} {L S : List Value} {sh : List Sh} {mi : MI} {mr : MR} {cb sb : Nat} {Q : QT} {n : Int} {v : Int32} (hd : decode μ.2.1 pc = .ok (.bipush n, 2)) (hv : (Int8.ofInt n).toInt32 = v) (k : WP d μ (pc + 2) L (.int v :: S) sh mi mr cb sb Q) : WP d μ (pc) L (S) sh mi mr cb sb Q := by
  intro l E p e s m args below meth c H locs cells slots mc ms ls hC hT hG hφ hS hA hz hP hl hc hs
  have hC0 := hC
  obtain ⟨hx, hb, hr, hml, hown, hlk, hnm⟩ := hC
  exact lv_bipush hx hb hd hv (k l E p e s m args below meth c H locs cells slots mc ms ls hC0 hT hG hφ hS hA hz hP hl hc hs)
theorem r_sipush {d : Nat} {μ : Mt} {pc : Nat} {L S : List Value} {sh : List Sh} {mi : MI} {mr : MR} {cb sb : Nat} {Q : QT} {n : Int} {v : Int32} (hd : decode μ.2.1 pc = .ok (.sipush n, 3)) (hv : (Int16.ofInt n).toInt32 = v) (k : WP d μ (pc + 3) L (.int v :: S) sh mi mr cb sb Q) : WP d μ (pc) L (S) sh mi mr cb sb Q := by
  intro l E p e s m args below meth c H locs cells slots mc ms ls hC hT hG hφ hS hA hz hP hl hc hs
  have hC0 := hC
  obtain ⟨hx, hb, hr, hml, hown, hlk, hnm⟩ := hC
  exact lv_sipush hx hb hd hv (k l E p e s m args below meth c H locs cells slots mc ms ls hC0 hT hG hφ hS hA hz hP hl hc hs)
theorem r_lconst {d : Nat} {μ : Mt} {pc : Nat} {L S : List Value} {sh : List Sh} {mi : MI} {mr : MR} {cb sb : Nat} {Q : QT} {n : Fin 2} {v : Int64} (hd : decode μ.2.1 pc = .ok (.lconst n, 1)) (hv : Int64.ofNat (n : Nat) = v) (k : WP d μ (pc + 1) L (.long v :: S) sh mi mr cb sb Q) : WP d μ (pc) L (S) sh mi mr cb sb Q := by
  intro l E p e s m args below meth c H locs cells slots mc ms ls hC hT hG hφ hS hA hz hP hl hc hs
  have hC0 := hC
  obtain ⟨hx, hb, hr, hml, hown, hlk, hnm⟩ := hC
  exact lv_lconst hx hb hd hv (k l E p e s m args below meth c H locs cells slots mc ms ls hC0 hT hG hφ hS hA hz hP hl hc hs)
theorem r_ldc {d : Nat} {μ : Mt} {pc : Nat} {L S : List Value} {sh : List Sh} {mi : MI} {mr : MR} {cb sb : Nat} {Q : QT} {idx : Nat} {v : Int32} (hd : decode μ.2.1 pc = .ok (.ldc idx, 2)) (hw : Cond.constant μ.1.cls idx v ∈ lw_tbl) (k : WP d μ (pc + 2) L (.int v :: S) sh mi mr cb sb Q) : WP d μ (pc) L (S) sh mi mr cb sb Q := by
  intro l E p e s m args below meth c H locs cells slots mc ms ls hC hT hG hφ hS hA hz hP hl hc hs
  have hC0 := hC
  obtain ⟨hx, hb, hr, hml, hown, hlk, hnm⟩ := hC
  exact lv_ldc hx hb hown (hT.2.1.use hw rfl) hd (k l E p e s m args below meth c H locs cells slots mc ms ls hC0 hT hG hφ hS hA hz hP hl hc hs)
theorem r_ldcw {d : Nat} {μ : Mt} {pc : Nat} {L S : List Value} {sh : List Sh} {mi : MI} {mr : MR} {cb sb : Nat} {Q : QT} {idx : Nat} {v : Int32} (hd : decode μ.2.1 pc = .ok (.ldc_w idx, 3)) (hw : Cond.constant μ.1.cls idx v ∈ lw_tbl) (k : WP d μ (pc + 3) L (.int v :: S) sh mi mr cb sb Q) : WP d μ (pc) L (S) sh mi mr cb sb Q := by
  intro l E p e s m args below meth c H locs cells slots mc ms ls hC hT hG hφ hS hA hz hP hl hc hs
  have hC0 := hC
  obtain ⟨hx, hb, hr, hml, hown, hlk, hnm⟩ := hC
  exact lv_ldcw hx hb hown (hT.2.1.use hw rfl) hd (k l E p e s m args below meth c H locs cells slots mc ms ls hC0 hT hG hφ hS hA hz hP hl hc hs)
theorem r_ldc2 {d : Nat} {μ : Mt} {pc : Nat} {L S : List Value} {sh : List Sh} {mi : MI} {mr : MR} {cb sb : Nat} {Q : QT} {idx : Nat} {v : Int64} (hd : decode μ.2.1 pc = .ok (.ldc2_w idx, 3)) (hw : Cond.constantLong μ.1.cls idx v ∈ lw_tbl) (k : WP d μ (pc + 3) L (.long v :: S) sh mi mr cb sb Q) : WP d μ (pc) L (S) sh mi mr cb sb Q := by
  intro l E p e s m args below meth c H locs cells slots mc ms ls hC hT hG hφ hS hA hz hP hl hc hs
  have hC0 := hC
  obtain ⟨hx, hb, hr, hml, hown, hlk, hnm⟩ := hC
  exact lv_ldc2 hx hb hown (hT.2.1.use hw rfl) hd (k l E p e s m args below meth c H locs cells slots mc ms ls hC0 hT hG hφ hS hA hz hP hl hc hs)
theorem r_null {d : Nat} {μ : Mt} {pc : Nat} {L S : List Value} {sh : List Sh} {mi : MI} {mr : MR} {cb sb : Nat} {Q : QT}  (hd : decode μ.2.1 pc = .ok (.aconst_null, 1)) (k : WP d μ (pc + 1) L (.null :: S) sh mi mr cb sb Q) : WP d μ (pc) L (S) sh mi mr cb sb Q := by
  intro l E p e s m args below meth c H locs cells slots mc ms ls hC hT hG hφ hS hA hz hP hl hc hs
  have hC0 := hC
  obtain ⟨hx, hb, hr, hml, hown, hlk, hnm⟩ := hC
  exact lv_null hx hb hd (k l E p e s m args below meth c H locs cells slots mc ms ls hC0 hT hG hφ hS hA hz hP hl hc hs)
theorem r_ldcS {d : Nat} {μ : Mt} {pc : Nat} {L S : List Value} {sh : List Sh} {mi : MI} {mr : MR} {cb sb : Nat} {Q : QT} {idx i : Nat} (hd : decode μ.2.1 pc = .ok (.ldc idx, 2)) (ho : μ.1.cls = RX5) (hi : i < 6) (hw : (ssI.getD i (0, "")).1 = idx) (k : WP d μ (pc + 2) L (.float (UInt32.ofNat (2 * i)) :: S) sh mi mr cb sb Q) : WP d μ (pc) L (S) sh mi mr cb sb Q := by
  intro l E p e s m args below meth c H locs cells slots mc ms ls hC hT hG hφ hS hA hz hP hl hc hs
  have hC0 := hC
  obtain ⟨hx, hb, hr, hml, hown, hlk, hnm⟩ := hC
  have h1 := hT.2.2.1 i hi
  rw [hw] at h1
  rw [ho] at hown
  exact va_ldcS hx hb hown h1 hd (k l E p e s m args below meth c H locs cells slots mc ms ls hC0 hT hG hφ hS hA hz hP hl hc hs)
theorem r_iload_n {d : Nat} {μ : Mt} {pc : Nat} {L S : List Value} {sh : List Sh} {mi : MI} {mr : MR} {cb sb : Nat} {Q : QT} {j : Fin 4} {i : Nat} {x : Int32} (hd : decode μ.2.1 pc = .ok (.iload_n j, 1)) (hi : (j : Nat) = i) (h : L[i]? = some (.int x)) (k : WP d μ (pc + 1) L (.int x :: S) sh mi mr cb sb Q) : WP d μ (pc) L (S) sh mi mr cb sb Q := by
  intro l E p e s m args below meth c H locs cells slots mc ms ls hC hT hG hφ hS hA hz hP hl hc hs
  have hC0 := hC
  obtain ⟨hx, hb, hr, hml, hown, hlk, hnm⟩ := hC
  exact lv_iload_n hx hb hd hi (hl.2.2 i _ h (fun q => by cases q)) (k l E p e s m args below meth c H locs cells slots mc ms ls hC0 hT hG hφ hS hA hz hP hl hc hs)
theorem r_iload {d : Nat} {μ : Mt} {pc : Nat} {L S : List Value} {sh : List Sh} {mi : MI} {mr : MR} {cb sb : Nat} {Q : QT} {i : Nat} {x : Int32} (hd : decode μ.2.1 pc = .ok (.iload i, 2)) (h : L[i]? = some (.int x)) (k : WP d μ (pc + 2) L (.int x :: S) sh mi mr cb sb Q) : WP d μ (pc) L (S) sh mi mr cb sb Q := by
  intro l E p e s m args below meth c H locs cells slots mc ms ls hC hT hG hφ hS hA hz hP hl hc hs
  have hC0 := hC
  obtain ⟨hx, hb, hr, hml, hown, hlk, hnm⟩ := hC
  exact lv_iload hx hb hd (hl.2.2 i _ h (fun q => by cases q)) (k l E p e s m args below meth c H locs cells slots mc ms ls hC0 hT hG hφ hS hA hz hP hl hc hs)
theorem r_lload_n {d : Nat} {μ : Mt} {pc : Nat} {L S : List Value} {sh : List Sh} {mi : MI} {mr : MR} {cb sb : Nat} {Q : QT} {j : Fin 4} {i : Nat} {x : Int64} (hd : decode μ.2.1 pc = .ok (.lload_n j, 1)) (hi : (j : Nat) = i) (h : L[i]? = some (.long x)) (k : WP d μ (pc + 1) L (.long x :: S) sh mi mr cb sb Q) : WP d μ (pc) L (S) sh mi mr cb sb Q := by
  intro l E p e s m args below meth c H locs cells slots mc ms ls hC hT hG hφ hS hA hz hP hl hc hs
  have hC0 := hC
  obtain ⟨hx, hb, hr, hml, hown, hlk, hnm⟩ := hC
  exact lv_lload_n hx hb hd hi (hl.2.2 i _ h (fun q => by cases q)) (k l E p e s m args below meth c H locs cells slots mc ms ls hC0 hT hG hφ hS hA hz hP hl hc hs)
theorem r_lload {d : Nat} {μ : Mt} {pc : Nat} {L S : List Value} {sh : List Sh} {mi : MI} {mr : MR} {cb sb : Nat} {Q : QT} {i : Nat} {x : Int64} (hd : decode μ.2.1 pc = .ok (.lload i, 2)) (h : L[i]? = some (.long x)) (k : WP d μ (pc + 2) L (.long x :: S) sh mi mr cb sb Q) : WP d μ (pc) L (S) sh mi mr cb sb Q := by
  intro l E p e s m args below meth c H locs cells slots mc ms ls hC hT hG hφ hS hA hz hP hl hc hs
  have hC0 := hC
  obtain ⟨hx, hb, hr, hml, hown, hlk, hnm⟩ := hC
  exact lv_lload hx hb hd (hl.2.2 i _ h (fun q => by cases q)) (k l E p e s m args below meth c H locs cells slots mc ms ls hC0 hT hG hφ hS hA hz hP hl hc hs)
theorem r_aload_n {d : Nat} {μ : Mt} {pc : Nat} {L S : List Value} {sh : List Sh} {mi : MI} {mr : MR} {cb sb : Nat} {Q : QT} {j : Fin 4} {i : Nat} {v : Value} (hd : decode μ.2.1 pc = .ok (.aload_n j, 1)) (hi : (j : Nat) = i) (h : L[i]? = some v) (hv : isR v = true) (k : WP d μ (pc + 1) L (v :: S) sh mi mr cb sb Q) : WP d μ (pc) L (S) sh mi mr cb sb Q := by
  intro l E p e s m args below meth c H locs cells slots mc ms ls hC hT hG hφ hS hA hz hP hl hc hs
  have hC0 := hC
  obtain ⟨hx, hb, hr, hml, hown, hlk, hnm⟩ := hC
  have h1 := fun q => hl.2.2 i v h q
  have kk := k l E p e s m args below meth c H locs cells slots mc ms ls hC0 hT hG hφ hS hA hz hP hl hc hs
  cases v with
  | ref x => exact lv_aload_n hx hb hd hi (h1 (fun q => by cases q)) kk
  | null => exact lv_aload_nN hx hb hd hi (h1 (fun q => by cases q)) kk
  | float u => exact lv_aload_n hx hb hd hi (h1 (fun q => by cases q)) kk
  | retAddr r =>
    have h2 := h1 (fun q => by cases q)
    have kk : W p l e (room d mc ms) s m args below meth c H locs cells slots (MQ below (Qc_ E Q) args s mc ms (rng E)) (F0 m (pc + 1) ls (E.2.2.2.1 :: S.map (vv E))) := kk
    have h2 : ls[i]? = some (.val E.2.2.2.1) := h2
    rcases hT.2.2.2.2 with h3 | ⟨t, h3⟩
    · rw [h3] at h2 kk
      exact lv_aload_nN hx hb hd hi h2 kk
    · rw [h3] at h2 kk
      exact lv_aload_n hx hb hd hi h2 kk
  | _ => simp [isR] at hv
theorem r_aload {d : Nat} {μ : Mt} {pc : Nat} {L S : List Value} {sh : List Sh} {mi : MI} {mr : MR} {cb sb : Nat} {Q : QT} {i : Nat} {v : Value} (hd : decode μ.2.1 pc = .ok (.aload i, 2)) (h : L[i]? = some v) (hv : isR v = true) (k : WP d μ (pc + 2) L (v :: S) sh mi mr cb sb Q) : WP d μ (pc) L (S) sh mi mr cb sb Q := by
  intro l E p e s m args below meth c H locs cells slots mc ms ls hC hT hG hφ hS hA hz hP hl hc hs
  have hC0 := hC
  obtain ⟨hx, hb, hr, hml, hown, hlk, hnm⟩ := hC
  have h1 := fun q => hl.2.2 i v h q
  have kk := k l E p e s m args below meth c H locs cells slots mc ms ls hC0 hT hG hφ hS hA hz hP hl hc hs
  cases v with
  | ref x => exact lv_aload hx hb hd (h1 (fun q => by cases q)) kk
  | null => exact lv_aloadN hx hb hd (h1 (fun q => by cases q)) kk
  | float u => exact lv_aload hx hb hd (h1 (fun q => by cases q)) kk
  | retAddr r =>
    have h2 := h1 (fun q => by cases q)
    have kk : W p l e (room d mc ms) s m args below meth c H locs cells slots (MQ below (Qc_ E Q) args s mc ms (rng E)) (F0 m (pc + 2) ls (E.2.2.2.1 :: S.map (vv E))) := kk
    have h2 : ls[i]? = some (.val E.2.2.2.1) := h2
    rcases hT.2.2.2.2 with h3 | ⟨t, h3⟩
    · rw [h3] at h2 kk
      exact lv_aloadN hx hb hd h2 kk
    · rw [h3] at h2 kk
      exact lv_aload hx hb hd h2 kk
  | _ => simp [isR] at hv
theorem r_istore_n {d : Nat} {μ : Mt} {pc : Nat} {L S : List Value} {sh : List Sh} {mi : MI} {mr : MR} {cb sb : Nat} {Q : QT} {j : Fin 4} {i : Nat} {x : Int32} (hd : decode μ.2.1 pc = .ok (.istore_n j, 1)) (hi : (j : Nat) = i) (hn : i < L.length) (hq : L.length ≤ μ.2.2.1) (hcat : L.all catL = true) (k : WP d μ (pc + 1) (L.set i (.int x)) (S) sh mi mr cb sb Q) : WP d μ (pc) L (.int x :: S) sh mi mr cb sb Q := by
  intro l E p e s m args below meth c H locs cells slots mc ms ls hC hT hG hφ hS hA hz hP hl hc hs
  have hC0 := hC
  obtain ⟨hx, hb, hr, hml, hown, hlk, hnm⟩ := hC
  exact lv_istore_n hx hb hd hi (hasL_pr hl) (Nat.lt_of_lt_of_le hn hq) rfl (fun ls2 h2 => k l E p e s m args below meth c H locs cells slots mc ms ls2 hC0 hT hG hφ hS hA hz hP (hasL_set hT hl hcat hn rfl h2) hc hs)
theorem r_istore {d : Nat} {μ : Mt} {pc : Nat} {L S : List Value} {sh : List Sh} {mi : MI} {mr : MR} {cb sb : Nat} {Q : QT} {i : Nat} {x : Int32} (hd : decode μ.2.1 pc = .ok (.istore i, 2)) (hn : i < L.length) (hq : L.length ≤ μ.2.2.1) (hcat : L.all catL = true) (k : WP d μ (pc + 2) (L.set i (.int x)) (S) sh mi mr cb sb Q) : WP d μ (pc) L (.int x :: S) sh mi mr cb sb Q := by
  intro l E p e s m args below meth c H locs cells slots mc ms ls hC hT hG hφ hS hA hz hP hl hc hs
  have hC0 := hC
  obtain ⟨hx, hb, hr, hml, hown, hlk, hnm⟩ := hC
  exact lv_istore hx hb hd (hasL_pr hl) (Nat.lt_of_lt_of_le hn hq) rfl (fun ls2 h2 => k l E p e s m args below meth c H locs cells slots mc ms ls2 hC0 hT hG hφ hS hA hz hP (hasL_set hT hl hcat hn rfl h2) hc hs)
theorem r_astore_n {d : Nat} {μ : Mt} {pc : Nat} {L S : List Value} {sh : List Sh} {mi : MI} {mr : MR} {cb sb : Nat} {Q : QT} {j : Fin 4} {i : Nat} {x : Nat} (hd : decode μ.2.1 pc = .ok (.astore_n j, 1)) (hi : (j : Nat) = i) (hn : i < L.length) (hq : L.length ≤ μ.2.2.1) (hcat : L.all catL = true) (k : WP d μ (pc + 1) (L.set i (.ref x)) (S) sh mi mr cb sb Q) : WP d μ (pc) L (.ref x :: S) sh mi mr cb sb Q := by
  intro l E p e s m args below meth c H locs cells slots mc ms ls hC hT hG hφ hS hA hz hP hl hc hs
  have hC0 := hC
  obtain ⟨hx, hb, hr, hml, hown, hlk, hnm⟩ := hC
  exact lv_astore_n hx hb hd hi (hasL_pr hl) (Nat.lt_of_lt_of_le hn hq) rfl (fun ls2 h2 => k l E p e s m args below meth c H locs cells slots mc ms ls2 hC0 hT hG hφ hS hA hz hP (hasL_set hT hl hcat hn rfl h2) hc hs)
theorem r_astore {d : Nat} {μ : Mt} {pc : Nat} {L S : List Value} {sh : List Sh} {mi : MI} {mr : MR} {cb sb : Nat} {Q : QT} {i : Nat} {x : Nat} (hd : decode μ.2.1 pc = .ok (.astore i, 2)) (hn : i < L.length) (hq : L.length ≤ μ.2.2.1) (hcat : L.all catL = true) (k : WP d μ (pc + 2) (L.set i (.ref x)) (S) sh mi mr cb sb Q) : WP d μ (pc) L (.ref x :: S) sh mi mr cb sb Q := by
  intro l E p e s m args below meth c H locs cells slots mc ms ls hC hT hG hφ hS hA hz hP hl hc hs
  have hC0 := hC
  obtain ⟨hx, hb, hr, hml, hown, hlk, hnm⟩ := hC
  exact lv_astore hx hb hd (hasL_pr hl) (Nat.lt_of_lt_of_le hn hq) rfl (fun ls2 h2 => k l E p e s m args below meth c H locs cells slots mc ms ls2 hC0 hT hG hφ hS hA hz hP (hasL_set hT hl hcat hn rfl h2) hc hs)
theorem r_astore_nN {d : Nat} {μ : Mt} {pc : Nat} {L S : List Value} {sh : List Sh} {mi : MI} {mr : MR} {cb sb : Nat} {Q : QT} {j : Fin 4} {i : Nat} (hd : decode μ.2.1 pc = .ok (.astore_n j, 1)) (hi : (j : Nat) = i) (hn : i < L.length) (hq : L.length ≤ μ.2.2.1) (hcat : L.all catL = true) (k : WP d μ (pc + 1) (L.set i (.null)) (S) sh mi mr cb sb Q) : WP d μ (pc) L (.null :: S) sh mi mr cb sb Q := by
  intro l E p e s m args below meth c H locs cells slots mc ms ls hC hT hG hφ hS hA hz hP hl hc hs
  have hC0 := hC
  obtain ⟨hx, hb, hr, hml, hown, hlk, hnm⟩ := hC
  exact lv_astore_nN hx hb hd hi (hasL_pr hl) (Nat.lt_of_lt_of_le hn hq) rfl (fun ls2 h2 => k l E p e s m args below meth c H locs cells slots mc ms ls2 hC0 hT hG hφ hS hA hz hP (hasL_set hT hl hcat hn rfl h2) hc hs)
theorem r_astoreN {d : Nat} {μ : Mt} {pc : Nat} {L S : List Value} {sh : List Sh} {mi : MI} {mr : MR} {cb sb : Nat} {Q : QT} {i : Nat} (hd : decode μ.2.1 pc = .ok (.astore i, 2)) (hn : i < L.length) (hq : L.length ≤ μ.2.2.1) (hcat : L.all catL = true) (k : WP d μ (pc + 2) (L.set i (.null)) (S) sh mi mr cb sb Q) : WP d μ (pc) L (.null :: S) sh mi mr cb sb Q := by
  intro l E p e s m args below meth c H locs cells slots mc ms ls hC hT hG hφ hS hA hz hP hl hc hs
  have hC0 := hC
  obtain ⟨hx, hb, hr, hml, hown, hlk, hnm⟩ := hC
  exact lv_astoreN hx hb hd (hasL_pr hl) (Nat.lt_of_lt_of_le hn hq) rfl (fun ls2 h2 => k l E p e s m args below meth c H locs cells slots mc ms ls2 hC0 hT hG hφ hS hA hz hP (hasL_set hT hl hcat hn rfl h2) hc hs)
theorem r_iinc {d : Nat} {μ : Mt} {pc : Nat} {L S : List Value} {sh : List Sh} {mi : MI} {mr : MR} {cb sb : Nat} {Q : QT} {i : Nat} {n : Int} {x v : Int32} (hd : decode μ.2.1 pc = .ok (.iinc i n, 3)) (h : L[i]? = some (.int x)) (hv : x + Int32.ofInt n = v) (hq : L.length ≤ μ.2.2.1) (hcat : L.all catL = true) (k : WP d μ (pc + 3) (L.set i (.int v)) (S) sh mi mr cb sb Q) : WP d μ (pc) L (S) sh mi mr cb sb Q := by
  intro l E p e s m args below meth c H locs cells slots mc ms ls hC hT hG hφ hS hA hz hP hl hc hs
  have hC0 := hC
  obtain ⟨hx, hb, hr, hml, hown, hlk, hnm⟩ := hC
  have hn : i < L.length := (List.getElem?_eq_some_iff.mp h).1
  obtain ⟨kx, hkx⟩ := List.getElem?_of_mem (pr_mem (vv E) h (fun q => by cases q))
  exact lv_iinc hx hb hd (hasL_pr hl) (k := kx) hkx hv (Nat.lt_of_lt_of_le hn hq) rfl (fun ls2 h2 => k l E p e s m args below meth c H locs cells slots mc ms ls2 hC0 hT hG hφ hS hA hz hP (hasL_set hT hl hcat hn rfl h2) hc hs)
theorem r_iadd {d : Nat} {μ : Mt} {pc : Nat} {L S : List Value} {sh : List Sh} {mi : MI} {mr : MR} {cb sb : Nat} {Q : QT} {x y : Int32} (hd : decode μ.2.1 pc = .ok (.iadd, 1)) (k : WP d μ (pc + 1) L (.int (x + y) :: S) sh mi mr cb sb Q) : WP d μ (pc) L (.int y :: .int x :: S) sh mi mr cb sb Q := by
  intro l E p e s m args below meth c H locs cells slots mc ms ls hC hT hG hφ hS hA hz hP hl hc hs
  have hC0 := hC
  obtain ⟨hx, hb, hr, hml, hown, hlk, hnm⟩ := hC
  exact lv_iadd hx hb hd (k l E p e s m args below meth c H locs cells slots mc ms ls hC0 hT hG hφ hS hA hz hP hl hc hs)
theorem r_isub {d : Nat} {μ : Mt} {pc : Nat} {L S : List Value} {sh : List Sh} {mi : MI} {mr : MR} {cb sb : Nat} {Q : QT} {x y : Int32} (hd : decode μ.2.1 pc = .ok (.isub, 1)) (k : WP d μ (pc + 1) L (.int (x - y) :: S) sh mi mr cb sb Q) : WP d μ (pc) L (.int y :: .int x :: S) sh mi mr cb sb Q := by
  intro l E p e s m args below meth c H locs cells slots mc ms ls hC hT hG hφ hS hA hz hP hl hc hs
  have hC0 := hC
  obtain ⟨hx, hb, hr, hml, hown, hlk, hnm⟩ := hC
  exact lv_isub hx hb hd (k l E p e s m args below meth c H locs cells slots mc ms ls hC0 hT hG hφ hS hA hz hP hl hc hs)
theorem r_imul {d : Nat} {μ : Mt} {pc : Nat} {L S : List Value} {sh : List Sh} {mi : MI} {mr : MR} {cb sb : Nat} {Q : QT} {x y : Int32} (hd : decode μ.2.1 pc = .ok (.imul, 1)) (k : WP d μ (pc + 1) L (.int (x * y) :: S) sh mi mr cb sb Q) : WP d μ (pc) L (.int y :: .int x :: S) sh mi mr cb sb Q := by
  intro l E p e s m args below meth c H locs cells slots mc ms ls hC hT hG hφ hS hA hz hP hl hc hs
  have hC0 := hC
  obtain ⟨hx, hb, hr, hml, hown, hlk, hnm⟩ := hC
  exact lv_imul hx hb hd (k l E p e s m args below meth c H locs cells slots mc ms ls hC0 hT hG hφ hS hA hz hP hl hc hs)
theorem r_iand {d : Nat} {μ : Mt} {pc : Nat} {L S : List Value} {sh : List Sh} {mi : MI} {mr : MR} {cb sb : Nat} {Q : QT} {x y : Int32} (hd : decode μ.2.1 pc = .ok (.iand, 1)) (k : WP d μ (pc + 1) L (.int (x &&& y) :: S) sh mi mr cb sb Q) : WP d μ (pc) L (.int y :: .int x :: S) sh mi mr cb sb Q := by
  intro l E p e s m args below meth c H locs cells slots mc ms ls hC hT hG hφ hS hA hz hP hl hc hs
  have hC0 := hC
  obtain ⟨hx, hb, hr, hml, hown, hlk, hnm⟩ := hC
  exact lv_iand hx hb hd (k l E p e s m args below meth c H locs cells slots mc ms ls hC0 hT hG hφ hS hA hz hP hl hc hs)
theorem r_ior {d : Nat} {μ : Mt} {pc : Nat} {L S : List Value} {sh : List Sh} {mi : MI} {mr : MR} {cb sb : Nat} {Q : QT} {x y : Int32} (hd : decode μ.2.1 pc = .ok (.ior, 1)) (k : WP d μ (pc + 1) L (.int (x ||| y) :: S) sh mi mr cb sb Q) : WP d μ (pc) L (.int y :: .int x :: S) sh mi mr cb sb Q := by
  intro l E p e s m args below meth c H locs cells slots mc ms ls hC hT hG hφ hS hA hz hP hl hc hs
  have hC0 := hC
  obtain ⟨hx, hb, hr, hml, hown, hlk, hnm⟩ := hC
  exact lv_ior hx hb hd (k l E p e s m args below meth c H locs cells slots mc ms ls hC0 hT hG hφ hS hA hz hP hl hc hs)
theorem r_ixor {d : Nat} {μ : Mt} {pc : Nat} {L S : List Value} {sh : List Sh} {mi : MI} {mr : MR} {cb sb : Nat} {Q : QT} {x y : Int32} (hd : decode μ.2.1 pc = .ok (.ixor, 1)) (k : WP d μ (pc + 1) L (.int (x ^^^ y) :: S) sh mi mr cb sb Q) : WP d μ (pc) L (.int y :: .int x :: S) sh mi mr cb sb Q := by
  intro l E p e s m args below meth c H locs cells slots mc ms ls hC hT hG hφ hS hA hz hP hl hc hs
  have hC0 := hC
  obtain ⟨hx, hb, hr, hml, hown, hlk, hnm⟩ := hC
  exact lv_ixor hx hb hd (k l E p e s m args below meth c H locs cells slots mc ms ls hC0 hT hG hφ hS hA hz hP hl hc hs)
theorem r_ishl {d : Nat} {μ : Mt} {pc : Nat} {L S : List Value} {sh : List Sh} {mi : MI} {mr : MR} {cb sb : Nat} {Q : QT} {x y : Int32} (hd : decode μ.2.1 pc = .ok (.ishl, 1)) (k : WP d μ (pc + 1) L (.int (x <<< (y &&& 31)) :: S) sh mi mr cb sb Q) : WP d μ (pc) L (.int y :: .int x :: S) sh mi mr cb sb Q := by
  intro l E p e s m args below meth c H locs cells slots mc ms ls hC hT hG hφ hS hA hz hP hl hc hs
  have hC0 := hC
  obtain ⟨hx, hb, hr, hml, hown, hlk, hnm⟩ := hC
  exact lv_ishl hx hb hd (k l E p e s m args below meth c H locs cells slots mc ms ls hC0 hT hG hφ hS hA hz hP hl hc hs)
theorem r_ishr {d : Nat} {μ : Mt} {pc : Nat} {L S : List Value} {sh : List Sh} {mi : MI} {mr : MR} {cb sb : Nat} {Q : QT} {x y : Int32} (hd : decode μ.2.1 pc = .ok (.ishr, 1)) (k : WP d μ (pc + 1) L (.int (x >>> (y &&& 31)) :: S) sh mi mr cb sb Q) : WP d μ (pc) L (.int y :: .int x :: S) sh mi mr cb sb Q := by
  intro l E p e s m args below meth c H locs cells slots mc ms ls hC hT hG hφ hS hA hz hP hl hc hs
  have hC0 := hC
  obtain ⟨hx, hb, hr, hml, hown, hlk, hnm⟩ := hC
  exact lv_ishr hx hb hd (k l E p e s m args below meth c H locs cells slots mc ms ls hC0 hT hG hφ hS hA hz hP hl hc hs)
theorem r_idiv {d : Nat} {μ : Mt} {pc : Nat} {L S : List Value} {sh : List Sh} {mi : MI} {mr : MR} {cb sb : Nat} {Q : QT} {x y : Int32} (hd : decode μ.2.1 pc = .ok (.idiv, 1)) (hy : ¬ y = 0) (k : WP d μ (pc + 1) L (.int (x / y) :: S) sh mi mr cb sb Q) : WP d μ (pc) L (.int y :: .int x :: S) sh mi mr cb sb Q := by
  intro l E p e s m args below meth c H locs cells slots mc ms ls hC hT hG hφ hS hA hz hP hl hc hs
  have hC0 := hC
  obtain ⟨hx, hb, hr, hml, hown, hlk, hnm⟩ := hC
  exact lv_idiv hx hb hd hy (k l E p e s m args below meth c H locs cells slots mc ms ls hC0 hT hG hφ hS hA hz hP hl hc hs)
theorem r_irem {d : Nat} {μ : Mt} {pc : Nat} {L S : List Value} {sh : List Sh} {mi : MI} {mr : MR} {cb sb : Nat} {Q : QT} {x y : Int32} (hd : decode μ.2.1 pc = .ok (.irem, 1)) (hy : ¬ y = 0) (k : WP d μ (pc + 1) L (.int (x - x / y * y) :: S) sh mi mr cb sb Q) : WP d μ (pc) L (.int y :: .int x :: S) sh mi mr cb sb Q := by
  intro l E p e s m args below meth c H locs cells slots mc ms ls hC hT hG hφ hS hA hz hP hl hc hs
  have hC0 := hC
  obtain ⟨hx, hb, hr, hml, hown, hlk, hnm⟩ := hC
  exact lv_irem hx hb hd hy (k l E p e s m args below meth c H locs cells slots mc ms ls hC0 hT hG hφ hS hA hz hP hl hc hs)
theorem r_ineg {d : Nat} {μ : Mt} {pc : Nat} {L S : List Value} {sh : List Sh} {mi : MI} {mr : MR} {cb sb : Nat} {Q : QT} {x : Int32} (hd : decode μ.2.1 pc = .ok (.ineg, 1)) (k : WP d μ (pc + 1) L (.int (-x) :: S) sh mi mr cb sb Q) : WP d μ (pc) L (.int x :: S) sh mi mr cb sb Q := by
  intro l E p e s m args below meth c H locs cells slots mc ms ls hC hT hG hφ hS hA hz hP hl hc hs
  have hC0 := hC
  obtain ⟨hx, hb, hr, hml, hown, hlk, hnm⟩ := hC
  exact lv_ineg hx hb hd (k l E p e s m args below meth c H locs cells slots mc ms ls hC0 hT hG hφ hS hA hz hP hl hc hs)
theorem r_iushr {d : Nat} {μ : Mt} {pc : Nat} {L S : List Value} {sh : List Sh} {mi : MI} {mr : MR} {cb sb : Nat} {Q : QT} {x y : Int32} (hd : decode μ.2.1 pc = .ok (.iushr, 1)) (k : WP d μ (pc + 1) L (.int ((x.toUInt32 >>> (y.toUInt32 &&& Int32.toUInt32 31)).toInt32) :: S) sh mi mr cb sb Q) : WP d μ (pc) L (.int y :: .int x :: S) sh mi mr cb sb Q := by
  intro l E p e s m args below meth c H locs cells slots mc ms ls hC hT hG hφ hS hA hz hP hl hc hs
  have hC0 := hC
  obtain ⟨hx, hb, hr, hml, hown, hlk, hnm⟩ := hC
  exact lv_iushr hx hb hd rfl (k l E p e s m args below meth c H locs cells slots mc ms ls hC0 hT hG hφ hS hA hz hP hl hc hs)
theorem r_ladd {d : Nat} {μ : Mt} {pc : Nat} {L S : List Value} {sh : List Sh} {mi : MI} {mr : MR} {cb sb : Nat} {Q : QT} {x y : Int64} (hd : decode μ.2.1 pc = .ok (.ladd, 1)) (k : WP d μ (pc + 1) L (.long (x + y) :: S) sh mi mr cb sb Q) : WP d μ (pc) L (.long y :: .long x :: S) sh mi mr cb sb Q := by
  intro l E p e s m args below meth c H locs cells slots mc ms ls hC hT hG hφ hS hA hz hP hl hc hs
  have hC0 := hC
  obtain ⟨hx, hb, hr, hml, hown, hlk, hnm⟩ := hC
  exact lv_ladd hx hb hd (k l E p e s m args below meth c H locs cells slots mc ms ls hC0 hT hG hφ hS hA hz hP hl hc hs)
theorem r_lcmp {d : Nat} {μ : Mt} {pc : Nat} {L S : List Value} {sh : List Sh} {mi : MI} {mr : MR} {cb sb : Nat} {Q : QT} {x y : Int64} (hd : decode μ.2.1 pc = .ok (.lcmp, 1)) (k : WP d μ (pc + 1) L (.int (lg_cmp x y) :: S) sh mi mr cb sb Q) : WP d μ (pc) L (.long y :: .long x :: S) sh mi mr cb sb Q := by
  intro l E p e s m args below meth c H locs cells slots mc ms ls hC hT hG hφ hS hA hz hP hl hc hs
  have hC0 := hC
  obtain ⟨hx, hb, hr, hml, hown, hlk, hnm⟩ := hC
  exact W.lcmp hx hb hd (k l E p e s m args below meth c H locs cells slots mc ms ls hC0 hT hG hφ hS hA hz hP hl hc hs)
theorem r_i2l {d : Nat} {μ : Mt} {pc : Nat} {L S : List Value} {sh : List Sh} {mi : MI} {mr : MR} {cb sb : Nat} {Q : QT} {x : Int32} (hd : decode μ.2.1 pc = .ok (.i2l, 1)) (k : WP d μ (pc + 1) L (.long x.toInt64 :: S) sh mi mr cb sb Q) : WP d μ (pc) L (.int x :: S) sh mi mr cb sb Q := by
  intro l E p e s m args below meth c H locs cells slots mc ms ls hC hT hG hφ hS hA hz hP hl hc hs
  have hC0 := hC
  obtain ⟨hx, hb, hr, hml, hown, hlk, hnm⟩ := hC
  exact lv_i2l hx hb hd rfl (k l E p e s m args below meth c H locs cells slots mc ms ls hC0 hT hG hφ hS hA hz hP hl hc hs)
theorem r_i2b {d : Nat} {μ : Mt} {pc : Nat} {L S : List Value} {sh : List Sh} {mi : MI} {mr : MR} {cb sb : Nat} {Q : QT} {x : Int32} (hd : decode μ.2.1 pc = .ok (.i2b, 1)) (k : WP d μ (pc + 1) L (.int x.toInt8.toInt32 :: S) sh mi mr cb sb Q) : WP d μ (pc) L (.int x :: S) sh mi mr cb sb Q := by
  intro l E p e s m args below meth c H locs cells slots mc ms ls hC hT hG hφ hS hA hz hP hl hc hs
  have hC0 := hC
  obtain ⟨hx, hb, hr, hml, hown, hlk, hnm⟩ := hC
  exact lv_i2b hx hb hd rfl (k l E p e s m args below meth c H locs cells slots mc ms ls hC0 hT hG hφ hS hA hz hP hl hc hs)
theorem r_i2s {d : Nat} {μ : Mt} {pc : Nat} {L S : List Value} {sh : List Sh} {mi : MI} {mr : MR} {cb sb : Nat} {Q : QT} {x : Int32} (hd : decode μ.2.1 pc = .ok (.i2s, 1)) (k : WP d μ (pc + 1) L (.int x.toInt16.toInt32 :: S) sh mi mr cb sb Q) : WP d μ (pc) L (.int x :: S) sh mi mr cb sb Q := by
  intro l E p e s m args below meth c H locs cells slots mc ms ls hC hT hG hφ hS hA hz hP hl hc hs
  have hC0 := hC
  obtain ⟨hx, hb, hr, hml, hown, hlk, hnm⟩ := hC
  exact lv_i2s hx hb hd rfl (k l E p e s m args below meth c H locs cells slots mc ms ls hC0 hT hG hφ hS hA hz hP hl hc hs)
theorem r_i2c {d : Nat} {μ : Mt} {pc : Nat} {L S : List Value} {sh : List Sh} {mi : MI} {mr : MR} {cb sb : Nat} {Q : QT} {x : Int32} (hd : decode μ.2.1 pc = .ok (.i2c, 1)) (k : WP d μ (pc + 1) L (.int (x.toUInt32 % 65536).toInt32 :: S) sh mi mr cb sb Q) : WP d μ (pc) L (.int x :: S) sh mi mr cb sb Q := by
  intro l E p e s m args below meth c H locs cells slots mc ms ls hC hT hG hφ hS hA hz hP hl hc hs
  have hC0 := hC
  obtain ⟨hx, hb, hr, hml, hown, hlk, hnm⟩ := hC
  exact lv_i2c hx hb hd rfl (k l E p e s m args below meth c H locs cells slots mc ms ls hC0 hT hG hφ hS hA hz hP hl hc hs)
theorem r_dup {d : Nat} {μ : Mt} {pc : Nat} {L S : List Value} {sh : List Sh} {mi : MI} {mr : MR} {cb sb : Nat} {Q : QT} {v : Value} (hd : decode μ.2.1 pc = .ok (.dup, 1)) (hv : c1 v = true) (k : WP d μ (pc + 1) L (v :: v :: S) sh mi mr cb sb Q) : WP d μ (pc) L (v :: S) sh mi mr cb sb Q := by
  intro l E p e s m args below meth c H locs cells slots mc ms ls hC hT hG hφ hS hA hz hP hl hc hs
  have hC0 := hC
  obtain ⟨hx, hb, hr, hml, hown, hlk, hnm⟩ := hC
  exact lv_dup hx hb hd (vv_cat hT hv) (k l E p e s m args below meth c H locs cells slots mc ms ls hC0 hT hG hφ hS hA hz hP hl hc hs)
theorem r_dup2 {d : Nat} {μ : Mt} {pc : Nat} {L S : List Value} {sh : List Sh} {mi : MI} {mr : MR} {cb sb : Nat} {Q : QT} {v w : Value} (hd : decode μ.2.1 pc = .ok (.dup2, 1)) (hv : c1 v = true) (hw : c1 w = true) (k : WP d μ (pc + 1) L (v :: w :: v :: w :: S) sh mi mr cb sb Q) : WP d μ (pc) L (v :: w :: S) sh mi mr cb sb Q := by
  intro l E p e s m args below meth c H locs cells slots mc ms ls hC hT hG hφ hS hA hz hP hl hc hs
  have hC0 := hC
  obtain ⟨hx, hb, hr, hml, hown, hlk, hnm⟩ := hC
  exact lv_dup2_11 hx hb hd (vv_cat hT hv) (vv_cat hT hw) (k l E p e s m args below meth c H locs cells slots mc ms ls hC0 hT hG hφ hS hA hz hP hl hc hs)
theorem r_pop {d : Nat} {μ : Mt} {pc : Nat} {L S : List Value} {sh : List Sh} {mi : MI} {mr : MR} {cb sb : Nat} {Q : QT} {v : Value} (hd : decode μ.2.1 pc = .ok (.pop, 1)) (hv : c1 v = true) (k : WP d μ (pc + 1) L (S) sh mi mr cb sb Q) : WP d μ (pc) L (v :: S) sh mi mr cb sb Q := by
  intro l E p e s m args below meth c H locs cells slots mc ms ls hC hT hG hφ hS hA hz hP hl hc hs
  have hC0 := hC
  obtain ⟨hx, hb, hr, hml, hown, hlk, hnm⟩ := hC
  exact lv_pop hx hb hd (vv_cat hT hv) (k l E p e s m args below meth c H locs cells slots mc ms ls hC0 hT hG hφ hS hA hz hP hl hc hs)
theorem r_if_eq {d : Nat} {μ : Mt} {pc : Nat} {L S : List Value} {sh : List Sh} {mi : MI} {mr : MR} {cb sb : Nat} {Q : QT} {x : Int32} {off : Int} {tgt : Nat} (hd : decode μ.2.1 pc = .ok (.ifCond .eq off, 3)) (ht : (pc : Int) + off = (tgt : Int)) (kt : (x = 0) → WP d μ (tgt) L (S) sh mi mr cb sb Q) (kf : ¬ (x = 0) → WP d μ (pc + 3) L (S) sh mi mr cb sb Q) : WP d μ (pc) L (.int x :: S) sh mi mr cb sb Q := by
  intro l E p e s m args below meth c H locs cells slots mc ms ls hC hT hG hφ hS hA hz hP hl hc hs
  have hC0 := hC
  obtain ⟨hx, hb, hr, hml, hown, hlk, hnm⟩ := hC
  exact lv_if_eq hx hb hd ht (fun q => kt q l E p e s m args below meth c H locs cells slots mc ms ls hC0 hT hG hφ hS hA hz hP hl hc hs) (fun q => kf q l E p e s m args below meth c H locs cells slots mc ms ls hC0 hT hG hφ hS hA hz hP hl hc hs)
theorem r_icmp_eq {d : Nat} {μ : Mt} {pc : Nat} {L S : List Value} {sh : List Sh} {mi : MI} {mr : MR} {cb sb : Nat} {Q : QT} {x y : Int32} {off : Int} {tgt : Nat} (hd : decode μ.2.1 pc = .ok (.if_icmp .eq off, 3)) (ht : (pc : Int) + off = (tgt : Int)) (kt : (x = y) → WP d μ (tgt) L (S) sh mi mr cb sb Q) (kf : ¬ (x = y) → WP d μ (pc + 3) L (S) sh mi mr cb sb Q) : WP d μ (pc) L (.int y :: .int x :: S) sh mi mr cb sb Q := by
  intro l E p e s m args below meth c H locs cells slots mc ms ls hC hT hG hφ hS hA hz hP hl hc hs
  have hC0 := hC
  obtain ⟨hx, hb, hr, hml, hown, hlk, hnm⟩ := hC
  exact lv_icmp_eq hx hb hd ht (fun q => kt q l E p e s m args below meth c H locs cells slots mc ms ls hC0 hT hG hφ hS hA hz hP hl hc hs) (fun q => kf q l E p e s m args below meth c H locs cells slots mc ms ls hC0 hT hG hφ hS hA hz hP hl hc hs)
theorem r_if_ne {d : Nat} {μ : Mt} {pc : Nat} {L S : List Value} {sh : List Sh} {mi : MI} {mr : MR} {cb sb : Nat} {Q : QT} {x : Int32} {off : Int} {tgt : Nat} (hd : decode μ.2.1 pc = .ok (.ifCond .ne off, 3)) (ht : (pc : Int) + off = (tgt : Int)) (kt : (¬ x = 0) → WP d μ (tgt) L (S) sh mi mr cb sb Q) (kf : (x = 0) → WP d μ (pc + 3) L (S) sh mi mr cb sb Q) : WP d μ (pc) L (.int x :: S) sh mi mr cb sb Q := by
  intro l E p e s m args below meth c H locs cells slots mc ms ls hC hT hG hφ hS hA hz hP hl hc hs
  have hC0 := hC
  obtain ⟨hx, hb, hr, hml, hown, hlk, hnm⟩ := hC
  exact lv_if_ne hx hb hd ht (fun q => kt q l E p e s m args below meth c H locs cells slots mc ms ls hC0 hT hG hφ hS hA hz hP hl hc hs) (fun q => kf q l E p e s m args below meth c H locs cells slots mc ms ls hC0 hT hG hφ hS hA hz hP hl hc hs)
theorem r_icmp_ne {d : Nat} {μ : Mt} {pc : Nat} {L S : List Value} {sh : List Sh} {mi : MI} {mr : MR} {cb sb : Nat} {Q : QT} {x y : Int32} {off : Int} {tgt : Nat} (hd : decode μ.2.1 pc = .ok (.if_icmp .ne off, 3)) (ht : (pc : Int) + off = (tgt : Int)) (kt : (¬ x = y) → WP d μ (tgt) L (S) sh mi mr cb sb Q) (kf : (x = y) → WP d μ (pc + 3) L (S) sh mi mr cb sb Q) : WP d μ (pc) L (.int y :: .int x :: S) sh mi mr cb sb Q := by
  intro l E p e s m args below meth c H locs cells slots mc ms ls hC hT hG hφ hS hA hz hP hl hc hs
  have hC0 := hC
  obtain ⟨hx, hb, hr, hml, hown, hlk, hnm⟩ := hC
  exact lv_icmp_ne hx hb hd ht (fun q => kt q l E p e s m args below meth c H locs cells slots mc ms ls hC0 hT hG hφ hS hA hz hP hl hc hs) (fun q => kf q l E p e s m args below meth c H locs cells slots mc ms ls hC0 hT hG hφ hS hA hz hP hl hc hs)
theorem r_if_lt {d : Nat} {μ : Mt} {pc : Nat} {L S : List Value} {sh : List Sh} {mi : MI} {mr : MR} {cb sb : Nat} {Q : QT} {x : Int32} {off : Int} {tgt : Nat} (hd : decode μ.2.1 pc = .ok (.ifCond .lt off, 3)) (ht : (pc : Int) + off = (tgt : Int)) (kt : (x < 0) → WP d μ (tgt) L (S) sh mi mr cb sb Q) (kf : ¬ (x < 0) → WP d μ (pc + 3) L (S) sh mi mr cb sb Q) : WP d μ (pc) L (.int x :: S) sh mi mr cb sb Q := by
  intro l E p e s m args below meth c H locs cells slots mc ms ls hC hT hG hφ hS hA hz hP hl hc hs
  have hC0 := hC
  obtain ⟨hx, hb, hr, hml, hown, hlk, hnm⟩ := hC
  exact lv_if_lt hx hb hd ht (fun q => kt q l E p e s m args below meth c H locs cells slots mc ms ls hC0 hT hG hφ hS hA hz hP hl hc hs) (fun q => kf q l E p e s m args below meth c H locs cells slots mc ms ls hC0 hT hG hφ hS hA hz hP hl hc hs)
theorem r_icmp_lt {d : Nat} {μ : Mt} {pc : Nat} {L S : List Value} {sh : List Sh} {mi : MI} {mr : MR} {cb sb : Nat} {Q : QT} {x y : Int32} {off : Int} {tgt : Nat} (hd : decode μ.2.1 pc = .ok (.if_icmp .lt off, 3)) (ht : (pc : Int) + off = (tgt : Int)) (kt : (x < y) → WP d μ (tgt) L (S) sh mi mr cb sb Q) (kf : ¬ (x < y) → WP d μ (pc + 3) L (S) sh mi mr cb sb Q) : WP d μ (pc) L (.int y :: .int x :: S) sh mi mr cb sb Q := by
  intro l E p e s m args below meth c H locs cells slots mc ms ls hC hT hG hφ hS hA hz hP hl hc hs
  have hC0 := hC
  obtain ⟨hx, hb, hr, hml, hown, hlk, hnm⟩ := hC
  exact lv_icmp_lt hx hb hd ht (fun q => kt q l E p e s m args below meth c H locs cells slots mc ms ls hC0 hT hG hφ hS hA hz hP hl hc hs) (fun q => kf q l E p e s m args below meth c H locs cells slots mc ms ls hC0 hT hG hφ hS hA hz hP hl hc hs)
theorem r_if_ge {d : Nat} {μ : Mt} {pc : Nat} {L S : List Value} {sh : List Sh} {mi : MI} {mr : MR} {cb sb : Nat} {Q : QT} {x : Int32} {off : Int} {tgt : Nat} (hd : decode μ.2.1 pc = .ok (.ifCond .ge off, 3)) (ht : (pc : Int) + off = (tgt : Int)) (kt : (0 ≤ x) → WP d μ (tgt) L (S) sh mi mr cb sb Q) (kf : ¬ (0 ≤ x) → WP d μ (pc + 3) L (S) sh mi mr cb sb Q) : WP d μ (pc) L (.int x :: S) sh mi mr cb sb Q := by
  intro l E p e s m args below meth c H locs cells slots mc ms ls hC hT hG hφ hS hA hz hP hl hc hs
  have hC0 := hC
  obtain ⟨hx, hb, hr, hml, hown, hlk, hnm⟩ := hC
  exact lv_if_ge hx hb hd ht (fun q => kt q l E p e s m args below meth c H locs cells slots mc ms ls hC0 hT hG hφ hS hA hz hP hl hc hs) (fun q => kf q l E p e s m args below meth c H locs cells slots mc ms ls hC0 hT hG hφ hS hA hz hP hl hc hs)
theorem r_icmp_ge {d : Nat} {μ : Mt} {pc : Nat} {L S : List Value} {sh : List Sh} {mi : MI} {mr : MR} {cb sb : Nat} {Q : QT} {x y : Int32} {off : Int} {tgt : Nat} (hd : decode μ.2.1 pc = .ok (.if_icmp .ge off, 3)) (ht : (pc : Int) + off = (tgt : Int)) (kt : (y ≤ x) → WP d μ (tgt) L (S) sh mi mr cb sb Q) (kf : ¬ (y ≤ x) → WP d μ (pc + 3) L (S) sh mi mr cb sb Q) : WP d μ (pc) L (.int y :: .int x :: S) sh mi mr cb sb Q := by
  intro l E p e s m args below meth c H locs cells slots mc ms ls hC hT hG hφ hS hA hz hP hl hc hs
  have hC0 := hC
  obtain ⟨hx, hb, hr, hml, hown, hlk, hnm⟩ := hC
  exact lv_icmp_ge hx hb hd ht (fun q => kt q l E p e s m args below meth c H locs cells slots mc ms ls hC0 hT hG hφ hS hA hz hP hl hc hs) (fun q => kf q l E p e s m args below meth c H locs cells slots mc ms ls hC0 hT hG hφ hS hA hz hP hl hc hs)
theorem r_if_gt {d : Nat} {μ : Mt} {pc : Nat} {L S : List Value} {sh : List Sh} {mi : MI} {mr : MR} {cb sb : Nat} {Q : QT} {x : Int32} {off : Int} {tgt : Nat} (hd : decode μ.2.1 pc = .ok (.ifCond .gt off, 3)) (ht : (pc : Int) + off = (tgt : Int)) (kt : (0 < x) → WP d μ (tgt) L (S) sh mi mr cb sb Q) (kf : ¬ (0 < x) → WP d μ (pc + 3) L (S) sh mi mr cb sb Q) : WP d μ (pc) L (.int x :: S) sh mi mr cb sb Q := by
  intro l E p e s m args below meth c H locs cells slots mc ms ls hC hT hG hφ hS hA hz hP hl hc hs
  have hC0 := hC
  obtain ⟨hx, hb, hr, hml, hown, hlk, hnm⟩ := hC
  exact lv_if_gt hx hb hd ht (fun q => kt q l E p e s m args below meth c H locs cells slots mc ms ls hC0 hT hG hφ hS hA hz hP hl hc hs) (fun q => kf q l E p e s m args below meth c H locs cells slots mc ms ls hC0 hT hG hφ hS hA hz hP hl hc hs)
theorem r_icmp_gt {d : Nat} {μ : Mt} {pc : Nat} {L S : List Value} {sh : List Sh} {mi : MI} {mr : MR} {cb sb : Nat} {Q : QT} {x y : Int32} {off : Int} {tgt : Nat} (hd : decode μ.2.1 pc = .ok (.if_icmp .gt off, 3)) (ht : (pc : Int) + off = (tgt : Int)) (kt : (y < x) → WP d μ (tgt) L (S) sh mi mr cb sb Q) (kf : ¬ (y < x) → WP d μ (pc + 3) L (S) sh mi mr cb sb Q) : WP d μ (pc) L (.int y :: .int x :: S) sh mi mr cb sb Q := by
  intro l E p e s m args below meth c H locs cells slots mc ms ls hC hT hG hφ hS hA hz hP hl hc hs
  have hC0 := hC
  obtain ⟨hx, hb, hr, hml, hown, hlk, hnm⟩ := hC
  exact lv_icmp_gt hx hb hd ht (fun q => kt q l E p e s m args below meth c H locs cells slots mc ms ls hC0 hT hG hφ hS hA hz hP hl hc hs) (fun q => kf q l E p e s m args below meth c H locs cells slots mc ms ls hC0 hT hG hφ hS hA hz hP hl hc hs)
theorem r_if_le {d : Nat} {μ : Mt} {pc : Nat} {L S : List Value} {sh : List Sh} {mi : MI} {mr : MR} {cb sb : Nat} {Q : QT} {x : Int32} {off : Int} {tgt : Nat} (hd : decode μ.2.1 pc = .ok (.ifCond .le off, 3)) (ht : (pc : Int) + off = (tgt : Int)) (kt : (x ≤ 0) → WP d μ (tgt) L (S) sh mi mr cb sb Q) (kf : ¬ (x ≤ 0) → WP d μ (pc + 3) L (S) sh mi mr cb sb Q) : WP d μ (pc) L (.int x :: S) sh mi mr cb sb Q := by
  intro l E p e s m args below meth c H locs cells slots mc ms ls hC hT hG hφ hS hA hz hP hl hc hs
  have hC0 := hC
  obtain ⟨hx, hb, hr, hml, hown, hlk, hnm⟩ := hC
  exact lv_if_le hx hb hd ht (fun q => kt q l E p e s m args below meth c H locs cells slots mc ms ls hC0 hT hG hφ hS hA hz hP hl hc hs) (fun q => kf q l E p e s m args below meth c H locs cells slots mc ms ls hC0 hT hG hφ hS hA hz hP hl hc hs)
theorem r_icmp_le {d : Nat} {μ : Mt} {pc : Nat} {L S : List Value} {sh : List Sh} {mi : MI} {mr : MR} {cb sb : Nat} {Q : QT} {x y : Int32} {off : Int} {tgt : Nat} (hd : decode μ.2.1 pc = .ok (.if_icmp .le off, 3)) (ht : (pc : Int) + off = (tgt : Int)) (kt : (x ≤ y) → WP d μ (tgt) L (S) sh mi mr cb sb Q) (kf : ¬ (x ≤ y) → WP d μ (pc + 3) L (S) sh mi mr cb sb Q) : WP d μ (pc) L (.int y :: .int x :: S) sh mi mr cb sb Q := by
  intro l E p e s m args below meth c H locs cells slots mc ms ls hC hT hG hφ hS hA hz hP hl hc hs
  have hC0 := hC
  obtain ⟨hx, hb, hr, hml, hown, hlk, hnm⟩ := hC
  exact lv_icmp_le hx hb hd ht (fun q => kt q l E p e s m args below meth c H locs cells slots mc ms ls hC0 hT hG hφ hS hA hz hP hl hc hs) (fun q => kf q l E p e s m args below meth c H locs cells slots mc ms ls hC0 hT hG hφ hS hA hz hP hl hc hs)
theorem r_goto {d : Nat} {μ : Mt} {pc : Nat} {L S : List Value} {sh : List Sh} {mi : MI} {mr : MR} {cb sb : Nat} {Q : QT} {off : Int} {tgt : Nat} (hd : decode μ.2.1 pc = .ok (.goto off, 3)) (ht : (pc : Int) + off = (tgt : Int)) (k : WP d μ (tgt) L (S) sh mi mr cb sb Q) : WP d μ (pc) L (S) sh mi mr cb sb Q := by
  intro l E p e s m args below meth c H locs cells slots mc ms ls hC hT hG hφ hS hA hz hP hl hc hs
  have hC0 := hC
  obtain ⟨hx, hb, hr, hml, hown, hlk, hnm⟩ := hC
  exact lv_goto hx hb hd ht (k l E p e s m args below meth c H locs cells slots mc ms ls hC0 hT hG hφ hS hA hz hP hl hc hs)
theorem r_nonnull {d : Nat} {μ : Mt} {pc : Nat} {L S : List Value} {sh : List Sh} {mi : MI} {mr : MR} {cb sb : Nat} {Q : QT} {a : Nat} {off : Int} {tgt : Nat} (hd : decode μ.2.1 pc = .ok (.ifnonnull off, 3)) (ht : (pc : Int) + off = (tgt : Int)) (k : WP d μ (tgt) L (S) sh mi mr cb sb Q) : WP d μ (pc) L (.ref a :: S) sh mi mr cb sb Q := by
  intro l E p e s m args below meth c H locs cells slots mc ms ls hC hT hG hφ hS hA hz hP hl hc hs
  have hC0 := hC
  obtain ⟨hx, hb, hr, hml, hown, hlk, hnm⟩ := hC
  exact lv_ifnonnull hx hb hd ht (k l E p e s m args below meth c H locs cells slots mc ms ls hC0 hT hG hφ hS hA hz hP hl hc hs)
theorem r_nonnullN {d : Nat} {μ : Mt} {pc : Nat} {L S : List Value} {sh : List Sh} {mi : MI} {mr : MR} {cb sb : Nat} {Q : QT} {off : Int} (hd : decode μ.2.1 pc = .ok (.ifnonnull off, 3)) (k : WP d μ (pc + 3) L (S) sh mi mr cb sb Q) : WP d μ (pc) L (.null :: S) sh mi mr cb sb Q := by
  intro l E p e s m args below meth c H locs cells slots mc ms ls hC hT hG hφ hS hA hz hP hl hc hs
  have hC0 := hC
  obtain ⟨hx, hb, hr, hml, hown, hlk, hnm⟩ := hC
  exact lv_ifnonnullN hx hb hd (k l E p e s m args below meth c H locs cells slots mc ms ls hC0 hT hG hφ hS hA hz hP hl hc hs)
theorem r_tabIn {d : Nat} {μ : Mt} {pc : Nat} {L S : List Value} {sh : List Sh} {mi : MI} {mr : MR} {cb sb : Nat} {Q : QT} {dflt lo hi : Int} {offs : Array Int} {len : Nat} {x : Int32} {off : Int} {tgt : Nat} (hd : decode μ.2.1 pc = .ok (.tableswitch dflt lo hi offs, len)) (h1 : ¬ x.toInt < lo) (h2 : ¬ hi < x.toInt) (ho : offs[(x.toInt - lo).toNat]? = some off) (ht : (pc : Int) + off = (tgt : Int)) (k : WP d μ (tgt) L (S) sh mi mr cb sb Q) : WP d μ (pc) L (.int x :: S) sh mi mr cb sb Q := by
  intro l E p e s m args below meth c H locs cells slots mc ms ls hC hT hG hφ hS hA hz hP hl hc hs
  have hC0 := hC
  obtain ⟨hx, hb, hr, hml, hown, hlk, hnm⟩ := hC
  exact lv_tableIn hx hb hd h1 h2 ho ht (k l E p e s m args below meth c H locs cells slots mc ms ls hC0 hT hG hφ hS hA hz hP hl hc hs)
theorem r_tabOut {d : Nat} {μ : Mt} {pc : Nat} {L S : List Value} {sh : List Sh} {mi : MI} {mr : MR} {cb sb : Nat} {Q : QT} {dflt lo hi : Int} {offs : Array Int} {len : Nat} {x : Int32} {tgt : Nat} (hd : decode μ.2.1 pc = .ok (.tableswitch dflt lo hi offs, len)) (h : x.toInt < lo ∨ hi < x.toInt) (ht : (pc : Int) + dflt = (tgt : Int)) (k : WP d μ (tgt) L (S) sh mi mr cb sb Q) : WP d μ (pc) L (.int x :: S) sh mi mr cb sb Q := by
  intro l E p e s m args below meth c H locs cells slots mc ms ls hC hT hG hφ hS hA hz hP hl hc hs
  have hC0 := hC
  obtain ⟨hx, hb, hr, hml, hown, hlk, hnm⟩ := hC
  exact lv_tableOut hx hb hd h ht (k l E p e s m args below meth c H locs cells slots mc ms ls hC0 hT hG hφ hS hA hz hP hl hc hs)
theorem r_look {d : Nat} {μ : Mt} {pc : Nat} {L S : List Value} {sh : List Sh} {mi : MI} {mr : MR} {cb sb : Nat} {Q : QT} {dflt : Int} {ps : Array (Int × Int)} {len : Nat} {x : Int32} {off : Int} {tgt : Nat} (hd : decode μ.2.1 pc = .ok (.lookupswitch dflt ps, len)) (hp : (ps.toList.zip (ps.toList.drop 1)).all (fun (a, next) => a.1 < next.1) = true) (ho : Op.lookupswitch.offset ps.toList dflt x.toInt = off) (ht : (pc : Int) + off = (tgt : Int)) (k : WP d μ (tgt) L (S) sh mi mr cb sb Q) : WP d μ (pc) L (.int x :: S) sh mi mr cb sb Q := by
  intro l E p e s m args below meth c H locs cells slots mc ms ls hC hT hG hφ hS hA hz hP hl hc hs
  have hC0 := hC
  obtain ⟨hx, hb, hr, hml, hown, hlk, hnm⟩ := hC
  exact lv_lookup hx hb hd hp ho ht (k l E p e s m args below meth c H locs cells slots mc ms ls hC0 hT hG hφ hS hA hz hP hl hc hs)
