abbrev StR : Type := Bool × List Int32 × List Int32 × Nat
def stp (key : Int32) (due : Bool) (t : Tok) (sg out : List Int32) (ops : Nat) : Option StR :=
  if due = true then
    if Tok.k t = 2 then some (false, (clS sg (out ++ [Tok.nu t])).1, (clS sg (out ++ [Tok.nu t])).2, ops + 1)
    else if Tok.k t = 1 ∧ ¬ Tok.le t = 0 ∧ nmB key (Tok.le t) = true then some (false, (clS sg (out ++ [nI (10000 + nmP key (Tok.le t))])).1, (clS sg (out ++ [nI (10000 + nmP key (Tok.le t))])).2, ops + 1)
    else if Tok.k t = 3 ∧ Tok.le t = 33 ∧ cntL 33 sg < 8 then some (true, 33 :: sg, out, ops)
    else if Tok.k t = 3 ∧ Tok.le t = 40 ∧ cntL 40 sg < 8 then some (true, 40 :: sg, out, ops)
    else none
  else if Tok.k t = 3 ∧ Tok.le t = 41 then
    if cntL 40 sg = 0 then none else some (false, (clS (po 1 sg out).1.tail (po 1 sg out).2).1, (clS (po 1 sg out).1.tail (po 1 sg out).2).2, ops)
  else if Tok.k t = 3 ∧ 0 < rkS (Tok.le t) then
    if rkS (Tok.le t) = 3 ∧ rkS ((po (thS (rkS (Tok.le t))) sg out).1.headD 0) = 3 then none else some (true, Tok.le t :: (po (thS (rkS (Tok.le t))) sg out).1, (po (thS (rkS (Tok.le t))) sg out).2, ops)
  else none
theorem ru_s {tp : Nat} {T : Rw} {key : Int32} {g : Nat} {due : Bool} {t : Tok} {sg out : List Int32} {ops : Nat} (hk : ¬ Tok.k t = 0) : ru tp T key (g + 1) due t sg out ops = match stp key due t sg out ops with
    | none => some (.inl (Tok.b t))
    | some x => ru tp T key g x.1 (nxT tp T (Tok.e t) (Tok.k t)) x.2.1 x.2.2.1 x.2.2.2 := by
  unfold stp
  simp only [ru]
  rw [if_neg hk]
  cases due with
  | true =>
    simp only [if_true]
    by_cases h1 : Tok.k t = 2
    · simp only [if_pos h1]
    · simp only [if_neg h1]
      by_cases h2 : Tok.k t = 1 ∧ ¬ Tok.le t = 0 ∧ nmB key (Tok.le t) = true
      · simp only [if_pos h2]
      · simp only [if_neg h2]
        by_cases h3 : Tok.k t = 3 ∧ Tok.le t = 33 ∧ cntL 33 sg < 8
        · simp only [if_pos h3]
        · simp only [if_neg h3]
          by_cases h4 : Tok.k t = 3 ∧ Tok.le t = 40 ∧ cntL 40 sg < 8
          · simp only [if_pos h4]
          · simp only [if_neg h4]
  | false =>
    simp only [Bool.false_eq_true, if_false]
    by_cases h1 : Tok.k t = 3 ∧ Tok.le t = 41
    · simp only [if_pos h1]
      by_cases h2 : cntL 40 sg = 0
      · simp only [if_pos h2]
      · simp only [if_neg h2]
    · simp only [if_neg h1]
      by_cases h2 : Tok.k t = 3 ∧ 0 < rkS (Tok.le t)
      · simp only [if_pos h2]
        by_cases h3 : rkS (Tok.le t) = 3 ∧ rkS ((po (thS (rkS (Tok.le t))) sg out).1.headD 0) = 3
        · simp only [if_pos h3]
        · simp only [if_neg h3]
      · simp only [if_neg h2]
/-- a pile that the reader may hold -/
def WfS : List Int32 → Prop
  | [] => True
  | c :: l => (c = 33 ∨ c = 40 ∨ 1 ≤ rkS c) ∧ (l.headD 0 = 33 → c = 33 ∨ c = 40) ∧ WfS l
theorem rk_33 {c : Int32} (h : 1 ≤ rkS c) : ¬ c = 33 ∧ ¬ c = 40 ∧ ¬ c = 0 := ⟨fun z => by rw [z] at h; exact absurd h (by decide), fun z => by rw [z] at h; exact absurd h (by decide), fun z => by rw [z] at h; exact absurd h (by decide)⟩
theorem po_wf {th : Nat} (ht : 1 ≤ th) : ∀ {sg out : List Int32}, WfS sg → ¬ sg.headD 0 = 33 → WfS (po th sg out).1 ∧ ¬ (po th sg out).1.headD 0 = 33
  | [], out, h, h2 => ⟨trivial, h2⟩
  | c :: l, out, h, h2 => by
    by_cases hc : th ≤ rkS c
    · have e : po th (c :: l) out = po th l (out ++ [-c]) := if_pos hc
      rw [e]
      have := rk_33 (c := c) (by omega)
      exact po_wf ht h.2.2 (fun z => (h.2.1 z).elim this.1 this.2.1)
    · have e : po th (c :: l) out = (c :: l, out) := if_neg hc
      rw [e]
      exact ⟨h, h2⟩
theorem cl_wf : ∀ {sg out : List Int32}, WfS sg → WfS (clS sg out).1 ∧ ¬ (clS sg out).1.headD 0 = 33
  | [], out, h => ⟨trivial, show ¬ (0 : Int32) = 33 by decide⟩
  | c :: l, out, h => by
    by_cases hc : c = 33
    · have e : clS (c :: l) out = clS l (out ++ [-33]) := if_pos hc
      rw [e]
      exact cl_wf h.2.2
    · have e : clS (c :: l) out = (c :: l, out) := if_neg hc
      rw [e]
      exact ⟨h, hc⟩
theorem po_40 : ∀ {sg out : List Int32}, WfS sg → ¬ sg.headD 0 = 33 → ¬ cntL 40 sg = 0 → ∃ l, (po 1 sg out).1 = 40 :: l ∧ WfS l
  | [], out, h, h2, h3 => absurd rfl h3
  | c :: l, out, h, h2, h3 => by
    by_cases hc : 1 ≤ rkS c
    · have e : po 1 (c :: l) out = po 1 l (out ++ [-c]) := if_pos hc
      rw [e]
      have h9 := rk_33 hc
      have ec : cntL 40 (c :: l) = cntL 40 l := by show cntL 40 l + _ = _; rw [if_neg h9.2.1]; rfl
      rw [ec] at h3
      exact po_40 h.2.2 (fun z => (h.2.1 z).elim h9.1 h9.2.1) h3
    · have e : po 1 (c :: l) out = (c :: l, out) := if_neg hc
      rw [e]
      have h2 : ¬ c = 33 := h2
      have hc4 : c = 40 := by
        rcases h.1 with z | z | z
        · exact absurd z h2
        · exact z
        · exact absurd z hc
      subst hc4
      exact ⟨l, rfl, h.2.2⟩
/-- what a step keeps -/
theorem stp_wf {key : Int32} {due : Bool} {t : Tok} {sg out : List Int32} {ops : Nat} {x : StR} (hw : WfS sg) (hd : due = false → ¬ sg.headD 0 = 33) (h : stp key due t sg out ops = some x) : WfS x.2.1 ∧ (x.1 = false → ¬ x.2.1.headD 0 = 33) ∧ x.2.1.length + x.2.2.1.length ≤ sg.length + out.length + 1 ∧ (x.1 = true → Tok.k t = 3) := by
  have ap : ∀ y : Int32, (out ++ [y]).length = out.length + 1 := fun y => List.length_append
  unfold stp at h
  cases due with
  | true =>
    rw [if_pos rfl] at h
    split at h
    · obtain rfl := Option.some.inj h
      have := cl_wf (out := out ++ [Tok.nu t]) hw
      have hl := cl_len sg (out ++ [Tok.nu t])
      rw [ap] at hl
      exact ⟨this.1, fun _ => this.2, by show List.length (clS sg _).1 + List.length (clS sg _).2 ≤ _; omega, fun z => by cases z⟩
    · split at h
      · obtain rfl := Option.some.inj h
        have := cl_wf (out := out ++ [nI (10000 + nmP key (Tok.le t))]) hw
        have hl := cl_len sg (out ++ [nI (10000 + nmP key (Tok.le t))])
        rw [ap] at hl
        exact ⟨this.1, fun _ => this.2, by show List.length (clS sg _).1 + List.length (clS sg _).2 ≤ _; omega, fun z => by cases z⟩
      · split at h
        · rename_i hk
          obtain rfl := Option.some.inj h
          exact ⟨⟨Or.inl rfl, fun _ => Or.inl rfl, hw⟩, (fun z => by cases z), by show sg.length + 1 + out.length ≤ _; omega, fun _ => hk.1⟩
        · split at h
          · rename_i hk
            obtain rfl := Option.some.inj h
            exact ⟨⟨Or.inr (Or.inl rfl), fun _ => Or.inr rfl, hw⟩, (fun z => by cases z), by show sg.length + 1 + out.length ≤ _; omega, fun _ => hk.1⟩
          · cases h
  | false =>
    have hd := hd rfl
    rw [if_neg (by decide)] at h
    split at h
    · split at h
      · cases h
      · rename_i h0
        obtain rfl := Option.some.inj h
        obtain ⟨l, hl, hwl⟩ := po_40 (out := out) hw hd h0
        have hp := po_len 1 sg out
        rw [hl] at hp ⊢
        have := cl_wf (out := (po 1 sg out).2) hwl
        have hc := cl_len l (po 1 sg out).2
        have hp : l.length + 1 + (po 1 sg out).2.length = sg.length + out.length := hp
        exact ⟨this.1, fun _ => this.2, by show List.length (clS l _).1 + List.length (clS l _).2 ≤ _; omega, fun z => by cases z⟩
    · split at h
      · rename_i hk
        split at h
        · cases h
        · obtain rfl := Option.some.inj h
          have ht1 : 1 ≤ thS (rkS (Tok.le t)) := by unfold thS; split <;> omega
          have := po_wf (out := out) ht1 hw hd
          have hp := po_len (thS (rkS (Tok.le t))) sg out
          exact ⟨⟨Or.inr (Or.inr hk.2), fun z => absurd z this.2, this.1⟩, (fun z => by cases z), by show List.length (po _ sg out).1 + 1 + List.length (po _ sg out).2 ≤ _; omega, fun _ => hk.1⟩
      · cases h
/-- the reader failed at c -/
def RFl (m0 mi2 : MI) (c : Nat) : Prop := (∀ a, a ≠ 48 → a ≠ 50 → a ≠ 51 → mi2 a = m0 a) ∧ mi2 48 1 = 0 ∧ mi2 48 2 = nI c
theorem RdS.fl {m0 mi : MI} {tp ke : Nat} {key : Int32} {due : Bool} {c : Nat} {sg out : List Int32} {ops : Nat} (h : RdS m0 mi tp ke key due c sg out ops) : RFl m0 mi c := ⟨h.1, h.2.1.1, h.2.1.2.1⟩
def StP (m0 mi2 : MI) (tp ke : Nat) (key : Int32) (c e : Nat) (r : Int32) : Option StR → Prop
  | none => r = 0 ∧ RFl m0 mi2 c
  | some x => r = 1 ∧ RdS m0 mi2 tp ke key x.1 e x.2.1 x.2.2.1 x.2.2.2
/-- a token, as the class sees it: from e on, behind a token of sort k -/
theorem tk_see {tp : Nat} {T : Rw} {e : Nat} {k : Int32} {t : Tok} (ht : nxT tp T e k = t) (h96 : tp ≤ 96) (he : e ≤ tp) :
    Tok.b t = rnE (blB tp T) e ∧ (Tok.k t = 0 → Tok.b t = tp) ∧ (¬ Tok.k t = 0 → Tok.b t < tp ∧
      (ltB tp T (Tok.b t) = true → Tok.e t = rnE (ltB tp T) (Tok.b t) ∧ Tok.k t = (if glu e k = true ∧ e = Tok.b t then 4 else 1) ∧ Tok.le t = if Tok.e t - Tok.b t = 1 then T (Tok.b t) else 0) ∧
      (dgB tp T (Tok.b t) = true → Tok.e t = rnE (dgB tp T) (Tok.b t) ∧ Tok.k t = (if (glu e k = true ∧ e = Tok.b t) ∨ 4 < Tok.e t - Tok.b t then 4 else 2) ∧ Tok.nu t = numT T (Tok.b t) (Tok.e t - Tok.b t)) ∧
      (ltB tp T (Tok.b t) = false → dgB tp T (Tok.b t) = false → Tok.e t = Tok.b t + 1 ∧ Tok.k t = 3 ∧ Tok.le t = T (Tok.b t))) := by
  obtain ⟨c, hc⟩ : ∃ c, rnE (blB tp T) e = c := ⟨_, rfl⟩
  have hctp : c ≤ tp := by rw [← hc]; exact (rnE_le blB_lt he).2
  by_cases h : c = tp
  · rw [nxT_0 hc h] at ht
    subst ht
    exact ⟨hc.symm, fun _ => h, fun z => absurd rfl z⟩
  · cases hl : ltB tp T c with
    | true =>
      rw [nxT_l hc h hl rfl] at ht
      subst ht
      refine ⟨hc.symm, fun z => ?_, fun _ => ⟨by show c < tp; omega, fun _ => ⟨rfl, rfl, rfl⟩, fun z => ?_, fun z => ?_⟩⟩
      · have z : (if glu e k = true ∧ e = c then (4 : Int32) else 1) = 0 := z
        split at z <;> cases z
      · have z : dgB tp T c = true := z
        rw [dg_lt z] at hl
        cases hl
      · have z : ltB tp T c = false := z
        rw [hl] at z
        cases z
    | false =>
      cases hd : dgB tp T c with
      | true =>
        rw [nxT_d hc h hl hd rfl] at ht
        subst ht
        refine ⟨hc.symm, fun z => ?_, fun _ => ⟨by show c < tp; omega, fun z => ?_, fun _ => ⟨rfl, rfl, rfl⟩, fun _ z => ?_⟩⟩
        · have z : (if (glu e k = true ∧ e = c) ∨ 4 < rnE (dgB tp T) c - c then (4 : Int32) else 2) = 0 := z
          split at z <;> cases z
        · have z : ltB tp T c = true := z
          rw [hl] at z
          cases z
        · have z : dgB tp T c = false := z
          rw [hd] at z
          cases z
      | false =>
        rw [nxT_s hc h hl hd] at ht
        subst ht
        refine ⟨hc.symm, fun z => ?_, fun _ => ⟨by show c < tp; omega, fun z => ?_, fun z => ?_, fun _ _ => ⟨rfl, rfl, rfl⟩⟩⟩
        · cases z
        · have z : ltB tp T c = true := z
          rw [hl] at z
          cases z
        · have z : dgB tp T c = true := z
          rw [hd] at z
          cases z

theorem t_num_bad {d : Nat} {sh : List Sh} {mi : MI} {mr : MR} (hF : SHC sh) (hB : CB mr) {m0 : MI} {tp ke : Nat} {key : Int32} {c : Nat} {sg out : List Int32} {ops : Nat} (h : RdS m0 mi tp ke key true c sg out ops) (h96 : tp ≤ 96) (hc : c < tp) (hd : dgB tp (mi 49) c = true) {e : Nat} (he : rnE (dgB tp (mi 49)) c = e) (hke : ke ≤ 96) (hb : c = ke ∨ 4 < e - c) {x : Nat} : CP (d + 6) mX5_readTowardsOperand [.ref 48] sh mi mr 0 0 (PX sh mr (fun r mi2 => StP m0 mi2 tp ke key c x r (none))) := by
  have hR := h
  obtain ⟨hA, ⟨e1, e2, e3, e4, e5, e6⟩, ⟨e8, e9, e11, e12, e13⟩, hL, hS⟩ := h
  refine CP.of (L := [_, _]) (by decide) rfl rfl (Nat.le_of_ble_eq_true rfl) ?_
  refine r_aload_n (μ := mX5_readTowardsOperand) (pc := 0) dX5_readTowardsOperand_0 rfl rfl rfl ?_
  refine r_getR (μ := mX5_readTowardsOperand) (pc := 1) dX5_readTowardsOperand_1 fpX5_9 rfl (hF _ _ rfl) (by decide) (hB _ _ _ rfl) ?_
  refine r_aload_n (μ := mX5_readTowardsOperand) (pc := 4) dX5_readTowardsOperand_4 rfl rfl rfl ?_
  refine r_getI (μ := mX5_readTowardsOperand) (pc := 5) dX5_readTowardsOperand_5 fpX5_19 rfl (hF _ _ rfl) (by decide) ?_
  rw [e2]
  refine r_iaload (μ := mX5_readTowardsOperand) (pc := 8) (j := c) dX5_readTowardsOperand_8 (hF _ _ rfl) rfl (by omega) (by decide) ?_
  refine s_istore_n (μ := mX5_readTowardsOperand) (pc := 9) (L2 := [_, _]) dX5_readTowardsOperand_9 rfl (Nat.le_of_ble_eq_true rfl) (Nat.le_of_ble_eq_true rfl) rfl rfl ?_
  refine r_iload_n (μ := mX5_readTowardsOperand) (pc := 10) dX5_readTowardsOperand_10 rfl rfl ?_
  refine sP1 (μ := mX5_readTowardsOperand) (pc := 11) (μ2 := mX5_isDigit) dX5_readTowardsOperand_11 lkX5_78 stX5_isDigit mwX5_isDigit (Nat.le_of_ble_eq_true rfl) k_isDigit ?_
  refine r_if_eq (μ := mX5_readTowardsOperand) (pc := 14) (tgt := 22) dX5_readTowardsOperand_14 (by decide) (fun h_14 => absurd h_14 (b2i_ne (by unfold dgB at hd; simp only [Bool.and_eq_true] at hd; exact hd.2))) (fun h_14 => ?_)
  refine r_aload_n (μ := mX5_readTowardsOperand) (pc := 17) dX5_readTowardsOperand_17 rfl rfl rfl ?_
  refine vX0 (μ := mX5_readTowardsOperand) (pc := 18) (c0 := 5) (q0 := (RX5, TX5, 14)) (μ2 := mX5_readNumber) dX5_readTowardsOperand_18 (hF _ _ rfl) rfl lkX5_127 imX5_readNumber seX5_X5_readNumber_X5_readNumber mwX5_readNumber (Nat.le_of_ble_eq_true rfl) (k_num_bad (d := d + 2) (kq := 0) hF hB hR h96 hc hd he hb hke) (fun r_18 mi_18 h_18 => ?_)
  obtain ⟨rfl, rfl⟩ := h_18
  exact r_iret (μ := mX5_readTowardsOperand) (pc := 21) dX5_readTowardsOperand_21 rfl rfl (PX_i ⟨rfl, hR.fl⟩)

theorem t_num {d : Nat} {sh : List Sh} {mi : MI} {mr : MR} (hF : SHC sh) (hB : CB mr) {m0 : MI} {tp ke : Nat} {key : Int32} {c : Nat} {sg out : List Int32} {ops : Nat} (h : RdS m0 mi tp ke key true c sg out ops) (h96 : tp ≤ 96) (hc : c < tp) (hd : dgB tp (mi 49) c = true) {e : Nat} (he : rnE (dgB tp (mi 49)) c = e) (hke : ke ≤ 96) (hb : ¬ c = ke) (h4 : e - c ≤ 4) (hlen : sg.length + out.length ≤ 95) : CP (d + 6) mX5_readTowardsOperand [.ref 48] sh mi mr 0 0 (PX sh mr (fun r mi2 => StP m0 mi2 tp ke key c e r (some (false, (clS sg (out ++ [numT (mi 49) c (e - c)])).1, (clS sg (out ++ [numT (mi 49) c (e - c)])).2, ops + 1)))) := by
  have hR := h
  obtain ⟨hA, ⟨e1, e2, e3, e4, e5, e6⟩, ⟨e8, e9, e11, e12, e13⟩, hL, hS⟩ := h
  refine CP.of (L := [_, _]) (by decide) rfl rfl (Nat.le_of_ble_eq_true rfl) ?_
  refine r_aload_n (μ := mX5_readTowardsOperand) (pc := 0) dX5_readTowardsOperand_0 rfl rfl rfl ?_
  refine r_getR (μ := mX5_readTowardsOperand) (pc := 1) dX5_readTowardsOperand_1 fpX5_9 rfl (hF _ _ rfl) (by decide) (hB _ _ _ rfl) ?_
  refine r_aload_n (μ := mX5_readTowardsOperand) (pc := 4) dX5_readTowardsOperand_4 rfl rfl rfl ?_
  refine r_getI (μ := mX5_readTowardsOperand) (pc := 5) dX5_readTowardsOperand_5 fpX5_19 rfl (hF _ _ rfl) (by decide) ?_
  rw [e2]
  refine r_iaload (μ := mX5_readTowardsOperand) (pc := 8) (j := c) dX5_readTowardsOperand_8 (hF _ _ rfl) rfl (by omega) (by decide) ?_
  refine s_istore_n (μ := mX5_readTowardsOperand) (pc := 9) (L2 := [_, _]) dX5_readTowardsOperand_9 rfl (Nat.le_of_ble_eq_true rfl) (Nat.le_of_ble_eq_true rfl) rfl rfl ?_
  refine r_iload_n (μ := mX5_readTowardsOperand) (pc := 10) dX5_readTowardsOperand_10 rfl rfl ?_
  refine sP1 (μ := mX5_readTowardsOperand) (pc := 11) (μ2 := mX5_isDigit) dX5_readTowardsOperand_11 lkX5_78 stX5_isDigit mwX5_isDigit (Nat.le_of_ble_eq_true rfl) k_isDigit ?_
  refine r_if_eq (μ := mX5_readTowardsOperand) (pc := 14) (tgt := 22) dX5_readTowardsOperand_14 (by decide) (fun h_14 => absurd h_14 (b2i_ne (by unfold dgB at hd; simp only [Bool.and_eq_true] at hd; exact hd.2))) (fun h_14 => ?_)
  refine r_aload_n (μ := mX5_readTowardsOperand) (pc := 17) dX5_readTowardsOperand_17 rfl rfl rfl ?_
  refine vX0 (μ := mX5_readTowardsOperand) (pc := 18) (c0 := 5) (q0 := (RX5, TX5, 14)) (μ2 := mX5_readNumber) dX5_readTowardsOperand_18 (hF _ _ rfl) rfl lkX5_127 imX5_readNumber seX5_X5_readNumber_X5_readNumber mwX5_readNumber (Nat.le_of_ble_eq_true rfl) (k_num (d := d + 2) hF hB hR h96 hc hd he hb h4 hke hlen) (fun r_18 mi_18 h_18 => ?_)
  obtain ⟨rfl, h18⟩ := h_18
  exact r_iret (μ := mX5_readTowardsOperand) (pc := 21) dX5_readTowardsOperand_21 rfl rfl (PX_i ⟨rfl, h18⟩)

theorem nd_let {x : Int32} (h : inB x 97 122 = true) : inB x 48 57 = false := by
  unfold inB at h ⊢
  have h := of_decide_eq_true h
  exact decide_eq_false (by omega)

theorem t_name_long {d : Nat} {sh : List Sh} {mi : MI} {mr : MR} (hF : SHC sh) (hB : CB mr) {m0 : MI} {tp ke : Nat} {key : Int32} {c : Nat} {sg out : List Int32} {ops : Nat} (h : RdS m0 mi tp ke key true c sg out ops) (h96 : tp ≤ 96) (hc : c < tp) (hd : ltB tp (mi 49) c = true) {e : Nat} (he : rnE (ltB tp (mi 49)) c = e) (hb : ¬ e - c = 1) {x : Nat} : CP (d + 6) mX5_readTowardsOperand [.ref 48] sh mi mr 0 0 (PX sh mr (fun r mi2 => StP m0 mi2 tp ke key c x r (none))) := by
  have hR := h
  obtain ⟨hA, ⟨e1, e2, e3, e4, e5, e6⟩, ⟨e8, e9, e11, e12, e13⟩, hL, hS⟩ := h
  refine CP.of (L := [_, _]) (by decide) rfl rfl (Nat.le_of_ble_eq_true rfl) ?_
  refine r_aload_n (μ := mX5_readTowardsOperand) (pc := 0) dX5_readTowardsOperand_0 rfl rfl rfl ?_
  refine r_getR (μ := mX5_readTowardsOperand) (pc := 1) dX5_readTowardsOperand_1 fpX5_9 rfl (hF _ _ rfl) (by decide) (hB _ _ _ rfl) ?_
  refine r_aload_n (μ := mX5_readTowardsOperand) (pc := 4) dX5_readTowardsOperand_4 rfl rfl rfl ?_
  refine r_getI (μ := mX5_readTowardsOperand) (pc := 5) dX5_readTowardsOperand_5 fpX5_19 rfl (hF _ _ rfl) (by decide) ?_
  rw [e2]
  refine r_iaload (μ := mX5_readTowardsOperand) (pc := 8) (j := c) dX5_readTowardsOperand_8 (hF _ _ rfl) rfl (by omega) (by decide) ?_
  refine s_istore_n (μ := mX5_readTowardsOperand) (pc := 9) (L2 := [_, _]) dX5_readTowardsOperand_9 rfl (Nat.le_of_ble_eq_true rfl) (Nat.le_of_ble_eq_true rfl) rfl rfl ?_
  refine r_iload_n (μ := mX5_readTowardsOperand) (pc := 10) dX5_readTowardsOperand_10 rfl rfl ?_
  refine sP1 (μ := mX5_readTowardsOperand) (pc := 11) (μ2 := mX5_isDigit) dX5_readTowardsOperand_11 lkX5_78 stX5_isDigit mwX5_isDigit (Nat.le_of_ble_eq_true rfl) k_isDigit ?_
  refine r_if_eq (μ := mX5_readTowardsOperand) (pc := 14) (tgt := 22) dX5_readTowardsOperand_14 (by decide) (fun h_14 => ?_) (fun h_14 => absurd (by rw [show inB (mi 49 c) 48 57 = false from nd_let (lt_in hd)]; rfl) h_14)
  refine r_iload_n (μ := mX5_readTowardsOperand) (pc := 22) dX5_readTowardsOperand_22 rfl rfl ?_
  refine sP1 (μ := mX5_readTowardsOperand) (pc := 23) (μ2 := mX5_isLetter) dX5_readTowardsOperand_23 lkX5_74 stX5_isLetter mwX5_isLetter (Nat.le_of_ble_eq_true rfl) k_isLetter ?_
  refine r_if_eq (μ := mX5_readTowardsOperand) (pc := 26) (tgt := 34) dX5_readTowardsOperand_26 (by decide) (fun h_26 => absurd h_26 (b2i_ne (lt_in hd))) (fun h_26 => ?_)
  refine r_aload_n (μ := mX5_readTowardsOperand) (pc := 29) dX5_readTowardsOperand_29 rfl rfl rfl ?_
  refine vX0 (μ := mX5_readTowardsOperand) (pc := 30) (c0 := 5) (q0 := (RX5, TX5, 14)) (μ2 := mX5_readName) dX5_readTowardsOperand_30 (hF _ _ rfl) rfl lkX5_130 imX5_readName seX5_X5_readName_X5_readName mwX5_readName (Nat.le_of_ble_eq_true rfl) (k_name_long hF hB hR h96 hc hd he hb) (fun r_30 mi_30 h_30 => ?_)
  obtain ⟨rfl, rfl⟩ := h_30
  exact r_iret (μ := mX5_readTowardsOperand) (pc := 33) dX5_readTowardsOperand_33 rfl rfl (PX_i ⟨rfl, hR.fl⟩)

theorem t_name_no {d : Nat} {sh : List Sh} {mi : MI} {mr : MR} (hF : SHC sh) (hB : CB mr) {m0 : MI} {tp ke : Nat} {key : Int32} {c : Nat} {sg out : List Int32} {ops : Nat} (h : RdS m0 mi tp ke key true c sg out ops) (h96 : tp ≤ 96) (hc : c < tp) (hd : ltB tp (mi 49) c = true) {e : Nat} (he : rnE (ltB tp (mi 49)) c = e) {kt : Nat} (hkt : kt < 3) (hk : key = nI kt) (hb : e - c = 1) (hn : ¬ nmB key (mi 49 c) = true) {x : Nat} : CP (d + 6) mX5_readTowardsOperand [.ref 48] sh mi mr 0 0 (PX sh mr (fun r mi2 => StP m0 mi2 tp ke key c x r (none))) := by
  have hR := h
  obtain ⟨hA, ⟨e1, e2, e3, e4, e5, e6⟩, ⟨e8, e9, e11, e12, e13⟩, hL, hS⟩ := h
  refine CP.of (L := [_, _]) (by decide) rfl rfl (Nat.le_of_ble_eq_true rfl) ?_
  refine r_aload_n (μ := mX5_readTowardsOperand) (pc := 0) dX5_readTowardsOperand_0 rfl rfl rfl ?_
  refine r_getR (μ := mX5_readTowardsOperand) (pc := 1) dX5_readTowardsOperand_1 fpX5_9 rfl (hF _ _ rfl) (by decide) (hB _ _ _ rfl) ?_
  refine r_aload_n (μ := mX5_readTowardsOperand) (pc := 4) dX5_readTowardsOperand_4 rfl rfl rfl ?_
  refine r_getI (μ := mX5_readTowardsOperand) (pc := 5) dX5_readTowardsOperand_5 fpX5_19 rfl (hF _ _ rfl) (by decide) ?_
  rw [e2]
  refine r_iaload (μ := mX5_readTowardsOperand) (pc := 8) (j := c) dX5_readTowardsOperand_8 (hF _ _ rfl) rfl (by omega) (by decide) ?_
  refine s_istore_n (μ := mX5_readTowardsOperand) (pc := 9) (L2 := [_, _]) dX5_readTowardsOperand_9 rfl (Nat.le_of_ble_eq_true rfl) (Nat.le_of_ble_eq_true rfl) rfl rfl ?_
  refine r_iload_n (μ := mX5_readTowardsOperand) (pc := 10) dX5_readTowardsOperand_10 rfl rfl ?_
  refine sP1 (μ := mX5_readTowardsOperand) (pc := 11) (μ2 := mX5_isDigit) dX5_readTowardsOperand_11 lkX5_78 stX5_isDigit mwX5_isDigit (Nat.le_of_ble_eq_true rfl) k_isDigit ?_
  refine r_if_eq (μ := mX5_readTowardsOperand) (pc := 14) (tgt := 22) dX5_readTowardsOperand_14 (by decide) (fun h_14 => ?_) (fun h_14 => absurd (by rw [show inB (mi 49 c) 48 57 = false from nd_let (lt_in hd)]; rfl) h_14)
  refine r_iload_n (μ := mX5_readTowardsOperand) (pc := 22) dX5_readTowardsOperand_22 rfl rfl ?_
  refine sP1 (μ := mX5_readTowardsOperand) (pc := 23) (μ2 := mX5_isLetter) dX5_readTowardsOperand_23 lkX5_74 stX5_isLetter mwX5_isLetter (Nat.le_of_ble_eq_true rfl) k_isLetter ?_
  refine r_if_eq (μ := mX5_readTowardsOperand) (pc := 26) (tgt := 34) dX5_readTowardsOperand_26 (by decide) (fun h_26 => absurd h_26 (b2i_ne (lt_in hd))) (fun h_26 => ?_)
  refine r_aload_n (μ := mX5_readTowardsOperand) (pc := 29) dX5_readTowardsOperand_29 rfl rfl rfl ?_
  refine vX0 (μ := mX5_readTowardsOperand) (pc := 30) (c0 := 5) (q0 := (RX5, TX5, 14)) (μ2 := mX5_readName) dX5_readTowardsOperand_30 (hF _ _ rfl) rfl lkX5_130 imX5_readName seX5_X5_readName_X5_readName mwX5_readName (Nat.le_of_ble_eq_true rfl) (k_name_no hF hB hR h96 hc hd he hkt hk hb hn) (fun r_30 mi_30 h_30 => ?_)
  obtain ⟨rfl, rfl⟩ := h_30
  exact r_iret (μ := mX5_readTowardsOperand) (pc := 33) dX5_readTowardsOperand_33 rfl rfl (PX_i ⟨rfl, hR.fl⟩)

theorem t_name {d : Nat} {sh : List Sh} {mi : MI} {mr : MR} (hF : SHC sh) (hB : CB mr) {m0 : MI} {tp ke : Nat} {key : Int32} {c : Nat} {sg out : List Int32} {ops : Nat} (h : RdS m0 mi tp ke key true c sg out ops) (h96 : tp ≤ 96) (hc : c < tp) (hd : ltB tp (mi 49) c = true) {e : Nat} (he : rnE (ltB tp (mi 49)) c = e) {kt : Nat} (hkt : kt < 3) (hk : key = nI kt) (hb : e - c = 1) (hn : nmB key (mi 49 c) = true) (hlen : sg.length + out.length ≤ 95) : CP (d + 6) mX5_readTowardsOperand [.ref 48] sh mi mr 0 0 (PX sh mr (fun r mi2 => StP m0 mi2 tp ke key c (c + 1) r (some (false, (clS sg (out ++ [nI (10000 + nmP key (mi 49 c))])).1, (clS sg (out ++ [nI (10000 + nmP key (mi 49 c))])).2, ops + 1)))) := by
  have hR := h
  obtain ⟨hA, ⟨e1, e2, e3, e4, e5, e6⟩, ⟨e8, e9, e11, e12, e13⟩, hL, hS⟩ := h
  refine CP.of (L := [_, _]) (by decide) rfl rfl (Nat.le_of_ble_eq_true rfl) ?_
  refine r_aload_n (μ := mX5_readTowardsOperand) (pc := 0) dX5_readTowardsOperand_0 rfl rfl rfl ?_
  refine r_getR (μ := mX5_readTowardsOperand) (pc := 1) dX5_readTowardsOperand_1 fpX5_9 rfl (hF _ _ rfl) (by decide) (hB _ _ _ rfl) ?_
  refine r_aload_n (μ := mX5_readTowardsOperand) (pc := 4) dX5_readTowardsOperand_4 rfl rfl rfl ?_
  refine r_getI (μ := mX5_readTowardsOperand) (pc := 5) dX5_readTowardsOperand_5 fpX5_19 rfl (hF _ _ rfl) (by decide) ?_
  rw [e2]
  refine r_iaload (μ := mX5_readTowardsOperand) (pc := 8) (j := c) dX5_readTowardsOperand_8 (hF _ _ rfl) rfl (by omega) (by decide) ?_
  refine s_istore_n (μ := mX5_readTowardsOperand) (pc := 9) (L2 := [_, _]) dX5_readTowardsOperand_9 rfl (Nat.le_of_ble_eq_true rfl) (Nat.le_of_ble_eq_true rfl) rfl rfl ?_
  refine r_iload_n (μ := mX5_readTowardsOperand) (pc := 10) dX5_readTowardsOperand_10 rfl rfl ?_
  refine sP1 (μ := mX5_readTowardsOperand) (pc := 11) (μ2 := mX5_isDigit) dX5_readTowardsOperand_11 lkX5_78 stX5_isDigit mwX5_isDigit (Nat.le_of_ble_eq_true rfl) k_isDigit ?_
  refine r_if_eq (μ := mX5_readTowardsOperand) (pc := 14) (tgt := 22) dX5_readTowardsOperand_14 (by decide) (fun h_14 => ?_) (fun h_14 => absurd (by rw [show inB (mi 49 c) 48 57 = false from nd_let (lt_in hd)]; rfl) h_14)
  refine r_iload_n (μ := mX5_readTowardsOperand) (pc := 22) dX5_readTowardsOperand_22 rfl rfl ?_
  refine sP1 (μ := mX5_readTowardsOperand) (pc := 23) (μ2 := mX5_isLetter) dX5_readTowardsOperand_23 lkX5_74 stX5_isLetter mwX5_isLetter (Nat.le_of_ble_eq_true rfl) k_isLetter ?_
  refine r_if_eq (μ := mX5_readTowardsOperand) (pc := 26) (tgt := 34) dX5_readTowardsOperand_26 (by decide) (fun h_26 => absurd h_26 (b2i_ne (lt_in hd))) (fun h_26 => ?_)
  refine r_aload_n (μ := mX5_readTowardsOperand) (pc := 29) dX5_readTowardsOperand_29 rfl rfl rfl ?_
  refine vX0 (μ := mX5_readTowardsOperand) (pc := 30) (c0 := 5) (q0 := (RX5, TX5, 14)) (μ2 := mX5_readName) dX5_readTowardsOperand_30 (hF _ _ rfl) rfl lkX5_130 imX5_readName seX5_X5_readName_X5_readName mwX5_readName (Nat.le_of_ble_eq_true rfl) (k_name hF hB hR h96 hc hd he hkt hk hb hn hlen) (fun r_30 mi_30 h_30 => ?_)
  obtain ⟨rfl, h30⟩ := h_30
  exact r_iret (μ := mX5_readTowardsOperand) (pc := 33) dX5_readTowardsOperand_33 rfl rfl (PX_i ⟨rfl, h30⟩)

theorem t_not {d : Nat} {sh : List Sh} {mi : MI} {mr : MR} (hF : SHC sh) (hB : CB mr) {m0 : MI} {tp ke : Nat} {key : Int32} {c : Nat} {sg out : List Int32} {ops : Nat} (h : RdS m0 mi tp ke key true c sg out ops) (h96 : tp ≤ 96) (hc : c < tp) (hd : dgB tp (mi 49) c = false) (hl : ltB tp (mi 49) c = false) (hx : mi 49 c = 33) (h8 : cntL 33 sg < 8) (hlen : sg.length + out.length ≤ 95) : CP (d + 6) mX5_readTowardsOperand [.ref 48] sh mi mr 0 0 (PX sh mr (fun r mi2 => StP m0 mi2 tp ke key c (c + 1) r (some (true, 33 :: sg, out, ops)))) := by
  have hR := h
  obtain ⟨hA, ⟨e1, e2, e3, e4, e5, e6⟩, ⟨e8, e9, e11, e12, e13⟩, hL, hS⟩ := h
  have hd0 : inB (mi 49 c) 48 57 = false := by unfold dgB at hd; rw [decide_eq_true hc, Bool.true_and] at hd; exact hd
  have hl0 : inB (mi 49 c) 97 122 = false := by unfold ltB at hl; rw [decide_eq_true hc, Bool.true_and] at hl; exact hl
  have c33 := cnt_len 33 sg
  have c40 := cnt_len 40 sg
  refine CP.of (L := [_, _]) (by decide) rfl rfl (Nat.le_of_ble_eq_true rfl) ?_
  refine r_aload_n (μ := mX5_readTowardsOperand) (pc := 0) dX5_readTowardsOperand_0 rfl rfl rfl ?_
  refine r_getR (μ := mX5_readTowardsOperand) (pc := 1) dX5_readTowardsOperand_1 fpX5_9 rfl (hF _ _ rfl) (by decide) (hB _ _ _ rfl) ?_
  refine r_aload_n (μ := mX5_readTowardsOperand) (pc := 4) dX5_readTowardsOperand_4 rfl rfl rfl ?_
  refine r_getI (μ := mX5_readTowardsOperand) (pc := 5) dX5_readTowardsOperand_5 fpX5_19 rfl (hF _ _ rfl) (by decide) ?_
  rw [e2]
  refine r_iaload (μ := mX5_readTowardsOperand) (pc := 8) (j := c) dX5_readTowardsOperand_8 (hF _ _ rfl) rfl (by omega) (by decide) ?_
  refine s_istore_n (μ := mX5_readTowardsOperand) (pc := 9) (L2 := [_, _]) dX5_readTowardsOperand_9 rfl (Nat.le_of_ble_eq_true rfl) (Nat.le_of_ble_eq_true rfl) rfl rfl ?_
  refine r_iload_n (μ := mX5_readTowardsOperand) (pc := 10) dX5_readTowardsOperand_10 rfl rfl ?_
  refine sP1 (μ := mX5_readTowardsOperand) (pc := 11) (μ2 := mX5_isDigit) dX5_readTowardsOperand_11 lkX5_78 stX5_isDigit mwX5_isDigit (Nat.le_of_ble_eq_true rfl) k_isDigit ?_
  refine r_if_eq (μ := mX5_readTowardsOperand) (pc := 14) (tgt := 22) dX5_readTowardsOperand_14 (by decide) (fun h_14 => ?_) (fun h_14 => absurd (by rw [hd0]; rfl) h_14)
  refine r_iload_n (μ := mX5_readTowardsOperand) (pc := 22) dX5_readTowardsOperand_22 rfl rfl ?_
  refine sP1 (μ := mX5_readTowardsOperand) (pc := 23) (μ2 := mX5_isLetter) dX5_readTowardsOperand_23 lkX5_74 stX5_isLetter mwX5_isLetter (Nat.le_of_ble_eq_true rfl) k_isLetter ?_
  refine r_if_eq (μ := mX5_readTowardsOperand) (pc := 26) (tgt := 34) dX5_readTowardsOperand_26 (by decide) (fun h_26 => ?_) (fun h_26 => absurd (by rw [hl0]; rfl) h_26)
  refine r_iload_n (μ := mX5_readTowardsOperand) (pc := 34) dX5_readTowardsOperand_34 rfl rfl ?_
  refine r_bipush (μ := mX5_readTowardsOperand) (pc := 35) (v := 33) dX5_readTowardsOperand_35 bp_33 ?_
  refine r_icmp_ne (μ := mX5_readTowardsOperand) (pc := 37) (tgt := 62) dX5_readTowardsOperand_37 (by decide) (fun h_37 => absurd hx h_37) (fun h_37 => ?_)
  refine r_aload_n (μ := mX5_readTowardsOperand) (pc := 40) dX5_readTowardsOperand_40 rfl rfl rfl ?_
  refine r_getI (μ := mX5_readTowardsOperand) (pc := 41) dX5_readTowardsOperand_41 fpX5_53 rfl (hF _ _ rfl) (by decide) ?_
  refine r_bipush (μ := mX5_readTowardsOperand) (pc := 44) (v := 8) dX5_readTowardsOperand_44 bp_8 ?_
  refine r_icmp_ge (μ := mX5_readTowardsOperand) (pc := 46) (tgt := 62) dX5_readTowardsOperand_46 (by decide) (fun h_46 => absurd h_46 (by rw [e13]; exact nI_ge (b := 8) h8 (by decide))) (fun h_46 => ?_)
  refine r_aload_n (μ := mX5_readTowardsOperand) (pc := 49) dX5_readTowardsOperand_49 rfl rfl rfl ?_
  refine r_dup (μ := mX5_readTowardsOperand) (pc := 50) dX5_readTowardsOperand_50 rfl ?_
  refine r_getI (μ := mX5_readTowardsOperand) (pc := 51) dX5_readTowardsOperand_51 fpX5_53 rfl (hF _ _ rfl) (by decide) ?_
  rw [e13]
  refine r_iconst (μ := mX5_readTowardsOperand) (pc := 54) (v := 1) dX5_readTowardsOperand_54 ic_1 ?_
  refine r_iadd (μ := mX5_readTowardsOperand) (pc := 55) dX5_readTowardsOperand_55 ?_
  rw [show nI (cntL 33 sg) + 1 = nI (cntL 33 sg + 1) from (nI_succ _).symm]
  refine r_putI (μ := mX5_readTowardsOperand) (pc := 56) dX5_readTowardsOperand_56 fwX5_53 (hF _ _ rfl) (by decide) rfl ?_
  refine r_goto (μ := mX5_readTowardsOperand) (pc := 59) (tgt := 92) dX5_readTowardsOperand_59 (by decide) ?_
  refine r_aload_n (μ := mX5_readTowardsOperand) (pc := 92) dX5_readTowardsOperand_92 rfl rfl rfl ?_
  refine r_iload_n (μ := mX5_readTowardsOperand) (pc := 93) dX5_readTowardsOperand_93 rfl rfl ?_
  refine vV1 (μ := mX5_readTowardsOperand) (pc := 94) (c0 := 5) (q0 := (RX5, TX5, 14)) (μ2 := mX5_pushSign) dX5_readTowardsOperand_94 (hF _ _ rfl) rfl lkX5_133 imX5_pushSign seX5_X5_pushSign_X5_pushSign mwX5_pushSign (Nat.le_of_ble_eq_true rfl) (k_pushSign hF hB (w := sg.length) (c := c) (by rw [up_ne (by decide)]; exact e11) (by omega) (by rw [up_ne (by decide)]; exact e2)) (fun mi_94 h_94 => ?_)
  subst h_94
  refine r_iconst (μ := mX5_readTowardsOperand) (pc := 97) (v := 1) dX5_readTowardsOperand_97 ic_1 ?_
  exact r_iret (μ := mX5_readTowardsOperand) (pc := 98) dX5_readTowardsOperand_98 rfl rfl (PX_i ⟨rfl, by rw [hx]; exact (hR.psh (a := cntL 40 sg) (b := cntL 33 sg + 1) 33 true rfl rfl (fun a x y => by simp [upI_ne x, upI_ne y]) (by simp [u5148, upI_row]) (by rintro j (rfl | rfl | rfl | rfl | rfl | rfl) <;> simp [upF, u4850, u4851, u5048, u5148, u5150]) (by simp [upF, u4850, u4851, u5048, u5148, u5150, *]) (by simp [upF, u4850, u4851, u5048, u5148, u5150, *]) (by simp [upF, u4850, u4851, u5048, u5148, u5150, *]) (by simp [upF, u4850, u4851, u5048, u5148, u5150, *]) (by simp [upF, u4850, u4851, u5048, u5148, u5150, *]))⟩)

theorem t_brk {d : Nat} {sh : List Sh} {mi : MI} {mr : MR} (hF : SHC sh) (hB : CB mr) {m0 : MI} {tp ke : Nat} {key : Int32} {c : Nat} {sg out : List Int32} {ops : Nat} (h : RdS m0 mi tp ke key true c sg out ops) (h96 : tp ≤ 96) (hc : c < tp) (hd : dgB tp (mi 49) c = false) (hl : ltB tp (mi 49) c = false) (hx : mi 49 c = 40) (h8 : cntL 40 sg < 8) (hlen : sg.length + out.length ≤ 95) : CP (d + 6) mX5_readTowardsOperand [.ref 48] sh mi mr 0 0 (PX sh mr (fun r mi2 => StP m0 mi2 tp ke key c (c + 1) r (some (true, 40 :: sg, out, ops)))) := by
  have hR := h
  obtain ⟨hA, ⟨e1, e2, e3, e4, e5, e6⟩, ⟨e8, e9, e11, e12, e13⟩, hL, hS⟩ := h
  have hd0 : inB (mi 49 c) 48 57 = false := by unfold dgB at hd; rw [decide_eq_true hc, Bool.true_and] at hd; exact hd
  have hl0 : inB (mi 49 c) 97 122 = false := by unfold ltB at hl; rw [decide_eq_true hc, Bool.true_and] at hl; exact hl
  have c33 := cnt_len 33 sg
  have c40 := cnt_len 40 sg
  refine CP.of (L := [_, _]) (by decide) rfl rfl (Nat.le_of_ble_eq_true rfl) ?_
  refine r_aload_n (μ := mX5_readTowardsOperand) (pc := 0) dX5_readTowardsOperand_0 rfl rfl rfl ?_
  refine r_getR (μ := mX5_readTowardsOperand) (pc := 1) dX5_readTowardsOperand_1 fpX5_9 rfl (hF _ _ rfl) (by decide) (hB _ _ _ rfl) ?_
  refine r_aload_n (μ := mX5_readTowardsOperand) (pc := 4) dX5_readTowardsOperand_4 rfl rfl rfl ?_
  refine r_getI (μ := mX5_readTowardsOperand) (pc := 5) dX5_readTowardsOperand_5 fpX5_19 rfl (hF _ _ rfl) (by decide) ?_
  rw [e2]
  refine r_iaload (μ := mX5_readTowardsOperand) (pc := 8) (j := c) dX5_readTowardsOperand_8 (hF _ _ rfl) rfl (by omega) (by decide) ?_
  refine s_istore_n (μ := mX5_readTowardsOperand) (pc := 9) (L2 := [_, _]) dX5_readTowardsOperand_9 rfl (Nat.le_of_ble_eq_true rfl) (Nat.le_of_ble_eq_true rfl) rfl rfl ?_
  refine r_iload_n (μ := mX5_readTowardsOperand) (pc := 10) dX5_readTowardsOperand_10 rfl rfl ?_
  refine sP1 (μ := mX5_readTowardsOperand) (pc := 11) (μ2 := mX5_isDigit) dX5_readTowardsOperand_11 lkX5_78 stX5_isDigit mwX5_isDigit (Nat.le_of_ble_eq_true rfl) k_isDigit ?_
  refine r_if_eq (μ := mX5_readTowardsOperand) (pc := 14) (tgt := 22) dX5_readTowardsOperand_14 (by decide) (fun h_14 => ?_) (fun h_14 => absurd (by rw [hd0]; rfl) h_14)
  refine r_iload_n (μ := mX5_readTowardsOperand) (pc := 22) dX5_readTowardsOperand_22 rfl rfl ?_
  refine sP1 (μ := mX5_readTowardsOperand) (pc := 23) (μ2 := mX5_isLetter) dX5_readTowardsOperand_23 lkX5_74 stX5_isLetter mwX5_isLetter (Nat.le_of_ble_eq_true rfl) k_isLetter ?_
  refine r_if_eq (μ := mX5_readTowardsOperand) (pc := 26) (tgt := 34) dX5_readTowardsOperand_26 (by decide) (fun h_26 => ?_) (fun h_26 => absurd (by rw [hl0]; rfl) h_26)
  refine r_iload_n (μ := mX5_readTowardsOperand) (pc := 34) dX5_readTowardsOperand_34 rfl rfl ?_
  refine r_bipush (μ := mX5_readTowardsOperand) (pc := 35) (v := 33) dX5_readTowardsOperand_35 bp_33 ?_
  refine r_icmp_ne (μ := mX5_readTowardsOperand) (pc := 37) (tgt := 62) dX5_readTowardsOperand_37 (by decide) (fun h_37 => ?_) (fun h_37 => absurd h_37 (by rw [hx]; decide))
  refine r_iload_n (μ := mX5_readTowardsOperand) (pc := 62) dX5_readTowardsOperand_62 rfl rfl ?_
  refine r_bipush (μ := mX5_readTowardsOperand) (pc := 63) (v := 40) dX5_readTowardsOperand_63 bp_40 ?_
  refine r_icmp_ne (μ := mX5_readTowardsOperand) (pc := 65) (tgt := 90) dX5_readTowardsOperand_65 (by decide) (fun h_65 => absurd hx h_65) (fun h_65 => ?_)
  refine r_aload_n (μ := mX5_readTowardsOperand) (pc := 68) dX5_readTowardsOperand_68 rfl rfl rfl ?_
  refine r_getI (μ := mX5_readTowardsOperand) (pc := 69) dX5_readTowardsOperand_69 fpX5_50 rfl (hF _ _ rfl) (by decide) ?_
  refine r_bipush (μ := mX5_readTowardsOperand) (pc := 72) (v := 8) dX5_readTowardsOperand_72 bp_8 ?_
  refine r_icmp_ge (μ := mX5_readTowardsOperand) (pc := 74) (tgt := 90) dX5_readTowardsOperand_74 (by decide) (fun h_74 => absurd h_74 (by rw [e12]; exact nI_ge (b := 8) h8 (by decide))) (fun h_74 => ?_)
  refine r_aload_n (μ := mX5_readTowardsOperand) (pc := 77) dX5_readTowardsOperand_77 rfl rfl rfl ?_
  refine r_dup (μ := mX5_readTowardsOperand) (pc := 78) dX5_readTowardsOperand_78 rfl ?_
  refine r_getI (μ := mX5_readTowardsOperand) (pc := 79) dX5_readTowardsOperand_79 fpX5_50 rfl (hF _ _ rfl) (by decide) ?_
  rw [e12]
  refine r_iconst (μ := mX5_readTowardsOperand) (pc := 82) (v := 1) dX5_readTowardsOperand_82 ic_1 ?_
  refine r_iadd (μ := mX5_readTowardsOperand) (pc := 83) dX5_readTowardsOperand_83 ?_
  rw [show nI (cntL 40 sg) + 1 = nI (cntL 40 sg + 1) from (nI_succ _).symm]
  refine r_putI (μ := mX5_readTowardsOperand) (pc := 84) dX5_readTowardsOperand_84 fwX5_50 (hF _ _ rfl) (by decide) rfl ?_
  refine r_goto (μ := mX5_readTowardsOperand) (pc := 87) (tgt := 92) dX5_readTowardsOperand_87 (by decide) ?_
  refine r_aload_n (μ := mX5_readTowardsOperand) (pc := 92) dX5_readTowardsOperand_92 rfl rfl rfl ?_
  refine r_iload_n (μ := mX5_readTowardsOperand) (pc := 93) dX5_readTowardsOperand_93 rfl rfl ?_
  refine vV1 (μ := mX5_readTowardsOperand) (pc := 94) (c0 := 5) (q0 := (RX5, TX5, 14)) (μ2 := mX5_pushSign) dX5_readTowardsOperand_94 (hF _ _ rfl) rfl lkX5_133 imX5_pushSign seX5_X5_pushSign_X5_pushSign mwX5_pushSign (Nat.le_of_ble_eq_true rfl) (k_pushSign hF hB (w := sg.length) (c := c) (by rw [up_ne (by decide)]; exact e11) (by omega) (by rw [up_ne (by decide)]; exact e2)) (fun mi_94 h_94 => ?_)
  subst h_94
  refine r_iconst (μ := mX5_readTowardsOperand) (pc := 97) (v := 1) dX5_readTowardsOperand_97 ic_1 ?_
  exact r_iret (μ := mX5_readTowardsOperand) (pc := 98) dX5_readTowardsOperand_98 rfl rfl (PX_i ⟨rfl, by rw [hx]; exact (hR.psh (a := cntL 40 sg + 1) (b := cntL 33 sg) 40 true rfl rfl (fun a x y => by simp [upI_ne x, upI_ne y]) (by simp [u5148, upI_row]) (by rintro j (rfl | rfl | rfl | rfl | rfl | rfl) <;> simp [upF, u4850, u4851, u5048, u5148, u5150]) (by simp [upF, u4850, u4851, u5048, u5148, u5150, *]) (by simp [upF, u4850, u4851, u5048, u5148, u5150, *]) (by simp [upF, u4850, u4851, u5048, u5148, u5150, *]) (by simp [upF, u4850, u4851, u5048, u5148, u5150, *]) (by simp [upF, u4850, u4851, u5048, u5148, u5150, *]))⟩)

theorem t_bad {d : Nat} {sh : List Sh} {mi : MI} {mr : MR} (hF : SHC sh) (hB : CB mr) {m0 : MI} {tp ke : Nat} {key : Int32} {c : Nat} {sg out : List Int32} {ops : Nat} (h : RdS m0 mi tp ke key true c sg out ops) (h96 : tp ≤ 96) (hc : c < tp) (hd : dgB tp (mi 49) c = false) (hl : ltB tp (mi 49) c = false) (h33 : ¬ (mi 49 c = 33 ∧ cntL 33 sg < 8)) (h40 : ¬ (mi 49 c = 40 ∧ cntL 40 sg < 8)) (hlen : sg.length + out.length ≤ 95) {x : Nat} : CP (d + 6) mX5_readTowardsOperand [.ref 48] sh mi mr 0 0 (PX sh mr (fun r mi2 => StP m0 mi2 tp ke key c x r (none))) := by
  have hR := h
  obtain ⟨hA, ⟨e1, e2, e3, e4, e5, e6⟩, ⟨e8, e9, e11, e12, e13⟩, hL, hS⟩ := h
  have hd0 : inB (mi 49 c) 48 57 = false := by unfold dgB at hd; rw [decide_eq_true hc, Bool.true_and] at hd; exact hd
  have hl0 : inB (mi 49 c) 97 122 = false := by unfold ltB at hl; rw [decide_eq_true hc, Bool.true_and] at hl; exact hl
  have c33 := cnt_len 33 sg
  have c40 := cnt_len 40 sg
  refine CP.of (L := [_, _]) (by decide) rfl rfl (Nat.le_of_ble_eq_true rfl) ?_
  refine r_aload_n (μ := mX5_readTowardsOperand) (pc := 0) dX5_readTowardsOperand_0 rfl rfl rfl ?_
  refine r_getR (μ := mX5_readTowardsOperand) (pc := 1) dX5_readTowardsOperand_1 fpX5_9 rfl (hF _ _ rfl) (by decide) (hB _ _ _ rfl) ?_
  refine r_aload_n (μ := mX5_readTowardsOperand) (pc := 4) dX5_readTowardsOperand_4 rfl rfl rfl ?_
  refine r_getI (μ := mX5_readTowardsOperand) (pc := 5) dX5_readTowardsOperand_5 fpX5_19 rfl (hF _ _ rfl) (by decide) ?_
  rw [e2]
  refine r_iaload (μ := mX5_readTowardsOperand) (pc := 8) (j := c) dX5_readTowardsOperand_8 (hF _ _ rfl) rfl (by omega) (by decide) ?_
  refine s_istore_n (μ := mX5_readTowardsOperand) (pc := 9) (L2 := [_, _]) dX5_readTowardsOperand_9 rfl (Nat.le_of_ble_eq_true rfl) (Nat.le_of_ble_eq_true rfl) rfl rfl ?_
  refine r_iload_n (μ := mX5_readTowardsOperand) (pc := 10) dX5_readTowardsOperand_10 rfl rfl ?_
  refine sP1 (μ := mX5_readTowardsOperand) (pc := 11) (μ2 := mX5_isDigit) dX5_readTowardsOperand_11 lkX5_78 stX5_isDigit mwX5_isDigit (Nat.le_of_ble_eq_true rfl) k_isDigit ?_
  refine r_if_eq (μ := mX5_readTowardsOperand) (pc := 14) (tgt := 22) dX5_readTowardsOperand_14 (by decide) (fun h_14 => ?_) (fun h_14 => absurd (by rw [hd0]; rfl) h_14)
  refine r_iload_n (μ := mX5_readTowardsOperand) (pc := 22) dX5_readTowardsOperand_22 rfl rfl ?_
  refine sP1 (μ := mX5_readTowardsOperand) (pc := 23) (μ2 := mX5_isLetter) dX5_readTowardsOperand_23 lkX5_74 stX5_isLetter mwX5_isLetter (Nat.le_of_ble_eq_true rfl) k_isLetter ?_
  refine r_if_eq (μ := mX5_readTowardsOperand) (pc := 26) (tgt := 34) dX5_readTowardsOperand_26 (by decide) (fun h_26 => ?_) (fun h_26 => absurd (by rw [hl0]; rfl) h_26)
  refine r_iload_n (μ := mX5_readTowardsOperand) (pc := 34) dX5_readTowardsOperand_34 rfl rfl ?_
  refine r_bipush (μ := mX5_readTowardsOperand) (pc := 35) (v := 33) dX5_readTowardsOperand_35 bp_33 ?_
  refine r_icmp_ne (μ := mX5_readTowardsOperand) (pc := 37) (tgt := 62) dX5_readTowardsOperand_37 (by decide) (fun h_37 => ?_) (fun h_37 => ?_)
  · refine r_iload_n (μ := mX5_readTowardsOperand) (pc := 62) dX5_readTowardsOperand_62 rfl rfl ?_
    refine r_bipush (μ := mX5_readTowardsOperand) (pc := 63) (v := 40) dX5_readTowardsOperand_63 bp_40 ?_
    refine r_icmp_ne (μ := mX5_readTowardsOperand) (pc := 65) (tgt := 90) dX5_readTowardsOperand_65 (by decide) (fun h_65 => ?_) (fun h_65 => ?_)
    · refine r_iconst (μ := mX5_readTowardsOperand) (pc := 90) (v := 0) dX5_readTowardsOperand_90 ic_0 ?_
      exact r_iret (μ := mX5_readTowardsOperand) (pc := 91) dX5_readTowardsOperand_91 rfl rfl (PX_i ⟨rfl, hR.fl⟩)
    · refine r_aload_n (μ := mX5_readTowardsOperand) (pc := 68) dX5_readTowardsOperand_68 rfl rfl rfl ?_
      refine r_getI (μ := mX5_readTowardsOperand) (pc := 69) dX5_readTowardsOperand_69 fpX5_50 rfl (hF _ _ rfl) (by decide) ?_
      rw [e12]
      refine r_bipush (μ := mX5_readTowardsOperand) (pc := 72) (v := 8) dX5_readTowardsOperand_72 bp_8 ?_
      refine r_icmp_ge (μ := mX5_readTowardsOperand) (pc := 74) (tgt := 90) dX5_readTowardsOperand_74 (by decide) (fun h_74 => ?_) (fun h_74 => ?_)
      · refine r_iconst (μ := mX5_readTowardsOperand) (pc := 90) (v := 0) dX5_readTowardsOperand_90 ic_0 ?_
        exact r_iret (μ := mX5_readTowardsOperand) (pc := 91) dX5_readTowardsOperand_91 rfl rfl (PX_i ⟨rfl, hR.fl⟩)
      · exact absurd ⟨h_65, by have := mt (nI_leI (a := 8) (b := cntL 40 sg) (by decide) (by omega)).mpr h_74; omega⟩ h40
  · refine r_aload_n (μ := mX5_readTowardsOperand) (pc := 40) dX5_readTowardsOperand_40 rfl rfl rfl ?_
    refine r_getI (μ := mX5_readTowardsOperand) (pc := 41) dX5_readTowardsOperand_41 fpX5_53 rfl (hF _ _ rfl) (by decide) ?_
    rw [e13]
    refine r_bipush (μ := mX5_readTowardsOperand) (pc := 44) (v := 8) dX5_readTowardsOperand_44 bp_8 ?_
    refine r_icmp_ge (μ := mX5_readTowardsOperand) (pc := 46) (tgt := 62) dX5_readTowardsOperand_46 (by decide) (fun h_46 => ?_) (fun h_46 => ?_)
    · refine r_iload_n (μ := mX5_readTowardsOperand) (pc := 62) dX5_readTowardsOperand_62 rfl rfl ?_
      refine r_bipush (μ := mX5_readTowardsOperand) (pc := 63) (v := 40) dX5_readTowardsOperand_63 bp_40 ?_
      refine r_icmp_ne (μ := mX5_readTowardsOperand) (pc := 65) (tgt := 90) dX5_readTowardsOperand_65 (by decide) (fun h_65 => ?_) (fun h_65 => ?_)
      · refine r_iconst (μ := mX5_readTowardsOperand) (pc := 90) (v := 0) dX5_readTowardsOperand_90 ic_0 ?_
        exact r_iret (μ := mX5_readTowardsOperand) (pc := 91) dX5_readTowardsOperand_91 rfl rfl (PX_i ⟨rfl, hR.fl⟩)
      · refine r_aload_n (μ := mX5_readTowardsOperand) (pc := 68) dX5_readTowardsOperand_68 rfl rfl rfl ?_
        refine r_getI (μ := mX5_readTowardsOperand) (pc := 69) dX5_readTowardsOperand_69 fpX5_50 rfl (hF _ _ rfl) (by decide) ?_
        rw [e12]
        refine r_bipush (μ := mX5_readTowardsOperand) (pc := 72) (v := 8) dX5_readTowardsOperand_72 bp_8 ?_
        refine r_icmp_ge (μ := mX5_readTowardsOperand) (pc := 74) (tgt := 90) dX5_readTowardsOperand_74 (by decide) (fun h_74 => ?_) (fun h_74 => ?_)
        · refine r_iconst (μ := mX5_readTowardsOperand) (pc := 90) (v := 0) dX5_readTowardsOperand_90 ic_0 ?_
          exact r_iret (μ := mX5_readTowardsOperand) (pc := 91) dX5_readTowardsOperand_91 rfl rfl (PX_i ⟨rfl, hR.fl⟩)
        · exact absurd ⟨h_65, by have := mt (nI_leI (a := 8) (b := cntL 40 sg) (by decide) (by omega)).mpr h_74; omega⟩ h40
    · exact absurd ⟨h_37, by have := mt (nI_leI (a := 8) (b := cntL 33 sg) (by decide) (by omega)).mpr h_46; omega⟩ h33

