theorem upF {mi : MI} {a k j : Nat} {v : Int32} : upI mi a k v a j = if j = k then v else mi a j := by
  by_cases h : j = k
  · subst h; rw [if_pos rfl, up_eq]
  · rw [if_neg h, up_ne h]
theorem u4850 {mi : MI} {k : Nat} {v : Int32} : upI mi 50 k v 48 = mi 48 := upI_ne (by decide)
theorem u4851 {mi : MI} {k : Nat} {v : Int32} : upI mi 51 k v 48 = mi 48 := upI_ne (by decide)
theorem u5048 {mi : MI} {k : Nat} {v : Int32} : upI mi 48 k v 50 = mi 50 := upI_ne (by decide)
theorem u5148 {mi : MI} {k : Nat} {v : Int32} : upI mi 48 k v 51 = mi 51 := upI_ne (by decide)
theorem u5150 {mi : MI} {k : Nat} {v : Int32} : upI mi 50 k v 51 = mi 51 := upI_ne (by decide)
theorem u4948 {mi : MI} {k : Nat} {v : Int32} : upI mi 48 k v 49 = mi 49 := upI_ne (by decide)

section
variable {m0 mi : MI} {tp ke : Nat} {key : Int32} {due : Bool} {c : Nat} {sg out : List Int32} {ops : Nat}
theorem RdS.du (h : RdS m0 mi tp ke key due c sg out ops) (d2 : Bool) : RdS m0 (upI mi 48 6 (b2i d2)) tp ke key d2 c sg out ops := by
  have hR := h
  obtain ⟨hA, ⟨e1, e2, e3, e4, e5, e6⟩, ⟨e8, e9, e11, e12, e13⟩, hL, hS⟩ := h
  exact hR.fld (due2 := d2) (fun a x => upI_ne x) (by rintro j (rfl | rfl | rfl | rfl | rfl) <;> simp [upF, u4850, u4851, u5048, u5148, u5150]) (by simp [upF, u4850, u4851, u5048, u5148, u5150, *]) (by simp [upF, u4850, u4851, u5048, u5148, u5150, *]) (by simp [upF, u4850, u4851, u5048, u5148, u5150, *]) (by simp [upF, u4850, u4851, u5048, u5148, u5150, *]) (by simp [upF, u4850, u4851, u5048, u5148, u5150, *]) (by simp [upF, u4850, u4851, u5048, u5148, u5150, *]) hS
theorem RdS.at_ (h : RdS m0 mi tp ke key due c sg out ops) (c2 : Nat) : RdS m0 (upI mi 48 2 (nI c2)) tp ke key due c2 sg out ops := by
  have hR := h
  obtain ⟨hA, ⟨e1, e2, e3, e4, e5, e6⟩, ⟨e8, e9, e11, e12, e13⟩, hL, hS⟩ := h
  exact hR.fld (due2 := due) (fun a x => upI_ne x) (by rintro j (rfl | rfl | rfl | rfl | rfl) <;> simp [upF, u4850, u4851, u5048, u5148, u5150]) (by simp [upF, u4850, u4851, u5048, u5148, u5150, *]) (by simp [upF, u4850, u4851, u5048, u5148, u5150, *]) (by simp [upF, u4850, u4851, u5048, u5148, u5150, *]) (by simp [upF, u4850, u4851, u5048, u5148, u5150, *]) (by simp [upF, u4850, u4851, u5048, u5148, u5150, *]) (by simp [upF, u4850, u4851, u5048, u5148, u5150, *]) hS
theorem RdS.op (h : RdS m0 mi tp ke key due c sg out ops) : RdS m0 (upI mi 48 9 (nI (ops + 1))) tp ke key due c sg out (ops + 1) := by
  have hR := h
  obtain ⟨hA, ⟨e1, e2, e3, e4, e5, e6⟩, ⟨e8, e9, e11, e12, e13⟩, hL, hS⟩ := h
  exact hR.fld (due2 := due) (fun a x => upI_ne x) (by rintro j (rfl | rfl | rfl | rfl | rfl) <;> simp [upF, u4850, u4851, u5048, u5148, u5150]) (by simp [upF, u4850, u4851, u5048, u5148, u5150, *]) (by simp [upF, u4850, u4851, u5048, u5148, u5150, *]) (by simp [upF, u4850, u4851, u5048, u5148, u5150, *]) (by simp [upF, u4850, u4851, u5048, u5148, u5150, *]) (by simp [upF, u4850, u4851, u5048, u5148, u5150, *]) (by simp [upF, u4850, u4851, u5048, u5148, u5150, *]) hS
/-- a not is off the pile -/
theorem RdS.nt {l : List Int32} (h : RdS m0 mi tp ke key due c (33 :: l) out ops) : RdS m0 (upI (upI mi 48 11 (nI l.length)) 48 13 (nI (cntL 33 l))) tp ke key due c l out ops := by
  have hR := h
  obtain ⟨hA, ⟨e1, e2, e3, e4, e5, e6⟩, ⟨e8, e9, e11, e12, e13⟩, hL, hS⟩ := h
  exact hR.fld (due2 := due) (fun a x => by rw [upI_ne x, upI_ne x]) (by rintro j (rfl | rfl | rfl | rfl | rfl) <;> simp [upF, u4850, u4851, u5048, u5148, u5150]) (by simp [upF, u4850, u4851, u5048, u5148, u5150, *]) (by simp [upF, u4850, u4851, u5048, u5148, u5150, *]) (by simp [upF, u4850, u4851, u5048, u5148, u5150, *]) (by simp [upF, u4850, u4851, u5048, u5148, u5150, *]) (by simp [upF, show cntL 40 (33 :: l) = cntL 40 l from rfl, *]) (by simp [upF, u4850, u4851, u5048, u5148, u5150, *]) hS.2
/-- a sign between operands is off the pile -/
theorem RdS.pp {x : Int32} {l : List Int32} (h : RdS m0 mi tp ke key due c (x :: l) out ops) (h33 : ¬ x = 33) (h40 : ¬ x = 40) : RdS m0 (upI mi 48 11 (nI l.length)) tp ke key due c l out ops := by
  have hR := h
  obtain ⟨hA, ⟨e1, e2, e3, e4, e5, e6⟩, ⟨e8, e9, e11, e12, e13⟩, hL, hS⟩ := h
  have q1 : cntL 40 (x :: l) = cntL 40 l := by show cntL 40 l + _ = _; rw [if_neg h40]; rfl
  have q2 : cntL 33 (x :: l) = cntL 33 l := by show cntL 33 l + _ = _; rw [if_neg h33]; rfl
  rw [q1] at e12
  rw [q2] at e13
  exact hR.fld (due2 := due) (fun a x => upI_ne x) (by rintro j (rfl | rfl | rfl | rfl | rfl) <;> simp [upF, u4850, u4851, u5048, u5148, u5150]) (by simp [upF, u4850, u4851, u5048, u5148, u5150, *]) (by simp [upF, u4850, u4851, u5048, u5148, u5150, *]) (by simp [upF, u4850, u4851, u5048, u5148, u5150, *]) (by simp [upF, u4850, u4851, u5048, u5148, u5150, *]) (by simp [upF, u4850, u4851, u5048, u5148, u5150, *]) (by simp [upF, u4850, u4851, u5048, u5148, u5150, *]) hS.2
/-- an opening bracket is off the pile -/
theorem RdS.br {l : List Int32} (h : RdS m0 mi tp ke key due c (40 :: l) out ops) : RdS m0 (upI (upI (upI mi 48 11 (nI l.length)) 48 12 (nI (cntL 40 l))) 48 2 (nI (c + 1))) tp ke key due (c + 1) l out ops := by
  have hR := h
  obtain ⟨hA, ⟨e1, e2, e3, e4, e5, e6⟩, ⟨e8, e9, e11, e12, e13⟩, hL, hS⟩ := h
  exact hR.fld (due2 := due) (fun a x => by rw [upI_ne x, upI_ne x, upI_ne x]) (by rintro j (rfl | rfl | rfl | rfl | rfl) <;> simp [upF, u4850, u4851, u5048, u5148, u5150]) (by simp [upF, u4850, u4851, u5048, u5148, u5150, *]) (by simp [upF, u4850, u4851, u5048, u5148, u5150, *]) (by simp [upF, u4850, u4851, u5048, u5148, u5150, *]) (by simp [upF, u4850, u4851, u5048, u5148, u5150, *]) (by simp [upF, u4850, u4851, u5048, u5148, u5150, *]) (by simp [upF, show cntL 33 (40 :: l) = cntL 33 l from rfl, *]) hS.2
end

theorem lp_close {d : Nat} {sh : List Sh} {mr : MR} (hF : SHC sh) (hB : CB mr) {Q : QT} {m0 : MI} {tp ke : Nat} {key : Int32} {due : Bool} {c ops : Nat} {sgF outF : List Int32} (hq : ∀ mi2, RdS m0 mi2 tp ke key false c sgF outF ops → Q none sh mi2 mr) : ∀ (sg out : List Int32) (mi : MI), RdS m0 mi tp ke key due c sg out ops → sg.length + out.length ≤ 96 → clS sg out = (sgF, outF) → WP (d + 1) mX5_closePiece 0 [.ref 48] [] sh mi mr 0 0 Q := by
  intro sg
  induction sg with
  | nil =>
    intro out mi h hlen hcl
    obtain ⟨rfl, rfl⟩ := Prod.mk.inj hcl
    have hR := h
    obtain ⟨hA, ⟨e1, e2, e3, e4, e5, e6⟩, ⟨e8, e9, e11, e12, e13⟩, hL, hS⟩ := h
    refine r_aload_n (μ := mX5_closePiece) (pc := 0) dX5_closePiece_0 rfl rfl rfl ?_
    refine r_getI (μ := mX5_closePiece) (pc := 1) dX5_closePiece_1 fpX5_47 rfl (hF _ _ rfl) (by decide) ?_
    refine r_if_le (μ := mX5_closePiece) (pc := 4) (tgt := 45) dX5_closePiece_4 (by decide) (fun h_4 => ?_) (fun h_4 => absurd (by rw [e11]; decide) h_4)
    refine r_aload_n (μ := mX5_closePiece) (pc := 45) dX5_closePiece_45 rfl rfl rfl ?_
    refine r_iconst (μ := mX5_closePiece) (pc := 46) (v := 0) dX5_closePiece_46 ic_0 ?_
    refine r_putZ (μ := mX5_closePiece) (pc := 47) dX5_closePiece_47 fwX5_31 (hF _ _ rfl) (by decide) rfl rfl rfl ?_
    exact r_vret (μ := mX5_closePiece) (pc := 50) dX5_closePiece_50 rfl (hq _ (hR.du false))
  | cons x l ih =>
    intro out mi h hlen hcl
    have hR := h
    obtain ⟨hA, ⟨e1, e2, e3, e4, e5, e6⟩, ⟨e8, e9, e11, e12, e13⟩, hL, hS⟩ := h
    have hw : l.length + 1 + out.length ≤ 96 := hlen
    have e11' : mi 48 11 = nI (l.length + 1) := e11
    refine r_aload_n (μ := mX5_closePiece) (pc := 0) dX5_closePiece_0 rfl rfl rfl ?_
    refine r_getI (μ := mX5_closePiece) (pc := 1) dX5_closePiece_1 fpX5_47 rfl (hF _ _ rfl) (by decide) ?_
    refine r_if_le (μ := mX5_closePiece) (pc := 4) (tgt := 45) dX5_closePiece_4 (by decide) (fun h_4 => absurd h_4 (by rw [e11']; exact nI_ge (a := 0) (by omega) (by omega))) (fun h_4 => ?_)
    refine r_aload_n (μ := mX5_closePiece) (pc := 7) dX5_closePiece_7 rfl rfl rfl ?_
    refine vP0 (μ := mX5_closePiece) (pc := 8) (c0 := 5) (q0 := (RX5, TX5, 14)) (μ2 := mX5_topSign) dX5_closePiece_8 (hF _ _ rfl) rfl lkX5_152 imX5_topSign seX5_X5_topSign_X5_topSign mwX5_topSign (Nat.le_of_ble_eq_true rfl) (k_topSign hF hB e11 (by show _ ≤ 96; omega) hS) ?_
    refine r_bipush (μ := mX5_closePiece) (pc := 11) (v := 33) dX5_closePiece_11 bp_33 ?_
    refine r_icmp_ne (μ := mX5_closePiece) (pc := 13) (tgt := 45) dX5_closePiece_13 (by decide) (fun h_13 => ?_) (fun h_13 => ?_)
    · have hx : ¬ x = 33 := h_13
      rw [cl_t (show ¬ (x :: l).headD 0 = 33 from hx)] at hcl
      obtain ⟨rfl, rfl⟩ := Prod.mk.inj hcl
      refine r_aload_n (μ := mX5_closePiece) (pc := 45) dX5_closePiece_45 rfl rfl rfl ?_
      refine r_iconst (μ := mX5_closePiece) (pc := 46) (v := 0) dX5_closePiece_46 ic_0 ?_
      refine r_putZ (μ := mX5_closePiece) (pc := 47) dX5_closePiece_47 fwX5_31 (hF _ _ rfl) (by decide) rfl rfl rfl ?_
      exact r_vret (μ := mX5_closePiece) (pc := 50) dX5_closePiece_50 rfl (hq _ (hR.du false))
    · obtain rfl : x = 33 := h_13
      refine r_aload_n (μ := mX5_closePiece) (pc := 16) dX5_closePiece_16 rfl rfl rfl ?_
      refine r_bipush (μ := mX5_closePiece) (pc := 17) (v := -33) dX5_closePiece_17 bp_m33 ?_
      refine vV1 (μ := mX5_closePiece) (pc := 19) (c0 := 5) (q0 := (RX5, TX5, 14)) (μ2 := mX5_putOut) dX5_closePiece_19 (hF _ _ rfl) rfl lkX5_146 imX5_putOut seX5_X5_putOut_X5_putOut mwX5_putOut (Nat.le_of_ble_eq_true rfl) (k_putOut hF hB e8 (by omega)) (fun mi_19 h_19 => ?_)
      subst h_19
      refine r_aload_n (μ := mX5_closePiece) (pc := 22) dX5_closePiece_22 rfl rfl rfl ?_
      refine r_dup (μ := mX5_closePiece) (pc := 23) dX5_closePiece_23 rfl ?_
      refine r_getI (μ := mX5_closePiece) (pc := 24) dX5_closePiece_24 fpX5_47 rfl (hF _ _ rfl) (by decide) ?_
      rw [up_ne (by decide), u4850, e11']
      refine r_iconst (μ := mX5_closePiece) (pc := 27) (v := 1) dX5_closePiece_27 ic_1 ?_
      refine r_isub (μ := mX5_closePiece) (pc := 28) dX5_closePiece_28 ?_
      rw [show nI (l.length + 1) - 1 = nI l.length from nI_pred _]
      refine r_putI (μ := mX5_closePiece) (pc := 29) dX5_closePiece_29 fwX5_47 (hF _ _ rfl) (by decide) rfl ?_
      refine r_aload_n (μ := mX5_closePiece) (pc := 32) dX5_closePiece_32 rfl rfl rfl ?_
      refine r_dup (μ := mX5_closePiece) (pc := 33) dX5_closePiece_33 rfl ?_
      refine r_getI (μ := mX5_closePiece) (pc := 34) dX5_closePiece_34 fpX5_53 rfl (hF _ _ rfl) (by decide) ?_
      rw [up_ne (by decide), up_ne (by decide), u4850, e13, show cntL 33 (33 :: l) = cntL 33 l + 1 from rfl]
      refine r_iconst (μ := mX5_closePiece) (pc := 37) (v := 1) dX5_closePiece_37 ic_1 ?_
      refine r_isub (μ := mX5_closePiece) (pc := 38) dX5_closePiece_38 ?_
      rw [show nI (cntL 33 l + 1) - 1 = nI (cntL 33 l) from nI_pred _]
      refine r_putI (μ := mX5_closePiece) (pc := 39) dX5_closePiece_39 fwX5_53 (hF _ _ rfl) (by decide) rfl ?_
      refine r_goto (μ := mX5_closePiece) (pc := 42) (tgt := 0) dX5_closePiece_42 (by decide) ?_
      exact ih _ _ ((hR.put (-33)).nt) (by rw [List.length_append]; show l.length + (out.length + 1) ≤ 96; omega) hcl

theorem k_closePiece {d : Nat} {sh : List Sh} {mi : MI} {mr : MR} (hF : SHC sh) (hB : CB mr) {m0 : MI} {tp ke : Nat} {key : Int32} {due : Bool} {c : Nat} {sg out : List Int32} {ops : Nat} (h : RdS m0 mi tp ke key due c sg out ops) (hlen : sg.length + out.length ≤ 96) : CP (d + 1) mX5_closePiece [.ref 48] sh mi mr 0 0 (PV sh mr (fun mi2 => RdS m0 mi2 tp ke key false c (clS sg out).1 (clS sg out).2 ops)) := by
  refine CP.of (L := [_]) (by decide) rfl rfl (Nat.le_of_ble_eq_true rfl) ?_
  exact lp_close hF hB (fun mi2 h2 => PV_i h2) sg out mi h hlen rfl

theorem lp_pos {d : Nat} {sh : List Sh} {mr : MR} (hF : SHC sh) (hB : CB mr) {Q : QT} {m0 : MI} {tp ke : Nat} {key : Int32} {due : Bool} {c ops th : Nat} {sgF outF : List Int32} (ht1 : 1 ≤ th) (ht6 : th ≤ 6) (hq : ∀ mi2, RdS m0 mi2 tp ke key due c sgF outF ops → Q none sh mi2 mr) : ∀ (sg out : List Int32) (mi : MI), RdS m0 mi tp ke key due c sg out ops → sg.length + out.length ≤ 96 → po th sg out = (sgF, outF) → WP (d + 1) mX5_putOutSigns 0 [.ref 48, .int (nI th)] [] sh mi mr 0 0 Q := by
  intro sg
  induction sg with
  | nil =>
    intro out mi h hlen hcl
    obtain ⟨rfl, rfl⟩ := Prod.mk.inj hcl
    have hR := h
    obtain ⟨hA, ⟨e1, e2, e3, e4, e5, e6⟩, ⟨e8, e9, e11, e12, e13⟩, hL, hS⟩ := h
    refine r_aload_n (μ := mX5_putOutSigns) (pc := 0) dX5_putOutSigns_0 rfl rfl rfl ?_
    refine r_getI (μ := mX5_putOutSigns) (pc := 1) dX5_putOutSigns_1 fpX5_47 rfl (hF _ _ rfl) (by decide) ?_
    refine r_if_le (μ := mX5_putOutSigns) (pc := 4) (tgt := 40) dX5_putOutSigns_4 (by decide) (fun h_4 => ?_) (fun h_4 => absurd (by rw [e11]; decide) h_4)
    exact r_vret (μ := mX5_putOutSigns) (pc := 40) dX5_putOutSigns_40 rfl (hq _ hR)
  | cons x l ih =>
    intro out mi h hlen hcl
    have hR := h
    obtain ⟨hA, ⟨e1, e2, e3, e4, e5, e6⟩, ⟨e8, e9, e11, e12, e13⟩, hL, hS⟩ := h
    have hw : l.length + 1 + out.length ≤ 96 := hlen
    have e11' : mi 48 11 = nI (l.length + 1) := e11
    have hk5 := rkS_le x
    refine r_aload_n (μ := mX5_putOutSigns) (pc := 0) dX5_putOutSigns_0 rfl rfl rfl ?_
    refine r_getI (μ := mX5_putOutSigns) (pc := 1) dX5_putOutSigns_1 fpX5_47 rfl (hF _ _ rfl) (by decide) ?_
    refine r_if_le (μ := mX5_putOutSigns) (pc := 4) (tgt := 40) dX5_putOutSigns_4 (by decide) (fun h_4 => absurd h_4 (by rw [e11']; exact nI_ge (a := 0) (by omega) (by omega))) (fun h_4 => ?_)
    refine r_aload_n (μ := mX5_putOutSigns) (pc := 7) dX5_putOutSigns_7 rfl rfl rfl ?_
    refine vP0 (μ := mX5_putOutSigns) (pc := 8) (c0 := 5) (q0 := (RX5, TX5, 14)) (μ2 := mX5_topSign) dX5_putOutSigns_8 (hF _ _ rfl) rfl lkX5_152 imX5_topSign seX5_X5_topSign_X5_topSign mwX5_topSign (Nat.le_of_ble_eq_true rfl) (k_topSign hF hB e11 (by show _ ≤ 96; omega) hS) ?_
    refine sP1 (μ := mX5_putOutSigns) (pc := 11) (μ2 := mX5_rankOf) dX5_putOutSigns_11 lkX5_158 stX5_rankOf mwX5_rankOf (Nat.le_of_ble_eq_true rfl) k_rankOf ?_
    refine r_iload_n (μ := mX5_putOutSigns) (pc := 14) dX5_putOutSigns_14 rfl rfl ?_
    refine r_icmp_lt (μ := mX5_putOutSigns) (pc := 15) (tgt := 40) dX5_putOutSigns_15 (by decide) (fun h_15 => ?_) (fun h_15 => ?_)
    · have hx : rkS x < th := (nI_ltI (a := rkS x) (by omega) (by omega)).mp h_15
      rw [po_t (show rkS ((x :: l).headD 0) < th from hx)] at hcl
      obtain ⟨rfl, rfl⟩ := Prod.mk.inj hcl
      exact r_vret (μ := mX5_putOutSigns) (pc := 40) dX5_putOutSigns_40 rfl (hq _ hR)
    · have hx : th ≤ rkS x := Nat.le_of_not_lt (fun z => h_15 ((nI_ltI (a := rkS x) (by omega) (by omega)).mpr z))
      have h33 : ¬ x = 33 := fun z => by rw [z, show rkS 33 = 0 from rfl] at hx; omega
      have h40 : ¬ x = 40 := fun z => by rw [z, show rkS 40 = 0 from rfl] at hx; omega
      have hcl2 : po th (x :: l) out = po th l (out ++ [-x]) := if_pos hx
      rw [hcl2] at hcl
      refine r_aload_n (μ := mX5_putOutSigns) (pc := 18) dX5_putOutSigns_18 rfl rfl rfl ?_
      refine r_aload_n (μ := mX5_putOutSigns) (pc := 19) dX5_putOutSigns_19 rfl rfl rfl ?_
      refine vP0 (μ := mX5_putOutSigns) (pc := 20) (c0 := 5) (q0 := (RX5, TX5, 14)) (μ2 := mX5_topSign) dX5_putOutSigns_20 (hF _ _ rfl) rfl lkX5_152 imX5_topSign seX5_X5_topSign_X5_topSign mwX5_topSign (Nat.le_of_ble_eq_true rfl) (k_topSign hF hB e11 (by show _ ≤ 96; omega) hS) ?_
      refine r_ineg (μ := mX5_putOutSigns) (pc := 23) dX5_putOutSigns_23 ?_
      refine vV1 (μ := mX5_putOutSigns) (pc := 24) (c0 := 5) (q0 := (RX5, TX5, 14)) (μ2 := mX5_putOut) dX5_putOutSigns_24 (hF _ _ rfl) rfl lkX5_146 imX5_putOut seX5_X5_putOut_X5_putOut mwX5_putOut (Nat.le_of_ble_eq_true rfl) (k_putOut hF hB e8 (by omega)) (fun mi_24 h_24 => ?_)
      subst h_24
      refine r_aload_n (μ := mX5_putOutSigns) (pc := 27) dX5_putOutSigns_27 rfl rfl rfl ?_
      refine r_dup (μ := mX5_putOutSigns) (pc := 28) dX5_putOutSigns_28 rfl ?_
      refine r_getI (μ := mX5_putOutSigns) (pc := 29) dX5_putOutSigns_29 fpX5_47 rfl (hF _ _ rfl) (by decide) ?_
      rw [up_ne (by decide), u4850, e11']
      refine r_iconst (μ := mX5_putOutSigns) (pc := 32) (v := 1) dX5_putOutSigns_32 ic_1 ?_
      refine r_isub (μ := mX5_putOutSigns) (pc := 33) dX5_putOutSigns_33 ?_
      rw [show nI (l.length + 1) - 1 = nI l.length from nI_pred _]
      refine r_putI (μ := mX5_putOutSigns) (pc := 34) dX5_putOutSigns_34 fwX5_47 (hF _ _ rfl) (by decide) rfl ?_
      refine r_goto (μ := mX5_putOutSigns) (pc := 37) (tgt := 0) dX5_putOutSigns_37 (by decide) ?_
      exact ih _ _ ((hR.put (-x)).pp h33 h40) (by rw [List.length_append]; show l.length + (out.length + 1) ≤ 96; omega) hcl

theorem k_putOutSigns {d : Nat} {sh : List Sh} {mi : MI} {mr : MR} (hF : SHC sh) (hB : CB mr) {m0 : MI} {tp ke : Nat} {key : Int32} {due : Bool} {c : Nat} {sg out : List Int32} {ops : Nat} (h : RdS m0 mi tp ke key due c sg out ops) {th : Nat} (ht1 : 1 ≤ th) (ht6 : th ≤ 6) (hlen : sg.length + out.length ≤ 96) : CP (d + 1) mX5_putOutSigns [.ref 48, .int (nI th)] sh mi mr 0 0 (PV sh mr (fun mi2 => RdS m0 mi2 tp ke key due c (po th sg out).1 (po th sg out).2 ops)) := by
  refine CP.of (L := [_, _]) (by decide) rfl rfl (Nat.le_of_ble_eq_true rfl) ?_
  exact lp_pos hF hB ht1 ht6 (fun mi2 h2 => PV_i h2) sg out mi h hlen rfl

theorem k_putOperand {d : Nat} {sh : List Sh} {mi : MI} {mr : MR} (hF : SHC sh) (hB : CB mr) {m0 : MI} {tp ke : Nat} {key : Int32} {due : Bool} {c : Nat} {sg out : List Int32} {ops : Nat} (h : RdS m0 mi tp ke key due c sg out ops) {x : Int32} (hlen : sg.length + out.length ≤ 95) : CP (d + 2) mX5_putOperand [.ref 48, .int x] sh mi mr 0 0 (PV sh mr (fun mi2 => RdS m0 mi2 tp ke key false c (clS sg (out ++ [x])).1 (clS sg (out ++ [x])).2 (ops + 1))) := by
  have hR := h
  obtain ⟨hA, ⟨e1, e2, e3, e4, e5, e6⟩, ⟨e8, e9, e11, e12, e13⟩, hL, hS⟩ := h
  refine CP.of (L := [_, _]) (by decide) rfl rfl (Nat.le_of_ble_eq_true rfl) ?_
  refine r_aload_n (μ := mX5_putOperand) (pc := 0) dX5_putOperand_0 rfl rfl rfl ?_
  refine r_dup (μ := mX5_putOperand) (pc := 1) dX5_putOperand_1 rfl ?_
  refine r_getI (μ := mX5_putOperand) (pc := 2) dX5_putOperand_2 fpX5_41 rfl (hF _ _ rfl) (by decide) ?_
  rw [e9]
  refine r_iconst (μ := mX5_putOperand) (pc := 5) (v := 1) dX5_putOperand_5 ic_1 ?_
  refine r_iadd (μ := mX5_putOperand) (pc := 6) dX5_putOperand_6 ?_
  rw [show nI ops + 1 = nI (ops + 1) from (nI_succ ops).symm]
  refine r_putI (μ := mX5_putOperand) (pc := 7) dX5_putOperand_7 fwX5_41 (hF _ _ rfl) (by decide) rfl ?_
  refine r_aload_n (μ := mX5_putOperand) (pc := 10) dX5_putOperand_10 rfl rfl rfl ?_
  refine r_iload_n (μ := mX5_putOperand) (pc := 11) dX5_putOperand_11 rfl rfl ?_
  refine vV1 (μ := mX5_putOperand) (pc := 12) (c0 := 5) (q0 := (RX5, TX5, 14)) (μ2 := mX5_putOut) dX5_putOperand_12 (hF _ _ rfl) rfl lkX5_146 imX5_putOut seX5_X5_putOut_X5_putOut mwX5_putOut (Nat.le_of_ble_eq_true rfl) (k_putOut hF hB (w := out.length) (by rw [up_ne (by decide)]; exact e8) (by omega)) (fun mi_12 h_12 => ?_)
  subst h_12
  refine r_aload_n (μ := mX5_putOperand) (pc := 15) dX5_putOperand_15 rfl rfl rfl ?_
  refine vV0 (μ := mX5_putOperand) (pc := 16) (c0 := 5) (q0 := (RX5, TX5, 14)) (μ2 := mX5_closePiece) dX5_putOperand_16 (hF _ _ rfl) rfl lkX5_149 imX5_closePiece seX5_X5_closePiece_X5_closePiece mwX5_closePiece (Nat.le_of_ble_eq_true rfl) (k_closePiece hF hB ((hR.op).put x) (by rw [List.length_append]; show sg.length + (out.length + 1) ≤ 96; omega)) (fun mi_16 h_16 => ?_)
  exact r_vret (μ := mX5_putOperand) (pc := 19) dX5_putOperand_19 rfl (PV_i h_16)

theorem k_closing_no {d : Nat} {sh : List Sh} {mi : MI} {mr : MR} (hF : SHC sh) (hB : CB mr) {m0 : MI} {tp ke : Nat} {key : Int32} {due : Bool} {c : Nat} {sg out : List Int32} {ops : Nat} (h : RdS m0 mi tp ke key due c sg out ops) (h0 : cntL 40 sg = 0) : CP (d + 2) mX5_readClosing [.ref 48] sh mi mr 0 0 (PX sh mr (fun r mi2 => r = 0 ∧ mi2 = mi)) := by
  obtain ⟨hA, ⟨e1, e2, e3, e4, e5, e6⟩, ⟨e8, e9, e11, e12, e13⟩, hL, hS⟩ := h
  refine CP.of (L := [_]) (by decide) rfl rfl (Nat.le_of_ble_eq_true rfl) ?_
  refine r_aload_n (μ := mX5_readClosing) (pc := 0) dX5_readClosing_0 rfl rfl rfl ?_
  refine r_getI (μ := mX5_readClosing) (pc := 1) dX5_readClosing_1 fpX5_50 rfl (hF _ _ rfl) (by decide) ?_
  refine r_if_ne (μ := mX5_readClosing) (pc := 4) (tgt := 9) dX5_readClosing_4 (by decide) (fun h_4 => absurd (by rw [e12, h0]; rfl) h_4) (fun h_4 => ?_)
  refine r_iconst (μ := mX5_readClosing) (pc := 7) (v := 0) dX5_readClosing_7 ic_0 ?_
  exact r_iret (μ := mX5_readClosing) (pc := 8) dX5_readClosing_8 rfl rfl (PX_i ⟨rfl, rfl⟩)

theorem po_len (th : Nat) : ∀ (sg out : List Int32), (po th sg out).1.length + (po th sg out).2.length = sg.length + out.length
  | [], out => rfl
  | c :: l, out => by
    show List.length (if th ≤ rkS c then po th l (out ++ [-c]) else (c :: l, out)).1 + List.length (if th ≤ rkS c then po th l (out ++ [-c]) else (c :: l, out)).2 = _
    split
    · rw [po_len th l, List.length_append]; show l.length + (out.length + 1) = l.length + 1 + out.length; omega
    · rfl
theorem cl_len : ∀ (sg out : List Int32), (clS sg out).1.length + (clS sg out).2.length = sg.length + out.length
  | [], out => rfl
  | c :: l, out => by
    show List.length (if c = 33 then clS l (out ++ [-33]) else (c :: l, out)).1 + List.length (if c = 33 then clS l (out ++ [-33]) else (c :: l, out)).2 = _
    split
    · rw [cl_len l, List.length_append]; show l.length + (out.length + 1) = l.length + 1 + out.length; omega
    · rfl
theorem cnt_len (c : Int32) : ∀ (sg : List Int32), cntL c sg ≤ sg.length
  | [] => Nat.le_refl _
  | x :: l => by
    have := cnt_len c l
    show cntL c l + _ ≤ l.length + 1
    split <;> omega

theorem k_closing {d : Nat} {sh : List Sh} {mi : MI} {mr : MR} (hF : SHC sh) (hB : CB mr) {m0 : MI} {tp ke : Nat} {key : Int32} {due : Bool} {c : Nat} {sg out : List Int32} {ops : Nat} (h : RdS m0 mi tp ke key due c sg out ops) (h0 : ¬ cntL 40 sg = 0) {l : List Int32} (hl : (po 1 sg out).1 = 40 :: l) (hlen : sg.length + out.length ≤ 96) : CP (d + 2) mX5_readClosing [.ref 48] sh mi mr 0 0 (PX sh mr (fun r mi2 => r = 1 ∧ RdS m0 mi2 tp ke key false (c + 1) (clS l (po 1 sg out).2).1 (clS l (po 1 sg out).2).2 ops)) := by
  have hc40 := cnt_len 40 sg
  have hpl := po_len 1 sg out
  rw [hl] at hpl
  have hpl : l.length + 1 + (po 1 sg out).2.length = sg.length + out.length := hpl
  refine CP.of (L := [_]) (by decide) rfl rfl (Nat.le_of_ble_eq_true rfl) ?_
  refine r_aload_n (μ := mX5_readClosing) (pc := 0) dX5_readClosing_0 rfl rfl rfl ?_
  refine r_getI (μ := mX5_readClosing) (pc := 1) dX5_readClosing_1 fpX5_50 rfl (hF _ _ rfl) (by decide) ?_
  rw [h.2.2.1.2.2.2.1]
  refine r_if_ne (μ := mX5_readClosing) (pc := 4) (tgt := 9) dX5_readClosing_4 (by decide) (fun h_4 => ?_) (fun h_4 => absurd h_4 (nI_ne0 (by omega) (by omega)))
  refine r_aload_n (μ := mX5_readClosing) (pc := 9) dX5_readClosing_9 rfl rfl rfl ?_
  refine r_iconst (μ := mX5_readClosing) (pc := 10) (v := 1) dX5_readClosing_10 ic_1 ?_
  refine vV1 (μ := mX5_readClosing) (pc := 11) (c0 := 5) (q0 := (RX5, TX5, 14)) (μ2 := mX5_putOutSigns) dX5_readClosing_11 (hF _ _ rfl) rfl lkX5_123 imX5_putOutSigns seX5_X5_putOutSigns_X5_putOutSigns mwX5_putOutSigns (Nat.le_of_ble_eq_true rfl) (k_putOutSigns hF hB h (th := 1) (by decide) (by decide) hlen) (fun mi_11 h_11 => ?_)
  rw [hl] at h_11
  have hR := h_11
  obtain ⟨hA, ⟨e1, e2, e3, e4, e5, e6⟩, ⟨e8, e9, e11, e12, e13⟩, hL, hS⟩ := h_11
  have e11' : mi_11 48 11 = nI (l.length + 1) := e11
  refine r_aload_n (μ := mX5_readClosing) (pc := 14) dX5_readClosing_14 rfl rfl rfl ?_
  refine vP0 (μ := mX5_readClosing) (pc := 15) (c0 := 5) (q0 := (RX5, TX5, 14)) (μ2 := mX5_topSign) dX5_readClosing_15 (hF _ _ rfl) rfl lkX5_152 imX5_topSign seX5_X5_topSign_X5_topSign mwX5_topSign (Nat.le_of_ble_eq_true rfl) (k_topSign hF hB e11 (by show l.length + 1 ≤ 96; omega) hS) ?_
  refine r_bipush (μ := mX5_readClosing) (pc := 18) (v := 40) dX5_readClosing_18 bp_40 ?_
  refine r_icmp_ne (μ := mX5_readClosing) (pc := 20) (tgt := 33) dX5_readClosing_20 (by decide) (fun h_20 => absurd rfl h_20) (fun h_20 => ?_)
  refine r_aload_n (μ := mX5_readClosing) (pc := 23) dX5_readClosing_23 rfl rfl rfl ?_
  refine r_dup (μ := mX5_readClosing) (pc := 24) dX5_readClosing_24 rfl ?_
  refine r_getI (μ := mX5_readClosing) (pc := 25) dX5_readClosing_25 fpX5_47 rfl (hF _ _ rfl) (by decide) ?_
  rw [e11']
  refine r_iconst (μ := mX5_readClosing) (pc := 28) (v := 1) dX5_readClosing_28 ic_1 ?_
  refine r_isub (μ := mX5_readClosing) (pc := 29) dX5_readClosing_29 ?_
  rw [show nI (l.length + 1) - 1 = nI l.length from nI_pred _]
  refine r_putI (μ := mX5_readClosing) (pc := 30) dX5_readClosing_30 fwX5_47 (hF _ _ rfl) (by decide) rfl ?_
  refine r_aload_n (μ := mX5_readClosing) (pc := 33) dX5_readClosing_33 rfl rfl rfl ?_
  refine r_dup (μ := mX5_readClosing) (pc := 34) dX5_readClosing_34 rfl ?_
  refine r_getI (μ := mX5_readClosing) (pc := 35) dX5_readClosing_35 fpX5_50 rfl (hF _ _ rfl) (by decide) ?_
  rw [up_ne (by decide), e12, show cntL 40 (40 :: l) = cntL 40 l + 1 from rfl]
  refine r_iconst (μ := mX5_readClosing) (pc := 38) (v := 1) dX5_readClosing_38 ic_1 ?_
  refine r_isub (μ := mX5_readClosing) (pc := 39) dX5_readClosing_39 ?_
  rw [show nI (cntL 40 l + 1) - 1 = nI (cntL 40 l) from nI_pred _]
  refine r_putI (μ := mX5_readClosing) (pc := 40) dX5_readClosing_40 fwX5_50 (hF _ _ rfl) (by decide) rfl ?_
  refine r_aload_n (μ := mX5_readClosing) (pc := 43) dX5_readClosing_43 rfl rfl rfl ?_
  refine r_dup (μ := mX5_readClosing) (pc := 44) dX5_readClosing_44 rfl ?_
  refine r_getI (μ := mX5_readClosing) (pc := 45) dX5_readClosing_45 fpX5_19 rfl (hF _ _ rfl) (by decide) ?_
  rw [up_ne (by decide), up_ne (by decide), e2]
  refine r_iconst (μ := mX5_readClosing) (pc := 48) (v := 1) dX5_readClosing_48 ic_1 ?_
  refine r_iadd (μ := mX5_readClosing) (pc := 49) dX5_readClosing_49 ?_
  rw [show nI c + 1 = nI (c + 1) from (nI_succ c).symm]
  refine r_putI (μ := mX5_readClosing) (pc := 50) dX5_readClosing_50 fwX5_19 (hF _ _ rfl) (by decide) rfl ?_
  refine r_aload_n (μ := mX5_readClosing) (pc := 53) dX5_readClosing_53 rfl rfl rfl ?_
  refine vV0 (μ := mX5_readClosing) (pc := 54) (c0 := 5) (q0 := (RX5, TX5, 14)) (μ2 := mX5_closePiece) dX5_readClosing_54 (hF _ _ rfl) rfl lkX5_149 imX5_closePiece seX5_X5_closePiece_X5_closePiece mwX5_closePiece (Nat.le_of_ble_eq_true rfl) (k_closePiece hF hB hR.br (by omega)) (fun mi_54 h_54 => ?_)
  refine r_iconst (μ := mX5_readClosing) (pc := 57) (v := 1) dX5_readClosing_57 ic_1 ?_
  exact r_iret (μ := mX5_readClosing) (pc := 58) dX5_readClosing_58 rfl rfl (PX_i ⟨rfl, h_54⟩)

