/-- a row holds a list from its start -/
def LR (r : Rw) (l : List Int32) : Prop := ∀ (i : Nat) (x : Int32), l[i]? = some x → r i = x
/-- a row holds a pile, its top last -/
def SRw (r : Rw) : List Int32 → Prop
  | [] => True
  | c :: l => r l.length = c ∧ SRw r l
theorem LR.put {r : Rw} {l : List Int32} (h : LR r l) (x : Int32) : LR (upd r l.length x) (l ++ [x]) := by
  intro i y hy
  rcases Nat.lt_trichotomy i l.length with z | z | z
  · rw [List.getElem?_append_left z] at hy
    unfold upd; rw [if_neg (by omega)]; exact h i y hy
  · subst z
    rw [List.getElem?_append_right (Nat.le_refl _), Nat.sub_self] at hy
    unfold upd; rw [if_pos rfl]
    exact Option.some.inj hy
  · rw [List.getElem?_append_right (by omega), List.getElem?_eq_none (by simp; omega)] at hy
    cases hy
theorem SRw.put {r : Rw} {x : Int32} : ∀ {l : List Int32} {k : Nat}, SRw r l → l.length ≤ k → SRw (upd r k x) l
  | [], _, _, _ => trivial
  | c :: l, k, h, hk => by
    have hk : l.length + 1 ≤ k := hk
    exact ⟨by unfold upd; rw [if_neg (by omega)]; exact h.1, h.2.put (by omega)⟩
theorem SRw.psh {r : Rw} {l : List Int32} (h : SRw r l) (x : Int32) : SRw (upd r l.length x) (x :: l) := ⟨by unfold upd; rw [if_pos rfl], h.put (Nat.le_refl _)⟩
/-- the reader between two steps -/
def RdS (m0 mi : MI) (tp ke : Nat) (key : Int32) (due : Bool) (c : Nat) (sg out : List Int32) (ops : Nat) : Prop :=
  (∀ a, a ≠ 48 → a ≠ 50 → a ≠ 51 → mi a = m0 a) ∧ (mi 48 1 = 0 ∧ mi 48 2 = nI c ∧ mi 48 3 = nI tp ∧ mi 48 4 = key ∧ mi 48 5 = nI ke ∧ mi 48 6 = b2i due) ∧
  (mi 48 8 = nI out.length ∧ mi 48 9 = nI ops ∧ mi 48 11 = nI sg.length ∧ mi 48 12 = nI (cntL 40 sg) ∧ mi 48 13 = nI (cntL 33 sg)) ∧ LR (mi 50) out ∧ SRw (mi 51) sg
section
variable {m0 mi : MI} {tp ke : Nat} {key : Int32} {due : Bool} {c : Nat} {sg out : List Int32} {ops : Nat}
theorem upI_row {mi : MI} {a k : Nat} {v : Int32} : upI mi a k v a = upd (mi a) k v := by
  funext j
  unfold upd
  by_cases h : j = k
  · subst h; rw [if_pos rfl, up_eq]
  · rw [if_neg h, up_ne h]
theorem RdS.put (h : RdS m0 mi tp ke key due c sg out ops) (x : Int32) : RdS m0 (upI (upI mi 50 out.length x) 48 8 (nI (out.length + 1))) tp ke key due c sg (out ++ [x]) ops := by
  obtain ⟨a1, ⟨b1, b2, b3, b4, b5, b6⟩, ⟨c1, c2, c3, c4, c5⟩, d1, d2⟩ := h
  refine ⟨fun a x y z => by rw [upI_ne x, upI_ne y]; exact a1 a x y z, ⟨?_, ?_, ?_, ?_, ?_, ?_⟩, ⟨?_, ?_, ?_, ?_, ?_⟩, ?_, ?_⟩
  · rw [up_ne (by decide), upI_ne (by decide)]; exact b1
  · rw [up_ne (by decide), upI_ne (by decide)]; exact b2
  · rw [up_ne (by decide), upI_ne (by decide)]; exact b3
  · rw [up_ne (by decide), upI_ne (by decide)]; exact b4
  · rw [up_ne (by decide), upI_ne (by decide)]; exact b5
  · rw [up_ne (by decide), upI_ne (by decide)]; exact b6
  · rw [up_eq, List.length_append]; rfl
  · rw [up_ne (by decide), upI_ne (by decide)]; exact c2
  · rw [up_ne (by decide), upI_ne (by decide)]; exact c3
  · rw [up_ne (by decide), upI_ne (by decide)]; exact c4
  · rw [up_ne (by decide), upI_ne (by decide)]; exact c5
  · rw [upI_ne (by decide), upI_row]; exact d1.put x
  · rw [upI_ne (by decide), upI_ne (by decide)]; exact d2
/-- fields of the reader alone change -/
theorem RdS.fld {mi2 : MI} {due2 : Bool} {c2 ops2 : Nat} {sg2 : List Int32} (h : RdS m0 mi tp ke key due c sg out ops) (hr : ∀ a, a ≠ 48 → mi2 a = mi a) (hf : ∀ j, (j = 1 ∨ j = 3 ∨ j = 4 ∨ j = 5 ∨ j = 8) → mi2 48 j = mi 48 j) (h2 : mi2 48 2 = nI c2) (h6 : mi2 48 6 = b2i due2) (h9 : mi2 48 9 = nI ops2) (h11 : mi2 48 11 = nI sg2.length) (h12 : mi2 48 12 = nI (cntL 40 sg2)) (h13 : mi2 48 13 = nI (cntL 33 sg2)) (hs : SRw (mi 51) sg2) : RdS m0 mi2 tp ke key due2 c2 sg2 out ops2 := by
  obtain ⟨a1, ⟨b1, b2, b3, b4, b5, b6⟩, ⟨c1, c2, c3, c4, c5⟩, d1, d2⟩ := h
  exact ⟨fun a x y z => (hr a x).trans (a1 a x y z), ⟨(hf 1 (by simp)).trans b1, h2, (hf 3 (by simp)).trans b3, (hf 4 (by simp)).trans b4, (hf 5 (by simp)).trans b5, h6⟩, ⟨(hf 8 (by simp)).trans c1, h9, h11, h12, h13⟩, by rw [hr 50 (by decide)]; exact d1, by rw [hr 51 (by decide)]; exact hs⟩
/-- a sign is laid on the pile, one counted before -/
theorem RdS.psh {a b : Nat} (h : RdS m0 mi tp ke key due c sg out ops) (x : Int32) (due2 : Bool) (ha : a = cntL 40 (x :: sg)) (hb : b = cntL 33 (x :: sg)) {mi2 : MI} (hr : ∀ a, a ≠ 48 → a ≠ 51 → mi2 a = mi a) (h51 : mi2 51 = upd (mi 51) sg.length x) (hf : ∀ j, (j = 1 ∨ j = 3 ∨ j = 4 ∨ j = 5 ∨ j = 8 ∨ j = 9) → mi2 48 j = mi 48 j) (h2 : mi2 48 2 = nI (c + 1)) (h6 : mi2 48 6 = b2i due2) (h11 : mi2 48 11 = nI (sg.length + 1)) (h12 : mi2 48 12 = nI a) (h13 : mi2 48 13 = nI b) : RdS m0 mi2 tp ke key due2 (c + 1) (x :: sg) out ops := by
  obtain ⟨a1, ⟨b1, b2, b3, b4, b5, b6⟩, ⟨c1, c2, c3, c4, c5⟩, d1, d2⟩ := h
  exact ⟨fun a x y z => (hr a x z).trans (a1 a x y z), ⟨(hf 1 (by simp)).trans b1, h2, (hf 3 (by simp)).trans b3, (hf 4 (by simp)).trans b4, (hf 5 (by simp)).trans b5, h6⟩, ⟨(hf 8 (by simp)).trans c1, (hf 9 (by simp)).trans c2, h11, by rw [h12, ha], by rw [h13, hb]⟩, by rw [hr 50 (by decide) (by decide)]; exact d1, by rw [h51]; exact d2.psh x⟩
end

theorem k_putOut {d : Nat} {sh : List Sh} {mi : MI} {mr : MR} (hF : SHC sh) (hB : CB mr) {w : Nat} {x : Int32} (h8 : mi 48 8 = nI w) (hw : w < 96) : CP d mX5_putOut [.ref 48, .int x] sh mi mr 0 0 (PV sh mr (fun mi2 => mi2 = upI (upI mi 50 w x) 48 8 (nI (w + 1)))) := by
  refine CP.of (L := [_, _]) (by decide) rfl rfl (Nat.le_of_ble_eq_true rfl) ?_
  refine r_aload_n (μ := mX5_putOut) (pc := 0) dX5_putOut_0 rfl rfl rfl ?_
  refine r_getI (μ := mX5_putOut) (pc := 1) dX5_putOut_1 fpX5_38 rfl (hF _ _ rfl) (by decide) ?_
  refine r_bipush (μ := mX5_putOut) (pc := 4) (v := 96) dX5_putOut_4 bp_96 ?_
  refine r_icmp_lt (μ := mX5_putOut) (pc := 6) (tgt := 10) dX5_putOut_6 (by decide) (fun h_6 => ?_) (fun h_6 => absurd (by rw [h8]; exact nI_lt (b := 96) hw (by decide)) h_6)
  refine r_aload_n (μ := mX5_putOut) (pc := 10) dX5_putOut_10 rfl rfl rfl ?_
  refine r_getR (μ := mX5_putOut) (pc := 11) dX5_putOut_11 fpX5_35 rfl (hF _ _ rfl) (by decide) (hB _ _ _ rfl) ?_
  refine r_aload_n (μ := mX5_putOut) (pc := 14) dX5_putOut_14 rfl rfl rfl ?_
  refine r_getI (μ := mX5_putOut) (pc := 15) dX5_putOut_15 fpX5_38 rfl (hF _ _ rfl) (by decide) ?_
  rw [h8]
  refine r_iload_n (μ := mX5_putOut) (pc := 18) dX5_putOut_18 rfl rfl ?_
  refine r_iastore (μ := mX5_putOut) (pc := 19) (j := w) dX5_putOut_19 (hF _ _ rfl) rfl (by omega) (by decide) ?_
  refine r_aload_n (μ := mX5_putOut) (pc := 20) dX5_putOut_20 rfl rfl rfl ?_
  refine r_dup (μ := mX5_putOut) (pc := 21) dX5_putOut_21 rfl ?_
  refine r_getI (μ := mX5_putOut) (pc := 22) dX5_putOut_22 fpX5_38 rfl (hF _ _ rfl) (by decide) ?_
  rw [upI_ne (by decide), h8]
  refine r_iconst (μ := mX5_putOut) (pc := 25) (v := 1) dX5_putOut_25 ic_1 ?_
  refine r_iadd (μ := mX5_putOut) (pc := 26) dX5_putOut_26 ?_
  rw [show nI w + 1 = nI (w + 1) from (nI_succ w).symm]
  refine r_putI (μ := mX5_putOut) (pc := 27) dX5_putOut_27 fwX5_38 (hF _ _ rfl) (by decide) rfl ?_
  exact r_vret (μ := mX5_putOut) (pc := 30) dX5_putOut_30 rfl (PV_i rfl)

theorem k_pushSign {d : Nat} {sh : List Sh} {mi : MI} {mr : MR} (hF : SHC sh) (hB : CB mr) {w c : Nat} {x : Int32} (h11 : mi 48 11 = nI w) (hw : w < 96) (h2 : mi 48 2 = nI c) : CP d mX5_pushSign [.ref 48, .int x] sh mi mr 0 0 (PV sh mr (fun mi2 => mi2 = upI (upI (upI mi 51 w x) 48 11 (nI (w + 1))) 48 2 (nI (c + 1)))) := by
  refine CP.of (L := [_, _]) (by decide) rfl rfl (Nat.le_of_ble_eq_true rfl) ?_
  refine r_aload_n (μ := mX5_pushSign) (pc := 0) dX5_pushSign_0 rfl rfl rfl ?_
  refine r_getI (μ := mX5_pushSign) (pc := 1) dX5_pushSign_1 fpX5_47 rfl (hF _ _ rfl) (by decide) ?_
  refine r_bipush (μ := mX5_pushSign) (pc := 4) (v := 96) dX5_pushSign_4 bp_96 ?_
  refine r_icmp_ge (μ := mX5_pushSign) (pc := 6) (tgt := 29) dX5_pushSign_6 (by decide) (fun h_6 => absurd h_6 (by rw [h11]; exact nI_ge (b := 96) hw (by decide))) (fun h_6 => ?_)
  refine r_aload_n (μ := mX5_pushSign) (pc := 9) dX5_pushSign_9 rfl rfl rfl ?_
  refine r_getR (μ := mX5_pushSign) (pc := 10) dX5_pushSign_10 fpX5_44 rfl (hF _ _ rfl) (by decide) (hB _ _ _ rfl) ?_
  refine r_aload_n (μ := mX5_pushSign) (pc := 13) dX5_pushSign_13 rfl rfl rfl ?_
  refine r_getI (μ := mX5_pushSign) (pc := 14) dX5_pushSign_14 fpX5_47 rfl (hF _ _ rfl) (by decide) ?_
  rw [h11]
  refine r_iload_n (μ := mX5_pushSign) (pc := 17) dX5_pushSign_17 rfl rfl ?_
  refine r_iastore (μ := mX5_pushSign) (pc := 18) (j := w) dX5_pushSign_18 (hF _ _ rfl) rfl (by omega) (by decide) ?_
  refine r_aload_n (μ := mX5_pushSign) (pc := 19) dX5_pushSign_19 rfl rfl rfl ?_
  refine r_dup (μ := mX5_pushSign) (pc := 20) dX5_pushSign_20 rfl ?_
  refine r_getI (μ := mX5_pushSign) (pc := 21) dX5_pushSign_21 fpX5_47 rfl (hF _ _ rfl) (by decide) ?_
  rw [upI_ne (by decide), h11]
  refine r_iconst (μ := mX5_pushSign) (pc := 24) (v := 1) dX5_pushSign_24 ic_1 ?_
  refine r_iadd (μ := mX5_pushSign) (pc := 25) dX5_pushSign_25 ?_
  rw [show nI w + 1 = nI (w + 1) from (nI_succ w).symm]
  refine r_putI (μ := mX5_pushSign) (pc := 26) dX5_pushSign_26 fwX5_47 (hF _ _ rfl) (by decide) rfl ?_
  refine r_aload_n (μ := mX5_pushSign) (pc := 29) dX5_pushSign_29 rfl rfl rfl ?_
  refine r_dup (μ := mX5_pushSign) (pc := 30) dX5_pushSign_30 rfl ?_
  refine r_getI (μ := mX5_pushSign) (pc := 31) dX5_pushSign_31 fpX5_19 rfl (hF _ _ rfl) (by decide) ?_
  rw [up_ne (by decide), upI_ne (by decide), h2]
  refine r_iconst (μ := mX5_pushSign) (pc := 34) (v := 1) dX5_pushSign_34 ic_1 ?_
  refine r_iadd (μ := mX5_pushSign) (pc := 35) dX5_pushSign_35 ?_
  rw [show nI c + 1 = nI (c + 1) from (nI_succ c).symm]
  refine r_putI (μ := mX5_pushSign) (pc := 36) dX5_pushSign_36 fwX5_19 (hF _ _ rfl) (by decide) rfl ?_
  exact r_vret (μ := mX5_pushSign) (pc := 39) dX5_pushSign_39 rfl (PV_i rfl)

theorem k_topSign {d : Nat} {sh : List Sh} {mi : MI} {mr : MR} (hF : SHC sh) (hB : CB mr) {sg : List Int32} (h11 : mi 48 11 = nI sg.length) (hw : sg.length ≤ 96) (hs : SRw (mi 51) sg) : CP (d) mX5_topSign [.ref 48] sh mi mr 0 0 (PI (sg.headD 0) sh mi mr) := by
  cases sg with
  | nil =>
    refine CP.of (L := [_]) (by decide) rfl rfl (Nat.le_of_ble_eq_true rfl) ?_
    refine r_aload_n (μ := mX5_topSign) (pc := 0) dX5_topSign_0 rfl rfl rfl ?_
    refine r_getI (μ := mX5_topSign) (pc := 1) dX5_topSign_1 fpX5_47 rfl (hF _ _ rfl) (by decide) ?_
    refine r_if_le (μ := mX5_topSign) (pc := 4) (tgt := 21) dX5_topSign_4 (by decide) (fun h_4 => ?_) (fun h_4 => absurd (by rw [h11]; decide) h_4)
    refine r_iconst (μ := mX5_topSign) (pc := 21) (v := 0) dX5_topSign_21 ic_0 ?_
    exact r_iret (μ := mX5_topSign) (pc := 22) dX5_topSign_22 rfl rfl (PI_i rfl)
  | cons c l =>
    have h11 : mi 48 11 = nI (l.length + 1) := h11
    have hw : l.length + 1 ≤ 96 := hw
    refine CP.of (L := [_]) (by decide) rfl rfl (Nat.le_of_ble_eq_true rfl) ?_
    refine r_aload_n (μ := mX5_topSign) (pc := 0) dX5_topSign_0 rfl rfl rfl ?_
    refine r_getI (μ := mX5_topSign) (pc := 1) dX5_topSign_1 fpX5_47 rfl (hF _ _ rfl) (by decide) ?_
    refine r_if_le (μ := mX5_topSign) (pc := 4) (tgt := 21) dX5_topSign_4 (by decide) (fun h_4 => absurd h_4 (by rw [h11]; exact nI_ge (a := 0) (by omega) (by omega))) (fun h_4 => ?_)
    refine r_aload_n (μ := mX5_topSign) (pc := 7) dX5_topSign_7 rfl rfl rfl ?_
    refine r_getR (μ := mX5_topSign) (pc := 8) dX5_topSign_8 fpX5_44 rfl (hF _ _ rfl) (by decide) (hB _ _ _ rfl) ?_
    refine r_aload_n (μ := mX5_topSign) (pc := 11) dX5_topSign_11 rfl rfl rfl ?_
    refine r_getI (μ := mX5_topSign) (pc := 12) dX5_topSign_12 fpX5_47 rfl (hF _ _ rfl) (by decide) ?_
    rw [h11]
    refine r_iconst (μ := mX5_topSign) (pc := 15) (v := 1) dX5_topSign_15 ic_1 ?_
    refine r_isub (μ := mX5_topSign) (pc := 16) dX5_topSign_16 ?_
    rw [show nI (l.length + 1) - 1 = nI l.length from nI_pred _]
    refine r_iaload (μ := mX5_topSign) (pc := 17) (j := l.length) dX5_topSign_17 (hF _ _ rfl) rfl (by omega) (by decide) ?_
    refine r_goto (μ := mX5_topSign) (pc := 18) (tgt := 22) dX5_topSign_18 (by decide) ?_
    exact r_iret (μ := mX5_topSign) (pc := 22) dX5_topSign_22 rfl rfl (PI_i hs.1)

theorem k_rankOf {d : Nat} {sh : List Sh} {mi : MI} {mr : MR} {v : Int32} : CP (d) mX5_rankOf [.int v] sh mi mr 0 0 (PI (nI (rkS v)) sh mi mr) := by
  refine CP.of (L := [_]) (by decide) rfl rfl (Nat.le_of_ble_eq_true rfl) ?_
  refine r_iload_n (μ := mX5_rankOf) (pc := 0) dX5_rankOf_0 rfl rfl ?_
  by_cases h9 : v = 38 ∨ v = 42 ∨ v = 43 ∨ v = 45 ∨ v = 47 ∨ v = 60 ∨ v = 61 ∨ v = 62 ∨ v = 124
  · rcases h9 with rfl | rfl | rfl | rfl | rfl | rfl | rfl | rfl | rfl
    · refine r_look (μ := mX5_rankOf) (pc := 1) (tgt := 86) dX5_rankOf_1 (by decide) rfl (by decide) ?_
      refine r_iconst (μ := mX5_rankOf) (pc := 86) (v := 2) dX5_rankOf_86 ic_2 ?_
      exact r_iret (μ := mX5_rankOf) (pc := 87) dX5_rankOf_87 rfl rfl (PI_i (by decide))
    · refine r_look (μ := mX5_rankOf) (pc := 1) (tgt := 92) dX5_rankOf_1 (by decide) rfl (by decide) ?_
      refine r_iconst (μ := mX5_rankOf) (pc := 92) (v := 5) dX5_rankOf_92 ic_5 ?_
      exact r_iret (μ := mX5_rankOf) (pc := 93) dX5_rankOf_93 rfl rfl (PI_i (by decide))
    · refine r_look (μ := mX5_rankOf) (pc := 1) (tgt := 90) dX5_rankOf_1 (by decide) rfl (by decide) ?_
      refine r_iconst (μ := mX5_rankOf) (pc := 90) (v := 4) dX5_rankOf_90 ic_4 ?_
      exact r_iret (μ := mX5_rankOf) (pc := 91) dX5_rankOf_91 rfl rfl (PI_i (by decide))
    · refine r_look (μ := mX5_rankOf) (pc := 1) (tgt := 90) dX5_rankOf_1 (by decide) rfl (by decide) ?_
      refine r_iconst (μ := mX5_rankOf) (pc := 90) (v := 4) dX5_rankOf_90 ic_4 ?_
      exact r_iret (μ := mX5_rankOf) (pc := 91) dX5_rankOf_91 rfl rfl (PI_i (by decide))
    · refine r_look (μ := mX5_rankOf) (pc := 1) (tgt := 92) dX5_rankOf_1 (by decide) rfl (by decide) ?_
      refine r_iconst (μ := mX5_rankOf) (pc := 92) (v := 5) dX5_rankOf_92 ic_5 ?_
      exact r_iret (μ := mX5_rankOf) (pc := 93) dX5_rankOf_93 rfl rfl (PI_i (by decide))
    · refine r_look (μ := mX5_rankOf) (pc := 1) (tgt := 88) dX5_rankOf_1 (by decide) rfl (by decide) ?_
      refine r_iconst (μ := mX5_rankOf) (pc := 88) (v := 3) dX5_rankOf_88 ic_3 ?_
      exact r_iret (μ := mX5_rankOf) (pc := 89) dX5_rankOf_89 rfl rfl (PI_i (by decide))
    · refine r_look (μ := mX5_rankOf) (pc := 1) (tgt := 88) dX5_rankOf_1 (by decide) rfl (by decide) ?_
      refine r_iconst (μ := mX5_rankOf) (pc := 88) (v := 3) dX5_rankOf_88 ic_3 ?_
      exact r_iret (μ := mX5_rankOf) (pc := 89) dX5_rankOf_89 rfl rfl (PI_i (by decide))
    · refine r_look (μ := mX5_rankOf) (pc := 1) (tgt := 88) dX5_rankOf_1 (by decide) rfl (by decide) ?_
      refine r_iconst (μ := mX5_rankOf) (pc := 88) (v := 3) dX5_rankOf_88 ic_3 ?_
      exact r_iret (μ := mX5_rankOf) (pc := 89) dX5_rankOf_89 rfl rfl (PI_i (by decide))
    · refine r_look (μ := mX5_rankOf) (pc := 1) (tgt := 84) dX5_rankOf_1 (by decide) rfl (by decide) ?_
      refine r_iconst (μ := mX5_rankOf) (pc := 84) (v := 1) dX5_rankOf_84 ic_1 ?_
      exact r_iret (μ := mX5_rankOf) (pc := 85) dX5_rankOf_85 rfl rfl (PI_i (by decide))
  · have hn : ¬ v = 38 ∧ ¬ v = 42 ∧ ¬ v = 43 ∧ ¬ v = 45 ∧ ¬ v = 47 ∧ ¬ v = 60 ∧ ¬ v = 61 ∧ ¬ v = 62 ∧ ¬ v = 124 := by simpa using h9
    have t : ∀ c : Int32, ¬ v = c → ¬ c.toInt = v.toInt := fun c h z => h (Int32.toInt_inj.mp z.symm)
    obtain ⟨n38, n42, n43, n45, n47, n60, n61, n62, n124⟩ := hn
    have e38 : ¬ (38 : Int) = v.toInt := t 38 n38
    have e42 : ¬ (42 : Int) = v.toInt := t 42 n42
    have e43 : ¬ (43 : Int) = v.toInt := t 43 n43
    have e45 : ¬ (45 : Int) = v.toInt := t 45 n45
    have e47 : ¬ (47 : Int) = v.toInt := t 47 n47
    have e60 : ¬ (60 : Int) = v.toInt := t 60 n60
    have e61 : ¬ (61 : Int) = v.toInt := t 61 n61
    have e62 : ¬ (62 : Int) = v.toInt := t 62 n62
    have e124 : ¬ (124 : Int) = v.toInt := t 124 n124
    refine r_look (μ := mX5_rankOf) (pc := 1) (off := 93) (tgt := 94) dX5_rankOf_1 (by decide) (by simp [Op.lookupswitch.offset, e38, e42, e43, e45, e47, e60, e61, e62, e124]) (by decide) ?_
    refine r_iconst (μ := mX5_rankOf) (pc := 94) (v := 0) dX5_rankOf_94 ic_0 ?_
    exact r_iret (μ := mX5_rankOf) (pc := 95) dX5_rankOf_95 rfl rfl (PI_i (by unfold rkS; simp [n38, n42, n43, n45, n47, n60, n61, n62, n124]; rfl))

