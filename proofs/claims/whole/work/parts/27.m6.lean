theorem c_mayMove {d : Nat} {mi : MI} {mr : MR} (hM : MB mr) {s : Rw} (hs : mi 1 = s) {n m p q : Nat} (hI : Inv s n m p q) {i l : Nat} (hi : i < p) (hl : l < m) : CP (d + 4) mX12_mayMove [.ref 0, .int (nI i), .int (nI l)] shM mi mr 0 0 (PX shM mr (fun r mi2 => r = b2i (maySt s p q i l) ∧ SB mi mi2)) := by
  have hn10 := hI.n10; have hm8 := hI.m8; have hp6 := hI.p6; have hq14 := hI.q14
  refine CP.of (L := [_, _, _]) (by decide) rfl rfl (Nat.le_of_ble_eq_true rfl) ?_
  refine r_aload_n (μ := mX12_mayMove) (pc := 0) dX12_mayMove_0 rfl rfl rfl ?_
  refine r_iload_n (μ := mX12_mayMove) (pc := 1) dX12_mayMove_1 rfl rfl ?_
  refine vP1 (μ := mX12_mayMove) (pc := 2) (c0 := 12) (q0 := (RX12, TX12, 34)) (μ2 := mX12_where) dX12_mayMove_2 rfl rfl lkX12_70 imX12_where seX12_X12_where_X12_where mwX12_where (Nat.le_of_ble_eq_true rfl) (e_where hM hs (by omega)) ?_
  refine r_aload_n (μ := mX12_mayMove) (pc := 5) dX12_mayMove_5 rfl rfl rfl ?_
  refine r_iload_n (μ := mX12_mayMove) (pc := 6) dX12_mayMove_6 rfl rfl ?_
  refine r_iconst (μ := mX12_mayMove) (pc := 7) (v := 2) dX12_mayMove_7 ic_2 ?_
  refine vP2 (μ := mX12_mayMove) (pc := 8) (c0 := 12) (q0 := (RX12, TX12, 34)) (μ2 := mX12_of) dX12_mayMove_8 rfl rfl lkX12_90 imX12_of seX12_X12_of_X12_of mwX12_of (Nat.le_of_ble_eq_true rfl) (e_of hM hs (by omega) (by decide)) ?_
  refine r_icmp_ne (μ := mX12_mayMove) (pc := 11) (tgt := 27) dX12_mayMove_11 (by decide) (fun h_11 => ?_) (fun h_11 => ?_)
  · have h11 : ¬ spt s i = fot s l := h_11
    refine r_iconst (μ := mX12_mayMove) (pc := 27) (v := 0) dX12_mayMove_27 ic_0 ?_
    exact r_iret (μ := mX12_mayMove) (pc := 28) dX12_mayMove_28 rfl rfl (PX_i ⟨by unfold maySt; first | (rw [decide_eq_false h11]; rfl) | (rw [decide_eq_true h11, h_20]; rfl), by first | exact SB.rf mi | exact h17⟩)
  · have h11 : spt s i = fot s l := h_11
    refine r_aload_n (μ := mX12_mayMove) (pc := 14) dX12_mayMove_14 rfl rfl rfl ?_
    refine r_iload_n (μ := mX12_mayMove) (pc := 15) dX12_mayMove_15 rfl rfl ?_
    refine r_iload_n (μ := mX12_mayMove) (pc := 16) dX12_mayMove_16 rfl rfl ?_
    refine vX2 (μ := mX12_mayMove) (pc := 17) (c0 := 12) (q0 := (RX12, TX12, 34)) (μ2 := mX12_mayThere) dX12_mayMove_17 rfl rfl lkX12_162 imX12_mayThere seX12_X12_mayThere_X12_mayThere mwX12_mayThere (Nat.le_of_ble_eq_true rfl) (c_mayThere hM hs hI hi hl) (fun r_17 mi_17 h_17 => ?_)
    obtain ⟨rfl, h17⟩ := h_17
    refine r_if_eq (μ := mX12_mayMove) (pc := 20) (tgt := 27) dX12_mayMove_20 (by decide) (fun h_20 => ?_) (fun h_20 => ?_)
    · have h_20 := b2i_0 h_20
      refine r_iconst (μ := mX12_mayMove) (pc := 27) (v := 0) dX12_mayMove_27 ic_0 ?_
      exact r_iret (μ := mX12_mayMove) (pc := 28) dX12_mayMove_28 rfl rfl (PX_i ⟨by unfold maySt; first | (rw [decide_eq_false h11]; rfl) | (rw [decide_eq_true h11, h_20]; rfl), by first | exact SB.rf mi | exact h17⟩)
    · have h_20 := b2i_1 h_20
      refine r_iconst (μ := mX12_mayMove) (pc := 23) (v := 1) dX12_mayMove_23 ic_1 ?_
      refine r_goto (μ := mX12_mayMove) (pc := 24) (tgt := 28) dX12_mayMove_24 (by decide) ?_
      exact r_iret (μ := mX12_mayMove) (pc := 28) dX12_mayMove_28 rfl rfl (PX_i ⟨by unfold maySt; first | (rw [decide_eq_false h11]; rfl) | (rw [decide_eq_true h11, h_20]; rfl), by first | exact SB.rf mi | exact h17⟩)

theorem c_may_bad {d : Nat} {mi : MI} {mr : MR} (hM : MB mr) {s : Rw} (hs : mi 1 = s) {n m p q : Nat} (hI : Inv s n m p q) {x y : Int32} (hb : ¬ (inR x p = true ∧ inR y m = true)) : CP (d + 2) mX12_may [.ref 0, .int x, .int y] shM mi mr 0 0 (PI (BADc) shM mi mr) := by
  refine CP.of (L := [_, _, _]) (by decide) rfl rfl (Nat.le_of_ble_eq_true rfl) ?_
  refine r_aload_n (μ := mX12_may) (pc := 0) dX12_may_0 rfl rfl rfl ?_
  refine r_iload_n (μ := mX12_may) (pc := 1) dX12_may_1 rfl rfl ?_
  refine vP1 (μ := mX12_may) (pc := 2) (c0 := 12) (q0 := (RX12, TX12, 34)) (μ2 := mX12_isPerson) dX12_may_2 rfl rfl lkX12_156 imX12_isPerson seX12_X12_isPerson_X12_isPerson mwX12_isPerson (Nat.le_of_ble_eq_true rfl) (e_isPerson hM hs hI) ?_
  refine r_if_eq (μ := mX12_may) (pc := 5) (tgt := 16) dX12_may_5 (by decide) (fun h_5 => ?_) (fun h_5 => ?_)
  · have h_5 := b2i_0 h_5
    refine r_ldc (μ := mX12_may) (pc := 16) dX12_may_16 ctX12_78 ?_
    exact r_iret (μ := mX12_may) (pc := 18) dX12_may_18 rfl rfl (PI_i rfl)
  · have h_5 := b2i_1 h_5
    refine r_aload_n (μ := mX12_may) (pc := 8) dX12_may_8 rfl rfl rfl ?_
    refine r_iload_n (μ := mX12_may) (pc := 9) dX12_may_9 rfl rfl ?_
    refine vP1 (μ := mX12_may) (pc := 10) (c0 := 12) (q0 := (RX12, TX12, 34)) (μ2 := mX12_isLadder) dX12_may_10 rfl rfl lkX12_137 imX12_isLadder seX12_X12_isLadder_X12_isLadder mwX12_isLadder (Nat.le_of_ble_eq_true rfl) (e_isLadder hM hs hI) ?_
    refine r_if_ne (μ := mX12_may) (pc := 13) (tgt := 19) dX12_may_13 (by decide) (fun h_13 => ?_) (fun h_13 => ?_)
    · have h_13 := b2i_1 h_13
      exact absurd ⟨h_5, h_13⟩ hb
    · have h_13 := b2i_0 h_13
      refine r_ldc (μ := mX12_may) (pc := 16) dX12_may_16 ctX12_78 ?_
      exact r_iret (μ := mX12_may) (pc := 18) dX12_may_18 rfl rfl (PI_i rfl)

theorem c_may {d : Nat} {mi : MI} {mr : MR} (hM : MB mr) {s : Rw} (hs : mi 1 = s) {n m p q : Nat} (hI : Inv s n m p q) {i l : Nat} (hi : i < p) (hl : l < m) : CP (d + 5) mX12_may [.ref 0, .int (nI i), .int (nI l)] shM mi mr 0 0 (PX shM mr (fun r mi2 => r = b2i (maySt s p q i l) ∧ SB mi mi2)) := by
  have hn10 := hI.n10; have hm8 := hI.m8; have hp6 := hI.p6; have hq14 := hI.q14
  refine CP.of (L := [_, _, _]) (by decide) rfl rfl (Nat.le_of_ble_eq_true rfl) ?_
  refine r_aload_n (μ := mX12_may) (pc := 0) dX12_may_0 rfl rfl rfl ?_
  refine r_iload_n (μ := mX12_may) (pc := 1) dX12_may_1 rfl rfl ?_
  refine vP1 (μ := mX12_may) (pc := 2) (c0 := 12) (q0 := (RX12, TX12, 34)) (μ2 := mX12_isPerson) dX12_may_2 rfl rfl lkX12_156 imX12_isPerson seX12_X12_isPerson_X12_isPerson mwX12_isPerson (Nat.le_of_ble_eq_true rfl) (e_isPerson hM hs hI) ?_
  refine r_if_eq (μ := mX12_may) (pc := 5) (tgt := 16) dX12_may_5 (by decide) (fun h_5 => absurd h_5 (b2i_ne (inR_nI hi (by omega)))) (fun h_5 => ?_)
  refine r_aload_n (μ := mX12_may) (pc := 8) dX12_may_8 rfl rfl rfl ?_
  refine r_iload_n (μ := mX12_may) (pc := 9) dX12_may_9 rfl rfl ?_
  refine vP1 (μ := mX12_may) (pc := 10) (c0 := 12) (q0 := (RX12, TX12, 34)) (μ2 := mX12_isLadder) dX12_may_10 rfl rfl lkX12_137 imX12_isLadder seX12_X12_isLadder_X12_isLadder mwX12_isLadder (Nat.le_of_ble_eq_true rfl) (e_isLadder hM hs hI) ?_
  refine r_if_ne (μ := mX12_may) (pc := 13) (tgt := 19) dX12_may_13 (by decide) (fun h_13 => ?_) (fun h_13 => absurd h_13 (b2i_ne (inR_nI hl (by omega))))
  refine r_aload_n (μ := mX12_may) (pc := 19) dX12_may_19 rfl rfl rfl ?_
  refine r_iload_n (μ := mX12_may) (pc := 20) dX12_may_20 rfl rfl ?_
  refine r_iload_n (μ := mX12_may) (pc := 21) dX12_may_21 rfl rfl ?_
  refine vX2 (μ := mX12_may) (pc := 22) (c0 := 12) (q0 := (RX12, TX12, 34)) (μ2 := mX12_mayMove) dX12_may_22 rfl rfl lkX12_165 imX12_mayMove seX12_X12_mayMove_X12_mayMove mwX12_mayMove (Nat.le_of_ble_eq_true rfl) (c_mayMove hM hs hI hi hl) (fun r_22 mi_22 h_22 => ?_)
  obtain ⟨rfl, h22⟩ := h_22
  refine r_if_eq (μ := mX12_may) (pc := 25) (tgt := 32) dX12_may_25 (by decide) (fun h_25 => ?_) (fun h_25 => ?_)
  · have h_25 := b2i_0 h_25
    refine r_iconst (μ := mX12_may) (pc := 32) (v := 0) dX12_may_32 ic_0 ?_
    exact r_iret (μ := mX12_may) (pc := 33) dX12_may_33 rfl rfl (PX_i ⟨by rw [h_25]; rfl, h22⟩)
  · have h_25 := b2i_1 h_25
    refine r_iconst (μ := mX12_may) (pc := 28) (v := 1) dX12_may_28 ic_1 ?_
    refine r_goto (μ := mX12_may) (pc := 29) (tgt := 33) dX12_may_29 (by decide) ?_
    exact r_iret (μ := mX12_may) (pc := 33) dX12_may_33 rfl rfl (PX_i ⟨by rw [h_25]; rfl, h22⟩)

theorem c_move_bad {d : Nat} {mi : MI} {mr : MR} (hM : MB mr) {s : Rw} (hs : mi 1 = s) {n m p q : Nat} (hI : Inv s n m p q) {x y z : Int32} (hb : ¬ (inR x p = true ∧ inR y m = true ∧ inR z n = true)) : CP (d + 2) mX12_move [.ref 0, .int x, .int y, .int z] shM mi mr 0 0 (PI (BADc) shM mi mr) := by
  refine CP.of (L := [_, _, _, _]) (by decide) rfl rfl (Nat.le_of_ble_eq_true rfl) ?_
  refine r_aload_n (μ := mX12_move) (pc := 0) dX12_move_0 rfl rfl rfl ?_
  refine r_iload_n (μ := mX12_move) (pc := 1) dX12_move_1 rfl rfl ?_
  refine vP1 (μ := mX12_move) (pc := 2) (c0 := 12) (q0 := (RX12, TX12, 34)) (μ2 := mX12_isPerson) dX12_move_2 rfl rfl lkX12_156 imX12_isPerson seX12_X12_isPerson_X12_isPerson mwX12_isPerson (Nat.le_of_ble_eq_true rfl) (e_isPerson hM hs hI) ?_
  refine r_if_eq (μ := mX12_move) (pc := 5) (tgt := 24) dX12_move_5 (by decide) (fun h_5 => ?_) (fun h_5 => ?_)
  · have h_5 := b2i_0 h_5
    refine r_ldc (μ := mX12_move) (pc := 24) dX12_move_24 ctX12_78 ?_
    exact r_iret (μ := mX12_move) (pc := 26) dX12_move_26 rfl rfl (PI_i rfl)
  · have h_5 := b2i_1 h_5
    refine r_aload_n (μ := mX12_move) (pc := 8) dX12_move_8 rfl rfl rfl ?_
    refine r_iload_n (μ := mX12_move) (pc := 9) dX12_move_9 rfl rfl ?_
    refine vP1 (μ := mX12_move) (pc := 10) (c0 := 12) (q0 := (RX12, TX12, 34)) (μ2 := mX12_isLadder) dX12_move_10 rfl rfl lkX12_137 imX12_isLadder seX12_X12_isLadder_X12_isLadder mwX12_isLadder (Nat.le_of_ble_eq_true rfl) (e_isLadder hM hs hI) ?_
    refine r_if_eq (μ := mX12_move) (pc := 13) (tgt := 24) dX12_move_13 (by decide) (fun h_13 => ?_) (fun h_13 => ?_)
    · have h_13 := b2i_0 h_13
      refine r_ldc (μ := mX12_move) (pc := 24) dX12_move_24 ctX12_78 ?_
      exact r_iret (μ := mX12_move) (pc := 26) dX12_move_26 rfl rfl (PI_i rfl)
    · have h_13 := b2i_1 h_13
      refine r_aload_n (μ := mX12_move) (pc := 16) dX12_move_16 rfl rfl rfl ?_
      refine r_iload_n (μ := mX12_move) (pc := 17) dX12_move_17 rfl rfl ?_
      refine vP1 (μ := mX12_move) (pc := 18) (c0 := 12) (q0 := (RX12, TX12, 34)) (μ2 := mX12_isLedge) dX12_move_18 rfl rfl lkX12_84 imX12_isLedge seX12_X12_isLedge_X12_isLedge mwX12_isLedge (Nat.le_of_ble_eq_true rfl) (e_isLedge hM hs hI) ?_
      refine r_if_ne (μ := mX12_move) (pc := 21) (tgt := 27) dX12_move_21 (by decide) (fun h_21 => ?_) (fun h_21 => ?_)
      · have h_21 := b2i_1 h_21
        exact absurd ⟨h_5, h_13, h_21⟩ hb
      · have h_21 := b2i_0 h_21
        refine r_ldc (μ := mX12_move) (pc := 24) dX12_move_24 ctX12_78 ?_
        exact r_iret (μ := mX12_move) (pc := 26) dX12_move_26 rfl rfl (PI_i rfl)

theorem c_move {d : Nat} {mi : MI} {mr : MR} (hM : MB mr) {s : Rw} (hs : mi 1 = s) {n m p q : Nat} (hI : Inv s n m p q) {i l b : Nat} (hi : i < p) (hl : l < m) (hb : b < n) : CP (d + 5) mX12_move [.ref 0, .int (nI i), .int (nI l), .int (nI b)] shM mi mr 0 0 (PX shM mr (fun r mi2 => if maySt s p q i l = true ∧ ¬ tN s l = b ∧ rchS s q l b = true then r = nI (tN s l) ∧ ∃ mi1, SB mi mi1 ∧ mi2 = upI (upI mi1 1 (28 + 5 * l + 4) 1) 1 (28 + 5 * l + 3) (nI b) else r = NOc ∧ SB mi mi2)) := by
  have hn10 := hI.n10; have hm8 := hI.m8; have hp6 := hI.p6; have hq14 := hI.q14
  have htn := hI.tn hl
  refine CP.of (L := [_, _, _, _]) (by decide) rfl rfl (Nat.le_of_ble_eq_true rfl) ?_
  refine r_aload_n (μ := mX12_move) (pc := 0) dX12_move_0 rfl rfl rfl ?_
  refine r_iload_n (μ := mX12_move) (pc := 1) dX12_move_1 rfl rfl ?_
  refine vP1 (μ := mX12_move) (pc := 2) (c0 := 12) (q0 := (RX12, TX12, 34)) (μ2 := mX12_isPerson) dX12_move_2 rfl rfl lkX12_156 imX12_isPerson seX12_X12_isPerson_X12_isPerson mwX12_isPerson (Nat.le_of_ble_eq_true rfl) (e_isPerson hM hs hI) ?_
  refine r_if_eq (μ := mX12_move) (pc := 5) (tgt := 24) dX12_move_5 (by decide) (fun h_5 => absurd h_5 (b2i_ne (inR_nI hi (by omega)))) (fun h_5 => ?_)
  refine r_aload_n (μ := mX12_move) (pc := 8) dX12_move_8 rfl rfl rfl ?_
  refine r_iload_n (μ := mX12_move) (pc := 9) dX12_move_9 rfl rfl ?_
  refine vP1 (μ := mX12_move) (pc := 10) (c0 := 12) (q0 := (RX12, TX12, 34)) (μ2 := mX12_isLadder) dX12_move_10 rfl rfl lkX12_137 imX12_isLadder seX12_X12_isLadder_X12_isLadder mwX12_isLadder (Nat.le_of_ble_eq_true rfl) (e_isLadder hM hs hI) ?_
  refine r_if_eq (μ := mX12_move) (pc := 13) (tgt := 24) dX12_move_13 (by decide) (fun h_13 => absurd h_13 (b2i_ne (inR_nI hl (by omega)))) (fun h_13 => ?_)
  refine r_aload_n (μ := mX12_move) (pc := 16) dX12_move_16 rfl rfl rfl ?_
  refine r_iload_n (μ := mX12_move) (pc := 17) dX12_move_17 rfl rfl ?_
  refine vP1 (μ := mX12_move) (pc := 18) (c0 := 12) (q0 := (RX12, TX12, 34)) (μ2 := mX12_isLedge) dX12_move_18 rfl rfl lkX12_84 imX12_isLedge seX12_X12_isLedge_X12_isLedge mwX12_isLedge (Nat.le_of_ble_eq_true rfl) (e_isLedge hM hs hI) ?_
  refine r_if_ne (μ := mX12_move) (pc := 21) (tgt := 27) dX12_move_21 (by decide) (fun h_21 => ?_) (fun h_21 => absurd h_21 (b2i_ne (inR_nI hb (by omega))))
  refine r_aload_n (μ := mX12_move) (pc := 27) dX12_move_27 rfl rfl rfl ?_
  refine r_iload_n (μ := mX12_move) (pc := 28) dX12_move_28 rfl rfl ?_
  refine r_iload_n (μ := mX12_move) (pc := 29) dX12_move_29 rfl rfl ?_
  refine vX2 (μ := mX12_move) (pc := 30) (c0 := 12) (q0 := (RX12, TX12, 34)) (μ2 := mX12_mayMove) dX12_move_30 rfl rfl lkX12_165 imX12_mayMove seX12_X12_mayMove_X12_mayMove mwX12_mayMove (Nat.le_of_ble_eq_true rfl) (c_mayMove hM hs hI hi hl) (fun r_30 mi_30 h_30 => ?_)
  obtain ⟨rfl, h30⟩ := h_30
  refine r_if_eq (μ := mX12_move) (pc := 33) (tgt := 55) dX12_move_33 (by decide) (fun h_33 => ?_) (fun h_33 => ?_)
  · have h_33 := b2i_0 h_33
    have hC : ¬ (maySt s p q i l = true ∧ ¬ tN s l = b ∧ rchS s q l b = true) := fun q => by rw [h_33] at q; exact absurd q.1 (by decide)
    refine r_ldc (μ := mX12_move) (pc := 55) dX12_move_55 ctX12_168 ?_
    exact r_iret (μ := mX12_move) (pc := 57) dX12_move_57 rfl rfl (PX_i (by rw [if_neg hC]; exact ⟨rfl, by first | exact h30 | exact h30.tr h49⟩))
  · have h_33 := b2i_1 h_33
    refine r_aload_n (μ := mX12_move) (pc := 36) dX12_move_36 rfl rfl rfl ?_
    refine r_iload_n (μ := mX12_move) (pc := 37) dX12_move_37 rfl rfl ?_
    refine r_iconst (μ := mX12_move) (pc := 38) (v := 3) dX12_move_38 ic_3 ?_
    refine vP2 (μ := mX12_move) (pc := 39) (c0 := 12) (q0 := (RX12, TX12, 34)) (μ2 := mX12_of) dX12_move_39 rfl rfl lkX12_90 imX12_of seX12_X12_of_X12_of mwX12_of (Nat.le_of_ble_eq_true rfl) (e_of hM (h30.r1.trans hs) (by omega) (by decide)) ?_
    rw [hI.t hl]
    refine r_iload_n (μ := mX12_move) (pc := 42) dX12_move_42 rfl rfl ?_
    refine r_icmp_eq (μ := mX12_move) (pc := 43) (tgt := 55) dX12_move_43 (by decide) (fun h_43 => ?_) (fun h_43 => ?_)
    · have h43 : tN s l = b := (nI_eq (by omega) (by omega)).mp h_43
      have hC : ¬ (maySt s p q i l = true ∧ ¬ tN s l = b ∧ rchS s q l b = true) := fun q => q.2.1 h43
      refine r_ldc (μ := mX12_move) (pc := 55) dX12_move_55 ctX12_168 ?_
      exact r_iret (μ := mX12_move) (pc := 57) dX12_move_57 rfl rfl (PX_i (by rw [if_neg hC]; exact ⟨rfl, by first | exact h30 | exact h30.tr h49⟩))
    · refine r_aload_n (μ := mX12_move) (pc := 46) dX12_move_46 rfl rfl rfl ?_
      refine r_iload_n (μ := mX12_move) (pc := 47) dX12_move_47 rfl rfl ?_
      refine r_iload_n (μ := mX12_move) (pc := 48) dX12_move_48 rfl rfl ?_
      refine vX2 (μ := mX12_move) (pc := 49) (c0 := 12) (q0 := (RX12, TX12, 34)) (μ2 := mX12_reaches) dX12_move_49 rfl rfl lkX12_133 imX12_reaches seX12_X12_reaches_X12_reaches mwX12_reaches (Nat.le_of_ble_eq_true rfl) (c_reaches hM (h30.r1.trans hs) hI hl hb) (fun r_49 mi_49 h_49 => ?_)
      obtain ⟨rfl, h49⟩ := h_49
      refine r_if_ne (μ := mX12_move) (pc := 52) (tgt := 58) dX12_move_52 (by decide) (fun h_52 => ?_) (fun h_52 => ?_)
      · have h_52 := b2i_1 h_52
        have hC : (maySt s p q i l = true ∧ ¬ tN s l = b ∧ rchS s q l b = true) := ⟨h_33, fun q => h_43 (by rw [q]), h_52⟩
        refine r_aload_n (μ := mX12_move) (pc := 58) dX12_move_58 rfl rfl rfl ?_
        refine r_iload_n (μ := mX12_move) (pc := 59) dX12_move_59 rfl rfl ?_
        refine r_iconst (μ := mX12_move) (pc := 60) (v := 4) dX12_move_60 ic_4 ?_
        refine r_iconst (μ := mX12_move) (pc := 61) (v := 1) dX12_move_61 ic_1 ?_
        refine vV3 (μ := mX12_move) (pc := 62) (c0 := 12) (q0 := (RX12, TX12, 34)) (μ2 := mX12_sets) dX12_move_62 rfl rfl lkX12_108 imX12_sets seX12_X12_sets_X12_sets mwX12_sets (Nat.le_of_ble_eq_true rfl) (c_sets hM (by omega) (by decide)) (fun mi_62 h_62 => ?_)
        subst h_62
        refine r_aload_n (μ := mX12_move) (pc := 65) dX12_move_65 rfl rfl rfl ?_
        refine r_bipush (μ := mX12_move) (pc := 66) (v := 28) dX12_move_66 bp_28 ?_
        refine r_iconst (μ := mX12_move) (pc := 68) (v := 5) dX12_move_68 ic_5 ?_
        refine r_iload_n (μ := mX12_move) (pc := 69) dX12_move_69 rfl rfl ?_
        refine r_imul (μ := mX12_move) (pc := 70) dX12_move_70 ?_
        refine r_iadd (μ := mX12_move) (pc := 71) dX12_move_71 ?_
        refine r_iconst (μ := mX12_move) (pc := 72) (v := 3) dX12_move_72 ic_3 ?_
        refine r_iadd (μ := mX12_move) (pc := 73) dX12_move_73 ?_
        refine r_iload_n (μ := mX12_move) (pc := 74) dX12_move_74 rfl rfl ?_
        refine vX2 (μ := mX12_move) (pc := 75) (c0 := 12) (q0 := (RX12, TX12, 34)) (μ2 := mX12_becomes) dX12_move_75 rfl rfl lkX12_97 imX12_becomes seX12_X12_becomes_X12_becomes mwX12_becomes (Nat.le_of_ble_eq_true rfl) (c_becomesE hM (k := 28 + 5 * l + 3) (by simp only [← nI_add, ← pk_mul]; rfl) (by omega)) (fun r_75 mi_75 h_75 => ?_)
        exact r_iret (μ := mX12_move) (pc := 78) dX12_move_78 rfl rfl (PX_i (by rw [if_pos hC]; exact ⟨h_75.1.trans (by rw [up_ne (show 28 + 5 * l + 3 ≠ 28 + 5 * l + 4 by omega), h49.r1, h30.r1, hs]; exact hI.t hl), _, h30.tr h49, h_75.2⟩))
      · have h_52 := b2i_0 h_52
        have hC : ¬ (maySt s p q i l = true ∧ ¬ tN s l = b ∧ rchS s q l b = true) := fun q => by rw [h_52] at q; exact absurd q.2.2 (by decide)
        refine r_ldc (μ := mX12_move) (pc := 55) dX12_move_55 ctX12_168 ?_
        exact r_iret (μ := mX12_move) (pc := 57) dX12_move_57 rfl rfl (PX_i (by rw [if_neg hC]; exact ⟨rfl, by first | exact h30 | exact h30.tr h49⟩))

theorem c_climb_bad {d : Nat} {mi : MI} {mr : MR} (hM : MB mr) {s : Rw} (hs : mi 1 = s) {n m p q : Nat} (hI : Inv s n m p q) {x y : Int32} (hb : ¬ (inR x p = true ∧ inR y m = true)) : CP (d + 2) mX12_climb [.ref 0, .int x, .int y] shM mi mr 0 0 (PI (BADc) shM mi mr) := by
  refine CP.of (L := [_, _, _, _, _, _]) (by decide) rfl rfl (Nat.le_of_ble_eq_true rfl) ?_
  refine r_aload_n (μ := mX12_climb) (pc := 0) dX12_climb_0 rfl rfl rfl ?_
  refine r_iload_n (μ := mX12_climb) (pc := 1) dX12_climb_1 rfl rfl ?_
  refine vP1 (μ := mX12_climb) (pc := 2) (c0 := 12) (q0 := (RX12, TX12, 34)) (μ2 := mX12_isPerson) dX12_climb_2 rfl rfl lkX12_156 imX12_isPerson seX12_X12_isPerson_X12_isPerson mwX12_isPerson (Nat.le_of_ble_eq_true rfl) (e_isPerson hM hs hI) ?_
  refine r_if_eq (μ := mX12_climb) (pc := 5) (tgt := 16) dX12_climb_5 (by decide) (fun h_5 => ?_) (fun h_5 => ?_)
  · have h_5 := b2i_0 h_5
    refine r_ldc (μ := mX12_climb) (pc := 16) dX12_climb_16 ctX12_78 ?_
    exact r_iret (μ := mX12_climb) (pc := 18) dX12_climb_18 rfl rfl (PI_i rfl)
  · have h_5 := b2i_1 h_5
    refine r_aload_n (μ := mX12_climb) (pc := 8) dX12_climb_8 rfl rfl rfl ?_
    refine r_iload_n (μ := mX12_climb) (pc := 9) dX12_climb_9 rfl rfl ?_
    refine vP1 (μ := mX12_climb) (pc := 10) (c0 := 12) (q0 := (RX12, TX12, 34)) (μ2 := mX12_isLadder) dX12_climb_10 rfl rfl lkX12_137 imX12_isLadder seX12_X12_isLadder_X12_isLadder mwX12_isLadder (Nat.le_of_ble_eq_true rfl) (e_isLadder hM hs hI) ?_
    refine r_if_ne (μ := mX12_climb) (pc := 13) (tgt := 19) dX12_climb_13 (by decide) (fun h_13 => ?_) (fun h_13 => ?_)
    · have h_13 := b2i_1 h_13
      exact absurd ⟨h_5, h_13⟩ hb
    · have h_13 := b2i_0 h_13
      refine r_ldc (μ := mX12_climb) (pc := 16) dX12_climb_16 ctX12_78 ?_
      exact r_iret (μ := mX12_climb) (pc := 18) dX12_climb_18 rfl rfl (PI_i rfl)

theorem e_minutesU {d : Nat} {mi : MI} {mr : MR} (hM : MB mr) {s : Rw} (hs : mi 1 = s) {n m p q : Nat} (hI : Inv s n m p q) {l i : Nat} (hl : l < m) {v : Int32} (hi : i < 6) : CP (d + 1) mX12_minutes [.ref 0, .int (nI l)] shM (upI mi 1 (68 + 2 * i) v) mr 0 0 (PI (mntN s l (tN s l) (fN s l)) shM (upI mi 1 (68 + 2 * i) v) mr) := by
  have hm8 := hI.m8
  have hn10 := hI.n10
  have ht := hI.tn hl
  have hf := hI.fn hl
  have e : ∀ k, k < 68 → (upI mi 1 (68 + 2 * i) v) 1 k = s k := fun k hk => by rw [up_ne (by omega), hs]
  have h := c_minutes (d := d) (mi := upI mi 1 (68 + 2 * i) v) hM (l := l) (k := kN s l) (t := tN s l) (f := fN s l) (by omega) (by rw [e _ (by omega)]; exact hI.k hl) (hI.k6 hl) (by rw [e _ (by omega)]; exact hI.t hl) (by omega) (by rw [e _ (by omega)]; exact hI.f hl) (by omega)
  have e2 : mntN ((upI mi 1 (68 + 2 * i) v) 1) l (tN s l) (fN s l) = mntN s l (tN s l) (fN s l) := by
    unfold mntN riseN hgt knd
    rw [e _ (by omega), e _ (by omega), e _ (by omega)]
  rwa [e2] at h

theorem c_climb {d : Nat} {mi : MI} {mr : MR} (hM : MB mr) {s : Rw} (hs : mi 1 = s) {n m p q : Nat} (hI : Inv s n m p q) {i l : Nat} (hi : i < p) (hl : l < m) : CP (d + 5) mX12_climb [.ref 0, .int (nI i), .int (nI l)] shM mi mr 0 0 (PX shM mr (fun r mi2 => if stdS s q l = true ∧ (sN s i = fN s l ∨ sN s i = tN s l) then r = mntN s l (tN s l) (fN s l) ∧ ∃ mi1, SB mi mi1 ∧ mi2 = upI mi1 1 (68 + 2 * i) (nI (if sN s i = fN s l then tN s l else fN s l)) else r = NOc ∧ SB mi mi2)) := by
  have hn10 := hI.n10; have hm8 := hI.m8; have hp6 := hI.p6; have hq14 := hI.q14
  have htn := hI.tn hl
  have hfn := hI.fn hl
  have hsn := hI.sn hi
  refine CP.of (L := [_, _, _, _, _, _]) (by decide) rfl rfl (Nat.le_of_ble_eq_true rfl) ?_
  refine r_aload_n (μ := mX12_climb) (pc := 0) dX12_climb_0 rfl rfl rfl ?_
  refine r_iload_n (μ := mX12_climb) (pc := 1) dX12_climb_1 rfl rfl ?_
  refine vP1 (μ := mX12_climb) (pc := 2) (c0 := 12) (q0 := (RX12, TX12, 34)) (μ2 := mX12_isPerson) dX12_climb_2 rfl rfl lkX12_156 imX12_isPerson seX12_X12_isPerson_X12_isPerson mwX12_isPerson (Nat.le_of_ble_eq_true rfl) (e_isPerson hM hs hI) ?_
  refine r_if_eq (μ := mX12_climb) (pc := 5) (tgt := 16) dX12_climb_5 (by decide) (fun h_5 => absurd h_5 (b2i_ne (inR_nI hi (by omega)))) (fun h_5 => ?_)
  refine r_aload_n (μ := mX12_climb) (pc := 8) dX12_climb_8 rfl rfl rfl ?_
  refine r_iload_n (μ := mX12_climb) (pc := 9) dX12_climb_9 rfl rfl ?_
  refine vP1 (μ := mX12_climb) (pc := 10) (c0 := 12) (q0 := (RX12, TX12, 34)) (μ2 := mX12_isLadder) dX12_climb_10 rfl rfl lkX12_137 imX12_isLadder seX12_X12_isLadder_X12_isLadder mwX12_isLadder (Nat.le_of_ble_eq_true rfl) (e_isLadder hM hs hI) ?_
  refine r_if_ne (μ := mX12_climb) (pc := 13) (tgt := 19) dX12_climb_13 (by decide) (fun h_13 => ?_) (fun h_13 => absurd h_13 (b2i_ne (inR_nI hl (by omega))))
  refine r_aload_n (μ := mX12_climb) (pc := 19) dX12_climb_19 rfl rfl rfl ?_
  refine r_iload_n (μ := mX12_climb) (pc := 20) dX12_climb_20 rfl rfl ?_
  refine vP1 (μ := mX12_climb) (pc := 21) (c0 := 12) (q0 := (RX12, TX12, 34)) (μ2 := mX12_where) dX12_climb_21 rfl rfl lkX12_70 imX12_where seX12_X12_where_X12_where mwX12_where (Nat.le_of_ble_eq_true rfl) (e_where hM hs (by omega)) ?_
  rw [show spt s i = nI (sN s i) from hI.sp hi]
  refine s_istore_n (μ := mX12_climb) (pc := 24) (L2 := [_, _, _, _, _, _]) dX12_climb_24 rfl (Nat.le_of_ble_eq_true rfl) (Nat.le_of_ble_eq_true rfl) rfl rfl ?_
  refine r_aload_n (μ := mX12_climb) (pc := 25) dX12_climb_25 rfl rfl rfl ?_
  refine r_iload_n (μ := mX12_climb) (pc := 26) dX12_climb_26 rfl rfl ?_
  refine r_iconst (μ := mX12_climb) (pc := 27) (v := 2) dX12_climb_27 ic_2 ?_
  refine vP2 (μ := mX12_climb) (pc := 28) (c0 := 12) (q0 := (RX12, TX12, 34)) (μ2 := mX12_of) dX12_climb_28 rfl rfl lkX12_90 imX12_of seX12_X12_of_X12_of mwX12_of (Nat.le_of_ble_eq_true rfl) (e_of hM hs (by omega) (by decide)) ?_
  rw [hI.f hl]
  refine s_istore (μ := mX12_climb) (pc := 31) (L2 := [_, _, _, _, _, _]) dX12_climb_31 (Nat.le_of_ble_eq_true rfl) (Nat.le_of_ble_eq_true rfl) rfl rfl ?_
  refine r_aload_n (μ := mX12_climb) (pc := 33) dX12_climb_33 rfl rfl rfl ?_
  refine r_iload_n (μ := mX12_climb) (pc := 34) dX12_climb_34 rfl rfl ?_
  refine r_iconst (μ := mX12_climb) (pc := 35) (v := 3) dX12_climb_35 ic_3 ?_
  refine vP2 (μ := mX12_climb) (pc := 36) (c0 := 12) (q0 := (RX12, TX12, 34)) (μ2 := mX12_of) dX12_climb_36 rfl rfl lkX12_90 imX12_of seX12_X12_of_X12_of mwX12_of (Nat.le_of_ble_eq_true rfl) (e_of hM hs (by omega) (by decide)) ?_
  rw [hI.t hl]
  refine s_istore (μ := mX12_climb) (pc := 39) (L2 := [_, _, _, _, _, _]) dX12_climb_39 (Nat.le_of_ble_eq_true rfl) (Nat.le_of_ble_eq_true rfl) rfl rfl ?_
  refine r_aload_n (μ := mX12_climb) (pc := 41) dX12_climb_41 rfl rfl rfl ?_
  refine r_iload_n (μ := mX12_climb) (pc := 42) dX12_climb_42 rfl rfl ?_
  refine vX1 (μ := mX12_climb) (pc := 43) (c0 := 12) (q0 := (RX12, TX12, 34)) (μ2 := mX12_stands) dX12_climb_43 rfl rfl lkX12_143 imX12_stands seX12_X12_stands_X12_stands mwX12_stands (Nat.le_of_ble_eq_true rfl) (c_stands hM hs hI hl) (fun r_43 mi_43 h_43 => ?_)
  obtain ⟨rfl, h43⟩ := h_43
  refine r_if_eq (μ := mX12_climb) (pc := 46) (tgt := 61) dX12_climb_46 (by decide) (fun h_46 => ?_) (fun h_46 => ?_)
  · have h_46 := b2i_0 h_46
    have hC : ¬ (stdS s q l = true ∧ (sN s i = fN s l ∨ sN s i = tN s l)) := fun q => by rw [h_46] at q; exact absurd q.1 (by decide)
    refine r_ldc (μ := mX12_climb) (pc := 61) dX12_climb_61 ctX12_168 ?_
    exact r_iret (μ := mX12_climb) (pc := 63) dX12_climb_63 rfl rfl (PX_i (by rw [if_neg hC]; exact ⟨rfl, h43⟩))
  · have h_46 := b2i_1 h_46
    refine r_iload_n (μ := mX12_climb) (pc := 49) dX12_climb_49 rfl rfl ?_
    refine r_iload (μ := mX12_climb) (pc := 50) dX12_climb_50 rfl ?_
    refine r_icmp_eq (μ := mX12_climb) (pc := 52) (tgt := 64) dX12_climb_52 (by decide) (fun h_52 => ?_) (fun h_52 => ?_)
    · have h52 : sN s i = fN s l := (nI_eq (by omega) (by omega)).mp h_52
      have hC : (stdS s q l = true ∧ (sN s i = fN s l ∨ sN s i = tN s l)) := ⟨h_46, Or.inl h52⟩
      refine r_aload_n (μ := mX12_climb) (pc := 64) dX12_climb_64 rfl rfl rfl ?_
      refine r_getR (μ := mX12_climb) (pc := 65) dX12_climb_65 fpX12_7 rfl rfl (by decide) (hM _ _ rfl) ?_
      refine r_bipush (μ := mX12_climb) (pc := 68) (v := 68) dX12_climb_68 bp_68 ?_
      refine r_iconst (μ := mX12_climb) (pc := 70) (v := 2) dX12_climb_70 ic_2 ?_
      refine r_iload_n (μ := mX12_climb) (pc := 71) dX12_climb_71 rfl rfl ?_
      refine r_imul (μ := mX12_climb) (pc := 72) dX12_climb_72 ?_
      refine r_iadd (μ := mX12_climb) (pc := 73) dX12_climb_73 ?_
      refine r_iload_n (μ := mX12_climb) (pc := 74) dX12_climb_74 rfl rfl ?_
      refine r_iload (μ := mX12_climb) (pc := 75) dX12_climb_75 rfl ?_
      refine r_icmp_ne (μ := mX12_climb) (pc := 77) (tgt := 85) dX12_climb_77 (by decide) (fun h_77 => ?_) (fun h_77 => ?_)
      · have h77 : ¬ sN s i = fN s l := fun q => h_77 (by rw [q])
        refine r_iload (μ := mX12_climb) (pc := 85) dX12_climb_85 rfl ?_
        refine r_iastore (μ := mX12_climb) (pc := 87) (j := (68 + (2 * i))) dX12_climb_87 rfl (by simp only [← nI_add, ← pk_mul] <;> rfl) (by omega) (by decide) ?_
        refine r_aload_n (μ := mX12_climb) (pc := 88) dX12_climb_88 rfl rfl rfl ?_
        refine r_iload_n (μ := mX12_climb) (pc := 89) dX12_climb_89 rfl rfl ?_
        refine vP1 (μ := mX12_climb) (pc := 90) (c0 := 12) (q0 := (RX12, TX12, 34)) (μ2 := mX12_minutes) dX12_climb_90 rfl rfl lkX12_140 imX12_minutes seX12_X12_minutes_X12_minutes mwX12_minutes (Nat.le_of_ble_eq_true rfl) (e_minutesU hM (h43.r1.trans hs) hI hl (by omega)) ?_
        exact r_iret (μ := mX12_climb) (pc := 93) dX12_climb_93 rfl rfl (PX_i (by rw [if_pos hC]; exact ⟨rfl, _, h43, by first | rw [if_pos h77] | rw [if_neg h77]⟩))
      · have h77 : sN s i = fN s l := (nI_eq (by omega) (by omega)).mp h_77
        refine r_iload (μ := mX12_climb) (pc := 80) dX12_climb_80 rfl ?_
        refine r_goto (μ := mX12_climb) (pc := 82) (tgt := 87) dX12_climb_82 (by decide) ?_
        refine r_iastore (μ := mX12_climb) (pc := 87) (j := (68 + (2 * i))) dX12_climb_87 rfl (by simp only [← nI_add, ← pk_mul] <;> rfl) (by omega) (by decide) ?_
        refine r_aload_n (μ := mX12_climb) (pc := 88) dX12_climb_88 rfl rfl rfl ?_
        refine r_iload_n (μ := mX12_climb) (pc := 89) dX12_climb_89 rfl rfl ?_
        refine vP1 (μ := mX12_climb) (pc := 90) (c0 := 12) (q0 := (RX12, TX12, 34)) (μ2 := mX12_minutes) dX12_climb_90 rfl rfl lkX12_140 imX12_minutes seX12_X12_minutes_X12_minutes mwX12_minutes (Nat.le_of_ble_eq_true rfl) (e_minutesU hM (h43.r1.trans hs) hI hl (by omega)) ?_
        exact r_iret (μ := mX12_climb) (pc := 93) dX12_climb_93 rfl rfl (PX_i (by rw [if_pos hC]; exact ⟨rfl, _, h43, by first | rw [if_pos h77] | rw [if_neg h77]⟩))
    · have h52 : ¬ sN s i = fN s l := fun q => h_52 (by rw [q])
      refine r_iload_n (μ := mX12_climb) (pc := 55) dX12_climb_55 rfl rfl ?_
      refine r_iload (μ := mX12_climb) (pc := 56) dX12_climb_56 rfl ?_
      refine r_icmp_eq (μ := mX12_climb) (pc := 58) (tgt := 64) dX12_climb_58 (by decide) (fun h_58 => ?_) (fun h_58 => ?_)
      · have h58 : sN s i = tN s l := (nI_eq (by omega) (by omega)).mp h_58
        have hC : (stdS s q l = true ∧ (sN s i = fN s l ∨ sN s i = tN s l)) := ⟨h_46, Or.inr h58⟩
        refine r_aload_n (μ := mX12_climb) (pc := 64) dX12_climb_64 rfl rfl rfl ?_
        refine r_getR (μ := mX12_climb) (pc := 65) dX12_climb_65 fpX12_7 rfl rfl (by decide) (hM _ _ rfl) ?_
        refine r_bipush (μ := mX12_climb) (pc := 68) (v := 68) dX12_climb_68 bp_68 ?_
        refine r_iconst (μ := mX12_climb) (pc := 70) (v := 2) dX12_climb_70 ic_2 ?_
        refine r_iload_n (μ := mX12_climb) (pc := 71) dX12_climb_71 rfl rfl ?_
        refine r_imul (μ := mX12_climb) (pc := 72) dX12_climb_72 ?_
        refine r_iadd (μ := mX12_climb) (pc := 73) dX12_climb_73 ?_
        refine r_iload_n (μ := mX12_climb) (pc := 74) dX12_climb_74 rfl rfl ?_
        refine r_iload (μ := mX12_climb) (pc := 75) dX12_climb_75 rfl ?_
        refine r_icmp_ne (μ := mX12_climb) (pc := 77) (tgt := 85) dX12_climb_77 (by decide) (fun h_77 => ?_) (fun h_77 => ?_)
        · have h77 : ¬ sN s i = fN s l := fun q => h_77 (by rw [q])
          refine r_iload (μ := mX12_climb) (pc := 85) dX12_climb_85 rfl ?_
          refine r_iastore (μ := mX12_climb) (pc := 87) (j := (68 + (2 * i))) dX12_climb_87 rfl (by simp only [← nI_add, ← pk_mul] <;> rfl) (by omega) (by decide) ?_
          refine r_aload_n (μ := mX12_climb) (pc := 88) dX12_climb_88 rfl rfl rfl ?_
          refine r_iload_n (μ := mX12_climb) (pc := 89) dX12_climb_89 rfl rfl ?_
          refine vP1 (μ := mX12_climb) (pc := 90) (c0 := 12) (q0 := (RX12, TX12, 34)) (μ2 := mX12_minutes) dX12_climb_90 rfl rfl lkX12_140 imX12_minutes seX12_X12_minutes_X12_minutes mwX12_minutes (Nat.le_of_ble_eq_true rfl) (e_minutesU hM (h43.r1.trans hs) hI hl (by omega)) ?_
          exact r_iret (μ := mX12_climb) (pc := 93) dX12_climb_93 rfl rfl (PX_i (by rw [if_pos hC]; exact ⟨rfl, _, h43, by first | rw [if_pos h77] | rw [if_neg h77]⟩))
        · have h77 : sN s i = fN s l := (nI_eq (by omega) (by omega)).mp h_77
          refine r_iload (μ := mX12_climb) (pc := 80) dX12_climb_80 rfl ?_
          refine r_goto (μ := mX12_climb) (pc := 82) (tgt := 87) dX12_climb_82 (by decide) ?_
          refine r_iastore (μ := mX12_climb) (pc := 87) (j := (68 + (2 * i))) dX12_climb_87 rfl (by simp only [← nI_add, ← pk_mul] <;> rfl) (by omega) (by decide) ?_
          refine r_aload_n (μ := mX12_climb) (pc := 88) dX12_climb_88 rfl rfl rfl ?_
          refine r_iload_n (μ := mX12_climb) (pc := 89) dX12_climb_89 rfl rfl ?_
          refine vP1 (μ := mX12_climb) (pc := 90) (c0 := 12) (q0 := (RX12, TX12, 34)) (μ2 := mX12_minutes) dX12_climb_90 rfl rfl lkX12_140 imX12_minutes seX12_X12_minutes_X12_minutes mwX12_minutes (Nat.le_of_ble_eq_true rfl) (e_minutesU hM (h43.r1.trans hs) hI hl (by omega)) ?_
          exact r_iret (μ := mX12_climb) (pc := 93) dX12_climb_93 rfl rfl (PX_i (by rw [if_pos hC]; exact ⟨rfl, _, h43, by first | rw [if_pos h77] | rw [if_neg h77]⟩))
      · have h58 : ¬ sN s i = tN s l := fun q => h_58 (by rw [q])
        have hC : ¬ (stdS s q l = true ∧ (sN s i = fN s l ∨ sN s i = tN s l)) := fun q => q.2.elim h52 h58
        refine r_ldc (μ := mX12_climb) (pc := 61) dX12_climb_61 ctX12_168 ?_
        exact r_iret (μ := mX12_climb) (pc := 63) dX12_climb_63 rfl rfl (PX_i (by rw [if_neg hC]; exact ⟨rfl, h43⟩))

theorem c_needs_bad {d : Nat} {mi : MI} {mr : MR} (hM : MB mr) {s : Rw} (hs : mi 1 = s) {n m p q : Nat} (hI : Inv s n m p q) {x y : Int32} (hb : ¬ (inR x n = true ∧ inR y n = true ∧ ¬ x = y)) : CP (d + 2) mX12_needs [.ref 0, .int x, .int y] shM mi mr 0 0 (PI (BADc) shM mi mr) := by
  refine CP.of (L := [_, _, _]) (by decide) rfl rfl (Nat.le_of_ble_eq_true rfl) ?_
  refine r_aload_n (μ := mX12_needs) (pc := 0) dX12_needs_0 rfl rfl rfl ?_
  refine r_iload_n (μ := mX12_needs) (pc := 1) dX12_needs_1 rfl rfl ?_
  refine vP1 (μ := mX12_needs) (pc := 2) (c0 := 12) (q0 := (RX12, TX12, 34)) (μ2 := mX12_isLedge) dX12_needs_2 rfl rfl lkX12_84 imX12_isLedge seX12_X12_isLedge_X12_isLedge mwX12_isLedge (Nat.le_of_ble_eq_true rfl) (e_isLedge hM hs hI) ?_
  refine r_if_eq (μ := mX12_needs) (pc := 5) (tgt := 30) dX12_needs_5 (by decide) (fun h_5 => ?_) (fun h_5 => ?_)
  · have h_5 := b2i_0 h_5
    refine r_ldc (μ := mX12_needs) (pc := 30) dX12_needs_30 ctX12_78 ?_
    exact r_iret (μ := mX12_needs) (pc := 32) dX12_needs_32 rfl rfl (PI_i rfl)
  · have h_5 := b2i_1 h_5
    refine r_aload_n (μ := mX12_needs) (pc := 8) dX12_needs_8 rfl rfl rfl ?_
    refine r_iload_n (μ := mX12_needs) (pc := 9) dX12_needs_9 rfl rfl ?_
    refine vP1 (μ := mX12_needs) (pc := 10) (c0 := 12) (q0 := (RX12, TX12, 34)) (μ2 := mX12_isLedge) dX12_needs_10 rfl rfl lkX12_84 imX12_isLedge seX12_X12_isLedge_X12_isLedge mwX12_isLedge (Nat.le_of_ble_eq_true rfl) (e_isLedge hM hs hI) ?_
    refine r_if_eq (μ := mX12_needs) (pc := 13) (tgt := 30) dX12_needs_13 (by decide) (fun h_13 => ?_) (fun h_13 => ?_)
    · have h_13 := b2i_0 h_13
      refine r_ldc (μ := mX12_needs) (pc := 30) dX12_needs_30 ctX12_78 ?_
      exact r_iret (μ := mX12_needs) (pc := 32) dX12_needs_32 rfl rfl (PI_i rfl)
    · have h_13 := b2i_1 h_13
      refine r_iload_n (μ := mX12_needs) (pc := 16) dX12_needs_16 rfl rfl ?_
      refine r_iload_n (μ := mX12_needs) (pc := 17) dX12_needs_17 rfl rfl ?_
      refine r_icmp_eq (μ := mX12_needs) (pc := 18) (tgt := 30) dX12_needs_18 (by decide) (fun h_18 => ?_) (fun h_18 => ?_)
      · refine r_ldc (μ := mX12_needs) (pc := 30) dX12_needs_30 ctX12_78 ?_
        exact r_iret (μ := mX12_needs) (pc := 32) dX12_needs_32 rfl rfl (PI_i rfl)
      · exact absurd ⟨h_5, h_13, h_18⟩ hb

theorem c_needs {d : Nat} {mi : MI} {mr : MR} (hM : MB mr) {s : Rw} (hs : mi 1 = s) {n m p q : Nat} (hI : Inv s n m p q) {a b : Nat} (ha : a < n) (hb : b < n) (hab : a ≠ b) : CP (d + 3) mX12_needs [.ref 0, .int (nI a), .int (nI b)] shM mi mr 0 0 (PX shM mr (fun r mi2 => r = lenS s q a b ∧ SB mi mi2)) := by
  have hn10 := hI.n10; have hm8 := hI.m8; have hp6 := hI.p6; have hq14 := hI.q14
  refine CP.of (L := [_, _, _]) (by decide) rfl rfl (Nat.le_of_ble_eq_true rfl) ?_
  refine r_aload_n (μ := mX12_needs) (pc := 0) dX12_needs_0 rfl rfl rfl ?_
  refine r_iload_n (μ := mX12_needs) (pc := 1) dX12_needs_1 rfl rfl ?_
  refine vP1 (μ := mX12_needs) (pc := 2) (c0 := 12) (q0 := (RX12, TX12, 34)) (μ2 := mX12_isLedge) dX12_needs_2 rfl rfl lkX12_84 imX12_isLedge seX12_X12_isLedge_X12_isLedge mwX12_isLedge (Nat.le_of_ble_eq_true rfl) (e_isLedge hM hs hI) ?_
  refine r_if_eq (μ := mX12_needs) (pc := 5) (tgt := 30) dX12_needs_5 (by decide) (fun h_5 => absurd h_5 (b2i_ne (inR_nI ha (by omega)))) (fun h_5 => ?_)
  refine r_aload_n (μ := mX12_needs) (pc := 8) dX12_needs_8 rfl rfl rfl ?_
  refine r_iload_n (μ := mX12_needs) (pc := 9) dX12_needs_9 rfl rfl ?_
  refine vP1 (μ := mX12_needs) (pc := 10) (c0 := 12) (q0 := (RX12, TX12, 34)) (μ2 := mX12_isLedge) dX12_needs_10 rfl rfl lkX12_84 imX12_isLedge seX12_X12_isLedge_X12_isLedge mwX12_isLedge (Nat.le_of_ble_eq_true rfl) (e_isLedge hM hs hI) ?_
  refine r_if_eq (μ := mX12_needs) (pc := 13) (tgt := 30) dX12_needs_13 (by decide) (fun h_13 => absurd h_13 (b2i_ne (inR_nI hb (by omega)))) (fun h_13 => ?_)
  refine r_iload_n (μ := mX12_needs) (pc := 16) dX12_needs_16 rfl rfl ?_
  refine r_iload_n (μ := mX12_needs) (pc := 17) dX12_needs_17 rfl rfl ?_
  refine r_icmp_eq (μ := mX12_needs) (pc := 18) (tgt := 30) dX12_needs_18 (by decide) (fun h_18 => absurd h_18 (nI_ne hab (by omega) (by omega))) (fun h_18 => ?_)
  refine r_aload_n (μ := mX12_needs) (pc := 21) dX12_needs_21 rfl rfl rfl ?_
  refine r_iload_n (μ := mX12_needs) (pc := 22) dX12_needs_22 rfl rfl ?_
  refine r_iload_n (μ := mX12_needs) (pc := 23) dX12_needs_23 rfl rfl ?_
  refine vX2 (μ := mX12_needs) (pc := 24) (c0 := 12) (q0 := (RX12, TX12, 34)) (μ2 := mX12_needsOf) dX12_needs_24 rfl rfl lkX12_127 imX12_needsOf seX12_X12_needsOf_X12_needsOf mwX12_needsOf (Nat.le_of_ble_eq_true rfl) (c_needsOf hM hs hI ha hb) (fun r_24 mi_24 h_24 => ?_)
  refine r_goto (μ := mX12_needs) (pc := 27) (tgt := 32) dX12_needs_27 (by decide) ?_
  exact r_iret (μ := mX12_needs) (pc := 32) dX12_needs_32 rfl rfl (PX_i h_24)

theorem c_why_bad {d : Nat} {mi : MI} {mr : MR} (hM : MB mr) {s : Rw} (hs : mi 1 = s) {n m p q : Nat} (hI : Inv s n m p q) {x : Int32} (hb : ¬ inB x 0 2 = true) : CP (d + 2) mX12_why [.ref 0, .int x] shM mi mr 0 0 (PI (BADc) shM mi mr) := by
  refine CP.of (L := [_, _]) (by decide) rfl rfl (Nat.le_of_ble_eq_true rfl) ?_
  refine r_iload_n (μ := mX12_why) (pc := 0) dX12_why_0 rfl rfl ?_
  refine r_i2l (μ := mX12_why) (pc := 1) dX12_why_1 ?_
  refine r_lconst (μ := mX12_why) (pc := 2) (v := 0) dX12_why_2 lc_0 ?_
  refine r_ldc2 (μ := mX12_why) (pc := 3) dX12_why_3 clX12_177 ?_
  refine sP3 (μ := mX12_why) (pc := 6) (μ2 := mX12_isIn) dX12_why_6 lkX12_65 stX12_isIn mwX12_isIn (Nat.le_of_ble_eq_true rfl) (c_isInK il_0 il_2) ?_
  refine r_if_eq (μ := mX12_why) (pc := 9) (tgt := 23) dX12_why_9 (by decide) (fun h_9 => ?_) (fun h_9 => ?_)
  · have h_9 := b2i_0 h_9
    refine r_ldc (μ := mX12_why) (pc := 23) dX12_why_23 ctX12_78 ?_
    exact r_iret (μ := mX12_why) (pc := 25) dX12_why_25 rfl rfl (PI_i rfl)
  · have h_9 := b2i_1 h_9
    exact absurd h_9 hb

theorem c_why {d : Nat} {mi : MI} {mr : MR} (hM : MB mr) {s : Rw} (hs : mi 1 = s) {n m p q : Nat} (hI : Inv s n m p q) {x : Int32} (hb : inB x 0 2 = true) : CP (d + 2) mX12_why [.ref 0, .int x] shM mi mr 0 0 (PI (if lstT s q x < 0 then NONEc else lstT s q x) shM mi mr) := by
  refine CP.of (L := [_, _]) (by decide) rfl rfl (Nat.le_of_ble_eq_true rfl) ?_
  refine r_iload_n (μ := mX12_why) (pc := 0) dX12_why_0 rfl rfl ?_
  refine r_i2l (μ := mX12_why) (pc := 1) dX12_why_1 ?_
  refine r_lconst (μ := mX12_why) (pc := 2) (v := 0) dX12_why_2 lc_0 ?_
  refine r_ldc2 (μ := mX12_why) (pc := 3) dX12_why_3 clX12_177 ?_
  refine sP3 (μ := mX12_why) (pc := 6) (μ2 := mX12_isIn) dX12_why_6 lkX12_65 stX12_isIn mwX12_isIn (Nat.le_of_ble_eq_true rfl) (c_isInK il_0 il_2) ?_
  refine r_if_eq (μ := mX12_why) (pc := 9) (tgt := 23) dX12_why_9 (by decide) (fun h_9 => absurd h_9 (b2i_ne hb)) (fun h_9 => ?_)
  refine r_aload_n (μ := mX12_why) (pc := 12) dX12_why_12 rfl rfl rfl ?_
  refine r_iload_n (μ := mX12_why) (pc := 13) dX12_why_13 rfl rfl ?_
  refine vP1 (μ := mX12_why) (pc := 14) (c0 := 12) (q0 := (RX12, TX12, 34)) (μ2 := mX12_counts) dX12_why_14 rfl rfl lkX12_118 imX12_counts seX12_X12_counts_X12_counts mwX12_counts (Nat.le_of_ble_eq_true rfl) (e_counts hM hs hI) ?_
  refine sP1 (μ := mX12_why) (pc := 17) (μ2 := mX12_orNone) dX12_why_17 lkX12_189 stX12_orNone mwX12_orNone (Nat.le_of_ble_eq_true rfl) c_orNone ?_
  refine r_goto (μ := mX12_why) (pc := 20) (tgt := 25) dX12_why_20 (by decide) ?_
  exact r_iret (μ := mX12_why) (pc := 25) dX12_why_25 rfl rfl (PI_i rfl)

theorem c_textTold_bad {d : Nat} {mi : MI} {mr : MR} (hM : MB mr) {s : Rw} (hs : mi 1 = s) {n m p q : Nat} (hI : Inv s n m p q) {x y : Int32} (hb : ¬ (inR x q = true ∧ inB y 0 1 = true)) : CP (d + 2) mX12_textTold [.ref 0, .int x, .int y] shM mi mr 0 0 (PI (BADc) shM mi mr) := by
  refine CP.of (L := [_, _, _]) (by decide) rfl rfl (Nat.le_of_ble_eq_true rfl) ?_
  refine r_aload_n (μ := mX12_textTold) (pc := 0) dX12_textTold_0 rfl rfl rfl ?_
  refine r_iload_n (μ := mX12_textTold) (pc := 1) dX12_textTold_1 rfl rfl ?_
  refine vP1 (μ := mX12_textTold) (pc := 2) (c0 := 12) (q0 := (RX12, TX12, 34)) (μ2 := mX12_isText) dX12_textTold_2 rfl rfl lkX12_305 imX12_isText seX12_X12_isText_X12_isText mwX12_isText (Nat.le_of_ble_eq_true rfl) (e_isText hM hs hI) ?_
  refine r_if_eq (μ := mX12_textTold) (pc := 5) (tgt := 18) dX12_textTold_5 (by decide) (fun h_5 => ?_) (fun h_5 => ?_)
  · have h_5 := b2i_0 h_5
    refine r_ldc (μ := mX12_textTold) (pc := 18) dX12_textTold_18 ctX12_78 ?_
    exact r_iret (μ := mX12_textTold) (pc := 20) dX12_textTold_20 rfl rfl (PI_i rfl)
  · have h_5 := b2i_1 h_5
    refine r_iload_n (μ := mX12_textTold) (pc := 8) dX12_textTold_8 rfl rfl ?_
    refine r_i2l (μ := mX12_textTold) (pc := 9) dX12_textTold_9 ?_
    refine r_lconst (μ := mX12_textTold) (pc := 10) (v := 0) dX12_textTold_10 lc_0 ?_
    refine r_lconst (μ := mX12_textTold) (pc := 11) (v := 1) dX12_textTold_11 lc_1 ?_
    refine sP3 (μ := mX12_textTold) (pc := 12) (μ2 := mX12_isIn) dX12_textTold_12 lkX12_65 stX12_isIn mwX12_isIn (Nat.le_of_ble_eq_true rfl) (c_isInK il_0 il_1) ?_
    refine r_if_ne (μ := mX12_textTold) (pc := 15) (tgt := 21) dX12_textTold_15 (by decide) (fun h_15 => ?_) (fun h_15 => ?_)
    · have h_15 := b2i_1 h_15
      exact absurd ⟨h_5, h_15⟩ hb
    · have h_15 := b2i_0 h_15
      refine r_ldc (μ := mX12_textTold) (pc := 18) dX12_textTold_18 ctX12_78 ?_
      exact r_iret (μ := mX12_textTold) (pc := 20) dX12_textTold_20 rfl rfl (PI_i rfl)

theorem c_textTold {d : Nat} {mi : MI} {mr : MR} (hM : MB mr) {s : Rw} (hs : mi 1 = s) {n m p q : Nat} (hI : Inv s n m p q) {t w : Nat} (ht : t < q) (hw : w < 2) : CP (d + 2) mX12_textTold [.ref 0, .int (nI t), .int (nI w)] shM mi mr 0 0 (PI (s (80 + 200 * t + w)) shM mi mr) := by
  have hn10 := hI.n10; have hm8 := hI.m8; have hp6 := hI.p6; have hq14 := hI.q14
  refine CP.of (L := [_, _, _]) (by decide) rfl rfl (Nat.le_of_ble_eq_true rfl) ?_
  refine r_aload_n (μ := mX12_textTold) (pc := 0) dX12_textTold_0 rfl rfl rfl ?_
  refine r_iload_n (μ := mX12_textTold) (pc := 1) dX12_textTold_1 rfl rfl ?_
  refine vP1 (μ := mX12_textTold) (pc := 2) (c0 := 12) (q0 := (RX12, TX12, 34)) (μ2 := mX12_isText) dX12_textTold_2 rfl rfl lkX12_305 imX12_isText seX12_X12_isText_X12_isText mwX12_isText (Nat.le_of_ble_eq_true rfl) (e_isText hM hs hI) ?_
  refine r_if_eq (μ := mX12_textTold) (pc := 5) (tgt := 18) dX12_textTold_5 (by decide) (fun h_5 => absurd h_5 (b2i_ne (inR_nI ht (by omega)))) (fun h_5 => ?_)
  refine r_iload_n (μ := mX12_textTold) (pc := 8) dX12_textTold_8 rfl rfl ?_
  refine r_i2l (μ := mX12_textTold) (pc := 9) dX12_textTold_9 ?_
  refine r_lconst (μ := mX12_textTold) (pc := 10) (v := 0) dX12_textTold_10 lc_0 ?_
  refine r_lconst (μ := mX12_textTold) (pc := 11) (v := 1) dX12_textTold_11 lc_1 ?_
  refine sP3 (μ := mX12_textTold) (pc := 12) (μ2 := mX12_isIn) dX12_textTold_12 lkX12_65 stX12_isIn mwX12_isIn (Nat.le_of_ble_eq_true rfl) (c_isInK il_0 il_1) ?_
  refine r_if_ne (μ := mX12_textTold) (pc := 15) (tgt := 21) dX12_textTold_15 (by decide) (fun h_15 => ?_) (fun h_15 => absurd h_15 (b2i_ne (inB1 hw)))
  refine r_aload_n (μ := mX12_textTold) (pc := 21) dX12_textTold_21 rfl rfl rfl ?_
  refine r_getR (μ := mX12_textTold) (pc := 22) dX12_textTold_22 fpX12_7 rfl rfl (by decide) (hM _ _ rfl) ?_
  refine r_aload_n (μ := mX12_textTold) (pc := 25) dX12_textTold_25 rfl rfl rfl ?_
  refine r_iload_n (μ := mX12_textTold) (pc := 26) dX12_textTold_26 rfl rfl ?_
  refine vP1 (μ := mX12_textTold) (pc := 27) (c0 := 12) (q0 := (RX12, TX12, 34)) (μ2 := mX12_textAt) dX12_textTold_27 rfl rfl lkX12_296 imX12_textAt seX12_X12_textAt_X12_textAt mwX12_textAt (Nat.le_of_ble_eq_true rfl) c_textAt ?_
  refine r_iload_n (μ := mX12_textTold) (pc := 30) dX12_textTold_30 rfl rfl ?_
  refine r_iadd (μ := mX12_textTold) (pc := 31) dX12_textTold_31 ?_
  refine r_iaload (μ := mX12_textTold) (pc := 32) (j := ((80 + 200 * t) + w)) dX12_textTold_32 rfl (by simp only [← nI_add, ← pk_mul] <;> rfl) (by omega) (by decide) ?_
  exact r_iret (μ := mX12_textTold) (pc := 33) dX12_textTold_33 rfl rfl (PI_i (by rw [hs]))

