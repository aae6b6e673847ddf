theorem c_way_bad {d : Nat} {mi : MI} {mr : MR} (hM : MB mr) {s : Rw} (hs : mi 1 = s) {n m p q : Nat} (hI : Inv s n m p q) {x y w : Int32} (hb : ¬ (inR x n = true ∧ inR y n = true ∧ inB w 0 2 = true)) : CP (d + 2) mX12_way [.ref 0, .int x, .int y, .int w] shM mi mr 0 0 (PI (BADc) shM mi mr) := by
  refine CP.of (L := [_, _, _, _, _]) (by decide) rfl rfl (Nat.le_of_ble_eq_true rfl) ?_
  refine r_aload_n (μ := mX12_way) (pc := 0) dX12_way_0 rfl rfl rfl ?_
  refine r_iload_n (μ := mX12_way) (pc := 1) dX12_way_1 rfl rfl ?_
  refine vP1 (μ := mX12_way) (pc := 2) (c0 := 12) (q0 := (RX12, TX12, 34)) (μ2 := mX12_isLedge) dX12_way_2 rfl rfl lkX12_84 imX12_isLedge seX12_X12_isLedge_X12_isLedge mwX12_isLedge (Nat.le_of_ble_eq_true rfl) (e_isLedge hM hs hI) ?_
  refine r_if_eq (μ := mX12_way) (pc := 5) (tgt := 28) dX12_way_5 (by decide) (fun h_5 => ?_) (fun h_5 => ?_)
  · have h_5 := b2i_0 h_5
    refine r_ldc (μ := mX12_way) (pc := 28) dX12_way_28 ctX12_78 ?_
    exact r_iret (μ := mX12_way) (pc := 30) dX12_way_30 rfl rfl (PI_i rfl)
  · have h_5 := b2i_1 h_5
    refine r_aload_n (μ := mX12_way) (pc := 8) dX12_way_8 rfl rfl rfl ?_
    refine r_iload_n (μ := mX12_way) (pc := 9) dX12_way_9 rfl rfl ?_
    refine vP1 (μ := mX12_way) (pc := 10) (c0 := 12) (q0 := (RX12, TX12, 34)) (μ2 := mX12_isLedge) dX12_way_10 rfl rfl lkX12_84 imX12_isLedge seX12_X12_isLedge_X12_isLedge mwX12_isLedge (Nat.le_of_ble_eq_true rfl) (e_isLedge hM hs hI) ?_
    refine r_if_eq (μ := mX12_way) (pc := 13) (tgt := 28) dX12_way_13 (by decide) (fun h_13 => ?_) (fun h_13 => ?_)
    · have h_13 := b2i_0 h_13
      refine r_ldc (μ := mX12_way) (pc := 28) dX12_way_28 ctX12_78 ?_
      exact r_iret (μ := mX12_way) (pc := 30) dX12_way_30 rfl rfl (PI_i rfl)
    · have h_13 := b2i_1 h_13
      refine r_iload_n (μ := mX12_way) (pc := 16) dX12_way_16 rfl rfl ?_
      refine r_i2l (μ := mX12_way) (pc := 17) dX12_way_17 ?_
      refine r_lconst (μ := mX12_way) (pc := 18) (v := 0) dX12_way_18 lc_0 ?_
      refine r_ldc2 (μ := mX12_way) (pc := 19) dX12_way_19 clX12_177 ?_
      refine sP3 (μ := mX12_way) (pc := 22) (μ2 := mX12_isIn) dX12_way_22 lkX12_65 stX12_isIn mwX12_isIn (Nat.le_of_ble_eq_true rfl) (c_isInK il_0 il_2) ?_
      refine r_if_ne (μ := mX12_way) (pc := 25) (tgt := 31) dX12_way_25 (by decide) (fun h_25 => ?_) (fun h_25 => ?_)
      · have h_25 := b2i_1 h_25
        exact absurd ⟨h_5, h_13, h_25⟩ hb
      · have h_25 := b2i_0 h_25
        refine r_ldc (μ := mX12_way) (pc := 28) dX12_way_28 ctX12_78 ?_
        exact r_iret (μ := mX12_way) (pc := 30) dX12_way_30 rfl rfl (PI_i rfl)

theorem c_way {d : Nat} {mi : MI} {mr : MR} (hM : MB mr) {s : Rw} (hs : mi 1 = s) {n m p q : Nat} (hI : Inv s n m p q) {a b : Nat} (ha : a < n) (hb : b < n) {w : Int32} (hw : inB w 0 2 = true) : CP (d + 6) mX12_way [.ref 0, .int (nI a), .int (nI b), .int w] shM mi mr 0 0 (PX shM mr (fun r mi2 => r = wayS s q m a b w ∧ SF mi mi2)) := by
  have hn10 := hI.n10; have hm8 := hI.m8; have hp6 := hI.p6; have hq14 := hI.q14
  have hle := farS_le s q m a b
  refine CP.of (L := [_, _, _, _, _]) (by decide) rfl rfl (Nat.le_of_ble_eq_true rfl) ?_
  refine r_aload_n (μ := mX12_way) (pc := 0) dX12_way_0 rfl rfl rfl ?_
  refine r_iload_n (μ := mX12_way) (pc := 1) dX12_way_1 rfl rfl ?_
  refine vP1 (μ := mX12_way) (pc := 2) (c0 := 12) (q0 := (RX12, TX12, 34)) (μ2 := mX12_isLedge) dX12_way_2 rfl rfl lkX12_84 imX12_isLedge seX12_X12_isLedge_X12_isLedge mwX12_isLedge (Nat.le_of_ble_eq_true rfl) (e_isLedge hM hs hI) ?_
  refine r_if_eq (μ := mX12_way) (pc := 5) (tgt := 28) dX12_way_5 (by decide) (fun h_5 => absurd h_5 (b2i_ne (inR_nI ha (by omega)))) (fun h_5 => ?_)
  refine r_aload_n (μ := mX12_way) (pc := 8) dX12_way_8 rfl rfl rfl ?_
  refine r_iload_n (μ := mX12_way) (pc := 9) dX12_way_9 rfl rfl ?_
  refine vP1 (μ := mX12_way) (pc := 10) (c0 := 12) (q0 := (RX12, TX12, 34)) (μ2 := mX12_isLedge) dX12_way_10 rfl rfl lkX12_84 imX12_isLedge seX12_X12_isLedge_X12_isLedge mwX12_isLedge (Nat.le_of_ble_eq_true rfl) (e_isLedge hM hs hI) ?_
  refine r_if_eq (μ := mX12_way) (pc := 13) (tgt := 28) dX12_way_13 (by decide) (fun h_13 => absurd h_13 (b2i_ne (inR_nI hb (by omega)))) (fun h_13 => ?_)
  refine r_iload_n (μ := mX12_way) (pc := 16) dX12_way_16 rfl rfl ?_
  refine r_i2l (μ := mX12_way) (pc := 17) dX12_way_17 ?_
  refine r_lconst (μ := mX12_way) (pc := 18) (v := 0) dX12_way_18 lc_0 ?_
  refine r_ldc2 (μ := mX12_way) (pc := 19) dX12_way_19 clX12_177 ?_
  refine sP3 (μ := mX12_way) (pc := 22) (μ2 := mX12_isIn) dX12_way_22 lkX12_65 stX12_isIn mwX12_isIn (Nat.le_of_ble_eq_true rfl) (c_isInK il_0 il_2) ?_
  refine r_if_ne (μ := mX12_way) (pc := 25) (tgt := 31) dX12_way_25 (by decide) (fun h_25 => ?_) (fun h_25 => absurd h_25 (b2i_ne hw))
  refine r_aload_n (μ := mX12_way) (pc := 31) dX12_way_31 rfl rfl rfl ?_
  refine r_iload_n (μ := mX12_way) (pc := 32) dX12_way_32 rfl rfl ?_
  refine vV1 (μ := mX12_way) (pc := 33) (c0 := 12) (q0 := (RX12, TX12, 34)) (μ2 := mX12_findFar) dX12_way_33 rfl rfl lkX12_179 imX12_findFar seX12_X12_findFar_X12_findFar mwX12_findFar (Nat.le_of_ble_eq_true rfl) (c_findFar hM hs hI ha) (fun mi_33 h_33 => ?_)
  obtain ⟨hF, hD⟩ := h_33
  refine r_aload_n (μ := mX12_way) (pc := 36) dX12_way_36 rfl rfl rfl ?_
  refine r_getR (μ := mX12_way) (pc := 37) dX12_way_37 fpX12_43 rfl rfl (by decide) (hM _ _ rfl) ?_
  refine r_iload_n (μ := mX12_way) (pc := 40) dX12_way_40 rfl rfl ?_
  refine r_iaload (μ := mX12_way) (pc := 41) (j := b) dX12_way_41 rfl rfl (by omega) (by decide) ?_
  rw [hD b (by omega)]
  refine s_istore (μ := mX12_way) (pc := 42) (L2 := [_, _, _, _, _]) dX12_way_42 (Nat.le_of_ble_eq_true rfl) (Nat.le_of_ble_eq_true rfl) rfl rfl ?_
  refine r_iload (μ := mX12_way) (pc := 44) dX12_way_44 rfl ?_
  refine r_ldc (μ := mX12_way) (pc := 46) dX12_way_46 ctX12_176 ?_
  refine r_icmp_lt (μ := mX12_way) (pc := 48) (tgt := 56) dX12_way_48 (by decide) (fun h_48 => ?_) (fun h_48 => ?_)
  · have h48 : ¬ farS s q m a b = 1000000 := by have := (nI_ltI (b := 1000000) (by omega) (by omega)).mp h_48; omega
    refine r_iload_n (μ := mX12_way) (pc := 56) dX12_way_56 rfl rfl ?_
    refine r_if_ne (μ := mX12_way) (pc := 57) (tgt := 68) dX12_way_57 (by decide) (fun h_57 => ?_) (fun h_57 => ?_)
    · refine r_iload_n (μ := mX12_way) (pc := 68) dX12_way_68 rfl rfl ?_
      refine r_iconst (μ := mX12_way) (pc := 69) (v := 1) dX12_way_69 ic_1 ?_
      refine r_icmp_ne (μ := mX12_way) (pc := 70) (tgt := 81) dX12_way_70 (by decide) (fun h_70 => ?_) (fun h_70 => ?_)
      · refine r_aload_n (μ := mX12_way) (pc := 81) dX12_way_81 rfl rfl rfl ?_
        refine r_iload (μ := mX12_way) (pc := 82) dX12_way_82 rfl ?_
        refine r_bipush (μ := mX12_way) (pc := 84) (v := 100) dX12_way_84 bp_100 ?_
        refine r_idiv (μ := mX12_way) (pc := 86) dX12_way_86 (by decide) ?_
        rw [d100 (farS_le s q m a b)]
        refine r_iload (μ := mX12_way) (pc := 87) dX12_way_87 rfl ?_
        refine r_bipush (μ := mX12_way) (pc := 89) (v := 100) dX12_way_89 bp_100 ?_
        refine r_irem (μ := mX12_way) (pc := 91) dX12_way_91 (by decide) ?_
        rw [r100 (farS_le s q m a b)]
        refine vX2 (μ := mX12_way) (pc := 92) (c0 := 12) (q0 := (RX12, TX12, 34)) (μ2 := mX12_toll) dX12_way_92 rfl rfl lkX12_183 imX12_toll seX12_X12_toll_X12_toll mwX12_toll (Nat.le_of_ble_eq_true rfl) (c_toll hM (hF.r1.trans hs) hI) (fun r_92 mi_92 h_92 => ?_)
        obtain ⟨rfl, h92⟩ := h_92
        exact r_iret (μ := mX12_way) (pc := 95) dX12_way_95 rfl rfl (PX_i ⟨by unfold wayS; first | (rw [if_pos h48]; rfl) | (rw [if_neg h48, if_pos h_57]) | (rw [if_neg h48, if_neg h_57, if_pos h_70]) | (rw [if_neg h48, if_neg h_57, if_neg h_70]), by first | exact hF.tr h92.sf | exact hF⟩)
      · refine r_iload (μ := mX12_way) (pc := 73) dX12_way_73 rfl ?_
        refine r_bipush (μ := mX12_way) (pc := 75) (v := 100) dX12_way_75 bp_100 ?_
        refine r_irem (μ := mX12_way) (pc := 77) dX12_way_77 (by decide) ?_
        rw [r100 (farS_le s q m a b)]
        refine r_goto (μ := mX12_way) (pc := 78) (tgt := 95) dX12_way_78 (by decide) ?_
        exact r_iret (μ := mX12_way) (pc := 95) dX12_way_95 rfl rfl (PX_i ⟨by unfold wayS; first | (rw [if_pos h48]; rfl) | (rw [if_neg h48, if_pos h_57]) | (rw [if_neg h48, if_neg h_57, if_pos h_70]) | (rw [if_neg h48, if_neg h_57, if_neg h_70]), by first | exact hF.tr h92.sf | exact hF⟩)
    · refine r_iload (μ := mX12_way) (pc := 60) dX12_way_60 rfl ?_
      refine r_bipush (μ := mX12_way) (pc := 62) (v := 100) dX12_way_62 bp_100 ?_
      refine r_idiv (μ := mX12_way) (pc := 64) dX12_way_64 (by decide) ?_
      rw [d100 (farS_le s q m a b)]
      refine r_goto (μ := mX12_way) (pc := 65) (tgt := 95) dX12_way_65 (by decide) ?_
      exact r_iret (μ := mX12_way) (pc := 95) dX12_way_95 rfl rfl (PX_i ⟨by unfold wayS; first | (rw [if_pos h48]; rfl) | (rw [if_neg h48, if_pos h_57]) | (rw [if_neg h48, if_neg h_57, if_pos h_70]) | (rw [if_neg h48, if_neg h_57, if_neg h_70]), by first | exact hF.tr h92.sf | exact hF⟩)
  · have h48 : farS s q m a b = 1000000 := by have := mt (nI_ltI (b := 1000000) (by omega) (by omega)).mpr h_48; omega
    have h_57 := True.intro
    refine r_ldc (μ := mX12_way) (pc := 51) dX12_way_51 ctX12_64 ?_
    refine r_goto (μ := mX12_way) (pc := 53) (tgt := 95) dX12_way_53 (by decide) ?_
    exact r_iret (μ := mX12_way) (pc := 95) dX12_way_95 rfl rfl (PX_i ⟨by unfold wayS; first | (rw [if_pos h48]; rfl) | (rw [if_neg h48, if_pos h_57]) | (rw [if_neg h48, if_neg h_57, if_pos h_70]) | (rw [if_neg h48, if_neg h_57, if_neg h_70]), by first | exact hF.tr h92.sf | exact hF⟩)

theorem c_reached_bad {d : Nat} {mi : MI} {mr : MR} (hM : MB mr) {s : Rw} (hs : mi 1 = s) {n m p q : Nat} (hI : Inv s n m p q) {x : Int32} (hb : ¬ inR x n = true) : CP (d + 2) mX12_reached [.ref 0, .int x] shM mi mr 0 0 (PI (BADc) shM mi mr) := by
  refine CP.of (L := [_, _]) (by decide) rfl rfl (Nat.le_of_ble_eq_true rfl) ?_
  refine r_aload_n (μ := mX12_reached) (pc := 0) dX12_reached_0 rfl rfl rfl ?_
  refine r_iload_n (μ := mX12_reached) (pc := 1) dX12_reached_1 rfl rfl ?_
  refine vP1 (μ := mX12_reached) (pc := 2) (c0 := 12) (q0 := (RX12, TX12, 34)) (μ2 := mX12_isLedge) dX12_reached_2 rfl rfl lkX12_84 imX12_isLedge seX12_X12_isLedge_X12_isLedge mwX12_isLedge (Nat.le_of_ble_eq_true rfl) (e_isLedge hM hs hI) ?_
  refine r_if_eq (μ := mX12_reached) (pc := 5) (tgt := 17) dX12_reached_5 (by decide) (fun h_5 => ?_) (fun h_5 => ?_)
  · have h_5 := b2i_0 h_5
    refine r_ldc (μ := mX12_reached) (pc := 17) dX12_reached_17 ctX12_78 ?_
    exact r_iret (μ := mX12_reached) (pc := 19) dX12_reached_19 rfl rfl (PI_i rfl)
  · have h_5 := b2i_1 h_5
    exact absurd h_5 hb

theorem c_reached {d : Nat} {mi : MI} {mr : MR} (hM : MB mr) {s : Rw} (hs : mi 1 = s) {n m p q : Nat} (hI : Inv s n m p q) {a : Nat} (ha : a < n) : CP (d + 6) mX12_reached [.ref 0, .int (nI a)] shM mi mr 0 0 (PX shM mr (fun r mi2 => r = rbS s q m (-1) a ∧ SB mi mi2)) := by
  have hn10 := hI.n10; have hm8 := hI.m8; have hp6 := hI.p6; have hq14 := hI.q14
  refine CP.of (L := [_, _]) (by decide) rfl rfl (Nat.le_of_ble_eq_true rfl) ?_
  refine r_aload_n (μ := mX12_reached) (pc := 0) dX12_reached_0 rfl rfl rfl ?_
  refine r_iload_n (μ := mX12_reached) (pc := 1) dX12_reached_1 rfl rfl ?_
  refine vP1 (μ := mX12_reached) (pc := 2) (c0 := 12) (q0 := (RX12, TX12, 34)) (μ2 := mX12_isLedge) dX12_reached_2 rfl rfl lkX12_84 imX12_isLedge seX12_X12_isLedge_X12_isLedge mwX12_isLedge (Nat.le_of_ble_eq_true rfl) (e_isLedge hM hs hI) ?_
  refine r_if_eq (μ := mX12_reached) (pc := 5) (tgt := 17) dX12_reached_5 (by decide) (fun h_5 => absurd h_5 (b2i_ne (inR_nI ha (by omega)))) (fun h_5 => ?_)
  refine r_aload_n (μ := mX12_reached) (pc := 8) dX12_reached_8 rfl rfl rfl ?_
  refine r_iload_n (μ := mX12_reached) (pc := 9) dX12_reached_9 rfl rfl ?_
  refine r_iconst (μ := mX12_reached) (pc := 10) (v := -1) dX12_reached_10 ic_m1 ?_
  refine vX2 (μ := mX12_reached) (pc := 11) (c0 := 12) (q0 := (RX12, TX12, 34)) (μ2 := mX12_reachedBut) dX12_reached_11 rfl rfl lkX12_186 imX12_reachedBut seX12_X12_reachedBut_X12_reachedBut mwX12_reachedBut (Nat.le_of_ble_eq_true rfl) (c_reachedBut hM hs hI ha) (fun r_11 mi_11 h_11 => ?_)
  obtain ⟨rfl, h11⟩ := h_11
  refine r_goto (μ := mX12_reached) (pc := 14) (tgt := 19) dX12_reached_14 (by decide) ?_
  exact r_iret (μ := mX12_reached) (pc := 19) dX12_reached_19 rfl rfl (PX_i ⟨rfl, h11⟩)

theorem c_needed_bad {d : Nat} {mi : MI} {mr : MR} (hM : MB mr) {s : Rw} (hs : mi 1 = s) {n m p q : Nat} (hI : Inv s n m p q) {x y : Int32} (hb : ¬ (inR x n = true ∧ inR y n = true)) : CP (d + 2) mX12_needed [.ref 0, .int x, .int y] shM mi mr 0 0 (PI (BADc) shM mi mr) := by
  refine CP.of (L := [_, _, _, _, _]) (by decide) rfl rfl (Nat.le_of_ble_eq_true rfl) ?_
  refine r_aload_n (μ := mX12_needed) (pc := 0) dX12_needed_0 rfl rfl rfl ?_
  refine r_iload_n (μ := mX12_needed) (pc := 1) dX12_needed_1 rfl rfl ?_
  refine vP1 (μ := mX12_needed) (pc := 2) (c0 := 12) (q0 := (RX12, TX12, 34)) (μ2 := mX12_isLedge) dX12_needed_2 rfl rfl lkX12_84 imX12_isLedge seX12_X12_isLedge_X12_isLedge mwX12_isLedge (Nat.le_of_ble_eq_true rfl) (e_isLedge hM hs hI) ?_
  refine r_if_eq (μ := mX12_needed) (pc := 5) (tgt := 16) dX12_needed_5 (by decide) (fun h_5 => ?_) (fun h_5 => ?_)
  · have h_5 := b2i_0 h_5
    refine r_ldc (μ := mX12_needed) (pc := 16) dX12_needed_16 ctX12_78 ?_
    exact r_iret (μ := mX12_needed) (pc := 18) dX12_needed_18 rfl rfl (PI_i rfl)
  · have h_5 := b2i_1 h_5
    refine r_aload_n (μ := mX12_needed) (pc := 8) dX12_needed_8 rfl rfl rfl ?_
    refine r_iload_n (μ := mX12_needed) (pc := 9) dX12_needed_9 rfl rfl ?_
    refine vP1 (μ := mX12_needed) (pc := 10) (c0 := 12) (q0 := (RX12, TX12, 34)) (μ2 := mX12_isLedge) dX12_needed_10 rfl rfl lkX12_84 imX12_isLedge seX12_X12_isLedge_X12_isLedge mwX12_isLedge (Nat.le_of_ble_eq_true rfl) (e_isLedge hM hs hI) ?_
    refine r_if_ne (μ := mX12_needed) (pc := 13) (tgt := 19) dX12_needed_13 (by decide) (fun h_13 => ?_) (fun h_13 => ?_)
    · have h_13 := b2i_1 h_13
      exact absurd ⟨h_5, h_13⟩ hb
    · have h_13 := b2i_0 h_13
      refine r_ldc (μ := mX12_needed) (pc := 16) dX12_needed_16 ctX12_78 ?_
      exact r_iret (μ := mX12_needed) (pc := 18) dX12_needed_18 rfl rfl (PI_i rfl)

theorem lp_needed {d : Nat} {mi : MI} {mr : MR} {Q : QT} (hM : MB mr) {s : Rw} (hs : mi 1 = s) {n m p q : Nat} (hI : Inv s n m p q) {a b : Nat} (ha : a < n) (hb : b < n) (hq : ∀ mi2, SB mi mi2 → Q (some (.int (bitsB (fun l => !rbB s q m (nI l) a b) m))) shM mi2 mr) :
    ∀ (k i : Nat), i + k = m → ∀ mi2, SB mi mi2 → WP (d + 6) mX12_needed 40 [.ref 0, .int (nI a), .int (nI b), .int (bitsB (fun l => !rbB s q m (nI l) a b) i), .int (nI i)] [] shM mi2 mr 0 0 Q := by
  have hm8 := hI.m8
  have hn10 := hI.n10
  intro k
  induction k with
  | zero =>
    intro i hk mi2 hS
    obtain rfl : i = m := by omega
    refine r_iload (μ := mX12_needed) (pc := 40) dX12_needed_40 rfl ?_
    refine r_aload_n (μ := mX12_needed) (pc := 42) dX12_needed_42 rfl rfl rfl ?_
    refine r_getR (μ := mX12_needed) (pc := 43) dX12_needed_43 fpX12_7 rfl rfl (by decide) (hM _ _ rfl) ?_
    refine r_iconst (μ := mX12_needed) (pc := 46) (v := 1) dX12_needed_46 ic_1 ?_
    refine r_iaload (μ := mX12_needed) (pc := 47) (j := 1) dX12_needed_47 rfl rfl (by decide) (by decide) ?_
    rw [hS.r1, hs, hI.em]
    refine r_icmp_ge (μ := mX12_needed) (pc := 48) (tgt := 82) dX12_needed_48 (by decide) (fun h_48 => ?_) (fun h_48 => absurd (nI_le (Nat.le_refl _) (by omega)) h_48)
    refine r_iload_n (μ := mX12_needed) (pc := 82) dX12_needed_82 rfl rfl ?_
    exact r_iret (μ := mX12_needed) (pc := 83) dX12_needed_83 rfl rfl (hq _ hS)
  | succ k ih =>
    intro i hk mi2 hS
    refine r_iload (μ := mX12_needed) (pc := 40) dX12_needed_40 rfl ?_
    refine r_aload_n (μ := mX12_needed) (pc := 42) dX12_needed_42 rfl rfl rfl ?_
    refine r_getR (μ := mX12_needed) (pc := 43) dX12_needed_43 fpX12_7 rfl rfl (by decide) (hM _ _ rfl) ?_
    refine r_iconst (μ := mX12_needed) (pc := 46) (v := 1) dX12_needed_46 ic_1 ?_
    refine r_iaload (μ := mX12_needed) (pc := 47) (j := 1) dX12_needed_47 rfl rfl (by decide) (by decide) ?_
    rw [hS.r1, hs, hI.em]
    refine r_icmp_ge (μ := mX12_needed) (pc := 48) (tgt := 82) dX12_needed_48 (by decide) (fun h_48 => absurd h_48 (nI_ge (by omega) (by omega))) (fun h_48 => ?_)
    refine r_iload_n (μ := mX12_needed) (pc := 51) dX12_needed_51 rfl rfl ?_
    refine r_aload_n (μ := mX12_needed) (pc := 52) dX12_needed_52 rfl rfl rfl ?_
    refine r_iload_n (μ := mX12_needed) (pc := 53) dX12_needed_53 rfl rfl ?_
    refine r_iload (μ := mX12_needed) (pc := 54) dX12_needed_54 rfl ?_
    refine vX2 (μ := mX12_needed) (pc := 56) (c0 := 12) (q0 := (RX12, TX12, 34)) (μ2 := mX12_reachedBut) dX12_needed_56 rfl rfl lkX12_186 imX12_reachedBut seX12_X12_reachedBut_X12_reachedBut mwX12_reachedBut (Nat.le_of_ble_eq_true rfl) (c_reachedBut hM (hS.r1.trans hs) hI ha) (fun r_56 mi_56 h_56 => ?_)
    obtain ⟨rfl, h56⟩ := h_56
    refine r_iload_n (μ := mX12_needed) (pc := 59) dX12_needed_59 rfl rfl ?_
    refine r_ishr (μ := mX12_needed) (pc := 60) dX12_needed_60 ?_
    refine r_iconst (μ := mX12_needed) (pc := 61) (v := 1) dX12_needed_61 ic_1 ?_
    refine r_iand (μ := mX12_needed) (pc := 62) dX12_needed_62 ?_
    rw [rb_at (by omega)]
    refine r_if_ne (μ := mX12_needed) (pc := 63) (tgt := 73) dX12_needed_63 (by decide) (fun h_63 => ?_) (fun h_63 => ?_)
    · have hz : rbB s q m (nI i) a b = true := b2i_1 h_63
      refine r_iconst (μ := mX12_needed) (pc := 73) (v := 0) dX12_needed_73 ic_0 ?_
      refine r_ior (μ := mX12_needed) (pc := 74) dX12_needed_74 ?_
      refine s_istore_n (μ := mX12_needed) (pc := 75) (L2 := [_, _, _, _, _]) dX12_needed_75 rfl (Nat.le_of_ble_eq_true rfl) (Nat.le_of_ble_eq_true rfl) rfl rfl ?_
      refine s_iinc (μ := mX12_needed) (pc := 76) (c := 1) (L2 := [_, _, _, _, _]) dX12_needed_76 rfl ic_1 (Nat.le_of_ble_eq_true rfl) rfl rfl ?_
      refine r_goto (μ := mX12_needed) (pc := 79) (tgt := 40) dX12_needed_79 (by decide) ?_
      exact WP.L (by simp only [nI_succ, bitsB, hz, Bool.not_true, Bool.not_false, Bool.false_eq_true, if_true, if_false]) (ih (i + 1) (by omega) _ (hS.tr h56))
    · have hz : rbB s q m (nI i) a b = false := b2i_0 h_63
      refine r_iconst (μ := mX12_needed) (pc := 66) (v := 1) dX12_needed_66 ic_1 ?_
      refine r_iload (μ := mX12_needed) (pc := 67) dX12_needed_67 rfl ?_
      refine r_ishl (μ := mX12_needed) (pc := 69) dX12_needed_69 ?_
      refine r_goto (μ := mX12_needed) (pc := 70) (tgt := 74) dX12_needed_70 (by decide) ?_
      refine r_ior (μ := mX12_needed) (pc := 74) dX12_needed_74 ?_
      refine s_istore_n (μ := mX12_needed) (pc := 75) (L2 := [_, _, _, _, _]) dX12_needed_75 rfl (Nat.le_of_ble_eq_true rfl) (Nat.le_of_ble_eq_true rfl) rfl rfl ?_
      refine s_iinc (μ := mX12_needed) (pc := 76) (c := 1) (L2 := [_, _, _, _, _]) dX12_needed_76 rfl ic_1 (Nat.le_of_ble_eq_true rfl) rfl rfl ?_
      refine r_goto (μ := mX12_needed) (pc := 79) (tgt := 40) dX12_needed_79 (by decide) ?_
      exact WP.L (by simp only [nI_succ, bitsB, hz, Bool.not_true, Bool.not_false, Bool.false_eq_true, if_true, if_false]) (ih (i + 1) (by omega) _ (hS.tr h56))

theorem c_needed {d : Nat} {mi : MI} {mr : MR} (hM : MB mr) {s : Rw} (hs : mi 1 = s) {n m p q : Nat} (hI : Inv s n m p q) {a b : Nat} (ha : a < n) (hb : b < n) : CP (d + 6) mX12_needed [.ref 0, .int (nI a), .int (nI b)] shM mi mr 0 0 (PX shM mr (fun r mi2 => r = (if rbB s q m (-1) a b = true then bitsB (fun l => !rbB s q m (nI l) a b) m else NONEc) ∧ SB mi mi2)) := by
  have hn10 := hI.n10; have hm8 := hI.m8; have hp6 := hI.p6; have hq14 := hI.q14
  refine CP.of (L := [_, _, _, _, _]) (by decide) rfl rfl (Nat.le_of_ble_eq_true rfl) ?_
  refine r_aload_n (μ := mX12_needed) (pc := 0) dX12_needed_0 rfl rfl rfl ?_
  refine r_iload_n (μ := mX12_needed) (pc := 1) dX12_needed_1 rfl rfl ?_
  refine vP1 (μ := mX12_needed) (pc := 2) (c0 := 12) (q0 := (RX12, TX12, 34)) (μ2 := mX12_isLedge) dX12_needed_2 rfl rfl lkX12_84 imX12_isLedge seX12_X12_isLedge_X12_isLedge mwX12_isLedge (Nat.le_of_ble_eq_true rfl) (e_isLedge hM hs hI) ?_
  refine r_if_eq (μ := mX12_needed) (pc := 5) (tgt := 16) dX12_needed_5 (by decide) (fun h_5 => absurd h_5 (b2i_ne (inR_nI ha (by omega)))) (fun h_5 => ?_)
  refine r_aload_n (μ := mX12_needed) (pc := 8) dX12_needed_8 rfl rfl rfl ?_
  refine r_iload_n (μ := mX12_needed) (pc := 9) dX12_needed_9 rfl rfl ?_
  refine vP1 (μ := mX12_needed) (pc := 10) (c0 := 12) (q0 := (RX12, TX12, 34)) (μ2 := mX12_isLedge) dX12_needed_10 rfl rfl lkX12_84 imX12_isLedge seX12_X12_isLedge_X12_isLedge mwX12_isLedge (Nat.le_of_ble_eq_true rfl) (e_isLedge hM hs hI) ?_
  refine r_if_ne (μ := mX12_needed) (pc := 13) (tgt := 19) dX12_needed_13 (by decide) (fun h_13 => ?_) (fun h_13 => absurd h_13 (b2i_ne (inR_nI hb (by omega))))
  refine r_aload_n (μ := mX12_needed) (pc := 19) dX12_needed_19 rfl rfl rfl ?_
  refine r_iload_n (μ := mX12_needed) (pc := 20) dX12_needed_20 rfl rfl ?_
  refine r_iconst (μ := mX12_needed) (pc := 21) (v := -1) dX12_needed_21 ic_m1 ?_
  refine vX2 (μ := mX12_needed) (pc := 22) (c0 := 12) (q0 := (RX12, TX12, 34)) (μ2 := mX12_reachedBut) dX12_needed_22 rfl rfl lkX12_186 imX12_reachedBut seX12_X12_reachedBut_X12_reachedBut mwX12_reachedBut (Nat.le_of_ble_eq_true rfl) (c_reachedBut hM hs hI ha) (fun r_22 mi_22 h_22 => ?_)
  obtain ⟨rfl, h22⟩ := h_22
  refine r_iload_n (μ := mX12_needed) (pc := 25) dX12_needed_25 rfl rfl ?_
  refine r_ishr (μ := mX12_needed) (pc := 26) dX12_needed_26 ?_
  refine r_iconst (μ := mX12_needed) (pc := 27) (v := 1) dX12_needed_27 ic_1 ?_
  refine r_iand (μ := mX12_needed) (pc := 28) dX12_needed_28 ?_
  rw [rb_at (by omega)]
  refine r_if_ne (μ := mX12_needed) (pc := 29) (tgt := 35) dX12_needed_29 (by decide) (fun h_29 => ?_) (fun h_29 => ?_)
  · have hz : rbB s q m (-1) a b = true := b2i_1 h_29
    refine r_iconst (μ := mX12_needed) (pc := 35) (v := 0) dX12_needed_35 ic_0 ?_
    refine s_istore_n (μ := mX12_needed) (pc := 36) (L2 := [_, _, _, _, _]) dX12_needed_36 rfl (Nat.le_of_ble_eq_true rfl) (Nat.le_of_ble_eq_true rfl) rfl rfl ?_
    refine r_iconst (μ := mX12_needed) (pc := 37) (v := 0) dX12_needed_37 ic_0 ?_
    refine s_istore (μ := mX12_needed) (pc := 38) (L2 := [_, _, _, _, _]) dX12_needed_38 (Nat.le_of_ble_eq_true rfl) (Nat.le_of_ble_eq_true rfl) rfl rfl ?_
    exact lp_needed hM (h22.r1.trans hs) hI ha hb (fun mi2 h => PX_i ⟨by rw [hz]; rfl, h22.tr h⟩) m 0 (Nat.zero_add _) _ (SB.rf _)
  · have hz : rbB s q m (-1) a b = false := b2i_0 h_29
    refine r_ldc (μ := mX12_needed) (pc := 32) dX12_needed_32 ctX12_64 ?_
    exact r_iret (μ := mX12_needed) (pc := 34) dX12_needed_34 rfl rfl (PX_i ⟨by rw [hz]; rfl, h22⟩)

theorem lp_above {d : Nat} {mi : MI} {mr : MR} {Q : QT} (hM : MB mr) {s : Rw} (hs : mi 1 = s) {n m p q : Nat} (hI : Inv s n m p q) (hq : ∀ mi2, SB mi mi2 → Q (some (.int (bitsB (fun j => !rbB s q m (-1) (sN s j) 0) p))) shM mi2 mr) :
    ∀ (k i : Nat), i + k = p → ∀ mi2, SB mi mi2 → WP (d + 6) mX12_above 4 [.ref 0, .int (bitsB (fun j => !rbB s q m (-1) (sN s j) 0) i), .int (nI i)] [] shM mi2 mr 0 0 Q := by
  have hp6 := hI.p6
  have hn10 := hI.n10
  intro k
  induction k with
  | zero =>
    intro i hk mi2 hS
    obtain rfl : i = p := by omega
    refine r_iload_n (μ := mX12_above) (pc := 4) dX12_above_4 rfl rfl ?_
    refine r_aload_n (μ := mX12_above) (pc := 5) dX12_above_5 rfl rfl rfl ?_
    refine r_getR (μ := mX12_above) (pc := 6) dX12_above_6 fpX12_7 rfl rfl (by decide) (hM _ _ rfl) ?_
    refine r_iconst (μ := mX12_above) (pc := 9) (v := 2) dX12_above_9 ic_2 ?_
    refine r_iaload (μ := mX12_above) (pc := 10) (j := 2) dX12_above_10 rfl rfl (by decide) (by decide) ?_
    rw [hS.r1, hs, hI.ep]
    refine r_icmp_ge (μ := mX12_above) (pc := 11) (tgt := 45) dX12_above_11 (by decide) (fun h_11 => ?_) (fun h_11 => absurd (nI_le (Nat.le_refl _) (by omega)) h_11)
    refine r_iload_n (μ := mX12_above) (pc := 45) dX12_above_45 rfl rfl ?_
    exact r_iret (μ := mX12_above) (pc := 46) dX12_above_46 rfl rfl (hq _ hS)
  | succ k ih =>
    intro i hk mi2 hS
    have hi : i < p := by omega
    refine r_iload_n (μ := mX12_above) (pc := 4) dX12_above_4 rfl rfl ?_
    refine r_aload_n (μ := mX12_above) (pc := 5) dX12_above_5 rfl rfl rfl ?_
    refine r_getR (μ := mX12_above) (pc := 6) dX12_above_6 fpX12_7 rfl rfl (by decide) (hM _ _ rfl) ?_
    refine r_iconst (μ := mX12_above) (pc := 9) (v := 2) dX12_above_9 ic_2 ?_
    refine r_iaload (μ := mX12_above) (pc := 10) (j := 2) dX12_above_10 rfl rfl (by decide) (by decide) ?_
    rw [hS.r1, hs, hI.ep]
    refine r_icmp_ge (μ := mX12_above) (pc := 11) (tgt := 45) dX12_above_11 (by decide) (fun h_11 => absurd h_11 (nI_ge (by omega) (by omega))) (fun h_11 => ?_)
    refine r_iload_n (μ := mX12_above) (pc := 14) dX12_above_14 rfl rfl ?_
    refine r_aload_n (μ := mX12_above) (pc := 15) dX12_above_15 rfl rfl rfl ?_
    refine r_aload_n (μ := mX12_above) (pc := 16) dX12_above_16 rfl rfl rfl ?_
    refine r_iload_n (μ := mX12_above) (pc := 17) dX12_above_17 rfl rfl ?_
    refine vP1 (μ := mX12_above) (pc := 18) (c0 := 12) (q0 := (RX12, TX12, 34)) (μ2 := mX12_where) dX12_above_18 rfl rfl lkX12_70 imX12_where seX12_X12_where_X12_where mwX12_where (Nat.le_of_ble_eq_true rfl) (e_where hM (hS.r1.trans hs) (by omega)) ?_
    rw [show spt s i = nI (sN s i) from hI.sp hi]
    refine r_iconst (μ := mX12_above) (pc := 21) (v := -1) dX12_above_21 ic_m1 ?_
    refine vX2 (μ := mX12_above) (pc := 22) (c0 := 12) (q0 := (RX12, TX12, 34)) (μ2 := mX12_reachedBut) dX12_above_22 rfl rfl lkX12_186 imX12_reachedBut seX12_X12_reachedBut_X12_reachedBut mwX12_reachedBut (Nat.le_of_ble_eq_true rfl) (c_reachedBut hM (hS.r1.trans hs) hI (hI.sn hi)) (fun r_22 mi_22 h_22 => ?_)
    obtain ⟨rfl, h22⟩ := h_22
    refine r_iconst (μ := mX12_above) (pc := 25) (v := 1) dX12_above_25 ic_1 ?_
    refine r_iand (μ := mX12_above) (pc := 26) dX12_above_26 ?_
    rw [rb_0]
    refine r_if_ne (μ := mX12_above) (pc := 27) (tgt := 36) dX12_above_27 (by decide) (fun h_27 => ?_) (fun h_27 => ?_)
    · have hz : rbB s q m (-1) (sN s i) 0 = true := b2i_1 h_27
      refine r_iconst (μ := mX12_above) (pc := 36) (v := 0) dX12_above_36 ic_0 ?_
      refine r_ior (μ := mX12_above) (pc := 37) dX12_above_37 ?_
      refine s_istore_n (μ := mX12_above) (pc := 38) (L2 := [_, _, _]) dX12_above_38 rfl (Nat.le_of_ble_eq_true rfl) (Nat.le_of_ble_eq_true rfl) rfl rfl ?_
      refine s_iinc (μ := mX12_above) (pc := 39) (c := 1) (L2 := [_, _, _]) dX12_above_39 rfl ic_1 (Nat.le_of_ble_eq_true rfl) rfl rfl ?_
      refine r_goto (μ := mX12_above) (pc := 42) (tgt := 4) dX12_above_42 (by decide) ?_
      exact WP.L (by simp only [nI_succ, bitsB, hz, Bool.not_true, Bool.not_false, Bool.false_eq_true, if_true, if_false]) (ih (i + 1) (by omega) _ (hS.tr h22))
    · have hz : rbB s q m (-1) (sN s i) 0 = false := b2i_0 h_27
      refine r_iconst (μ := mX12_above) (pc := 30) (v := 1) dX12_above_30 ic_1 ?_
      refine r_iload_n (μ := mX12_above) (pc := 31) dX12_above_31 rfl rfl ?_
      refine r_ishl (μ := mX12_above) (pc := 32) dX12_above_32 ?_
      refine r_goto (μ := mX12_above) (pc := 33) (tgt := 37) dX12_above_33 (by decide) ?_
      refine r_ior (μ := mX12_above) (pc := 37) dX12_above_37 ?_
      refine s_istore_n (μ := mX12_above) (pc := 38) (L2 := [_, _, _]) dX12_above_38 rfl (Nat.le_of_ble_eq_true rfl) (Nat.le_of_ble_eq_true rfl) rfl rfl ?_
      refine s_iinc (μ := mX12_above) (pc := 39) (c := 1) (L2 := [_, _, _]) dX12_above_39 rfl ic_1 (Nat.le_of_ble_eq_true rfl) rfl rfl ?_
      refine r_goto (μ := mX12_above) (pc := 42) (tgt := 4) dX12_above_42 (by decide) ?_
      exact WP.L (by simp only [nI_succ, bitsB, hz, Bool.not_true, Bool.not_false, Bool.false_eq_true, if_true, if_false]) (ih (i + 1) (by omega) _ (hS.tr h22))

theorem c_above {d : Nat} {mi : MI} {mr : MR} (hM : MB mr) {s : Rw} (hs : mi 1 = s) {n m p q : Nat} (hI : Inv s n m p q) : CP (d + 6) mX12_above [.ref 0] shM mi mr 0 0 (PX shM mr (fun r mi2 => r = bitsB (fun j => !rbB s q m (-1) (sN s j) 0) p ∧ SB mi mi2)) := by
  refine CP.of (L := [_, _, _]) (by decide) rfl rfl (Nat.le_of_ble_eq_true rfl) ?_
  refine r_iconst (μ := mX12_above) (pc := 0) (v := 0) dX12_above_0 ic_0 ?_
  refine s_istore_n (μ := mX12_above) (pc := 1) (L2 := [_, _, _]) dX12_above_1 rfl (Nat.le_of_ble_eq_true rfl) (Nat.le_of_ble_eq_true rfl) rfl rfl ?_
  refine r_iconst (μ := mX12_above) (pc := 2) (v := 0) dX12_above_2 ic_0 ?_
  refine s_istore_n (μ := mX12_above) (pc := 3) (L2 := [_, _, _]) dX12_above_3 rfl (Nat.le_of_ble_eq_true rfl) (Nat.le_of_ble_eq_true rfl) rfl rfl ?_
  exact lp_above hM hs hI (fun mi2 h => PX_i ⟨rfl, h⟩) p 0 (Nat.zero_add _) mi (SB.rf mi)

