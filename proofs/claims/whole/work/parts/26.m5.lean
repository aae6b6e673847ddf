theorem c_needsOf {d : Nat} {mi : MI} {mr : MR} (hM : MB mr) {s : Rw} (hs : mi 1 = s) {n m p q : Nat} (hI : Inv s n m p q) {a b : Nat} (ha : a < n) (hb : b < n) : CP (d + 2) mX12_needsOf [.ref 0, .int (nI a), .int (nI b)] shM mi mr 0 0 (PX shM mr (fun r mi2 => r = lenS s q a b ∧ SB mi mi2)) := by
  have hn10 := hI.n10; have hm8 := hI.m8; have hp6 := hI.p6; have hq14 := hI.q14
  refine CP.of (L := [_, _, _, _, _, _]) (by decide) rfl rfl (Nat.le_of_ble_eq_true rfl) ?_
  refine r_aload_n (μ := mX12_needsOf) (pc := 0) dX12_needsOf_0 rfl rfl rfl ?_
  refine r_iload_n (μ := mX12_needsOf) (pc := 1) dX12_needsOf_1 rfl rfl ?_
  refine vP1 (μ := mX12_needsOf) (pc := 2) (c0 := 12) (q0 := (RX12, TX12, 34)) (μ2 := mX12_height) dX12_needsOf_2 rfl rfl lkX12_112 imX12_height seX12_X12_height_X12_height mwX12_height (Nat.le_of_ble_eq_true rfl) (e_height hM hs (by omega)) ?_
  refine r_aload_n (μ := mX12_needsOf) (pc := 5) dX12_needsOf_5 rfl rfl rfl ?_
  refine r_iload_n (μ := mX12_needsOf) (pc := 6) dX12_needsOf_6 rfl rfl ?_
  refine vP1 (μ := mX12_needsOf) (pc := 7) (c0 := 12) (q0 := (RX12, TX12, 34)) (μ2 := mX12_height) dX12_needsOf_7 rfl rfl lkX12_112 imX12_height seX12_X12_height_X12_height mwX12_height (Nat.le_of_ble_eq_true rfl) (e_height hM hs (by omega)) ?_
  refine sP2 (μ := mX12_needsOf) (pc := 10) (μ2 := mX12_apart) dX12_needsOf_10 lkX12_115 stX12_apart mwX12_apart (Nat.le_of_ble_eq_true rfl) c_apart ?_
  refine s_istore_n (μ := mX12_needsOf) (pc := 13) (L2 := [_, _, _, _, _, _]) dX12_needsOf_13 rfl (Nat.le_of_ble_eq_true rfl) (Nat.le_of_ble_eq_true rfl) rfl rfl ?_
  refine r_aload_n (μ := mX12_needsOf) (pc := 14) dX12_needsOf_14 rfl rfl rfl ?_
  refine r_getR (μ := mX12_needsOf) (pc := 15) dX12_needsOf_15 fpX12_7 rfl rfl (by decide) (hM _ _ rfl) ?_
  refine r_bipush (μ := mX12_needsOf) (pc := 18) (v := 8) dX12_needsOf_18 bp_8 ?_
  refine r_iconst (μ := mX12_needsOf) (pc := 20) (v := 2) dX12_needsOf_20 ic_2 ?_
  refine r_iload_n (μ := mX12_needsOf) (pc := 21) dX12_needsOf_21 rfl rfl ?_
  refine r_imul (μ := mX12_needsOf) (pc := 22) dX12_needsOf_22 ?_
  refine r_iadd (μ := mX12_needsOf) (pc := 23) dX12_needsOf_23 ?_
  refine r_iconst (μ := mX12_needsOf) (pc := 24) (v := 1) dX12_needsOf_24 ic_1 ?_
  refine r_iadd (μ := mX12_needsOf) (pc := 25) dX12_needsOf_25 ?_
  refine r_iaload (μ := mX12_needsOf) (pc := 26) (j := ((8 + (2 * a)) + 1)) dX12_needsOf_26 rfl (by simp only [← nI_add, ← pk_mul]; rfl) (by omega) (by decide) ?_
  rw [hs]
  refine r_aload_n (μ := mX12_needsOf) (pc := 27) dX12_needsOf_27 rfl rfl rfl ?_
  refine r_getR (μ := mX12_needsOf) (pc := 28) dX12_needsOf_28 fpX12_7 rfl rfl (by decide) (hM _ _ rfl) ?_
  refine r_bipush (μ := mX12_needsOf) (pc := 31) (v := 8) dX12_needsOf_31 bp_8 ?_
  refine r_iconst (μ := mX12_needsOf) (pc := 33) (v := 2) dX12_needsOf_33 ic_2 ?_
  refine r_iload_n (μ := mX12_needsOf) (pc := 34) dX12_needsOf_34 rfl rfl ?_
  refine r_imul (μ := mX12_needsOf) (pc := 35) dX12_needsOf_35 ?_
  refine r_iadd (μ := mX12_needsOf) (pc := 36) dX12_needsOf_36 ?_
  refine r_iconst (μ := mX12_needsOf) (pc := 37) (v := 1) dX12_needsOf_37 ic_1 ?_
  refine r_iadd (μ := mX12_needsOf) (pc := 38) dX12_needsOf_38 ?_
  refine r_iaload (μ := mX12_needsOf) (pc := 39) (j := ((8 + (2 * b)) + 1)) dX12_needsOf_39 rfl (by simp only [← nI_add, ← pk_mul]; rfl) (by omega) (by decide) ?_
  rw [hs]
  refine sP2 (μ := mX12_needsOf) (pc := 40) (μ2 := mX12_apart) dX12_needsOf_40 lkX12_115 stX12_apart mwX12_apart (Nat.le_of_ble_eq_true rfl) c_apart ?_
  refine s_istore (μ := mX12_needsOf) (pc := 43) (L2 := [_, _, _, _, _, _]) dX12_needsOf_43 (Nat.le_of_ble_eq_true rfl) (Nat.le_of_ble_eq_true rfl) rfl rfl ?_
  refine r_aload_n (μ := mX12_needsOf) (pc := 45) dX12_needsOf_45 rfl rfl rfl ?_
  refine r_iconst (μ := mX12_needsOf) (pc := 46) (v := 0) dX12_needsOf_46 ic_0 ?_
  refine vP1 (μ := mX12_needsOf) (pc := 47) (c0 := 12) (q0 := (RX12, TX12, 34)) (μ2 := mX12_counts) dX12_needsOf_47 rfl rfl lkX12_118 imX12_counts seX12_X12_counts_X12_counts mwX12_counts (Nat.le_of_ble_eq_true rfl) (e_counts hM hs hI) ?_
  refine s_istore (μ := mX12_needsOf) (pc := 50) (L2 := [_, _, _, _, _, _]) dX12_needsOf_50 (Nat.le_of_ble_eq_true rfl) (Nat.le_of_ble_eq_true rfl) rfl rfl ?_
  refine r_iload (μ := mX12_needsOf) (pc := 52) dX12_needsOf_52 rfl ?_
  refine r_if_ge (μ := mX12_needsOf) (pc := 54) (tgt := 62) dX12_needsOf_54 (by decide) (fun h_54 => ?_) (fun h_54 => ?_)
  · obtain ⟨t, h1, h2, h3, h4, h5⟩ := lst_pos hq14 h_54
    rw [h2]
    refine r_aload_n (μ := mX12_needsOf) (pc := 62) dX12_needsOf_62 rfl rfl rfl ?_
    refine r_getR (μ := mX12_needsOf) (pc := 63) dX12_needsOf_63 fpX12_49 rfl rfl (by decide) (hM _ _ rfl) ?_
    refine r_bipush (μ := mX12_needsOf) (pc := 66) (v := 104) dX12_needsOf_66 bp_104 ?_
    refine r_iload_n (μ := mX12_needsOf) (pc := 68) dX12_needsOf_68 rfl rfl ?_
    refine r_iastore (μ := mX12_needsOf) (pc := 69) (j := 104) dX12_needsOf_69 rfl rfl (by decide) (by decide) ?_
    refine r_aload_n (μ := mX12_needsOf) (pc := 70) dX12_needsOf_70 rfl rfl rfl ?_
    refine r_getR (μ := mX12_needsOf) (pc := 71) dX12_needsOf_71 fpX12_49 rfl rfl (by decide) (hM _ _ rfl) ?_
    refine r_bipush (μ := mX12_needsOf) (pc := 74) (v := 112) dX12_needsOf_74 bp_112 ?_
    refine r_iload (μ := mX12_needsOf) (pc := 76) dX12_needsOf_76 rfl ?_
    refine r_iastore (μ := mX12_needsOf) (pc := 78) (j := 112) dX12_needsOf_78 rfl rfl (by decide) (by decide) ?_
    refine r_aload_n (μ := mX12_needsOf) (pc := 79) dX12_needsOf_79 rfl rfl rfl ?_
    refine r_iload (μ := mX12_needsOf) (pc := 80) dX12_needsOf_80 rfl ?_
    refine vX1 (μ := mX12_needsOf) (pc := 82) (c0 := 12) (q0 := (RX12, TX12, 34)) (μ2 := mX12_worked) dX12_needsOf_82 rfl rfl lkX12_121 imX12_worked seX12_X12_worked_X12_worked mwX12_worked (Nat.le_of_ble_eq_true rfl) (e_worked (s := s) hM (by rw [upI_ne (by decide), upI_ne (by decide)]; exact hs) hI h1 (nm := envL (apartS (hgt s a) (hgt s b)) (apartS (plc s a) (plc s b))) (by intro j hj; rw [upI_self, upI_self]; rcases hj with ⟨-, rfl | rfl⟩ | ⟨hk, -⟩ | ⟨hk, -⟩ <;> first | rfl | exact absurd (h3.symm.trans hk) (by decide))) (fun r_82 mi_82 h_82 => ?_)
    obtain ⟨rfl, h82⟩ := h_82
    refine r_sipush (μ := mX12_needsOf) (pc := 85) (v := 999) dX12_needsOf_85 sp_999 ?_
    refine sP2 (μ := mX12_needsOf) (pc := 88) (μ2 := mX12_within) dX12_needsOf_88 lkX12_124 stX12_within mwX12_within (Nat.le_of_ble_eq_true rfl) c_mwithin ?_
    exact r_iret (μ := mX12_needsOf) (pc := 91) dX12_needsOf_91 rfl rfl (PX_i ⟨by unfold lenS; rw [if_neg h4, h5], (SB_up14 (SB_up14 (SB.rf mi))).tr (SP15 h82)⟩)
  · have h5 := lst_neg h_54
    refine r_iload_n (μ := mX12_needsOf) (pc := 57) dX12_needsOf_57 rfl rfl ?_
    refine r_iload (μ := mX12_needsOf) (pc := 58) dX12_needsOf_58 rfl ?_
    refine r_iadd (μ := mX12_needsOf) (pc := 60) dX12_needsOf_60 ?_
    exact r_iret (μ := mX12_needsOf) (pc := 61) dX12_needsOf_61 rfl rfl (PX_i ⟨by unfold lenS; rw [if_pos h5]; rfl, SB.rf mi⟩)

theorem c_isStrong {d : Nat} {mi : MI} {mr : MR} (hM : MB mr) {s : Rw} (hs : mi 1 = s) {n m p q : Nat} (hI : Inv s n m p q) {i l : Nat} (hi : i < p) (hl : l < m) : CP (d + 2) mX12_isStrong [.ref 0, .int (nI i), .int (nI l)] shM mi mr 0 0 (PX shM mr (fun r mi2 => r = b2i (strgS s q i l) ∧ SB mi mi2)) := by
  have hn10 := hI.n10; have hm8 := hI.m8; have hp6 := hI.p6; have hq14 := hI.q14
  refine CP.of (L := [_, _, _, _, _]) (by decide) rfl rfl (Nat.le_of_ble_eq_true rfl) ?_
  refine r_aload_n (μ := mX12_isStrong) (pc := 0) dX12_isStrong_0 rfl rfl rfl ?_
  refine r_getR (μ := mX12_isStrong) (pc := 1) dX12_isStrong_1 fpX12_7 rfl rfl (by decide) (hM _ _ rfl) ?_
  refine r_bipush (μ := mX12_isStrong) (pc := 4) (v := 68) dX12_isStrong_4 bp_68 ?_
  refine r_iconst (μ := mX12_isStrong) (pc := 6) (v := 2) dX12_isStrong_6 ic_2 ?_
  refine r_iload_n (μ := mX12_isStrong) (pc := 7) dX12_isStrong_7 rfl rfl ?_
  refine r_imul (μ := mX12_isStrong) (pc := 8) dX12_isStrong_8 ?_
  refine r_iadd (μ := mX12_isStrong) (pc := 9) dX12_isStrong_9 ?_
  refine r_iconst (μ := mX12_isStrong) (pc := 10) (v := 1) dX12_isStrong_10 ic_1 ?_
  refine r_iadd (μ := mX12_isStrong) (pc := 11) dX12_isStrong_11 ?_
  refine r_iaload (μ := mX12_isStrong) (pc := 12) (j := ((68 + (2 * i)) + 1)) dX12_isStrong_12 rfl (by simp only [← nI_add, ← pk_mul]; rfl) (by omega) (by decide) ?_
  rw [hs]
  refine s_istore_n (μ := mX12_isStrong) (pc := 13) (L2 := [_, _, _, _, _]) dX12_isStrong_13 rfl (Nat.le_of_ble_eq_true rfl) (Nat.le_of_ble_eq_true rfl) rfl rfl ?_
  refine r_aload_n (μ := mX12_isStrong) (pc := 14) dX12_isStrong_14 rfl rfl rfl ?_
  refine r_iconst (μ := mX12_isStrong) (pc := 15) (v := 1) dX12_isStrong_15 ic_1 ?_
  refine vP1 (μ := mX12_isStrong) (pc := 16) (c0 := 12) (q0 := (RX12, TX12, 34)) (μ2 := mX12_counts) dX12_isStrong_16 rfl rfl lkX12_118 imX12_counts seX12_X12_counts_X12_counts mwX12_counts (Nat.le_of_ble_eq_true rfl) (e_counts hM hs hI) ?_
  refine s_istore (μ := mX12_isStrong) (pc := 19) (L2 := [_, _, _, _, _]) dX12_isStrong_19 (Nat.le_of_ble_eq_true rfl) (Nat.le_of_ble_eq_true rfl) rfl rfl ?_
  refine r_iload (μ := mX12_isStrong) (pc := 21) dX12_isStrong_21 rfl ?_
  refine r_if_ge (μ := mX12_isStrong) (pc := 23) (tgt := 42) dX12_isStrong_23 (by decide) (fun h_23 => ?_) (fun h_23 => ?_)
  · obtain ⟨t, h1, h2, h3, h4, h5⟩ := lst_pos hq14 h_23
    rw [h2]
    refine r_aload_n (μ := mX12_isStrong) (pc := 42) dX12_isStrong_42 rfl rfl rfl ?_
    refine r_getR (μ := mX12_isStrong) (pc := 43) dX12_isStrong_43 fpX12_49 rfl rfl (by decide) (hM _ _ rfl) ?_
    refine r_bipush (μ := mX12_isStrong) (pc := 46) (v := 115) dX12_isStrong_46 bp_115 ?_
    refine r_iload_n (μ := mX12_isStrong) (pc := 48) dX12_isStrong_48 rfl rfl ?_
    refine r_iastore (μ := mX12_isStrong) (pc := 49) (j := 115) dX12_isStrong_49 rfl rfl (by decide) (by decide) ?_
    refine r_aload_n (μ := mX12_isStrong) (pc := 50) dX12_isStrong_50 rfl rfl rfl ?_
    refine r_getR (μ := mX12_isStrong) (pc := 51) dX12_isStrong_51 fpX12_49 rfl rfl (by decide) (hM _ _ rfl) ?_
    refine r_bipush (μ := mX12_isStrong) (pc := 54) (v := 108) dX12_isStrong_54 bp_108 ?_
    refine r_aload_n (μ := mX12_isStrong) (pc := 56) dX12_isStrong_56 rfl rfl rfl ?_
    refine r_iload_n (μ := mX12_isStrong) (pc := 57) dX12_isStrong_57 rfl rfl ?_
    refine r_iconst (μ := mX12_isStrong) (pc := 58) (v := 1) dX12_isStrong_58 ic_1 ?_
    refine vP2 (μ := mX12_isStrong) (pc := 59) (c0 := 12) (q0 := (RX12, TX12, 34)) (μ2 := mX12_of) dX12_isStrong_59 rfl rfl lkX12_90 imX12_of seX12_X12_of_X12_of mwX12_of (Nat.le_of_ble_eq_true rfl) (e_of (s := s) hM (by rw [upI_ne (by decide)]; exact hs) (by omega) (by decide)) ?_
    refine r_iastore (μ := mX12_isStrong) (pc := 62) (j := 108) dX12_isStrong_62 rfl rfl (by decide) (by decide) ?_
    refine r_aload_n (μ := mX12_isStrong) (pc := 63) dX12_isStrong_63 rfl rfl rfl ?_
    refine r_getR (μ := mX12_isStrong) (pc := 64) dX12_isStrong_64 fpX12_49 rfl rfl (by decide) (hM _ _ rfl) ?_
    refine r_bipush (μ := mX12_isStrong) (pc := 67) (v := 100) dX12_isStrong_67 bp_100 ?_
    refine r_aload_n (μ := mX12_isStrong) (pc := 69) dX12_isStrong_69 rfl rfl rfl ?_
    refine r_getR (μ := mX12_isStrong) (pc := 70) dX12_isStrong_70 fpX12_7 rfl rfl (by decide) (hM _ _ rfl) ?_
    refine r_iconst (μ := mX12_isStrong) (pc := 73) (v := 4) dX12_isStrong_73 ic_4 ?_
    refine r_iaload (μ := mX12_isStrong) (pc := 74) (j := 4) dX12_isStrong_74 rfl rfl (by decide) (by decide) ?_
    rw [upI_ne (by decide), upI_ne (by decide), hs]
    refine r_iastore (μ := mX12_isStrong) (pc := 75) (j := 100) dX12_isStrong_75 rfl rfl (by decide) (by decide) ?_
    refine r_aload_n (μ := mX12_isStrong) (pc := 76) dX12_isStrong_76 rfl rfl rfl ?_
    refine r_iload (μ := mX12_isStrong) (pc := 77) dX12_isStrong_77 rfl ?_
    refine vX1 (μ := mX12_isStrong) (pc := 79) (c0 := 12) (q0 := (RX12, TX12, 34)) (μ2 := mX12_worked) dX12_isStrong_79 rfl rfl lkX12_121 imX12_worked seX12_X12_worked_X12_worked mwX12_worked (Nat.le_of_ble_eq_true rfl) (e_worked (s := s) hM (by rw [upI_ne (by decide), upI_ne (by decide), upI_ne (by decide)]; exact hs) hI h1 (nm := envM (stg s i) (lng s l) (s 4)) (by intro j hj; rw [upI_self, upI_self, upI_self]; rcases hj with ⟨hk, -⟩ | ⟨-, rfl | rfl | rfl⟩ | ⟨hk, -⟩ <;> first | rfl | exact absurd (h3.symm.trans hk) (by decide))) (fun r_79 mi_79 h_79 => ?_)
    obtain ⟨rfl, h79⟩ := h_79
    refine r_if_eq (μ := mX12_isStrong) (pc := 82) (tgt := 89) dX12_isStrong_82 (by decide) (fun h_82 => ?_) (fun h_82 => ?_)
    · refine r_iconst (μ := mX12_isStrong) (pc := 89) (v := 0) dX12_isStrong_89 ic_0 ?_
      exact r_iret (μ := mX12_isStrong) (pc := 90) dX12_isStrong_90 rfl rfl (PX_i ⟨by unfold strgS; rw [if_neg h4, h5]; simp [b2i, h_82], (SB_up14 (SB_up14 (SB_up14 (SB.rf mi)))).tr (SP15 h79)⟩)
    · refine r_iconst (μ := mX12_isStrong) (pc := 85) (v := 1) dX12_isStrong_85 ic_1 ?_
      refine r_goto (μ := mX12_isStrong) (pc := 86) (tgt := 90) dX12_isStrong_86 (by decide) ?_
      exact r_iret (μ := mX12_isStrong) (pc := 90) dX12_isStrong_90 rfl rfl (PX_i ⟨by unfold strgS; rw [if_neg h4, h5]; simp [b2i, h_82], (SB_up14 (SB_up14 (SB_up14 (SB.rf mi)))).tr (SP15 h79)⟩)
  · have h5 := lst_neg h_23
    refine r_iload_n (μ := mX12_isStrong) (pc := 26) dX12_isStrong_26 rfl rfl ?_
    refine r_aload_n (μ := mX12_isStrong) (pc := 27) dX12_isStrong_27 rfl rfl rfl ?_
    refine r_iload_n (μ := mX12_isStrong) (pc := 28) dX12_isStrong_28 rfl rfl ?_
    refine r_iconst (μ := mX12_isStrong) (pc := 29) (v := 1) dX12_isStrong_29 ic_1 ?_
    refine vP2 (μ := mX12_isStrong) (pc := 30) (c0 := 12) (q0 := (RX12, TX12, 34)) (μ2 := mX12_of) dX12_isStrong_30 rfl rfl lkX12_90 imX12_of seX12_X12_of_X12_of mwX12_of (Nat.le_of_ble_eq_true rfl) (e_of hM hs (by omega) (by decide)) ?_
    refine r_icmp_lt (μ := mX12_isStrong) (pc := 33) (tgt := 40) dX12_isStrong_33 (by decide) (fun h_33 => ?_) (fun h_33 => ?_)
    · refine r_iconst (μ := mX12_isStrong) (pc := 40) (v := 0) dX12_isStrong_40 ic_0 ?_
      exact r_iret (μ := mX12_isStrong) (pc := 41) dX12_isStrong_41 rfl rfl (PX_i ⟨by unfold strgS; rw [if_pos h5]; first | (rw [show decide (lng s l ≤ stg s i) = false from decide_eq_false (Int32.not_le.mpr h_33)]; rfl) | (rw [show decide (lng s l ≤ stg s i) = true from decide_eq_true (Int32.not_lt.mp h_33)]; rfl), SB.rf mi⟩)
    · refine r_iconst (μ := mX12_isStrong) (pc := 36) (v := 1) dX12_isStrong_36 ic_1 ?_
      refine r_goto (μ := mX12_isStrong) (pc := 37) (tgt := 41) dX12_isStrong_37 (by decide) ?_
      exact r_iret (μ := mX12_isStrong) (pc := 41) dX12_isStrong_41 rfl rfl (PX_i ⟨by unfold strgS; rw [if_pos h5]; first | (rw [show decide (lng s l ≤ stg s i) = false from decide_eq_false (Int32.not_le.mpr h_33)]; rfl) | (rw [show decide (lng s l ≤ stg s i) = true from decide_eq_true (Int32.not_lt.mp h_33)]; rfl), SB.rf mi⟩)

theorem c_toll {d : Nat} {mi : MI} {mr : MR} (hM : MB mr) {s : Rw} (hs : mi 1 = s) {n m p q : Nat} (hI : Inv s n m p q) {a b : Int32} : CP (d + 2) mX12_toll [.ref 0, .int a, .int b] shM mi mr 0 0 (PX shM mr (fun r mi2 => r = tollS s q a b ∧ SB mi mi2)) := by
  have hn10 := hI.n10; have hm8 := hI.m8; have hp6 := hI.p6; have hq14 := hI.q14
  refine CP.of (L := [_, _, _, _]) (by decide) rfl rfl (Nat.le_of_ble_eq_true rfl) ?_
  refine r_aload_n (μ := mX12_toll) (pc := 0) dX12_toll_0 rfl rfl rfl ?_
  refine r_iconst (μ := mX12_toll) (pc := 1) (v := 2) dX12_toll_1 ic_2 ?_
  refine vP1 (μ := mX12_toll) (pc := 2) (c0 := 12) (q0 := (RX12, TX12, 34)) (μ2 := mX12_counts) dX12_toll_2 rfl rfl lkX12_118 imX12_counts seX12_X12_counts_X12_counts mwX12_counts (Nat.le_of_ble_eq_true rfl) (e_counts hM hs hI) ?_
  refine s_istore_n (μ := mX12_toll) (pc := 5) (L2 := [_, _, _, _]) dX12_toll_5 rfl (Nat.le_of_ble_eq_true rfl) (Nat.le_of_ble_eq_true rfl) rfl rfl ?_
  refine r_iload_n (μ := mX12_toll) (pc := 6) dX12_toll_6 rfl rfl ?_
  refine r_if_ge (μ := mX12_toll) (pc := 7) (tgt := 12) dX12_toll_7 (by decide) (fun h_7 => ?_) (fun h_7 => ?_)
  · obtain ⟨t, h1, h2, h3, h4, h5⟩ := lst_pos hq14 h_7
    rw [h2]
    refine r_aload_n (μ := mX12_toll) (pc := 12) dX12_toll_12 rfl rfl rfl ?_
    refine r_getR (μ := mX12_toll) (pc := 13) dX12_toll_13 fpX12_49 rfl rfl (by decide) (hM _ _ rfl) ?_
    refine r_bipush (μ := mX12_toll) (pc := 16) (v := 109) dX12_toll_16 bp_109 ?_
    refine r_iload_n (μ := mX12_toll) (pc := 18) dX12_toll_18 rfl rfl ?_
    refine r_iastore (μ := mX12_toll) (pc := 19) (j := 109) dX12_toll_19 rfl rfl (by decide) (by decide) ?_
    refine r_aload_n (μ := mX12_toll) (pc := 20) dX12_toll_20 rfl rfl rfl ?_
    refine r_getR (μ := mX12_toll) (pc := 21) dX12_toll_21 fpX12_49 rfl rfl (by decide) (hM _ _ rfl) ?_
    refine r_bipush (μ := mX12_toll) (pc := 24) (v := 110) dX12_toll_24 bp_110 ?_
    refine r_iload_n (μ := mX12_toll) (pc := 26) dX12_toll_26 rfl rfl ?_
    refine r_iastore (μ := mX12_toll) (pc := 27) (j := 110) dX12_toll_27 rfl rfl (by decide) (by decide) ?_
    refine r_aload_n (μ := mX12_toll) (pc := 28) dX12_toll_28 rfl rfl rfl ?_
    refine r_iload_n (μ := mX12_toll) (pc := 29) dX12_toll_29 rfl rfl ?_
    refine vX1 (μ := mX12_toll) (pc := 30) (c0 := 12) (q0 := (RX12, TX12, 34)) (μ2 := mX12_worked) dX12_toll_30 rfl rfl lkX12_121 imX12_worked seX12_X12_worked_X12_worked mwX12_worked (Nat.le_of_ble_eq_true rfl) (e_worked (s := s) hM (by rw [upI_ne (by decide), upI_ne (by decide)]; exact hs) hI h1 (nm := envT a b) (by intro j hj; rw [upI_self, upI_self]; rcases hj with ⟨hk, -⟩ | ⟨hk, -⟩ | ⟨-, rfl | rfl⟩ <;> first | rfl | exact absurd (h3.symm.trans hk) (by decide))) (fun r_30 mi_30 h_30 => ?_)
    obtain ⟨rfl, h30⟩ := h_30
    exact r_iret (μ := mX12_toll) (pc := 33) dX12_toll_33 rfl rfl (PX_i ⟨by unfold tollS; rw [if_neg h4, h5], (SB_up14 (SB_up14 (SB.rf mi))).tr (SP15 h30)⟩)
  · have h5 := lst_neg h_7
    refine r_iload_n (μ := mX12_toll) (pc := 10) dX12_toll_10 rfl rfl ?_
    exact r_iret (μ := mX12_toll) (pc := 11) dX12_toll_11 rfl rfl (PX_i ⟨by unfold tollS; rw [if_pos h5], SB.rf mi⟩)

theorem c_reaches {d : Nat} {mi : MI} {mr : MR} (hM : MB mr) {s : Rw} (hs : mi 1 = s) {n m p q : Nat} (hI : Inv s n m p q) {l b : Nat} (hl : l < m) (hb : b < n) : CP (d + 3) mX12_reaches [.ref 0, .int (nI l), .int (nI b)] shM mi mr 0 0 (PX shM mr (fun r mi2 => r = b2i (rchS s q l b) ∧ SB mi mi2)) := by
  have hn10 := hI.n10; have hm8 := hI.m8; have hp6 := hI.p6; have hq14 := hI.q14
  have hf := hI.fn hl
  refine CP.of (L := [_, _, _, _]) (by decide) rfl rfl (Nat.le_of_ble_eq_true rfl) ?_
  refine r_aload_n (μ := mX12_reaches) (pc := 0) dX12_reaches_0 rfl rfl rfl ?_
  refine r_iload_n (μ := mX12_reaches) (pc := 1) dX12_reaches_1 rfl rfl ?_
  refine r_iconst (μ := mX12_reaches) (pc := 2) (v := 2) dX12_reaches_2 ic_2 ?_
  refine vP2 (μ := mX12_reaches) (pc := 3) (c0 := 12) (q0 := (RX12, TX12, 34)) (μ2 := mX12_of) dX12_reaches_3 rfl rfl lkX12_90 imX12_of seX12_X12_of_X12_of mwX12_of (Nat.le_of_ble_eq_true rfl) (e_of hM hs (by omega) (by decide)) ?_
  rw [hI.f hl]
  refine s_istore_n (μ := mX12_reaches) (pc := 6) (L2 := [_, _, _, _]) dX12_reaches_6 rfl (Nat.le_of_ble_eq_true rfl) (Nat.le_of_ble_eq_true rfl) rfl rfl ?_
  refine r_aload_n (μ := mX12_reaches) (pc := 7) dX12_reaches_7 rfl rfl rfl ?_
  refine r_iload_n (μ := mX12_reaches) (pc := 8) dX12_reaches_8 rfl rfl ?_
  refine vP1 (μ := mX12_reaches) (pc := 9) (c0 := 12) (q0 := (RX12, TX12, 34)) (μ2 := mX12_height) dX12_reaches_9 rfl rfl lkX12_112 imX12_height seX12_X12_height_X12_height mwX12_height (Nat.le_of_ble_eq_true rfl) (e_height hM hs (by omega)) ?_
  refine r_aload_n (μ := mX12_reaches) (pc := 12) dX12_reaches_12 rfl rfl rfl ?_
  refine r_iload_n (μ := mX12_reaches) (pc := 13) dX12_reaches_13 rfl rfl ?_
  refine vP1 (μ := mX12_reaches) (pc := 14) (c0 := 12) (q0 := (RX12, TX12, 34)) (μ2 := mX12_height) dX12_reaches_14 rfl rfl lkX12_112 imX12_height seX12_X12_height_X12_height mwX12_height (Nat.le_of_ble_eq_true rfl) (e_height hM hs (by omega)) ?_
  refine r_icmp_le (μ := mX12_reaches) (pc := 17) (tgt := 38) dX12_reaches_17 (by decide) (fun h_17 => ?_) (fun h_17 => ?_)
  · refine r_iconst (μ := mX12_reaches) (pc := 38) (v := 0) dX12_reaches_38 ic_0 ?_
    exact r_iret (μ := mX12_reaches) (pc := 39) dX12_reaches_39 rfl rfl (PX_i ⟨by unfold rchS; first | (rw [decide_eq_false (Int32.not_lt.mpr h_17)]; rfl) | (rw [decide_eq_true (Int32.not_le.mp h_17)]; first | (rw [decide_eq_false (Int32.not_le.mpr h_31)]; rfl) | (rw [decide_eq_true (Int32.not_lt.mp h_31)]; rfl)), by first | exact SB.rf mi | exact h23⟩)
  · refine r_aload_n (μ := mX12_reaches) (pc := 20) dX12_reaches_20 rfl rfl rfl ?_
    refine r_iload_n (μ := mX12_reaches) (pc := 21) dX12_reaches_21 rfl rfl ?_
    refine r_iload_n (μ := mX12_reaches) (pc := 22) dX12_reaches_22 rfl rfl ?_
    refine vX2 (μ := mX12_reaches) (pc := 23) (c0 := 12) (q0 := (RX12, TX12, 34)) (μ2 := mX12_needsOf) dX12_reaches_23 rfl rfl lkX12_127 imX12_needsOf seX12_X12_needsOf_X12_needsOf mwX12_needsOf (Nat.le_of_ble_eq_true rfl) (c_needsOf hM hs hI hf hb) (fun r_23 mi_23 h_23 => ?_)
    obtain ⟨rfl, h23⟩ := h_23
    refine r_aload_n (μ := mX12_reaches) (pc := 26) dX12_reaches_26 rfl rfl rfl ?_
    refine r_iload_n (μ := mX12_reaches) (pc := 27) dX12_reaches_27 rfl rfl ?_
    refine vP1 (μ := mX12_reaches) (pc := 28) (c0 := 12) (q0 := (RX12, TX12, 34)) (μ2 := mX12_reach) dX12_reaches_28 rfl rfl lkX12_130 imX12_reach seX12_X12_reach_X12_reach mwX12_reach (Nat.le_of_ble_eq_true rfl) (e_reach hM (h23.r1.trans hs) hI hl) ?_
    refine r_icmp_gt (μ := mX12_reaches) (pc := 31) (tgt := 38) dX12_reaches_31 (by decide) (fun h_31 => ?_) (fun h_31 => ?_)
    · refine r_iconst (μ := mX12_reaches) (pc := 38) (v := 0) dX12_reaches_38 ic_0 ?_
      exact r_iret (μ := mX12_reaches) (pc := 39) dX12_reaches_39 rfl rfl (PX_i ⟨by unfold rchS; first | (rw [decide_eq_false (Int32.not_lt.mpr h_17)]; rfl) | (rw [decide_eq_true (Int32.not_le.mp h_17)]; first | (rw [decide_eq_false (Int32.not_le.mpr h_31)]; rfl) | (rw [decide_eq_true (Int32.not_lt.mp h_31)]; rfl)), by first | exact SB.rf mi | exact h23⟩)
    · refine r_iconst (μ := mX12_reaches) (pc := 34) (v := 1) dX12_reaches_34 ic_1 ?_
      refine r_goto (μ := mX12_reaches) (pc := 35) (tgt := 39) dX12_reaches_35 (by decide) ?_
      exact r_iret (μ := mX12_reaches) (pc := 39) dX12_reaches_39 rfl rfl (PX_i ⟨by unfold rchS; first | (rw [decide_eq_false (Int32.not_lt.mpr h_17)]; rfl) | (rw [decide_eq_true (Int32.not_le.mp h_17)]; first | (rw [decide_eq_false (Int32.not_le.mpr h_31)]; rfl) | (rw [decide_eq_true (Int32.not_lt.mp h_31)]; rfl)), by first | exact SB.rf mi | exact h23⟩)

theorem c_stands {d : Nat} {mi : MI} {mr : MR} (hM : MB mr) {s : Rw} (hs : mi 1 = s) {n m p q : Nat} (hI : Inv s n m p q) {l : Nat} (hl : l < m) : CP (d + 4) mX12_stands [.ref 0, .int (nI l)] shM mi mr 0 0 (PX shM mr (fun r mi2 => r = b2i (stdS s q l) ∧ SB mi mi2)) := by
  have hn10 := hI.n10; have hm8 := hI.m8; have hp6 := hI.p6; have hq14 := hI.q14
  refine CP.of (L := [_, _]) (by decide) rfl rfl (Nat.le_of_ble_eq_true rfl) ?_
  refine r_aload_n (μ := mX12_stands) (pc := 0) dX12_stands_0 rfl rfl rfl ?_
  refine r_iload_n (μ := mX12_stands) (pc := 1) dX12_stands_1 rfl rfl ?_
  refine r_aload_n (μ := mX12_stands) (pc := 2) dX12_stands_2 rfl rfl rfl ?_
  refine r_iload_n (μ := mX12_stands) (pc := 3) dX12_stands_3 rfl rfl ?_
  refine r_iconst (μ := mX12_stands) (pc := 4) (v := 3) dX12_stands_4 ic_3 ?_
  refine vP2 (μ := mX12_stands) (pc := 5) (c0 := 12) (q0 := (RX12, TX12, 34)) (μ2 := mX12_of) dX12_stands_5 rfl rfl lkX12_90 imX12_of seX12_X12_of_X12_of mwX12_of (Nat.le_of_ble_eq_true rfl) (e_of hM hs (by omega) (by decide)) ?_
  rw [hI.t hl]
  refine vX2 (μ := mX12_stands) (pc := 8) (c0 := 12) (q0 := (RX12, TX12, 34)) (μ2 := mX12_reaches) dX12_stands_8 rfl rfl lkX12_133 imX12_reaches seX12_X12_reaches_X12_reaches mwX12_reaches (Nat.le_of_ble_eq_true rfl) (c_reaches hM hs hI hl (hI.tn hl)) (fun r_8 mi_8 h_8 => ?_)
  obtain ⟨rfl, h8⟩ := h_8
  exact r_iret (μ := mX12_stands) (pc := 11) dX12_stands_11 rfl (nar_b2i _) (PX_i ⟨rfl, h8⟩)

theorem lp_allReached {d : Nat} {mi : MI} {mr : MR} {Q : QT} (hM : MB mr) {s : Rw} {n m p q : Nat} (hI : Inv s n m p q) {l : Nat} (hl : l < m) (hq : ∀ mi2, SB mi mi2 → Q (some (.int (bitsB (rchS s q l) n))) shM mi2 mr) (hs : mi 1 = s) :
    ∀ (k i : Nat), i + k = n → ∀ mi2, SB mi mi2 → WP (d + 4) mX12_allReached 4 [.ref 0, .int (nI l), .int (bitsB (rchS s q l) i), .int (nI i)] [] shM mi2 mr 0 0 Q := by
  have hn10 := hI.n10
  intro k
  induction k with
  | zero =>
    intro i hk mi2 hS
    obtain rfl : i = n := by omega
    refine r_iload_n (μ := mX12_allReached) (pc := 4) dX12_allReached_4 rfl rfl ?_
    refine r_aload_n (μ := mX12_allReached) (pc := 5) dX12_allReached_5 rfl rfl rfl ?_
    refine r_getR (μ := mX12_allReached) (pc := 6) dX12_allReached_6 fpX12_7 rfl rfl (by decide) (hM _ _ rfl) ?_
    refine r_iconst (μ := mX12_allReached) (pc := 9) (v := 0) dX12_allReached_9 ic_0 ?_
    refine r_iaload (μ := mX12_allReached) (pc := 10) (j := 0) dX12_allReached_10 rfl rfl (by decide) (by decide) ?_
    rw [hS.r1, hs, hI.en]
    refine r_icmp_ge (μ := mX12_allReached) (pc := 11) (tgt := 39) dX12_allReached_11 (by decide) (fun h_11 => ?_) (fun h_11 => absurd (nI_le (Nat.le_refl _) (by omega)) h_11)
    refine r_iload_n (μ := mX12_allReached) (pc := 39) dX12_allReached_39 rfl rfl ?_
    exact r_iret (μ := mX12_allReached) (pc := 40) dX12_allReached_40 rfl rfl (hq mi2 hS)
  | succ k ih =>
    intro i hk mi2 hS
    refine r_iload_n (μ := mX12_allReached) (pc := 4) dX12_allReached_4 rfl rfl ?_
    refine r_aload_n (μ := mX12_allReached) (pc := 5) dX12_allReached_5 rfl rfl rfl ?_
    refine r_getR (μ := mX12_allReached) (pc := 6) dX12_allReached_6 fpX12_7 rfl rfl (by decide) (hM _ _ rfl) ?_
    refine r_iconst (μ := mX12_allReached) (pc := 9) (v := 0) dX12_allReached_9 ic_0 ?_
    refine r_iaload (μ := mX12_allReached) (pc := 10) (j := 0) dX12_allReached_10 rfl rfl (by decide) (by decide) ?_
    rw [hS.r1, hs, hI.en]
    refine r_icmp_ge (μ := mX12_allReached) (pc := 11) (tgt := 39) dX12_allReached_11 (by decide) (fun h_11 => absurd h_11 (nI_ge (by omega) (by omega))) (fun h_11 => ?_)
    refine r_iload_n (μ := mX12_allReached) (pc := 14) dX12_allReached_14 rfl rfl ?_
    refine r_aload_n (μ := mX12_allReached) (pc := 15) dX12_allReached_15 rfl rfl rfl ?_
    refine r_iload_n (μ := mX12_allReached) (pc := 16) dX12_allReached_16 rfl rfl ?_
    refine r_iload_n (μ := mX12_allReached) (pc := 17) dX12_allReached_17 rfl rfl ?_
    refine vX2 (μ := mX12_allReached) (pc := 18) (c0 := 12) (q0 := (RX12, TX12, 34)) (μ2 := mX12_reaches) dX12_allReached_18 rfl rfl lkX12_133 imX12_reaches seX12_X12_reaches_X12_reaches mwX12_reaches (Nat.le_of_ble_eq_true rfl) (c_reaches hM (hS.r1.trans hs) hI hl (by omega)) (fun r_18 mi_18 h_18 => ?_)
    obtain ⟨rfl, h18⟩ := h_18
    refine r_if_eq (μ := mX12_allReached) (pc := 21) (tgt := 30) dX12_allReached_21 (by decide) (fun h_21 => ?_) (fun h_21 => ?_)
    · have h_21 := b2i_0 h_21
      refine r_iconst (μ := mX12_allReached) (pc := 30) (v := 0) dX12_allReached_30 ic_0 ?_
      refine r_ior (μ := mX12_allReached) (pc := 31) dX12_allReached_31 ?_
      refine s_istore_n (μ := mX12_allReached) (pc := 32) (L2 := [_, _, _, _]) dX12_allReached_32 rfl (Nat.le_of_ble_eq_true rfl) (Nat.le_of_ble_eq_true rfl) rfl rfl ?_
      refine s_iinc (μ := mX12_allReached) (pc := 33) (c := 1) (L2 := [_, _, _, _]) dX12_allReached_33 rfl ic_1 (Nat.le_of_ble_eq_true rfl) rfl rfl ?_
      refine r_goto (μ := mX12_allReached) (pc := 36) (tgt := 4) dX12_allReached_36 (by decide) ?_
      exact WP.L (by simp [bitsB, nI_succ, h_21]) (ih (i + 1) (by omega) _ (hS.tr h18))
    · have h_21 := b2i_1 h_21
      refine r_iconst (μ := mX12_allReached) (pc := 24) (v := 1) dX12_allReached_24 ic_1 ?_
      refine r_iload_n (μ := mX12_allReached) (pc := 25) dX12_allReached_25 rfl rfl ?_
      refine r_ishl (μ := mX12_allReached) (pc := 26) dX12_allReached_26 ?_
      refine r_goto (μ := mX12_allReached) (pc := 27) (tgt := 31) dX12_allReached_27 (by decide) ?_
      refine r_ior (μ := mX12_allReached) (pc := 31) dX12_allReached_31 ?_
      refine s_istore_n (μ := mX12_allReached) (pc := 32) (L2 := [_, _, _, _]) dX12_allReached_32 rfl (Nat.le_of_ble_eq_true rfl) (Nat.le_of_ble_eq_true rfl) rfl rfl ?_
      refine s_iinc (μ := mX12_allReached) (pc := 33) (c := 1) (L2 := [_, _, _, _]) dX12_allReached_33 rfl ic_1 (Nat.le_of_ble_eq_true rfl) rfl rfl ?_
      refine r_goto (μ := mX12_allReached) (pc := 36) (tgt := 4) dX12_allReached_36 (by decide) ?_
      exact WP.L (by simp [bitsB, nI_succ, h_21]) (ih (i + 1) (by omega) _ (hS.tr h18))

theorem c_allReached {d : Nat} {mi : MI} {mr : MR} (hM : MB mr) {s : Rw} (hs : mi 1 = s) {n m p q : Nat} (hI : Inv s n m p q) {l : Nat} (hl : l < m) : CP (d + 4) mX12_allReached [.ref 0, .int (nI l)] shM mi mr 0 0 (PX shM mr (fun r mi2 => r = bitsB (rchS s q l) n ∧ SB mi mi2)) := by
  refine CP.of (L := [_, _, _, _]) (by decide) rfl rfl (Nat.le_of_ble_eq_true rfl) ?_
  refine r_iconst (μ := mX12_allReached) (pc := 0) (v := 0) dX12_allReached_0 ic_0 ?_
  refine s_istore_n (μ := mX12_allReached) (pc := 1) (L2 := [_, _, _, _]) dX12_allReached_1 rfl (Nat.le_of_ble_eq_true rfl) (Nat.le_of_ble_eq_true rfl) rfl rfl ?_
  refine r_iconst (μ := mX12_allReached) (pc := 2) (v := 0) dX12_allReached_2 ic_0 ?_
  refine s_istore_n (μ := mX12_allReached) (pc := 3) (L2 := [_, _, _, _]) dX12_allReached_3 rfl (Nat.le_of_ble_eq_true rfl) (Nat.le_of_ble_eq_true rfl) rfl rfl ?_
  exact lp_allReached hM hI hl (fun mi2 h => PX_i ⟨rfl, h⟩) hs n 0 (Nat.zero_add _) mi (SB.rf mi)

theorem cnt_le1 {c p : Nat} (hc : c ≤ p) (hp : p ≤ 6) : nI c - 1 ≤ 0 ↔ c ≤ 1 := by
  have h1 : (nI c - 1).toInt = (c : Int) - 1 := pk_sub_toInt (a := c) (b := 1) (by omega) (by decide)
  rw [Int32.le_iff_toInt_le, h1]
  have : (0 : Int32).toInt = 0 := rfl
  omega
theorem cnt_le0 {c p : Nat} (hc : c ≤ p) (hp : p ≤ 6) : nI c - 0 ≤ 0 ↔ c ≤ 0 := by
  have e : nI c - 0 = nI c := by simp
  rw [e, Int32.le_iff_toInt_le, nI_toInt (by omega)]
  have : (0 : Int32).toInt = 0 := rfl
  omega

theorem c_mayThere {d : Nat} {mi : MI} {mr : MR} (hM : MB mr) {s : Rw} (hs : mi 1 = s) {n m p q : Nat} (hI : Inv s n m p q) {i l : Nat} (hi : i < p) (hl : l < m) : CP (d + 3) mX12_mayThere [.ref 0, .int (nI i), .int (nI l)] shM mi mr 0 0 (PX shM mr (fun r mi2 => r = b2i (thrS s p q i l) ∧ SB mi mi2)) := by
  have hn10 := hI.n10; have hm8 := hI.m8; have hp6 := hI.p6; have hq14 := hI.q14
  refine CP.of (L := [_, _, _]) (by decide) rfl rfl (Nat.le_of_ble_eq_true rfl) ?_
  refine r_aload_n (μ := mX12_mayThere) (pc := 0) dX12_mayThere_0 rfl rfl rfl ?_
  refine r_iload_n (μ := mX12_mayThere) (pc := 1) dX12_mayThere_1 rfl rfl ?_
  refine r_iconst (μ := mX12_mayThere) (pc := 2) (v := 4) dX12_mayThere_2 ic_4 ?_
  refine vP2 (μ := mX12_mayThere) (pc := 3) (c0 := 12) (q0 := (RX12, TX12, 34)) (μ2 := mX12_of) dX12_mayThere_3 rfl rfl lkX12_90 imX12_of seX12_X12_of_X12_of mwX12_of (Nat.le_of_ble_eq_true rfl) (e_of hM hs (by omega) (by decide)) ?_
  refine r_iconst (μ := mX12_mayThere) (pc := 6) (v := 1) dX12_mayThere_6 ic_1 ?_
  refine r_icmp_ne (μ := mX12_mayThere) (pc := 7) (tgt := 12) dX12_mayThere_7 (by decide) (fun h_7 => ?_) (fun h_7 => ?_)
  · have h7 : ¬ mvd s l = 1 := h_7
    refine r_aload_n (μ := mX12_mayThere) (pc := 12) dX12_mayThere_12 rfl rfl rfl ?_
    refine r_iload_n (μ := mX12_mayThere) (pc := 13) dX12_mayThere_13 rfl rfl ?_
    refine r_iconst (μ := mX12_mayThere) (pc := 14) (v := 0) dX12_mayThere_14 ic_0 ?_
    refine vP2 (μ := mX12_mayThere) (pc := 15) (c0 := 12) (q0 := (RX12, TX12, 34)) (μ2 := mX12_of) dX12_mayThere_15 rfl rfl lkX12_90 imX12_of seX12_X12_of_X12_of mwX12_of (Nat.le_of_ble_eq_true rfl) (e_of hM hs (by omega) (by decide)) ?_
    rcases k6 (hI.k hl) (hI.k6 hl) with hx | hx | hx | hx | hx | hx
    · have hy : knd s l = 0 := hx
      rw [hx]
      refine r_tabOut (μ := mX12_mayThere) (pc := 18) (tgt := 102) dX12_mayThere_18 (by decide) (by decide) ?_
      refine r_aload_n (μ := mX12_mayThere) (pc := 102) dX12_mayThere_102 rfl rfl rfl ?_
      refine r_iload_n (μ := mX12_mayThere) (pc := 103) dX12_mayThere_103 rfl rfl ?_
      refine r_iload_n (μ := mX12_mayThere) (pc := 104) dX12_mayThere_104 rfl rfl ?_
      refine vX2 (μ := mX12_mayThere) (pc := 105) (c0 := 12) (q0 := (RX12, TX12, 34)) (μ2 := mX12_isStrong) dX12_mayThere_105 rfl rfl lkX12_159 imX12_isStrong seX12_X12_isStrong_X12_isStrong mwX12_isStrong (Nat.le_of_ble_eq_true rfl) (c_isStrong hM hs hI hi hl) (fun r_105 mi_105 h_105 => ?_)
      obtain ⟨rfl, h105⟩ := h_105
      exact r_iret (μ := mX12_mayThere) (pc := 108) dX12_mayThere_108 rfl (nar_b2i _) (PX_i ⟨by unfold thrS; simp [h7, hy], h105⟩)
    · have hy : knd s l = 1 := hx
      rw [hx]
      refine r_tabIn (μ := mX12_mayThere) (pc := 18) (tgt := 52) dX12_mayThere_18 (by decide) (by decide) rfl (by decide) ?_
      refine r_iconst (μ := mX12_mayThere) (pc := 52) (v := 1) dX12_mayThere_52 ic_1 ?_
      exact r_iret (μ := mX12_mayThere) (pc := 53) dX12_mayThere_53 rfl rfl (PX_i ⟨by unfold thrS; simp [h7, hy, b2i], SB.rf mi⟩)
    · have hy : knd s l = 2 := hx
      rw [hx]
      refine r_tabIn (μ := mX12_mayThere) (pc := 18) (tgt := 54) dX12_mayThere_18 (by decide) (by decide) rfl (by decide) ?_
      refine r_aload_n (μ := mX12_mayThere) (pc := 54) dX12_mayThere_54 rfl rfl rfl ?_
      refine r_iload_n (μ := mX12_mayThere) (pc := 55) dX12_mayThere_55 rfl rfl ?_
      refine r_iload_n (μ := mX12_mayThere) (pc := 56) dX12_mayThere_56 rfl rfl ?_
      refine vX2 (μ := mX12_mayThere) (pc := 57) (c0 := 12) (q0 := (RX12, TX12, 34)) (μ2 := mX12_isStrong) dX12_mayThere_57 rfl rfl lkX12_159 imX12_isStrong seX12_X12_isStrong_X12_isStrong mwX12_isStrong (Nat.le_of_ble_eq_true rfl) (c_isStrong hM hs hI hi hl) (fun r_57 mi_57 h_57 => ?_)
      obtain ⟨rfl, h57⟩ := h_57
      refine r_if_eq (μ := mX12_mayThere) (pc := 60) (tgt := 100) dX12_mayThere_60 (by decide) (fun h_60 => ?_) (fun h_60 => ?_)
      · have h_60 := b2i_0 h_60
        refine r_iconst (μ := mX12_mayThere) (pc := 100) (v := 0) dX12_mayThere_100 ic_0 ?_
        exact r_iret (μ := mX12_mayThere) (pc := 101) dX12_mayThere_101 rfl rfl (PX_i ⟨by unfold thrS; first | (simp [h7, hy, h_60, b2i]; done) | (simp only [h7, hy, h_60, Bool.true_and]; first | (rw [decide_eq_false (by omega)]; rfl) | (rw [decide_eq_true (by omega)]; rfl)), h57⟩)
      · have h_60 := b2i_1 h_60
        refine r_aload_n (μ := mX12_mayThere) (pc := 63) dX12_mayThere_63 rfl rfl rfl ?_
        refine r_aload_n (μ := mX12_mayThere) (pc := 64) dX12_mayThere_64 rfl rfl rfl ?_
        refine r_iload_n (μ := mX12_mayThere) (pc := 65) dX12_mayThere_65 rfl rfl ?_
        refine r_iconst (μ := mX12_mayThere) (pc := 66) (v := 2) dX12_mayThere_66 ic_2 ?_
        refine vP2 (μ := mX12_mayThere) (pc := 67) (c0 := 12) (q0 := (RX12, TX12, 34)) (μ2 := mX12_of) dX12_mayThere_67 rfl rfl lkX12_90 imX12_of seX12_X12_of_X12_of mwX12_of (Nat.le_of_ble_eq_true rfl) (e_of hM (h57.r1.trans hs) (by omega) (by decide)) ?_
        refine vP1 (μ := mX12_mayThere) (pc := 70) (c0 := 12) (q0 := (RX12, TX12, 34)) (μ2 := mX12_peopleOn) dX12_mayThere_70 rfl rfl lkX12_94 imX12_peopleOn seX12_X12_peopleOn_X12_peopleOn mwX12_peopleOn (Nat.le_of_ble_eq_true rfl) (e_peopleOn hM (h57.r1.trans hs) hI) ?_
        refine r_aload_n (μ := mX12_mayThere) (pc := 73) dX12_mayThere_73 rfl rfl rfl ?_
        refine r_iload_n (μ := mX12_mayThere) (pc := 74) dX12_mayThere_74 rfl rfl ?_
        refine vP1 (μ := mX12_mayThere) (pc := 75) (c0 := 12) (q0 := (RX12, TX12, 34)) (μ2 := mX12_where) dX12_mayThere_75 rfl rfl lkX12_70 imX12_where seX12_X12_where_X12_where mwX12_where (Nat.le_of_ble_eq_true rfl) (e_where hM (h57.r1.trans hs) (by omega)) ?_
        refine r_aload_n (μ := mX12_mayThere) (pc := 78) dX12_mayThere_78 rfl rfl rfl ?_
        refine r_iload_n (μ := mX12_mayThere) (pc := 79) dX12_mayThere_79 rfl rfl ?_
        refine r_iconst (μ := mX12_mayThere) (pc := 80) (v := 2) dX12_mayThere_80 ic_2 ?_
        refine vP2 (μ := mX12_mayThere) (pc := 81) (c0 := 12) (q0 := (RX12, TX12, 34)) (μ2 := mX12_of) dX12_mayThere_81 rfl rfl lkX12_90 imX12_of seX12_X12_of_X12_of mwX12_of (Nat.le_of_ble_eq_true rfl) (e_of hM (h57.r1.trans hs) (by omega) (by decide)) ?_
        refine r_icmp_ne (μ := mX12_mayThere) (pc := 84) (tgt := 91) dX12_mayThere_84 (by decide) (fun h_84 => ?_) (fun h_84 => ?_)
        · have h84 : ¬ spt s i = fot s l := h_84
          refine r_iconst (μ := mX12_mayThere) (pc := 91) (v := 0) dX12_mayThere_91 ic_0 ?_
          refine r_isub (μ := mX12_mayThere) (pc := 92) dX12_mayThere_92 ?_
          refine r_if_le (μ := mX12_mayThere) (pc := 93) (tgt := 100) dX12_mayThere_93 (by decide) (fun h_93 => ?_) (fun h_93 => ?_)
          · have h93 : cntB (fun j => decide (spt s j = fot s l)) p ≤ (if spt s i = fot s l then 1 else 0) := by first | (rw [if_pos h84]; exact (cnt_le1 (cntB_le _ p) hp6).mp h_93) | (rw [if_neg h84]; exact (cnt_le0 (cntB_le _ p) hp6).mp h_93)
            refine r_iconst (μ := mX12_mayThere) (pc := 100) (v := 0) dX12_mayThere_100 ic_0 ?_
            exact r_iret (μ := mX12_mayThere) (pc := 101) dX12_mayThere_101 rfl rfl (PX_i ⟨by unfold thrS; first | (simp [h7, hy, h_60, b2i]; done) | (simp only [h7, hy, h_60, Bool.true_and]; first | (rw [decide_eq_false (by omega)]; rfl) | (rw [decide_eq_true (by omega)]; rfl)), h57⟩)
          · have h93 : ¬ cntB (fun j => decide (spt s j = fot s l)) p ≤ (if spt s i = fot s l then 1 else 0) := by first | (rw [if_pos h84]; exact fun q => h_93 ((cnt_le1 (cntB_le _ p) hp6).mpr q)) | (rw [if_neg h84]; exact fun q => h_93 ((cnt_le0 (cntB_le _ p) hp6).mpr q))
            refine r_iconst (μ := mX12_mayThere) (pc := 96) (v := 1) dX12_mayThere_96 ic_1 ?_
            refine r_goto (μ := mX12_mayThere) (pc := 97) (tgt := 101) dX12_mayThere_97 (by decide) ?_
            exact r_iret (μ := mX12_mayThere) (pc := 101) dX12_mayThere_101 rfl rfl (PX_i ⟨by unfold thrS; first | (simp [h7, hy, h_60, b2i]; done) | (simp only [h7, hy, h_60, Bool.true_and]; first | (rw [decide_eq_false (by omega)]; rfl) | (rw [decide_eq_true (by omega)]; rfl)), h57⟩)
        · have h84 : spt s i = fot s l := h_84
          refine r_iconst (μ := mX12_mayThere) (pc := 87) (v := 1) dX12_mayThere_87 ic_1 ?_
          refine r_goto (μ := mX12_mayThere) (pc := 88) (tgt := 92) dX12_mayThere_88 (by decide) ?_
          refine r_isub (μ := mX12_mayThere) (pc := 92) dX12_mayThere_92 ?_
          refine r_if_le (μ := mX12_mayThere) (pc := 93) (tgt := 100) dX12_mayThere_93 (by decide) (fun h_93 => ?_) (fun h_93 => ?_)
          · have h93 : cntB (fun j => decide (spt s j = fot s l)) p ≤ (if spt s i = fot s l then 1 else 0) := by first | (rw [if_pos h84]; exact (cnt_le1 (cntB_le _ p) hp6).mp h_93) | (rw [if_neg h84]; exact (cnt_le0 (cntB_le _ p) hp6).mp h_93)
            refine r_iconst (μ := mX12_mayThere) (pc := 100) (v := 0) dX12_mayThere_100 ic_0 ?_
            exact r_iret (μ := mX12_mayThere) (pc := 101) dX12_mayThere_101 rfl rfl (PX_i ⟨by unfold thrS; first | (simp [h7, hy, h_60, b2i]; done) | (simp only [h7, hy, h_60, Bool.true_and]; first | (rw [decide_eq_false (by omega)]; rfl) | (rw [decide_eq_true (by omega)]; rfl)), h57⟩)
          · have h93 : ¬ cntB (fun j => decide (spt s j = fot s l)) p ≤ (if spt s i = fot s l then 1 else 0) := by first | (rw [if_pos h84]; exact fun q => h_93 ((cnt_le1 (cntB_le _ p) hp6).mpr q)) | (rw [if_neg h84]; exact fun q => h_93 ((cnt_le0 (cntB_le _ p) hp6).mpr q))
            refine r_iconst (μ := mX12_mayThere) (pc := 96) (v := 1) dX12_mayThere_96 ic_1 ?_
            refine r_goto (μ := mX12_mayThere) (pc := 97) (tgt := 101) dX12_mayThere_97 (by decide) ?_
            exact r_iret (μ := mX12_mayThere) (pc := 101) dX12_mayThere_101 rfl rfl (PX_i ⟨by unfold thrS; first | (simp [h7, hy, h_60, b2i]; done) | (simp only [h7, hy, h_60, Bool.true_and]; first | (rw [decide_eq_false (by omega)]; rfl) | (rw [decide_eq_true (by omega)]; rfl)), h57⟩)
    · have hy : knd s l = 3 := hx
      rw [hx]
      refine r_tabIn (μ := mX12_mayThere) (pc := 18) (tgt := 52) dX12_mayThere_18 (by decide) (by decide) rfl (by decide) ?_
      refine r_iconst (μ := mX12_mayThere) (pc := 52) (v := 1) dX12_mayThere_52 ic_1 ?_
      exact r_iret (μ := mX12_mayThere) (pc := 53) dX12_mayThere_53 rfl rfl (PX_i ⟨by unfold thrS; simp [h7, hy, b2i], SB.rf mi⟩)
    · have hy : knd s l = 4 := hx
      rw [hx]
      refine r_tabIn (μ := mX12_mayThere) (pc := 18) (tgt := 54) dX12_mayThere_18 (by decide) (by decide) rfl (by decide) ?_
      refine r_aload_n (μ := mX12_mayThere) (pc := 54) dX12_mayThere_54 rfl rfl rfl ?_
      refine r_iload_n (μ := mX12_mayThere) (pc := 55) dX12_mayThere_55 rfl rfl ?_
      refine r_iload_n (μ := mX12_mayThere) (pc := 56) dX12_mayThere_56 rfl rfl ?_
      refine vX2 (μ := mX12_mayThere) (pc := 57) (c0 := 12) (q0 := (RX12, TX12, 34)) (μ2 := mX12_isStrong) dX12_mayThere_57 rfl rfl lkX12_159 imX12_isStrong seX12_X12_isStrong_X12_isStrong mwX12_isStrong (Nat.le_of_ble_eq_true rfl) (c_isStrong hM hs hI hi hl) (fun r_57 mi_57 h_57 => ?_)
      obtain ⟨rfl, h57⟩ := h_57
      refine r_if_eq (μ := mX12_mayThere) (pc := 60) (tgt := 100) dX12_mayThere_60 (by decide) (fun h_60 => ?_) (fun h_60 => ?_)
      · have h_60 := b2i_0 h_60
        refine r_iconst (μ := mX12_mayThere) (pc := 100) (v := 0) dX12_mayThere_100 ic_0 ?_
        exact r_iret (μ := mX12_mayThere) (pc := 101) dX12_mayThere_101 rfl rfl (PX_i ⟨by unfold thrS; first | (simp [h7, hy, h_60, b2i]; done) | (simp only [h7, hy, h_60, Bool.true_and]; first | (rw [decide_eq_false (by omega)]; rfl) | (rw [decide_eq_true (by omega)]; rfl)), h57⟩)
      · have h_60 := b2i_1 h_60
        refine r_aload_n (μ := mX12_mayThere) (pc := 63) dX12_mayThere_63 rfl rfl rfl ?_
        refine r_aload_n (μ := mX12_mayThere) (pc := 64) dX12_mayThere_64 rfl rfl rfl ?_
        refine r_iload_n (μ := mX12_mayThere) (pc := 65) dX12_mayThere_65 rfl rfl ?_
        refine r_iconst (μ := mX12_mayThere) (pc := 66) (v := 2) dX12_mayThere_66 ic_2 ?_
        refine vP2 (μ := mX12_mayThere) (pc := 67) (c0 := 12) (q0 := (RX12, TX12, 34)) (μ2 := mX12_of) dX12_mayThere_67 rfl rfl lkX12_90 imX12_of seX12_X12_of_X12_of mwX12_of (Nat.le_of_ble_eq_true rfl) (e_of hM (h57.r1.trans hs) (by omega) (by decide)) ?_
        refine vP1 (μ := mX12_mayThere) (pc := 70) (c0 := 12) (q0 := (RX12, TX12, 34)) (μ2 := mX12_peopleOn) dX12_mayThere_70 rfl rfl lkX12_94 imX12_peopleOn seX12_X12_peopleOn_X12_peopleOn mwX12_peopleOn (Nat.le_of_ble_eq_true rfl) (e_peopleOn hM (h57.r1.trans hs) hI) ?_
        refine r_aload_n (μ := mX12_mayThere) (pc := 73) dX12_mayThere_73 rfl rfl rfl ?_
        refine r_iload_n (μ := mX12_mayThere) (pc := 74) dX12_mayThere_74 rfl rfl ?_
        refine vP1 (μ := mX12_mayThere) (pc := 75) (c0 := 12) (q0 := (RX12, TX12, 34)) (μ2 := mX12_where) dX12_mayThere_75 rfl rfl lkX12_70 imX12_where seX12_X12_where_X12_where mwX12_where (Nat.le_of_ble_eq_true rfl) (e_where hM (h57.r1.trans hs) (by omega)) ?_
        refine r_aload_n (μ := mX12_mayThere) (pc := 78) dX12_mayThere_78 rfl rfl rfl ?_
        refine r_iload_n (μ := mX12_mayThere) (pc := 79) dX12_mayThere_79 rfl rfl ?_
        refine r_iconst (μ := mX12_mayThere) (pc := 80) (v := 2) dX12_mayThere_80 ic_2 ?_
        refine vP2 (μ := mX12_mayThere) (pc := 81) (c0 := 12) (q0 := (RX12, TX12, 34)) (μ2 := mX12_of) dX12_mayThere_81 rfl rfl lkX12_90 imX12_of seX12_X12_of_X12_of mwX12_of (Nat.le_of_ble_eq_true rfl) (e_of hM (h57.r1.trans hs) (by omega) (by decide)) ?_
        refine r_icmp_ne (μ := mX12_mayThere) (pc := 84) (tgt := 91) dX12_mayThere_84 (by decide) (fun h_84 => ?_) (fun h_84 => ?_)
        · have h84 : ¬ spt s i = fot s l := h_84
          refine r_iconst (μ := mX12_mayThere) (pc := 91) (v := 0) dX12_mayThere_91 ic_0 ?_
          refine r_isub (μ := mX12_mayThere) (pc := 92) dX12_mayThere_92 ?_
          refine r_if_le (μ := mX12_mayThere) (pc := 93) (tgt := 100) dX12_mayThere_93 (by decide) (fun h_93 => ?_) (fun h_93 => ?_)
          · have h93 : cntB (fun j => decide (spt s j = fot s l)) p ≤ (if spt s i = fot s l then 1 else 0) := by first | (rw [if_pos h84]; exact (cnt_le1 (cntB_le _ p) hp6).mp h_93) | (rw [if_neg h84]; exact (cnt_le0 (cntB_le _ p) hp6).mp h_93)
            refine r_iconst (μ := mX12_mayThere) (pc := 100) (v := 0) dX12_mayThere_100 ic_0 ?_
            exact r_iret (μ := mX12_mayThere) (pc := 101) dX12_mayThere_101 rfl rfl (PX_i ⟨by unfold thrS; first | (simp [h7, hy, h_60, b2i]; done) | (simp only [h7, hy, h_60, Bool.true_and]; first | (rw [decide_eq_false (by omega)]; rfl) | (rw [decide_eq_true (by omega)]; rfl)), h57⟩)
          · have h93 : ¬ cntB (fun j => decide (spt s j = fot s l)) p ≤ (if spt s i = fot s l then 1 else 0) := by first | (rw [if_pos h84]; exact fun q => h_93 ((cnt_le1 (cntB_le _ p) hp6).mpr q)) | (rw [if_neg h84]; exact fun q => h_93 ((cnt_le0 (cntB_le _ p) hp6).mpr q))
            refine r_iconst (μ := mX12_mayThere) (pc := 96) (v := 1) dX12_mayThere_96 ic_1 ?_
            refine r_goto (μ := mX12_mayThere) (pc := 97) (tgt := 101) dX12_mayThere_97 (by decide) ?_
            exact r_iret (μ := mX12_mayThere) (pc := 101) dX12_mayThere_101 rfl rfl (PX_i ⟨by unfold thrS; first | (simp [h7, hy, h_60, b2i]; done) | (simp only [h7, hy, h_60, Bool.true_and]; first | (rw [decide_eq_false (by omega)]; rfl) | (rw [decide_eq_true (by omega)]; rfl)), h57⟩)
        · have h84 : spt s i = fot s l := h_84
          refine r_iconst (μ := mX12_mayThere) (pc := 87) (v := 1) dX12_mayThere_87 ic_1 ?_
          refine r_goto (μ := mX12_mayThere) (pc := 88) (tgt := 92) dX12_mayThere_88 (by decide) ?_
          refine r_isub (μ := mX12_mayThere) (pc := 92) dX12_mayThere_92 ?_
          refine r_if_le (μ := mX12_mayThere) (pc := 93) (tgt := 100) dX12_mayThere_93 (by decide) (fun h_93 => ?_) (fun h_93 => ?_)
          · have h93 : cntB (fun j => decide (spt s j = fot s l)) p ≤ (if spt s i = fot s l then 1 else 0) := by first | (rw [if_pos h84]; exact (cnt_le1 (cntB_le _ p) hp6).mp h_93) | (rw [if_neg h84]; exact (cnt_le0 (cntB_le _ p) hp6).mp h_93)
            refine r_iconst (μ := mX12_mayThere) (pc := 100) (v := 0) dX12_mayThere_100 ic_0 ?_
            exact r_iret (μ := mX12_mayThere) (pc := 101) dX12_mayThere_101 rfl rfl (PX_i ⟨by unfold thrS; first | (simp [h7, hy, h_60, b2i]; done) | (simp only [h7, hy, h_60, Bool.true_and]; first | (rw [decide_eq_false (by omega)]; rfl) | (rw [decide_eq_true (by omega)]; rfl)), h57⟩)
          · have h93 : ¬ cntB (fun j => decide (spt s j = fot s l)) p ≤ (if spt s i = fot s l then 1 else 0) := by first | (rw [if_pos h84]; exact fun q => h_93 ((cnt_le1 (cntB_le _ p) hp6).mpr q)) | (rw [if_neg h84]; exact fun q => h_93 ((cnt_le0 (cntB_le _ p) hp6).mpr q))
            refine r_iconst (μ := mX12_mayThere) (pc := 96) (v := 1) dX12_mayThere_96 ic_1 ?_
            refine r_goto (μ := mX12_mayThere) (pc := 97) (tgt := 101) dX12_mayThere_97 (by decide) ?_
            exact r_iret (μ := mX12_mayThere) (pc := 101) dX12_mayThere_101 rfl rfl (PX_i ⟨by unfold thrS; first | (simp [h7, hy, h_60, b2i]; done) | (simp only [h7, hy, h_60, Bool.true_and]; first | (rw [decide_eq_false (by omega)]; rfl) | (rw [decide_eq_true (by omega)]; rfl)), h57⟩)
    · have hy : knd s l = 5 := hx
      rw [hx]
      refine r_tabIn (μ := mX12_mayThere) (pc := 18) (tgt := 52) dX12_mayThere_18 (by decide) (by decide) rfl (by decide) ?_
      refine r_iconst (μ := mX12_mayThere) (pc := 52) (v := 1) dX12_mayThere_52 ic_1 ?_
      exact r_iret (μ := mX12_mayThere) (pc := 53) dX12_mayThere_53 rfl rfl (PX_i ⟨by unfold thrS; simp [h7, hy, b2i], SB.rf mi⟩)
  · have h7 : mvd s l = 1 := h_7
    refine r_iconst (μ := mX12_mayThere) (pc := 10) (v := 0) dX12_mayThere_10 ic_0 ?_
    exact r_iret (μ := mX12_mayThere) (pc := 11) dX12_mayThere_11 rfl rfl (PX_i ⟨by unfold thrS; rw [if_pos h7]; rfl, SB.rf mi⟩)

