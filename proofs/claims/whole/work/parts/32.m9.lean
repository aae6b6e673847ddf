theorem c_isSheet {d : Nat} {sh : List Sh} {mi : MI} {mr : MR} {x : Int32} : CP (d + 1) mX12_isSheet [.int x] sh mi mr 0 0 (PI (b2i (inB x 0 3)) sh mi mr) := by
  refine CP.of (L := [_]) (by decide) rfl rfl (Nat.le_of_ble_eq_true rfl) ?_
  refine r_iload_n (μ := mX12_isSheet) (pc := 0) dX12_isSheet_0 rfl rfl ?_
  refine r_i2l (μ := mX12_isSheet) (pc := 1) dX12_isSheet_1 ?_
  refine r_lconst (μ := mX12_isSheet) (pc := 2) (v := 0) dX12_isSheet_2 lc_0 ?_
  refine r_ldc2 (μ := mX12_isSheet) (pc := 3) dX12_isSheet_3 clX12_88 ?_
  refine sP3 (μ := mX12_isSheet) (pc := 6) (μ2 := mX12_isIn) dX12_isSheet_6 lkX12_65 stX12_isIn mwX12_isIn (Nat.le_of_ble_eq_true rfl) (c_isInK il_0 il_3) ?_
  exact r_iret (μ := mX12_isSheet) (pc := 9) dX12_isSheet_9 rfl (nar_b2i _) (PI_i rfl)

theorem c_isSlot {d : Nat} {sh : List Sh} {mi : MI} {mr : MR} {x : Int32} : CP (d + 1) mX12_isSlot [.int x] sh mi mr 0 0 (PI (b2i (inB x 0 4)) sh mi mr) := by
  refine CP.of (L := [_]) (by decide) rfl rfl (Nat.le_of_ble_eq_true rfl) ?_
  refine r_iload_n (μ := mX12_isSlot) (pc := 0) dX12_isSlot_0 rfl rfl ?_
  refine r_i2l (μ := mX12_isSlot) (pc := 1) dX12_isSlot_1 ?_
  refine r_lconst (μ := mX12_isSlot) (pc := 2) (v := 0) dX12_isSlot_2 lc_0 ?_
  refine r_ldc2 (μ := mX12_isSlot) (pc := 3) dX12_isSlot_3 clX12_324 ?_
  refine sP3 (μ := mX12_isSlot) (pc := 6) (μ2 := mX12_isIn) dX12_isSlot_6 lkX12_65 stX12_isIn mwX12_isIn (Nat.le_of_ble_eq_true rfl) (c_isInK il_0 il_4) ?_
  exact r_iret (μ := mX12_isSlot) (pc := 9) dX12_isSlot_9 rfl (nar_b2i _) (PI_i rfl)

theorem lp_setAside {d : Nat} {mi : MI} {mr : MR} {Q : QT} {a b : Nat} (ha : shM[a]? = some (0, 3080)) (hb : shM[b]? = some (0, 3080)) (hab : a ≠ b) (hq : Q none shM (cp2 mi a b 2880) mr) :
    ∀ (k i : Nat), i + k = 2880 → WP d mX12_setAside 2 [.ref 0, .ref a, .ref b, .int (nI i)] [] shM (cp2 mi a b i) mr 0 0 Q := by
  intro k
  induction k with
  | zero =>
    intro i hk
    obtain rfl : i = 2880 := by omega
    refine r_iload_n (μ := mX12_setAside) (pc := 2) dX12_setAside_2 rfl rfl ?_
    refine r_sipush (μ := mX12_setAside) (pc := 3) (v := 2880) dX12_setAside_3 sp_2880 ?_
    refine r_icmp_ge (μ := mX12_setAside) (pc := 6) (tgt := 21) dX12_setAside_6 (by decide) (fun h_6 => ?_) (fun h_6 => absurd (nI_leC (a := 2880) rfl (by omega) (by omega)) h_6)
    exact r_vret (μ := mX12_setAside) (pc := 21) dX12_setAside_21 rfl hq
  | succ k ih =>
    intro i hk
    refine r_iload_n (μ := mX12_setAside) (pc := 2) dX12_setAside_2 rfl rfl ?_
    refine r_sipush (μ := mX12_setAside) (pc := 3) (v := 2880) dX12_setAside_3 sp_2880 ?_
    refine r_icmp_ge (μ := mX12_setAside) (pc := 6) (tgt := 21) dX12_setAside_6 (by decide) (fun h_6 => absurd h_6 (nI_geC (b := 2880) rfl (by omega) (by decide))) (fun h_6 => ?_)
    refine r_aload_n (μ := mX12_setAside) (pc := 9) dX12_setAside_9 rfl rfl rfl ?_
    refine r_iload_n (μ := mX12_setAside) (pc := 10) dX12_setAside_10 rfl rfl ?_
    refine r_aload_n (μ := mX12_setAside) (pc := 11) dX12_setAside_11 rfl rfl rfl ?_
    refine r_iload_n (μ := mX12_setAside) (pc := 12) dX12_setAside_12 rfl rfl ?_
    refine r_iaload (μ := mX12_setAside) (pc := 13) (j := i) dX12_setAside_13 ha rfl (by omega) (by decide) ?_
    rw [cp2_a hab]
    refine r_iastore (μ := mX12_setAside) (pc := 14) (j := i) dX12_setAside_14 hb rfl (by omega) (by decide) ?_
    refine s_iinc (μ := mX12_setAside) (pc := 15) (c := 1) (L2 := [_, _, _, _]) dX12_setAside_15 rfl ic_1 (Nat.le_of_ble_eq_true rfl) rfl rfl ?_
    refine r_goto (μ := mX12_setAside) (pc := 18) (tgt := 2) dX12_setAside_18 (by decide) ?_
    exact WP.LM (by rw [nI_succ]) (cp2_s mi i) (ih (i + 1) (by omega))

theorem c_setAside {d : Nat} {mi : MI} {mr : MR} {a b : Nat} (ha : shM[a]? = some (0, 3080)) (hb : shM[b]? = some (0, 3080)) (hab : a ≠ b) : CP (d) mX12_setAside [.ref 0, .ref a, .ref b] shM mi mr 0 0 (PV shM mr (fun mi2 => mi2 = cp2 mi a b 2880)) := by
  refine CP.of (L := [_, _, _, _]) (by decide) rfl rfl (Nat.le_of_ble_eq_true rfl) ?_
  refine r_iconst (μ := mX12_setAside) (pc := 0) (v := 0) dX12_setAside_0 ic_0 ?_
  refine s_istore_n (μ := mX12_setAside) (pc := 1) (L2 := [_, _, _, _]) dX12_setAside_1 rfl (Nat.le_of_ble_eq_true rfl) (Nat.le_of_ble_eq_true rfl) rfl rfl ?_
  have h0 := cp2_0 mi a b
  exact WP.LM rfl h0.symm (lp_setAside (mi := mi) (Q := PV shM mr (fun mi2 => mi2 = cp2 mi a b 2880)) ha hb hab (PV_i rfl) 2880 0 rfl)

theorem c_keep {d : Nat} {mi : MI} {mr : MR} (hM : MB mr) : CP (d + 1) mX12_keep [.ref 0] shM mi mr 0 0 (PX shM mr (fun r mi2 => r = mi 1 1 ∧ mi2 = cp2 (upI mi 0 3 1) 1 2 2880)) := by
  refine CP.of (L := [_]) (by decide) rfl rfl (Nat.le_of_ble_eq_true rfl) ?_
  refine r_aload_n (μ := mX12_keep) (pc := 0) dX12_keep_0 rfl rfl rfl ?_
  refine r_iconst (μ := mX12_keep) (pc := 1) (v := 1) dX12_keep_1 ic_1 ?_
  refine r_putZ (μ := mX12_keep) (pc := 2) dX12_keep_2 fwX12_332 rfl (by decide) rfl rfl rfl ?_
  refine r_aload_n (μ := mX12_keep) (pc := 5) dX12_keep_5 rfl rfl rfl ?_
  refine r_aload_n (μ := mX12_keep) (pc := 6) dX12_keep_6 rfl rfl rfl ?_
  refine r_getR (μ := mX12_keep) (pc := 7) dX12_keep_7 fpX12_7 rfl rfl (by decide) (hM _ _ rfl) ?_
  refine r_aload_n (μ := mX12_keep) (pc := 10) dX12_keep_10 rfl rfl rfl ?_
  refine r_getR (μ := mX12_keep) (pc := 11) dX12_keep_11 fpX12_13 rfl rfl (by decide) (hM _ _ rfl) ?_
  refine vV2 (μ := mX12_keep) (pc := 14) (c0 := 12) (q0 := (RX12, TX12, 34)) (μ2 := mX12_setAside) dX12_keep_14 rfl rfl lkX12_336 imX12_setAside seX12_X12_setAside_X12_setAside mwX12_setAside (Nat.le_of_ble_eq_true rfl) (c_setAside rfl rfl (by decide)) (fun mi_14 h_14 => ?_)
  subst h_14
  refine r_aload_n (μ := mX12_keep) (pc := 17) dX12_keep_17 rfl rfl rfl ?_
  refine r_getR (μ := mX12_keep) (pc := 18) dX12_keep_18 fpX12_7 rfl rfl (by decide) (hM _ _ rfl) ?_
  refine r_iconst (μ := mX12_keep) (pc := 21) (v := 1) dX12_keep_21 ic_1 ?_
  refine r_iaload (μ := mX12_keep) (pc := 22) (j := 1) dX12_keep_22 rfl rfl (by decide) (by decide) ?_
  exact r_iret (μ := mX12_keep) (pc := 23) dX12_keep_23 rfl rfl (PX_i ⟨by rw [cp2_a (by decide), upI_ne (by decide)], rfl⟩)

theorem c_back_no {d : Nat} {mi : MI} {mr : MR} (hM : MB mr) (hi : mi 0 3 = 0) : CP (d + 1) mX12_back [.ref 0] shM mi mr 0 0 (PI (NOc) shM mi mr) := by
  refine CP.of (L := [_]) (by decide) rfl rfl (Nat.le_of_ble_eq_true rfl) ?_
  refine r_aload_n (μ := mX12_back) (pc := 0) dX12_back_0 rfl rfl rfl ?_
  refine r_getI (μ := mX12_back) (pc := 1) dX12_back_1 fpX12_332 rfl rfl (by decide) ?_
  refine r_if_ne (μ := mX12_back) (pc := 4) (tgt := 10) dX12_back_4 (by decide) (fun h_4 => absurd hi h_4) (fun h_4 => ?_)
  refine r_ldc (μ := mX12_back) (pc := 7) dX12_back_7 ctX12_168 ?_
  exact r_iret (μ := mX12_back) (pc := 9) dX12_back_9 rfl rfl (PI_i rfl)

theorem c_back {d : Nat} {mi : MI} {mr : MR} (hM : MB mr) (hi : ¬ mi 0 3 = 0) : CP (d + 1) mX12_back [.ref 0] shM mi mr 0 0 (PX shM mr (fun r mi2 => r = mi 2 1 ∧ mi2 = cp2 mi 2 1 2880)) := by
  refine CP.of (L := [_]) (by decide) rfl rfl (Nat.le_of_ble_eq_true rfl) ?_
  refine r_aload_n (μ := mX12_back) (pc := 0) dX12_back_0 rfl rfl rfl ?_
  refine r_getI (μ := mX12_back) (pc := 1) dX12_back_1 fpX12_332 rfl rfl (by decide) ?_
  refine r_if_ne (μ := mX12_back) (pc := 4) (tgt := 10) dX12_back_4 (by decide) (fun h_4 => ?_) (fun h_4 => absurd h_4 hi)
  refine r_aload_n (μ := mX12_back) (pc := 10) dX12_back_10 rfl rfl rfl ?_
  refine r_aload_n (μ := mX12_back) (pc := 11) dX12_back_11 rfl rfl rfl ?_
  refine r_getR (μ := mX12_back) (pc := 12) dX12_back_12 fpX12_13 rfl rfl (by decide) (hM _ _ rfl) ?_
  refine r_aload_n (μ := mX12_back) (pc := 15) dX12_back_15 rfl rfl rfl ?_
  refine r_getR (μ := mX12_back) (pc := 16) dX12_back_16 fpX12_7 rfl rfl (by decide) (hM _ _ rfl) ?_
  refine vV2 (μ := mX12_back) (pc := 19) (c0 := 12) (q0 := (RX12, TX12, 34)) (μ2 := mX12_setAside) dX12_back_19 rfl rfl lkX12_336 imX12_setAside seX12_X12_setAside_X12_setAside mwX12_setAside (Nat.le_of_ble_eq_true rfl) (c_setAside rfl rfl (by decide)) (fun mi_19 h_19 => ?_)
  subst h_19
  refine r_aload_n (μ := mX12_back) (pc := 22) dX12_back_22 rfl rfl rfl ?_
  refine r_getR (μ := mX12_back) (pc := 23) dX12_back_23 fpX12_7 rfl rfl (by decide) (hM _ _ rfl) ?_
  refine r_iconst (μ := mX12_back) (pc := 26) (v := 1) dX12_back_26 ic_1 ?_
  refine r_iaload (μ := mX12_back) (pc := 27) (j := 1) dX12_back_27 rfl rfl (by decide) (by decide) ?_
  exact r_iret (μ := mX12_back) (pc := 28) dX12_back_28 rfl rfl (PX_i ⟨rfl, rfl⟩)

theorem c_tell_full {d : Nat} {mi : MI} {mr : MR} (hM : MB mr) {v : Int32} (hw : mi 0 32 = 60) : CP (d) mX12_tell [.ref 0, .int v] shM mi mr 0 0 (PI (FULLc) shM mi mr) := by
  refine CP.of (L := [_, _]) (by decide) rfl rfl (Nat.le_of_ble_eq_true rfl) ?_
  refine r_aload_n (μ := mX12_tell) (pc := 0) dX12_tell_0 rfl rfl rfl ?_
  refine r_getI (μ := mX12_tell) (pc := 1) dX12_tell_1 fpX12_329 rfl rfl (by decide) ?_
  refine r_bipush (μ := mX12_tell) (pc := 4) (v := 60) dX12_tell_4 bp_60 ?_
  refine r_icmp_ne (μ := mX12_tell) (pc := 6) (tgt := 12) dX12_tell_6 (by decide) (fun h_6 => absurd hw h_6) (fun h_6 => ?_)
  refine r_ldc (μ := mX12_tell) (pc := 9) dX12_tell_9 ctX12_79 ?_
  exact r_iret (μ := mX12_tell) (pc := 11) dX12_tell_11 rfl rfl (PI_i rfl)

theorem c_tell {d : Nat} {mi : MI} {mr : MR} (hM : MB mr) {v : Int32} {w : Nat} (hw : mi 0 32 = nI w) (hw60 : w < 60) : CP (d) mX12_tell [.ref 0, .int v] shM mi mr 0 0 (PX shM mr (fun r mi2 => r = nI (w + 1) ∧ mi2 = upI (upI mi 17 w v) 0 32 (nI (w + 1)))) := by
  refine CP.of (L := [_, _]) (by decide) rfl rfl (Nat.le_of_ble_eq_true rfl) ?_
  refine r_aload_n (μ := mX12_tell) (pc := 0) dX12_tell_0 rfl rfl rfl ?_
  refine r_getI (μ := mX12_tell) (pc := 1) dX12_tell_1 fpX12_329 rfl rfl (by decide) ?_
  refine r_bipush (μ := mX12_tell) (pc := 4) (v := 60) dX12_tell_4 bp_60 ?_
  refine r_icmp_ne (μ := mX12_tell) (pc := 6) (tgt := 12) dX12_tell_6 (by decide) (fun h_6 => ?_) (fun h_6 => absurd h_6 (by rw [hw]; exact nI_neC (b := 60) rfl (by omega) (by omega) (by decide)))
  refine r_aload_n (μ := mX12_tell) (pc := 12) dX12_tell_12 rfl rfl rfl ?_
  refine r_getR (μ := mX12_tell) (pc := 13) dX12_tell_13 fpX12_58 rfl rfl (by decide) (hM _ _ rfl) ?_
  refine r_aload_n (μ := mX12_tell) (pc := 16) dX12_tell_16 rfl rfl rfl ?_
  refine r_getI (μ := mX12_tell) (pc := 17) dX12_tell_17 fpX12_329 rfl rfl (by decide) ?_
  rw [hw]
  refine r_iload_n (μ := mX12_tell) (pc := 20) dX12_tell_20 rfl rfl ?_
  refine r_iastore (μ := mX12_tell) (pc := 21) (j := w) dX12_tell_21 rfl rfl (by omega) (by decide) ?_
  refine r_aload_n (μ := mX12_tell) (pc := 22) dX12_tell_22 rfl rfl rfl ?_
  refine r_dup (μ := mX12_tell) (pc := 23) dX12_tell_23 rfl ?_
  refine r_getI (μ := mX12_tell) (pc := 24) dX12_tell_24 fpX12_329 rfl rfl (by decide) ?_
  rw [upI_ne (by decide), hw]
  refine r_iconst (μ := mX12_tell) (pc := 27) (v := 1) dX12_tell_27 ic_1 ?_
  refine r_iadd (μ := mX12_tell) (pc := 28) dX12_tell_28 ?_
  refine r_putI (μ := mX12_tell) (pc := 29) dX12_tell_29 fwX12_329 rfl (by decide) rfl ?_
  refine r_aload_n (μ := mX12_tell) (pc := 32) dX12_tell_32 rfl rfl rfl ?_
  refine r_getI (μ := mX12_tell) (pc := 33) dX12_tell_33 fpX12_329 rfl rfl (by decide) ?_
  exact r_iret (μ := mX12_tell) (pc := 36) dX12_tell_36 rfl rfl (PX_i ⟨by rw [up_eq, nI_succ], by rw [nI_succ]⟩)

theorem c_sheet_bad {d : Nat} {mi : MI} {mr : MR} (hM : MB mr) {x w v : Int32} (hb : ¬ (inB x 0 3 = true ∧ inB w (-1) 1 = true ∧ (w < 0 ∨ v ≤ 24))) : CP (d + 2) mX12_sheet [.ref 0, .int x, .int w, .int v] shM mi mr 0 0 (PI (BADc) shM mi mr) := by
  refine CP.of (L := [_, _, _, _, _]) (by decide) rfl rfl (Nat.le_of_ble_eq_true rfl) ?_
  refine r_iload_n (μ := mX12_sheet) (pc := 0) dX12_sheet_0 rfl rfl ?_
  refine sP1 (μ := mX12_sheet) (pc := 1) (μ2 := mX12_isSheet) dX12_sheet_1 lkX12_312 stX12_isSheet mwX12_isSheet (Nat.le_of_ble_eq_true rfl) c_isSheet ?_
  refine r_if_eq (μ := mX12_sheet) (pc := 4) (tgt := 29) dX12_sheet_4 (by decide) (fun h_4 => ?_) (fun h_4 => ?_)
  · have h_4 := b2i_0 h_4
    refine r_ldc (μ := mX12_sheet) (pc := 29) dX12_sheet_29 ctX12_78 ?_
    exact r_iret (μ := mX12_sheet) (pc := 31) dX12_sheet_31 rfl rfl (PI_i rfl)
  · have h_4 := b2i_1 h_4
    refine r_iload_n (μ := mX12_sheet) (pc := 7) dX12_sheet_7 rfl rfl ?_
    refine r_i2l (μ := mX12_sheet) (pc := 8) dX12_sheet_8 ?_
    refine r_ldc2 (μ := mX12_sheet) (pc := 9) dX12_sheet_9 clX12_315 ?_
    refine r_lconst (μ := mX12_sheet) (pc := 12) (v := 1) dX12_sheet_12 lc_1 ?_
    refine sP3 (μ := mX12_sheet) (pc := 13) (μ2 := mX12_isIn) dX12_sheet_13 lkX12_65 stX12_isIn mwX12_isIn (Nat.le_of_ble_eq_true rfl) (c_isInK il_m1 il_1) ?_
    refine r_if_eq (μ := mX12_sheet) (pc := 16) (tgt := 29) dX12_sheet_16 (by decide) (fun h_16 => ?_) (fun h_16 => ?_)
    · have h_16 := b2i_0 h_16
      refine r_ldc (μ := mX12_sheet) (pc := 29) dX12_sheet_29 ctX12_78 ?_
      exact r_iret (μ := mX12_sheet) (pc := 31) dX12_sheet_31 rfl rfl (PI_i rfl)
    · have h_16 := b2i_1 h_16
      refine r_iload_n (μ := mX12_sheet) (pc := 19) dX12_sheet_19 rfl rfl ?_
      refine r_if_lt (μ := mX12_sheet) (pc := 20) (tgt := 32) dX12_sheet_20 (by decide) (fun h_20 => ?_) (fun h_20 => ?_)
      · exact absurd ⟨h_4, h_16, Or.inl h_20⟩ hb
      · refine r_iload_n (μ := mX12_sheet) (pc := 23) dX12_sheet_23 rfl rfl ?_
        refine r_bipush (μ := mX12_sheet) (pc := 24) (v := 24) dX12_sheet_24 bp_24 ?_
        refine r_icmp_le (μ := mX12_sheet) (pc := 26) (tgt := 32) dX12_sheet_26 (by decide) (fun h_26 => ?_) (fun h_26 => ?_)
        · exact absurd ⟨h_4, h_16, Or.inr h_26⟩ hb
        · refine r_ldc (μ := mX12_sheet) (pc := 29) dX12_sheet_29 ctX12_78 ?_
          exact r_iret (μ := mX12_sheet) (pc := 31) dX12_sheet_31 rfl rfl (PI_i rfl)

theorem c_sheet_size {d : Nat} {mi : MI} {mr : MR} (hM : MB mr) {x w v : Int32} (h1 : inB x 0 3 = true) (h2 : inB w (-1) 1 = true) (h3 : ¬ w < 0) (h4 : v < 0) : CP (d + 2) mX12_sheet [.ref 0, .int x, .int w, .int v] shM mi mr 0 0 (PI (SIZEc) shM mi mr) := by
  refine CP.of (L := [_, _, _, _, _]) (by decide) rfl rfl (Nat.le_of_ble_eq_true rfl) ?_
  refine r_iload_n (μ := mX12_sheet) (pc := 0) dX12_sheet_0 rfl rfl ?_
  refine sP1 (μ := mX12_sheet) (pc := 1) (μ2 := mX12_isSheet) dX12_sheet_1 lkX12_312 stX12_isSheet mwX12_isSheet (Nat.le_of_ble_eq_true rfl) c_isSheet ?_
  refine r_if_eq (μ := mX12_sheet) (pc := 4) (tgt := 29) dX12_sheet_4 (by decide) (fun h_4 => absurd h_4 (b2i_ne h1)) (fun h_4 => ?_)
  refine r_iload_n (μ := mX12_sheet) (pc := 7) dX12_sheet_7 rfl rfl ?_
  refine r_i2l (μ := mX12_sheet) (pc := 8) dX12_sheet_8 ?_
  refine r_ldc2 (μ := mX12_sheet) (pc := 9) dX12_sheet_9 clX12_315 ?_
  refine r_lconst (μ := mX12_sheet) (pc := 12) (v := 1) dX12_sheet_12 lc_1 ?_
  refine sP3 (μ := mX12_sheet) (pc := 13) (μ2 := mX12_isIn) dX12_sheet_13 lkX12_65 stX12_isIn mwX12_isIn (Nat.le_of_ble_eq_true rfl) (c_isInK il_m1 il_1) ?_
  refine r_if_eq (μ := mX12_sheet) (pc := 16) (tgt := 29) dX12_sheet_16 (by decide) (fun h_16 => absurd h_16 (b2i_ne h2)) (fun h_16 => ?_)
  refine r_iload_n (μ := mX12_sheet) (pc := 19) dX12_sheet_19 rfl rfl ?_
  refine r_if_lt (μ := mX12_sheet) (pc := 20) (tgt := 32) dX12_sheet_20 (by decide) (fun h_20 => absurd h_20 h3) (fun h_20 => ?_)
  refine r_iload_n (μ := mX12_sheet) (pc := 23) dX12_sheet_23 rfl rfl ?_
  refine r_bipush (μ := mX12_sheet) (pc := 24) (v := 24) dX12_sheet_24 bp_24 ?_
  refine r_icmp_le (μ := mX12_sheet) (pc := 26) (tgt := 32) dX12_sheet_26 (by decide) (fun h_26 => ?_) (fun h_26 => absurd (by rw [Int32.lt_iff_toInt_lt] at h4; rw [Int32.le_iff_toInt_le]; have e0 : (0 : Int32).toInt = 0 := rfl; have e1 : (24 : Int32).toInt = 24 := rfl; omega) h_26)
  refine r_iload_n (μ := mX12_sheet) (pc := 32) dX12_sheet_32 rfl rfl ?_
  refine r_if_lt (μ := mX12_sheet) (pc := 33) (tgt := 44) dX12_sheet_33 (by decide) (fun h_33 => absurd h_33 h3) (fun h_33 => ?_)
  refine r_iload_n (μ := mX12_sheet) (pc := 36) dX12_sheet_36 rfl rfl ?_
  refine r_if_ge (μ := mX12_sheet) (pc := 37) (tgt := 44) dX12_sheet_37 (by decide) (fun h_37 => absurd h_37 (Int32.not_le.mpr h4)) (fun h_37 => ?_)
  refine r_ldcw (μ := mX12_sheet) (pc := 40) dX12_sheet_40 ctX12_317 ?_
  exact r_iret (μ := mX12_sheet) (pc := 43) dX12_sheet_43 rfl rfl (PI_i rfl)

theorem lp_sheet {d : Nat} {mi : MI} {mr : MR} {Q : QT} (hM : MB mr) {k : Nat} (hk : k < 4) {w v : Int32} (hq : Q (some (.int (mi 5 k))) shM (zr24 mi k 24) mr) :
    ∀ (j i : Nat), i + j = 24 → WP d mX12_sheet 69 [.ref 0, .int (nI k), .int w, .int v, .int (nI i)] [] shM (zr24 mi k i) mr 0 0 Q := by
  intro j
  induction j with
  | zero =>
    intro i hj
    obtain rfl : i = 24 := by omega
    refine r_iload (μ := mX12_sheet) (pc := 69) dX12_sheet_69 rfl ?_
    refine r_bipush (μ := mX12_sheet) (pc := 71) (v := 24) dX12_sheet_71 bp_24 ?_
    refine r_icmp_ge (μ := mX12_sheet) (pc := 73) (tgt := 95) dX12_sheet_73 (by decide) (fun h_73 => ?_) (fun h_73 => absurd (nI_leC (a := 24) rfl (by omega) (by omega)) h_73)
    refine r_aload_n (μ := mX12_sheet) (pc := 95) dX12_sheet_95 rfl rfl rfl ?_
    refine r_getR (μ := mX12_sheet) (pc := 96) dX12_sheet_96 fpX12_22 rfl rfl (by decide) (hM _ _ rfl) ?_
    refine r_iload_n (μ := mX12_sheet) (pc := 99) dX12_sheet_99 rfl rfl ?_
    refine r_iaload (μ := mX12_sheet) (pc := 100) (j := k) dX12_sheet_100 rfl rfl (by omega) (by decide) ?_
    rw [zr24_o (by decide)]
    exact r_iret (μ := mX12_sheet) (pc := 101) dX12_sheet_101 rfl rfl hq
  | succ j ih =>
    intro i hj
    refine r_iload (μ := mX12_sheet) (pc := 69) dX12_sheet_69 rfl ?_
    refine r_bipush (μ := mX12_sheet) (pc := 71) (v := 24) dX12_sheet_71 bp_24 ?_
    refine r_icmp_ge (μ := mX12_sheet) (pc := 73) (tgt := 95) dX12_sheet_73 (by decide) (fun h_73 => absurd h_73 (nI_geC (b := 24) rfl (by omega) (by decide))) (fun h_73 => ?_)
    refine r_aload_n (μ := mX12_sheet) (pc := 76) dX12_sheet_76 rfl rfl rfl ?_
    refine r_getR (μ := mX12_sheet) (pc := 77) dX12_sheet_77 fpX12_25 rfl rfl (by decide) (hM _ _ rfl) ?_
    refine r_bipush (μ := mX12_sheet) (pc := 80) (v := 24) dX12_sheet_80 bp_24 ?_
    refine r_iload_n (μ := mX12_sheet) (pc := 82) dX12_sheet_82 rfl rfl ?_
    refine r_imul (μ := mX12_sheet) (pc := 83) dX12_sheet_83 ?_
    refine r_iload (μ := mX12_sheet) (pc := 84) dX12_sheet_84 rfl ?_
    refine r_iadd (μ := mX12_sheet) (pc := 86) dX12_sheet_86 ?_
    refine r_iconst (μ := mX12_sheet) (pc := 87) (v := 0) dX12_sheet_87 ic_0 ?_
    refine r_iastore (μ := mX12_sheet) (pc := 88) (j := ((24 * k) + i)) dX12_sheet_88 rfl (by simp only [← nI_add, ← pk_mul] <;> rfl) (by omega) (by decide) ?_
    refine s_iinc (μ := mX12_sheet) (pc := 89) (c := 1) (L2 := [_, _, _, _, _]) dX12_sheet_89 rfl ic_1 (Nat.le_of_ble_eq_true rfl) rfl rfl ?_
    refine r_goto (μ := mX12_sheet) (pc := 92) (tgt := 69) dX12_sheet_92 (by decide) ?_
    exact WP.L (by rw [nI_succ]) (ih (i + 1) (by omega))

theorem c_sheet_miss {d : Nat} {mi : MI} {mr : MR} (hM : MB mr) {k : Nat} (hk : k < 4) {v : Int32} : CP (d + 2) mX12_sheet [.ref 0, .int (nI k), .int (-1), .int v] shM mi mr 0 0 (PX shM mr (fun r mi2 => r = 0 ∧ mi2 = zr24 (upI (upI mi 4 k (-1)) 5 k 0) k 24)) := by
  refine CP.of (L := [_, _, _, _, _]) (by decide) rfl rfl (Nat.le_of_ble_eq_true rfl) ?_
  refine r_iload_n (μ := mX12_sheet) (pc := 0) dX12_sheet_0 rfl rfl ?_
  refine sP1 (μ := mX12_sheet) (pc := 1) (μ2 := mX12_isSheet) dX12_sheet_1 lkX12_312 stX12_isSheet mwX12_isSheet (Nat.le_of_ble_eq_true rfl) c_isSheet ?_
  refine r_if_eq (μ := mX12_sheet) (pc := 4) (tgt := 29) dX12_sheet_4 (by decide) (fun h_4 => absurd h_4 (b2i_ne (inB_nI (by omega) (by omega)))) (fun h_4 => ?_)
  refine r_iload_n (μ := mX12_sheet) (pc := 7) dX12_sheet_7 rfl rfl ?_
  refine r_i2l (μ := mX12_sheet) (pc := 8) dX12_sheet_8 ?_
  refine r_ldc2 (μ := mX12_sheet) (pc := 9) dX12_sheet_9 clX12_315 ?_
  refine r_lconst (μ := mX12_sheet) (pc := 12) (v := 1) dX12_sheet_12 lc_1 ?_
  refine sP3 (μ := mX12_sheet) (pc := 13) (μ2 := mX12_isIn) dX12_sheet_13 lkX12_65 stX12_isIn mwX12_isIn (Nat.le_of_ble_eq_true rfl) (c_isInK il_m1 il_1) ?_
  refine r_if_eq (μ := mX12_sheet) (pc := 16) (tgt := 29) dX12_sheet_16 (by decide) (fun h_16 => absurd h_16 (b2i_ne (by decide))) (fun h_16 => ?_)
  refine r_iload_n (μ := mX12_sheet) (pc := 19) dX12_sheet_19 rfl rfl ?_
  refine r_if_lt (μ := mX12_sheet) (pc := 20) (tgt := 32) dX12_sheet_20 (by decide) (fun h_20 => ?_) (fun h_20 => absurd (by decide) h_20)
  refine r_iload_n (μ := mX12_sheet) (pc := 32) dX12_sheet_32 rfl rfl ?_
  refine r_if_lt (μ := mX12_sheet) (pc := 33) (tgt := 44) dX12_sheet_33 (by decide) (fun h_33 => ?_) (fun h_33 => absurd (by decide) h_33)
  refine r_aload_n (μ := mX12_sheet) (pc := 44) dX12_sheet_44 rfl rfl rfl ?_
  refine r_getR (μ := mX12_sheet) (pc := 45) dX12_sheet_45 fpX12_19 rfl rfl (by decide) (hM _ _ rfl) ?_
  refine r_iload_n (μ := mX12_sheet) (pc := 48) dX12_sheet_48 rfl rfl ?_
  refine r_iload_n (μ := mX12_sheet) (pc := 49) dX12_sheet_49 rfl rfl ?_
  refine r_iastore (μ := mX12_sheet) (pc := 50) (j := k) dX12_sheet_50 rfl rfl (by omega) (by decide) ?_
  refine r_aload_n (μ := mX12_sheet) (pc := 51) dX12_sheet_51 rfl rfl rfl ?_
  refine r_getR (μ := mX12_sheet) (pc := 52) dX12_sheet_52 fpX12_22 rfl rfl (by decide) (hM _ _ rfl) ?_
  refine r_iload_n (μ := mX12_sheet) (pc := 55) dX12_sheet_55 rfl rfl ?_
  refine r_iload_n (μ := mX12_sheet) (pc := 56) dX12_sheet_56 rfl rfl ?_
  refine r_if_ge (μ := mX12_sheet) (pc := 57) (tgt := 64) dX12_sheet_57 (by decide) (fun h_57 => absurd h_57 (by decide)) (fun h_57 => ?_)
  refine r_iconst (μ := mX12_sheet) (pc := 60) (v := 0) dX12_sheet_60 ic_0 ?_
  refine r_goto (μ := mX12_sheet) (pc := 61) (tgt := 65) dX12_sheet_61 (by decide) ?_
  refine r_iastore (μ := mX12_sheet) (pc := 65) (j := k) dX12_sheet_65 rfl rfl (by omega) (by decide) ?_
  refine r_iconst (μ := mX12_sheet) (pc := 66) (v := 0) dX12_sheet_66 ic_0 ?_
  refine s_istore (μ := mX12_sheet) (pc := 67) (L2 := [_, _, _, _, _]) dX12_sheet_67 (Nat.le_of_ble_eq_true rfl) (Nat.le_of_ble_eq_true rfl) rfl rfl ?_
  exact lp_sheet hM hk (PX_i ⟨up_eq, rfl⟩) 24 0 rfl

theorem nI_leK {a b : Nat} {y : Int32} (hy : y = nI b) (h : a ≤ b) (hb : b < 2147483648) : nI a ≤ y := hy ▸ nI_le h hb
theorem e_isInZ {d : Nat} {sh : List Sh} {mi : MI} {mr : MR} {x y : Int32} {z : Nat} (h : y = nI z) (hz : z < 1000) : CP d mX12_isIn [.long x.toInt64, .long 0, .long (y - 1).toInt64] sh mi mr 0 0 (PI (b2i (inR x z)) sh mi mr) := isIn_0 (x := x) h hz ▸ c_isIn

theorem c_sheet {d : Nat} {mi : MI} {mr : MR} (hM : MB mr) {k z : Nat} (hk : k < 4) (hz : z ≤ 24) {w : Int32} (h2 : inB w (-1) 1 = true) (h3 : ¬ w < 0) : CP (d + 2) mX12_sheet [.ref 0, .int (nI k), .int w, .int (nI z)] shM mi mr 0 0 (PX shM mr (fun r mi2 => r = nI z ∧ mi2 = zr24 (upI (upI mi 4 k w) 5 k (nI z)) k 24)) := by
  refine CP.of (L := [_, _, _, _, _]) (by decide) rfl rfl (Nat.le_of_ble_eq_true rfl) ?_
  refine r_iload_n (μ := mX12_sheet) (pc := 0) dX12_sheet_0 rfl rfl ?_
  refine sP1 (μ := mX12_sheet) (pc := 1) (μ2 := mX12_isSheet) dX12_sheet_1 lkX12_312 stX12_isSheet mwX12_isSheet (Nat.le_of_ble_eq_true rfl) c_isSheet ?_
  refine r_if_eq (μ := mX12_sheet) (pc := 4) (tgt := 29) dX12_sheet_4 (by decide) (fun h_4 => absurd h_4 (b2i_ne (inB_nI (by omega) (by omega)))) (fun h_4 => ?_)
  refine r_iload_n (μ := mX12_sheet) (pc := 7) dX12_sheet_7 rfl rfl ?_
  refine r_i2l (μ := mX12_sheet) (pc := 8) dX12_sheet_8 ?_
  refine r_ldc2 (μ := mX12_sheet) (pc := 9) dX12_sheet_9 clX12_315 ?_
  refine r_lconst (μ := mX12_sheet) (pc := 12) (v := 1) dX12_sheet_12 lc_1 ?_
  refine sP3 (μ := mX12_sheet) (pc := 13) (μ2 := mX12_isIn) dX12_sheet_13 lkX12_65 stX12_isIn mwX12_isIn (Nat.le_of_ble_eq_true rfl) (c_isInK il_m1 il_1) ?_
  refine r_if_eq (μ := mX12_sheet) (pc := 16) (tgt := 29) dX12_sheet_16 (by decide) (fun h_16 => absurd h_16 (b2i_ne h2)) (fun h_16 => ?_)
  refine r_iload_n (μ := mX12_sheet) (pc := 19) dX12_sheet_19 rfl rfl ?_
  refine r_if_lt (μ := mX12_sheet) (pc := 20) (tgt := 32) dX12_sheet_20 (by decide) (fun h_20 => absurd h_20 h3) (fun h_20 => ?_)
  refine r_iload_n (μ := mX12_sheet) (pc := 23) dX12_sheet_23 rfl rfl ?_
  refine r_bipush (μ := mX12_sheet) (pc := 24) (v := 24) dX12_sheet_24 bp_24 ?_
  refine r_icmp_le (μ := mX12_sheet) (pc := 26) (tgt := 32) dX12_sheet_26 (by decide) (fun h_26 => ?_) (fun h_26 => absurd (nI_leK (b := 24) rfl (by omega) (by omega)) h_26)
  refine r_iload_n (μ := mX12_sheet) (pc := 32) dX12_sheet_32 rfl rfl ?_
  refine r_if_lt (μ := mX12_sheet) (pc := 33) (tgt := 44) dX12_sheet_33 (by decide) (fun h_33 => absurd h_33 h3) (fun h_33 => ?_)
  refine r_iload_n (μ := mX12_sheet) (pc := 36) dX12_sheet_36 rfl rfl ?_
  refine r_if_ge (μ := mX12_sheet) (pc := 37) (tgt := 44) dX12_sheet_37 (by decide) (fun h_37 => ?_) (fun h_37 => absurd (nI_pos' (by omega)) h_37)
  refine r_aload_n (μ := mX12_sheet) (pc := 44) dX12_sheet_44 rfl rfl rfl ?_
  refine r_getR (μ := mX12_sheet) (pc := 45) dX12_sheet_45 fpX12_19 rfl rfl (by decide) (hM _ _ rfl) ?_
  refine r_iload_n (μ := mX12_sheet) (pc := 48) dX12_sheet_48 rfl rfl ?_
  refine r_iload_n (μ := mX12_sheet) (pc := 49) dX12_sheet_49 rfl rfl ?_
  refine r_iastore (μ := mX12_sheet) (pc := 50) (j := k) dX12_sheet_50 rfl rfl (by omega) (by decide) ?_
  refine r_aload_n (μ := mX12_sheet) (pc := 51) dX12_sheet_51 rfl rfl rfl ?_
  refine r_getR (μ := mX12_sheet) (pc := 52) dX12_sheet_52 fpX12_22 rfl rfl (by decide) (hM _ _ rfl) ?_
  refine r_iload_n (μ := mX12_sheet) (pc := 55) dX12_sheet_55 rfl rfl ?_
  refine r_iload_n (μ := mX12_sheet) (pc := 56) dX12_sheet_56 rfl rfl ?_
  refine r_if_ge (μ := mX12_sheet) (pc := 57) (tgt := 64) dX12_sheet_57 (by decide) (fun h_57 => ?_) (fun h_57 => absurd (Int32.not_lt.mp h3) h_57)
  refine r_iload_n (μ := mX12_sheet) (pc := 64) dX12_sheet_64 rfl rfl ?_
  refine r_iastore (μ := mX12_sheet) (pc := 65) (j := k) dX12_sheet_65 rfl rfl (by omega) (by decide) ?_
  refine r_iconst (μ := mX12_sheet) (pc := 66) (v := 0) dX12_sheet_66 ic_0 ?_
  refine s_istore (μ := mX12_sheet) (pc := 67) (L2 := [_, _, _, _, _]) dX12_sheet_67 (Nat.le_of_ble_eq_true rfl) (Nat.le_of_ble_eq_true rfl) rfl rfl ?_
  exact lp_sheet hM hk (PX_i ⟨up_eq, rfl⟩) 24 0 rfl

theorem c_mark_bad {d : Nat} {mi : MI} {mr : MR} (hM : MB mr) {x y v : Int32} (hb : ¬ inB x 0 3 = true) : CP (d + 2) mX12_mark [.ref 0, .int x, .int y, .int v] shM mi mr 0 0 (PI (BADc) shM mi mr) := by
  refine CP.of (L := [_, _, _, _]) (by decide) rfl rfl (Nat.le_of_ble_eq_true rfl) ?_
  refine r_iload_n (μ := mX12_mark) (pc := 0) dX12_mark_0 rfl rfl ?_
  refine sP1 (μ := mX12_mark) (pc := 1) (μ2 := mX12_isSheet) dX12_mark_1 lkX12_312 stX12_isSheet mwX12_isSheet (Nat.le_of_ble_eq_true rfl) c_isSheet ?_
  refine r_if_ne (μ := mX12_mark) (pc := 4) (tgt := 10) dX12_mark_4 (by decide) (fun h_4 => ?_) (fun h_4 => ?_)
  · have h_4 := b2i_1 h_4
    exact absurd h_4 hb
  · have h_4 := b2i_0 h_4
    refine r_ldc (μ := mX12_mark) (pc := 7) dX12_mark_7 ctX12_78 ?_
    exact r_iret (μ := mX12_mark) (pc := 9) dX12_mark_9 rfl rfl (PI_i rfl)

theorem c_mark_none {d : Nat} {mi : MI} {mr : MR} (hM : MB mr) {k : Nat} (hk : k < 4) {x v : Int32} (hs : mi 4 k < 0) : CP (d + 2) mX12_mark [.ref 0, .int (nI k), .int x, .int v] shM mi mr 0 0 (PI (NOTHINGc) shM mi mr) := by
  refine CP.of (L := [_, _, _, _]) (by decide) rfl rfl (Nat.le_of_ble_eq_true rfl) ?_
  refine r_iload_n (μ := mX12_mark) (pc := 0) dX12_mark_0 rfl rfl ?_
  refine sP1 (μ := mX12_mark) (pc := 1) (μ2 := mX12_isSheet) dX12_mark_1 lkX12_312 stX12_isSheet mwX12_isSheet (Nat.le_of_ble_eq_true rfl) c_isSheet ?_
  refine r_if_ne (μ := mX12_mark) (pc := 4) (tgt := 10) dX12_mark_4 (by decide) (fun h_4 => ?_) (fun h_4 => absurd h_4 (b2i_ne (inB_nI (by omega) (by omega))))
  refine r_aload_n (μ := mX12_mark) (pc := 10) dX12_mark_10 rfl rfl rfl ?_
  refine r_getR (μ := mX12_mark) (pc := 11) dX12_mark_11 fpX12_19 rfl rfl (by decide) (hM _ _ rfl) ?_
  refine r_iload_n (μ := mX12_mark) (pc := 14) dX12_mark_14 rfl rfl ?_
  refine r_iaload (μ := mX12_mark) (pc := 15) (j := k) dX12_mark_15 rfl rfl (by omega) (by decide) ?_
  refine r_if_ge (μ := mX12_mark) (pc := 16) (tgt := 23) dX12_mark_16 (by decide) (fun h_16 => absurd h_16 (Int32.not_le.mpr hs)) (fun h_16 => ?_)
  refine r_ldcw (μ := mX12_mark) (pc := 19) dX12_mark_19 ctX12_318 ?_
  exact r_iret (μ := mX12_mark) (pc := 22) dX12_mark_22 rfl rfl (PI_i rfl)

theorem c_mark_ix {d : Nat} {mi : MI} {mr : MR} (hM : MB mr) {k z : Nat} (hk : k < 4) (hz : mi 5 k = nI z) (hz24 : z ≤ 24) {x v : Int32} (hs : ¬ mi 4 k < 0) (hx : inR x z = false) : CP (d + 2) mX12_mark [.ref 0, .int (nI k), .int x, .int v] shM mi mr 0 0 (PI (INDEXc) shM mi mr) := by
  refine CP.of (L := [_, _, _, _]) (by decide) rfl rfl (Nat.le_of_ble_eq_true rfl) ?_
  refine r_iload_n (μ := mX12_mark) (pc := 0) dX12_mark_0 rfl rfl ?_
  refine sP1 (μ := mX12_mark) (pc := 1) (μ2 := mX12_isSheet) dX12_mark_1 lkX12_312 stX12_isSheet mwX12_isSheet (Nat.le_of_ble_eq_true rfl) c_isSheet ?_
  refine r_if_ne (μ := mX12_mark) (pc := 4) (tgt := 10) dX12_mark_4 (by decide) (fun h_4 => ?_) (fun h_4 => absurd h_4 (b2i_ne (inB_nI (by omega) (by omega))))
  refine r_aload_n (μ := mX12_mark) (pc := 10) dX12_mark_10 rfl rfl rfl ?_
  refine r_getR (μ := mX12_mark) (pc := 11) dX12_mark_11 fpX12_19 rfl rfl (by decide) (hM _ _ rfl) ?_
  refine r_iload_n (μ := mX12_mark) (pc := 14) dX12_mark_14 rfl rfl ?_
  refine r_iaload (μ := mX12_mark) (pc := 15) (j := k) dX12_mark_15 rfl rfl (by omega) (by decide) ?_
  refine r_if_ge (μ := mX12_mark) (pc := 16) (tgt := 23) dX12_mark_16 (by decide) (fun h_16 => ?_) (fun h_16 => absurd (Int32.not_lt.mp hs) h_16)
  refine r_iload_n (μ := mX12_mark) (pc := 23) dX12_mark_23 rfl rfl ?_
  refine r_i2l (μ := mX12_mark) (pc := 24) dX12_mark_24 ?_
  refine r_lconst (μ := mX12_mark) (pc := 25) (v := 0) dX12_mark_25 lc_0 ?_
  refine r_aload_n (μ := mX12_mark) (pc := 26) dX12_mark_26 rfl rfl rfl ?_
  refine r_getR (μ := mX12_mark) (pc := 27) dX12_mark_27 fpX12_22 rfl rfl (by decide) (hM _ _ rfl) ?_
  refine r_iload_n (μ := mX12_mark) (pc := 30) dX12_mark_30 rfl rfl ?_
  refine r_iaload (μ := mX12_mark) (pc := 31) (j := k) dX12_mark_31 rfl rfl (by omega) (by decide) ?_
  refine r_iconst (μ := mX12_mark) (pc := 32) (v := 1) dX12_mark_32 ic_1 ?_
  refine r_isub (μ := mX12_mark) (pc := 33) dX12_mark_33 ?_
  refine r_i2l (μ := mX12_mark) (pc := 34) dX12_mark_34 ?_
  refine sP3 (μ := mX12_mark) (pc := 35) (μ2 := mX12_isIn) dX12_mark_35 lkX12_65 stX12_isIn mwX12_isIn (Nat.le_of_ble_eq_true rfl) (e_isInZ hz (by omega)) ?_
  refine r_if_ne (μ := mX12_mark) (pc := 38) (tgt := 45) dX12_mark_38 (by decide) (fun h_38 => absurd (b2i_eq hx) h_38) (fun h_38 => ?_)
  refine r_ldcw (μ := mX12_mark) (pc := 41) dX12_mark_41 ctX12_319 ?_
  exact r_iret (μ := mX12_mark) (pc := 44) dX12_mark_44 rfl rfl (PI_i rfl)

theorem c_mark_kind {d : Nat} {mi : MI} {mr : MR} (hM : MB mr) {k z : Nat} (hk : k < 4) (hz : mi 5 k = nI z) (hz24 : z ≤ 24) {x : Int32} (hs : mi 4 k = 0) (hx : inR x z = true) : CP (d + 2) mX12_mark [.ref 0, .int (nI k), .int x, .int (-1000000005)] shM mi mr 0 0 (PI (KINDc) shM mi mr) := by
  refine CP.of (L := [_, _, _, _]) (by decide) rfl rfl (Nat.le_of_ble_eq_true rfl) ?_
  refine r_iload_n (μ := mX12_mark) (pc := 0) dX12_mark_0 rfl rfl ?_
  refine sP1 (μ := mX12_mark) (pc := 1) (μ2 := mX12_isSheet) dX12_mark_1 lkX12_312 stX12_isSheet mwX12_isSheet (Nat.le_of_ble_eq_true rfl) c_isSheet ?_
  refine r_if_ne (μ := mX12_mark) (pc := 4) (tgt := 10) dX12_mark_4 (by decide) (fun h_4 => ?_) (fun h_4 => absurd h_4 (b2i_ne (inB_nI (by omega) (by omega))))
  refine r_aload_n (μ := mX12_mark) (pc := 10) dX12_mark_10 rfl rfl rfl ?_
  refine r_getR (μ := mX12_mark) (pc := 11) dX12_mark_11 fpX12_19 rfl rfl (by decide) (hM _ _ rfl) ?_
  refine r_iload_n (μ := mX12_mark) (pc := 14) dX12_mark_14 rfl rfl ?_
  refine r_iaload (μ := mX12_mark) (pc := 15) (j := k) dX12_mark_15 rfl rfl (by omega) (by decide) ?_
  refine r_if_ge (μ := mX12_mark) (pc := 16) (tgt := 23) dX12_mark_16 (by decide) (fun h_16 => ?_) (fun h_16 => absurd (by rw [hs]; decide) h_16)
  refine r_iload_n (μ := mX12_mark) (pc := 23) dX12_mark_23 rfl rfl ?_
  refine r_i2l (μ := mX12_mark) (pc := 24) dX12_mark_24 ?_
  refine r_lconst (μ := mX12_mark) (pc := 25) (v := 0) dX12_mark_25 lc_0 ?_
  refine r_aload_n (μ := mX12_mark) (pc := 26) dX12_mark_26 rfl rfl rfl ?_
  refine r_getR (μ := mX12_mark) (pc := 27) dX12_mark_27 fpX12_22 rfl rfl (by decide) (hM _ _ rfl) ?_
  refine r_iload_n (μ := mX12_mark) (pc := 30) dX12_mark_30 rfl rfl ?_
  refine r_iaload (μ := mX12_mark) (pc := 31) (j := k) dX12_mark_31 rfl rfl (by omega) (by decide) ?_
  refine r_iconst (μ := mX12_mark) (pc := 32) (v := 1) dX12_mark_32 ic_1 ?_
  refine r_isub (μ := mX12_mark) (pc := 33) dX12_mark_33 ?_
  refine r_i2l (μ := mX12_mark) (pc := 34) dX12_mark_34 ?_
  refine sP3 (μ := mX12_mark) (pc := 35) (μ2 := mX12_isIn) dX12_mark_35 lkX12_65 stX12_isIn mwX12_isIn (Nat.le_of_ble_eq_true rfl) (e_isInZ hz (by omega)) ?_
  refine r_if_ne (μ := mX12_mark) (pc := 38) (tgt := 45) dX12_mark_38 (by decide) (fun h_38 => ?_) (fun h_38 => absurd h_38 (b2i_ne hx))
  refine r_aload_n (μ := mX12_mark) (pc := 45) dX12_mark_45 rfl rfl rfl ?_
  refine r_getR (μ := mX12_mark) (pc := 46) dX12_mark_46 fpX12_19 rfl rfl (by decide) (hM _ _ rfl) ?_
  refine r_iload_n (μ := mX12_mark) (pc := 49) dX12_mark_49 rfl rfl ?_
  refine r_iaload (μ := mX12_mark) (pc := 50) (j := k) dX12_mark_50 rfl rfl (by omega) (by decide) ?_
  refine r_if_ne (μ := mX12_mark) (pc := 51) (tgt := 63) dX12_mark_51 (by decide) (fun h_51 => absurd hs h_51) (fun h_51 => ?_)
  refine r_iload_n (μ := mX12_mark) (pc := 54) dX12_mark_54 rfl rfl ?_
  refine r_ldc (μ := mX12_mark) (pc := 55) dX12_mark_55 ctX12_64 ?_
  refine r_icmp_ne (μ := mX12_mark) (pc := 57) (tgt := 63) dX12_mark_57 (by decide) (fun h_57 => absurd rfl h_57) (fun h_57 => ?_)
  refine r_ldc (μ := mX12_mark) (pc := 60) dX12_mark_60 ctX12_155 ?_
  exact r_iret (μ := mX12_mark) (pc := 62) dX12_mark_62 rfl rfl (PI_i rfl)

theorem c_mark_v {d : Nat} {mi : MI} {mr : MR} (hM : MB mr) {k z : Nat} (hk : k < 4) (hz : mi 5 k = nI z) (hz24 : z ≤ 24) {x v : Int32} (hs : mi 4 k = 1) (hx : inR x z = true) (hv : ¬ v = -1000000005) (hv2 : inB v (-99999) 99999 = false) : CP (d + 2) mX12_mark [.ref 0, .int (nI k), .int x, .int v] shM mi mr 0 0 (PI (BADc) shM mi mr) := by
  refine CP.of (L := [_, _, _, _]) (by decide) rfl rfl (Nat.le_of_ble_eq_true rfl) ?_
  refine r_iload_n (μ := mX12_mark) (pc := 0) dX12_mark_0 rfl rfl ?_
  refine sP1 (μ := mX12_mark) (pc := 1) (μ2 := mX12_isSheet) dX12_mark_1 lkX12_312 stX12_isSheet mwX12_isSheet (Nat.le_of_ble_eq_true rfl) c_isSheet ?_
  refine r_if_ne (μ := mX12_mark) (pc := 4) (tgt := 10) dX12_mark_4 (by decide) (fun h_4 => ?_) (fun h_4 => absurd h_4 (b2i_ne (inB_nI (by omega) (by omega))))
  refine r_aload_n (μ := mX12_mark) (pc := 10) dX12_mark_10 rfl rfl rfl ?_
  refine r_getR (μ := mX12_mark) (pc := 11) dX12_mark_11 fpX12_19 rfl rfl (by decide) (hM _ _ rfl) ?_
  refine r_iload_n (μ := mX12_mark) (pc := 14) dX12_mark_14 rfl rfl ?_
  refine r_iaload (μ := mX12_mark) (pc := 15) (j := k) dX12_mark_15 rfl rfl (by omega) (by decide) ?_
  refine r_if_ge (μ := mX12_mark) (pc := 16) (tgt := 23) dX12_mark_16 (by decide) (fun h_16 => ?_) (fun h_16 => absurd (by rw [hs]; decide) h_16)
  refine r_iload_n (μ := mX12_mark) (pc := 23) dX12_mark_23 rfl rfl ?_
  refine r_i2l (μ := mX12_mark) (pc := 24) dX12_mark_24 ?_
  refine r_lconst (μ := mX12_mark) (pc := 25) (v := 0) dX12_mark_25 lc_0 ?_
  refine r_aload_n (μ := mX12_mark) (pc := 26) dX12_mark_26 rfl rfl rfl ?_
  refine r_getR (μ := mX12_mark) (pc := 27) dX12_mark_27 fpX12_22 rfl rfl (by decide) (hM _ _ rfl) ?_
  refine r_iload_n (μ := mX12_mark) (pc := 30) dX12_mark_30 rfl rfl ?_
  refine r_iaload (μ := mX12_mark) (pc := 31) (j := k) dX12_mark_31 rfl rfl (by omega) (by decide) ?_
  refine r_iconst (μ := mX12_mark) (pc := 32) (v := 1) dX12_mark_32 ic_1 ?_
  refine r_isub (μ := mX12_mark) (pc := 33) dX12_mark_33 ?_
  refine r_i2l (μ := mX12_mark) (pc := 34) dX12_mark_34 ?_
  refine sP3 (μ := mX12_mark) (pc := 35) (μ2 := mX12_isIn) dX12_mark_35 lkX12_65 stX12_isIn mwX12_isIn (Nat.le_of_ble_eq_true rfl) (e_isInZ hz (by omega)) ?_
  refine r_if_ne (μ := mX12_mark) (pc := 38) (tgt := 45) dX12_mark_38 (by decide) (fun h_38 => ?_) (fun h_38 => absurd h_38 (b2i_ne hx))
  refine r_aload_n (μ := mX12_mark) (pc := 45) dX12_mark_45 rfl rfl rfl ?_
  refine r_getR (μ := mX12_mark) (pc := 46) dX12_mark_46 fpX12_19 rfl rfl (by decide) (hM _ _ rfl) ?_
  refine r_iload_n (μ := mX12_mark) (pc := 49) dX12_mark_49 rfl rfl ?_
  refine r_iaload (μ := mX12_mark) (pc := 50) (j := k) dX12_mark_50 rfl rfl (by omega) (by decide) ?_
  refine r_if_ne (μ := mX12_mark) (pc := 51) (tgt := 63) dX12_mark_51 (by decide) (fun h_51 => ?_) (fun h_51 => absurd h_51 (by rw [hs]; decide))
  refine r_aload_n (μ := mX12_mark) (pc := 63) dX12_mark_63 rfl rfl rfl ?_
  refine r_getR (μ := mX12_mark) (pc := 64) dX12_mark_64 fpX12_19 rfl rfl (by decide) (hM _ _ rfl) ?_
  refine r_iload_n (μ := mX12_mark) (pc := 67) dX12_mark_67 rfl rfl ?_
  refine r_iaload (μ := mX12_mark) (pc := 68) (j := k) dX12_mark_68 rfl rfl (by omega) (by decide) ?_
  refine r_iconst (μ := mX12_mark) (pc := 69) (v := 1) dX12_mark_69 ic_1 ?_
  refine r_icmp_ne (μ := mX12_mark) (pc := 70) (tgt := 96) dX12_mark_70 (by decide) (fun h_70 => absurd hs h_70) (fun h_70 => ?_)
  refine r_iload_n (μ := mX12_mark) (pc := 73) dX12_mark_73 rfl rfl ?_
  refine r_ldc (μ := mX12_mark) (pc := 74) dX12_mark_74 ctX12_64 ?_
  refine r_icmp_eq (μ := mX12_mark) (pc := 76) (tgt := 96) dX12_mark_76 (by decide) (fun h_76 => absurd h_76 hv) (fun h_76 => ?_)
  refine r_iload_n (μ := mX12_mark) (pc := 79) dX12_mark_79 rfl rfl ?_
  refine r_i2l (μ := mX12_mark) (pc := 80) dX12_mark_80 ?_
  refine r_ldc2 (μ := mX12_mark) (pc := 81) dX12_mark_81 clX12_320 ?_
  refine r_ldc2 (μ := mX12_mark) (pc := 84) dX12_mark_84 clX12_322 ?_
  refine sP3 (μ := mX12_mark) (pc := 87) (μ2 := mX12_isIn) dX12_mark_87 lkX12_65 stX12_isIn mwX12_isIn (Nat.le_of_ble_eq_true rfl) (c_isInK il_m99999 il_99999) ?_
  refine r_if_ne (μ := mX12_mark) (pc := 90) (tgt := 96) dX12_mark_90 (by decide) (fun h_90 => absurd (b2i_eq hv2) h_90) (fun h_90 => ?_)
  refine r_ldc (μ := mX12_mark) (pc := 93) dX12_mark_93 ctX12_78 ?_
  exact r_iret (μ := mX12_mark) (pc := 95) dX12_mark_95 rfl rfl (PI_i rfl)

theorem c_mark0 {d : Nat} {mi : MI} {mr : MR} (hM : MB mr) {k z : Nat} (hk : k < 4) (hz : mi 5 k = nI z) (hz24 : z ≤ 24) {j : Nat} {v : Int32} (hj : j < z) (hs : mi 4 k = 0) (hv : ¬ v = -1000000005) : CP (d + 2) mX12_mark [.ref 0, .int (nI k), .int (nI j), .int v] shM mi mr 0 0 (PX shM mr (fun r mi2 => r = 1 ∧ mi2 = upI mi 6 (24 * k + j) (v <<< ((16 : Int32) &&& 31) >>> ((16 : Int32) &&& 31)))) := by
  refine CP.of (L := [_, _, _, _]) (by decide) rfl rfl (Nat.le_of_ble_eq_true rfl) ?_
  refine r_iload_n (μ := mX12_mark) (pc := 0) dX12_mark_0 rfl rfl ?_
  refine sP1 (μ := mX12_mark) (pc := 1) (μ2 := mX12_isSheet) dX12_mark_1 lkX12_312 stX12_isSheet mwX12_isSheet (Nat.le_of_ble_eq_true rfl) c_isSheet ?_
  refine r_if_ne (μ := mX12_mark) (pc := 4) (tgt := 10) dX12_mark_4 (by decide) (fun h_4 => ?_) (fun h_4 => absurd h_4 (b2i_ne (inB_nI (by omega) (by omega))))
  refine r_aload_n (μ := mX12_mark) (pc := 10) dX12_mark_10 rfl rfl rfl ?_
  refine r_getR (μ := mX12_mark) (pc := 11) dX12_mark_11 fpX12_19 rfl rfl (by decide) (hM _ _ rfl) ?_
  refine r_iload_n (μ := mX12_mark) (pc := 14) dX12_mark_14 rfl rfl ?_
  refine r_iaload (μ := mX12_mark) (pc := 15) (j := k) dX12_mark_15 rfl rfl (by omega) (by decide) ?_
  refine r_if_ge (μ := mX12_mark) (pc := 16) (tgt := 23) dX12_mark_16 (by decide) (fun h_16 => ?_) (fun h_16 => absurd (by rw [hs]; decide) h_16)
  refine r_iload_n (μ := mX12_mark) (pc := 23) dX12_mark_23 rfl rfl ?_
  refine r_i2l (μ := mX12_mark) (pc := 24) dX12_mark_24 ?_
  refine r_lconst (μ := mX12_mark) (pc := 25) (v := 0) dX12_mark_25 lc_0 ?_
  refine r_aload_n (μ := mX12_mark) (pc := 26) dX12_mark_26 rfl rfl rfl ?_
  refine r_getR (μ := mX12_mark) (pc := 27) dX12_mark_27 fpX12_22 rfl rfl (by decide) (hM _ _ rfl) ?_
  refine r_iload_n (μ := mX12_mark) (pc := 30) dX12_mark_30 rfl rfl ?_
  refine r_iaload (μ := mX12_mark) (pc := 31) (j := k) dX12_mark_31 rfl rfl (by omega) (by decide) ?_
  refine r_iconst (μ := mX12_mark) (pc := 32) (v := 1) dX12_mark_32 ic_1 ?_
  refine r_isub (μ := mX12_mark) (pc := 33) dX12_mark_33 ?_
  refine r_i2l (μ := mX12_mark) (pc := 34) dX12_mark_34 ?_
  refine sP3 (μ := mX12_mark) (pc := 35) (μ2 := mX12_isIn) dX12_mark_35 lkX12_65 stX12_isIn mwX12_isIn (Nat.le_of_ble_eq_true rfl) (e_isInZ hz (by omega)) ?_
  refine r_if_ne (μ := mX12_mark) (pc := 38) (tgt := 45) dX12_mark_38 (by decide) (fun h_38 => ?_) (fun h_38 => absurd h_38 (b2i_ne (inR_nI hj (by omega))))
  refine r_aload_n (μ := mX12_mark) (pc := 45) dX12_mark_45 rfl rfl rfl ?_
  refine r_getR (μ := mX12_mark) (pc := 46) dX12_mark_46 fpX12_19 rfl rfl (by decide) (hM _ _ rfl) ?_
  refine r_iload_n (μ := mX12_mark) (pc := 49) dX12_mark_49 rfl rfl ?_
  refine r_iaload (μ := mX12_mark) (pc := 50) (j := k) dX12_mark_50 rfl rfl (by omega) (by decide) ?_
  refine r_if_ne (μ := mX12_mark) (pc := 51) (tgt := 63) dX12_mark_51 (by decide) (fun h_51 => absurd hs h_51) (fun h_51 => ?_)
  refine r_iload_n (μ := mX12_mark) (pc := 54) dX12_mark_54 rfl rfl ?_
  refine r_ldc (μ := mX12_mark) (pc := 55) dX12_mark_55 ctX12_64 ?_
  refine r_icmp_ne (μ := mX12_mark) (pc := 57) (tgt := 63) dX12_mark_57 (by decide) (fun h_57 => ?_) (fun h_57 => absurd h_57 hv)
  refine r_aload_n (μ := mX12_mark) (pc := 63) dX12_mark_63 rfl rfl rfl ?_
  refine r_getR (μ := mX12_mark) (pc := 64) dX12_mark_64 fpX12_19 rfl rfl (by decide) (hM _ _ rfl) ?_
  refine r_iload_n (μ := mX12_mark) (pc := 67) dX12_mark_67 rfl rfl ?_
  refine r_iaload (μ := mX12_mark) (pc := 68) (j := k) dX12_mark_68 rfl rfl (by omega) (by decide) ?_
  refine r_iconst (μ := mX12_mark) (pc := 69) (v := 1) dX12_mark_69 ic_1 ?_
  refine r_icmp_ne (μ := mX12_mark) (pc := 70) (tgt := 96) dX12_mark_70 (by decide) (fun h_70 => ?_) (fun h_70 => absurd h_70 (by rw [hs]; decide))
  refine r_aload_n (μ := mX12_mark) (pc := 96) dX12_mark_96 rfl rfl rfl ?_
  refine r_getR (μ := mX12_mark) (pc := 97) dX12_mark_97 fpX12_25 rfl rfl (by decide) (hM _ _ rfl) ?_
  refine r_bipush (μ := mX12_mark) (pc := 100) (v := 24) dX12_mark_100 bp_24 ?_
  refine r_iload_n (μ := mX12_mark) (pc := 102) dX12_mark_102 rfl rfl ?_
  refine r_imul (μ := mX12_mark) (pc := 103) dX12_mark_103 ?_
  refine r_iload_n (μ := mX12_mark) (pc := 104) dX12_mark_104 rfl rfl ?_
  refine r_iadd (μ := mX12_mark) (pc := 105) dX12_mark_105 ?_
  refine r_aload_n (μ := mX12_mark) (pc := 106) dX12_mark_106 rfl rfl rfl ?_
  refine r_getR (μ := mX12_mark) (pc := 107) dX12_mark_107 fpX12_19 rfl rfl (by decide) (hM _ _ rfl) ?_
  refine r_iload_n (μ := mX12_mark) (pc := 110) dX12_mark_110 rfl rfl ?_
  refine r_iaload (μ := mX12_mark) (pc := 111) (j := k) dX12_mark_111 rfl rfl (by omega) (by decide) ?_
  refine r_if_ne (μ := mX12_mark) (pc := 112) (tgt := 125) dX12_mark_112 (by decide) (fun h_112 => absurd hs h_112) (fun h_112 => ?_)
  refine r_iload_n (μ := mX12_mark) (pc := 115) dX12_mark_115 rfl rfl ?_
  refine r_bipush (μ := mX12_mark) (pc := 116) (v := 16) dX12_mark_116 bp_16 ?_
  refine r_ishl (μ := mX12_mark) (pc := 118) dX12_mark_118 ?_
  refine r_bipush (μ := mX12_mark) (pc := 119) (v := 16) dX12_mark_119 bp_16 ?_
  refine r_ishr (μ := mX12_mark) (pc := 121) dX12_mark_121 ?_
  refine r_goto (μ := mX12_mark) (pc := 122) (tgt := 126) dX12_mark_122 (by decide) ?_
  refine r_iastore (μ := mX12_mark) (pc := 126) (j := ((24 * k) + j)) dX12_mark_126 rfl (by simp only [← nI_add, ← pk_mul] <;> rfl) (by omega) (by decide) ?_
  refine r_iconst (μ := mX12_mark) (pc := 127) (v := 1) dX12_mark_127 ic_1 ?_
  exact r_iret (μ := mX12_mark) (pc := 128) dX12_mark_128 rfl rfl (PX_i ⟨rfl, rfl⟩)

theorem c_mark1n {d : Nat} {mi : MI} {mr : MR} (hM : MB mr) {k z : Nat} (hk : k < 4) (hz : mi 5 k = nI z) (hz24 : z ≤ 24) {j : Nat} (hj : j < z) (hs : mi 4 k = 1) : CP (d + 2) mX12_mark [.ref 0, .int (nI k), .int (nI j), .int (-1000000005)] shM mi mr 0 0 (PX shM mr (fun r mi2 => r = 1 ∧ mi2 = upI mi 6 (24 * k + j) (-1000000005))) := by
  refine CP.of (L := [_, _, _, _]) (by decide) rfl rfl (Nat.le_of_ble_eq_true rfl) ?_
  refine r_iload_n (μ := mX12_mark) (pc := 0) dX12_mark_0 rfl rfl ?_
  refine sP1 (μ := mX12_mark) (pc := 1) (μ2 := mX12_isSheet) dX12_mark_1 lkX12_312 stX12_isSheet mwX12_isSheet (Nat.le_of_ble_eq_true rfl) c_isSheet ?_
  refine r_if_ne (μ := mX12_mark) (pc := 4) (tgt := 10) dX12_mark_4 (by decide) (fun h_4 => ?_) (fun h_4 => absurd h_4 (b2i_ne (inB_nI (by omega) (by omega))))
  refine r_aload_n (μ := mX12_mark) (pc := 10) dX12_mark_10 rfl rfl rfl ?_
  refine r_getR (μ := mX12_mark) (pc := 11) dX12_mark_11 fpX12_19 rfl rfl (by decide) (hM _ _ rfl) ?_
  refine r_iload_n (μ := mX12_mark) (pc := 14) dX12_mark_14 rfl rfl ?_
  refine r_iaload (μ := mX12_mark) (pc := 15) (j := k) dX12_mark_15 rfl rfl (by omega) (by decide) ?_
  refine r_if_ge (μ := mX12_mark) (pc := 16) (tgt := 23) dX12_mark_16 (by decide) (fun h_16 => ?_) (fun h_16 => absurd (by rw [hs]; decide) h_16)
  refine r_iload_n (μ := mX12_mark) (pc := 23) dX12_mark_23 rfl rfl ?_
  refine r_i2l (μ := mX12_mark) (pc := 24) dX12_mark_24 ?_
  refine r_lconst (μ := mX12_mark) (pc := 25) (v := 0) dX12_mark_25 lc_0 ?_
  refine r_aload_n (μ := mX12_mark) (pc := 26) dX12_mark_26 rfl rfl rfl ?_
  refine r_getR (μ := mX12_mark) (pc := 27) dX12_mark_27 fpX12_22 rfl rfl (by decide) (hM _ _ rfl) ?_
  refine r_iload_n (μ := mX12_mark) (pc := 30) dX12_mark_30 rfl rfl ?_
  refine r_iaload (μ := mX12_mark) (pc := 31) (j := k) dX12_mark_31 rfl rfl (by omega) (by decide) ?_
  refine r_iconst (μ := mX12_mark) (pc := 32) (v := 1) dX12_mark_32 ic_1 ?_
  refine r_isub (μ := mX12_mark) (pc := 33) dX12_mark_33 ?_
  refine r_i2l (μ := mX12_mark) (pc := 34) dX12_mark_34 ?_
  refine sP3 (μ := mX12_mark) (pc := 35) (μ2 := mX12_isIn) dX12_mark_35 lkX12_65 stX12_isIn mwX12_isIn (Nat.le_of_ble_eq_true rfl) (e_isInZ hz (by omega)) ?_
  refine r_if_ne (μ := mX12_mark) (pc := 38) (tgt := 45) dX12_mark_38 (by decide) (fun h_38 => ?_) (fun h_38 => absurd h_38 (b2i_ne (inR_nI hj (by omega))))
  refine r_aload_n (μ := mX12_mark) (pc := 45) dX12_mark_45 rfl rfl rfl ?_
  refine r_getR (μ := mX12_mark) (pc := 46) dX12_mark_46 fpX12_19 rfl rfl (by decide) (hM _ _ rfl) ?_
  refine r_iload_n (μ := mX12_mark) (pc := 49) dX12_mark_49 rfl rfl ?_
  refine r_iaload (μ := mX12_mark) (pc := 50) (j := k) dX12_mark_50 rfl rfl (by omega) (by decide) ?_
  refine r_if_ne (μ := mX12_mark) (pc := 51) (tgt := 63) dX12_mark_51 (by decide) (fun h_51 => ?_) (fun h_51 => absurd h_51 (by rw [hs]; decide))
  refine r_aload_n (μ := mX12_mark) (pc := 63) dX12_mark_63 rfl rfl rfl ?_
  refine r_getR (μ := mX12_mark) (pc := 64) dX12_mark_64 fpX12_19 rfl rfl (by decide) (hM _ _ rfl) ?_
  refine r_iload_n (μ := mX12_mark) (pc := 67) dX12_mark_67 rfl rfl ?_
  refine r_iaload (μ := mX12_mark) (pc := 68) (j := k) dX12_mark_68 rfl rfl (by omega) (by decide) ?_
  refine r_iconst (μ := mX12_mark) (pc := 69) (v := 1) dX12_mark_69 ic_1 ?_
  refine r_icmp_ne (μ := mX12_mark) (pc := 70) (tgt := 96) dX12_mark_70 (by decide) (fun h_70 => absurd hs h_70) (fun h_70 => ?_)
  refine r_iload_n (μ := mX12_mark) (pc := 73) dX12_mark_73 rfl rfl ?_
  refine r_ldc (μ := mX12_mark) (pc := 74) dX12_mark_74 ctX12_64 ?_
  refine r_icmp_eq (μ := mX12_mark) (pc := 76) (tgt := 96) dX12_mark_76 (by decide) (fun h_76 => ?_) (fun h_76 => absurd rfl h_76)
  refine r_aload_n (μ := mX12_mark) (pc := 96) dX12_mark_96 rfl rfl rfl ?_
  refine r_getR (μ := mX12_mark) (pc := 97) dX12_mark_97 fpX12_25 rfl rfl (by decide) (hM _ _ rfl) ?_
  refine r_bipush (μ := mX12_mark) (pc := 100) (v := 24) dX12_mark_100 bp_24 ?_
  refine r_iload_n (μ := mX12_mark) (pc := 102) dX12_mark_102 rfl rfl ?_
  refine r_imul (μ := mX12_mark) (pc := 103) dX12_mark_103 ?_
  refine r_iload_n (μ := mX12_mark) (pc := 104) dX12_mark_104 rfl rfl ?_
  refine r_iadd (μ := mX12_mark) (pc := 105) dX12_mark_105 ?_
  refine r_aload_n (μ := mX12_mark) (pc := 106) dX12_mark_106 rfl rfl rfl ?_
  refine r_getR (μ := mX12_mark) (pc := 107) dX12_mark_107 fpX12_19 rfl rfl (by decide) (hM _ _ rfl) ?_
  refine r_iload_n (μ := mX12_mark) (pc := 110) dX12_mark_110 rfl rfl ?_
  refine r_iaload (μ := mX12_mark) (pc := 111) (j := k) dX12_mark_111 rfl rfl (by omega) (by decide) ?_
  refine r_if_ne (μ := mX12_mark) (pc := 112) (tgt := 125) dX12_mark_112 (by decide) (fun h_112 => ?_) (fun h_112 => absurd h_112 (by rw [hs]; decide))
  refine r_iload_n (μ := mX12_mark) (pc := 125) dX12_mark_125 rfl rfl ?_
  refine r_iastore (μ := mX12_mark) (pc := 126) (j := ((24 * k) + j)) dX12_mark_126 rfl (by simp only [← nI_add, ← pk_mul] <;> rfl) (by omega) (by decide) ?_
  refine r_iconst (μ := mX12_mark) (pc := 127) (v := 1) dX12_mark_127 ic_1 ?_
  exact r_iret (μ := mX12_mark) (pc := 128) dX12_mark_128 rfl rfl (PX_i ⟨rfl, rfl⟩)

theorem c_mark1 {d : Nat} {mi : MI} {mr : MR} (hM : MB mr) {k z : Nat} (hk : k < 4) (hz : mi 5 k = nI z) (hz24 : z ≤ 24) {j : Nat} {v : Int32} (hj : j < z) (hs : mi 4 k = 1) (hv : ¬ v = -1000000005) (hv2 : inB v (-99999) 99999 = true) : CP (d + 2) mX12_mark [.ref 0, .int (nI k), .int (nI j), .int v] shM mi mr 0 0 (PX shM mr (fun r mi2 => r = 1 ∧ mi2 = upI mi 6 (24 * k + j) v)) := by
  refine CP.of (L := [_, _, _, _]) (by decide) rfl rfl (Nat.le_of_ble_eq_true rfl) ?_
  refine r_iload_n (μ := mX12_mark) (pc := 0) dX12_mark_0 rfl rfl ?_
  refine sP1 (μ := mX12_mark) (pc := 1) (μ2 := mX12_isSheet) dX12_mark_1 lkX12_312 stX12_isSheet mwX12_isSheet (Nat.le_of_ble_eq_true rfl) c_isSheet ?_
  refine r_if_ne (μ := mX12_mark) (pc := 4) (tgt := 10) dX12_mark_4 (by decide) (fun h_4 => ?_) (fun h_4 => absurd h_4 (b2i_ne (inB_nI (by omega) (by omega))))
  refine r_aload_n (μ := mX12_mark) (pc := 10) dX12_mark_10 rfl rfl rfl ?_
  refine r_getR (μ := mX12_mark) (pc := 11) dX12_mark_11 fpX12_19 rfl rfl (by decide) (hM _ _ rfl) ?_
  refine r_iload_n (μ := mX12_mark) (pc := 14) dX12_mark_14 rfl rfl ?_
  refine r_iaload (μ := mX12_mark) (pc := 15) (j := k) dX12_mark_15 rfl rfl (by omega) (by decide) ?_
  refine r_if_ge (μ := mX12_mark) (pc := 16) (tgt := 23) dX12_mark_16 (by decide) (fun h_16 => ?_) (fun h_16 => absurd (by rw [hs]; decide) h_16)
  refine r_iload_n (μ := mX12_mark) (pc := 23) dX12_mark_23 rfl rfl ?_
  refine r_i2l (μ := mX12_mark) (pc := 24) dX12_mark_24 ?_
  refine r_lconst (μ := mX12_mark) (pc := 25) (v := 0) dX12_mark_25 lc_0 ?_
  refine r_aload_n (μ := mX12_mark) (pc := 26) dX12_mark_26 rfl rfl rfl ?_
  refine r_getR (μ := mX12_mark) (pc := 27) dX12_mark_27 fpX12_22 rfl rfl (by decide) (hM _ _ rfl) ?_
  refine r_iload_n (μ := mX12_mark) (pc := 30) dX12_mark_30 rfl rfl ?_
  refine r_iaload (μ := mX12_mark) (pc := 31) (j := k) dX12_mark_31 rfl rfl (by omega) (by decide) ?_
  refine r_iconst (μ := mX12_mark) (pc := 32) (v := 1) dX12_mark_32 ic_1 ?_
  refine r_isub (μ := mX12_mark) (pc := 33) dX12_mark_33 ?_
  refine r_i2l (μ := mX12_mark) (pc := 34) dX12_mark_34 ?_
  refine sP3 (μ := mX12_mark) (pc := 35) (μ2 := mX12_isIn) dX12_mark_35 lkX12_65 stX12_isIn mwX12_isIn (Nat.le_of_ble_eq_true rfl) (e_isInZ hz (by omega)) ?_
  refine r_if_ne (μ := mX12_mark) (pc := 38) (tgt := 45) dX12_mark_38 (by decide) (fun h_38 => ?_) (fun h_38 => absurd h_38 (b2i_ne (inR_nI hj (by omega))))
  refine r_aload_n (μ := mX12_mark) (pc := 45) dX12_mark_45 rfl rfl rfl ?_
  refine r_getR (μ := mX12_mark) (pc := 46) dX12_mark_46 fpX12_19 rfl rfl (by decide) (hM _ _ rfl) ?_
  refine r_iload_n (μ := mX12_mark) (pc := 49) dX12_mark_49 rfl rfl ?_
  refine r_iaload (μ := mX12_mark) (pc := 50) (j := k) dX12_mark_50 rfl rfl (by omega) (by decide) ?_
  refine r_if_ne (μ := mX12_mark) (pc := 51) (tgt := 63) dX12_mark_51 (by decide) (fun h_51 => ?_) (fun h_51 => absurd h_51 (by rw [hs]; decide))
  refine r_aload_n (μ := mX12_mark) (pc := 63) dX12_mark_63 rfl rfl rfl ?_
  refine r_getR (μ := mX12_mark) (pc := 64) dX12_mark_64 fpX12_19 rfl rfl (by decide) (hM _ _ rfl) ?_
  refine r_iload_n (μ := mX12_mark) (pc := 67) dX12_mark_67 rfl rfl ?_
  refine r_iaload (μ := mX12_mark) (pc := 68) (j := k) dX12_mark_68 rfl rfl (by omega) (by decide) ?_
  refine r_iconst (μ := mX12_mark) (pc := 69) (v := 1) dX12_mark_69 ic_1 ?_
  refine r_icmp_ne (μ := mX12_mark) (pc := 70) (tgt := 96) dX12_mark_70 (by decide) (fun h_70 => absurd hs h_70) (fun h_70 => ?_)
  refine r_iload_n (μ := mX12_mark) (pc := 73) dX12_mark_73 rfl rfl ?_
  refine r_ldc (μ := mX12_mark) (pc := 74) dX12_mark_74 ctX12_64 ?_
  refine r_icmp_eq (μ := mX12_mark) (pc := 76) (tgt := 96) dX12_mark_76 (by decide) (fun h_76 => absurd h_76 hv) (fun h_76 => ?_)
  refine r_iload_n (μ := mX12_mark) (pc := 79) dX12_mark_79 rfl rfl ?_
  refine r_i2l (μ := mX12_mark) (pc := 80) dX12_mark_80 ?_
  refine r_ldc2 (μ := mX12_mark) (pc := 81) dX12_mark_81 clX12_320 ?_
  refine r_ldc2 (μ := mX12_mark) (pc := 84) dX12_mark_84 clX12_322 ?_
  refine sP3 (μ := mX12_mark) (pc := 87) (μ2 := mX12_isIn) dX12_mark_87 lkX12_65 stX12_isIn mwX12_isIn (Nat.le_of_ble_eq_true rfl) (c_isInK il_m99999 il_99999) ?_
  refine r_if_ne (μ := mX12_mark) (pc := 90) (tgt := 96) dX12_mark_90 (by decide) (fun h_90 => ?_) (fun h_90 => absurd h_90 (b2i_ne hv2))
  refine r_aload_n (μ := mX12_mark) (pc := 96) dX12_mark_96 rfl rfl rfl ?_
  refine r_getR (μ := mX12_mark) (pc := 97) dX12_mark_97 fpX12_25 rfl rfl (by decide) (hM _ _ rfl) ?_
  refine r_bipush (μ := mX12_mark) (pc := 100) (v := 24) dX12_mark_100 bp_24 ?_
  refine r_iload_n (μ := mX12_mark) (pc := 102) dX12_mark_102 rfl rfl ?_
  refine r_imul (μ := mX12_mark) (pc := 103) dX12_mark_103 ?_
  refine r_iload_n (μ := mX12_mark) (pc := 104) dX12_mark_104 rfl rfl ?_
  refine r_iadd (μ := mX12_mark) (pc := 105) dX12_mark_105 ?_
  refine r_aload_n (μ := mX12_mark) (pc := 106) dX12_mark_106 rfl rfl rfl ?_
  refine r_getR (μ := mX12_mark) (pc := 107) dX12_mark_107 fpX12_19 rfl rfl (by decide) (hM _ _ rfl) ?_
  refine r_iload_n (μ := mX12_mark) (pc := 110) dX12_mark_110 rfl rfl ?_
  refine r_iaload (μ := mX12_mark) (pc := 111) (j := k) dX12_mark_111 rfl rfl (by omega) (by decide) ?_
  refine r_if_ne (μ := mX12_mark) (pc := 112) (tgt := 125) dX12_mark_112 (by decide) (fun h_112 => ?_) (fun h_112 => absurd h_112 (by rw [hs]; decide))
  refine r_iload_n (μ := mX12_mark) (pc := 125) dX12_mark_125 rfl rfl ?_
  refine r_iastore (μ := mX12_mark) (pc := 126) (j := ((24 * k) + j)) dX12_mark_126 rfl (by simp only [← nI_add, ← pk_mul] <;> rfl) (by omega) (by decide) ?_
  refine r_iconst (μ := mX12_mark) (pc := 127) (v := 1) dX12_mark_127 ic_1 ?_
  exact r_iret (μ := mX12_mark) (pc := 128) dX12_mark_128 rfl rfl (PX_i ⟨rfl, rfl⟩)

theorem c_pour_bad {d : Nat} {mi : MI} {mr : MR} (hM : MB mr) {x : Int32} (hb : ¬ inB x 0 3 = true) : CP (d + 2) mX12_pour [.ref 0, .int x] shM mi mr 0 0 (PI (BADc) shM mi mr) := by
  refine CP.of (L := [_, _, _, _, _, _]) (by decide) rfl rfl (Nat.le_of_ble_eq_true rfl) ?_
  refine r_iload_n (μ := mX12_pour) (pc := 0) dX12_pour_0 rfl rfl ?_
  refine sP1 (μ := mX12_pour) (pc := 1) (μ2 := mX12_isSheet) dX12_pour_1 lkX12_312 stX12_isSheet mwX12_isSheet (Nat.le_of_ble_eq_true rfl) c_isSheet ?_
  refine r_if_ne (μ := mX12_pour) (pc := 4) (tgt := 10) dX12_pour_4 (by decide) (fun h_4 => ?_) (fun h_4 => ?_)
  · have h_4 := b2i_1 h_4
    exact absurd h_4 hb
  · have h_4 := b2i_0 h_4
    refine r_ldc (μ := mX12_pour) (pc := 7) dX12_pour_7 ctX12_78 ?_
    exact r_iret (μ := mX12_pour) (pc := 9) dX12_pour_9 rfl rfl (PI_i rfl)

theorem c_pour_none {d : Nat} {mi : MI} {mr : MR} (hM : MB mr) {k : Nat} (hk : k < 4) (hs : mi 4 k < 0) : CP (d + 2) mX12_pour [.ref 0, .int (nI k)] shM mi mr 0 0 (PI (NOTHINGc) shM mi mr) := by
  refine CP.of (L := [_, _, _, _, _, _]) (by decide) rfl rfl (Nat.le_of_ble_eq_true rfl) ?_
  refine r_iload_n (μ := mX12_pour) (pc := 0) dX12_pour_0 rfl rfl ?_
  refine sP1 (μ := mX12_pour) (pc := 1) (μ2 := mX12_isSheet) dX12_pour_1 lkX12_312 stX12_isSheet mwX12_isSheet (Nat.le_of_ble_eq_true rfl) c_isSheet ?_
  refine r_if_ne (μ := mX12_pour) (pc := 4) (tgt := 10) dX12_pour_4 (by decide) (fun h_4 => ?_) (fun h_4 => absurd h_4 (b2i_ne (inB_nI (by omega) (by omega))))
  refine r_aload_n (μ := mX12_pour) (pc := 10) dX12_pour_10 rfl rfl rfl ?_
  refine r_getR (μ := mX12_pour) (pc := 11) dX12_pour_11 fpX12_19 rfl rfl (by decide) (hM _ _ rfl) ?_
  refine r_iload_n (μ := mX12_pour) (pc := 14) dX12_pour_14 rfl rfl ?_
  refine r_iaload (μ := mX12_pour) (pc := 15) (j := k) dX12_pour_15 rfl rfl (by omega) (by decide) ?_
  refine r_if_ge (μ := mX12_pour) (pc := 16) (tgt := 23) dX12_pour_16 (by decide) (fun h_16 => absurd h_16 (Int32.not_le.mpr hs)) (fun h_16 => ?_)
  refine r_ldcw (μ := mX12_pour) (pc := 19) dX12_pour_19 ctX12_318 ?_
  exact r_iret (μ := mX12_pour) (pc := 22) dX12_pour_22 rfl rfl (PI_i rfl)

theorem lp_pour {d : Nat} {mi : MI} {mr : MR} {Q : QT} (hM : MB mr) {s : Rw} (hs : mi 1 = s) {n k z c : Nat} (hn : s 0 = nI n) (hn10 : n ≤ 10) (hk : k < 4) (hz : mi 5 k = nI z) (hz24 : z ≤ 24) (hc : c = min z n) (hq : ∀ mi2, SR mi mi2 (pourR s (fun i => mi 6 (24 * k + i)) c).1 → Q (some (.int (nI (pourR s (fun i => mi 6 (24 * k + i)) c).2))) shM mi2 mr) :
    ∀ (j b : Nat), b + j = c → ∀ mi2, SR mi mi2 (pourR s (fun i => mi 6 (24 * k + i)) b).1 → ∀ x4 x5 : Value, catL x4 = true → catL x5 = true → WP (d + 1) mX12_pour 27 [.ref 0, .int (nI k), .int (nI (pourR s (fun i => mi 6 (24 * k + i)) b).2), .int (nI b), x4, x5] [] shM mi2 mr 0 0 Q := by
  intro j
  induction j with
  | zero =>
    intro b hj mi2 hS x4 x5 h4 h5
    obtain rfl : b = c := by omega
    have e5 : mi2 5 = mi 5 := hS.2 5 (by decide) (by decide) (by decide)
    have e0 : mi2 1 0 = nI n := by rw [hS.1, pourR_o b (fun i _ => by omega), hn]
    refine r_iload_n (μ := mX12_pour) (pc := 27) dX12_pour_27 rfl rfl ?_
    refine r_aload_n (μ := mX12_pour) (pc := 28) dX12_pour_28 rfl rfl rfl ?_
    refine r_getR (μ := mX12_pour) (pc := 29) dX12_pour_29 fpX12_22 rfl rfl (by decide) (hM _ _ rfl) ?_
    refine r_iload_n (μ := mX12_pour) (pc := 32) dX12_pour_32 rfl rfl ?_
    refine r_iaload (μ := mX12_pour) (pc := 33) (j := k) dX12_pour_33 rfl rfl (by omega) (by decide) ?_
    rw [e5, hz]
    refine r_icmp_ge (μ := mX12_pour) (pc := 34) (tgt := 115) dX12_pour_34 (by decide) (fun h_34 => ?_) (fun h_34 => ?_)
    · refine r_iload_n (μ := mX12_pour) (pc := 115) dX12_pour_115 rfl rfl ?_
      exact r_iret (μ := mX12_pour) (pc := 116) dX12_pour_116 rfl rfl (hq _ hS)
    · refine r_iload_n (μ := mX12_pour) (pc := 37) dX12_pour_37 rfl rfl ?_
      refine r_aload_n (μ := mX12_pour) (pc := 38) dX12_pour_38 rfl rfl rfl ?_
      refine r_getR (μ := mX12_pour) (pc := 39) dX12_pour_39 fpX12_7 rfl rfl (by decide) (hM _ _ rfl) ?_
      refine r_iconst (μ := mX12_pour) (pc := 42) (v := 0) dX12_pour_42 ic_0 ?_
      refine r_iaload (μ := mX12_pour) (pc := 43) (j := 0) dX12_pour_43 rfl rfl (by decide) (by decide) ?_
      rw [e0]
      refine r_icmp_ge (μ := mX12_pour) (pc := 44) (tgt := 115) dX12_pour_44 (by decide) (fun h_44 => ?_) (fun h_44 => ?_)
      · refine r_iload_n (μ := mX12_pour) (pc := 115) dX12_pour_115 rfl rfl ?_
        exact r_iret (μ := mX12_pour) (pc := 116) dX12_pour_116 rfl rfl (hq _ hS)
      · exact absurd (nI_le (by have h9 : ¬ nI z ≤ nI b := h_34; rw [nI_leI (by omega) (by omega)] at h9; omega) (by omega)) h_44
  | succ j ih =>
    intro b hj mi2 hS x4 x5 h4 h5
    have e5 : mi2 5 = mi 5 := hS.2 5 (by decide) (by decide) (by decide)
    have e6 : mi2 6 = mi 6 := hS.2 6 (by decide) (by decide) (by decide)
    have e0 : mi2 1 0 = nI n := by rw [hS.1, pourR_o b (fun i _ => by omega), hn]
    have eh : (pourR s (fun i => mi 6 (24 * k + i)) b).1 (8 + 2 * b) = hgt s b := pourR_o b (fun i hi => by omega)
    have est : pourR s (fun i => mi 6 (24 * k + i)) (b + 1) = (upd (pourR s (fun i => mi 6 (24 * k + i)) b).1 (8 + 2 * b) (pourV s (fun i => mi 6 (24 * k + i)) b), (pourR s (fun i => mi 6 (24 * k + i)) b).2 + (if pourV s (fun i => mi 6 (24 * k + i)) b = hgt s b then 0 else 1)) := rfl
    refine r_iload_n (μ := mX12_pour) (pc := 27) dX12_pour_27 rfl rfl ?_
    refine r_aload_n (μ := mX12_pour) (pc := 28) dX12_pour_28 rfl rfl rfl ?_
    refine r_getR (μ := mX12_pour) (pc := 29) dX12_pour_29 fpX12_22 rfl rfl (by decide) (hM _ _ rfl) ?_
    refine r_iload_n (μ := mX12_pour) (pc := 32) dX12_pour_32 rfl rfl ?_
    refine r_iaload (μ := mX12_pour) (pc := 33) (j := k) dX12_pour_33 rfl rfl (by omega) (by decide) ?_
    rw [e5, hz]
    refine r_icmp_ge (μ := mX12_pour) (pc := 34) (tgt := 115) dX12_pour_34 (by decide) (fun h_34 => absurd h_34 (nI_ge (by omega) (by omega))) (fun h_34 => ?_)
    refine r_iload_n (μ := mX12_pour) (pc := 37) dX12_pour_37 rfl rfl ?_
    refine r_aload_n (μ := mX12_pour) (pc := 38) dX12_pour_38 rfl rfl rfl ?_
    refine r_getR (μ := mX12_pour) (pc := 39) dX12_pour_39 fpX12_7 rfl rfl (by decide) (hM _ _ rfl) ?_
    refine r_iconst (μ := mX12_pour) (pc := 42) (v := 0) dX12_pour_42 ic_0 ?_
    refine r_iaload (μ := mX12_pour) (pc := 43) (j := 0) dX12_pour_43 rfl rfl (by decide) (by decide) ?_
    rw [e0]
    refine r_icmp_ge (μ := mX12_pour) (pc := 44) (tgt := 115) dX12_pour_44 (by decide) (fun h_44 => absurd h_44 (nI_ge (by omega) (by omega))) (fun h_44 => ?_)
    refine r_aload_n (μ := mX12_pour) (pc := 47) dX12_pour_47 rfl rfl rfl ?_
    refine r_getR (μ := mX12_pour) (pc := 48) dX12_pour_48 fpX12_25 rfl rfl (by decide) (hM _ _ rfl) ?_
    refine r_bipush (μ := mX12_pour) (pc := 51) (v := 24) dX12_pour_51 bp_24 ?_
    refine r_iload_n (μ := mX12_pour) (pc := 53) dX12_pour_53 rfl rfl ?_
    refine r_imul (μ := mX12_pour) (pc := 54) dX12_pour_54 ?_
    refine r_iload_n (μ := mX12_pour) (pc := 55) dX12_pour_55 rfl rfl ?_
    refine r_iadd (μ := mX12_pour) (pc := 56) dX12_pour_56 ?_
    refine r_iaload (μ := mX12_pour) (pc := 57) (j := ((24 * k) + b)) dX12_pour_57 rfl (by simp only [← nI_add, ← pk_mul] <;> rfl) (by omega) (by decide) ?_
    rw [e6]
    refine s_istore (μ := mX12_pour) (pc := 58) (L2 := [_, _, _, _, _, _]) dX12_pour_58 (Nat.le_of_ble_eq_true rfl) (Nat.le_of_ble_eq_true rfl) (by simp only [List.all_cons, List.all_nil, catL_i, catL_r, h4, h5, Bool.and_self]) rfl ?_
    refine r_iload (μ := mX12_pour) (pc := 60) dX12_pour_60 rfl ?_
    refine r_ldc (μ := mX12_pour) (pc := 62) dX12_pour_62 ctX12_64 ?_
    refine r_icmp_ne (μ := mX12_pour) (pc := 64) (tgt := 75) dX12_pour_64 (by decide) (fun h_64 => ?_) (fun h_64 => ?_)
    · have hpv : pourV s (fun i => mi 6 (24 * k + i)) b = clampT (mi 6 (24 * k + b)) 99 := by unfold pourV; rw [if_neg (show ¬ mi 6 (24 * k + b) = NONEc from h_64)]
      refine r_iload (μ := mX12_pour) (pc := 75) dX12_pour_75 rfl ?_
      refine r_bipush (μ := mX12_pour) (pc := 77) (v := 99) dX12_pour_77 bp_99 ?_
      refine sP2 (μ := mX12_pour) (pc := 79) (μ2 := mX12_within) dX12_pour_79 lkX12_124 stX12_within mwX12_within (Nat.le_of_ble_eq_true rfl) c_mwithin ?_
      refine s_istore (μ := mX12_pour) (pc := 82) (L2 := [_, _, _, _, _, _]) dX12_pour_82 (Nat.le_of_ble_eq_true rfl) (Nat.le_of_ble_eq_true rfl) (by simp only [List.all_cons, List.all_nil, catL_i, catL_r, h4, h5, Bool.and_self]) rfl ?_
      refine r_iload_n (μ := mX12_pour) (pc := 84) dX12_pour_84 rfl rfl ?_
      refine r_iload (μ := mX12_pour) (pc := 85) dX12_pour_85 rfl ?_
      refine r_aload_n (μ := mX12_pour) (pc := 87) dX12_pour_87 rfl rfl rfl ?_
      refine r_bipush (μ := mX12_pour) (pc := 88) (v := 8) dX12_pour_88 bp_8 ?_
      refine r_iconst (μ := mX12_pour) (pc := 90) (v := 2) dX12_pour_90 ic_2 ?_
      refine r_iload_n (μ := mX12_pour) (pc := 91) dX12_pour_91 rfl rfl ?_
      refine r_imul (μ := mX12_pour) (pc := 92) dX12_pour_92 ?_
      refine r_iadd (μ := mX12_pour) (pc := 93) dX12_pour_93 ?_
      refine r_iload (μ := mX12_pour) (pc := 94) dX12_pour_94 rfl ?_
      refine vX2 (μ := mX12_pour) (pc := 96) (c0 := 12) (q0 := (RX12, TX12, 34)) (μ2 := mX12_becomes) dX12_pour_96 rfl rfl lkX12_97 imX12_becomes seX12_X12_becomes_X12_becomes mwX12_becomes (Nat.le_of_ble_eq_true rfl) (c_becomesE hM (k := 8 + 2 * b) (by simp only [← nI_add, ← pk_mul]; rfl) (by omega)) (fun r_96 mi_96 h_96 => ?_)
      obtain ⟨rfl, rfl⟩ := h_96
      rw [hS.1, eh]
      refine r_icmp_ne (μ := mX12_pour) (pc := 99) (tgt := 106) dX12_pour_99 (by decide) (fun h_99 => ?_) (fun h_99 => ?_)
      · refine r_iconst (μ := mX12_pour) (pc := 106) (v := 1) dX12_pour_106 ic_1 ?_
        refine r_iadd (μ := mX12_pour) (pc := 107) dX12_pour_107 ?_
        refine s_istore_n (μ := mX12_pour) (pc := 108) (L2 := [_, _, _, _, _, _]) dX12_pour_108 rfl (Nat.le_of_ble_eq_true rfl) (Nat.le_of_ble_eq_true rfl) (by simp only [List.all_cons, List.all_nil, catL_i, catL_r, h4, h5, Bool.and_self]) rfl ?_
        refine s_iinc (μ := mX12_pour) (pc := 109) (c := 1) (L2 := [_, _, _, _, _, _]) dX12_pour_109 rfl ic_1 (Nat.le_of_ble_eq_true rfl) (by simp only [List.all_cons, List.all_nil, catL_i, catL_r, h4, h5, Bool.and_self]) rfl ?_
        refine r_goto (μ := mX12_pour) (pc := 112) (tgt := 27) dX12_pour_112 (by decide) ?_
        exact WP.L (by rw [est, hpv]; first | (rw [if_neg h_99, nI_succ, nI_succ]; done) | (rw [if_pos h_99, nI_succ]; simp; done) | exact absurd rfl h_99) (ih (b + 1) (by omega) _ (by rw [est, hpv]; exact hS.up) (.int (mi 6 (24 * k + b))) (.int (pourV s (fun i => mi 6 (24 * k + i)) b)) rfl rfl)
      · refine r_iconst (μ := mX12_pour) (pc := 102) (v := 0) dX12_pour_102 ic_0 ?_
        refine r_goto (μ := mX12_pour) (pc := 103) (tgt := 107) dX12_pour_103 (by decide) ?_
        refine r_iadd (μ := mX12_pour) (pc := 107) dX12_pour_107 ?_
        refine s_istore_n (μ := mX12_pour) (pc := 108) (L2 := [_, _, _, _, _, _]) dX12_pour_108 rfl (Nat.le_of_ble_eq_true rfl) (Nat.le_of_ble_eq_true rfl) (by simp only [List.all_cons, List.all_nil, catL_i, catL_r, h4, h5, Bool.and_self]) rfl ?_
        refine s_iinc (μ := mX12_pour) (pc := 109) (c := 1) (L2 := [_, _, _, _, _, _]) dX12_pour_109 rfl ic_1 (Nat.le_of_ble_eq_true rfl) (by simp only [List.all_cons, List.all_nil, catL_i, catL_r, h4, h5, Bool.and_self]) rfl ?_
        refine r_goto (μ := mX12_pour) (pc := 112) (tgt := 27) dX12_pour_112 (by decide) ?_
        exact WP.L (by rw [est, hpv]; first | (rw [if_neg h_99, nI_succ, nI_succ]; done) | (rw [if_pos h_99, nI_succ]; simp; done) | exact absurd rfl h_99) (ih (b + 1) (by omega) _ (by rw [est, hpv]; exact hS.up) (.int (mi 6 (24 * k + b))) (.int (pourV s (fun i => mi 6 (24 * k + i)) b)) rfl rfl)
    · have hpv : pourV s (fun i => mi 6 (24 * k + i)) b = hgt s b := by unfold pourV; rw [if_pos (show mi 6 (24 * k + b) = NONEc from h_64)]
      refine r_aload_n (μ := mX12_pour) (pc := 67) dX12_pour_67 rfl rfl rfl ?_
      refine r_iload_n (μ := mX12_pour) (pc := 68) dX12_pour_68 rfl rfl ?_
      refine vP1 (μ := mX12_pour) (pc := 69) (c0 := 12) (q0 := (RX12, TX12, 34)) (μ2 := mX12_height) dX12_pour_69 rfl rfl lkX12_112 imX12_height seX12_X12_height_X12_height mwX12_height (Nat.le_of_ble_eq_true rfl) (e_height hM hS.1 (by omega)) ?_
      rw [show hgt (pourR s (fun i => mi 6 (24 * k + i)) b).1 b = hgt s b from eh]
      refine r_goto (μ := mX12_pour) (pc := 72) (tgt := 82) dX12_pour_72 (by decide) ?_
      refine s_istore (μ := mX12_pour) (pc := 82) (L2 := [_, _, _, _, _, _]) dX12_pour_82 (Nat.le_of_ble_eq_true rfl) (Nat.le_of_ble_eq_true rfl) (by simp only [List.all_cons, List.all_nil, catL_i, catL_r, h4, h5, Bool.and_self]) rfl ?_
      refine r_iload_n (μ := mX12_pour) (pc := 84) dX12_pour_84 rfl rfl ?_
      refine r_iload (μ := mX12_pour) (pc := 85) dX12_pour_85 rfl ?_
      refine r_aload_n (μ := mX12_pour) (pc := 87) dX12_pour_87 rfl rfl rfl ?_
      refine r_bipush (μ := mX12_pour) (pc := 88) (v := 8) dX12_pour_88 bp_8 ?_
      refine r_iconst (μ := mX12_pour) (pc := 90) (v := 2) dX12_pour_90 ic_2 ?_
      refine r_iload_n (μ := mX12_pour) (pc := 91) dX12_pour_91 rfl rfl ?_
      refine r_imul (μ := mX12_pour) (pc := 92) dX12_pour_92 ?_
      refine r_iadd (μ := mX12_pour) (pc := 93) dX12_pour_93 ?_
      refine r_iload (μ := mX12_pour) (pc := 94) dX12_pour_94 rfl ?_
      refine vX2 (μ := mX12_pour) (pc := 96) (c0 := 12) (q0 := (RX12, TX12, 34)) (μ2 := mX12_becomes) dX12_pour_96 rfl rfl lkX12_97 imX12_becomes seX12_X12_becomes_X12_becomes mwX12_becomes (Nat.le_of_ble_eq_true rfl) (c_becomesE hM (k := 8 + 2 * b) (by simp only [← nI_add, ← pk_mul]; rfl) (by omega)) (fun r_96 mi_96 h_96 => ?_)
      obtain ⟨rfl, rfl⟩ := h_96
      rw [hS.1, eh]
      refine r_icmp_ne (μ := mX12_pour) (pc := 99) (tgt := 106) dX12_pour_99 (by decide) (fun h_99 => ?_) (fun h_99 => ?_)
      · refine r_iconst (μ := mX12_pour) (pc := 106) (v := 1) dX12_pour_106 ic_1 ?_
        refine r_iadd (μ := mX12_pour) (pc := 107) dX12_pour_107 ?_
        refine s_istore_n (μ := mX12_pour) (pc := 108) (L2 := [_, _, _, _, _, _]) dX12_pour_108 rfl (Nat.le_of_ble_eq_true rfl) (Nat.le_of_ble_eq_true rfl) (by simp only [List.all_cons, List.all_nil, catL_i, catL_r, h4, h5, Bool.and_self]) rfl ?_
        refine s_iinc (μ := mX12_pour) (pc := 109) (c := 1) (L2 := [_, _, _, _, _, _]) dX12_pour_109 rfl ic_1 (Nat.le_of_ble_eq_true rfl) (by simp only [List.all_cons, List.all_nil, catL_i, catL_r, h4, h5, Bool.and_self]) rfl ?_
        refine r_goto (μ := mX12_pour) (pc := 112) (tgt := 27) dX12_pour_112 (by decide) ?_
        exact WP.L (by rw [est, hpv]; first | (rw [if_neg h_99, nI_succ, nI_succ]; done) | (rw [if_pos h_99, nI_succ]; simp; done) | exact absurd rfl h_99) (ih (b + 1) (by omega) _ (by rw [est, hpv]; exact hS.up) (.int (mi 6 (24 * k + b))) (.int (pourV s (fun i => mi 6 (24 * k + i)) b)) rfl rfl)
      · refine r_iconst (μ := mX12_pour) (pc := 102) (v := 0) dX12_pour_102 ic_0 ?_
        refine r_goto (μ := mX12_pour) (pc := 103) (tgt := 107) dX12_pour_103 (by decide) ?_
        refine r_iadd (μ := mX12_pour) (pc := 107) dX12_pour_107 ?_
        refine s_istore_n (μ := mX12_pour) (pc := 108) (L2 := [_, _, _, _, _, _]) dX12_pour_108 rfl (Nat.le_of_ble_eq_true rfl) (Nat.le_of_ble_eq_true rfl) (by simp only [List.all_cons, List.all_nil, catL_i, catL_r, h4, h5, Bool.and_self]) rfl ?_
        refine s_iinc (μ := mX12_pour) (pc := 109) (c := 1) (L2 := [_, _, _, _, _, _]) dX12_pour_109 rfl ic_1 (Nat.le_of_ble_eq_true rfl) (by simp only [List.all_cons, List.all_nil, catL_i, catL_r, h4, h5, Bool.and_self]) rfl ?_
        refine r_goto (μ := mX12_pour) (pc := 112) (tgt := 27) dX12_pour_112 (by decide) ?_
        exact WP.L (by rw [est, hpv]; first | (rw [if_neg h_99, nI_succ, nI_succ]; done) | (rw [if_pos h_99, nI_succ]; simp; done) | exact absurd rfl h_99) (ih (b + 1) (by omega) _ (by rw [est, hpv]; exact hS.up) (.int (mi 6 (24 * k + b))) (.int (pourV s (fun i => mi 6 (24 * k + i)) b)) rfl rfl)

theorem c_pour {d : Nat} {mi : MI} {mr : MR} (hM : MB mr) {s : Rw} (hs : mi 1 = s) {n k z : Nat} (hn : s 0 = nI n) (hn10 : n ≤ 10) (hk : k < 4) (hz : mi 5 k = nI z) (hz24 : z ≤ 24) (h4 : ¬ mi 4 k < 0) : CP (d + 2) mX12_pour [.ref 0, .int (nI k)] shM mi mr 0 0 (PX shM mr (fun r mi2 => r = nI (pourR s (fun i => mi 6 (24 * k + i)) (min z n)).2 ∧ SR mi mi2 (pourR s (fun i => mi 6 (24 * k + i)) (min z n)).1)) := by
  refine CP.of (L := [_, _, _, _, _, _]) (by decide) rfl rfl (Nat.le_of_ble_eq_true rfl) ?_
  refine r_iload_n (μ := mX12_pour) (pc := 0) dX12_pour_0 rfl rfl ?_
  refine sP1 (μ := mX12_pour) (pc := 1) (μ2 := mX12_isSheet) dX12_pour_1 lkX12_312 stX12_isSheet mwX12_isSheet (Nat.le_of_ble_eq_true rfl) c_isSheet ?_
  refine r_if_ne (μ := mX12_pour) (pc := 4) (tgt := 10) dX12_pour_4 (by decide) (fun h_4 => ?_) (fun h_4 => absurd h_4 (b2i_ne (inB_nI (by omega) (by omega))))
  refine r_aload_n (μ := mX12_pour) (pc := 10) dX12_pour_10 rfl rfl rfl ?_
  refine r_getR (μ := mX12_pour) (pc := 11) dX12_pour_11 fpX12_19 rfl rfl (by decide) (hM _ _ rfl) ?_
  refine r_iload_n (μ := mX12_pour) (pc := 14) dX12_pour_14 rfl rfl ?_
  refine r_iaload (μ := mX12_pour) (pc := 15) (j := k) dX12_pour_15 rfl rfl (by omega) (by decide) ?_
  refine r_if_ge (μ := mX12_pour) (pc := 16) (tgt := 23) dX12_pour_16 (by decide) (fun h_16 => ?_) (fun h_16 => absurd (Int32.not_lt.mp h4) h_16)
  refine r_iconst (μ := mX12_pour) (pc := 23) (v := 0) dX12_pour_23 ic_0 ?_
  refine s_istore_n (μ := mX12_pour) (pc := 24) (L2 := [_, _, _, _, _, _]) dX12_pour_24 rfl (Nat.le_of_ble_eq_true rfl) (Nat.le_of_ble_eq_true rfl) rfl rfl ?_
  refine r_iconst (μ := mX12_pour) (pc := 25) (v := 0) dX12_pour_25 ic_0 ?_
  refine s_istore_n (μ := mX12_pour) (pc := 26) (L2 := [_, _, _, _, _, _]) dX12_pour_26 rfl (Nat.le_of_ble_eq_true rfl) (Nat.le_of_ble_eq_true rfl) rfl rfl ?_
  exact lp_pour hM hs hn hn10 hk hz hz24 rfl (fun mi2 h => PX_i ⟨rfl, h⟩) _ 0 (Nat.zero_add _) mi (SR.rf hs) _ _ rfl rfl

