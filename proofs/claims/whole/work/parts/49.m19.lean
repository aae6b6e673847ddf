theorem c_trim_bad {d : Nat} {mi : MI} {mr : MR} (hM : MB mr) {tp : Nat} (ht : mi 0 17 = nI tp) (ht96 : tp ≤ 96) {x : Int32} (hb : ¬ inB x 0 tp = true) : CP (d + 2) mX12_trim [.ref 0, .int x] shM mi mr 0 0 (PI (BADc) shM mi mr) := by
  refine CP.of (L := [_, _]) (by decide) rfl rfl (Nat.le_of_ble_eq_true rfl) ?_
  refine r_iload_n (μ := mX12_trim) (pc := 0) dX12_trim_0 rfl rfl ?_
  refine r_i2l (μ := mX12_trim) (pc := 1) dX12_trim_1 ?_
  refine r_lconst (μ := mX12_trim) (pc := 2) (v := 0) dX12_trim_2 lc_0 ?_
  refine r_aload_n (μ := mX12_trim) (pc := 3) dX12_trim_3 rfl rfl rfl ?_
  refine r_getI (μ := mX12_trim) (pc := 4) dX12_trim_4 fpX12_215 rfl rfl (by decide) ?_
  refine r_i2l (μ := mX12_trim) (pc := 7) dX12_trim_7 ?_
  refine sP3 (μ := mX12_trim) (pc := 8) (μ2 := mX12_isIn) dX12_trim_8 lkX12_65 stX12_isIn mwX12_isIn (Nat.le_of_ble_eq_true rfl) c_isIn ?_
  rw [isIn_k il_0 (show (mi 0 17).toInt64.toInt = (tp : Int) by rw [ht]; simp only [Int32.toInt_toInt64]; exact nI_toInt (by omega))]
  refine r_if_ne (μ := mX12_trim) (pc := 11) (tgt := 17) dX12_trim_11 (by decide) (fun h_11 => ?_) (fun h_11 => ?_)
  · have h_11 := b2i_1 h_11
    exact absurd h_11 hb
  · have h_11 := b2i_0 h_11
    refine r_ldc (μ := mX12_trim) (pc := 14) dX12_trim_14 ctX12_78 ?_
    exact r_iret (μ := mX12_trim) (pc := 16) dX12_trim_16 rfl rfl (PI_i rfl)

theorem c_trim {d : Nat} {mi : MI} {mr : MR} (hM : MB mr) {tp : Nat} (ht : mi 0 17 = nI tp) (ht96 : tp ≤ 96) {x : Int32} (hb : inB x 0 tp = true) : CP (d + 2) mX12_trim [.ref 0, .int x] shM mi mr 0 0 (PX shM mr (fun r mi2 => r = x ∧ mi2 = upI mi 0 17 x)) := by
  refine CP.of (L := [_, _]) (by decide) rfl rfl (Nat.le_of_ble_eq_true rfl) ?_
  refine r_iload_n (μ := mX12_trim) (pc := 0) dX12_trim_0 rfl rfl ?_
  refine r_i2l (μ := mX12_trim) (pc := 1) dX12_trim_1 ?_
  refine r_lconst (μ := mX12_trim) (pc := 2) (v := 0) dX12_trim_2 lc_0 ?_
  refine r_aload_n (μ := mX12_trim) (pc := 3) dX12_trim_3 rfl rfl rfl ?_
  refine r_getI (μ := mX12_trim) (pc := 4) dX12_trim_4 fpX12_215 rfl rfl (by decide) ?_
  refine r_i2l (μ := mX12_trim) (pc := 7) dX12_trim_7 ?_
  refine sP3 (μ := mX12_trim) (pc := 8) (μ2 := mX12_isIn) dX12_trim_8 lkX12_65 stX12_isIn mwX12_isIn (Nat.le_of_ble_eq_true rfl) c_isIn ?_
  rw [isIn_k il_0 (show (mi 0 17).toInt64.toInt = (tp : Int) by rw [ht]; simp only [Int32.toInt_toInt64]; exact nI_toInt (by omega))]
  refine r_if_ne (μ := mX12_trim) (pc := 11) (tgt := 17) dX12_trim_11 (by decide) (fun h_11 => ?_) (fun h_11 => absurd h_11 (b2i_ne hb))
  refine r_aload_n (μ := mX12_trim) (pc := 17) dX12_trim_17 rfl rfl rfl ?_
  refine r_iload_n (μ := mX12_trim) (pc := 18) dX12_trim_18 rfl rfl ?_
  refine r_putI (μ := mX12_trim) (pc := 19) dX12_trim_19 fwX12_215 rfl (by decide) rfl ?_
  refine r_iload_n (μ := mX12_trim) (pc := 22) dX12_trim_22 rfl rfl ?_
  exact r_iret (μ := mX12_trim) (pc := 23) dX12_trim_23 rfl rfl (PX_i ⟨rfl, rfl⟩)

theorem c_feed_full {d : Nat} {mi : MI} {mr : MR} (hM : MB mr) {tp : Nat} (ht : mi 0 17 = nI tp) (ht96 : tp ≤ 96) {a b c : Int32} (hb : 84 < tp) : CP (d + 2) mX12_feed [.ref 0, .int a, .int b, .int c] shM mi mr 0 0 (PI (FULLc) shM mi mr) := by
  refine CP.of (L := [_, _, _, _, _, _]) (by decide) rfl rfl (Nat.le_of_ble_eq_true rfl) ?_
  refine r_aload_n (μ := mX12_feed) (pc := 0) dX12_feed_0 rfl rfl rfl ?_
  refine r_getI (μ := mX12_feed) (pc := 1) dX12_feed_1 fpX12_215 rfl rfl (by decide) ?_
  rw [ht]
  refine r_bipush (μ := mX12_feed) (pc := 4) (v := 12) dX12_feed_4 bp_12 ?_
  refine r_iadd (μ := mX12_feed) (pc := 6) dX12_feed_6 ?_
  rw [show nI tp + 12 = nI (tp + 12) from by rw [← nI_add]; rfl]
  refine r_bipush (μ := mX12_feed) (pc := 7) (v := 96) dX12_feed_7 bp_96 ?_
  refine r_icmp_le (μ := mX12_feed) (pc := 9) (tgt := 15) dX12_feed_9 (by decide) (fun h_9 => absurd h_9 (nI_geC (a := 96) (b := tp + 12) rfl (by omega) (by omega))) (fun h_9 => ?_)
  refine r_ldc (μ := mX12_feed) (pc := 12) dX12_feed_12 ctX12_79 ?_
  exact r_iret (μ := mX12_feed) (pc := 14) dX12_feed_14 rfl rfl (PI_i rfl)

theorem lp_feed {d : Nat} {mi : MI} {mr : MR} {Q : QT} (hM : MB mr) {tp : Nat} (ht : mi 0 17 = nI tp) (ht84 : tp ≤ 84) {a b c : Int32} (hq : Q (some (.int (nI (tp + 12)))) shM (fdM mi tp a b c 12) mr) :
    ∀ (k i : Nat), i + k = 12 → ∀ x5 : Value, catL x5 = true → WP d mX12_feed 18 [.ref 0, .int a, .int b, .int c, .int (nI i), x5] [] shM (fdM mi tp a b c i) mr 0 0 Q := by
  intro k
  induction k with
  | zero =>
    intro i hk x5 hx5
    obtain rfl : i = 12 := by omega
    refine r_iload (μ := mX12_feed) (pc := 18) dX12_feed_18 rfl ?_
    refine r_bipush (μ := mX12_feed) (pc := 20) (v := 12) dX12_feed_20 bp_12 ?_
    refine r_icmp_ge (μ := mX12_feed) (pc := 22) (tgt := 91) dX12_feed_22 (by decide) (fun h_22 => ?_) (fun h_22 => absurd (nI_leC (a := 12) rfl (by omega) (by omega)) h_22)
    refine r_aload_n (μ := mX12_feed) (pc := 91) dX12_feed_91 rfl rfl rfl ?_
    refine r_getI (μ := mX12_feed) (pc := 92) dX12_feed_92 fpX12_215 rfl rfl (by decide) ?_
    rw [fdM_17 ht]
    exact r_iret (μ := mX12_feed) (pc := 95) dX12_feed_95 rfl rfl hq
  | succ k ih =>
    intro i hk x5 hx5
    have h17 := fdM_17 (a := a) (b := b) (c := c) ht i
    refine r_iload (μ := mX12_feed) (pc := 18) dX12_feed_18 rfl ?_
    refine r_bipush (μ := mX12_feed) (pc := 20) (v := 12) dX12_feed_20 bp_12 ?_
    refine r_icmp_ge (μ := mX12_feed) (pc := 22) (tgt := 91) dX12_feed_22 (by decide) (fun h_22 => absurd h_22 (nI_geC (b := 12) rfl (by omega) (by decide))) (fun h_22 => ?_)
    refine r_iload (μ := mX12_feed) (pc := 25) dX12_feed_25 rfl ?_
    refine r_iconst (μ := mX12_feed) (pc := 27) (v := 4) dX12_feed_27 ic_4 ?_
    refine r_icmp_ge (μ := mX12_feed) (pc := 28) (tgt := 35) dX12_feed_28 (by decide) (fun h_28 => ?_) (fun h_28 => ?_)
    · have h28 : ¬ i < 4 := fun z => absurd ((nI_leI (a := 4) (by omega) (by omega)).mp h_28) (by omega)
      refine r_iload (μ := mX12_feed) (pc := 35) dX12_feed_35 rfl ?_
      refine r_bipush (μ := mX12_feed) (pc := 37) (v := 8) dX12_feed_37 bp_8 ?_
      refine r_icmp_ge (μ := mX12_feed) (pc := 39) (tgt := 46) dX12_feed_39 (by decide) (fun h_39 => ?_) (fun h_39 => ?_)
      · have h39 : ¬ i < 8 := fun z => absurd ((nI_leI (a := 8) (by omega) (by omega)).mp h_39) (by omega)
        have hfd : fdB a b c i = c >>> ((24 - 8 * nI (i % 4)) &&& 31) &&& 255 := by unfold fdB; rw [if_neg h28, if_neg h39]
        refine r_iload_n (μ := mX12_feed) (pc := 46) dX12_feed_46 rfl rfl ?_
        refine s_istore (μ := mX12_feed) (pc := 47) (L2 := [_, _, _, _, _, _]) dX12_feed_47 (Nat.le_of_ble_eq_true rfl) (Nat.le_of_ble_eq_true rfl) (by simp only [List.all_cons, List.all_nil, catL_i, catL_r, hx5, Bool.and_self]) rfl ?_
        refine r_aload_n (μ := mX12_feed) (pc := 49) dX12_feed_49 rfl rfl rfl ?_
        refine r_getR (μ := mX12_feed) (pc := 50) dX12_feed_50 fpX12_46 rfl rfl (by decide) (hM _ _ rfl) ?_
        refine r_aload_n (μ := mX12_feed) (pc := 53) dX12_feed_53 rfl rfl rfl ?_
        refine r_getI (μ := mX12_feed) (pc := 54) dX12_feed_54 fpX12_215 rfl rfl (by decide) ?_
        rw [h17]
        refine r_iload (μ := mX12_feed) (pc := 57) dX12_feed_57 rfl ?_
        refine r_bipush (μ := mX12_feed) (pc := 59) (v := 24) dX12_feed_59 bp_24 ?_
        refine r_bipush (μ := mX12_feed) (pc := 61) (v := 8) dX12_feed_61 bp_8 ?_
        refine r_iload (μ := mX12_feed) (pc := 63) dX12_feed_63 rfl ?_
        refine r_iconst (μ := mX12_feed) (pc := 65) (v := 4) dX12_feed_65 ic_4 ?_
        refine r_irem (μ := mX12_feed) (pc := 66) dX12_feed_66 (by decide) ?_
        rw [show nI i - nI i / 4 * 4 = nI (i % 4) from pk_rem (d := 4) (by omega) (by omega) (by omega)]
        refine r_imul (μ := mX12_feed) (pc := 67) dX12_feed_67 ?_
        refine r_isub (μ := mX12_feed) (pc := 68) dX12_feed_68 ?_
        refine r_ishr (μ := mX12_feed) (pc := 69) dX12_feed_69 ?_
        refine r_sipush (μ := mX12_feed) (pc := 70) (v := 255) dX12_feed_70 sp_255 ?_
        refine r_iand (μ := mX12_feed) (pc := 73) dX12_feed_73 ?_
        refine r_iastore (μ := mX12_feed) (pc := 74) (j := (tp + i)) dX12_feed_74 rfl rfl (by show tp + i < 96; omega) (by decide) ?_
        refine r_aload_n (μ := mX12_feed) (pc := 75) dX12_feed_75 rfl rfl rfl ?_
        refine r_dup (μ := mX12_feed) (pc := 76) dX12_feed_76 rfl ?_
        refine r_getI (μ := mX12_feed) (pc := 77) dX12_feed_77 fpX12_215 rfl rfl (by decide) ?_
        rw [upI_ne (by decide), h17]
        refine r_iconst (μ := mX12_feed) (pc := 80) (v := 1) dX12_feed_80 ic_1 ?_
        refine r_iadd (μ := mX12_feed) (pc := 81) dX12_feed_81 ?_
        refine r_putI (μ := mX12_feed) (pc := 82) dX12_feed_82 fwX12_215 rfl (by decide) rfl ?_
        refine s_iinc (μ := mX12_feed) (pc := 85) (c := 1) (L2 := [_, _, _, _, _, _]) dX12_feed_85 rfl ic_1 (Nat.le_of_ble_eq_true rfl) (by simp only [List.all_cons, List.all_nil, catL_i, catL_r, hx5, Bool.and_self]) rfl ?_
        refine r_goto (μ := mX12_feed) (pc := 88) (tgt := 18) dX12_feed_88 (by decide) ?_
        have e1 : fdM mi tp a b c (i + 1) = upI (upI (fdM mi tp a b c i) 13 (tp + i) (fdB a b c i)) 0 17 (nI (tp + i) + 1) := by rw [← nI_succ]; rfl
        rw [hfd] at e1
        exact WP.LM (by rw [nI_succ]) e1.symm (ih (i + 1) (by omega) _ rfl)
      · have h39 : i < 8 := by have := mt (nI_leI (a := 8) (by omega) (by omega)).mpr h_39; omega
        have hfd : fdB a b c i = b >>> ((24 - 8 * nI (i % 4)) &&& 31) &&& 255 := by unfold fdB; rw [if_neg h28, if_pos h39]
        refine r_iload_n (μ := mX12_feed) (pc := 42) dX12_feed_42 rfl rfl ?_
        refine r_goto (μ := mX12_feed) (pc := 43) (tgt := 47) dX12_feed_43 (by decide) ?_
        refine s_istore (μ := mX12_feed) (pc := 47) (L2 := [_, _, _, _, _, _]) dX12_feed_47 (Nat.le_of_ble_eq_true rfl) (Nat.le_of_ble_eq_true rfl) (by simp only [List.all_cons, List.all_nil, catL_i, catL_r, hx5, Bool.and_self]) rfl ?_
        refine r_aload_n (μ := mX12_feed) (pc := 49) dX12_feed_49 rfl rfl rfl ?_
        refine r_getR (μ := mX12_feed) (pc := 50) dX12_feed_50 fpX12_46 rfl rfl (by decide) (hM _ _ rfl) ?_
        refine r_aload_n (μ := mX12_feed) (pc := 53) dX12_feed_53 rfl rfl rfl ?_
        refine r_getI (μ := mX12_feed) (pc := 54) dX12_feed_54 fpX12_215 rfl rfl (by decide) ?_
        rw [h17]
        refine r_iload (μ := mX12_feed) (pc := 57) dX12_feed_57 rfl ?_
        refine r_bipush (μ := mX12_feed) (pc := 59) (v := 24) dX12_feed_59 bp_24 ?_
        refine r_bipush (μ := mX12_feed) (pc := 61) (v := 8) dX12_feed_61 bp_8 ?_
        refine r_iload (μ := mX12_feed) (pc := 63) dX12_feed_63 rfl ?_
        refine r_iconst (μ := mX12_feed) (pc := 65) (v := 4) dX12_feed_65 ic_4 ?_
        refine r_irem (μ := mX12_feed) (pc := 66) dX12_feed_66 (by decide) ?_
        rw [show nI i - nI i / 4 * 4 = nI (i % 4) from pk_rem (d := 4) (by omega) (by omega) (by omega)]
        refine r_imul (μ := mX12_feed) (pc := 67) dX12_feed_67 ?_
        refine r_isub (μ := mX12_feed) (pc := 68) dX12_feed_68 ?_
        refine r_ishr (μ := mX12_feed) (pc := 69) dX12_feed_69 ?_
        refine r_sipush (μ := mX12_feed) (pc := 70) (v := 255) dX12_feed_70 sp_255 ?_
        refine r_iand (μ := mX12_feed) (pc := 73) dX12_feed_73 ?_
        refine r_iastore (μ := mX12_feed) (pc := 74) (j := (tp + i)) dX12_feed_74 rfl rfl (by show tp + i < 96; omega) (by decide) ?_
        refine r_aload_n (μ := mX12_feed) (pc := 75) dX12_feed_75 rfl rfl rfl ?_
        refine r_dup (μ := mX12_feed) (pc := 76) dX12_feed_76 rfl ?_
        refine r_getI (μ := mX12_feed) (pc := 77) dX12_feed_77 fpX12_215 rfl rfl (by decide) ?_
        rw [upI_ne (by decide), h17]
        refine r_iconst (μ := mX12_feed) (pc := 80) (v := 1) dX12_feed_80 ic_1 ?_
        refine r_iadd (μ := mX12_feed) (pc := 81) dX12_feed_81 ?_
        refine r_putI (μ := mX12_feed) (pc := 82) dX12_feed_82 fwX12_215 rfl (by decide) rfl ?_
        refine s_iinc (μ := mX12_feed) (pc := 85) (c := 1) (L2 := [_, _, _, _, _, _]) dX12_feed_85 rfl ic_1 (Nat.le_of_ble_eq_true rfl) (by simp only [List.all_cons, List.all_nil, catL_i, catL_r, hx5, Bool.and_self]) rfl ?_
        refine r_goto (μ := mX12_feed) (pc := 88) (tgt := 18) dX12_feed_88 (by decide) ?_
        have e1 : fdM mi tp a b c (i + 1) = upI (upI (fdM mi tp a b c i) 13 (tp + i) (fdB a b c i)) 0 17 (nI (tp + i) + 1) := by rw [← nI_succ]; rfl
        rw [hfd] at e1
        exact WP.LM (by rw [nI_succ]) e1.symm (ih (i + 1) (by omega) _ rfl)
    · have h28 : i < 4 := by have := mt (nI_leI (a := 4) (by omega) (by omega)).mpr h_28; omega
      have hfd : fdB a b c i = a >>> ((24 - 8 * nI (i % 4)) &&& 31) &&& 255 := by unfold fdB; rw [if_pos h28]
      refine r_iload_n (μ := mX12_feed) (pc := 31) dX12_feed_31 rfl rfl ?_
      refine r_goto (μ := mX12_feed) (pc := 32) (tgt := 47) dX12_feed_32 (by decide) ?_
      refine s_istore (μ := mX12_feed) (pc := 47) (L2 := [_, _, _, _, _, _]) dX12_feed_47 (Nat.le_of_ble_eq_true rfl) (Nat.le_of_ble_eq_true rfl) (by simp only [List.all_cons, List.all_nil, catL_i, catL_r, hx5, Bool.and_self]) rfl ?_
      refine r_aload_n (μ := mX12_feed) (pc := 49) dX12_feed_49 rfl rfl rfl ?_
      refine r_getR (μ := mX12_feed) (pc := 50) dX12_feed_50 fpX12_46 rfl rfl (by decide) (hM _ _ rfl) ?_
      refine r_aload_n (μ := mX12_feed) (pc := 53) dX12_feed_53 rfl rfl rfl ?_
      refine r_getI (μ := mX12_feed) (pc := 54) dX12_feed_54 fpX12_215 rfl rfl (by decide) ?_
      rw [h17]
      refine r_iload (μ := mX12_feed) (pc := 57) dX12_feed_57 rfl ?_
      refine r_bipush (μ := mX12_feed) (pc := 59) (v := 24) dX12_feed_59 bp_24 ?_
      refine r_bipush (μ := mX12_feed) (pc := 61) (v := 8) dX12_feed_61 bp_8 ?_
      refine r_iload (μ := mX12_feed) (pc := 63) dX12_feed_63 rfl ?_
      refine r_iconst (μ := mX12_feed) (pc := 65) (v := 4) dX12_feed_65 ic_4 ?_
      refine r_irem (μ := mX12_feed) (pc := 66) dX12_feed_66 (by decide) ?_
      rw [show nI i - nI i / 4 * 4 = nI (i % 4) from pk_rem (d := 4) (by omega) (by omega) (by omega)]
      refine r_imul (μ := mX12_feed) (pc := 67) dX12_feed_67 ?_
      refine r_isub (μ := mX12_feed) (pc := 68) dX12_feed_68 ?_
      refine r_ishr (μ := mX12_feed) (pc := 69) dX12_feed_69 ?_
      refine r_sipush (μ := mX12_feed) (pc := 70) (v := 255) dX12_feed_70 sp_255 ?_
      refine r_iand (μ := mX12_feed) (pc := 73) dX12_feed_73 ?_
      refine r_iastore (μ := mX12_feed) (pc := 74) (j := (tp + i)) dX12_feed_74 rfl rfl (by show tp + i < 96; omega) (by decide) ?_
      refine r_aload_n (μ := mX12_feed) (pc := 75) dX12_feed_75 rfl rfl rfl ?_
      refine r_dup (μ := mX12_feed) (pc := 76) dX12_feed_76 rfl ?_
      refine r_getI (μ := mX12_feed) (pc := 77) dX12_feed_77 fpX12_215 rfl rfl (by decide) ?_
      rw [upI_ne (by decide), h17]
      refine r_iconst (μ := mX12_feed) (pc := 80) (v := 1) dX12_feed_80 ic_1 ?_
      refine r_iadd (μ := mX12_feed) (pc := 81) dX12_feed_81 ?_
      refine r_putI (μ := mX12_feed) (pc := 82) dX12_feed_82 fwX12_215 rfl (by decide) rfl ?_
      refine s_iinc (μ := mX12_feed) (pc := 85) (c := 1) (L2 := [_, _, _, _, _, _]) dX12_feed_85 rfl ic_1 (Nat.le_of_ble_eq_true rfl) (by simp only [List.all_cons, List.all_nil, catL_i, catL_r, hx5, Bool.and_self]) rfl ?_
      refine r_goto (μ := mX12_feed) (pc := 88) (tgt := 18) dX12_feed_88 (by decide) ?_
      have e1 : fdM mi tp a b c (i + 1) = upI (upI (fdM mi tp a b c i) 13 (tp + i) (fdB a b c i)) 0 17 (nI (tp + i) + 1) := by rw [← nI_succ]; rfl
      rw [hfd] at e1
      exact WP.LM (by rw [nI_succ]) e1.symm (ih (i + 1) (by omega) _ rfl)

theorem c_feed {d : Nat} {mi : MI} {mr : MR} (hM : MB mr) {tp : Nat} (ht : mi 0 17 = nI tp) (ht84 : tp ≤ 84) {a b c : Int32} : CP (d + 2) mX12_feed [.ref 0, .int a, .int b, .int c] shM mi mr 0 0 (PX shM mr (fun r mi2 => r = nI (tp + 12) ∧ mi2 = (fdM mi tp a b c 12))) := by
  refine CP.of (L := [_, _, _, _, _, _]) (by decide) rfl rfl (Nat.le_of_ble_eq_true rfl) ?_
  refine r_aload_n (μ := mX12_feed) (pc := 0) dX12_feed_0 rfl rfl rfl ?_
  refine r_getI (μ := mX12_feed) (pc := 1) dX12_feed_1 fpX12_215 rfl rfl (by decide) ?_
  rw [ht]
  refine r_bipush (μ := mX12_feed) (pc := 4) (v := 12) dX12_feed_4 bp_12 ?_
  refine r_iadd (μ := mX12_feed) (pc := 6) dX12_feed_6 ?_
  rw [show nI tp + 12 = nI (tp + 12) from by rw [← nI_add]; rfl]
  refine r_bipush (μ := mX12_feed) (pc := 7) (v := 96) dX12_feed_7 bp_96 ?_
  refine r_icmp_le (μ := mX12_feed) (pc := 9) (tgt := 15) dX12_feed_9 (by decide) (fun h_9 => ?_) (fun h_9 => absurd (nI_leC (a := tp + 12) (b := 96) rfl (by omega) (by omega)) h_9)
  refine r_iconst (μ := mX12_feed) (pc := 15) (v := 0) dX12_feed_15 ic_0 ?_
  refine s_istore (μ := mX12_feed) (pc := 16) (L2 := [_, _, _, _, _, _]) dX12_feed_16 (Nat.le_of_ble_eq_true rfl) (Nat.le_of_ble_eq_true rfl) rfl rfl ?_
  exact lp_feed hM ht ht84 (PX_i ⟨rfl, rfl⟩) 12 0 rfl _ rfl

