def cr16 (mi : MI) (f a : Nat) : Nat → MI
  | 0 => mi
  | i + 1 => upI (cr16 mi f a i) 16 i (mi 6 (24 * f + a + i))
def cw6 (mi : MI) (t b : Nat) : Nat → MI
  | 0 => mi
  | i + 1 => upI (cw6 mi t b i) 6 (24 * t + b + i) (mi 16 i)
theorem cr16_o {mi : MI} {f a x : Nat} (h : x ≠ 16) : ∀ i, cr16 mi f a i x = mi x
  | 0 => rfl
  | i + 1 => (upI_ne h).trans (cr16_o h i)
theorem cw6_o {mi : MI} {t b x : Nat} (h : x ≠ 6) : ∀ i, cw6 mi t b i x = mi x
  | 0 => rfl
  | i + 1 => (upI_ne h).trans (cw6_o h i)

theorem c_copy_bad {d : Nat} {mi : MI} {mr : MR} (hM : MB mr) {x a y b c : Int32} (hb : ¬ (inB x 0 3 = true ∧ inB y 0 3 = true)) : CP (d + 2) mX12_copy [.ref 0, .int x, .int a, .int y, .int b, .int c] shM mi mr 0 0 (PI (BADc) shM mi mr) := by
  refine CP.of (L := [_, _, _, _, _, _, _]) (by decide) rfl rfl (Nat.le_of_ble_eq_true rfl) ?_
  refine r_iload_n (μ := mX12_copy) (pc := 0) dX12_copy_0 rfl rfl ?_
  refine sP1 (μ := mX12_copy) (pc := 1) (μ2 := mX12_isSheet) dX12_copy_1 lkX12_312 stX12_isSheet mwX12_isSheet (Nat.le_of_ble_eq_true rfl) c_isSheet ?_
  refine r_if_eq (μ := mX12_copy) (pc := 4) (tgt := 14) dX12_copy_4 (by decide) (fun h_4 => ?_) (fun h_4 => ?_)
  · have h_4 := b2i_0 h_4
    refine r_ldc (μ := mX12_copy) (pc := 14) dX12_copy_14 ctX12_78 ?_
    exact r_iret (μ := mX12_copy) (pc := 16) dX12_copy_16 rfl rfl (PI_i rfl)
  · have h_4 := b2i_1 h_4
    refine r_iload_n (μ := mX12_copy) (pc := 7) dX12_copy_7 rfl rfl ?_
    refine sP1 (μ := mX12_copy) (pc := 8) (μ2 := mX12_isSheet) dX12_copy_8 lkX12_312 stX12_isSheet mwX12_isSheet (Nat.le_of_ble_eq_true rfl) c_isSheet ?_
    refine r_if_ne (μ := mX12_copy) (pc := 11) (tgt := 17) dX12_copy_11 (by decide) (fun h_11 => ?_) (fun h_11 => ?_)
    · have h_11 := b2i_1 h_11
      exact absurd ⟨h_4, h_11⟩ hb
    · have h_11 := b2i_0 h_11
      refine r_ldc (μ := mX12_copy) (pc := 14) dX12_copy_14 ctX12_78 ?_
      exact r_iret (μ := mX12_copy) (pc := 16) dX12_copy_16 rfl rfl (PI_i rfl)

theorem c_copy_none {d : Nat} {mi : MI} {mr : MR} (hM : MB mr) {f t : Nat} (hf : f < 4) (ht : t < 4) {a b c : Int32} (hs : mi 4 f < 0 ∨ mi 4 t < 0) : CP (d + 2) mX12_copy [.ref 0, .int (nI f), .int a, .int (nI t), .int b, .int c] shM mi mr 0 0 (PI (NOTHINGc) shM mi mr) := by
  refine CP.of (L := [_, _, _, _, _, _, _]) (by decide) rfl rfl (Nat.le_of_ble_eq_true rfl) ?_
  refine r_iload_n (μ := mX12_copy) (pc := 0) dX12_copy_0 rfl rfl ?_
  refine sP1 (μ := mX12_copy) (pc := 1) (μ2 := mX12_isSheet) dX12_copy_1 lkX12_312 stX12_isSheet mwX12_isSheet (Nat.le_of_ble_eq_true rfl) c_isSheet ?_
  refine r_if_eq (μ := mX12_copy) (pc := 4) (tgt := 14) dX12_copy_4 (by decide) (fun h_4 => absurd h_4 (b2i_ne (inB_nI (by omega) (by omega)))) (fun h_4 => ?_)
  refine r_iload_n (μ := mX12_copy) (pc := 7) dX12_copy_7 rfl rfl ?_
  refine sP1 (μ := mX12_copy) (pc := 8) (μ2 := mX12_isSheet) dX12_copy_8 lkX12_312 stX12_isSheet mwX12_isSheet (Nat.le_of_ble_eq_true rfl) c_isSheet ?_
  refine r_if_ne (μ := mX12_copy) (pc := 11) (tgt := 17) dX12_copy_11 (by decide) (fun h_11 => ?_) (fun h_11 => absurd h_11 (b2i_ne (inB_nI (by omega) (by omega))))
  refine r_aload_n (μ := mX12_copy) (pc := 17) dX12_copy_17 rfl rfl rfl ?_
  refine r_getR (μ := mX12_copy) (pc := 18) dX12_copy_18 fpX12_19 rfl rfl (by decide) (hM _ _ rfl) ?_
  refine r_iload_n (μ := mX12_copy) (pc := 21) dX12_copy_21 rfl rfl ?_
  refine r_iaload (μ := mX12_copy) (pc := 22) (j := f) dX12_copy_22 rfl rfl (by omega) (by decide) ?_
  refine r_if_lt (μ := mX12_copy) (pc := 23) (tgt := 35) dX12_copy_23 (by decide) (fun h_23 => ?_) (fun h_23 => ?_)
  · refine r_ldcw (μ := mX12_copy) (pc := 35) dX12_copy_35 ctX12_318 ?_
    exact r_iret (μ := mX12_copy) (pc := 38) dX12_copy_38 rfl rfl (PI_i rfl)
  · refine r_aload_n (μ := mX12_copy) (pc := 26) dX12_copy_26 rfl rfl rfl ?_
    refine r_getR (μ := mX12_copy) (pc := 27) dX12_copy_27 fpX12_19 rfl rfl (by decide) (hM _ _ rfl) ?_
    refine r_iload_n (μ := mX12_copy) (pc := 30) dX12_copy_30 rfl rfl ?_
    refine r_iaload (μ := mX12_copy) (pc := 31) (j := t) dX12_copy_31 rfl rfl (by omega) (by decide) ?_
    refine r_if_ge (μ := mX12_copy) (pc := 32) (tgt := 39) dX12_copy_32 (by decide) (fun h_32 => ?_) (fun h_32 => ?_)
    · exact (hs.elim h_23 (fun q => Int32.not_lt.mpr h_32 q)).elim
    · refine r_ldcw (μ := mX12_copy) (pc := 35) dX12_copy_35 ctX12_318 ?_
      exact r_iret (μ := mX12_copy) (pc := 38) dX12_copy_38 rfl rfl (PI_i rfl)

theorem c_copy_kind {d : Nat} {mi : MI} {mr : MR} (hM : MB mr) {f t : Nat} (hf : f < 4) (ht : t < 4) {a b c : Int32} (hs1 : ¬ mi 4 f < 0) (hs2 : ¬ mi 4 t < 0) (hne : ¬ mi 4 f = mi 4 t) : CP (d + 2) mX12_copy [.ref 0, .int (nI f), .int a, .int (nI t), .int b, .int c] shM mi mr 0 0 (PI (KINDc) shM mi mr) := by
  refine CP.of (L := [_, _, _, _, _, _, _]) (by decide) rfl rfl (Nat.le_of_ble_eq_true rfl) ?_
  refine r_iload_n (μ := mX12_copy) (pc := 0) dX12_copy_0 rfl rfl ?_
  refine sP1 (μ := mX12_copy) (pc := 1) (μ2 := mX12_isSheet) dX12_copy_1 lkX12_312 stX12_isSheet mwX12_isSheet (Nat.le_of_ble_eq_true rfl) c_isSheet ?_
  refine r_if_eq (μ := mX12_copy) (pc := 4) (tgt := 14) dX12_copy_4 (by decide) (fun h_4 => absurd h_4 (b2i_ne (inB_nI (by omega) (by omega)))) (fun h_4 => ?_)
  refine r_iload_n (μ := mX12_copy) (pc := 7) dX12_copy_7 rfl rfl ?_
  refine sP1 (μ := mX12_copy) (pc := 8) (μ2 := mX12_isSheet) dX12_copy_8 lkX12_312 stX12_isSheet mwX12_isSheet (Nat.le_of_ble_eq_true rfl) c_isSheet ?_
  refine r_if_ne (μ := mX12_copy) (pc := 11) (tgt := 17) dX12_copy_11 (by decide) (fun h_11 => ?_) (fun h_11 => absurd h_11 (b2i_ne (inB_nI (by omega) (by omega))))
  refine r_aload_n (μ := mX12_copy) (pc := 17) dX12_copy_17 rfl rfl rfl ?_
  refine r_getR (μ := mX12_copy) (pc := 18) dX12_copy_18 fpX12_19 rfl rfl (by decide) (hM _ _ rfl) ?_
  refine r_iload_n (μ := mX12_copy) (pc := 21) dX12_copy_21 rfl rfl ?_
  refine r_iaload (μ := mX12_copy) (pc := 22) (j := f) dX12_copy_22 rfl rfl (by omega) (by decide) ?_
  refine r_if_lt (μ := mX12_copy) (pc := 23) (tgt := 35) dX12_copy_23 (by decide) (fun h_23 => absurd h_23 hs1) (fun h_23 => ?_)
  refine r_aload_n (μ := mX12_copy) (pc := 26) dX12_copy_26 rfl rfl rfl ?_
  refine r_getR (μ := mX12_copy) (pc := 27) dX12_copy_27 fpX12_19 rfl rfl (by decide) (hM _ _ rfl) ?_
  refine r_iload_n (μ := mX12_copy) (pc := 30) dX12_copy_30 rfl rfl ?_
  refine r_iaload (μ := mX12_copy) (pc := 31) (j := t) dX12_copy_31 rfl rfl (by omega) (by decide) ?_
  refine r_if_ge (μ := mX12_copy) (pc := 32) (tgt := 39) dX12_copy_32 (by decide) (fun h_32 => ?_) (fun h_32 => absurd (Int32.not_lt.mp hs2) h_32)
  refine r_aload_n (μ := mX12_copy) (pc := 39) dX12_copy_39 rfl rfl rfl ?_
  refine r_getR (μ := mX12_copy) (pc := 40) dX12_copy_40 fpX12_19 rfl rfl (by decide) (hM _ _ rfl) ?_
  refine r_iload_n (μ := mX12_copy) (pc := 43) dX12_copy_43 rfl rfl ?_
  refine r_iaload (μ := mX12_copy) (pc := 44) (j := f) dX12_copy_44 rfl rfl (by omega) (by decide) ?_
  refine r_aload_n (μ := mX12_copy) (pc := 45) dX12_copy_45 rfl rfl rfl ?_
  refine r_getR (μ := mX12_copy) (pc := 46) dX12_copy_46 fpX12_19 rfl rfl (by decide) (hM _ _ rfl) ?_
  refine r_iload_n (μ := mX12_copy) (pc := 49) dX12_copy_49 rfl rfl ?_
  refine r_iaload (μ := mX12_copy) (pc := 50) (j := t) dX12_copy_50 rfl rfl (by omega) (by decide) ?_
  refine r_icmp_eq (μ := mX12_copy) (pc := 51) (tgt := 57) dX12_copy_51 (by decide) (fun h_51 => absurd h_51 hne) (fun h_51 => ?_)
  refine r_ldc (μ := mX12_copy) (pc := 54) dX12_copy_54 ctX12_155 ?_
  exact r_iret (μ := mX12_copy) (pc := 56) dX12_copy_56 rfl rfl (PI_i rfl)

theorem c_copy_ix {d : Nat} {mi : MI} {mr : MR} (hM : MB mr) {f t : Nat} (hf : f < 4) (ht : t < 4) {a b c : Int32} (hs1 : ¬ mi 4 f < 0) (hs2 : ¬ mi 4 t < 0) (he : mi 4 f = mi 4 t) {zf zt : Nat} (hzf : mi 5 f = nI zf) (hzt : mi 5 t = nI zt) (hf24 : zf ≤ 24) (ht24 : zt ≤ 24) (hb : ¬ (ixOK a c zf = true ∧ ixOK b c zt = true)) : CP (d + 2) mX12_copy [.ref 0, .int (nI f), .int a, .int (nI t), .int b, .int c] shM mi mr 0 0 (PI (INDEXc) shM mi mr) := by
  refine CP.of (L := [_, _, _, _, _, _, _]) (by decide) rfl rfl (Nat.le_of_ble_eq_true rfl) ?_
  refine r_iload_n (μ := mX12_copy) (pc := 0) dX12_copy_0 rfl rfl ?_
  refine sP1 (μ := mX12_copy) (pc := 1) (μ2 := mX12_isSheet) dX12_copy_1 lkX12_312 stX12_isSheet mwX12_isSheet (Nat.le_of_ble_eq_true rfl) c_isSheet ?_
  refine r_if_eq (μ := mX12_copy) (pc := 4) (tgt := 14) dX12_copy_4 (by decide) (fun h_4 => absurd h_4 (b2i_ne (inB_nI (by omega) (by omega)))) (fun h_4 => ?_)
  refine r_iload_n (μ := mX12_copy) (pc := 7) dX12_copy_7 rfl rfl ?_
  refine sP1 (μ := mX12_copy) (pc := 8) (μ2 := mX12_isSheet) dX12_copy_8 lkX12_312 stX12_isSheet mwX12_isSheet (Nat.le_of_ble_eq_true rfl) c_isSheet ?_
  refine r_if_ne (μ := mX12_copy) (pc := 11) (tgt := 17) dX12_copy_11 (by decide) (fun h_11 => ?_) (fun h_11 => absurd h_11 (b2i_ne (inB_nI (by omega) (by omega))))
  refine r_aload_n (μ := mX12_copy) (pc := 17) dX12_copy_17 rfl rfl rfl ?_
  refine r_getR (μ := mX12_copy) (pc := 18) dX12_copy_18 fpX12_19 rfl rfl (by decide) (hM _ _ rfl) ?_
  refine r_iload_n (μ := mX12_copy) (pc := 21) dX12_copy_21 rfl rfl ?_
  refine r_iaload (μ := mX12_copy) (pc := 22) (j := f) dX12_copy_22 rfl rfl (by omega) (by decide) ?_
  refine r_if_lt (μ := mX12_copy) (pc := 23) (tgt := 35) dX12_copy_23 (by decide) (fun h_23 => absurd h_23 hs1) (fun h_23 => ?_)
  refine r_aload_n (μ := mX12_copy) (pc := 26) dX12_copy_26 rfl rfl rfl ?_
  refine r_getR (μ := mX12_copy) (pc := 27) dX12_copy_27 fpX12_19 rfl rfl (by decide) (hM _ _ rfl) ?_
  refine r_iload_n (μ := mX12_copy) (pc := 30) dX12_copy_30 rfl rfl ?_
  refine r_iaload (μ := mX12_copy) (pc := 31) (j := t) dX12_copy_31 rfl rfl (by omega) (by decide) ?_
  refine r_if_ge (μ := mX12_copy) (pc := 32) (tgt := 39) dX12_copy_32 (by decide) (fun h_32 => ?_) (fun h_32 => absurd (Int32.not_lt.mp hs2) h_32)
  refine r_aload_n (μ := mX12_copy) (pc := 39) dX12_copy_39 rfl rfl rfl ?_
  refine r_getR (μ := mX12_copy) (pc := 40) dX12_copy_40 fpX12_19 rfl rfl (by decide) (hM _ _ rfl) ?_
  refine r_iload_n (μ := mX12_copy) (pc := 43) dX12_copy_43 rfl rfl ?_
  refine r_iaload (μ := mX12_copy) (pc := 44) (j := f) dX12_copy_44 rfl rfl (by omega) (by decide) ?_
  refine r_aload_n (μ := mX12_copy) (pc := 45) dX12_copy_45 rfl rfl rfl ?_
  refine r_getR (μ := mX12_copy) (pc := 46) dX12_copy_46 fpX12_19 rfl rfl (by decide) (hM _ _ rfl) ?_
  refine r_iload_n (μ := mX12_copy) (pc := 49) dX12_copy_49 rfl rfl ?_
  refine r_iaload (μ := mX12_copy) (pc := 50) (j := t) dX12_copy_50 rfl rfl (by omega) (by decide) ?_
  refine r_icmp_eq (μ := mX12_copy) (pc := 51) (tgt := 57) dX12_copy_51 (by decide) (fun h_51 => ?_) (fun h_51 => absurd he h_51)
  refine r_iload_n (μ := mX12_copy) (pc := 57) dX12_copy_57 rfl rfl ?_
  refine r_if_lt (μ := mX12_copy) (pc := 58) (tgt := 106) dX12_copy_58 (by decide) (fun h_58 => ?_) (fun h_58 => ?_)
  · refine r_ldcw (μ := mX12_copy) (pc := 106) dX12_copy_106 ctX12_319 ?_
    exact r_iret (μ := mX12_copy) (pc := 109) dX12_copy_109 rfl rfl (PI_i rfl)
  · refine r_iload (μ := mX12_copy) (pc := 61) dX12_copy_61 rfl ?_
    refine r_if_lt (μ := mX12_copy) (pc := 63) (tgt := 106) dX12_copy_63 (by decide) (fun h_63 => ?_) (fun h_63 => ?_)
    · refine r_ldcw (μ := mX12_copy) (pc := 106) dX12_copy_106 ctX12_319 ?_
      exact r_iret (μ := mX12_copy) (pc := 109) dX12_copy_109 rfl rfl (PI_i rfl)
    · refine r_iload (μ := mX12_copy) (pc := 66) dX12_copy_66 rfl ?_
      refine r_if_lt (μ := mX12_copy) (pc := 68) (tgt := 106) dX12_copy_68 (by decide) (fun h_68 => ?_) (fun h_68 => ?_)
      · refine r_ldcw (μ := mX12_copy) (pc := 106) dX12_copy_106 ctX12_319 ?_
        exact r_iret (μ := mX12_copy) (pc := 109) dX12_copy_109 rfl rfl (PI_i rfl)
      · refine r_iload_n (μ := mX12_copy) (pc := 71) dX12_copy_71 rfl rfl ?_
        refine r_i2l (μ := mX12_copy) (pc := 72) dX12_copy_72 ?_
        refine r_iload (μ := mX12_copy) (pc := 73) dX12_copy_73 rfl ?_
        refine r_i2l (μ := mX12_copy) (pc := 75) dX12_copy_75 ?_
        refine r_ladd (μ := mX12_copy) (pc := 76) dX12_copy_76 ?_
        refine r_aload_n (μ := mX12_copy) (pc := 77) dX12_copy_77 rfl rfl rfl ?_
        refine r_getR (μ := mX12_copy) (pc := 78) dX12_copy_78 fpX12_22 rfl rfl (by decide) (hM _ _ rfl) ?_
        refine r_iload_n (μ := mX12_copy) (pc := 81) dX12_copy_81 rfl rfl ?_
        refine r_iaload (μ := mX12_copy) (pc := 82) (j := f) dX12_copy_82 rfl rfl (by omega) (by decide) ?_
        refine r_i2l (μ := mX12_copy) (pc := 83) dX12_copy_83 ?_
        refine r_lcmp (μ := mX12_copy) (pc := 84) dX12_copy_84 ?_
        refine r_if_gt (μ := mX12_copy) (pc := 85) (tgt := 106) dX12_copy_85 (by decide) (fun h_85 => ?_) (fun h_85 => ?_)
        · refine r_ldcw (μ := mX12_copy) (pc := 106) dX12_copy_106 ctX12_319 ?_
          exact r_iret (μ := mX12_copy) (pc := 109) dX12_copy_109 rfl rfl (PI_i rfl)
        · refine r_iload (μ := mX12_copy) (pc := 88) dX12_copy_88 rfl ?_
          refine r_i2l (μ := mX12_copy) (pc := 90) dX12_copy_90 ?_
          refine r_iload (μ := mX12_copy) (pc := 91) dX12_copy_91 rfl ?_
          refine r_i2l (μ := mX12_copy) (pc := 93) dX12_copy_93 ?_
          refine r_ladd (μ := mX12_copy) (pc := 94) dX12_copy_94 ?_
          refine r_aload_n (μ := mX12_copy) (pc := 95) dX12_copy_95 rfl rfl rfl ?_
          refine r_getR (μ := mX12_copy) (pc := 96) dX12_copy_96 fpX12_22 rfl rfl (by decide) (hM _ _ rfl) ?_
          refine r_iload_n (μ := mX12_copy) (pc := 99) dX12_copy_99 rfl rfl ?_
          refine r_iaload (μ := mX12_copy) (pc := 100) (j := t) dX12_copy_100 rfl rfl (by omega) (by decide) ?_
          refine r_i2l (μ := mX12_copy) (pc := 101) dX12_copy_101 ?_
          refine r_lcmp (μ := mX12_copy) (pc := 102) dX12_copy_102 ?_
          refine r_if_le (μ := mX12_copy) (pc := 103) (tgt := 110) dX12_copy_103 (by decide) (fun h_103 => ?_) (fun h_103 => ?_)
          · exfalso
            have q1 := (i64_sum (mi 5 f)).mp ((lg_cmp_le _ _).mp (Int32.not_lt.mp h_85))
            have q2 := (i64_sum (mi 5 t)).mp ((lg_cmp_le _ _).mp h_103)
            rw [hzf, nI_toInt (by omega)] at q1
            rw [hzt, nI_toInt (by omega)] at q2
            have e0 : (0 : Int32).toInt = 0 := rfl
            rw [Int32.lt_iff_toInt_lt] at h_58 h_63 h_68
            exact hb ⟨by simp only [ixOK, decide_eq_true_eq]; omega, by simp only [ixOK, decide_eq_true_eq]; omega⟩
          · refine r_ldcw (μ := mX12_copy) (pc := 106) dX12_copy_106 ctX12_319 ?_
            exact r_iret (μ := mX12_copy) (pc := 109) dX12_copy_109 rfl rfl (PI_i rfl)

theorem lp_copyB {d : Nat} {mi : MI} {mr : MR} {Q : QT} (hM : MB mr) {f t a b c zf zt : Nat} (hf : f < 4) (ht : t < 4) (hac : a + c ≤ zf) (hbc : b + c ≤ zt) (hf24 : zf ≤ 24) (ht24 : zt ≤ 24) (hq : Q (some (.int (nI c))) shM (cw6 mi t b c) mr) :
    ∀ (k i : Nat), i + k = c → WP d mX12_copy 150 [.ref 0, .int (nI f), .int (nI a), .int (nI t), .int (nI b), .int (nI c), .int (nI i)] [] shM (cw6 mi t b i) mr 0 0 Q := by
  intro k
  induction k with
  | zero =>
    intro i hk
    obtain rfl : i = c := by omega
    refine r_iload (μ := mX12_copy) (pc := 150) dX12_copy_150 rfl ?_
    refine r_iload (μ := mX12_copy) (pc := 152) dX12_copy_152 rfl ?_
    refine r_icmp_ge (μ := mX12_copy) (pc := 154) (tgt := 185) dX12_copy_154 (by decide) (fun h_154 => ?_) (fun h_154 => absurd (nI_le (Nat.le_refl _) (by omega)) h_154)
    refine r_iload (μ := mX12_copy) (pc := 185) dX12_copy_185 rfl ?_
    exact r_iret (μ := mX12_copy) (pc := 187) dX12_copy_187 rfl rfl hq
  | succ k ih =>
    intro i hk
    refine r_iload (μ := mX12_copy) (pc := 150) dX12_copy_150 rfl ?_
    refine r_iload (μ := mX12_copy) (pc := 152) dX12_copy_152 rfl ?_
    refine r_icmp_ge (μ := mX12_copy) (pc := 154) (tgt := 185) dX12_copy_154 (by decide) (fun h_154 => absurd h_154 (nI_ge (by omega) (by omega))) (fun h_154 => ?_)
    refine r_aload_n (μ := mX12_copy) (pc := 157) dX12_copy_157 rfl rfl rfl ?_
    refine r_getR (μ := mX12_copy) (pc := 158) dX12_copy_158 fpX12_25 rfl rfl (by decide) (hM _ _ rfl) ?_
    refine r_bipush (μ := mX12_copy) (pc := 161) (v := 24) dX12_copy_161 bp_24 ?_
    refine r_iload_n (μ := mX12_copy) (pc := 163) dX12_copy_163 rfl rfl ?_
    refine r_imul (μ := mX12_copy) (pc := 164) dX12_copy_164 ?_
    refine r_iload (μ := mX12_copy) (pc := 165) dX12_copy_165 rfl ?_
    refine r_iadd (μ := mX12_copy) (pc := 167) dX12_copy_167 ?_
    refine r_iload (μ := mX12_copy) (pc := 168) dX12_copy_168 rfl ?_
    refine r_iadd (μ := mX12_copy) (pc := 170) dX12_copy_170 ?_
    refine r_aload_n (μ := mX12_copy) (pc := 171) dX12_copy_171 rfl rfl rfl ?_
    refine r_getR (μ := mX12_copy) (pc := 172) dX12_copy_172 fpX12_55 rfl rfl (by decide) (hM _ _ rfl) ?_
    refine r_iload (μ := mX12_copy) (pc := 175) dX12_copy_175 rfl ?_
    refine r_iaload (μ := mX12_copy) (pc := 177) (j := i) dX12_copy_177 rfl rfl (by omega) (by decide) ?_
    rw [cw6_o (by decide)]
    refine r_iastore (μ := mX12_copy) (pc := 178) (j := (((24 * t) + b) + i)) dX12_copy_178 rfl (by simp only [← nI_add, ← pk_mul] <;> rfl) (by omega) (by decide) ?_
    refine s_iinc (μ := mX12_copy) (pc := 179) (c := 1) (L2 := [_, _, _, _, _, _, _]) dX12_copy_179 rfl ic_1 (Nat.le_of_ble_eq_true rfl) rfl rfl ?_
    refine r_goto (μ := mX12_copy) (pc := 182) (tgt := 150) dX12_copy_182 (by decide) ?_
    exact WP.L (by rw [nI_succ]) (ih (i + 1) (by omega))

theorem lp_copyA {d : Nat} {mi : MI} {mr : MR} {Q : QT} (hM : MB mr) {f t a b c zf zt : Nat} (hf : f < 4) (ht : t < 4) (hac : a + c ≤ zf) (hbc : b + c ≤ zt) (hf24 : zf ≤ 24) (ht24 : zt ≤ 24) (hq : Q (some (.int (nI c))) shM (cw6 (cr16 mi f a c) t b c) mr) :
    ∀ (k i : Nat), i + k = c → WP d mX12_copy 113 [.ref 0, .int (nI f), .int (nI a), .int (nI t), .int (nI b), .int (nI c), .int (nI i)] [] shM (cr16 mi f a i) mr 0 0 Q := by
  intro k
  induction k with
  | zero =>
    intro i hk
    obtain rfl : i = c := by omega
    refine r_iload (μ := mX12_copy) (pc := 113) dX12_copy_113 rfl ?_
    refine r_iload (μ := mX12_copy) (pc := 115) dX12_copy_115 rfl ?_
    refine r_icmp_ge (μ := mX12_copy) (pc := 117) (tgt := 147) dX12_copy_117 (by decide) (fun h_117 => ?_) (fun h_117 => absurd (nI_le (Nat.le_refl _) (by omega)) h_117)
    refine r_iconst (μ := mX12_copy) (pc := 147) (v := 0) dX12_copy_147 ic_0 ?_
    refine s_istore (μ := mX12_copy) (pc := 148) (L2 := [_, _, _, _, _, _, _]) dX12_copy_148 (Nat.le_of_ble_eq_true rfl) (Nat.le_of_ble_eq_true rfl) rfl rfl ?_
    exact lp_copyB (mi := cr16 mi f a i) hM hf ht hac hbc hf24 ht24 hq i 0 (Nat.zero_add _)
  | succ k ih =>
    intro i hk
    refine r_iload (μ := mX12_copy) (pc := 113) dX12_copy_113 rfl ?_
    refine r_iload (μ := mX12_copy) (pc := 115) dX12_copy_115 rfl ?_
    refine r_icmp_ge (μ := mX12_copy) (pc := 117) (tgt := 147) dX12_copy_117 (by decide) (fun h_117 => absurd h_117 (nI_ge (by omega) (by omega))) (fun h_117 => ?_)
    refine r_aload_n (μ := mX12_copy) (pc := 120) dX12_copy_120 rfl rfl rfl ?_
    refine r_getR (μ := mX12_copy) (pc := 121) dX12_copy_121 fpX12_55 rfl rfl (by decide) (hM _ _ rfl) ?_
    refine r_iload (μ := mX12_copy) (pc := 124) dX12_copy_124 rfl ?_
    refine r_aload_n (μ := mX12_copy) (pc := 126) dX12_copy_126 rfl rfl rfl ?_
    refine r_getR (μ := mX12_copy) (pc := 127) dX12_copy_127 fpX12_25 rfl rfl (by decide) (hM _ _ rfl) ?_
    refine r_bipush (μ := mX12_copy) (pc := 130) (v := 24) dX12_copy_130 bp_24 ?_
    refine r_iload_n (μ := mX12_copy) (pc := 132) dX12_copy_132 rfl rfl ?_
    refine r_imul (μ := mX12_copy) (pc := 133) dX12_copy_133 ?_
    refine r_iload_n (μ := mX12_copy) (pc := 134) dX12_copy_134 rfl rfl ?_
    refine r_iadd (μ := mX12_copy) (pc := 135) dX12_copy_135 ?_
    refine r_iload (μ := mX12_copy) (pc := 136) dX12_copy_136 rfl ?_
    refine r_iadd (μ := mX12_copy) (pc := 138) dX12_copy_138 ?_
    refine r_iaload (μ := mX12_copy) (pc := 139) (j := (((24 * f) + a) + i)) dX12_copy_139 rfl (by simp only [← nI_add, ← pk_mul] <;> rfl) (by omega) (by decide) ?_
    rw [cr16_o (by decide)]
    refine r_iastore (μ := mX12_copy) (pc := 140) (j := i) dX12_copy_140 rfl rfl (by omega) (by decide) ?_
    refine s_iinc (μ := mX12_copy) (pc := 141) (c := 1) (L2 := [_, _, _, _, _, _, _]) dX12_copy_141 rfl ic_1 (Nat.le_of_ble_eq_true rfl) rfl rfl ?_
    refine r_goto (μ := mX12_copy) (pc := 144) (tgt := 113) dX12_copy_144 (by decide) ?_
    exact WP.L (by rw [nI_succ]) (ih (i + 1) (by omega))

theorem c_copy {d : Nat} {mi : MI} {mr : MR} (hM : MB mr) {f t : Nat} (hf : f < 4) (ht : t < 4) {a b c : Nat} (hs1 : ¬ mi 4 f < 0) (hs2 : ¬ mi 4 t < 0) (he : mi 4 f = mi 4 t) {zf zt : Nat} (hzf : mi 5 f = nI zf) (hzt : mi 5 t = nI zt) (hf24 : zf ≤ 24) (ht24 : zt ≤ 24) (hac : a + c ≤ zf) (hbc : b + c ≤ zt) : CP (d + 2) mX12_copy [.ref 0, .int (nI f), .int (nI a), .int (nI t), .int (nI b), .int (nI c)] shM mi mr 0 0 (PX shM mr (fun r mi2 => r = nI c ∧ mi2 = cw6 (cr16 mi f a c) t b c)) := by
  refine CP.of (L := [_, _, _, _, _, _, _]) (by decide) rfl rfl (Nat.le_of_ble_eq_true rfl) ?_
  refine r_iload_n (μ := mX12_copy) (pc := 0) dX12_copy_0 rfl rfl ?_
  refine sP1 (μ := mX12_copy) (pc := 1) (μ2 := mX12_isSheet) dX12_copy_1 lkX12_312 stX12_isSheet mwX12_isSheet (Nat.le_of_ble_eq_true rfl) c_isSheet ?_
  refine r_if_eq (μ := mX12_copy) (pc := 4) (tgt := 14) dX12_copy_4 (by decide) (fun h_4 => absurd h_4 (b2i_ne (inB_nI (by omega) (by omega)))) (fun h_4 => ?_)
  refine r_iload_n (μ := mX12_copy) (pc := 7) dX12_copy_7 rfl rfl ?_
  refine sP1 (μ := mX12_copy) (pc := 8) (μ2 := mX12_isSheet) dX12_copy_8 lkX12_312 stX12_isSheet mwX12_isSheet (Nat.le_of_ble_eq_true rfl) c_isSheet ?_
  refine r_if_ne (μ := mX12_copy) (pc := 11) (tgt := 17) dX12_copy_11 (by decide) (fun h_11 => ?_) (fun h_11 => absurd h_11 (b2i_ne (inB_nI (by omega) (by omega))))
  refine r_aload_n (μ := mX12_copy) (pc := 17) dX12_copy_17 rfl rfl rfl ?_
  refine r_getR (μ := mX12_copy) (pc := 18) dX12_copy_18 fpX12_19 rfl rfl (by decide) (hM _ _ rfl) ?_
  refine r_iload_n (μ := mX12_copy) (pc := 21) dX12_copy_21 rfl rfl ?_
  refine r_iaload (μ := mX12_copy) (pc := 22) (j := f) dX12_copy_22 rfl rfl (by omega) (by decide) ?_
  refine r_if_lt (μ := mX12_copy) (pc := 23) (tgt := 35) dX12_copy_23 (by decide) (fun h_23 => absurd h_23 hs1) (fun h_23 => ?_)
  refine r_aload_n (μ := mX12_copy) (pc := 26) dX12_copy_26 rfl rfl rfl ?_
  refine r_getR (μ := mX12_copy) (pc := 27) dX12_copy_27 fpX12_19 rfl rfl (by decide) (hM _ _ rfl) ?_
  refine r_iload_n (μ := mX12_copy) (pc := 30) dX12_copy_30 rfl rfl ?_
  refine r_iaload (μ := mX12_copy) (pc := 31) (j := t) dX12_copy_31 rfl rfl (by omega) (by decide) ?_
  refine r_if_ge (μ := mX12_copy) (pc := 32) (tgt := 39) dX12_copy_32 (by decide) (fun h_32 => ?_) (fun h_32 => absurd (Int32.not_lt.mp hs2) h_32)
  refine r_aload_n (μ := mX12_copy) (pc := 39) dX12_copy_39 rfl rfl rfl ?_
  refine r_getR (μ := mX12_copy) (pc := 40) dX12_copy_40 fpX12_19 rfl rfl (by decide) (hM _ _ rfl) ?_
  refine r_iload_n (μ := mX12_copy) (pc := 43) dX12_copy_43 rfl rfl ?_
  refine r_iaload (μ := mX12_copy) (pc := 44) (j := f) dX12_copy_44 rfl rfl (by omega) (by decide) ?_
  refine r_aload_n (μ := mX12_copy) (pc := 45) dX12_copy_45 rfl rfl rfl ?_
  refine r_getR (μ := mX12_copy) (pc := 46) dX12_copy_46 fpX12_19 rfl rfl (by decide) (hM _ _ rfl) ?_
  refine r_iload_n (μ := mX12_copy) (pc := 49) dX12_copy_49 rfl rfl ?_
  refine r_iaload (μ := mX12_copy) (pc := 50) (j := t) dX12_copy_50 rfl rfl (by omega) (by decide) ?_
  refine r_icmp_eq (μ := mX12_copy) (pc := 51) (tgt := 57) dX12_copy_51 (by decide) (fun h_51 => ?_) (fun h_51 => absurd he h_51)
  refine r_iload_n (μ := mX12_copy) (pc := 57) dX12_copy_57 rfl rfl ?_
  refine r_if_lt (μ := mX12_copy) (pc := 58) (tgt := 106) dX12_copy_58 (by decide) (fun h_58 => absurd h_58 (Int32.not_lt.mpr (nI_pos' (by omega)))) (fun h_58 => ?_)
  refine r_iload (μ := mX12_copy) (pc := 61) dX12_copy_61 rfl ?_
  refine r_if_lt (μ := mX12_copy) (pc := 63) (tgt := 106) dX12_copy_63 (by decide) (fun h_63 => absurd h_63 (Int32.not_lt.mpr (nI_pos' (by omega)))) (fun h_63 => ?_)
  refine r_iload (μ := mX12_copy) (pc := 66) dX12_copy_66 rfl ?_
  refine r_if_lt (μ := mX12_copy) (pc := 68) (tgt := 106) dX12_copy_68 (by decide) (fun h_68 => absurd h_68 (Int32.not_lt.mpr (nI_pos' (by omega)))) (fun h_68 => ?_)
  refine r_iload_n (μ := mX12_copy) (pc := 71) dX12_copy_71 rfl rfl ?_
  refine r_i2l (μ := mX12_copy) (pc := 72) dX12_copy_72 ?_
  refine r_iload (μ := mX12_copy) (pc := 73) dX12_copy_73 rfl ?_
  refine r_i2l (μ := mX12_copy) (pc := 75) dX12_copy_75 ?_
  refine r_ladd (μ := mX12_copy) (pc := 76) dX12_copy_76 ?_
  refine r_aload_n (μ := mX12_copy) (pc := 77) dX12_copy_77 rfl rfl rfl ?_
  refine r_getR (μ := mX12_copy) (pc := 78) dX12_copy_78 fpX12_22 rfl rfl (by decide) (hM _ _ rfl) ?_
  refine r_iload_n (μ := mX12_copy) (pc := 81) dX12_copy_81 rfl rfl ?_
  refine r_iaload (μ := mX12_copy) (pc := 82) (j := f) dX12_copy_82 rfl rfl (by omega) (by decide) ?_
  refine r_i2l (μ := mX12_copy) (pc := 83) dX12_copy_83 ?_
  refine r_lcmp (μ := mX12_copy) (pc := 84) dX12_copy_84 ?_
  refine r_if_gt (μ := mX12_copy) (pc := 85) (tgt := 106) dX12_copy_85 (by decide) (fun h_85 => absurd h_85 (Int32.not_lt.mpr ((lg_cmp_le _ _).mpr ((i64_sum (mi 5 f)).mpr (by rw [hzf, nI_toInt (by omega), nI_toInt (by omega), nI_toInt (by omega)]; omega))))) (fun h_85 => ?_)
  refine r_iload (μ := mX12_copy) (pc := 88) dX12_copy_88 rfl ?_
  refine r_i2l (μ := mX12_copy) (pc := 90) dX12_copy_90 ?_
  refine r_iload (μ := mX12_copy) (pc := 91) dX12_copy_91 rfl ?_
  refine r_i2l (μ := mX12_copy) (pc := 93) dX12_copy_93 ?_
  refine r_ladd (μ := mX12_copy) (pc := 94) dX12_copy_94 ?_
  refine r_aload_n (μ := mX12_copy) (pc := 95) dX12_copy_95 rfl rfl rfl ?_
  refine r_getR (μ := mX12_copy) (pc := 96) dX12_copy_96 fpX12_22 rfl rfl (by decide) (hM _ _ rfl) ?_
  refine r_iload_n (μ := mX12_copy) (pc := 99) dX12_copy_99 rfl rfl ?_
  refine r_iaload (μ := mX12_copy) (pc := 100) (j := t) dX12_copy_100 rfl rfl (by omega) (by decide) ?_
  refine r_i2l (μ := mX12_copy) (pc := 101) dX12_copy_101 ?_
  refine r_lcmp (μ := mX12_copy) (pc := 102) dX12_copy_102 ?_
  refine r_if_le (μ := mX12_copy) (pc := 103) (tgt := 110) dX12_copy_103 (by decide) (fun h_103 => ?_) (fun h_103 => absurd ((lg_cmp_le _ _).mpr ((i64_sum (mi 5 t)).mpr (by rw [hzt, nI_toInt (by omega), nI_toInt (by omega), nI_toInt (by omega)]; omega))) h_103)
  refine r_iconst (μ := mX12_copy) (pc := 110) (v := 0) dX12_copy_110 ic_0 ?_
  refine s_istore (μ := mX12_copy) (pc := 111) (L2 := [_, _, _, _, _, _, _]) dX12_copy_111 (Nat.le_of_ble_eq_true rfl) (Nat.le_of_ble_eq_true rfl) rfl rfl ?_
  exact lp_copyA hM hf ht hac hbc hf24 ht24 (PX_i ⟨rfl, rfl⟩) c 0 (Nat.zero_add _)

theorem c_lay_bad {d : Nat} {mi : MI} {mr : MR} (hM : MB mr) {s : Rw} (hs : mi 1 = s) {n m p q : Nat} (hI : Inv s n m p q) {u th k : Int32} (hb : ¬ (inB u 0 4 = true ∧ (th = 0 ∨ th = 3 ∨ (th = 1 ∧ inR k m = true) ∨ (th = 2 ∧ inB k 0 3 = true)))) : CP (d + 2) mX12_lay [.ref 0, .int u, .int th, .int k] shM mi mr 0 0 (PI (BADc) shM mi mr) := by
  refine CP.of (L := [_, _, _, _, _, _, _]) (by decide) rfl rfl (Nat.le_of_ble_eq_true rfl) ?_
  refine r_iload_n (μ := mX12_lay) (pc := 0) dX12_lay_0 rfl rfl ?_
  refine r_if_eq (μ := mX12_lay) (pc := 1) (tgt := 34) dX12_lay_1 (by decide) (fun h_1 => ?_) (fun h_1 => ?_)
  · refine r_iconst (μ := mX12_lay) (pc := 34) (v := 1) dX12_lay_34 ic_1 ?_
    refine r_goto (μ := mX12_lay) (pc := 35) (tgt := 39) dX12_lay_35 (by decide) ?_
    refine s_istore (μ := mX12_lay) (pc := 39) (L2 := [_, _, _, _, _, _, _]) dX12_lay_39 (Nat.le_of_ble_eq_true rfl) (Nat.le_of_ble_eq_true rfl) rfl rfl ?_
    refine r_iload_n (μ := mX12_lay) (pc := 41) dX12_lay_41 rfl rfl ?_
    refine sP1 (μ := mX12_lay) (pc := 42) (μ2 := mX12_isSlot) dX12_lay_42 lkX12_326 stX12_isSlot mwX12_isSlot (Nat.le_of_ble_eq_true rfl) c_isSlot ?_
    refine r_if_eq (μ := mX12_lay) (pc := 45) (tgt := 53) dX12_lay_45 (by decide) (fun h_45 => ?_) (fun h_45 => ?_)
    · have h_45 := b2i_0 h_45
      refine r_ldc (μ := mX12_lay) (pc := 53) dX12_lay_53 ctX12_78 ?_
      exact r_iret (μ := mX12_lay) (pc := 55) dX12_lay_55 rfl rfl (PI_i rfl)
    · have h_45 := b2i_1 h_45
      refine r_iload (μ := mX12_lay) (pc := 48) dX12_lay_48 rfl ?_
      refine r_if_ne (μ := mX12_lay) (pc := 50) (tgt := 56) dX12_lay_50 (by decide) (fun h_50 => ?_) (fun h_50 => ?_)
      · exfalso
        apply hb
        refine ⟨h_45, ?_⟩
        simp_all
      · refine r_ldc (μ := mX12_lay) (pc := 53) dX12_lay_53 ctX12_78 ?_
        exact r_iret (μ := mX12_lay) (pc := 55) dX12_lay_55 rfl rfl (PI_i rfl)
  · refine r_iload_n (μ := mX12_lay) (pc := 4) dX12_lay_4 rfl rfl ?_
    refine r_iconst (μ := mX12_lay) (pc := 5) (v := 3) dX12_lay_5 ic_3 ?_
    refine r_icmp_eq (μ := mX12_lay) (pc := 6) (tgt := 34) dX12_lay_6 (by decide) (fun h_6 => ?_) (fun h_6 => ?_)
    · refine r_iconst (μ := mX12_lay) (pc := 34) (v := 1) dX12_lay_34 ic_1 ?_
      refine r_goto (μ := mX12_lay) (pc := 35) (tgt := 39) dX12_lay_35 (by decide) ?_
      refine s_istore (μ := mX12_lay) (pc := 39) (L2 := [_, _, _, _, _, _, _]) dX12_lay_39 (Nat.le_of_ble_eq_true rfl) (Nat.le_of_ble_eq_true rfl) rfl rfl ?_
      refine r_iload_n (μ := mX12_lay) (pc := 41) dX12_lay_41 rfl rfl ?_
      refine sP1 (μ := mX12_lay) (pc := 42) (μ2 := mX12_isSlot) dX12_lay_42 lkX12_326 stX12_isSlot mwX12_isSlot (Nat.le_of_ble_eq_true rfl) c_isSlot ?_
      refine r_if_eq (μ := mX12_lay) (pc := 45) (tgt := 53) dX12_lay_45 (by decide) (fun h_45 => ?_) (fun h_45 => ?_)
      · have h_45 := b2i_0 h_45
        refine r_ldc (μ := mX12_lay) (pc := 53) dX12_lay_53 ctX12_78 ?_
        exact r_iret (μ := mX12_lay) (pc := 55) dX12_lay_55 rfl rfl (PI_i rfl)
      · have h_45 := b2i_1 h_45
        refine r_iload (μ := mX12_lay) (pc := 48) dX12_lay_48 rfl ?_
        refine r_if_ne (μ := mX12_lay) (pc := 50) (tgt := 56) dX12_lay_50 (by decide) (fun h_50 => ?_) (fun h_50 => ?_)
        · exfalso
          apply hb
          refine ⟨h_45, ?_⟩
          simp_all
        · refine r_ldc (μ := mX12_lay) (pc := 53) dX12_lay_53 ctX12_78 ?_
          exact r_iret (μ := mX12_lay) (pc := 55) dX12_lay_55 rfl rfl (PI_i rfl)
    · refine r_iload_n (μ := mX12_lay) (pc := 9) dX12_lay_9 rfl rfl ?_
      refine r_iconst (μ := mX12_lay) (pc := 10) (v := 1) dX12_lay_10 ic_1 ?_
      refine r_icmp_ne (μ := mX12_lay) (pc := 11) (tgt := 22) dX12_lay_11 (by decide) (fun h_11 => ?_) (fun h_11 => ?_)
      · refine r_iload_n (μ := mX12_lay) (pc := 22) dX12_lay_22 rfl rfl ?_
        refine r_iconst (μ := mX12_lay) (pc := 23) (v := 2) dX12_lay_23 ic_2 ?_
        refine r_icmp_ne (μ := mX12_lay) (pc := 24) (tgt := 38) dX12_lay_24 (by decide) (fun h_24 => ?_) (fun h_24 => ?_)
        · refine r_iconst (μ := mX12_lay) (pc := 38) (v := 0) dX12_lay_38 ic_0 ?_
          refine s_istore (μ := mX12_lay) (pc := 39) (L2 := [_, _, _, _, _, _, _]) dX12_lay_39 (Nat.le_of_ble_eq_true rfl) (Nat.le_of_ble_eq_true rfl) rfl rfl ?_
          refine r_iload_n (μ := mX12_lay) (pc := 41) dX12_lay_41 rfl rfl ?_
          refine sP1 (μ := mX12_lay) (pc := 42) (μ2 := mX12_isSlot) dX12_lay_42 lkX12_326 stX12_isSlot mwX12_isSlot (Nat.le_of_ble_eq_true rfl) c_isSlot ?_
          refine r_if_eq (μ := mX12_lay) (pc := 45) (tgt := 53) dX12_lay_45 (by decide) (fun h_45 => ?_) (fun h_45 => ?_)
          · have h_45 := b2i_0 h_45
            refine r_ldc (μ := mX12_lay) (pc := 53) dX12_lay_53 ctX12_78 ?_
            exact r_iret (μ := mX12_lay) (pc := 55) dX12_lay_55 rfl rfl (PI_i rfl)
          · have h_45 := b2i_1 h_45
            refine r_iload (μ := mX12_lay) (pc := 48) dX12_lay_48 rfl ?_
            refine r_if_ne (μ := mX12_lay) (pc := 50) (tgt := 56) dX12_lay_50 (by decide) (fun h_50 => ?_) (fun h_50 => ?_)
            · exfalso
              apply hb
              refine ⟨h_45, ?_⟩
              simp_all
            · refine r_ldc (μ := mX12_lay) (pc := 53) dX12_lay_53 ctX12_78 ?_
              exact r_iret (μ := mX12_lay) (pc := 55) dX12_lay_55 rfl rfl (PI_i rfl)
        · refine r_iload_n (μ := mX12_lay) (pc := 27) dX12_lay_27 rfl rfl ?_
          refine sP1 (μ := mX12_lay) (pc := 28) (μ2 := mX12_isSheet) dX12_lay_28 lkX12_312 stX12_isSheet mwX12_isSheet (Nat.le_of_ble_eq_true rfl) c_isSheet ?_
          refine r_if_eq (μ := mX12_lay) (pc := 31) (tgt := 38) dX12_lay_31 (by decide) (fun h_31 => ?_) (fun h_31 => ?_)
          · have h_31 := b2i_0 h_31
            refine r_iconst (μ := mX12_lay) (pc := 38) (v := 0) dX12_lay_38 ic_0 ?_
            refine s_istore (μ := mX12_lay) (pc := 39) (L2 := [_, _, _, _, _, _, _]) dX12_lay_39 (Nat.le_of_ble_eq_true rfl) (Nat.le_of_ble_eq_true rfl) rfl rfl ?_
            refine r_iload_n (μ := mX12_lay) (pc := 41) dX12_lay_41 rfl rfl ?_
            refine sP1 (μ := mX12_lay) (pc := 42) (μ2 := mX12_isSlot) dX12_lay_42 lkX12_326 stX12_isSlot mwX12_isSlot (Nat.le_of_ble_eq_true rfl) c_isSlot ?_
            refine r_if_eq (μ := mX12_lay) (pc := 45) (tgt := 53) dX12_lay_45 (by decide) (fun h_45 => ?_) (fun h_45 => ?_)
            · have h_45 := b2i_0 h_45
              refine r_ldc (μ := mX12_lay) (pc := 53) dX12_lay_53 ctX12_78 ?_
              exact r_iret (μ := mX12_lay) (pc := 55) dX12_lay_55 rfl rfl (PI_i rfl)
            · have h_45 := b2i_1 h_45
              refine r_iload (μ := mX12_lay) (pc := 48) dX12_lay_48 rfl ?_
              refine r_if_ne (μ := mX12_lay) (pc := 50) (tgt := 56) dX12_lay_50 (by decide) (fun h_50 => ?_) (fun h_50 => ?_)
              · exfalso
                apply hb
                refine ⟨h_45, ?_⟩
                simp_all
              · refine r_ldc (μ := mX12_lay) (pc := 53) dX12_lay_53 ctX12_78 ?_
                exact r_iret (μ := mX12_lay) (pc := 55) dX12_lay_55 rfl rfl (PI_i rfl)
          · have h_31 := b2i_1 h_31
            refine r_iconst (μ := mX12_lay) (pc := 34) (v := 1) dX12_lay_34 ic_1 ?_
            refine r_goto (μ := mX12_lay) (pc := 35) (tgt := 39) dX12_lay_35 (by decide) ?_
            refine s_istore (μ := mX12_lay) (pc := 39) (L2 := [_, _, _, _, _, _, _]) dX12_lay_39 (Nat.le_of_ble_eq_true rfl) (Nat.le_of_ble_eq_true rfl) rfl rfl ?_
            refine r_iload_n (μ := mX12_lay) (pc := 41) dX12_lay_41 rfl rfl ?_
            refine sP1 (μ := mX12_lay) (pc := 42) (μ2 := mX12_isSlot) dX12_lay_42 lkX12_326 stX12_isSlot mwX12_isSlot (Nat.le_of_ble_eq_true rfl) c_isSlot ?_
            refine r_if_eq (μ := mX12_lay) (pc := 45) (tgt := 53) dX12_lay_45 (by decide) (fun h_45 => ?_) (fun h_45 => ?_)
            · have h_45 := b2i_0 h_45
              refine r_ldc (μ := mX12_lay) (pc := 53) dX12_lay_53 ctX12_78 ?_
              exact r_iret (μ := mX12_lay) (pc := 55) dX12_lay_55 rfl rfl (PI_i rfl)
            · have h_45 := b2i_1 h_45
              refine r_iload (μ := mX12_lay) (pc := 48) dX12_lay_48 rfl ?_
              refine r_if_ne (μ := mX12_lay) (pc := 50) (tgt := 56) dX12_lay_50 (by decide) (fun h_50 => ?_) (fun h_50 => ?_)
              · exfalso
                apply hb
                refine ⟨h_45, ?_⟩
                simp_all
              · refine r_ldc (μ := mX12_lay) (pc := 53) dX12_lay_53 ctX12_78 ?_
                exact r_iret (μ := mX12_lay) (pc := 55) dX12_lay_55 rfl rfl (PI_i rfl)
      · refine r_aload_n (μ := mX12_lay) (pc := 14) dX12_lay_14 rfl rfl rfl ?_
        refine r_iload_n (μ := mX12_lay) (pc := 15) dX12_lay_15 rfl rfl ?_
        refine vP1 (μ := mX12_lay) (pc := 16) (c0 := 12) (q0 := (RX12, TX12, 34)) (μ2 := mX12_isLadder) dX12_lay_16 rfl rfl lkX12_137 imX12_isLadder seX12_X12_isLadder_X12_isLadder mwX12_isLadder (Nat.le_of_ble_eq_true rfl) (e_isLadder hM hs hI) ?_
        refine r_if_ne (μ := mX12_lay) (pc := 19) (tgt := 34) dX12_lay_19 (by decide) (fun h_19 => ?_) (fun h_19 => ?_)
        · have h_19 := b2i_1 h_19
          refine r_iconst (μ := mX12_lay) (pc := 34) (v := 1) dX12_lay_34 ic_1 ?_
          refine r_goto (μ := mX12_lay) (pc := 35) (tgt := 39) dX12_lay_35 (by decide) ?_
          refine s_istore (μ := mX12_lay) (pc := 39) (L2 := [_, _, _, _, _, _, _]) dX12_lay_39 (Nat.le_of_ble_eq_true rfl) (Nat.le_of_ble_eq_true rfl) rfl rfl ?_
          refine r_iload_n (μ := mX12_lay) (pc := 41) dX12_lay_41 rfl rfl ?_
          refine sP1 (μ := mX12_lay) (pc := 42) (μ2 := mX12_isSlot) dX12_lay_42 lkX12_326 stX12_isSlot mwX12_isSlot (Nat.le_of_ble_eq_true rfl) c_isSlot ?_
          refine r_if_eq (μ := mX12_lay) (pc := 45) (tgt := 53) dX12_lay_45 (by decide) (fun h_45 => ?_) (fun h_45 => ?_)
          · have h_45 := b2i_0 h_45
            refine r_ldc (μ := mX12_lay) (pc := 53) dX12_lay_53 ctX12_78 ?_
            exact r_iret (μ := mX12_lay) (pc := 55) dX12_lay_55 rfl rfl (PI_i rfl)
          · have h_45 := b2i_1 h_45
            refine r_iload (μ := mX12_lay) (pc := 48) dX12_lay_48 rfl ?_
            refine r_if_ne (μ := mX12_lay) (pc := 50) (tgt := 56) dX12_lay_50 (by decide) (fun h_50 => ?_) (fun h_50 => ?_)
            · exfalso
              apply hb
              refine ⟨h_45, ?_⟩
              simp_all
            · refine r_ldc (μ := mX12_lay) (pc := 53) dX12_lay_53 ctX12_78 ?_
              exact r_iret (μ := mX12_lay) (pc := 55) dX12_lay_55 rfl rfl (PI_i rfl)
        · have h_19 := b2i_0 h_19
          refine r_iload_n (μ := mX12_lay) (pc := 22) dX12_lay_22 rfl rfl ?_
          refine r_iconst (μ := mX12_lay) (pc := 23) (v := 2) dX12_lay_23 ic_2 ?_
          refine r_icmp_ne (μ := mX12_lay) (pc := 24) (tgt := 38) dX12_lay_24 (by decide) (fun h_24 => ?_) (fun h_24 => ?_)
          · refine r_iconst (μ := mX12_lay) (pc := 38) (v := 0) dX12_lay_38 ic_0 ?_
            refine s_istore (μ := mX12_lay) (pc := 39) (L2 := [_, _, _, _, _, _, _]) dX12_lay_39 (Nat.le_of_ble_eq_true rfl) (Nat.le_of_ble_eq_true rfl) rfl rfl ?_
            refine r_iload_n (μ := mX12_lay) (pc := 41) dX12_lay_41 rfl rfl ?_
            refine sP1 (μ := mX12_lay) (pc := 42) (μ2 := mX12_isSlot) dX12_lay_42 lkX12_326 stX12_isSlot mwX12_isSlot (Nat.le_of_ble_eq_true rfl) c_isSlot ?_
            refine r_if_eq (μ := mX12_lay) (pc := 45) (tgt := 53) dX12_lay_45 (by decide) (fun h_45 => ?_) (fun h_45 => ?_)
            · have h_45 := b2i_0 h_45
              refine r_ldc (μ := mX12_lay) (pc := 53) dX12_lay_53 ctX12_78 ?_
              exact r_iret (μ := mX12_lay) (pc := 55) dX12_lay_55 rfl rfl (PI_i rfl)
            · have h_45 := b2i_1 h_45
              refine r_iload (μ := mX12_lay) (pc := 48) dX12_lay_48 rfl ?_
              refine r_if_ne (μ := mX12_lay) (pc := 50) (tgt := 56) dX12_lay_50 (by decide) (fun h_50 => ?_) (fun h_50 => ?_)
              · exfalso
                apply hb
                refine ⟨h_45, ?_⟩
                simp_all
              · refine r_ldc (μ := mX12_lay) (pc := 53) dX12_lay_53 ctX12_78 ?_
                exact r_iret (μ := mX12_lay) (pc := 55) dX12_lay_55 rfl rfl (PI_i rfl)
          · refine r_iload_n (μ := mX12_lay) (pc := 27) dX12_lay_27 rfl rfl ?_
            refine sP1 (μ := mX12_lay) (pc := 28) (μ2 := mX12_isSheet) dX12_lay_28 lkX12_312 stX12_isSheet mwX12_isSheet (Nat.le_of_ble_eq_true rfl) c_isSheet ?_
            refine r_if_eq (μ := mX12_lay) (pc := 31) (tgt := 38) dX12_lay_31 (by decide) (fun h_31 => ?_) (fun h_31 => ?_)
            · have h_31 := b2i_0 h_31
              refine r_iconst (μ := mX12_lay) (pc := 38) (v := 0) dX12_lay_38 ic_0 ?_
              refine s_istore (μ := mX12_lay) (pc := 39) (L2 := [_, _, _, _, _, _, _]) dX12_lay_39 (Nat.le_of_ble_eq_true rfl) (Nat.le_of_ble_eq_true rfl) rfl rfl ?_
              refine r_iload_n (μ := mX12_lay) (pc := 41) dX12_lay_41 rfl rfl ?_
              refine sP1 (μ := mX12_lay) (pc := 42) (μ2 := mX12_isSlot) dX12_lay_42 lkX12_326 stX12_isSlot mwX12_isSlot (Nat.le_of_ble_eq_true rfl) c_isSlot ?_
              refine r_if_eq (μ := mX12_lay) (pc := 45) (tgt := 53) dX12_lay_45 (by decide) (fun h_45 => ?_) (fun h_45 => ?_)
              · have h_45 := b2i_0 h_45
                refine r_ldc (μ := mX12_lay) (pc := 53) dX12_lay_53 ctX12_78 ?_
                exact r_iret (μ := mX12_lay) (pc := 55) dX12_lay_55 rfl rfl (PI_i rfl)
              · have h_45 := b2i_1 h_45
                refine r_iload (μ := mX12_lay) (pc := 48) dX12_lay_48 rfl ?_
                refine r_if_ne (μ := mX12_lay) (pc := 50) (tgt := 56) dX12_lay_50 (by decide) (fun h_50 => ?_) (fun h_50 => ?_)
                · exfalso
                  apply hb
                  refine ⟨h_45, ?_⟩
                  simp_all
                · refine r_ldc (μ := mX12_lay) (pc := 53) dX12_lay_53 ctX12_78 ?_
                  exact r_iret (μ := mX12_lay) (pc := 55) dX12_lay_55 rfl rfl (PI_i rfl)
            · have h_31 := b2i_1 h_31
              refine r_iconst (μ := mX12_lay) (pc := 34) (v := 1) dX12_lay_34 ic_1 ?_
              refine r_goto (μ := mX12_lay) (pc := 35) (tgt := 39) dX12_lay_35 (by decide) ?_
              refine s_istore (μ := mX12_lay) (pc := 39) (L2 := [_, _, _, _, _, _, _]) dX12_lay_39 (Nat.le_of_ble_eq_true rfl) (Nat.le_of_ble_eq_true rfl) rfl rfl ?_
              refine r_iload_n (μ := mX12_lay) (pc := 41) dX12_lay_41 rfl rfl ?_
              refine sP1 (μ := mX12_lay) (pc := 42) (μ2 := mX12_isSlot) dX12_lay_42 lkX12_326 stX12_isSlot mwX12_isSlot (Nat.le_of_ble_eq_true rfl) c_isSlot ?_
              refine r_if_eq (μ := mX12_lay) (pc := 45) (tgt := 53) dX12_lay_45 (by decide) (fun h_45 => ?_) (fun h_45 => ?_)
              · have h_45 := b2i_0 h_45
                refine r_ldc (μ := mX12_lay) (pc := 53) dX12_lay_53 ctX12_78 ?_
                exact r_iret (μ := mX12_lay) (pc := 55) dX12_lay_55 rfl rfl (PI_i rfl)
              · have h_45 := b2i_1 h_45
                refine r_iload (μ := mX12_lay) (pc := 48) dX12_lay_48 rfl ?_
                refine r_if_ne (μ := mX12_lay) (pc := 50) (tgt := 56) dX12_lay_50 (by decide) (fun h_50 => ?_) (fun h_50 => ?_)
                · exfalso
                  apply hb
                  refine ⟨h_45, ?_⟩
                  simp_all
                · refine r_ldc (μ := mX12_lay) (pc := 53) dX12_lay_53 ctX12_78 ?_
                  exact r_iret (μ := mX12_lay) (pc := 55) dX12_lay_55 rfl rfl (PI_i rfl)

theorem c_lay0 {d : Nat} {mi : MI} {mr : MR} (hM : MB mr) {s : Rw} (hs : mi 1 = s) {n m p q : Nat} (hI : Inv s n m p q) {u : Nat} {k : Int32} (hu : u < 5) : CP (d + 2) mX12_lay [.ref 0, .int (nI u), .int 0, .int k] shM mi mr 0 0 (PX shM mr (fun r mi2 => r = mi 7 u ∧ mi2 = ldHeld mi u 0 k 0)) := by
  refine CP.of (L := [_, _, _, _, _, _, _]) (by decide) rfl rfl (Nat.le_of_ble_eq_true rfl) ?_
  refine r_iload_n (μ := mX12_lay) (pc := 0) dX12_lay_0 rfl rfl ?_
  refine r_if_eq (μ := mX12_lay) (pc := 1) (tgt := 34) dX12_lay_1 (by decide) (fun h_1 => ?_) (fun h_1 => absurd rfl h_1)
  refine r_iconst (μ := mX12_lay) (pc := 34) (v := 1) dX12_lay_34 ic_1 ?_
  refine r_goto (μ := mX12_lay) (pc := 35) (tgt := 39) dX12_lay_35 (by decide) ?_
  refine s_istore (μ := mX12_lay) (pc := 39) (L2 := [_, _, _, _, _, _, _]) dX12_lay_39 (Nat.le_of_ble_eq_true rfl) (Nat.le_of_ble_eq_true rfl) rfl rfl ?_
  refine r_iload_n (μ := mX12_lay) (pc := 41) dX12_lay_41 rfl rfl ?_
  refine sP1 (μ := mX12_lay) (pc := 42) (μ2 := mX12_isSlot) dX12_lay_42 lkX12_326 stX12_isSlot mwX12_isSlot (Nat.le_of_ble_eq_true rfl) c_isSlot ?_
  refine r_if_eq (μ := mX12_lay) (pc := 45) (tgt := 53) dX12_lay_45 (by decide) (fun h_45 => absurd h_45 (b2i_ne (inB_nI (by omega) (by omega)))) (fun h_45 => ?_)
  refine r_iload (μ := mX12_lay) (pc := 48) dX12_lay_48 rfl ?_
  refine r_if_ne (μ := mX12_lay) (pc := 50) (tgt := 56) dX12_lay_50 (by decide) (fun h_50 => ?_) (fun h_50 => absurd h_50 (by decide))
  refine r_iload_n (μ := mX12_lay) (pc := 56) dX12_lay_56 rfl rfl ?_
  refine r_iconst (μ := mX12_lay) (pc := 57) (v := 2) dX12_lay_57 ic_2 ?_
  refine r_icmp_ne (μ := mX12_lay) (pc := 58) (tgt := 74) dX12_lay_58 (by decide) (fun h_58 => ?_) (fun h_58 => absurd h_58 (by decide))
  refine r_aload_n (μ := mX12_lay) (pc := 74) dX12_lay_74 rfl rfl rfl ?_
  refine r_getR (μ := mX12_lay) (pc := 75) dX12_lay_75 fpX12_28 rfl rfl (by decide) (hM _ _ rfl) ?_
  refine r_iload_n (μ := mX12_lay) (pc := 78) dX12_lay_78 rfl rfl ?_
  refine r_iaload (μ := mX12_lay) (pc := 79) (j := u) dX12_lay_79 rfl rfl (by omega) (by decide) ?_
  refine s_istore (μ := mX12_lay) (pc := 80) (L2 := [_, _, _, _, _, _, _]) dX12_lay_80 (Nat.le_of_ble_eq_true rfl) (Nat.le_of_ble_eq_true rfl) rfl rfl ?_
  refine r_aload_n (μ := mX12_lay) (pc := 82) dX12_lay_82 rfl rfl rfl ?_
  refine r_getR (μ := mX12_lay) (pc := 83) dX12_lay_83 fpX12_28 rfl rfl (by decide) (hM _ _ rfl) ?_
  refine r_iload_n (μ := mX12_lay) (pc := 86) dX12_lay_86 rfl rfl ?_
  refine r_iload_n (μ := mX12_lay) (pc := 87) dX12_lay_87 rfl rfl ?_
  refine r_iastore (μ := mX12_lay) (pc := 88) (j := u) dX12_lay_88 rfl rfl (by omega) (by decide) ?_
  refine r_aload_n (μ := mX12_lay) (pc := 89) dX12_lay_89 rfl rfl rfl ?_
  refine r_getR (μ := mX12_lay) (pc := 90) dX12_lay_90 fpX12_31 rfl rfl (by decide) (hM _ _ rfl) ?_
  refine r_iload_n (μ := mX12_lay) (pc := 93) dX12_lay_93 rfl rfl ?_
  refine r_iload_n (μ := mX12_lay) (pc := 94) dX12_lay_94 rfl rfl ?_
  refine r_iconst (μ := mX12_lay) (pc := 95) (v := 1) dX12_lay_95 ic_1 ?_
  refine r_icmp_ne (μ := mX12_lay) (pc := 96) (tgt := 108) dX12_lay_96 (by decide) (fun h_96 => ?_) (fun h_96 => absurd h_96 (by decide))
  refine r_iload_n (μ := mX12_lay) (pc := 108) dX12_lay_108 rfl rfl ?_
  refine r_iastore (μ := mX12_lay) (pc := 109) (j := u) dX12_lay_109 rfl rfl (by omega) (by decide) ?_
  refine r_aload_n (μ := mX12_lay) (pc := 110) dX12_lay_110 rfl rfl rfl ?_
  refine r_getR (μ := mX12_lay) (pc := 111) dX12_lay_111 fpX12_34 rfl rfl (by decide) (hM _ _ rfl) ?_
  refine r_iload_n (μ := mX12_lay) (pc := 114) dX12_lay_114 rfl rfl ?_
  refine r_iload_n (μ := mX12_lay) (pc := 115) dX12_lay_115 rfl rfl ?_
  refine r_iconst (μ := mX12_lay) (pc := 116) (v := 1) dX12_lay_116 ic_1 ?_
  refine r_icmp_ne (μ := mX12_lay) (pc := 117) (tgt := 128) dX12_lay_117 (by decide) (fun h_117 => ?_) (fun h_117 => absurd h_117 (by decide))
  refine r_iconst (μ := mX12_lay) (pc := 128) (v := 0) dX12_lay_128 ic_0 ?_
  refine r_iastore (μ := mX12_lay) (pc := 129) (j := u) dX12_lay_129 rfl rfl (by omega) (by decide) ?_
  refine r_iload_n (μ := mX12_lay) (pc := 130) dX12_lay_130 rfl rfl ?_
  refine r_iconst (μ := mX12_lay) (pc := 131) (v := 2) dX12_lay_131 ic_2 ?_
  refine r_icmp_ne (μ := mX12_lay) (pc := 132) (tgt := 187) dX12_lay_132 (by decide) (fun h_132 => ?_) (fun h_132 => absurd h_132 (by decide))
  refine r_iload (μ := mX12_lay) (pc := 187) dX12_lay_187 rfl ?_
  exact r_iret (μ := mX12_lay) (pc := 189) dX12_lay_189 rfl rfl (PX_i ⟨rfl, rfl⟩)

theorem c_lay3 {d : Nat} {mi : MI} {mr : MR} (hM : MB mr) {s : Rw} (hs : mi 1 = s) {n m p q : Nat} (hI : Inv s n m p q) {u : Nat} {k : Int32} (hu : u < 5) : CP (d + 2) mX12_lay [.ref 0, .int (nI u), .int 3, .int k] shM mi mr 0 0 (PX shM mr (fun r mi2 => r = mi 7 u ∧ mi2 = ldHeld mi u 3 k 0)) := by
  refine CP.of (L := [_, _, _, _, _, _, _]) (by decide) rfl rfl (Nat.le_of_ble_eq_true rfl) ?_
  refine r_iload_n (μ := mX12_lay) (pc := 0) dX12_lay_0 rfl rfl ?_
  refine r_if_eq (μ := mX12_lay) (pc := 1) (tgt := 34) dX12_lay_1 (by decide) (fun h_1 => absurd h_1 (by decide)) (fun h_1 => ?_)
  refine r_iload_n (μ := mX12_lay) (pc := 4) dX12_lay_4 rfl rfl ?_
  refine r_iconst (μ := mX12_lay) (pc := 5) (v := 3) dX12_lay_5 ic_3 ?_
  refine r_icmp_eq (μ := mX12_lay) (pc := 6) (tgt := 34) dX12_lay_6 (by decide) (fun h_6 => ?_) (fun h_6 => absurd rfl h_6)
  refine r_iconst (μ := mX12_lay) (pc := 34) (v := 1) dX12_lay_34 ic_1 ?_
  refine r_goto (μ := mX12_lay) (pc := 35) (tgt := 39) dX12_lay_35 (by decide) ?_
  refine s_istore (μ := mX12_lay) (pc := 39) (L2 := [_, _, _, _, _, _, _]) dX12_lay_39 (Nat.le_of_ble_eq_true rfl) (Nat.le_of_ble_eq_true rfl) rfl rfl ?_
  refine r_iload_n (μ := mX12_lay) (pc := 41) dX12_lay_41 rfl rfl ?_
  refine sP1 (μ := mX12_lay) (pc := 42) (μ2 := mX12_isSlot) dX12_lay_42 lkX12_326 stX12_isSlot mwX12_isSlot (Nat.le_of_ble_eq_true rfl) c_isSlot ?_
  refine r_if_eq (μ := mX12_lay) (pc := 45) (tgt := 53) dX12_lay_45 (by decide) (fun h_45 => absurd h_45 (b2i_ne (inB_nI (by omega) (by omega)))) (fun h_45 => ?_)
  refine r_iload (μ := mX12_lay) (pc := 48) dX12_lay_48 rfl ?_
  refine r_if_ne (μ := mX12_lay) (pc := 50) (tgt := 56) dX12_lay_50 (by decide) (fun h_50 => ?_) (fun h_50 => absurd h_50 (by decide))
  refine r_iload_n (μ := mX12_lay) (pc := 56) dX12_lay_56 rfl rfl ?_
  refine r_iconst (μ := mX12_lay) (pc := 57) (v := 2) dX12_lay_57 ic_2 ?_
  refine r_icmp_ne (μ := mX12_lay) (pc := 58) (tgt := 74) dX12_lay_58 (by decide) (fun h_58 => ?_) (fun h_58 => absurd h_58 (by decide))
  refine r_aload_n (μ := mX12_lay) (pc := 74) dX12_lay_74 rfl rfl rfl ?_
  refine r_getR (μ := mX12_lay) (pc := 75) dX12_lay_75 fpX12_28 rfl rfl (by decide) (hM _ _ rfl) ?_
  refine r_iload_n (μ := mX12_lay) (pc := 78) dX12_lay_78 rfl rfl ?_
  refine r_iaload (μ := mX12_lay) (pc := 79) (j := u) dX12_lay_79 rfl rfl (by omega) (by decide) ?_
  refine s_istore (μ := mX12_lay) (pc := 80) (L2 := [_, _, _, _, _, _, _]) dX12_lay_80 (Nat.le_of_ble_eq_true rfl) (Nat.le_of_ble_eq_true rfl) rfl rfl ?_
  refine r_aload_n (μ := mX12_lay) (pc := 82) dX12_lay_82 rfl rfl rfl ?_
  refine r_getR (μ := mX12_lay) (pc := 83) dX12_lay_83 fpX12_28 rfl rfl (by decide) (hM _ _ rfl) ?_
  refine r_iload_n (μ := mX12_lay) (pc := 86) dX12_lay_86 rfl rfl ?_
  refine r_iload_n (μ := mX12_lay) (pc := 87) dX12_lay_87 rfl rfl ?_
  refine r_iastore (μ := mX12_lay) (pc := 88) (j := u) dX12_lay_88 rfl rfl (by omega) (by decide) ?_
  refine r_aload_n (μ := mX12_lay) (pc := 89) dX12_lay_89 rfl rfl rfl ?_
  refine r_getR (μ := mX12_lay) (pc := 90) dX12_lay_90 fpX12_31 rfl rfl (by decide) (hM _ _ rfl) ?_
  refine r_iload_n (μ := mX12_lay) (pc := 93) dX12_lay_93 rfl rfl ?_
  refine r_iload_n (μ := mX12_lay) (pc := 94) dX12_lay_94 rfl rfl ?_
  refine r_iconst (μ := mX12_lay) (pc := 95) (v := 1) dX12_lay_95 ic_1 ?_
  refine r_icmp_ne (μ := mX12_lay) (pc := 96) (tgt := 108) dX12_lay_96 (by decide) (fun h_96 => ?_) (fun h_96 => absurd h_96 (by decide))
  refine r_iload_n (μ := mX12_lay) (pc := 108) dX12_lay_108 rfl rfl ?_
  refine r_iastore (μ := mX12_lay) (pc := 109) (j := u) dX12_lay_109 rfl rfl (by omega) (by decide) ?_
  refine r_aload_n (μ := mX12_lay) (pc := 110) dX12_lay_110 rfl rfl rfl ?_
  refine r_getR (μ := mX12_lay) (pc := 111) dX12_lay_111 fpX12_34 rfl rfl (by decide) (hM _ _ rfl) ?_
  refine r_iload_n (μ := mX12_lay) (pc := 114) dX12_lay_114 rfl rfl ?_
  refine r_iload_n (μ := mX12_lay) (pc := 115) dX12_lay_115 rfl rfl ?_
  refine r_iconst (μ := mX12_lay) (pc := 116) (v := 1) dX12_lay_116 ic_1 ?_
  refine r_icmp_ne (μ := mX12_lay) (pc := 117) (tgt := 128) dX12_lay_117 (by decide) (fun h_117 => ?_) (fun h_117 => absurd h_117 (by decide))
  refine r_iconst (μ := mX12_lay) (pc := 128) (v := 0) dX12_lay_128 ic_0 ?_
  refine r_iastore (μ := mX12_lay) (pc := 129) (j := u) dX12_lay_129 rfl rfl (by omega) (by decide) ?_
  refine r_iload_n (μ := mX12_lay) (pc := 130) dX12_lay_130 rfl rfl ?_
  refine r_iconst (μ := mX12_lay) (pc := 131) (v := 2) dX12_lay_131 ic_2 ?_
  refine r_icmp_ne (μ := mX12_lay) (pc := 132) (tgt := 187) dX12_lay_132 (by decide) (fun h_132 => ?_) (fun h_132 => absurd h_132 (by decide))
  refine r_iload (μ := mX12_lay) (pc := 187) dX12_lay_187 rfl ?_
  exact r_iret (μ := mX12_lay) (pc := 189) dX12_lay_189 rfl rfl (PX_i ⟨rfl, rfl⟩)

theorem c_lay1 {d : Nat} {mi : MI} {mr : MR} (hM : MB mr) {s : Rw} (hs : mi 1 = s) {n m p q : Nat} (hI : Inv s n m p q) {u l : Nat} (hu : u < 5) (hl : l < m) : CP (d + 2) mX12_lay [.ref 0, .int (nI u), .int 1, .int (nI l)] shM mi mr 0 0 (PX shM mr (fun r mi2 => r = mi 7 u ∧ mi2 = ldHeld mi u 1 (knd s l) (wthK (knd s l) (lng s l)))) := by
  have hn10 := hI.n10; have hm8 := hI.m8; have hp6 := hI.p6; have hq14 := hI.q14
  refine CP.of (L := [_, _, _, _, _, _, _]) (by decide) rfl rfl (Nat.le_of_ble_eq_true rfl) ?_
  refine r_iload_n (μ := mX12_lay) (pc := 0) dX12_lay_0 rfl rfl ?_
  refine r_if_eq (μ := mX12_lay) (pc := 1) (tgt := 34) dX12_lay_1 (by decide) (fun h_1 => absurd h_1 (by decide)) (fun h_1 => ?_)
  refine r_iload_n (μ := mX12_lay) (pc := 4) dX12_lay_4 rfl rfl ?_
  refine r_iconst (μ := mX12_lay) (pc := 5) (v := 3) dX12_lay_5 ic_3 ?_
  refine r_icmp_eq (μ := mX12_lay) (pc := 6) (tgt := 34) dX12_lay_6 (by decide) (fun h_6 => absurd h_6 (by decide)) (fun h_6 => ?_)
  refine r_iload_n (μ := mX12_lay) (pc := 9) dX12_lay_9 rfl rfl ?_
  refine r_iconst (μ := mX12_lay) (pc := 10) (v := 1) dX12_lay_10 ic_1 ?_
  refine r_icmp_ne (μ := mX12_lay) (pc := 11) (tgt := 22) dX12_lay_11 (by decide) (fun h_11 => absurd rfl h_11) (fun h_11 => ?_)
  refine r_aload_n (μ := mX12_lay) (pc := 14) dX12_lay_14 rfl rfl rfl ?_
  refine r_iload_n (μ := mX12_lay) (pc := 15) dX12_lay_15 rfl rfl ?_
  refine vP1 (μ := mX12_lay) (pc := 16) (c0 := 12) (q0 := (RX12, TX12, 34)) (μ2 := mX12_isLadder) dX12_lay_16 rfl rfl lkX12_137 imX12_isLadder seX12_X12_isLadder_X12_isLadder mwX12_isLadder (Nat.le_of_ble_eq_true rfl) (e_isLadder hM hs hI) ?_
  refine r_if_ne (μ := mX12_lay) (pc := 19) (tgt := 34) dX12_lay_19 (by decide) (fun h_19 => ?_) (fun h_19 => absurd h_19 (b2i_ne (inR_nI hl (by omega))))
  refine r_iconst (μ := mX12_lay) (pc := 34) (v := 1) dX12_lay_34 ic_1 ?_
  refine r_goto (μ := mX12_lay) (pc := 35) (tgt := 39) dX12_lay_35 (by decide) ?_
  refine s_istore (μ := mX12_lay) (pc := 39) (L2 := [_, _, _, _, _, _, _]) dX12_lay_39 (Nat.le_of_ble_eq_true rfl) (Nat.le_of_ble_eq_true rfl) rfl rfl ?_
  refine r_iload_n (μ := mX12_lay) (pc := 41) dX12_lay_41 rfl rfl ?_
  refine sP1 (μ := mX12_lay) (pc := 42) (μ2 := mX12_isSlot) dX12_lay_42 lkX12_326 stX12_isSlot mwX12_isSlot (Nat.le_of_ble_eq_true rfl) c_isSlot ?_
  refine r_if_eq (μ := mX12_lay) (pc := 45) (tgt := 53) dX12_lay_45 (by decide) (fun h_45 => absurd h_45 (b2i_ne (inB_nI (by omega) (by omega)))) (fun h_45 => ?_)
  refine r_iload (μ := mX12_lay) (pc := 48) dX12_lay_48 rfl ?_
  refine r_if_ne (μ := mX12_lay) (pc := 50) (tgt := 56) dX12_lay_50 (by decide) (fun h_50 => ?_) (fun h_50 => absurd h_50 (by decide))
  refine r_iload_n (μ := mX12_lay) (pc := 56) dX12_lay_56 rfl rfl ?_
  refine r_iconst (μ := mX12_lay) (pc := 57) (v := 2) dX12_lay_57 ic_2 ?_
  refine r_icmp_ne (μ := mX12_lay) (pc := 58) (tgt := 74) dX12_lay_58 (by decide) (fun h_58 => ?_) (fun h_58 => absurd h_58 (by decide))
  refine r_aload_n (μ := mX12_lay) (pc := 74) dX12_lay_74 rfl rfl rfl ?_
  refine r_getR (μ := mX12_lay) (pc := 75) dX12_lay_75 fpX12_28 rfl rfl (by decide) (hM _ _ rfl) ?_
  refine r_iload_n (μ := mX12_lay) (pc := 78) dX12_lay_78 rfl rfl ?_
  refine r_iaload (μ := mX12_lay) (pc := 79) (j := u) dX12_lay_79 rfl rfl (by omega) (by decide) ?_
  refine s_istore (μ := mX12_lay) (pc := 80) (L2 := [_, _, _, _, _, _, _]) dX12_lay_80 (Nat.le_of_ble_eq_true rfl) (Nat.le_of_ble_eq_true rfl) rfl rfl ?_
  refine r_aload_n (μ := mX12_lay) (pc := 82) dX12_lay_82 rfl rfl rfl ?_
  refine r_getR (μ := mX12_lay) (pc := 83) dX12_lay_83 fpX12_28 rfl rfl (by decide) (hM _ _ rfl) ?_
  refine r_iload_n (μ := mX12_lay) (pc := 86) dX12_lay_86 rfl rfl ?_
  refine r_iload_n (μ := mX12_lay) (pc := 87) dX12_lay_87 rfl rfl ?_
  refine r_iastore (μ := mX12_lay) (pc := 88) (j := u) dX12_lay_88 rfl rfl (by omega) (by decide) ?_
  refine r_aload_n (μ := mX12_lay) (pc := 89) dX12_lay_89 rfl rfl rfl ?_
  refine r_getR (μ := mX12_lay) (pc := 90) dX12_lay_90 fpX12_31 rfl rfl (by decide) (hM _ _ rfl) ?_
  refine r_iload_n (μ := mX12_lay) (pc := 93) dX12_lay_93 rfl rfl ?_
  refine r_iload_n (μ := mX12_lay) (pc := 94) dX12_lay_94 rfl rfl ?_
  refine r_iconst (μ := mX12_lay) (pc := 95) (v := 1) dX12_lay_95 ic_1 ?_
  refine r_icmp_ne (μ := mX12_lay) (pc := 96) (tgt := 108) dX12_lay_96 (by decide) (fun h_96 => absurd rfl h_96) (fun h_96 => ?_)
  refine r_aload_n (μ := mX12_lay) (pc := 99) dX12_lay_99 rfl rfl rfl ?_
  refine r_iload_n (μ := mX12_lay) (pc := 100) dX12_lay_100 rfl rfl ?_
  refine r_iconst (μ := mX12_lay) (pc := 101) (v := 0) dX12_lay_101 ic_0 ?_
  refine vP2 (μ := mX12_lay) (pc := 102) (c0 := 12) (q0 := (RX12, TX12, 34)) (μ2 := mX12_of) dX12_lay_102 rfl rfl lkX12_90 imX12_of seX12_X12_of_X12_of mwX12_of (Nat.le_of_ble_eq_true rfl) (e_of (s := s) hM (by rw [upI_ne (by decide)]; exact hs) (by omega) (by decide)) ?_
  refine r_goto (μ := mX12_lay) (pc := 105) (tgt := 109) dX12_lay_105 (by decide) ?_
  refine r_iastore (μ := mX12_lay) (pc := 109) (j := u) dX12_lay_109 rfl rfl (by omega) (by decide) ?_
  refine r_aload_n (μ := mX12_lay) (pc := 110) dX12_lay_110 rfl rfl rfl ?_
  refine r_getR (μ := mX12_lay) (pc := 111) dX12_lay_111 fpX12_34 rfl rfl (by decide) (hM _ _ rfl) ?_
  refine r_iload_n (μ := mX12_lay) (pc := 114) dX12_lay_114 rfl rfl ?_
  refine r_iload_n (μ := mX12_lay) (pc := 115) dX12_lay_115 rfl rfl ?_
  refine r_iconst (μ := mX12_lay) (pc := 116) (v := 1) dX12_lay_116 ic_1 ?_
  refine r_icmp_ne (μ := mX12_lay) (pc := 117) (tgt := 128) dX12_lay_117 (by decide) (fun h_117 => absurd rfl h_117) (fun h_117 => ?_)
  refine r_aload_n (μ := mX12_lay) (pc := 120) dX12_lay_120 rfl rfl rfl ?_
  refine r_iload_n (μ := mX12_lay) (pc := 121) dX12_lay_121 rfl rfl ?_
  refine vP1 (μ := mX12_lay) (pc := 122) (c0 := 12) (q0 := (RX12, TX12, 34)) (μ2 := mX12_worth) dX12_lay_122 rfl rfl lkX12_146 imX12_worth seX12_X12_worth_X12_worth mwX12_worth (Nat.le_of_ble_eq_true rfl) (e_worth (s := s) hM (by rw [upI_ne (by decide), upI_ne (by decide)]; exact hs) hI hl) ?_
  refine r_goto (μ := mX12_lay) (pc := 125) (tgt := 129) dX12_lay_125 (by decide) ?_
  refine r_iastore (μ := mX12_lay) (pc := 129) (j := u) dX12_lay_129 rfl rfl (by omega) (by decide) ?_
  refine r_iload_n (μ := mX12_lay) (pc := 130) dX12_lay_130 rfl rfl ?_
  refine r_iconst (μ := mX12_lay) (pc := 131) (v := 2) dX12_lay_131 ic_2 ?_
  refine r_icmp_ne (μ := mX12_lay) (pc := 132) (tgt := 187) dX12_lay_132 (by decide) (fun h_132 => ?_) (fun h_132 => absurd h_132 (by decide))
  refine r_iload (μ := mX12_lay) (pc := 187) dX12_lay_187 rfl ?_
  exact r_iret (μ := mX12_lay) (pc := 189) dX12_lay_189 rfl rfl (PX_i ⟨rfl, rfl⟩)

theorem c_lay_none {d : Nat} {mi : MI} {mr : MR} (hM : MB mr) {s : Rw} (hs : mi 1 = s) {n m p q : Nat} (hI : Inv s n m p q) {u k : Nat} (hu : u < 5) (hk : k < 4) (h4 : mi 4 k < 0) : CP (d + 2) mX12_lay [.ref 0, .int (nI u), .int 2, .int (nI k)] shM mi mr 0 0 (PI (NOTHINGc) shM mi mr) := by
  refine CP.of (L := [_, _, _, _, _, _, _]) (by decide) rfl rfl (Nat.le_of_ble_eq_true rfl) ?_
  refine r_iload_n (μ := mX12_lay) (pc := 0) dX12_lay_0 rfl rfl ?_
  refine r_if_eq (μ := mX12_lay) (pc := 1) (tgt := 34) dX12_lay_1 (by decide) (fun h_1 => absurd h_1 (by decide)) (fun h_1 => ?_)
  refine r_iload_n (μ := mX12_lay) (pc := 4) dX12_lay_4 rfl rfl ?_
  refine r_iconst (μ := mX12_lay) (pc := 5) (v := 3) dX12_lay_5 ic_3 ?_
  refine r_icmp_eq (μ := mX12_lay) (pc := 6) (tgt := 34) dX12_lay_6 (by decide) (fun h_6 => absurd h_6 (by decide)) (fun h_6 => ?_)
  refine r_iload_n (μ := mX12_lay) (pc := 9) dX12_lay_9 rfl rfl ?_
  refine r_iconst (μ := mX12_lay) (pc := 10) (v := 1) dX12_lay_10 ic_1 ?_
  refine r_icmp_ne (μ := mX12_lay) (pc := 11) (tgt := 22) dX12_lay_11 (by decide) (fun h_11 => ?_) (fun h_11 => absurd h_11 (by decide))
  refine r_iload_n (μ := mX12_lay) (pc := 22) dX12_lay_22 rfl rfl ?_
  refine r_iconst (μ := mX12_lay) (pc := 23) (v := 2) dX12_lay_23 ic_2 ?_
  refine r_icmp_ne (μ := mX12_lay) (pc := 24) (tgt := 38) dX12_lay_24 (by decide) (fun h_24 => absurd rfl h_24) (fun h_24 => ?_)
  refine r_iload_n (μ := mX12_lay) (pc := 27) dX12_lay_27 rfl rfl ?_
  refine sP1 (μ := mX12_lay) (pc := 28) (μ2 := mX12_isSheet) dX12_lay_28 lkX12_312 stX12_isSheet mwX12_isSheet (Nat.le_of_ble_eq_true rfl) c_isSheet ?_
  refine r_if_eq (μ := mX12_lay) (pc := 31) (tgt := 38) dX12_lay_31 (by decide) (fun h_31 => absurd h_31 (b2i_ne (inB_nI (by omega) (by omega)))) (fun h_31 => ?_)
  refine r_iconst (μ := mX12_lay) (pc := 34) (v := 1) dX12_lay_34 ic_1 ?_
  refine r_goto (μ := mX12_lay) (pc := 35) (tgt := 39) dX12_lay_35 (by decide) ?_
  refine s_istore (μ := mX12_lay) (pc := 39) (L2 := [_, _, _, _, _, _, _]) dX12_lay_39 (Nat.le_of_ble_eq_true rfl) (Nat.le_of_ble_eq_true rfl) rfl rfl ?_
  refine r_iload_n (μ := mX12_lay) (pc := 41) dX12_lay_41 rfl rfl ?_
  refine sP1 (μ := mX12_lay) (pc := 42) (μ2 := mX12_isSlot) dX12_lay_42 lkX12_326 stX12_isSlot mwX12_isSlot (Nat.le_of_ble_eq_true rfl) c_isSlot ?_
  refine r_if_eq (μ := mX12_lay) (pc := 45) (tgt := 53) dX12_lay_45 (by decide) (fun h_45 => absurd h_45 (b2i_ne (inB_nI (by omega) (by omega)))) (fun h_45 => ?_)
  refine r_iload (μ := mX12_lay) (pc := 48) dX12_lay_48 rfl ?_
  refine r_if_ne (μ := mX12_lay) (pc := 50) (tgt := 56) dX12_lay_50 (by decide) (fun h_50 => ?_) (fun h_50 => absurd h_50 (by decide))
  refine r_iload_n (μ := mX12_lay) (pc := 56) dX12_lay_56 rfl rfl ?_
  refine r_iconst (μ := mX12_lay) (pc := 57) (v := 2) dX12_lay_57 ic_2 ?_
  refine r_icmp_ne (μ := mX12_lay) (pc := 58) (tgt := 74) dX12_lay_58 (by decide) (fun h_58 => absurd rfl h_58) (fun h_58 => ?_)
  refine r_aload_n (μ := mX12_lay) (pc := 61) dX12_lay_61 rfl rfl rfl ?_
  refine r_getR (μ := mX12_lay) (pc := 62) dX12_lay_62 fpX12_19 rfl rfl (by decide) (hM _ _ rfl) ?_
  refine r_iload_n (μ := mX12_lay) (pc := 65) dX12_lay_65 rfl rfl ?_
  refine r_iaload (μ := mX12_lay) (pc := 66) (j := k) dX12_lay_66 rfl rfl (by omega) (by decide) ?_
  refine r_if_ge (μ := mX12_lay) (pc := 67) (tgt := 74) dX12_lay_67 (by decide) (fun h_67 => absurd h_67 (Int32.not_le.mpr h4)) (fun h_67 => ?_)
  refine r_ldcw (μ := mX12_lay) (pc := 70) dX12_lay_70 ctX12_318 ?_
  exact r_iret (μ := mX12_lay) (pc := 73) dX12_lay_73 rfl rfl (PI_i rfl)

theorem lp_lay {d : Nat} {mi : MI} {mr : MR} {Q : QT} (hM : MB mr) {u k : Nat} (hu : u < 5) (hk : k < 4) {x4 w : Int32} (hq : Q (some (.int w)) shM (ldRow mi u k 24) mr) :
    ∀ (j i : Nat), i + j = 24 → WP d mX12_lay 150 [.ref 0, .int (nI u), .int 2, .int (nI k), .int x4, .int w, .int (nI i)] [] shM (ldRow mi u k i) mr 0 0 Q := by
  intro j
  induction j with
  | zero =>
    intro i hj
    obtain rfl : i = 24 := by omega
    refine r_iload (μ := mX12_lay) (pc := 150) dX12_lay_150 rfl ?_
    refine r_bipush (μ := mX12_lay) (pc := 152) (v := 24) dX12_lay_152 bp_24 ?_
    refine r_icmp_ge (μ := mX12_lay) (pc := 154) (tgt := 187) dX12_lay_154 (by decide) (fun h_154 => ?_) (fun h_154 => absurd (nI_leC (a := 24) rfl (by omega) (by omega)) h_154)
    refine r_iload (μ := mX12_lay) (pc := 187) dX12_lay_187 rfl ?_
    exact r_iret (μ := mX12_lay) (pc := 189) dX12_lay_189 rfl rfl hq
  | succ j ih =>
    intro i hj
    refine r_iload (μ := mX12_lay) (pc := 150) dX12_lay_150 rfl ?_
    refine r_bipush (μ := mX12_lay) (pc := 152) (v := 24) dX12_lay_152 bp_24 ?_
    refine r_icmp_ge (μ := mX12_lay) (pc := 154) (tgt := 187) dX12_lay_154 (by decide) (fun h_154 => absurd h_154 (nI_geC (b := 24) rfl (by omega) (by decide))) (fun h_154 => ?_)
    refine r_aload_n (μ := mX12_lay) (pc := 157) dX12_lay_157 rfl rfl rfl ?_
    refine r_getR (μ := mX12_lay) (pc := 158) dX12_lay_158 fpX12_40 rfl rfl (by decide) (hM _ _ rfl) ?_
    refine r_bipush (μ := mX12_lay) (pc := 161) (v := 24) dX12_lay_161 bp_24 ?_
    refine r_iload_n (μ := mX12_lay) (pc := 163) dX12_lay_163 rfl rfl ?_
    refine r_imul (μ := mX12_lay) (pc := 164) dX12_lay_164 ?_
    refine r_iload (μ := mX12_lay) (pc := 165) dX12_lay_165 rfl ?_
    refine r_iadd (μ := mX12_lay) (pc := 167) dX12_lay_167 ?_
    refine r_aload_n (μ := mX12_lay) (pc := 168) dX12_lay_168 rfl rfl rfl ?_
    refine r_getR (μ := mX12_lay) (pc := 169) dX12_lay_169 fpX12_25 rfl rfl (by decide) (hM _ _ rfl) ?_
    refine r_bipush (μ := mX12_lay) (pc := 172) (v := 24) dX12_lay_172 bp_24 ?_
    refine r_iload_n (μ := mX12_lay) (pc := 174) dX12_lay_174 rfl rfl ?_
    refine r_imul (μ := mX12_lay) (pc := 175) dX12_lay_175 ?_
    refine r_iload (μ := mX12_lay) (pc := 176) dX12_lay_176 rfl ?_
    refine r_iadd (μ := mX12_lay) (pc := 178) dX12_lay_178 ?_
    refine r_iaload (μ := mX12_lay) (pc := 179) (j := ((24 * k) + i)) dX12_lay_179 rfl (by simp only [← nI_add, ← pk_mul] <;> rfl) (by omega) (by decide) ?_
    rw [ldRow_o (by decide)]
    refine r_iastore (μ := mX12_lay) (pc := 180) (j := ((24 * u) + i)) dX12_lay_180 rfl (by simp only [← nI_add, ← pk_mul] <;> rfl) (by omega) (by decide) ?_
    refine s_iinc (μ := mX12_lay) (pc := 181) (c := 1) (L2 := [_, _, _, _, _, _, _]) dX12_lay_181 rfl ic_1 (Nat.le_of_ble_eq_true rfl) rfl rfl ?_
    refine r_goto (μ := mX12_lay) (pc := 184) (tgt := 150) dX12_lay_184 (by decide) ?_
    exact WP.L (by rw [nI_succ]) (ih (i + 1) (by omega))

theorem c_lay2 {d : Nat} {mi : MI} {mr : MR} (hM : MB mr) {s : Rw} (hs : mi 1 = s) {n m p q : Nat} (hI : Inv s n m p q) {u k : Nat} (hu : u < 5) (hk : k < 4) (h4 : ¬ mi 4 k < 0) : CP (d + 2) mX12_lay [.ref 0, .int (nI u), .int 2, .int (nI k)] shM mi mr 0 0 (PX shM mr (fun r mi2 => r = mi 7 u ∧ mi2 = ldRow (upI (ldHeld mi u 2 (nI k) 0) 10 u (mi 5 k)) u k 24)) := by
  refine CP.of (L := [_, _, _, _, _, _, _]) (by decide) rfl rfl (Nat.le_of_ble_eq_true rfl) ?_
  refine r_iload_n (μ := mX12_lay) (pc := 0) dX12_lay_0 rfl rfl ?_
  refine r_if_eq (μ := mX12_lay) (pc := 1) (tgt := 34) dX12_lay_1 (by decide) (fun h_1 => absurd h_1 (by decide)) (fun h_1 => ?_)
  refine r_iload_n (μ := mX12_lay) (pc := 4) dX12_lay_4 rfl rfl ?_
  refine r_iconst (μ := mX12_lay) (pc := 5) (v := 3) dX12_lay_5 ic_3 ?_
  refine r_icmp_eq (μ := mX12_lay) (pc := 6) (tgt := 34) dX12_lay_6 (by decide) (fun h_6 => absurd h_6 (by decide)) (fun h_6 => ?_)
  refine r_iload_n (μ := mX12_lay) (pc := 9) dX12_lay_9 rfl rfl ?_
  refine r_iconst (μ := mX12_lay) (pc := 10) (v := 1) dX12_lay_10 ic_1 ?_
  refine r_icmp_ne (μ := mX12_lay) (pc := 11) (tgt := 22) dX12_lay_11 (by decide) (fun h_11 => ?_) (fun h_11 => absurd h_11 (by decide))
  refine r_iload_n (μ := mX12_lay) (pc := 22) dX12_lay_22 rfl rfl ?_
  refine r_iconst (μ := mX12_lay) (pc := 23) (v := 2) dX12_lay_23 ic_2 ?_
  refine r_icmp_ne (μ := mX12_lay) (pc := 24) (tgt := 38) dX12_lay_24 (by decide) (fun h_24 => absurd rfl h_24) (fun h_24 => ?_)
  refine r_iload_n (μ := mX12_lay) (pc := 27) dX12_lay_27 rfl rfl ?_
  refine sP1 (μ := mX12_lay) (pc := 28) (μ2 := mX12_isSheet) dX12_lay_28 lkX12_312 stX12_isSheet mwX12_isSheet (Nat.le_of_ble_eq_true rfl) c_isSheet ?_
  refine r_if_eq (μ := mX12_lay) (pc := 31) (tgt := 38) dX12_lay_31 (by decide) (fun h_31 => absurd h_31 (b2i_ne (inB_nI (by omega) (by omega)))) (fun h_31 => ?_)
  refine r_iconst (μ := mX12_lay) (pc := 34) (v := 1) dX12_lay_34 ic_1 ?_
  refine r_goto (μ := mX12_lay) (pc := 35) (tgt := 39) dX12_lay_35 (by decide) ?_
  refine s_istore (μ := mX12_lay) (pc := 39) (L2 := [_, _, _, _, _, _, _]) dX12_lay_39 (Nat.le_of_ble_eq_true rfl) (Nat.le_of_ble_eq_true rfl) rfl rfl ?_
  refine r_iload_n (μ := mX12_lay) (pc := 41) dX12_lay_41 rfl rfl ?_
  refine sP1 (μ := mX12_lay) (pc := 42) (μ2 := mX12_isSlot) dX12_lay_42 lkX12_326 stX12_isSlot mwX12_isSlot (Nat.le_of_ble_eq_true rfl) c_isSlot ?_
  refine r_if_eq (μ := mX12_lay) (pc := 45) (tgt := 53) dX12_lay_45 (by decide) (fun h_45 => absurd h_45 (b2i_ne (inB_nI (by omega) (by omega)))) (fun h_45 => ?_)
  refine r_iload (μ := mX12_lay) (pc := 48) dX12_lay_48 rfl ?_
  refine r_if_ne (μ := mX12_lay) (pc := 50) (tgt := 56) dX12_lay_50 (by decide) (fun h_50 => ?_) (fun h_50 => absurd h_50 (by decide))
  refine r_iload_n (μ := mX12_lay) (pc := 56) dX12_lay_56 rfl rfl ?_
  refine r_iconst (μ := mX12_lay) (pc := 57) (v := 2) dX12_lay_57 ic_2 ?_
  refine r_icmp_ne (μ := mX12_lay) (pc := 58) (tgt := 74) dX12_lay_58 (by decide) (fun h_58 => absurd rfl h_58) (fun h_58 => ?_)
  refine r_aload_n (μ := mX12_lay) (pc := 61) dX12_lay_61 rfl rfl rfl ?_
  refine r_getR (μ := mX12_lay) (pc := 62) dX12_lay_62 fpX12_19 rfl rfl (by decide) (hM _ _ rfl) ?_
  refine r_iload_n (μ := mX12_lay) (pc := 65) dX12_lay_65 rfl rfl ?_
  refine r_iaload (μ := mX12_lay) (pc := 66) (j := k) dX12_lay_66 rfl rfl (by omega) (by decide) ?_
  refine r_if_ge (μ := mX12_lay) (pc := 67) (tgt := 74) dX12_lay_67 (by decide) (fun h_67 => ?_) (fun h_67 => absurd (Int32.not_lt.mp h4) h_67)
  refine r_aload_n (μ := mX12_lay) (pc := 74) dX12_lay_74 rfl rfl rfl ?_
  refine r_getR (μ := mX12_lay) (pc := 75) dX12_lay_75 fpX12_28 rfl rfl (by decide) (hM _ _ rfl) ?_
  refine r_iload_n (μ := mX12_lay) (pc := 78) dX12_lay_78 rfl rfl ?_
  refine r_iaload (μ := mX12_lay) (pc := 79) (j := u) dX12_lay_79 rfl rfl (by omega) (by decide) ?_
  refine s_istore (μ := mX12_lay) (pc := 80) (L2 := [_, _, _, _, _, _, _]) dX12_lay_80 (Nat.le_of_ble_eq_true rfl) (Nat.le_of_ble_eq_true rfl) rfl rfl ?_
  refine r_aload_n (μ := mX12_lay) (pc := 82) dX12_lay_82 rfl rfl rfl ?_
  refine r_getR (μ := mX12_lay) (pc := 83) dX12_lay_83 fpX12_28 rfl rfl (by decide) (hM _ _ rfl) ?_
  refine r_iload_n (μ := mX12_lay) (pc := 86) dX12_lay_86 rfl rfl ?_
  refine r_iload_n (μ := mX12_lay) (pc := 87) dX12_lay_87 rfl rfl ?_
  refine r_iastore (μ := mX12_lay) (pc := 88) (j := u) dX12_lay_88 rfl rfl (by omega) (by decide) ?_
  refine r_aload_n (μ := mX12_lay) (pc := 89) dX12_lay_89 rfl rfl rfl ?_
  refine r_getR (μ := mX12_lay) (pc := 90) dX12_lay_90 fpX12_31 rfl rfl (by decide) (hM _ _ rfl) ?_
  refine r_iload_n (μ := mX12_lay) (pc := 93) dX12_lay_93 rfl rfl ?_
  refine r_iload_n (μ := mX12_lay) (pc := 94) dX12_lay_94 rfl rfl ?_
  refine r_iconst (μ := mX12_lay) (pc := 95) (v := 1) dX12_lay_95 ic_1 ?_
  refine r_icmp_ne (μ := mX12_lay) (pc := 96) (tgt := 108) dX12_lay_96 (by decide) (fun h_96 => ?_) (fun h_96 => absurd h_96 (by decide))
  refine r_iload_n (μ := mX12_lay) (pc := 108) dX12_lay_108 rfl rfl ?_
  refine r_iastore (μ := mX12_lay) (pc := 109) (j := u) dX12_lay_109 rfl rfl (by omega) (by decide) ?_
  refine r_aload_n (μ := mX12_lay) (pc := 110) dX12_lay_110 rfl rfl rfl ?_
  refine r_getR (μ := mX12_lay) (pc := 111) dX12_lay_111 fpX12_34 rfl rfl (by decide) (hM _ _ rfl) ?_
  refine r_iload_n (μ := mX12_lay) (pc := 114) dX12_lay_114 rfl rfl ?_
  refine r_iload_n (μ := mX12_lay) (pc := 115) dX12_lay_115 rfl rfl ?_
  refine r_iconst (μ := mX12_lay) (pc := 116) (v := 1) dX12_lay_116 ic_1 ?_
  refine r_icmp_ne (μ := mX12_lay) (pc := 117) (tgt := 128) dX12_lay_117 (by decide) (fun h_117 => ?_) (fun h_117 => absurd h_117 (by decide))
  refine r_iconst (μ := mX12_lay) (pc := 128) (v := 0) dX12_lay_128 ic_0 ?_
  refine r_iastore (μ := mX12_lay) (pc := 129) (j := u) dX12_lay_129 rfl rfl (by omega) (by decide) ?_
  refine r_iload_n (μ := mX12_lay) (pc := 130) dX12_lay_130 rfl rfl ?_
  refine r_iconst (μ := mX12_lay) (pc := 131) (v := 2) dX12_lay_131 ic_2 ?_
  refine r_icmp_ne (μ := mX12_lay) (pc := 132) (tgt := 187) dX12_lay_132 (by decide) (fun h_132 => absurd rfl h_132) (fun h_132 => ?_)
  refine r_aload_n (μ := mX12_lay) (pc := 135) dX12_lay_135 rfl rfl rfl ?_
  refine r_getR (μ := mX12_lay) (pc := 136) dX12_lay_136 fpX12_37 rfl rfl (by decide) (hM _ _ rfl) ?_
  refine r_iload_n (μ := mX12_lay) (pc := 139) dX12_lay_139 rfl rfl ?_
  refine r_aload_n (μ := mX12_lay) (pc := 140) dX12_lay_140 rfl rfl rfl ?_
  refine r_getR (μ := mX12_lay) (pc := 141) dX12_lay_141 fpX12_22 rfl rfl (by decide) (hM _ _ rfl) ?_
  refine r_iload_n (μ := mX12_lay) (pc := 144) dX12_lay_144 rfl rfl ?_
  refine r_iaload (μ := mX12_lay) (pc := 145) (j := k) dX12_lay_145 rfl rfl (by omega) (by decide) ?_
  refine r_iastore (μ := mX12_lay) (pc := 146) (j := u) dX12_lay_146 rfl rfl (by omega) (by decide) ?_
  refine r_iconst (μ := mX12_lay) (pc := 147) (v := 0) dX12_lay_147 ic_0 ?_
  refine s_istore (μ := mX12_lay) (pc := 148) (L2 := [_, _, _, _, _, _, _]) dX12_lay_148 (Nat.le_of_ble_eq_true rfl) (Nat.le_of_ble_eq_true rfl) rfl rfl ?_
  exact lp_lay hM hu hk (PX_i ⟨rfl, rfl⟩) 24 0 rfl

theorem c_ask_bad {d : Nat} {mi : MI} {mr : MR} (hM : MB mr) {x w : Int32} (hb : ¬ (inB x 0 4 = true ∧ inB w 0 5 = true)) : CP (d + 2) mX12_ask [.ref 0, .int x, .int w] shM mi mr 0 0 (PI (BADc) shM mi mr) := by
  refine CP.of (L := [_, _, _]) (by decide) rfl rfl (Nat.le_of_ble_eq_true rfl) ?_
  refine r_iload_n (μ := mX12_ask) (pc := 0) dX12_ask_0 rfl rfl ?_
  refine sP1 (μ := mX12_ask) (pc := 1) (μ2 := mX12_isSlot) dX12_ask_1 lkX12_326 stX12_isSlot mwX12_isSlot (Nat.le_of_ble_eq_true rfl) c_isSlot ?_
  refine r_if_eq (μ := mX12_ask) (pc := 4) (tgt := 19) dX12_ask_4 (by decide) (fun h_4 => ?_) (fun h_4 => ?_)
  · have h_4 := b2i_0 h_4
    refine r_ldc (μ := mX12_ask) (pc := 19) dX12_ask_19 ctX12_78 ?_
    exact r_iret (μ := mX12_ask) (pc := 21) dX12_ask_21 rfl rfl (PI_i rfl)
  · have h_4 := b2i_1 h_4
    refine r_iload_n (μ := mX12_ask) (pc := 7) dX12_ask_7 rfl rfl ?_
    refine r_i2l (μ := mX12_ask) (pc := 8) dX12_ask_8 ?_
    refine r_lconst (μ := mX12_ask) (pc := 9) (v := 0) dX12_ask_9 lc_0 ?_
    refine r_ldc2 (μ := mX12_ask) (pc := 10) dX12_ask_10 clX12_106 ?_
    refine sP3 (μ := mX12_ask) (pc := 13) (μ2 := mX12_isIn) dX12_ask_13 lkX12_65 stX12_isIn mwX12_isIn (Nat.le_of_ble_eq_true rfl) (c_isInK il_0 il_5) ?_
    refine r_if_ne (μ := mX12_ask) (pc := 16) (tgt := 22) dX12_ask_16 (by decide) (fun h_16 => ?_) (fun h_16 => ?_)
    · have h_16 := b2i_1 h_16
      exact absurd ⟨h_4, h_16⟩ hb
    · have h_16 := b2i_0 h_16
      refine r_ldc (μ := mX12_ask) (pc := 19) dX12_ask_19 ctX12_78 ?_
      exact r_iret (μ := mX12_ask) (pc := 21) dX12_ask_21 rfl rfl (PI_i rfl)

theorem c_ask {d : Nat} {mi : MI} {mr : MR} (hM : MB mr) {u : Nat} {w : Int32} (hu : u < 5) (hw : inB w 0 5 = true) : CP (d + 2) mX12_ask [.ref 0, .int (nI u), .int w] shM mi mr 0 0 (PI (if mi 7 u = 0 then NOTHINGc else if mi 7 u = 1 then (if isOfB (mi 8 u) w = true then mi 9 u else KINDc) else KINDc) shM mi mr) := by
  refine CP.of (L := [_, _, _]) (by decide) rfl rfl (Nat.le_of_ble_eq_true rfl) ?_
  refine r_iload_n (μ := mX12_ask) (pc := 0) dX12_ask_0 rfl rfl ?_
  refine sP1 (μ := mX12_ask) (pc := 1) (μ2 := mX12_isSlot) dX12_ask_1 lkX12_326 stX12_isSlot mwX12_isSlot (Nat.le_of_ble_eq_true rfl) c_isSlot ?_
  refine r_if_eq (μ := mX12_ask) (pc := 4) (tgt := 19) dX12_ask_4 (by decide) (fun h_4 => absurd h_4 (b2i_ne (inB_nI (by omega) (by omega)))) (fun h_4 => ?_)
  refine r_iload_n (μ := mX12_ask) (pc := 7) dX12_ask_7 rfl rfl ?_
  refine r_i2l (μ := mX12_ask) (pc := 8) dX12_ask_8 ?_
  refine r_lconst (μ := mX12_ask) (pc := 9) (v := 0) dX12_ask_9 lc_0 ?_
  refine r_ldc2 (μ := mX12_ask) (pc := 10) dX12_ask_10 clX12_106 ?_
  refine sP3 (μ := mX12_ask) (pc := 13) (μ2 := mX12_isIn) dX12_ask_13 lkX12_65 stX12_isIn mwX12_isIn (Nat.le_of_ble_eq_true rfl) (c_isInK il_0 il_5) ?_
  refine r_if_ne (μ := mX12_ask) (pc := 16) (tgt := 22) dX12_ask_16 (by decide) (fun h_16 => ?_) (fun h_16 => absurd h_16 (b2i_ne hw))
  refine r_aload_n (μ := mX12_ask) (pc := 22) dX12_ask_22 rfl rfl rfl ?_
  refine r_getR (μ := mX12_ask) (pc := 23) dX12_ask_23 fpX12_28 rfl rfl (by decide) (hM _ _ rfl) ?_
  refine r_iload_n (μ := mX12_ask) (pc := 26) dX12_ask_26 rfl rfl ?_
  refine r_iaload (μ := mX12_ask) (pc := 27) (j := u) dX12_ask_27 rfl rfl (by omega) (by decide) ?_
  refine r_if_ne (μ := mX12_ask) (pc := 28) (tgt := 35) dX12_ask_28 (by decide) (fun h_28 => ?_) (fun h_28 => ?_)
  · refine r_aload_n (μ := mX12_ask) (pc := 35) dX12_ask_35 rfl rfl rfl ?_
    refine r_getR (μ := mX12_ask) (pc := 36) dX12_ask_36 fpX12_28 rfl rfl (by decide) (hM _ _ rfl) ?_
    refine r_iload_n (μ := mX12_ask) (pc := 39) dX12_ask_39 rfl rfl ?_
    refine r_iaload (μ := mX12_ask) (pc := 40) (j := u) dX12_ask_40 rfl rfl (by omega) (by decide) ?_
    refine r_iconst (μ := mX12_ask) (pc := 41) (v := 1) dX12_ask_41 ic_1 ?_
    refine r_icmp_ne (μ := mX12_ask) (pc := 42) (tgt := 67) dX12_ask_42 (by decide) (fun h_42 => ?_) (fun h_42 => ?_)
    · refine r_ldc (μ := mX12_ask) (pc := 67) dX12_ask_67 ctX12_155 ?_
      exact r_iret (μ := mX12_ask) (pc := 69) dX12_ask_69 rfl rfl (PI_i (by first | (rw [if_pos h_28]; rfl) | (rw [if_neg h_28]; first | (rw [if_neg h_42]; rfl) | (rw [if_pos h_42, h_55]; rfl))))
    · refine r_aload_n (μ := mX12_ask) (pc := 45) dX12_ask_45 rfl rfl rfl ?_
      refine r_getR (μ := mX12_ask) (pc := 46) dX12_ask_46 fpX12_31 rfl rfl (by decide) (hM _ _ rfl) ?_
      refine r_iload_n (μ := mX12_ask) (pc := 49) dX12_ask_49 rfl rfl ?_
      refine r_iaload (μ := mX12_ask) (pc := 50) (j := u) dX12_ask_50 rfl rfl (by omega) (by decide) ?_
      refine r_iload_n (μ := mX12_ask) (pc := 51) dX12_ask_51 rfl rfl ?_
      refine sP2 (μ := mX12_ask) (pc := 52) (μ2 := mX12_isOf) dX12_ask_52 lkX12_152 stX12_isOf mwX12_isOf (Nat.le_of_ble_eq_true rfl) c_isOf ?_
      refine r_if_eq (μ := mX12_ask) (pc := 55) (tgt := 67) dX12_ask_55 (by decide) (fun h_55 => ?_) (fun h_55 => ?_)
      · have h_55 := b2i_0 h_55
        refine r_ldc (μ := mX12_ask) (pc := 67) dX12_ask_67 ctX12_155 ?_
        exact r_iret (μ := mX12_ask) (pc := 69) dX12_ask_69 rfl rfl (PI_i (by first | (rw [if_pos h_28]; rfl) | (rw [if_neg h_28]; first | (rw [if_neg h_42]; rfl) | (rw [if_pos h_42, h_55]; rfl))))
      · have h_55 := b2i_1 h_55
        refine r_aload_n (μ := mX12_ask) (pc := 58) dX12_ask_58 rfl rfl rfl ?_
        refine r_getR (μ := mX12_ask) (pc := 59) dX12_ask_59 fpX12_34 rfl rfl (by decide) (hM _ _ rfl) ?_
        refine r_iload_n (μ := mX12_ask) (pc := 62) dX12_ask_62 rfl rfl ?_
        refine r_iaload (μ := mX12_ask) (pc := 63) (j := u) dX12_ask_63 rfl rfl (by omega) (by decide) ?_
        refine r_goto (μ := mX12_ask) (pc := 64) (tgt := 69) dX12_ask_64 (by decide) ?_
        exact r_iret (μ := mX12_ask) (pc := 69) dX12_ask_69 rfl rfl (PI_i (by first | (rw [if_pos h_28]; rfl) | (rw [if_neg h_28]; first | (rw [if_neg h_42]; rfl) | (rw [if_pos h_42, h_55]; rfl))))
  · refine r_ldcw (μ := mX12_ask) (pc := 31) dX12_ask_31 ctX12_318 ?_
    exact r_iret (μ := mX12_ask) (pc := 34) dX12_ask_34 rfl rfl (PI_i (by first | (rw [if_pos h_28]; rfl) | (rw [if_neg h_28]; first | (rw [if_neg h_42]; rfl) | (rw [if_pos h_42, h_55]; rfl))))

theorem c_item_bad {d : Nat} {mi : MI} {mr : MR} (hM : MB mr) {x w : Int32} (hb : ¬ inB x 0 4 = true) : CP (d + 2) mX12_item [.ref 0, .int x, .int w] shM mi mr 0 0 (PI (BADc) shM mi mr) := by
  refine CP.of (L := [_, _, _, _]) (by decide) rfl rfl (Nat.le_of_ble_eq_true rfl) ?_
  refine r_iload_n (μ := mX12_item) (pc := 0) dX12_item_0 rfl rfl ?_
  refine sP1 (μ := mX12_item) (pc := 1) (μ2 := mX12_isSlot) dX12_item_1 lkX12_326 stX12_isSlot mwX12_isSlot (Nat.le_of_ble_eq_true rfl) c_isSlot ?_
  refine r_if_ne (μ := mX12_item) (pc := 4) (tgt := 10) dX12_item_4 (by decide) (fun h_4 => ?_) (fun h_4 => ?_)
  · have h_4 := b2i_1 h_4
    exact absurd h_4 hb
  · have h_4 := b2i_0 h_4
    refine r_ldc (μ := mX12_item) (pc := 7) dX12_item_7 ctX12_78 ?_
    exact r_iret (μ := mX12_item) (pc := 9) dX12_item_9 rfl rfl (PI_i rfl)

theorem c_item_no {d : Nat} {mi : MI} {mr : MR} (hM : MB mr) {u : Nat} {w : Int32} (hu : u < 5) (h7 : ¬ mi 7 u = 2) : CP (d + 2) mX12_item [.ref 0, .int (nI u), .int w] shM mi mr 0 0 (PI (if mi 7 u = 0 then NOTHINGc else KINDc) shM mi mr) := by
  refine CP.of (L := [_, _, _, _]) (by decide) rfl rfl (Nat.le_of_ble_eq_true rfl) ?_
  refine r_iload_n (μ := mX12_item) (pc := 0) dX12_item_0 rfl rfl ?_
  refine sP1 (μ := mX12_item) (pc := 1) (μ2 := mX12_isSlot) dX12_item_1 lkX12_326 stX12_isSlot mwX12_isSlot (Nat.le_of_ble_eq_true rfl) c_isSlot ?_
  refine r_if_ne (μ := mX12_item) (pc := 4) (tgt := 10) dX12_item_4 (by decide) (fun h_4 => ?_) (fun h_4 => absurd h_4 (b2i_ne (inB_nI (by omega) (by omega))))
  refine r_aload_n (μ := mX12_item) (pc := 10) dX12_item_10 rfl rfl rfl ?_
  refine r_getR (μ := mX12_item) (pc := 11) dX12_item_11 fpX12_28 rfl rfl (by decide) (hM _ _ rfl) ?_
  refine r_iload_n (μ := mX12_item) (pc := 14) dX12_item_14 rfl rfl ?_
  refine r_iaload (μ := mX12_item) (pc := 15) (j := u) dX12_item_15 rfl rfl (by omega) (by decide) ?_
  refine r_iconst (μ := mX12_item) (pc := 16) (v := 2) dX12_item_16 ic_2 ?_
  refine r_icmp_eq (μ := mX12_item) (pc := 17) (tgt := 38) dX12_item_17 (by decide) (fun h_17 => absurd h_17 h7) (fun h_17 => ?_)
  refine r_aload_n (μ := mX12_item) (pc := 20) dX12_item_20 rfl rfl rfl ?_
  refine r_getR (μ := mX12_item) (pc := 21) dX12_item_21 fpX12_28 rfl rfl (by decide) (hM _ _ rfl) ?_
  refine r_iload_n (μ := mX12_item) (pc := 24) dX12_item_24 rfl rfl ?_
  refine r_iaload (μ := mX12_item) (pc := 25) (j := u) dX12_item_25 rfl rfl (by omega) (by decide) ?_
  refine r_if_ne (μ := mX12_item) (pc := 26) (tgt := 35) dX12_item_26 (by decide) (fun h_26 => ?_) (fun h_26 => ?_)
  · refine r_ldc (μ := mX12_item) (pc := 35) dX12_item_35 ctX12_155 ?_
    exact r_iret (μ := mX12_item) (pc := 37) dX12_item_37 rfl rfl (PI_i (by first | (rw [if_pos h_26]; rfl) | (rw [if_neg h_26]; rfl)))
  · refine r_ldcw (μ := mX12_item) (pc := 29) dX12_item_29 ctX12_318 ?_
    refine r_goto (μ := mX12_item) (pc := 32) (tgt := 37) dX12_item_32 (by decide) ?_
    exact r_iret (μ := mX12_item) (pc := 37) dX12_item_37 rfl rfl (PI_i (by first | (rw [if_pos h_26]; rfl) | (rw [if_neg h_26]; rfl)))

theorem c_item_ix {d : Nat} {mi : MI} {mr : MR} (hM : MB mr) {u z : Nat} (hu : u < 5) (h7 : mi 7 u = 2) (hz : mi 10 u = nI z) (hz24 : z ≤ 24) {x : Int32} (hx : inR x z = false) : CP (d + 2) mX12_item [.ref 0, .int (nI u), .int x] shM mi mr 0 0 (PI (INDEXc) shM mi mr) := by
  refine CP.of (L := [_, _, _, _]) (by decide) rfl rfl (Nat.le_of_ble_eq_true rfl) ?_
  refine r_iload_n (μ := mX12_item) (pc := 0) dX12_item_0 rfl rfl ?_
  refine sP1 (μ := mX12_item) (pc := 1) (μ2 := mX12_isSlot) dX12_item_1 lkX12_326 stX12_isSlot mwX12_isSlot (Nat.le_of_ble_eq_true rfl) c_isSlot ?_
  refine r_if_ne (μ := mX12_item) (pc := 4) (tgt := 10) dX12_item_4 (by decide) (fun h_4 => ?_) (fun h_4 => absurd h_4 (b2i_ne (inB_nI (by omega) (by omega))))
  refine r_aload_n (μ := mX12_item) (pc := 10) dX12_item_10 rfl rfl rfl ?_
  refine r_getR (μ := mX12_item) (pc := 11) dX12_item_11 fpX12_28 rfl rfl (by decide) (hM _ _ rfl) ?_
  refine r_iload_n (μ := mX12_item) (pc := 14) dX12_item_14 rfl rfl ?_
  refine r_iaload (μ := mX12_item) (pc := 15) (j := u) dX12_item_15 rfl rfl (by omega) (by decide) ?_
  refine r_iconst (μ := mX12_item) (pc := 16) (v := 2) dX12_item_16 ic_2 ?_
  refine r_icmp_eq (μ := mX12_item) (pc := 17) (tgt := 38) dX12_item_17 (by decide) (fun h_17 => ?_) (fun h_17 => absurd h7 h_17)
  refine r_iload_n (μ := mX12_item) (pc := 38) dX12_item_38 rfl rfl ?_
  refine r_i2l (μ := mX12_item) (pc := 39) dX12_item_39 ?_
  refine r_lconst (μ := mX12_item) (pc := 40) (v := 0) dX12_item_40 lc_0 ?_
  refine r_aload_n (μ := mX12_item) (pc := 41) dX12_item_41 rfl rfl rfl ?_
  refine r_getR (μ := mX12_item) (pc := 42) dX12_item_42 fpX12_37 rfl rfl (by decide) (hM _ _ rfl) ?_
  refine r_iload_n (μ := mX12_item) (pc := 45) dX12_item_45 rfl rfl ?_
  refine r_iaload (μ := mX12_item) (pc := 46) (j := u) dX12_item_46 rfl rfl (by omega) (by decide) ?_
  refine r_iconst (μ := mX12_item) (pc := 47) (v := 1) dX12_item_47 ic_1 ?_
  refine r_isub (μ := mX12_item) (pc := 48) dX12_item_48 ?_
  refine r_i2l (μ := mX12_item) (pc := 49) dX12_item_49 ?_
  refine sP3 (μ := mX12_item) (pc := 50) (μ2 := mX12_isIn) dX12_item_50 lkX12_65 stX12_isIn mwX12_isIn (Nat.le_of_ble_eq_true rfl) (e_isInZ hz (by omega)) ?_
  refine r_if_ne (μ := mX12_item) (pc := 53) (tgt := 60) dX12_item_53 (by decide) (fun h_53 => absurd (b2i_eq hx) h_53) (fun h_53 => ?_)
  refine r_ldcw (μ := mX12_item) (pc := 56) dX12_item_56 ctX12_319 ?_
  exact r_iret (μ := mX12_item) (pc := 59) dX12_item_59 rfl rfl (PI_i rfl)

theorem c_item {d : Nat} {mi : MI} {mr : MR} (hM : MB mr) {u z : Nat} (hu : u < 5) (h7 : mi 7 u = 2) (hz : mi 10 u = nI z) (hz24 : z ≤ 24) {j : Nat} (hj : j < z) : CP (d + 2) mX12_item [.ref 0, .int (nI u), .int (nI j)] shM mi mr 0 0 (PI (if mi 11 (24 * u + j) = NONEc then KINDc else mi 11 (24 * u + j)) shM mi mr) := by
  refine CP.of (L := [_, _, _, _]) (by decide) rfl rfl (Nat.le_of_ble_eq_true rfl) ?_
  refine r_iload_n (μ := mX12_item) (pc := 0) dX12_item_0 rfl rfl ?_
  refine sP1 (μ := mX12_item) (pc := 1) (μ2 := mX12_isSlot) dX12_item_1 lkX12_326 stX12_isSlot mwX12_isSlot (Nat.le_of_ble_eq_true rfl) c_isSlot ?_
  refine r_if_ne (μ := mX12_item) (pc := 4) (tgt := 10) dX12_item_4 (by decide) (fun h_4 => ?_) (fun h_4 => absurd h_4 (b2i_ne (inB_nI (by omega) (by omega))))
  refine r_aload_n (μ := mX12_item) (pc := 10) dX12_item_10 rfl rfl rfl ?_
  refine r_getR (μ := mX12_item) (pc := 11) dX12_item_11 fpX12_28 rfl rfl (by decide) (hM _ _ rfl) ?_
  refine r_iload_n (μ := mX12_item) (pc := 14) dX12_item_14 rfl rfl ?_
  refine r_iaload (μ := mX12_item) (pc := 15) (j := u) dX12_item_15 rfl rfl (by omega) (by decide) ?_
  refine r_iconst (μ := mX12_item) (pc := 16) (v := 2) dX12_item_16 ic_2 ?_
  refine r_icmp_eq (μ := mX12_item) (pc := 17) (tgt := 38) dX12_item_17 (by decide) (fun h_17 => ?_) (fun h_17 => absurd h7 h_17)
  refine r_iload_n (μ := mX12_item) (pc := 38) dX12_item_38 rfl rfl ?_
  refine r_i2l (μ := mX12_item) (pc := 39) dX12_item_39 ?_
  refine r_lconst (μ := mX12_item) (pc := 40) (v := 0) dX12_item_40 lc_0 ?_
  refine r_aload_n (μ := mX12_item) (pc := 41) dX12_item_41 rfl rfl rfl ?_
  refine r_getR (μ := mX12_item) (pc := 42) dX12_item_42 fpX12_37 rfl rfl (by decide) (hM _ _ rfl) ?_
  refine r_iload_n (μ := mX12_item) (pc := 45) dX12_item_45 rfl rfl ?_
  refine r_iaload (μ := mX12_item) (pc := 46) (j := u) dX12_item_46 rfl rfl (by omega) (by decide) ?_
  refine r_iconst (μ := mX12_item) (pc := 47) (v := 1) dX12_item_47 ic_1 ?_
  refine r_isub (μ := mX12_item) (pc := 48) dX12_item_48 ?_
  refine r_i2l (μ := mX12_item) (pc := 49) dX12_item_49 ?_
  refine sP3 (μ := mX12_item) (pc := 50) (μ2 := mX12_isIn) dX12_item_50 lkX12_65 stX12_isIn mwX12_isIn (Nat.le_of_ble_eq_true rfl) (e_isInZ hz (by omega)) ?_
  refine r_if_ne (μ := mX12_item) (pc := 53) (tgt := 60) dX12_item_53 (by decide) (fun h_53 => ?_) (fun h_53 => absurd h_53 (b2i_ne (inR_nI hj (by omega))))
  refine r_aload_n (μ := mX12_item) (pc := 60) dX12_item_60 rfl rfl rfl ?_
  refine r_getR (μ := mX12_item) (pc := 61) dX12_item_61 fpX12_40 rfl rfl (by decide) (hM _ _ rfl) ?_
  refine r_bipush (μ := mX12_item) (pc := 64) (v := 24) dX12_item_64 bp_24 ?_
  refine r_iload_n (μ := mX12_item) (pc := 66) dX12_item_66 rfl rfl ?_
  refine r_imul (μ := mX12_item) (pc := 67) dX12_item_67 ?_
  refine r_iload_n (μ := mX12_item) (pc := 68) dX12_item_68 rfl rfl ?_
  refine r_iadd (μ := mX12_item) (pc := 69) dX12_item_69 ?_
  refine r_iaload (μ := mX12_item) (pc := 70) (j := ((24 * u) + j)) dX12_item_70 rfl (by simp only [← nI_add, ← pk_mul] <;> rfl) (by omega) (by decide) ?_
  refine s_istore_n (μ := mX12_item) (pc := 71) (L2 := [_, _, _, _]) dX12_item_71 rfl (Nat.le_of_ble_eq_true rfl) (Nat.le_of_ble_eq_true rfl) rfl rfl ?_
  refine r_iload_n (μ := mX12_item) (pc := 72) dX12_item_72 rfl rfl ?_
  refine r_ldc (μ := mX12_item) (pc := 73) dX12_item_73 ctX12_64 ?_
  refine r_icmp_ne (μ := mX12_item) (pc := 75) (tgt := 83) dX12_item_75 (by decide) (fun h_75 => ?_) (fun h_75 => ?_)
  · refine r_iload_n (μ := mX12_item) (pc := 83) dX12_item_83 rfl rfl ?_
    exact r_iret (μ := mX12_item) (pc := 84) dX12_item_84 rfl rfl (PI_i (by first | (rw [if_neg (show ¬ mi 11 (24 * u + j) = NONEc from h_75)]; done) | (rw [if_pos (show mi 11 (24 * u + j) = NONEc from h_75)]; rfl)))
  · refine r_ldc (μ := mX12_item) (pc := 78) dX12_item_78 ctX12_155 ?_
    refine r_goto (μ := mX12_item) (pc := 80) (tgt := 84) dX12_item_80 (by decide) ?_
    exact r_iret (μ := mX12_item) (pc := 84) dX12_item_84 rfl rfl (PI_i (by first | (rw [if_neg (show ¬ mi 11 (24 * u + j) = NONEc from h_75)]; done) | (rw [if_pos (show mi 11 (24 * u + j) = NONEc from h_75)]; rfl)))

theorem c_rest_bad {d : Nat} {mi : MI} {mr : MR} (hM : MB mr) {x w : Int32} (hb : ¬ inB x 0 4 = true) : CP (d + 2) mX12_rest [.ref 0, .int x, .int w] shM mi mr 0 0 (PI (BADc) shM mi mr) := by
  refine CP.of (L := [_, _, _]) (by decide) rfl rfl (Nat.le_of_ble_eq_true rfl) ?_
  refine r_iload_n (μ := mX12_rest) (pc := 0) dX12_rest_0 rfl rfl ?_
  refine sP1 (μ := mX12_rest) (pc := 1) (μ2 := mX12_isSlot) dX12_rest_1 lkX12_326 stX12_isSlot mwX12_isSlot (Nat.le_of_ble_eq_true rfl) c_isSlot ?_
  refine r_if_ne (μ := mX12_rest) (pc := 4) (tgt := 10) dX12_rest_4 (by decide) (fun h_4 => ?_) (fun h_4 => ?_)
  · have h_4 := b2i_1 h_4
    exact absurd h_4 hb
  · have h_4 := b2i_0 h_4
    refine r_ldc (μ := mX12_rest) (pc := 7) dX12_rest_7 ctX12_78 ?_
    exact r_iret (μ := mX12_rest) (pc := 9) dX12_rest_9 rfl rfl (PI_i rfl)

theorem c_rest_no {d : Nat} {mi : MI} {mr : MR} (hM : MB mr) {u : Nat} {w : Int32} (hu : u < 5) (h7 : ¬ mi 7 u = 3) : CP (d + 2) mX12_rest [.ref 0, .int (nI u), .int w] shM mi mr 0 0 (PI (if mi 7 u = 0 then NOTHINGc else KINDc) shM mi mr) := by
  refine CP.of (L := [_, _, _]) (by decide) rfl rfl (Nat.le_of_ble_eq_true rfl) ?_
  refine r_iload_n (μ := mX12_rest) (pc := 0) dX12_rest_0 rfl rfl ?_
  refine sP1 (μ := mX12_rest) (pc := 1) (μ2 := mX12_isSlot) dX12_rest_1 lkX12_326 stX12_isSlot mwX12_isSlot (Nat.le_of_ble_eq_true rfl) c_isSlot ?_
  refine r_if_ne (μ := mX12_rest) (pc := 4) (tgt := 10) dX12_rest_4 (by decide) (fun h_4 => ?_) (fun h_4 => absurd h_4 (b2i_ne (inB_nI (by omega) (by omega))))
  refine r_aload_n (μ := mX12_rest) (pc := 10) dX12_rest_10 rfl rfl rfl ?_
  refine r_getR (μ := mX12_rest) (pc := 11) dX12_rest_11 fpX12_28 rfl rfl (by decide) (hM _ _ rfl) ?_
  refine r_iload_n (μ := mX12_rest) (pc := 14) dX12_rest_14 rfl rfl ?_
  refine r_iaload (μ := mX12_rest) (pc := 15) (j := u) dX12_rest_15 rfl rfl (by omega) (by decide) ?_
  refine r_iconst (μ := mX12_rest) (pc := 16) (v := 3) dX12_rest_16 ic_3 ?_
  refine r_icmp_eq (μ := mX12_rest) (pc := 17) (tgt := 38) dX12_rest_17 (by decide) (fun h_17 => absurd h_17 h7) (fun h_17 => ?_)
  refine r_aload_n (μ := mX12_rest) (pc := 20) dX12_rest_20 rfl rfl rfl ?_
  refine r_getR (μ := mX12_rest) (pc := 21) dX12_rest_21 fpX12_28 rfl rfl (by decide) (hM _ _ rfl) ?_
  refine r_iload_n (μ := mX12_rest) (pc := 24) dX12_rest_24 rfl rfl ?_
  refine r_iaload (μ := mX12_rest) (pc := 25) (j := u) dX12_rest_25 rfl rfl (by omega) (by decide) ?_
  refine r_if_ne (μ := mX12_rest) (pc := 26) (tgt := 35) dX12_rest_26 (by decide) (fun h_26 => ?_) (fun h_26 => ?_)
  · refine r_ldc (μ := mX12_rest) (pc := 35) dX12_rest_35 ctX12_155 ?_
    exact r_iret (μ := mX12_rest) (pc := 37) dX12_rest_37 rfl rfl (PI_i (by first | (rw [if_pos h_26]; rfl) | (rw [if_neg h_26]; rfl)))
  · refine r_ldcw (μ := mX12_rest) (pc := 29) dX12_rest_29 ctX12_318 ?_
    refine r_goto (μ := mX12_rest) (pc := 32) (tgt := 37) dX12_rest_32 (by decide) ?_
    exact r_iret (μ := mX12_rest) (pc := 37) dX12_rest_37 rfl rfl (PI_i (by first | (rw [if_pos h_26]; rfl) | (rw [if_neg h_26]; rfl)))

theorem c_rest {d : Nat} {mi : MI} {mr : MR} (hM : MB mr) {u : Nat} {w : Int32} (hu : u < 5) (h7 : mi 7 u = 3) : CP (d + 2) mX12_rest [.ref 0, .int (nI u), .int w] shM mi mr 0 0 (PI (if w = 0 then NOc else remS (mi 8 u) w) shM mi mr) := by
  refine CP.of (L := [_, _, _]) (by decide) rfl rfl (Nat.le_of_ble_eq_true rfl) ?_
  refine r_iload_n (μ := mX12_rest) (pc := 0) dX12_rest_0 rfl rfl ?_
  refine sP1 (μ := mX12_rest) (pc := 1) (μ2 := mX12_isSlot) dX12_rest_1 lkX12_326 stX12_isSlot mwX12_isSlot (Nat.le_of_ble_eq_true rfl) c_isSlot ?_
  refine r_if_ne (μ := mX12_rest) (pc := 4) (tgt := 10) dX12_rest_4 (by decide) (fun h_4 => ?_) (fun h_4 => absurd h_4 (b2i_ne (inB_nI (by omega) (by omega))))
  refine r_aload_n (μ := mX12_rest) (pc := 10) dX12_rest_10 rfl rfl rfl ?_
  refine r_getR (μ := mX12_rest) (pc := 11) dX12_rest_11 fpX12_28 rfl rfl (by decide) (hM _ _ rfl) ?_
  refine r_iload_n (μ := mX12_rest) (pc := 14) dX12_rest_14 rfl rfl ?_
  refine r_iaload (μ := mX12_rest) (pc := 15) (j := u) dX12_rest_15 rfl rfl (by omega) (by decide) ?_
  refine r_iconst (μ := mX12_rest) (pc := 16) (v := 3) dX12_rest_16 ic_3 ?_
  refine r_icmp_eq (μ := mX12_rest) (pc := 17) (tgt := 38) dX12_rest_17 (by decide) (fun h_17 => ?_) (fun h_17 => absurd h7 h_17)
  refine r_iload_n (μ := mX12_rest) (pc := 38) dX12_rest_38 rfl rfl ?_
  refine r_if_ne (μ := mX12_rest) (pc := 39) (tgt := 47) dX12_rest_39 (by decide) (fun h_39 => ?_) (fun h_39 => ?_)
  · refine r_aload_n (μ := mX12_rest) (pc := 47) dX12_rest_47 rfl rfl rfl ?_
    refine r_getR (μ := mX12_rest) (pc := 48) dX12_rest_48 fpX12_31 rfl rfl (by decide) (hM _ _ rfl) ?_
    refine r_iload_n (μ := mX12_rest) (pc := 51) dX12_rest_51 rfl rfl ?_
    refine r_iaload (μ := mX12_rest) (pc := 52) (j := u) dX12_rest_52 rfl rfl (by omega) (by decide) ?_
    refine r_iload_n (μ := mX12_rest) (pc := 53) dX12_rest_53 rfl rfl ?_
    refine r_irem (μ := mX12_rest) (pc := 54) dX12_rest_54 h_39 ?_
    exact r_iret (μ := mX12_rest) (pc := 55) dX12_rest_55 rfl rfl (PI_i (by first | (rw [if_pos h_39]; rfl) | (rw [if_neg h_39]; rfl)))
  · refine r_ldc (μ := mX12_rest) (pc := 42) dX12_rest_42 ctX12_168 ?_
    refine r_goto (μ := mX12_rest) (pc := 44) (tgt := 55) dX12_rest_44 (by decide) ?_
    exact r_iret (μ := mX12_rest) (pc := 55) dX12_rest_55 rfl rfl (PI_i (by first | (rw [if_pos h_39]; rfl) | (rw [if_neg h_39]; rfl)))

