theorem c_nearest_bad {d : Nat} {mi : MI} {mr : MR} (hM : MB mr) {x w : Int32} (hb : ¬ (inB x 0 3 = true ∧ inB w 0 1 = true)) : CP (d + 2) mX12_nearest [.ref 0, .int x, .int w] shM mi mr 0 0 (PI (BADc) shM mi mr) := by
  refine CP.of (L := [_, _, _, _, _, _, _, _, _, _]) (by decide) rfl rfl (Nat.le_of_ble_eq_true rfl) ?_
  refine r_iload_n (μ := mX12_nearest) (pc := 0) dX12_nearest_0 rfl rfl ?_
  refine sP1 (μ := mX12_nearest) (pc := 1) (μ2 := mX12_isSheet) dX12_nearest_1 lkX12_312 stX12_isSheet mwX12_isSheet (Nat.le_of_ble_eq_true rfl) c_isSheet ?_
  refine r_if_eq (μ := mX12_nearest) (pc := 4) (tgt := 17) dX12_nearest_4 (by decide) (fun h_4 => ?_) (fun h_4 => ?_)
  · have h_4 := b2i_0 h_4
    refine r_ldc (μ := mX12_nearest) (pc := 17) dX12_nearest_17 ctX12_78 ?_
    exact r_iret (μ := mX12_nearest) (pc := 19) dX12_nearest_19 rfl rfl (PI_i rfl)
  · have h_4 := b2i_1 h_4
    refine r_iload_n (μ := mX12_nearest) (pc := 7) dX12_nearest_7 rfl rfl ?_
    refine r_i2l (μ := mX12_nearest) (pc := 8) dX12_nearest_8 ?_
    refine r_lconst (μ := mX12_nearest) (pc := 9) (v := 0) dX12_nearest_9 lc_0 ?_
    refine r_lconst (μ := mX12_nearest) (pc := 10) (v := 1) dX12_nearest_10 lc_1 ?_
    refine sP3 (μ := mX12_nearest) (pc := 11) (μ2 := mX12_isIn) dX12_nearest_11 lkX12_65 stX12_isIn mwX12_isIn (Nat.le_of_ble_eq_true rfl) (c_isInK il_0 il_1) ?_
    refine r_if_ne (μ := mX12_nearest) (pc := 14) (tgt := 20) dX12_nearest_14 (by decide) (fun h_14 => ?_) (fun h_14 => ?_)
    · have h_14 := b2i_1 h_14
      exact absurd ⟨h_4, h_14⟩ hb
    · have h_14 := b2i_0 h_14
      refine r_ldc (μ := mX12_nearest) (pc := 17) dX12_nearest_17 ctX12_78 ?_
      exact r_iret (μ := mX12_nearest) (pc := 19) dX12_nearest_19 rfl rfl (PI_i rfl)

theorem c_nearest_none {d : Nat} {mi : MI} {mr : MR} (hM : MB mr) {k : Nat} {w : Int32} (hk : k < 4) (hw : inB w 0 1 = true) (h4 : mi 4 k < 0) : CP (d + 2) mX12_nearest [.ref 0, .int (nI k), .int w] shM mi mr 0 0 (PI (NOTHINGc) shM mi mr) := by
  refine CP.of (L := [_, _, _, _, _, _, _, _, _, _]) (by decide) rfl rfl (Nat.le_of_ble_eq_true rfl) ?_
  refine r_iload_n (μ := mX12_nearest) (pc := 0) dX12_nearest_0 rfl rfl ?_
  refine sP1 (μ := mX12_nearest) (pc := 1) (μ2 := mX12_isSheet) dX12_nearest_1 lkX12_312 stX12_isSheet mwX12_isSheet (Nat.le_of_ble_eq_true rfl) c_isSheet ?_
  refine r_if_eq (μ := mX12_nearest) (pc := 4) (tgt := 17) dX12_nearest_4 (by decide) (fun h_4 => absurd h_4 (b2i_ne (inB_nI (by omega) (by omega)))) (fun h_4 => ?_)
  refine r_iload_n (μ := mX12_nearest) (pc := 7) dX12_nearest_7 rfl rfl ?_
  refine r_i2l (μ := mX12_nearest) (pc := 8) dX12_nearest_8 ?_
  refine r_lconst (μ := mX12_nearest) (pc := 9) (v := 0) dX12_nearest_9 lc_0 ?_
  refine r_lconst (μ := mX12_nearest) (pc := 10) (v := 1) dX12_nearest_10 lc_1 ?_
  refine sP3 (μ := mX12_nearest) (pc := 11) (μ2 := mX12_isIn) dX12_nearest_11 lkX12_65 stX12_isIn mwX12_isIn (Nat.le_of_ble_eq_true rfl) (c_isInK il_0 il_1) ?_
  refine r_if_ne (μ := mX12_nearest) (pc := 14) (tgt := 20) dX12_nearest_14 (by decide) (fun h_14 => ?_) (fun h_14 => absurd h_14 (b2i_ne hw))
  refine r_aload_n (μ := mX12_nearest) (pc := 20) dX12_nearest_20 rfl rfl rfl ?_
  refine r_getR (μ := mX12_nearest) (pc := 21) dX12_nearest_21 fpX12_19 rfl rfl (by decide) (hM _ _ rfl) ?_
  refine r_iload_n (μ := mX12_nearest) (pc := 24) dX12_nearest_24 rfl rfl ?_
  refine r_iaload (μ := mX12_nearest) (pc := 25) (j := k) dX12_nearest_25 rfl rfl (by omega) (by decide) ?_
  refine r_if_ge (μ := mX12_nearest) (pc := 26) (tgt := 33) dX12_nearest_26 (by decide) (fun h_26 => absurd h_26 (Int32.not_le.mpr h4)) (fun h_26 => ?_)
  refine r_ldcw (μ := mX12_nearest) (pc := 29) dX12_nearest_29 ctX12_318 ?_
  exact r_iret (μ := mX12_nearest) (pc := 32) dX12_nearest_32 rfl rfl (PI_i rfl)

theorem lp_nrJ {d : Nat} {mi : MI} {mr : MR} {Q : QT} (hM : MB mr) {s : Rw} (hs : mi 1 = s) {n m p q : Nat} (hI : Inv s n m p q)  {k z : Nat} (hk : k < 4) (hz : mi 5 k = nI z) (hz24 : z ≤ 24) {w : Int32} {i : Nat} (hi : i < n) {b1 b2 : Int32} {mi2 : MI} (hS : SF mi mi2) (hD : ∀ j, j < 10 → mi2 12 j = nI (farS s q m i j)) (k157 : ∀ x8 : Value, catL x8 = true → ∀ x9 : Value, catL x9 = true →  WP (d + 6) mX12_nearest 157 [.ref 0, .int (nI k), .int w, .int b1, .int b2, .int (nI i), .int (nrSum s q n m (fun j => mi 6 (24 * k + j)) i z), .int (nI z), x8, x9] [] shM mi2 mr 0 0 Q) :
    ∀ (y j : Nat), j + y = z → ∀ x8 : Value, catL x8 = true → ∀ x9 : Value, catL x9 = true →  WP (d + 6) mX12_nearest 64 [.ref 0, .int (nI k), .int w, .int b1, .int b2, .int (nI i), .int (nrSum s q n m (fun j => mi 6 (24 * k + j)) i j), .int (nI j), x8, x9] [] shM mi2 mr 0 0 Q := by
  have hn10 := hI.n10
  intro y
  induction y with
  | zero =>
    intro j hj x8 hx8 x9 hx9
    obtain rfl : j = z := by omega
    refine r_iload (μ := mX12_nearest) (pc := 64) dX12_nearest_64 rfl ?_
    refine r_aload_n (μ := mX12_nearest) (pc := 66) dX12_nearest_66 rfl rfl rfl ?_
    refine r_getR (μ := mX12_nearest) (pc := 67) dX12_nearest_67 fpX12_22 rfl rfl (by decide) (hM _ _ rfl) ?_
    refine r_iload_n (μ := mX12_nearest) (pc := 70) dX12_nearest_70 rfl rfl ?_
    refine r_iaload (μ := mX12_nearest) (pc := 71) (j := k) dX12_nearest_71 rfl rfl (by omega) (by decide) ?_
    rw [hS 5 (by decide) (by decide) (by decide), hz]
    refine r_icmp_ge (μ := mX12_nearest) (pc := 72) (tgt := 157) dX12_nearest_72 (by decide) (fun h_72 => ?_) (fun h_72 => absurd (nI_le (Nat.le_refl _) (by omega)) h_72)
    exact k157 x8 hx8 x9 hx9
  | succ y ih =>
    intro j hj x8 hx8 x9 hx9
    have hle := farS_le s q m i j
    refine r_iload (μ := mX12_nearest) (pc := 64) dX12_nearest_64 rfl ?_
    refine r_aload_n (μ := mX12_nearest) (pc := 66) dX12_nearest_66 rfl rfl rfl ?_
    refine r_getR (μ := mX12_nearest) (pc := 67) dX12_nearest_67 fpX12_22 rfl rfl (by decide) (hM _ _ rfl) ?_
    refine r_iload_n (μ := mX12_nearest) (pc := 70) dX12_nearest_70 rfl rfl ?_
    refine r_iaload (μ := mX12_nearest) (pc := 71) (j := k) dX12_nearest_71 rfl rfl (by omega) (by decide) ?_
    rw [hS 5 (by decide) (by decide) (by decide), hz]
    refine r_icmp_ge (μ := mX12_nearest) (pc := 72) (tgt := 157) dX12_nearest_72 (by decide) (fun h_72 => absurd h_72 (nI_ge (by omega) (by omega))) (fun h_72 => ?_)
    refine r_aload_n (μ := mX12_nearest) (pc := 75) dX12_nearest_75 rfl rfl rfl ?_
    refine r_getR (μ := mX12_nearest) (pc := 76) dX12_nearest_76 fpX12_25 rfl rfl (by decide) (hM _ _ rfl) ?_
    refine r_bipush (μ := mX12_nearest) (pc := 79) (v := 24) dX12_nearest_79 bp_24 ?_
    refine r_iload_n (μ := mX12_nearest) (pc := 81) dX12_nearest_81 rfl rfl ?_
    refine r_imul (μ := mX12_nearest) (pc := 82) dX12_nearest_82 ?_
    refine r_iload (μ := mX12_nearest) (pc := 83) dX12_nearest_83 rfl ?_
    refine r_iadd (μ := mX12_nearest) (pc := 85) dX12_nearest_85 ?_
    refine r_iaload (μ := mX12_nearest) (pc := 86) (j := ((24 * k) + j)) dX12_nearest_86 rfl (by simp only [← nI_add, ← pk_mul] <;> rfl) (by omega) (by decide) ?_
    rw [hS 6 (by decide) (by decide) (by decide)]
    refine s_istore (μ := mX12_nearest) (pc := 87) (L2 := [_, _, _, _, _, _, _, _, _, _]) dX12_nearest_87 (Nat.le_of_ble_eq_true rfl) (Nat.le_of_ble_eq_true rfl) (by simp only [List.all_cons, List.all_nil, catL_i, catL_r, hx8, hx9, Bool.and_self]) rfl ?_
    refine r_aload_n (μ := mX12_nearest) (pc := 89) dX12_nearest_89 rfl rfl rfl ?_
    refine r_iload (μ := mX12_nearest) (pc := 90) dX12_nearest_90 rfl ?_
    refine vP1 (μ := mX12_nearest) (pc := 92) (c0 := 12) (q0 := (RX12, TX12, 34)) (μ2 := mX12_isLedge) dX12_nearest_92 rfl rfl lkX12_84 imX12_isLedge seX12_X12_isLedge_X12_isLedge mwX12_isLedge (Nat.le_of_ble_eq_true rfl) (e_isLedge hM (hS.r1.trans hs) hI) ?_
    refine r_if_eq (μ := mX12_nearest) (pc := 95) (tgt := 123) dX12_nearest_95 (by decide) (fun h_95 => ?_) (fun h_95 => ?_)
    · have h_95 := b2i_0 h_95
      have hnd : ¬ (j < n ∧ ¬ farS s q m i j = 1000000) := fun z => by rw [inR_dec (by omega), decide_eq_true z.1] at h_95; cases h_95
      refine r_sipush (μ := mX12_nearest) (pc := 123) (v := 999) dX12_nearest_123 sp_999 ?_
      refine WP.S (show _ = [Value.int (nrD s q n m i j)] by unfold nrD; first | rw [if_neg hnd] | rw [if_pos hnd]) ?_
      refine s_istore (μ := mX12_nearest) (pc := 126) (L2 := [_, _, _, _, _, _, _, _, _, _]) dX12_nearest_126 (Nat.le_of_ble_eq_true rfl) (Nat.le_of_ble_eq_true rfl) (by simp only [List.all_cons, List.all_nil, catL_i, catL_r, hx8, hx9, Bool.and_self]) rfl ?_
      refine r_iload (μ := mX12_nearest) (pc := 128) dX12_nearest_128 rfl ?_
      refine r_iload (μ := mX12_nearest) (pc := 130) dX12_nearest_130 rfl ?_
      refine r_ldc (μ := mX12_nearest) (pc := 132) dX12_nearest_132 ctX12_64 ?_
      refine r_icmp_ne (μ := mX12_nearest) (pc := 134) (tgt := 141) dX12_nearest_134 (by decide) (fun h_134 => ?_) (fun h_134 => ?_)
      · have hy : nrSum s q n m (fun j => mi 6 (24 * k + j)) i (j + 1) = nrSum s q n m (fun j => mi 6 (24 * k + j)) i j + apartS (mi 6 (24 * k + j)) (nrD s q n m i j) := by show _ + (if mi 6 (24 * k + j) = NONEc then 0 else apartS (mi 6 (24 * k + j)) (nrD s q n m i j)) = _; rw [if_neg (show ¬ mi 6 (24 * k + j) = NONEc from h_134)]
        refine r_iload (μ := mX12_nearest) (pc := 141) dX12_nearest_141 rfl ?_
        refine r_iload (μ := mX12_nearest) (pc := 143) dX12_nearest_143 rfl ?_
        refine sP2 (μ := mX12_nearest) (pc := 145) (μ2 := mX12_apart) dX12_nearest_145 lkX12_115 stX12_apart mwX12_apart (Nat.le_of_ble_eq_true rfl) c_apart ?_
        refine r_iadd (μ := mX12_nearest) (pc := 148) dX12_nearest_148 ?_
        refine s_istore (μ := mX12_nearest) (pc := 149) (L2 := [_, _, _, _, _, _, _, _, _, _]) dX12_nearest_149 (Nat.le_of_ble_eq_true rfl) (Nat.le_of_ble_eq_true rfl) (by simp only [List.all_cons, List.all_nil, catL_i, catL_r, hx8, hx9, Bool.and_self]) rfl ?_
        refine s_iinc (μ := mX12_nearest) (pc := 151) (c := 1) (L2 := [_, _, _, _, _, _, _, _, _, _]) dX12_nearest_151 rfl ic_1 (Nat.le_of_ble_eq_true rfl) (by simp only [List.all_cons, List.all_nil, catL_i, catL_r, hx8, hx9, Bool.and_self]) rfl ?_
        refine r_goto (μ := mX12_nearest) (pc := 154) (tgt := 64) dX12_nearest_154 (by decide) ?_
        exact WP.L (by rw [nI_succ, hy]) (ih (j + 1) (by omega) _ rfl _ rfl)
      · have hy : nrSum s q n m (fun j => mi 6 (24 * k + j)) i (j + 1) = nrSum s q n m (fun j => mi 6 (24 * k + j)) i j + 0 := by show _ + (if mi 6 (24 * k + j) = NONEc then 0 else apartS (mi 6 (24 * k + j)) (nrD s q n m i j)) = _; rw [if_pos (show mi 6 (24 * k + j) = NONEc from h_134)]
        refine r_iconst (μ := mX12_nearest) (pc := 137) (v := 0) dX12_nearest_137 ic_0 ?_
        refine r_goto (μ := mX12_nearest) (pc := 138) (tgt := 148) dX12_nearest_138 (by decide) ?_
        refine r_iadd (μ := mX12_nearest) (pc := 148) dX12_nearest_148 ?_
        refine s_istore (μ := mX12_nearest) (pc := 149) (L2 := [_, _, _, _, _, _, _, _, _, _]) dX12_nearest_149 (Nat.le_of_ble_eq_true rfl) (Nat.le_of_ble_eq_true rfl) (by simp only [List.all_cons, List.all_nil, catL_i, catL_r, hx8, hx9, Bool.and_self]) rfl ?_
        refine s_iinc (μ := mX12_nearest) (pc := 151) (c := 1) (L2 := [_, _, _, _, _, _, _, _, _, _]) dX12_nearest_151 rfl ic_1 (Nat.le_of_ble_eq_true rfl) (by simp only [List.all_cons, List.all_nil, catL_i, catL_r, hx8, hx9, Bool.and_self]) rfl ?_
        refine r_goto (μ := mX12_nearest) (pc := 154) (tgt := 64) dX12_nearest_154 (by decide) ?_
        exact WP.L (by rw [nI_succ, hy]) (ih (j + 1) (by omega) _ rfl _ rfl)
    · have h_95 := b2i_1 h_95
      have hjn : j < n := by rw [inR_dec (by omega)] at h_95; exact of_decide_eq_true h_95
      refine r_aload_n (μ := mX12_nearest) (pc := 98) dX12_nearest_98 rfl rfl rfl ?_
      refine r_getR (μ := mX12_nearest) (pc := 99) dX12_nearest_99 fpX12_43 rfl rfl (by decide) (hM _ _ rfl) ?_
      refine r_iload (μ := mX12_nearest) (pc := 102) dX12_nearest_102 rfl ?_
      refine r_iaload (μ := mX12_nearest) (pc := 104) (j := j) dX12_nearest_104 rfl rfl (by show j < 10; omega) (by decide) ?_
      rw [hD j (by omega)]
      refine r_ldc (μ := mX12_nearest) (pc := 105) dX12_nearest_105 ctX12_176 ?_
      refine r_icmp_ge (μ := mX12_nearest) (pc := 107) (tgt := 123) dX12_nearest_107 (by decide) (fun h_107 => ?_) (fun h_107 => ?_)
      · have hnd : ¬ (j < n ∧ ¬ farS s q m i j = 1000000) := fun z => z.2 (by have := (nI_leI (a := 1000000) (by omega) (by omega)).mp h_107; omega)
        refine r_sipush (μ := mX12_nearest) (pc := 123) (v := 999) dX12_nearest_123 sp_999 ?_
        refine WP.S (show _ = [Value.int (nrD s q n m i j)] by unfold nrD; first | rw [if_neg hnd] | rw [if_pos hnd]) ?_
        refine s_istore (μ := mX12_nearest) (pc := 126) (L2 := [_, _, _, _, _, _, _, _, _, _]) dX12_nearest_126 (Nat.le_of_ble_eq_true rfl) (Nat.le_of_ble_eq_true rfl) (by simp only [List.all_cons, List.all_nil, catL_i, catL_r, hx8, hx9, Bool.and_self]) rfl ?_
        refine r_iload (μ := mX12_nearest) (pc := 128) dX12_nearest_128 rfl ?_
        refine r_iload (μ := mX12_nearest) (pc := 130) dX12_nearest_130 rfl ?_
        refine r_ldc (μ := mX12_nearest) (pc := 132) dX12_nearest_132 ctX12_64 ?_
        refine r_icmp_ne (μ := mX12_nearest) (pc := 134) (tgt := 141) dX12_nearest_134 (by decide) (fun h_134 => ?_) (fun h_134 => ?_)
        · have hy : nrSum s q n m (fun j => mi 6 (24 * k + j)) i (j + 1) = nrSum s q n m (fun j => mi 6 (24 * k + j)) i j + apartS (mi 6 (24 * k + j)) (nrD s q n m i j) := by show _ + (if mi 6 (24 * k + j) = NONEc then 0 else apartS (mi 6 (24 * k + j)) (nrD s q n m i j)) = _; rw [if_neg (show ¬ mi 6 (24 * k + j) = NONEc from h_134)]
          refine r_iload (μ := mX12_nearest) (pc := 141) dX12_nearest_141 rfl ?_
          refine r_iload (μ := mX12_nearest) (pc := 143) dX12_nearest_143 rfl ?_
          refine sP2 (μ := mX12_nearest) (pc := 145) (μ2 := mX12_apart) dX12_nearest_145 lkX12_115 stX12_apart mwX12_apart (Nat.le_of_ble_eq_true rfl) c_apart ?_
          refine r_iadd (μ := mX12_nearest) (pc := 148) dX12_nearest_148 ?_
          refine s_istore (μ := mX12_nearest) (pc := 149) (L2 := [_, _, _, _, _, _, _, _, _, _]) dX12_nearest_149 (Nat.le_of_ble_eq_true rfl) (Nat.le_of_ble_eq_true rfl) (by simp only [List.all_cons, List.all_nil, catL_i, catL_r, hx8, hx9, Bool.and_self]) rfl ?_
          refine s_iinc (μ := mX12_nearest) (pc := 151) (c := 1) (L2 := [_, _, _, _, _, _, _, _, _, _]) dX12_nearest_151 rfl ic_1 (Nat.le_of_ble_eq_true rfl) (by simp only [List.all_cons, List.all_nil, catL_i, catL_r, hx8, hx9, Bool.and_self]) rfl ?_
          refine r_goto (μ := mX12_nearest) (pc := 154) (tgt := 64) dX12_nearest_154 (by decide) ?_
          exact WP.L (by rw [nI_succ, hy]) (ih (j + 1) (by omega) _ rfl _ rfl)
        · have hy : nrSum s q n m (fun j => mi 6 (24 * k + j)) i (j + 1) = nrSum s q n m (fun j => mi 6 (24 * k + j)) i j + 0 := by show _ + (if mi 6 (24 * k + j) = NONEc then 0 else apartS (mi 6 (24 * k + j)) (nrD s q n m i j)) = _; rw [if_pos (show mi 6 (24 * k + j) = NONEc from h_134)]
          refine r_iconst (μ := mX12_nearest) (pc := 137) (v := 0) dX12_nearest_137 ic_0 ?_
          refine r_goto (μ := mX12_nearest) (pc := 138) (tgt := 148) dX12_nearest_138 (by decide) ?_
          refine r_iadd (μ := mX12_nearest) (pc := 148) dX12_nearest_148 ?_
          refine s_istore (μ := mX12_nearest) (pc := 149) (L2 := [_, _, _, _, _, _, _, _, _, _]) dX12_nearest_149 (Nat.le_of_ble_eq_true rfl) (Nat.le_of_ble_eq_true rfl) (by simp only [List.all_cons, List.all_nil, catL_i, catL_r, hx8, hx9, Bool.and_self]) rfl ?_
          refine s_iinc (μ := mX12_nearest) (pc := 151) (c := 1) (L2 := [_, _, _, _, _, _, _, _, _, _]) dX12_nearest_151 rfl ic_1 (Nat.le_of_ble_eq_true rfl) (by simp only [List.all_cons, List.all_nil, catL_i, catL_r, hx8, hx9, Bool.and_self]) rfl ?_
          refine r_goto (μ := mX12_nearest) (pc := 154) (tgt := 64) dX12_nearest_154 (by decide) ?_
          exact WP.L (by rw [nI_succ, hy]) (ih (j + 1) (by omega) _ rfl _ rfl)
      · have hnd : j < n ∧ ¬ farS s q m i j = 1000000 := ⟨hjn, fun z => h_107 ((nI_leI (a := 1000000) (by omega) (by omega)).mpr (by omega))⟩
        refine r_aload_n (μ := mX12_nearest) (pc := 110) dX12_nearest_110 rfl rfl rfl ?_
        refine r_getR (μ := mX12_nearest) (pc := 111) dX12_nearest_111 fpX12_43 rfl rfl (by decide) (hM _ _ rfl) ?_
        refine r_iload (μ := mX12_nearest) (pc := 114) dX12_nearest_114 rfl ?_
        refine r_iaload (μ := mX12_nearest) (pc := 116) (j := j) dX12_nearest_116 rfl rfl (by show j < 10; omega) (by decide) ?_
        rw [hD j (by omega)]
        refine r_bipush (μ := mX12_nearest) (pc := 117) (v := 100) dX12_nearest_117 bp_100 ?_
        refine r_idiv (μ := mX12_nearest) (pc := 119) dX12_nearest_119 (by decide) ?_
        rw [d100 hle]
        refine r_goto (μ := mX12_nearest) (pc := 120) (tgt := 126) dX12_nearest_120 (by decide) ?_
        refine WP.S (show _ = [Value.int (nrD s q n m i j)] by unfold nrD; first | rw [if_neg hnd] | rw [if_pos hnd]) ?_
        refine s_istore (μ := mX12_nearest) (pc := 126) (L2 := [_, _, _, _, _, _, _, _, _, _]) dX12_nearest_126 (Nat.le_of_ble_eq_true rfl) (Nat.le_of_ble_eq_true rfl) (by simp only [List.all_cons, List.all_nil, catL_i, catL_r, hx8, hx9, Bool.and_self]) rfl ?_
        refine r_iload (μ := mX12_nearest) (pc := 128) dX12_nearest_128 rfl ?_
        refine r_iload (μ := mX12_nearest) (pc := 130) dX12_nearest_130 rfl ?_
        refine r_ldc (μ := mX12_nearest) (pc := 132) dX12_nearest_132 ctX12_64 ?_
        refine r_icmp_ne (μ := mX12_nearest) (pc := 134) (tgt := 141) dX12_nearest_134 (by decide) (fun h_134 => ?_) (fun h_134 => ?_)
        · have hy : nrSum s q n m (fun j => mi 6 (24 * k + j)) i (j + 1) = nrSum s q n m (fun j => mi 6 (24 * k + j)) i j + apartS (mi 6 (24 * k + j)) (nrD s q n m i j) := by show _ + (if mi 6 (24 * k + j) = NONEc then 0 else apartS (mi 6 (24 * k + j)) (nrD s q n m i j)) = _; rw [if_neg (show ¬ mi 6 (24 * k + j) = NONEc from h_134)]
          refine r_iload (μ := mX12_nearest) (pc := 141) dX12_nearest_141 rfl ?_
          refine r_iload (μ := mX12_nearest) (pc := 143) dX12_nearest_143 rfl ?_
          refine sP2 (μ := mX12_nearest) (pc := 145) (μ2 := mX12_apart) dX12_nearest_145 lkX12_115 stX12_apart mwX12_apart (Nat.le_of_ble_eq_true rfl) c_apart ?_
          refine r_iadd (μ := mX12_nearest) (pc := 148) dX12_nearest_148 ?_
          refine s_istore (μ := mX12_nearest) (pc := 149) (L2 := [_, _, _, _, _, _, _, _, _, _]) dX12_nearest_149 (Nat.le_of_ble_eq_true rfl) (Nat.le_of_ble_eq_true rfl) (by simp only [List.all_cons, List.all_nil, catL_i, catL_r, hx8, hx9, Bool.and_self]) rfl ?_
          refine s_iinc (μ := mX12_nearest) (pc := 151) (c := 1) (L2 := [_, _, _, _, _, _, _, _, _, _]) dX12_nearest_151 rfl ic_1 (Nat.le_of_ble_eq_true rfl) (by simp only [List.all_cons, List.all_nil, catL_i, catL_r, hx8, hx9, Bool.and_self]) rfl ?_
          refine r_goto (μ := mX12_nearest) (pc := 154) (tgt := 64) dX12_nearest_154 (by decide) ?_
          exact WP.L (by rw [nI_succ, hy]) (ih (j + 1) (by omega) _ rfl _ rfl)
        · have hy : nrSum s q n m (fun j => mi 6 (24 * k + j)) i (j + 1) = nrSum s q n m (fun j => mi 6 (24 * k + j)) i j + 0 := by show _ + (if mi 6 (24 * k + j) = NONEc then 0 else apartS (mi 6 (24 * k + j)) (nrD s q n m i j)) = _; rw [if_pos (show mi 6 (24 * k + j) = NONEc from h_134)]
          refine r_iconst (μ := mX12_nearest) (pc := 137) (v := 0) dX12_nearest_137 ic_0 ?_
          refine r_goto (μ := mX12_nearest) (pc := 138) (tgt := 148) dX12_nearest_138 (by decide) ?_
          refine r_iadd (μ := mX12_nearest) (pc := 148) dX12_nearest_148 ?_
          refine s_istore (μ := mX12_nearest) (pc := 149) (L2 := [_, _, _, _, _, _, _, _, _, _]) dX12_nearest_149 (Nat.le_of_ble_eq_true rfl) (Nat.le_of_ble_eq_true rfl) (by simp only [List.all_cons, List.all_nil, catL_i, catL_r, hx8, hx9, Bool.and_self]) rfl ?_
          refine s_iinc (μ := mX12_nearest) (pc := 151) (c := 1) (L2 := [_, _, _, _, _, _, _, _, _, _]) dX12_nearest_151 rfl ic_1 (Nat.le_of_ble_eq_true rfl) (by simp only [List.all_cons, List.all_nil, catL_i, catL_r, hx8, hx9, Bool.and_self]) rfl ?_
          refine r_goto (μ := mX12_nearest) (pc := 154) (tgt := 64) dX12_nearest_154 (by decide) ?_
          exact WP.L (by rw [nI_succ, hy]) (ih (j + 1) (by omega) _ rfl _ rfl)

theorem lp_nrI {d : Nat} {mi : MI} {mr : MR} {Q : QT} (hM : MB mr) {s : Rw} (hs : mi 1 = s) {n m p q : Nat} (hI : Inv s n m p q)  {k z : Nat} (hk : k < 4) (hz : mi 5 k = nI z) (hz24 : z ≤ 24) {w : Int32} (hq : ∀ mi2, SF mi mi2 → Q (some (.int (nearS s q n m (fun j => mi 6 (24 * k + j)) z w))) shM mi2 mr) :
    ∀ (y i : Nat), i + y = n → ∀ mi2, SF mi mi2 → ∀ x6 : Value, catL x6 = true → ∀ x7 : Value, catL x7 = true → ∀ x8 : Value, catL x8 = true → ∀ x9 : Value, catL x9 = true →  WP (d + 6) mX12_nearest 41 [.ref 0, .int (nI k), .int w, .int (nrR s q n m (fun j => mi 6 (24 * k + j)) z i).1, .int (nrR s q n m (fun j => mi 6 (24 * k + j)) z i).2, .int (nI i), x6, x7, x8, x9] [] shM mi2 mr 0 0 Q := by
  have hn10 := hI.n10
  intro y
  induction y with
  | zero =>
    intro i hj mi2 hS x6 hx6 x7 hx7 x8 hx8 x9 hx9
    obtain rfl : i = n := by omega
    refine r_iload (μ := mX12_nearest) (pc := 41) dX12_nearest_41 rfl ?_
    refine r_aload_n (μ := mX12_nearest) (pc := 43) dX12_nearest_43 rfl rfl rfl ?_
    refine r_getR (μ := mX12_nearest) (pc := 44) dX12_nearest_44 fpX12_7 rfl rfl (by decide) (hM _ _ rfl) ?_
    refine r_iconst (μ := mX12_nearest) (pc := 47) (v := 0) dX12_nearest_47 ic_0 ?_
    refine r_iaload (μ := mX12_nearest) (pc := 48) (j := 0) dX12_nearest_48 rfl rfl (by decide) (by decide) ?_
    rw [hS.r1, hs, hI.en]
    refine r_icmp_ge (μ := mX12_nearest) (pc := 49) (tgt := 181) dX12_nearest_49 (by decide) (fun h_49 => ?_) (fun h_49 => absurd (nI_le (Nat.le_refl _) (by omega)) h_49)
    refine r_iload_n (μ := mX12_nearest) (pc := 181) dX12_nearest_181 rfl rfl ?_
    refine r_if_ge (μ := mX12_nearest) (pc := 182) (tgt := 190) dX12_nearest_182 (by decide) (fun h_182 => ?_) (fun h_182 => ?_)
    · refine r_iload_n (μ := mX12_nearest) (pc := 190) dX12_nearest_190 rfl rfl ?_
      refine r_if_ne (μ := mX12_nearest) (pc := 191) (tgt := 198) dX12_nearest_191 (by decide) (fun h_191 => ?_) (fun h_191 => ?_)
      · have hy : nearS s q i m (fun j => mi 6 (24 * k + j)) z w = (nrR s q i m (fun j => mi 6 (24 * k + j)) z i).2 := (if_pos h_182).trans (if_neg h_191)
        refine r_iload (μ := mX12_nearest) (pc := 198) dX12_nearest_198 rfl ?_
        exact r_iret (μ := mX12_nearest) (pc := 200) dX12_nearest_200 rfl rfl (by have hz9 := hq _ hS; rw [hy] at hz9; exact hz9)
      · have hy : nearS s q i m (fun j => mi 6 (24 * k + j)) z w = (nrR s q i m (fun j => mi 6 (24 * k + j)) z i).1 := (if_pos h_182).trans (if_pos h_191)
        refine r_iload_n (μ := mX12_nearest) (pc := 194) dX12_nearest_194 rfl rfl ?_
        refine r_goto (μ := mX12_nearest) (pc := 195) (tgt := 200) dX12_nearest_195 (by decide) ?_
        exact r_iret (μ := mX12_nearest) (pc := 200) dX12_nearest_200 rfl rfl (by have hz9 := hq _ hS; rw [hy] at hz9; exact hz9)
    · have hy : nearS s q i m (fun j => mi 6 (24 * k + j)) z w = NONEc := if_neg h_182
      refine r_ldc (μ := mX12_nearest) (pc := 185) dX12_nearest_185 ctX12_64 ?_
      refine r_goto (μ := mX12_nearest) (pc := 187) (tgt := 200) dX12_nearest_187 (by decide) ?_
      exact r_iret (μ := mX12_nearest) (pc := 200) dX12_nearest_200 rfl rfl (by have hz9 := hq _ hS; rw [hy] at hz9; exact hz9)
  | succ y ih =>
    intro i hj mi2 hS x6 hx6 x7 hx7 x8 hx8 x9 hx9
    have hi : i < n := by omega
    refine r_iload (μ := mX12_nearest) (pc := 41) dX12_nearest_41 rfl ?_
    refine r_aload_n (μ := mX12_nearest) (pc := 43) dX12_nearest_43 rfl rfl rfl ?_
    refine r_getR (μ := mX12_nearest) (pc := 44) dX12_nearest_44 fpX12_7 rfl rfl (by decide) (hM _ _ rfl) ?_
    refine r_iconst (μ := mX12_nearest) (pc := 47) (v := 0) dX12_nearest_47 ic_0 ?_
    refine r_iaload (μ := mX12_nearest) (pc := 48) (j := 0) dX12_nearest_48 rfl rfl (by decide) (by decide) ?_
    rw [hS.r1, hs, hI.en]
    refine r_icmp_ge (μ := mX12_nearest) (pc := 49) (tgt := 181) dX12_nearest_49 (by decide) (fun h_49 => absurd h_49 (nI_ge (by omega) (by omega))) (fun h_49 => ?_)
    refine r_aload_n (μ := mX12_nearest) (pc := 52) dX12_nearest_52 rfl rfl rfl ?_
    refine r_iload (μ := mX12_nearest) (pc := 53) dX12_nearest_53 rfl ?_
    refine vV1 (μ := mX12_nearest) (pc := 55) (c0 := 12) (q0 := (RX12, TX12, 34)) (μ2 := mX12_findFar) dX12_nearest_55 rfl rfl lkX12_179 imX12_findFar seX12_X12_findFar_X12_findFar mwX12_findFar (Nat.le_of_ble_eq_true rfl) (c_findFar hM (hS.r1.trans hs) hI hi) (fun mi_55 h_55 => ?_)
    obtain ⟨hF, hD⟩ := h_55
    refine r_iconst (μ := mX12_nearest) (pc := 58) (v := 0) dX12_nearest_58 ic_0 ?_
    refine s_istore (μ := mX12_nearest) (pc := 59) (L2 := [_, _, _, _, _, _, _, _, _, _]) dX12_nearest_59 (Nat.le_of_ble_eq_true rfl) (Nat.le_of_ble_eq_true rfl) (by simp only [List.all_cons, List.all_nil, catL_i, catL_r, hx6, hx7, hx8, hx9, Bool.and_self]) rfl ?_
    refine r_iconst (μ := mX12_nearest) (pc := 61) (v := 0) dX12_nearest_61 ic_0 ?_
    refine s_istore (μ := mX12_nearest) (pc := 62) (L2 := [_, _, _, _, _, _, _, _, _, _]) dX12_nearest_62 (Nat.le_of_ble_eq_true rfl) (Nat.le_of_ble_eq_true rfl) (by simp only [List.all_cons, List.all_nil, catL_i, catL_r, hx6, hx7, hx8, hx9, Bool.and_self]) rfl ?_
    refine lp_nrJ (mi := mi) hM hs hI hk hz hz24 hi (hS.tr hF) hD (fun y8 hy8 y9 hy9 => ?_) z 0 (Nat.zero_add _) x8 hx8 x9 hx9
    refine r_iload_n (μ := mX12_nearest) (pc := 157) dX12_nearest_157 rfl rfl ?_
    refine r_if_lt (μ := mX12_nearest) (pc := 158) (tgt := 168) dX12_nearest_158 (by decide) (fun h_158 => ?_) (fun h_158 => ?_)
    · have hy : nrR s q n m (fun j => mi 6 (24 * k + j)) z (i + 1) = (nI i, nrSum s q n m (fun j => mi 6 (24 * k + j)) i z) := if_pos (Or.inl h_158)
      refine r_iload (μ := mX12_nearest) (pc := 168) dX12_nearest_168 rfl ?_
      refine s_istore_n (μ := mX12_nearest) (pc := 170) (L2 := [_, _, _, _, _, _, _, _, _, _]) dX12_nearest_170 rfl (Nat.le_of_ble_eq_true rfl) (Nat.le_of_ble_eq_true rfl) (by simp only [List.all_cons, List.all_nil, catL_i, catL_r, hy8, hy9, Bool.and_self]) rfl ?_
      refine r_iload (μ := mX12_nearest) (pc := 171) dX12_nearest_171 rfl ?_
      refine s_istore (μ := mX12_nearest) (pc := 173) (L2 := [_, _, _, _, _, _, _, _, _, _]) dX12_nearest_173 (Nat.le_of_ble_eq_true rfl) (Nat.le_of_ble_eq_true rfl) (by simp only [List.all_cons, List.all_nil, catL_i, catL_r, hy8, hy9, Bool.and_self]) rfl ?_
      refine s_iinc (μ := mX12_nearest) (pc := 175) (c := 1) (L2 := [_, _, _, _, _, _, _, _, _, _]) dX12_nearest_175 rfl ic_1 (Nat.le_of_ble_eq_true rfl) (by simp only [List.all_cons, List.all_nil, catL_i, catL_r, hy8, hy9, Bool.and_self]) rfl ?_
      refine r_goto (μ := mX12_nearest) (pc := 178) (tgt := 41) dX12_nearest_178 (by decide) ?_
      exact WP.L (by rw [nI_succ, hy]) (ih (i + 1) (by omega) mi_55 (hS.tr hF) _ rfl _ rfl y8 hy8 y9 hy9)
    · refine r_iload (μ := mX12_nearest) (pc := 161) dX12_nearest_161 rfl ?_
      refine r_iload (μ := mX12_nearest) (pc := 163) dX12_nearest_163 rfl ?_
      refine r_icmp_ge (μ := mX12_nearest) (pc := 165) (tgt := 175) dX12_nearest_165 (by decide) (fun h_165 => ?_) (fun h_165 => ?_)
      · have hy : nrR s q n m (fun j => mi 6 (24 * k + j)) z (i + 1) = nrR s q n m (fun j => mi 6 (24 * k + j)) z i := if_neg (fun y => y.elim h_158 (fun y => absurd h_165 (Int32.not_le.mpr y)))
        refine s_iinc (μ := mX12_nearest) (pc := 175) (c := 1) (L2 := [_, _, _, _, _, _, _, _, _, _]) dX12_nearest_175 rfl ic_1 (Nat.le_of_ble_eq_true rfl) (by simp only [List.all_cons, List.all_nil, catL_i, catL_r, hy8, hy9, Bool.and_self]) rfl ?_
        refine r_goto (μ := mX12_nearest) (pc := 178) (tgt := 41) dX12_nearest_178 (by decide) ?_
        exact WP.L (by rw [nI_succ, hy]) (ih (i + 1) (by omega) mi_55 (hS.tr hF) _ rfl _ rfl y8 hy8 y9 hy9)
      · have hy : nrR s q n m (fun j => mi 6 (24 * k + j)) z (i + 1) = (nI i, nrSum s q n m (fun j => mi 6 (24 * k + j)) i z) := if_pos (Or.inr (Int32.not_le.mp h_165))
        refine r_iload (μ := mX12_nearest) (pc := 168) dX12_nearest_168 rfl ?_
        refine s_istore_n (μ := mX12_nearest) (pc := 170) (L2 := [_, _, _, _, _, _, _, _, _, _]) dX12_nearest_170 rfl (Nat.le_of_ble_eq_true rfl) (Nat.le_of_ble_eq_true rfl) (by simp only [List.all_cons, List.all_nil, catL_i, catL_r, hy8, hy9, Bool.and_self]) rfl ?_
        refine r_iload (μ := mX12_nearest) (pc := 171) dX12_nearest_171 rfl ?_
        refine s_istore (μ := mX12_nearest) (pc := 173) (L2 := [_, _, _, _, _, _, _, _, _, _]) dX12_nearest_173 (Nat.le_of_ble_eq_true rfl) (Nat.le_of_ble_eq_true rfl) (by simp only [List.all_cons, List.all_nil, catL_i, catL_r, hy8, hy9, Bool.and_self]) rfl ?_
        refine s_iinc (μ := mX12_nearest) (pc := 175) (c := 1) (L2 := [_, _, _, _, _, _, _, _, _, _]) dX12_nearest_175 rfl ic_1 (Nat.le_of_ble_eq_true rfl) (by simp only [List.all_cons, List.all_nil, catL_i, catL_r, hy8, hy9, Bool.and_self]) rfl ?_
        refine r_goto (μ := mX12_nearest) (pc := 178) (tgt := 41) dX12_nearest_178 (by decide) ?_
        exact WP.L (by rw [nI_succ, hy]) (ih (i + 1) (by omega) mi_55 (hS.tr hF) _ rfl _ rfl y8 hy8 y9 hy9)

theorem c_nearest {d : Nat} {mi : MI} {mr : MR} (hM : MB mr) {s : Rw} (hs : mi 1 = s) {n m p q : Nat} (hI : Inv s n m p q) {k z : Nat} (hk : k < 4) (hz : mi 5 k = nI z) (hz24 : z ≤ 24) {w : Int32} (hw : inB w 0 1 = true) (h4 : ¬ mi 4 k < 0) : CP (d + 6) mX12_nearest [.ref 0, .int (nI k), .int w] shM mi mr 0 0 (PX shM mr (fun r mi2 => r = nearS s q n m (fun j => mi 6 (24 * k + j)) z w ∧ SF mi mi2)) := by
  refine CP.of (L := [_, _, _, _, _, _, _, _, _, _]) (by decide) rfl rfl (Nat.le_of_ble_eq_true rfl) ?_
  refine r_iload_n (μ := mX12_nearest) (pc := 0) dX12_nearest_0 rfl rfl ?_
  refine sP1 (μ := mX12_nearest) (pc := 1) (μ2 := mX12_isSheet) dX12_nearest_1 lkX12_312 stX12_isSheet mwX12_isSheet (Nat.le_of_ble_eq_true rfl) c_isSheet ?_
  refine r_if_eq (μ := mX12_nearest) (pc := 4) (tgt := 17) dX12_nearest_4 (by decide) (fun h_4 => absurd h_4 (b2i_ne (inB_nI (by omega) (by omega)))) (fun h_4 => ?_)
  refine r_iload_n (μ := mX12_nearest) (pc := 7) dX12_nearest_7 rfl rfl ?_
  refine r_i2l (μ := mX12_nearest) (pc := 8) dX12_nearest_8 ?_
  refine r_lconst (μ := mX12_nearest) (pc := 9) (v := 0) dX12_nearest_9 lc_0 ?_
  refine r_lconst (μ := mX12_nearest) (pc := 10) (v := 1) dX12_nearest_10 lc_1 ?_
  refine sP3 (μ := mX12_nearest) (pc := 11) (μ2 := mX12_isIn) dX12_nearest_11 lkX12_65 stX12_isIn mwX12_isIn (Nat.le_of_ble_eq_true rfl) (c_isInK il_0 il_1) ?_
  refine r_if_ne (μ := mX12_nearest) (pc := 14) (tgt := 20) dX12_nearest_14 (by decide) (fun h_14 => ?_) (fun h_14 => absurd h_14 (b2i_ne hw))
  refine r_aload_n (μ := mX12_nearest) (pc := 20) dX12_nearest_20 rfl rfl rfl ?_
  refine r_getR (μ := mX12_nearest) (pc := 21) dX12_nearest_21 fpX12_19 rfl rfl (by decide) (hM _ _ rfl) ?_
  refine r_iload_n (μ := mX12_nearest) (pc := 24) dX12_nearest_24 rfl rfl ?_
  refine r_iaload (μ := mX12_nearest) (pc := 25) (j := k) dX12_nearest_25 rfl rfl (by omega) (by decide) ?_
  refine r_if_ge (μ := mX12_nearest) (pc := 26) (tgt := 33) dX12_nearest_26 (by decide) (fun h_26 => ?_) (fun h_26 => absurd (Int32.not_lt.mp h4) h_26)
  refine r_iconst (μ := mX12_nearest) (pc := 33) (v := -1) dX12_nearest_33 ic_m1 ?_
  refine s_istore_n (μ := mX12_nearest) (pc := 34) (L2 := [_, _, _, _, _, _, _, _, _, _]) dX12_nearest_34 rfl (Nat.le_of_ble_eq_true rfl) (Nat.le_of_ble_eq_true rfl) rfl rfl ?_
  refine r_iconst (μ := mX12_nearest) (pc := 35) (v := 0) dX12_nearest_35 ic_0 ?_
  refine s_istore (μ := mX12_nearest) (pc := 36) (L2 := [_, _, _, _, _, _, _, _, _, _]) dX12_nearest_36 (Nat.le_of_ble_eq_true rfl) (Nat.le_of_ble_eq_true rfl) rfl rfl ?_
  refine r_iconst (μ := mX12_nearest) (pc := 38) (v := 0) dX12_nearest_38 ic_0 ?_
  refine s_istore (μ := mX12_nearest) (pc := 39) (L2 := [_, _, _, _, _, _, _, _, _, _]) dX12_nearest_39 (Nat.le_of_ble_eq_true rfl) (Nat.le_of_ble_eq_true rfl) rfl rfl ?_
  exact lp_nrI hM hs hI hk hz hz24 (fun mi2 h => PX_i ⟨rfl, h⟩) n 0 (Nat.zero_add _) mi (SF.rf mi) _ rfl _ rfl _ rfl _ rfl

