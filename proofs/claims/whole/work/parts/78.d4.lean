theorem k_nearest_bad {d : Nat} {sh : List Sh} {mi : MI} {mr : MR} (hF : SHC sh) (hB : CB mr) {x w : Int32} (hb : ¬ (inB x 0 3 = true ∧ inB w 0 1 = true)) : CP (d + 1) mX11_nearest [.ref 0, .int x, .int w] sh mi mr 0 0 (PI (BADc) sh mi mr) := by
  refine CP.of (L := [_, _, _, _, _, _, _]) (by decide) rfl rfl (Nat.le_of_ble_eq_true rfl) ?_
  refine r_iload_n (μ := mX11_nearest) (pc := 0) dX11_nearest_0 rfl rfl ?_
  refine r_iconst (μ := mX11_nearest) (pc := 1) (v := 4) dX11_nearest_1 ic_4 ?_
  refine sP2 (μ := mX11_nearest) (pc := 2) (μ2 := mX11_within) dX11_nearest_2 lkX11_93 stX11_within mwX11_within (Nat.le_of_ble_eq_true rfl) (k_within (n := 4) rfl (by decide)) ?_
  rw [inR_B _ 3]
  refine r_if_eq (μ := mX11_nearest) (pc := 5) (tgt := 16) dX11_nearest_5 (by decide) (fun h_5 => ?_) (fun h_5 => ?_)
  · have h_5 := b2i_0 h_5
    refine r_ldc (μ := mX11_nearest) (pc := 16) dX11_nearest_16 ctX11_97 ?_
    exact r_iret (μ := mX11_nearest) (pc := 18) dX11_nearest_18 rfl rfl (PI_i rfl)
  · have h_5 := b2i_1 h_5
    refine r_iload_n (μ := mX11_nearest) (pc := 8) dX11_nearest_8 rfl rfl ?_
    refine r_iconst (μ := mX11_nearest) (pc := 9) (v := 2) dX11_nearest_9 ic_2 ?_
    refine sP2 (μ := mX11_nearest) (pc := 10) (μ2 := mX11_within) dX11_nearest_10 lkX11_93 stX11_within mwX11_within (Nat.le_of_ble_eq_true rfl) (k_within (n := 2) rfl (by decide)) ?_
    rw [inR_B _ 1]
    refine r_if_ne (μ := mX11_nearest) (pc := 13) (tgt := 19) dX11_nearest_13 (by decide) (fun h_13 => ?_) (fun h_13 => ?_)
    · have h_13 := b2i_1 h_13
      exact absurd ⟨h_5, h_13⟩ hb
    · have h_13 := b2i_0 h_13
      refine r_ldc (μ := mX11_nearest) (pc := 16) dX11_nearest_16 ctX11_97 ?_
      exact r_iret (μ := mX11_nearest) (pc := 18) dX11_nearest_18 rfl rfl (PI_i rfl)

theorem k_nearest_none {d : Nat} {sh : List Sh} {mi : MI} {mr : MR} (hF : SHC sh) (hB : CB mr) {k : Nat} (hk : k < 4) {w : Int32} (hw2 : inB w 0 1 = true) (hs : mi (53 + 2 * k) 0 = -1) : CP (d + 1) mX11_nearest [.ref 0, .int (nI k), .int w] sh mi mr 0 0 (PI (NOTHINGc) sh mi mr) := by
  obtain ⟨hsa, hpa⟩ := sh_s hF hk; obtain ⟨hr52, hrp⟩ := cr_s hB hk
  refine CP.of (L := [_, _, _, _, _, _, _]) (by decide) rfl rfl (Nat.le_of_ble_eq_true rfl) ?_
  refine r_iload_n (μ := mX11_nearest) (pc := 0) dX11_nearest_0 rfl rfl ?_
  refine r_iconst (μ := mX11_nearest) (pc := 1) (v := 4) dX11_nearest_1 ic_4 ?_
  refine sP2 (μ := mX11_nearest) (pc := 2) (μ2 := mX11_within) dX11_nearest_2 lkX11_93 stX11_within mwX11_within (Nat.le_of_ble_eq_true rfl) (k_within (n := 4) rfl (by decide)) ?_
  rw [inR_B _ 3]
  refine r_if_eq (μ := mX11_nearest) (pc := 5) (tgt := 16) dX11_nearest_5 (by decide) (fun h_5 => absurd h_5 (b2i_ne (inB_nI (by omega) (by omega)))) (fun h_5 => ?_)
  refine r_iload_n (μ := mX11_nearest) (pc := 8) dX11_nearest_8 rfl rfl ?_
  refine r_iconst (μ := mX11_nearest) (pc := 9) (v := 2) dX11_nearest_9 ic_2 ?_
  refine sP2 (μ := mX11_nearest) (pc := 10) (μ2 := mX11_within) dX11_nearest_10 lkX11_93 stX11_within mwX11_within (Nat.le_of_ble_eq_true rfl) (k_within (n := 2) rfl (by decide)) ?_
  rw [inR_B _ 1]
  refine r_if_ne (μ := mX11_nearest) (pc := 13) (tgt := 19) dX11_nearest_13 (by decide) (fun h_13 => ?_) (fun h_13 => absurd h_13 (b2i_ne hw2))
  refine r_aload_n (μ := mX11_nearest) (pc := 19) dX11_nearest_19 rfl rfl rfl ?_
  refine r_getR (μ := mX11_nearest) (pc := 20) dX11_nearest_20 fpX11_69 rfl (hF _ _ rfl) (by decide) (hB _ _ _ rfl) ?_
  refine r_iload_n (μ := mX11_nearest) (pc := 23) dX11_nearest_23 rfl rfl ?_
  refine r_aaload (μ := mX11_nearest) (pc := 24) (t := 1) dX11_nearest_24 (by decide) (hF _ _ rfl) rfl (by omega) (by decide) hr52 ?_
  refine r_getI (μ := mX11_nearest) (pc := 25) dX11_nearest_25 fpX11_299 rfl hsa (by decide) ?_
  refine r_iconst (μ := mX11_nearest) (pc := 28) (v := -1) dX11_nearest_28 ic_m1 ?_
  refine r_icmp_ne (μ := mX11_nearest) (pc := 29) (tgt := 36) dX11_nearest_29 (by decide) (fun h_29 => absurd hs h_29) (fun h_29 => ?_)
  refine r_ldcw (μ := mX11_nearest) (pc := 32) dX11_nearest_32 ctX11_302 ?_
  exact r_iret (μ := mX11_nearest) (pc := 35) dX11_nearest_35 rfl rfl (PI_i rfl)

theorem k_nearest_0 {d : Nat} {sh : List Sh} {mi : MI} {mr : MR} (hF : SHC sh) (hB : CB mr) {s : Rw} {n m p q : Nat} (hR : RT sh mi mr 8 s n m p q) (hI : Inv s n m p q) {k : Nat} (hk : k < 4) {z : Nat} (hz : mi (53 + 2 * k) 1 = nI z) (hz24 : z ≤ 24) {w : Int32} (hw2 : inB w 0 1 = true) (hs : ¬ mi (53 + 2 * k) 0 = -1) (hn0 : n = 0) : CP (d + 1) mX11_nearest [.ref 0, .int (nI k), .int w] sh mi mr 0 0 (PI (NONEc) sh mi mr) := by
  have hn10 := hI.n10; have hm8 := hI.m8; have hp6 := hI.p6; have hq14 := hI.q14
  have hT := TB.of hF hB (Or.inl rfl)
  obtain ⟨hsa, hpa⟩ := sh_s hF hk; obtain ⟨hr52, hrp⟩ := cr_s hB hk
  refine CP.of (L := [_, _, _, _, _, _, _]) (by decide) rfl rfl (Nat.le_of_ble_eq_true rfl) ?_
  refine r_iload_n (μ := mX11_nearest) (pc := 0) dX11_nearest_0 rfl rfl ?_
  refine r_iconst (μ := mX11_nearest) (pc := 1) (v := 4) dX11_nearest_1 ic_4 ?_
  refine sP2 (μ := mX11_nearest) (pc := 2) (μ2 := mX11_within) dX11_nearest_2 lkX11_93 stX11_within mwX11_within (Nat.le_of_ble_eq_true rfl) (k_within (n := 4) rfl (by decide)) ?_
  rw [inR_B _ 3]
  refine r_if_eq (μ := mX11_nearest) (pc := 5) (tgt := 16) dX11_nearest_5 (by decide) (fun h_5 => absurd h_5 (b2i_ne (inB_nI (by omega) (by omega)))) (fun h_5 => ?_)
  refine r_iload_n (μ := mX11_nearest) (pc := 8) dX11_nearest_8 rfl rfl ?_
  refine r_iconst (μ := mX11_nearest) (pc := 9) (v := 2) dX11_nearest_9 ic_2 ?_
  refine sP2 (μ := mX11_nearest) (pc := 10) (μ2 := mX11_within) dX11_nearest_10 lkX11_93 stX11_within mwX11_within (Nat.le_of_ble_eq_true rfl) (k_within (n := 2) rfl (by decide)) ?_
  rw [inR_B _ 1]
  refine r_if_ne (μ := mX11_nearest) (pc := 13) (tgt := 19) dX11_nearest_13 (by decide) (fun h_13 => ?_) (fun h_13 => absurd h_13 (b2i_ne hw2))
  refine r_aload_n (μ := mX11_nearest) (pc := 19) dX11_nearest_19 rfl rfl rfl ?_
  refine r_getR (μ := mX11_nearest) (pc := 20) dX11_nearest_20 fpX11_69 rfl (hF _ _ rfl) (by decide) (hB _ _ _ rfl) ?_
  refine r_iload_n (μ := mX11_nearest) (pc := 23) dX11_nearest_23 rfl rfl ?_
  refine r_aaload (μ := mX11_nearest) (pc := 24) (t := 1) dX11_nearest_24 (by decide) (hF _ _ rfl) rfl (by omega) (by decide) hr52 ?_
  refine r_getI (μ := mX11_nearest) (pc := 25) dX11_nearest_25 fpX11_299 rfl hsa (by decide) ?_
  refine r_iconst (μ := mX11_nearest) (pc := 28) (v := -1) dX11_nearest_28 ic_m1 ?_
  refine r_icmp_ne (μ := mX11_nearest) (pc := 29) (tgt := 36) dX11_nearest_29 (by decide) (fun h_29 => ?_) (fun h_29 => absurd h_29 hs)
  refine r_aload_n (μ := mX11_nearest) (pc := 36) dX11_nearest_36 rfl rfl rfl ?_
  refine r_getR (μ := mX11_nearest) (pc := 37) dX11_nearest_37 fpX11_36 rfl (hF _ _ rfl) (by decide) (hB _ _ _ rfl) ?_
  refine r_getI (μ := mX11_nearest) (pc := 40) dX11_nearest_40 fpX11_98 rfl (hF _ _ rfl) (by decide) ?_
  refine r_if_ne (μ := mX11_nearest) (pc := 43) (tgt := 49) dX11_nearest_43 (by decide) (fun h_43 => absurd (by rw [hR.en, hn0]; rfl) h_43) (fun h_43 => ?_)
  refine r_ldc (μ := mX11_nearest) (pc := 46) dX11_nearest_46 ctX11_225 ?_
  exact r_iret (μ := mX11_nearest) (pc := 48) dX11_nearest_48 rfl rfl (PI_i rfl)

theorem nrR_c (s : Rw) (q n m : Nat) (pl : Rw) (z : Nat) : ∀ i, 1 ≤ i → ∃ j, j < i ∧ (nrR s q n m pl z i).1 = nI j
  | 0, h => absurd h (by decide)
  | 1, _ => ⟨0, by decide, by unfold nrR; rw [if_pos (Or.inl (show (nrR s q n m pl z 0).1 < 0 from (by decide : (-1 : Int32) < 0)))]⟩
  | i + 2, _ => by
    obtain ⟨j, h1, h2⟩ := nrR_c s q n m pl z (i + 1) (by omega)
    unfold nrR
    split
    · exact ⟨i + 1, by omega, rfl⟩
    · exact ⟨j, by omega, h2⟩

theorem lp_knear {d : Nat} {sh : List Sh} {mi : MI} {mr : MR} {Q : QT} (hF : SHC sh) (hB : CB mr) {s : Rw} {n m p q : Nat} (hR : RT sh mi mr 8 s n m p q) (hI : Inv s n m p q) {k : Nat} (hk : k < 4) {z : Nat} (hz : mi (53 + 2 * k) 1 = nI z) (hz24 : z ≤ 24) (hw : mr 44 0 = some 8) (hS : WS mi 8 s n m q) (hv : ∀ j, j < z → mi (54 + 2 * k) j = NONEc ∨ inB (mi (54 + 2 * k) j) (-99999) 99999 = true) {w : Int32} (hq : ∀ mi2, SP 47 mi mi2 → ∀ x5 x6 : Value, WP (d + 6) mX11_nearest 130 [.ref 0, .int (nI k), .int w, .int (nrR s q n m (mi (54 + 2 * k)) z n).1, .int (nrR s q n m (mi (54 + 2 * k)) z n).2, x5, x6] [] sh mi2 mr 0 0 Q) :
    ∀ (j i : Nat), i + j = n → 1 ≤ i → ∀ mi2, SP 47 mi mi2 → ∀ x6 : Value, catL x6 = true → WP (d + 6) mX11_nearest 81 [.ref 0, .int (nI k), .int w, .int (nrR s q n m (mi (54 + 2 * k)) z i).1, .int (nrR s q n m (mi (54 + 2 * k)) z i).2, .int (nI i), x6] [] sh mi2 mr 0 0 Q := by
  have hn10 := hI.n10; have hm8 := hI.m8; have hp6 := hI.p6; have hq14 := hI.q14
  have hT := TB.of hF hB (Or.inl rfl)
  obtain ⟨hsa, hpa⟩ := sh_s hF hk; obtain ⟨hr52, hrp⟩ := cr_s hB hk
  intro j
  induction j with
  | zero =>
    intro i hk2 h1 mi2 hX x6 hx6
    obtain rfl : i = n := by omega
    have hR2 := hR.w hX.w47
    refine r_iload (μ := mX11_nearest) (pc := 81) dX11_nearest_81 rfl ?_
    refine r_aload_n (μ := mX11_nearest) (pc := 83) dX11_nearest_83 rfl rfl rfl ?_
    refine r_getR (μ := mX11_nearest) (pc := 84) dX11_nearest_84 fpX11_36 rfl (hF _ _ rfl) (by decide) (hB _ _ _ rfl) ?_
    refine r_getI (μ := mX11_nearest) (pc := 87) dX11_nearest_87 fpX11_98 rfl (hF _ _ rfl) (by decide) ?_
    rw [hR2.en]
    refine r_icmp_ge (μ := mX11_nearest) (pc := 90) (tgt := 130) dX11_nearest_90 (by decide) (fun h_90 => ?_) (fun h_90 => absurd (nI_le (Nat.le_refl _) (by omega)) h_90)
    exact hq mi2 hX _ x6
  | succ j ih =>
    intro i hk2 h1 mi2 hX x6 hx6
    have hi : i < n := by omega
    have hR2 := hR.w hX.w47
    have es : mi2 (53 + 2 * k) = mi (53 + 2 * k) := hX _ (by omega)
    have ep : mi2 (54 + 2 * k) = mi (54 + 2 * k) := hX _ (by omega)
    obtain ⟨j0, hj0, e0⟩ := nrR_c s q n m (mi (54 + 2 * k)) z i h1
    have hst : nrR s q n m (mi (54 + 2 * k)) z (i + 1) = if (nrR s q n m (mi (54 + 2 * k)) z i).1 < 0 ∨ nrSum s q n m (mi (54 + 2 * k)) i z < (nrR s q n m (mi (54 + 2 * k)) z i).2 then (nI i, nrSum s q n m (mi (54 + 2 * k)) i z) else (nrR s q n m (mi (54 + 2 * k)) z i) := rfl
    refine r_iload (μ := mX11_nearest) (pc := 81) dX11_nearest_81 rfl ?_
    refine r_aload_n (μ := mX11_nearest) (pc := 83) dX11_nearest_83 rfl rfl rfl ?_
    refine r_getR (μ := mX11_nearest) (pc := 84) dX11_nearest_84 fpX11_36 rfl (hF _ _ rfl) (by decide) (hB _ _ _ rfl) ?_
    refine r_getI (μ := mX11_nearest) (pc := 87) dX11_nearest_87 fpX11_98 rfl (hF _ _ rfl) (by decide) ?_
    rw [hR2.en]
    refine r_icmp_ge (μ := mX11_nearest) (pc := 90) (tgt := 130) dX11_nearest_90 (by decide) (fun h_90 => absurd h_90 (nI_ge (by omega) (by omega))) (fun h_90 => ?_)
    refine r_aload_n (μ := mX11_nearest) (pc := 93) dX11_nearest_93 rfl rfl rfl ?_
    refine r_getR (μ := mX11_nearest) (pc := 94) dX11_nearest_94 fpX11_55 rfl (hF _ _ rfl) (by decide) (hB _ _ _ rfl) ?_
    refine r_iload (μ := mX11_nearest) (pc := 97) dX11_nearest_97 rfl ?_
    refine r_aload_n (μ := mX11_nearest) (pc := 99) dX11_nearest_99 rfl rfl rfl ?_
    refine r_getR (μ := mX11_nearest) (pc := 100) dX11_nearest_100 fpX11_69 rfl (hF _ _ rfl) (by decide) (hB _ _ _ rfl) ?_
    refine r_iload_n (μ := mX11_nearest) (pc := 103) dX11_nearest_103 rfl rfl ?_
    refine r_aaload (μ := mX11_nearest) (pc := 104) (t := 1) dX11_nearest_104 (by decide) (hF _ _ rfl) rfl (by omega) (by decide) hr52 ?_
    refine vX2 (μ := mX11_nearest) (pc := 105) (c0 := 10) (q0 := (RX10, TX10, 4)) (μ2 := mX10_differenceFrom) dX11_nearest_105 (hF _ _ rfl) rfl lkX11_315 imX10_differenceFrom seX10_X10_differenceFrom_X10_differenceFrom mwX10_differenceFrom (Nat.le_of_ble_eq_true rfl) (k_differenceFrom hF hB (Or.inl rfl) hw hR2 hI (hS.w hX) hsa hpa hrp (by rw [es]; exact hz) hz24 (by omega) (by rw [ep]; exact hv) hi) (fun r_105 mi_105 h_105 => ?_)
    rw [ep] at h_105
    obtain ⟨rfl, h105⟩ := h_105
    refine s_istore (μ := mX11_nearest) (pc := 108) (L2 := [_, _, _, _, _, _, _]) dX11_nearest_108 (Nat.le_of_ble_eq_true rfl) (Nat.le_of_ble_eq_true rfl) (by simp only [List.all_cons, List.all_nil, catL_i, catL_r, hx6, Bool.and_self]) rfl ?_
    refine r_iload (μ := mX11_nearest) (pc := 110) dX11_nearest_110 rfl ?_
    refine r_iload (μ := mX11_nearest) (pc := 112) dX11_nearest_112 rfl ?_
    refine r_icmp_ge (μ := mX11_nearest) (pc := 114) (tgt := 124) dX11_nearest_114 (by decide) (fun h_114 => ?_) (fun h_114 => ?_)
    · rw [if_neg (fun z => z.elim (fun y => absurd y (by rw [e0]; exact nI_pos (by omega))) (fun y => absurd y (Int32.not_lt.mpr h_114)))] at hst
      refine s_iinc (μ := mX11_nearest) (pc := 124) (c := 1) (L2 := [_, _, _, _, _, _, _]) dX11_nearest_124 rfl ic_1 (Nat.le_of_ble_eq_true rfl) (by simp only [List.all_cons, List.all_nil, catL_i, catL_r, hx6, Bool.and_self]) rfl ?_
      refine r_goto (μ := mX11_nearest) (pc := 127) (tgt := 81) dX11_nearest_127 (by decide) ?_
      exact WP.L (by rw [hst, show nI (i + 1) = nI i + 1 from nI_succ i]) (ih (i + 1) (by omega) (by omega) _ (hX.tr h105) (.int (nrSum s q n m (mi (54 + 2 * k)) i z)) rfl)
    · rw [if_pos (Or.inr (Int32.not_le.mp h_114))] at hst
      refine r_iload (μ := mX11_nearest) (pc := 117) dX11_nearest_117 rfl ?_
      refine s_istore_n (μ := mX11_nearest) (pc := 119) (L2 := [_, _, _, _, _, _, _]) dX11_nearest_119 rfl (Nat.le_of_ble_eq_true rfl) (Nat.le_of_ble_eq_true rfl) (by simp only [List.all_cons, List.all_nil, catL_i, catL_r, hx6, Bool.and_self]) rfl ?_
      refine r_iload (μ := mX11_nearest) (pc := 120) dX11_nearest_120 rfl ?_
      refine s_istore (μ := mX11_nearest) (pc := 122) (L2 := [_, _, _, _, _, _, _]) dX11_nearest_122 (Nat.le_of_ble_eq_true rfl) (Nat.le_of_ble_eq_true rfl) (by simp only [List.all_cons, List.all_nil, catL_i, catL_r, hx6, Bool.and_self]) rfl ?_
      refine s_iinc (μ := mX11_nearest) (pc := 124) (c := 1) (L2 := [_, _, _, _, _, _, _]) dX11_nearest_124 rfl ic_1 (Nat.le_of_ble_eq_true rfl) (by simp only [List.all_cons, List.all_nil, catL_i, catL_r, hx6, Bool.and_self]) rfl ?_
      refine r_goto (μ := mX11_nearest) (pc := 127) (tgt := 81) dX11_nearest_127 (by decide) ?_
      exact WP.L (by rw [hst, show nI (i + 1) = nI i + 1 from nI_succ i]) (ih (i + 1) (by omega) (by omega) _ (hX.tr h105) (.int (nrSum s q n m (mi (54 + 2 * k)) i z)) rfl)

theorem k_nearest {d : Nat} {sh : List Sh} {mi : MI} {mr : MR} (hF : SHC sh) (hB : CB mr) {s : Rw} {n m p q : Nat} (hR : RT sh mi mr 8 s n m p q) (hI : Inv s n m p q) {k : Nat} (hk : k < 4) {z : Nat} (hz : mi (53 + 2 * k) 1 = nI z) (hz24 : z ≤ 24) (hv : ∀ j, j < z → mi (54 + 2 * k) j = NONEc ∨ inB (mi (54 + 2 * k) j) (-99999) 99999 = true) {w : Int32} (hw2 : inB w 0 1 = true) (hs : ¬ mi (53 + 2 * k) 0 = -1) (hn0 : 0 < n) : CP (d + 7) mX11_nearest [.ref 0, .int (nI k), .int w] sh mi mr 0 0 (WY sh mi mr (nearS s q n m (mi (54 + 2 * k)) z w)) := by
  have hn10 := hI.n10; have hm8 := hI.m8; have hp6 := hI.p6; have hq14 := hI.q14
  have hT := TB.of hF hB (Or.inl rfl)
  obtain ⟨hsa, hpa⟩ := sh_s hF hk; obtain ⟨hr52, hrp⟩ := cr_s hB hk
  refine CP.of (L := [_, _, _, _, _, _, _]) (by decide) rfl rfl (Nat.le_of_ble_eq_true rfl) ?_
  refine r_iload_n (μ := mX11_nearest) (pc := 0) dX11_nearest_0 rfl rfl ?_
  refine r_iconst (μ := mX11_nearest) (pc := 1) (v := 4) dX11_nearest_1 ic_4 ?_
  refine sP2 (μ := mX11_nearest) (pc := 2) (μ2 := mX11_within) dX11_nearest_2 lkX11_93 stX11_within mwX11_within (Nat.le_of_ble_eq_true rfl) (k_within (n := 4) rfl (by decide)) ?_
  rw [inR_B _ 3]
  refine r_if_eq (μ := mX11_nearest) (pc := 5) (tgt := 16) dX11_nearest_5 (by decide) (fun h_5 => absurd h_5 (b2i_ne (inB_nI (by omega) (by omega)))) (fun h_5 => ?_)
  refine r_iload_n (μ := mX11_nearest) (pc := 8) dX11_nearest_8 rfl rfl ?_
  refine r_iconst (μ := mX11_nearest) (pc := 9) (v := 2) dX11_nearest_9 ic_2 ?_
  refine sP2 (μ := mX11_nearest) (pc := 10) (μ2 := mX11_within) dX11_nearest_10 lkX11_93 stX11_within mwX11_within (Nat.le_of_ble_eq_true rfl) (k_within (n := 2) rfl (by decide)) ?_
  rw [inR_B _ 1]
  refine r_if_ne (μ := mX11_nearest) (pc := 13) (tgt := 19) dX11_nearest_13 (by decide) (fun h_13 => ?_) (fun h_13 => absurd h_13 (b2i_ne hw2))
  refine r_aload_n (μ := mX11_nearest) (pc := 19) dX11_nearest_19 rfl rfl rfl ?_
  refine r_getR (μ := mX11_nearest) (pc := 20) dX11_nearest_20 fpX11_69 rfl (hF _ _ rfl) (by decide) (hB _ _ _ rfl) ?_
  refine r_iload_n (μ := mX11_nearest) (pc := 23) dX11_nearest_23 rfl rfl ?_
  refine r_aaload (μ := mX11_nearest) (pc := 24) (t := 1) dX11_nearest_24 (by decide) (hF _ _ rfl) rfl (by omega) (by decide) hr52 ?_
  refine r_getI (μ := mX11_nearest) (pc := 25) dX11_nearest_25 fpX11_299 rfl hsa (by decide) ?_
  refine r_iconst (μ := mX11_nearest) (pc := 28) (v := -1) dX11_nearest_28 ic_m1 ?_
  refine r_icmp_ne (μ := mX11_nearest) (pc := 29) (tgt := 36) dX11_nearest_29 (by decide) (fun h_29 => ?_) (fun h_29 => absurd h_29 hs)
  refine r_aload_n (μ := mX11_nearest) (pc := 36) dX11_nearest_36 rfl rfl rfl ?_
  refine r_getR (μ := mX11_nearest) (pc := 37) dX11_nearest_37 fpX11_36 rfl (hF _ _ rfl) (by decide) (hB _ _ _ rfl) ?_
  refine r_getI (μ := mX11_nearest) (pc := 40) dX11_nearest_40 fpX11_98 rfl (hF _ _ rfl) (by decide) ?_
  refine r_if_ne (μ := mX11_nearest) (pc := 43) (tgt := 49) dX11_nearest_43 (by decide) (fun h_43 => ?_) (fun h_43 => absurd h_43 (by rw [hR.en]; exact nI_ne0 hn0 (by omega)))
  refine r_aload_n (μ := mX11_nearest) (pc := 49) dX11_nearest_49 rfl rfl rfl ?_
  refine r_getR (μ := mX11_nearest) (pc := 50) dX11_nearest_50 fpX11_55 rfl (hF _ _ rfl) (by decide) (hB _ _ _ rfl) ?_
  refine r_aload_n (μ := mX11_nearest) (pc := 53) dX11_nearest_53 rfl rfl rfl ?_
  refine r_getR (μ := mX11_nearest) (pc := 54) dX11_nearest_54 fpX11_36 rfl (hF _ _ rfl) (by decide) (hB _ _ _ rfl) ?_
  refine vW1 (μ := mX11_nearest) (pc := 57) (c0 := 10) (q0 := (RX10, TX10, 4)) (μ2 := mX10_look) dX11_nearest_57 (hF _ _ rfl) rfl lkX11_208 imX10_look seX10_X10_look_X10_look mwX10_look (Nat.le_of_ble_eq_true rfl) (k_look hF hB (Or.inl rfl) hR hI) (fun sh_57 mi_57 mr_57 h_57 => ?_)
  obtain ⟨rfl, rfl, hfr, hS⟩ := h_57
  have hw := lk_w (mr := mr) (b := 8)
  have hB0 := hB
  have hB := lk_B (b := 8) hB
  have hR0 := hR
  have hR := lk_R hR hfr
  have hT := TB.of hF hB (Or.inl rfl)
  have hWF := lk_F hfr
  have es : mi_57 (53 + 2 * k) = mi (53 + 2 * k) := hfr _ (by omega) (by omega) (by omega)
  have ep : mi_57 (54 + 2 * k) = mi (54 + 2 * k) := hfr _ (by omega) (by omega) (by omega)
  obtain ⟨hr52, hrp⟩ := cr_s hB hk
  rw [← ep] at hv ⊢
  rw [← es] at hz
  refine r_iconst (μ := mX11_nearest) (pc := 60) (v := 0) dX11_nearest_60 ic_0 ?_
  refine s_istore_n (μ := mX11_nearest) (pc := 61) (L2 := [_, _, _, _, _, _, _]) dX11_nearest_61 rfl (Nat.le_of_ble_eq_true rfl) (Nat.le_of_ble_eq_true rfl) rfl rfl ?_
  refine r_aload_n (μ := mX11_nearest) (pc := 62) dX11_nearest_62 rfl rfl rfl ?_
  refine r_getR (μ := mX11_nearest) (pc := 63) dX11_nearest_63 fpX11_55 rfl (hF _ _ rfl) (by decide) (hB _ _ _ rfl) ?_
  refine r_iconst (μ := mX11_nearest) (pc := 66) (v := 0) dX11_nearest_66 ic_0 ?_
  refine r_aload_n (μ := mX11_nearest) (pc := 67) dX11_nearest_67 rfl rfl rfl ?_
  refine r_getR (μ := mX11_nearest) (pc := 68) dX11_nearest_68 fpX11_69 rfl (hF _ _ rfl) (by decide) (hB _ _ _ rfl) ?_
  refine r_iload_n (μ := mX11_nearest) (pc := 71) dX11_nearest_71 rfl rfl ?_
  refine r_aaload (μ := mX11_nearest) (pc := 72) (t := 1) dX11_nearest_72 (by decide) (hF _ _ rfl) rfl (by omega) (by decide) hr52 ?_
  refine vX2 (μ := mX11_nearest) (pc := 73) (c0 := 10) (q0 := (RX10, TX10, 4)) (μ2 := mX10_differenceFrom) dX11_nearest_73 (hF _ _ rfl) rfl lkX11_315 imX10_differenceFrom seX10_X10_differenceFrom_X10_differenceFrom mwX10_differenceFrom (Nat.le_of_ble_eq_true rfl) (k_differenceFrom hF hB (Or.inl rfl) hw hR hI hS hsa hpa hrp hz hz24 (by omega) hv hn0) (fun r_73 mi_73 h_73 => ?_)
  obtain ⟨rfl, h73⟩ := h_73
  refine s_istore (μ := mX11_nearest) (pc := 76) (L2 := [_, _, _, _, _, _, _]) dX11_nearest_76 (Nat.le_of_ble_eq_true rfl) (Nat.le_of_ble_eq_true rfl) rfl rfl ?_
  refine r_iconst (μ := mX11_nearest) (pc := 78) (v := 1) dX11_nearest_78 ic_1 ?_
  refine s_istore (μ := mX11_nearest) (pc := 79) (L2 := [_, _, _, _, _, _, _]) dX11_nearest_79 (Nat.le_of_ble_eq_true rfl) (Nat.le_of_ble_eq_true rfl) rfl rfl ?_
  have h1 : nrR s q n m (mi_57 (54 + 2 * k)) z 1 = (nI 0, nrSum s q n m (mi_57 (54 + 2 * k)) 0 z) := by unfold nrR; rw [if_pos (Or.inl (show (nrR s q n m (mi_57 (54 + 2 * k)) z 0).1 < 0 from (by decide : (-1 : Int32) < 0)))]
  have hlp := lp_knear (d := d + 1) (w := w) (mi := mi_57) (Q := WY sh_57 mi mr (nearS s q n m (mi_57 (54 + 2 * k)) z w)) hF hB hR hI hk hz hz24 hw hS hv (fun mi2 hX x5 x6 => ?_) (n - 1) 1 (by omega) (Nat.le_refl _) _ h73 hole rfl
  · rw [h1] at hlp
    exact hlp
  · obtain ⟨j0, hj0, e0⟩ := nrR_c s q n m (mi_57 (54 + 2 * k)) z n hn0
    have h0 : 0 ≤ (nrR s q n m (mi_57 (54 + 2 * k)) z n).1 := by rw [e0]; exact nI_pos' (by omega)
    refine r_iload_n (μ := mX11_nearest) (pc := 130) dX11_nearest_130 rfl rfl ?_
    refine r_if_ne (μ := mX11_nearest) (pc := 131) (tgt := 138) dX11_nearest_131 (by decide) (fun h_131 => ?_) (fun h_131 => ?_)
    · refine r_iload (μ := mX11_nearest) (pc := 138) dX11_nearest_138 rfl ?_
      exact r_iret (μ := mX11_nearest) (pc := 140) dX11_nearest_140 rfl rfl (WY_i (by unfold nearS; rw [if_pos h0]; first | (rw [if_pos h_131]) | (rw [if_neg h_131])) (hWF.tr hX.w47))
    · refine r_iload_n (μ := mX11_nearest) (pc := 134) dX11_nearest_134 rfl rfl ?_
      refine r_goto (μ := mX11_nearest) (pc := 135) (tgt := 140) dX11_nearest_135 (by decide) ?_
      exact r_iret (μ := mX11_nearest) (pc := 140) dX11_nearest_140 rfl rfl (WY_i (by unfold nearS; rw [if_pos h0]; first | (rw [if_pos h_131]) | (rw [if_neg h_131])) (hWF.tr hX.w47))

def tkI (mi : MI) (tp : Nat) (v : Int32) : Nat → MI
  | 0 => mi
  | i + 1 => upI (upI (tkI mi tp v i) 49 (tp + i) (v >>> ((24 - 8 * nI i) &&& 31) &&& 255)) 48 1 (nI (tp + i + 1))
theorem tkI_1 {mi : MI} {tp : Nat} {v : Int32} (h : mi 48 1 = nI tp) : ∀ i, tkI mi tp v i 48 1 = nI (tp + i)
  | 0 => h
  | i + 1 => up_eq
theorem ush_and (v : Int32) : ∀ i, i < 4 → (v.toUInt32 >>> ((nI (24 - 8 * i)).toUInt32 &&& Int32.toUInt32 31)).toInt32 &&& 255 = v >>> ((24 - 8 * nI i) &&& 31) &&& 255 := by
  intro i hi
  have e : (24 : Int32) - 8 * nI i = nI (24 - 8 * i) := (by decide +kernel : ∀ i, i < 4 → (24 : Int32) - 8 * nI i = nI (24 - 8 * i)) i hi
  rw [e]
  refine b_ext (fun j hj => ?_)
  rw [b_and, b_and, b_ushr _ (by omega), b_sshr _ (by omega) v hj]
  have e8 : ∀ j, j < 32 → bt 255 j = decide (j < 8) := by decide +kernel
  rw [e8 j hj]
  by_cases h : j < 8
  · rw [if_pos (by omega)]
  · rw [decide_eq_false h, Bool.and_false, Bool.and_false]

theorem lp_take {d : Nat} {sh : List Sh} {mi : MI} {mr : MR} {Q : QT} (hF : SHC sh) (hB : CB mr) {tp : Nat} {v : Int32} (ht : mi 48 1 = nI tp) (ht92 : tp ≤ 92) (hq : Q none sh (tkI mi tp v 4) mr) :
    ∀ (k i : Nat), i + k = 4 → WP d mX5_take 3 [.ref 48, .int v, .int (24 - 8 * nI i)] [] sh (tkI mi tp v i) mr 0 0 Q := by
  intro k
  induction k with
  | zero =>
    intro i hk
    obtain rfl : i = 4 := by omega
    refine r_iload_n (μ := mX5_take) (pc := 3) dX5_take_3 rfl rfl ?_
    refine r_if_lt (μ := mX5_take) (pc := 4) (tgt := 48) dX5_take_4 (by decide) (fun h_4 => ?_) (fun h_4 => absurd (by decide) h_4)
    exact r_vret (μ := mX5_take) (pc := 48) dX5_take_48 rfl hq
  | succ k ih =>
    intro i hk
    have hi : i < 4 := by omega
    have h0 : ¬ (24 : Int32) - 8 * nI i < 0 := (by decide +kernel : ∀ i, i < 4 → ¬ (24 : Int32) - 8 * nI i < 0) i hi
    have e : (24 : Int32) - 8 * nI i = nI (24 - 8 * i) := (by decide +kernel : ∀ i, i < 4 → (24 : Int32) - 8 * nI i = nI (24 - 8 * i)) i hi
    have e2 : (24 : Int32) - 8 * nI i + (-8) = 24 - 8 * nI (i + 1) := (by decide +kernel : ∀ i, i < 4 → (24 : Int32) - 8 * nI i + (-8) = 24 - 8 * nI (i + 1)) i hi
    have hb := tkI_1 (v := v) ht i
    refine r_iload_n (μ := mX5_take) (pc := 3) dX5_take_3 rfl rfl ?_
    refine r_if_lt (μ := mX5_take) (pc := 4) (tgt := 48) dX5_take_4 (by decide) (fun h_4 => absurd h_4 h0) (fun h_4 => ?_)
    refine r_aload_n (μ := mX5_take) (pc := 7) dX5_take_7 rfl rfl rfl ?_
    refine r_getI (μ := mX5_take) (pc := 8) dX5_take_8 fpX5_15 rfl (hF _ _ rfl) (by decide) ?_
    refine r_bipush (μ := mX5_take) (pc := 11) (v := 96) dX5_take_11 bp_96 ?_
    refine r_icmp_ge (μ := mX5_take) (pc := 13) (tgt := 48) dX5_take_13 (by decide) (fun h_13 => absurd h_13 (by rw [hb]; exact nI_ge (b := 96) (by omega) (by decide))) (fun h_13 => ?_)
    refine r_aload_n (μ := mX5_take) (pc := 16) dX5_take_16 rfl rfl rfl ?_
    refine r_getR (μ := mX5_take) (pc := 17) dX5_take_17 fpX5_9 rfl (hF _ _ rfl) (by decide) (hB _ _ _ rfl) ?_
    refine r_aload_n (μ := mX5_take) (pc := 20) dX5_take_20 rfl rfl rfl ?_
    refine r_getI (μ := mX5_take) (pc := 21) dX5_take_21 fpX5_15 rfl (hF _ _ rfl) (by decide) ?_
    rw [hb]
    refine r_iload_n (μ := mX5_take) (pc := 24) dX5_take_24 rfl rfl ?_
    refine r_iload_n (μ := mX5_take) (pc := 25) dX5_take_25 rfl rfl ?_
    refine r_iushr (μ := mX5_take) (pc := 26) dX5_take_26 ?_
    refine r_sipush (μ := mX5_take) (pc := 27) (v := 255) dX5_take_27 sp_255 ?_
    refine r_iand (μ := mX5_take) (pc := 30) dX5_take_30 ?_
    rw [show (v.toUInt32 >>> ((24 - 8 * nI i).toUInt32 &&& Int32.toUInt32 31)).toInt32 &&& 255 = v >>> ((24 - 8 * nI i) &&& 31) &&& 255 from by rw [e, ush_and v i hi, ← e]]
    refine r_iastore (μ := mX5_take) (pc := 31) (j := tp + i) dX5_take_31 (hF _ _ rfl) rfl (by omega) (by decide) ?_
    refine r_aload_n (μ := mX5_take) (pc := 32) dX5_take_32 rfl rfl rfl ?_
    refine r_dup (μ := mX5_take) (pc := 33) dX5_take_33 rfl ?_
    refine r_getI (μ := mX5_take) (pc := 34) dX5_take_34 fpX5_15 rfl (hF _ _ rfl) (by decide) ?_
    rw [up_oth (by decide), hb]
    refine r_iconst (μ := mX5_take) (pc := 37) (v := 1) dX5_take_37 ic_1 ?_
    refine r_iadd (μ := mX5_take) (pc := 38) dX5_take_38 ?_
    rw [show nI (tp + i) + 1 = nI (tp + i + 1) from (nI_succ _).symm]
    refine r_putI (μ := mX5_take) (pc := 39) dX5_take_39 fwX5_15 (hF _ _ rfl) (by decide) rfl ?_
    refine s_iinc (μ := mX5_take) (pc := 42) (c := -8) (L2 := [_, _, _]) dX5_take_42 rfl ic_m8 (Nat.le_of_ble_eq_true rfl) rfl rfl ?_
    refine r_goto (μ := mX5_take) (pc := 45) (tgt := 3) dX5_take_45 (by decide) ?_
    exact WP.L (by rw [e2]) (ih (i + 1) (by omega))

theorem k_take {d : Nat} {sh : List Sh} {mi : MI} {mr : MR} (hF : SHC sh) (hB : CB mr) {tp : Nat} {v : Int32} (ht : mi 48 1 = nI tp) (ht92 : tp ≤ 92) : CP d mX5_take [.ref 48, .int v] sh mi mr 0 0 (PV sh mr (fun mi2 => mi2 = tkI mi tp v 4)) := by
  refine CP.of (L := [_, _, _]) (by decide) rfl rfl (Nat.le_of_ble_eq_true rfl) ?_
  refine r_bipush (μ := mX5_take) (pc := 0) (v := 24) dX5_take_0 bp_24 ?_
  refine s_istore_n (μ := mX5_take) (pc := 2) (L2 := [_, _, _]) dX5_take_2 rfl (Nat.le_of_ble_eq_true rfl) (Nat.le_of_ble_eq_true rfl) rfl rfl ?_
  have h := lp_take (d := d) (v := v) (Q := PV sh mr (fun mi2 => mi2 = tkI mi tp v 4)) hF hB ht ht92 (PV_i rfl) 4 0 rfl
  rw [show (24 : Int32) - 8 * nI 0 = 24 from by decide] at h
  exact h

theorem k_feed_full {d : Nat} {sh : List Sh} {mi : MI} {mr : MR} (hF : SHC sh) (hB : CB mr) {tp : Nat} (ht : mi 48 1 = nI tp) (ht96 : tp ≤ 96) {a b c : Int32} (hb : 84 < tp) : CP (d + 1) mX11_feed [.ref 0, .int a, .int b, .int c] sh mi mr 0 0 (PI (FULLc) sh mi mr) := by
  refine CP.of (L := [_, _, _, _]) (by decide) rfl rfl (Nat.le_of_ble_eq_true rfl) ?_
  refine r_aload_n (μ := mX11_feed) (pc := 0) dX11_feed_0 rfl rfl rfl ?_
  refine r_getR (μ := mX11_feed) (pc := 1) dX11_feed_1 fpX11_62 rfl (hF _ _ rfl) (by decide) (hB _ _ _ rfl) ?_
  refine r_getI (μ := mX11_feed) (pc := 4) dX11_feed_4 fpX11_259 rfl (hF _ _ rfl) (by decide) ?_
  rw [ht]
  refine r_bipush (μ := mX11_feed) (pc := 7) (v := 12) dX11_feed_7 bp_12 ?_
  refine r_iadd (μ := mX11_feed) (pc := 9) dX11_feed_9 ?_
  rw [show nI tp + 12 = nI (tp + 12) from nI_add tp 12]
  refine r_bipush (μ := mX11_feed) (pc := 10) (v := 96) dX11_feed_10 bp_96 ?_
  refine r_icmp_le (μ := mX11_feed) (pc := 12) (tgt := 18) dX11_feed_12 (by decide) (fun h_12 => absurd h_12 (nI_ge (a := 96) (by omega) (by omega))) (fun h_12 => ?_)
  refine r_ldc (μ := mX11_feed) (pc := 15) dX11_feed_15 ctX11_101 ?_
  exact r_iret (μ := mX11_feed) (pc := 17) dX11_feed_17 rfl rfl (PI_i rfl)

theorem k_feed {d : Nat} {sh : List Sh} {mi : MI} {mr : MR} (hF : SHC sh) (hB : CB mr) {tp : Nat} (ht : mi 48 1 = nI tp) (ht84 : tp ≤ 84) {a b c : Int32} : CP (d + 1) mX11_feed [.ref 0, .int a, .int b, .int c] sh mi mr 0 0 (PX sh mr (fun r mi2 => r = nI (tp + 12) ∧ mi2 = (tkI (tkI (tkI mi tp a 4) (tp + 4) b 4) (tp + 8) c 4))) := by
  refine CP.of (L := [_, _, _, _]) (by decide) rfl rfl (Nat.le_of_ble_eq_true rfl) ?_
  refine r_aload_n (μ := mX11_feed) (pc := 0) dX11_feed_0 rfl rfl rfl ?_
  refine r_getR (μ := mX11_feed) (pc := 1) dX11_feed_1 fpX11_62 rfl (hF _ _ rfl) (by decide) (hB _ _ _ rfl) ?_
  refine r_getI (μ := mX11_feed) (pc := 4) dX11_feed_4 fpX11_259 rfl (hF _ _ rfl) (by decide) ?_
  rw [ht]
  refine r_bipush (μ := mX11_feed) (pc := 7) (v := 12) dX11_feed_7 bp_12 ?_
  refine r_iadd (μ := mX11_feed) (pc := 9) dX11_feed_9 ?_
  rw [show nI tp + 12 = nI (tp + 12) from nI_add tp 12]
  refine r_bipush (μ := mX11_feed) (pc := 10) (v := 96) dX11_feed_10 bp_96 ?_
  refine r_icmp_le (μ := mX11_feed) (pc := 12) (tgt := 18) dX11_feed_12 (by decide) (fun h_12 => ?_) (fun h_12 => absurd (nI_le (b := 96) (by omega) (by decide)) h_12)
  refine r_aload_n (μ := mX11_feed) (pc := 18) dX11_feed_18 rfl rfl rfl ?_
  refine r_getR (μ := mX11_feed) (pc := 19) dX11_feed_19 fpX11_62 rfl (hF _ _ rfl) (by decide) (hB _ _ _ rfl) ?_
  refine r_iload_n (μ := mX11_feed) (pc := 22) dX11_feed_22 rfl rfl ?_
  refine vV1 (μ := mX11_feed) (pc := 23) (c0 := 5) (q0 := (RX5, TX5, 14)) (μ2 := mX5_take) dX11_feed_23 (hF _ _ rfl) rfl lkX11_262 imX5_take seX5_X5_take_X5_take mwX5_take (Nat.le_of_ble_eq_true rfl) (k_take hF hB ht (by omega)) (fun mi_23 h_23 => ?_)
  subst h_23
  refine r_aload_n (μ := mX11_feed) (pc := 26) dX11_feed_26 rfl rfl rfl ?_
  refine r_getR (μ := mX11_feed) (pc := 27) dX11_feed_27 fpX11_62 rfl (hF _ _ rfl) (by decide) (hB _ _ _ rfl) ?_
  refine r_iload_n (μ := mX11_feed) (pc := 30) dX11_feed_30 rfl rfl ?_
  refine vV1 (μ := mX11_feed) (pc := 31) (c0 := 5) (q0 := (RX5, TX5, 14)) (μ2 := mX5_take) dX11_feed_31 (hF _ _ rfl) rfl lkX11_262 imX5_take seX5_X5_take_X5_take mwX5_take (Nat.le_of_ble_eq_true rfl) (k_take hF hB (tkI_1 ht 4) (by omega)) (fun mi_31 h_31 => ?_)
  subst h_31
  refine r_aload_n (μ := mX11_feed) (pc := 34) dX11_feed_34 rfl rfl rfl ?_
  refine r_getR (μ := mX11_feed) (pc := 35) dX11_feed_35 fpX11_62 rfl (hF _ _ rfl) (by decide) (hB _ _ _ rfl) ?_
  refine r_iload_n (μ := mX11_feed) (pc := 38) dX11_feed_38 rfl rfl ?_
  refine vV1 (μ := mX11_feed) (pc := 39) (c0 := 5) (q0 := (RX5, TX5, 14)) (μ2 := mX5_take) dX11_feed_39 (hF _ _ rfl) rfl lkX11_262 imX5_take seX5_X5_take_X5_take mwX5_take (Nat.le_of_ble_eq_true rfl) (k_take hF hB (tkI_1 (tkI_1 ht 4) 4) (by omega)) (fun mi_39 h_39 => ?_)
  subst h_39
  refine r_aload_n (μ := mX11_feed) (pc := 42) dX11_feed_42 rfl rfl rfl ?_
  refine r_getR (μ := mX11_feed) (pc := 43) dX11_feed_43 fpX11_62 rfl (hF _ _ rfl) (by decide) (hB _ _ _ rfl) ?_
  refine r_getI (μ := mX11_feed) (pc := 46) dX11_feed_46 fpX11_259 rfl (hF _ _ rfl) (by decide) ?_
  exact r_iret (μ := mX11_feed) (pc := 49) dX11_feed_49 rfl rfl (PX_i ⟨tkI_1 (tkI_1 (tkI_1 ht 4) 4) 4, rfl⟩)

theorem k_trim_bad {d : Nat} {sh : List Sh} {mi : MI} {mr : MR} (hF : SHC sh) (hB : CB mr) {tp : Nat} (ht : mi 48 1 = nI tp) (ht96 : tp ≤ 96) {x : Int32} (hb : ¬ inB x 0 tp = true) : CP (d) mX11_trim [.ref 0, .int x] sh mi mr 0 0 (PI (BADc) sh mi mr) := by
  refine CP.of (L := [_, _]) (by decide) rfl rfl (Nat.le_of_ble_eq_true rfl) ?_
  refine r_iload_n (μ := mX11_trim) (pc := 0) dX11_trim_0 rfl rfl ?_
  refine r_if_lt (μ := mX11_trim) (pc := 1) (tgt := 15) dX11_trim_1 (by decide) (fun h_1 => ?_) (fun h_1 => ?_)
  · refine r_ldc (μ := mX11_trim) (pc := 15) dX11_trim_15 ctX11_97 ?_
    exact r_iret (μ := mX11_trim) (pc := 17) dX11_trim_17 rfl rfl (PI_i rfl)
  · refine r_iload_n (μ := mX11_trim) (pc := 4) dX11_trim_4 rfl rfl ?_
    refine r_aload_n (μ := mX11_trim) (pc := 5) dX11_trim_5 rfl rfl rfl ?_
    refine r_getR (μ := mX11_trim) (pc := 6) dX11_trim_6 fpX11_62 rfl (hF _ _ rfl) (by decide) (hB _ _ _ rfl) ?_
    refine r_getI (μ := mX11_trim) (pc := 9) dX11_trim_9 fpX11_259 rfl (hF _ _ rfl) (by decide) ?_
    rw [ht]
    refine r_icmp_le (μ := mX11_trim) (pc := 12) (tgt := 18) dX11_trim_12 (by decide) (fun h_12 => ?_) (fun h_12 => ?_)
    · exact absurd (by have h1 := Int32.le_iff_toInt_le.mp h_12; rw [nI_toInt (by omega)] at h1; have h2 := mt Int32.lt_iff_toInt_lt.mpr h_1; have e1 : (0 : Int32).toInt = 0 := rfl; unfold inB; exact decide_eq_true (by omega)) hb
    · refine r_ldc (μ := mX11_trim) (pc := 15) dX11_trim_15 ctX11_97 ?_
      exact r_iret (μ := mX11_trim) (pc := 17) dX11_trim_17 rfl rfl (PI_i rfl)

theorem k_trim {d : Nat} {sh : List Sh} {mi : MI} {mr : MR} (hF : SHC sh) (hB : CB mr) {tp : Nat} (ht : mi 48 1 = nI tp) (ht96 : tp ≤ 96) {x : Int32} (hb : inB x 0 tp = true) : CP (d) mX11_trim [.ref 0, .int x] sh mi mr 0 0 (PX sh mr (fun r mi2 => r = x ∧ mi2 = upI mi 48 1 x)) := by
  obtain ⟨j, hj, rfl⟩ := inB_of hb
  refine CP.of (L := [_, _]) (by decide) rfl rfl (Nat.le_of_ble_eq_true rfl) ?_
  refine r_iload_n (μ := mX11_trim) (pc := 0) dX11_trim_0 rfl rfl ?_
  refine r_if_lt (μ := mX11_trim) (pc := 1) (tgt := 15) dX11_trim_1 (by decide) (fun h_1 => absurd h_1 (nI_pos (by omega))) (fun h_1 => ?_)
  refine r_iload_n (μ := mX11_trim) (pc := 4) dX11_trim_4 rfl rfl ?_
  refine r_aload_n (μ := mX11_trim) (pc := 5) dX11_trim_5 rfl rfl rfl ?_
  refine r_getR (μ := mX11_trim) (pc := 6) dX11_trim_6 fpX11_62 rfl (hF _ _ rfl) (by decide) (hB _ _ _ rfl) ?_
  refine r_getI (μ := mX11_trim) (pc := 9) dX11_trim_9 fpX11_259 rfl (hF _ _ rfl) (by decide) ?_
  rw [ht]
  refine r_icmp_le (μ := mX11_trim) (pc := 12) (tgt := 18) dX11_trim_12 (by decide) (fun h_12 => ?_) (fun h_12 => absurd (nI_le hj (by omega)) h_12)
  refine r_aload_n (μ := mX11_trim) (pc := 18) dX11_trim_18 rfl rfl rfl ?_
  refine r_getR (μ := mX11_trim) (pc := 19) dX11_trim_19 fpX11_62 rfl (hF _ _ rfl) (by decide) (hB _ _ _ rfl) ?_
  refine r_iload_n (μ := mX11_trim) (pc := 22) dX11_trim_22 rfl rfl ?_
  refine r_putI (μ := mX11_trim) (pc := 23) dX11_trim_23 fwX11_259 (hF _ _ rfl) (by decide) rfl ?_
  refine r_iload_n (μ := mX11_trim) (pc := 26) dX11_trim_26 rfl rfl ?_
  exact r_iret (μ := mX11_trim) (pc := 27) dX11_trim_27 rfl rfl (PX_i ⟨rfl, rfl⟩)

theorem k_textTold_bad {d : Nat} {sh : List Sh} {mi : MI} {mr : MR} (hF : SHC sh) (hB : CB mr) {s : Rw} {n m p q : Nat} (hR : RT sh mi mr 8 s n m p q) (hI : Inv s n m p q) {x y : Int32} (hb : ¬ (inR x q = true ∧ inB y 0 1 = true)) : CP (d + 1) mX11_textTold [.ref 0, .int x, .int y] sh mi mr 0 0 (PI (BADc) sh mi mr) := by
  have hn10 := hI.n10; have hm8 := hI.m8; have hp6 := hI.p6; have hq14 := hI.q14
  have hT := TB.of hF hB (Or.inl rfl)
  refine CP.of (L := [_, _, _, _]) (by decide) rfl rfl (Nat.le_of_ble_eq_true rfl) ?_
  refine r_iload_n (μ := mX11_textTold) (pc := 0) dX11_textTold_0 rfl rfl ?_
  refine r_aload_n (μ := mX11_textTold) (pc := 1) dX11_textTold_1 rfl rfl rfl ?_
  refine r_getR (μ := mX11_textTold) (pc := 2) dX11_textTold_2 fpX11_36 rfl (hF _ _ rfl) (by decide) (hB _ _ _ rfl) ?_
  refine r_getI (μ := mX11_textTold) (pc := 5) dX11_textTold_5 fpX11_272 rfl (hF _ _ rfl) (by decide) ?_
  refine sP2 (μ := mX11_textTold) (pc := 8) (μ2 := mX11_within) dX11_textTold_8 lkX11_93 stX11_within mwX11_within (Nat.le_of_ble_eq_true rfl) (k_within hR.eq (by omega)) ?_
  refine r_if_eq (μ := mX11_textTold) (pc := 11) (tgt := 22) dX11_textTold_11 (by decide) (fun h_11 => ?_) (fun h_11 => ?_)
  · have h_11 := b2i_0 h_11
    refine r_ldc (μ := mX11_textTold) (pc := 22) dX11_textTold_22 ctX11_97 ?_
    exact r_iret (μ := mX11_textTold) (pc := 24) dX11_textTold_24 rfl rfl (PI_i rfl)
  · have h_11 := b2i_1 h_11
    refine r_iload_n (μ := mX11_textTold) (pc := 14) dX11_textTold_14 rfl rfl ?_
    refine r_iconst (μ := mX11_textTold) (pc := 15) (v := 2) dX11_textTold_15 ic_2 ?_
    refine sP2 (μ := mX11_textTold) (pc := 16) (μ2 := mX11_within) dX11_textTold_16 lkX11_93 stX11_within mwX11_within (Nat.le_of_ble_eq_true rfl) (k_within (n := 2) rfl (by decide)) ?_
    rw [inR_B _ 1]
    refine r_if_ne (μ := mX11_textTold) (pc := 19) (tgt := 25) dX11_textTold_19 (by decide) (fun h_19 => ?_) (fun h_19 => ?_)
    · have h_19 := b2i_1 h_19
      exact absurd ⟨h_11, h_19⟩ hb
    · have h_19 := b2i_0 h_19
      refine r_ldc (μ := mX11_textTold) (pc := 22) dX11_textTold_22 ctX11_97 ?_
      exact r_iret (μ := mX11_textTold) (pc := 24) dX11_textTold_24 rfl rfl (PI_i rfl)

theorem k_textTold {d : Nat} {sh : List Sh} {mi : MI} {mr : MR} (hF : SHC sh) (hB : CB mr) {s : Rw} {n m p q : Nat} (hR : RT sh mi mr 8 s n m p q) (hI : Inv s n m p q) {t w : Nat} (ht : t < q) (hw : w < 2) : CP (d + 1) mX11_textTold [.ref 0, .int (nI t), .int (nI w)] sh mi mr 0 0 (PI (s (80 + 200 * t + w)) sh mi mr) := by
  have hn10 := hI.n10; have hm8 := hI.m8; have hp6 := hI.p6; have hq14 := hI.q14
  have hT := TB.of hF hB (Or.inl rfl)
  obtain ⟨a, ha, hX⟩ := hR.tx ht
  have hoa := hX.oa
  obtain ⟨c, kt, -, -, -, ⟨g1, g2, g3, g4⟩, -⟩ := hX
  refine CP.of (L := [_, _, _, _]) (by decide) rfl rfl (Nat.le_of_ble_eq_true rfl) ?_
  refine r_iload_n (μ := mX11_textTold) (pc := 0) dX11_textTold_0 rfl rfl ?_
  refine r_aload_n (μ := mX11_textTold) (pc := 1) dX11_textTold_1 rfl rfl rfl ?_
  refine r_getR (μ := mX11_textTold) (pc := 2) dX11_textTold_2 fpX11_36 rfl (hF _ _ rfl) (by decide) (hB _ _ _ rfl) ?_
  refine r_getI (μ := mX11_textTold) (pc := 5) dX11_textTold_5 fpX11_272 rfl (hF _ _ rfl) (by decide) ?_
  refine sP2 (μ := mX11_textTold) (pc := 8) (μ2 := mX11_within) dX11_textTold_8 lkX11_93 stX11_within mwX11_within (Nat.le_of_ble_eq_true rfl) (k_within hR.eq (by omega)) ?_
  refine r_if_eq (μ := mX11_textTold) (pc := 11) (tgt := 22) dX11_textTold_11 (by decide) (fun h_11 => absurd h_11 (b2i_ne (inR_nI ht (by omega)))) (fun h_11 => ?_)
  refine r_iload_n (μ := mX11_textTold) (pc := 14) dX11_textTold_14 rfl rfl ?_
  refine r_iconst (μ := mX11_textTold) (pc := 15) (v := 2) dX11_textTold_15 ic_2 ?_
  refine sP2 (μ := mX11_textTold) (pc := 16) (μ2 := mX11_within) dX11_textTold_16 lkX11_93 stX11_within mwX11_within (Nat.le_of_ble_eq_true rfl) (k_within (n := 2) rfl (by decide)) ?_
  rw [inR_B _ 1]
  refine r_if_ne (μ := mX11_textTold) (pc := 19) (tgt := 25) dX11_textTold_19 (by decide) (fun h_19 => ?_) (fun h_19 => absurd h_19 (b2i_ne (inB_nI (by omega) (by omega))))
  refine r_aload_n (μ := mX11_textTold) (pc := 25) dX11_textTold_25 rfl rfl rfl ?_
  refine r_getR (μ := mX11_textTold) (pc := 26) dX11_textTold_26 fpX11_36 rfl (hF _ _ rfl) (by decide) (hB _ _ _ rfl) ?_
  refine r_getR (μ := mX11_textTold) (pc := 29) dX11_textTold_29 fpX11_279 rfl (hF _ _ rfl) (by decide) (hB _ _ _ rfl) ?_
  refine r_iload_n (μ := mX11_textTold) (pc := 32) dX11_textTold_32 rfl rfl ?_
  refine r_aaload (μ := mX11_textTold) (pc := 33) (t := 2) dX11_textTold_33 (by decide) (hF _ _ rfl) rfl (by omega) (by decide) ha ?_
  refine s_astore_n (μ := mX11_textTold) (pc := 34) (L2 := [_, _, _, _]) dX11_textTold_34 rfl (Nat.le_of_ble_eq_true rfl) (Nat.le_of_ble_eq_true rfl) rfl rfl ?_
  refine r_aload_n (μ := mX11_textTold) (pc := 35) dX11_textTold_35 rfl rfl rfl ?_
  refine r_nonnull (μ := mX11_textTold) (pc := 36) (tgt := 42) dX11_textTold_36 (by decide) ?_
  refine r_iload_n (μ := mX11_textTold) (pc := 42) dX11_textTold_42 rfl rfl ?_
  refine r_if_ne (μ := mX11_textTold) (pc := 43) (tgt := 53) dX11_textTold_43 (by decide) (fun h_43 => ?_) (fun h_43 => ?_)
  · have hw1 : w = 1 := by rcases Nat.lt_or_ge w 1 with z | z; (· exact absurd (by rw [show w = 0 by omega]; rfl) h_43); (· omega)
    refine r_aload_n (μ := mX11_textTold) (pc := 53) dX11_textTold_53 rfl rfl rfl ?_
    refine r_getI (μ := mX11_textTold) (pc := 54) dX11_textTold_54 fpX11_288 rfl hoa (by decide) ?_
    exact r_iret (μ := mX11_textTold) (pc := 57) dX11_textTold_57 rfl rfl (PI_i (by first | (rw [hw0, g3, ← g2]; rfl) | (rw [hw1, g4])))
  · have hw0 : w = 0 := (nI_eq (a := w) (b := 0) (by omega) (by decide)).mp h_43
    refine r_aload_n (μ := mX11_textTold) (pc := 46) dX11_textTold_46 rfl rfl rfl ?_
    refine r_getI (μ := mX11_textTold) (pc := 47) dX11_textTold_47 fpX11_283 rfl hoa (by decide) ?_
    refine r_goto (μ := mX11_textTold) (pc := 50) (tgt := 57) dX11_textTold_50 (by decide) ?_
    exact r_iret (μ := mX11_textTold) (pc := 57) dX11_textTold_57 rfl rfl (PI_i (by first | (rw [hw0, g3, ← g2]; rfl) | (rw [hw1, g4])))

theorem k_why_bad {d : Nat} {sh : List Sh} {mi : MI} {mr : MR} (hF : SHC sh) (hB : CB mr) {s : Rw} {n m p q : Nat} (hR : RT sh mi mr 8 s n m p q) (hI : Inv s n m p q) {x : Int32} (hb : ¬ inB x 0 2 = true) : CP (d + 1) mX11_why [.ref 0, .int x] sh mi mr 0 0 (PI (BADc) sh mi mr) := by
  have hn10 := hI.n10; have hm8 := hI.m8; have hp6 := hI.p6; have hq14 := hI.q14
  have hT := TB.of hF hB (Or.inl rfl)
  refine CP.of (L := [_, _]) (by decide) rfl rfl (Nat.le_of_ble_eq_true rfl) ?_
  refine r_iload_n (μ := mX11_why) (pc := 0) dX11_why_0 rfl rfl ?_
  refine r_iconst (μ := mX11_why) (pc := 1) (v := 3) dX11_why_1 ic_3 ?_
  refine sP2 (μ := mX11_why) (pc := 2) (μ2 := mX11_within) dX11_why_2 lkX11_93 stX11_within mwX11_within (Nat.le_of_ble_eq_true rfl) (k_within (n := 3) rfl (by decide)) ?_
  rw [inR_B _ 2]
  refine r_if_ne (μ := mX11_why) (pc := 5) (tgt := 11) dX11_why_5 (by decide) (fun h_5 => ?_) (fun h_5 => ?_)
  · have h_5 := b2i_1 h_5
    exact absurd h_5 hb
  · have h_5 := b2i_0 h_5
    refine r_ldc (μ := mX11_why) (pc := 8) dX11_why_8 ctX11_97 ?_
    exact r_iret (μ := mX11_why) (pc := 10) dX11_why_10 rfl rfl (PI_i rfl)

theorem k_why {d : Nat} {sh : List Sh} {mi : MI} {mr : MR} (hF : SHC sh) (hB : CB mr) {s : Rw} {n m p q : Nat} (hR : RT sh mi mr 8 s n m p q) (hI : Inv s n m p q) {x : Int32} (hb : inB x 0 2 = true) : CP (d + 1) mX11_why [.ref 0, .int x] sh mi mr 0 0 (PI (if lstT s q x < 0 then NONEc else lstT s q x) sh mi mr) := by
  have hn10 := hI.n10; have hm8 := hI.m8; have hp6 := hI.p6; have hq14 := hI.q14
  have hT := TB.of hF hB (Or.inl rfl)
  obtain ⟨j, hj, rfl⟩ := inB_of (hi := 2) hb
  refine CP.of (L := [_, _]) (by decide) rfl rfl (Nat.le_of_ble_eq_true rfl) ?_
  refine r_iload_n (μ := mX11_why) (pc := 0) dX11_why_0 rfl rfl ?_
  refine r_iconst (μ := mX11_why) (pc := 1) (v := 3) dX11_why_1 ic_3 ?_
  refine sP2 (μ := mX11_why) (pc := 2) (μ2 := mX11_within) dX11_why_2 lkX11_93 stX11_within mwX11_within (Nat.le_of_ble_eq_true rfl) (k_within (n := 3) rfl (by decide)) ?_
  rw [inR_B _ 2]
  refine r_if_ne (μ := mX11_why) (pc := 5) (tgt := 11) dX11_why_5 (by decide) (fun h_5 => ?_) (fun h_5 => absurd h_5 (b2i_ne hb))
  refine r_aload_n (μ := mX11_why) (pc := 11) dX11_why_11 rfl rfl rfl ?_
  refine r_getR (μ := mX11_why) (pc := 12) dX11_why_12 fpX11_36 rfl (hF _ _ rfl) (by decide) (hB _ _ _ rfl) ?_
  refine r_getR (μ := mX11_why) (pc := 15) dX11_why_15 fpX11_291 rfl (hF _ _ rfl) (by decide) (hB _ _ _ rfl) ?_
  refine r_iload_n (μ := mX11_why) (pc := 18) dX11_why_18 rfl rfl ?_
  refine r_iaload (μ := mX11_why) (pc := 19) (j := j) dX11_why_19 (hF _ _ rfl) rfl (by omega) (by decide) ?_
  rw [hR.lk (show j < 3 by omega)]
  refine r_if_ge (μ := mX11_why) (pc := 20) (tgt := 28) dX11_why_20 (by decide) (fun h_20 => ?_) (fun h_20 => ?_)
  · refine r_aload_n (μ := mX11_why) (pc := 28) dX11_why_28 rfl rfl rfl ?_
    refine r_getR (μ := mX11_why) (pc := 29) dX11_why_29 fpX11_36 rfl (hF _ _ rfl) (by decide) (hB _ _ _ rfl) ?_
    refine r_getR (μ := mX11_why) (pc := 32) dX11_why_32 fpX11_291 rfl (hF _ _ rfl) (by decide) (hB _ _ _ rfl) ?_
    refine r_iload_n (μ := mX11_why) (pc := 35) dX11_why_35 rfl rfl ?_
    refine r_iaload (μ := mX11_why) (pc := 36) (j := j) dX11_why_36 (hF _ _ rfl) rfl (by omega) (by decide) ?_
    rw [hR.lk (show j < 3 by omega)]
    exact r_iret (μ := mX11_why) (pc := 37) dX11_why_37 rfl rfl (PI_i (by first | (rw [if_neg (Int32.not_lt.mpr h_20)]) | (rw [if_pos (Int32.not_le.mp h_20)]; rfl)))
  · refine r_ldc (μ := mX11_why) (pc := 23) dX11_why_23 ctX11_225 ?_
    refine r_goto (μ := mX11_why) (pc := 25) (tgt := 37) dX11_why_25 (by decide) ?_
    exact r_iret (μ := mX11_why) (pc := 37) dX11_why_37 rfl rfl (PI_i (by first | (rw [if_neg (Int32.not_lt.mpr h_20)]) | (rw [if_pos (Int32.not_le.mp h_20)]; rfl)))

theorem k_copy_bad {d : Nat} {sh : List Sh} {mi : MI} {mr : MR} (hF : SHC sh) (hB : CB mr) {x a y b c : Int32} (hb : ¬ (inB x 0 3 = true ∧ inB y 0 3 = true)) : CP (d + 1) mX11_copy [.ref 0, .int x, .int a, .int y, .int b, .int c] sh mi mr 0 0 (PI (BADc) sh mi mr) := by
  refine CP.of (L := [_, _, _, _, _, _, _, _]) (by decide) rfl rfl (Nat.le_of_ble_eq_true rfl) ?_
  refine r_iload_n (μ := mX11_copy) (pc := 0) dX11_copy_0 rfl rfl ?_
  refine r_iconst (μ := mX11_copy) (pc := 1) (v := 4) dX11_copy_1 ic_4 ?_
  refine sP2 (μ := mX11_copy) (pc := 2) (μ2 := mX11_within) dX11_copy_2 lkX11_93 stX11_within mwX11_within (Nat.le_of_ble_eq_true rfl) (k_within (n := 4) rfl (by decide)) ?_
  rw [inR_B _ 3]
  refine r_if_eq (μ := mX11_copy) (pc := 5) (tgt := 16) dX11_copy_5 (by decide) (fun h_5 => ?_) (fun h_5 => ?_)
  · have h_5 := b2i_0 h_5
    refine r_ldc (μ := mX11_copy) (pc := 16) dX11_copy_16 ctX11_97 ?_
    exact r_iret (μ := mX11_copy) (pc := 18) dX11_copy_18 rfl rfl (PI_i rfl)
  · have h_5 := b2i_1 h_5
    refine r_iload_n (μ := mX11_copy) (pc := 8) dX11_copy_8 rfl rfl ?_
    refine r_iconst (μ := mX11_copy) (pc := 9) (v := 4) dX11_copy_9 ic_4 ?_
    refine sP2 (μ := mX11_copy) (pc := 10) (μ2 := mX11_within) dX11_copy_10 lkX11_93 stX11_within mwX11_within (Nat.le_of_ble_eq_true rfl) (k_within (n := 4) rfl (by decide)) ?_
    rw [inR_B _ 3]
    refine r_if_ne (μ := mX11_copy) (pc := 13) (tgt := 19) dX11_copy_13 (by decide) (fun h_13 => ?_) (fun h_13 => ?_)
    · have h_13 := b2i_1 h_13
      exact absurd ⟨h_5, h_13⟩ hb
    · have h_13 := b2i_0 h_13
      refine r_ldc (μ := mX11_copy) (pc := 16) dX11_copy_16 ctX11_97 ?_
      exact r_iret (μ := mX11_copy) (pc := 18) dX11_copy_18 rfl rfl (PI_i rfl)

theorem k_copy_none {d : Nat} {sh : List Sh} {mi : MI} {mr : MR} (hF : SHC sh) (hB : CB mr) {f t : Nat} (hf : f < 4) (ht : t < 4) {a b c : Int32} (hs : mi (53 + 2 * f) 0 = -1 ∨ mi (53 + 2 * t) 0 = -1) : CP (d + 1) mX11_copy [.ref 0, .int (nI f), .int a, .int (nI t), .int b, .int c] sh mi mr 0 0 (PI (NOTHINGc) sh mi mr) := by
  obtain ⟨hfa, hfp⟩ := sh_s hF hf; obtain ⟨hfr, hfq⟩ := cr_s hB hf
  obtain ⟨hta, htp⟩ := sh_s hF ht; obtain ⟨htr, htq⟩ := cr_s hB ht
  refine CP.of (L := [_, _, _, _, _, _, _, _]) (by decide) rfl rfl (Nat.le_of_ble_eq_true rfl) ?_
  refine r_iload_n (μ := mX11_copy) (pc := 0) dX11_copy_0 rfl rfl ?_
  refine r_iconst (μ := mX11_copy) (pc := 1) (v := 4) dX11_copy_1 ic_4 ?_
  refine sP2 (μ := mX11_copy) (pc := 2) (μ2 := mX11_within) dX11_copy_2 lkX11_93 stX11_within mwX11_within (Nat.le_of_ble_eq_true rfl) (k_within (n := 4) rfl (by decide)) ?_
  rw [inR_B _ 3]
  refine r_if_eq (μ := mX11_copy) (pc := 5) (tgt := 16) dX11_copy_5 (by decide) (fun h_5 => absurd h_5 (b2i_ne (inB_nI (by omega) (by omega)))) (fun h_5 => ?_)
  refine r_iload_n (μ := mX11_copy) (pc := 8) dX11_copy_8 rfl rfl ?_
  refine r_iconst (μ := mX11_copy) (pc := 9) (v := 4) dX11_copy_9 ic_4 ?_
  refine sP2 (μ := mX11_copy) (pc := 10) (μ2 := mX11_within) dX11_copy_10 lkX11_93 stX11_within mwX11_within (Nat.le_of_ble_eq_true rfl) (k_within (n := 4) rfl (by decide)) ?_
  rw [inR_B _ 3]
  refine r_if_ne (μ := mX11_copy) (pc := 13) (tgt := 19) dX11_copy_13 (by decide) (fun h_13 => ?_) (fun h_13 => absurd h_13 (b2i_ne (inB_nI (by omega) (by omega))))
  refine r_aload_n (μ := mX11_copy) (pc := 19) dX11_copy_19 rfl rfl rfl ?_
  refine r_getR (μ := mX11_copy) (pc := 20) dX11_copy_20 fpX11_69 rfl (hF _ _ rfl) (by decide) (hB _ _ _ rfl) ?_
  refine r_iload_n (μ := mX11_copy) (pc := 23) dX11_copy_23 rfl rfl ?_
  refine r_aaload (μ := mX11_copy) (pc := 24) (t := 1) dX11_copy_24 (by decide) (hF _ _ rfl) rfl (by omega) (by decide) hfr ?_
  refine s_astore (μ := mX11_copy) (pc := 25) (L2 := [_, _, _, _, _, _, _, _]) dX11_copy_25 (Nat.le_of_ble_eq_true rfl) (Nat.le_of_ble_eq_true rfl) rfl rfl ?_
  refine r_aload_n (μ := mX11_copy) (pc := 27) dX11_copy_27 rfl rfl rfl ?_
  refine r_getR (μ := mX11_copy) (pc := 28) dX11_copy_28 fpX11_69 rfl (hF _ _ rfl) (by decide) (hB _ _ _ rfl) ?_
  refine r_iload_n (μ := mX11_copy) (pc := 31) dX11_copy_31 rfl rfl ?_
  refine r_aaload (μ := mX11_copy) (pc := 32) (t := 1) dX11_copy_32 (by decide) (hF _ _ rfl) rfl (by omega) (by decide) htr ?_
  refine s_astore (μ := mX11_copy) (pc := 33) (L2 := [_, _, _, _, _, _, _, _]) dX11_copy_33 (Nat.le_of_ble_eq_true rfl) (Nat.le_of_ble_eq_true rfl) rfl rfl ?_
  refine r_aload (μ := mX11_copy) (pc := 35) dX11_copy_35 rfl rfl ?_
  refine r_getI (μ := mX11_copy) (pc := 37) dX11_copy_37 fpX11_299 rfl hfa (by decide) ?_
  refine r_iconst (μ := mX11_copy) (pc := 40) (v := -1) dX11_copy_40 ic_m1 ?_
  refine r_icmp_eq (μ := mX11_copy) (pc := 41) (tgt := 53) dX11_copy_41 (by decide) (fun h_41 => ?_) (fun h_41 => ?_)
  · refine r_ldcw (μ := mX11_copy) (pc := 53) dX11_copy_53 ctX11_302 ?_
    exact r_iret (μ := mX11_copy) (pc := 56) dX11_copy_56 rfl rfl (PI_i rfl)
  · refine r_aload (μ := mX11_copy) (pc := 44) dX11_copy_44 rfl rfl ?_
    refine r_getI (μ := mX11_copy) (pc := 46) dX11_copy_46 fpX11_299 rfl hta (by decide) ?_
    refine r_iconst (μ := mX11_copy) (pc := 49) (v := -1) dX11_copy_49 ic_m1 ?_
    refine r_icmp_ne (μ := mX11_copy) (pc := 50) (tgt := 57) dX11_copy_50 (by decide) (fun h_50 => ?_) (fun h_50 => ?_)
    · exact hs.elim (fun z => absurd z h_41) (fun z => absurd z h_50)
    · refine r_ldcw (μ := mX11_copy) (pc := 53) dX11_copy_53 ctX11_302 ?_
      exact r_iret (μ := mX11_copy) (pc := 56) dX11_copy_56 rfl rfl (PI_i rfl)

theorem k_copy_kind {d : Nat} {sh : List Sh} {mi : MI} {mr : MR} (hF : SHC sh) (hB : CB mr) {f t : Nat} (hf : f < 4) (ht : t < 4) {a b c : Int32} (hs1 : ¬ mi (53 + 2 * f) 0 = -1) (hs2 : ¬ mi (53 + 2 * t) 0 = -1) (hne : ¬ mi (53 + 2 * f) 0 = mi (53 + 2 * t) 0) : CP (d + 1) mX11_copy [.ref 0, .int (nI f), .int a, .int (nI t), .int b, .int c] sh mi mr 0 0 (PI (KINDc) sh mi mr) := by
  obtain ⟨hfa, hfp⟩ := sh_s hF hf; obtain ⟨hfr, hfq⟩ := cr_s hB hf
  obtain ⟨hta, htp⟩ := sh_s hF ht; obtain ⟨htr, htq⟩ := cr_s hB ht
  refine CP.of (L := [_, _, _, _, _, _, _, _]) (by decide) rfl rfl (Nat.le_of_ble_eq_true rfl) ?_
  refine r_iload_n (μ := mX11_copy) (pc := 0) dX11_copy_0 rfl rfl ?_
  refine r_iconst (μ := mX11_copy) (pc := 1) (v := 4) dX11_copy_1 ic_4 ?_
  refine sP2 (μ := mX11_copy) (pc := 2) (μ2 := mX11_within) dX11_copy_2 lkX11_93 stX11_within mwX11_within (Nat.le_of_ble_eq_true rfl) (k_within (n := 4) rfl (by decide)) ?_
  rw [inR_B _ 3]
  refine r_if_eq (μ := mX11_copy) (pc := 5) (tgt := 16) dX11_copy_5 (by decide) (fun h_5 => absurd h_5 (b2i_ne (inB_nI (by omega) (by omega)))) (fun h_5 => ?_)
  refine r_iload_n (μ := mX11_copy) (pc := 8) dX11_copy_8 rfl rfl ?_
  refine r_iconst (μ := mX11_copy) (pc := 9) (v := 4) dX11_copy_9 ic_4 ?_
  refine sP2 (μ := mX11_copy) (pc := 10) (μ2 := mX11_within) dX11_copy_10 lkX11_93 stX11_within mwX11_within (Nat.le_of_ble_eq_true rfl) (k_within (n := 4) rfl (by decide)) ?_
  rw [inR_B _ 3]
  refine r_if_ne (μ := mX11_copy) (pc := 13) (tgt := 19) dX11_copy_13 (by decide) (fun h_13 => ?_) (fun h_13 => absurd h_13 (b2i_ne (inB_nI (by omega) (by omega))))
  refine r_aload_n (μ := mX11_copy) (pc := 19) dX11_copy_19 rfl rfl rfl ?_
  refine r_getR (μ := mX11_copy) (pc := 20) dX11_copy_20 fpX11_69 rfl (hF _ _ rfl) (by decide) (hB _ _ _ rfl) ?_
  refine r_iload_n (μ := mX11_copy) (pc := 23) dX11_copy_23 rfl rfl ?_
  refine r_aaload (μ := mX11_copy) (pc := 24) (t := 1) dX11_copy_24 (by decide) (hF _ _ rfl) rfl (by omega) (by decide) hfr ?_
  refine s_astore (μ := mX11_copy) (pc := 25) (L2 := [_, _, _, _, _, _, _, _]) dX11_copy_25 (Nat.le_of_ble_eq_true rfl) (Nat.le_of_ble_eq_true rfl) rfl rfl ?_
  refine r_aload_n (μ := mX11_copy) (pc := 27) dX11_copy_27 rfl rfl rfl ?_
  refine r_getR (μ := mX11_copy) (pc := 28) dX11_copy_28 fpX11_69 rfl (hF _ _ rfl) (by decide) (hB _ _ _ rfl) ?_
  refine r_iload_n (μ := mX11_copy) (pc := 31) dX11_copy_31 rfl rfl ?_
  refine r_aaload (μ := mX11_copy) (pc := 32) (t := 1) dX11_copy_32 (by decide) (hF _ _ rfl) rfl (by omega) (by decide) htr ?_
  refine s_astore (μ := mX11_copy) (pc := 33) (L2 := [_, _, _, _, _, _, _, _]) dX11_copy_33 (Nat.le_of_ble_eq_true rfl) (Nat.le_of_ble_eq_true rfl) rfl rfl ?_
  refine r_aload (μ := mX11_copy) (pc := 35) dX11_copy_35 rfl rfl ?_
  refine r_getI (μ := mX11_copy) (pc := 37) dX11_copy_37 fpX11_299 rfl hfa (by decide) ?_
  refine r_iconst (μ := mX11_copy) (pc := 40) (v := -1) dX11_copy_40 ic_m1 ?_
  refine r_icmp_eq (μ := mX11_copy) (pc := 41) (tgt := 53) dX11_copy_41 (by decide) (fun h_41 => absurd h_41 hs1) (fun h_41 => ?_)
  refine r_aload (μ := mX11_copy) (pc := 44) dX11_copy_44 rfl rfl ?_
  refine r_getI (μ := mX11_copy) (pc := 46) dX11_copy_46 fpX11_299 rfl hta (by decide) ?_
  refine r_iconst (μ := mX11_copy) (pc := 49) (v := -1) dX11_copy_49 ic_m1 ?_
  refine r_icmp_ne (μ := mX11_copy) (pc := 50) (tgt := 57) dX11_copy_50 (by decide) (fun h_50 => ?_) (fun h_50 => absurd h_50 hs2)
  refine r_aload (μ := mX11_copy) (pc := 57) dX11_copy_57 rfl rfl ?_
  refine r_getI (μ := mX11_copy) (pc := 59) dX11_copy_59 fpX11_299 rfl hfa (by decide) ?_
  refine r_aload (μ := mX11_copy) (pc := 62) dX11_copy_62 rfl rfl ?_
  refine r_getI (μ := mX11_copy) (pc := 64) dX11_copy_64 fpX11_299 rfl hta (by decide) ?_
  refine r_icmp_eq (μ := mX11_copy) (pc := 67) (tgt := 73) dX11_copy_67 (by decide) (fun h_67 => absurd h_67 hne) (fun h_67 => ?_)
  refine r_ldc (μ := mX11_copy) (pc := 70) dX11_copy_70 ctX11_182 ?_
  exact r_iret (μ := mX11_copy) (pc := 72) dX11_copy_72 rfl rfl (PI_i rfl)

theorem k_copy_ix {d : Nat} {sh : List Sh} {mi : MI} {mr : MR} (hF : SHC sh) (hB : CB mr) {f t : Nat} (hf : f < 4) (ht : t < 4) {a b c : Int32} (hs1 : ¬ mi (53 + 2 * f) 0 = -1) (hs2 : ¬ mi (53 + 2 * t) 0 = -1) (he : mi (53 + 2 * f) 0 = mi (53 + 2 * t) 0) {zf zt : Nat} (hzf : mi (53 + 2 * f) 1 = nI zf) (hzt : mi (53 + 2 * t) 1 = nI zt) (hf24 : zf ≤ 24) (ht24 : zt ≤ 24) (hb : ¬ (ixOK a c zf = true ∧ ixOK b c zt = true)) : CP (d + 1) mX11_copy [.ref 0, .int (nI f), .int a, .int (nI t), .int b, .int c] sh mi mr 0 0 (PI (INDEXc) sh mi mr) := by
  obtain ⟨hfa, hfp⟩ := sh_s hF hf; obtain ⟨hfr, hfq⟩ := cr_s hB hf
  obtain ⟨hta, htp⟩ := sh_s hF ht; obtain ⟨htr, htq⟩ := cr_s hB ht
  refine CP.of (L := [_, _, _, _, _, _, _, _]) (by decide) rfl rfl (Nat.le_of_ble_eq_true rfl) ?_
  refine r_iload_n (μ := mX11_copy) (pc := 0) dX11_copy_0 rfl rfl ?_
  refine r_iconst (μ := mX11_copy) (pc := 1) (v := 4) dX11_copy_1 ic_4 ?_
  refine sP2 (μ := mX11_copy) (pc := 2) (μ2 := mX11_within) dX11_copy_2 lkX11_93 stX11_within mwX11_within (Nat.le_of_ble_eq_true rfl) (k_within (n := 4) rfl (by decide)) ?_
  rw [inR_B _ 3]
  refine r_if_eq (μ := mX11_copy) (pc := 5) (tgt := 16) dX11_copy_5 (by decide) (fun h_5 => absurd h_5 (b2i_ne (inB_nI (by omega) (by omega)))) (fun h_5 => ?_)
  refine r_iload_n (μ := mX11_copy) (pc := 8) dX11_copy_8 rfl rfl ?_
  refine r_iconst (μ := mX11_copy) (pc := 9) (v := 4) dX11_copy_9 ic_4 ?_
  refine sP2 (μ := mX11_copy) (pc := 10) (μ2 := mX11_within) dX11_copy_10 lkX11_93 stX11_within mwX11_within (Nat.le_of_ble_eq_true rfl) (k_within (n := 4) rfl (by decide)) ?_
  rw [inR_B _ 3]
  refine r_if_ne (μ := mX11_copy) (pc := 13) (tgt := 19) dX11_copy_13 (by decide) (fun h_13 => ?_) (fun h_13 => absurd h_13 (b2i_ne (inB_nI (by omega) (by omega))))
  refine r_aload_n (μ := mX11_copy) (pc := 19) dX11_copy_19 rfl rfl rfl ?_
  refine r_getR (μ := mX11_copy) (pc := 20) dX11_copy_20 fpX11_69 rfl (hF _ _ rfl) (by decide) (hB _ _ _ rfl) ?_
  refine r_iload_n (μ := mX11_copy) (pc := 23) dX11_copy_23 rfl rfl ?_
  refine r_aaload (μ := mX11_copy) (pc := 24) (t := 1) dX11_copy_24 (by decide) (hF _ _ rfl) rfl (by omega) (by decide) hfr ?_
  refine s_astore (μ := mX11_copy) (pc := 25) (L2 := [_, _, _, _, _, _, _, _]) dX11_copy_25 (Nat.le_of_ble_eq_true rfl) (Nat.le_of_ble_eq_true rfl) rfl rfl ?_
  refine r_aload_n (μ := mX11_copy) (pc := 27) dX11_copy_27 rfl rfl rfl ?_
  refine r_getR (μ := mX11_copy) (pc := 28) dX11_copy_28 fpX11_69 rfl (hF _ _ rfl) (by decide) (hB _ _ _ rfl) ?_
  refine r_iload_n (μ := mX11_copy) (pc := 31) dX11_copy_31 rfl rfl ?_
  refine r_aaload (μ := mX11_copy) (pc := 32) (t := 1) dX11_copy_32 (by decide) (hF _ _ rfl) rfl (by omega) (by decide) htr ?_
  refine s_astore (μ := mX11_copy) (pc := 33) (L2 := [_, _, _, _, _, _, _, _]) dX11_copy_33 (Nat.le_of_ble_eq_true rfl) (Nat.le_of_ble_eq_true rfl) rfl rfl ?_
  refine r_aload (μ := mX11_copy) (pc := 35) dX11_copy_35 rfl rfl ?_
  refine r_getI (μ := mX11_copy) (pc := 37) dX11_copy_37 fpX11_299 rfl hfa (by decide) ?_
  refine r_iconst (μ := mX11_copy) (pc := 40) (v := -1) dX11_copy_40 ic_m1 ?_
  refine r_icmp_eq (μ := mX11_copy) (pc := 41) (tgt := 53) dX11_copy_41 (by decide) (fun h_41 => absurd h_41 hs1) (fun h_41 => ?_)
  refine r_aload (μ := mX11_copy) (pc := 44) dX11_copy_44 rfl rfl ?_
  refine r_getI (μ := mX11_copy) (pc := 46) dX11_copy_46 fpX11_299 rfl hta (by decide) ?_
  refine r_iconst (μ := mX11_copy) (pc := 49) (v := -1) dX11_copy_49 ic_m1 ?_
  refine r_icmp_ne (μ := mX11_copy) (pc := 50) (tgt := 57) dX11_copy_50 (by decide) (fun h_50 => ?_) (fun h_50 => absurd h_50 hs2)
  refine r_aload (μ := mX11_copy) (pc := 57) dX11_copy_57 rfl rfl ?_
  refine r_getI (μ := mX11_copy) (pc := 59) dX11_copy_59 fpX11_299 rfl hfa (by decide) ?_
  refine r_aload (μ := mX11_copy) (pc := 62) dX11_copy_62 rfl rfl ?_
  refine r_getI (μ := mX11_copy) (pc := 64) dX11_copy_64 fpX11_299 rfl hta (by decide) ?_
  refine r_icmp_eq (μ := mX11_copy) (pc := 67) (tgt := 73) dX11_copy_67 (by decide) (fun h_67 => ?_) (fun h_67 => absurd he h_67)
  refine r_aload (μ := mX11_copy) (pc := 73) dX11_copy_73 rfl rfl ?_
  refine r_iload_n (μ := mX11_copy) (pc := 75) dX11_copy_75 rfl rfl ?_
  refine r_iload (μ := mX11_copy) (pc := 76) dX11_copy_76 rfl ?_
  refine vP2 (μ := mX11_copy) (pc := 78) (c0 := 7) (q0 := (RX7, TX7, 3)) (μ2 := mX7_hasPlaces) dX11_copy_78 hfa rfl lkX11_319 imX7_hasPlaces seX7_X7_hasPlaces_X7_hasPlaces mwX7_hasPlaces (Nat.le_of_ble_eq_true rfl) (k_hasPlaces hfa hzf hf24) ?_
  refine r_if_eq (μ := mX11_copy) (pc := 81) (tgt := 96) dX11_copy_81 (by decide) (fun h_81 => ?_) (fun h_81 => ?_)
  · have h_81 := b2i_0 h_81
    refine r_ldcw (μ := mX11_copy) (pc := 96) dX11_copy_96 ctX11_306 ?_
    exact r_iret (μ := mX11_copy) (pc := 99) dX11_copy_99 rfl rfl (PI_i rfl)
  · have h_81 := b2i_1 h_81
    refine r_aload (μ := mX11_copy) (pc := 84) dX11_copy_84 rfl rfl ?_
    refine r_iload (μ := mX11_copy) (pc := 86) dX11_copy_86 rfl ?_
    refine r_iload (μ := mX11_copy) (pc := 88) dX11_copy_88 rfl ?_
    refine vP2 (μ := mX11_copy) (pc := 90) (c0 := 7) (q0 := (RX7, TX7, 3)) (μ2 := mX7_hasPlaces) dX11_copy_90 hta rfl lkX11_319 imX7_hasPlaces seX7_X7_hasPlaces_X7_hasPlaces mwX7_hasPlaces (Nat.le_of_ble_eq_true rfl) (k_hasPlaces hta hzt ht24) ?_
    refine r_if_ne (μ := mX11_copy) (pc := 93) (tgt := 100) dX11_copy_93 (by decide) (fun h_93 => ?_) (fun h_93 => ?_)
    · have h_93 := b2i_1 h_93
      exact absurd ⟨h_81, h_93⟩ hb
    · have h_93 := b2i_0 h_93
      refine r_ldcw (μ := mX11_copy) (pc := 96) dX11_copy_96 ctX11_306 ?_
      exact r_iret (μ := mX11_copy) (pc := 99) dX11_copy_99 rfl rfl (PI_i rfl)

theorem ix_nI {a c z : Nat} (h : a + c ≤ z) (hz : z ≤ 24) : ixOK (nI a) (nI c) z = true := by
  unfold ixOK
  rw [nI_toInt (by omega), nI_toInt (by omega)]
  exact decide_eq_true (by omega)

theorem k_copy {d : Nat} {sh : List Sh} {mi : MI} {mr : MR} (hF : SHC sh) (hB : CB mr) {f t : Nat} (hf : f < 4) (ht : t < 4) {a b c : Nat} (hs1 : ¬ mi (53 + 2 * f) 0 = -1) (hs2 : ¬ mi (53 + 2 * t) 0 = -1) (he : mi (53 + 2 * f) 0 = mi (53 + 2 * t) 0) {zf zt : Nat} (hzf : mi (53 + 2 * f) 1 = nI zf) (hzt : mi (53 + 2 * t) 1 = nI zt) (hf24 : zf ≤ 24) (ht24 : zt ≤ 24) (hac : a + c ≤ zf) (hbc : b + c ≤ zt) : CP (d + 1) mX11_copy [.ref 0, .int (nI f), .int (nI a), .int (nI t), .int (nI b), .int (nI c)] sh mi mr 0 0 (PX sh mr (fun r mi2 => r = nI c ∧ mi2 = cpI mi (54 + 2 * f) (54 + 2 * t) a b c)) := by
  obtain ⟨hfa, hfp⟩ := sh_s hF hf; obtain ⟨hfr, hfq⟩ := cr_s hB hf
  obtain ⟨hta, htp⟩ := sh_s hF ht; obtain ⟨htr, htq⟩ := cr_s hB ht
  refine CP.of (L := [_, _, _, _, _, _, _, _]) (by decide) rfl rfl (Nat.le_of_ble_eq_true rfl) ?_
  refine r_iload_n (μ := mX11_copy) (pc := 0) dX11_copy_0 rfl rfl ?_
  refine r_iconst (μ := mX11_copy) (pc := 1) (v := 4) dX11_copy_1 ic_4 ?_
  refine sP2 (μ := mX11_copy) (pc := 2) (μ2 := mX11_within) dX11_copy_2 lkX11_93 stX11_within mwX11_within (Nat.le_of_ble_eq_true rfl) (k_within (n := 4) rfl (by decide)) ?_
  rw [inR_B _ 3]
  refine r_if_eq (μ := mX11_copy) (pc := 5) (tgt := 16) dX11_copy_5 (by decide) (fun h_5 => absurd h_5 (b2i_ne (inB_nI (by omega) (by omega)))) (fun h_5 => ?_)
  refine r_iload_n (μ := mX11_copy) (pc := 8) dX11_copy_8 rfl rfl ?_
  refine r_iconst (μ := mX11_copy) (pc := 9) (v := 4) dX11_copy_9 ic_4 ?_
  refine sP2 (μ := mX11_copy) (pc := 10) (μ2 := mX11_within) dX11_copy_10 lkX11_93 stX11_within mwX11_within (Nat.le_of_ble_eq_true rfl) (k_within (n := 4) rfl (by decide)) ?_
  rw [inR_B _ 3]
  refine r_if_ne (μ := mX11_copy) (pc := 13) (tgt := 19) dX11_copy_13 (by decide) (fun h_13 => ?_) (fun h_13 => absurd h_13 (b2i_ne (inB_nI (by omega) (by omega))))
  refine r_aload_n (μ := mX11_copy) (pc := 19) dX11_copy_19 rfl rfl rfl ?_
  refine r_getR (μ := mX11_copy) (pc := 20) dX11_copy_20 fpX11_69 rfl (hF _ _ rfl) (by decide) (hB _ _ _ rfl) ?_
  refine r_iload_n (μ := mX11_copy) (pc := 23) dX11_copy_23 rfl rfl ?_
  refine r_aaload (μ := mX11_copy) (pc := 24) (t := 1) dX11_copy_24 (by decide) (hF _ _ rfl) rfl (by omega) (by decide) hfr ?_
  refine s_astore (μ := mX11_copy) (pc := 25) (L2 := [_, _, _, _, _, _, _, _]) dX11_copy_25 (Nat.le_of_ble_eq_true rfl) (Nat.le_of_ble_eq_true rfl) rfl rfl ?_
  refine r_aload_n (μ := mX11_copy) (pc := 27) dX11_copy_27 rfl rfl rfl ?_
  refine r_getR (μ := mX11_copy) (pc := 28) dX11_copy_28 fpX11_69 rfl (hF _ _ rfl) (by decide) (hB _ _ _ rfl) ?_
  refine r_iload_n (μ := mX11_copy) (pc := 31) dX11_copy_31 rfl rfl ?_
  refine r_aaload (μ := mX11_copy) (pc := 32) (t := 1) dX11_copy_32 (by decide) (hF _ _ rfl) rfl (by omega) (by decide) htr ?_
  refine s_astore (μ := mX11_copy) (pc := 33) (L2 := [_, _, _, _, _, _, _, _]) dX11_copy_33 (Nat.le_of_ble_eq_true rfl) (Nat.le_of_ble_eq_true rfl) rfl rfl ?_
  refine r_aload (μ := mX11_copy) (pc := 35) dX11_copy_35 rfl rfl ?_
  refine r_getI (μ := mX11_copy) (pc := 37) dX11_copy_37 fpX11_299 rfl hfa (by decide) ?_
  refine r_iconst (μ := mX11_copy) (pc := 40) (v := -1) dX11_copy_40 ic_m1 ?_
  refine r_icmp_eq (μ := mX11_copy) (pc := 41) (tgt := 53) dX11_copy_41 (by decide) (fun h_41 => absurd h_41 hs1) (fun h_41 => ?_)
  refine r_aload (μ := mX11_copy) (pc := 44) dX11_copy_44 rfl rfl ?_
  refine r_getI (μ := mX11_copy) (pc := 46) dX11_copy_46 fpX11_299 rfl hta (by decide) ?_
  refine r_iconst (μ := mX11_copy) (pc := 49) (v := -1) dX11_copy_49 ic_m1 ?_
  refine r_icmp_ne (μ := mX11_copy) (pc := 50) (tgt := 57) dX11_copy_50 (by decide) (fun h_50 => ?_) (fun h_50 => absurd h_50 hs2)
  refine r_aload (μ := mX11_copy) (pc := 57) dX11_copy_57 rfl rfl ?_
  refine r_getI (μ := mX11_copy) (pc := 59) dX11_copy_59 fpX11_299 rfl hfa (by decide) ?_
  refine r_aload (μ := mX11_copy) (pc := 62) dX11_copy_62 rfl rfl ?_
  refine r_getI (μ := mX11_copy) (pc := 64) dX11_copy_64 fpX11_299 rfl hta (by decide) ?_
  refine r_icmp_eq (μ := mX11_copy) (pc := 67) (tgt := 73) dX11_copy_67 (by decide) (fun h_67 => ?_) (fun h_67 => absurd he h_67)
  refine r_aload (μ := mX11_copy) (pc := 73) dX11_copy_73 rfl rfl ?_
  refine r_iload_n (μ := mX11_copy) (pc := 75) dX11_copy_75 rfl rfl ?_
  refine r_iload (μ := mX11_copy) (pc := 76) dX11_copy_76 rfl ?_
  refine vP2 (μ := mX11_copy) (pc := 78) (c0 := 7) (q0 := (RX7, TX7, 3)) (μ2 := mX7_hasPlaces) dX11_copy_78 hfa rfl lkX11_319 imX7_hasPlaces seX7_X7_hasPlaces_X7_hasPlaces mwX7_hasPlaces (Nat.le_of_ble_eq_true rfl) (k_hasPlaces hfa hzf hf24) ?_
  refine r_if_eq (μ := mX11_copy) (pc := 81) (tgt := 96) dX11_copy_81 (by decide) (fun h_81 => absurd h_81 (b2i_ne (ix_nI hac hf24))) (fun h_81 => ?_)
  refine r_aload (μ := mX11_copy) (pc := 84) dX11_copy_84 rfl rfl ?_
  refine r_iload (μ := mX11_copy) (pc := 86) dX11_copy_86 rfl ?_
  refine r_iload (μ := mX11_copy) (pc := 88) dX11_copy_88 rfl ?_
  refine vP2 (μ := mX11_copy) (pc := 90) (c0 := 7) (q0 := (RX7, TX7, 3)) (μ2 := mX7_hasPlaces) dX11_copy_90 hta rfl lkX11_319 imX7_hasPlaces seX7_X7_hasPlaces_X7_hasPlaces mwX7_hasPlaces (Nat.le_of_ble_eq_true rfl) (k_hasPlaces hta hzt ht24) ?_
  refine r_if_ne (μ := mX11_copy) (pc := 93) (tgt := 100) dX11_copy_93 (by decide) (fun h_93 => ?_) (fun h_93 => absurd h_93 (b2i_ne (ix_nI hbc ht24)))
  refine r_aload (μ := mX11_copy) (pc := 100) dX11_copy_100 rfl rfl ?_
  refine r_getR (μ := mX11_copy) (pc := 102) dX11_copy_102 fpX11_307 rfl hfa (by decide) hfq ?_
  refine r_iload_n (μ := mX11_copy) (pc := 105) dX11_copy_105 rfl rfl ?_
  refine r_aload (μ := mX11_copy) (pc := 106) dX11_copy_106 rfl rfl ?_
  refine r_getR (μ := mX11_copy) (pc := 108) dX11_copy_108 fpX11_307 rfl hta (by decide) htq ?_
  refine r_iload (μ := mX11_copy) (pc := 111) dX11_copy_111 rfl ?_
  refine r_iload (μ := mX11_copy) (pc := 113) dX11_copy_113 rfl ?_
  refine r_copy (μ := mX11_copy) (pc := 115) (sp := a) (dp := b) (n := c) dX11_copy_115 lkX11_322 hfp htp rfl rfl rfl (by omega) (by omega) (by decide) (by decide) (Nat.le_of_ble_eq_true rfl) ?_
  refine r_iload (μ := mX11_copy) (pc := 118) dX11_copy_118 rfl ?_
  exact r_iret (μ := mX11_copy) (pc := 120) dX11_copy_120 rfl rfl (PX_i ⟨rfl, rfl⟩)

theorem k_lay_bad {d : Nat} {sh : List Sh} {mi : MI} {mr : MR} (hF : SHC sh) (hB : CB mr) {s : Rw} {n m p q : Nat} (hR : RT sh mi mr 8 s n m p q) (hI : Inv s n m p q) {u h k : Int32} (hb : ¬ (inB u 0 4 = true ∧ (h = 0 ∨ h = 3 ∨ (h = 1 ∧ inR k m = true) ∨ (h = 2 ∧ inB k 0 3 = true)))) : CP (d + 1) mX11_lay [.ref 0, .int u, .int h, .int k] sh mi mr 0 0 (PI (BADc) sh mi mr) := by
  have hn10 := hI.n10; have hm8 := hI.m8; have hp6 := hI.p6; have hq14 := hI.q14
  have hT := TB.of hF hB (Or.inl rfl)
  refine CP.of (L := [_, _, _, _]) (by decide) rfl rfl (Nat.le_of_ble_eq_true rfl) ?_
  refine r_iload_n (μ := mX11_lay) (pc := 0) dX11_lay_0 rfl rfl ?_
  refine r_iconst (μ := mX11_lay) (pc := 1) (v := 5) dX11_lay_1 ic_5 ?_
  refine sP2 (μ := mX11_lay) (pc := 2) (μ2 := mX11_within) dX11_lay_2 lkX11_93 stX11_within mwX11_within (Nat.le_of_ble_eq_true rfl) (k_within (n := 5) rfl (by decide)) ?_
  rw [inR_B _ 4]
  refine r_if_eq (μ := mX11_lay) (pc := 5) (tgt := 17) dX11_lay_5 (by decide) (fun h_5 => ?_) (fun h_5 => ?_)
  · have h_5 := b2i_0 h_5
    refine r_ldc (μ := mX11_lay) (pc := 17) dX11_lay_17 ctX11_97 ?_
    exact r_iret (μ := mX11_lay) (pc := 19) dX11_lay_19 rfl rfl (PI_i rfl)
  · have h_5 := b2i_1 h_5
    refine r_iload_n (μ := mX11_lay) (pc := 8) dX11_lay_8 rfl rfl ?_
    refine r_if_lt (μ := mX11_lay) (pc := 9) (tgt := 17) dX11_lay_9 (by decide) (fun h_9 => ?_) (fun h_9 => ?_)
    · refine r_ldc (μ := mX11_lay) (pc := 17) dX11_lay_17 ctX11_97 ?_
      exact r_iret (μ := mX11_lay) (pc := 19) dX11_lay_19 rfl rfl (PI_i rfl)
    · refine r_iload_n (μ := mX11_lay) (pc := 12) dX11_lay_12 rfl rfl ?_
      refine r_iconst (μ := mX11_lay) (pc := 13) (v := 3) dX11_lay_13 ic_3 ?_
      refine r_icmp_le (μ := mX11_lay) (pc := 14) (tgt := 20) dX11_lay_14 (by decide) (fun h_14 => ?_) (fun h_14 => ?_)
      · have hh : h = 0 ∨ h = 1 ∨ h = 2 ∨ h = 3 := by obtain ⟨j, hj, rfl⟩ := inB_of (x := h) (hi := 3) (by have h1 := Int32.le_iff_toInt_le.mp h_14; have h2 := mt Int32.lt_iff_toInt_lt.mpr h_9; have e1 : (0 : Int32).toInt = 0 := rfl; have e2 : (3 : Int32).toInt = 3 := rfl; unfold inB; exact decide_eq_true (by omega)); rcases (show j = 0 ∨ j = 1 ∨ j = 2 ∨ j = 3 by omega) with rfl | rfl | rfl | rfl <;> simp [nI]
        refine r_iload_n (μ := mX11_lay) (pc := 20) dX11_lay_20 rfl rfl ?_
        refine r_iconst (μ := mX11_lay) (pc := 21) (v := 1) dX11_lay_21 ic_1 ?_
        refine r_icmp_ne (μ := mX11_lay) (pc := 22) (tgt := 42) dX11_lay_22 (by decide) (fun h_22 => ?_) (fun h_22 => ?_)
        · refine r_iload_n (μ := mX11_lay) (pc := 42) dX11_lay_42 rfl rfl ?_
          refine r_iconst (μ := mX11_lay) (pc := 43) (v := 2) dX11_lay_43 ic_2 ?_
          refine r_icmp_ne (μ := mX11_lay) (pc := 44) (tgt := 58) dX11_lay_44 (by decide) (fun h_44 => ?_) (fun h_44 => ?_)
          · exact absurd ⟨h_5, by rcases hh with z | z | z | z; (· exact Or.inl z); (· exact absurd z h_22); (· exact absurd z h_44); (· exact Or.inr (Or.inl z))⟩ hb
          · refine r_iload_n (μ := mX11_lay) (pc := 47) dX11_lay_47 rfl rfl ?_
            refine r_iconst (μ := mX11_lay) (pc := 48) (v := 4) dX11_lay_48 ic_4 ?_
            refine sP2 (μ := mX11_lay) (pc := 49) (μ2 := mX11_within) dX11_lay_49 lkX11_93 stX11_within mwX11_within (Nat.le_of_ble_eq_true rfl) (k_within (n := 4) rfl (by decide)) ?_
            rw [inR_B _ 3]
            refine r_if_ne (μ := mX11_lay) (pc := 52) (tgt := 58) dX11_lay_52 (by decide) (fun h_52 => ?_) (fun h_52 => ?_)
            · have h_52 := b2i_1 h_52
              exact absurd ⟨h_5, Or.inr (Or.inr (Or.inr ⟨h_44, h_52⟩))⟩ hb
            · have h_52 := b2i_0 h_52
              refine r_ldc (μ := mX11_lay) (pc := 55) dX11_lay_55 ctX11_97 ?_
              exact r_iret (μ := mX11_lay) (pc := 57) dX11_lay_57 rfl rfl (PI_i rfl)
        · refine r_iload_n (μ := mX11_lay) (pc := 25) dX11_lay_25 rfl rfl ?_
          refine r_aload_n (μ := mX11_lay) (pc := 26) dX11_lay_26 rfl rfl rfl ?_
          refine r_getR (μ := mX11_lay) (pc := 27) dX11_lay_27 fpX11_36 rfl (hF _ _ rfl) (by decide) (hB _ _ _ rfl) ?_
          refine r_getI (μ := mX11_lay) (pc := 30) dX11_lay_30 fpX11_139 rfl (hF _ _ rfl) (by decide) ?_
          refine sP2 (μ := mX11_lay) (pc := 33) (μ2 := mX11_within) dX11_lay_33 lkX11_93 stX11_within mwX11_within (Nat.le_of_ble_eq_true rfl) (k_within hR.em (by omega)) ?_
          refine r_if_ne (μ := mX11_lay) (pc := 36) (tgt := 42) dX11_lay_36 (by decide) (fun h_36 => ?_) (fun h_36 => ?_)
          · have h_36 := b2i_1 h_36
            have h1k : h = 1 ∧ inR k m = true := ⟨h_22, h_36⟩
            exact absurd ⟨h_5, Or.inr (Or.inr (Or.inl h1k))⟩ hb
          · have h_36 := b2i_0 h_36
            refine r_ldc (μ := mX11_lay) (pc := 39) dX11_lay_39 ctX11_97 ?_
            exact r_iret (μ := mX11_lay) (pc := 41) dX11_lay_41 rfl rfl (PI_i rfl)
      · refine r_ldc (μ := mX11_lay) (pc := 17) dX11_lay_17 ctX11_97 ?_
        exact r_iret (μ := mX11_lay) (pc := 19) dX11_lay_19 rfl rfl (PI_i rfl)

theorem k_lay0 {d : Nat} {sh : List Sh} {mi : MI} {mr : MR} (hF : SHC sh) (hB : CB mr) {s : Rw} {n m p q : Nat} (hR : RT sh mi mr 8 s n m p q) (hI : Inv s n m p q) {u : Nat} (hu : u < 5) {k : Int32} : CP (d + 1) mX11_lay [.ref 0, .int (nI u), .int 0, .int k] sh mi mr 0 0 (PX sh mr (fun r mi2 => r = mi 61 u ∧ mi2 = upI (upI mi 63 u k) 61 u 0)) := by
  have hn10 := hI.n10; have hm8 := hI.m8; have hp6 := hI.p6; have hq14 := hI.q14
  have hT := TB.of hF hB (Or.inl rfl)
  obtain ⟨hua, hup⟩ := sh_u hF hu; obtain ⟨hur, huq⟩ := cr_u hB hu
  refine CP.of (L := [_, _, _, _]) (by decide) rfl rfl (Nat.le_of_ble_eq_true rfl) ?_
  refine r_iload_n (μ := mX11_lay) (pc := 0) dX11_lay_0 rfl rfl ?_
  refine r_iconst (μ := mX11_lay) (pc := 1) (v := 5) dX11_lay_1 ic_5 ?_
  refine sP2 (μ := mX11_lay) (pc := 2) (μ2 := mX11_within) dX11_lay_2 lkX11_93 stX11_within mwX11_within (Nat.le_of_ble_eq_true rfl) (k_within (n := 5) rfl (by decide)) ?_
  rw [inR_B _ 4]
  refine r_if_eq (μ := mX11_lay) (pc := 5) (tgt := 17) dX11_lay_5 (by decide) (fun h_5 => absurd h_5 (b2i_ne (inB_nI (by omega) (by omega)))) (fun h_5 => ?_)
  refine r_iload_n (μ := mX11_lay) (pc := 8) dX11_lay_8 rfl rfl ?_
  refine r_if_lt (μ := mX11_lay) (pc := 9) (tgt := 17) dX11_lay_9 (by decide) (fun h_9 => absurd h_9 (by decide)) (fun h_9 => ?_)
  refine r_iload_n (μ := mX11_lay) (pc := 12) dX11_lay_12 rfl rfl ?_
  refine r_iconst (μ := mX11_lay) (pc := 13) (v := 3) dX11_lay_13 ic_3 ?_
  refine r_icmp_le (μ := mX11_lay) (pc := 14) (tgt := 20) dX11_lay_14 (by decide) (fun h_14 => ?_) (fun h_14 => absurd (by decide) h_14)
  refine r_iload_n (μ := mX11_lay) (pc := 20) dX11_lay_20 rfl rfl ?_
  refine r_iconst (μ := mX11_lay) (pc := 21) (v := 1) dX11_lay_21 ic_1 ?_
  refine r_icmp_ne (μ := mX11_lay) (pc := 22) (tgt := 42) dX11_lay_22 (by decide) (fun h_22 => ?_) (fun h_22 => absurd h_22 (by decide))
  refine r_iload_n (μ := mX11_lay) (pc := 42) dX11_lay_42 rfl rfl ?_
  refine r_iconst (μ := mX11_lay) (pc := 43) (v := 2) dX11_lay_43 ic_2 ?_
  refine r_icmp_ne (μ := mX11_lay) (pc := 44) (tgt := 58) dX11_lay_44 (by decide) (fun h_44 => ?_) (fun h_44 => absurd h_44 (by decide))
  refine r_iload_n (μ := mX11_lay) (pc := 58) dX11_lay_58 rfl rfl ?_
  refine r_iconst (μ := mX11_lay) (pc := 59) (v := 2) dX11_lay_59 ic_2 ?_
  refine r_icmp_ne (μ := mX11_lay) (pc := 60) (tgt := 80) dX11_lay_60 (by decide) (fun h_60 => ?_) (fun h_60 => absurd h_60 (by decide))
  refine r_iload_n (μ := mX11_lay) (pc := 80) dX11_lay_80 rfl rfl ?_
  refine r_iconst (μ := mX11_lay) (pc := 81) (v := 1) dX11_lay_81 ic_1 ?_
  refine r_icmp_ne (μ := mX11_lay) (pc := 82) (tgt := 118) dX11_lay_82 (by decide) (fun h_82 => ?_) (fun h_82 => absurd h_82 (by decide))
  refine r_iload_n (μ := mX11_lay) (pc := 118) dX11_lay_118 rfl rfl ?_
  refine r_iconst (μ := mX11_lay) (pc := 119) (v := 2) dX11_lay_119 ic_2 ?_
  refine r_icmp_ne (μ := mX11_lay) (pc := 120) (tgt := 141) dX11_lay_120 (by decide) (fun h_120 => ?_) (fun h_120 => absurd h_120 (by decide))
  refine r_aload_n (μ := mX11_lay) (pc := 141) dX11_lay_141 rfl rfl rfl ?_
  refine r_getR (μ := mX11_lay) (pc := 142) dX11_lay_142 fpX11_80 rfl (hF _ _ rfl) (by decide) (hB _ _ _ rfl) ?_
  refine r_iload_n (μ := mX11_lay) (pc := 145) dX11_lay_145 rfl rfl ?_
  refine r_iload_n (μ := mX11_lay) (pc := 146) dX11_lay_146 rfl rfl ?_
  refine r_iastore (μ := mX11_lay) (pc := 147) (j := u) dX11_lay_147 (hF _ _ rfl) rfl (by omega) (by decide) ?_
  refine r_aload_n (μ := mX11_lay) (pc := 148) dX11_lay_148 rfl rfl rfl ?_
  refine r_getR (μ := mX11_lay) (pc := 149) dX11_lay_149 fpX11_73 rfl (hF _ _ rfl) (by decide) (hB _ _ _ rfl) ?_
  refine r_iload_n (μ := mX11_lay) (pc := 152) dX11_lay_152 rfl rfl ?_
  refine r_iload_n (μ := mX11_lay) (pc := 153) dX11_lay_153 rfl rfl ?_
  refine sX3 (μ := mX11_lay) (pc := 154) (μ2 := mX11_exchange) dX11_lay_154 lkX11_119 stX11_exchange mwX11_exchange (Nat.le_of_ble_eq_true rfl) (k_exchange (hF 61 _ rfl) rfl hu (by decide)) (fun r_154 mi_154 h_154 => ?_)
  obtain ⟨rfl, rfl⟩ := h_154
  exact r_iret (μ := mX11_lay) (pc := 157) dX11_lay_157 rfl rfl (PX_i ⟨by rw [up_oth (by decide)], rfl⟩)

theorem k_lay3 {d : Nat} {sh : List Sh} {mi : MI} {mr : MR} (hF : SHC sh) (hB : CB mr) {s : Rw} {n m p q : Nat} (hR : RT sh mi mr 8 s n m p q) (hI : Inv s n m p q) {u : Nat} (hu : u < 5) {k : Int32} : CP (d + 1) mX11_lay [.ref 0, .int (nI u), .int 3, .int k] sh mi mr 0 0 (PX sh mr (fun r mi2 => r = mi 61 u ∧ mi2 = upI (upI mi 63 u k) 61 u 3)) := by
  have hn10 := hI.n10; have hm8 := hI.m8; have hp6 := hI.p6; have hq14 := hI.q14
  have hT := TB.of hF hB (Or.inl rfl)
  obtain ⟨hua, hup⟩ := sh_u hF hu; obtain ⟨hur, huq⟩ := cr_u hB hu
  refine CP.of (L := [_, _, _, _]) (by decide) rfl rfl (Nat.le_of_ble_eq_true rfl) ?_
  refine r_iload_n (μ := mX11_lay) (pc := 0) dX11_lay_0 rfl rfl ?_
  refine r_iconst (μ := mX11_lay) (pc := 1) (v := 5) dX11_lay_1 ic_5 ?_
  refine sP2 (μ := mX11_lay) (pc := 2) (μ2 := mX11_within) dX11_lay_2 lkX11_93 stX11_within mwX11_within (Nat.le_of_ble_eq_true rfl) (k_within (n := 5) rfl (by decide)) ?_
  rw [inR_B _ 4]
  refine r_if_eq (μ := mX11_lay) (pc := 5) (tgt := 17) dX11_lay_5 (by decide) (fun h_5 => absurd h_5 (b2i_ne (inB_nI (by omega) (by omega)))) (fun h_5 => ?_)
  refine r_iload_n (μ := mX11_lay) (pc := 8) dX11_lay_8 rfl rfl ?_
  refine r_if_lt (μ := mX11_lay) (pc := 9) (tgt := 17) dX11_lay_9 (by decide) (fun h_9 => absurd h_9 (by decide)) (fun h_9 => ?_)
  refine r_iload_n (μ := mX11_lay) (pc := 12) dX11_lay_12 rfl rfl ?_
  refine r_iconst (μ := mX11_lay) (pc := 13) (v := 3) dX11_lay_13 ic_3 ?_
  refine r_icmp_le (μ := mX11_lay) (pc := 14) (tgt := 20) dX11_lay_14 (by decide) (fun h_14 => ?_) (fun h_14 => absurd (by decide) h_14)
  refine r_iload_n (μ := mX11_lay) (pc := 20) dX11_lay_20 rfl rfl ?_
  refine r_iconst (μ := mX11_lay) (pc := 21) (v := 1) dX11_lay_21 ic_1 ?_
  refine r_icmp_ne (μ := mX11_lay) (pc := 22) (tgt := 42) dX11_lay_22 (by decide) (fun h_22 => ?_) (fun h_22 => absurd h_22 (by decide))
  refine r_iload_n (μ := mX11_lay) (pc := 42) dX11_lay_42 rfl rfl ?_
  refine r_iconst (μ := mX11_lay) (pc := 43) (v := 2) dX11_lay_43 ic_2 ?_
  refine r_icmp_ne (μ := mX11_lay) (pc := 44) (tgt := 58) dX11_lay_44 (by decide) (fun h_44 => ?_) (fun h_44 => absurd h_44 (by decide))
  refine r_iload_n (μ := mX11_lay) (pc := 58) dX11_lay_58 rfl rfl ?_
  refine r_iconst (μ := mX11_lay) (pc := 59) (v := 2) dX11_lay_59 ic_2 ?_
  refine r_icmp_ne (μ := mX11_lay) (pc := 60) (tgt := 80) dX11_lay_60 (by decide) (fun h_60 => ?_) (fun h_60 => absurd h_60 (by decide))
  refine r_iload_n (μ := mX11_lay) (pc := 80) dX11_lay_80 rfl rfl ?_
  refine r_iconst (μ := mX11_lay) (pc := 81) (v := 1) dX11_lay_81 ic_1 ?_
  refine r_icmp_ne (μ := mX11_lay) (pc := 82) (tgt := 118) dX11_lay_82 (by decide) (fun h_82 => ?_) (fun h_82 => absurd h_82 (by decide))
  refine r_iload_n (μ := mX11_lay) (pc := 118) dX11_lay_118 rfl rfl ?_
  refine r_iconst (μ := mX11_lay) (pc := 119) (v := 2) dX11_lay_119 ic_2 ?_
  refine r_icmp_ne (μ := mX11_lay) (pc := 120) (tgt := 141) dX11_lay_120 (by decide) (fun h_120 => ?_) (fun h_120 => absurd h_120 (by decide))
  refine r_aload_n (μ := mX11_lay) (pc := 141) dX11_lay_141 rfl rfl rfl ?_
  refine r_getR (μ := mX11_lay) (pc := 142) dX11_lay_142 fpX11_80 rfl (hF _ _ rfl) (by decide) (hB _ _ _ rfl) ?_
  refine r_iload_n (μ := mX11_lay) (pc := 145) dX11_lay_145 rfl rfl ?_
  refine r_iload_n (μ := mX11_lay) (pc := 146) dX11_lay_146 rfl rfl ?_
  refine r_iastore (μ := mX11_lay) (pc := 147) (j := u) dX11_lay_147 (hF _ _ rfl) rfl (by omega) (by decide) ?_
  refine r_aload_n (μ := mX11_lay) (pc := 148) dX11_lay_148 rfl rfl rfl ?_
  refine r_getR (μ := mX11_lay) (pc := 149) dX11_lay_149 fpX11_73 rfl (hF _ _ rfl) (by decide) (hB _ _ _ rfl) ?_
  refine r_iload_n (μ := mX11_lay) (pc := 152) dX11_lay_152 rfl rfl ?_
  refine r_iload_n (μ := mX11_lay) (pc := 153) dX11_lay_153 rfl rfl ?_
  refine sX3 (μ := mX11_lay) (pc := 154) (μ2 := mX11_exchange) dX11_lay_154 lkX11_119 stX11_exchange mwX11_exchange (Nat.le_of_ble_eq_true rfl) (k_exchange (hF 61 _ rfl) rfl hu (by decide)) (fun r_154 mi_154 h_154 => ?_)
  obtain ⟨rfl, rfl⟩ := h_154
  exact r_iret (μ := mX11_lay) (pc := 157) dX11_lay_157 rfl rfl (PX_i ⟨by rw [up_oth (by decide)], rfl⟩)

theorem k_lay1 {d : Nat} {sh : List Sh} {mi : MI} {mr : MR} (hF : SHC sh) (hB : CB mr) {s : Rw} {n m p q : Nat} (hR : RT sh mi mr 8 s n m p q) (hI : Inv s n m p q) {u : Nat} (hu : u < 5) {l : Nat} (hl : l < m) : CP (d + 1) mX11_lay [.ref 0, .int (nI u), .int 1, .int (nI l)] sh mi mr 0 0 (PX sh mr (fun r mi2 => r = mi 61 u ∧ mi2 = upI (upI (upI mi 62 u (knd s l)) 63 u (lng s l)) 61 u 1)) := by
  have hn10 := hI.n10; have hm8 := hI.m8; have hp6 := hI.p6; have hq14 := hI.q14
  have hT := TB.of hF hB (Or.inl rfl)
  obtain ⟨hua, hup⟩ := sh_u hF hu; obtain ⟨hur, huq⟩ := cr_u hB hu
  refine CP.of (L := [_, _, _, _]) (by decide) rfl rfl (Nat.le_of_ble_eq_true rfl) ?_
  refine r_iload_n (μ := mX11_lay) (pc := 0) dX11_lay_0 rfl rfl ?_
  refine r_iconst (μ := mX11_lay) (pc := 1) (v := 5) dX11_lay_1 ic_5 ?_
  refine sP2 (μ := mX11_lay) (pc := 2) (μ2 := mX11_within) dX11_lay_2 lkX11_93 stX11_within mwX11_within (Nat.le_of_ble_eq_true rfl) (k_within (n := 5) rfl (by decide)) ?_
  rw [inR_B _ 4]
  refine r_if_eq (μ := mX11_lay) (pc := 5) (tgt := 17) dX11_lay_5 (by decide) (fun h_5 => absurd h_5 (b2i_ne (inB_nI (by omega) (by omega)))) (fun h_5 => ?_)
  refine r_iload_n (μ := mX11_lay) (pc := 8) dX11_lay_8 rfl rfl ?_
  refine r_if_lt (μ := mX11_lay) (pc := 9) (tgt := 17) dX11_lay_9 (by decide) (fun h_9 => absurd h_9 (by decide)) (fun h_9 => ?_)
  refine r_iload_n (μ := mX11_lay) (pc := 12) dX11_lay_12 rfl rfl ?_
  refine r_iconst (μ := mX11_lay) (pc := 13) (v := 3) dX11_lay_13 ic_3 ?_
  refine r_icmp_le (μ := mX11_lay) (pc := 14) (tgt := 20) dX11_lay_14 (by decide) (fun h_14 => ?_) (fun h_14 => absurd (by decide) h_14)
  refine r_iload_n (μ := mX11_lay) (pc := 20) dX11_lay_20 rfl rfl ?_
  refine r_iconst (μ := mX11_lay) (pc := 21) (v := 1) dX11_lay_21 ic_1 ?_
  refine r_icmp_ne (μ := mX11_lay) (pc := 22) (tgt := 42) dX11_lay_22 (by decide) (fun h_22 => absurd rfl h_22) (fun h_22 => ?_)
  refine r_iload_n (μ := mX11_lay) (pc := 25) dX11_lay_25 rfl rfl ?_
  refine r_aload_n (μ := mX11_lay) (pc := 26) dX11_lay_26 rfl rfl rfl ?_
  refine r_getR (μ := mX11_lay) (pc := 27) dX11_lay_27 fpX11_36 rfl (hF _ _ rfl) (by decide) (hB _ _ _ rfl) ?_
  refine r_getI (μ := mX11_lay) (pc := 30) dX11_lay_30 fpX11_139 rfl (hF _ _ rfl) (by decide) ?_
  refine sP2 (μ := mX11_lay) (pc := 33) (μ2 := mX11_within) dX11_lay_33 lkX11_93 stX11_within mwX11_within (Nat.le_of_ble_eq_true rfl) (k_within hR.em (by omega)) ?_
  refine r_if_ne (μ := mX11_lay) (pc := 36) (tgt := 42) dX11_lay_36 (by decide) (fun h_36 => ?_) (fun h_36 => absurd h_36 (b2i_ne (inR_nI hl (by omega))))
  refine r_iload_n (μ := mX11_lay) (pc := 42) dX11_lay_42 rfl rfl ?_
  refine r_iconst (μ := mX11_lay) (pc := 43) (v := 2) dX11_lay_43 ic_2 ?_
  refine r_icmp_ne (μ := mX11_lay) (pc := 44) (tgt := 58) dX11_lay_44 (by decide) (fun h_44 => ?_) (fun h_44 => absurd h_44 (by decide))
  refine r_iload_n (μ := mX11_lay) (pc := 58) dX11_lay_58 rfl rfl ?_
  refine r_iconst (μ := mX11_lay) (pc := 59) (v := 2) dX11_lay_59 ic_2 ?_
  refine r_icmp_ne (μ := mX11_lay) (pc := 60) (tgt := 80) dX11_lay_60 (by decide) (fun h_60 => ?_) (fun h_60 => absurd h_60 (by decide))
  refine r_iload_n (μ := mX11_lay) (pc := 80) dX11_lay_80 rfl rfl ?_
  refine r_iconst (μ := mX11_lay) (pc := 81) (v := 1) dX11_lay_81 ic_1 ?_
  refine r_icmp_ne (μ := mX11_lay) (pc := 82) (tgt := 118) dX11_lay_82 (by decide) (fun h_82 => absurd rfl h_82) (fun h_82 => ?_)
  refine r_aload_n (μ := mX11_lay) (pc := 85) dX11_lay_85 rfl rfl rfl ?_
  refine r_getR (μ := mX11_lay) (pc := 86) dX11_lay_86 fpX11_77 rfl (hF _ _ rfl) (by decide) (hB _ _ _ rfl) ?_
  refine r_iload_n (μ := mX11_lay) (pc := 89) dX11_lay_89 rfl rfl ?_
  refine r_aload_n (μ := mX11_lay) (pc := 90) dX11_lay_90 rfl rfl rfl ?_
  refine r_getR (μ := mX11_lay) (pc := 91) dX11_lay_91 fpX11_36 rfl (hF _ _ rfl) (by decide) (hB _ _ _ rfl) ?_
  refine r_getR (μ := mX11_lay) (pc := 94) dX11_lay_94 fpX11_146 rfl (hF _ _ rfl) (by decide) (hB _ _ _ rfl) ?_
  refine r_iload_n (μ := mX11_lay) (pc := 97) dX11_lay_97 rfl rfl ?_
  refine r_iaload (μ := mX11_lay) (pc := 98) (j := l) dX11_lay_98 (hF _ _ rfl) rfl (by omega) (by decide) ?_
  rw [hR.kd hl]
  refine r_iastore (μ := mX11_lay) (pc := 99) (j := u) dX11_lay_99 (hF _ _ rfl) rfl (by omega) (by decide) ?_
  refine r_aload_n (μ := mX11_lay) (pc := 100) dX11_lay_100 rfl rfl rfl ?_
  refine r_getR (μ := mX11_lay) (pc := 101) dX11_lay_101 fpX11_80 rfl (hF _ _ rfl) (by decide) (hB _ _ _ rfl) ?_
  refine r_iload_n (μ := mX11_lay) (pc := 104) dX11_lay_104 rfl rfl ?_
  refine r_aload_n (μ := mX11_lay) (pc := 105) dX11_lay_105 rfl rfl rfl ?_
  refine r_getR (μ := mX11_lay) (pc := 106) dX11_lay_106 fpX11_36 rfl (hF _ _ rfl) (by decide) (hB _ _ _ rfl) ?_
  refine r_getR (μ := mX11_lay) (pc := 109) dX11_lay_109 fpX11_149 rfl (hF _ _ rfl) (by decide) (hB _ _ _ rfl) ?_
  refine r_iload_n (μ := mX11_lay) (pc := 112) dX11_lay_112 rfl rfl ?_
  refine r_iaload (μ := mX11_lay) (pc := 113) (j := l) dX11_lay_113 (hF _ _ rfl) rfl (by omega) (by decide) ?_
  rw [up_oth (by decide), hR.ln hl]
  refine r_iastore (μ := mX11_lay) (pc := 114) (j := u) dX11_lay_114 (hF _ _ rfl) rfl (by omega) (by decide) ?_
  refine r_goto (μ := mX11_lay) (pc := 115) (tgt := 148) dX11_lay_115 (by decide) ?_
  refine r_aload_n (μ := mX11_lay) (pc := 148) dX11_lay_148 rfl rfl rfl ?_
  refine r_getR (μ := mX11_lay) (pc := 149) dX11_lay_149 fpX11_73 rfl (hF _ _ rfl) (by decide) (hB _ _ _ rfl) ?_
  refine r_iload_n (μ := mX11_lay) (pc := 152) dX11_lay_152 rfl rfl ?_
  refine r_iload_n (μ := mX11_lay) (pc := 153) dX11_lay_153 rfl rfl ?_
  refine sX3 (μ := mX11_lay) (pc := 154) (μ2 := mX11_exchange) dX11_lay_154 lkX11_119 stX11_exchange mwX11_exchange (Nat.le_of_ble_eq_true rfl) (k_exchange (hF 61 _ rfl) rfl hu (by decide)) (fun r_154 mi_154 h_154 => ?_)
  obtain ⟨rfl, rfl⟩ := h_154
  exact r_iret (μ := mX11_lay) (pc := 157) dX11_lay_157 rfl rfl (PX_i ⟨by rw [up_oth (by decide), up_oth (by decide)], rfl⟩)

theorem k_lay_none {d : Nat} {sh : List Sh} {mi : MI} {mr : MR} (hF : SHC sh) (hB : CB mr) {s : Rw} {n m p q : Nat} (hR : RT sh mi mr 8 s n m p q) (hI : Inv s n m p q) {u : Nat} (hu : u < 5) {k : Nat} (hk : k < 4) (hs : mi (53 + 2 * k) 0 = -1) : CP (d + 1) mX11_lay [.ref 0, .int (nI u), .int 2, .int (nI k)] sh mi mr 0 0 (PI (NOTHINGc) sh mi mr) := by
  have hn10 := hI.n10; have hm8 := hI.m8; have hp6 := hI.p6; have hq14 := hI.q14
  have hT := TB.of hF hB (Or.inl rfl)
  obtain ⟨hua, hup⟩ := sh_u hF hu; obtain ⟨hur, huq⟩ := cr_u hB hu
  obtain ⟨hsa, hpa⟩ := sh_s hF hk; obtain ⟨hr52, hrp⟩ := cr_s hB hk
  refine CP.of (L := [_, _, _, _]) (by decide) rfl rfl (Nat.le_of_ble_eq_true rfl) ?_
  refine r_iload_n (μ := mX11_lay) (pc := 0) dX11_lay_0 rfl rfl ?_
  refine r_iconst (μ := mX11_lay) (pc := 1) (v := 5) dX11_lay_1 ic_5 ?_
  refine sP2 (μ := mX11_lay) (pc := 2) (μ2 := mX11_within) dX11_lay_2 lkX11_93 stX11_within mwX11_within (Nat.le_of_ble_eq_true rfl) (k_within (n := 5) rfl (by decide)) ?_
  rw [inR_B _ 4]
  refine r_if_eq (μ := mX11_lay) (pc := 5) (tgt := 17) dX11_lay_5 (by decide) (fun h_5 => absurd h_5 (b2i_ne (inB_nI (by omega) (by omega)))) (fun h_5 => ?_)
  refine r_iload_n (μ := mX11_lay) (pc := 8) dX11_lay_8 rfl rfl ?_
  refine r_if_lt (μ := mX11_lay) (pc := 9) (tgt := 17) dX11_lay_9 (by decide) (fun h_9 => absurd h_9 (by decide)) (fun h_9 => ?_)
  refine r_iload_n (μ := mX11_lay) (pc := 12) dX11_lay_12 rfl rfl ?_
  refine r_iconst (μ := mX11_lay) (pc := 13) (v := 3) dX11_lay_13 ic_3 ?_
  refine r_icmp_le (μ := mX11_lay) (pc := 14) (tgt := 20) dX11_lay_14 (by decide) (fun h_14 => ?_) (fun h_14 => absurd (by decide) h_14)
  refine r_iload_n (μ := mX11_lay) (pc := 20) dX11_lay_20 rfl rfl ?_
  refine r_iconst (μ := mX11_lay) (pc := 21) (v := 1) dX11_lay_21 ic_1 ?_
  refine r_icmp_ne (μ := mX11_lay) (pc := 22) (tgt := 42) dX11_lay_22 (by decide) (fun h_22 => ?_) (fun h_22 => absurd h_22 (by decide))
  refine r_iload_n (μ := mX11_lay) (pc := 42) dX11_lay_42 rfl rfl ?_
  refine r_iconst (μ := mX11_lay) (pc := 43) (v := 2) dX11_lay_43 ic_2 ?_
  refine r_icmp_ne (μ := mX11_lay) (pc := 44) (tgt := 58) dX11_lay_44 (by decide) (fun h_44 => absurd rfl h_44) (fun h_44 => ?_)
  refine r_iload_n (μ := mX11_lay) (pc := 47) dX11_lay_47 rfl rfl ?_
  refine r_iconst (μ := mX11_lay) (pc := 48) (v := 4) dX11_lay_48 ic_4 ?_
  refine sP2 (μ := mX11_lay) (pc := 49) (μ2 := mX11_within) dX11_lay_49 lkX11_93 stX11_within mwX11_within (Nat.le_of_ble_eq_true rfl) (k_within (n := 4) rfl (by decide)) ?_
  rw [inR_B _ 3]
  refine r_if_ne (μ := mX11_lay) (pc := 52) (tgt := 58) dX11_lay_52 (by decide) (fun h_52 => ?_) (fun h_52 => absurd h_52 (b2i_ne (inB_nI (by omega) (by omega))))
  refine r_iload_n (μ := mX11_lay) (pc := 58) dX11_lay_58 rfl rfl ?_
  refine r_iconst (μ := mX11_lay) (pc := 59) (v := 2) dX11_lay_59 ic_2 ?_
  refine r_icmp_ne (μ := mX11_lay) (pc := 60) (tgt := 80) dX11_lay_60 (by decide) (fun h_60 => absurd rfl h_60) (fun h_60 => ?_)
  refine r_aload_n (μ := mX11_lay) (pc := 63) dX11_lay_63 rfl rfl rfl ?_
  refine r_getR (μ := mX11_lay) (pc := 64) dX11_lay_64 fpX11_69 rfl (hF _ _ rfl) (by decide) (hB _ _ _ rfl) ?_
  refine r_iload_n (μ := mX11_lay) (pc := 67) dX11_lay_67 rfl rfl ?_
  refine r_aaload (μ := mX11_lay) (pc := 68) (t := 1) dX11_lay_68 (by decide) (hF _ _ rfl) rfl (by omega) (by decide) hr52 ?_
  refine r_getI (μ := mX11_lay) (pc := 69) dX11_lay_69 fpX11_299 rfl hsa (by decide) ?_
  refine r_iconst (μ := mX11_lay) (pc := 72) (v := -1) dX11_lay_72 ic_m1 ?_
  refine r_icmp_ne (μ := mX11_lay) (pc := 73) (tgt := 80) dX11_lay_73 (by decide) (fun h_73 => absurd hs h_73) (fun h_73 => ?_)
  refine r_ldcw (μ := mX11_lay) (pc := 76) dX11_lay_76 ctX11_302 ?_
  exact r_iret (μ := mX11_lay) (pc := 79) dX11_lay_79 rfl rfl (PI_i rfl)

theorem k_lay2 {d : Nat} {sh : List Sh} {mi : MI} {mr : MR} (hF : SHC sh) (hB : CB mr) {s : Rw} {n m p q : Nat} (hR : RT sh mi mr 8 s n m p q) (hI : Inv s n m p q) {u : Nat} (hu : u < 5) {k : Nat} (hk : k < 4) (hs : ¬ mi (53 + 2 * k) 0 = -1) : CP (d + 1) mX11_lay [.ref 0, .int (nI u), .int 2, .int (nI k)] sh mi mr 0 0 (PX sh mr (fun r mi2 => r = mi 61 u ∧ mi2 = upI (cpI (upI (upI mi (65 + 2 * u) 0 (mi (53 + 2 * k) 0)) (65 + 2 * u) 1 (mi (53 + 2 * k) 1)) (54 + 2 * k) (66 + 2 * u) 0 0 24) 61 u 2)) := by
  have hn10 := hI.n10; have hm8 := hI.m8; have hp6 := hI.p6; have hq14 := hI.q14
  have hT := TB.of hF hB (Or.inl rfl)
  obtain ⟨hua, hup⟩ := sh_u hF hu; obtain ⟨hur, huq⟩ := cr_u hB hu
  obtain ⟨hsa, hpa⟩ := sh_s hF hk; obtain ⟨hr52, hrp⟩ := cr_s hB hk
  refine CP.of (L := [_, _, _, _]) (by decide) rfl rfl (Nat.le_of_ble_eq_true rfl) ?_
  refine r_iload_n (μ := mX11_lay) (pc := 0) dX11_lay_0 rfl rfl ?_
  refine r_iconst (μ := mX11_lay) (pc := 1) (v := 5) dX11_lay_1 ic_5 ?_
  refine sP2 (μ := mX11_lay) (pc := 2) (μ2 := mX11_within) dX11_lay_2 lkX11_93 stX11_within mwX11_within (Nat.le_of_ble_eq_true rfl) (k_within (n := 5) rfl (by decide)) ?_
  rw [inR_B _ 4]
  refine r_if_eq (μ := mX11_lay) (pc := 5) (tgt := 17) dX11_lay_5 (by decide) (fun h_5 => absurd h_5 (b2i_ne (inB_nI (by omega) (by omega)))) (fun h_5 => ?_)
  refine r_iload_n (μ := mX11_lay) (pc := 8) dX11_lay_8 rfl rfl ?_
  refine r_if_lt (μ := mX11_lay) (pc := 9) (tgt := 17) dX11_lay_9 (by decide) (fun h_9 => absurd h_9 (by decide)) (fun h_9 => ?_)
  refine r_iload_n (μ := mX11_lay) (pc := 12) dX11_lay_12 rfl rfl ?_
  refine r_iconst (μ := mX11_lay) (pc := 13) (v := 3) dX11_lay_13 ic_3 ?_
  refine r_icmp_le (μ := mX11_lay) (pc := 14) (tgt := 20) dX11_lay_14 (by decide) (fun h_14 => ?_) (fun h_14 => absurd (by decide) h_14)
  refine r_iload_n (μ := mX11_lay) (pc := 20) dX11_lay_20 rfl rfl ?_
  refine r_iconst (μ := mX11_lay) (pc := 21) (v := 1) dX11_lay_21 ic_1 ?_
  refine r_icmp_ne (μ := mX11_lay) (pc := 22) (tgt := 42) dX11_lay_22 (by decide) (fun h_22 => ?_) (fun h_22 => absurd h_22 (by decide))
  refine r_iload_n (μ := mX11_lay) (pc := 42) dX11_lay_42 rfl rfl ?_
  refine r_iconst (μ := mX11_lay) (pc := 43) (v := 2) dX11_lay_43 ic_2 ?_
  refine r_icmp_ne (μ := mX11_lay) (pc := 44) (tgt := 58) dX11_lay_44 (by decide) (fun h_44 => absurd rfl h_44) (fun h_44 => ?_)
  refine r_iload_n (μ := mX11_lay) (pc := 47) dX11_lay_47 rfl rfl ?_
  refine r_iconst (μ := mX11_lay) (pc := 48) (v := 4) dX11_lay_48 ic_4 ?_
  refine sP2 (μ := mX11_lay) (pc := 49) (μ2 := mX11_within) dX11_lay_49 lkX11_93 stX11_within mwX11_within (Nat.le_of_ble_eq_true rfl) (k_within (n := 4) rfl (by decide)) ?_
  rw [inR_B _ 3]
  refine r_if_ne (μ := mX11_lay) (pc := 52) (tgt := 58) dX11_lay_52 (by decide) (fun h_52 => ?_) (fun h_52 => absurd h_52 (b2i_ne (inB_nI (by omega) (by omega))))
  refine r_iload_n (μ := mX11_lay) (pc := 58) dX11_lay_58 rfl rfl ?_
  refine r_iconst (μ := mX11_lay) (pc := 59) (v := 2) dX11_lay_59 ic_2 ?_
  refine r_icmp_ne (μ := mX11_lay) (pc := 60) (tgt := 80) dX11_lay_60 (by decide) (fun h_60 => absurd rfl h_60) (fun h_60 => ?_)
  refine r_aload_n (μ := mX11_lay) (pc := 63) dX11_lay_63 rfl rfl rfl ?_
  refine r_getR (μ := mX11_lay) (pc := 64) dX11_lay_64 fpX11_69 rfl (hF _ _ rfl) (by decide) (hB _ _ _ rfl) ?_
  refine r_iload_n (μ := mX11_lay) (pc := 67) dX11_lay_67 rfl rfl ?_
  refine r_aaload (μ := mX11_lay) (pc := 68) (t := 1) dX11_lay_68 (by decide) (hF _ _ rfl) rfl (by omega) (by decide) hr52 ?_
  refine r_getI (μ := mX11_lay) (pc := 69) dX11_lay_69 fpX11_299 rfl hsa (by decide) ?_
  refine r_iconst (μ := mX11_lay) (pc := 72) (v := -1) dX11_lay_72 ic_m1 ?_
  refine r_icmp_ne (μ := mX11_lay) (pc := 73) (tgt := 80) dX11_lay_73 (by decide) (fun h_73 => ?_) (fun h_73 => absurd h_73 hs)
  refine r_iload_n (μ := mX11_lay) (pc := 80) dX11_lay_80 rfl rfl ?_
  refine r_iconst (μ := mX11_lay) (pc := 81) (v := 1) dX11_lay_81 ic_1 ?_
  refine r_icmp_ne (μ := mX11_lay) (pc := 82) (tgt := 118) dX11_lay_82 (by decide) (fun h_82 => ?_) (fun h_82 => absurd h_82 (by decide))
  refine r_iload_n (μ := mX11_lay) (pc := 118) dX11_lay_118 rfl rfl ?_
  refine r_iconst (μ := mX11_lay) (pc := 119) (v := 2) dX11_lay_119 ic_2 ?_
  refine r_icmp_ne (μ := mX11_lay) (pc := 120) (tgt := 141) dX11_lay_120 (by decide) (fun h_120 => absurd rfl h_120) (fun h_120 => ?_)
  refine r_aload_n (μ := mX11_lay) (pc := 123) dX11_lay_123 rfl rfl rfl ?_
  refine r_getR (μ := mX11_lay) (pc := 124) dX11_lay_124 fpX11_83 rfl (hF _ _ rfl) (by decide) (hB _ _ _ rfl) ?_
  refine r_iload_n (μ := mX11_lay) (pc := 127) dX11_lay_127 rfl rfl ?_
  refine r_aaload (μ := mX11_lay) (pc := 128) (t := 1) dX11_lay_128 (by decide) (hF _ _ rfl) rfl (by omega) (by decide) hur ?_
  refine r_aload_n (μ := mX11_lay) (pc := 129) dX11_lay_129 rfl rfl rfl ?_
  refine r_getR (μ := mX11_lay) (pc := 130) dX11_lay_130 fpX11_69 rfl (hF _ _ rfl) (by decide) (hB _ _ _ rfl) ?_
  refine r_iload_n (μ := mX11_lay) (pc := 133) dX11_lay_133 rfl rfl ?_
  refine r_aaload (μ := mX11_lay) (pc := 134) (t := 1) dX11_lay_134 (by decide) (hF _ _ rfl) rfl (by omega) (by decide) hr52 ?_
  refine vV1 (μ := mX11_lay) (pc := 135) (c0 := 7) (q0 := (RX7, TX7, 3)) (μ2 := mX7_becomeAs) dX11_lay_135 hua rfl lkX11_328 imX7_becomeAs seX7_X7_becomeAs_X7_becomeAs mwX7_becomeAs (Nat.le_of_ble_eq_true rfl) (k_shBecomeAs hua hup huq hsa hpa hrp (by omega)) (fun mi_135 h_135 => ?_)
  subst h_135
  refine r_goto (μ := mX11_lay) (pc := 138) (tgt := 148) dX11_lay_138 (by decide) ?_
  refine r_aload_n (μ := mX11_lay) (pc := 148) dX11_lay_148 rfl rfl rfl ?_
  refine r_getR (μ := mX11_lay) (pc := 149) dX11_lay_149 fpX11_73 rfl (hF _ _ rfl) (by decide) (hB _ _ _ rfl) ?_
  refine r_iload_n (μ := mX11_lay) (pc := 152) dX11_lay_152 rfl rfl ?_
  refine r_iload_n (μ := mX11_lay) (pc := 153) dX11_lay_153 rfl rfl ?_
  refine sX3 (μ := mX11_lay) (pc := 154) (μ2 := mX11_exchange) dX11_lay_154 lkX11_119 stX11_exchange mwX11_exchange (Nat.le_of_ble_eq_true rfl) (k_exchange (hF 61 _ rfl) rfl hu (by decide)) (fun r_154 mi_154 h_154 => ?_)
  obtain ⟨rfl, rfl⟩ := h_154
  exact r_iret (μ := mX11_lay) (pc := 157) dX11_lay_157 rfl rfl (PX_i ⟨by rw [cpI_ne (by omega), upI_ne (by omega), upI_ne (by omega)], rfl⟩)

theorem k_findingOf {d : Nat} {sh : List Sh} {mi : MI} {mr : MR} (hF : SHC sh) (hB : CB mr) {u : Nat} (hu : u < 5) {h : Int32} : CP (d) mX11_findingOf [.ref 0, .int (nI u), .int h] sh mi mr 0 0 (PI (if mi 61 u = 0 then NOTHINGc else if mi 61 u = h then 0 else KINDc) sh mi mr) := by
  refine CP.of (L := [_, _, _]) (by decide) rfl rfl (Nat.le_of_ble_eq_true rfl) ?_
  refine r_aload_n (μ := mX11_findingOf) (pc := 0) dX11_findingOf_0 rfl rfl rfl ?_
  refine r_getR (μ := mX11_findingOf) (pc := 1) dX11_findingOf_1 fpX11_73 rfl (hF _ _ rfl) (by decide) (hB _ _ _ rfl) ?_
  refine r_iload_n (μ := mX11_findingOf) (pc := 4) dX11_findingOf_4 rfl rfl ?_
  refine r_iaload (μ := mX11_findingOf) (pc := 5) (j := u) dX11_findingOf_5 (hF _ _ rfl) rfl (by omega) (by decide) ?_
  refine r_if_ne (μ := mX11_findingOf) (pc := 6) (tgt := 13) dX11_findingOf_6 (by decide) (fun h_6 => ?_) (fun h_6 => ?_)
  · refine r_aload_n (μ := mX11_findingOf) (pc := 13) dX11_findingOf_13 rfl rfl rfl ?_
    refine r_getR (μ := mX11_findingOf) (pc := 14) dX11_findingOf_14 fpX11_73 rfl (hF _ _ rfl) (by decide) (hB _ _ _ rfl) ?_
    refine r_iload_n (μ := mX11_findingOf) (pc := 17) dX11_findingOf_17 rfl rfl ?_
    refine r_iaload (μ := mX11_findingOf) (pc := 18) (j := u) dX11_findingOf_18 (hF _ _ rfl) rfl (by omega) (by decide) ?_
    refine r_iload_n (μ := mX11_findingOf) (pc := 19) dX11_findingOf_19 rfl rfl ?_
    refine r_icmp_ne (μ := mX11_findingOf) (pc := 20) (tgt := 27) dX11_findingOf_20 (by decide) (fun h_20 => ?_) (fun h_20 => ?_)
    · refine r_ldc (μ := mX11_findingOf) (pc := 27) dX11_findingOf_27 ctX11_182 ?_
      exact r_iret (μ := mX11_findingOf) (pc := 29) dX11_findingOf_29 rfl rfl (PI_i (by first | (rw [if_pos h_6]; rfl) | (rw [if_neg h_6, if_pos h_20]) | (rw [if_neg h_6, if_neg h_20]; rfl)))
    · refine r_iconst (μ := mX11_findingOf) (pc := 23) (v := 0) dX11_findingOf_23 ic_0 ?_
      refine r_goto (μ := mX11_findingOf) (pc := 24) (tgt := 29) dX11_findingOf_24 (by decide) ?_
      exact r_iret (μ := mX11_findingOf) (pc := 29) dX11_findingOf_29 rfl rfl (PI_i (by first | (rw [if_pos h_6]; rfl) | (rw [if_neg h_6, if_pos h_20]) | (rw [if_neg h_6, if_neg h_20]; rfl)))
  · refine r_ldcw (μ := mX11_findingOf) (pc := 9) dX11_findingOf_9 ctX11_302 ?_
    exact r_iret (μ := mX11_findingOf) (pc := 12) dX11_findingOf_12 rfl rfl (PI_i (by first | (rw [if_pos h_6]; rfl) | (rw [if_neg h_6, if_pos h_20]) | (rw [if_neg h_6, if_neg h_20]; rfl)))

theorem k_ask_bad {d : Nat} {sh : List Sh} {mi : MI} {mr : MR} (hF : SHC sh) (hB : CB mr) {x w : Int32} (hb : ¬ (inB x 0 4 = true ∧ inB w 0 5 = true)) : CP (d + 1) mX11_ask [.ref 0, .int x, .int w] sh mi mr 0 0 (PI (BADc) sh mi mr) := by
  refine CP.of (L := [_, _, _, _, _]) (by decide) rfl rfl (Nat.le_of_ble_eq_true rfl) ?_
  refine r_iload_n (μ := mX11_ask) (pc := 0) dX11_ask_0 rfl rfl ?_
  refine r_iconst (μ := mX11_ask) (pc := 1) (v := 5) dX11_ask_1 ic_5 ?_
  refine sP2 (μ := mX11_ask) (pc := 2) (μ2 := mX11_within) dX11_ask_2 lkX11_93 stX11_within mwX11_within (Nat.le_of_ble_eq_true rfl) (k_within (n := 5) rfl (by decide)) ?_
  rw [inR_B _ 4]
  refine r_if_eq (μ := mX11_ask) (pc := 5) (tgt := 17) dX11_ask_5 (by decide) (fun h_5 => ?_) (fun h_5 => ?_)
  · have h_5 := b2i_0 h_5
    refine r_ldc (μ := mX11_ask) (pc := 17) dX11_ask_17 ctX11_97 ?_
    exact r_iret (μ := mX11_ask) (pc := 19) dX11_ask_19 rfl rfl (PI_i rfl)
  · have h_5 := b2i_1 h_5
    refine r_iload_n (μ := mX11_ask) (pc := 8) dX11_ask_8 rfl rfl ?_
    refine r_bipush (μ := mX11_ask) (pc := 9) (v := 6) dX11_ask_9 bp_6 ?_
    refine sP2 (μ := mX11_ask) (pc := 11) (μ2 := mX11_within) dX11_ask_11 lkX11_93 stX11_within mwX11_within (Nat.le_of_ble_eq_true rfl) (k_within (n := 6) rfl (by decide)) ?_
    rw [inR_B _ 5]
    refine r_if_ne (μ := mX11_ask) (pc := 14) (tgt := 20) dX11_ask_14 (by decide) (fun h_14 => ?_) (fun h_14 => ?_)
    · have h_14 := b2i_1 h_14
      exact absurd ⟨h_5, h_14⟩ hb
    · have h_14 := b2i_0 h_14
      refine r_ldc (μ := mX11_ask) (pc := 17) dX11_ask_17 ctX11_97 ?_
      exact r_iret (μ := mX11_ask) (pc := 19) dX11_ask_19 rfl rfl (PI_i rfl)

theorem k_ask {d : Nat} {sh : List Sh} {mi : MI} {mr : MR} (hF : SHC sh) (hB : CB mr) {u : Nat} (hu : u < 5) {w : Int32} (hw : inB w 0 5 = true) (hk6 : mi 61 u = 1 → ∃ kk, kk < 6 ∧ mi 62 u = nI kk) : CP (d + 3) mX11_ask [.ref 0, .int (nI u), .int w] sh mi mr 0 0 (PI (if mi 61 u = 0 then NOTHINGc else if mi 61 u = 1 then (if isOfB (mi 62 u) w = true then wthK (mi 62 u) (mi 63 u) else KINDc) else KINDc) sh mi mr) := by
  have hK := KB.of hF hB
  refine CP.of (L := [_, _, _, _, _]) (by decide) rfl rfl (Nat.le_of_ble_eq_true rfl) ?_
  refine r_iload_n (μ := mX11_ask) (pc := 0) dX11_ask_0 rfl rfl ?_
  refine r_iconst (μ := mX11_ask) (pc := 1) (v := 5) dX11_ask_1 ic_5 ?_
  refine sP2 (μ := mX11_ask) (pc := 2) (μ2 := mX11_within) dX11_ask_2 lkX11_93 stX11_within mwX11_within (Nat.le_of_ble_eq_true rfl) (k_within (n := 5) rfl (by decide)) ?_
  rw [inR_B _ 4]
  refine r_if_eq (μ := mX11_ask) (pc := 5) (tgt := 17) dX11_ask_5 (by decide) (fun h_5 => absurd h_5 (b2i_ne (inB_nI (by omega) (by omega)))) (fun h_5 => ?_)
  refine r_iload_n (μ := mX11_ask) (pc := 8) dX11_ask_8 rfl rfl ?_
  refine r_bipush (μ := mX11_ask) (pc := 9) (v := 6) dX11_ask_9 bp_6 ?_
  refine sP2 (μ := mX11_ask) (pc := 11) (μ2 := mX11_within) dX11_ask_11 lkX11_93 stX11_within mwX11_within (Nat.le_of_ble_eq_true rfl) (k_within (n := 6) rfl (by decide)) ?_
  rw [inR_B _ 5]
  refine r_if_ne (μ := mX11_ask) (pc := 14) (tgt := 20) dX11_ask_14 (by decide) (fun h_14 => ?_) (fun h_14 => absurd h_14 (b2i_ne hw))
  refine r_aload_n (μ := mX11_ask) (pc := 20) dX11_ask_20 rfl rfl rfl ?_
  refine r_iload_n (μ := mX11_ask) (pc := 21) dX11_ask_21 rfl rfl ?_
  refine r_iconst (μ := mX11_ask) (pc := 22) (v := 1) dX11_ask_22 ic_1 ?_
  refine vP2 (μ := mX11_ask) (pc := 23) (c0 := 11) (q0 := (RX11, TX11, 14)) (μ2 := mX11_findingOf) dX11_ask_23 (hF _ _ rfl) rfl lkX11_332 imX11_findingOf seX11_X11_findingOf_X11_findingOf mwX11_findingOf (Nat.le_of_ble_eq_true rfl) (k_findingOf hF hB hu) ?_
  refine s_istore_n (μ := mX11_ask) (pc := 26) (L2 := [_, _, _, _, _]) dX11_ask_26 rfl (Nat.le_of_ble_eq_true rfl) (Nat.le_of_ble_eq_true rfl) rfl rfl ?_
  refine r_iload_n (μ := mX11_ask) (pc := 27) dX11_ask_27 rfl rfl ?_
  refine r_if_eq (μ := mX11_ask) (pc := 28) (tgt := 33) dX11_ask_28 (by decide) (fun h_28 => ?_) (fun h_28 => ?_)
  · have h61 : mi 61 u = 1 := by by_cases z0 : mi 61 u = 0; (· rw [if_pos z0] at h_28; exact absurd h_28 (by decide)); (· rw [if_neg z0] at h_28; by_cases z1 : mi 61 u = 1; (· exact z1); (· rw [if_neg z1] at h_28; exact absurd h_28 (by decide)))
    obtain ⟨kk, hkk, ek⟩ := hk6 h61
    refine r_aload_n (μ := mX11_ask) (pc := 33) dX11_ask_33 rfl rfl rfl ?_
    refine r_getR (μ := mX11_ask) (pc := 34) dX11_ask_34 fpX11_25 rfl (hF _ _ rfl) (by decide) (hB _ _ _ rfl) ?_
    refine r_aload_n (μ := mX11_ask) (pc := 37) dX11_ask_37 rfl rfl rfl ?_
    refine r_getR (μ := mX11_ask) (pc := 38) dX11_ask_38 fpX11_77 rfl (hF _ _ rfl) (by decide) (hB _ _ _ rfl) ?_
    refine r_iload_n (μ := mX11_ask) (pc := 41) dX11_ask_41 rfl rfl ?_
    refine r_iaload (μ := mX11_ask) (pc := 42) (j := u) dX11_ask_42 (hF _ _ rfl) rfl (by omega) (by decide) ?_
    rw [ek]
    refine r_aaload (μ := mX11_ask) (pc := 43) (t := 0) dX11_ask_43 (by decide) (hF _ _ rfl) rfl hkk (by decide) (hK.2.1 _ hkk) ?_
    refine s_astore (μ := mX11_ask) (pc := 44) (L2 := [_, _, _, _, _]) dX11_ask_44 (Nat.le_of_ble_eq_true rfl) (Nat.le_of_ble_eq_true rfl) rfl rfl ?_
    refine r_aload (μ := mX11_ask) (pc := 46) dX11_ask_46 rfl rfl ?_
    refine r_iload_n (μ := mX11_ask) (pc := 48) dX11_ask_48 rfl rfl ?_
    refine kv_isKind (μ := mX11_ask) (pc := 49) dX11_ask_49 lkX11_179 hK hkk hw (Nat.le_of_ble_eq_true rfl) ?_
    refine r_if_eq (μ := mX11_ask) (pc := 52) (tgt := 69) dX11_ask_52 (by decide) (fun h_52 => ?_) (fun h_52 => ?_)
    · have h_52 := b2i_0 h_52
      refine r_ldc (μ := mX11_ask) (pc := 69) dX11_ask_69 ctX11_182 ?_
      exact r_iret (μ := mX11_ask) (pc := 71) dX11_ask_71 rfl rfl (PI_i (by rw [h61, if_neg (by decide), if_pos rfl, h_52]; rfl))
    · have h_52 := b2i_1 h_52
      refine r_aload (μ := mX11_ask) (pc := 55) dX11_ask_55 rfl rfl ?_
      refine r_aload_n (μ := mX11_ask) (pc := 57) dX11_ask_57 rfl rfl rfl ?_
      refine r_getR (μ := mX11_ask) (pc := 58) dX11_ask_58 fpX11_80 rfl (hF _ _ rfl) (by decide) (hB _ _ _ rfl) ?_
      refine r_iload_n (μ := mX11_ask) (pc := 61) dX11_ask_61 rfl rfl ?_
      refine r_iaload (μ := mX11_ask) (pc := 62) (j := u) dX11_ask_62 (hF _ _ rfl) rfl (by omega) (by decide) ?_
      refine kv_worth (μ := mX11_ask) (pc := 63) dX11_ask_63 lkX11_173 hK hkk (Nat.le_of_ble_eq_true rfl) ?_
      refine r_goto (μ := mX11_ask) (pc := 66) (tgt := 71) dX11_ask_66 (by decide) ?_
      exact r_iret (μ := mX11_ask) (pc := 71) dX11_ask_71 rfl rfl (PI_i (by rw [h61, if_neg (by decide), if_pos rfl, h_52]; rfl))
  · refine r_iload_n (μ := mX11_ask) (pc := 31) dX11_ask_31 rfl rfl ?_
    exact r_iret (μ := mX11_ask) (pc := 32) dX11_ask_32 rfl rfl (PI_i (by by_cases z0 : mi 61 u = 0; (· rw [if_pos z0, if_pos z0]); (· rw [if_neg z0, if_neg z0]; by_cases z1 : mi 61 u = 1; (· rw [if_neg z0, if_pos z1] at h_28; exact absurd rfl h_28); (· rw [if_neg z1, if_neg z1]))))

theorem k_item_bad {d : Nat} {sh : List Sh} {mi : MI} {mr : MR} (hF : SHC sh) (hB : CB mr) {x w : Int32} (hb : ¬ inB x 0 4 = true) : CP (d + 1) mX11_item [.ref 0, .int x, .int w] sh mi mr 0 0 (PI (BADc) sh mi mr) := by
  refine CP.of (L := [_, _, _, _, _]) (by decide) rfl rfl (Nat.le_of_ble_eq_true rfl) ?_
  refine r_iload_n (μ := mX11_item) (pc := 0) dX11_item_0 rfl rfl ?_
  refine r_iconst (μ := mX11_item) (pc := 1) (v := 5) dX11_item_1 ic_5 ?_
  refine sP2 (μ := mX11_item) (pc := 2) (μ2 := mX11_within) dX11_item_2 lkX11_93 stX11_within mwX11_within (Nat.le_of_ble_eq_true rfl) (k_within (n := 5) rfl (by decide)) ?_
  rw [inR_B _ 4]
  refine r_if_ne (μ := mX11_item) (pc := 5) (tgt := 11) dX11_item_5 (by decide) (fun h_5 => ?_) (fun h_5 => ?_)
  · have h_5 := b2i_1 h_5
    exact absurd h_5 hb
  · have h_5 := b2i_0 h_5
    refine r_ldc (μ := mX11_item) (pc := 8) dX11_item_8 ctX11_97 ?_
    exact r_iret (μ := mX11_item) (pc := 10) dX11_item_10 rfl rfl (PI_i rfl)

theorem k_item_no {d : Nat} {sh : List Sh} {mi : MI} {mr : MR} (hF : SHC sh) (hB : CB mr) {u : Nat} (hu : u < 5) {w : Int32} (h7 : ¬ mi 61 u = 2) : CP (d + 1) mX11_item [.ref 0, .int (nI u), .int w] sh mi mr 0 0 (PI (if mi 61 u = 0 then NOTHINGc else KINDc) sh mi mr) := by
  refine CP.of (L := [_, _, _, _, _]) (by decide) rfl rfl (Nat.le_of_ble_eq_true rfl) ?_
  refine r_iload_n (μ := mX11_item) (pc := 0) dX11_item_0 rfl rfl ?_
  refine r_iconst (μ := mX11_item) (pc := 1) (v := 5) dX11_item_1 ic_5 ?_
  refine sP2 (μ := mX11_item) (pc := 2) (μ2 := mX11_within) dX11_item_2 lkX11_93 stX11_within mwX11_within (Nat.le_of_ble_eq_true rfl) (k_within (n := 5) rfl (by decide)) ?_
  rw [inR_B _ 4]
  refine r_if_ne (μ := mX11_item) (pc := 5) (tgt := 11) dX11_item_5 (by decide) (fun h_5 => ?_) (fun h_5 => absurd h_5 (b2i_ne (inB_nI (by omega) (by omega))))
  refine r_aload_n (μ := mX11_item) (pc := 11) dX11_item_11 rfl rfl rfl ?_
  refine r_iload_n (μ := mX11_item) (pc := 12) dX11_item_12 rfl rfl ?_
  refine r_iconst (μ := mX11_item) (pc := 13) (v := 2) dX11_item_13 ic_2 ?_
  refine vP2 (μ := mX11_item) (pc := 14) (c0 := 11) (q0 := (RX11, TX11, 14)) (μ2 := mX11_findingOf) dX11_item_14 (hF _ _ rfl) rfl lkX11_332 imX11_findingOf seX11_X11_findingOf_X11_findingOf mwX11_findingOf (Nat.le_of_ble_eq_true rfl) (k_findingOf hF hB hu) ?_
  refine s_istore_n (μ := mX11_item) (pc := 17) (L2 := [_, _, _, _, _]) dX11_item_17 rfl (Nat.le_of_ble_eq_true rfl) (Nat.le_of_ble_eq_true rfl) rfl rfl ?_
  refine r_iload_n (μ := mX11_item) (pc := 18) dX11_item_18 rfl rfl ?_
  refine r_if_eq (μ := mX11_item) (pc := 19) (tgt := 24) dX11_item_19 (by decide) (fun h_19 => absurd h_19 (by by_cases z0 : mi 61 u = 0; (· rw [if_pos z0]; decide); (· rw [if_neg z0, if_neg h7]; decide))) (fun h_19 => ?_)
  refine r_iload_n (μ := mX11_item) (pc := 22) dX11_item_22 rfl rfl ?_
  exact r_iret (μ := mX11_item) (pc := 23) dX11_item_23 rfl rfl (PI_i (by by_cases z0 : mi 61 u = 0; (· rw [if_pos z0, if_pos z0]); (· rw [if_neg z0, if_neg z0, if_neg h7])))

theorem k_item_ix {d : Nat} {sh : List Sh} {mi : MI} {mr : MR} (hF : SHC sh) (hB : CB mr) {u : Nat} (hu : u < 5) {z : Nat} (h7 : mi 61 u = 2) (hz : mi (65 + 2 * u) 1 = nI z) (hz24 : z ≤ 24) {x : Int32} (hx : inR x z = false) : CP (d + 1) mX11_item [.ref 0, .int (nI u), .int x] sh mi mr 0 0 (PI (INDEXc) sh mi mr) := by
  obtain ⟨hua, hup⟩ := sh_u hF hu; obtain ⟨hur, huq⟩ := cr_u hB hu
  refine CP.of (L := [_, _, _, _, _]) (by decide) rfl rfl (Nat.le_of_ble_eq_true rfl) ?_
  refine r_iload_n (μ := mX11_item) (pc := 0) dX11_item_0 rfl rfl ?_
  refine r_iconst (μ := mX11_item) (pc := 1) (v := 5) dX11_item_1 ic_5 ?_
  refine sP2 (μ := mX11_item) (pc := 2) (μ2 := mX11_within) dX11_item_2 lkX11_93 stX11_within mwX11_within (Nat.le_of_ble_eq_true rfl) (k_within (n := 5) rfl (by decide)) ?_
  rw [inR_B _ 4]
  refine r_if_ne (μ := mX11_item) (pc := 5) (tgt := 11) dX11_item_5 (by decide) (fun h_5 => ?_) (fun h_5 => absurd h_5 (b2i_ne (inB_nI (by omega) (by omega))))
  refine r_aload_n (μ := mX11_item) (pc := 11) dX11_item_11 rfl rfl rfl ?_
  refine r_iload_n (μ := mX11_item) (pc := 12) dX11_item_12 rfl rfl ?_
  refine r_iconst (μ := mX11_item) (pc := 13) (v := 2) dX11_item_13 ic_2 ?_
  refine vP2 (μ := mX11_item) (pc := 14) (c0 := 11) (q0 := (RX11, TX11, 14)) (μ2 := mX11_findingOf) dX11_item_14 (hF _ _ rfl) rfl lkX11_332 imX11_findingOf seX11_X11_findingOf_X11_findingOf mwX11_findingOf (Nat.le_of_ble_eq_true rfl) (k_findingOf hF hB hu) ?_
  refine s_istore_n (μ := mX11_item) (pc := 17) (L2 := [_, _, _, _, _]) dX11_item_17 rfl (Nat.le_of_ble_eq_true rfl) (Nat.le_of_ble_eq_true rfl) rfl rfl ?_
  refine r_iload_n (μ := mX11_item) (pc := 18) dX11_item_18 rfl rfl ?_
  refine r_if_eq (μ := mX11_item) (pc := 19) (tgt := 24) dX11_item_19 (by decide) (fun h_19 => ?_) (fun h_19 => absurd (by rw [h7]; decide) h_19)
  refine r_aload_n (μ := mX11_item) (pc := 24) dX11_item_24 rfl rfl rfl ?_
  refine r_getR (μ := mX11_item) (pc := 25) dX11_item_25 fpX11_83 rfl (hF _ _ rfl) (by decide) (hB _ _ _ rfl) ?_
  refine r_iload_n (μ := mX11_item) (pc := 28) dX11_item_28 rfl rfl ?_
  refine r_aaload (μ := mX11_item) (pc := 29) (t := 1) dX11_item_29 (by decide) (hF _ _ rfl) rfl (by omega) (by decide) hur ?_
  refine s_astore (μ := mX11_item) (pc := 30) (L2 := [_, _, _, _, _]) dX11_item_30 (Nat.le_of_ble_eq_true rfl) (Nat.le_of_ble_eq_true rfl) rfl rfl ?_
  refine r_iload_n (μ := mX11_item) (pc := 32) dX11_item_32 rfl rfl ?_
  refine r_aload (μ := mX11_item) (pc := 33) dX11_item_33 rfl rfl ?_
  refine r_getI (μ := mX11_item) (pc := 35) dX11_item_35 fpX11_303 rfl hua (by decide) ?_
  refine sP2 (μ := mX11_item) (pc := 38) (μ2 := mX11_within) dX11_item_38 lkX11_93 stX11_within mwX11_within (Nat.le_of_ble_eq_true rfl) (k_within hz (by omega)) ?_
  refine r_if_ne (μ := mX11_item) (pc := 41) (tgt := 48) dX11_item_41 (by decide) (fun h_41 => absurd (b2i_eq hx) h_41) (fun h_41 => ?_)
  refine r_ldcw (μ := mX11_item) (pc := 44) dX11_item_44 ctX11_306 ?_
  exact r_iret (μ := mX11_item) (pc := 47) dX11_item_47 rfl rfl (PI_i rfl)

theorem k_item {d : Nat} {sh : List Sh} {mi : MI} {mr : MR} (hF : SHC sh) (hB : CB mr) {u : Nat} (hu : u < 5) {z : Nat} (h7 : mi 61 u = 2) (hz : mi (65 + 2 * u) 1 = nI z) (hz24 : z ≤ 24) {j : Nat} (hj : j < z) : CP (d + 1) mX11_item [.ref 0, .int (nI u), .int (nI j)] sh mi mr 0 0 (PI (if mi (66 + 2 * u) j = NONEc then KINDc else mi (66 + 2 * u) j) sh mi mr) := by
  obtain ⟨hua, hup⟩ := sh_u hF hu; obtain ⟨hur, huq⟩ := cr_u hB hu
  refine CP.of (L := [_, _, _, _, _]) (by decide) rfl rfl (Nat.le_of_ble_eq_true rfl) ?_
  refine r_iload_n (μ := mX11_item) (pc := 0) dX11_item_0 rfl rfl ?_
  refine r_iconst (μ := mX11_item) (pc := 1) (v := 5) dX11_item_1 ic_5 ?_
  refine sP2 (μ := mX11_item) (pc := 2) (μ2 := mX11_within) dX11_item_2 lkX11_93 stX11_within mwX11_within (Nat.le_of_ble_eq_true rfl) (k_within (n := 5) rfl (by decide)) ?_
  rw [inR_B _ 4]
  refine r_if_ne (μ := mX11_item) (pc := 5) (tgt := 11) dX11_item_5 (by decide) (fun h_5 => ?_) (fun h_5 => absurd h_5 (b2i_ne (inB_nI (by omega) (by omega))))
  refine r_aload_n (μ := mX11_item) (pc := 11) dX11_item_11 rfl rfl rfl ?_
  refine r_iload_n (μ := mX11_item) (pc := 12) dX11_item_12 rfl rfl ?_
  refine r_iconst (μ := mX11_item) (pc := 13) (v := 2) dX11_item_13 ic_2 ?_
  refine vP2 (μ := mX11_item) (pc := 14) (c0 := 11) (q0 := (RX11, TX11, 14)) (μ2 := mX11_findingOf) dX11_item_14 (hF _ _ rfl) rfl lkX11_332 imX11_findingOf seX11_X11_findingOf_X11_findingOf mwX11_findingOf (Nat.le_of_ble_eq_true rfl) (k_findingOf hF hB hu) ?_
  refine s_istore_n (μ := mX11_item) (pc := 17) (L2 := [_, _, _, _, _]) dX11_item_17 rfl (Nat.le_of_ble_eq_true rfl) (Nat.le_of_ble_eq_true rfl) rfl rfl ?_
  refine r_iload_n (μ := mX11_item) (pc := 18) dX11_item_18 rfl rfl ?_
  refine r_if_eq (μ := mX11_item) (pc := 19) (tgt := 24) dX11_item_19 (by decide) (fun h_19 => ?_) (fun h_19 => absurd (by rw [h7]; decide) h_19)
  refine r_aload_n (μ := mX11_item) (pc := 24) dX11_item_24 rfl rfl rfl ?_
  refine r_getR (μ := mX11_item) (pc := 25) dX11_item_25 fpX11_83 rfl (hF _ _ rfl) (by decide) (hB _ _ _ rfl) ?_
  refine r_iload_n (μ := mX11_item) (pc := 28) dX11_item_28 rfl rfl ?_
  refine r_aaload (μ := mX11_item) (pc := 29) (t := 1) dX11_item_29 (by decide) (hF _ _ rfl) rfl (by omega) (by decide) hur ?_
  refine s_astore (μ := mX11_item) (pc := 30) (L2 := [_, _, _, _, _]) dX11_item_30 (Nat.le_of_ble_eq_true rfl) (Nat.le_of_ble_eq_true rfl) rfl rfl ?_
  refine r_iload_n (μ := mX11_item) (pc := 32) dX11_item_32 rfl rfl ?_
  refine r_aload (μ := mX11_item) (pc := 33) dX11_item_33 rfl rfl ?_
  refine r_getI (μ := mX11_item) (pc := 35) dX11_item_35 fpX11_303 rfl hua (by decide) ?_
  refine sP2 (μ := mX11_item) (pc := 38) (μ2 := mX11_within) dX11_item_38 lkX11_93 stX11_within mwX11_within (Nat.le_of_ble_eq_true rfl) (k_within hz (by omega)) ?_
  refine r_if_ne (μ := mX11_item) (pc := 41) (tgt := 48) dX11_item_41 (by decide) (fun h_41 => ?_) (fun h_41 => absurd h_41 (b2i_ne (inR_nI hj (by omega))))
  refine r_aload (μ := mX11_item) (pc := 48) dX11_item_48 rfl rfl ?_
  refine r_getR (μ := mX11_item) (pc := 50) dX11_item_50 fpX11_307 rfl hua (by decide) huq ?_
  refine r_iload_n (μ := mX11_item) (pc := 53) dX11_item_53 rfl rfl ?_
  refine r_iaload (μ := mX11_item) (pc := 54) (j := j) dX11_item_54 hup rfl (by omega) (by decide) ?_
  refine r_ldc (μ := mX11_item) (pc := 55) dX11_item_55 ctX11_225 ?_
  refine r_icmp_ne (μ := mX11_item) (pc := 57) (tgt := 65) dX11_item_57 (by decide) (fun h_57 => ?_) (fun h_57 => ?_)
  · refine r_aload (μ := mX11_item) (pc := 65) dX11_item_65 rfl rfl ?_
    refine r_getR (μ := mX11_item) (pc := 67) dX11_item_67 fpX11_307 rfl hua (by decide) huq ?_
    refine r_iload_n (μ := mX11_item) (pc := 70) dX11_item_70 rfl rfl ?_
    refine r_iaload (μ := mX11_item) (pc := 71) (j := j) dX11_item_71 hup rfl (by omega) (by decide) ?_
    exact r_iret (μ := mX11_item) (pc := 72) dX11_item_72 rfl rfl (PI_i (by first | (rw [if_pos (show _ = NONEc from h_57)]; rfl) | (rw [if_neg (show ¬ _ = NONEc from h_57)])))
  · refine r_ldc (μ := mX11_item) (pc := 60) dX11_item_60 ctX11_182 ?_
    refine r_goto (μ := mX11_item) (pc := 62) (tgt := 72) dX11_item_62 (by decide) ?_
    exact r_iret (μ := mX11_item) (pc := 72) dX11_item_72 rfl rfl (PI_i (by first | (rw [if_pos (show _ = NONEc from h_57)]; rfl) | (rw [if_neg (show ¬ _ = NONEc from h_57)])))

theorem k_rest_bad {d : Nat} {sh : List Sh} {mi : MI} {mr : MR} (hF : SHC sh) (hB : CB mr) {x w : Int32} (hb : ¬ inB x 0 4 = true) : CP (d + 1) mX11_rest [.ref 0, .int x, .int w] sh mi mr 0 0 (PI (BADc) sh mi mr) := by
  refine CP.of (L := [_, _, _, _]) (by decide) rfl rfl (Nat.le_of_ble_eq_true rfl) ?_
  refine r_iload_n (μ := mX11_rest) (pc := 0) dX11_rest_0 rfl rfl ?_
  refine r_iconst (μ := mX11_rest) (pc := 1) (v := 5) dX11_rest_1 ic_5 ?_
  refine sP2 (μ := mX11_rest) (pc := 2) (μ2 := mX11_within) dX11_rest_2 lkX11_93 stX11_within mwX11_within (Nat.le_of_ble_eq_true rfl) (k_within (n := 5) rfl (by decide)) ?_
  rw [inR_B _ 4]
  refine r_if_ne (μ := mX11_rest) (pc := 5) (tgt := 11) dX11_rest_5 (by decide) (fun h_5 => ?_) (fun h_5 => ?_)
  · have h_5 := b2i_1 h_5
    exact absurd h_5 hb
  · have h_5 := b2i_0 h_5
    refine r_ldc (μ := mX11_rest) (pc := 8) dX11_rest_8 ctX11_97 ?_
    exact r_iret (μ := mX11_rest) (pc := 10) dX11_rest_10 rfl rfl (PI_i rfl)

theorem k_rest_no {d : Nat} {sh : List Sh} {mi : MI} {mr : MR} (hF : SHC sh) (hB : CB mr) {u : Nat} (hu : u < 5) {w : Int32} (h7 : ¬ mi 61 u = 3) : CP (d + 1) mX11_rest [.ref 0, .int (nI u), .int w] sh mi mr 0 0 (PI (if mi 61 u = 0 then NOTHINGc else KINDc) sh mi mr) := by
  refine CP.of (L := [_, _, _, _]) (by decide) rfl rfl (Nat.le_of_ble_eq_true rfl) ?_
  refine r_iload_n (μ := mX11_rest) (pc := 0) dX11_rest_0 rfl rfl ?_
  refine r_iconst (μ := mX11_rest) (pc := 1) (v := 5) dX11_rest_1 ic_5 ?_
  refine sP2 (μ := mX11_rest) (pc := 2) (μ2 := mX11_within) dX11_rest_2 lkX11_93 stX11_within mwX11_within (Nat.le_of_ble_eq_true rfl) (k_within (n := 5) rfl (by decide)) ?_
  rw [inR_B _ 4]
  refine r_if_ne (μ := mX11_rest) (pc := 5) (tgt := 11) dX11_rest_5 (by decide) (fun h_5 => ?_) (fun h_5 => absurd h_5 (b2i_ne (inB_nI (by omega) (by omega))))
  refine r_aload_n (μ := mX11_rest) (pc := 11) dX11_rest_11 rfl rfl rfl ?_
  refine r_iload_n (μ := mX11_rest) (pc := 12) dX11_rest_12 rfl rfl ?_
  refine r_iconst (μ := mX11_rest) (pc := 13) (v := 3) dX11_rest_13 ic_3 ?_
  refine vP2 (μ := mX11_rest) (pc := 14) (c0 := 11) (q0 := (RX11, TX11, 14)) (μ2 := mX11_findingOf) dX11_rest_14 (hF _ _ rfl) rfl lkX11_332 imX11_findingOf seX11_X11_findingOf_X11_findingOf mwX11_findingOf (Nat.le_of_ble_eq_true rfl) (k_findingOf hF hB hu) ?_
  refine s_istore_n (μ := mX11_rest) (pc := 17) (L2 := [_, _, _, _]) dX11_rest_17 rfl (Nat.le_of_ble_eq_true rfl) (Nat.le_of_ble_eq_true rfl) rfl rfl ?_
  refine r_iload_n (μ := mX11_rest) (pc := 18) dX11_rest_18 rfl rfl ?_
  refine r_if_eq (μ := mX11_rest) (pc := 19) (tgt := 24) dX11_rest_19 (by decide) (fun h_19 => absurd h_19 (by by_cases z0 : mi 61 u = 0; (· rw [if_pos z0]; decide); (· rw [if_neg z0, if_neg h7]; decide))) (fun h_19 => ?_)
  refine r_iload_n (μ := mX11_rest) (pc := 22) dX11_rest_22 rfl rfl ?_
  exact r_iret (μ := mX11_rest) (pc := 23) dX11_rest_23 rfl rfl (PI_i (by by_cases z0 : mi 61 u = 0; (· rw [if_pos z0, if_pos z0]); (· rw [if_neg z0, if_neg z0, if_neg h7])))

theorem k_rest {d : Nat} {sh : List Sh} {mi : MI} {mr : MR} (hF : SHC sh) (hB : CB mr) {u : Nat} (hu : u < 5) {w : Int32} (h7 : mi 61 u = 3) : CP (d + 1) mX11_rest [.ref 0, .int (nI u), .int w] sh mi mr 0 0 (PI (if w = 0 then NOc else remS (mi 63 u) w) sh mi mr) := by
  refine CP.of (L := [_, _, _, _]) (by decide) rfl rfl (Nat.le_of_ble_eq_true rfl) ?_
  refine r_iload_n (μ := mX11_rest) (pc := 0) dX11_rest_0 rfl rfl ?_
  refine r_iconst (μ := mX11_rest) (pc := 1) (v := 5) dX11_rest_1 ic_5 ?_
  refine sP2 (μ := mX11_rest) (pc := 2) (μ2 := mX11_within) dX11_rest_2 lkX11_93 stX11_within mwX11_within (Nat.le_of_ble_eq_true rfl) (k_within (n := 5) rfl (by decide)) ?_
  rw [inR_B _ 4]
  refine r_if_ne (μ := mX11_rest) (pc := 5) (tgt := 11) dX11_rest_5 (by decide) (fun h_5 => ?_) (fun h_5 => absurd h_5 (b2i_ne (inB_nI (by omega) (by omega))))
  refine r_aload_n (μ := mX11_rest) (pc := 11) dX11_rest_11 rfl rfl rfl ?_
  refine r_iload_n (μ := mX11_rest) (pc := 12) dX11_rest_12 rfl rfl ?_
  refine r_iconst (μ := mX11_rest) (pc := 13) (v := 3) dX11_rest_13 ic_3 ?_
  refine vP2 (μ := mX11_rest) (pc := 14) (c0 := 11) (q0 := (RX11, TX11, 14)) (μ2 := mX11_findingOf) dX11_rest_14 (hF _ _ rfl) rfl lkX11_332 imX11_findingOf seX11_X11_findingOf_X11_findingOf mwX11_findingOf (Nat.le_of_ble_eq_true rfl) (k_findingOf hF hB hu) ?_
  refine s_istore_n (μ := mX11_rest) (pc := 17) (L2 := [_, _, _, _]) dX11_rest_17 rfl (Nat.le_of_ble_eq_true rfl) (Nat.le_of_ble_eq_true rfl) rfl rfl ?_
  refine r_iload_n (μ := mX11_rest) (pc := 18) dX11_rest_18 rfl rfl ?_
  refine r_if_eq (μ := mX11_rest) (pc := 19) (tgt := 24) dX11_rest_19 (by decide) (fun h_19 => ?_) (fun h_19 => absurd (by rw [h7]; decide) h_19)
  refine r_iload_n (μ := mX11_rest) (pc := 24) dX11_rest_24 rfl rfl ?_
  refine r_if_ne (μ := mX11_rest) (pc := 25) (tgt := 33) dX11_rest_25 (by decide) (fun h_25 => ?_) (fun h_25 => ?_)
  · refine r_aload_n (μ := mX11_rest) (pc := 33) dX11_rest_33 rfl rfl rfl ?_
    refine r_getR (μ := mX11_rest) (pc := 34) dX11_rest_34 fpX11_80 rfl (hF _ _ rfl) (by decide) (hB _ _ _ rfl) ?_
    refine r_iload_n (μ := mX11_rest) (pc := 37) dX11_rest_37 rfl rfl ?_
    refine r_iaload (μ := mX11_rest) (pc := 38) (j := u) dX11_rest_38 (hF _ _ rfl) rfl (by omega) (by decide) ?_
    refine r_iload_n (μ := mX11_rest) (pc := 39) dX11_rest_39 rfl rfl ?_
    refine r_irem (μ := mX11_rest) (pc := 40) dX11_rest_40 h_25 ?_
    exact r_iret (μ := mX11_rest) (pc := 41) dX11_rest_41 rfl rfl (PI_i (by first | (rw [if_pos h_25]; rfl) | (rw [if_neg h_25]; rfl)))
  · refine r_ldc (μ := mX11_rest) (pc := 28) dX11_rest_28 ctX11_204 ?_
    refine r_goto (μ := mX11_rest) (pc := 30) (tgt := 41) dX11_rest_30 (by decide) ?_
    exact r_iret (μ := mX11_rest) (pc := 41) dX11_rest_41 rfl rfl (PI_i (by first | (rw [if_pos h_25]; rfl) | (rw [if_neg h_25]; rfl)))

theorem k_tell_full {d : Nat} {sh : List Sh} {mi : MI} {mr : MR} (hF : SHC sh) (hB : CB mr) {v : Int32} (hw : mi 0 13 = 60) : CP (d) mX11_tell [.ref 0, .int v] sh mi mr 0 0 (PI (FULLc) sh mi mr) := by
  refine CP.of (L := [_, _]) (by decide) rfl rfl (Nat.le_of_ble_eq_true rfl) ?_
  refine r_aload_n (μ := mX11_tell) (pc := 0) dX11_tell_0 rfl rfl rfl ?_
  refine r_getI (μ := mX11_tell) (pc := 1) dX11_tell_1 fpX11_89 rfl (hF _ _ rfl) (by decide) ?_
  refine r_bipush (μ := mX11_tell) (pc := 4) (v := 60) dX11_tell_4 bp_60 ?_
  refine r_icmp_lt (μ := mX11_tell) (pc := 6) (tgt := 12) dX11_tell_6 (by decide) (fun h_6 => absurd h_6 (by rw [hw]; decide)) (fun h_6 => ?_)
  refine r_ldc (μ := mX11_tell) (pc := 9) dX11_tell_9 ctX11_101 ?_
  exact r_iret (μ := mX11_tell) (pc := 11) dX11_tell_11 rfl rfl (PI_i rfl)

theorem k_tell {d : Nat} {sh : List Sh} {mi : MI} {mr : MR} (hF : SHC sh) (hB : CB mr) {v : Int32} {w : Nat} (hw : mi 0 13 = nI w) (hw60 : w < 60) : CP (d) mX11_tell [.ref 0, .int v] sh mi mr 0 0 (PX sh mr (fun r mi2 => r = nI (w + 1) ∧ mi2 = upI (upI mi 75 w v) 0 13 (nI (w + 1)))) := by
  refine CP.of (L := [_, _]) (by decide) rfl rfl (Nat.le_of_ble_eq_true rfl) ?_
  refine r_aload_n (μ := mX11_tell) (pc := 0) dX11_tell_0 rfl rfl rfl ?_
  refine r_getI (μ := mX11_tell) (pc := 1) dX11_tell_1 fpX11_89 rfl (hF _ _ rfl) (by decide) ?_
  refine r_bipush (μ := mX11_tell) (pc := 4) (v := 60) dX11_tell_4 bp_60 ?_
  refine r_icmp_lt (μ := mX11_tell) (pc := 6) (tgt := 12) dX11_tell_6 (by decide) (fun h_6 => ?_) (fun h_6 => absurd (by rw [hw]; exact nI_lt (b := 60) hw60 (by decide)) h_6)
  refine r_aload_n (μ := mX11_tell) (pc := 12) dX11_tell_12 rfl rfl rfl ?_
  refine r_getR (μ := mX11_tell) (pc := 13) dX11_tell_13 fpX11_86 rfl (hF _ _ rfl) (by decide) (hB _ _ _ rfl) ?_
  refine r_aload_n (μ := mX11_tell) (pc := 16) dX11_tell_16 rfl rfl rfl ?_
  refine r_getI (μ := mX11_tell) (pc := 17) dX11_tell_17 fpX11_89 rfl (hF _ _ rfl) (by decide) ?_
  rw [hw]
  refine r_iload_n (μ := mX11_tell) (pc := 20) dX11_tell_20 rfl rfl ?_
  refine r_iastore (μ := mX11_tell) (pc := 21) (j := w) dX11_tell_21 (hF _ _ rfl) rfl (by omega) (by decide) ?_
  refine r_aload_n (μ := mX11_tell) (pc := 22) dX11_tell_22 rfl rfl rfl ?_
  refine r_dup (μ := mX11_tell) (pc := 23) dX11_tell_23 rfl ?_
  refine r_getI (μ := mX11_tell) (pc := 24) dX11_tell_24 fpX11_89 rfl (hF _ _ rfl) (by decide) ?_
  rw [up_oth (by decide), hw]
  refine r_iconst (μ := mX11_tell) (pc := 27) (v := 1) dX11_tell_27 ic_1 ?_
  refine r_iadd (μ := mX11_tell) (pc := 28) dX11_tell_28 ?_
  rw [show nI w + 1 = nI (w + 1) from (nI_succ w).symm]
  refine r_putI (μ := mX11_tell) (pc := 29) dX11_tell_29 fwX11_89 (hF _ _ rfl) (by decide) rfl ?_
  refine r_aload_n (μ := mX11_tell) (pc := 32) dX11_tell_32 rfl rfl rfl ?_
  refine r_getI (μ := mX11_tell) (pc := 33) dX11_tell_33 fpX11_89 rfl (hF _ _ rfl) (by decide) ?_
  rw [up_eq]
  exact r_iret (μ := mX11_tell) (pc := 36) dX11_tell_36 rfl rfl (PX_i ⟨rfl, rfl⟩)

theorem k_keep {d : Nat} {sh : List Sh} {mi : MI} {mr : MR} (hF : SHC sh) (hB : CB mr) {s : Rw} {n m p q : Nat} (hR : RT sh mi mr 8 s n m p q) (hI : Inv s n m p q) (h0 : TxR sh mr 8) : CP (d + 2) mX11_keep [.ref 0] sh mi mr 0 0 (PY (fun r sh2 mi2 mr2 => r = nI m ∧ sh2 = sh ∧ mr2 = tcp mr 20 8 14 ∧ ∃ mi1, BA mi mi1 20 8 ∧ mi2 = upI mi1 0 4 1)) := by
  have hn10 := hI.n10; have hm8 := hI.m8; have hp6 := hI.p6; have hq14 := hI.q14
  have hT := TB.of hF hB (Or.inl rfl)
  refine CP.of (L := [_]) (by decide) rfl rfl (Nat.le_of_ble_eq_true rfl) ?_
  refine r_aload_n (μ := mX11_keep) (pc := 0) dX11_keep_0 rfl rfl rfl ?_
  refine r_getR (μ := mX11_keep) (pc := 1) dX11_keep_1 fpX11_40 rfl (hF _ _ rfl) (by decide) (hB _ _ _ rfl) ?_
  refine r_aload_n (μ := mX11_keep) (pc := 4) dX11_keep_4 rfl rfl rfl ?_
  refine r_getR (μ := mX11_keep) (pc := 5) dX11_keep_5 fpX11_36 rfl (hF _ _ rfl) (by decide) (hB _ _ _ rfl) ?_
  refine vW1 (μ := mX11_keep) (pc := 8) (c0 := 9) (q0 := (RX9, TX9, 20)) (μ2 := mX9_becomeAs) dX11_keep_8 (hF _ _ rfl) rfl lkX11_335 imX9_becomeAs seX9_X9_becomeAs_X9_becomeAs mwX9_becomeAs (Nat.le_of_ble_eq_true rfl) (k_ba20_8 hF hB h0) (fun sh_8 mi_8 mr_8 h_8 => ?_)
  obtain ⟨rfl, rfl, hBA⟩ := h_8
  refine r_aload_n (μ := mX11_keep) (pc := 11) dX11_keep_11 rfl rfl rfl ?_
  refine r_iconst (μ := mX11_keep) (pc := 12) (v := 1) dX11_keep_12 ic_1 ?_
  refine r_putZ (μ := mX11_keep) (pc := 13) dX11_keep_13 fwX11_46 (hF _ _ rfl) (by decide) rfl rfl rfl ?_
  refine r_aload_n (μ := mX11_keep) (pc := 16) dX11_keep_16 rfl rfl rfl ?_
  refine r_getR (μ := mX11_keep) (pc := 17) dX11_keep_17 fpX11_36 rfl (hF _ _ rfl) (by decide) (by rw [tcp_ne (by decide)]; exact hB _ _ _ rfl) ?_
  refine r_getI (μ := mX11_keep) (pc := 20) dX11_keep_20 fpX11_139 rfl (hF _ _ rfl) (by decide) ?_
  rw [up_oth (by decide), hBA.1 8 (by decide), hR.em]
  exact r_iret (μ := mX11_keep) (pc := 23) dX11_keep_23 rfl rfl (PY_i ⟨rfl, rfl, rfl, _, hBA, rfl⟩)

theorem k_back_no {d : Nat} {sh : List Sh} {mi : MI} {mr : MR} (hF : SHC sh) (hB : CB mr) (hi : mi 0 4 = 0) : CP (d) mX11_back [.ref 0] sh mi mr 0 0 (PI (NOc) sh mi mr) := by
  refine CP.of (L := [_]) (by decide) rfl rfl (Nat.le_of_ble_eq_true rfl) ?_
  refine r_aload_n (μ := mX11_back) (pc := 0) dX11_back_0 rfl rfl rfl ?_
  refine r_getI (μ := mX11_back) (pc := 1) dX11_back_1 fpX11_46 rfl (hF _ _ rfl) (by decide) ?_
  refine r_if_ne (μ := mX11_back) (pc := 4) (tgt := 10) dX11_back_4 (by decide) (fun h_4 => absurd hi h_4) (fun h_4 => ?_)
  refine r_ldc (μ := mX11_back) (pc := 7) dX11_back_7 ctX11_204 ?_
  exact r_iret (μ := mX11_back) (pc := 9) dX11_back_9 rfl rfl (PI_i rfl)

theorem k_back {d : Nat} {sh : List Sh} {mi : MI} {mr : MR} (hF : SHC sh) (hB : CB mr) (h0 : TxR sh mr 20) (hi : ¬ mi 0 4 = 0) : CP (d + 2) mX11_back [.ref 0] sh mi mr 0 0 (PY (fun r sh2 mi2 mr2 => r = mi 20 4 ∧ sh2 = sh ∧ mr2 = tcp mr 8 20 14 ∧ BA mi mi2 8 20)) := by
  refine CP.of (L := [_]) (by decide) rfl rfl (Nat.le_of_ble_eq_true rfl) ?_
  refine r_aload_n (μ := mX11_back) (pc := 0) dX11_back_0 rfl rfl rfl ?_
  refine r_getI (μ := mX11_back) (pc := 1) dX11_back_1 fpX11_46 rfl (hF _ _ rfl) (by decide) ?_
  refine r_if_ne (μ := mX11_back) (pc := 4) (tgt := 10) dX11_back_4 (by decide) (fun h_4 => ?_) (fun h_4 => absurd h_4 hi)
  refine r_aload_n (μ := mX11_back) (pc := 10) dX11_back_10 rfl rfl rfl ?_
  refine r_getR (μ := mX11_back) (pc := 11) dX11_back_11 fpX11_36 rfl (hF _ _ rfl) (by decide) (hB _ _ _ rfl) ?_
  refine r_aload_n (μ := mX11_back) (pc := 14) dX11_back_14 rfl rfl rfl ?_
  refine r_getR (μ := mX11_back) (pc := 15) dX11_back_15 fpX11_40 rfl (hF _ _ rfl) (by decide) (hB _ _ _ rfl) ?_
  refine vW1 (μ := mX11_back) (pc := 18) (c0 := 9) (q0 := (RX9, TX9, 20)) (μ2 := mX9_becomeAs) dX11_back_18 (hF _ _ rfl) rfl lkX11_335 imX9_becomeAs seX9_X9_becomeAs_X9_becomeAs mwX9_becomeAs (Nat.le_of_ble_eq_true rfl) (k_ba8_20 hF hB h0) (fun sh_18 mi_18 mr_18 h_18 => ?_)
  obtain ⟨rfl, rfl, hBA⟩ := h_18
  refine r_aload_n (μ := mX11_back) (pc := 21) dX11_back_21 rfl rfl rfl ?_
  refine r_getR (μ := mX11_back) (pc := 22) dX11_back_22 fpX11_36 rfl (hF _ _ rfl) (by decide) (by rw [tcp_ne (by decide)]; exact hB _ _ _ rfl) ?_
  refine r_getI (μ := mX11_back) (pc := 25) dX11_back_25 fpX11_139 rfl (hF _ _ rfl) (by decide) ?_
  rw [hBA.2.1.2.1]
  exact r_iret (μ := mX11_back) (pc := 28) dX11_back_28 rfl rfl (PY_i ⟨rfl, rfl, rfl, hBA⟩)

theorem k_count_bad {d : Nat} {sh : List Sh} {mi : MI} {mr : MR} (hF : SHC sh) (hB : CB mr) {s : Rw} {n m p q : Nat} (hR : RT sh mi mr 8 s n m p q) (hI : Inv s n m p q) {x : Int32} (hb : ¬ inB x 0 9 = true) : CP (d) mX11_count [.ref 0, .int x] sh mi mr 0 0 (PI (BADc) sh mi mr) := by
  have hn10 := hI.n10; have hm8 := hI.m8; have hp6 := hI.p6; have hq14 := hI.q14
  have hT := TB.of hF hB (Or.inl rfl)
  refine CP.of (L := [_, _]) (by decide) rfl rfl (Nat.le_of_ble_eq_true rfl) ?_
  refine r_iload_n (μ := mX11_count) (pc := 0) dX11_count_0 rfl rfl ?_
  refine r_tabOut (μ := mX11_count) (pc := 1) (tgt := 136) dX11_count_1 (by unfold inB at hb; simp only [decide_eq_true_eq] at hb; omega) (by decide) ?_
  refine r_ldc (μ := mX11_count) (pc := 136) dX11_count_136 ctX11_97 ?_
  exact r_iret (μ := mX11_count) (pc := 138) dX11_count_138 rfl rfl (PI_i rfl)

theorem k_count {d : Nat} {sh : List Sh} {mi : MI} {mr : MR} (hF : SHC sh) (hB : CB mr) {s : Rw} {n m p q : Nat} (hR : RT sh mi mr 8 s n m p q) (hI : Inv s n m p q) {w : Nat} (hw : w < 10) : CP (d + 7) mX11_count [.ref 0, .int (nI w)] sh mi mr 0 0 (PX sh mr (fun r mi2 => r = countS s (mi 0 13) (mi 48 1) m q w ∧ SP 19 mi mi2)) := by
  have hn10 := hI.n10; have hm8 := hI.m8; have hp6 := hI.p6; have hq14 := hI.q14
  have hT := TB.of hF hB (Or.inl rfl)
  have hw9 : w = 0 ∨ w = 1 ∨ w = 2 ∨ w = 3 ∨ w = 4 ∨ w = 5 ∨ w = 6 ∨ w = 7 ∨ w = 8 ∨ w = 9 := by omega
  refine CP.of (L := [_, _]) (by decide) rfl rfl (Nat.le_of_ble_eq_true rfl) ?_
  refine r_iload_n (μ := mX11_count) (pc := 0) dX11_count_0 rfl rfl ?_
  rcases hw9 with rfl | rfl | rfl | rfl | rfl | rfl | rfl | rfl | rfl | rfl
  · refine r_tabIn (μ := mX11_count) (pc := 1) (tgt := 56) dX11_count_1 (by decide) (by decide) rfl (by decide) ?_
    refine r_aload_n (μ := mX11_count) (pc := 56) dX11_count_56 rfl rfl rfl ?_
    refine r_getR (μ := mX11_count) (pc := 57) dX11_count_57 fpX11_36 rfl (hF _ _ rfl) (by decide) (hB _ _ _ rfl) ?_
    refine r_getI (μ := mX11_count) (pc := 60) dX11_count_60 fpX11_98 rfl (hF _ _ rfl) (by decide) ?_
    rw [hR.en, ← hI.en]
    exact r_iret (μ := mX11_count) (pc := 63) dX11_count_63 rfl rfl (PX_i ⟨rfl, SP.rf _ _⟩)
  · refine r_tabIn (μ := mX11_count) (pc := 1) (tgt := 64) dX11_count_1 (by decide) (by decide) rfl (by decide) ?_
    refine r_aload_n (μ := mX11_count) (pc := 64) dX11_count_64 rfl rfl rfl ?_
    refine r_getR (μ := mX11_count) (pc := 65) dX11_count_65 fpX11_36 rfl (hF _ _ rfl) (by decide) (hB _ _ _ rfl) ?_
    refine r_getI (μ := mX11_count) (pc := 68) dX11_count_68 fpX11_139 rfl (hF _ _ rfl) (by decide) ?_
    rw [hR.em, ← hI.em]
    exact r_iret (μ := mX11_count) (pc := 71) dX11_count_71 rfl rfl (PX_i ⟨rfl, SP.rf _ _⟩)
  · refine r_tabIn (μ := mX11_count) (pc := 1) (tgt := 72) dX11_count_1 (by decide) (by decide) rfl (by decide) ?_
    refine r_aload_n (μ := mX11_count) (pc := 72) dX11_count_72 rfl rfl rfl ?_
    refine r_getR (μ := mX11_count) (pc := 73) dX11_count_73 fpX11_36 rfl (hF _ _ rfl) (by decide) (hB _ _ _ rfl) ?_
    refine r_getI (μ := mX11_count) (pc := 76) dX11_count_76 fpX11_186 rfl (hF _ _ rfl) (by decide) ?_
    rw [hR.ep, ← hI.ep]
    exact r_iret (μ := mX11_count) (pc := 79) dX11_count_79 rfl rfl (PX_i ⟨rfl, SP.rf _ _⟩)
  · refine r_tabIn (μ := mX11_count) (pc := 1) (tgt := 80) dX11_count_1 (by decide) (by decide) rfl (by decide) ?_
    refine r_aload_n (μ := mX11_count) (pc := 80) dX11_count_80 rfl rfl rfl ?_
    refine r_getR (μ := mX11_count) (pc := 81) dX11_count_81 fpX11_36 rfl (hF _ _ rfl) (by decide) (hB _ _ _ rfl) ?_
    refine r_getI (μ := mX11_count) (pc := 84) dX11_count_84 fpX11_350 rfl (hF _ _ rfl) (by decide) ?_
    rw [hR.dy]
    exact r_iret (μ := mX11_count) (pc := 87) dX11_count_87 rfl rfl (PX_i ⟨rfl, SP.rf _ _⟩)
  · refine r_tabIn (μ := mX11_count) (pc := 1) (tgt := 88) dX11_count_1 (by decide) (by decide) rfl (by decide) ?_
    refine r_aload_n (μ := mX11_count) (pc := 88) dX11_count_88 rfl rfl rfl ?_
    refine r_getR (μ := mX11_count) (pc := 89) dX11_count_89 fpX11_36 rfl (hF _ _ rfl) (by decide) (hB _ _ _ rfl) ?_
    refine vX0 (μ := mX11_count) (pc := 92) (c0 := 9) (q0 := (RX9, TX9, 20)) (μ2 := mX9_standingCount) dX11_count_92 (hF _ _ rfl) rfl lkX11_353 imX9_standingCount seX9_X9_standingCount_X9_standingCount mwX9_standingCount (Nat.le_of_ble_eq_true rfl) (k_standingCount hT (by decide) hR hI) (fun r_92 mi_92 h_92 => ?_)
    obtain ⟨rfl, h92⟩ := h_92
    exact r_iret (μ := mX11_count) (pc := 95) dX11_count_95 rfl rfl (PX_i ⟨rfl, h92⟩)
  · refine r_tabIn (μ := mX11_count) (pc := 1) (tgt := 96) dX11_count_1 (by decide) (by decide) rfl (by decide) ?_
    refine r_aload_n (μ := mX11_count) (pc := 96) dX11_count_96 rfl rfl rfl ?_
    refine r_getR (μ := mX11_count) (pc := 97) dX11_count_97 fpX11_36 rfl (hF _ _ rfl) (by decide) (hB _ _ _ rfl) ?_
    refine r_getI (μ := mX11_count) (pc := 100) dX11_count_100 fpX11_167 rfl (hF _ _ rfl) (by decide) ?_
    rw [hR.mv]
    refine sP1 (μ := mX11_count) (pc := 103) (μ2 := mJ6_bitCount_0f7a4) dX11_count_103 lkX11_251 stJ6_bitCount_0f7a4 mwJ6_bitCount_0f7a4 (Nat.le_of_ble_eq_true rfl) k_bitCount ?_
    rw [bc_bits _ (by omega)]
    exact r_iret (μ := mX11_count) (pc := 106) dX11_count_106 rfl rfl (PX_i ⟨rfl, SP.rf _ _⟩)
  · refine r_tabIn (μ := mX11_count) (pc := 1) (tgt := 107) dX11_count_1 (by decide) (by decide) rfl (by decide) ?_
    refine r_aload_n (μ := mX11_count) (pc := 107) dX11_count_107 rfl rfl rfl ?_
    refine r_getR (μ := mX11_count) (pc := 108) dX11_count_108 fpX11_36 rfl (hF _ _ rfl) (by decide) (hB _ _ _ rfl) ?_
    refine r_getI (μ := mX11_count) (pc := 111) dX11_count_111 fpX11_272 rfl (hF _ _ rfl) (by decide) ?_
    rw [hR.eq, ← hI.eq3]
    exact r_iret (μ := mX11_count) (pc := 114) dX11_count_114 rfl rfl (PX_i ⟨rfl, SP.rf _ _⟩)
  · refine r_tabIn (μ := mX11_count) (pc := 1) (tgt := 115) dX11_count_1 (by decide) (by decide) rfl (by decide) ?_
    refine r_aload_n (μ := mX11_count) (pc := 115) dX11_count_115 rfl rfl rfl ?_
    refine r_getI (μ := mX11_count) (pc := 116) dX11_count_116 fpX11_89 rfl (hF _ _ rfl) (by decide) ?_
    exact r_iret (μ := mX11_count) (pc := 119) dX11_count_119 rfl rfl (PX_i ⟨rfl, SP.rf _ _⟩)
  · refine r_tabIn (μ := mX11_count) (pc := 1) (tgt := 120) dX11_count_1 (by decide) (by decide) rfl (by decide) ?_
    refine r_aload_n (μ := mX11_count) (pc := 120) dX11_count_120 rfl rfl rfl ?_
    refine r_getR (μ := mX11_count) (pc := 121) dX11_count_121 fpX11_62 rfl (hF _ _ rfl) (by decide) (hB _ _ _ rfl) ?_
    refine r_getI (μ := mX11_count) (pc := 124) dX11_count_124 fpX11_259 rfl (hF _ _ rfl) (by decide) ?_
    exact r_iret (μ := mX11_count) (pc := 127) dX11_count_127 rfl rfl (PX_i ⟨rfl, SP.rf _ _⟩)
  · refine r_tabIn (μ := mX11_count) (pc := 1) (tgt := 128) dX11_count_1 (by decide) (by decide) rfl (by decide) ?_
    refine r_aload_n (μ := mX11_count) (pc := 128) dX11_count_128 rfl rfl rfl ?_
    refine r_getR (μ := mX11_count) (pc := 129) dX11_count_129 fpX11_36 rfl (hF _ _ rfl) (by decide) (hB _ _ _ rfl) ?_
    refine r_getI (μ := mX11_count) (pc := 132) dX11_count_132 fpX11_132 rfl (hF _ _ rfl) (by decide) ?_
    rw [hR.z]
    exact r_iret (μ := mX11_count) (pc := 135) dX11_count_135 rfl rfl (PX_i ⟨rfl, SP.rf _ _⟩)

