theorem lp_fhK {d : Nat} {mi : MI} {mr : MR} {Q : QT} (hM : MB mr) {s : Rw} (hs : mi 1 = s) {n m p q : Nat} (hI : Inv s n m p q) (hn0 : 0 < n) {l : Nat} (hl : l < m) {H : Hlp} (hH : H.2.2 ≤ 10) (k118 : ∀ mi5 v, SH mi mi5 (upd s (28 + 5 * l + 3) v) → HV mi5 (hpK s q m l H n) → ∀ x5 : Value, catL x5 = true → WP (d + 6) mX12_findHelp 118 [.ref 0, .int (nI l), .int (nI (tN s l)), .int (bitsB (rchS s q l) n), .int (nI n), x5] [] shM mi5 mr 0 0 Q) :
    ∀ (j k : Nat), k + j = n → ∀ mi2 v, SH mi mi2 (upd s (28 + 5 * l + 3) v) → HV mi2 (hpK s q m l H k) → ∀ x5 : Value, catL x5 = true → WP (d + 6) mX12_findHelp 46 [.ref 0, .int (nI l), .int (nI (tN s l)), .int (bitsB (rchS s q l) n), .int (nI k), x5] [] shM mi2 mr 0 0 Q := by
  have hm8 := hI.m8
  have hn10 := hI.n10
  intro j
  induction j with
  | zero =>
    intro k hk mi2 v hS hV x5 hx5
    obtain rfl : k = n := by omega
    have he : mi2 1 0 = nI k := by rw [hS.1, upd_n (by omega)]; exact hI.en
    refine r_iload (μ := mX12_findHelp) (pc := 46) dX12_findHelp_46 rfl ?_
    refine r_aload_n (μ := mX12_findHelp) (pc := 48) dX12_findHelp_48 rfl rfl rfl ?_
    refine r_getR (μ := mX12_findHelp) (pc := 49) dX12_findHelp_49 fpX12_7 rfl rfl (by decide) (hM _ _ rfl) ?_
    refine r_iconst (μ := mX12_findHelp) (pc := 52) (v := 0) dX12_findHelp_52 ic_0 ?_
    refine r_iaload (μ := mX12_findHelp) (pc := 53) (j := 0) dX12_findHelp_53 rfl rfl (by decide) (by decide) ?_
    rw [he]
    refine r_icmp_ge (μ := mX12_findHelp) (pc := 54) (tgt := 118) dX12_findHelp_54 (by decide) (fun h_54 => ?_) (fun h_54 => absurd (nI_le (Nat.le_refl _) (by omega)) h_54)
    exact k118 mi2 v hS hV x5 hx5
  | succ j ih =>
    intro k hk mi2 v hS hV x5 hx5
    have hkn : k < n := by omega
    have he : mi2 1 0 = nI n := by rw [hS.1, upd_n (by omega)]; exact hI.en
    have hI2 : Inv (lean s l k) n m p q := hI.upT hl hkn
    have hle := hpK_le (s := s) (q := q) (m := m) (l := l) hH k
    have hgl := gcnt_le (lean s l k) q m
    refine r_iload (μ := mX12_findHelp) (pc := 46) dX12_findHelp_46 rfl ?_
    refine r_aload_n (μ := mX12_findHelp) (pc := 48) dX12_findHelp_48 rfl rfl rfl ?_
    refine r_getR (μ := mX12_findHelp) (pc := 49) dX12_findHelp_49 fpX12_7 rfl rfl (by decide) (hM _ _ rfl) ?_
    refine r_iconst (μ := mX12_findHelp) (pc := 52) (v := 0) dX12_findHelp_52 ic_0 ?_
    refine r_iaload (μ := mX12_findHelp) (pc := 53) (j := 0) dX12_findHelp_53 rfl rfl (by decide) (by decide) ?_
    rw [he]
    refine r_icmp_ge (μ := mX12_findHelp) (pc := 54) (tgt := 118) dX12_findHelp_54 (by decide) (fun h_54 => absurd h_54 (nI_ge (by omega) (by omega))) (fun h_54 => ?_)
    refine r_iload_n (μ := mX12_findHelp) (pc := 57) dX12_findHelp_57 rfl rfl ?_
    refine r_iload (μ := mX12_findHelp) (pc := 58) dX12_findHelp_58 rfl ?_
    refine r_ishr (μ := mX12_findHelp) (pc := 60) dX12_findHelp_60 ?_
    refine r_iconst (μ := mX12_findHelp) (pc := 61) (v := 1) dX12_findHelp_61 ic_1 ?_
    refine r_iand (μ := mX12_findHelp) (pc := 62) dX12_findHelp_62 ?_
    rw [bits_at hkn (by omega)]
    refine r_iconst (μ := mX12_findHelp) (pc := 63) (v := 1) dX12_findHelp_63 ic_1 ?_
    refine r_icmp_ne (μ := mX12_findHelp) (pc := 64) (tgt := 112) dX12_findHelp_64 (by decide) (fun h_64 => ?_) (fun h_64 => ?_)
    · have hz : hpK s q m l H (k + 1) = hpK s q m l H k := if_neg (fun z => by rw [z.1] at h_64; exact absurd rfl h_64)
      refine s_iinc (μ := mX12_findHelp) (pc := 112) (c := 1) (L2 := [_, _, _, _, _, _]) dX12_findHelp_112 rfl ic_1 (Nat.le_of_ble_eq_true rfl) (by simp only [List.all_cons, List.all_nil, catL_i, catL_r, hx5, Bool.and_self]) rfl ?_
      refine r_goto (μ := mX12_findHelp) (pc := 115) (tgt := 46) dX12_findHelp_115 (by decide) ?_
      first
      | exact WP.L (by rw [nI_succ]) (ih (k + 1) (by omega) _ (nI k) (((hS3.f0 (Or.inl rfl)).f0 (Or.inr (Or.inl rfl))).f0 (Or.inr (Or.inr rfl))) (hz ▸ HV.new) _ rfl)
      | exact WP.L (by rw [nI_succ]) (ih (k + 1) (by omega) _ (nI k) hS3 (hz ▸ hV3) _ rfl)
      | exact WP.L (by rw [nI_succ]) (ih (k + 1) (by omega) _ v hS (hz ▸ hV) x5 hx5)
    · have hc : rchS s q l k = true := by cases hz : rchS s q l k; (· rw [hz] at h_64; exact absurd h_64 (by decide)); (· rfl)
      refine r_aload_n (μ := mX12_findHelp) (pc := 67) dX12_findHelp_67 rfl rfl rfl ?_
      refine r_iload_n (μ := mX12_findHelp) (pc := 68) dX12_findHelp_68 rfl rfl ?_
      refine r_iconst (μ := mX12_findHelp) (pc := 69) (v := 3) dX12_findHelp_69 ic_3 ?_
      refine r_iload (μ := mX12_findHelp) (pc := 70) dX12_findHelp_70 rfl ?_
      refine vV3 (μ := mX12_findHelp) (pc := 72) (c0 := 12) (q0 := (RX12, TX12, 34)) (μ2 := mX12_sets) dX12_findHelp_72 rfl rfl lkX12_108 imX12_sets seX12_X12_sets_X12_sets mwX12_sets (Nat.le_of_ble_eq_true rfl) (c_sets hM (by omega) (by decide)) (fun mi_72 h_72 => ?_)
      subst h_72
      have hS2 := (hS.up (k := 28 + 5 * l + 3) (v := nI k)).ch upd_upd
      have hV2 := hV.u1 (k := 28 + 5 * l + 3) (v := nI k)
      refine r_aload_n (μ := mX12_findHelp) (pc := 75) dX12_findHelp_75 rfl rfl rfl ?_
      refine r_iconst (μ := mX12_findHelp) (pc := 76) (v := 0) dX12_findHelp_76 ic_0 ?_
      refine r_iconst (μ := mX12_findHelp) (pc := 77) (v := -1) dX12_findHelp_77 ic_m1 ?_
      refine vX2 (μ := mX12_findHelp) (pc := 78) (c0 := 12) (q0 := (RX12, TX12, 34)) (μ2 := mX12_reachedBut) dX12_findHelp_78 rfl rfl lkX12_186 imX12_reachedBut seX12_X12_reachedBut_X12_reachedBut mwX12_reachedBut (Nat.le_of_ble_eq_true rfl) (c_reachedBut hM hS2.1 hI2 (a := 0) hn0) (fun r_78 mi_78 h_78 => ?_)
      obtain ⟨rfl, h78⟩ := h_78
      have hS3 := hS2.sb h78
      have hV3 := hV2.sb h78
      refine sP1 (μ := mX12_findHelp) (pc := 81) (μ2 := mX12_ones) dX12_findHelp_81 lkX12_203 stX12_ones mwX12_ones (Nat.le_of_ble_eq_true rfl) c_ones ?_
      rw [show onesK (rbS (upd s (28 + 5 * l + 3) (nI k)) q m (-1) 0) 10 = nI (gcnt (lean s l k) q m) from ones_bits _ 10 (Nat.le_refl _)]
      refine s_istore (μ := mX12_findHelp) (pc := 84) (L2 := [_, _, _, _, _, _]) dX12_findHelp_84 (Nat.le_of_ble_eq_true rfl) (Nat.le_of_ble_eq_true rfl) (by simp only [List.all_cons, List.all_nil, catL_i, catL_r, hx5, Bool.and_self]) rfl ?_
      refine r_iload (μ := mX12_findHelp) (pc := 86) dX12_findHelp_86 rfl ?_
      refine r_aload_n (μ := mX12_findHelp) (pc := 88) dX12_findHelp_88 rfl rfl rfl ?_
      refine r_getI (μ := mX12_findHelp) (pc := 89) dX12_findHelp_89 fpX12_206 rfl rfl (by decide) ?_
      rw [hV3.2.2]
      refine r_icmp_le (μ := mX12_findHelp) (pc := 92) (tgt := 112) dX12_findHelp_92 (by decide) (fun h_92 => ?_) (fun h_92 => ?_)
      · have hz : hpK s q m l H (k + 1) = hpK s q m l H k := if_neg (fun z => absurd ((nI_leI (by omega) (by omega)).mp h_92) (by omega))
        refine s_iinc (μ := mX12_findHelp) (pc := 112) (c := 1) (L2 := [_, _, _, _, _, _]) dX12_findHelp_112 rfl ic_1 (Nat.le_of_ble_eq_true rfl) (by simp only [List.all_cons, List.all_nil, catL_i, catL_r, hx5, Bool.and_self]) rfl ?_
        refine r_goto (μ := mX12_findHelp) (pc := 115) (tgt := 46) dX12_findHelp_115 (by decide) ?_
        first
        | exact WP.L (by rw [nI_succ]) (ih (k + 1) (by omega) _ (nI k) (((hS3.f0 (Or.inl rfl)).f0 (Or.inr (Or.inl rfl))).f0 (Or.inr (Or.inr rfl))) (hz ▸ HV.new) _ rfl)
        | exact WP.L (by rw [nI_succ]) (ih (k + 1) (by omega) _ (nI k) hS3 (hz ▸ hV3) _ rfl)
        | exact WP.L (by rw [nI_succ]) (ih (k + 1) (by omega) _ v hS (hz ▸ hV) x5 hx5)
      · have hz : hpK s q m l H (k + 1) = (nI l, nI k, gcnt (lean s l k) q m) := if_pos ⟨hc, by have := mt (nI_leI (by omega) (by omega)).mpr h_92; omega⟩
        refine r_aload_n (μ := mX12_findHelp) (pc := 95) dX12_findHelp_95 rfl rfl rfl ?_
        refine r_iload_n (μ := mX12_findHelp) (pc := 96) dX12_findHelp_96 rfl rfl ?_
        refine r_putI (μ := mX12_findHelp) (pc := 97) dX12_findHelp_97 fwX12_199 rfl (by decide) rfl ?_
        refine r_aload_n (μ := mX12_findHelp) (pc := 100) dX12_findHelp_100 rfl rfl rfl ?_
        refine r_iload (μ := mX12_findHelp) (pc := 101) dX12_findHelp_101 rfl ?_
        refine r_putI (μ := mX12_findHelp) (pc := 103) dX12_findHelp_103 fwX12_209 rfl (by decide) rfl ?_
        refine r_aload_n (μ := mX12_findHelp) (pc := 106) dX12_findHelp_106 rfl rfl rfl ?_
        refine r_iload (μ := mX12_findHelp) (pc := 107) dX12_findHelp_107 rfl ?_
        refine r_putI (μ := mX12_findHelp) (pc := 109) dX12_findHelp_109 fwX12_206 rfl (by decide) rfl ?_
        refine s_iinc (μ := mX12_findHelp) (pc := 112) (c := 1) (L2 := [_, _, _, _, _, _]) dX12_findHelp_112 rfl ic_1 (Nat.le_of_ble_eq_true rfl) (by simp only [List.all_cons, List.all_nil, catL_i, catL_r, hx5, Bool.and_self]) rfl ?_
        refine r_goto (μ := mX12_findHelp) (pc := 115) (tgt := 46) dX12_findHelp_115 (by decide) ?_
        first
        | exact WP.L (by rw [nI_succ]) (ih (k + 1) (by omega) _ (nI k) (((hS3.f0 (Or.inl rfl)).f0 (Or.inr (Or.inl rfl))).f0 (Or.inr (Or.inr rfl))) (hz ▸ HV.new) _ rfl)
        | exact WP.L (by rw [nI_succ]) (ih (k + 1) (by omega) _ (nI k) hS3 (hz ▸ hV3) _ rfl)
        | exact WP.L (by rw [nI_succ]) (ih (k + 1) (by omega) _ v hS (hz ▸ hV) x5 hx5)

theorem lp_fhI {d : Nat} {mi : MI} {mr : MR} {Q : QT} (hM : MB mr) {s : Rw} (hs : mi 1 = s) {n m p q : Nat} (hI : Inv s n m p q) (hn0 : 0 < n) (hq : ∀ mi2, SH mi mi2 s → HV mi2 (hpR s q n m m) → Q none shM mi2 mr) :
    ∀ (j l : Nat), l + j = m → ∀ mi2, SH mi mi2 s → HV mi2 (hpR s q n m l) → ∀ x2 : Value, catL x2 = true → ∀ x3 : Value, catL x3 = true → ∀ x4 : Value, catL x4 = true → ∀ x5 : Value, catL x5 = true →  WP (d + 6) mX12_findHelp 20 [.ref 0, .int (nI l), x2, x3, x4, x5] [] shM mi2 mr 0 0 Q := by
  have hm8 := hI.m8
  have hn10 := hI.n10
  intro j
  induction j with
  | zero =>
    intro l hk mi2 hS hV x2 hx2 x3 hx3 x4 hx4 x5 hx5
    obtain rfl : l = m := by omega
    refine r_iload_n (μ := mX12_findHelp) (pc := 20) dX12_findHelp_20 rfl rfl ?_
    refine r_aload_n (μ := mX12_findHelp) (pc := 21) dX12_findHelp_21 rfl rfl rfl ?_
    refine r_getR (μ := mX12_findHelp) (pc := 22) dX12_findHelp_22 fpX12_7 rfl rfl (by decide) (hM _ _ rfl) ?_
    refine r_iconst (μ := mX12_findHelp) (pc := 25) (v := 1) dX12_findHelp_25 ic_1 ?_
    refine r_iaload (μ := mX12_findHelp) (pc := 26) (j := 1) dX12_findHelp_26 rfl rfl (by decide) (by decide) ?_
    rw [hS.1, hI.em]
    refine r_icmp_ge (μ := mX12_findHelp) (pc := 27) (tgt := 131) dX12_findHelp_27 (by decide) (fun h_27 => ?_) (fun h_27 => absurd (nI_le (Nat.le_refl _) (by omega)) h_27)
    exact r_vret (μ := mX12_findHelp) (pc := 131) dX12_findHelp_131 rfl (hq mi2 hS hV)
  | succ j ih =>
    intro l hk mi2 hS hV x2 hx2 x3 hx3 x4 hx4 x5 hx5
    have hl : l < m := by omega
    refine r_iload_n (μ := mX12_findHelp) (pc := 20) dX12_findHelp_20 rfl rfl ?_
    refine r_aload_n (μ := mX12_findHelp) (pc := 21) dX12_findHelp_21 rfl rfl rfl ?_
    refine r_getR (μ := mX12_findHelp) (pc := 22) dX12_findHelp_22 fpX12_7 rfl rfl (by decide) (hM _ _ rfl) ?_
    refine r_iconst (μ := mX12_findHelp) (pc := 25) (v := 1) dX12_findHelp_25 ic_1 ?_
    refine r_iaload (μ := mX12_findHelp) (pc := 26) (j := 1) dX12_findHelp_26 rfl rfl (by decide) (by decide) ?_
    rw [hS.1, hI.em]
    refine r_icmp_ge (μ := mX12_findHelp) (pc := 27) (tgt := 131) dX12_findHelp_27 (by decide) (fun h_27 => absurd h_27 (nI_ge (by omega) (by omega))) (fun h_27 => ?_)
    refine r_aload_n (μ := mX12_findHelp) (pc := 30) dX12_findHelp_30 rfl rfl rfl ?_
    refine r_iload_n (μ := mX12_findHelp) (pc := 31) dX12_findHelp_31 rfl rfl ?_
    refine r_iconst (μ := mX12_findHelp) (pc := 32) (v := 3) dX12_findHelp_32 ic_3 ?_
    refine vP2 (μ := mX12_findHelp) (pc := 33) (c0 := 12) (q0 := (RX12, TX12, 34)) (μ2 := mX12_of) dX12_findHelp_33 rfl rfl lkX12_90 imX12_of seX12_X12_of_X12_of mwX12_of (Nat.le_of_ble_eq_true rfl) (e_of hM hS.1 (by omega) (by decide)) ?_
    rw [hI.t hl]
    refine s_istore_n (μ := mX12_findHelp) (pc := 36) (L2 := [_, _, _, _, _, _]) dX12_findHelp_36 rfl (Nat.le_of_ble_eq_true rfl) (Nat.le_of_ble_eq_true rfl) (by simp only [List.all_cons, List.all_nil, catL_i, catL_r, hx2, hx3, hx4, hx5, Bool.and_self]) rfl ?_
    refine r_aload_n (μ := mX12_findHelp) (pc := 37) dX12_findHelp_37 rfl rfl rfl ?_
    refine r_iload_n (μ := mX12_findHelp) (pc := 38) dX12_findHelp_38 rfl rfl ?_
    refine vX1 (μ := mX12_findHelp) (pc := 39) (c0 := 12) (q0 := (RX12, TX12, 34)) (μ2 := mX12_allReached) dX12_findHelp_39 rfl rfl lkX12_149 imX12_allReached seX12_X12_allReached_X12_allReached mwX12_allReached (Nat.le_of_ble_eq_true rfl) (c_allReached hM hS.1 hI hl) (fun r_39 mi_39 h_39 => ?_)
    obtain ⟨rfl, h39⟩ := h_39
    refine s_istore_n (μ := mX12_findHelp) (pc := 42) (L2 := [_, _, _, _, _, _]) dX12_findHelp_42 rfl (Nat.le_of_ble_eq_true rfl) (Nat.le_of_ble_eq_true rfl) (by simp only [List.all_cons, List.all_nil, catL_i, catL_r, hx2, hx3, hx4, hx5, Bool.and_self]) rfl ?_
    refine r_iconst (μ := mX12_findHelp) (pc := 43) (v := 0) dX12_findHelp_43 ic_0 ?_
    refine s_istore (μ := mX12_findHelp) (pc := 44) (L2 := [_, _, _, _, _, _]) dX12_findHelp_44 (Nat.le_of_ble_eq_true rfl) (Nat.le_of_ble_eq_true rfl) (by simp only [List.all_cons, List.all_nil, catL_i, catL_r, hx2, hx3, hx4, hx5, Bool.and_self]) rfl ?_
    refine lp_fhK (mi := mi) hM hs hI hn0 hl (hpR_le s q n m l) (fun mi5 v h5 hV5 y5 hy5 => ?_) n 0 (Nat.zero_add _) _ (s (28 + 5 * l + 3)) ((hS.sb h39).ch (upd_same rfl).symm) (hV.sb h39) x5 hx5
    refine r_aload_n (μ := mX12_findHelp) (pc := 118) dX12_findHelp_118 rfl rfl rfl ?_
    refine r_iload_n (μ := mX12_findHelp) (pc := 119) dX12_findHelp_119 rfl rfl ?_
    refine r_iconst (μ := mX12_findHelp) (pc := 120) (v := 3) dX12_findHelp_120 ic_3 ?_
    refine r_iload_n (μ := mX12_findHelp) (pc := 121) dX12_findHelp_121 rfl rfl ?_
    refine vV3 (μ := mX12_findHelp) (pc := 122) (c0 := 12) (q0 := (RX12, TX12, 34)) (μ2 := mX12_sets) dX12_findHelp_122 rfl rfl lkX12_108 imX12_sets seX12_X12_sets_X12_sets mwX12_sets (Nat.le_of_ble_eq_true rfl) (c_sets hM (by omega) (by decide)) (fun mi_122 h_122 => ?_)
    subst h_122
    refine s_iinc (μ := mX12_findHelp) (pc := 125) (c := 1) (L2 := [_, _, _, _, _, _]) dX12_findHelp_125 rfl ic_1 (Nat.le_of_ble_eq_true rfl) (by simp only [List.all_cons, List.all_nil, catL_i, catL_r, hy5, Bool.and_self]) rfl ?_
    refine r_goto (μ := mX12_findHelp) (pc := 128) (tgt := 20) dX12_findHelp_128 (by decide) ?_
    exact WP.L (by rw [show nI (l + 1) = nI l + 1 from nI_succ l]) (ih (l + 1) (by omega) _ (h5.up.ch (upd_upd.trans (upd_same (hI.t hl)))) hV5.u1 _ rfl _ rfl _ rfl y5 hy5)

theorem c_findHelp {d : Nat} {mi : MI} {mr : MR} (hM : MB mr) {s : Rw} (hs : mi 1 = s) {n m p q : Nat} (hI : Inv s n m p q) (hn0 : 0 < n) : CP (d + 6) mX12_findHelp [.ref 0] shM mi mr 0 0 (PV shM mr (fun mi2 => SH mi mi2 s ∧ HV mi2 (hpR s q n m m))) := by
  refine CP.of (L := [_, _, _, _, _, _]) (by decide) rfl rfl (Nat.le_of_ble_eq_true rfl) ?_
  refine r_aload_n (μ := mX12_findHelp) (pc := 0) dX12_findHelp_0 rfl rfl rfl ?_
  refine r_iconst (μ := mX12_findHelp) (pc := 1) (v := -1) dX12_findHelp_1 ic_m1 ?_
  refine r_putI (μ := mX12_findHelp) (pc := 2) dX12_findHelp_2 fwX12_199 rfl (by decide) rfl ?_
  refine r_aload_n (μ := mX12_findHelp) (pc := 5) dX12_findHelp_5 rfl rfl rfl ?_
  refine r_aload_n (μ := mX12_findHelp) (pc := 6) dX12_findHelp_6 rfl rfl rfl ?_
  refine r_iconst (μ := mX12_findHelp) (pc := 7) (v := 0) dX12_findHelp_7 ic_0 ?_
  refine r_iconst (μ := mX12_findHelp) (pc := 8) (v := -1) dX12_findHelp_8 ic_m1 ?_
  refine vX2 (μ := mX12_findHelp) (pc := 9) (c0 := 12) (q0 := (RX12, TX12, 34)) (μ2 := mX12_reachedBut) dX12_findHelp_9 rfl rfl lkX12_186 imX12_reachedBut seX12_X12_reachedBut_X12_reachedBut mwX12_reachedBut (Nat.le_of_ble_eq_true rfl) (c_reachedBut (s := s) hM (by rw [upI_ne (by decide)]; exact hs) hI (a := 0) hn0) (fun r_9 mi_9 h_9 => ?_)
  obtain ⟨rfl, h9⟩ := h_9
  refine sP1 (μ := mX12_findHelp) (pc := 12) (μ2 := mX12_ones) dX12_findHelp_12 lkX12_203 stX12_ones mwX12_ones (Nat.le_of_ble_eq_true rfl) c_ones ?_
  rw [show onesK (rbS s q m (-1) 0) 10 = nI (gcnt s q m) from ones_bits _ 10 (Nat.le_refl _)]
  refine r_putI (μ := mX12_findHelp) (pc := 15) dX12_findHelp_15 fwX12_206 rfl (by decide) rfl ?_
  refine r_iconst (μ := mX12_findHelp) (pc := 18) (v := 0) dX12_findHelp_18 ic_0 ?_
  refine s_istore_n (μ := mX12_findHelp) (pc := 19) (L2 := [_, _, _, _, _, _]) dX12_findHelp_19 rfl (Nat.le_of_ble_eq_true rfl) (Nat.le_of_ble_eq_true rfl) rfl rfl ?_
  have hS0 := (((SH.rf hs).f0 (k := 13) (v := -1) (Or.inl rfl)).sb h9).f0 (k := 15) (v := nI (gcnt s q m)) (Or.inr (Or.inr rfl))
  refine lp_fhI hM hs hI hn0 (fun mi2 h hV => PV_i ⟨h, hV⟩) m 0 (Nat.zero_add _) _ hS0 ?_ _ rfl _ rfl _ rfl _ rfl
  exact ⟨by rw [up_ne (by decide), h9 0 (by decide) (by decide), up_eq]; rfl, fun z => absurd z (show ¬ (0 : Int32) ≤ -1 by decide), by rw [up_eq]; rfl⟩

theorem c_help_bad {d : Nat} {mi : MI} {mr : MR} (hM : MB mr) {s : Rw} (hs : mi 1 = s) {n m p q : Nat} (hI : Inv s n m p q) {w : Int32} (hb : ¬ inB w 0 2 = true) : CP (d + 2) mX12_help [.ref 0, .int w] shM mi mr 0 0 (PI (BADc) shM mi mr) := by
  refine CP.of (L := [_, _]) (by decide) rfl rfl (Nat.le_of_ble_eq_true rfl) ?_
  refine r_iload_n (μ := mX12_help) (pc := 0) dX12_help_0 rfl rfl ?_
  refine r_i2l (μ := mX12_help) (pc := 1) dX12_help_1 ?_
  refine r_lconst (μ := mX12_help) (pc := 2) (v := 0) dX12_help_2 lc_0 ?_
  refine r_ldc2 (μ := mX12_help) (pc := 3) dX12_help_3 clX12_177 ?_
  refine sP3 (μ := mX12_help) (pc := 6) (μ2 := mX12_isIn) dX12_help_6 lkX12_65 stX12_isIn mwX12_isIn (Nat.le_of_ble_eq_true rfl) (c_isInK il_0 il_2) ?_
  refine r_if_ne (μ := mX12_help) (pc := 9) (tgt := 15) dX12_help_9 (by decide) (fun h_9 => ?_) (fun h_9 => ?_)
  · have h_9 := b2i_1 h_9
    exact absurd h_9 hb
  · have h_9 := b2i_0 h_9
    refine r_ldc (μ := mX12_help) (pc := 12) dX12_help_12 ctX12_78 ?_
    exact r_iret (μ := mX12_help) (pc := 14) dX12_help_14 rfl rfl (PI_i rfl)

theorem c_help_none {d : Nat} {mi : MI} {mr : MR} (hM : MB mr) {s : Rw} (hs : mi 1 = s) {n m p q : Nat} (hI : Inv s n m p q) {w : Int32} (hw : inB w 0 2 = true) (hn0 : n = 0) : CP (d + 2) mX12_help [.ref 0, .int w] shM mi mr 0 0 (PI (NONEc) shM mi mr) := by
  refine CP.of (L := [_, _]) (by decide) rfl rfl (Nat.le_of_ble_eq_true rfl) ?_
  refine r_iload_n (μ := mX12_help) (pc := 0) dX12_help_0 rfl rfl ?_
  refine r_i2l (μ := mX12_help) (pc := 1) dX12_help_1 ?_
  refine r_lconst (μ := mX12_help) (pc := 2) (v := 0) dX12_help_2 lc_0 ?_
  refine r_ldc2 (μ := mX12_help) (pc := 3) dX12_help_3 clX12_177 ?_
  refine sP3 (μ := mX12_help) (pc := 6) (μ2 := mX12_isIn) dX12_help_6 lkX12_65 stX12_isIn mwX12_isIn (Nat.le_of_ble_eq_true rfl) (c_isInK il_0 il_2) ?_
  refine r_if_ne (μ := mX12_help) (pc := 9) (tgt := 15) dX12_help_9 (by decide) (fun h_9 => ?_) (fun h_9 => absurd h_9 (b2i_ne hw))
  refine r_aload_n (μ := mX12_help) (pc := 15) dX12_help_15 rfl rfl rfl ?_
  refine r_getR (μ := mX12_help) (pc := 16) dX12_help_16 fpX12_7 rfl rfl (by decide) (hM _ _ rfl) ?_
  refine r_iconst (μ := mX12_help) (pc := 19) (v := 0) dX12_help_19 ic_0 ?_
  refine r_iaload (μ := mX12_help) (pc := 20) (j := 0) dX12_help_20 rfl rfl (by decide) (by decide) ?_
  rw [hs, hI.en]
  refine r_if_ne (μ := mX12_help) (pc := 21) (tgt := 27) dX12_help_21 (by decide) (fun h_21 => absurd (by rw [hn0]; rfl) h_21) (fun h_21 => ?_)
  refine r_ldc (μ := mX12_help) (pc := 24) dX12_help_24 ctX12_64 ?_
  exact r_iret (μ := mX12_help) (pc := 26) dX12_help_26 rfl rfl (PI_i rfl)

theorem c_help {d : Nat} {mi : MI} {mr : MR} (hM : MB mr) {s : Rw} (hs : mi 1 = s) {n m p q : Nat} (hI : Inv s n m p q) {w : Int32} (hw : inB w 0 2 = true) (hn0 : 0 < n) : CP (d + 7) mX12_help [.ref 0, .int w] shM mi mr 0 0 (PX shM mr (fun r mi2 => r = helpS s q n m w ∧ SH mi mi2 s)) := by
  have hn10 := hI.n10; have hm8 := hI.m8; have hp6 := hI.p6; have hq14 := hI.q14
  refine CP.of (L := [_, _]) (by decide) rfl rfl (Nat.le_of_ble_eq_true rfl) ?_
  refine r_iload_n (μ := mX12_help) (pc := 0) dX12_help_0 rfl rfl ?_
  refine r_i2l (μ := mX12_help) (pc := 1) dX12_help_1 ?_
  refine r_lconst (μ := mX12_help) (pc := 2) (v := 0) dX12_help_2 lc_0 ?_
  refine r_ldc2 (μ := mX12_help) (pc := 3) dX12_help_3 clX12_177 ?_
  refine sP3 (μ := mX12_help) (pc := 6) (μ2 := mX12_isIn) dX12_help_6 lkX12_65 stX12_isIn mwX12_isIn (Nat.le_of_ble_eq_true rfl) (c_isInK il_0 il_2) ?_
  refine r_if_ne (μ := mX12_help) (pc := 9) (tgt := 15) dX12_help_9 (by decide) (fun h_9 => ?_) (fun h_9 => absurd h_9 (b2i_ne hw))
  refine r_aload_n (μ := mX12_help) (pc := 15) dX12_help_15 rfl rfl rfl ?_
  refine r_getR (μ := mX12_help) (pc := 16) dX12_help_16 fpX12_7 rfl rfl (by decide) (hM _ _ rfl) ?_
  refine r_iconst (μ := mX12_help) (pc := 19) (v := 0) dX12_help_19 ic_0 ?_
  refine r_iaload (μ := mX12_help) (pc := 20) (j := 0) dX12_help_20 rfl rfl (by decide) (by decide) ?_
  rw [hs, hI.en]
  refine r_if_ne (μ := mX12_help) (pc := 21) (tgt := 27) dX12_help_21 (by decide) (fun h_21 => ?_) (fun h_21 => absurd h_21 (nI_neC (a := n) (b := 0) rfl (by omega) (by omega) (by decide)))
  refine r_aload_n (μ := mX12_help) (pc := 27) dX12_help_27 rfl rfl rfl ?_
  refine vV0 (μ := mX12_help) (pc := 28) (c0 := 12) (q0 := (RX12, TX12, 34)) (μ2 := mX12_findHelp) dX12_help_28 rfl rfl lkX12_212 imX12_findHelp seX12_X12_findHelp_X12_findHelp mwX12_findHelp (Nat.le_of_ble_eq_true rfl) (c_findHelp hM hs hI hn0) (fun mi_28 h_28 => ?_)
  obtain ⟨hS, hV⟩ := h_28
  refine r_aload_n (μ := mX12_help) (pc := 31) dX12_help_31 rfl rfl rfl ?_
  refine r_getI (μ := mX12_help) (pc := 32) dX12_help_32 fpX12_199 rfl rfl (by decide) ?_
  rw [hV.1]
  refine r_if_ge (μ := mX12_help) (pc := 35) (tgt := 43) dX12_help_35 (by decide) (fun h_35 => ?_) (fun h_35 => ?_)
  · refine r_iload_n (μ := mX12_help) (pc := 43) dX12_help_43 rfl rfl ?_
    refine r_if_ne (μ := mX12_help) (pc := 44) (tgt := 54) dX12_help_44 (by decide) (fun h_44 => ?_) (fun h_44 => ?_)
    · refine r_iload_n (μ := mX12_help) (pc := 54) dX12_help_54 rfl rfl ?_
      refine r_iconst (μ := mX12_help) (pc := 55) (v := 1) dX12_help_55 ic_1 ?_
      refine r_icmp_ne (μ := mX12_help) (pc := 56) (tgt := 66) dX12_help_56 (by decide) (fun h_56 => ?_) (fun h_56 => ?_)
      · refine r_aload_n (μ := mX12_help) (pc := 66) dX12_help_66 rfl rfl rfl ?_
        refine r_getI (μ := mX12_help) (pc := 67) dX12_help_67 fpX12_206 rfl rfl (by decide) ?_
        rw [hV.2.2]
        exact r_iret (μ := mX12_help) (pc := 70) dX12_help_70 rfl rfl (PX_i ⟨by unfold helpS; first | (rw [if_neg h_35]; rfl) | (rw [if_pos h_35, if_pos h_44]) | (rw [if_pos h_35, if_neg h_44, if_pos h_56]) | (rw [if_pos h_35, if_neg h_44, if_neg h_56]), hS⟩)
      · refine r_aload_n (μ := mX12_help) (pc := 59) dX12_help_59 rfl rfl rfl ?_
        refine r_getI (μ := mX12_help) (pc := 60) dX12_help_60 fpX12_209 rfl rfl (by decide) ?_
        rw [hV.2.1 h_35]
        refine r_goto (μ := mX12_help) (pc := 63) (tgt := 70) dX12_help_63 (by decide) ?_
        exact r_iret (μ := mX12_help) (pc := 70) dX12_help_70 rfl rfl (PX_i ⟨by unfold helpS; first | (rw [if_neg h_35]; rfl) | (rw [if_pos h_35, if_pos h_44]) | (rw [if_pos h_35, if_neg h_44, if_pos h_56]) | (rw [if_pos h_35, if_neg h_44, if_neg h_56]), hS⟩)
    · refine r_aload_n (μ := mX12_help) (pc := 47) dX12_help_47 rfl rfl rfl ?_
      refine r_getI (μ := mX12_help) (pc := 48) dX12_help_48 fpX12_199 rfl rfl (by decide) ?_
      rw [hV.1]
      refine r_goto (μ := mX12_help) (pc := 51) (tgt := 70) dX12_help_51 (by decide) ?_
      exact r_iret (μ := mX12_help) (pc := 70) dX12_help_70 rfl rfl (PX_i ⟨by unfold helpS; first | (rw [if_neg h_35]; rfl) | (rw [if_pos h_35, if_pos h_44]) | (rw [if_pos h_35, if_neg h_44, if_pos h_56]) | (rw [if_pos h_35, if_neg h_44, if_neg h_56]), hS⟩)
  · refine r_ldc (μ := mX12_help) (pc := 38) dX12_help_38 ctX12_64 ?_
    refine r_goto (μ := mX12_help) (pc := 40) (tgt := 70) dX12_help_40 (by decide) ?_
    exact r_iret (μ := mX12_help) (pc := 70) dX12_help_70 rfl rfl (PX_i ⟨by unfold helpS; first | (rw [if_neg h_35]; rfl) | (rw [if_pos h_35, if_pos h_44]) | (rw [if_pos h_35, if_neg h_44, if_pos h_56]) | (rw [if_pos h_35, if_neg h_44, if_neg h_56]), hS⟩)

