theorem lp_g2K {d : Nat} {mi : MI} {mr : MR} {Q : QT} (hM : MB mr) {s : Rw} (hs : mi 1 = s) {n m p q : Nat} (hI : Inv s n m p q) {i l goal : Nat} (hl : l < m) (hg : goal < n) {st x5 C : Int32} (hi : i < p) {cb : Nat → Bool} (hmv : ∀ k, cb k = true → s (28 + 5 * l + 4) = 0) (hC : ∀ k, k < n → C >>> (nI k &&& 31) &&& 1 = b2i (cb k)) (h1 : anyB (g2K s n m p q i l goal cb) n = true → ∀ mi5, SB mi mi5 → Q (some (.int 1)) shM mi5 mr) (k3 : anyB (g2K s n m p q i l goal cb) n = false → ∀ mi5, SB mi mi5 → ∀ x9 : Value, catL x9 = true →  WP (d + 7) mX12_getsByTwo 3 [.ref 0, .int (nI i), .int st, .int (nI goal), .int (nI (l + 1)), .int x5, .int (nI (tN s l)), .int C, .int (nI n), x9] [] shM mi5 mr 0 0 Q) :
    ∀ (j k : Nat), k + j = n → anyB (g2K s n m p q i l goal cb) k = false → ∀ mi2, SB mi mi2 → ∀ x9 : Value, catL x9 = true →  WP (d + 7) mX12_getsByTwo 82 [.ref 0, .int (nI i), .int st, .int (nI goal), .int (nI l), .int x5, .int (nI (tN s l)), .int C, .int (nI k), x9] [] shM mi2 mr 0 0 Q := by
  have hm8 := hI.m8
  have hn10 := hI.n10
  intro j
  induction j with
  | zero =>
    intro k hk ha mi2 hS x9 hx9
    obtain rfl : k = n := by omega
    refine r_iload (μ := mX12_getsByTwo) (pc := 82) dX12_getsByTwo_82 rfl ?_
    refine r_aload_n (μ := mX12_getsByTwo) (pc := 84) dX12_getsByTwo_84 rfl rfl rfl ?_
    refine r_getR (μ := mX12_getsByTwo) (pc := 85) dX12_getsByTwo_85 fpX12_7 rfl rfl (by decide) (hM _ _ rfl) ?_
    refine r_iconst (μ := mX12_getsByTwo) (pc := 88) (v := 0) dX12_getsByTwo_88 ic_0 ?_
    refine r_iaload (μ := mX12_getsByTwo) (pc := 89) (j := 0) dX12_getsByTwo_89 rfl rfl (by decide) (by decide) ?_
    rw [hS.r1, hs, hI.en]
    refine r_icmp_ge (μ := mX12_getsByTwo) (pc := 90) (tgt := 171) dX12_getsByTwo_90 (by decide) (fun h_90 => ?_) (fun h_90 => absurd (nI_le (Nat.le_refl _) (by omega)) h_90)
    refine s_iinc (μ := mX12_getsByTwo) (pc := 171) (c := 1) (L2 := [_, _, _, _, _, _, _, _, _, _]) dX12_getsByTwo_171 rfl ic_1 (Nat.le_of_ble_eq_true rfl) (by simp only [List.all_cons, List.all_nil, catL_i, catL_r, hx9, Bool.and_self]) rfl ?_
    refine r_goto (μ := mX12_getsByTwo) (pc := 174) (tgt := 3) dX12_getsByTwo_174 (by decide) ?_
    exact WP.L (by rw [show nI (l + 1) = nI l + 1 from nI_succ l]) (k3 ha mi2 hS x9 hx9)
  | succ j ih =>
    intro k hk ha mi2 hS x9 hx9
    have hkn : k < n := by omega
    have hI2 : Inv (upd (lean s l k) (28 + 5 * l + 4) 1) n m p q := (hI.upT hl hkn).upM hl (Or.inr rfl)
    have hs2 : upI (upI mi2 1 (28 + 5 * l + 3) (nI k)) 1 (28 + 5 * l + 4) 1 1 = (upd (lean s l k) (28 + 5 * l + 4) 1) := up_r1 (up_r1 (hS.r1.trans hs))
    have hf2 : (upd (lean s l k) (28 + 5 * l + 4) 1) (28 + 5 * l + 2) = nI (fN s l) := by rw [upd_n (by omega)]; unfold lean; rw [upd_n (by omega)]; exact hI.f hl
    refine r_iload (μ := mX12_getsByTwo) (pc := 82) dX12_getsByTwo_82 rfl ?_
    refine r_aload_n (μ := mX12_getsByTwo) (pc := 84) dX12_getsByTwo_84 rfl rfl rfl ?_
    refine r_getR (μ := mX12_getsByTwo) (pc := 85) dX12_getsByTwo_85 fpX12_7 rfl rfl (by decide) (hM _ _ rfl) ?_
    refine r_iconst (μ := mX12_getsByTwo) (pc := 88) (v := 0) dX12_getsByTwo_88 ic_0 ?_
    refine r_iaload (μ := mX12_getsByTwo) (pc := 89) (j := 0) dX12_getsByTwo_89 rfl rfl (by decide) (by decide) ?_
    rw [hS.r1, hs, hI.en]
    refine r_icmp_ge (μ := mX12_getsByTwo) (pc := 90) (tgt := 171) dX12_getsByTwo_90 (by decide) (fun h_90 => absurd h_90 (nI_ge (by omega) (by omega))) (fun h_90 => ?_)
    refine r_iload (μ := mX12_getsByTwo) (pc := 93) dX12_getsByTwo_93 rfl ?_
    refine r_iload (μ := mX12_getsByTwo) (pc := 95) dX12_getsByTwo_95 rfl ?_
    refine r_ishr (μ := mX12_getsByTwo) (pc := 97) dX12_getsByTwo_97 ?_
    refine r_iconst (μ := mX12_getsByTwo) (pc := 98) (v := 1) dX12_getsByTwo_98 ic_1 ?_
    refine r_iand (μ := mX12_getsByTwo) (pc := 99) dX12_getsByTwo_99 ?_
    rw [hC k hkn]
    refine r_iconst (μ := mX12_getsByTwo) (pc := 100) (v := 1) dX12_getsByTwo_100 ic_1 ?_
    refine r_icmp_ne (μ := mX12_getsByTwo) (pc := 101) (tgt := 165) dX12_getsByTwo_101 (by decide) (fun h_101 => ?_) (fun h_101 => ?_)
    · have hc : cb k = false := by cases hz : cb k; (· rfl); (· rw [hz] at h_101; exact absurd rfl h_101)
      refine s_iinc (μ := mX12_getsByTwo) (pc := 165) (c := 1) (L2 := [_, _, _, _, _, _, _, _, _, _]) dX12_getsByTwo_165 rfl ic_1 (Nat.le_of_ble_eq_true rfl) (by simp only [List.all_cons, List.all_nil, catL_i, catL_r, hx9, Bool.and_self]) rfl ?_
      refine r_goto (μ := mX12_getsByTwo) (pc := 168) (tgt := 82) dX12_getsByTwo_168 (by decide) ?_
      first
      | exact WP.L (by rw [nI_succ]) (ih (k + 1) (by omega) (anyB_f ha (by unfold g2K; rw [hr, Bool.and_false])) _ hb _ rfl)
      | exact WP.L (by rw [nI_succ]) (ih (k + 1) (by omega) (anyB_f ha (by unfold g2K; rw [hc]; rfl)) mi2 hS x9 hx9)
    · have hc : cb k = true := by cases hz : cb k; (· rw [hz] at h_101; exact absurd h_101 (by decide)); (· rfl)
      refine r_aload_n (μ := mX12_getsByTwo) (pc := 104) dX12_getsByTwo_104 rfl rfl rfl ?_
      refine r_iload (μ := mX12_getsByTwo) (pc := 105) dX12_getsByTwo_105 rfl ?_
      refine r_iconst (μ := mX12_getsByTwo) (pc := 107) (v := 3) dX12_getsByTwo_107 ic_3 ?_
      refine r_iload (μ := mX12_getsByTwo) (pc := 108) dX12_getsByTwo_108 rfl ?_
      refine vV3 (μ := mX12_getsByTwo) (pc := 110) (c0 := 12) (q0 := (RX12, TX12, 34)) (μ2 := mX12_sets) dX12_getsByTwo_110 rfl rfl lkX12_108 imX12_sets seX12_X12_sets_X12_sets mwX12_sets (Nat.le_of_ble_eq_true rfl) (c_sets hM (by omega) (by decide)) (fun mi_110 h_110 => ?_)
      subst h_110
      refine r_aload_n (μ := mX12_getsByTwo) (pc := 113) dX12_getsByTwo_113 rfl rfl rfl ?_
      refine r_iload (μ := mX12_getsByTwo) (pc := 114) dX12_getsByTwo_114 rfl ?_
      refine r_iconst (μ := mX12_getsByTwo) (pc := 116) (v := 4) dX12_getsByTwo_116 ic_4 ?_
      refine r_iconst (μ := mX12_getsByTwo) (pc := 117) (v := 1) dX12_getsByTwo_117 ic_1 ?_
      refine vV3 (μ := mX12_getsByTwo) (pc := 118) (c0 := 12) (q0 := (RX12, TX12, 34)) (μ2 := mX12_sets) dX12_getsByTwo_118 rfl rfl lkX12_108 imX12_sets seX12_X12_sets_X12_sets mwX12_sets (Nat.le_of_ble_eq_true rfl) (c_sets hM (by omega) (by decide)) (fun mi_118 h_118 => ?_)
      subst h_118
      refine r_aload_n (μ := mX12_getsByTwo) (pc := 121) dX12_getsByTwo_121 rfl rfl rfl ?_
      refine r_iload_n (μ := mX12_getsByTwo) (pc := 122) dX12_getsByTwo_122 rfl rfl ?_
      refine r_aload_n (μ := mX12_getsByTwo) (pc := 123) dX12_getsByTwo_123 rfl rfl rfl ?_
      refine r_aload_n (μ := mX12_getsByTwo) (pc := 124) dX12_getsByTwo_124 rfl rfl rfl ?_
      refine r_iload (μ := mX12_getsByTwo) (pc := 125) dX12_getsByTwo_125 rfl ?_
      refine r_iconst (μ := mX12_getsByTwo) (pc := 127) (v := 2) dX12_getsByTwo_127 ic_2 ?_
      refine vP2 (μ := mX12_getsByTwo) (pc := 128) (c0 := 12) (q0 := (RX12, TX12, 34)) (μ2 := mX12_of) dX12_getsByTwo_128 rfl rfl lkX12_90 imX12_of seX12_X12_of_X12_of mwX12_of (Nat.le_of_ble_eq_true rfl) (e_of hM hs2 (by omega) (by decide)) ?_
      rw [hf2]
      refine r_iconst (μ := mX12_getsByTwo) (pc := 131) (v := -1) dX12_getsByTwo_131 ic_m1 ?_
      refine vX2 (μ := mX12_getsByTwo) (pc := 132) (c0 := 12) (q0 := (RX12, TX12, 34)) (μ2 := mX12_reachedBut) dX12_getsByTwo_132 rfl rfl lkX12_186 imX12_reachedBut seX12_X12_reachedBut_X12_reachedBut mwX12_reachedBut (Nat.le_of_ble_eq_true rfl) (c_reachedBut hM hs2 hI2 (hI.fn hl)) (fun r_132 mi_132 h_132 => ?_)
      obtain ⟨rfl, h132⟩ := h_132
      refine r_iload_n (μ := mX12_getsByTwo) (pc := 135) dX12_getsByTwo_135 rfl rfl ?_
      refine vX3 (μ := mX12_getsByTwo) (pc := 136) (c0 := 12) (q0 := (RX12, TX12, 34)) (μ2 := mX12_getsByOne) dX12_getsByTwo_136 rfl rfl lkX12_192 imX12_getsByOne seX12_X12_getsByOne_X12_getsByOne mwX12_getsByOne (Nat.le_of_ble_eq_true rfl) (c_getsByOne hM (h132.r1.trans hs2) hI2 hi hg (P := rbB (upd (lean s l k) (28 + 5 * l + 4) 1) q m (-1) (fN s l))) (fun r_136 mi_136 h_136 => ?_)
      obtain ⟨rfl, h136⟩ := h_136
      refine s_istore (μ := mX12_getsByTwo) (pc := 139) (L2 := [_, _, _, _, _, _, _, _, _, _]) dX12_getsByTwo_139 (Nat.le_of_ble_eq_true rfl) (Nat.le_of_ble_eq_true rfl) (by simp only [List.all_cons, List.all_nil, catL_i, catL_r, hx9, Bool.and_self]) rfl ?_
      refine r_aload_n (μ := mX12_getsByTwo) (pc := 141) dX12_getsByTwo_141 rfl rfl rfl ?_
      refine r_iload (μ := mX12_getsByTwo) (pc := 142) dX12_getsByTwo_142 rfl ?_
      refine r_iconst (μ := mX12_getsByTwo) (pc := 144) (v := 3) dX12_getsByTwo_144 ic_3 ?_
      refine r_iload (μ := mX12_getsByTwo) (pc := 145) dX12_getsByTwo_145 rfl ?_
      refine vV3 (μ := mX12_getsByTwo) (pc := 147) (c0 := 12) (q0 := (RX12, TX12, 34)) (μ2 := mX12_sets) dX12_getsByTwo_147 rfl rfl lkX12_108 imX12_sets seX12_X12_sets_X12_sets mwX12_sets (Nat.le_of_ble_eq_true rfl) (c_sets hM (by omega) (by decide)) (fun mi_147 h_147 => ?_)
      subst h_147
      refine r_aload_n (μ := mX12_getsByTwo) (pc := 150) dX12_getsByTwo_150 rfl rfl rfl ?_
      refine r_iload (μ := mX12_getsByTwo) (pc := 151) dX12_getsByTwo_151 rfl ?_
      refine r_iconst (μ := mX12_getsByTwo) (pc := 153) (v := 4) dX12_getsByTwo_153 ic_4 ?_
      refine r_iconst (μ := mX12_getsByTwo) (pc := 154) (v := 0) dX12_getsByTwo_154 ic_0 ?_
      refine vV3 (μ := mX12_getsByTwo) (pc := 155) (c0 := 12) (q0 := (RX12, TX12, 34)) (μ2 := mX12_sets) dX12_getsByTwo_155 rfl rfl lkX12_108 imX12_sets seX12_X12_sets_X12_sets mwX12_sets (Nat.le_of_ble_eq_true rfl) (c_sets hM (by omega) (by decide)) (fun mi_155 h_155 => ?_)
      subst h_155
      have hb := sb_back2 hS hs (h132.tr h136) (hI.t hl) (hmv k hc) (by omega)
      refine r_iload (μ := mX12_getsByTwo) (pc := 158) dX12_getsByTwo_158 rfl ?_
      refine r_if_eq (μ := mX12_getsByTwo) (pc := 160) (tgt := 165) dX12_getsByTwo_160 (by decide) (fun h_160 => ?_) (fun h_160 => ?_)
      · have hr := b2i_0 h_160
        refine s_iinc (μ := mX12_getsByTwo) (pc := 165) (c := 1) (L2 := [_, _, _, _, _, _, _, _, _, _]) dX12_getsByTwo_165 rfl ic_1 (Nat.le_of_ble_eq_true rfl) (by simp only [List.all_cons, List.all_nil, catL_i, catL_r, hx9, Bool.and_self]) rfl ?_
        refine r_goto (μ := mX12_getsByTwo) (pc := 168) (tgt := 82) dX12_getsByTwo_168 (by decide) ?_
        first
        | exact WP.L (by rw [nI_succ]) (ih (k + 1) (by omega) (anyB_f ha (by unfold g2K; rw [hr, Bool.and_false])) _ hb _ rfl)
        | exact WP.L (by rw [nI_succ]) (ih (k + 1) (by omega) (anyB_f ha (by unfold g2K; rw [hc]; rfl)) mi2 hS x9 hx9)
      · have hr := b2i_1 h_160
        refine r_iconst (μ := mX12_getsByTwo) (pc := 163) (v := 1) dX12_getsByTwo_163 ic_1 ?_
        exact r_iret (μ := mX12_getsByTwo) (pc := 164) dX12_getsByTwo_164 rfl rfl (h1 (anyB_t (j := k) (by unfold g2K; rw [hc, hr]; rfl) hkn) _ hb)

theorem lp_g2M {d : Nat} {mi : MI} {mr : MR} {Q : QT} (hM : MB mr) {s : Rw} (hs : mi 1 = s) {n m p q : Nat} (hI : Inv s n m p q) {i l goal : Nat} (hi : i < p) (hl : l < m) (hg : goal < n) {P : Nat → Bool} {mi2 : MI} (hS : SB mi mi2) (h1 : g2L s n m p q i P goal l = true → ∀ mi5, SB mi mi5 → Q (some (.int 1)) shM mi5 mr) (k3 : g2L s n m p q i P goal l = false → ∀ mi5, SB mi mi5 → ∀ x5 : Value, catL x5 = true → ∀ x6 : Value, catL x6 = true → ∀ x7 : Value, catL x7 = true → ∀ x8 : Value, catL x8 = true → ∀ x9 : Value, catL x9 = true →  WP (d + 7) mX12_getsByTwo 3 [.ref 0, .int (nI i), .int (bitsB P 10), .int (nI goal), .int (nI (l + 1)), x5, x6, x7, x8, x9] [] shM mi5 mr 0 0 Q) {x5 x6 x7 x8 x9 : Value} (hx5 : catL x5 = true) (hx6 : catL x6 = true) (hx7 : catL x7 = true) (hx8 : catL x8 = true) (hx9 : catL x9 = true) :
    WP (d + 7) mX12_getsByTwo 44 [.ref 0, .int (nI i), .int (bitsB P 10), .int (nI goal), .int (nI l), x5, x6, x7, x8, x9] [.int (b2i (P (fN s l) && thrS s p q i l))] shM mi2 mr 0 0 Q := by
  have hm8 := hI.m8
  have hn10 := hI.n10
  have hf := hI.fn hl
  have ht := hI.tn hl
  refine s_istore (μ := mX12_getsByTwo) (pc := 44) (L2 := [_, _, _, _, _, _, _, _, _, _]) dX12_getsByTwo_44 (Nat.le_of_ble_eq_true rfl) (Nat.le_of_ble_eq_true rfl) (by simp only [List.all_cons, List.all_nil, catL_i, catL_r, hx5, hx6, hx7, hx8, hx9, Bool.and_self]) rfl ?_
  refine r_aload_n (μ := mX12_getsByTwo) (pc := 46) dX12_getsByTwo_46 rfl rfl rfl ?_
  refine r_iload (μ := mX12_getsByTwo) (pc := 47) dX12_getsByTwo_47 rfl ?_
  refine r_iconst (μ := mX12_getsByTwo) (pc := 49) (v := 3) dX12_getsByTwo_49 ic_3 ?_
  refine vP2 (μ := mX12_getsByTwo) (pc := 50) (c0 := 12) (q0 := (RX12, TX12, 34)) (μ2 := mX12_of) dX12_getsByTwo_50 rfl rfl lkX12_90 imX12_of seX12_X12_of_X12_of mwX12_of (Nat.le_of_ble_eq_true rfl) (e_of hM (hS.r1.trans hs) (by omega) (by decide)) ?_
  rw [hI.t hl]
  refine s_istore (μ := mX12_getsByTwo) (pc := 53) (L2 := [_, _, _, _, _, _, _, _, _, _]) dX12_getsByTwo_53 (Nat.le_of_ble_eq_true rfl) (Nat.le_of_ble_eq_true rfl) (by simp only [List.all_cons, List.all_nil, catL_i, catL_r, hx5, hx6, hx7, hx8, hx9, Bool.and_self]) rfl ?_
  refine r_iload (μ := mX12_getsByTwo) (pc := 55) dX12_getsByTwo_55 rfl ?_
  refine r_if_eq (μ := mX12_getsByTwo) (pc := 57) (tgt := 76) dX12_getsByTwo_57 (by decide) (fun h_57 => ?_) (fun h_57 => ?_)
  · have hb := b2i_0 h_57
    have hS2 := hS
    have hC : ∀ k, k < n → (0 : Int32) >>> (nI k &&& 31) &&& 1 = b2i ((P (fN s l) && thrS s p q i l) && (rchS s q l k && !decide (k = tN s l))) := fun k hk => by rw [zero_at (by omega), hb]; rfl
    refine r_iconst (μ := mX12_getsByTwo) (pc := 76) (v := 0) dX12_getsByTwo_76 ic_0 ?_
    refine s_istore (μ := mX12_getsByTwo) (pc := 77) (L2 := [_, _, _, _, _, _, _, _, _, _]) dX12_getsByTwo_77 (Nat.le_of_ble_eq_true rfl) (Nat.le_of_ble_eq_true rfl) (by simp only [List.all_cons, List.all_nil, catL_i, catL_r, hx5, hx6, hx7, hx8, hx9, Bool.and_self]) rfl ?_
    refine r_iconst (μ := mX12_getsByTwo) (pc := 79) (v := 0) dX12_getsByTwo_79 ic_0 ?_
    refine s_istore (μ := mX12_getsByTwo) (pc := 80) (L2 := [_, _, _, _, _, _, _, _, _, _]) dX12_getsByTwo_80 (Nat.le_of_ble_eq_true rfl) (Nat.le_of_ble_eq_true rfl) (by simp only [List.all_cons, List.all_nil, catL_i, catL_r, hx5, hx6, hx7, hx8, hx9, Bool.and_self]) rfl ?_
    exact lp_g2K (mi := mi) hM hs hI hl hg hi (fun k hk => by simp only [Bool.and_eq_true] at hk; exact thrS_mv hI hl hk.1.2) hC h1 (fun hr mi5 h5 y9 hy9 => k3 hr mi5 h5 _ rfl _ rfl _ rfl _ rfl y9 hy9) n 0 (Nat.zero_add _) rfl _ hS2 x9 hx9
  · have hb := b2i_1 h_57
    refine r_aload_n (μ := mX12_getsByTwo) (pc := 60) dX12_getsByTwo_60 rfl rfl rfl ?_
    refine r_iload (μ := mX12_getsByTwo) (pc := 61) dX12_getsByTwo_61 rfl ?_
    refine vX1 (μ := mX12_getsByTwo) (pc := 63) (c0 := 12) (q0 := (RX12, TX12, 34)) (μ2 := mX12_allReached) dX12_getsByTwo_63 rfl rfl lkX12_149 imX12_allReached seX12_X12_allReached_X12_allReached mwX12_allReached (Nat.le_of_ble_eq_true rfl) (c_allReached hM (hS.r1.trans hs) hI hl) (fun r_63 mi_63 h_63 => ?_)
    obtain ⟨rfl, h63⟩ := h_63
    refine r_iconst (μ := mX12_getsByTwo) (pc := 66) (v := 1) dX12_getsByTwo_66 ic_1 ?_
    refine r_iload (μ := mX12_getsByTwo) (pc := 67) dX12_getsByTwo_67 rfl ?_
    refine r_ishl (μ := mX12_getsByTwo) (pc := 69) dX12_getsByTwo_69 ?_
    refine r_iconst (μ := mX12_getsByTwo) (pc := 70) (v := -1) dX12_getsByTwo_70 ic_m1 ?_
    refine r_ixor (μ := mX12_getsByTwo) (pc := 71) dX12_getsByTwo_71 ?_
    refine r_iand (μ := mX12_getsByTwo) (pc := 72) dX12_getsByTwo_72 ?_
    have hS2 := hS.tr h63
    rw [bits_nd (by omega) (by omega)]
    have hC : ∀ k, k < n → bitsB (fun k => rchS s q l k && !decide (k = tN s l)) n >>> (nI k &&& 31) &&& 1 = b2i ((P (fN s l) && thrS s p q i l) && (rchS s q l k && !decide (k = tN s l))) := fun k hk => by rw [bits_at hk (by omega), hb]; rfl
    refine r_goto (μ := mX12_getsByTwo) (pc := 73) (tgt := 77) dX12_getsByTwo_73 (by decide) ?_
    refine s_istore (μ := mX12_getsByTwo) (pc := 77) (L2 := [_, _, _, _, _, _, _, _, _, _]) dX12_getsByTwo_77 (Nat.le_of_ble_eq_true rfl) (Nat.le_of_ble_eq_true rfl) (by simp only [List.all_cons, List.all_nil, catL_i, catL_r, hx5, hx6, hx7, hx8, hx9, Bool.and_self]) rfl ?_
    refine r_iconst (μ := mX12_getsByTwo) (pc := 79) (v := 0) dX12_getsByTwo_79 ic_0 ?_
    refine s_istore (μ := mX12_getsByTwo) (pc := 80) (L2 := [_, _, _, _, _, _, _, _, _, _]) dX12_getsByTwo_80 (Nat.le_of_ble_eq_true rfl) (Nat.le_of_ble_eq_true rfl) (by simp only [List.all_cons, List.all_nil, catL_i, catL_r, hx5, hx6, hx7, hx8, hx9, Bool.and_self]) rfl ?_
    exact lp_g2K (mi := mi) hM hs hI hl hg hi (fun k hk => by simp only [Bool.and_eq_true] at hk; exact thrS_mv hI hl hk.1.2) hC h1 (fun hr mi5 h5 y9 hy9 => k3 hr mi5 h5 _ rfl _ rfl _ rfl _ rfl y9 hy9) n 0 (Nat.zero_add _) rfl _ hS2 x9 hx9

theorem lp_g2I {d : Nat} {mi : MI} {mr : MR} {Q : QT} (hM : MB mr) {s : Rw} (hs : mi 1 = s) {n m p q : Nat} (hI : Inv s n m p q) {i goal : Nat} (hi : i < p) (hg : goal < n) {P : Nat → Bool} (hq : ∀ mi2, SB mi mi2 → Q (some (.int (b2i (g2S s n m p q i P goal)))) shM mi2 mr) :
    ∀ (j l : Nat), l + j = m → anyB (g2L s n m p q i P goal) l = false → ∀ mi2, SB mi mi2 → ∀ x5 : Value, catL x5 = true → ∀ x6 : Value, catL x6 = true → ∀ x7 : Value, catL x7 = true → ∀ x8 : Value, catL x8 = true → ∀ x9 : Value, catL x9 = true →  WP (d + 7) mX12_getsByTwo 3 [.ref 0, .int (nI i), .int (bitsB P 10), .int (nI goal), .int (nI l), x5, x6, x7, x8, x9] [] shM mi2 mr 0 0 Q := by
  have hm8 := hI.m8
  have hn10 := hI.n10
  have hp6 := hI.p6
  intro j
  induction j with
  | zero =>
    intro l hk ha mi2 hS x5 hx5 x6 hx6 x7 hx7 x8 hx8 x9 hx9
    obtain rfl : l = m := by omega
    have hr : b2i (g2S s n l p q i P goal) = 0 := by unfold g2S; rw [ha]; rfl
    refine r_iload (μ := mX12_getsByTwo) (pc := 3) dX12_getsByTwo_3 rfl ?_
    refine r_aload_n (μ := mX12_getsByTwo) (pc := 5) dX12_getsByTwo_5 rfl rfl rfl ?_
    refine r_getR (μ := mX12_getsByTwo) (pc := 6) dX12_getsByTwo_6 fpX12_7 rfl rfl (by decide) (hM _ _ rfl) ?_
    refine r_iconst (μ := mX12_getsByTwo) (pc := 9) (v := 1) dX12_getsByTwo_9 ic_1 ?_
    refine r_iaload (μ := mX12_getsByTwo) (pc := 10) (j := 1) dX12_getsByTwo_10 rfl rfl (by decide) (by decide) ?_
    rw [hS.r1, hs, hI.em]
    refine r_icmp_ge (μ := mX12_getsByTwo) (pc := 11) (tgt := 177) dX12_getsByTwo_11 (by decide) (fun h_11 => ?_) (fun h_11 => absurd (nI_le (Nat.le_refl _) (by omega)) h_11)
    refine r_iconst (μ := mX12_getsByTwo) (pc := 177) (v := 0) dX12_getsByTwo_177 ic_0 ?_
    exact r_iret (μ := mX12_getsByTwo) (pc := 178) dX12_getsByTwo_178 rfl rfl (hr ▸ hq _ hS)
  | succ j ih =>
    intro l hk ha mi2 hS x5 hx5 x6 hx6 x7 hx7 x8 hx8 x9 hx9
    have hl : l < m := by omega
    have hf := hI.fn hl
    have ht := hI.tn hl
    refine r_iload (μ := mX12_getsByTwo) (pc := 3) dX12_getsByTwo_3 rfl ?_
    refine r_aload_n (μ := mX12_getsByTwo) (pc := 5) dX12_getsByTwo_5 rfl rfl rfl ?_
    refine r_getR (μ := mX12_getsByTwo) (pc := 6) dX12_getsByTwo_6 fpX12_7 rfl rfl (by decide) (hM _ _ rfl) ?_
    refine r_iconst (μ := mX12_getsByTwo) (pc := 9) (v := 1) dX12_getsByTwo_9 ic_1 ?_
    refine r_iaload (μ := mX12_getsByTwo) (pc := 10) (j := 1) dX12_getsByTwo_10 rfl rfl (by decide) (by decide) ?_
    rw [hS.r1, hs, hI.em]
    refine r_icmp_ge (μ := mX12_getsByTwo) (pc := 11) (tgt := 177) dX12_getsByTwo_11 (by decide) (fun h_11 => absurd h_11 (nI_ge (by omega) (by omega))) (fun h_11 => ?_)
    refine r_iload_n (μ := mX12_getsByTwo) (pc := 14) dX12_getsByTwo_14 rfl rfl ?_
    refine r_aload_n (μ := mX12_getsByTwo) (pc := 15) dX12_getsByTwo_15 rfl rfl rfl ?_
    refine r_iload (μ := mX12_getsByTwo) (pc := 16) dX12_getsByTwo_16 rfl ?_
    refine r_iconst (μ := mX12_getsByTwo) (pc := 18) (v := 2) dX12_getsByTwo_18 ic_2 ?_
    refine vP2 (μ := mX12_getsByTwo) (pc := 19) (c0 := 12) (q0 := (RX12, TX12, 34)) (μ2 := mX12_of) dX12_getsByTwo_19 rfl rfl lkX12_90 imX12_of seX12_X12_of_X12_of mwX12_of (Nat.le_of_ble_eq_true rfl) (e_of hM (hS.r1.trans hs) (by omega) (by decide)) ?_
    rw [hI.f hl]
    refine r_ishr (μ := mX12_getsByTwo) (pc := 22) dX12_getsByTwo_22 ?_
    refine r_iconst (μ := mX12_getsByTwo) (pc := 23) (v := 1) dX12_getsByTwo_23 ic_1 ?_
    refine r_iand (μ := mX12_getsByTwo) (pc := 24) dX12_getsByTwo_24 ?_
    rw [bits_at (by omega) (by decide)]
    refine r_iconst (μ := mX12_getsByTwo) (pc := 25) (v := 1) dX12_getsByTwo_25 ic_1 ?_
    refine r_icmp_ne (μ := mX12_getsByTwo) (pc := 26) (tgt := 43) dX12_getsByTwo_26 (by decide) (fun h_26 => ?_) (fun h_26 => ?_)
    · have hb : (P (fN s l) && thrS s p q i l) = false := by cases hz : P (fN s l); (· rfl); (· rw [hz] at h_26; exact absurd rfl h_26)
      have hS2 := hS
      refine r_iconst (μ := mX12_getsByTwo) (pc := 43) (v := 0) dX12_getsByTwo_43 ic_0 ?_
      refine WP.S (show _ = [Value.int (b2i (P (fN s l) && thrS s p q i l))] by rw [hb]; rfl) ?_
      exact lp_g2M hM hs hI hi hl hg hS2 (fun hr mi5 h5 => (show b2i (g2S s n m p q i P goal) = 1 by unfold g2S; rw [anyB_t (f := g2L s n m p q i P goal) hr hl]; rfl) ▸ hq mi5 h5) (fun hr => ih (l + 1) (by omega) (anyB_f ha hr)) hx5 hx6 hx7 hx8 hx9
    · have hP : P (fN s l) = true := by cases hz : P (fN s l); (· rw [hz] at h_26; exact absurd h_26 (by decide)); (· rfl)
      refine r_aload_n (μ := mX12_getsByTwo) (pc := 29) dX12_getsByTwo_29 rfl rfl rfl ?_
      refine r_iload_n (μ := mX12_getsByTwo) (pc := 30) dX12_getsByTwo_30 rfl rfl ?_
      refine r_iload (μ := mX12_getsByTwo) (pc := 31) dX12_getsByTwo_31 rfl ?_
      refine vX2 (μ := mX12_getsByTwo) (pc := 33) (c0 := 12) (q0 := (RX12, TX12, 34)) (μ2 := mX12_mayThere) dX12_getsByTwo_33 rfl rfl lkX12_162 imX12_mayThere seX12_X12_mayThere_X12_mayThere mwX12_mayThere (Nat.le_of_ble_eq_true rfl) (c_mayThere hM (hS.r1.trans hs) hI hi hl) (fun r_33 mi_33 h_33 => ?_)
      obtain ⟨rfl, h33⟩ := h_33
      refine r_if_eq (μ := mX12_getsByTwo) (pc := 36) (tgt := 43) dX12_getsByTwo_36 (by decide) (fun h_36 => ?_) (fun h_36 => ?_)
      · have h_36 := b2i_0 h_36
        have hb : (P (fN s l) && thrS s p q i l) = false := by rw [h_36, Bool.and_false]
        have hS2 := hS.tr h33
        refine r_iconst (μ := mX12_getsByTwo) (pc := 43) (v := 0) dX12_getsByTwo_43 ic_0 ?_
        refine WP.S (show _ = [Value.int (b2i (P (fN s l) && thrS s p q i l))] by rw [hb]; rfl) ?_
        exact lp_g2M hM hs hI hi hl hg hS2 (fun hr mi5 h5 => (show b2i (g2S s n m p q i P goal) = 1 by unfold g2S; rw [anyB_t (f := g2L s n m p q i P goal) hr hl]; rfl) ▸ hq mi5 h5) (fun hr => ih (l + 1) (by omega) (anyB_f ha hr)) hx5 hx6 hx7 hx8 hx9
      · have h_36 := b2i_1 h_36
        have hb : (P (fN s l) && thrS s p q i l) = true := by rw [h_36, hP]; rfl
        have hS2 := hS.tr h33
        refine r_iconst (μ := mX12_getsByTwo) (pc := 39) (v := 1) dX12_getsByTwo_39 ic_1 ?_
        refine r_goto (μ := mX12_getsByTwo) (pc := 40) (tgt := 44) dX12_getsByTwo_40 (by decide) ?_
        refine WP.S (show _ = [Value.int (b2i (P (fN s l) && thrS s p q i l))] by rw [hb]; rfl) ?_
        exact lp_g2M hM hs hI hi hl hg hS2 (fun hr mi5 h5 => (show b2i (g2S s n m p q i P goal) = 1 by unfold g2S; rw [anyB_t (f := g2L s n m p q i P goal) hr hl]; rfl) ▸ hq mi5 h5) (fun hr => ih (l + 1) (by omega) (anyB_f ha hr)) hx5 hx6 hx7 hx8 hx9

theorem c_getsByTwo {d : Nat} {mi : MI} {mr : MR} (hM : MB mr) {s : Rw} (hs : mi 1 = s) {n m p q : Nat} (hI : Inv s n m p q) {i goal : Nat} (hi : i < p) (hg : goal < n) {P : Nat → Bool} : CP (d + 7) mX12_getsByTwo [.ref 0, .int (nI i), .int (bitsB P 10), .int (nI goal)] shM mi mr 0 0 (PX shM mr (fun r mi2 => r = b2i (g2S s n m p q i P goal) ∧ SB mi mi2)) := by
  refine CP.of (L := [_, _, _, _, _, _, _, _, _, _]) (by decide) rfl rfl (Nat.le_of_ble_eq_true rfl) ?_
  refine r_iconst (μ := mX12_getsByTwo) (pc := 0) (v := 0) dX12_getsByTwo_0 ic_0 ?_
  refine s_istore (μ := mX12_getsByTwo) (pc := 1) (L2 := [_, _, _, _, _, _, _, _, _, _]) dX12_getsByTwo_1 (Nat.le_of_ble_eq_true rfl) (Nat.le_of_ble_eq_true rfl) rfl rfl ?_
  exact lp_g2I hM hs hI hi hg (fun mi2 h => PX_i ⟨rfl, h⟩) m 0 (Nat.zero_add _) rfl mi (SB.rf mi) _ rfl _ rfl _ rfl _ rfl _ rfl

theorem c_fewest_bad {d : Nat} {mi : MI} {mr : MR} (hM : MB mr) {s : Rw} (hs : mi 1 = s) {n m p q : Nat} (hI : Inv s n m p q) {x y : Int32} (hb : ¬ (inR x p = true ∧ inR y n = true)) : CP (d + 2) mX12_fewest [.ref 0, .int x, .int y] shM mi mr 0 0 (PI (BADc) shM mi mr) := by
  refine CP.of (L := [_, _, _, _]) (by decide) rfl rfl (Nat.le_of_ble_eq_true rfl) ?_
  refine r_aload_n (μ := mX12_fewest) (pc := 0) dX12_fewest_0 rfl rfl rfl ?_
  refine r_iload_n (μ := mX12_fewest) (pc := 1) dX12_fewest_1 rfl rfl ?_
  refine vP1 (μ := mX12_fewest) (pc := 2) (c0 := 12) (q0 := (RX12, TX12, 34)) (μ2 := mX12_isPerson) dX12_fewest_2 rfl rfl lkX12_156 imX12_isPerson seX12_X12_isPerson_X12_isPerson mwX12_isPerson (Nat.le_of_ble_eq_true rfl) (e_isPerson hM hs hI) ?_
  refine r_if_eq (μ := mX12_fewest) (pc := 5) (tgt := 16) dX12_fewest_5 (by decide) (fun h_5 => ?_) (fun h_5 => ?_)
  · have h_5 := b2i_0 h_5
    refine r_ldc (μ := mX12_fewest) (pc := 16) dX12_fewest_16 ctX12_78 ?_
    exact r_iret (μ := mX12_fewest) (pc := 18) dX12_fewest_18 rfl rfl (PI_i rfl)
  · have h_5 := b2i_1 h_5
    refine r_aload_n (μ := mX12_fewest) (pc := 8) dX12_fewest_8 rfl rfl rfl ?_
    refine r_iload_n (μ := mX12_fewest) (pc := 9) dX12_fewest_9 rfl rfl ?_
    refine vP1 (μ := mX12_fewest) (pc := 10) (c0 := 12) (q0 := (RX12, TX12, 34)) (μ2 := mX12_isLedge) dX12_fewest_10 rfl rfl lkX12_84 imX12_isLedge seX12_X12_isLedge_X12_isLedge mwX12_isLedge (Nat.le_of_ble_eq_true rfl) (e_isLedge hM hs hI) ?_
    refine r_if_ne (μ := mX12_fewest) (pc := 13) (tgt := 19) dX12_fewest_13 (by decide) (fun h_13 => ?_) (fun h_13 => ?_)
    · have h_13 := b2i_1 h_13
      exact absurd ⟨h_5, h_13⟩ hb
    · have h_13 := b2i_0 h_13
      refine r_ldc (μ := mX12_fewest) (pc := 16) dX12_fewest_16 ctX12_78 ?_
      exact r_iret (μ := mX12_fewest) (pc := 18) dX12_fewest_18 rfl rfl (PI_i rfl)

theorem c_fewest {d : Nat} {mi : MI} {mr : MR} (hM : MB mr) {s : Rw} (hs : mi 1 = s) {n m p q : Nat} (hI : Inv s n m p q) {i g : Nat} (hi : i < p) (hg : g < n) : CP (d + 8) mX12_fewest [.ref 0, .int (nI i), .int (nI g)] shM mi mr 0 0 (PX shM mr (fun r mi2 => r = fewS s n m p q i g ∧ SB mi mi2)) := by
  have hn10 := hI.n10; have hm8 := hI.m8; have hp6 := hI.p6; have hq14 := hI.q14
  refine CP.of (L := [_, _, _, _]) (by decide) rfl rfl (Nat.le_of_ble_eq_true rfl) ?_
  refine r_aload_n (μ := mX12_fewest) (pc := 0) dX12_fewest_0 rfl rfl rfl ?_
  refine r_iload_n (μ := mX12_fewest) (pc := 1) dX12_fewest_1 rfl rfl ?_
  refine vP1 (μ := mX12_fewest) (pc := 2) (c0 := 12) (q0 := (RX12, TX12, 34)) (μ2 := mX12_isPerson) dX12_fewest_2 rfl rfl lkX12_156 imX12_isPerson seX12_X12_isPerson_X12_isPerson mwX12_isPerson (Nat.le_of_ble_eq_true rfl) (e_isPerson hM hs hI) ?_
  refine r_if_eq (μ := mX12_fewest) (pc := 5) (tgt := 16) dX12_fewest_5 (by decide) (fun h_5 => absurd h_5 (b2i_ne (inR_nI hi (by omega)))) (fun h_5 => ?_)
  refine r_aload_n (μ := mX12_fewest) (pc := 8) dX12_fewest_8 rfl rfl rfl ?_
  refine r_iload_n (μ := mX12_fewest) (pc := 9) dX12_fewest_9 rfl rfl ?_
  refine vP1 (μ := mX12_fewest) (pc := 10) (c0 := 12) (q0 := (RX12, TX12, 34)) (μ2 := mX12_isLedge) dX12_fewest_10 rfl rfl lkX12_84 imX12_isLedge seX12_X12_isLedge_X12_isLedge mwX12_isLedge (Nat.le_of_ble_eq_true rfl) (e_isLedge hM hs hI) ?_
  refine r_if_ne (μ := mX12_fewest) (pc := 13) (tgt := 19) dX12_fewest_13 (by decide) (fun h_13 => ?_) (fun h_13 => absurd h_13 (b2i_ne (inR_nI hg (by omega))))
  refine r_aload_n (μ := mX12_fewest) (pc := 19) dX12_fewest_19 rfl rfl rfl ?_
  refine r_aload_n (μ := mX12_fewest) (pc := 20) dX12_fewest_20 rfl rfl rfl ?_
  refine r_iload_n (μ := mX12_fewest) (pc := 21) dX12_fewest_21 rfl rfl ?_
  refine vP1 (μ := mX12_fewest) (pc := 22) (c0 := 12) (q0 := (RX12, TX12, 34)) (μ2 := mX12_where) dX12_fewest_22 rfl rfl lkX12_70 imX12_where seX12_X12_where_X12_where mwX12_where (Nat.le_of_ble_eq_true rfl) (e_where hM hs (by omega)) ?_
  rw [show spt s i = nI (sN s i) from hI.sp hi]
  refine r_iconst (μ := mX12_fewest) (pc := 25) (v := -1) dX12_fewest_25 ic_m1 ?_
  refine vX2 (μ := mX12_fewest) (pc := 26) (c0 := 12) (q0 := (RX12, TX12, 34)) (μ2 := mX12_reachedBut) dX12_fewest_26 rfl rfl lkX12_186 imX12_reachedBut seX12_X12_reachedBut_X12_reachedBut mwX12_reachedBut (Nat.le_of_ble_eq_true rfl) (c_reachedBut hM hs hI (hI.sn hi)) (fun r_26 mi_26 h_26 => ?_)
  obtain ⟨rfl, h26⟩ := h_26
  refine s_istore_n (μ := mX12_fewest) (pc := 29) (L2 := [_, _, _, _]) dX12_fewest_29 rfl (Nat.le_of_ble_eq_true rfl) (Nat.le_of_ble_eq_true rfl) rfl rfl ?_
  refine r_iload_n (μ := mX12_fewest) (pc := 30) dX12_fewest_30 rfl rfl ?_
  refine r_iload_n (μ := mX12_fewest) (pc := 31) dX12_fewest_31 rfl rfl ?_
  refine r_ishr (μ := mX12_fewest) (pc := 32) dX12_fewest_32 ?_
  refine r_iconst (μ := mX12_fewest) (pc := 33) (v := 1) dX12_fewest_33 ic_1 ?_
  refine r_iand (μ := mX12_fewest) (pc := 34) dX12_fewest_34 ?_
  rw [rb_at (by omega)]
  refine r_iconst (μ := mX12_fewest) (pc := 35) (v := 1) dX12_fewest_35 ic_1 ?_
  refine r_icmp_ne (μ := mX12_fewest) (pc := 36) (tgt := 41) dX12_fewest_36 (by decide) (fun h_36 => ?_) (fun h_36 => ?_)
  · have hz : rbB s q m (-1) (sN s i) g = false := by cases hz : rbB s q m (-1) (sN s i) g; (· rfl); (· rw [hz] at h_36; exact absurd rfl h_36)
    refine r_aload_n (μ := mX12_fewest) (pc := 41) dX12_fewest_41 rfl rfl rfl ?_
    refine r_iload_n (μ := mX12_fewest) (pc := 42) dX12_fewest_42 rfl rfl ?_
    refine r_iload_n (μ := mX12_fewest) (pc := 43) dX12_fewest_43 rfl rfl ?_
    refine r_iload_n (μ := mX12_fewest) (pc := 44) dX12_fewest_44 rfl rfl ?_
    refine vX3 (μ := mX12_fewest) (pc := 45) (c0 := 12) (q0 := (RX12, TX12, 34)) (μ2 := mX12_getsByOne) dX12_fewest_45 rfl rfl lkX12_192 imX12_getsByOne seX12_X12_getsByOne_X12_getsByOne mwX12_getsByOne (Nat.le_of_ble_eq_true rfl) (c_getsByOne hM (h26.r1.trans hs) hI hi hg (P := (rbB s q m (-1) (sN s i)))) (fun r_45 mi_45 h_45 => ?_)
    obtain ⟨rfl, h45⟩ := h_45
    refine r_if_eq (μ := mX12_fewest) (pc := 48) (tgt := 55) dX12_fewest_48 (by decide) (fun h_48 => ?_) (fun h_48 => ?_)
    · have h_48 := b2i_0 h_48
      refine r_aload_n (μ := mX12_fewest) (pc := 55) dX12_fewest_55 rfl rfl rfl ?_
      refine r_iload_n (μ := mX12_fewest) (pc := 56) dX12_fewest_56 rfl rfl ?_
      refine r_iload_n (μ := mX12_fewest) (pc := 57) dX12_fewest_57 rfl rfl ?_
      refine r_iload_n (μ := mX12_fewest) (pc := 58) dX12_fewest_58 rfl rfl ?_
      refine vX3 (μ := mX12_fewest) (pc := 59) (c0 := 12) (q0 := (RX12, TX12, 34)) (μ2 := mX12_getsByTwo) dX12_fewest_59 rfl rfl lkX12_196 imX12_getsByTwo seX12_X12_getsByTwo_X12_getsByTwo mwX12_getsByTwo (Nat.le_of_ble_eq_true rfl) (c_getsByTwo hM ((h26.tr h45).r1.trans hs) hI hi hg (P := (rbB s q m (-1) (sN s i)))) (fun r_59 mi_59 h_59 => ?_)
      obtain ⟨rfl, h59⟩ := h_59
      refine r_if_eq (μ := mX12_fewest) (pc := 62) (tgt := 69) dX12_fewest_62 (by decide) (fun h_62 => ?_) (fun h_62 => ?_)
      · have h_62 := b2i_0 h_62
        refine r_ldc (μ := mX12_fewest) (pc := 69) dX12_fewest_69 ctX12_64 ?_
        exact r_iret (μ := mX12_fewest) (pc := 71) dX12_fewest_71 rfl rfl (PX_i ⟨by unfold fewS; rw [hz]; first | (rw [h_48]; rfl) | (rw [h_48, h_62]; rfl), by first | exact (h26.tr h45).tr h59 | exact h26.tr h45⟩)
      · have h_62 := b2i_1 h_62
        refine r_iconst (μ := mX12_fewest) (pc := 65) (v := 2) dX12_fewest_65 ic_2 ?_
        refine r_goto (μ := mX12_fewest) (pc := 66) (tgt := 71) dX12_fewest_66 (by decide) ?_
        exact r_iret (μ := mX12_fewest) (pc := 71) dX12_fewest_71 rfl rfl (PX_i ⟨by unfold fewS; rw [hz]; first | (rw [h_48]; rfl) | (rw [h_48, h_62]; rfl), by first | exact (h26.tr h45).tr h59 | exact h26.tr h45⟩)
    · have h_48 := b2i_1 h_48
      refine r_iconst (μ := mX12_fewest) (pc := 51) (v := 1) dX12_fewest_51 ic_1 ?_
      refine r_goto (μ := mX12_fewest) (pc := 52) (tgt := 71) dX12_fewest_52 (by decide) ?_
      exact r_iret (μ := mX12_fewest) (pc := 71) dX12_fewest_71 rfl rfl (PX_i ⟨by unfold fewS; rw [hz]; first | (rw [h_48]; rfl) | (rw [h_48, h_62]; rfl), by first | exact (h26.tr h45).tr h59 | exact h26.tr h45⟩)
  · have hz : rbB s q m (-1) (sN s i) g = true := by cases hz : rbB s q m (-1) (sN s i) g; (· rw [hz] at h_36; exact absurd h_36 (by decide)); (· rfl)
    refine r_iconst (μ := mX12_fewest) (pc := 39) (v := 0) dX12_fewest_39 ic_0 ?_
    exact r_iret (μ := mX12_fewest) (pc := 40) dX12_fewest_40 rfl rfl (PX_i ⟨by unfold fewS; rw [if_pos hz], h26⟩)

