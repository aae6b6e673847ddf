theorem lp_g1E {d : Nat} {mi : MI} {mr : MR} {Q : QT} (hM : MB mr) {s : Rw} (hs : mi 1 = s) {n m p q : Nat} (hI : Inv s n m p q)  {i l goal : Nat} (hl : l < m) (hg : goal < n) {st x5 C : Int32} {k : Nat} {r : Bool} {mi2 mi4 : MI} (hS : SB mi mi2) (h4 : SB (upI mi2 1 (28 + 5 * l + 3) (nI k)) mi4) (h1 : r = true → ∀ mi5, SB mi mi5 → Q (some (.int 1)) shM mi5 mr) (k82 : r = false → ∀ mi5, SB mi mi5 → ∀ x9 : Value, catL x9 = true →  WP (d + 6) mX12_getsByOne 82 [.ref 0, .int (nI i), .int st, .int (nI goal), .int (nI l), .int x5, .int (nI (tN s l)), .int C, .int (nI (k + 1)), x9] [] shM mi5 mr 0 0 Q) {x9 : Value} (hx9 : catL x9 = true) :
    WP (d + 6) mX12_getsByOne 138 [.ref 0, .int (nI i), .int st, .int (nI goal), .int (nI l), .int x5, .int (nI (tN s l)), .int C, .int (nI k), x9] [.int (b2i r)] shM mi4 mr 0 0 Q := by
  have hm8 := hI.m8
  have hb := sb_back hS hs h4 (hI.t hl)
  refine s_istore (μ := mX12_getsByOne) (pc := 138) (L2 := [_, _, _, _, _, _, _, _, _, _]) dX12_getsByOne_138 (Nat.le_of_ble_eq_true rfl) (Nat.le_of_ble_eq_true rfl) (by simp only [List.all_cons, List.all_nil, catL_i, catL_r, hx9, Bool.and_self]) rfl ?_
  refine r_aload_n (μ := mX12_getsByOne) (pc := 140) dX12_getsByOne_140 rfl rfl rfl ?_
  refine r_iload (μ := mX12_getsByOne) (pc := 141) dX12_getsByOne_141 rfl ?_
  refine r_iconst (μ := mX12_getsByOne) (pc := 143) (v := 3) dX12_getsByOne_143 ic_3 ?_
  refine r_iload (μ := mX12_getsByOne) (pc := 144) dX12_getsByOne_144 rfl ?_
  refine vV3 (μ := mX12_getsByOne) (pc := 146) (c0 := 12) (q0 := (RX12, TX12, 34)) (μ2 := mX12_sets) dX12_getsByOne_146 rfl rfl lkX12_108 imX12_sets seX12_X12_sets_X12_sets mwX12_sets (Nat.le_of_ble_eq_true rfl) (c_sets hM (by omega) (by decide)) (fun mi_146 h_146 => ?_)
  subst h_146
  refine r_iload (μ := mX12_getsByOne) (pc := 149) dX12_getsByOne_149 rfl ?_
  refine r_if_eq (μ := mX12_getsByOne) (pc := 151) (tgt := 156) dX12_getsByOne_151 (by decide) (fun h_151 => ?_) (fun h_151 => ?_)
  · have hr := b2i_0 h_151
    refine s_iinc (μ := mX12_getsByOne) (pc := 156) (c := 1) (L2 := [_, _, _, _, _, _, _, _, _, _]) dX12_getsByOne_156 rfl ic_1 (Nat.le_of_ble_eq_true rfl) (by simp only [List.all_cons, List.all_nil, catL_i, catL_r, hx9, Bool.and_self]) rfl ?_
    refine r_goto (μ := mX12_getsByOne) (pc := 159) (tgt := 82) dX12_getsByOne_159 (by decide) ?_
    exact WP.L (by rw [nI_succ]) (k82 hr _ hb _ rfl)
  · have hr := b2i_1 h_151
    refine r_iconst (μ := mX12_getsByOne) (pc := 154) (v := 1) dX12_getsByOne_154 ic_1 ?_
    exact r_iret (μ := mX12_getsByOne) (pc := 155) dX12_getsByOne_155 rfl rfl (h1 hr _ hb)

theorem lp_g1K {d : Nat} {mi : MI} {mr : MR} {Q : QT} (hM : MB mr) {s : Rw} (hs : mi 1 = s) {n m p q : Nat} (hI : Inv s n m p q)  {i l goal : Nat} (hl : l < m) (hg : goal < n) {st x5 C : Int32} {cb : Nat → Bool} (hC : ∀ k, k < n → C >>> (nI k &&& 31) &&& 1 = b2i (cb k)) (h1 : anyB (g1K s q m l goal cb) n = true → ∀ mi5, SB mi mi5 → Q (some (.int 1)) shM mi5 mr) (k3 : anyB (g1K s q m l goal cb) n = false → ∀ mi5, SB mi mi5 → ∀ x9 : Value, catL x9 = true →  WP (d + 6) mX12_getsByOne 3 [.ref 0, .int (nI i), .int st, .int (nI goal), .int (nI (l + 1)), .int x5, .int (nI (tN s l)), .int C, .int (nI n), x9] [] shM mi5 mr 0 0 Q) :
    ∀ (j k : Nat), k + j = n → anyB (g1K s q m l goal cb) k = false → ∀ mi2, SB mi mi2 → ∀ x9 : Value, catL x9 = true →  WP (d + 6) mX12_getsByOne 82 [.ref 0, .int (nI i), .int st, .int (nI goal), .int (nI l), .int x5, .int (nI (tN s l)), .int C, .int (nI k), x9] [] shM mi2 mr 0 0 Q := by
  have hm8 := hI.m8
  have hn10 := hI.n10
  intro j
  induction j with
  | zero =>
    intro k hk ha mi2 hS x9 hx9
    obtain rfl : k = n := by omega
    refine r_iload (μ := mX12_getsByOne) (pc := 82) dX12_getsByOne_82 rfl ?_
    refine r_aload_n (μ := mX12_getsByOne) (pc := 84) dX12_getsByOne_84 rfl rfl rfl ?_
    refine r_getR (μ := mX12_getsByOne) (pc := 85) dX12_getsByOne_85 fpX12_7 rfl rfl (by decide) (hM _ _ rfl) ?_
    refine r_iconst (μ := mX12_getsByOne) (pc := 88) (v := 0) dX12_getsByOne_88 ic_0 ?_
    refine r_iaload (μ := mX12_getsByOne) (pc := 89) (j := 0) dX12_getsByOne_89 rfl rfl (by decide) (by decide) ?_
    rw [hS.r1, hs, hI.en]
    refine r_icmp_ge (μ := mX12_getsByOne) (pc := 90) (tgt := 162) dX12_getsByOne_90 (by decide) (fun h_90 => ?_) (fun h_90 => absurd (nI_le (Nat.le_refl _) (by omega)) h_90)
    refine s_iinc (μ := mX12_getsByOne) (pc := 162) (c := 1) (L2 := [_, _, _, _, _, _, _, _, _, _]) dX12_getsByOne_162 rfl ic_1 (Nat.le_of_ble_eq_true rfl) (by simp only [List.all_cons, List.all_nil, catL_i, catL_r, hx9, Bool.and_self]) rfl ?_
    refine r_goto (μ := mX12_getsByOne) (pc := 165) (tgt := 3) dX12_getsByOne_165 (by decide) ?_
    exact WP.L (by rw [show nI (l + 1) = nI l + 1 from nI_succ l]) (k3 ha mi2 hS x9 hx9)
  | succ j ih =>
    intro k hk ha mi2 hS x9 hx9
    have hkn : k < n := by omega
    have hI2 := hI.upT hl hkn
    have hf2 : upd s (28 + 5 * l + 3) (nI k) (28 + 5 * l + 2) = nI (fN s l) := by rw [upd_n (by omega)]; exact hI.f hl
    refine r_iload (μ := mX12_getsByOne) (pc := 82) dX12_getsByOne_82 rfl ?_
    refine r_aload_n (μ := mX12_getsByOne) (pc := 84) dX12_getsByOne_84 rfl rfl rfl ?_
    refine r_getR (μ := mX12_getsByOne) (pc := 85) dX12_getsByOne_85 fpX12_7 rfl rfl (by decide) (hM _ _ rfl) ?_
    refine r_iconst (μ := mX12_getsByOne) (pc := 88) (v := 0) dX12_getsByOne_88 ic_0 ?_
    refine r_iaload (μ := mX12_getsByOne) (pc := 89) (j := 0) dX12_getsByOne_89 rfl rfl (by decide) (by decide) ?_
    rw [hS.r1, hs, hI.en]
    refine r_icmp_ge (μ := mX12_getsByOne) (pc := 90) (tgt := 162) dX12_getsByOne_90 (by decide) (fun h_90 => absurd h_90 (nI_ge (by omega) (by omega))) (fun h_90 => ?_)
    refine r_iload (μ := mX12_getsByOne) (pc := 93) dX12_getsByOne_93 rfl ?_
    refine r_iload (μ := mX12_getsByOne) (pc := 95) dX12_getsByOne_95 rfl ?_
    refine r_ishr (μ := mX12_getsByOne) (pc := 97) dX12_getsByOne_97 ?_
    refine r_iconst (μ := mX12_getsByOne) (pc := 98) (v := 1) dX12_getsByOne_98 ic_1 ?_
    refine r_iand (μ := mX12_getsByOne) (pc := 99) dX12_getsByOne_99 ?_
    rw [hC k hkn]
    refine r_iconst (μ := mX12_getsByOne) (pc := 100) (v := 1) dX12_getsByOne_100 ic_1 ?_
    refine r_icmp_ne (μ := mX12_getsByOne) (pc := 101) (tgt := 156) dX12_getsByOne_101 (by decide) (fun h_101 => ?_) (fun h_101 => ?_)
    · have hc : cb k = false := by cases hz : cb k; (· rfl); (· rw [hz] at h_101; exact absurd rfl h_101)
      refine s_iinc (μ := mX12_getsByOne) (pc := 156) (c := 1) (L2 := [_, _, _, _, _, _, _, _, _, _]) dX12_getsByOne_156 rfl ic_1 (Nat.le_of_ble_eq_true rfl) (by simp only [List.all_cons, List.all_nil, catL_i, catL_r, hx9, Bool.and_self]) rfl ?_
      refine r_goto (μ := mX12_getsByOne) (pc := 159) (tgt := 82) dX12_getsByOne_159 (by decide) ?_
      exact WP.L (by rw [nI_succ]) (ih (k + 1) (by omega) (anyB_f ha (by unfold g1K; rw [hc]; rfl)) mi2 hS x9 hx9)
    · have hc : cb k = true := by cases hz : cb k; (· rw [hz] at h_101; exact absurd h_101 (by decide)); (· rfl)
      refine r_aload_n (μ := mX12_getsByOne) (pc := 104) dX12_getsByOne_104 rfl rfl rfl ?_
      refine r_iload (μ := mX12_getsByOne) (pc := 105) dX12_getsByOne_105 rfl ?_
      refine r_iconst (μ := mX12_getsByOne) (pc := 107) (v := 3) dX12_getsByOne_107 ic_3 ?_
      refine r_iload (μ := mX12_getsByOne) (pc := 108) dX12_getsByOne_108 rfl ?_
      refine vV3 (μ := mX12_getsByOne) (pc := 110) (c0 := 12) (q0 := (RX12, TX12, 34)) (μ2 := mX12_sets) dX12_getsByOne_110 rfl rfl lkX12_108 imX12_sets seX12_X12_sets_X12_sets mwX12_sets (Nat.le_of_ble_eq_true rfl) (c_sets hM (by omega) (by decide)) (fun mi_110 h_110 => ?_)
      subst h_110
      refine r_aload_n (μ := mX12_getsByOne) (pc := 113) dX12_getsByOne_113 rfl rfl rfl ?_
      refine r_aload_n (μ := mX12_getsByOne) (pc := 114) dX12_getsByOne_114 rfl rfl rfl ?_
      refine r_iload (μ := mX12_getsByOne) (pc := 115) dX12_getsByOne_115 rfl ?_
      refine r_iconst (μ := mX12_getsByOne) (pc := 117) (v := 2) dX12_getsByOne_117 ic_2 ?_
      refine vP2 (μ := mX12_getsByOne) (pc := 118) (c0 := 12) (q0 := (RX12, TX12, 34)) (μ2 := mX12_of) dX12_getsByOne_118 rfl rfl lkX12_90 imX12_of seX12_X12_of_X12_of mwX12_of (Nat.le_of_ble_eq_true rfl) (e_of hM (up_r1 (hS.r1.trans hs)) (by omega) (by decide)) ?_
      rw [hf2]
      refine r_iconst (μ := mX12_getsByOne) (pc := 121) (v := -1) dX12_getsByOne_121 ic_m1 ?_
      refine vX2 (μ := mX12_getsByOne) (pc := 122) (c0 := 12) (q0 := (RX12, TX12, 34)) (μ2 := mX12_reachedBut) dX12_getsByOne_122 rfl rfl lkX12_186 imX12_reachedBut seX12_X12_reachedBut_X12_reachedBut mwX12_reachedBut (Nat.le_of_ble_eq_true rfl) (c_reachedBut hM (up_r1 (hS.r1.trans hs)) hI2 (hI.fn hl)) (fun r_122 mi_122 h_122 => ?_)
      obtain ⟨rfl, h122⟩ := h_122
      refine r_iload_n (μ := mX12_getsByOne) (pc := 125) dX12_getsByOne_125 rfl rfl ?_
      refine r_ishr (μ := mX12_getsByOne) (pc := 126) dX12_getsByOne_126 ?_
      refine r_iconst (μ := mX12_getsByOne) (pc := 127) (v := 1) dX12_getsByOne_127 ic_1 ?_
      refine r_iand (μ := mX12_getsByOne) (pc := 128) dX12_getsByOne_128 ?_
      rw [rb_at (by omega)]
      refine r_iconst (μ := mX12_getsByOne) (pc := 129) (v := 1) dX12_getsByOne_129 ic_1 ?_
      refine r_icmp_ne (μ := mX12_getsByOne) (pc := 130) (tgt := 137) dX12_getsByOne_130 (by decide) (fun h_130 => ?_) (fun h_130 => ?_)
      · have hz : rbB (lean s l k) q m (-1) (fN s l) goal = false := by cases hz : rbB (lean s l k) q m (-1) (fN s l) goal; (· rfl); (· rw [show rbB (upd s (28 + 5 * l + 3) (nI k)) q m (-1) (fN s l) goal = true from hz] at h_130; exact absurd rfl h_130)
        refine r_iconst (μ := mX12_getsByOne) (pc := 137) (v := 0) dX12_getsByOne_137 ic_0 ?_
        refine WP.S (show _ = [Value.int (b2i (rbB (lean s l k) q m (-1) (fN s l) goal))] by rw [hz]; rfl) ?_
        exact lp_g1E hM hs hI hl hg hS h122 (fun hr mi5 h5 => h1 (anyB_t (j := k) (by unfold g1K; rw [hc, hr]; rfl) hkn) mi5 h5) (fun hr mi5 h5 => ih (k + 1) (by omega) (anyB_f ha (by unfold g1K; rw [hr, Bool.and_false])) mi5 h5) hx9
      · have hz : rbB (lean s l k) q m (-1) (fN s l) goal = true := by cases hz : rbB (lean s l k) q m (-1) (fN s l) goal; (· rw [show rbB (upd s (28 + 5 * l + 3) (nI k)) q m (-1) (fN s l) goal = false from hz] at h_130; exact absurd h_130 (by decide)); (· rfl)
        refine r_iconst (μ := mX12_getsByOne) (pc := 133) (v := 1) dX12_getsByOne_133 ic_1 ?_
        refine r_goto (μ := mX12_getsByOne) (pc := 134) (tgt := 138) dX12_getsByOne_134 (by decide) ?_
        refine WP.S (show _ = [Value.int (b2i (rbB (lean s l k) q m (-1) (fN s l) goal))] by rw [hz]; rfl) ?_
        exact lp_g1E hM hs hI hl hg hS h122 (fun hr mi5 h5 => h1 (anyB_t (j := k) (by unfold g1K; rw [hc, hr]; rfl) hkn) mi5 h5) (fun hr mi5 h5 => ih (k + 1) (by omega) (anyB_f ha (by unfold g1K; rw [hr, Bool.and_false])) mi5 h5) hx9

theorem lp_g1M {d : Nat} {mi : MI} {mr : MR} {Q : QT} (hM : MB mr) {s : Rw} (hs : mi 1 = s) {n m p q : Nat} (hI : Inv s n m p q) {i l goal : Nat} (hi : i < p) (hl : l < m) (hg : goal < n) {P : Nat → Bool} {mi2 : MI} (hS : SB mi mi2) (h1 : g1L s n m p q i P goal l = true → ∀ mi5, SB mi mi5 → Q (some (.int 1)) shM mi5 mr) (k3 : g1L s n m p q i P goal l = false → ∀ mi5, SB mi mi5 → ∀ x5 : Value, catL x5 = true → ∀ x6 : Value, catL x6 = true → ∀ x7 : Value, catL x7 = true → ∀ x8 : Value, catL x8 = true → ∀ x9 : Value, catL x9 = true →  WP (d + 6) mX12_getsByOne 3 [.ref 0, .int (nI i), .int (bitsB P 10), .int (nI goal), .int (nI (l + 1)), x5, x6, x7, x8, x9] [] shM mi5 mr 0 0 Q) {x5 x6 x7 x8 x9 : Value} (hx5 : catL x5 = true) (hx6 : catL x6 = true) (hx7 : catL x7 = true) (hx8 : catL x8 = true) (hx9 : catL x9 = true) :
    WP (d + 6) mX12_getsByOne 44 [.ref 0, .int (nI i), .int (bitsB P 10), .int (nI goal), .int (nI l), x5, x6, x7, x8, x9] [.int (b2i (P (fN s l) && thrS s p q i l))] shM mi2 mr 0 0 Q := by
  have hm8 := hI.m8
  have hn10 := hI.n10
  have hf := hI.fn hl
  have ht := hI.tn hl
  refine s_istore (μ := mX12_getsByOne) (pc := 44) (L2 := [_, _, _, _, _, _, _, _, _, _]) dX12_getsByOne_44 (Nat.le_of_ble_eq_true rfl) (Nat.le_of_ble_eq_true rfl) (by simp only [List.all_cons, List.all_nil, catL_i, catL_r, hx5, hx6, hx7, hx8, hx9, Bool.and_self]) rfl ?_
  refine r_aload_n (μ := mX12_getsByOne) (pc := 46) dX12_getsByOne_46 rfl rfl rfl ?_
  refine r_iload (μ := mX12_getsByOne) (pc := 47) dX12_getsByOne_47 rfl ?_
  refine r_iconst (μ := mX12_getsByOne) (pc := 49) (v := 3) dX12_getsByOne_49 ic_3 ?_
  refine vP2 (μ := mX12_getsByOne) (pc := 50) (c0 := 12) (q0 := (RX12, TX12, 34)) (μ2 := mX12_of) dX12_getsByOne_50 rfl rfl lkX12_90 imX12_of seX12_X12_of_X12_of mwX12_of (Nat.le_of_ble_eq_true rfl) (e_of hM (hS.r1.trans hs) (by omega) (by decide)) ?_
  rw [hI.t hl]
  refine s_istore (μ := mX12_getsByOne) (pc := 53) (L2 := [_, _, _, _, _, _, _, _, _, _]) dX12_getsByOne_53 (Nat.le_of_ble_eq_true rfl) (Nat.le_of_ble_eq_true rfl) (by simp only [List.all_cons, List.all_nil, catL_i, catL_r, hx5, hx6, hx7, hx8, hx9, Bool.and_self]) rfl ?_
  refine r_iload (μ := mX12_getsByOne) (pc := 55) dX12_getsByOne_55 rfl ?_
  refine r_if_eq (μ := mX12_getsByOne) (pc := 57) (tgt := 76) dX12_getsByOne_57 (by decide) (fun h_57 => ?_) (fun h_57 => ?_)
  · have hb := b2i_0 h_57
    have hS2 := hS
    have hC : ∀ k, k < n → (0 : Int32) >>> (nI k &&& 31) &&& 1 = b2i ((P (fN s l) && thrS s p q i l) && (rchS s q l k && !decide (k = tN s l))) := fun k hk => by rw [zero_at (by omega), hb]; rfl
    refine r_iconst (μ := mX12_getsByOne) (pc := 76) (v := 0) dX12_getsByOne_76 ic_0 ?_
    refine s_istore (μ := mX12_getsByOne) (pc := 77) (L2 := [_, _, _, _, _, _, _, _, _, _]) dX12_getsByOne_77 (Nat.le_of_ble_eq_true rfl) (Nat.le_of_ble_eq_true rfl) (by simp only [List.all_cons, List.all_nil, catL_i, catL_r, hx5, hx6, hx7, hx8, hx9, Bool.and_self]) rfl ?_
    refine r_iconst (μ := mX12_getsByOne) (pc := 79) (v := 0) dX12_getsByOne_79 ic_0 ?_
    refine s_istore (μ := mX12_getsByOne) (pc := 80) (L2 := [_, _, _, _, _, _, _, _, _, _]) dX12_getsByOne_80 (Nat.le_of_ble_eq_true rfl) (Nat.le_of_ble_eq_true rfl) (by simp only [List.all_cons, List.all_nil, catL_i, catL_r, hx5, hx6, hx7, hx8, hx9, Bool.and_self]) rfl ?_
    exact lp_g1K (mi := mi) hM hs hI hl hg hC h1 (fun hr mi5 h5 y9 hy9 => k3 hr mi5 h5 _ rfl _ rfl _ rfl _ rfl y9 hy9) n 0 (Nat.zero_add _) rfl _ hS2 x9 hx9
  · have hb := b2i_1 h_57
    refine r_aload_n (μ := mX12_getsByOne) (pc := 60) dX12_getsByOne_60 rfl rfl rfl ?_
    refine r_iload (μ := mX12_getsByOne) (pc := 61) dX12_getsByOne_61 rfl ?_
    refine vX1 (μ := mX12_getsByOne) (pc := 63) (c0 := 12) (q0 := (RX12, TX12, 34)) (μ2 := mX12_allReached) dX12_getsByOne_63 rfl rfl lkX12_149 imX12_allReached seX12_X12_allReached_X12_allReached mwX12_allReached (Nat.le_of_ble_eq_true rfl) (c_allReached hM (hS.r1.trans hs) hI hl) (fun r_63 mi_63 h_63 => ?_)
    obtain ⟨rfl, h63⟩ := h_63
    refine r_iconst (μ := mX12_getsByOne) (pc := 66) (v := 1) dX12_getsByOne_66 ic_1 ?_
    refine r_iload (μ := mX12_getsByOne) (pc := 67) dX12_getsByOne_67 rfl ?_
    refine r_ishl (μ := mX12_getsByOne) (pc := 69) dX12_getsByOne_69 ?_
    refine r_iconst (μ := mX12_getsByOne) (pc := 70) (v := -1) dX12_getsByOne_70 ic_m1 ?_
    refine r_ixor (μ := mX12_getsByOne) (pc := 71) dX12_getsByOne_71 ?_
    refine r_iand (μ := mX12_getsByOne) (pc := 72) dX12_getsByOne_72 ?_
    have hS2 := hS.tr h63
    rw [bits_nd (by omega) (by omega)]
    have hC : ∀ k, k < n → bitsB (fun k => rchS s q l k && !decide (k = tN s l)) n >>> (nI k &&& 31) &&& 1 = b2i ((P (fN s l) && thrS s p q i l) && (rchS s q l k && !decide (k = tN s l))) := fun k hk => by rw [bits_at hk (by omega), hb]; rfl
    refine r_goto (μ := mX12_getsByOne) (pc := 73) (tgt := 77) dX12_getsByOne_73 (by decide) ?_
    refine s_istore (μ := mX12_getsByOne) (pc := 77) (L2 := [_, _, _, _, _, _, _, _, _, _]) dX12_getsByOne_77 (Nat.le_of_ble_eq_true rfl) (Nat.le_of_ble_eq_true rfl) (by simp only [List.all_cons, List.all_nil, catL_i, catL_r, hx5, hx6, hx7, hx8, hx9, Bool.and_self]) rfl ?_
    refine r_iconst (μ := mX12_getsByOne) (pc := 79) (v := 0) dX12_getsByOne_79 ic_0 ?_
    refine s_istore (μ := mX12_getsByOne) (pc := 80) (L2 := [_, _, _, _, _, _, _, _, _, _]) dX12_getsByOne_80 (Nat.le_of_ble_eq_true rfl) (Nat.le_of_ble_eq_true rfl) (by simp only [List.all_cons, List.all_nil, catL_i, catL_r, hx5, hx6, hx7, hx8, hx9, Bool.and_self]) rfl ?_
    exact lp_g1K (mi := mi) hM hs hI hl hg hC h1 (fun hr mi5 h5 y9 hy9 => k3 hr mi5 h5 _ rfl _ rfl _ rfl _ rfl y9 hy9) n 0 (Nat.zero_add _) rfl _ hS2 x9 hx9

theorem lp_g1I {d : Nat} {mi : MI} {mr : MR} {Q : QT} (hM : MB mr) {s : Rw} (hs : mi 1 = s) {n m p q : Nat} (hI : Inv s n m p q) {i goal : Nat} (hi : i < p) (hg : goal < n) {P : Nat → Bool} (hq : ∀ mi2, SB mi mi2 → Q (some (.int (b2i (g1S s n m p q i P goal)))) shM mi2 mr) :
    ∀ (j l : Nat), l + j = m → anyB (g1L s n m p q i P goal) l = false → ∀ mi2, SB mi mi2 → ∀ x5 : Value, catL x5 = true → ∀ x6 : Value, catL x6 = true → ∀ x7 : Value, catL x7 = true → ∀ x8 : Value, catL x8 = true → ∀ x9 : Value, catL x9 = true →  WP (d + 6) mX12_getsByOne 3 [.ref 0, .int (nI i), .int (bitsB P 10), .int (nI goal), .int (nI l), x5, x6, x7, x8, x9] [] shM mi2 mr 0 0 Q := by
  have hm8 := hI.m8
  have hn10 := hI.n10
  have hp6 := hI.p6
  intro j
  induction j with
  | zero =>
    intro l hk ha mi2 hS x5 hx5 x6 hx6 x7 hx7 x8 hx8 x9 hx9
    obtain rfl : l = m := by omega
    have hr : b2i (g1S s n l p q i P goal) = 0 := by unfold g1S; rw [ha]; rfl
    refine r_iload (μ := mX12_getsByOne) (pc := 3) dX12_getsByOne_3 rfl ?_
    refine r_aload_n (μ := mX12_getsByOne) (pc := 5) dX12_getsByOne_5 rfl rfl rfl ?_
    refine r_getR (μ := mX12_getsByOne) (pc := 6) dX12_getsByOne_6 fpX12_7 rfl rfl (by decide) (hM _ _ rfl) ?_
    refine r_iconst (μ := mX12_getsByOne) (pc := 9) (v := 1) dX12_getsByOne_9 ic_1 ?_
    refine r_iaload (μ := mX12_getsByOne) (pc := 10) (j := 1) dX12_getsByOne_10 rfl rfl (by decide) (by decide) ?_
    rw [hS.r1, hs, hI.em]
    refine r_icmp_ge (μ := mX12_getsByOne) (pc := 11) (tgt := 168) dX12_getsByOne_11 (by decide) (fun h_11 => ?_) (fun h_11 => absurd (nI_le (Nat.le_refl _) (by omega)) h_11)
    refine r_iconst (μ := mX12_getsByOne) (pc := 168) (v := 0) dX12_getsByOne_168 ic_0 ?_
    exact r_iret (μ := mX12_getsByOne) (pc := 169) dX12_getsByOne_169 rfl rfl (hr ▸ hq _ hS)
  | succ j ih =>
    intro l hk ha mi2 hS x5 hx5 x6 hx6 x7 hx7 x8 hx8 x9 hx9
    have hl : l < m := by omega
    have hf := hI.fn hl
    have ht := hI.tn hl
    refine r_iload (μ := mX12_getsByOne) (pc := 3) dX12_getsByOne_3 rfl ?_
    refine r_aload_n (μ := mX12_getsByOne) (pc := 5) dX12_getsByOne_5 rfl rfl rfl ?_
    refine r_getR (μ := mX12_getsByOne) (pc := 6) dX12_getsByOne_6 fpX12_7 rfl rfl (by decide) (hM _ _ rfl) ?_
    refine r_iconst (μ := mX12_getsByOne) (pc := 9) (v := 1) dX12_getsByOne_9 ic_1 ?_
    refine r_iaload (μ := mX12_getsByOne) (pc := 10) (j := 1) dX12_getsByOne_10 rfl rfl (by decide) (by decide) ?_
    rw [hS.r1, hs, hI.em]
    refine r_icmp_ge (μ := mX12_getsByOne) (pc := 11) (tgt := 168) dX12_getsByOne_11 (by decide) (fun h_11 => absurd h_11 (nI_ge (by omega) (by omega))) (fun h_11 => ?_)
    refine r_iload_n (μ := mX12_getsByOne) (pc := 14) dX12_getsByOne_14 rfl rfl ?_
    refine r_aload_n (μ := mX12_getsByOne) (pc := 15) dX12_getsByOne_15 rfl rfl rfl ?_
    refine r_iload (μ := mX12_getsByOne) (pc := 16) dX12_getsByOne_16 rfl ?_
    refine r_iconst (μ := mX12_getsByOne) (pc := 18) (v := 2) dX12_getsByOne_18 ic_2 ?_
    refine vP2 (μ := mX12_getsByOne) (pc := 19) (c0 := 12) (q0 := (RX12, TX12, 34)) (μ2 := mX12_of) dX12_getsByOne_19 rfl rfl lkX12_90 imX12_of seX12_X12_of_X12_of mwX12_of (Nat.le_of_ble_eq_true rfl) (e_of hM (hS.r1.trans hs) (by omega) (by decide)) ?_
    rw [hI.f hl]
    refine r_ishr (μ := mX12_getsByOne) (pc := 22) dX12_getsByOne_22 ?_
    refine r_iconst (μ := mX12_getsByOne) (pc := 23) (v := 1) dX12_getsByOne_23 ic_1 ?_
    refine r_iand (μ := mX12_getsByOne) (pc := 24) dX12_getsByOne_24 ?_
    rw [bits_at (by omega) (by decide)]
    refine r_iconst (μ := mX12_getsByOne) (pc := 25) (v := 1) dX12_getsByOne_25 ic_1 ?_
    refine r_icmp_ne (μ := mX12_getsByOne) (pc := 26) (tgt := 43) dX12_getsByOne_26 (by decide) (fun h_26 => ?_) (fun h_26 => ?_)
    · have hb : (P (fN s l) && thrS s p q i l) = false := by cases hz : P (fN s l); (· rfl); (· rw [hz] at h_26; exact absurd rfl h_26)
      have hS2 := hS
      refine r_iconst (μ := mX12_getsByOne) (pc := 43) (v := 0) dX12_getsByOne_43 ic_0 ?_
      refine WP.S (show _ = [Value.int (b2i (P (fN s l) && thrS s p q i l))] by rw [hb]; rfl) ?_
      exact lp_g1M hM hs hI hi hl hg hS2 (fun hr mi5 h5 => (show b2i (g1S s n m p q i P goal) = 1 by unfold g1S; rw [anyB_t (f := g1L s n m p q i P goal) hr hl]; rfl) ▸ hq mi5 h5) (fun hr => ih (l + 1) (by omega) (anyB_f ha hr)) hx5 hx6 hx7 hx8 hx9
    · have hP : P (fN s l) = true := by cases hz : P (fN s l); (· rw [hz] at h_26; exact absurd h_26 (by decide)); (· rfl)
      refine r_aload_n (μ := mX12_getsByOne) (pc := 29) dX12_getsByOne_29 rfl rfl rfl ?_
      refine r_iload_n (μ := mX12_getsByOne) (pc := 30) dX12_getsByOne_30 rfl rfl ?_
      refine r_iload (μ := mX12_getsByOne) (pc := 31) dX12_getsByOne_31 rfl ?_
      refine vX2 (μ := mX12_getsByOne) (pc := 33) (c0 := 12) (q0 := (RX12, TX12, 34)) (μ2 := mX12_mayThere) dX12_getsByOne_33 rfl rfl lkX12_162 imX12_mayThere seX12_X12_mayThere_X12_mayThere mwX12_mayThere (Nat.le_of_ble_eq_true rfl) (c_mayThere hM (hS.r1.trans hs) hI hi hl) (fun r_33 mi_33 h_33 => ?_)
      obtain ⟨rfl, h33⟩ := h_33
      refine r_if_eq (μ := mX12_getsByOne) (pc := 36) (tgt := 43) dX12_getsByOne_36 (by decide) (fun h_36 => ?_) (fun h_36 => ?_)
      · have h_36 := b2i_0 h_36
        have hb : (P (fN s l) && thrS s p q i l) = false := by rw [h_36, Bool.and_false]
        have hS2 := hS.tr h33
        refine r_iconst (μ := mX12_getsByOne) (pc := 43) (v := 0) dX12_getsByOne_43 ic_0 ?_
        refine WP.S (show _ = [Value.int (b2i (P (fN s l) && thrS s p q i l))] by rw [hb]; rfl) ?_
        exact lp_g1M hM hs hI hi hl hg hS2 (fun hr mi5 h5 => (show b2i (g1S s n m p q i P goal) = 1 by unfold g1S; rw [anyB_t (f := g1L s n m p q i P goal) hr hl]; rfl) ▸ hq mi5 h5) (fun hr => ih (l + 1) (by omega) (anyB_f ha hr)) hx5 hx6 hx7 hx8 hx9
      · have h_36 := b2i_1 h_36
        have hb : (P (fN s l) && thrS s p q i l) = true := by rw [h_36, hP]; rfl
        have hS2 := hS.tr h33
        refine r_iconst (μ := mX12_getsByOne) (pc := 39) (v := 1) dX12_getsByOne_39 ic_1 ?_
        refine r_goto (μ := mX12_getsByOne) (pc := 40) (tgt := 44) dX12_getsByOne_40 (by decide) ?_
        refine WP.S (show _ = [Value.int (b2i (P (fN s l) && thrS s p q i l))] by rw [hb]; rfl) ?_
        exact lp_g1M hM hs hI hi hl hg hS2 (fun hr mi5 h5 => (show b2i (g1S s n m p q i P goal) = 1 by unfold g1S; rw [anyB_t (f := g1L s n m p q i P goal) hr hl]; rfl) ▸ hq mi5 h5) (fun hr => ih (l + 1) (by omega) (anyB_f ha hr)) hx5 hx6 hx7 hx8 hx9

theorem c_getsByOne {d : Nat} {mi : MI} {mr : MR} (hM : MB mr) {s : Rw} (hs : mi 1 = s) {n m p q : Nat} (hI : Inv s n m p q) {i goal : Nat} (hi : i < p) (hg : goal < n) {P : Nat → Bool} : CP (d + 6) mX12_getsByOne [.ref 0, .int (nI i), .int (bitsB P 10), .int (nI goal)] shM mi mr 0 0 (PX shM mr (fun r mi2 => r = b2i (g1S s n m p q i P goal) ∧ SB mi mi2)) := by
  refine CP.of (L := [_, _, _, _, _, _, _, _, _, _]) (by decide) rfl rfl (Nat.le_of_ble_eq_true rfl) ?_
  refine r_iconst (μ := mX12_getsByOne) (pc := 0) (v := 0) dX12_getsByOne_0 ic_0 ?_
  refine s_istore (μ := mX12_getsByOne) (pc := 1) (L2 := [_, _, _, _, _, _, _, _, _, _]) dX12_getsByOne_1 (Nat.le_of_ble_eq_true rfl) (Nat.le_of_ble_eq_true rfl) rfl rfl ?_
  exact lp_g1I hM hs hI hi hg (fun mi2 h => PX_i ⟨rfl, h⟩) m 0 (Nat.zero_add _) rfl mi (SB.rf mi) _ rfl _ rfl _ rfl _ rfl _ rfl

