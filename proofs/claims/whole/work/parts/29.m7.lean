theorem e_drawn {d : Nat} {mi : MI} {mr : MR} (hM : MB mr) {s : Rw} (hs : mi 1 = s) : CP d mX12_drawn [.ref 0] shM mi mr 0 0 (PX shM mr (fun r mi2 => r = drw (nz (s 6)) ∧ mi2 = upI mi 1 6 (nz (s 6)))) := by
  subst hs; exact c_drawn hM
theorem mod_step {b j n w : Nat} (hj : 1 ≤ j) (h : (b + j) % n = w) : ((b + 1) % n + (j - 1)) % n = w := by
  rw [Nat.mod_add_mod, show b + 1 + (j - 1) = b + j by omega]
  exact h
theorem rem_n {a n : Nat} (ha : a < 1000) (h0 : 0 < n) (hn : n < 1000) : nI a - nI a / nI n * nI n = nI (a % n) := pk_rem (by omega) h0 (by omega)

theorem lp_nightC {d : Nat} {mi : MI} {mr : MR} {Q : QT} (hM : MB mr) {y : Rw} {n m p q : Nat} (hI : Inv y n m p q) {i w B : Nat} (hi : i < m) (hw : w < n) {x1 : Int32}
    (kk : ∀ mi3, SR mi mi3 y → WP (d + 4) mX12_night 106 [.ref 0, .int x1, .int (nI i), .int (nI w), .int (nI B)] [] shM mi3 mr 0 0 Q) :
    ∀ (k b j : Nat), j ≤ k → b < n → (b + j) % n = w → nxB (rchS y q i) n w k b = B → ∀ mi2, SR mi mi2 y → WP (d + 4) mX12_night 74 [.ref 0, .int x1, .int (nI i), .int (nI w), .int (nI b)] [] shM mi2 mr 0 0 Q := by
  have hn10 := hI.n10
  have hm8 := hI.m8
  intro k
  induction k with
  | zero =>
    intro b j hj hb hm hB mi2 hS
    obtain rfl : b = w := by
      have : j = 0 := by omega
      subst this
      rw [Nat.add_zero, Nat.mod_eq_of_lt hb] at hm
      exact hm
    simp only [nxB] at hB
    subst hB
    refine r_iload (μ := mX12_night) (pc := 74) dX12_night_74 rfl ?_
    refine r_iload_n (μ := mX12_night) (pc := 76) dX12_night_76 rfl rfl ?_
    refine r_icmp_eq (μ := mX12_night) (pc := 77) (tgt := 106) dX12_night_77 (by decide) (fun h_77 => ?_) (fun h_77 => absurd rfl h_77)
    exact kk mi2 hS
  | succ k ih =>
    intro b j hj hb hm hB mi2 hS
    refine r_iload (μ := mX12_night) (pc := 74) dX12_night_74 rfl ?_
    refine r_iload_n (μ := mX12_night) (pc := 76) dX12_night_76 rfl rfl ?_
    refine r_icmp_eq (μ := mX12_night) (pc := 77) (tgt := 106) dX12_night_77 (by decide) (fun h_77 => ?_) (fun h_77 => ?_)
    · have h77 : b = w := (nI_eq (by omega) (by omega)).mp h_77
      simp only [nxB, if_pos h77] at hB
      subst hB
      exact kk mi2 hS
    · refine r_aload_n (μ := mX12_night) (pc := 80) dX12_night_80 rfl rfl rfl ?_
      refine r_iload_n (μ := mX12_night) (pc := 81) dX12_night_81 rfl rfl ?_
      refine r_iload (μ := mX12_night) (pc := 82) dX12_night_82 rfl ?_
      refine vX2 (μ := mX12_night) (pc := 84) (c0 := 12) (q0 := (RX12, TX12, 34)) (μ2 := mX12_reaches) dX12_night_84 rfl rfl lkX12_133 imX12_reaches seX12_X12_reaches_X12_reaches mwX12_reaches (Nat.le_of_ble_eq_true rfl) (c_reaches hM hS.1 hI hi hb) (fun r_84 mi_84 h_84 => ?_)
      obtain ⟨rfl, h84⟩ := h_84
      refine r_if_ne (μ := mX12_night) (pc := 87) (tgt := 106) dX12_night_87 (by decide) (fun h_87 => ?_) (fun h_87 => ?_)
      · have h_87 := b2i_1 h_87
        have h77 : ¬ b = w := fun q => h_77 (by rw [q])
        simp only [nxB, if_neg h77, h_87, if_true] at hB
        subst hB
        exact kk _ (hS.sb h84)
      · have h_87 := b2i_0 h_87
        have h77 : ¬ b = w := fun q => h_77 (by rw [q])
        simp only [nxB, if_neg h77, h_87] at hB
        have hj1 : 1 ≤ j := Nat.pos_of_ne_zero (fun q0 => h77 (by rw [q0, Nat.add_zero, Nat.mod_eq_of_lt hb] at hm; exact hm))
        refine r_iload (μ := mX12_night) (pc := 90) dX12_night_90 rfl ?_
        refine r_iconst (μ := mX12_night) (pc := 92) (v := 1) dX12_night_92 ic_1 ?_
        refine r_iadd (μ := mX12_night) (pc := 93) dX12_night_93 ?_
        refine r_aload_n (μ := mX12_night) (pc := 94) dX12_night_94 rfl rfl rfl ?_
        refine r_getR (μ := mX12_night) (pc := 95) dX12_night_95 fpX12_7 rfl rfl (by decide) (hM _ _ rfl) ?_
        refine r_iconst (μ := mX12_night) (pc := 98) (v := 0) dX12_night_98 ic_0 ?_
        refine r_iaload (μ := mX12_night) (pc := 99) (j := 0) dX12_night_99 rfl rfl (by decide) (by decide) ?_
        refine r_irem (μ := mX12_night) (pc := 100) dX12_night_100 (by rw [h84.r1, hS.1, hI.en]; exact nI_ne0 (by omega) (by omega)) ?_
        rw [h84.r1, hS.1, hI.en, ← nI_succ, rem_n (by omega) (by omega) (by omega)]
        refine s_istore (μ := mX12_night) (pc := 101) (L2 := [_, _, _, _, _]) dX12_night_101 (Nat.le_of_ble_eq_true rfl) (Nat.le_of_ble_eq_true rfl) rfl rfl ?_
        refine r_goto (μ := mX12_night) (pc := 103) (tgt := 74) dX12_night_103 (by decide) ?_
        exact ih ((b + 1) % n) (j - 1) (by omega) (Nat.mod_lt _ (by omega)) (mod_step hj1 hm) (by simpa using hB) _ (hS.sb h84)

theorem nxB_cong {f g : Nat → Bool} {n was : Nat} (hn : 0 < n) (h : ∀ b, b < n → f b = g b) : ∀ k b, b < n → nxB f n was k b = nxB g n was k b
  | 0, _, _ => rfl
  | k + 1, b, hb => by
    simp only [nxB, h b hb, nxB_cong hn h k ((b + 1) % n) (Nat.mod_lt _ hn)]

theorem lp_nightB {d : Nat} {mi : MI} {mr : MR} {Q : QT} (hM : MB mr) {s : Rw} {n m p q : Nat} (hI : Inv s n m p q) (hs : mi 1 = s) (hq : ∀ mi2, SR mi mi2 (nightR s q n m) → Q (some (.int (nI (ngtR s q n m m).2))) shM mi2 mr) :
    ∀ (k i : Nat), i + k = m → ∀ mi2, SR mi mi2 (ngtR s q n m i).1 → ∀ x3 x4 : Value, catL x3 = true → catL x4 = true → WP (d + 4) mX12_night 29 [.ref 0, .int (nI (ngtR s q n m i).2), .int (nI i), x3, x4] [] shM mi2 mr 0 0 Q := by
  have hn10 := hI.n10
  have hm8 := hI.m8
  intro k
  induction k with
  | zero =>
    intro i hk mi2 hS x3 x4 h3 h4
    obtain rfl : i = m := by omega
    obtain ⟨hX, hR, hc⟩ := ngtR_ok hI i (Nat.le_refl _)
    refine r_iload_n (μ := mX12_night) (pc := 29) dX12_night_29 rfl rfl ?_
    refine r_aload_n (μ := mX12_night) (pc := 30) dX12_night_30 rfl rfl rfl ?_
    refine r_getR (μ := mX12_night) (pc := 31) dX12_night_31 fpX12_7 rfl rfl (by decide) (hM _ _ rfl) ?_
    refine r_iconst (μ := mX12_night) (pc := 34) (v := 1) dX12_night_34 ic_1 ?_
    refine r_iaload (μ := mX12_night) (pc := 35) (j := 1) dX12_night_35 rfl rfl (by decide) (by decide) ?_
    rw [hS.1, hX.em]
    refine r_icmp_ge (μ := mX12_night) (pc := 36) (tgt := 134) dX12_night_36 (by decide) (fun h_36 => ?_) (fun h_36 => absurd (nI_le (Nat.le_refl _) (by omega)) h_36)
    refine r_aload_n (μ := mX12_night) (pc := 134) dX12_night_134 rfl rfl rfl ?_
    refine r_getR (μ := mX12_night) (pc := 135) dX12_night_135 fpX12_7 rfl rfl (by decide) (hM _ _ rfl) ?_
    refine r_iconst (μ := mX12_night) (pc := 138) (v := 4) dX12_night_138 ic_4 ?_
    refine r_dup2 (μ := mX12_night) (pc := 139) dX12_night_139 rfl rfl ?_
    refine r_iaload (μ := mX12_night) (pc := 140) (j := 4) dX12_night_140 rfl rfl (by decide) (by decide) ?_
    rw [hS.1]
    refine r_iconst (μ := mX12_night) (pc := 141) (v := 1) dX12_night_141 ic_1 ?_
    refine r_iadd (μ := mX12_night) (pc := 142) dX12_night_142 ?_
    refine r_iastore (μ := mX12_night) (pc := 143) (j := 4) dX12_night_143 rfl rfl (by decide) (by decide) ?_
    refine r_iload_n (μ := mX12_night) (pc := 144) dX12_night_144 rfl rfl ?_
    exact r_iret (μ := mX12_night) (pc := 145) dX12_night_145 rfl rfl (hq _ hS.up)
  | succ k ih =>
    intro i hk mi2 hS x3 x4 h3 h4
    obtain ⟨hX, hR, hc⟩ := ngtR_ok hI i (by omega)
    have hi : i < m := by omega
    have hn : 0 < n := Nat.lt_of_le_of_lt (Nat.zero_le _) (hX.tn hi)
    have hY := hX.up (k := 6) (v := nz ((ngtR s q n m i).1 6)) (by omega)
    have hRY : RelS s (upd (ngtR s q n m i).1 6 (nz ((ngtR s q n m i).1 6))) := hR.tr (RelS.upd (by omega))
    have et : tN (upd (ngtR s q n m i).1 6 (nz ((ngtR s q n m i).1 6))) i = tN (ngtR s q n m i).1 i := by unfold tN tpp; rw [upd_n (by omega)]
    have htn := hX.tn hi
    have hf : fN s i < 10 := Nat.lt_of_lt_of_le (hI.fn hi) hn10
    have hstep : ngtR s q n m (i + 1) = nstep s q n i (ngtR s q n m i) := rfl
    refine r_iload_n (μ := mX12_night) (pc := 29) dX12_night_29 rfl rfl ?_
    refine r_aload_n (μ := mX12_night) (pc := 30) dX12_night_30 rfl rfl rfl ?_
    refine r_getR (μ := mX12_night) (pc := 31) dX12_night_31 fpX12_7 rfl rfl (by decide) (hM _ _ rfl) ?_
    refine r_iconst (μ := mX12_night) (pc := 34) (v := 1) dX12_night_34 ic_1 ?_
    refine r_iaload (μ := mX12_night) (pc := 35) (j := 1) dX12_night_35 rfl rfl (by decide) (by decide) ?_
    rw [hS.1, hX.em]
    refine r_icmp_ge (μ := mX12_night) (pc := 36) (tgt := 134) dX12_night_36 (by decide) (fun h_36 => absurd h_36 (nI_ge (by omega) (by omega))) (fun h_36 => ?_)
    refine r_aload_n (μ := mX12_night) (pc := 39) dX12_night_39 rfl rfl rfl ?_
    refine vX0 (μ := mX12_night) (pc := 40) (c0 := 12) (q0 := (RX12, TX12, 34)) (μ2 := mX12_drawn) dX12_night_40 rfl rfl lkX12_102 imX12_drawn seX12_X12_drawn_X12_drawn mwX12_drawn (Nat.le_of_ble_eq_true rfl) (e_drawn hM hS.1) (fun r_40 mi_40 h_40 => ?_)
    obtain ⟨rfl, rfl⟩ := h_40
    refine r_bipush (μ := mX12_night) (pc := 43) (v := 100) dX12_night_43 bp_100 ?_
    refine r_irem (μ := mX12_night) (pc := 45) dX12_night_45 (by decide) ?_
    refine r_aload_n (μ := mX12_night) (pc := 46) dX12_night_46 rfl rfl rfl ?_
    refine r_getR (μ := mX12_night) (pc := 47) dX12_night_47 fpX12_7 rfl rfl (by decide) (hM _ _ rfl) ?_
    refine r_iconst (μ := mX12_night) (pc := 50) (v := 5) dX12_night_50 ic_5 ?_
    refine r_iaload (μ := mX12_night) (pc := 51) (j := 5) dX12_night_51 rfl rfl (by decide) (by decide) ?_
    rw [up_ne (by decide), hS.1]
    refine r_icmp_ge (μ := mX12_night) (pc := 52) (tgt := 128) dX12_night_52 (by decide) (fun h_52 => ?_) (fun h_52 => ?_)
    · have h52 : ¬ remS (drw (nz ((ngtR s q n m i).1 6))) 100 < (ngtR s q n m i).1 5 := Int32.not_lt.mpr h_52
      have hst : ngtR s q n m (i + 1) = (upd (ngtR s q n m i).1 6 (nz ((ngtR s q n m i).1 6)), (ngtR s q n m i).2) := by rw [hstep]; unfold nstep; rw [if_neg h52]
      refine s_iinc (μ := mX12_night) (pc := 128) (c := 1) (L2 := [_, _, _, _, _]) dX12_night_128 rfl ic_1 (Nat.le_of_ble_eq_true rfl) (by simp only [List.all_cons, List.all_nil, catL_i, catL_r, h3, h4, Bool.and_self]) rfl ?_
      refine r_goto (μ := mX12_night) (pc := 131) (tgt := 29) dX12_night_131 (by decide) ?_
      exact WP.L (by rw [hst, nI_succ]) (ih (i + 1) (by omega) _ (by rw [hst]; exact hS.up) x3 x4 h3 h4)
    · have h52 : remS (drw (nz ((ngtR s q n m i).1 6))) 100 < (ngtR s q n m i).1 5 := Int32.not_le.mp h_52
      refine r_aload_n (μ := mX12_night) (pc := 55) dX12_night_55 rfl rfl rfl ?_
      refine r_iload_n (μ := mX12_night) (pc := 56) dX12_night_56 rfl rfl ?_
      refine r_iconst (μ := mX12_night) (pc := 57) (v := 3) dX12_night_57 ic_3 ?_
      refine vP2 (μ := mX12_night) (pc := 58) (c0 := 12) (q0 := (RX12, TX12, 34)) (μ2 := mX12_of) dX12_night_58 rfl rfl lkX12_90 imX12_of seX12_X12_of_X12_of mwX12_of (Nat.le_of_ble_eq_true rfl) (e_of hM hS.up.1 (by omega) (by decide)) ?_
      rw [hY.t hi, et]
      refine s_istore_n (μ := mX12_night) (pc := 61) (L2 := [_, _, _, _, _]) dX12_night_61 rfl (Nat.le_of_ble_eq_true rfl) (Nat.le_of_ble_eq_true rfl) (by simp only [List.all_cons, List.all_nil, catL_i, catL_r, h3, h4, Bool.and_self]) rfl ?_
      refine r_iload_n (μ := mX12_night) (pc := 62) dX12_night_62 rfl rfl ?_
      refine r_iconst (μ := mX12_night) (pc := 63) (v := 1) dX12_night_63 ic_1 ?_
      refine r_iadd (μ := mX12_night) (pc := 64) dX12_night_64 ?_
      refine r_aload_n (μ := mX12_night) (pc := 65) dX12_night_65 rfl rfl rfl ?_
      refine r_getR (μ := mX12_night) (pc := 66) dX12_night_66 fpX12_7 rfl rfl (by decide) (hM _ _ rfl) ?_
      refine r_iconst (μ := mX12_night) (pc := 69) (v := 0) dX12_night_69 ic_0 ?_
      refine r_iaload (μ := mX12_night) (pc := 70) (j := 0) dX12_night_70 rfl rfl (by decide) (by decide) ?_
      refine r_irem (μ := mX12_night) (pc := 71) dX12_night_71 (by rw [hS.up.1, hY.en]; exact nI_ne0 (by omega) (by omega)) ?_
      rw [hS.up.1, hY.en, ← nI_succ, rem_n (by omega) hn (by omega)]
      refine s_istore (μ := mX12_night) (pc := 72) (L2 := [_, _, _, _, _]) dX12_night_72 (Nat.le_of_ble_eq_true rfl) (Nat.le_of_ble_eq_true rfl) (by simp only [List.all_cons, List.all_nil, catL_i, catL_r, h3, h4, Bool.and_self]) rfl ?_
      have eB : nxB (rchS (upd (ngtR s q n m i).1 6 (nz ((ngtR s q n m i).1 6))) q i) n (tN (ngtR s q n m i).1 i) n ((tN (ngtR s q n m i).1 i + 1) % n) = nxB (rchS s q i) n (tN (ngtR s q n m i).1 i) n ((tN (ngtR s q n m i).1 i + 1) % n) := nxB_cong hn (fun b hb => rch_cong hRY q (by omega) hf (by omega)) _ _ (Nat.mod_lt _ hn)
      have hBn := nxB_lt (rchS s q i) (was := tN (ngtR s q n m i).1 i) hn n ((tN (ngtR s q n m i).1 i + 1) % n) (Nat.mod_lt _ hn)
      have hst : ngtR s q n m (i + 1) = (upd (upd (ngtR s q n m i).1 6 (nz ((ngtR s q n m i).1 6))) (28 + 5 * i + 3) (nI (nxB (rchS s q i) n (tN (ngtR s q n m i).1 i) n ((tN (ngtR s q n m i).1 i + 1) % n))), (ngtR s q n m i).2 + (if nxB (rchS s q i) n (tN (ngtR s q n m i).1 i) n ((tN (ngtR s q n m i).1 i + 1) % n) = tN (ngtR s q n m i).1 i then 0 else 1)) := by rw [hstep]; unfold nstep; rw [if_pos h52]
      generalize nxB (rchS s q i) n (tN (ngtR s q n m i).1 i) n ((tN (ngtR s q n m i).1 i + 1) % n) = B at eB hBn hst
      refine lp_nightC (mi := mi) hM hY hi htn (B := B) (fun mi3 hS3 => ?_) n ((tN (ngtR s q n m i).1 i + 1) % n) (n - 1) (by omega) (Nat.mod_lt _ hn) (by rw [Nat.mod_add_mod, show tN (ngtR s q n m i).1 i + 1 + (n - 1) = tN (ngtR s q n m i).1 i + n by omega, Nat.add_mod_right, Nat.mod_eq_of_lt htn]) eB _ hS.up
      refine r_aload_n (μ := mX12_night) (pc := 106) dX12_night_106 rfl rfl rfl ?_
      refine r_iload_n (μ := mX12_night) (pc := 107) dX12_night_107 rfl rfl ?_
      refine r_iconst (μ := mX12_night) (pc := 108) (v := 3) dX12_night_108 ic_3 ?_
      refine r_iload (μ := mX12_night) (pc := 109) dX12_night_109 rfl ?_
      refine vV3 (μ := mX12_night) (pc := 111) (c0 := 12) (q0 := (RX12, TX12, 34)) (μ2 := mX12_sets) dX12_night_111 rfl rfl lkX12_108 imX12_sets seX12_X12_sets_X12_sets mwX12_sets (Nat.le_of_ble_eq_true rfl) (c_sets hM (by omega) (by decide)) (fun mi_111 h_111 => ?_)
      subst h_111
      refine r_iload_n (μ := mX12_night) (pc := 114) dX12_night_114 rfl rfl ?_
      refine r_iload (μ := mX12_night) (pc := 115) dX12_night_115 rfl ?_
      refine r_iload_n (μ := mX12_night) (pc := 117) dX12_night_117 rfl rfl ?_
      refine r_icmp_ne (μ := mX12_night) (pc := 118) (tgt := 125) dX12_night_118 (by decide) (fun h_118 => ?_) (fun h_118 => ?_)
      · have h118 : ¬ B = tN (ngtR s q n m i).1 i := fun q => h_118 (by rw [q])
        refine r_iconst (μ := mX12_night) (pc := 125) (v := 1) dX12_night_125 ic_1 ?_
        refine r_iadd (μ := mX12_night) (pc := 126) dX12_night_126 ?_
        refine s_istore_n (μ := mX12_night) (pc := 127) (L2 := [_, _, _, _, _]) dX12_night_127 rfl (Nat.le_of_ble_eq_true rfl) (Nat.le_of_ble_eq_true rfl) rfl rfl ?_
        refine s_iinc (μ := mX12_night) (pc := 128) (c := 1) (L2 := [_, _, _, _, _]) dX12_night_128 rfl ic_1 (Nat.le_of_ble_eq_true rfl) rfl rfl ?_
        refine r_goto (μ := mX12_night) (pc := 131) (tgt := 29) dX12_night_131 (by decide) ?_
        exact WP.L (by rw [hst]; first | (rw [if_neg h118, nI_succ, nI_succ]; done) | (rw [if_pos h118, nI_succ]; simp)) (ih (i + 1) (by omega) _ (by rw [hst]; exact hS3.up) (.int (nI (tN (ngtR s q n m i).1 i))) (.int (nI B)) rfl rfl)
      · have h118 : B = tN (ngtR s q n m i).1 i := (nI_eq (by omega) (by omega)).mp h_118
        refine r_iconst (μ := mX12_night) (pc := 121) (v := 0) dX12_night_121 ic_0 ?_
        refine r_goto (μ := mX12_night) (pc := 122) (tgt := 126) dX12_night_122 (by decide) ?_
        refine r_iadd (μ := mX12_night) (pc := 126) dX12_night_126 ?_
        refine s_istore_n (μ := mX12_night) (pc := 127) (L2 := [_, _, _, _, _]) dX12_night_127 rfl (Nat.le_of_ble_eq_true rfl) (Nat.le_of_ble_eq_true rfl) rfl rfl ?_
        refine s_iinc (μ := mX12_night) (pc := 128) (c := 1) (L2 := [_, _, _, _, _]) dX12_night_128 rfl ic_1 (Nat.le_of_ble_eq_true rfl) rfl rfl ?_
        refine r_goto (μ := mX12_night) (pc := 131) (tgt := 29) dX12_night_131 (by decide) ?_
        exact WP.L (by rw [hst]; first | (rw [if_neg h118, nI_succ, nI_succ]; done) | (rw [if_pos h118, nI_succ]; simp)) (ih (i + 1) (by omega) _ (by rw [hst]; exact hS3.up) (.int (nI (tN (ngtR s q n m i).1 i))) (.int (nI B)) rfl rfl)

theorem lp_nightA {d : Nat} {mi : MI} {mr : MR} {Q : QT} (hM : MB mr) {s : Rw} {n m p q : Nat} (hI : Inv s n m p q) (hs : mi 1 = s) (hq : ∀ mi2, SR mi mi2 (nightR s q n m) → Q (some (.int (nI (ngtR s q n m m).2))) shM mi2 mr) :
    ∀ (k i : Nat), i + k = m → ∀ mi2, SR mi mi2 (clrR s i) → WP (d + 4) mX12_night 4 [.ref 0, .int 0, .int (nI i), hole, hole] [] shM mi2 mr 0 0 Q := by
  have hn10 := hI.n10
  have hm8 := hI.m8
  intro k
  induction k with
  | zero =>
    intro i hk mi2 hS
    obtain rfl : i = m := by omega
    refine r_iload_n (μ := mX12_night) (pc := 4) dX12_night_4 rfl rfl ?_
    refine r_aload_n (μ := mX12_night) (pc := 5) dX12_night_5 rfl rfl rfl ?_
    refine r_getR (μ := mX12_night) (pc := 6) dX12_night_6 fpX12_7 rfl rfl (by decide) (hM _ _ rfl) ?_
    refine r_iconst (μ := mX12_night) (pc := 9) (v := 1) dX12_night_9 ic_1 ?_
    refine r_iaload (μ := mX12_night) (pc := 10) (j := 1) dX12_night_10 rfl rfl (by decide) (by decide) ?_
    rw [hS.1, (clrR_ok hI i (Nat.le_refl _)).1.em]
    refine r_icmp_ge (μ := mX12_night) (pc := 11) (tgt := 27) dX12_night_11 (by decide) (fun h_11 => ?_) (fun h_11 => absurd (nI_le (Nat.le_refl _) (by omega)) h_11)
    refine r_iconst (μ := mX12_night) (pc := 27) (v := 0) dX12_night_27 ic_0 ?_
    refine s_istore_n (μ := mX12_night) (pc := 28) (L2 := [_, _, _, _, _]) dX12_night_28 rfl (Nat.le_of_ble_eq_true rfl) (Nat.le_of_ble_eq_true rfl) rfl rfl ?_
    exact lp_nightB hM hI hs hq i 0 (Nat.zero_add _) mi2 hS _ _ rfl rfl
  | succ k ih =>
    intro i hk mi2 hS
    refine r_iload_n (μ := mX12_night) (pc := 4) dX12_night_4 rfl rfl ?_
    refine r_aload_n (μ := mX12_night) (pc := 5) dX12_night_5 rfl rfl rfl ?_
    refine r_getR (μ := mX12_night) (pc := 6) dX12_night_6 fpX12_7 rfl rfl (by decide) (hM _ _ rfl) ?_
    refine r_iconst (μ := mX12_night) (pc := 9) (v := 1) dX12_night_9 ic_1 ?_
    refine r_iaload (μ := mX12_night) (pc := 10) (j := 1) dX12_night_10 rfl rfl (by decide) (by decide) ?_
    rw [hS.1, (clrR_ok hI i (by omega)).1.em]
    refine r_icmp_ge (μ := mX12_night) (pc := 11) (tgt := 27) dX12_night_11 (by decide) (fun h_11 => absurd h_11 (nI_ge (by omega) (by omega))) (fun h_11 => ?_)
    refine r_aload_n (μ := mX12_night) (pc := 14) dX12_night_14 rfl rfl rfl ?_
    refine r_iload_n (μ := mX12_night) (pc := 15) dX12_night_15 rfl rfl ?_
    refine r_iconst (μ := mX12_night) (pc := 16) (v := 4) dX12_night_16 ic_4 ?_
    refine r_iconst (μ := mX12_night) (pc := 17) (v := 0) dX12_night_17 ic_0 ?_
    refine vV3 (μ := mX12_night) (pc := 18) (c0 := 12) (q0 := (RX12, TX12, 34)) (μ2 := mX12_sets) dX12_night_18 rfl rfl lkX12_108 imX12_sets seX12_X12_sets_X12_sets mwX12_sets (Nat.le_of_ble_eq_true rfl) (c_sets hM (by omega) (by decide)) (fun mi_18 h_18 => ?_)
    subst h_18
    refine s_iinc (μ := mX12_night) (pc := 21) (c := 1) (L2 := [_, _, _, _, _]) dX12_night_21 rfl ic_1 (Nat.le_of_ble_eq_true rfl) rfl rfl ?_
    refine r_goto (μ := mX12_night) (pc := 24) (tgt := 4) dX12_night_24 (by decide) ?_
    exact WP.L (by rw [nI_succ]) (ih (i + 1) (by omega) _ hS.up)

theorem c_night {d : Nat} {mi : MI} {mr : MR} (hM : MB mr) {s : Rw} (hs : mi 1 = s) {n m p q : Nat} (hI : Inv s n m p q) : CP (d + 4) mX12_night [.ref 0] shM mi mr 0 0 (PX shM mr (fun r mi2 => r = nI (ngtR s q n m m).2 ∧ SR mi mi2 (nightR s q n m))) := by
  refine CP.of (L := [_, _, _, _, _]) (by decide) rfl rfl (Nat.le_of_ble_eq_true rfl) ?_
  refine r_iconst (μ := mX12_night) (pc := 0) (v := 0) dX12_night_0 ic_0 ?_
  refine s_istore_n (μ := mX12_night) (pc := 1) (L2 := [_, _, _, _, _]) dX12_night_1 rfl (Nat.le_of_ble_eq_true rfl) (Nat.le_of_ble_eq_true rfl) rfl rfl ?_
  refine r_iconst (μ := mX12_night) (pc := 2) (v := 0) dX12_night_2 ic_0 ?_
  refine s_istore_n (μ := mX12_night) (pc := 3) (L2 := [_, _, _, _, _]) dX12_night_3 rfl (Nat.le_of_ble_eq_true rfl) (Nat.le_of_ble_eq_true rfl) rfl rfl ?_
  exact lp_nightA hM hI hs (fun mi2 h => PX_i ⟨rfl, h⟩) m 0 (Nat.zero_add _) mi (SR.rf hs)

