theorem all_f {f : Nat → Bool} {j : Nat} (h : f j = false) : ∀ {n}, j < n → allB f n = false
  | 0, q => absurd q (Nat.not_lt_zero _)
  | n + 1, q => by
    show (allB f n && f n) = false
    rcases Nat.lt_or_ge j n with z | z
    · rw [all_f h z]; rfl
    · obtain rfl : j = n := by omega
      rw [h, Bool.and_false]
theorem lp_mall {d : Nat} {sh : List Sh} {mi : MI} {mr : MR} {Q : QT} (hF : SHC sh) (hB : CB mr) {b : Nat} (hTb : isT b) (hw : mr 44 0 = some b) {s : Rw} {n m p q : Nat} (hR : RT sh mi mr b s n m p q) (hI : Inv s n m p q) (hS : WS mi b s n m q) {a : Nat} (ha : a < n) {mi9 : MI} (hX : SP 47 mi mi9) (hD : ∀ j, j < 10 → mi9 47 j = nI (mesS s q m a j)) (hq : Q (some (.int (if mtAll s q m p a = true then nI (mtSum s q m p a) else -1))) sh mi9 mr) :
    ∀ (k i : Nat), i + k = p → allB (fun j => decide (farS s q m a (sN s j) < 1000000)) i = true → WP (d + 5) mX10_minutesOfAllTo 9 [.ref 44, .int (nI a), .int (nI (smD (fun j => farS s q m a (sN s j) / 100) i)), .int (nI i)] [] sh mi9 mr 0 0 Q := by
  have hT := TB.of hF hB hTb
  have hb44 : b + 11 < 44 := by unfold isT at hTb; omega
  have hn10 := hI.n10; have hm8 := hI.m8; have hp6 := hI.p6
  have hR2 := hR.fr (mi2 := mi9) (fun x h1 h2 => hX x (by omega)) (fun x h1 => hX x (by omega))
  intro k
  induction k with
  | zero =>
    intro i hk hal
    obtain rfl : i = p := by omega
    refine r_iload_n (μ := mX10_minutesOfAllTo) (pc := 9) dX10_minutesOfAllTo_9 rfl rfl ?_
    refine r_aload_n (μ := mX10_minutesOfAllTo) (pc := 10) dX10_minutesOfAllTo_10 rfl rfl rfl ?_
    refine r_getR (μ := mX10_minutesOfAllTo) (pc := 11) dX10_minutesOfAllTo_11 fpX10_21 rfl (hF _ _ rfl) (by decide) hw ?_
    refine r_getI (μ := mX10_minutesOfAllTo) (pc := 14) dX10_minutesOfAllTo_14 fpX10_92 rfl (hT.1 0 _ rfl) (by decide) ?_
    rw [hR2.ep]
    refine r_icmp_ge (μ := mX10_minutesOfAllTo) (pc := 17) (tgt := 60) dX10_minutesOfAllTo_17 (by decide) (fun h_17 => ?_) (fun h_17 => absurd (nI_le (Nat.le_refl _) (by omega)) h_17)
    refine r_iload_n (μ := mX10_minutesOfAllTo) (pc := 60) dX10_minutesOfAllTo_60 rfl rfl ?_
    exact r_iret (μ := mX10_minutesOfAllTo) (pc := 61) dX10_minutesOfAllTo_61 rfl rfl (by rw [if_pos (show mtAll s q m i a = true from hal)] at hq; exact hq)
  | succ k ih =>
    intro i hk hal
    have hi : i < p := by omega
    have hsn := hI.sn hi
    have hsp : spt s i = nI (sN s i) := hI.sp hi
    have hmf := mes_far hI ha (sN s i)
    refine r_iload_n (μ := mX10_minutesOfAllTo) (pc := 9) dX10_minutesOfAllTo_9 rfl rfl ?_
    refine r_aload_n (μ := mX10_minutesOfAllTo) (pc := 10) dX10_minutesOfAllTo_10 rfl rfl rfl ?_
    refine r_getR (μ := mX10_minutesOfAllTo) (pc := 11) dX10_minutesOfAllTo_11 fpX10_21 rfl (hF _ _ rfl) (by decide) hw ?_
    refine r_getI (μ := mX10_minutesOfAllTo) (pc := 14) dX10_minutesOfAllTo_14 fpX10_92 rfl (hT.1 0 _ rfl) (by decide) ?_
    rw [hR2.ep]
    refine r_icmp_ge (μ := mX10_minutesOfAllTo) (pc := 17) (tgt := 60) dX10_minutesOfAllTo_17 (by decide) (fun h_17 => absurd h_17 (nI_ge (by omega) (by omega))) (fun h_17 => ?_)
    refine r_aload_n (μ := mX10_minutesOfAllTo) (pc := 20) dX10_minutesOfAllTo_20 rfl rfl rfl ?_
    refine r_aload_n (μ := mX10_minutesOfAllTo) (pc := 21) dX10_minutesOfAllTo_21 rfl rfl rfl ?_
    refine r_getR (μ := mX10_minutesOfAllTo) (pc := 22) dX10_minutesOfAllTo_22 fpX10_21 rfl (hF _ _ rfl) (by decide) hw ?_
    refine r_getR (μ := mX10_minutesOfAllTo) (pc := 25) dX10_minutesOfAllTo_25 fpX10_95 rfl (hT.1 0 _ rfl) (by decide) (hT.2.1 _ _ rfl) ?_
    refine r_iload_n (μ := mX10_minutesOfAllTo) (pc := 28) dX10_minutesOfAllTo_28 rfl rfl ?_
    refine r_iaload (μ := mX10_minutesOfAllTo) (pc := 29) (j := i) dX10_minutesOfAllTo_29 (hT.1 _ _ rfl) rfl (by omega) (by decide) ?_
    rw [hR2.sp hi, hsp]
    refine vP1 (μ := mX10_minutesOfAllTo) (pc := 30) (c0 := 10) (q0 := (RX10, TX10, 4)) (μ2 := mX10_measured) dX10_minutesOfAllTo_30 (hF _ _ rfl) rfl lkX10_84 imX10_measured seX10_X10_measured_X10_measured mwX10_measured (Nat.le_of_ble_eq_true rfl) (k_measured hF hB hD (mesS_le s q m a) (by omega)) ?_
    refine r_if_ne (μ := mX10_minutesOfAllTo) (pc := 33) (tgt := 38) dX10_minutesOfAllTo_33 (by decide) (fun h_33 => ?_) (fun h_33 => ?_)
    · have h_33 := b2i_1 h_33
      have h33 := of_decide_eq_true h_33
      have hfr : farS s q m a (sN s i) < 1000000 ∧ mesS s q m a (sN s i) / 16 = farS s q m a (sN s i) / 100 := by omega
      have hal2 : allB (fun j => decide (farS s q m a (sN s j) < 1000000)) (i + 1) = true := by show (allB _ i && decide (farS s q m a (sN s i) < 1000000)) = true; rw [hal, decide_eq_true hfr.1]; rfl
      refine r_iload_n (μ := mX10_minutesOfAllTo) (pc := 38) dX10_minutesOfAllTo_38 rfl rfl ?_
      refine r_aload_n (μ := mX10_minutesOfAllTo) (pc := 39) dX10_minutesOfAllTo_39 rfl rfl rfl ?_
      refine r_aload_n (μ := mX10_minutesOfAllTo) (pc := 40) dX10_minutesOfAllTo_40 rfl rfl rfl ?_
      refine r_getR (μ := mX10_minutesOfAllTo) (pc := 41) dX10_minutesOfAllTo_41 fpX10_21 rfl (hF _ _ rfl) (by decide) hw ?_
      refine r_getR (μ := mX10_minutesOfAllTo) (pc := 44) dX10_minutesOfAllTo_44 fpX10_95 rfl (hT.1 0 _ rfl) (by decide) (hT.2.1 _ _ rfl) ?_
      refine r_iload_n (μ := mX10_minutesOfAllTo) (pc := 47) dX10_minutesOfAllTo_47 rfl rfl ?_
      refine r_iaload (μ := mX10_minutesOfAllTo) (pc := 48) (j := i) dX10_minutesOfAllTo_48 (hT.1 _ _ rfl) rfl (by omega) (by decide) ?_
      rw [hR2.sp hi, hsp]
      refine vP1 (μ := mX10_minutesOfAllTo) (pc := 49) (c0 := 10) (q0 := (RX10, TX10, 4)) (μ2 := mX10_minutesTo) dX10_minutesOfAllTo_49 (hF _ _ rfl) rfl lkX10_98 imX10_minutesTo seX10_X10_minutesTo_X10_minutesTo mwX10_minutesTo (Nat.le_of_ble_eq_true rfl) (k_minutesTo hF hB hD (mesS_le s q m a) (by omega)) ?_
      refine r_iadd (μ := mX10_minutesOfAllTo) (pc := 52) dX10_minutesOfAllTo_52 ?_
      refine s_istore_n (μ := mX10_minutesOfAllTo) (pc := 53) (L2 := [_, _, _, _]) dX10_minutesOfAllTo_53 rfl (Nat.le_of_ble_eq_true rfl) (Nat.le_of_ble_eq_true rfl) rfl rfl ?_
      refine s_iinc (μ := mX10_minutesOfAllTo) (pc := 54) (c := 1) (L2 := [_, _, _, _]) dX10_minutesOfAllTo_54 rfl ic_1 (Nat.le_of_ble_eq_true rfl) rfl rfl ?_
      refine r_goto (μ := mX10_minutesOfAllTo) (pc := 57) (tgt := 9) dX10_minutesOfAllTo_57 (by decide) ?_
      exact WP.L (by rw [if_pos h33, nI_add, hfr.2, nI_succ]; rfl) (ih (i + 1) (by omega) hal2)
    · have h_33 := b2i_0 h_33
      have h33 := of_decide_eq_false h_33
      have hfr : ¬ farS s q m a (sN s i) < 1000000 := by omega
      refine r_iconst (μ := mX10_minutesOfAllTo) (pc := 36) (v := -1) dX10_minutesOfAllTo_36 ic_m1 ?_
      exact r_iret (μ := mX10_minutesOfAllTo) (pc := 37) dX10_minutesOfAllTo_37 rfl rfl (by rw [if_neg (by unfold mtAll; rw [all_f (decide_eq_false hfr) hi]; decide)] at hq; exact hq)

theorem k_minutesOfAllTo {d : Nat} {sh : List Sh} {mi : MI} {mr : MR} (hF : SHC sh) (hB : CB mr) {b : Nat} (hTb : isT b) (hw : mr 44 0 = some b) {s : Rw} {n m p q : Nat} (hR : RT sh mi mr b s n m p q) (hI : Inv s n m p q) (hS : WS mi b s n m q) {a : Nat} (ha : a < n) : CP (d + 5) mX10_minutesOfAllTo [.ref 44, .int (nI a)] sh mi mr 0 0 (PX sh mr (fun r mi2 => r = (if mtAll s q m p a = true then nI (mtSum s q m p a) else -1) ∧ SP 47 mi mi2)) := by
  have hT := TB.of hF hB hTb
  have hb44 : b + 11 < 44 := by unfold isT at hTb; omega
  have hn10 := hI.n10; have hm8 := hI.m8; have hp6 := hI.p6
  refine CP.of (L := [_, _, _, _]) (by decide) rfl rfl (Nat.le_of_ble_eq_true rfl) ?_
  refine r_aload_n (μ := mX10_minutesOfAllTo) (pc := 0) dX10_minutesOfAllTo_0 rfl rfl rfl ?_
  refine r_iload_n (μ := mX10_minutesOfAllTo) (pc := 1) dX10_minutesOfAllTo_1 rfl rfl ?_
  refine vV1 (μ := mX10_minutesOfAllTo) (pc := 2) (c0 := 10) (q0 := (RX10, TX10, 4)) (μ2 := mX10_measureFrom) dX10_minutesOfAllTo_2 (hF _ _ rfl) rfl lkX10_88 imX10_measureFrom seX10_X10_measureFrom_X10_measureFrom mwX10_measureFrom (Nat.le_of_ble_eq_true rfl) (k_measureFrom hF hB hTb hw hR hI hS ha) (fun mi_2 h_2 => ?_)
  obtain ⟨hX, hD⟩ := h_2
  refine r_iconst (μ := mX10_minutesOfAllTo) (pc := 5) (v := 0) dX10_minutesOfAllTo_5 ic_0 ?_
  refine s_istore_n (μ := mX10_minutesOfAllTo) (pc := 6) (L2 := [_, _, _, _]) dX10_minutesOfAllTo_6 rfl (Nat.le_of_ble_eq_true rfl) (Nat.le_of_ble_eq_true rfl) rfl rfl ?_
  refine r_iconst (μ := mX10_minutesOfAllTo) (pc := 7) (v := 0) dX10_minutesOfAllTo_7 ic_0 ?_
  refine s_istore_n (μ := mX10_minutesOfAllTo) (pc := 8) (L2 := [_, _, _, _]) dX10_minutesOfAllTo_8 rfl (Nat.le_of_ble_eq_true rfl) (Nat.le_of_ble_eq_true rfl) rfl rfl ?_
  exact lp_mall hF hB hTb hw hR hI hS ha hX hD (PX_i ⟨rfl, hX⟩) p 0 (Nat.zero_add _) rfl

theorem ab_v {v : Int32} {w : Nat} (hv : inB v (-99999) 99999 = true) (hw : w ≤ 99999) : abI (nI w - v) = apartS v (nI w) := by
  have hv : -99999 ≤ v.toInt ∧ v.toInt ≤ 99999 := by unfold inB at hv; simpa using hv
  have hwt := nI_toInt (n := w) (by omega)
  have e1 : (nI w - v).toInt = w - v.toInt := by rw [Int32.toInt_sub, hwt, Int.bmod_eq_of_le (by omega) (by omega)]
  have e2 : (v - nI w).toInt = v.toInt - w := by rw [Int32.toInt_sub, hwt, Int.bmod_eq_of_le (by omega) (by omega)]
  unfold abI apartS
  by_cases h : 0 ≤ nI w - v
  · have h1 := Int32.le_iff_toInt_le.mp h
    rw [e1] at h1
    have h0 : (0 : Int32).toInt = 0 := rfl
    rw [if_pos h]
    by_cases h2 : nI w ≤ v
    · have h3 := Int32.le_iff_toInt_le.mp h2
      rw [hwt] at h3
      rw [if_pos h2]
      apply Int32.toInt_inj.mp
      rw [e1, e2]; omega
    · rw [if_neg h2]
  · have h1 := mt Int32.le_iff_toInt_le.mpr h
    rw [e1] at h1
    have h0 : (0 : Int32).toInt = 0 := rfl
    rw [if_neg h, if_pos (Int32.le_iff_toInt_le.mpr (by rw [hwt]; omega))]
    apply Int32.toInt_inj.mp
    rw [Int32.toInt_sub, e1, e2, h0, Int.bmod_eq_of_le (by omega) (by omega)]
    omega

theorem lp_diff {d : Nat} {sh : List Sh} {mi : MI} {mr : MR} {Q : QT} (hF : SHC sh) (hB : CB mr) {b : Nat} (hTb : isT b) (hw : mr 44 0 = some b) {s : Rw} {n m p q : Nat} (hR : RT sh mi mr b s n m p q) (hI : Inv s n m p q) (hS : WS mi b s n m q) {sa pa z : Nat} (hsa : sh[sa]? = some (11, 3)) (hpa : sh[pa]? = some (0, 24)) (hrp : mr sa 2 = some pa) (hz : mi sa 1 = nI z) (hz24 : z ≤ 24) (hne : sa ≠ 47 ∧ pa ≠ 47) (hv : ∀ j, j < z → mi pa j = NONEc ∨ inB (mi pa j) (-99999) 99999 = true) {a : Nat} (ha : a < n) {mi9 : MI} (hX : SP 47 mi mi9) (hD : ∀ j, j < 10 → mi9 47 j = nI (mesS s q m a j)) (hq : Q (some (.int (nrSum s q n m (mi pa) a z))) sh mi9 mr) :
    ∀ (k i : Nat), i + k = z → ∀ x5 : Value, catL x5 = true → WP (d + 5) mX10_differenceFrom 10 [.ref 44, .int (nI a), .ref sa, .int (nrSum s q n m (mi pa) a i), .int (nI i), x5] [] sh mi9 mr 0 0 Q := by
  have hT := TB.of hF hB hTb
  have hb44 : b + 11 < 44 := by unfold isT at hTb; omega
  have hn10 := hI.n10; have hm8 := hI.m8; have hp6 := hI.p6
  have hR2 := hR.fr (mi2 := mi9) (fun x h1 h2 => hX x (by omega)) (fun x h1 => hX x (by omega))
  have es : mi9 sa = mi sa := hX sa hne.1
  have ep : mi9 pa = mi pa := hX pa hne.2
  intro k
  induction k with
  | zero =>
    intro i hk x5 hx5
    obtain rfl : i = z := by omega
    refine r_iload (μ := mX10_differenceFrom) (pc := 10) dX10_differenceFrom_10 rfl ?_
    refine r_aload_n (μ := mX10_differenceFrom) (pc := 12) dX10_differenceFrom_12 rfl rfl rfl ?_
    refine r_getI (μ := mX10_differenceFrom) (pc := 13) dX10_differenceFrom_13 fpX10_101 rfl hsa (by decide) ?_
    rw [es, hz]
    refine r_icmp_ge (μ := mX10_differenceFrom) (pc := 16) (tgt := 82) dX10_differenceFrom_16 (by decide) (fun h_16 => ?_) (fun h_16 => absurd (nI_le (Nat.le_refl _) (by omega)) h_16)
    refine r_iload_n (μ := mX10_differenceFrom) (pc := 82) dX10_differenceFrom_82 rfl rfl ?_
    exact r_iret (μ := mX10_differenceFrom) (pc := 83) dX10_differenceFrom_83 rfl rfl hq
  | succ k ih =>
    intro i hk x5 hx5
    have hi : i < z := by omega
    have hmf := mes_far hI ha i
    have hml := mesS_le s q m a i
    refine r_iload (μ := mX10_differenceFrom) (pc := 10) dX10_differenceFrom_10 rfl ?_
    refine r_aload_n (μ := mX10_differenceFrom) (pc := 12) dX10_differenceFrom_12 rfl rfl rfl ?_
    refine r_getI (μ := mX10_differenceFrom) (pc := 13) dX10_differenceFrom_13 fpX10_101 rfl hsa (by decide) ?_
    rw [es, hz]
    refine r_icmp_ge (μ := mX10_differenceFrom) (pc := 16) (tgt := 82) dX10_differenceFrom_16 (by decide) (fun h_16 => absurd h_16 (nI_ge (by omega) (by omega))) (fun h_16 => ?_)
    refine r_aload_n (μ := mX10_differenceFrom) (pc := 19) dX10_differenceFrom_19 rfl rfl rfl ?_
    refine r_getR (μ := mX10_differenceFrom) (pc := 20) dX10_differenceFrom_20 fpX10_106 rfl hsa (by decide) hrp ?_
    refine r_iload (μ := mX10_differenceFrom) (pc := 23) dX10_differenceFrom_23 rfl ?_
    refine r_iaload (μ := mX10_differenceFrom) (pc := 25) (j := i) dX10_differenceFrom_25 hpa rfl (by omega) (by decide) ?_
    rw [ep]
    refine r_ldc (μ := mX10_differenceFrom) (pc := 26) dX10_differenceFrom_26 ctX10_109 ?_
    refine r_icmp_ne (μ := mX10_differenceFrom) (pc := 28) (tgt := 34) dX10_differenceFrom_28 (by decide) (fun h_28 => ?_) (fun h_28 => ?_)
    · have h28 : ¬ mi pa i = NONEc := h_28
      have hvi := (hv i hi).resolve_left h28
      refine r_iload (μ := mX10_differenceFrom) (pc := 34) dX10_differenceFrom_34 rfl ?_
      refine r_aload_n (μ := mX10_differenceFrom) (pc := 36) dX10_differenceFrom_36 rfl rfl rfl ?_
      refine r_getR (μ := mX10_differenceFrom) (pc := 37) dX10_differenceFrom_37 fpX10_21 rfl (hF _ _ rfl) (by decide) hw ?_
      refine r_getI (μ := mX10_differenceFrom) (pc := 40) dX10_differenceFrom_40 fpX10_56 rfl (hT.1 0 _ rfl) (by decide) ?_
      rw [hR2.en]
      refine r_icmp_ge (μ := mX10_differenceFrom) (pc := 43) (tgt := 55) dX10_differenceFrom_43 (by decide) (fun h_43 => ?_) (fun h_43 => ?_)
      · have h43 : n ≤ i := (nI_leI (by omega) (by omega)).mp h_43
        refine r_sipush (μ := mX10_differenceFrom) (pc := 55) (v := 999) dX10_differenceFrom_55 sp_999 ?_
        refine s_istore (μ := mX10_differenceFrom) (pc := 58) (L2 := [_, _, _, _, _, _]) dX10_differenceFrom_58 (Nat.le_of_ble_eq_true rfl) (Nat.le_of_ble_eq_true rfl) (by simp only [List.all_cons, List.all_nil, catL_i, catL_r, hx5, Bool.and_self]) rfl ?_
        refine r_iload_n (μ := mX10_differenceFrom) (pc := 60) dX10_differenceFrom_60 rfl rfl ?_
        refine r_iload (μ := mX10_differenceFrom) (pc := 61) dX10_differenceFrom_61 rfl ?_
        refine r_aload_n (μ := mX10_differenceFrom) (pc := 63) dX10_differenceFrom_63 rfl rfl rfl ?_
        refine r_getR (μ := mX10_differenceFrom) (pc := 64) dX10_differenceFrom_64 fpX10_106 rfl hsa (by decide) hrp ?_
        refine r_iload (μ := mX10_differenceFrom) (pc := 67) dX10_differenceFrom_67 rfl ?_
        refine r_iaload (μ := mX10_differenceFrom) (pc := 69) (j := i) dX10_differenceFrom_69 hpa rfl (by omega) (by decide) ?_
        rw [ep]
        refine r_isub (μ := mX10_differenceFrom) (pc := 70) dX10_differenceFrom_70 ?_
        refine r_mabs (μ := mX10_differenceFrom) (pc := 71) dX10_differenceFrom_71 lkX10_110 (Nat.le_of_ble_eq_true rfl) ?_
        refine r_iadd (μ := mX10_differenceFrom) (pc := 74) dX10_differenceFrom_74 ?_
        refine s_istore_n (μ := mX10_differenceFrom) (pc := 75) (L2 := [_, _, _, _, _, _]) dX10_differenceFrom_75 rfl (Nat.le_of_ble_eq_true rfl) (Nat.le_of_ble_eq_true rfl) (by simp only [List.all_cons, List.all_nil, catL_i, catL_r, hx5, Bool.and_self]) rfl ?_
        refine s_iinc (μ := mX10_differenceFrom) (pc := 76) (c := 1) (L2 := [_, _, _, _, _, _]) dX10_differenceFrom_76 rfl ic_1 (Nat.le_of_ble_eq_true rfl) (by simp only [List.all_cons, List.all_nil, catL_i, catL_r, hx5, Bool.and_self]) rfl ?_
        refine r_goto (μ := mX10_differenceFrom) (pc := 79) (tgt := 10) dX10_differenceFrom_79 (by decide) ?_
        have hd : nrD s q n m a i = nI 999 := by unfold nrD; rw [if_neg (by omega)]; rfl
        exact WP.L (by rw [show (999 : Int32) = nI 999 from rfl, ab_v hvi (by decide), show nI (i + 1) = nI i + 1 from nI_succ i, ← hd, show nrSum s q n m (mi pa) a (i + 1) = nrSum s q n m (mi pa) a i + apartS (mi pa i) (nrD s q n m a i) from by simp [nrSum, h28]]) (ih (i + 1) (by omega) _ rfl)
      · have h43 : i < n := by have := mt (nI_leI (a := n) (b := i) (by omega) (by omega)).mpr h_43; omega
        refine r_aload_n (μ := mX10_differenceFrom) (pc := 46) dX10_differenceFrom_46 rfl rfl rfl ?_
        refine r_iload (μ := mX10_differenceFrom) (pc := 47) dX10_differenceFrom_47 rfl ?_
        refine vP1 (μ := mX10_differenceFrom) (pc := 49) (c0 := 10) (q0 := (RX10, TX10, 4)) (μ2 := mX10_minutesTo) dX10_differenceFrom_49 (hF _ _ rfl) rfl lkX10_98 imX10_minutesTo seX10_X10_minutesTo_X10_minutesTo mwX10_minutesTo (Nat.le_of_ble_eq_true rfl) (k_minutesTo hF hB hD (mesS_le s q m a) (by omega)) ?_
        refine r_goto (μ := mX10_differenceFrom) (pc := 52) (tgt := 58) dX10_differenceFrom_52 (by decide) ?_
        refine s_istore (μ := mX10_differenceFrom) (pc := 58) (L2 := [_, _, _, _, _, _]) dX10_differenceFrom_58 (Nat.le_of_ble_eq_true rfl) (Nat.le_of_ble_eq_true rfl) (by simp only [List.all_cons, List.all_nil, catL_i, catL_r, hx5, Bool.and_self]) rfl ?_
        refine r_iload_n (μ := mX10_differenceFrom) (pc := 60) dX10_differenceFrom_60 rfl rfl ?_
        refine r_iload (μ := mX10_differenceFrom) (pc := 61) dX10_differenceFrom_61 rfl ?_
        refine r_aload_n (μ := mX10_differenceFrom) (pc := 63) dX10_differenceFrom_63 rfl rfl rfl ?_
        refine r_getR (μ := mX10_differenceFrom) (pc := 64) dX10_differenceFrom_64 fpX10_106 rfl hsa (by decide) hrp ?_
        refine r_iload (μ := mX10_differenceFrom) (pc := 67) dX10_differenceFrom_67 rfl ?_
        refine r_iaload (μ := mX10_differenceFrom) (pc := 69) (j := i) dX10_differenceFrom_69 hpa rfl (by omega) (by decide) ?_
        rw [ep]
        refine r_isub (μ := mX10_differenceFrom) (pc := 70) dX10_differenceFrom_70 ?_
        refine r_mabs (μ := mX10_differenceFrom) (pc := 71) dX10_differenceFrom_71 lkX10_110 (Nat.le_of_ble_eq_true rfl) ?_
        refine r_iadd (μ := mX10_differenceFrom) (pc := 74) dX10_differenceFrom_74 ?_
        refine s_istore_n (μ := mX10_differenceFrom) (pc := 75) (L2 := [_, _, _, _, _, _]) dX10_differenceFrom_75 rfl (Nat.le_of_ble_eq_true rfl) (Nat.le_of_ble_eq_true rfl) (by simp only [List.all_cons, List.all_nil, catL_i, catL_r, hx5, Bool.and_self]) rfl ?_
        refine s_iinc (μ := mX10_differenceFrom) (pc := 76) (c := 1) (L2 := [_, _, _, _, _, _]) dX10_differenceFrom_76 rfl ic_1 (Nat.le_of_ble_eq_true rfl) (by simp only [List.all_cons, List.all_nil, catL_i, catL_r, hx5, Bool.and_self]) rfl ?_
        refine r_goto (μ := mX10_differenceFrom) (pc := 79) (tgt := 10) dX10_differenceFrom_79 (by decide) ?_
        have hd : (if mesS s q m a i < 1000000 then nI (mesS s q m a i / 16) else 999) = nrD s q n m a i := by unfold nrD; rcases hmf with ⟨e1, e2⟩ | ⟨e1, e2, e3, e4⟩; (· rw [if_neg (by omega), if_neg (by omega)]); (· rw [if_pos e1, if_pos ⟨h43, by omega⟩, e3])
        have hdn : ∃ w, w ≤ 99999 ∧ nrD s q n m a i = nI w := by rw [← hd]; split; (· exact ⟨_, by omega, rfl⟩); (· exact ⟨999, by decide, rfl⟩)
        obtain ⟨w, hw9, ew⟩ := hdn
        exact WP.L (by rw [hd, ew, ab_v hvi hw9, show nI (i + 1) = nI i + 1 from nI_succ i, ← ew, show nrSum s q n m (mi pa) a (i + 1) = nrSum s q n m (mi pa) a i + apartS (mi pa i) (nrD s q n m a i) from by simp [nrSum, h28]]) (ih (i + 1) (by omega) _ rfl)
    · have h28 : mi pa i = NONEc := h_28
      refine r_goto (μ := mX10_differenceFrom) (pc := 31) (tgt := 76) dX10_differenceFrom_31 (by decide) ?_
      refine s_iinc (μ := mX10_differenceFrom) (pc := 76) (c := 1) (L2 := [_, _, _, _, _, _]) dX10_differenceFrom_76 rfl ic_1 (Nat.le_of_ble_eq_true rfl) (by simp only [List.all_cons, List.all_nil, catL_i, catL_r, hx5, Bool.and_self]) rfl ?_
      refine r_goto (μ := mX10_differenceFrom) (pc := 79) (tgt := 10) dX10_differenceFrom_79 (by decide) ?_
      exact WP.L (by rw [nI_succ, show nrSum s q n m (mi pa) a (i + 1) = nrSum s q n m (mi pa) a i from by simp [nrSum, h28]]) (ih (i + 1) (by omega) _ hx5)

theorem k_differenceFrom {d : Nat} {sh : List Sh} {mi : MI} {mr : MR} (hF : SHC sh) (hB : CB mr) {b : Nat} (hTb : isT b) (hw : mr 44 0 = some b) {s : Rw} {n m p q : Nat} (hR : RT sh mi mr b s n m p q) (hI : Inv s n m p q) (hS : WS mi b s n m q) {sa pa z : Nat} (hsa : sh[sa]? = some (11, 3)) (hpa : sh[pa]? = some (0, 24)) (hrp : mr sa 2 = some pa) (hz : mi sa 1 = nI z) (hz24 : z ≤ 24) (hne : sa ≠ 47 ∧ pa ≠ 47) (hv : ∀ j, j < z → mi pa j = NONEc ∨ inB (mi pa j) (-99999) 99999 = true) {a : Nat} (ha : a < n) : CP (d + 5) mX10_differenceFrom [.ref 44, .int (nI a), .ref sa] sh mi mr 0 0 (PX sh mr (fun r mi2 => r = (nrSum s q n m (mi pa) a z) ∧ SP 47 mi mi2)) := by
  have hT := TB.of hF hB hTb
  have hb44 : b + 11 < 44 := by unfold isT at hTb; omega
  have hn10 := hI.n10; have hm8 := hI.m8; have hp6 := hI.p6
  refine CP.of (L := [_, _, _, _, _, _]) (by decide) rfl rfl (Nat.le_of_ble_eq_true rfl) ?_
  refine r_aload_n (μ := mX10_differenceFrom) (pc := 0) dX10_differenceFrom_0 rfl rfl rfl ?_
  refine r_iload_n (μ := mX10_differenceFrom) (pc := 1) dX10_differenceFrom_1 rfl rfl ?_
  refine vV1 (μ := mX10_differenceFrom) (pc := 2) (c0 := 10) (q0 := (RX10, TX10, 4)) (μ2 := mX10_measureFrom) dX10_differenceFrom_2 (hF _ _ rfl) rfl lkX10_88 imX10_measureFrom seX10_X10_measureFrom_X10_measureFrom mwX10_measureFrom (Nat.le_of_ble_eq_true rfl) (k_measureFrom hF hB hTb hw hR hI hS ha) (fun mi_2 h_2 => ?_)
  obtain ⟨hX, hD⟩ := h_2
  refine r_iconst (μ := mX10_differenceFrom) (pc := 5) (v := 0) dX10_differenceFrom_5 ic_0 ?_
  refine s_istore_n (μ := mX10_differenceFrom) (pc := 6) (L2 := [_, _, _, _, _, _]) dX10_differenceFrom_6 rfl (Nat.le_of_ble_eq_true rfl) (Nat.le_of_ble_eq_true rfl) rfl rfl ?_
  refine r_iconst (μ := mX10_differenceFrom) (pc := 7) (v := 0) dX10_differenceFrom_7 ic_0 ?_
  refine s_istore (μ := mX10_differenceFrom) (pc := 8) (L2 := [_, _, _, _, _, _]) dX10_differenceFrom_8 (Nat.le_of_ble_eq_true rfl) (Nat.le_of_ble_eq_true rfl) rfl rfl ?_
  exact lp_diff hF hB hTb hw hR hI hS hsa hpa hrp hz hz24 hne hv ha hX hD (PX_i ⟨rfl, hX⟩) z 0 (Nat.zero_add _) _ rfl

theorem rb_bt {s : Rw} {q m a b : Nat} {but : Int32} (hb : b < 10) : bt (rbS s q m but a) b = rbB s q m but a b := by
  unfold rbS
  rw [bt_bits _ 10 (by decide) b (by omega), decide_eq_true hb, Bool.true_and]
theorem mv_bt {mv : Nat → Bool} {m l : Nat} (hm : m ≤ 8) (hl : l < m) : bt (bitsB mv m) l = mv l := by
  rw [bt_bits _ m (by omega) l (by omega), decide_eq_true hl, Bool.true_and]

theorem k_lastMoveArrives {d : Nat} {sh : List Sh} {mi : MI} {mr : MR} (hF : SHC sh) (hB : CB mr) {b : Nat} (hTb : isT b) (hw : mr 44 0 = some b) {s : Rw} {n m q : Nat} (hS : WS mi b s n m q) {l g : Nat} (hl : l < m) (hg : g < n) : CP (d + 3) mX10_lastMoveArrives [.ref 44, .int (nI l), .int (nI g)] sh mi mr 0 0 (PI (b2i (lmB s n m q l g)) sh mi mr) := by
  have hT := TB.of hF hB hTb
  have hb44 : b + 11 < 44 := by unfold isT at hTb; omega
  have hn10 := hS.n10; have hm8 := hS.m8
  have htn := hS.tn hl
  refine CP.of (L := [_, _, _, _]) (by decide) rfl rfl (Nat.le_of_ble_eq_true rfl) ?_
  refine r_aload_n (μ := mX10_lastMoveArrives) (pc := 0) dX10_lastMoveArrives_0 rfl rfl rfl ?_
  refine r_getR (μ := mX10_lastMoveArrives) (pc := 1) dX10_lastMoveArrives_1 fpX10_9 rfl (hF _ _ rfl) (by decide) (hB _ _ _ rfl) ?_
  refine r_iload_n (μ := mX10_lastMoveArrives) (pc := 4) dX10_lastMoveArrives_4 rfl rfl ?_
  refine r_iaload (μ := mX10_lastMoveArrives) (pc := 5) (j := l) dX10_lastMoveArrives_5 (hF _ _ rfl) rfl (by omega) (by decide) ?_
  rw [hS.r hl]
  refine r_iconst (μ := mX10_lastMoveArrives) (pc := 6) (v := 1) dX10_lastMoveArrives_6 ic_1 ?_
  refine r_aload_n (μ := mX10_lastMoveArrives) (pc := 7) dX10_lastMoveArrives_7 rfl rfl rfl ?_
  refine r_getR (μ := mX10_lastMoveArrives) (pc := 8) dX10_lastMoveArrives_8 fpX10_15 rfl (hF _ _ rfl) (by decide) (hB _ _ _ rfl) ?_
  refine r_iload_n (μ := mX10_lastMoveArrives) (pc := 11) dX10_lastMoveArrives_11 rfl rfl ?_
  refine r_iaload (μ := mX10_lastMoveArrives) (pc := 12) (j := l) dX10_lastMoveArrives_12 (hF _ _ rfl) rfl (by omega) (by decide) ?_
  rw [hS.t hl]
  refine r_ishl (μ := mX10_lastMoveArrives) (pc := 13) dX10_lastMoveArrives_13 ?_
  refine r_iconst (μ := mX10_lastMoveArrives) (pc := 14) (v := -1) dX10_lastMoveArrives_14 ic_m1 ?_
  refine r_ixor (μ := mX10_lastMoveArrives) (pc := 15) dX10_lastMoveArrives_15 ?_
  refine r_iand (μ := mX10_lastMoveArrives) (pc := 16) dX10_lastMoveArrives_16 ?_
  rw [bits_nd (by omega) (by omega)]
  refine s_istore_n (μ := mX10_lastMoveArrives) (pc := 17) (L2 := [_, _, _, _]) dX10_lastMoveArrives_17 rfl (Nat.le_of_ble_eq_true rfl) (Nat.le_of_ble_eq_true rfl) rfl rfl ?_
  refine r_iload_n (μ := mX10_lastMoveArrives) (pc := 18) dX10_lastMoveArrives_18 rfl rfl ?_
  refine r_aload_n (μ := mX10_lastMoveArrives) (pc := 19) dX10_lastMoveArrives_19 rfl rfl rfl ?_
  refine r_iload_n (μ := mX10_lastMoveArrives) (pc := 20) dX10_lastMoveArrives_20 rfl rfl ?_
  refine r_iconst (μ := mX10_lastMoveArrives) (pc := 21) (v := 1) dX10_lastMoveArrives_21 ic_1 ?_
  refine r_iload_n (μ := mX10_lastMoveArrives) (pc := 22) dX10_lastMoveArrives_22 rfl rfl ?_
  refine r_ishl (μ := mX10_lastMoveArrives) (pc := 23) dX10_lastMoveArrives_23 ?_
  refine r_iconst (μ := mX10_lastMoveArrives) (pc := 24) (v := -1) dX10_lastMoveArrives_24 ic_m1 ?_
  refine r_ixor (μ := mX10_lastMoveArrives) (pc := 25) dX10_lastMoveArrives_25 ?_
  refine vP2 (μ := mX10_lastMoveArrives) (pc := 26) (c0 := 10) (q0 := (RX10, TX10, 4)) (μ2 := mX10_reachedBy) dX10_lastMoveArrives_26 (hF _ _ rfl) rfl lkX10_45 imX10_reachedBy seX10_X10_reachedBy_X10_reachedBy mwX10_reachedBy (Nat.le_of_ble_eq_true rfl) (k_reachedBy hF hB hTb hw hS hg) ?_
  rw [al_wo hm8 hl]
  refine r_iand (μ := mX10_lastMoveArrives) (pc := 29) dX10_lastMoveArrives_29 ?_
  refine r_if_eq (μ := mX10_lastMoveArrives) (pc := 30) (tgt := 37) dX10_lastMoveArrives_30 (by decide) (fun h_30 => ?_) (fun h_30 => ?_)
  · have h30 := (bits_an hn10).mp h_30
    refine r_iconst (μ := mX10_lastMoveArrives) (pc := 37) (v := 0) dX10_lastMoveArrives_37 ic_0 ?_
    exact r_iret (μ := mX10_lastMoveArrives) (pc := 38) dX10_lastMoveArrives_38 rfl rfl (PI_i (by unfold lmB; first | (rw [h30]; rfl) | (rw [Bool.not_eq_false] at h30; rw [h30]; rfl)))
  · have h30 := mt (bits_an (P := fun k => rchS s q l k && !decide (k = tN s l)) (Q := rbB s q m (nI l) g) hn10).mpr h_30
    refine r_iconst (μ := mX10_lastMoveArrives) (pc := 33) (v := 1) dX10_lastMoveArrives_33 ic_1 ?_
    refine r_goto (μ := mX10_lastMoveArrives) (pc := 34) (tgt := 38) dX10_lastMoveArrives_34 (by decide) ?_
    exact r_iret (μ := mX10_lastMoveArrives) (pc := 38) dX10_lastMoveArrives_38 rfl rfl (PI_i (by unfold lmB; first | (rw [h30]; rfl) | (rw [Bool.not_eq_false] at h30; rw [h30]; rfl)))

theorem k_arr0 {d : Nat} {sh : List Sh} {mi : MI} {mr : MR} (hF : SHC sh) (hB : CB mr) {b : Nat} (hTb : isT b) (hw : mr 44 0 = some b) {s : Rw} {n m q : Nat} (hS : WS mi b s n m q) {a g : Nat} {mv : Int32} (ha : a < n) (hg : g < n) : CP (d + 4) mX10_arrives [.ref 44, .int (nI a), .int (nI g), .int 0, .int mv] sh mi mr 0 0 (PI (b2i (rbB s q m (-1) a g)) sh mi mr) := by
  have hT := TB.of hF hB hTb
  have hb44 : b + 11 < 44 := by unfold isT at hTb; omega
  have hn10 := hS.n10; have hm8 := hS.m8
  refine CP.of (L := [_, _, _, _, _, _, _]) (by decide) rfl rfl (Nat.le_of_ble_eq_true rfl) ?_
  refine r_aload_n (μ := mX10_arrives) (pc := 0) dX10_arrives_0 rfl rfl rfl ?_
  refine r_iload_n (μ := mX10_arrives) (pc := 1) dX10_arrives_1 rfl rfl ?_
  refine vP1 (μ := mX10_arrives) (pc := 2) (c0 := 10) (q0 := (RX10, TX10, 4)) (μ2 := mX10_reachedFrom) dX10_arrives_2 (hF _ _ rfl) rfl lkX10_59 imX10_reachedFrom seX10_X10_reachedFrom_X10_reachedFrom mwX10_reachedFrom (Nat.le_of_ble_eq_true rfl) (k_reachedFrom hF hB hTb hw hS ha) ?_
  refine s_istore (μ := mX10_arrives) (pc := 5) (L2 := [_, _, _, _, _, _, _]) dX10_arrives_5 (Nat.le_of_ble_eq_true rfl) (Nat.le_of_ble_eq_true rfl) rfl rfl ?_
  refine r_iload (μ := mX10_arrives) (pc := 7) dX10_arrives_7 rfl ?_
  refine r_iload_n (μ := mX10_arrives) (pc := 9) dX10_arrives_9 rfl rfl ?_
  refine snP2 (μ := mX10_arrives) (pc := 10) (μ2 := mX11_has) dX10_arrives_10 lkX10_41 stX11_has mwX11_has (Nat.le_of_ble_eq_true rfl) (k_has rfl (by omega)) ?_
  refine r_if_eq (μ := mX10_arrives) (pc := 13) (tgt := 18) dX10_arrives_13 (by decide) (fun h_13 => ?_) (fun h_13 => ?_)
  · have h_13 := b2i_0 h_13
    rw [rb_bt (by omega)] at h_13
    refine r_iload_n (μ := mX10_arrives) (pc := 18) dX10_arrives_18 rfl rfl ?_
    refine r_iconst (μ := mX10_arrives) (pc := 19) (v := 1) dX10_arrives_19 ic_1 ?_
    refine r_icmp_ge (μ := mX10_arrives) (pc := 20) (tgt := 25) dX10_arrives_20 (by decide) (fun h_20 => absurd h_20 (by decide)) (fun h_20 => ?_)
    refine r_iconst (μ := mX10_arrives) (pc := 23) (v := 0) dX10_arrives_23 ic_0 ?_
    exact r_iret (μ := mX10_arrives) (pc := 24) dX10_arrives_24 rfl rfl (PI_i (by rw [h_13]; rfl))
  · have h_13 := b2i_1 h_13
    rw [rb_bt (by omega)] at h_13
    refine r_iconst (μ := mX10_arrives) (pc := 16) (v := 1) dX10_arrives_16 ic_1 ?_
    exact r_iret (μ := mX10_arrives) (pc := 17) dX10_arrives_17 rfl rfl (PI_i (by rw [h_13]; rfl))

theorem lp_arr1 {d : Nat} {sh : List Sh} {mi : MI} {mr : MR} {Q : QT} (hF : SHC sh) (hB : CB mr) {b : Nat} (hTb : isT b) (hw : mr 44 0 = some b) {s : Rw} {n m q : Nat} (hS : WS mi b s n m q) {a g : Nat} {mv : Nat → Bool} (ha : a < n) (hg : g < n) (h1 : anyB (fun l => (mv l && rbB s q m (-1) a (fN s l)) && lmB s n m q l g) m = true → Q (some (.int 1)) sh mi mr) (h0 : anyB (fun l => (mv l && rbB s q m (-1) a (fN s l)) && lmB s n m q l g) m = false → Q (some (.int 0)) sh mi mr) :
    ∀ (k i : Nat), i + k = m → anyB (fun l => (mv l && rbB s q m (-1) a (fN s l)) && lmB s n m q l g) i = false → WP (d + 4) mX10_arrives 28 [.ref 44, .int (nI a), .int (nI g), .int 1, .int (bitsB mv m), .int (rbS s q m (-1) a), .int (nI i)] [] sh mi mr 0 0 Q := by
  have hT := TB.of hF hB hTb
  have hb44 : b + 11 < 44 := by unfold isT at hTb; omega
  have hn10 := hS.n10; have hm8 := hS.m8
  intro k
  induction k with
  | zero =>
    intro i hk hf
    obtain rfl : i = m := by omega
    refine r_iload (μ := mX10_arrives) (pc := 28) dX10_arrives_28 rfl ?_
    refine r_aload_n (μ := mX10_arrives) (pc := 30) dX10_arrives_30 rfl rfl rfl ?_
    refine r_getR (μ := mX10_arrives) (pc := 31) dX10_arrives_31 fpX10_21 rfl (hF _ _ rfl) (by decide) hw ?_
    refine r_getI (μ := mX10_arrives) (pc := 34) dX10_arrives_34 fpX10_25 rfl (hT.1 0 _ rfl) (by decide) ?_
    rw [hS.em]
    refine r_icmp_ge (μ := mX10_arrives) (pc := 37) (tgt := 110) dX10_arrives_37 (by decide) (fun h_37 => ?_) (fun h_37 => absurd (nI_le (Nat.le_refl _) (by omega)) h_37)
    refine r_iconst (μ := mX10_arrives) (pc := 110) (v := 0) dX10_arrives_110 ic_0 ?_
    exact r_iret (μ := mX10_arrives) (pc := 111) dX10_arrives_111 rfl rfl (h0 hf)
  | succ k ih =>
    intro i hk hf
    have hi : i < m := by omega
    have hfn := hS.fn hi
    refine r_iload (μ := mX10_arrives) (pc := 28) dX10_arrives_28 rfl ?_
    refine r_aload_n (μ := mX10_arrives) (pc := 30) dX10_arrives_30 rfl rfl rfl ?_
    refine r_getR (μ := mX10_arrives) (pc := 31) dX10_arrives_31 fpX10_21 rfl (hF _ _ rfl) (by decide) hw ?_
    refine r_getI (μ := mX10_arrives) (pc := 34) dX10_arrives_34 fpX10_25 rfl (hT.1 0 _ rfl) (by decide) ?_
    rw [hS.em]
    refine r_icmp_ge (μ := mX10_arrives) (pc := 37) (tgt := 110) dX10_arrives_37 (by decide) (fun h_37 => absurd h_37 (nI_ge (by omega) (by omega))) (fun h_37 => ?_)
    refine r_iload (μ := mX10_arrives) (pc := 40) dX10_arrives_40 rfl ?_
    refine r_iload (μ := mX10_arrives) (pc := 42) dX10_arrives_42 rfl ?_
    refine snP2 (μ := mX10_arrives) (pc := 44) (μ2 := mX11_has) dX10_arrives_44 lkX10_41 stX11_has mwX11_has (Nat.le_of_ble_eq_true rfl) (k_has rfl (by omega)) ?_
    refine r_if_eq (μ := mX10_arrives) (pc := 47) (tgt := 104) dX10_arrives_47 (by decide) (fun h_47 => ?_) (fun h_47 => ?_)
    · have h_47 := b2i_0 h_47
      rw [mv_bt hm8 hi] at h_47
      refine s_iinc (μ := mX10_arrives) (pc := 104) (c := 1) (L2 := [_, _, _, _, _, _, _]) dX10_arrives_104 rfl ic_1 (Nat.le_of_ble_eq_true rfl) rfl rfl ?_
      refine r_goto (μ := mX10_arrives) (pc := 107) (tgt := 28) dX10_arrives_107 (by decide) ?_
      exact WP.L (by rw [nI_succ]) (ih (i + 1) (by omega) (anyB_f hf (by simp [h_47])))
    · have h_47 := b2i_1 h_47
      rw [mv_bt hm8 hi] at h_47
      refine r_iload (μ := mX10_arrives) (pc := 50) dX10_arrives_50 rfl ?_
      refine r_aload_n (μ := mX10_arrives) (pc := 52) dX10_arrives_52 rfl rfl rfl ?_
      refine r_getR (μ := mX10_arrives) (pc := 53) dX10_arrives_53 fpX10_21 rfl (hF _ _ rfl) (by decide) hw ?_
      refine r_getR (μ := mX10_arrives) (pc := 56) dX10_arrives_56 fpX10_53 rfl (hT.1 0 _ rfl) (by decide) (hT.2.1 _ _ rfl) ?_
      refine r_iload (μ := mX10_arrives) (pc := 59) dX10_arrives_59 rfl ?_
      refine r_iaload (μ := mX10_arrives) (pc := 61) (j := i) dX10_arrives_61 (hT.1 _ _ rfl) rfl (by omega) (by decide) ?_
      rw [hS.f hi]
      refine snP2 (μ := mX10_arrives) (pc := 62) (μ2 := mX11_has) dX10_arrives_62 lkX10_41 stX11_has mwX11_has (Nat.le_of_ble_eq_true rfl) (k_has rfl (by omega)) ?_
      refine r_if_ne (μ := mX10_arrives) (pc := 65) (tgt := 71) dX10_arrives_65 (by decide) (fun h_65 => ?_) (fun h_65 => ?_)
      · have h_65 := b2i_1 h_65
        rw [rb_bt (by omega)] at h_65
        refine r_iload_n (μ := mX10_arrives) (pc := 71) dX10_arrives_71 rfl rfl ?_
        refine r_iconst (μ := mX10_arrives) (pc := 72) (v := 1) dX10_arrives_72 ic_1 ?_
        refine r_icmp_ne (μ := mX10_arrives) (pc := 73) (tgt := 89) dX10_arrives_73 (by decide) (fun h_73 => absurd rfl h_73) (fun h_73 => ?_)
        refine r_aload_n (μ := mX10_arrives) (pc := 76) dX10_arrives_76 rfl rfl rfl ?_
        refine r_iload (μ := mX10_arrives) (pc := 77) dX10_arrives_77 rfl ?_
        refine r_iload_n (μ := mX10_arrives) (pc := 79) dX10_arrives_79 rfl rfl ?_
        refine vP2 (μ := mX10_arrives) (pc := 80) (c0 := 10) (q0 := (RX10, TX10, 4)) (μ2 := mX10_lastMoveArrives) dX10_arrives_80 (hF _ _ rfl) rfl lkX10_119 imX10_lastMoveArrives seX10_X10_lastMoveArrives_X10_lastMoveArrives mwX10_lastMoveArrives (Nat.le_of_ble_eq_true rfl) (k_lastMoveArrives hF hB hTb hw hS hi hg) ?_
        refine r_if_eq (μ := mX10_arrives) (pc := 83) (tgt := 104) dX10_arrives_83 (by decide) (fun h_83 => ?_) (fun h_83 => ?_)
        · have h_83 := b2i_0 h_83
          refine s_iinc (μ := mX10_arrives) (pc := 104) (c := 1) (L2 := [_, _, _, _, _, _, _]) dX10_arrives_104 rfl ic_1 (Nat.le_of_ble_eq_true rfl) rfl rfl ?_
          refine r_goto (μ := mX10_arrives) (pc := 107) (tgt := 28) dX10_arrives_107 (by decide) ?_
          exact WP.L (by rw [nI_succ]) (ih (i + 1) (by omega) (anyB_f hf (by simp [h_83])))
        · have h_83 := b2i_1 h_83
          refine r_goto (μ := mX10_arrives) (pc := 86) (tgt := 102) dX10_arrives_86 (by decide) ?_
          refine r_iconst (μ := mX10_arrives) (pc := 102) (v := 1) dX10_arrives_102 ic_1 ?_
          exact r_iret (μ := mX10_arrives) (pc := 103) dX10_arrives_103 rfl rfl (h1 (anyB_t (j := i) (by simp only [h_47, h_65, h_83, Bool.and_self]) hi))
      · have h_65 := b2i_0 h_65
        rw [rb_bt (by omega)] at h_65
        refine r_goto (μ := mX10_arrives) (pc := 68) (tgt := 104) dX10_arrives_68 (by decide) ?_
        refine s_iinc (μ := mX10_arrives) (pc := 104) (c := 1) (L2 := [_, _, _, _, _, _, _]) dX10_arrives_104 rfl ic_1 (Nat.le_of_ble_eq_true rfl) rfl rfl ?_
        refine r_goto (μ := mX10_arrives) (pc := 107) (tgt := 28) dX10_arrives_107 (by decide) ?_
        exact WP.L (by rw [nI_succ]) (ih (i + 1) (by omega) (anyB_f hf (by simp [h_65])))

theorem k_arr1 {d : Nat} {sh : List Sh} {mi : MI} {mr : MR} (hF : SHC sh) (hB : CB mr) {b : Nat} (hTb : isT b) (hw : mr 44 0 = some b) {s : Rw} {n m q : Nat} (hS : WS mi b s n m q) {a g : Nat} {mv : Nat → Bool} (ha : a < n) (hg : g < n) : CP (d + 4) mX10_arrives [.ref 44, .int (nI a), .int (nI g), .int 1, .int (bitsB mv m)] sh mi mr 0 0 (PI (b2i (rbB s q m (-1) a g || anyB (fun l => (mv l && rbB s q m (-1) a (fN s l)) && lmB s n m q l g) m)) sh mi mr) := by
  have hT := TB.of hF hB hTb
  have hb44 : b + 11 < 44 := by unfold isT at hTb; omega
  have hn10 := hS.n10; have hm8 := hS.m8
  refine CP.of (L := [_, _, _, _, _, _, _]) (by decide) rfl rfl (Nat.le_of_ble_eq_true rfl) ?_
  refine r_aload_n (μ := mX10_arrives) (pc := 0) dX10_arrives_0 rfl rfl rfl ?_
  refine r_iload_n (μ := mX10_arrives) (pc := 1) dX10_arrives_1 rfl rfl ?_
  refine vP1 (μ := mX10_arrives) (pc := 2) (c0 := 10) (q0 := (RX10, TX10, 4)) (μ2 := mX10_reachedFrom) dX10_arrives_2 (hF _ _ rfl) rfl lkX10_59 imX10_reachedFrom seX10_X10_reachedFrom_X10_reachedFrom mwX10_reachedFrom (Nat.le_of_ble_eq_true rfl) (k_reachedFrom hF hB hTb hw hS ha) ?_
  refine s_istore (μ := mX10_arrives) (pc := 5) (L2 := [_, _, _, _, _, _, _]) dX10_arrives_5 (Nat.le_of_ble_eq_true rfl) (Nat.le_of_ble_eq_true rfl) rfl rfl ?_
  refine r_iload (μ := mX10_arrives) (pc := 7) dX10_arrives_7 rfl ?_
  refine r_iload_n (μ := mX10_arrives) (pc := 9) dX10_arrives_9 rfl rfl ?_
  refine snP2 (μ := mX10_arrives) (pc := 10) (μ2 := mX11_has) dX10_arrives_10 lkX10_41 stX11_has mwX11_has (Nat.le_of_ble_eq_true rfl) (k_has rfl (by omega)) ?_
  refine r_if_eq (μ := mX10_arrives) (pc := 13) (tgt := 18) dX10_arrives_13 (by decide) (fun h_13 => ?_) (fun h_13 => ?_)
  · have h_13 := b2i_0 h_13
    rw [rb_bt (by omega)] at h_13
    refine r_iload_n (μ := mX10_arrives) (pc := 18) dX10_arrives_18 rfl rfl ?_
    refine r_iconst (μ := mX10_arrives) (pc := 19) (v := 1) dX10_arrives_19 ic_1 ?_
    refine r_icmp_ge (μ := mX10_arrives) (pc := 20) (tgt := 25) dX10_arrives_20 (by decide) (fun h_20 => ?_) (fun h_20 => absurd (by decide) h_20)
    refine r_iconst (μ := mX10_arrives) (pc := 25) (v := 0) dX10_arrives_25 ic_0 ?_
    refine s_istore (μ := mX10_arrives) (pc := 26) (L2 := [_, _, _, _, _, _, _]) dX10_arrives_26 (Nat.le_of_ble_eq_true rfl) (Nat.le_of_ble_eq_true rfl) rfl rfl ?_
    exact lp_arr1 hF hB hTb hw hS ha hg (fun z => PI_i (by rw [h_13, z]; rfl)) (fun z => PI_i (by rw [h_13, z]; rfl)) m 0 (Nat.zero_add _) rfl
  · have h_13 := b2i_1 h_13
    rw [rb_bt (by omega)] at h_13
    refine r_iconst (μ := mX10_arrives) (pc := 16) (v := 1) dX10_arrives_16 ic_1 ?_
    exact r_iret (μ := mX10_arrives) (pc := 17) dX10_arrives_17 rfl rfl (PI_i (by rw [h_13]; rfl))

theorem lp_mvA {d : Nat} {sh : List Sh} {mi : MI} {mr : MR} {Q : QT} (hF : SHC sh) (hB : CB mr) {b : Nat} (hTb : isT b) (hw : mr 44 0 = some b) {s : Rw} {n m q : Nat} (hS : WS mi b s n m q) {l g : Nat} {mv : Nat → Bool} (hl : l < m) (hg : g < n) (hq : Q (some (.int (b2i (anyB (fun x => (!decide (x = tN s l) && rchS s q l x) && (rbB (lean s l x) q m (-1) (fN s l) g || anyB (fun j => ((mv j && !decide (j = l)) && rbB (lean s l x) q m (-1) (fN s l) (fN s j)) && lmB (lean s l x) n m q j g) m)) n)))) sh mi mr) :
    ∀ (k i : Nat), i + k = n → ∀ mi2, upI mi2 46 l (nI (tN s l)) = mi → WP (d + 5) mX10_moveArrives 14 [.ref 44, .int (nI l), .int (nI g), .int 2, .int (bitsB mv m), .int (nI (tN s l)), .int (b2i (anyB (fun x => (!decide (x = tN s l) && rchS s q l x) && (rbB (lean s l x) q m (-1) (fN s l) g || anyB (fun j => ((mv j && !decide (j = l)) && rbB (lean s l x) q m (-1) (fN s l) (fN s j)) && lmB (lean s l x) n m q j g) m)) i)), .int (nI i)] [] sh mi2 mr 0 0 Q := by
  have hT := TB.of hF hB hTb
  have hb44 : b + 11 < 44 := by unfold isT at hTb; omega
  have hn10 := hS.n10; have hm8 := hS.m8
  have htn := hS.tn hl
  have hfn := hS.fn hl
  intro k
  induction k with
  | zero =>
    intro i hk mi2 hm2
    obtain rfl : i = n := by omega
    have e2 : ∀ x, x ≠ 46 → mi2 x = mi x := fun x hx => by rw [← hm2, upI_ne hx]
    refine r_iload (μ := mX10_moveArrives) (pc := 14) dX10_moveArrives_14 rfl ?_
    refine r_aload_n (μ := mX10_moveArrives) (pc := 16) dX10_moveArrives_16 rfl rfl rfl ?_
    refine r_getR (μ := mX10_moveArrives) (pc := 17) dX10_moveArrives_17 fpX10_21 rfl (hF _ _ rfl) (by decide) hw ?_
    refine r_getI (μ := mX10_moveArrives) (pc := 20) dX10_moveArrives_20 fpX10_56 rfl (hT.1 0 _ rfl) (by decide) ?_
    rw [e2 b (by omega), hS.en]
    refine r_icmp_ge (μ := mX10_moveArrives) (pc := 23) (tgt := 96) dX10_moveArrives_23 (by decide) (fun h_23 => ?_) (fun h_23 => absurd (nI_le (Nat.le_refl _) (by omega)) h_23)
    refine r_aload_n (μ := mX10_moveArrives) (pc := 96) dX10_moveArrives_96 rfl rfl rfl ?_
    refine r_getR (μ := mX10_moveArrives) (pc := 97) dX10_moveArrives_97 fpX10_15 rfl (hF _ _ rfl) (by decide) (hB _ _ _ rfl) ?_
    refine r_iload_n (μ := mX10_moveArrives) (pc := 100) dX10_moveArrives_100 rfl rfl ?_
    refine r_iload (μ := mX10_moveArrives) (pc := 101) dX10_moveArrives_101 rfl ?_
    refine r_iastore (μ := mX10_moveArrives) (pc := 103) (j := l) dX10_moveArrives_103 (hF _ _ rfl) rfl (by omega) (by decide) ?_
    rw [hm2]
    refine r_iload (μ := mX10_moveArrives) (pc := 104) dX10_moveArrives_104 rfl ?_
    exact r_iret (μ := mX10_moveArrives) (pc := 106) dX10_moveArrives_106 rfl (nar_b2i _) hq
  | succ k ih =>
    intro i hk mi2 hm2
    have hi : i < n := by omega
    have e2 : ∀ x, x ≠ 46 → mi2 x = mi x := fun x hx => by rw [← hm2, upI_ne hx]
    by_cases hd : anyB (fun x => (!decide (x = tN s l) && rchS s q l x) && (rbB (lean s l x) q m (-1) (fN s l) g || anyB (fun j => ((mv j && !decide (j = l)) && rbB (lean s l x) q m (-1) (fN s l) (fN s j)) && lmB (lean s l x) n m q j g) m)) i = true
    · have hd2 : anyB (fun x => (!decide (x = tN s l) && rchS s q l x) && (rbB (lean s l x) q m (-1) (fN s l) g || anyB (fun j => ((mv j && !decide (j = l)) && rbB (lean s l x) q m (-1) (fN s l) (fN s j)) && lmB (lean s l x) n m q j g) m)) n = true := by
        have : ∀ k, i ≤ k → anyB (fun x => (!decide (x = tN s l) && rchS s q l x) && (rbB (lean s l x) q m (-1) (fN s l) g || anyB (fun j => ((mv j && !decide (j = l)) && rbB (lean s l x) q m (-1) (fN s l) (fN s j)) && lmB (lean s l x) n m q j g) m)) k = true := by
          intro k
          induction k with
          | zero => intro z; obtain rfl : i = 0 := by omega
                    exact hd
          | succ k ihk =>
            intro z
            rcases Nat.lt_or_ge i (k + 1) with y | y
            · show (anyB _ k || _) = true
              rw [ihk (by omega)]; rfl
            · obtain rfl : i = k + 1 := by omega
              exact hd
        exact this n (by omega)
      refine r_iload (μ := mX10_moveArrives) (pc := 14) dX10_moveArrives_14 rfl ?_
      refine r_aload_n (μ := mX10_moveArrives) (pc := 16) dX10_moveArrives_16 rfl rfl rfl ?_
      refine r_getR (μ := mX10_moveArrives) (pc := 17) dX10_moveArrives_17 fpX10_21 rfl (hF _ _ rfl) (by decide) hw ?_
      refine r_getI (μ := mX10_moveArrives) (pc := 20) dX10_moveArrives_20 fpX10_56 rfl (hT.1 0 _ rfl) (by decide) ?_
      rw [e2 b (by omega), hS.en]
      refine r_icmp_ge (μ := mX10_moveArrives) (pc := 23) (tgt := 96) dX10_moveArrives_23 (by decide) (fun h_23 => absurd h_23 (nI_ge (by omega) (by omega))) (fun h_23 => ?_)
      refine r_iload (μ := mX10_moveArrives) (pc := 26) dX10_moveArrives_26 rfl ?_
      refine r_if_ne (μ := mX10_moveArrives) (pc := 28) (tgt := 96) dX10_moveArrives_28 (by decide) (fun h_28 => ?_) (fun h_28 => absurd h_28 (b2i_ne hd))
      refine r_aload_n (μ := mX10_moveArrives) (pc := 96) dX10_moveArrives_96 rfl rfl rfl ?_
      refine r_getR (μ := mX10_moveArrives) (pc := 97) dX10_moveArrives_97 fpX10_15 rfl (hF _ _ rfl) (by decide) (hB _ _ _ rfl) ?_
      refine r_iload_n (μ := mX10_moveArrives) (pc := 100) dX10_moveArrives_100 rfl rfl ?_
      refine r_iload (μ := mX10_moveArrives) (pc := 101) dX10_moveArrives_101 rfl ?_
      refine r_iastore (μ := mX10_moveArrives) (pc := 103) (j := l) dX10_moveArrives_103 (hF _ _ rfl) rfl (by omega) (by decide) ?_
      rw [hm2]
      refine r_iload (μ := mX10_moveArrives) (pc := 104) dX10_moveArrives_104 rfl ?_
      exact r_iret (μ := mX10_moveArrives) (pc := 106) dX10_moveArrives_106 rfl (nar_b2i _) (by rw [hd]; rw [hd2] at hq; exact hq)
    · have hd : anyB (fun x => (!decide (x = tN s l) && rchS s q l x) && (rbB (lean s l x) q m (-1) (fN s l) g || anyB (fun j => ((mv j && !decide (j = l)) && rbB (lean s l x) q m (-1) (fN s l) (fN s j)) && lmB (lean s l x) n m q j g) m)) i = false := by simpa using hd
      have hSl : WS (upI mi2 46 l (nI i)) b (lean s l i) n m q := by
        have h9 := hS.lean hb44 hl hi
        rw [← hm2, uu] at h9
        exact h9
      refine r_iload (μ := mX10_moveArrives) (pc := 14) dX10_moveArrives_14 rfl ?_
      refine r_aload_n (μ := mX10_moveArrives) (pc := 16) dX10_moveArrives_16 rfl rfl rfl ?_
      refine r_getR (μ := mX10_moveArrives) (pc := 17) dX10_moveArrives_17 fpX10_21 rfl (hF _ _ rfl) (by decide) hw ?_
      refine r_getI (μ := mX10_moveArrives) (pc := 20) dX10_moveArrives_20 fpX10_56 rfl (hT.1 0 _ rfl) (by decide) ?_
      rw [e2 b (by omega), hS.en]
      refine r_icmp_ge (μ := mX10_moveArrives) (pc := 23) (tgt := 96) dX10_moveArrives_23 (by decide) (fun h_23 => absurd h_23 (nI_ge (by omega) (by omega))) (fun h_23 => ?_)
      refine r_iload (μ := mX10_moveArrives) (pc := 26) dX10_moveArrives_26 rfl ?_
      refine r_if_ne (μ := mX10_moveArrives) (pc := 28) (tgt := 96) dX10_moveArrives_28 (by decide) (fun h_28 => absurd (b2i_eq hd) h_28) (fun h_28 => ?_)
      refine r_iload (μ := mX10_moveArrives) (pc := 31) dX10_moveArrives_31 rfl ?_
      refine r_iload (μ := mX10_moveArrives) (pc := 33) dX10_moveArrives_33 rfl ?_
      refine r_icmp_eq (μ := mX10_moveArrives) (pc := 35) (tgt := 90) dX10_moveArrives_35 (by decide) (fun h_35 => ?_) (fun h_35 => ?_)
      · have h35 := (nI_eq (by omega) (by omega)).mp h_35
        refine s_iinc (μ := mX10_moveArrives) (pc := 90) (c := 1) (L2 := [_, _, _, _, _, _, _, _]) dX10_moveArrives_90 rfl ic_1 (Nat.le_of_ble_eq_true rfl) rfl rfl ?_
        refine r_goto (μ := mX10_moveArrives) (pc := 93) (tgt := 14) dX10_moveArrives_93 (by decide) ?_
        exact WP.L (by rw [nI_succ, hd, anyB_f hd (by simp [h35])]) (ih (i + 1) (by omega) mi2 hm2)
      · have h35 := mt (nI_eq (a := i) (b := tN s l) (by omega) (by omega)).mpr h_35
        refine r_aload_n (μ := mX10_moveArrives) (pc := 38) dX10_moveArrives_38 rfl rfl rfl ?_
        refine r_getR (μ := mX10_moveArrives) (pc := 39) dX10_moveArrives_39 fpX10_9 rfl (hF _ _ rfl) (by decide) (hB _ _ _ rfl) ?_
        refine r_iload_n (μ := mX10_moveArrives) (pc := 42) dX10_moveArrives_42 rfl rfl ?_
        refine r_iaload (μ := mX10_moveArrives) (pc := 43) (j := l) dX10_moveArrives_43 (hF _ _ rfl) rfl (by omega) (by decide) ?_
        rw [e2 45 (by decide), hS.r hl]
        refine r_iload (μ := mX10_moveArrives) (pc := 44) dX10_moveArrives_44 rfl ?_
        refine snP2 (μ := mX10_moveArrives) (pc := 46) (μ2 := mX11_has) dX10_moveArrives_46 lkX10_41 stX11_has mwX11_has (Nat.le_of_ble_eq_true rfl) (k_has rfl (by omega)) ?_
        refine r_if_ne (μ := mX10_moveArrives) (pc := 49) (tgt := 55) dX10_moveArrives_49 (by decide) (fun h_49 => ?_) (fun h_49 => ?_)
        · have h_49 := b2i_1 h_49
          rw [bt_bits _ n (by omega) i (by omega), decide_eq_true hi, Bool.true_and] at h_49
          refine r_aload_n (μ := mX10_moveArrives) (pc := 55) dX10_moveArrives_55 rfl rfl rfl ?_
          refine r_getR (μ := mX10_moveArrives) (pc := 56) dX10_moveArrives_56 fpX10_15 rfl (hF _ _ rfl) (by decide) (hB _ _ _ rfl) ?_
          refine r_iload_n (μ := mX10_moveArrives) (pc := 59) dX10_moveArrives_59 rfl rfl ?_
          refine r_iload (μ := mX10_moveArrives) (pc := 60) dX10_moveArrives_60 rfl ?_
          refine r_iastore (μ := mX10_moveArrives) (pc := 62) (j := l) dX10_moveArrives_62 (hF _ _ rfl) rfl (by omega) (by decide) ?_
          refine r_aload_n (μ := mX10_moveArrives) (pc := 63) dX10_moveArrives_63 rfl rfl rfl ?_
          refine r_aload_n (μ := mX10_moveArrives) (pc := 64) dX10_moveArrives_64 rfl rfl rfl ?_
          refine r_getR (μ := mX10_moveArrives) (pc := 65) dX10_moveArrives_65 fpX10_21 rfl (hF _ _ rfl) (by decide) hw ?_
          refine r_getR (μ := mX10_moveArrives) (pc := 68) dX10_moveArrives_68 fpX10_53 rfl (hT.1 0 _ rfl) (by decide) (hT.2.1 _ _ rfl) ?_
          refine r_iload_n (μ := mX10_moveArrives) (pc := 71) dX10_moveArrives_71 rfl rfl ?_
          refine r_iaload (μ := mX10_moveArrives) (pc := 72) (j := l) dX10_moveArrives_72 (hT.1 _ _ rfl) rfl (by omega) (by decide) ?_
          rw [upI_ne (by omega), e2 (b + 5) (by omega), hS.f hl]
          refine r_iload_n (μ := mX10_moveArrives) (pc := 73) dX10_moveArrives_73 rfl rfl ?_
          refine r_iload_n (μ := mX10_moveArrives) (pc := 74) dX10_moveArrives_74 rfl rfl ?_
          refine r_iconst (μ := mX10_moveArrives) (pc := 75) (v := 1) dX10_moveArrives_75 ic_1 ?_
          refine r_isub (μ := mX10_moveArrives) (pc := 76) dX10_moveArrives_76 ?_
          refine r_iload (μ := mX10_moveArrives) (pc := 77) dX10_moveArrives_77 rfl ?_
          refine r_iconst (μ := mX10_moveArrives) (pc := 79) (v := 1) dX10_moveArrives_79 ic_1 ?_
          refine r_iload_n (μ := mX10_moveArrives) (pc := 80) dX10_moveArrives_80 rfl rfl ?_
          refine r_ishl (μ := mX10_moveArrives) (pc := 81) dX10_moveArrives_81 ?_
          refine r_iconst (μ := mX10_moveArrives) (pc := 82) (v := -1) dX10_moveArrives_82 ic_m1 ?_
          refine r_ixor (μ := mX10_moveArrives) (pc := 83) dX10_moveArrives_83 ?_
          refine r_iand (μ := mX10_moveArrives) (pc := 84) dX10_moveArrives_84 ?_
          rw [bits_nd (by omega) (by omega)]
          refine vP4 (μ := mX10_moveArrives) (pc := 85) (c0 := 10) (q0 := (RX10, TX10, 4)) (μ2 := mX10_arrives) dX10_moveArrives_85 (hF _ _ rfl) rfl lkX10_115 imX10_arrives seX10_X10_arrives_X10_arrives mwX10_arrives (Nat.le_of_ble_eq_true rfl) (k_arr1 hF hB hTb hw hSl hfn hg (mv := fun j => mv j && !decide (j = l))) ?_
          refine s_istore (μ := mX10_moveArrives) (pc := 88) (L2 := [_, _, _, _, _, _, _, _]) dX10_moveArrives_88 (Nat.le_of_ble_eq_true rfl) (Nat.le_of_ble_eq_true rfl) rfl rfl ?_
          refine s_iinc (μ := mX10_moveArrives) (pc := 90) (c := 1) (L2 := [_, _, _, _, _, _, _, _]) dX10_moveArrives_90 rfl ic_1 (Nat.le_of_ble_eq_true rfl) rfl rfl ?_
          refine r_goto (μ := mX10_moveArrives) (pc := 93) (tgt := 14) dX10_moveArrives_93 (by decide) ?_
          refine WP.L ?_ (ih (i + 1) (by omega) (upI mi2 46 l (nI i)) (by rw [uu]; exact hm2))
          have e9 : anyB (fun x => (!decide (x = tN s l) && rchS s q l x) && (rbB (lean s l x) q m (-1) (fN s l) g || anyB (fun j => ((mv j && !decide (j = l)) && rbB (lean s l x) q m (-1) (fN s l) (fN s j)) && lmB (lean s l x) n m q j g) m)) (i + 1) = (rbB (lean s l i) q m (-1) (fN s l) g || anyB (fun j => ((mv j && !decide (j = l)) && rbB (lean s l i) q m (-1) (fN s l) (fN s j)) && lmB (lean s l i) n m q j g) m) := by show (anyB _ i || ((!decide (i = tN s l) && rchS s q l i) && (rbB (lean s l i) q m (-1) (fN s l) g || anyB (fun j => ((mv j && !decide (j = l)) && rbB (lean s l i) q m (-1) (fN s l) (fN s j)) && lmB (lean s l i) n m q j g) m))) = _; rw [hd, Bool.false_or, decide_eq_false h35, h_49]; rfl
          rw [e9, nI_succ]
          simp only [lean_f]
        · have h_49 := b2i_0 h_49
          rw [bt_bits _ n (by omega) i (by omega), decide_eq_true hi, Bool.true_and] at h_49
          refine r_goto (μ := mX10_moveArrives) (pc := 52) (tgt := 90) dX10_moveArrives_52 (by decide) ?_
          refine s_iinc (μ := mX10_moveArrives) (pc := 90) (c := 1) (L2 := [_, _, _, _, _, _, _, _]) dX10_moveArrives_90 rfl ic_1 (Nat.le_of_ble_eq_true rfl) rfl rfl ?_
          refine r_goto (μ := mX10_moveArrives) (pc := 93) (tgt := 14) dX10_moveArrives_93 (by decide) ?_
          exact WP.L (by rw [nI_succ, hd, anyB_f hd (by simp [h_49])]) (ih (i + 1) (by omega) mi2 hm2)

theorem k_mvA {d : Nat} {sh : List Sh} {mi : MI} {mr : MR} (hF : SHC sh) (hB : CB mr) {b : Nat} (hTb : isT b) (hw : mr 44 0 = some b) {s : Rw} {n m q : Nat} (hS : WS mi b s n m q) {l g : Nat} {mv : Nat → Bool} (hl : l < m) (hg : g < n) : CP (d + 5) mX10_moveArrives [.ref 44, .int (nI l), .int (nI g), .int 2, .int (bitsB mv m)] sh mi mr 0 0 (PI (b2i (anyB (fun x => (!decide (x = tN s l) && rchS s q l x) && (rbB (lean s l x) q m (-1) (fN s l) g || anyB (fun j => ((mv j && !decide (j = l)) && rbB (lean s l x) q m (-1) (fN s l) (fN s j)) && lmB (lean s l x) n m q j g) m)) n)) sh mi mr) := by
  have hT := TB.of hF hB hTb
  have hb44 : b + 11 < 44 := by unfold isT at hTb; omega
  have hn10 := hS.n10; have hm8 := hS.m8
  refine CP.of (L := [_, _, _, _, _, _, _, _]) (by decide) rfl rfl (Nat.le_of_ble_eq_true rfl) ?_
  refine r_aload_n (μ := mX10_moveArrives) (pc := 0) dX10_moveArrives_0 rfl rfl rfl ?_
  refine r_getR (μ := mX10_moveArrives) (pc := 1) dX10_moveArrives_1 fpX10_15 rfl (hF _ _ rfl) (by decide) (hB _ _ _ rfl) ?_
  refine r_iload_n (μ := mX10_moveArrives) (pc := 4) dX10_moveArrives_4 rfl rfl ?_
  refine r_iaload (μ := mX10_moveArrives) (pc := 5) (j := l) dX10_moveArrives_5 (hF _ _ rfl) rfl (by omega) (by decide) ?_
  rw [hS.t hl]
  refine s_istore (μ := mX10_moveArrives) (pc := 6) (L2 := [_, _, _, _, _, _, _, _]) dX10_moveArrives_6 (Nat.le_of_ble_eq_true rfl) (Nat.le_of_ble_eq_true rfl) rfl rfl ?_
  refine r_iconst (μ := mX10_moveArrives) (pc := 8) (v := 0) dX10_moveArrives_8 ic_0 ?_
  refine s_istore (μ := mX10_moveArrives) (pc := 9) (L2 := [_, _, _, _, _, _, _, _]) dX10_moveArrives_9 (Nat.le_of_ble_eq_true rfl) (Nat.le_of_ble_eq_true rfl) rfl rfl ?_
  refine r_iconst (μ := mX10_moveArrives) (pc := 11) (v := 0) dX10_moveArrives_11 ic_0 ?_
  refine s_istore (μ := mX10_moveArrives) (pc := 12) (L2 := [_, _, _, _, _, _, _, _]) dX10_moveArrives_12 (Nat.le_of_ble_eq_true rfl) (Nat.le_of_ble_eq_true rfl) rfl rfl ?_
  exact lp_mvA hF hB hTb hw hS hl hg (PI_i rfl) n 0 (Nat.zero_add _) mi (us (hS.t hl))

theorem lp_arr2 {d : Nat} {sh : List Sh} {mi : MI} {mr : MR} {Q : QT} (hF : SHC sh) (hB : CB mr) {b : Nat} (hTb : isT b) (hw : mr 44 0 = some b) {s : Rw} {n m q : Nat} (hS : WS mi b s n m q) {a g : Nat} {mv : Nat → Bool} (ha : a < n) (hg : g < n) (h1 : anyB (fun l => (mv l && rbB s q m (-1) a (fN s l)) && anyB (fun x => (!decide (x = tN s l) && rchS s q l x) && (rbB (lean s l x) q m (-1) (fN s l) g || anyB (fun j => ((mv j && !decide (j = l)) && rbB (lean s l x) q m (-1) (fN s l) (fN s j)) && lmB (lean s l x) n m q j g) m)) n) m = true → Q (some (.int 1)) sh mi mr) (h0 : anyB (fun l => (mv l && rbB s q m (-1) a (fN s l)) && anyB (fun x => (!decide (x = tN s l) && rchS s q l x) && (rbB (lean s l x) q m (-1) (fN s l) g || anyB (fun j => ((mv j && !decide (j = l)) && rbB (lean s l x) q m (-1) (fN s l) (fN s j)) && lmB (lean s l x) n m q j g) m)) n) m = false → Q (some (.int 0)) sh mi mr) :
    ∀ (k i : Nat), i + k = m → anyB (fun l => (mv l && rbB s q m (-1) a (fN s l)) && anyB (fun x => (!decide (x = tN s l) && rchS s q l x) && (rbB (lean s l x) q m (-1) (fN s l) g || anyB (fun j => ((mv j && !decide (j = l)) && rbB (lean s l x) q m (-1) (fN s l) (fN s j)) && lmB (lean s l x) n m q j g) m)) n) i = false → WP (d + 6) mX10_arrives 28 [.ref 44, .int (nI a), .int (nI g), .int 2, .int (bitsB mv m), .int (rbS s q m (-1) a), .int (nI i)] [] sh mi mr 0 0 Q := by
  have hT := TB.of hF hB hTb
  have hb44 : b + 11 < 44 := by unfold isT at hTb; omega
  have hn10 := hS.n10; have hm8 := hS.m8
  intro k
  induction k with
  | zero =>
    intro i hk hf
    obtain rfl : i = m := by omega
    refine r_iload (μ := mX10_arrives) (pc := 28) dX10_arrives_28 rfl ?_
    refine r_aload_n (μ := mX10_arrives) (pc := 30) dX10_arrives_30 rfl rfl rfl ?_
    refine r_getR (μ := mX10_arrives) (pc := 31) dX10_arrives_31 fpX10_21 rfl (hF _ _ rfl) (by decide) hw ?_
    refine r_getI (μ := mX10_arrives) (pc := 34) dX10_arrives_34 fpX10_25 rfl (hT.1 0 _ rfl) (by decide) ?_
    rw [hS.em]
    refine r_icmp_ge (μ := mX10_arrives) (pc := 37) (tgt := 110) dX10_arrives_37 (by decide) (fun h_37 => ?_) (fun h_37 => absurd (nI_le (Nat.le_refl _) (by omega)) h_37)
    refine r_iconst (μ := mX10_arrives) (pc := 110) (v := 0) dX10_arrives_110 ic_0 ?_
    exact r_iret (μ := mX10_arrives) (pc := 111) dX10_arrives_111 rfl rfl (h0 hf)
  | succ k ih =>
    intro i hk hf
    have hi : i < m := by omega
    have hfn := hS.fn hi
    refine r_iload (μ := mX10_arrives) (pc := 28) dX10_arrives_28 rfl ?_
    refine r_aload_n (μ := mX10_arrives) (pc := 30) dX10_arrives_30 rfl rfl rfl ?_
    refine r_getR (μ := mX10_arrives) (pc := 31) dX10_arrives_31 fpX10_21 rfl (hF _ _ rfl) (by decide) hw ?_
    refine r_getI (μ := mX10_arrives) (pc := 34) dX10_arrives_34 fpX10_25 rfl (hT.1 0 _ rfl) (by decide) ?_
    rw [hS.em]
    refine r_icmp_ge (μ := mX10_arrives) (pc := 37) (tgt := 110) dX10_arrives_37 (by decide) (fun h_37 => absurd h_37 (nI_ge (by omega) (by omega))) (fun h_37 => ?_)
    refine r_iload (μ := mX10_arrives) (pc := 40) dX10_arrives_40 rfl ?_
    refine r_iload (μ := mX10_arrives) (pc := 42) dX10_arrives_42 rfl ?_
    refine snP2 (μ := mX10_arrives) (pc := 44) (μ2 := mX11_has) dX10_arrives_44 lkX10_41 stX11_has mwX11_has (Nat.le_of_ble_eq_true rfl) (k_has rfl (by omega)) ?_
    refine r_if_eq (μ := mX10_arrives) (pc := 47) (tgt := 104) dX10_arrives_47 (by decide) (fun h_47 => ?_) (fun h_47 => ?_)
    · have h_47 := b2i_0 h_47
      rw [mv_bt hm8 hi] at h_47
      refine s_iinc (μ := mX10_arrives) (pc := 104) (c := 1) (L2 := [_, _, _, _, _, _, _]) dX10_arrives_104 rfl ic_1 (Nat.le_of_ble_eq_true rfl) rfl rfl ?_
      refine r_goto (μ := mX10_arrives) (pc := 107) (tgt := 28) dX10_arrives_107 (by decide) ?_
      exact WP.L (by rw [nI_succ]) (ih (i + 1) (by omega) (anyB_f hf (by simp [h_47])))
    · have h_47 := b2i_1 h_47
      rw [mv_bt hm8 hi] at h_47
      refine r_iload (μ := mX10_arrives) (pc := 50) dX10_arrives_50 rfl ?_
      refine r_aload_n (μ := mX10_arrives) (pc := 52) dX10_arrives_52 rfl rfl rfl ?_
      refine r_getR (μ := mX10_arrives) (pc := 53) dX10_arrives_53 fpX10_21 rfl (hF _ _ rfl) (by decide) hw ?_
      refine r_getR (μ := mX10_arrives) (pc := 56) dX10_arrives_56 fpX10_53 rfl (hT.1 0 _ rfl) (by decide) (hT.2.1 _ _ rfl) ?_
      refine r_iload (μ := mX10_arrives) (pc := 59) dX10_arrives_59 rfl ?_
      refine r_iaload (μ := mX10_arrives) (pc := 61) (j := i) dX10_arrives_61 (hT.1 _ _ rfl) rfl (by omega) (by decide) ?_
      rw [hS.f hi]
      refine snP2 (μ := mX10_arrives) (pc := 62) (μ2 := mX11_has) dX10_arrives_62 lkX10_41 stX11_has mwX11_has (Nat.le_of_ble_eq_true rfl) (k_has rfl (by omega)) ?_
      refine r_if_ne (μ := mX10_arrives) (pc := 65) (tgt := 71) dX10_arrives_65 (by decide) (fun h_65 => ?_) (fun h_65 => ?_)
      · have h_65 := b2i_1 h_65
        rw [rb_bt (by omega)] at h_65
        refine r_iload_n (μ := mX10_arrives) (pc := 71) dX10_arrives_71 rfl rfl ?_
        refine r_iconst (μ := mX10_arrives) (pc := 72) (v := 1) dX10_arrives_72 ic_1 ?_
        refine r_icmp_ne (μ := mX10_arrives) (pc := 73) (tgt := 89) dX10_arrives_73 (by decide) (fun h_73 => ?_) (fun h_73 => absurd h_73 (by decide))
        refine r_aload_n (μ := mX10_arrives) (pc := 89) dX10_arrives_89 rfl rfl rfl ?_
        refine r_iload (μ := mX10_arrives) (pc := 90) dX10_arrives_90 rfl ?_
        refine r_iload_n (μ := mX10_arrives) (pc := 92) dX10_arrives_92 rfl rfl ?_
        refine r_iload_n (μ := mX10_arrives) (pc := 93) dX10_arrives_93 rfl rfl ?_
        refine r_iload (μ := mX10_arrives) (pc := 94) dX10_arrives_94 rfl ?_
        refine vP4 (μ := mX10_arrives) (pc := 96) (c0 := 10) (q0 := (RX10, TX10, 4)) (μ2 := mX10_moveArrives) dX10_arrives_96 (hF _ _ rfl) rfl lkX10_122 imX10_moveArrives seX10_X10_moveArrives_X10_moveArrives mwX10_moveArrives (Nat.le_of_ble_eq_true rfl) (k_mvA hF hB hTb hw hS hi hg (mv := mv)) ?_
        refine r_if_eq (μ := mX10_arrives) (pc := 99) (tgt := 104) dX10_arrives_99 (by decide) (fun h_99 => ?_) (fun h_99 => ?_)
        · have h_99 := b2i_0 h_99
          refine s_iinc (μ := mX10_arrives) (pc := 104) (c := 1) (L2 := [_, _, _, _, _, _, _]) dX10_arrives_104 rfl ic_1 (Nat.le_of_ble_eq_true rfl) rfl rfl ?_
          refine r_goto (μ := mX10_arrives) (pc := 107) (tgt := 28) dX10_arrives_107 (by decide) ?_
          exact WP.L (by rw [nI_succ]) (ih (i + 1) (by omega) (anyB_f hf (by simp only [h_99, Bool.and_false])))
        · have h_99 := b2i_1 h_99
          refine r_iconst (μ := mX10_arrives) (pc := 102) (v := 1) dX10_arrives_102 ic_1 ?_
          exact r_iret (μ := mX10_arrives) (pc := 103) dX10_arrives_103 rfl rfl (h1 (anyB_t (j := i) (by simp only [h_47, h_65, h_99, Bool.and_self]) hi))
      · have h_65 := b2i_0 h_65
        rw [rb_bt (by omega)] at h_65
        refine r_goto (μ := mX10_arrives) (pc := 68) (tgt := 104) dX10_arrives_68 (by decide) ?_
        refine s_iinc (μ := mX10_arrives) (pc := 104) (c := 1) (L2 := [_, _, _, _, _, _, _]) dX10_arrives_104 rfl ic_1 (Nat.le_of_ble_eq_true rfl) rfl rfl ?_
        refine r_goto (μ := mX10_arrives) (pc := 107) (tgt := 28) dX10_arrives_107 (by decide) ?_
        exact WP.L (by rw [nI_succ]) (ih (i + 1) (by omega) (anyB_f hf (by simp [h_65])))

theorem k_arr2 {d : Nat} {sh : List Sh} {mi : MI} {mr : MR} (hF : SHC sh) (hB : CB mr) {b : Nat} (hTb : isT b) (hw : mr 44 0 = some b) {s : Rw} {n m q : Nat} (hS : WS mi b s n m q) {a g : Nat} {mv : Nat → Bool} (ha : a < n) (hg : g < n) : CP (d + 6) mX10_arrives [.ref 44, .int (nI a), .int (nI g), .int 2, .int (bitsB mv m)] sh mi mr 0 0 (PI (b2i (rbB s q m (-1) a g || anyB (fun l => (mv l && rbB s q m (-1) a (fN s l)) && anyB (fun x => (!decide (x = tN s l) && rchS s q l x) && (rbB (lean s l x) q m (-1) (fN s l) g || anyB (fun j => ((mv j && !decide (j = l)) && rbB (lean s l x) q m (-1) (fN s l) (fN s j)) && lmB (lean s l x) n m q j g) m)) n) m)) sh mi mr) := by
  have hT := TB.of hF hB hTb
  have hb44 : b + 11 < 44 := by unfold isT at hTb; omega
  have hn10 := hS.n10; have hm8 := hS.m8
  refine CP.of (L := [_, _, _, _, _, _, _]) (by decide) rfl rfl (Nat.le_of_ble_eq_true rfl) ?_
  refine r_aload_n (μ := mX10_arrives) (pc := 0) dX10_arrives_0 rfl rfl rfl ?_
  refine r_iload_n (μ := mX10_arrives) (pc := 1) dX10_arrives_1 rfl rfl ?_
  refine vP1 (μ := mX10_arrives) (pc := 2) (c0 := 10) (q0 := (RX10, TX10, 4)) (μ2 := mX10_reachedFrom) dX10_arrives_2 (hF _ _ rfl) rfl lkX10_59 imX10_reachedFrom seX10_X10_reachedFrom_X10_reachedFrom mwX10_reachedFrom (Nat.le_of_ble_eq_true rfl) (k_reachedFrom hF hB hTb hw hS ha) ?_
  refine s_istore (μ := mX10_arrives) (pc := 5) (L2 := [_, _, _, _, _, _, _]) dX10_arrives_5 (Nat.le_of_ble_eq_true rfl) (Nat.le_of_ble_eq_true rfl) rfl rfl ?_
  refine r_iload (μ := mX10_arrives) (pc := 7) dX10_arrives_7 rfl ?_
  refine r_iload_n (μ := mX10_arrives) (pc := 9) dX10_arrives_9 rfl rfl ?_
  refine snP2 (μ := mX10_arrives) (pc := 10) (μ2 := mX11_has) dX10_arrives_10 lkX10_41 stX11_has mwX11_has (Nat.le_of_ble_eq_true rfl) (k_has rfl (by omega)) ?_
  refine r_if_eq (μ := mX10_arrives) (pc := 13) (tgt := 18) dX10_arrives_13 (by decide) (fun h_13 => ?_) (fun h_13 => ?_)
  · have h_13 := b2i_0 h_13
    rw [rb_bt (by omega)] at h_13
    refine r_iload_n (μ := mX10_arrives) (pc := 18) dX10_arrives_18 rfl rfl ?_
    refine r_iconst (μ := mX10_arrives) (pc := 19) (v := 1) dX10_arrives_19 ic_1 ?_
    refine r_icmp_ge (μ := mX10_arrives) (pc := 20) (tgt := 25) dX10_arrives_20 (by decide) (fun h_20 => ?_) (fun h_20 => absurd (by decide) h_20)
    refine r_iconst (μ := mX10_arrives) (pc := 25) (v := 0) dX10_arrives_25 ic_0 ?_
    refine s_istore (μ := mX10_arrives) (pc := 26) (L2 := [_, _, _, _, _, _, _]) dX10_arrives_26 (Nat.le_of_ble_eq_true rfl) (Nat.le_of_ble_eq_true rfl) rfl rfl ?_
    exact lp_arr2 hF hB hTb hw hS ha hg (fun z => PI_i (by rw [h_13, z]; rfl)) (fun z => PI_i (by rw [h_13, z]; rfl)) m 0 (Nat.zero_add _) rfl
  · have h_13 := b2i_1 h_13
    rw [rb_bt (by omega)] at h_13
    refine r_iconst (μ := mX10_arrives) (pc := 16) (v := 1) dX10_arrives_16 ic_1 ?_
    exact r_iret (μ := mX10_arrives) (pc := 17) dX10_arrives_17 rfl rfl (PI_i (by rw [h_13]; rfl))

theorem k_fewestMoves {d : Nat} {sh : List Sh} {mi : MI} {mr : MR} (hF : SHC sh) (hB : CB mr) {b : Nat} (hTb : isT b) (hw : mr 44 0 = some b) {s : Rw} {n m q : Nat} (hS : WS mi b s n m q) {a g : Nat} {mv : Nat → Bool} (ha : a < n) (hg : g < n) : CP (d + 7) mX10_fewestMoves [.ref 44, .int (nI a), .int (nI g), .int (bitsB mv m)] sh mi mr 0 0 (PI (fewK s n m q mv a g) sh mi mr) := by
  have hT := TB.of hF hB hTb
  have hb44 : b + 11 < 44 := by unfold isT at hTb; omega
  have hn10 := hS.n10; have hm8 := hS.m8
  refine CP.of (L := [_, _, _, _, _]) (by decide) rfl rfl (Nat.le_of_ble_eq_true rfl) ?_
  refine r_iconst (μ := mX10_fewestMoves) (pc := 0) (v := 0) dX10_fewestMoves_0 ic_0 ?_
  refine s_istore (μ := mX10_fewestMoves) (pc := 1) (L2 := [_, _, _, _, _]) dX10_fewestMoves_1 (Nat.le_of_ble_eq_true rfl) (Nat.le_of_ble_eq_true rfl) rfl rfl ?_
  refine r_iload (μ := mX10_fewestMoves) (pc := 3) dX10_fewestMoves_3 rfl ?_
  refine r_iconst (μ := mX10_fewestMoves) (pc := 5) (v := 2) dX10_fewestMoves_5 ic_2 ?_
  refine r_icmp_gt (μ := mX10_fewestMoves) (pc := 6) (tgt := 30) dX10_fewestMoves_6 (by decide) (fun h_6 => absurd h_6 (by decide)) (fun h_6 => ?_)
  refine r_aload_n (μ := mX10_fewestMoves) (pc := 9) dX10_fewestMoves_9 rfl rfl rfl ?_
  refine r_iload_n (μ := mX10_fewestMoves) (pc := 10) dX10_fewestMoves_10 rfl rfl ?_
  refine r_iload_n (μ := mX10_fewestMoves) (pc := 11) dX10_fewestMoves_11 rfl rfl ?_
  refine r_iload (μ := mX10_fewestMoves) (pc := 12) dX10_fewestMoves_12 rfl ?_
  refine r_iload_n (μ := mX10_fewestMoves) (pc := 14) dX10_fewestMoves_14 rfl rfl ?_
  refine vP4 (μ := mX10_fewestMoves) (pc := 15) (c0 := 10) (q0 := (RX10, TX10, 4)) (μ2 := mX10_arrives) dX10_fewestMoves_15 (hF _ _ rfl) rfl lkX10_115 imX10_arrives seX10_X10_arrives_X10_arrives mwX10_arrives (Nat.le_of_ble_eq_true rfl) (k_arr0 hF hB hTb hw hS ha hg) ?_
  refine r_if_eq (μ := mX10_fewestMoves) (pc := 18) (tgt := 24) dX10_fewestMoves_18 (by decide) (fun h_18 => ?_) (fun h_18 => ?_)
  · have h_18 := b2i_0 h_18
    have a0 : arB s n m q 0 mv a g = false := h_18
    refine s_iinc (μ := mX10_fewestMoves) (pc := 24) (c := 1) (L2 := [_, _, _, _, _]) dX10_fewestMoves_24 rfl ic_1 (Nat.le_of_ble_eq_true rfl) rfl rfl ?_
    refine r_goto (μ := mX10_fewestMoves) (pc := 27) (tgt := 3) dX10_fewestMoves_27 (by decide) ?_
    refine r_iload (μ := mX10_fewestMoves) (pc := 3) dX10_fewestMoves_3 rfl ?_
    refine r_iconst (μ := mX10_fewestMoves) (pc := 5) (v := 2) dX10_fewestMoves_5 ic_2 ?_
    refine r_icmp_gt (μ := mX10_fewestMoves) (pc := 6) (tgt := 30) dX10_fewestMoves_6 (by decide) (fun h_6 => absurd h_6 (by decide)) (fun h_6 => ?_)
    refine r_aload_n (μ := mX10_fewestMoves) (pc := 9) dX10_fewestMoves_9 rfl rfl rfl ?_
    refine r_iload_n (μ := mX10_fewestMoves) (pc := 10) dX10_fewestMoves_10 rfl rfl ?_
    refine r_iload_n (μ := mX10_fewestMoves) (pc := 11) dX10_fewestMoves_11 rfl rfl ?_
    refine r_iload (μ := mX10_fewestMoves) (pc := 12) dX10_fewestMoves_12 rfl ?_
    refine r_iload_n (μ := mX10_fewestMoves) (pc := 14) dX10_fewestMoves_14 rfl rfl ?_
    refine vP4 (μ := mX10_fewestMoves) (pc := 15) (c0 := 10) (q0 := (RX10, TX10, 4)) (μ2 := mX10_arrives) dX10_fewestMoves_15 (hF _ _ rfl) rfl lkX10_115 imX10_arrives seX10_X10_arrives_X10_arrives mwX10_arrives (Nat.le_of_ble_eq_true rfl) (k_arr1 hF hB hTb hw hS ha hg (mv := mv)) ?_
    refine r_if_eq (μ := mX10_fewestMoves) (pc := 18) (tgt := 24) dX10_fewestMoves_18 (by decide) (fun h_18 => ?_) (fun h_18 => ?_)
    · have h_18 := b2i_0 h_18
      have a1 : arB s n m q 1 mv a g = false := h_18
      refine s_iinc (μ := mX10_fewestMoves) (pc := 24) (c := 1) (L2 := [_, _, _, _, _]) dX10_fewestMoves_24 rfl ic_1 (Nat.le_of_ble_eq_true rfl) rfl rfl ?_
      refine r_goto (μ := mX10_fewestMoves) (pc := 27) (tgt := 3) dX10_fewestMoves_27 (by decide) ?_
      refine r_iload (μ := mX10_fewestMoves) (pc := 3) dX10_fewestMoves_3 rfl ?_
      refine r_iconst (μ := mX10_fewestMoves) (pc := 5) (v := 2) dX10_fewestMoves_5 ic_2 ?_
      refine r_icmp_gt (μ := mX10_fewestMoves) (pc := 6) (tgt := 30) dX10_fewestMoves_6 (by decide) (fun h_6 => absurd h_6 (by decide)) (fun h_6 => ?_)
      refine r_aload_n (μ := mX10_fewestMoves) (pc := 9) dX10_fewestMoves_9 rfl rfl rfl ?_
      refine r_iload_n (μ := mX10_fewestMoves) (pc := 10) dX10_fewestMoves_10 rfl rfl ?_
      refine r_iload_n (μ := mX10_fewestMoves) (pc := 11) dX10_fewestMoves_11 rfl rfl ?_
      refine r_iload (μ := mX10_fewestMoves) (pc := 12) dX10_fewestMoves_12 rfl ?_
      refine r_iload_n (μ := mX10_fewestMoves) (pc := 14) dX10_fewestMoves_14 rfl rfl ?_
      refine vP4 (μ := mX10_fewestMoves) (pc := 15) (c0 := 10) (q0 := (RX10, TX10, 4)) (μ2 := mX10_arrives) dX10_fewestMoves_15 (hF _ _ rfl) rfl lkX10_115 imX10_arrives seX10_X10_arrives_X10_arrives mwX10_arrives (Nat.le_of_ble_eq_true rfl) (k_arr2 hF hB hTb hw hS ha hg (mv := mv)) ?_
      refine r_if_eq (μ := mX10_fewestMoves) (pc := 18) (tgt := 24) dX10_fewestMoves_18 (by decide) (fun h_18 => ?_) (fun h_18 => ?_)
      · have h_18 := b2i_0 h_18
        have a2 : arB s n m q 2 mv a g = false := h_18
        refine s_iinc (μ := mX10_fewestMoves) (pc := 24) (c := 1) (L2 := [_, _, _, _, _]) dX10_fewestMoves_24 rfl ic_1 (Nat.le_of_ble_eq_true rfl) rfl rfl ?_
        refine r_goto (μ := mX10_fewestMoves) (pc := 27) (tgt := 3) dX10_fewestMoves_27 (by decide) ?_
        refine r_iload (μ := mX10_fewestMoves) (pc := 3) dX10_fewestMoves_3 rfl ?_
        refine r_iconst (μ := mX10_fewestMoves) (pc := 5) (v := 2) dX10_fewestMoves_5 ic_2 ?_
        refine r_icmp_gt (μ := mX10_fewestMoves) (pc := 6) (tgt := 30) dX10_fewestMoves_6 (by decide) (fun h_6 => ?_) (fun h_6 => absurd (by decide) h_6)
        refine r_ldc (μ := mX10_fewestMoves) (pc := 30) dX10_fewestMoves_30 ctX10_109 ?_
        exact r_iret (μ := mX10_fewestMoves) (pc := 32) dX10_fewestMoves_32 rfl rfl (PI_i (by unfold fewK; simp [a0, a1, a2]; rfl))
      · have h_18 := b2i_1 h_18
        have a2 : arB s n m q 2 mv a g = true := h_18
        refine r_iload (μ := mX10_fewestMoves) (pc := 21) dX10_fewestMoves_21 rfl ?_
        exact r_iret (μ := mX10_fewestMoves) (pc := 23) dX10_fewestMoves_23 rfl rfl (PI_i (by unfold fewK; simp [a0, a1, a2]))
    · have h_18 := b2i_1 h_18
      have a1 : arB s n m q 1 mv a g = true := h_18
      refine r_iload (μ := mX10_fewestMoves) (pc := 21) dX10_fewestMoves_21 rfl ?_
      exact r_iret (μ := mX10_fewestMoves) (pc := 23) dX10_fewestMoves_23 rfl rfl (PI_i (by unfold fewK; simp [a0, a1]))
  · have h_18 := b2i_1 h_18
    have a0 : arB s n m q 0 mv a g = true := h_18
    refine r_iload (μ := mX10_fewestMoves) (pc := 21) dX10_fewestMoves_21 rfl ?_
    exact r_iret (μ := mX10_fewestMoves) (pc := 23) dX10_fewestMoves_23 rfl rfl (PI_i (by unfold fewK; simp [a0]))

