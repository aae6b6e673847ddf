theorem lp_mtJ {d : Nat} {mi : MI} {mr : MR} {Q : QT} (hM : MB mr) {s : Rw} (hs : mi 1 = s) {n m p q : Nat} (hI : Inv s n m p q) {i : Nat} (hi : i < n) {b1 b2 : Int32} (k103 : ∀ mi3, SF mi mi3 → WP (d + 6) mX12_meeting 103 [.ref 0, .int b1, .int b2, .int (nI i), .int (nI (mtSum s q m p i)), .int (b2i (mtAll s q m p i)), .int (nI p)] [] shM mi3 mr 0 0 Q) {mi2 : MI} (hS : SF mi mi2) (hD : ∀ j, j < 10 → mi2 12 j = nI (farS s q m i j)) :
    ∀ (k j : Nat), j + k = p → WP (d + 6) mX12_meeting 39 [.ref 0, .int b1, .int b2, .int (nI i), .int (nI (mtSum s q m j i)), .int (b2i (mtAll s q m j i)), .int (nI j)] [] shM mi2 mr 0 0 Q := by
  have hp6 := hI.p6
  have hn10 := hI.n10
  intro k
  induction k with
  | zero =>
    intro j hk
    obtain rfl : j = p := by omega
    refine r_iload (μ := mX12_meeting) (pc := 39) dX12_meeting_39 rfl ?_
    refine r_aload_n (μ := mX12_meeting) (pc := 41) dX12_meeting_41 rfl rfl rfl ?_
    refine r_getR (μ := mX12_meeting) (pc := 42) dX12_meeting_42 fpX12_7 rfl rfl (by decide) (hM _ _ rfl) ?_
    refine r_iconst (μ := mX12_meeting) (pc := 45) (v := 2) dX12_meeting_45 ic_2 ?_
    refine r_iaload (μ := mX12_meeting) (pc := 46) (j := 2) dX12_meeting_46 rfl rfl (by decide) (by decide) ?_
    rw [hS.r1, hs, hI.ep]
    refine r_icmp_ge (μ := mX12_meeting) (pc := 47) (tgt := 103) dX12_meeting_47 (by decide) (fun h_47 => ?_) (fun h_47 => absurd (nI_le (Nat.le_refl _) (by omega)) h_47)
    exact k103 mi2 hS
  | succ k ih =>
    intro j hk
    have hj : j < p := by omega
    have hjn := hI.sn hj
    have hle := farS_le s q m i (sN s j)
    refine r_iload (μ := mX12_meeting) (pc := 39) dX12_meeting_39 rfl ?_
    refine r_aload_n (μ := mX12_meeting) (pc := 41) dX12_meeting_41 rfl rfl rfl ?_
    refine r_getR (μ := mX12_meeting) (pc := 42) dX12_meeting_42 fpX12_7 rfl rfl (by decide) (hM _ _ rfl) ?_
    refine r_iconst (μ := mX12_meeting) (pc := 45) (v := 2) dX12_meeting_45 ic_2 ?_
    refine r_iaload (μ := mX12_meeting) (pc := 46) (j := 2) dX12_meeting_46 rfl rfl (by decide) (by decide) ?_
    rw [hS.r1, hs, hI.ep]
    refine r_icmp_ge (μ := mX12_meeting) (pc := 47) (tgt := 103) dX12_meeting_47 (by decide) (fun h_47 => absurd h_47 (nI_ge (by omega) (by omega))) (fun h_47 => ?_)
    refine r_iload (μ := mX12_meeting) (pc := 50) dX12_meeting_50 rfl ?_
    refine r_aload_n (μ := mX12_meeting) (pc := 52) dX12_meeting_52 rfl rfl rfl ?_
    refine r_getR (μ := mX12_meeting) (pc := 53) dX12_meeting_53 fpX12_43 rfl rfl (by decide) (hM _ _ rfl) ?_
    refine r_aload_n (μ := mX12_meeting) (pc := 56) dX12_meeting_56 rfl rfl rfl ?_
    refine r_iload (μ := mX12_meeting) (pc := 57) dX12_meeting_57 rfl ?_
    refine vP1 (μ := mX12_meeting) (pc := 59) (c0 := 12) (q0 := (RX12, TX12, 34)) (μ2 := mX12_where) dX12_meeting_59 rfl rfl lkX12_70 imX12_where seX12_X12_where_X12_where mwX12_where (Nat.le_of_ble_eq_true rfl) (e_where hM (hS.r1.trans hs) (by omega)) ?_
    rw [show spt s j = nI (sN s j) from hI.sp hj]
    refine r_iaload (μ := mX12_meeting) (pc := 62) (j := (sN s j)) dX12_meeting_62 rfl rfl (by omega) (by decide) ?_
    rw [hD _ (by omega)]
    refine r_bipush (μ := mX12_meeting) (pc := 63) (v := 100) dX12_meeting_63 bp_100 ?_
    refine r_idiv (μ := mX12_meeting) (pc := 65) dX12_meeting_65 (by decide) ?_
    rw [d100 hle]
    refine r_iadd (μ := mX12_meeting) (pc := 66) dX12_meeting_66 ?_
    rw [nI_add]
    refine s_istore (μ := mX12_meeting) (pc := 67) (L2 := [_, _, _, _, _, _, _]) dX12_meeting_67 (Nat.le_of_ble_eq_true rfl) (Nat.le_of_ble_eq_true rfl) rfl rfl ?_
    refine r_iload (μ := mX12_meeting) (pc := 69) dX12_meeting_69 rfl ?_
    refine r_if_eq (μ := mX12_meeting) (pc := 71) (tgt := 94) dX12_meeting_71 (by decide) (fun h_71 => ?_) (fun h_71 => ?_)
    · have hz : mtAll s q m (j + 1) i = false := by show (mtAll s q m j i && _) = false; rw [b2i_0 h_71]; rfl
      refine r_iconst (μ := mX12_meeting) (pc := 94) (v := 0) dX12_meeting_94 ic_0 ?_
      refine s_istore (μ := mX12_meeting) (pc := 95) (L2 := [_, _, _, _, _, _, _]) dX12_meeting_95 (Nat.le_of_ble_eq_true rfl) (Nat.le_of_ble_eq_true rfl) rfl rfl ?_
      refine s_iinc (μ := mX12_meeting) (pc := 97) (c := 1) (L2 := [_, _, _, _, _, _, _]) dX12_meeting_97 rfl ic_1 (Nat.le_of_ble_eq_true rfl) rfl rfl ?_
      refine r_goto (μ := mX12_meeting) (pc := 100) (tgt := 39) dX12_meeting_100 (by decide) ?_
      exact WP.L (by rw [nI_succ]; first | (rw [show (0 : Int32) = b2i (mtAll s q m (j + 1) i) from by rw [hz]; rfl]; rfl) | (rw [show (1 : Int32) = b2i (mtAll s q m (j + 1) i) from by rw [hz]; rfl]; rfl)) (ih (j + 1) (by omega))
    · refine r_aload_n (μ := mX12_meeting) (pc := 74) dX12_meeting_74 rfl rfl rfl ?_
      refine r_getR (μ := mX12_meeting) (pc := 75) dX12_meeting_75 fpX12_43 rfl rfl (by decide) (hM _ _ rfl) ?_
      refine r_aload_n (μ := mX12_meeting) (pc := 78) dX12_meeting_78 rfl rfl rfl ?_
      refine r_iload (μ := mX12_meeting) (pc := 79) dX12_meeting_79 rfl ?_
      refine vP1 (μ := mX12_meeting) (pc := 81) (c0 := 12) (q0 := (RX12, TX12, 34)) (μ2 := mX12_where) dX12_meeting_81 rfl rfl lkX12_70 imX12_where seX12_X12_where_X12_where mwX12_where (Nat.le_of_ble_eq_true rfl) (e_where hM (hS.r1.trans hs) (by omega)) ?_
      rw [show spt s j = nI (sN s j) from hI.sp hj]
      refine r_iaload (μ := mX12_meeting) (pc := 84) (j := (sN s j)) dX12_meeting_84 rfl rfl (by omega) (by decide) ?_
      rw [hD _ (by omega)]
      refine r_ldc (μ := mX12_meeting) (pc := 85) dX12_meeting_85 ctX12_176 ?_
      refine r_icmp_ge (μ := mX12_meeting) (pc := 87) (tgt := 94) dX12_meeting_87 (by decide) (fun h_87 => ?_) (fun h_87 => ?_)
      · have hz : mtAll s q m (j + 1) i = false := by show (mtAll s q m j i && decide (farS s q m i (sN s j) < 1000000)) = false; rw [decide_eq_false (fun z => absurd ((nI_leI (a := 1000000) (by omega) (by omega)).mp h_87) (by omega)), Bool.and_false]
        refine r_iconst (μ := mX12_meeting) (pc := 94) (v := 0) dX12_meeting_94 ic_0 ?_
        refine s_istore (μ := mX12_meeting) (pc := 95) (L2 := [_, _, _, _, _, _, _]) dX12_meeting_95 (Nat.le_of_ble_eq_true rfl) (Nat.le_of_ble_eq_true rfl) rfl rfl ?_
        refine s_iinc (μ := mX12_meeting) (pc := 97) (c := 1) (L2 := [_, _, _, _, _, _, _]) dX12_meeting_97 rfl ic_1 (Nat.le_of_ble_eq_true rfl) rfl rfl ?_
        refine r_goto (μ := mX12_meeting) (pc := 100) (tgt := 39) dX12_meeting_100 (by decide) ?_
        exact WP.L (by rw [nI_succ]; first | (rw [show (0 : Int32) = b2i (mtAll s q m (j + 1) i) from by rw [hz]; rfl]; rfl) | (rw [show (1 : Int32) = b2i (mtAll s q m (j + 1) i) from by rw [hz]; rfl]; rfl)) (ih (j + 1) (by omega))
      · have hz : mtAll s q m (j + 1) i = true := by show (mtAll s q m j i && decide (farS s q m i (sN s j) < 1000000)) = true; rw [b2i_1 h_71, decide_eq_true (by have := mt (nI_leI (a := 1000000) (by omega) (by omega)).mpr h_87; omega), Bool.and_self]
        refine r_iconst (μ := mX12_meeting) (pc := 90) (v := 1) dX12_meeting_90 ic_1 ?_
        refine r_goto (μ := mX12_meeting) (pc := 91) (tgt := 95) dX12_meeting_91 (by decide) ?_
        refine s_istore (μ := mX12_meeting) (pc := 95) (L2 := [_, _, _, _, _, _, _]) dX12_meeting_95 (Nat.le_of_ble_eq_true rfl) (Nat.le_of_ble_eq_true rfl) rfl rfl ?_
        refine s_iinc (μ := mX12_meeting) (pc := 97) (c := 1) (L2 := [_, _, _, _, _, _, _]) dX12_meeting_97 rfl ic_1 (Nat.le_of_ble_eq_true rfl) rfl rfl ?_
        refine r_goto (μ := mX12_meeting) (pc := 100) (tgt := 39) dX12_meeting_100 (by decide) ?_
        exact WP.L (by rw [nI_succ]; first | (rw [show (0 : Int32) = b2i (mtAll s q m (j + 1) i) from by rw [hz]; rfl]; rfl) | (rw [show (1 : Int32) = b2i (mtAll s q m (j + 1) i) from by rw [hz]; rfl]; rfl)) (ih (j + 1) (by omega))

theorem lp_mtI {d : Nat} {mi : MI} {mr : MR} {Q : QT} (hM : MB mr) {s : Rw} (hs : mi 1 = s) {n m p q : Nat} (hI : Inv s n m p q) (hp : 0 < p) (hq : ∀ mi2, SF mi mi2 → Q (some (.int (meetS s q n m p))) shM mi2 mr) :
    ∀ (k i : Nat), i + k = n → ∀ mi2, SF mi mi2 → ∀ x4 x5 x6 : Value, catL x4 = true → catL x5 = true → catL x6 = true →  WP (d + 6) mX12_meeting 6 [.ref 0, .int (mtR s q m p i).1, .int (nI (mtR s q m p i).2), .int (nI i), x4, x5, x6] [] shM mi2 mr 0 0 Q := by
  have hp6 := hI.p6
  have hn10 := hI.n10
  intro k
  induction k with
  | zero =>
    intro i hk mi2 hS x4 x5 x6 hx4 hx5 hx6
    obtain rfl : i = n := by omega
    have hz : meetS s q i m p = (if (mtR s q m p i).1 < 0 then -1000000005 else (mtR s q m p i).1) := by unfold meetS; rw [if_neg (show ¬ p = 0 by omega)]
    refine r_iload_n (μ := mX12_meeting) (pc := 6) dX12_meeting_6 rfl rfl ?_
    refine r_aload_n (μ := mX12_meeting) (pc := 7) dX12_meeting_7 rfl rfl rfl ?_
    refine r_getR (μ := mX12_meeting) (pc := 8) dX12_meeting_8 fpX12_7 rfl rfl (by decide) (hM _ _ rfl) ?_
    refine r_iconst (μ := mX12_meeting) (pc := 11) (v := 0) dX12_meeting_11 ic_0 ?_
    refine r_iaload (μ := mX12_meeting) (pc := 12) (j := 0) dX12_meeting_12 rfl rfl (by decide) (by decide) ?_
    rw [hS.r1, hs, hI.en]
    refine r_icmp_ge (μ := mX12_meeting) (pc := 13) (tgt := 129) dX12_meeting_13 (by decide) (fun h_13 => ?_) (fun h_13 => absurd (nI_le (Nat.le_refl _) (by omega)) h_13)
    refine r_iload_n (μ := mX12_meeting) (pc := 129) dX12_meeting_129 rfl rfl ?_
    refine sP1 (μ := mX12_meeting) (pc := 130) (μ2 := mX12_orNone) dX12_meeting_130 lkX12_189 stX12_orNone mwX12_orNone (Nat.le_of_ble_eq_true rfl) c_orNone ?_
    exact r_iret (μ := mX12_meeting) (pc := 133) dX12_meeting_133 rfl rfl (hz ▸ hq _ hS)
  | succ k ih =>
    intro i hk mi2 hS x4 x5 x6 hx4 hx5 hx6
    have hi : i < n := by omega
    have hs1 := mtSum_le s q m i p
    have hs2 := mtR_le s q m p i
    refine r_iload_n (μ := mX12_meeting) (pc := 6) dX12_meeting_6 rfl rfl ?_
    refine r_aload_n (μ := mX12_meeting) (pc := 7) dX12_meeting_7 rfl rfl rfl ?_
    refine r_getR (μ := mX12_meeting) (pc := 8) dX12_meeting_8 fpX12_7 rfl rfl (by decide) (hM _ _ rfl) ?_
    refine r_iconst (μ := mX12_meeting) (pc := 11) (v := 0) dX12_meeting_11 ic_0 ?_
    refine r_iaload (μ := mX12_meeting) (pc := 12) (j := 0) dX12_meeting_12 rfl rfl (by decide) (by decide) ?_
    rw [hS.r1, hs, hI.en]
    refine r_icmp_ge (μ := mX12_meeting) (pc := 13) (tgt := 129) dX12_meeting_13 (by decide) (fun h_13 => absurd h_13 (nI_ge (by omega) (by omega))) (fun h_13 => ?_)
    refine r_aload_n (μ := mX12_meeting) (pc := 16) dX12_meeting_16 rfl rfl rfl ?_
    refine r_getR (μ := mX12_meeting) (pc := 17) dX12_meeting_17 fpX12_7 rfl rfl (by decide) (hM _ _ rfl) ?_
    refine r_iconst (μ := mX12_meeting) (pc := 20) (v := 2) dX12_meeting_20 ic_2 ?_
    refine r_iaload (μ := mX12_meeting) (pc := 21) (j := 2) dX12_meeting_21 rfl rfl (by decide) (by decide) ?_
    rw [hS.r1, hs, hI.ep]
    refine r_if_le (μ := mX12_meeting) (pc := 22) (tgt := 129) dX12_meeting_22 (by decide) (fun h_22 => absurd h_22 (nI_geC (a := 0) (b := p) rfl (by omega) (by omega))) (fun h_22 => ?_)
    refine r_aload_n (μ := mX12_meeting) (pc := 25) dX12_meeting_25 rfl rfl rfl ?_
    refine r_iload_n (μ := mX12_meeting) (pc := 26) dX12_meeting_26 rfl rfl ?_
    refine vV1 (μ := mX12_meeting) (pc := 27) (c0 := 12) (q0 := (RX12, TX12, 34)) (μ2 := mX12_findFar) dX12_meeting_27 rfl rfl lkX12_179 imX12_findFar seX12_X12_findFar_X12_findFar mwX12_findFar (Nat.le_of_ble_eq_true rfl) (c_findFar hM (hS.r1.trans hs) hI hi) (fun mi_27 h_27 => ?_)
    obtain ⟨hF, hD⟩ := h_27
    refine r_iconst (μ := mX12_meeting) (pc := 30) (v := 0) dX12_meeting_30 ic_0 ?_
    refine s_istore (μ := mX12_meeting) (pc := 31) (L2 := [_, _, _, _, _, _, _]) dX12_meeting_31 (Nat.le_of_ble_eq_true rfl) (Nat.le_of_ble_eq_true rfl) (by simp only [List.all_cons, List.all_nil, catL_i, catL_r, hx4, hx5, hx6, Bool.and_self]) rfl ?_
    refine r_iconst (μ := mX12_meeting) (pc := 33) (v := 1) dX12_meeting_33 ic_1 ?_
    refine s_istore (μ := mX12_meeting) (pc := 34) (L2 := [_, _, _, _, _, _, _]) dX12_meeting_34 (Nat.le_of_ble_eq_true rfl) (Nat.le_of_ble_eq_true rfl) (by simp only [List.all_cons, List.all_nil, catL_i, catL_r, hx4, hx5, hx6, Bool.and_self]) rfl ?_
    refine r_iconst (μ := mX12_meeting) (pc := 36) (v := 0) dX12_meeting_36 ic_0 ?_
    refine s_istore (μ := mX12_meeting) (pc := 37) (L2 := [_, _, _, _, _, _, _]) dX12_meeting_37 (Nat.le_of_ble_eq_true rfl) (Nat.le_of_ble_eq_true rfl) (by simp only [List.all_cons, List.all_nil, catL_i, catL_r, hx4, hx5, hx6, Bool.and_self]) rfl ?_
    refine lp_mtJ (mi := mi) hM hs hI hi (fun mi3 hS3 => ?_) (hS.tr hF) hD p 0 (Nat.zero_add _)
    refine r_iload (μ := mX12_meeting) (pc := 103) dX12_meeting_103 rfl ?_
    refine r_if_eq (μ := mX12_meeting) (pc := 105) (tgt := 123) dX12_meeting_105 (by decide) (fun h_105 => ?_) (fun h_105 => ?_)
    · have hz : mtR s q m p (i + 1) = mtR s q m p i := if_neg (fun z => by rw [b2i_0 h_105] at z; exact absurd z.1 (by decide))
      refine s_iinc (μ := mX12_meeting) (pc := 123) (c := 1) (L2 := [_, _, _, _, _, _, _]) dX12_meeting_123 rfl ic_1 (Nat.le_of_ble_eq_true rfl) rfl rfl ?_
      refine r_goto (μ := mX12_meeting) (pc := 126) (tgt := 6) dX12_meeting_126 (by decide) ?_
      exact WP.L (by rw [nI_succ, hz]) (ih (i + 1) (by omega) mi3 hS3 _ _ _ rfl rfl rfl)
    · refine r_iload_n (μ := mX12_meeting) (pc := 108) dX12_meeting_108 rfl rfl ?_
      refine r_if_lt (μ := mX12_meeting) (pc := 109) (tgt := 118) dX12_meeting_109 (by decide) (fun h_109 => ?_) (fun h_109 => ?_)
      · have hz : mtR s q m p (i + 1) = (nI i, mtSum s q m p i) := if_pos ⟨b2i_1 h_105, Or.inl h_109⟩
        refine r_iload_n (μ := mX12_meeting) (pc := 118) dX12_meeting_118 rfl rfl ?_
        refine s_istore_n (μ := mX12_meeting) (pc := 119) (L2 := [_, _, _, _, _, _, _]) dX12_meeting_119 rfl (Nat.le_of_ble_eq_true rfl) (Nat.le_of_ble_eq_true rfl) rfl rfl ?_
        refine r_iload (μ := mX12_meeting) (pc := 120) dX12_meeting_120 rfl ?_
        refine s_istore_n (μ := mX12_meeting) (pc := 122) (L2 := [_, _, _, _, _, _, _]) dX12_meeting_122 rfl (Nat.le_of_ble_eq_true rfl) (Nat.le_of_ble_eq_true rfl) rfl rfl ?_
        refine s_iinc (μ := mX12_meeting) (pc := 123) (c := 1) (L2 := [_, _, _, _, _, _, _]) dX12_meeting_123 rfl ic_1 (Nat.le_of_ble_eq_true rfl) rfl rfl ?_
        refine r_goto (μ := mX12_meeting) (pc := 126) (tgt := 6) dX12_meeting_126 (by decide) ?_
        exact WP.L (by rw [nI_succ, hz]) (ih (i + 1) (by omega) mi3 hS3 _ _ _ rfl rfl rfl)
      · refine r_iload (μ := mX12_meeting) (pc := 112) dX12_meeting_112 rfl ?_
        refine r_iload_n (μ := mX12_meeting) (pc := 114) dX12_meeting_114 rfl rfl ?_
        refine r_icmp_ge (μ := mX12_meeting) (pc := 115) (tgt := 123) dX12_meeting_115 (by decide) (fun h_115 => ?_) (fun h_115 => ?_)
        · have hz : mtR s q m p (i + 1) = mtR s q m p i := if_neg (fun z => z.2.elim h_109 (fun y => absurd ((nI_leI (by omega) (by omega)).mp h_115) (by omega)))
          refine s_iinc (μ := mX12_meeting) (pc := 123) (c := 1) (L2 := [_, _, _, _, _, _, _]) dX12_meeting_123 rfl ic_1 (Nat.le_of_ble_eq_true rfl) rfl rfl ?_
          refine r_goto (μ := mX12_meeting) (pc := 126) (tgt := 6) dX12_meeting_126 (by decide) ?_
          exact WP.L (by rw [nI_succ, hz]) (ih (i + 1) (by omega) mi3 hS3 _ _ _ rfl rfl rfl)
        · have hz : mtR s q m p (i + 1) = (nI i, mtSum s q m p i) := if_pos ⟨b2i_1 h_105, Or.inr (by have := mt (nI_leI (by omega) (by omega)).mpr h_115; omega)⟩
          refine r_iload_n (μ := mX12_meeting) (pc := 118) dX12_meeting_118 rfl rfl ?_
          refine s_istore_n (μ := mX12_meeting) (pc := 119) (L2 := [_, _, _, _, _, _, _]) dX12_meeting_119 rfl (Nat.le_of_ble_eq_true rfl) (Nat.le_of_ble_eq_true rfl) rfl rfl ?_
          refine r_iload (μ := mX12_meeting) (pc := 120) dX12_meeting_120 rfl ?_
          refine s_istore_n (μ := mX12_meeting) (pc := 122) (L2 := [_, _, _, _, _, _, _]) dX12_meeting_122 rfl (Nat.le_of_ble_eq_true rfl) (Nat.le_of_ble_eq_true rfl) rfl rfl ?_
          refine s_iinc (μ := mX12_meeting) (pc := 123) (c := 1) (L2 := [_, _, _, _, _, _, _]) dX12_meeting_123 rfl ic_1 (Nat.le_of_ble_eq_true rfl) rfl rfl ?_
          refine r_goto (μ := mX12_meeting) (pc := 126) (tgt := 6) dX12_meeting_126 (by decide) ?_
          exact WP.L (by rw [nI_succ, hz]) (ih (i + 1) (by omega) mi3 hS3 _ _ _ rfl rfl rfl)

theorem c_meeting {d : Nat} {mi : MI} {mr : MR} (hM : MB mr) {s : Rw} (hs : mi 1 = s) {n m p q : Nat} (hI : Inv s n m p q) : CP (d + 6) mX12_meeting [.ref 0] shM mi mr 0 0 (PX shM mr (fun r mi2 => r = meetS s q n m p ∧ SF mi mi2)) := by
  have hn10 := hI.n10; have hm8 := hI.m8; have hp6 := hI.p6; have hq14 := hI.q14
  refine CP.of (L := [_, _, _, _, _, _, _]) (by decide) rfl rfl (Nat.le_of_ble_eq_true rfl) ?_
  refine r_iconst (μ := mX12_meeting) (pc := 0) (v := -1) dX12_meeting_0 ic_m1 ?_
  refine s_istore_n (μ := mX12_meeting) (pc := 1) (L2 := [_, _, _, _, _, _, _]) dX12_meeting_1 rfl (Nat.le_of_ble_eq_true rfl) (Nat.le_of_ble_eq_true rfl) rfl rfl ?_
  refine r_iconst (μ := mX12_meeting) (pc := 2) (v := 0) dX12_meeting_2 ic_0 ?_
  refine s_istore_n (μ := mX12_meeting) (pc := 3) (L2 := [_, _, _, _, _, _, _]) dX12_meeting_3 rfl (Nat.le_of_ble_eq_true rfl) (Nat.le_of_ble_eq_true rfl) rfl rfl ?_
  refine r_iconst (μ := mX12_meeting) (pc := 4) (v := 0) dX12_meeting_4 ic_0 ?_
  refine s_istore_n (μ := mX12_meeting) (pc := 5) (L2 := [_, _, _, _, _, _, _]) dX12_meeting_5 rfl (Nat.le_of_ble_eq_true rfl) (Nat.le_of_ble_eq_true rfl) rfl rfl ?_
  by_cases hp : 0 < p
  · exact lp_mtI hM hs hI hp (fun mi2 h => PX_i ⟨rfl, h⟩) n 0 (Nat.zero_add _) mi (SF.rf mi) _ _ _ rfl rfl rfl
  · have hp0 : p = 0 := by omega
    have hz : meetS s q n m p = -1000000005 := by unfold meetS; rw [if_pos hp0]; rfl
    refine r_iload_n (μ := mX12_meeting) (pc := 6) dX12_meeting_6 rfl rfl ?_
    refine r_aload_n (μ := mX12_meeting) (pc := 7) dX12_meeting_7 rfl rfl rfl ?_
    refine r_getR (μ := mX12_meeting) (pc := 8) dX12_meeting_8 fpX12_7 rfl rfl (by decide) (hM _ _ rfl) ?_
    refine r_iconst (μ := mX12_meeting) (pc := 11) (v := 0) dX12_meeting_11 ic_0 ?_
    refine r_iaload (μ := mX12_meeting) (pc := 12) (j := 0) dX12_meeting_12 rfl rfl (by decide) (by decide) ?_
    rw [hs, hI.en]
    refine r_icmp_ge (μ := mX12_meeting) (pc := 13) (tgt := 129) dX12_meeting_13 (by decide) (fun h_13 => ?_) (fun h_13 => ?_)
    · refine r_iload_n (μ := mX12_meeting) (pc := 129) dX12_meeting_129 rfl rfl ?_
      refine sP1 (μ := mX12_meeting) (pc := 130) (μ2 := mX12_orNone) dX12_meeting_130 lkX12_189 stX12_orNone mwX12_orNone (Nat.le_of_ble_eq_true rfl) c_orNone ?_
      exact r_iret (μ := mX12_meeting) (pc := 133) dX12_meeting_133 rfl rfl (PX_i ⟨by rw [hz]; rfl, SF.rf mi⟩)
    · refine r_aload_n (μ := mX12_meeting) (pc := 16) dX12_meeting_16 rfl rfl rfl ?_
      refine r_getR (μ := mX12_meeting) (pc := 17) dX12_meeting_17 fpX12_7 rfl rfl (by decide) (hM _ _ rfl) ?_
      refine r_iconst (μ := mX12_meeting) (pc := 20) (v := 2) dX12_meeting_20 ic_2 ?_
      refine r_iaload (μ := mX12_meeting) (pc := 21) (j := 2) dX12_meeting_21 rfl rfl (by decide) (by decide) ?_
      rw [hs, hI.ep]
      refine r_if_le (μ := mX12_meeting) (pc := 22) (tgt := 129) dX12_meeting_22 (by decide) (fun h_22 => ?_) (fun h_22 => absurd (by rw [hp0]; decide) h_22)
      refine r_iload_n (μ := mX12_meeting) (pc := 129) dX12_meeting_129 rfl rfl ?_
      refine sP1 (μ := mX12_meeting) (pc := 130) (μ2 := mX12_orNone) dX12_meeting_130 lkX12_189 stX12_orNone mwX12_orNone (Nat.le_of_ble_eq_true rfl) c_orNone ?_
      exact r_iret (μ := mX12_meeting) (pc := 133) dX12_meeting_133 rfl rfl (PX_i ⟨by rw [hz]; rfl, SF.rf mi⟩)

